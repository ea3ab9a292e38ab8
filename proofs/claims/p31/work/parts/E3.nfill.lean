/-- the reference's state and the class's: alike but for the fillers' row -/
def q37 (w u : mS) : Prop := w.1 = u.1 ∧ ∀ k, k ≠ 37 → w.2 k = u.2 k
theorem q37_rf (u : mS) : q37 u u := ⟨rfl, fun _ _ => rfl⟩
theorem q37_ca {w u : mS} (h : q37 w u) (p c l : Int32) : mCellAt w p c l = mCellAt u p c l := by
  unfold mCellAt mCell
  rw [h.2 0 (by decide), h.2 2 (by decide)]
theorem q37_ff {w u : mS} (h : q37 w u) (n : Int32) (j : Nat) : ffC w n j ↔ ffC u n j := by
  unfold ffC
  rw [h.2 4 (by decide), h.2 22 (by decide), h.2 5 (by decide), h.2 6 (by decide)]
theorem q_mst {w u : mS} (h : q37 w u) {k : Nat} (hk : k ≠ 37) (i : Int32) {x y : Int32} (e : x = y) : q37 (mst w k i x) (mst u k i y) := by
  refine ⟨h.1, fun j hj => ?_⟩
  by_cases q : j = k
  · subst q
    funext t
    rw [mst_at, mst_at, h.2 j hj, e]
  · rw [mst_other q, mst_other q]; exact h.2 j hj
theorem q_mput {w u : mS} (h : q37 w u) {f g : Nat → Int32} (e : f = g) : q37 (mput w 2 f) (mput u 2 g) := by
  refine ⟨h.1, fun j hj => ?_⟩
  by_cases q : j = 2
  · subst q
    rw [mput_at, mput_at, e]
  · rw [mput_other q, mput_other q]; exact h.2 j hj
theorem mStand_q {w u : mS} (h : q37 w u) (i : Int32) (P X Y D N : Nat) : q37 (mStand w i P X Y D N) (mStand u i P X Y D N) := by
  unfold mStand
  dsimp only
  rw [h.2 22 (by decide)]
  have h5 := q_mst (q_mst (q_mst (q_mst (q_mst h (k := 23) (by decide) (6 * i + u.2 22 i.toNatClampNeg) (x := nI P) rfl) (k := 24) (by decide) (6 * i + u.2 22 i.toNatClampNeg) (x := nI X) rfl) (k := 25) (by decide) (6 * i + u.2 22 i.toNatClampNeg) (x := nI Y) rfl) (k := 26) (by decide) (6 * i + u.2 22 i.toNatClampNeg) (x := nI D) rfl) (k := 27) (by decide) (6 * i + u.2 22 i.toNatClampNeg) (x := nI N) rfl
  have h6 := q_mst h5 (k := 22) (by decide) i (congrArg (fun z : Nat → Int32 => z i.toNatClampNeg + 1) (h5.2 22 (by decide)))
  exact q_mput h6 (by rw [h6.2 2 (by decide)])
theorem fStep_q {w u : mS} (h : q37 w u) (n : Nat) (x : fX) : q37 (fStep w n x) (mStand u (nI x.1) x.2.1 x.2.2.1 x.2.2.2.1 1 x.2.2.2.2) := by
  have q := mStand_q h (nI x.1) x.2.1 x.2.2.1 x.2.2.2.1 1 x.2.2.2.2
  unfold fStep
  generalize mStand w (nI x.1) x.2.1 x.2.2.1 x.2.2.2.1 1 x.2.2.2.2 = a at q ⊢
  refine ⟨(mst_1 _ _ _ _).trans q.1, fun k hk => ?_⟩
  rw [mst_other hk]
  exact q.2 k hk
/-- where the reference stands in column c, at line i -/
def fcI (u0 : mS) (x0 : List fX) (P c i : Nat) (w : mS) (xs : List fX) : Prop := ∃ uc, q37 w uc ∧ (fcN u0 x0 P c i = (uc, xs, 0) ∨ (¬ mCellAt uc (nI P) (nI c) (nI i) = (-2) ∧ fcN u0 x0 P c (i + 1) = (uc, xs, 0)))
theorem fcI_n {u0 : mS} {x0 : List fX} {P c i : Nat} {w : mS} {xs : List fX} (h : fcI u0 x0 P c i w xs) (hc : ¬ mCellAt w (nI P) (nI c) (nI i) = (-2)) (h80 : (w.1 3).toNatClampNeg ≤ 80) : fcI u0 x0 P c (i + 1) w xs := by
  obtain ⟨uc, q, h⟩ := h
  rcases h with h | h
  · exact ⟨uc, q, Or.inl (fc_0 h (by rw [← q37_ca q]; exact hc) (Or.inl rfl) (by rw [← q.1]; exact h80))⟩
  · exact ⟨uc, q, Or.inl h.2⟩
theorem fc_run {u0 u : mS} {x0 xs : List fX} {P c i : Nat} (h : fcN u0 x0 P c i = (u, xs, 0)) : ∀ n, (∀ t, i ≤ t → t < i + n → mCellAt u (nI P) (nI c) (nI t) = (-2)) → fcN u0 x0 P c (i + n) = (u, xs, n)
  | 0, _ => h
  | n + 1, hc => fc_e (fc_run h n (fun t h1 h2 => hc t h1 (by omega))) (hc (i + n) (by omega) (by omega))
/-- a row of empty cells that no filler takes -/
theorem fcI_0 {u0 : mS} {x0 : List fX} {P c i e : Nat} {w : mS} {xs : List fX} (h : fcI u0 x0 P c i w xs) (hie : i < e) (hrun : ∀ t, i ≤ t → t < e → mCellAt w (nI P) (nI c) (nI t) = (-2)) (hend : ¬ mCellAt w (nI P) (nI c) (nI e) = (-2)) (h80 : (w.1 3).toNatClampNeg ≤ 80) (hno : ∀ j, j < (w.1 3).toNatClampNeg → ¬ ffC w (nI (e - i)) j) : fcI u0 x0 P c e w xs := by
  obtain ⟨uc, q, h⟩ := h
  rcases h with h | h
  · have hr := fc_run h (e - i) (fun t h1 h2 => by rw [← q37_ca q]; exact hrun t h1 (by omega))
    rw [show i + (e - i) = e by omega] at hr
    have hend2 : ¬ mCellAt uc (nI P) (nI c) (nI e) = (-2) := by rw [← q37_ca q]; exact hend
    refine ⟨uc, q, Or.inr ⟨hend2, fc_0 hr hend2 (Or.inr (fun j hj => ?_)) (by rw [← q.1]; exact h80)⟩⟩
    rw [← q37_ff q]
    exact hno j (by rw [q.1]; exact hj)
  · exact absurd (by rw [← q37_ca q]; exact hrun i (Nat.le_refl _) hie) h.1
theorem ca_out {u : mS} {i : Int32} {P c Y N e : Nat} (hP : P < 12) (hc : c < 8) (he : e = Y + N) (he6 : e < 200) (hl : bw (u.2 0 (8 * P + c)) 0 60 = true) : mCellAt (mStand u i P c Y 1 N) (nI P) (nI c) (nI e) = mCellAt u (nI P) (nI c) (nI e) := by
  have e0 : (mStand u i P c Y 1 N).2 0 = u.2 0 := mStand_k2 _ _ _ _ _ _ _ (by decide) (by decide)
  have em : mCell (mStand u i P c Y 1 N) (nI P) (nI c) (nI e) = mCell u (nI P) (nI c) (nI e) := by unfold mCell; rw [e0]
  unfold mCellAt
  rw [em]
  by_cases h : mCell u (nI P) (nI c) (nI e) = true
  · rw [if_pos h, if_pos h, mStand_2]
    have h2 := (mC_iff hP (by omega) he6 (fun _ => hl)).mp h
    obtain ⟨l1, l2, l3⟩ := nI_of_bw hl
    have h60 : (60 : Int32).toInt = 60 := rfl
    rw [idxN hP hc (by omega), nI_clamp (by omega)]
    exact setR_out (fun a b ha hb => by omega)
  · rw [if_neg h, if_neg h]
/-- a row of empty cells that gets its filler -/
theorem fcI_1 {u0 : mS} {x0 : List fX} {P c i e q9 n : Nat} {w : mS} {xs : List fX} (h : fcI u0 x0 P c i w xs) (hP : P < 12) (hc8 : c < 8) (he6 : e ≤ 60) (hl : bw (w.2 0 (8 * P + c)) 0 60 = true) (hie : i < e) (hrun : ∀ t, i ≤ t → t < e → mCellAt w (nI P) (nI c) (nI t) = (-2)) (hend : ¬ mCellAt w (nI P) (nI c) (nI e) = (-2)) (h80 : (w.1 3).toNatClampNeg ≤ 80) (hq : q9 < (w.1 3).toNatClampNeg) (hf : ffC w (nI (e - i)) q9) (hno : ∀ j, j < q9 → ¬ ffC w (nI (e - i)) j) : fcI u0 x0 P c e (fStep w n (q9, P, c, i, e - i)) ((q9, P, c, i, e - i) :: xs) := by
  obtain ⟨uc, q, h⟩ := h
  rcases h with h | h
  · have hr := fc_run h (e - i) (fun t h1 h2 => by rw [← q37_ca q]; exact hrun t h1 (by omega))
    rw [show i + (e - i) = e by omega] at hr
    have hend2 : ¬ mCellAt uc (nI P) (nI c) (nI e) = (-2) := by rw [← q37_ca q]; exact hend
    have h1 := fc_1 hr hend2 (by omega) (by rw [← q.1]; exact hq) ((q37_ff q _ _).mp hf) (fun j hj => fun z => hno j hj ((q37_ff q _ _).mpr z)) (by rw [← q.1]; exact h80)
    rw [show e - (e - i) = i by omega] at h1
    refine ⟨_, fStep_q q n (q9, P, c, i, e - i), Or.inr ⟨?_, h1⟩⟩
    show ¬ mCellAt (mStand uc (nI q9) P c i 1 (e - i)) (nI P) (nI c) (nI e) = (-2)
    rw [ca_out hP hc8 (by omega) (by omega) (by rw [← q.2 0 (by decide)]; exact hl)]
    exact hend2
  · exact absurd (by rw [← q37_ca q]; exact hrun i (Nat.le_refl _) hie) h.1
/-- what fillerFor finds -/
theorem ffr_all (u : mS) (n : Int32) {M : Nat} (hM : M ≤ 80) : (mFFr u n M M = (-1) ∧ ∀ j, j < M → ¬ ffC u n j) ∨ ∃ q, q < M ∧ mFFr u n M M = nI q ∧ ffC u n q ∧ ∀ j, j < q → ¬ ffC u n j := by
  by_cases h : ∃ q, q < M ∧ ffC u n q
  · have key : ∀ k, (∃ q, q < k ∧ q < M ∧ ffC u n q) → ∃ q, q < M ∧ ffC u n q ∧ ∀ j, j < q → ¬ ffC u n j := by
      intro k
      induction k with
      | zero => rintro ⟨q, h1, -⟩; omega
      | succ k ih =>
        rintro ⟨q, h1, h2, h3⟩
        by_cases hk : ∃ q, q < k ∧ q < M ∧ ffC u n q
        · exact ih hk
        · exact ⟨q, h2, h3, fun j hj hc => hk ⟨j, by omega, by omega, hc⟩⟩
    obtain ⟨q0, h1, h2⟩ := h
    obtain ⟨q, a, b, c⟩ := key (q0 + 1) ⟨q0, by omega, h1, h2⟩
    exact Or.inr ⟨q, a, mFF_s hM a b c M (Nat.le_refl _) (by omega), b, c⟩
  · exact Or.inl ⟨mFF_n hM M (Nat.le_refl _) (fun i _ hi hc => h ⟨i, hi, hc⟩), fun j hj hc => h ⟨j, hj, hc⟩⟩
theorem caK {u : mS} {P c K t : Nat} (hP : P < 12) (hc : c < 8) (hK6 : K ≤ 60) (eK : u.2 0 (8 * nI P + nI c).toNatClampNeg = nI K) (ht : t < K) : mCellAt u (nI P) (nI c) (nI t) = u.2 2 (480 * nI P + 60 * nI c + nI t).toNatClampNeg := by
  have e0 : (8 * nI P + nI c).toNatClampNeg = 8 * P + c := by rw [show (8 : Int32) = nI 8 from rfl, pk_mul, nI_add, nI_clamp (by omega)]
  rw [e0] at eK
  unfold mCellAt
  rw [if_pos ((mC_iff hP (by omega) (by omega) (fun _ => by rw [eK]; exact bwN (by have h60 : (60 : Int32).toInt = 60 := rfl; rw [h60]; omega) (by omega))).mpr ⟨hc, by rw [eK, nI_clamp (by omega)]; exact ht⟩)]
theorem caX {u : mS} {P c K : Nat} (hP : P < 12) (hc : c < 8) (hK6 : K ≤ 60) (eK : u.2 0 (8 * nI P + nI c).toNatClampNeg = nI K) : ¬ mCellAt u (nI P) (nI c) (nI K) = (-2) := by
  have e0 : (8 * nI P + nI c).toNatClampNeg = 8 * P + c := by rw [show (8 : Int32) = nI 8 from rfl, pk_mul, nI_add, nI_clamp (by omega)]
  rw [e0] at eK
  unfold mCellAt
  rw [if_neg ?_]
  · decide
  · intro h
    have h2 := (mC_iff hP (by omega) (by omega) (fun _ => by rw [eK]; exact bwN (by have h60 : (60 : Int32).toInt = 60 := rfl; rw [h60]; omega) (by omega))).mp h
    rw [eK, nI_clamp (by omega)] at h2
    omega
set_option maxHeartbeats 4000000 in
set_option maxRecDepth 100000 in
theorem n_fl_in {p : Program} {l : Launch} {e : Env} {R : Room} {s : State} {m : MethodId} {args : Array Value} {below : List Frame} {meth : Method} {c : Code} {Q : State → Prop} {cells slots : Nat} {dC : Nat → ClassId} {dI : Nat → Nat → Nat} {h0 : Nat} {v : Nat → Nat} {cI cZ : ClassId} {H : Heap} {locs : List Loc} {u : mS} (hx : p.tables.exec = Jvm.exec) (hb : c.code = cX12_fill) (hml : c.maxLocals = 7) (hts : ∀ w ∈ wsX12_fill, w.before args s = true) (hown : s.vm.findClass RX12 = some m.cls) (hN : NN s) (hK : va_K (dC, dI) vwCl [(cI, .int), (cZ, .boolean)] s) (hRf : 1 ≤ R.frames) (hRl : 22 ≤ R.locals) (hRc : cells ≤ R.cells) (hRs : slots ≤ R.slots) (hP : va_P (dC, dI) vwCl (mW h0 v cI cZ u) H) {P c9 K L J : Nat} {b9 : Int32} (hPP : P < 12) (hc8 : c9 < 8) (hK6 : K ≤ 60) (hKJ : K = L + J) (eK : u.2 0 (8 * nI P + nI c9).toNatClampNeg = nI K) (kx91 : ∀ (e9 : Nat) (ls : Array Slot), L ≤ e9 → e9 ≤ K → (∀ t, L ≤ t → t < e9 → u.2 2 (480 * nI P + 60 * nI c9 + nI t).toNatClampNeg = (-2)) → (e9 = K ∨ ¬ u.2 2 (480 * nI P + 60 * nI c9 + nI e9).toNatClampNeg = (-2)) → lv_has ls 7 [(5, .int (nI e9)), (4, .int (nI L)), (3, .int (nI c9)), (2, .int b9), (0, .ref h0), (1, .int (nI P))] → W p l e R s m args below meth c H locs cells slots Q (F0 m 91 ls [])) : ∀ (k i : Nat) (ls : Array Slot), i ≤ J → J - i < k → (∀ t, L ≤ t → t < L + i → u.2 2 (480 * nI P + 60 * nI c9 + nI t).toNatClampNeg = (-2)) → lv_has ls 7 [(5, .int (nI (L + i))), (4, .int (nI L)), (3, .int (nI c9)), (2, .int b9), (0, .ref h0), (1, .int (nI P))] → W p l e R s m args below meth c H locs cells slots Q (F0 m 52 ls []) := by
  intro k
  induction k with
  | zero => intro i ls h1 h2; exact absurd h2 (Nat.not_lt_zero _)
  | succ k ih =>
    intro i ls hi hk hg hl
    refine lv_iload hx hb dX12_fill_52 (lv_at hl 0 rfl) ?_
    refine lv_aload_n hx hb dX12_fill_54 rfl (lv_at hl 4 rfl) ?_
    refine va_get (D := (dC, dI)) (ci := 11) (v := .ref (v 0)) (C := RX12) (T := TX12) (N := 52) hx hb hts zl_X12_fill_X12 hown hK hP 0 rfl rfl 0 (by decide) (hts (.fieldLink RX12 7 "PageOneModel" "lines" "[I") (zat q_wsX12_fill k_wsX12_fill 882 rfl (by decide +kernel))) (fun _ h9 => h9) rfl dX12_fill_55 ?_
    refine lv_bipush (v := 8) hx hb dX12_fill_58 (by decide) ?_
    refine lv_iload_n hx hb dX12_fill_60 rfl (lv_at hl 5 rfl) ?_
    refine lv_imul hx hb dX12_fill_61 ?_
    refine lv_iload_n hx hb dX12_fill_62 rfl (lv_at hl 2 rfl) ?_
    refine lv_iadd hx hb dX12_fill_63 ?_
    refine va_iald hx hb hK hP 1 0 rfl rfl (vin8 (bw11 hPP) (bw7 hc8)) dX12_fill_64 ?_
    refine lv_topi (fun y_1 ey_1 => ?_)
    obtain rfl : y_1 = (nI K) := ey_1.trans (eK)
    refine lv_icmp_ge (tgt := 91) hx hb dX12_fill_65 (by decide) (fun c_2 => ?_) (fun c_2 => ?_)
    ·
      have hie : L + i = K := lp_eq rfl (by omega) (by omega) c_2
      exact kx91 _ ls (Nat.le_add_right _ _) (by omega) hg (Or.inl hie) (lv_sub hl [0, 1, 2, 3, 4, 5] rfl)
    ·
      have hlt : L + i < K := lp_lt rfl (by omega) (by omega) c_2
      refine lv_aload_n hx hb dX12_fill_68 rfl (lv_at hl 4 rfl) ?_
      refine va_get (D := (dC, dI)) (ci := 11) (v := .ref (v 2)) (C := RX12) (T := TX12) (N := 52) hx hb hts zl_X12_fill_X12 hown hK hP 0 rfl rfl 2 (by decide) (hts (.fieldLink RX12 16 "PageOneModel" "cell" "[I") (zat q_wsX12_fill k_wsX12_fill 884 rfl (by decide +kernel))) (fun _ h9 => h9) rfl dX12_fill_69 ?_
      refine lv_iload_n hx hb dX12_fill_72 rfl (lv_at hl 5 rfl) ?_
      refine lv_iload_n hx hb dX12_fill_73 rfl (lv_at hl 2 rfl) ?_
      refine lv_iload hx hb dX12_fill_74 (lv_at hl 0 rfl) ?_
      refine vp_callSi (va_runS (As := [.int (nI P), .int (nI c9), .int (nI (L + i))]) (rest := [.ref (v 2)]) ⟨hx, hb, hml, hown, hts⟩ (m_at l dC dI (nI P) (nI c9) (nI (L + i))) (va_cwS 3 hts gX12_fill_X12_at rfl rfl rfl zh_X12_at_7 ⟨Nat.le_trans (Nat.le_of_ble_eq_true rfl) hRf, Nat.le_trans (Nat.le_of_ble_eq_true rfl) hRl⟩) ⟨pw_fb, fun U hU hW => ⟨rfl, pw_to hU hW (hP.sub (ws' := []) [] rfl) (hK.sub (tys' := []) [] rfl) hN⟩⟩ rfl rfl hl.1 rfl (lv_room (Nat.le_of_ble_eq_true rfl)) dX12_fill_76 ⟨hRc, hRs⟩).run (fun r hw => ?_)
      obtain rfl : r = (480 * (nI P) + 60 * (nI c9) + (nI (L + i))) := hw
      refine va_iald hx hb hK hP 3 0 rfl rfl (vinC (bw11 hPP) (bw7 hc8) (by omega)) dX12_fill_79 ?_
      refine lv_bipush (v := (-2)) hx hb dX12_fill_80 (by decide) ?_
      refine lv_icmp_ne (tgt := 91) hx hb dX12_fill_82 (by decide) (fun c_3 => ?_) (fun c_3 => ?_)
      ·
        exact kx91 _ ls (Nat.le_add_right _ _) (by omega) hg (Or.inr c_3) (lv_sub hl [0, 1, 2, 3, 4, 5] rfl)
      ·
        refine lv_iinc (v := (nI (L + i + 1))) (lv' := [(5, .int (nI (L + i + 1))), (4, .int (nI L)), (3, .int (nI c9)), (2, .int b9), (0, .ref h0), (1, .int (nI P))]) hx hb dX12_fill_85 hl (k := 0) rfl (nI_1 _) (by decide) rfl (fun ls hl => ?_)
        refine lv_goto (tgt := 52) hx hb dX12_fill_88 (by decide) ?_
        exact ih (i + 1) ls (by omega) (by omega) (fun t h1 h2 => if h3 : t = L + i then by rw [h3]; exact c_3 else hg t h1 (by omega)) (lv_sub hl [0, 1, 2, 3, 4, 5] rfl)
theorem idx8 {P c : Nat} (hP : P < 12) (hc : c < 8) : (8 * nI P + nI c).toNatClampNeg = 8 * P + c := by rw [show (8 : Int32) = nI 8 from rfl, pk_mul, nI_add, nI_clamp (by omega)]
set_option maxHeartbeats 4000000 in
set_option maxRecDepth 100000 in
theorem n_fl_mid {p : Program} {l : Launch} {e : Env} {R : Room} {s : State} {m : MethodId} {args : Array Value} {below : List Frame} {meth : Method} {c : Code} {Q : State → Prop} {cells slots : Nat} {dC : Nat → ClassId} {dI : Nat → Nat → Nat} {h0 : Nat} {v : Nat → Nat} {cI cZ : ClassId} {u0 : mS} {P M : Nat} (hPP : P < 12) (hM8 : M ≤ 80) (eM : u0.1 3 = nI M) (hfb : ∀ (x : fX) (xs : List fX), fGood u0 (x :: xs) → 0 ≤ (u0.1 36).toInt ∧ (u0.1 36).toInt + (xs.length : Int) < 700) {c9 K : Nat} (hc8 : c9 < 8) (hK6 : K ≤ 60) (eK : u0.2 0 (8 * nI P + nI c9).toNatClampNeg = nI K) {uc0 : mS} {x0 : List fX} {A : Nat → Prop} {H0 : Heap} (hx : p.tables.exec = Jvm.exec) (hb : c.code = cX12_fill) (hml : c.maxLocals = 7) (hts : ∀ w ∈ wsX12_fill, w.before args s = true) (hown : s.vm.findClass RX12 = some m.cls) (hN : NN s) (hK : va_K (dC, dI) vwCl [(cI, .int), (cZ, .boolean)] s) (hRf : 3 ≤ R.frames) (hRl : 77 ≤ R.locals) (hRc : cells ≤ R.cells) (hRs : slots ≤ R.slots) (hA : ∀ q : Nat, H0.size ≤ q → A q) (kx : ∀ (u : mS) (H : Heap) (locs : List Loc) (xs : List fX) (ls : Array Slot), (fGood u0 xs ∧ u = fillR u0 xs ∧ fcI uc0 x0 P c9 K u xs) → va_P (dC, dI) vwCl (mW h0 v cI cZ u) H → va_D A (mW h0 v cI cZ u) → va_S A H0 H locs → lv_has ls 7 [(4, .int (nI K)), (3, .int (nI c9)), (2, .int (nI xs.length)), (0, .ref h0), (1, .int (nI P))] → W p l e R s m args below meth c H locs cells slots Q (F0 m 171 ls [])) : ∀ (k i : Nat) (u : mS) (H : Heap) (locs : List Loc) (xs : List fX) (ls : Array Slot), i ≤ K → K - i < k → (fGood u0 xs ∧ u = fillR u0 xs ∧ fcI uc0 x0 P c9 i u xs) → va_P (dC, dI) vwCl (mW h0 v cI cZ u) H → va_D A (mW h0 v cI cZ u) → va_S A H0 H locs → lv_has ls 7 [(4, .int (nI i)), (3, .int (nI c9)), (2, .int (nI xs.length)), (0, .ref h0), (1, .int (nI P))] → W p l e R s m args below meth c H locs cells slots Q (F0 m 32 ls []) := by
  intro k
  induction k with
  | zero => intro i u H locs xs ls h1 h2; exact absurd h2 (Nat.not_lt_zero _)
  | succ k ih =>
    intro i u H locs xs ls hi hk hg hP hD hS hl
    refine lv_iload hx hb dX12_fill_32 (lv_at hl 0 rfl) ?_
    refine lv_aload_n hx hb dX12_fill_34 rfl (lv_at hl 3 rfl) ?_
    refine va_get (D := (dC, dI)) (ci := 11) (v := .ref (v 0)) (C := RX12) (T := TX12) (N := 52) hx hb hts zl_X12_fill_X12 hown hK hP 0 rfl rfl 0 (by decide) (hts (.fieldLink RX12 7 "PageOneModel" "lines" "[I") (zat q_wsX12_fill k_wsX12_fill 882 rfl (by decide +kernel))) (fun _ h9 => h9) rfl dX12_fill_35 ?_
    refine lv_bipush (v := 8) hx hb dX12_fill_38 (by decide) ?_
    refine lv_iload_n hx hb dX12_fill_40 rfl (lv_at hl 4 rfl) ?_
    refine lv_imul hx hb dX12_fill_41 ?_
    refine lv_iload_n hx hb dX12_fill_42 rfl (lv_at hl 1 rfl) ?_
    refine lv_iadd hx hb dX12_fill_43 ?_
    refine va_iald hx hb hK hP 1 0 rfl rfl (vin8 (bw11 hPP) (bw7 hc8)) dX12_fill_44 ?_
    refine lv_topi (fun y_1 ey_1 => ?_)
    obtain rfl : y_1 = (nI K) := ey_1.trans ((by rw [hg.2.1, (fillR_k u0 xs).2 0 (nR rfl)]; exact eK))
    refine lv_icmp_ge (tgt := 171) hx hb dX12_fill_45 (by decide) (fun c_2 => ?_) (fun c_2 => ?_)
    ·
      have hie : i = K := lp_eq rfl (by omega) hi c_2
      rw [hie] at hg hl
      exact kx _ _ _ _ ls hg hP hD hS (lv_sub hl [0, 1, 2, 3, 4] rfl)
    ·
      have hlt : i < K := lp_lt rfl (by omega) hi c_2
      refine lv_iload hx hb dX12_fill_48 (lv_at hl 0 rfl) ?_
      refine lv_istore (lv' := [(5, .int (nI i)), (4, .int (nI i)), (3, .int (nI c9)), (2, .int (nI xs.length)), (0, .ref h0), (1, .int (nI P))]) hx hb dX12_fill_50 hl (by decide) rfl (fun ls hl => ?_)
      refine n_fl_in (P := P) (c9 := c9) (K := K) (L := i) (J := K - i) hx hb hml hts hown hN hK (Nat.le_trans (Nat.le_of_ble_eq_true rfl) hRf) (Nat.le_trans (Nat.le_of_ble_eq_true rfl) hRl) hRc hRs hP hPP hc8 hK6 (by omega) (by rw [hg.2.1, (fillR_k u0 xs).2 0 (nR rfl)]; exact eK) (fun e9 ls hLe heK hr9 he9 hl => ?_) (K - i + 1) 0 ls (Nat.zero_le _) (by omega) (fun t h1 h2 => absurd h1 (by omega)) (lv_sub hl [0, 1, 2, 3, 4, 5] rfl)
      refine lv_iload hx hb dX12_fill_91 (lv_at hl 0 rfl) ?_
      refine lv_iload hx hb dX12_fill_93 (lv_at hl 1 rfl) ?_
      refine lv_icmp_le (tgt := 110) hx hb dX12_fill_95 (by decide) (fun c_3 => ?_) (fun c_3 => ?_)
      ·
        have hel := nIle (by omega) (by omega) c_3
        refine lv_iconst (v := (-1)) hx hb dX12_fill_110 (by decide) ?_
        refine lv_istore (lv' := [(6, .int (-1)), (5, .int (nI e9)), (4, .int (nI i)), (3, .int (nI c9)), (2, .int (nI xs.length)), (0, .ref h0), (1, .int (nI P))]) hx hb dX12_fill_111 hl (by decide) rfl (fun ls hl => ?_)
        refine lv_iload hx hb dX12_fill_113 (lv_at hl 0 rfl) ?_
        refine lv_if_lt (tgt := 150) hx hb dX12_fill_115 (by decide) (fun c_4 => ?_) (fun c_4 => absurd (by decide) c_4)
        refine lv_iload hx hb dX12_fill_150 (lv_at hl 1 rfl) ?_
        refine lv_iload hx hb dX12_fill_152 (lv_at hl 2 rfl) ?_
        refine lv_icmp_le (tgt := 162) hx hb dX12_fill_154 (by decide) (fun c_5 => ?_) (fun c_5 => absurd (c_3) c_5)
        refine lv_iload hx hb dX12_fill_162 (lv_at hl 2 rfl) ?_
        refine lv_iconst (v := 1) hx hb dX12_fill_164 (by decide) ?_
        refine lv_iadd hx hb dX12_fill_165 ?_
        refine lv_topi (fun y_6 ey_6 => ?_)
        obtain rfl : y_6 = (nI (i + 1)) := ey_6.trans ((nI_1 i))
        refine lv_istore (lv' := [(4, .int (nI (i + 1))), (6, .int (-1)), (5, .int (nI e9)), (3, .int (nI c9)), (2, .int (nI xs.length)), (0, .ref h0), (1, .int (nI P))]) hx hb dX12_fill_166 hl (by decide) rfl (fun ls hl => ?_)
        refine lv_goto (tgt := 32) hx hb dX12_fill_168 (by decide) ?_
        have e99 : e9 = i := by omega
        exact ih (i + 1) _ _ _ xs ls (by omega) (by omega) ⟨hg.1, hg.2.1, fcI_n hg.2.2 (by rw [caK hPP hc8 hK6 (by rw [hg.2.1, (fillR_k u0 xs).2 0 (nR rfl)]; exact eK) hlt]; exact fun z => he9.resolve_left (by omega) (by rw [e99]; exact z)) (by rw [hg.2.1, (fillR_k u0 xs).1, eM, nI_clamp (by omega)]; omega)⟩ hP hD hS (lv_sub hl [0, 3, 4, 5, 6] rfl)
      ·
        have hel := nInle (by omega) (by omega) c_3
        refine lv_aload_n hx hb dX12_fill_98 rfl (lv_at hl 4 rfl) ?_
        refine lv_iload hx hb dX12_fill_99 (lv_at hl 0 rfl) ?_
        refine lv_iload hx hb dX12_fill_101 (lv_at hl 1 rfl) ?_
        refine lv_isub hx hb dX12_fill_103 ?_
        refine lv_topi (fun y_7 ey_7 => ?_)
        obtain rfl : y_7 = (nI (e9 - i)) := ey_7.trans ((pk_sub (by omega)))
        refine vp_callSi (va_runV (As := [.int (nI (e9 - i))]) (rest := []) ⟨hx, hb, hml, hown, hts⟩ (m_fillerFor l dC dI h0 v cI cZ u (nI (e9 - i)) (by rw [hg.2.1, (fillR_k u0 xs).1, eM]; exact bwN (by have h80 : (80 : Int32).toInt = 80 := rfl; rw [h80]; omega) (by omega))) (cwV 1 hts gX12_fill_X12_fillerFor rfl rfl rfl zh_X12_fillerFor_29 ⟨Nat.le_trans (Nat.le_of_ble_eq_true rfl) hRf, Nat.le_trans (Nat.le_of_ble_eq_true rfl) hRl⟩) ⟨pw_fb, va_recv hK hP (ci := 11) (q0 := 0) rfl rfl, fun U hU hW => ⟨rfl, pw_to hU hW hP hK hN⟩⟩ rfl rfl hl.1 rfl (lv_room (Nat.le_of_ble_eq_true rfl)) dX12_fill_104 ⟨hRc, hRs⟩).run (fun r hw => ?_)
        have hff := ffr_all u (nI (e9 - i)) (M := M) hM8
        have hM3 : (u.1 3).toNatClampNeg = M := by rw [hg.2.1, (fillR_k u0 xs).1, eM, nI_clamp (by omega)]
        rw [hM3] at hw
        rw [← hw] at hff
        have hKu : u.2 0 (8 * nI P + nI c9).toNatClampNeg = nI K := by rw [hg.2.1, (fillR_k u0 xs).2 0 (nR rfl)]; exact eK
        have hrun9 : ∀ t, i ≤ t → t < e9 → mCellAt u (nI P) (nI c9) (nI t) = (-2) := fun t h1 h2 => by rw [caK hPP hc8 hK6 hKu (by omega)]; exact hr9 t h1 h2
        have hend9 : ¬ mCellAt u (nI P) (nI c9) (nI e9) = (-2) := by
          rcases Nat.lt_or_ge e9 K with h1 | h1
          · rw [caK hPP hc8 hK6 hKu h1]; exact he9.resolve_left (by omega)
          · rw [show e9 = K by omega]; exact caX hPP hc8 hK6 hKu
        rcases hff with ⟨hff, hno⟩ | ⟨q, hq1, hq2, hq3, hqn⟩
        ·
          subst hff
          refine lv_goto (tgt := 111) hx hb dX12_fill_107 (by decide) ?_
          refine lv_istore (lv' := [(6, .int (-1)), (5, .int (nI e9)), (4, .int (nI i)), (3, .int (nI c9)), (2, .int (nI xs.length)), (0, .ref h0), (1, .int (nI P))]) hx hb dX12_fill_111 hl (by decide) rfl (fun ls hl => ?_)
          refine lv_iload hx hb dX12_fill_113 (lv_at hl 0 rfl) ?_
          refine lv_if_lt (tgt := 150) hx hb dX12_fill_115 (by decide) (fun c_8 => ?_) (fun c_8 => absurd (by decide) c_8)
          refine lv_iload hx hb dX12_fill_150 (lv_at hl 1 rfl) ?_
          refine lv_iload hx hb dX12_fill_152 (lv_at hl 2 rfl) ?_
          refine lv_icmp_le (tgt := 162) hx hb dX12_fill_154 (by decide) (fun c_9 => absurd c_9 (c_3)) (fun c_9 => ?_)
          refine lv_iload hx hb dX12_fill_157 (lv_at hl 1 rfl) ?_
          refine lv_goto (tgt := 166) hx hb dX12_fill_159 (by decide) ?_
          refine lv_istore (lv' := [(4, .int (nI e9)), (6, .int (-1)), (5, .int (nI e9)), (3, .int (nI c9)), (2, .int (nI xs.length)), (0, .ref h0), (1, .int (nI P))]) hx hb dX12_fill_166 hl (by decide) rfl (fun ls hl => ?_)
          refine lv_goto (tgt := 32) hx hb dX12_fill_168 (by decide) ?_
          exact ih e9 _ _ _ xs ls (by omega) (by omega) ⟨hg.1, hg.2.1, fcI_0 hg.2.2 (by omega) hrun9 hend9 (by omega) (fun j hj => hno j (by omega))⟩ hP hD hS (lv_sub hl [0, 3, 4, 5, 6] rfl)
        ·
          subst hq2
          have hnew : fGood u0 ((q, P, c9, i, e9 - i) :: xs) := ⟨hg.1, by rw [eM, nI_clamp (by omega)]; exact hq1, by rw [← (fillR_k u0 xs).2 4 (nR rfl), ← hg.2.1]; exact hq3.1, by rw [← hg.2.1]; exact hq3.2.1, hPP, by show c9 + 1 ≤ 8; omega, by show i + (e9 - i) ≤ 60; omega, by show 1 ≤ e9 - i; omega⟩
          have hq4 := hq3.2.1
          refine lv_goto (tgt := 111) hx hb dX12_fill_107 (by decide) ?_
          refine lv_istore (lv' := [(6, .int (nI q)), (5, .int (nI e9)), (4, .int (nI i)), (3, .int (nI c9)), (2, .int (nI xs.length)), (0, .ref h0), (1, .int (nI P))]) hx hb dX12_fill_111 hl (by decide) rfl (fun ls hl => ?_)
          refine lv_iload hx hb dX12_fill_113 (lv_at hl 0 rfl) ?_
          refine lv_if_lt (tgt := 150) hx hb dX12_fill_115 (by decide) (fun c_10 => absurd c_10 (nIpos (by omega))) (fun c_10 => ?_)
          refine lv_aload_n hx hb dX12_fill_118 rfl (lv_at hl 5 rfl) ?_
          refine lv_iload hx hb dX12_fill_119 (lv_at hl 0 rfl) ?_
          refine lv_iload_n hx hb dX12_fill_121 rfl (lv_at hl 6 rfl) ?_
          refine lv_iload_n hx hb dX12_fill_122 rfl (lv_at hl 3 rfl) ?_
          refine lv_iload hx hb dX12_fill_123 (lv_at hl 2 rfl) ?_
          refine lv_iconst (v := 1) hx hb dX12_fill_125 (by decide) ?_
          refine lv_iload hx hb dX12_fill_126 (lv_at hl 1 rfl) ?_
          refine lv_iload hx hb dX12_fill_128 (lv_at hl 2 rfl) ?_
          refine lv_isub hx hb dX12_fill_130 ?_
          refine lv_topi (fun y_11 ey_11 => ?_)
          obtain rfl : y_11 = (nI (e9 - i)) := ey_11.trans ((pk_sub (by omega)))
          have hFc := fr_all hD hS hA
          refine va_callv (va_runV (As := [.int (nI q), .int (nI P), .int (nI c9), .int (nI i), .int 1, .int (nI (e9 - i))]) (rest := []) ⟨hx, hb, hml, hown, hts⟩ (m_stand l dC dI h0 v cI cZ u (nI q) P c9 i 1 (e9 - i) hPP (by omega) (by omega) (bw79 (by omega)) (z05 (by rw [nI_clamp (by omega)]; exact hq4)) H.size) (cwV 6 hts gX12_fill_X12_stand rfl rfl rfl zh_X12_stand_25 ⟨Nat.le_trans (Nat.le_of_ble_eq_true rfl) hRf, Nat.le_trans (Nat.le_of_ble_eq_true rfl) hRl⟩) ⟨gw_fb, va_recv hK hP (ci := 11) (q0 := 0) rfl rfl, fun U hU hW => ⟨rfl, by rw [hU], pw_to hU hW hP hK hN, hD.weaken (fun _ _ _ _ => trivial)⟩⟩ rfl rfl hl.1 rfl (lv_room (Nat.le_of_ble_eq_true rfl)) dX12_fill_131 ⟨hRc, hRs⟩) hS (fun q _ h => hFc q h) hFc (fun u_12 t H1 locs ht hvm hw hB hz1 hk1 hS => ?_)
          obtain ⟨hP, hD1⟩ := hB
          rw [ht] at hP
          have hD := hD1.weaken (fun _ q _ h => hFc q.1 h)
          generalize H1 = H at hP hS ⊢
          have eu_12 := hw
          refine lv_aload_n hx hb dX12_fill_134 rfl (lv_at hl 5 rfl) ?_
          refine va_get (D := (dC, dI)) (ci := 11) (v := .ref (v 37)) (C := RX12) (T := TX12) (N := 52) hx hb hts zl_X12_fill_X12 hown hK hP 0 rfl rfl 37 (by decide) (hts (.fieldLink RX12 113 "PageOneModel" "filler" "[I") (zat q_wsX12_fill k_wsX12_fill 919 rfl (by decide +kernel))) (fun _ h9 => h9) rfl dX12_fill_135 ?_
          refine lv_aload_n hx hb dX12_fill_138 rfl (lv_at hl 5 rfl) ?_
          refine va_get (D := (dC, dI)) (ci := 11) (v := .int (u_12.1 36)) (C := RX12) (T := TX12) (N := 52) hx hb hts zl_X12_fill_X12 hown hK hP 0 rfl rfl 36 (by decide) (hts (.fieldLink RX12 168 "PageOneModel" "filled" "I") (zat q_wsX12_fill k_wsX12_fill 918 rfl (by decide +kernel))) (fun _ h9 => h9) rfl dX12_fill_139 ?_
          refine lv_iload_n hx hb dX12_fill_142 rfl (lv_at hl 4 rfl) ?_
          refine lv_iadd hx hb dX12_fill_143 ?_
          refine lv_iload hx hb dX12_fill_144 (lv_at hl 0 rfl) ?_
          refine va_iast hx hb hK hP hD hS 35 0 rfl rfl (by rw [show u_12.1 36 = u0.1 36 from by rw [eu_12, hg.2.1]; exact congrFun (fillR_k u0 xs).1 36]; exact vFl (hfb _ xs hnew).1 (hfb _ xs hnew).2) dX12_fill_146 (fun H locs hP hD hS => ?_)
          obtain ⟨u_13, eu_13⟩ : ∃ zz : mS, zz = mst u_12 37 ((u_12.1 36) + (nI xs.length)) (nI q) := ⟨_, rfl⟩
          have hP : va_P (dC, dI) vwCl (mW h0 v cI cZ u_13) H := by rw [eu_13]; exact hP
          have hD : va_D A (mW h0 v cI cZ u_13) := by rw [eu_13]; exact hD
          refine lv_iinc (v := (nI (((q, P, c9, i, e9 - i) :: xs) : List fX).length)) (lv' := [(2, .int (nI (((q, P, c9, i, e9 - i) :: xs) : List fX).length)), (6, .int (nI q)), (5, .int (nI e9)), (4, .int (nI i)), (3, .int (nI c9)), (0, .ref h0), (1, .int (nI P))]) hx hb dX12_fill_147 hl (k := 4) rfl (nI_1 _) (by decide) rfl (fun ls hl => ?_)
          refine lv_iload hx hb dX12_fill_150 (lv_at hl 2 rfl) ?_
          refine lv_iload hx hb dX12_fill_152 (lv_at hl 3 rfl) ?_
          refine lv_icmp_le (tgt := 162) hx hb dX12_fill_154 (by decide) (fun c_14 => absurd c_14 (c_3)) (fun c_14 => ?_)
          refine lv_iload hx hb dX12_fill_157 (lv_at hl 2 rfl) ?_
          refine lv_goto (tgt := 166) hx hb dX12_fill_159 (by decide) ?_
          refine lv_istore (lv' := [(4, .int (nI e9)), (2, .int (nI (((q, P, c9, i, e9 - i) :: xs) : List fX).length)), (6, .int (nI q)), (5, .int (nI e9)), (3, .int (nI c9)), (0, .ref h0), (1, .int (nI P))]) hx hb dX12_fill_166 hl (by decide) rfl (fun ls hl => ?_)
          refine lv_goto (tgt := 32) hx hb dX12_fill_168 (by decide) ?_
          exact ih e9 _ _ _ ((q, P, c9, i, e9 - i) :: xs) ls (by omega) (by omega) ⟨hnew, by rw [eu_13, eu_12, hg.2.1]; rfl, by rw [eu_13, eu_12]; exact fcI_1 hg.2.2 hPP hc8 (by omega) (by have z := hKu; rw [idx8 hPP hc8] at z; rw [z]; exact bwN (by have h60 : (60 : Int32).toInt = 60 := rfl; rw [h60]; omega) (by omega)) (by omega) hrun9 hend9 (by omega) (by omega) hq3 hqn⟩ hP hD hS (lv_sub hl [0, 4, 1, 5, 6] rfl)
/-- a column is done -/
theorem fcI_end {u0 : mS} {x0 : List fX} {P c K : Nat} {w : mS} {xs : List fX} (h : fcI u0 x0 P c K w xs) (hP : P < 12) (hc : c < 8) (hK6 : K ≤ 60) (eK : w.2 0 (8 * nI P + nI c).toNatClampNeg = nI K) (h80 : (w.1 3).toNatClampNeg ≤ 80) : ∃ uc, q37 w uc ∧ fcN u0 x0 P c (K + 1) = (uc, xs, 0) := by
  obtain ⟨uc, q, h⟩ := h
  rcases h with h | h
  · exact ⟨uc, q, fc_0 h (by rw [← q37_ca q]; exact caX hP hc hK6 eK) (Or.inl rfl) (by rw [← q.1]; exact h80)⟩
  · exact ⟨uc, q, h.2⟩
theorem flN_t {u uc vc : mS} {P c K : Nat} {xs ys : List fX} (h : flN u P c = (uc, xs)) (hK : (uc.2 0 (8 * P + c)).toNatClampNeg = K) (h2 : fcN uc xs P c (K + 1) = (vc, ys, 0)) : flN u P (c + 1) = (vc, ys) := by
  show ((fcN (flN u P c).1 (flN u P c).2 P c (((flN u P c).1.2 0 (8 * P + c)).toNatClampNeg + 1)).1, (fcN (flN u P c).1 (flN u P c).2 P c (((flN u P c).1.2 0 (8 * P + c)).toNatClampNeg + 1)).2.1) = (vc, ys)
  rw [h]
  dsimp only
  rw [hK, h2]
set_option maxHeartbeats 4000000 in
set_option maxRecDepth 100000 in
theorem n_fl_out {p : Program} {l : Launch} {e : Env} {R : Room} {s : State} {m : MethodId} {args : Array Value} {below : List Frame} {meth : Method} {c : Code} {Q : State → Prop} {cells slots : Nat} {dC : Nat → ClassId} {dI : Nat → Nat → Nat} {h0 : Nat} {v : Nat → Nat} {cI cZ : ClassId} {u0 : mS} {P M : Nat} (hPP : P < 12) (hM8 : M ≤ 80) (eM : u0.1 3 = nI M) (hfb : ∀ (x : fX) (xs : List fX), fGood u0 (x :: xs) → 0 ≤ (u0.1 36).toInt ∧ (u0.1 36).toInt + (xs.length : Int) < 700) (hln0 : ∀ j, j < 96 → bw (u0.2 0 j) 0 60 = true) {A : Nat → Prop} {H0 : Heap} (hx : p.tables.exec = Jvm.exec) (hb : c.code = cX12_fill) (hml : c.maxLocals = 7) (hts : ∀ w ∈ wsX12_fill, w.before args s = true) (hown : s.vm.findClass RX12 = some m.cls) (hN : NN s) (hK : va_K (dC, dI) vwCl [(cI, .int), (cZ, .boolean)] s) (hRf : 3 ≤ R.frames) (hRl : 77 ≤ R.locals) (hRc : cells ≤ R.cells) (hRs : slots ≤ R.slots) (hA : ∀ q : Nat, H0.size ≤ q → A q) (kx : ∀ (u : mS) (H : Heap) (locs : List Loc) (xs : List fX) (ls : Array Slot), (fGood u0 xs ∧ u = fillR u0 xs ∧ ∃ uc, q37 u uc ∧ flN u0 P 8 = (uc, xs)) → va_P (dC, dI) vwCl (mW h0 v cI cZ u) H → va_D A (mW h0 v cI cZ u) → va_S A H0 H locs → lv_has ls 7 [(3, .int (nI 8)), (2, .int (nI xs.length)), (0, .ref h0), (1, .int (nI P))] → W p l e R s m args below meth c H locs cells slots Q (F0 m 177 ls [])) : ∀ (k i : Nat) (u : mS) (H : Heap) (locs : List Loc) (xs : List fX) (ls : Array Slot), i ≤ 8 → 8 - i < k → (fGood u0 xs ∧ u = fillR u0 xs ∧ ∃ uc, q37 u uc ∧ flN u0 P i = (uc, xs)) → va_P (dC, dI) vwCl (mW h0 v cI cZ u) H → va_D A (mW h0 v cI cZ u) → va_S A H0 H locs → lv_has ls 7 [(3, .int (nI i)), (2, .int (nI xs.length)), (0, .ref h0), (1, .int (nI P))] → W p l e R s m args below meth c H locs cells slots Q (F0 m 23 ls []) := by
  intro k
  induction k with
  | zero => intro i u H locs xs ls h1 h2; exact absurd h2 (Nat.not_lt_zero _)
  | succ k ih =>
    intro i u H locs xs ls hi hk hg hP hD hS hl
    refine lv_iload_n hx hb dX12_fill_23 rfl (lv_at hl 0 rfl) ?_
    refine lv_bipush (v := 8) hx hb dX12_fill_24 (by decide) ?_
    refine lv_icmp_ge (tgt := 177) hx hb dX12_fill_26 (by decide) (fun c_1 => ?_) (fun c_1 => ?_)
    ·
      have hie : i = 8 := lp_eq rfl (by decide) hi c_1
      subst hie
      exact kx _ _ _ _ ls hg hP hD hS (lv_sub hl [0, 1, 2, 3] rfl)
    ·
      have hlt : i < 8 := lp_lt rfl (by decide) hi c_1
      refine lv_iconst (v := 0) hx hb dX12_fill_29 (by decide) ?_
      refine lv_istore (lv' := [(4, .int 0), (3, .int (nI i)), (2, .int (nI xs.length)), (0, .ref h0), (1, .int (nI P))]) hx hb dX12_fill_30 hl (by decide) rfl (fun ls hl => ?_)
      obtain ⟨eK, eK2, eK3⟩ := nI_of_bw (hln0 _ (vlt (vin8 (bw11 hPP) (bw7 hlt))))
      have h60 : (60 : Int32).toInt = 60 := rfl
      obtain ⟨hg1, hg2, uc, hg3, hg4⟩ := hg
      refine n_fl_mid (u0 := u0) (P := P) (M := M) (c9 := i) (K := (u0.2 0 (8 * nI P + nI i).toNatClampNeg).toNatClampNeg) hPP hM8 eM hfb hlt (by omega) eK (uc0 := uc) (x0 := xs) hx hb hml hts hown hN hK hRf hRl hRc hRs hA (fun u2 H locs ys ls hg hP hD hS hl => ?_) _ 0 u _ _ xs ls (Nat.zero_le _) (Nat.lt_succ_self _) ⟨hg1, hg2, uc, hg3, Or.inl rfl⟩ hP hD hS (lv_sub hl [0, 1, 2, 3, 4] rfl)
      have h20 : u2.2 0 = u0.2 0 := by rw [hg.2.1, (fillR_k u0 ys).2 0 (nR rfl)]
      have h21 : (u2.1 3).toNatClampNeg ≤ 80 := by rw [hg.2.1, (fillR_k u0 ys).1, eM, nI_clamp (by omega)]; omega
      obtain ⟨vc, hv1, hv2⟩ := fcI_end hg.2.2 hPP hlt (by omega) (by rw [h20]; exact eK) h21
      have huc0 : uc.2 0 = u0.2 0 := by rw [← hg3.2 0 (by decide), hg2, (fillR_k u0 xs).2 0 (nR rfl)]
      have hnx := flN_t hg4 (by rw [huc0, ← idx8 hPP hlt]) hv2
      refine lv_iinc (v := (nI (i + 1))) (lv' := [(3, .int (nI (i + 1))), (4, .int (nI (u0.2 0 (8 * nI P + nI i).toNatClampNeg).toNatClampNeg)), (2, .int (nI ys.length)), (0, .ref h0), (1, .int (nI P))]) hx hb dX12_fill_171 hl (k := 1) rfl (nI_1 i) (by decide) rfl (fun ls hl => ?_)
      refine lv_goto (tgt := 23) hx hb dX12_fill_174 (by decide) ?_
      exact ih (i + 1) _ _ _ _ ls (by omega) (by omega) ⟨hg.1, hg.2.1, vc, hv1, hnx⟩ hP hD hS (lv_sub hl [0, 2, 3, 4] rfl)
/-- what fill answers and leaves -/
def flX (u : mS) (p0 r : Int32) (u9 : mS) : Prop := ((¬ bw p0 0 11 = true ∨ u.1 28 = 300) ∧ r = (-1) ∧ u9 = u) ∨ (bw p0 0 11 = true ∧ ¬ u.1 28 = 300 ∧ ∃ uc xs, flN u p0.toNatClampNeg 8 = (uc, xs) ∧ q37 (fillR u xs) uc ∧ fGood u xs ∧ ((xs = [] ∧ r = 0 ∧ u9 = u) ∨ (¬ xs = [] ∧ r = nI xs.length ∧ u9 = mFillE u xs)))
set_option maxHeartbeats 4000000 in
set_option maxRecDepth 100000 in
theorem n_fill (l : Launch) (dC : Nat → ClassId) (dI : Nat → Nat → Nat) (h0 : Nat) (v : Nat → Nat) (cI cZ : ClassId) (u : mS) (p0 : Int32) (hn : bw (u.1 3) 0 80 = true) (hln : ∀ j, j < 96 → bw (u.2 0 j) 0 60 = true) (ha : bw (u.1 28) 0 300 = true) (hfb : ∀ (x : fX) (xs : List fX), fGood u (x :: xs) → 0 ≤ (u.1 36).toInt ∧ (u.1 36).toInt + (xs.length : Int) < 700) (sz : Nat) : Met l yX12_fill wsX12_fill ({ frames := 3, cells := 0, slots := 0, locals := 77 }) (va_Pc [.ref h0, .int p0] (fun U => U.heap.size = sz ∧ PW dC dI (mW h0 v cI cZ u) [(cI, .int), (cZ, .boolean)] U ∧ va_D (fun _ => True) (mW h0 v cI cZ u))) (va_Qi (fun (r : Int32) (u9 : mS) => flX u p0 r u9) (fun u9 t => va_P (dC, dI) vwCl (mW h0 v cI cZ u9) t.heap ∧ va_D (va_A (mW h0 v cI cZ u) sz) (mW h0 v cI cZ u9)) (va_A (mW h0 v cI cZ u) sz)) 0 0 (va_A (mW h0 v cI cZ u) sz) := by
  refine Met.ofW (cc := cX12_fill) (maxL := 7) (ret := (some .int)) (by decide) rfl ?_
  intro p e s m args below meth c s₁ B hml hv
  obtain ⟨rfl, hsz, ⟨hP, hK, hN⟩, hD0⟩ := hv
  have hx := B.exec
  have hb := B.bytes
  have hr := B.returns
  have hts := atoms_spec (ws := wsX12_fill) B.pre
  have hown : s.vm.findClass RX12 = some m.cls := findClass_of_methodNamed B.named
  have hlocks := B.notSynchronized
  subst hsz
  have hD := hD0.self (sz := s.heap.size)
  generalize hAe : va_A (mW h0 v cI cZ u) s.heap.size = A at hD ⊢
  have hA : ∀ q : Nat, s.heap.size ≤ q → A q := fun q h => by rw [← hAe]; exact Or.inr h
  have hS : va_S A s.heap s.heap [] := va_S.rf
  have hl := lv_entry ([.ref h0, .int p0]) (n := 7) (Nat.le_of_ble_eq_true rfl)
  rw [lg_entry_eq]
  generalize (lg_sl ([.ref h0, .int p0]) ++ List.replicate (7 - (lg_sl ([.ref h0, .int p0])).length) Slot.unset).toArray = ls at hl ⊢
  have hl : lv_has ls 7 [(0, .ref h0), (1, .int p0)] := hl
  refine lv_iload_n hx hb dX12_fill_0 rfl (lv_at hl 1 rfl) ?_
  refine vp_callSi (va_runS (As := [.int p0]) (rest := []) ⟨hx, hb, hml, hown, hts⟩ (m_isPage l dC dI p0) (va_cwS 1 hts gX12_fill_X12_isPage rfl rfl rfl zh_X12_isPage_4 ⟨Nat.le_of_ble_eq_true rfl, Nat.le_of_ble_eq_true rfl⟩) ⟨pw_fb, fun U hU hW => ⟨rfl, pw_to hU hW (hP.sub (ws' := []) [] rfl) (hK.sub (tys' := []) [] rfl) hN⟩⟩ rfl rfl hl.1 rfl (lv_room (Nat.le_of_ble_eq_true rfl)) dX12_fill_1 ⟨Nat.le_of_ble_eq_true rfl, Nat.le_of_ble_eq_true rfl⟩).run (fun r hw => ?_)
  rcases Bool.eq_false_or_eq_true (bw p0 0 11) with b_1 | b_1
  ·
    obtain rfl : r = 1 := b_t hw b_1
    refine lv_if_eq (tgt := 17) hx hb dX12_fill_4 (by decide) (fun c_2 => absurd c_2 (by decide)) (fun c_2 => ?_)
    refine lv_aload_n hx hb dX12_fill_7 rfl (lv_at hl 0 rfl) ?_
    refine va_get (D := (dC, dI)) (ci := 11) (v := .int (u.1 28)) (C := RX12) (T := TX12) (N := 52) hx hb hts zl_X12_fill_X12 hown hK hP 0 rfl rfl 28 (by decide) (hts (.fieldLink RX12 158 "PageOneModel" "acts" "I") (zat q_wsX12_fill k_wsX12_fill 910 rfl (by decide +kernel))) (fun _ h9 => h9) rfl dX12_fill_8 ?_
    refine lv_sipush (v := 300) hx hb dX12_fill_11 (by decide) ?_
    refine lv_icmp_ne (tgt := 19) hx hb dX12_fill_14 (by decide) (fun c_3 => ?_) (fun c_3 => ?_)
    ·
      refine lv_iconst (v := 0) hx hb dX12_fill_19 (by decide) ?_
      refine lv_istore_n (lv' := [(2, .int 0), (0, .ref h0), (1, .int p0)]) hx hb dX12_fill_20 rfl hl (by decide) rfl (fun ls hl => ?_)
      refine lv_iconst (v := 0) hx hb dX12_fill_21 (by decide) ?_
      refine lv_istore_n (lv' := [(3, .int 0), (2, .int 0), (0, .ref h0), (1, .int p0)]) hx hb dX12_fill_22 rfl hl (by decide) rfl (fun ls hl => ?_)
      have hb11 := b_1
      obtain ⟨P, hP12, -, eP⟩ := exN b_1 (by decide)
      have h11 : (11 : Int32).toInt = 11 := rfl
      subst eP
      obtain ⟨eK, eK2, eK3⟩ := nI_of_bw hn
      have h80 : (80 : Int32).toInt = 80 := rfl
      refine n_fl_out (u0 := u) (P := P) (M := (u.1 3).toNatClampNeg) (by omega) (by omega) eK hfb hln hx hb hml hts hown hN hK (Nat.le_of_ble_eq_true rfl) (Nat.le_of_ble_eq_true rfl) (Nat.le_of_ble_eq_true rfl) (Nat.le_of_ble_eq_true rfl) hA (fun u2 H locs xs ls hg hP hD hS hl => ?_) 9 0 u _ _ [] ls (by decide) (by decide) ⟨trivial, rfl, u, q37_rf u, rfl⟩ hP hD hS (lv_sub hl [0, 1, 2, 3] rfl)
      obtain ⟨hgf, hgu, uc, hg3, hg4⟩ := id hg
      refine lv_iload_n hx hb dX12_fill_177 rfl (lv_at hl 1 rfl) ?_
      refine lv_if_ne (tgt := 183) hx hb dX12_fill_178 (by decide) (fun c_4 => ?_) (fun c_4 => ?_)
      ·
        refine lv_aload_n hx hb dX12_fill_183 rfl (lv_at hl 2 rfl) ?_
        refine lv_iconst (v := 3) hx hb dX12_fill_184 (by decide) ?_
        refine lv_iload_n hx hb dX12_fill_185 rfl (lv_at hl 1 rfl) ?_
        refine lv_iconst (v := 0) hx hb dX12_fill_186 (by decide) ?_
        refine lv_iconst (v := 0) hx hb dX12_fill_187 (by decide) ?_
        refine lv_iconst (v := 0) hx hb dX12_fill_188 (by decide) ?_
        refine lv_iconst (v := 0) hx hb dX12_fill_189 (by decide) ?_
        refine lv_iconst (v := 0) hx hb dX12_fill_190 (by decide) ?_
        have hFc := fr_all hD hS hA
        refine va_callv (va_runV (As := [.int 3, .int (nI xs.length), .int 0, .int 0, .int 0, .int 0, .int 0]) (rest := []) ⟨hx, hb, hml, hown, hts⟩ (m_acts l dC dI h0 v cI cZ u2 3 (nI xs.length) 0 0 0 0 0 (by rw [hg.2.1, (fillR_k u xs).1]; exact v300 ha c_3) H.size) (cwV 7 hts gX12_fill_X12_acts rfl rfl rfl zh_X12_acts_10 ⟨Nat.le_of_ble_eq_true rfl, Nat.le_of_ble_eq_true rfl⟩) ⟨gw_fb, va_recv hK hP (ci := 11) (q0 := 0) rfl rfl, fun U hU hW => ⟨rfl, by rw [hU], pw_to hU hW hP hK hN, hD.weaken (fun _ _ _ _ => trivial)⟩⟩ rfl rfl hl.1 rfl (lv_room (Nat.le_of_ble_eq_true rfl)) dX12_fill_191 ⟨Nat.le_of_ble_eq_true rfl, Nat.le_of_ble_eq_true rfl⟩) hS (fun q _ h => hFc q h) hFc (fun u_5 t H1 locs ht hvm hw hB hz1 hk1 hS => ?_)
        obtain ⟨hP, hD1⟩ := hB
        rw [ht] at hP
        have hD := hD1.weaken (fun _ q _ h => hFc q.1 h)
        generalize H1 = H at hP hS ⊢
        have eu_5 := hw
        refine lv_aload_n hx hb dX12_fill_194 rfl (lv_at hl 2 rfl) ?_
        refine lv_dup hx hb dX12_fill_195 rfl ?_
        refine va_get (D := (dC, dI)) (ci := 11) (v := .int (u_5.1 36)) (C := RX12) (T := TX12) (N := 52) hx hb hts zl_X12_fill_X12 hown hK hP 0 rfl rfl 36 (by decide) (hts (.fieldLink RX12 168 "PageOneModel" "filled" "I") (zat q_wsX12_fill k_wsX12_fill 918 rfl (by decide +kernel))) (fun _ h9 => h9) rfl dX12_fill_196 ?_
        refine lv_iload_n hx hb dX12_fill_199 rfl (lv_at hl 1 rfl) ?_
        refine lv_iadd hx hb dX12_fill_200 ?_
        refine va_put (D := (dC, dI)) (ci := 11) (v := .int ((u_5.1 36) + (nI xs.length))) (ty := .int) (C := RX12) (T := TX12) (N := 52) hx hb hts zl_X12_fill_X12 tyX12 tyX12_ok nmX12 hown hK hP hD hS 0 rfl rfl 36 (by decide) (hts (.fieldLink RX12 168 "PageOneModel" "filled" "I") (zat q_wsX12_fill k_wsX12_fill 918 rfl (by decide +kernel))) (fun _ h9 => h9) rfl (tyX12_ok 36 (by decide)) rfl rfl (Nat.le_of_ble_eq_true rfl) dX12_fill_201 (fun H locs hP hD hS => ?_)
        obtain ⟨u_6, eu_6⟩ : ∃ zz : mS, zz = mset u_5 36 ((u_5.1 36) + (nI xs.length)) := ⟨_, rfl⟩
        have hP : va_P (dC, dI) vwCl (mW h0 v cI cZ u_6) H := by rw [eu_6]; exact hP
        have hD : va_D A (mW h0 v cI cZ u_6) := by rw [eu_6]; exact hD
        refine lv_iload_n hx hb dX12_fill_204 rfl (lv_at hl 1 rfl) ?_
        exact W.iret (v := (nI xs.length)) hx hb hr (fun t ht hW => ⟨⟨(nI xs.length), u_6, rfl, (Or.inr ⟨hb11, c_3, uc, xs, by rw [nI_clamp (by omega)]; exact hg4, by rw [← hgu]; exact hg3, hgf, Or.inr ⟨fun h => c_4 (by rw [h]; rfl), rfl, by rw [eu_6, eu_5, hg.2.1]; rfl⟩⟩), by rw [ht]; exact hP, hD⟩, hS.F ht⟩) hS.2.2 dX12_fill_205
      ·
        refine lv_iconst (v := 0) hx hb dX12_fill_181 (by decide) ?_
        exact W.iret (v := 0) hx hb hr (fun t ht hW => ⟨⟨0, u2, rfl, (Or.inr ⟨hb11, c_3, uc, xs, by rw [nI_clamp (by omega)]; exact hg4, by rw [← hgu]; exact hg3, hgf, Or.inl ⟨fl_nil hfb hg.1 c_4, rfl, by rw [hg.2.1, fl_nil hfb hg.1 c_4]; rfl⟩⟩), by rw [ht]; exact hP, hD⟩, hS.F ht⟩) hS.2.2 dX12_fill_182
    ·
      refine lv_iconst (v := (-1)) hx hb dX12_fill_17 (by decide) ?_
      exact W.iret (v := (-1)) hx hb hr (fun t ht hW => ⟨⟨(-1), u, rfl, (Or.inl ⟨Or.inr c_3, rfl, rfl⟩), by rw [ht]; exact hP, hD⟩, hS.F ht⟩) hS.2.2 dX12_fill_18
  ·
    obtain rfl : r = 0 := b_f hw b_1
    refine lv_if_eq (tgt := 17) hx hb dX12_fill_4 (by decide) (fun c_7 => ?_) (fun c_7 => absurd (by decide) c_7)
    refine lv_iconst (v := (-1)) hx hb dX12_fill_17 (by decide) ?_
    exact W.iret (v := (-1)) hx hb hr (fun t ht hW => ⟨⟨(-1), u, rfl, (Or.inl ⟨Or.inl (bne b_1), rfl, rfl⟩), by rw [ht]; exact hP, hD⟩, hS.F ht⟩) hS.2.2 dX12_fill_18
/-- w tells the least of what u told and of T -/
def bst (u w : mS) (T : tr3 → Prop) : Prop := ∀ S, best S (wr3 u) → best (fun t => S t ∨ T t) (wr3 w)
theorem bst_0 (u : mS) : bst u u (fun _ => False) := fun S h => best_c h (fun t => ⟨Or.inl, fun q => q.elim id False.elim⟩)
theorem bst_no {u w : mS} {T T2 : tr3 → Prop} (h : bst u w T) (h2 : ∀ t, ¬ T2 t) : bst u w (fun t => T t ∨ T2 t) := fun S hS => best_c (h S hS) (fun t => ⟨fun q => q.elim Or.inl (fun z => Or.inr (Or.inl z)), fun q => q.elim Or.inl (fun z => z.elim Or.inr (fun y => absurd y (h2 t)))⟩)
theorem bst_add {u w w2 : mS} {T T2 : tr3 → Prop} {k a b : Int32} (h : bst u w T) (hw : w2 = mWrongs w k a b) (hk : ¬ k = 0) (h2 : ∀ t, T2 t ↔ t = trN k a b) : bst u w2 (fun t => T t ∨ T2 t) := fun S hS => by
  rw [hw]
  exact best_c (best_wr (h S hS) hk) (fun t => ⟨fun q => q.elim (fun z => z.elim Or.inl (fun y => Or.inr (Or.inl y))) (fun z => Or.inr (Or.inr ((h2 t).mpr z))), fun q => q.elim (fun z => Or.inl (Or.inl z)) (fun z => z.elim (fun y => Or.inl (Or.inr y)) (fun y => Or.inr ((h2 t).mp y)))⟩)
theorem bst_c {u w : mS} {T T2 : tr3 → Prop} (h : bst u w T) (e : ∀ t, T t ↔ T2 t) : bst u w T2 := fun S hS => best_c (h S hS) (fun t => ⟨fun q => q.elim Or.inl (fun z => Or.inr ((e t).mp z)), fun q => q.elim Or.inl (fun z => Or.inr ((e t).mpr z))⟩)
theorem bst_tr {u v w : mS} {T T2 : tr3 → Prop} (h : bst u v T) (h2 : bst v w T2) : bst u w (fun t => T t ∨ T2 t) := fun S hS => best_c (h2 _ (h S hS)) (fun t => ⟨fun q => q.elim (fun z => z.elim Or.inl (fun y => Or.inr (Or.inl y))) (fun z => Or.inr (Or.inr z)), fun q => q.elim (fun z => Or.inl (Or.inl z)) (fun z => z.elim (fun y => Or.inl (Or.inr y)) Or.inr)⟩)
/-- what may not stand beside one another -/
def bC1 (u : mS) (a b : Int32) : Prop := u.2 4 a.toNatClampNeg = 3 ∧ u.2 4 b.toNatClampNeg = 3 ∧ ¬ u.2 20 (10 * u.2 10 a.toNatClampNeg + u.2 10 b.toNatClampNeg).toNatClampNeg = 0
def bCa (u : mS) (a b : Int32) : Prop := u.2 4 a.toNatClampNeg = 3 ∧ u.2 4 b.toNatClampNeg = 0 ∧ ¬ u.2 21 (10 * b + u.2 10 a.toNatClampNeg).toNatClampNeg = 0
def bC3 (u : mS) (a b ac : Int32) : Prop := ¬ ac = 0 ∧ u.2 4 a.toNatClampNeg = 1 ∧ u.2 4 b.toNatClampNeg = 1
def bT1 (u : mS) (a b : Int32) (t : tr3) : Prop := bC1 u a b ∧ t = trN 1 a b
def bT2 (u : mS) (a b : Int32) (t : tr3) : Prop := (bCa u a b ∨ bCa u b a) ∧ t = trN 2 a b
def bT3 (u : mS) (a b ac : Int32) (t : tr3) : Prop := bC3 u a b ac ∧ t = trN 3 a b
def bsT (u : mS) (a b ac : Int32) (t : tr3) : Prop := (mThing a = true ∧ mThing b = true ∧ ¬ a = b) ∧ (bT1 u a b t ∨ bT2 u a b t ∨ bT3 u a b ac t)
theorem bst_3 {u w : mS} {a b ac : Int32} (ha : mThing a = true) (hb : mThing b = true) (hab : ¬ a = b) (h : bst u w (fun t => ((False ∨ bT1 u a b t) ∨ bT2 u a b t) ∨ bT3 u a b ac t)) : bst u w (bsT u a b ac) := bst_c h (fun t => ⟨fun q => ⟨⟨ha, hb, hab⟩, q.elim (fun z => z.elim (fun y => Or.inl (y.elim False.elim id)) (fun y => Or.inr (Or.inl y))) (fun z => Or.inr (Or.inr z))⟩, fun q => q.2.elim (fun z => Or.inl (Or.inl (Or.inr z))) (fun z => z.elim (fun y => Or.inl (Or.inr y)) Or.inr)⟩)
theorem bst_n {u : mS} {a b ac : Int32} (h : ¬ (mThing a = true ∧ mThing b = true ∧ ¬ a = b)) : bst u u (bsT u a b ac) := bst_c (bst_0 u) (fun t => ⟨False.elim, fun q => h q.1⟩)
set_option maxHeartbeats 4000000 in
set_option maxRecDepth 100000 in
theorem n_beside (l : Launch) (dC : Nat → ClassId) (dI : Nat → Nat → Nat) (h0 : Nat) (v : Nat → Nat) (cI cZ : ClassId) (u : mS) (p0 p1 p2 : Int32) (ha9 : mThing p0 = true → bw p0 0 79 = true) (hb9 : mThing p1 = true → bw p1 0 79 = true) (hk : ∀ j, j < 80 → u.2 4 j = 3 → bw (u.2 10 j) 0 9 = true) (sz : Nat) : Met l yX12_beside wsX12_beside ({ frames := 1, cells := 0, slots := 0, locals := 25 }) (va_Pc [.ref h0, .int p0, .int p1, .int p2] (fun U => U.heap.size = sz ∧ PW dC dI (mW h0 v cI cZ u) [(cI, .int), (cZ, .boolean)] U ∧ va_D (fun _ => True) (mW h0 v cI cZ u))) (va_Qv (fun u9 : mS => mE u u9 ∧ bst u u9 (bsT u p0 p1 p2)) (fun u9 t => va_P (dC, dI) vwCl (mW h0 v cI cZ u9) t.heap ∧ va_D (va_A (mW h0 v cI cZ u) sz) (mW h0 v cI cZ u9)) (va_A (mW h0 v cI cZ u) sz)) 0 0 (va_A (mW h0 v cI cZ u) sz) := by
  refine Met.ofW (cc := cX12_beside) (maxL := 4) (ret := none) (by decide) rfl ?_
  intro p e s m args below meth c s₁ B hml hv
  obtain ⟨rfl, hsz, ⟨hP, hK, hN⟩, hD0⟩ := hv
  have hx := B.exec
  have hb := B.bytes
  have hr := B.returns
  have hts := atoms_spec (ws := wsX12_beside) B.pre
  have hown : s.vm.findClass RX12 = some m.cls := findClass_of_methodNamed B.named
  have hlocks := B.notSynchronized
  subst hsz
  have hD := hD0.self (sz := s.heap.size)
  generalize hAe : va_A (mW h0 v cI cZ u) s.heap.size = A at hD ⊢
  have hA : ∀ q : Nat, s.heap.size ≤ q → A q := fun q h => by rw [← hAe]; exact Or.inr h
  have hS : va_S A s.heap s.heap [] := va_S.rf
  have hl := lv_entry ([.ref h0, .int p0, .int p1, .int p2]) (n := 4) (Nat.le_of_ble_eq_true rfl)
  rw [lg_entry_eq]
  generalize (lg_sl ([.ref h0, .int p0, .int p1, .int p2]) ++ List.replicate (4 - (lg_sl ([.ref h0, .int p0, .int p1, .int p2])).length) Slot.unset).toArray = ls at hl ⊢
  have hl : lv_has ls 4 [(0, .ref h0), (1, .int p0), (2, .int p1), (3, .int p2)] := hl
  refine lv_aload_n hx hb dX12_beside_0 rfl (lv_at hl 0 rfl) ?_
  refine lv_iload_n hx hb dX12_beside_1 rfl (lv_at hl 1 rfl) ?_
  refine vp_callSi (va_runV (As := [.int p0]) (rest := []) ⟨hx, hb, hml, hown, hts⟩ (m_isThing l dC dI h0 v cI cZ u p0) (cwV 1 hts gX12_beside_X12_isThing rfl rfl rfl zh_X12_isThing_20 ⟨Nat.le_of_ble_eq_true rfl, Nat.le_of_ble_eq_true rfl⟩) ⟨pw_fb, va_recv hK hP (ci := 11) (q0 := 0) rfl rfl, fun U hU hW => ⟨rfl, pw_to hU hW hP hK hN⟩⟩ rfl rfl hl.1 rfl (lv_room (Nat.le_of_ble_eq_true rfl)) dX12_beside_2 ⟨Nat.le_of_ble_eq_true rfl, Nat.le_of_ble_eq_true rfl⟩).run (fun r hw => ?_)
  rcases Bool.eq_false_or_eq_true (mThing p0) with b_1 | b_1
  ·
    obtain rfl : r = 1 := b_t hw b_1
    refine lv_if_eq (tgt := 21) hx hb dX12_beside_5 (by decide) (fun c_2 => absurd c_2 (by decide)) (fun c_2 => ?_)
    refine lv_aload_n hx hb dX12_beside_8 rfl (lv_at hl 0 rfl) ?_
    refine lv_iload_n hx hb dX12_beside_9 rfl (lv_at hl 2 rfl) ?_
    refine vp_callSi (va_runV (As := [.int p1]) (rest := []) ⟨hx, hb, hml, hown, hts⟩ (m_isThing l dC dI h0 v cI cZ u p1) (cwV 1 hts gX12_beside_X12_isThing rfl rfl rfl zh_X12_isThing_20 ⟨Nat.le_of_ble_eq_true rfl, Nat.le_of_ble_eq_true rfl⟩) ⟨pw_fb, va_recv hK hP (ci := 11) (q0 := 0) rfl rfl, fun U hU hW => ⟨rfl, pw_to hU hW hP hK hN⟩⟩ rfl rfl hl.1 rfl (lv_room (Nat.le_of_ble_eq_true rfl)) dX12_beside_10 ⟨Nat.le_of_ble_eq_true rfl, Nat.le_of_ble_eq_true rfl⟩).run (fun r hw => ?_)
    rcases Bool.eq_false_or_eq_true (mThing p1) with b_3 | b_3
    ·
      obtain rfl : r = 1 := b_t hw b_3
      refine lv_if_eq (tgt := 21) hx hb dX12_beside_13 (by decide) (fun c_4 => absurd c_4 (by decide)) (fun c_4 => ?_)
      refine lv_iload_n hx hb dX12_beside_16 rfl (lv_at hl 1 rfl) ?_
      refine lv_iload_n hx hb dX12_beside_17 rfl (lv_at hl 2 rfl) ?_
      refine lv_icmp_ne (tgt := 22) hx hb dX12_beside_18 (by decide) (fun c_5 => ?_) (fun c_5 => ?_)
      ·
        have hA9 := ha9 b_1
        have hB9 := hb9 b_3
        have hg : mE u u := mE_rf u
        refine w_cut (X := fun R cells slots Q args => ∀ (uJ156 : mS) (H : Heap) (locs : List Loc) (ls : Array Slot), mE u uJ156 → bst u uJ156 (fun t => (False ∨ bT1 u p0 p1 t) ∨ bT2 u p0 p1 t) → va_P (dC, dI) vwCl (mW h0 v cI cZ uJ156) H → va_D A (mW h0 v cI cZ uJ156) → va_S A s.heap H locs → lv_has ls 4 [(0, .ref h0), (1, .int p0), (2, .int p1), (3, .int p2)] → W p l e R s m args below meth c H locs cells slots Q (F0 m 156 ls [])) ?_ (fun kJ156 => ?_)
        ·
          intro uJ156 H locs ls hg hB156 hP hD hS hl
          refine lv_iload_n hx hb dX12_beside_156 rfl (lv_at hl 3 rfl) ?_
          refine lv_if_eq (tgt := 187) hx hb dX12_beside_157 (by decide) (fun c_6 => ?_) (fun c_6 => ?_)
          ·
            exact W.vret hx hb hr (fun t ht hW => ⟨⟨uJ156, rfl, ⟨hg, bst_3 b_1 b_3 c_5 (bst_no hB156 (fun t q => (fun h => h.1 c_6) q.1))⟩, by rw [ht]; exact hP, hD⟩, hS.F ht⟩) hS.2.2 dX12_beside_187
          ·
            refine lv_aload_n hx hb dX12_beside_160 rfl (lv_at hl 0 rfl) ?_
            refine va_get (D := (dC, dI)) (ci := 11) (v := .ref (v 4)) (C := RX12) (T := TX12) (N := 52) hx hb hts zl_X12_beside_X12 hown hK hP 0 rfl rfl 4 (by decide) (hts (.fieldLink RX12 19 "PageOneModel" "kind" "[I") (zat q_wsX12_beside k_wsX12_beside 886 rfl (by decide +kernel))) (fun _ h9 => h9) rfl dX12_beside_161 ?_
            refine lv_iload_n hx hb dX12_beside_164 rfl (lv_at hl 1 rfl) ?_
            refine va_iald hx hb hK hP 4 0 rfl rfl (vin hA9 (by decide)) dX12_beside_165 ?_
            refine lv_iconst (v := 1) hx hb dX12_beside_166 (by decide) ?_
            refine lv_icmp_ne (tgt := 187) hx hb dX12_beside_167 (by decide) (fun c_7 => ?_) (fun c_7 => ?_)
            ·
              exact W.vret hx hb hr (fun t ht hW => ⟨⟨uJ156, rfl, ⟨hg, bst_3 b_1 b_3 c_5 (bst_no hB156 (fun t q => (fun h => by unfold bC3 at h; rw [← hg.1] at h; first | exact c_7 h.2.1 | exact h.2.1 c_7) q.1))⟩, by rw [ht]; exact hP, hD⟩, hS.F ht⟩) hS.2.2 dX12_beside_187
            ·
              refine lv_aload_n hx hb dX12_beside_170 rfl (lv_at hl 0 rfl) ?_
              refine va_get (D := (dC, dI)) (ci := 11) (v := .ref (v 4)) (C := RX12) (T := TX12) (N := 52) hx hb hts zl_X12_beside_X12 hown hK hP 0 rfl rfl 4 (by decide) (hts (.fieldLink RX12 19 "PageOneModel" "kind" "[I") (zat q_wsX12_beside k_wsX12_beside 886 rfl (by decide +kernel))) (fun _ h9 => h9) rfl dX12_beside_171 ?_
              refine lv_iload_n hx hb dX12_beside_174 rfl (lv_at hl 2 rfl) ?_
              refine va_iald hx hb hK hP 4 0 rfl rfl (vin hB9 (by decide)) dX12_beside_175 ?_
              refine lv_iconst (v := 1) hx hb dX12_beside_176 (by decide) ?_
              refine lv_icmp_ne (tgt := 187) hx hb dX12_beside_177 (by decide) (fun c_8 => ?_) (fun c_8 => ?_)
              ·
                exact W.vret hx hb hr (fun t ht hW => ⟨⟨uJ156, rfl, ⟨hg, bst_3 b_1 b_3 c_5 (bst_no hB156 (fun t q => (fun h => by unfold bC3 at h; rw [← hg.1] at h; first | exact c_8 h.2.2 | exact h.2.2 c_8) q.1))⟩, by rw [ht]; exact hP, hD⟩, hS.F ht⟩) hS.2.2 dX12_beside_187
              ·
                refine lv_aload_n hx hb dX12_beside_180 rfl (lv_at hl 0 rfl) ?_
                refine lv_iconst (v := 3) hx hb dX12_beside_181 (by decide) ?_
                refine lv_iload_n hx hb dX12_beside_182 rfl (lv_at hl 1 rfl) ?_
                refine lv_iload_n hx hb dX12_beside_183 rfl (lv_at hl 2 rfl) ?_
                have hg8 := hg
                have hFc := fr_all hD hS hA
                refine va_callv (va_runV (As := [.int 3, .int p0, .int p1]) (rest := []) ⟨hx, hb, hml, hown, hts⟩ (m_wrongs l dC dI h0 v cI cZ uJ156 3 p0 p1 H.size) (cwV 3 hts gX12_beside_X12_wrongs rfl rfl rfl zh_X12_wrongs_21 ⟨Nat.le_of_ble_eq_true rfl, Nat.le_of_ble_eq_true rfl⟩) ⟨gw_fb, va_recv hK hP (ci := 11) (q0 := 0) rfl rfl, fun U hU hW => ⟨rfl, by rw [hU], pw_to hU hW hP hK hN, hD.weaken (fun _ _ _ _ => trivial)⟩⟩ rfl rfl hl.1 rfl (lv_room (Nat.le_of_ble_eq_true rfl)) dX12_beside_184 ⟨Nat.le_of_ble_eq_true rfl, Nat.le_of_ble_eq_true rfl⟩) hS (fun q _ h => hFc q h) hFc (fun u_9 t H1 locs ht hvm hw hB hz1 hk1 hS => ?_)
                obtain ⟨hP, hD1⟩ := hB
                rw [ht] at hP
                have hD := hD1.weaken (fun _ q _ h => hFc q.1 h)
                generalize H1 = H at hP hS ⊢
                have hg := mE_wr hg hw
                have hwr := hw
                exact W.vret hx hb hr (fun t ht hW => ⟨⟨u_9, rfl, ⟨hg, bst_3 b_1 b_3 c_5 (bst_add hB156 hwr (by decide) (fun t => ⟨fun h => h.2, fun h => ⟨(by unfold bC3; rw [← hg8.1]; exact ⟨c_6, c_7, c_8⟩), h⟩⟩))⟩, by rw [ht]; exact hP, hD⟩, hS.F ht⟩) hS.2.2 dX12_beside_187
        ·
          refine w_cut (X := fun R cells slots Q args => ∀ (uJ149 : mS) (H : Heap) (locs : List Loc) (ls : Array Slot), mE u uJ149 → bst u uJ149 (fun t => False ∨ bT1 u p0 p1 t) → (bCa u p0 p1 ∨ bCa u p1 p0) → va_P (dC, dI) vwCl (mW h0 v cI cZ uJ149) H → va_D A (mW h0 v cI cZ uJ149) → va_S A s.heap H locs → lv_has ls 4 [(0, .ref h0), (1, .int p0), (2, .int p1), (3, .int p2)] → W p l e R s m args below meth c H locs cells slots Q (F0 m 149 ls [])) ?_ (fun kJ149 => ?_)
          ·
            intro uJ149 H locs ls hg hB149 hY149 hP hD hS hl
            refine lv_aload_n hx hb dX12_beside_149 rfl (lv_at hl 0 rfl) ?_
            refine lv_iconst (v := 2) hx hb dX12_beside_150 (by decide) ?_
            refine lv_iload_n hx hb dX12_beside_151 rfl (lv_at hl 1 rfl) ?_
            refine lv_iload_n hx hb dX12_beside_152 rfl (lv_at hl 2 rfl) ?_
            have hg8 := hg
            have hFc := fr_all hD hS hA
            refine va_callv (va_runV (As := [.int 2, .int p0, .int p1]) (rest := []) ⟨hx, hb, hml, hown, hts⟩ (m_wrongs l dC dI h0 v cI cZ uJ149 2 p0 p1 H.size) (cwV 3 hts gX12_beside_X12_wrongs rfl rfl rfl zh_X12_wrongs_21 ⟨Nat.le_of_ble_eq_true rfl, Nat.le_of_ble_eq_true rfl⟩) ⟨gw_fb, va_recv hK hP (ci := 11) (q0 := 0) rfl rfl, fun U hU hW => ⟨rfl, by rw [hU], pw_to hU hW hP hK hN, hD.weaken (fun _ _ _ _ => trivial)⟩⟩ rfl rfl hl.1 rfl (lv_room (Nat.le_of_ble_eq_true rfl)) dX12_beside_153 ⟨Nat.le_of_ble_eq_true rfl, Nat.le_of_ble_eq_true rfl⟩) hS (fun q _ h => hFc q h) hFc (fun u_10 t H1 locs ht hvm hw hB hz1 hk1 hS => ?_)
            obtain ⟨hP, hD1⟩ := hB
            rw [ht] at hP
            have hD := hD1.weaken (fun _ q _ h => hFc q.1 h)
            generalize H1 = H at hP hS ⊢
            have hg := mE_wr hg hw
            have hwr := hw
            exact kJ156 _ _ _ ls hg (bst_add hB149 hwr (by decide) (fun t => ⟨fun h => h.2, fun h => ⟨hY149, h⟩⟩)) hP hD hS (lv_sub hl [0, 1, 2, 3] rfl)
          ·
            refine w_cut (X := fun R cells slots Q args => ∀ (uJ111 : mS) (H : Heap) (locs : List Loc) (ls : Array Slot), mE u uJ111 → bst u uJ111 (fun t => False ∨ bT1 u p0 p1 t) → ¬ bCa u p0 p1 → va_P (dC, dI) vwCl (mW h0 v cI cZ uJ111) H → va_D A (mW h0 v cI cZ uJ111) → va_S A s.heap H locs → lv_has ls 4 [(0, .ref h0), (1, .int p0), (2, .int p1), (3, .int p2)] → W p l e R s m args below meth c H locs cells slots Q (F0 m 111 ls [])) ?_ (fun kJ111 => ?_)
            ·
              intro uJ111 H locs ls hg hB111 hN111 hP hD hS hl
              refine lv_aload_n hx hb dX12_beside_111 rfl (lv_at hl 0 rfl) ?_
              refine va_get (D := (dC, dI)) (ci := 11) (v := .ref (v 4)) (C := RX12) (T := TX12) (N := 52) hx hb hts zl_X12_beside_X12 hown hK hP 0 rfl rfl 4 (by decide) (hts (.fieldLink RX12 19 "PageOneModel" "kind" "[I") (zat q_wsX12_beside k_wsX12_beside 886 rfl (by decide +kernel))) (fun _ h9 => h9) rfl dX12_beside_112 ?_
              refine lv_iload_n hx hb dX12_beside_115 rfl (lv_at hl 2 rfl) ?_
              refine va_iald hx hb hK hP 4 0 rfl rfl (vin hB9 (by decide)) dX12_beside_116 ?_
              refine lv_iconst (v := 3) hx hb dX12_beside_117 (by decide) ?_
              refine lv_icmp_ne (tgt := 156) hx hb dX12_beside_118 (by decide) (fun c_11 => ?_) (fun c_11 => ?_)
              ·
                exact kJ156 _ _ _ ls hg (bst_no hB111 (fun t q => q.1.elim hN111 (fun h => by unfold bCa at h; rw [← hg.1] at h; first | exact c_11 h.1 | exact h.1 c_11))) hP hD hS (lv_sub hl [0, 1, 2, 3] rfl)
              ·
                refine lv_aload_n hx hb dX12_beside_121 rfl (lv_at hl 0 rfl) ?_
                refine va_get (D := (dC, dI)) (ci := 11) (v := .ref (v 4)) (C := RX12) (T := TX12) (N := 52) hx hb hts zl_X12_beside_X12 hown hK hP 0 rfl rfl 4 (by decide) (hts (.fieldLink RX12 19 "PageOneModel" "kind" "[I") (zat q_wsX12_beside k_wsX12_beside 886 rfl (by decide +kernel))) (fun _ h9 => h9) rfl dX12_beside_122 ?_
                refine lv_iload_n hx hb dX12_beside_125 rfl (lv_at hl 1 rfl) ?_
                refine va_iald hx hb hK hP 4 0 rfl rfl (vin hA9 (by decide)) dX12_beside_126 ?_
                refine lv_if_ne (tgt := 156) hx hb dX12_beside_127 (by decide) (fun c_12 => ?_) (fun c_12 => ?_)
                ·
                  exact kJ156 _ _ _ ls hg (bst_no hB111 (fun t q => q.1.elim hN111 (fun h => by unfold bCa at h; rw [← hg.1] at h; first | exact c_12 h.2.1 | exact h.2.1 c_12))) hP hD hS (lv_sub hl [0, 1, 2, 3] rfl)
                ·
                  refine lv_aload_n hx hb dX12_beside_130 rfl (lv_at hl 0 rfl) ?_
                  refine va_get (D := (dC, dI)) (ci := 11) (v := .ref (v 21)) (C := RX12) (T := TX12) (N := 52) hx hb hts zl_X12_beside_X12 hown hK hP 0 rfl rfl 21 (by decide) (hts (.fieldLink RX12 71 "PageOneModel" "isNamed" "[Z") (zat q_wsX12_beside k_wsX12_beside 903 rfl (by decide +kernel))) (fun _ h9 => h9) rfl dX12_beside_131 ?_
                  refine lv_bipush (v := 10) hx hb dX12_beside_134 (by decide) ?_
                  refine lv_iload_n hx hb dX12_beside_136 rfl (lv_at hl 1 rfl) ?_
                  refine lv_imul hx hb dX12_beside_137 ?_
                  refine lv_aload_n hx hb dX12_beside_138 rfl (lv_at hl 0 rfl) ?_
                  refine va_get (D := (dC, dI)) (ci := 11) (v := .ref (v 10)) (C := RX12) (T := TX12) (N := 52) hx hb hts zl_X12_beside_X12 hown hK hP 0 rfl rfl 10 (by decide) (hts (.fieldLink RX12 37 "PageOneModel" "buyer" "[I") (zat q_wsX12_beside k_wsX12_beside 892 rfl (by decide +kernel))) (fun _ h9 => h9) rfl dX12_beside_139 ?_
                  refine lv_iload_n hx hb dX12_beside_142 rfl (lv_at hl 2 rfl) ?_
                  refine va_iald hx hb hK hP 10 0 rfl rfl (vin hB9 (by decide)) dX12_beside_143 ?_
                  refine lv_iadd hx hb dX12_beside_144 ?_
                  refine va_zald hx hb hK hP 21 1 rfl rfl (vNm hA9 (mE_b hg hk hB9 c_11)) dX12_beside_145 ?_
                  refine lv_if_eq (tgt := 156) hx hb dX12_beside_146 (by decide) (fun c_13 => ?_) (fun c_13 => ?_)
                  ·
                    exact kJ156 _ _ _ ls hg (bst_no hB111 (fun t q => q.1.elim hN111 (fun h => by unfold bCa at h; rw [← hg.1] at h; first | exact c_13 h.2.2 | exact h.2.2 c_13))) hP hD hS (lv_sub hl [0, 1, 2, 3] rfl)
                  ·
                    exact kJ149 _ _ _ ls hg hB111 (Or.inr (by unfold bCa; rw [← hg.1]; exact ⟨c_11, c_12, c_13⟩)) hP hD hS (lv_sub hl [0, 1, 2, 3] rfl)
            ·
              refine w_cut (X := fun R cells slots Q args => ∀ (uJ73 : mS) (H : Heap) (locs : List Loc) (ls : Array Slot), mE u uJ73 → bst u uJ73 (fun t => False ∨ bT1 u p0 p1 t) → va_P (dC, dI) vwCl (mW h0 v cI cZ uJ73) H → va_D A (mW h0 v cI cZ uJ73) → va_S A s.heap H locs → lv_has ls 4 [(0, .ref h0), (1, .int p0), (2, .int p1), (3, .int p2)] → W p l e R s m args below meth c H locs cells slots Q (F0 m 73 ls [])) ?_ (fun kJ73 => ?_)
              ·
                intro uJ73 H locs ls hg hB73 hP hD hS hl
                refine lv_aload_n hx hb dX12_beside_73 rfl (lv_at hl 0 rfl) ?_
                refine va_get (D := (dC, dI)) (ci := 11) (v := .ref (v 4)) (C := RX12) (T := TX12) (N := 52) hx hb hts zl_X12_beside_X12 hown hK hP 0 rfl rfl 4 (by decide) (hts (.fieldLink RX12 19 "PageOneModel" "kind" "[I") (zat q_wsX12_beside k_wsX12_beside 886 rfl (by decide +kernel))) (fun _ h9 => h9) rfl dX12_beside_74 ?_
                refine lv_iload_n hx hb dX12_beside_77 rfl (lv_at hl 1 rfl) ?_
                refine va_iald hx hb hK hP 4 0 rfl rfl (vin hA9 (by decide)) dX12_beside_78 ?_
                refine lv_iconst (v := 3) hx hb dX12_beside_79 (by decide) ?_
                refine lv_icmp_ne (tgt := 111) hx hb dX12_beside_80 (by decide) (fun c_14 => ?_) (fun c_14 => ?_)
                ·
                  exact kJ111 _ _ _ ls hg hB73 (fun h => by unfold bCa at h; rw [← hg.1] at h; first | exact c_14 h.1 | exact h.1 c_14) hP hD hS (lv_sub hl [0, 1, 2, 3] rfl)
                ·
                  refine lv_aload_n hx hb dX12_beside_83 rfl (lv_at hl 0 rfl) ?_
                  refine va_get (D := (dC, dI)) (ci := 11) (v := .ref (v 4)) (C := RX12) (T := TX12) (N := 52) hx hb hts zl_X12_beside_X12 hown hK hP 0 rfl rfl 4 (by decide) (hts (.fieldLink RX12 19 "PageOneModel" "kind" "[I") (zat q_wsX12_beside k_wsX12_beside 886 rfl (by decide +kernel))) (fun _ h9 => h9) rfl dX12_beside_84 ?_
                  refine lv_iload_n hx hb dX12_beside_87 rfl (lv_at hl 2 rfl) ?_
                  refine va_iald hx hb hK hP 4 0 rfl rfl (vin hB9 (by decide)) dX12_beside_88 ?_
                  refine lv_if_ne (tgt := 111) hx hb dX12_beside_89 (by decide) (fun c_15 => ?_) (fun c_15 => ?_)
                  ·
                    exact kJ111 _ _ _ ls hg hB73 (fun h => by unfold bCa at h; rw [← hg.1] at h; first | exact c_15 h.2.1 | exact h.2.1 c_15) hP hD hS (lv_sub hl [0, 1, 2, 3] rfl)
                  ·
                    refine lv_aload_n hx hb dX12_beside_92 rfl (lv_at hl 0 rfl) ?_
                    refine va_get (D := (dC, dI)) (ci := 11) (v := .ref (v 21)) (C := RX12) (T := TX12) (N := 52) hx hb hts zl_X12_beside_X12 hown hK hP 0 rfl rfl 21 (by decide) (hts (.fieldLink RX12 71 "PageOneModel" "isNamed" "[Z") (zat q_wsX12_beside k_wsX12_beside 903 rfl (by decide +kernel))) (fun _ h9 => h9) rfl dX12_beside_93 ?_
                    refine lv_bipush (v := 10) hx hb dX12_beside_96 (by decide) ?_
                    refine lv_iload_n hx hb dX12_beside_98 rfl (lv_at hl 2 rfl) ?_
                    refine lv_imul hx hb dX12_beside_99 ?_
                    refine lv_aload_n hx hb dX12_beside_100 rfl (lv_at hl 0 rfl) ?_
                    refine va_get (D := (dC, dI)) (ci := 11) (v := .ref (v 10)) (C := RX12) (T := TX12) (N := 52) hx hb hts zl_X12_beside_X12 hown hK hP 0 rfl rfl 10 (by decide) (hts (.fieldLink RX12 37 "PageOneModel" "buyer" "[I") (zat q_wsX12_beside k_wsX12_beside 892 rfl (by decide +kernel))) (fun _ h9 => h9) rfl dX12_beside_101 ?_
                    refine lv_iload_n hx hb dX12_beside_104 rfl (lv_at hl 1 rfl) ?_
                    refine va_iald hx hb hK hP 10 0 rfl rfl (vin hA9 (by decide)) dX12_beside_105 ?_
                    refine lv_iadd hx hb dX12_beside_106 ?_
                    refine va_zald hx hb hK hP 21 1 rfl rfl (vNm hB9 (mE_b hg hk hA9 c_14)) dX12_beside_107 ?_
                    refine lv_if_ne (tgt := 149) hx hb dX12_beside_108 (by decide) (fun c_16 => ?_) (fun c_16 => ?_)
                    ·
                      exact kJ149 _ _ _ ls hg hB73 (Or.inl (by unfold bCa; rw [← hg.1]; exact ⟨c_14, c_15, c_16⟩)) hP hD hS (lv_sub hl [0, 1, 2, 3] rfl)
                    ·
                      exact kJ111 _ _ _ ls hg hB73 (fun h => by unfold bCa at h; rw [← hg.1] at h; first | exact c_16 h.2.2 | exact h.2.2 c_16) hP hD hS (lv_sub hl [0, 1, 2, 3] rfl)
              ·
                refine lv_aload_n hx hb dX12_beside_22 rfl (lv_at hl 0 rfl) ?_
                refine va_get (D := (dC, dI)) (ci := 11) (v := .ref (v 4)) (C := RX12) (T := TX12) (N := 52) hx hb hts zl_X12_beside_X12 hown hK hP 0 rfl rfl 4 (by decide) (hts (.fieldLink RX12 19 "PageOneModel" "kind" "[I") (zat q_wsX12_beside k_wsX12_beside 886 rfl (by decide +kernel))) (fun _ h9 => h9) rfl dX12_beside_23 ?_
                refine lv_iload_n hx hb dX12_beside_26 rfl (lv_at hl 1 rfl) ?_
                refine va_iald hx hb hK hP 4 0 rfl rfl (vin hA9 (by decide)) dX12_beside_27 ?_
                refine lv_iconst (v := 3) hx hb dX12_beside_28 (by decide) ?_
                refine lv_icmp_ne (tgt := 73) hx hb dX12_beside_29 (by decide) (fun c_17 => ?_) (fun c_17 => ?_)
                ·
                  exact kJ73 _ _ _ ls hg (bst_no (bst_0 u) (fun t q => (fun h => by unfold bC1 at h; rw [← hg.1] at h; first | exact c_17 h.1 | exact h.1 c_17) q.1)) hP hD hS (lv_sub hl [0, 1, 2, 3] rfl)
                ·
                  refine lv_aload_n hx hb dX12_beside_32 rfl (lv_at hl 0 rfl) ?_
                  refine va_get (D := (dC, dI)) (ci := 11) (v := .ref (v 4)) (C := RX12) (T := TX12) (N := 52) hx hb hts zl_X12_beside_X12 hown hK hP 0 rfl rfl 4 (by decide) (hts (.fieldLink RX12 19 "PageOneModel" "kind" "[I") (zat q_wsX12_beside k_wsX12_beside 886 rfl (by decide +kernel))) (fun _ h9 => h9) rfl dX12_beside_33 ?_
                  refine lv_iload_n hx hb dX12_beside_36 rfl (lv_at hl 2 rfl) ?_
                  refine va_iald hx hb hK hP 4 0 rfl rfl (vin hB9 (by decide)) dX12_beside_37 ?_
                  refine lv_iconst (v := 3) hx hb dX12_beside_38 (by decide) ?_
                  refine lv_icmp_ne (tgt := 73) hx hb dX12_beside_39 (by decide) (fun c_18 => ?_) (fun c_18 => ?_)
                  ·
                    exact kJ73 _ _ _ ls hg (bst_no (bst_0 u) (fun t q => (fun h => by unfold bC1 at h; rw [← hg.1] at h; first | exact c_18 h.2.1 | exact h.2.1 c_18) q.1)) hP hD hS (lv_sub hl [0, 1, 2, 3] rfl)
                  ·
                    refine lv_aload_n hx hb dX12_beside_42 rfl (lv_at hl 0 rfl) ?_
                    refine va_get (D := (dC, dI)) (ci := 11) (v := .ref (v 20)) (C := RX12) (T := TX12) (N := 52) hx hb hts zl_X12_beside_X12 hown hK hP 0 rfl rfl 20 (by decide) (hts (.fieldLink RX12 67 "PageOneModel" "isRival" "[Z") (zat q_wsX12_beside k_wsX12_beside 902 rfl (by decide +kernel))) (fun _ h9 => h9) rfl dX12_beside_43 ?_
                    refine lv_bipush (v := 10) hx hb dX12_beside_46 (by decide) ?_
                    refine lv_aload_n hx hb dX12_beside_48 rfl (lv_at hl 0 rfl) ?_
                    refine va_get (D := (dC, dI)) (ci := 11) (v := .ref (v 10)) (C := RX12) (T := TX12) (N := 52) hx hb hts zl_X12_beside_X12 hown hK hP 0 rfl rfl 10 (by decide) (hts (.fieldLink RX12 37 "PageOneModel" "buyer" "[I") (zat q_wsX12_beside k_wsX12_beside 892 rfl (by decide +kernel))) (fun _ h9 => h9) rfl dX12_beside_49 ?_
                    refine lv_iload_n hx hb dX12_beside_52 rfl (lv_at hl 1 rfl) ?_
                    refine va_iald hx hb hK hP 10 0 rfl rfl (vin hA9 (by decide)) dX12_beside_53 ?_
                    refine lv_imul hx hb dX12_beside_54 ?_
                    refine lv_aload_n hx hb dX12_beside_55 rfl (lv_at hl 0 rfl) ?_
                    refine va_get (D := (dC, dI)) (ci := 11) (v := .ref (v 10)) (C := RX12) (T := TX12) (N := 52) hx hb hts zl_X12_beside_X12 hown hK hP 0 rfl rfl 10 (by decide) (hts (.fieldLink RX12 37 "PageOneModel" "buyer" "[I") (zat q_wsX12_beside k_wsX12_beside 892 rfl (by decide +kernel))) (fun _ h9 => h9) rfl dX12_beside_56 ?_
                    refine lv_iload_n hx hb dX12_beside_59 rfl (lv_at hl 2 rfl) ?_
                    refine va_iald hx hb hK hP 10 0 rfl rfl (vin hB9 (by decide)) dX12_beside_60 ?_
                    refine lv_iadd hx hb dX12_beside_61 ?_
                    refine va_zald hx hb hK hP 20 1 rfl rfl (vin10 (mE_b hg hk hA9 c_17) (mE_b hg hk hB9 c_18)) dX12_beside_62 ?_
                    refine lv_if_eq (tgt := 73) hx hb dX12_beside_63 (by decide) (fun c_19 => ?_) (fun c_19 => ?_)
                    ·
                      exact kJ73 _ _ _ ls hg (bst_no (bst_0 u) (fun t q => (fun h => by unfold bC1 at h; rw [← hg.1] at h; first | exact c_19 h.2.2 | exact h.2.2 c_19) q.1)) hP hD hS (lv_sub hl [0, 1, 2, 3] rfl)
                    ·
                      refine lv_aload_n hx hb dX12_beside_66 rfl (lv_at hl 0 rfl) ?_
                      refine lv_iconst (v := 1) hx hb dX12_beside_67 (by decide) ?_
                      refine lv_iload_n hx hb dX12_beside_68 rfl (lv_at hl 1 rfl) ?_
                      refine lv_iload_n hx hb dX12_beside_69 rfl (lv_at hl 2 rfl) ?_
                      have hg8 := hg
                      have hFc := fr_all hD hS hA
                      refine va_callv (va_runV (As := [.int 1, .int p0, .int p1]) (rest := []) ⟨hx, hb, hml, hown, hts⟩ (m_wrongs l dC dI h0 v cI cZ u 1 p0 p1 s.heap.size) (cwV 3 hts gX12_beside_X12_wrongs rfl rfl rfl zh_X12_wrongs_21 ⟨Nat.le_of_ble_eq_true rfl, Nat.le_of_ble_eq_true rfl⟩) ⟨gw_fb, va_recv hK hP (ci := 11) (q0 := 0) rfl rfl, fun U hU hW => ⟨rfl, by rw [hU], pw_to hU hW hP hK hN, hD.weaken (fun _ _ _ _ => trivial)⟩⟩ rfl rfl hl.1 rfl (lv_room (Nat.le_of_ble_eq_true rfl)) dX12_beside_70 ⟨Nat.le_of_ble_eq_true rfl, Nat.le_of_ble_eq_true rfl⟩) hS (fun q _ h => hFc q h) hFc (fun u_20 t H1 locs ht hvm hw hB hz1 hk1 hS => ?_)
                      obtain ⟨hP, hD1⟩ := hB
                      rw [ht] at hP
                      have hD := hD1.weaken (fun _ q _ h => hFc q.1 h)
                      generalize H1 = H at hP hS ⊢
                      have hg := mE_wr hg hw
                      have hwr := hw
                      exact kJ73 _ _ _ ls hg (bst_add (bst_0 u) hwr (by decide) (fun t => ⟨fun h => h.2, fun h => ⟨(by unfold bC1; rw [← hg8.1]; exact ⟨c_17, c_18, c_19⟩), h⟩⟩)) hP hD hS (lv_sub hl [0, 1, 2, 3] rfl)
      ·
        exact W.vret hx hb hr (fun t ht hW => ⟨⟨u, rfl, ⟨mE_rf u, bst_n (fun h => h.2.2 c_5)⟩, by rw [ht]; exact hP, hD⟩, hS.F ht⟩) hS.2.2 dX12_beside_21
    ·
      obtain rfl : r = 0 := b_f hw b_3
      refine lv_if_eq (tgt := 21) hx hb dX12_beside_13 (by decide) (fun c_21 => ?_) (fun c_21 => absurd (by decide) c_21)
      exact W.vret hx hb hr (fun t ht hW => ⟨⟨u, rfl, ⟨mE_rf u, bst_n (fun h => bne b_3 h.2.1)⟩, by rw [ht]; exact hP, hD⟩, hS.F ht⟩) hS.2.2 dX12_beside_21
  ·
    obtain rfl : r = 0 := b_f hw b_1
    refine lv_if_eq (tgt := 21) hx hb dX12_beside_5 (by decide) (fun c_22 => ?_) (fun c_22 => absurd (by decide) c_22)
    exact W.vret hx hb hr (fun t ht hW => ⟨⟨u, rfl, ⟨mE_rf u, bst_n (fun h => bne b_1 h.1)⟩, by rw [ht]; exact hP, hD⟩, hS.F ht⟩) hS.2.2 dX12_beside_21
/-- what cell (c, l) of page p and its neighbours below and beside break -/
def vTa (u : mS) (p : Int32) (c l : Nat) (t : tr3) : Prop := mCell u p (nI c) (nI l + 1) = true ∧ bsT u (u.2 2 (480 * p + 60 * nI c + nI l).toNatClampNeg) (u.2 2 (480 * p + 60 * nI c + (nI l + 1)).toNatClampNeg) 0 t
def vTb (u : mS) (p : Int32) (c l : Nat) (t : tr3) : Prop := mCell u p (nI c + 1) (nI l) = true ∧ bsT u (u.2 2 (480 * p + 60 * nI c + nI l).toNatClampNeg) (u.2 2 (480 * p + 60 * (nI c + 1) + nI l).toNatClampNeg) 1 t
def lnN (u : mS) (p : Int32) (c : Nat) : Nat := (u.2 0 (8 * p + nI c).toNatClampNeg).toNatClampNeg
/-- the cells before (c, l) -/
def vTS (u : mS) (p : Int32) (c l : Nat) (t : tr3) : Prop := ∃ c' l', c' < 8 ∧ l' < lnN u p c' ∧ (c' < c ∨ (c' = c ∧ l' < l)) ∧ (vTa u p c' l' t ∨ vTb u p c' l' t)
theorem vTS_n {u : mS} {p : Int32} {c l : Nat} (hc : c < 8) (hl : l < lnN u p c) (t : tr3) : (vTS u p c l t ∨ vTa u p c l t ∨ vTb u p c l t) ↔ vTS u p c (l + 1) t := by
  constructor
  · rintro (⟨c', l', a1, a2, a3, a4⟩ | h)
    · exact ⟨c', l', a1, a2, by omega, a4⟩
    · exact ⟨c, l, hc, hl, Or.inr ⟨rfl, Nat.lt_succ_self _⟩, h⟩
  · rintro ⟨c', l', a1, a2, a3, a4⟩
    by_cases e : c' = c ∧ l' = l
    · rw [e.1, e.2] at a4; exact Or.inr a4
    · exact Or.inl ⟨c', l', a1, a2, by omega, a4⟩
theorem vTS_c {u : mS} {p : Int32} {c : Nat} (t : tr3) : vTS u p c (lnN u p c) t ↔ vTS u p (c + 1) 0 t := by
  constructor
  · rintro ⟨c', l', a1, a2, a3, a4⟩
    exact ⟨c', l', a1, a2, by omega, a4⟩
  · rintro ⟨c', l', a1, a2, a3, a4⟩
    refine ⟨c', l', a1, a2, ?_, a4⟩
    by_cases e : c' = c
    · exact Or.inr ⟨e, by rw [← e]; exact a2⟩
    · exact Or.inl (by omega)
theorem vTS_0 {u : mS} {p : Int32} (t : tr3) : ¬ vTS u p 0 0 t := by
  rintro ⟨c', l', a1, a2, a3, a4⟩
  omega
theorem bsT_E {u w : mS} (h : mE u w) (a b ac : Int32) (t : tr3) : bsT w a b ac t ↔ bsT u a b ac t := by
  unfold bsT bT1 bT2 bT3 bC1 bCa bC3
  rw [h.1]
theorem bst_E {u w w2 : mS} (h : mE u w) {a b ac : Int32} (h2 : bst w w2 (bsT w a b ac)) : bst w w2 (bsT u a b ac) := bst_c h2 (bsT_E h a b ac)
theorem best_bst {u w : mS} {S T S2 : tr3 → Prop} (h : best S (wr3 u)) (h2 : bst u w T) (e : ∀ t, (S t ∨ T t) ↔ S2 t) : best S2 (wr3 w) := best_c (h2 S h) e
/-- is item j on page p -/
def ptC (u : mS) (p0 : Int32) (j9 t : Nat) : Prop := u.2 23 (6 * nI j9 + nI t).toNatClampNeg = p0
def thP (u : mS) (p0 : Int32) (j9 n : Nat) : Prop := ∃ t, t < n ∧ ptC u p0 j9 t
theorem thP_1 {u : mS} {p0 : Int32} {j9 i : Nat} (h : ptC u p0 j9 i) : (1 : Int32) = bP (thP u p0 j9 (i + 1)) := (bP_t ⟨i, Nat.lt_succ_self _, h⟩).symm
theorem thP_o {u : mS} {p0 a : Int32} {j9 i : Nat} (hg : a = bP (thP u p0 j9 i)) (h : ¬ a = 0) : (1 : Int32) = bP (thP u p0 j9 (i + 1)) := by
  have h2 : thP u p0 j9 i := Classical.byContradiction (fun q => h (by rw [hg, bP_f q]))
  obtain ⟨t, h3, h4⟩ := h2
  exact (bP_t ⟨t, by omega, h4⟩).symm
theorem thP_z {u : mS} {p0 a : Int32} {j9 i : Nat} (hg : a = bP (thP u p0 j9 i)) (h9 : a = 0) (h2 : ¬ ptC u p0 j9 i) : (0 : Int32) = bP (thP u p0 j9 (i + 1)) := by
  refine (bP_f ?_).symm
  rintro ⟨t, h3, h4⟩
  by_cases e : t = i
  · rw [e] at h4; exact h2 h4
  · have h5 : thP u p0 j9 i := ⟨t, by omega, h4⟩
    rw [h9, bP_t h5] at hg; exact absurd hg (by decide)
set_option maxHeartbeats 4000000 in
set_option maxRecDepth 100000 in
theorem n_br_in {p : Program} {l : Launch} {e : Env} {R : Room} {s : State} {m : MethodId} {args : Array Value} {below : List Frame} {meth : Method} {c : Code} {Q : State → Prop} {cells slots : Nat} {dC : Nat → ClassId} {dI : Nat → Nat → Nat} {h0 : Nat} {v : Nat → Nat} {cI cZ : ClassId} {u0 : mS} {p0 : Int32} (hp : bw p0 0 11 = true) (hln0 : ∀ j, j < 96 → bw (u0.2 0 j) 0 60 = true) (hcl0 : ∀ j, j < 5760 → mThing (u0.2 2 j) = true → bw (u0.2 2 j) 0 79 = true) (hk0 : ∀ j, j < 80 → u0.2 4 j = 3 → bw (u0.2 10 j) 0 9 = true) {c9 K : Nat} (hc8 : c9 < 8) (eK : u0.2 0 (8 * p0 + nI c9).toNatClampNeg = nI K) (hK6 : K ≤ 60) {A : Nat → Prop} {H0 : Heap} (hx : p.tables.exec = Jvm.exec) (hb : c.code = cX12_breaks) (hml : c.maxLocals = 5) (hts : ∀ w ∈ wsX12_breaks, w.before args s = true) (hown : s.vm.findClass RX12 = some m.cls) (hN : NN s) (hK : va_K (dC, dI) vwCl [(cI, .int), (cZ, .boolean)] s) (hRf : 3 ≤ R.frames) (hRl : 65 ≤ R.locals) (hRc : cells ≤ R.cells) (hRs : slots ≤ R.slots) (hA : ∀ q : Nat, H0.size ≤ q → A q) (kx : ∀ (u : mS) (H : Heap) (locs : List Loc) (ls : Array Slot), (mE u0 u ∧ best (vTS u0 p0 c9 K) (wr3 u)) → va_P (dC, dI) vwCl (mW h0 v cI cZ u) H → va_D A (mW h0 v cI cZ u) → va_S A H0 H locs → lv_has ls 5 [(3, .int (nI K)), (2, .int (nI c9)), (0, .ref h0), (1, .int p0)] → W p l e R s m args below meth c H locs cells slots Q (F0 m 123 ls [])) : ∀ (k i : Nat) (u : mS) (H : Heap) (locs : List Loc) (ls : Array Slot), i ≤ K → K - i < k → (mE u0 u ∧ best (vTS u0 p0 c9 i) (wr3 u)) → va_P (dC, dI) vwCl (mW h0 v cI cZ u) H → va_D A (mW h0 v cI cZ u) → va_S A H0 H locs → lv_has ls 5 [(3, .int (nI i)), (2, .int (nI c9)), (0, .ref h0), (1, .int p0)] → W p l e R s m args below meth c H locs cells slots Q (F0 m 25 ls []) := by
  intro k
  induction k with
  | zero => intro i u H locs ls h1 h2; exact absurd h2 (Nat.not_lt_zero _)
  | succ k ih =>
    intro i u H locs ls hi hk hg hP hD hS hl
    refine lv_iload_n hx hb dX12_breaks_25 rfl (lv_at hl 0 rfl) ?_
    refine lv_aload_n hx hb dX12_breaks_26 rfl (lv_at hl 2 rfl) ?_
    refine va_get (D := (dC, dI)) (ci := 11) (v := .ref (v 0)) (C := RX12) (T := TX12) (N := 52) hx hb hts zl_X12_breaks_X12 hown hK hP 0 rfl rfl 0 (by decide) (hts (.fieldLink RX12 7 "PageOneModel" "lines" "[I") (zat q_wsX12_breaks k_wsX12_breaks 882 rfl (by decide +kernel))) (fun _ h9 => h9) rfl dX12_breaks_27 ?_
    refine lv_bipush (v := 8) hx hb dX12_breaks_30 (by decide) ?_
    refine lv_iload_n hx hb dX12_breaks_32 rfl (lv_at hl 3 rfl) ?_
    refine lv_imul hx hb dX12_breaks_33 ?_
    refine lv_iload_n hx hb dX12_breaks_34 rfl (lv_at hl 1 rfl) ?_
    refine lv_iadd hx hb dX12_breaks_35 ?_
    refine va_iald hx hb hK hP 1 0 rfl rfl (vin8 hp (bw7 hc8)) dX12_breaks_36 ?_
    refine lv_topi (fun y_1 ey_1 => ?_)
    obtain rfl : y_1 = (nI K) := ey_1.trans ((by rw [hg.1.1]; exact eK))
    refine lv_icmp_ge (tgt := 123) hx hb dX12_breaks_37 (by decide) (fun c_2 => ?_) (fun c_2 => ?_)
    ·
      have hie : i = K := lp_eq rfl (by omega) hi c_2
      rw [hie] at hg hl
      exact kx _ _ _ ls hg hP hD hS (lv_sub hl [0, 1, 2, 3] rfl)
    ·
      have hlt : i < K := lp_lt rfl (by omega) hi c_2
      have hg0 := hg
      have hb0 := hg.2
      have hg := hg.1
      have hlnu : ∀ j, j < 96 → bw (u.2 0 j) 0 60 = true := fun j hj => by rw [hg.1]; exact hln0 j hj
      have hlK : i < lnN u0 p0 c9 := by unfold lnN; rw [eK, nI_clamp (by omega)]; exact hlt
      refine lv_aload_n hx hb dX12_breaks_40 rfl (lv_at hl 2 rfl) ?_
      refine va_get (D := (dC, dI)) (ci := 11) (v := .ref (v 2)) (C := RX12) (T := TX12) (N := 52) hx hb hts zl_X12_breaks_X12 hown hK hP 0 rfl rfl 2 (by decide) (hts (.fieldLink RX12 16 "PageOneModel" "cell" "[I") (zat q_wsX12_breaks k_wsX12_breaks 884 rfl (by decide +kernel))) (fun _ h9 => h9) rfl dX12_breaks_41 ?_
      refine lv_iload_n hx hb dX12_breaks_44 rfl (lv_at hl 3 rfl) ?_
      refine lv_iload_n hx hb dX12_breaks_45 rfl (lv_at hl 1 rfl) ?_
      refine lv_iload_n hx hb dX12_breaks_46 rfl (lv_at hl 0 rfl) ?_
      refine vp_callSi (va_runS (As := [.int p0, .int (nI c9), .int (nI i)]) (rest := [.ref (v 2)]) ⟨hx, hb, hml, hown, hts⟩ (m_at l dC dI p0 (nI c9) (nI i)) (va_cwS 3 hts gX12_breaks_X12_at rfl rfl rfl zh_X12_at_7 ⟨Nat.le_trans (Nat.le_of_ble_eq_true rfl) hRf, Nat.le_trans (Nat.le_of_ble_eq_true rfl) hRl⟩) ⟨pw_fb, fun U hU hW => ⟨rfl, pw_to hU hW (hP.sub (ws' := []) [] rfl) (hK.sub (tys' := []) [] rfl) hN⟩⟩ rfl rfl hl.1 rfl (lv_room (Nat.le_of_ble_eq_true rfl)) dX12_breaks_47 ⟨hRc, hRs⟩).run (fun r hw => ?_)
      obtain rfl : r = (480 * p0 + 60 * (nI c9) + (nI i)) := hw
      refine va_iald hx hb hK hP 3 0 rfl rfl (vinC hp (bw7 hc8) (by omega)) dX12_breaks_50 ?_
      refine lv_topi (fun x_3 ex_3 => ?_)
      refine lv_istore (lv' := [(4, .int x_3), (3, .int (nI i)), (2, .int (nI c9)), (0, .ref h0), (1, .int p0)]) hx hb dX12_breaks_51 hl (by decide) rfl (fun ls hl => ?_)
      refine lv_aload_n hx hb dX12_breaks_53 rfl (lv_at hl 3 rfl) ?_
      refine lv_iload_n hx hb dX12_breaks_54 rfl (lv_at hl 4 rfl) ?_
      refine lv_iload_n hx hb dX12_breaks_55 rfl (lv_at hl 2 rfl) ?_
      refine lv_iload_n hx hb dX12_breaks_56 rfl (lv_at hl 1 rfl) ?_
      refine lv_iconst (v := 1) hx hb dX12_breaks_57 (by decide) ?_
      refine lv_iadd hx hb dX12_breaks_58 ?_
      refine vp_callSi (va_runV (As := [.int p0, .int (nI c9), .int ((nI i) + 1)]) (rest := []) ⟨hx, hb, hml, hown, hts⟩ (m_isCell l dC dI h0 v cI cZ u p0 (nI c9) ((nI i) + 1)) (cwV 3 hts gX12_breaks_X12_isCell rfl rfl rfl zh_X12_isCell_9 ⟨Nat.le_trans (Nat.le_of_ble_eq_true rfl) hRf, Nat.le_trans (Nat.le_of_ble_eq_true rfl) hRl⟩) ⟨pw_fb, va_recv hK hP (ci := 11) (q0 := 0) rfl rfl, fun U hU hW => ⟨rfl, pw_to hU hW hP hK hN⟩⟩ rfl rfl hl.1 rfl (lv_room (Nat.le_of_ble_eq_true rfl)) dX12_breaks_59 ⟨hRc, hRs⟩).run (fun r hw => ?_)
      rcases Bool.eq_false_or_eq_true (mCell u p0 (nI c9) ((nI i) + 1)) with b_4 | b_4
      ·
        obtain rfl : r = 1 := b_t hw b_4
        refine lv_if_eq (tgt := 85) hx hb dX12_breaks_62 (by decide) (fun c_5 => absurd c_5 (by decide)) (fun c_5 => ?_)
        refine lv_aload_n hx hb dX12_breaks_65 rfl (lv_at hl 3 rfl) ?_
        refine lv_iload hx hb dX12_breaks_66 (lv_at hl 0 rfl) ?_
        refine lv_aload_n hx hb dX12_breaks_68 rfl (lv_at hl 3 rfl) ?_
        refine va_get (D := (dC, dI)) (ci := 11) (v := .ref (v 2)) (C := RX12) (T := TX12) (N := 52) hx hb hts zl_X12_breaks_X12 hown hK hP 0 rfl rfl 2 (by decide) (hts (.fieldLink RX12 16 "PageOneModel" "cell" "[I") (zat q_wsX12_breaks k_wsX12_breaks 884 rfl (by decide +kernel))) (fun _ h9 => h9) rfl dX12_breaks_69 ?_
        refine lv_iload_n hx hb dX12_breaks_72 rfl (lv_at hl 4 rfl) ?_
        refine lv_iload_n hx hb dX12_breaks_73 rfl (lv_at hl 2 rfl) ?_
        refine lv_iload_n hx hb dX12_breaks_74 rfl (lv_at hl 1 rfl) ?_
        refine lv_iconst (v := 1) hx hb dX12_breaks_75 (by decide) ?_
        refine lv_iadd hx hb dX12_breaks_76 ?_
        refine vp_callSi (va_runS (As := [.int p0, .int (nI c9), .int ((nI i) + 1)]) (rest := [.ref (v 2), .int x_3, .ref h0]) ⟨hx, hb, hml, hown, hts⟩ (m_at l dC dI p0 (nI c9) ((nI i) + 1)) (va_cwS 3 hts gX12_breaks_X12_at rfl rfl rfl zh_X12_at_7 ⟨Nat.le_trans (Nat.le_of_ble_eq_true rfl) hRf, Nat.le_trans (Nat.le_of_ble_eq_true rfl) hRl⟩) ⟨pw_fb, fun U hU hW => ⟨rfl, pw_to hU hW (hP.sub (ws' := []) [] rfl) (hK.sub (tys' := []) [] rfl) hN⟩⟩ rfl rfl hl.1 rfl (lv_room (Nat.le_of_ble_eq_true rfl)) dX12_breaks_77 ⟨hRc, hRs⟩).run (fun r hw => ?_)
        obtain rfl : r = (480 * p0 + 60 * (nI c9) + ((nI i) + 1)) := hw
        refine va_iald hx hb hK hP 3 0 rfl rfl (vCell hlnu b_4) dX12_breaks_80 ?_
        refine lv_iconst (v := 0) hx hb dX12_breaks_81 (by decide) ?_
        have hFc := fr_all hD hS hA
        refine va_callv (va_runV (As := [.int x_3, .int (u.2 2 ((480 * p0 + 60 * (nI c9) + ((nI i) + 1)) : Int32).toNatClampNeg), .int 0]) (rest := []) ⟨hx, hb, hml, hown, hts⟩ (n_beside l dC dI h0 v cI cZ u x_3 (u.2 2 ((480 * p0 + 60 * (nI c9) + ((nI i) + 1)) : Int32).toNatClampNeg) 0 (fun h => by rw [ex_3, hg0.1.1] at h ⊢; exact hcl0 _ (vlt (vinC hp (bw7 hc8) (by omega))) h) (fun h => by rw [hg.1] at h ⊢; exact hcl0 _ (vlt (vCell hlnu b_4)) h) (fun j hj => by rw [hg.1]; exact hk0 j hj) H.size) (cwV 3 hts gX12_breaks_X12_beside rfl rfl rfl zh_X12_beside_22 ⟨Nat.le_trans (Nat.le_of_ble_eq_true rfl) hRf, Nat.le_trans (Nat.le_of_ble_eq_true rfl) hRl⟩) ⟨gw_fb, va_recv hK hP (ci := 11) (q0 := 0) rfl rfl, fun U hU hW => ⟨rfl, by rw [hU], pw_to hU hW hP hK hN, hD.weaken (fun _ _ _ _ => trivial)⟩⟩ rfl rfl hl.1 rfl (lv_room (Nat.le_of_ble_eq_true rfl)) dX12_breaks_82 ⟨hRc, hRs⟩) hS (fun q _ h => hFc q h) hFc (fun u_6 t H1 locs ht hvm hw hB hz1 hk1 hS => ?_)
        obtain ⟨hP, hD1⟩ := hB
        rw [ht] at hP
        have hD := hD1.weaken (fun _ q _ h => hFc q.1 h)
        generalize H1 = H at hP hS ⊢
        have hBvTa : bst u u_6 (vTa u0 p0 c9 i) := bst_c (bst_E hg hw.2) (fun t => by unfold vTa; rw [show x_3 = u0.2 2 (480 * p0 + 60 * nI c9 + nI i).toNatClampNeg from by rw [ex_3, hg0.1.1], hg.1]; exact ⟨fun q => ⟨by have z := b_4; unfold mCell at z ⊢; rw [← hg.1]; exact z, q⟩, fun q => q.2⟩)
        have hg := mE_tr hg hw.1
        refine lv_aload_n hx hb dX12_breaks_85 rfl (lv_at hl 3 rfl) ?_
        refine lv_iload_n hx hb dX12_breaks_86 rfl (lv_at hl 4 rfl) ?_
        refine lv_iload_n hx hb dX12_breaks_87 rfl (lv_at hl 2 rfl) ?_
        refine lv_iconst (v := 1) hx hb dX12_breaks_88 (by decide) ?_
        refine lv_iadd hx hb dX12_breaks_89 ?_
        refine lv_iload_n hx hb dX12_breaks_90 rfl (lv_at hl 1 rfl) ?_
        refine vp_callSi (va_runV (As := [.int p0, .int ((nI c9) + 1), .int (nI i)]) (rest := []) ⟨hx, hb, hml, hown, hts⟩ (m_isCell l dC dI h0 v cI cZ u_6 p0 ((nI c9) + 1) (nI i)) (cwV 3 hts gX12_breaks_X12_isCell rfl rfl rfl zh_X12_isCell_9 ⟨Nat.le_trans (Nat.le_of_ble_eq_true rfl) hRf, Nat.le_trans (Nat.le_of_ble_eq_true rfl) hRl⟩) ⟨pw_fb, va_recv hK hP (ci := 11) (q0 := 0) rfl rfl, fun U hU hW => ⟨rfl, pw_to hU hW hP hK hN⟩⟩ rfl rfl hl.1 rfl (lv_room (Nat.le_of_ble_eq_true rfl)) dX12_breaks_91 ⟨hRc, hRs⟩).run (fun r hw => ?_)
        rcases Bool.eq_false_or_eq_true (mCell u_6 p0 ((nI c9) + 1) (nI i)) with b_7 | b_7
        ·
          obtain rfl : r = 1 := b_t hw b_7
          refine lv_if_eq (tgt := 117) hx hb dX12_breaks_94 (by decide) (fun c_8 => absurd c_8 (by decide)) (fun c_8 => ?_)
          refine lv_aload_n hx hb dX12_breaks_97 rfl (lv_at hl 3 rfl) ?_
          refine lv_iload hx hb dX12_breaks_98 (lv_at hl 0 rfl) ?_
          refine lv_aload_n hx hb dX12_breaks_100 rfl (lv_at hl 3 rfl) ?_
          refine va_get (D := (dC, dI)) (ci := 11) (v := .ref (v 2)) (C := RX12) (T := TX12) (N := 52) hx hb hts zl_X12_breaks_X12 hown hK hP 0 rfl rfl 2 (by decide) (hts (.fieldLink RX12 16 "PageOneModel" "cell" "[I") (zat q_wsX12_breaks k_wsX12_breaks 884 rfl (by decide +kernel))) (fun _ h9 => h9) rfl dX12_breaks_101 ?_
          refine lv_iload_n hx hb dX12_breaks_104 rfl (lv_at hl 4 rfl) ?_
          refine lv_iload_n hx hb dX12_breaks_105 rfl (lv_at hl 2 rfl) ?_
          refine lv_iconst (v := 1) hx hb dX12_breaks_106 (by decide) ?_
          refine lv_iadd hx hb dX12_breaks_107 ?_
          refine lv_iload_n hx hb dX12_breaks_108 rfl (lv_at hl 1 rfl) ?_
          refine vp_callSi (va_runS (As := [.int p0, .int ((nI c9) + 1), .int (nI i)]) (rest := [.ref (v 2), .int x_3, .ref h0]) ⟨hx, hb, hml, hown, hts⟩ (m_at l dC dI p0 ((nI c9) + 1) (nI i)) (va_cwS 3 hts gX12_breaks_X12_at rfl rfl rfl zh_X12_at_7 ⟨Nat.le_trans (Nat.le_of_ble_eq_true rfl) hRf, Nat.le_trans (Nat.le_of_ble_eq_true rfl) hRl⟩) ⟨pw_fb, fun U hU hW => ⟨rfl, pw_to hU hW (hP.sub (ws' := []) [] rfl) (hK.sub (tys' := []) [] rfl) hN⟩⟩ rfl rfl hl.1 rfl (lv_room (Nat.le_of_ble_eq_true rfl)) dX12_breaks_109 ⟨hRc, hRs⟩).run (fun r hw => ?_)
          obtain rfl : r = (480 * p0 + 60 * ((nI c9) + 1) + (nI i)) := hw
          refine va_iald hx hb hK hP 3 0 rfl rfl (vCell (fun j hj => by rw [hg.1]; exact hln0 j hj) b_7) dX12_breaks_112 ?_
          refine lv_iconst (v := 1) hx hb dX12_breaks_113 (by decide) ?_
          have hFc := fr_all hD hS hA
          refine va_callv (va_runV (As := [.int x_3, .int (u_6.2 2 ((480 * p0 + 60 * ((nI c9) + 1) + (nI i)) : Int32).toNatClampNeg), .int 1]) (rest := []) ⟨hx, hb, hml, hown, hts⟩ (n_beside l dC dI h0 v cI cZ u_6 x_3 (u_6.2 2 ((480 * p0 + 60 * ((nI c9) + 1) + (nI i)) : Int32).toNatClampNeg) 1 (fun h => by rw [ex_3, hg0.1.1] at h ⊢; exact hcl0 _ (vlt (vinC hp (bw7 hc8) (by omega))) h) (fun h => by rw [hg.1] at h ⊢; exact hcl0 _ (vlt (vCell (fun j hj => by rw [hg.1]; exact hln0 j hj) b_7)) h) (fun j hj => by rw [hg.1]; exact hk0 j hj) H.size) (cwV 3 hts gX12_breaks_X12_beside rfl rfl rfl zh_X12_beside_22 ⟨Nat.le_trans (Nat.le_of_ble_eq_true rfl) hRf, Nat.le_trans (Nat.le_of_ble_eq_true rfl) hRl⟩) ⟨gw_fb, va_recv hK hP (ci := 11) (q0 := 0) rfl rfl, fun U hU hW => ⟨rfl, by rw [hU], pw_to hU hW hP hK hN, hD.weaken (fun _ _ _ _ => trivial)⟩⟩ rfl rfl hl.1 rfl (lv_room (Nat.le_of_ble_eq_true rfl)) dX12_breaks_114 ⟨hRc, hRs⟩) hS (fun q _ h => hFc q h) hFc (fun u_9 t H1 locs ht hvm hw hB hz1 hk1 hS => ?_)
          obtain ⟨hP, hD1⟩ := hB
          rw [ht] at hP
          have hD := hD1.weaken (fun _ q _ h => hFc q.1 h)
          generalize H1 = H at hP hS ⊢
          have hBvTb : bst u_6 u_9 (vTb u0 p0 c9 i) := bst_c (bst_E hg hw.2) (fun t => by unfold vTb; rw [show x_3 = u0.2 2 (480 * p0 + 60 * nI c9 + nI i).toNatClampNeg from by rw [ex_3, hg0.1.1], hg.1]; exact ⟨fun q => ⟨by have z := b_7; unfold mCell at z ⊢; rw [← hg.1]; exact z, q⟩, fun q => q.2⟩)
          have hg := mE_tr hg hw.1
          refine lv_iinc (v := (nI (i + 1))) (lv' := [(3, .int (nI (i + 1))), (4, .int x_3), (2, .int (nI c9)), (0, .ref h0), (1, .int p0)]) hx hb dX12_breaks_117 hl (k := 1) rfl (nI_1 i) (by decide) rfl (fun ls hl => ?_)
          refine lv_goto (tgt := 25) hx hb dX12_breaks_120 (by decide) ?_
          have hb9 := best_bst hb0 (bst_tr hBvTa hBvTb) (vTS_n hc8 hlK)
          exact ih (i + 1) _ _ _ ls (by omega) (by omega) ⟨hg, hb9⟩ hP hD hS (lv_sub hl [0, 2, 3, 4] rfl)
        ·
          obtain rfl : r = 0 := b_f hw b_7
          refine lv_if_eq (tgt := 117) hx hb dX12_breaks_94 (by decide) (fun c_10 => ?_) (fun c_10 => absurd (by decide) c_10)
          refine lv_iinc (v := (nI (i + 1))) (lv' := [(3, .int (nI (i + 1))), (4, .int x_3), (2, .int (nI c9)), (0, .ref h0), (1, .int p0)]) hx hb dX12_breaks_117 hl (k := 1) rfl (nI_1 i) (by decide) rfl (fun ls hl => ?_)
          refine lv_goto (tgt := 25) hx hb dX12_breaks_120 (by decide) ?_
          have hb9 := best_bst hb0 (bst_no hBvTa (fun t q => bne b_7 (by have z := q.1; unfold mCell at z ⊢; rw [hg.1]; exact z))) (vTS_n hc8 hlK)
          exact ih (i + 1) _ _ _ ls (by omega) (by omega) ⟨hg, hb9⟩ hP hD hS (lv_sub hl [0, 2, 3, 4] rfl)
      ·
        obtain rfl : r = 0 := b_f hw b_4
        refine lv_if_eq (tgt := 85) hx hb dX12_breaks_62 (by decide) (fun c_11 => ?_) (fun c_11 => absurd (by decide) c_11)
        refine lv_aload_n hx hb dX12_breaks_85 rfl (lv_at hl 3 rfl) ?_
        refine lv_iload_n hx hb dX12_breaks_86 rfl (lv_at hl 4 rfl) ?_
        refine lv_iload_n hx hb dX12_breaks_87 rfl (lv_at hl 2 rfl) ?_
        refine lv_iconst (v := 1) hx hb dX12_breaks_88 (by decide) ?_
        refine lv_iadd hx hb dX12_breaks_89 ?_
        refine lv_iload_n hx hb dX12_breaks_90 rfl (lv_at hl 1 rfl) ?_
        refine vp_callSi (va_runV (As := [.int p0, .int ((nI c9) + 1), .int (nI i)]) (rest := []) ⟨hx, hb, hml, hown, hts⟩ (m_isCell l dC dI h0 v cI cZ u p0 ((nI c9) + 1) (nI i)) (cwV 3 hts gX12_breaks_X12_isCell rfl rfl rfl zh_X12_isCell_9 ⟨Nat.le_trans (Nat.le_of_ble_eq_true rfl) hRf, Nat.le_trans (Nat.le_of_ble_eq_true rfl) hRl⟩) ⟨pw_fb, va_recv hK hP (ci := 11) (q0 := 0) rfl rfl, fun U hU hW => ⟨rfl, pw_to hU hW hP hK hN⟩⟩ rfl rfl hl.1 rfl (lv_room (Nat.le_of_ble_eq_true rfl)) dX12_breaks_91 ⟨hRc, hRs⟩).run (fun r hw => ?_)
        rcases Bool.eq_false_or_eq_true (mCell u p0 ((nI c9) + 1) (nI i)) with b_12 | b_12
        ·
          obtain rfl : r = 1 := b_t hw b_12
          refine lv_if_eq (tgt := 117) hx hb dX12_breaks_94 (by decide) (fun c_13 => absurd c_13 (by decide)) (fun c_13 => ?_)
          refine lv_aload_n hx hb dX12_breaks_97 rfl (lv_at hl 3 rfl) ?_
          refine lv_iload hx hb dX12_breaks_98 (lv_at hl 0 rfl) ?_
          refine lv_aload_n hx hb dX12_breaks_100 rfl (lv_at hl 3 rfl) ?_
          refine va_get (D := (dC, dI)) (ci := 11) (v := .ref (v 2)) (C := RX12) (T := TX12) (N := 52) hx hb hts zl_X12_breaks_X12 hown hK hP 0 rfl rfl 2 (by decide) (hts (.fieldLink RX12 16 "PageOneModel" "cell" "[I") (zat q_wsX12_breaks k_wsX12_breaks 884 rfl (by decide +kernel))) (fun _ h9 => h9) rfl dX12_breaks_101 ?_
          refine lv_iload_n hx hb dX12_breaks_104 rfl (lv_at hl 4 rfl) ?_
          refine lv_iload_n hx hb dX12_breaks_105 rfl (lv_at hl 2 rfl) ?_
          refine lv_iconst (v := 1) hx hb dX12_breaks_106 (by decide) ?_
          refine lv_iadd hx hb dX12_breaks_107 ?_
          refine lv_iload_n hx hb dX12_breaks_108 rfl (lv_at hl 1 rfl) ?_
          refine vp_callSi (va_runS (As := [.int p0, .int ((nI c9) + 1), .int (nI i)]) (rest := [.ref (v 2), .int x_3, .ref h0]) ⟨hx, hb, hml, hown, hts⟩ (m_at l dC dI p0 ((nI c9) + 1) (nI i)) (va_cwS 3 hts gX12_breaks_X12_at rfl rfl rfl zh_X12_at_7 ⟨Nat.le_trans (Nat.le_of_ble_eq_true rfl) hRf, Nat.le_trans (Nat.le_of_ble_eq_true rfl) hRl⟩) ⟨pw_fb, fun U hU hW => ⟨rfl, pw_to hU hW (hP.sub (ws' := []) [] rfl) (hK.sub (tys' := []) [] rfl) hN⟩⟩ rfl rfl hl.1 rfl (lv_room (Nat.le_of_ble_eq_true rfl)) dX12_breaks_109 ⟨hRc, hRs⟩).run (fun r hw => ?_)
          obtain rfl : r = (480 * p0 + 60 * ((nI c9) + 1) + (nI i)) := hw
          refine va_iald hx hb hK hP 3 0 rfl rfl (vCell hlnu b_12) dX12_breaks_112 ?_
          refine lv_iconst (v := 1) hx hb dX12_breaks_113 (by decide) ?_
          have hFc := fr_all hD hS hA
          refine va_callv (va_runV (As := [.int x_3, .int (u.2 2 ((480 * p0 + 60 * ((nI c9) + 1) + (nI i)) : Int32).toNatClampNeg), .int 1]) (rest := []) ⟨hx, hb, hml, hown, hts⟩ (n_beside l dC dI h0 v cI cZ u x_3 (u.2 2 ((480 * p0 + 60 * ((nI c9) + 1) + (nI i)) : Int32).toNatClampNeg) 1 (fun h => by rw [ex_3, hg0.1.1] at h ⊢; exact hcl0 _ (vlt (vinC hp (bw7 hc8) (by omega))) h) (fun h => by rw [hg.1] at h ⊢; exact hcl0 _ (vlt (vCell hlnu b_12)) h) (fun j hj => by rw [hg.1]; exact hk0 j hj) H.size) (cwV 3 hts gX12_breaks_X12_beside rfl rfl rfl zh_X12_beside_22 ⟨Nat.le_trans (Nat.le_of_ble_eq_true rfl) hRf, Nat.le_trans (Nat.le_of_ble_eq_true rfl) hRl⟩) ⟨gw_fb, va_recv hK hP (ci := 11) (q0 := 0) rfl rfl, fun U hU hW => ⟨rfl, by rw [hU], pw_to hU hW hP hK hN, hD.weaken (fun _ _ _ _ => trivial)⟩⟩ rfl rfl hl.1 rfl (lv_room (Nat.le_of_ble_eq_true rfl)) dX12_breaks_114 ⟨hRc, hRs⟩) hS (fun q _ h => hFc q h) hFc (fun u_14 t H1 locs ht hvm hw hB hz1 hk1 hS => ?_)
          obtain ⟨hP, hD1⟩ := hB
          rw [ht] at hP
          have hD := hD1.weaken (fun _ q _ h => hFc q.1 h)
          generalize H1 = H at hP hS ⊢
          have hBvTb : bst u u_14 (vTb u0 p0 c9 i) := bst_c (bst_E hg hw.2) (fun t => by unfold vTb; rw [show x_3 = u0.2 2 (480 * p0 + 60 * nI c9 + nI i).toNatClampNeg from by rw [ex_3, hg0.1.1], hg.1]; exact ⟨fun q => ⟨by have z := b_12; unfold mCell at z ⊢; rw [← hg.1]; exact z, q⟩, fun q => q.2⟩)
          have hg := mE_tr hg hw.1
          refine lv_iinc (v := (nI (i + 1))) (lv' := [(3, .int (nI (i + 1))), (4, .int x_3), (2, .int (nI c9)), (0, .ref h0), (1, .int p0)]) hx hb dX12_breaks_117 hl (k := 1) rfl (nI_1 i) (by decide) rfl (fun ls hl => ?_)
          refine lv_goto (tgt := 25) hx hb dX12_breaks_120 (by decide) ?_
          have hb9 := best_bst hb0 (bst_tr (bst_c (bst_0 u) (fun t => ⟨False.elim, fun q => bne b_4 (by have z := q.1; unfold mCell at z ⊢; rw [hg0.1.1]; exact z)⟩)) hBvTb) (vTS_n hc8 hlK)
          exact ih (i + 1) _ _ _ ls (by omega) (by omega) ⟨hg, hb9⟩ hP hD hS (lv_sub hl [0, 2, 3, 4] rfl)
        ·
          obtain rfl : r = 0 := b_f hw b_12
          refine lv_if_eq (tgt := 117) hx hb dX12_breaks_94 (by decide) (fun c_15 => ?_) (fun c_15 => absurd (by decide) c_15)
          refine lv_iinc (v := (nI (i + 1))) (lv' := [(3, .int (nI (i + 1))), (4, .int x_3), (2, .int (nI c9)), (0, .ref h0), (1, .int p0)]) hx hb dX12_breaks_117 hl (k := 1) rfl (nI_1 i) (by decide) rfl (fun ls hl => ?_)
          refine lv_goto (tgt := 25) hx hb dX12_breaks_120 (by decide) ?_
          have hb9 := best_bst hb0 (bst_no (bst_c (bst_0 u) (fun t => ⟨False.elim, fun q => bne b_4 (by have z := q.1; unfold mCell at z ⊢; rw [hg0.1.1]; exact z)⟩)) (fun t q => bne b_12 (by have z := q.1; unfold mCell at z ⊢; rw [hg.1]; exact z))) (vTS_n hc8 hlK)
          exact ih (i + 1) _ _ _ ls (by omega) (by omega) ⟨hg, hb9⟩ hP hD hS (lv_sub hl [0, 2, 3, 4] rfl)
set_option maxHeartbeats 4000000 in
set_option maxRecDepth 100000 in
theorem n_br_out {p : Program} {l : Launch} {e : Env} {R : Room} {s : State} {m : MethodId} {args : Array Value} {below : List Frame} {meth : Method} {c : Code} {Q : State → Prop} {cells slots : Nat} {dC : Nat → ClassId} {dI : Nat → Nat → Nat} {h0 : Nat} {v : Nat → Nat} {cI cZ : ClassId} {u0 : mS} {p0 : Int32} (hp : bw p0 0 11 = true) (hln0 : ∀ j, j < 96 → bw (u0.2 0 j) 0 60 = true) (hcl0 : ∀ j, j < 5760 → mThing (u0.2 2 j) = true → bw (u0.2 2 j) 0 79 = true) (hk0 : ∀ j, j < 80 → u0.2 4 j = 3 → bw (u0.2 10 j) 0 9 = true) {A : Nat → Prop} {H0 : Heap} (hx : p.tables.exec = Jvm.exec) (hb : c.code = cX12_breaks) (hml : c.maxLocals = 5) (hts : ∀ w ∈ wsX12_breaks, w.before args s = true) (hown : s.vm.findClass RX12 = some m.cls) (hN : NN s) (hK : va_K (dC, dI) vwCl [(cI, .int), (cZ, .boolean)] s) (hRf : 3 ≤ R.frames) (hRl : 65 ≤ R.locals) (hRc : cells ≤ R.cells) (hRs : slots ≤ R.slots) (hA : ∀ q : Nat, H0.size ≤ q → A q) (kx : ∀ (u : mS) (H : Heap) (locs : List Loc) (ls : Array Slot), (mE u0 u ∧ best (vTS u0 p0 8 0) (wr3 u)) → va_P (dC, dI) vwCl (mW h0 v cI cZ u) H → va_D A (mW h0 v cI cZ u) → va_S A H0 H locs → lv_has ls 5 [(2, .int (nI 8)), (0, .ref h0), (1, .int p0)] → W p l e R s m args below meth c H locs cells slots Q (F0 m 129 ls [])) : ∀ (k i : Nat) (u : mS) (H : Heap) (locs : List Loc) (ls : Array Slot), i ≤ 8 → 8 - i < k → (mE u0 u ∧ best (vTS u0 p0 i 0) (wr3 u)) → va_P (dC, dI) vwCl (mW h0 v cI cZ u) H → va_D A (mW h0 v cI cZ u) → va_S A H0 H locs → lv_has ls 5 [(2, .int (nI i)), (0, .ref h0), (1, .int p0)] → W p l e R s m args below meth c H locs cells slots Q (F0 m 17 ls []) := by
  intro k
  induction k with
  | zero => intro i u H locs ls h1 h2; exact absurd h2 (Nat.not_lt_zero _)
  | succ k ih =>
    intro i u H locs ls hi hk hg hP hD hS hl
    refine lv_iload_n hx hb dX12_breaks_17 rfl (lv_at hl 0 rfl) ?_
    refine lv_bipush (v := 8) hx hb dX12_breaks_18 (by decide) ?_
    refine lv_icmp_ge (tgt := 129) hx hb dX12_breaks_20 (by decide) (fun c_1 => ?_) (fun c_1 => ?_)
    ·
      have hie : i = 8 := lp_eq rfl (by decide) hi c_1
      subst hie
      exact kx _ _ _ ls hg hP hD hS (lv_sub hl [0, 1, 2] rfl)
    ·
      have hlt : i < 8 := lp_lt rfl (by decide) hi c_1
      have hlnu : ∀ j, j < 96 → bw (u.2 0 j) 0 60 = true := fun j hj => by rw [hg.1.1]; exact hln0 j hj
      refine lv_iconst (v := 0) hx hb dX12_breaks_23 (by decide) ?_
      refine lv_istore_n (lv' := [(3, .int 0), (2, .int (nI i)), (0, .ref h0), (1, .int p0)]) hx hb dX12_breaks_24 rfl hl (by decide) rfl (fun ls hl => ?_)
      obtain ⟨eK, eK2, eK3⟩ := nI_of_bw (hln0 _ (vlt (vin8 hp (bw7 hlt))))
      have h60 : (60 : Int32).toInt = 60 := rfl
      refine n_br_in (u0 := u0) (c9 := i) (K := (u0.2 0 (8 * p0 + nI i).toNatClampNeg).toNatClampNeg) hp hln0 hcl0 hk0 hlt eK (by omega) hx hb hml hts hown hN hK hRf hRl hRc hRs hA (fun u2 H locs ls hg hP hD hS hl => ?_) _ 0 u _ _ ls (Nat.zero_le _) (Nat.lt_succ_self _) hg hP hD hS (lv_sub hl [0, 1, 2, 3] rfl)
      have hb9 := best_c hg.2 (fun t => vTS_c (c := i) t)
      refine lv_iinc (v := (nI (i + 1))) (lv' := [(2, .int (nI (i + 1))), (3, .int (nI (u0.2 0 (8 * p0 + nI i).toNatClampNeg).toNatClampNeg)), (0, .ref h0), (1, .int p0)]) hx hb dX12_breaks_123 hl (k := 1) rfl (nI_1 i) (by decide) rfl (fun ls hl => ?_)
      refine lv_goto (tgt := 17) hx hb dX12_breaks_126 (by decide) ?_
      exact ih (i + 1) _ _ _ ls (by omega) (by omega) ⟨hg.1, hb9⟩ hP hD hS (lv_sub hl [0, 2, 3] rfl)
set_option maxHeartbeats 4000000 in
set_option maxRecDepth 100000 in
theorem n_br_k {p : Program} {l : Launch} {e : Env} {R : Room} {s : State} {m : MethodId} {args : Array Value} {below : List Frame} {meth : Method} {c : Code} {Q : State → Prop} {cells slots : Nat} {dC : Nat → ClassId} {dI : Nat → Nat → Nat} {h0 : Nat} {v : Nat → Nat} {cI cZ : ClassId} {H : Heap} {locs : List Loc} {u : mS} (hx : p.tables.exec = Jvm.exec) (hb : c.code = cX12_breaks) (hml : c.maxLocals = 5) (hts : ∀ w ∈ wsX12_breaks, w.before args s = true) (hown : s.vm.findClass RX12 = some m.cls) (hN : NN s) (hK : va_K (dC, dI) vwCl [(cI, .int), (cZ, .boolean)] s) (hP : va_P (dC, dI) vwCl (mW h0 v cI cZ u) H) {p0 : Int32} {j9 K : Nat} (hj9 : j9 < 80) (hK6 : K ≤ 6) (eK : u.2 22 (nI j9).toNatClampNeg = nI K) (kx : ∀ (a : Int32) (ls : Array Slot), a = bP (thP u p0 j9 K) → lv_has ls 5 [(4, .int (nI K)), (3, .int a), (2, .int (nI j9)), (0, .ref h0), (1, .int p0)] → W p l e R s m args below meth c H locs cells slots Q (F0 m 187 ls [])) : ∀ (k i : Nat) (a : Int32) (ls : Array Slot), i ≤ K → K - i < k → a = bP (thP u p0 j9 i) → lv_has ls 5 [(4, .int (nI i)), (3, .int a), (2, .int (nI j9)), (0, .ref h0), (1, .int p0)] → W p l e R s m args below meth c H locs cells slots Q (F0 m 144 ls []) := by
  intro k
  induction k with
  | zero => intro i a ls h1 h2; exact absurd h2 (Nat.not_lt_zero _)
  | succ k ih =>
    intro i a ls hi hk hg hl
    refine lv_iload hx hb dX12_breaks_144 (lv_at hl 0 rfl) ?_
    refine lv_aload_n hx hb dX12_breaks_146 rfl (lv_at hl 3 rfl) ?_
    refine va_get (D := (dC, dI)) (ci := 11) (v := .ref (v 22)) (C := RX12) (T := TX12) (N := 52) hx hb hts zl_X12_breaks_X12 hown hK hP 0 rfl rfl 22 (by decide) (hts (.fieldLink RX12 74 "PageOneModel" "pieces" "[I") (zat q_wsX12_breaks k_wsX12_breaks 904 rfl (by decide +kernel))) (fun _ h9 => h9) rfl dX12_breaks_147 ?_
    refine lv_iload_n hx hb dX12_breaks_150 rfl (lv_at hl 2 rfl) ?_
    refine va_iald hx hb hK hP 22 0 rfl rfl (vp_in_nI hj9 (by decide)) dX12_breaks_151 ?_
    refine lv_topi (fun y_1 ey_1 => ?_)
    obtain rfl : y_1 = (nI K) := ey_1.trans (eK)
    refine lv_icmp_ge (tgt := 187) hx hb dX12_breaks_152 (by decide) (fun c_2 => ?_) (fun c_2 => ?_)
    ·
      have hie : i = K := lp_eq rfl (by omega) hi c_2
      rw [hie] at hg hl
      exact kx _ ls hg (lv_sub hl [0, 1, 2, 3, 4] rfl)
    ·
      have hlt : i < K := lp_lt rfl (by omega) hi c_2
      refine lv_iload_n hx hb dX12_breaks_155 rfl (lv_at hl 1 rfl) ?_
      refine lv_if_ne (tgt := 175) hx hb dX12_breaks_156 (by decide) (fun c_3 => ?_) (fun c_3 => ?_)
      ·
        refine lv_iconst (v := 1) hx hb dX12_breaks_175 (by decide) ?_
        refine lv_goto (tgt := 180) hx hb dX12_breaks_176 (by decide) ?_
        refine lv_istore_n (lv' := [(3, .int 1), (4, .int (nI i)), (2, .int (nI j9)), (0, .ref h0), (1, .int p0)]) hx hb dX12_breaks_180 rfl hl (by decide) rfl (fun ls hl => ?_)
        refine lv_iinc (v := (nI (i + 1))) (lv' := [(4, .int (nI (i + 1))), (3, .int 1), (2, .int (nI j9)), (0, .ref h0), (1, .int p0)]) hx hb dX12_breaks_181 hl (k := 1) rfl (nI_1 i) (by decide) rfl (fun ls hl => ?_)
        refine lv_goto (tgt := 144) hx hb dX12_breaks_184 (by decide) ?_
        exact ih (i + 1) _ ls (by omega) (by omega) (thP_o hg c_3) (lv_sub hl [0, 1, 2, 3, 4] rfl)
      ·
        refine lv_aload_n hx hb dX12_breaks_159 rfl (lv_at hl 3 rfl) ?_
        refine va_get (D := (dC, dI)) (ci := 11) (v := .ref (v 23)) (C := RX12) (T := TX12) (N := 52) hx hb hts zl_X12_breaks_X12 hown hK hP 0 rfl rfl 23 (by decide) (hts (.fieldLink RX12 77 "PageOneModel" "pPage" "[I") (zat q_wsX12_breaks k_wsX12_breaks 905 rfl (by decide +kernel))) (fun _ h9 => h9) rfl dX12_breaks_160 ?_
        refine lv_bipush (v := 6) hx hb dX12_breaks_163 (by decide) ?_
        refine lv_iload_n hx hb dX12_breaks_165 rfl (lv_at hl 2 rfl) ?_
        refine lv_imul hx hb dX12_breaks_166 ?_
        refine lv_iload hx hb dX12_breaks_167 (lv_at hl 0 rfl) ?_
        refine lv_iadd hx hb dX12_breaks_169 ?_
        refine va_iald hx hb hK hP 23 0 rfl rfl (v6n hj9 (by omega)) dX12_breaks_170 ?_
        refine lv_iload_n hx hb dX12_breaks_171 rfl (lv_at hl 4 rfl) ?_
        refine lv_icmp_ne (tgt := 179) hx hb dX12_breaks_172 (by decide) (fun c_4 => ?_) (fun c_4 => ?_)
        ·
          refine lv_iconst (v := 0) hx hb dX12_breaks_179 (by decide) ?_
          refine lv_istore_n (lv' := [(3, .int 0), (4, .int (nI i)), (2, .int (nI j9)), (0, .ref h0), (1, .int p0)]) hx hb dX12_breaks_180 rfl hl (by decide) rfl (fun ls hl => ?_)
          refine lv_iinc (v := (nI (i + 1))) (lv' := [(4, .int (nI (i + 1))), (3, .int 0), (2, .int (nI j9)), (0, .ref h0), (1, .int p0)]) hx hb dX12_breaks_181 hl (k := 1) rfl (nI_1 i) (by decide) rfl (fun ls hl => ?_)
          refine lv_goto (tgt := 144) hx hb dX12_breaks_184 (by decide) ?_
          exact ih (i + 1) _ ls (by omega) (by omega) (thP_z hg c_3 c_4) (lv_sub hl [0, 1, 2, 3, 4] rfl)
        ·
          refine lv_iconst (v := 1) hx hb dX12_breaks_175 (by decide) ?_
          refine lv_goto (tgt := 180) hx hb dX12_breaks_176 (by decide) ?_
          refine lv_istore_n (lv' := [(3, .int 1), (4, .int (nI i)), (2, .int (nI j9)), (0, .ref h0), (1, .int p0)]) hx hb dX12_breaks_180 rfl hl (by decide) rfl (fun ls hl => ?_)
          refine lv_iinc (v := (nI (i + 1))) (lv' := [(4, .int (nI (i + 1))), (3, .int 1), (2, .int (nI j9)), (0, .ref h0), (1, .int p0)]) hx hb dX12_breaks_181 hl (k := 1) rfl (nI_1 i) (by decide) rfl (fun ls hl => ?_)
          refine lv_goto (tgt := 144) hx hb dX12_breaks_184 (by decide) ?_
          exact ih (i + 1) _ ls (by omega) (by omega) (thP_1 c_4) (lv_sub hl [0, 1, 2, 3, 4] rfl)
theorem best_no {S T : tr3 → Prop} {u : mS} (h : best S (wr3 u)) (hn : ∀ t, ¬ T t) : best (fun t => S t ∨ T t) (wr3 u) := best_c h (fun t => ⟨Or.inl, fun q => q.elim id (fun z => absurd z (hn t))⟩)
theorem best_ad {S T : tr3 → Prop} {w w2 : mS} {k a b : Int32} (h : best S (wr3 w)) (hw : w2 = mWrongs w k a b) (hk : ¬ k = 0) (h2 : ∀ t, T t ↔ t = trN k a b) : best (fun t => S t ∨ T t) (wr3 w2) := by
  rw [hw]
  exact best_c (best_wr h hk) (fun t => ⟨fun q => q.elim Or.inl (fun z => Or.inr ((h2 t).mpr z)), fun q => q.elim Or.inl (fun z => Or.inr ((h2 t).mp z))⟩)
theorem mFrom_E {u w : mS} (h : w.2 = u.2) (i : Int32) : ∀ n, mFrom w i n = mFrom u i n
  | 0 => rfl
  | n + 1 => by
    show mFrom w i n + mTakes w i (nI n) = mFrom u i n + mTakes u i (nI n)
    rw [mFrom_E h i n]
    unfold mTakes
    rw [h]
theorem mStanding_E {u w : mS} (h : w.2 = u.2) (i : Int32) : mStanding w i = mStanding u i := by
  unfold mStanding
  rw [mFrom_E h, h]
/-- an item of a page: short, or a head without its story -/
def thN (u : mS) (p0 : Int32) (j : Nat) : Prop := thP u p0 j (u.2 22 (nI j).toNatClampNeg).toNatClampNeg
def hsP (u : mS) (j : Nat) : Prop := ∃ X D, u.2 24 (6 * nI j).toNatClampNeg = nI X ∧ u.2 26 (6 * nI j).toNatClampNeg = nI D ∧ X + D ≤ 8 ∧ ∃ c, c < D ∧ hsC u (nI j) (6 * nI j) (u.2 25 (6 * nI j).toNatClampNeg + u.2 27 (6 * nI j).toNatClampNeg) (X + c)
def iC4 (u : mS) (p0 : Int32) (j : Nat) : Prop := thN u p0 j ∧ u.2 4 (nI j).toNatClampNeg = 0 ∧ ¬ u.2 5 (nI j).toNatClampNeg ≤ mStanding u (nI j)
def iC5 (u : mS) (p0 : Int32) (j : Nat) : Prop := thN u p0 j ∧ u.2 4 (nI j).toNatClampNeg = 1 ∧ ¬ hsP u j
def iT4 (u : mS) (p0 : Int32) (j : Nat) (t : tr3) : Prop := iC4 u p0 j ∧ t = trN 4 (nI j) (-1)
def iT5 (u : mS) (p0 : Int32) (j : Nat) (t : tr3) : Prop := iC5 u p0 j ∧ t = trN 5 (nI j) (-1)
def itS (u : mS) (p0 : Int32) (n : Nat) (t : tr3) : Prop := ∃ j, j < n ∧ (iT4 u p0 j t ∨ iT5 u p0 j t)
def brS (u : mS) (p0 : Int32) (n : Nat) (t : tr3) : Prop := vTS u p0 8 0 t ∨ itS u p0 n t
theorem brS_n {u : mS} {p0 : Int32} {n : Nat} (t : tr3) : ((brS u p0 n t ∨ iT4 u p0 n t) ∨ iT5 u p0 n t) ↔ brS u p0 (n + 1) t := by
  constructor
  · rintro (((h | ⟨j, h1, h2⟩) | h) | h)
    · exact Or.inl h
    · exact Or.inr ⟨j, by omega, h2⟩
    · exact Or.inr ⟨n, Nat.lt_succ_self _, Or.inl h⟩
    · exact Or.inr ⟨n, Nat.lt_succ_self _, Or.inr h⟩
  · rintro (h | ⟨j, h1, h2⟩)
    · exact Or.inl (Or.inl (Or.inl h))
    · by_cases e : j = n
      · rw [e] at h2
        exact h2.elim (fun z => Or.inl (Or.inr z)) Or.inr
      · exact Or.inl (Or.inl (Or.inr ⟨j, by omega, h2⟩))
theorem thP_E {u w : mS} (h : w.2 = u.2) (p0 : Int32) (j n : Nat) : thP w p0 j n = thP u p0 j n := by
  unfold thP ptC
  rw [h]
theorem bP_nz {P : Prop} {a : Int32} (h : a = bP P) (h2 : ¬ a = 0) : P := Classical.byContradiction (fun q => h2 (by rw [h, bP_f q]))
theorem bP_no {P : Prop} {a : Int32} (h : a = bP P) (h2 : a = 0) : ¬ P := fun q => by rw [h2, bP_t q] at h; exact absurd h (by decide)
theorem hs_P {u w : mS} (h : w.2 = u.2) {j X D : Nat} {z : Int32} (hX3 : X + D ≤ 8) (e24 : u.2 24 (6 * nI j).toNatClampNeg = nI X) (e26 : u.2 26 (6 * nI j).toNatClampNeg = nI D) (hz : z = bP (∃ c, c < D ∧ hsC w (nI j) (6 * nI j) (w.2 25 (6 * nI j).toNatClampNeg + w.2 27 (6 * nI j).toNatClampNeg) (X + c))) : z = bP (hsP u j) := by
  have e : (∃ c, c < D ∧ hsC w (nI j) (6 * nI j) (w.2 25 (6 * nI j).toNatClampNeg + w.2 27 (6 * nI j).toNatClampNeg) (X + c)) ↔ hsP u j := by
    have e2 : ∀ c, hsC w (nI j) (6 * nI j) (w.2 25 (6 * nI j).toNatClampNeg + w.2 27 (6 * nI j).toNatClampNeg) c ↔ hsC u (nI j) (6 * nI j) (u.2 25 (6 * nI j).toNatClampNeg + u.2 27 (6 * nI j).toNatClampNeg) c := fun c => by
      unfold hsC mCell
      rw [h]
    constructor
    · rintro ⟨c, h1, h2⟩
      exact ⟨X, D, e24, e26, hX3, c, h1, (e2 _).mp h2⟩
    · rintro ⟨X2, D2, f1, f2, f3, c, h1, h2⟩
      have eX : X2 = X := (nI_inj (by omega) (by omega)).mp (f1.symm.trans e24)
      have eD : D2 = D := (nI_inj (by omega) (by omega)).mp (f2.symm.trans e26)
      rw [eX] at h2
      exact ⟨c, by omega, (e2 _).mpr h2⟩
  rw [hz]
  by_cases q : hsP u j
  · rw [bP_t q, bP_t (e.mpr q)]
  · rw [bP_f q, bP_f (fun z => q (e.mp z))]
set_option maxHeartbeats 4000000 in
set_option maxRecDepth 100000 in
theorem n_br_it {p : Program} {l : Launch} {e : Env} {R : Room} {s : State} {m : MethodId} {args : Array Value} {below : List Frame} {meth : Method} {c : Code} {Q : State → Prop} {cells slots : Nat} {dC : Nat → ClassId} {dI : Nat → Nat → Nat} {h0 : Nat} {v : Nat → Nat} {cI cZ : ClassId} {u0 : mS} {p0 : Int32} (hp : bw p0 0 11 = true) (hln0 : ∀ j, j < 96 → bw (u0.2 0 j) 0 60 = true) (hcl0 : ∀ j, j < 5760 → mThing (u0.2 2 j) = true → bw (u0.2 2 j) 0 79 = true) (hk0 : ∀ j, j < 80 → u0.2 4 j = 3 → bw (u0.2 10 j) 0 9 = true) {M : Nat} (hM8 : M ≤ 80) (eM : u0.1 3 = nI M) (hpc0 : ∀ j, j < 80 → bw (u0.2 22 j) 0 6 = true) (hsl0 : ∀ j, j < 480 → ∃ X D : Nat, u0.2 24 j = nI X ∧ u0.2 26 j = nI D ∧ X + D ≤ 8) {A : Nat → Prop} {H0 : Heap} (hx : p.tables.exec = Jvm.exec) (hb : c.code = cX12_breaks) (hml : c.maxLocals = 5) (hts : ∀ w ∈ wsX12_breaks, w.before args s = true) (hown : s.vm.findClass RX12 = some m.cls) (hN : NN s) (hK : va_K (dC, dI) vwCl [(cI, .int), (cZ, .boolean)] s) (hRf : 4 ≤ R.frames) (hRl : 90 ≤ R.locals) (hRc : cells ≤ R.cells) (hRs : slots ≤ R.slots) (hA : ∀ q : Nat, H0.size ≤ q → A q) (kx : ∀ (u : mS) (H : Heap) (locs : List Loc) (ls : Array Slot), (mE u0 u ∧ best (brS u0 p0 M) (wr3 u)) → va_P (dC, dI) vwCl (mW h0 v cI cZ u) H → va_D A (mW h0 v cI cZ u) → va_S A H0 H locs → lv_has ls 5 [(2, .int (nI M)), (0, .ref h0), (1, .int p0)] → W p l e R s m args below meth c H locs cells slots Q (F0 m 256 ls [])) : ∀ (k i : Nat) (u : mS) (H : Heap) (locs : List Loc) (ls : Array Slot), i ≤ M → M - i < k → (mE u0 u ∧ best (brS u0 p0 i) (wr3 u)) → va_P (dC, dI) vwCl (mW h0 v cI cZ u) H → va_D A (mW h0 v cI cZ u) → va_S A H0 H locs → lv_has ls 5 [(2, .int (nI i)), (0, .ref h0), (1, .int p0)] → W p l e R s m args below meth c H locs cells slots Q (F0 m 131 ls []) := by
  intro k
  induction k with
  | zero => intro i u H locs ls h1 h2; exact absurd h2 (Nat.not_lt_zero _)
  | succ k ih =>
    intro i u H locs ls hi hk hg hP hD hS hl
    refine lv_iload_n hx hb dX12_breaks_131 rfl (lv_at hl 0 rfl) ?_
    refine lv_aload_n hx hb dX12_breaks_132 rfl (lv_at hl 1 rfl) ?_
    refine va_get (D := (dC, dI)) (ci := 11) (v := .int (u.1 3)) (C := RX12) (T := TX12) (N := 52) hx hb hts zl_X12_breaks_X12 hown hK hP 0 rfl rfl 3 (by decide) (hts (.fieldLink RX12 147 "PageOneModel" "items" "I") (zat q_wsX12_breaks k_wsX12_breaks 885 rfl (by decide +kernel))) (fun _ h9 => h9) rfl dX12_breaks_133 ?_
    refine lv_topi (fun y_1 ey_1 => ?_)
    obtain rfl : y_1 = (nI M) := ey_1.trans ((by rw [hg.1.2 3 (by decide) (by decide) (by decide)]; exact eM))
    refine lv_icmp_ge (tgt := 256) hx hb dX12_breaks_136 (by decide) (fun c_2 => ?_) (fun c_2 => ?_)
    ·
      have hie : i = M := lp_eq rfl (by omega) hi c_2
      rw [hie] at hg hl
      exact kx _ _ _ ls hg hP hD hS (lv_sub hl [0, 1, 2] rfl)
    ·
      have hlt : i < M := lp_lt rfl (by omega) hi c_2
      have hb0 := hg.2
      have hg := hg.1
      have hlnu : ∀ j, j < 96 → bw (u.2 0 j) 0 60 = true := fun j hj => by rw [hg.1]; exact hln0 j hj
      refine lv_iconst (v := 0) hx hb dX12_breaks_139 (by decide) ?_
      refine lv_istore_n (lv' := [(3, .int 0), (2, .int (nI i)), (0, .ref h0), (1, .int p0)]) hx hb dX12_breaks_140 rfl hl (by decide) rfl (fun ls hl => ?_)
      refine lv_iconst (v := 0) hx hb dX12_breaks_141 (by decide) ?_
      refine lv_istore (lv' := [(4, .int 0), (3, .int 0), (2, .int (nI i)), (0, .ref h0), (1, .int p0)]) hx hb dX12_breaks_142 hl (by decide) rfl (fun ls hl => ?_)
      obtain ⟨eK, eK2, eK3⟩ := nI_of_bw (hpc0 (nI i).toNatClampNeg (by rw [nI_clamp (by omega)]; omega))
      have h6 : (6 : Int32).toInt = 6 := rfl
      refine w_cut (X := fun R cells slots Q args => ∀ (uJ221 : mS) (H : Heap) (locs : List Loc) (a : Int32) (ls : Array Slot), mE u0 uJ221 → best (fun t => brS u0 p0 i t ∨ iT4 u0 p0 i t) (wr3 uJ221) → a = bP (thN u0 p0 i) → va_P (dC, dI) vwCl (mW h0 v cI cZ uJ221) H → va_D A (mW h0 v cI cZ uJ221) → va_S A H0 H locs → lv_has ls 5 [(3, .int a), (2, .int (nI i)), (0, .ref h0), (1, .int p0)] → W p l e R s m args below meth c H locs cells slots Q (F0 m 221 ls [])) ?_ (fun kJ221 => ?_)
      ·
        intro uJ221 H locs a ls hg hBa hAa hP hD hS hl
        refine lv_iload_n hx hb dX12_breaks_221 rfl (lv_at hl 0 rfl) ?_
        refine lv_if_eq (tgt := 250) hx hb dX12_breaks_222 (by decide) (fun c_3 => ?_) (fun c_3 => ?_)
        ·
          refine lv_iinc (v := (nI (i + 1))) (lv' := [(2, .int (nI (i + 1))), (3, .int a), (0, .ref h0), (1, .int p0)]) hx hb dX12_breaks_250 hl (k := 1) rfl (nI_1 i) (by decide) rfl (fun ls hl => ?_)
          refine lv_goto (tgt := 131) hx hb dX12_breaks_253 (by decide) ?_
          exact ih (i + 1) _ _ _ ls (by omega) (by omega) ⟨hg, best_c (best_no hBa (fun t q => bP_no hAa c_3 q.1.1)) (fun t => brS_n t)⟩ hP hD hS (lv_sub hl [0, 2, 3] rfl)
        ·
          refine lv_aload_n hx hb dX12_breaks_225 rfl (lv_at hl 2 rfl) ?_
          refine va_get (D := (dC, dI)) (ci := 11) (v := .ref (v 4)) (C := RX12) (T := TX12) (N := 52) hx hb hts zl_X12_breaks_X12 hown hK hP 0 rfl rfl 4 (by decide) (hts (.fieldLink RX12 19 "PageOneModel" "kind" "[I") (zat q_wsX12_breaks k_wsX12_breaks 886 rfl (by decide +kernel))) (fun _ h9 => h9) rfl dX12_breaks_226 ?_
          refine lv_iload_n hx hb dX12_breaks_229 rfl (lv_at hl 1 rfl) ?_
          refine va_iald hx hb hK hP 4 0 rfl rfl (vp_in_nI (by omega) (by decide)) dX12_breaks_230 ?_
          refine lv_iconst (v := 1) hx hb dX12_breaks_231 (by decide) ?_
          refine lv_icmp_ne (tgt := 250) hx hb dX12_breaks_232 (by decide) (fun c_4 => ?_) (fun c_4 => ?_)
          ·
            refine lv_iinc (v := (nI (i + 1))) (lv' := [(2, .int (nI (i + 1))), (3, .int a), (0, .ref h0), (1, .int p0)]) hx hb dX12_breaks_250 hl (k := 1) rfl (nI_1 i) (by decide) rfl (fun ls hl => ?_)
            refine lv_goto (tgt := 131) hx hb dX12_breaks_253 (by decide) ?_
            exact ih (i + 1) _ _ _ ls (by omega) (by omega) ⟨hg, best_c (best_no hBa (fun t q => c_4 (by rw [hg.1]; exact q.1.2.1))) (fun t => brS_n t)⟩ hP hD hS (lv_sub hl [0, 2, 3] rfl)
          ·
            refine lv_aload_n hx hb dX12_breaks_235 rfl (lv_at hl 2 rfl) ?_
            refine lv_iload_n hx hb dX12_breaks_236 rfl (lv_at hl 1 rfl) ?_
            obtain ⟨X, D, hX1, hX2, hX3⟩ := hsl0 (6 * nI i).toNatClampNeg (vlt (v60 (bw79 (by omega)) rfl))
            refine vp_callSi (va_runV (As := [.int (nI i)]) (rest := []) ⟨hx, hb, hml, hown, hts⟩ (n_hasStory l dC dI h0 v cI cZ uJ221 (nI i) X D (bw79 (by omega)) hX3 (fun j hj => by rw [hg.1]; exact hln0 j hj) (by rw [hg.1]; exact hX1) (by rw [hg.1]; exact hX2)) (cwV 1 hts gX12_breaks_X12_hasStory rfl rfl rfl zh_X12_hasStory_23 ⟨Nat.le_trans (Nat.le_of_ble_eq_true rfl) hRf, Nat.le_trans (Nat.le_of_ble_eq_true rfl) hRl⟩) ⟨pw_fb, va_recv hK hP (ci := 11) (q0 := 0) rfl rfl, fun U hU hW => ⟨rfl, pw_to hU hW hP hK hN⟩⟩ rfl rfl hl.1 rfl (lv_room (Nat.le_of_ble_eq_true rfl)) dX12_breaks_237 ⟨hRc, hRs⟩).run (fun r hw => ?_)
            generalize r = z_5 at hw ⊢
            have hz5 := hs_P hg.1 hX3 hX1 hX2 hw
            refine lv_if_ne (tgt := 250) hx hb dX12_breaks_240 (by decide) (fun c_6 => ?_) (fun c_6 => ?_)
            ·
              refine lv_iinc (v := (nI (i + 1))) (lv' := [(2, .int (nI (i + 1))), (3, .int a), (0, .ref h0), (1, .int p0)]) hx hb dX12_breaks_250 hl (k := 1) rfl (nI_1 i) (by decide) rfl (fun ls hl => ?_)
              refine lv_goto (tgt := 131) hx hb dX12_breaks_253 (by decide) ?_
              exact ih (i + 1) _ _ _ ls (by omega) (by omega) ⟨hg, best_c (best_no hBa (fun t q => q.1.2.2 (bP_nz hz5 c_6))) (fun t => brS_n t)⟩ hP hD hS (lv_sub hl [0, 2, 3] rfl)
            ·
              refine lv_aload_n hx hb dX12_breaks_243 rfl (lv_at hl 2 rfl) ?_
              refine lv_iconst (v := 5) hx hb dX12_breaks_244 (by decide) ?_
              refine lv_iload_n hx hb dX12_breaks_245 rfl (lv_at hl 1 rfl) ?_
              refine lv_iconst (v := (-1)) hx hb dX12_breaks_246 (by decide) ?_
              have hg8 := hg
              have hFc := fr_all hD hS hA
              refine va_callv (va_runV (As := [.int 5, .int (nI i), .int (-1)]) (rest := []) ⟨hx, hb, hml, hown, hts⟩ (m_wrongs l dC dI h0 v cI cZ uJ221 5 (nI i) (-1) H.size) (cwV 3 hts gX12_breaks_X12_wrongs rfl rfl rfl zh_X12_wrongs_21 ⟨Nat.le_trans (Nat.le_of_ble_eq_true rfl) hRf, Nat.le_trans (Nat.le_of_ble_eq_true rfl) hRl⟩) ⟨gw_fb, va_recv hK hP (ci := 11) (q0 := 0) rfl rfl, fun U hU hW => ⟨rfl, by rw [hU], pw_to hU hW hP hK hN, hD.weaken (fun _ _ _ _ => trivial)⟩⟩ rfl rfl hl.1 rfl (lv_room (Nat.le_of_ble_eq_true rfl)) dX12_breaks_247 ⟨hRc, hRs⟩) hS (fun q _ h => hFc q h) hFc (fun u_7 t H1 locs ht hvm hw hB hz1 hk1 hS => ?_)
              obtain ⟨hP, hD1⟩ := hB
              rw [ht] at hP
              have hD := hD1.weaken (fun _ q _ h => hFc q.1 h)
              generalize H1 = H at hP hS ⊢
              have hg := mE_wr hg hw
              have hwr := hw
              refine lv_iinc (v := (nI (i + 1))) (lv' := [(2, .int (nI (i + 1))), (3, .int a), (0, .ref h0), (1, .int p0)]) hx hb dX12_breaks_250 hl (k := 1) rfl (nI_1 i) (by decide) rfl (fun ls hl => ?_)
              refine lv_goto (tgt := 131) hx hb dX12_breaks_253 (by decide) ?_
              exact ih (i + 1) _ _ _ ls (by omega) (by omega) ⟨hg, best_c (best_ad hBa hwr (by decide) (fun t => ⟨fun q => q.2, fun q => ⟨⟨bP_nz hAa c_3, by rw [← hg8.1]; exact c_4, bP_no hz5 (by first | exact c_6 | exact Classical.byContradiction c_6)⟩, q⟩⟩)) (fun t => brS_n t)⟩ hP hD hS (lv_sub hl [0, 2, 3] rfl)
      ·
        refine n_br_k (j9 := i) (K := (u0.2 22 (nI i).toNatClampNeg).toNatClampNeg) hx hb hml hts hown hN hK hP (by omega) (by omega) (by rw [hg.1]; exact eK) (fun a ls hg2 hl => ?_) _ 0 0 ls (Nat.zero_le _) (Nat.lt_succ_self _) (bP_f (fun ⟨t, q, _⟩ => absurd q (Nat.not_lt_zero _))).symm (lv_sub hl [0, 1, 2, 3, 4] rfl)
        have hA9 : a = bP (thN u0 p0 i) := by rw [hg2, thP_E hg.1]; rfl
        refine lv_iload_n hx hb dX12_breaks_187 rfl (lv_at hl 1 rfl) ?_
        refine lv_if_eq (tgt := 221) hx hb dX12_breaks_188 (by decide) (fun c_8 => ?_) (fun c_8 => ?_)
        ·
          exact kJ221 _ _ _ _ ls hg (best_no hb0 (fun t q => bP_no hA9 c_8 q.1.1)) hA9 hP hD hS (lv_sub hl [1, 2, 3, 4] rfl)
        ·
          refine lv_aload_n hx hb dX12_breaks_191 rfl (lv_at hl 3 rfl) ?_
          refine va_get (D := (dC, dI)) (ci := 11) (v := .ref (v 4)) (C := RX12) (T := TX12) (N := 52) hx hb hts zl_X12_breaks_X12 hown hK hP 0 rfl rfl 4 (by decide) (hts (.fieldLink RX12 19 "PageOneModel" "kind" "[I") (zat q_wsX12_breaks k_wsX12_breaks 886 rfl (by decide +kernel))) (fun _ h9 => h9) rfl dX12_breaks_192 ?_
          refine lv_iload_n hx hb dX12_breaks_195 rfl (lv_at hl 2 rfl) ?_
          refine va_iald hx hb hK hP 4 0 rfl rfl (vp_in_nI (by omega) (by decide)) dX12_breaks_196 ?_
          refine lv_if_ne (tgt := 221) hx hb dX12_breaks_197 (by decide) (fun c_9 => ?_) (fun c_9 => ?_)
          ·
            exact kJ221 _ _ _ _ ls hg (best_no hb0 (fun t q => c_9 (by rw [hg.1]; exact q.1.2.1))) hA9 hP hD hS (lv_sub hl [1, 2, 3, 4] rfl)
          ·
            refine lv_aload_n hx hb dX12_breaks_200 rfl (lv_at hl 3 rfl) ?_
            refine lv_iload_n hx hb dX12_breaks_201 rfl (lv_at hl 2 rfl) ?_
            refine vp_callSi (va_runV (As := [.int (nI i)]) (rest := []) ⟨hx, hb, hml, hown, hts⟩ (m_standing l dC dI h0 v cI cZ u (nI i) (bw79 (by omega)) (by rw [hg.1]; exact hpc0 _ (by rw [nI_clamp (by omega)]; omega))) (cwV 1 hts gX12_breaks_X12_standing rfl rfl rfl zh_X12_standing_13 ⟨Nat.le_trans (Nat.le_of_ble_eq_true rfl) hRf, Nat.le_trans (Nat.le_of_ble_eq_true rfl) hRl⟩) ⟨pw_fb, va_recv hK hP (ci := 11) (q0 := 0) rfl rfl, fun U hU hW => ⟨rfl, pw_to hU hW hP hK hN⟩⟩ rfl rfl hl.1 rfl (lv_room (Nat.le_of_ble_eq_true rfl)) dX12_breaks_202 ⟨hRc, hRs⟩).run (fun r hw => ?_)
            obtain rfl : r = (mStanding u (nI i)) := hw
            refine lv_aload_n hx hb dX12_breaks_205 rfl (lv_at hl 3 rfl) ?_
            refine va_get (D := (dC, dI)) (ci := 11) (v := .ref (v 5)) (C := RX12) (T := TX12) (N := 52) hx hb hts zl_X12_breaks_X12 hown hK hP 0 rfl rfl 5 (by decide) (hts (.fieldLink RX12 22 "PageOneModel" "least" "[I") (zat q_wsX12_breaks k_wsX12_breaks 887 rfl (by decide +kernel))) (fun _ h9 => h9) rfl dX12_breaks_206 ?_
            refine lv_iload_n hx hb dX12_breaks_209 rfl (lv_at hl 2 rfl) ?_
            refine va_iald hx hb hK hP 5 0 rfl rfl (vp_in_nI (by omega) (by decide)) dX12_breaks_210 ?_
            refine lv_icmp_ge (tgt := 221) hx hb dX12_breaks_211 (by decide) (fun c_10 => ?_) (fun c_10 => ?_)
            ·
              exact kJ221 _ _ _ _ ls hg (best_no hb0 (fun t q => q.1.2.2 (by rw [← hg.1, ← mStanding_E hg.1]; exact c_10))) hA9 hP hD hS (lv_sub hl [1, 2, 3, 4] rfl)
            ·
              refine lv_aload_n hx hb dX12_breaks_214 rfl (lv_at hl 3 rfl) ?_
              refine lv_iconst (v := 4) hx hb dX12_breaks_215 (by decide) ?_
              refine lv_iload_n hx hb dX12_breaks_216 rfl (lv_at hl 2 rfl) ?_
              refine lv_iconst (v := (-1)) hx hb dX12_breaks_217 (by decide) ?_
              have hg8 := hg
              have hFc := fr_all hD hS hA
              refine va_callv (va_runV (As := [.int 4, .int (nI i), .int (-1)]) (rest := []) ⟨hx, hb, hml, hown, hts⟩ (m_wrongs l dC dI h0 v cI cZ u 4 (nI i) (-1) H.size) (cwV 3 hts gX12_breaks_X12_wrongs rfl rfl rfl zh_X12_wrongs_21 ⟨Nat.le_trans (Nat.le_of_ble_eq_true rfl) hRf, Nat.le_trans (Nat.le_of_ble_eq_true rfl) hRl⟩) ⟨gw_fb, va_recv hK hP (ci := 11) (q0 := 0) rfl rfl, fun U hU hW => ⟨rfl, by rw [hU], pw_to hU hW hP hK hN, hD.weaken (fun _ _ _ _ => trivial)⟩⟩ rfl rfl hl.1 rfl (lv_room (Nat.le_of_ble_eq_true rfl)) dX12_breaks_218 ⟨hRc, hRs⟩) hS (fun q _ h => hFc q h) hFc (fun u_11 t H1 locs ht hvm hw hB hz1 hk1 hS => ?_)
              obtain ⟨hP, hD1⟩ := hB
              rw [ht] at hP
              have hD := hD1.weaken (fun _ q _ h => hFc q.1 h)
              generalize H1 = H at hP hS ⊢
              have hg := mE_wr hg hw
              have hwr := hw
              exact kJ221 _ _ _ _ ls hg (best_ad hb0 hwr (by decide) (fun t => ⟨fun q => q.2, fun q => ⟨⟨bP_nz hA9 c_8, by rw [← hg8.1]; exact c_9, by rw [← hg8.1, ← mStanding_E hg8.1]; exact c_10⟩, q⟩⟩)) hA9 hP hD hS (lv_sub hl [1, 2, 3, 4] rfl)
theorem wr3_0 (u : mS) : wr3 (mset (mset (mset u 49 0) 50 (-1)) 51 (-1)) = (0, -1, -1) := by
  unfold wr3 mset
  dsimp only
  rw [if_neg (by decide), if_neg (by decide), if_pos rfl, if_neg (by decide), if_pos rfl, if_pos rfl]
set_option maxHeartbeats 4000000 in
set_option maxRecDepth 100000 in
theorem n_breaks (l : Launch) (dC : Nat → ClassId) (dI : Nat → Nat → Nat) (h0 : Nat) (v : Nat → Nat) (cI cZ : ClassId) (u : mS) (p0 : Int32) (hp : bw p0 0 11 = true) (hn : bw (u.1 3) 0 80 = true) (hln : ∀ j, j < 96 → bw (u.2 0 j) 0 60 = true) (hcl : ∀ j, j < 5760 → mThing (u.2 2 j) = true → bw (u.2 2 j) 0 79 = true) (hk : ∀ j, j < 80 → u.2 4 j = 3 → bw (u.2 10 j) 0 9 = true) (hpc : ∀ j, j < 80 → bw (u.2 22 j) 0 6 = true) (hsl : ∀ j, j < 480 → ∃ X D : Nat, u.2 24 j = nI X ∧ u.2 26 j = nI D ∧ X + D ≤ 8) (sz : Nat) : Met l yX12_breaks wsX12_breaks ({ frames := 4, cells := 0, slots := 0, locals := 90 }) (va_Pc [.ref h0, .int p0] (fun U => U.heap.size = sz ∧ PW dC dI (mW h0 v cI cZ u) [(cI, .int), (cZ, .boolean)] U ∧ va_D (fun _ => True) (mW h0 v cI cZ u))) (va_Qv (fun u9 : mS => mE u u9 ∧ best (brS u p0 (u.1 3).toNatClampNeg) (wr3 u9)) (fun u9 t => va_P (dC, dI) vwCl (mW h0 v cI cZ u9) t.heap ∧ va_D (va_A (mW h0 v cI cZ u) sz) (mW h0 v cI cZ u9)) (va_A (mW h0 v cI cZ u) sz)) 0 0 (va_A (mW h0 v cI cZ u) sz) := by
  refine Met.ofW (cc := cX12_breaks) (maxL := 5) (ret := none) (by decide) rfl ?_
  intro p e s m args below meth c s₁ B hml hv
  obtain ⟨rfl, hsz, ⟨hP, hK, hN⟩, hD0⟩ := hv
  have hx := B.exec
  have hb := B.bytes
  have hr := B.returns
  have hts := atoms_spec (ws := wsX12_breaks) B.pre
  have hown : s.vm.findClass RX12 = some m.cls := findClass_of_methodNamed B.named
  have hlocks := B.notSynchronized
  subst hsz
  have hD := hD0.self (sz := s.heap.size)
  generalize hAe : va_A (mW h0 v cI cZ u) s.heap.size = A at hD ⊢
  have hA : ∀ q : Nat, s.heap.size ≤ q → A q := fun q h => by rw [← hAe]; exact Or.inr h
  have hS : va_S A s.heap s.heap [] := va_S.rf
  have hl := lv_entry ([.ref h0, .int p0]) (n := 5) (Nat.le_of_ble_eq_true rfl)
  rw [lg_entry_eq]
  generalize (lg_sl ([.ref h0, .int p0]) ++ List.replicate (5 - (lg_sl ([.ref h0, .int p0])).length) Slot.unset).toArray = ls at hl ⊢
  have hl : lv_has ls 5 [(0, .ref h0), (1, .int p0)] := hl
  refine lv_aload_n hx hb dX12_breaks_0 rfl (lv_at hl 0 rfl) ?_
  refine lv_iconst (v := 0) hx hb dX12_breaks_1 (by decide) ?_
  refine va_put (D := (dC, dI)) (ci := 11) (v := .int 0) (ty := .int) (C := RX12) (T := TX12) (N := 52) hx hb hts zl_X12_breaks_X12 tyX12 tyX12_ok nmX12 hown hK hP hD hS 0 rfl rfl 49 (by decide) (hts (.fieldLink RX12 228 "PageOneModel" "wrong" "I") (zat q_wsX12_breaks k_wsX12_breaks 931 rfl (by decide +kernel))) (fun _ h9 => h9) rfl (tyX12_ok 49 (by decide)) rfl rfl (Nat.le_of_ble_eq_true rfl) dX12_breaks_2 (fun H locs hP hD hS => ?_)
  obtain ⟨u_1, eu_1⟩ : ∃ zz : mS, zz = mset u 49 0 := ⟨_, rfl⟩
  have hP : va_P (dC, dI) vwCl (mW h0 v cI cZ u_1) H := by rw [eu_1]; exact hP
  have hD : va_D A (mW h0 v cI cZ u_1) := by rw [eu_1]; exact hD
  refine lv_aload_n hx hb dX12_breaks_5 rfl (lv_at hl 0 rfl) ?_
  refine lv_iconst (v := (-1)) hx hb dX12_breaks_6 (by decide) ?_
  refine va_put (D := (dC, dI)) (ci := 11) (v := .int (-1)) (ty := .int) (C := RX12) (T := TX12) (N := 52) hx hb hts zl_X12_breaks_X12 tyX12 tyX12_ok nmX12 hown hK hP hD hS 0 rfl rfl 50 (by decide) (hts (.fieldLink RX12 231 "PageOneModel" "wrongOne" "I") (zat q_wsX12_breaks k_wsX12_breaks 932 rfl (by decide +kernel))) (fun _ h9 => h9) rfl (tyX12_ok 50 (by decide)) rfl rfl (Nat.le_of_ble_eq_true rfl) dX12_breaks_7 (fun H locs hP hD hS => ?_)
  obtain ⟨u_2, eu_2⟩ : ∃ zz : mS, zz = mset u_1 50 (-1) := ⟨_, rfl⟩
  have hP : va_P (dC, dI) vwCl (mW h0 v cI cZ u_2) H := by rw [eu_2]; exact hP
  have hD : va_D A (mW h0 v cI cZ u_2) := by rw [eu_2]; exact hD
  refine lv_aload_n hx hb dX12_breaks_10 rfl (lv_at hl 0 rfl) ?_
  refine lv_iconst (v := (-1)) hx hb dX12_breaks_11 (by decide) ?_
  refine va_put (D := (dC, dI)) (ci := 11) (v := .int (-1)) (ty := .int) (C := RX12) (T := TX12) (N := 52) hx hb hts zl_X12_breaks_X12 tyX12 tyX12_ok nmX12 hown hK hP hD hS 0 rfl rfl 51 (by decide) (hts (.fieldLink RX12 234 "PageOneModel" "wrongTwo" "I") (zat q_wsX12_breaks k_wsX12_breaks 933 rfl (by decide +kernel))) (fun _ h9 => h9) rfl (tyX12_ok 51 (by decide)) rfl rfl (Nat.le_of_ble_eq_true rfl) dX12_breaks_12 (fun H locs hP hD hS => ?_)
  obtain ⟨u_3, eu_3⟩ : ∃ zz : mS, zz = mset u_2 51 (-1) := ⟨_, rfl⟩
  have hP : va_P (dC, dI) vwCl (mW h0 v cI cZ u_3) H := by rw [eu_3]; exact hP
  have hD : va_D A (mW h0 v cI cZ u_3) := by rw [eu_3]; exact hD
  refine lv_iconst (v := 0) hx hb dX12_breaks_15 (by decide) ?_
  refine lv_istore_n (lv' := [(2, .int 0), (0, .ref h0), (1, .int p0)]) hx hb dX12_breaks_16 rfl hl (by decide) rfl (fun ls hl => ?_)
  have hg : mE u u_3 ∧ best (vTS u p0 0 0) (wr3 u_3) := ⟨by rw [eu_3, eu_2, eu_1]; exact mE_set (mE_set (mE_set (mE_rf u) (Or.inl rfl) _) (Or.inr (Or.inl rfl)) _) (Or.inr (Or.inr rfl)) _, Or.inl ⟨by rw [eu_3, eu_2, eu_1]; exact wr3_0 u, fun t => vTS_0 t⟩⟩
  refine n_br_out (u0 := u) hp hln hcl hk hx hb hml hts hown hN hK (Nat.le_of_ble_eq_true rfl) (Nat.le_of_ble_eq_true rfl) (Nat.le_of_ble_eq_true rfl) (Nat.le_of_ble_eq_true rfl) hA (fun u4 H locs ls hg hP hD hS hl => ?_) 9 0 u_3 _ _ ls (by decide) (by decide) hg hP hD hS (lv_sub hl [0, 1, 2] rfl)
  refine lv_iconst (v := 0) hx hb dX12_breaks_129 (by decide) ?_
  refine lv_istore_n (lv' := [(2, .int 0), (0, .ref h0), (1, .int p0)]) hx hb dX12_breaks_130 rfl hl (by decide) rfl (fun ls hl => ?_)
  obtain ⟨eK, eK2, eK3⟩ := nI_of_bw hn
  have h80 : (80 : Int32).toInt = 80 := rfl
  refine n_br_it (u0 := u) (M := (u.1 3).toNatClampNeg) hp hln hcl hk (by omega) eK hpc hsl hx hb hml hts hown hN hK (Nat.le_of_ble_eq_true rfl) (Nat.le_of_ble_eq_true rfl) (Nat.le_of_ble_eq_true rfl) (Nat.le_of_ble_eq_true rfl) hA (fun u5 H locs ls hg hP hD hS hl => ?_) _ 0 u4 _ _ ls (Nat.zero_le _) (Nat.lt_succ_self _) ⟨hg.1, best_c hg.2 (fun t => ⟨Or.inl, fun q => q.elim id (fun ⟨j, z, _⟩ => absurd z (Nat.not_lt_zero _))⟩)⟩ hP hD hS (lv_sub hl [0, 1, 2] rfl)
  exact W.vret hx hb hr (fun t ht hW => ⟨⟨u5, rfl, hg, by rw [ht]; exact hP, hD⟩, hS.F ht⟩) hS.2.2 dX12_breaks_256
/-- what broken answers -/
def bkX (u : mS) (p wh r : Int32) (u9 : mS) : Prop := mE u u9 ∧ (((¬ bw p 0 11 = true ∨ ¬ bw wh 0 2 = true) ∧ r = (-1)) ∨ (bw p 0 11 = true ∧ bw wh 0 2 = true ∧ ∃ b, best (brS u p (u.1 3).toNatClampNeg) b ∧ r = (if wh = 0 then b.1 else if wh = 1 then b.2.1 else b.2.2)))
set_option maxHeartbeats 4000000 in
set_option maxRecDepth 100000 in
theorem n_broken (l : Launch) (dC : Nat → ClassId) (dI : Nat → Nat → Nat) (h0 : Nat) (v : Nat → Nat) (cI cZ : ClassId) (u : mS) (p0 p1 : Int32) (hn : bw (u.1 3) 0 80 = true) (hln : ∀ j, j < 96 → bw (u.2 0 j) 0 60 = true) (hcl : ∀ j, j < 5760 → mThing (u.2 2 j) = true → bw (u.2 2 j) 0 79 = true) (hk : ∀ j, j < 80 → u.2 4 j = 3 → bw (u.2 10 j) 0 9 = true) (hpc : ∀ j, j < 80 → bw (u.2 22 j) 0 6 = true) (hsl : ∀ j, j < 480 → ∃ X D : Nat, u.2 24 j = nI X ∧ u.2 26 j = nI D ∧ X + D ≤ 8) (sz : Nat) : Met l yX12_broken wsX12_broken ({ frames := 5, cells := 0, slots := 0, locals := 114 }) (va_Pc [.ref h0, .int p0, .int p1] (fun U => U.heap.size = sz ∧ PW dC dI (mW h0 v cI cZ u) [(cI, .int), (cZ, .boolean)] U ∧ va_D (fun _ => True) (mW h0 v cI cZ u))) (va_Qi (fun (r : Int32) (u9 : mS) => bkX u p0 p1 r u9) (fun u9 t => va_P (dC, dI) vwCl (mW h0 v cI cZ u9) t.heap ∧ va_D (va_A (mW h0 v cI cZ u) sz) (mW h0 v cI cZ u9)) (va_A (mW h0 v cI cZ u) sz)) 0 0 (va_A (mW h0 v cI cZ u) sz) := by
  refine Met.ofW (cc := cX12_broken) (maxL := 3) (ret := (some .int)) (by decide) rfl ?_
  intro p e s m args below meth c s₁ B hml hv
  obtain ⟨rfl, hsz, ⟨hP, hK, hN⟩, hD0⟩ := hv
  have hx := B.exec
  have hb := B.bytes
  have hr := B.returns
  have hts := atoms_spec (ws := wsX12_broken) B.pre
  have hown : s.vm.findClass RX12 = some m.cls := findClass_of_methodNamed B.named
  have hlocks := B.notSynchronized
  subst hsz
  have hD := hD0.self (sz := s.heap.size)
  generalize hAe : va_A (mW h0 v cI cZ u) s.heap.size = A at hD ⊢
  have hA : ∀ q : Nat, s.heap.size ≤ q → A q := fun q h => by rw [← hAe]; exact Or.inr h
  have hS : va_S A s.heap s.heap [] := va_S.rf
  have hl := lv_entry ([.ref h0, .int p0, .int p1]) (n := 3) (Nat.le_of_ble_eq_true rfl)
  rw [lg_entry_eq]
  generalize (lg_sl ([.ref h0, .int p0, .int p1]) ++ List.replicate (3 - (lg_sl ([.ref h0, .int p0, .int p1])).length) Slot.unset).toArray = ls at hl ⊢
  have hl : lv_has ls 3 [(0, .ref h0), (1, .int p0), (2, .int p1)] := hl
  refine lv_iload_n hx hb dX12_broken_0 rfl (lv_at hl 1 rfl) ?_
  refine vp_callSi (va_runS (As := [.int p0]) (rest := []) ⟨hx, hb, hml, hown, hts⟩ (m_isPage l dC dI p0) (va_cwS 1 hts gX12_broken_X12_isPage rfl rfl rfl zh_X12_isPage_4 ⟨Nat.le_of_ble_eq_true rfl, Nat.le_of_ble_eq_true rfl⟩) ⟨pw_fb, fun U hU hW => ⟨rfl, pw_to hU hW (hP.sub (ws' := []) [] rfl) (hK.sub (tys' := []) [] rfl) hN⟩⟩ rfl rfl hl.1 rfl (lv_room (Nat.le_of_ble_eq_true rfl)) dX12_broken_1 ⟨Nat.le_of_ble_eq_true rfl, Nat.le_of_ble_eq_true rfl⟩).run (fun r hw => ?_)
  rcases Bool.eq_false_or_eq_true (bw p0 0 11) with b_1 | b_1
  ·
    obtain rfl : r = 1 := b_t hw b_1
    refine lv_if_eq (tgt := 16) hx hb dX12_broken_4 (by decide) (fun c_2 => absurd c_2 (by decide)) (fun c_2 => ?_)
    refine lv_iload_n hx hb dX12_broken_7 rfl (lv_at hl 2 rfl) ?_
    refine lv_iconst (v := 0) hx hb dX12_broken_8 (by decide) ?_
    refine lv_iconst (v := 2) hx hb dX12_broken_9 (by decide) ?_
    refine vp_callSi (va_runS (As := [.int p1, .int 0, .int 2]) (rest := []) ⟨hx, hb, hml, hown, hts⟩ (m_in l dC dI p1 0 2) (va_cwS 3 hts gX12_broken_X12_in rfl rfl rfl zh_X12_in_0 ⟨Nat.le_of_ble_eq_true rfl, Nat.le_of_ble_eq_true rfl⟩) ⟨pw_fb, fun U hU hW => ⟨rfl, pw_to hU hW (hP.sub (ws' := []) [] rfl) (hK.sub (tys' := []) [] rfl) hN⟩⟩ rfl rfl hl.1 rfl (lv_room (Nat.le_of_ble_eq_true rfl)) dX12_broken_10 ⟨Nat.le_of_ble_eq_true rfl, Nat.le_of_ble_eq_true rfl⟩).run (fun r hw => ?_)
    rcases Bool.eq_false_or_eq_true (bw p1 0 2) with b_3 | b_3
    ·
      obtain rfl : r = 1 := b_t hw b_3
      refine lv_if_ne (tgt := 18) hx hb dX12_broken_13 (by decide) (fun c_4 => ?_) (fun c_4 => absurd c_4 (by decide))
      refine lv_aload_n hx hb dX12_broken_18 rfl (lv_at hl 0 rfl) ?_
      refine lv_iload_n hx hb dX12_broken_19 rfl (lv_at hl 1 rfl) ?_
      have hFc := fr_all hD hS hA
      refine va_callv (va_runV (As := [.int p0]) (rest := []) ⟨hx, hb, hml, hown, hts⟩ (n_breaks l dC dI h0 v cI cZ u p0 b_1 hn hln hcl hk hpc hsl s.heap.size) (cwV 1 hts gX12_broken_X12_breaks rfl rfl rfl zh_X12_breaks_24 ⟨Nat.le_of_ble_eq_true rfl, Nat.le_of_ble_eq_true rfl⟩) ⟨gw_fb, va_recv hK hP (ci := 11) (q0 := 0) rfl rfl, fun U hU hW => ⟨rfl, by rw [hU], pw_to hU hW hP hK hN, hD.weaken (fun _ _ _ _ => trivial)⟩⟩ rfl rfl hl.1 rfl (lv_room (Nat.le_of_ble_eq_true rfl)) dX12_broken_20 ⟨Nat.le_of_ble_eq_true rfl, Nat.le_of_ble_eq_true rfl⟩) hS (fun q _ h => hFc q h) hFc (fun u_5 t H1 locs ht hvm hw hB hz1 hk1 hS => ?_)
      obtain ⟨hP, hD1⟩ := hB
      rw [ht] at hP
      have hD := hD1.weaken (fun _ q _ h => hFc q.1 h)
      generalize H1 = H at hP hS ⊢
      have hg : mE u u_5 := hw.1
      have hbr9 := hw.2
      refine lv_iload_n hx hb dX12_broken_23 rfl (lv_at hl 2 rfl) ?_
      refine lv_if_ne (tgt := 34) hx hb dX12_broken_24 (by decide) (fun c_6 => ?_) (fun c_6 => ?_)
      ·
        refine lv_iload_n hx hb dX12_broken_34 rfl (lv_at hl 2 rfl) ?_
        refine lv_iconst (v := 1) hx hb dX12_broken_35 (by decide) ?_
        refine lv_icmp_ne (tgt := 46) hx hb dX12_broken_36 (by decide) (fun c_7 => ?_) (fun c_7 => ?_)
        ·
          refine lv_aload_n hx hb dX12_broken_46 rfl (lv_at hl 0 rfl) ?_
          refine va_get (D := (dC, dI)) (ci := 11) (v := .int (u_5.1 51)) (C := RX12) (T := TX12) (N := 52) hx hb hts zl_X12_broken_X12 hown hK hP 0 rfl rfl 51 (by decide) (hts (.fieldLink RX12 234 "PageOneModel" "wrongTwo" "I") (zat q_wsX12_broken k_wsX12_broken 933 rfl (by decide +kernel))) (fun _ h9 => h9) rfl dX12_broken_47 ?_
          exact W.iret (v := (u_5.1 51)) hx hb hr (fun t ht hW => ⟨⟨(u_5.1 51), u_5, rfl, ⟨hg, Or.inr ⟨b_1, b_3, _, hbr9, by first | (rw [if_neg c_6, if_pos c_7]; rfl) | (rw [if_neg c_6, if_neg c_7]; rfl)⟩⟩, by rw [ht]; exact hP, hD⟩, hS.F ht⟩) hS.2.2 dX12_broken_50
        ·
          refine lv_aload_n hx hb dX12_broken_39 rfl (lv_at hl 0 rfl) ?_
          refine va_get (D := (dC, dI)) (ci := 11) (v := .int (u_5.1 50)) (C := RX12) (T := TX12) (N := 52) hx hb hts zl_X12_broken_X12 hown hK hP 0 rfl rfl 50 (by decide) (hts (.fieldLink RX12 231 "PageOneModel" "wrongOne" "I") (zat q_wsX12_broken k_wsX12_broken 932 rfl (by decide +kernel))) (fun _ h9 => h9) rfl dX12_broken_40 ?_
          refine lv_goto (tgt := 50) hx hb dX12_broken_43 (by decide) ?_
          exact W.iret (v := (u_5.1 50)) hx hb hr (fun t ht hW => ⟨⟨(u_5.1 50), u_5, rfl, ⟨hg, Or.inr ⟨b_1, b_3, _, hbr9, by first | (rw [if_neg c_6, if_pos c_7]; rfl) | (rw [if_neg c_6, if_neg c_7]; rfl)⟩⟩, by rw [ht]; exact hP, hD⟩, hS.F ht⟩) hS.2.2 dX12_broken_50
      ·
        refine lv_aload_n hx hb dX12_broken_27 rfl (lv_at hl 0 rfl) ?_
        refine va_get (D := (dC, dI)) (ci := 11) (v := .int (u_5.1 49)) (C := RX12) (T := TX12) (N := 52) hx hb hts zl_X12_broken_X12 hown hK hP 0 rfl rfl 49 (by decide) (hts (.fieldLink RX12 228 "PageOneModel" "wrong" "I") (zat q_wsX12_broken k_wsX12_broken 931 rfl (by decide +kernel))) (fun _ h9 => h9) rfl dX12_broken_28 ?_
        refine lv_goto (tgt := 50) hx hb dX12_broken_31 (by decide) ?_
        exact W.iret (v := (u_5.1 49)) hx hb hr (fun t ht hW => ⟨⟨(u_5.1 49), u_5, rfl, ⟨hg, Or.inr ⟨b_1, b_3, _, hbr9, by rw [if_pos c_6]; rfl⟩⟩, by rw [ht]; exact hP, hD⟩, hS.F ht⟩) hS.2.2 dX12_broken_50
    ·
      obtain rfl : r = 0 := b_f hw b_3
      refine lv_if_ne (tgt := 18) hx hb dX12_broken_13 (by decide) (fun c_8 => absurd (by decide) c_8) (fun c_8 => ?_)
      refine lv_iconst (v := (-1)) hx hb dX12_broken_16 (by decide) ?_
      exact W.iret (v := (-1)) hx hb hr (fun t ht hW => ⟨⟨(-1), u, rfl, ⟨mE_rf u, Or.inl ⟨Or.inr (bne b_3), rfl⟩⟩, by rw [ht]; exact hP, hD⟩, hS.F ht⟩) hS.2.2 dX12_broken_17
  ·
    obtain rfl : r = 0 := b_f hw b_1
    refine lv_if_eq (tgt := 16) hx hb dX12_broken_4 (by decide) (fun c_9 => ?_) (fun c_9 => absurd (by decide) c_9)
    refine lv_iconst (v := (-1)) hx hb dX12_broken_16 (by decide) ?_
    exact W.iret (v := (-1)) hx hb hr (fun t ht hW => ⟨⟨(-1), u, rfl, ⟨mE_rf u, Or.inl ⟨Or.inl (bne b_1), rfl⟩⟩, by rw [ht]; exact hP, hD⟩, hS.F ht⟩) hS.2.2 dX12_broken_17
/-- a plate in the making: all but the rows 43 to 46 -/
def plA (u0 : mS) (P : Nat) (u : mS) : Prop := (∀ k, k ≠ 49 → k ≠ 50 → k ≠ 51 → u.1 k = u0.1 k) ∧ (∀ r, r < 40 ∨ 46 < r → u.2 r = u0.2 r) ∧ (∀ j, u.2 40 j = if j = P then 1 else u0.2 40 j) ∧ (∀ j, u.2 41 j = if j = P then u0.1 38 else u0.2 41 j) ∧ ∀ j, u.2 42 j = if j = P then u0.1 39 else u0.2 42 j
def plC (u0 u : mS) (P n : Nat) : Prop := ∀ j, u.2 44 j = if 480 * P ≤ j ∧ j < 480 * P + n then u0.2 2 j else u0.2 44 j
def plL (u0 u : mS) (P n : Nat) : Prop := ∀ j, u.2 43 j = if 8 * P ≤ j ∧ j < 8 * P + n then u0.2 0 j else u0.2 43 j
theorem plA_st {u0 u : mS} {P : Nat} (h : plA u0 P u) {k : Nat} (hk : 43 ≤ k ∧ k ≤ 46) (i x : Int32) : plA u0 P (mst u k i x) := by
  obtain ⟨a1, a2, a3, a4, a5⟩ := h
  refine ⟨fun j q1 q2 q3 => (congrFun (mst_1 u k i x) j).trans (a1 j q1 q2 q3), fun r hr => by rw [mst_other (by omega)]; exact a2 r hr, fun j => by rw [mst_other (by omega)]; exact a3 j, fun j => by rw [mst_other (by omega)]; exact a4 j, fun j => by rw [mst_other (by omega)]; exact a5 j⟩
theorem plA_3 {u0 v : mS} {P : Nat} {p0 x y z : Int32} (h : mE u0 v) (hP : P < 12) (eP : p0 = nI P) (hx : x = 1) (hy : y = u0.1 38) (hz : z = u0.1 39) : plA u0 P (mst (mst (mst v 40 p0 x) 41 p0 y) 42 p0 z) := by
  have ep : p0.toNatClampNeg = P := by rw [eP, nI_clamp (by omega)]
  refine ⟨fun k q1 q2 q3 => ?_, fun r hr => ?_, fun j => ?_, fun j => ?_, fun j => ?_⟩
  · rw [mst_1, mst_1, mst_1]; exact h.2 k q1 q2 q3
  · rw [mst_other (by omega), mst_other (by omega), mst_other (by omega), h.1]
  · rw [mst_other (by decide), mst_other (by decide), mst_at, ep, hx, h.1]
  · rw [mst_other (by decide), mst_at, ep, hy, mst_other (by decide), h.1]
  · rw [mst_at, ep, hz, mst_other (by decide), mst_other (by decide), h.1]
theorem pl3_o {u0 v : mS} {p0 x y z : Int32} (h : mE u0 v) {r : Nat} (hr : 43 ≤ r) : (mst (mst (mst v 40 p0 x) 41 p0 y) 42 p0 z).2 r = u0.2 r := by
  rw [mst_other (by omega), mst_other (by omega), mst_other (by omega), h.1]
theorem plC_0 {u0 u : mS} {P : Nat} (h : u.2 44 = u0.2 44) : plC u0 u P 0 := fun j => by rw [h, if_neg (by omega)]
theorem plL_0 {u0 u : mS} {P : Nat} (h : u.2 43 = u0.2 43) : plL u0 u P 0 := fun j => by rw [h, if_neg (by omega)]
theorem i480 {P i : Nat} (hP : P < 12) (hi : i < 480) : (480 * nI P + nI i).toNatClampNeg = 480 * P + i := by
  rw [show (480 : Int32) = nI 480 from rfl, pk_mul, nI_add, nI_clamp (by omega)]
theorem i6k {j k : Nat} (hj : j < 80) (hk : k < 6) : (6 * nI j + nI k).toNatClampNeg = 6 * j + k := by
  rw [show (6 : Int32) = nI 6 from rfl, pk_mul, nI_add, nI_clamp (by omega)]
theorem plC_s {u0 u : mS} {P i : Nat} {p0 x : Int32} (h : plC u0 u P i) (hP : P < 12) (eP : p0 = nI P) (hi : i < 480) (hx : x = u0.2 2 (480 * P + i)) : plC u0 (mst u 44 (480 * p0 + nI i) x) P (i + 1) := fun j => by
  rw [mst_at, eP, i480 hP hi, hx, h j]
  by_cases e : j = 480 * P + i
  · rw [if_pos e, if_pos (by omega), e]
  · rw [if_neg e]
    by_cases q : 480 * P ≤ j ∧ j < 480 * P + i
    · rw [if_pos q, if_pos (by omega)]
    · rw [if_neg q, if_neg (by omega)]
theorem plL_s {u0 u : mS} {P i : Nat} {p0 x : Int32} (h : plL u0 u P i) (hP : P < 12) (eP : p0 = nI P) (hi : i < 8) (hx : x = u0.2 0 (8 * P + i)) : plL u0 (mst u 43 (8 * p0 + nI i) x) P (i + 1) := fun j => by
  rw [mst_at, eP, idx8 hP hi, hx, h j]
  by_cases e : j = 8 * P + i
  · rw [if_pos e, if_pos (by omega), e]
  · rw [if_neg e]
    by_cases q : 8 * P ≤ j ∧ j < 8 * P + i
    · rw [if_pos q, if_pos (by omega)]
    · rw [if_neg q, if_neg (by omega)]
/-- the first of an item's pieces lo .. hi that is on page P -/
def pgK (u : mS) (P t k : Nat) : Prop := u.2 23 (6 * t + k) = nI P
def plR (u : mS) (P t lo hi : Nat) (x y : Int32) : Prop := (x = (-1) ∧ ∀ k, lo ≤ k → k < hi → ¬ pgK u P t k) ∨ ∃ k, lo ≤ k ∧ k < hi ∧ pgK u P t k ∧ (∀ k', lo ≤ k' → k' < k → ¬ pgK u P t k') ∧ x = u.2 24 (6 * t + k) ∧ y = u.2 25 (6 * t + k)
theorem plR_o {u : mS} {P t lo hi : Nat} {x y : Int32} (h : plR u P t (lo + 1) hi x y) (hn : ¬ pgK u P t lo) : plR u P t lo hi x y := by
  rcases h with ⟨h1, h2⟩ | ⟨k, h1, h2, h3, h4, h5⟩
  · refine Or.inl ⟨h1, fun k q1 q2 => ?_⟩
    by_cases e : k = lo
    · rw [e]; exact hn
    · exact h2 k (by omega) q2
  · refine Or.inr ⟨k, by omega, h2, h3, fun k' q1 q2 => ?_, h5⟩
    by_cases e : k' = lo
    · rw [e]; exact hn
    · exact h4 k' (by omega) q2
theorem plR_n {u : mS} {P t lo hi : Nat} (hl : lo < hi) (hp : pgK u P t lo) : plR u P t lo hi (u.2 24 (6 * t + lo)) (u.2 25 (6 * t + lo)) := Or.inr ⟨lo, Nat.le_refl _, hl, hp, fun k' q1 q2 => absurd q1 (by omega), rfl, rfl⟩
/-- how many pieces item t has -/
def ptN (u : mS) (t : Nat) : Nat := if t < (u.1 3).toNatClampNeg then (u.2 22 t).toNatClampNeg else 0
def plB (u0 : mS) (P : Nat) (u : mS) : Prop := plA u0 P u ∧ plC u0 u P 480 ∧ plL u0 u P 8
theorem plB_st {u0 u : mS} {P : Nat} (h : plB u0 P u) {k : Nat} (hk : k = 45 ∨ k = 46) (i x : Int32) : plB u0 P (mst u k i x) := ⟨plA_st h.1 (by omega) i x, fun j => by rw [mst_other (by omega)]; exact h.2.1 j, fun j => by rw [mst_other (by omega)]; exact h.2.2 j⟩
/-- the items before i are told -/
def plI9 (u0 : mS) (P : Nat) (u : mS) (i : Nat) : Prop := (∀ j, j < 80 * P ∨ 80 * P + i ≤ j → u.2 45 j = u0.2 45 j ∧ u.2 46 j = u0.2 46 j) ∧ ∀ t, t < i → plR u0 P t 0 (ptN u0 t) (u.2 45 (80 * P + t)) (u.2 46 (80 * P + t))
/-- item j9 in the making -/
def plK9 (u0 ub : mS) (P : Nat) (u : mS) (j9 lo hi : Nat) : Prop := (∀ j, j ≠ 80 * P + j9 → u.2 45 j = ub.2 45 j ∧ u.2 46 j = ub.2 46 j) ∧ plR u0 P j9 lo hi (u.2 45 (80 * P + j9)) (u.2 46 (80 * P + j9))
theorem plK_s {u0 ub u : mS} {P j9 lo hi : Nat} {p0 x y : Int32} (h : plK9 u0 ub P u j9 (lo + 1) hi) (hP : P < 12) (hj : j9 < 80) (eP : p0 = nI P) (hl : lo < hi) (hp : pgK u0 P j9 lo) (hx : x = u0.2 24 (6 * j9 + lo)) (hy : y = u0.2 25 (6 * j9 + lo)) : plK9 u0 ub P (mst (mst u 45 (80 * p0 + nI j9) x) 46 (80 * p0 + nI j9) y) j9 lo hi := by
  have e8 : (80 * p0 + nI j9).toNatClampNeg = 80 * P + j9 := by rw [eP]; exact i80 (by omega) hj
  refine ⟨fun j hj => ?_, ?_⟩
  · rw [mst_at, mst_other (by decide), mst_at, mst_other (by decide), e8, if_neg hj, if_neg hj]; exact h.1 j hj
  · rw [mst_at, mst_other (by decide), mst_at, e8, if_pos rfl, if_pos rfl, hx, hy]
    exact plR_n hl hp
theorem plK_0 {u0 u : mS} {P j9 K : Nat} {p0 : Int32} (hP : P < 12) (hj : j9 < 80) (eP : p0 = nI P) : plK9 u0 u P (mst u 45 (80 * p0 + nI j9) (-1)) j9 K K := by
  have e8 : (80 * p0 + nI j9).toNatClampNeg = 80 * P + j9 := by rw [eP]; exact i80 (by omega) hj
  refine ⟨fun j hj => ?_, Or.inl ⟨?_, fun k q1 q2 => absurd q1 (by omega)⟩⟩
  · rw [mst_at, mst_other (by decide), e8, if_neg hj]; exact ⟨rfl, rfl⟩
  · rw [mst_at, e8, if_pos rfl]
theorem plI_s {u0 u w : mS} {P i : Nat} (h : plI9 u0 P u i) (hk : plK9 u0 u P w i 0 (ptN u0 i)) : plI9 u0 P w (i + 1) := by
  refine ⟨fun j hj => ?_, fun t ht => ?_⟩
  · have q := hk.1 j (by omega)
    rw [q.1, q.2]; exact h.1 j (by omega)
  · by_cases e : t = i
    · rw [e]; exact hk.2
    · have q := hk.1 (80 * P + t) (by omega)
      rw [q.1, q.2]; exact h.2 t (by omega)
/-- how many cells a page has -/
def plS (u : mS) (p0 : Int32) : Nat → Int32
  | 0 => 0
  | n + 1 => plS u p0 n + u.2 0 (8 * p0 + nI n).toNatClampNeg
set_option maxHeartbeats 4000000 in
set_option maxRecDepth 100000 in
theorem n_pl_in {p : Program} {l : Launch} {e : Env} {R : Room} {s : State} {m : MethodId} {args : Array Value} {below : List Frame} {meth : Method} {c : Code} {Q : State → Prop} {cells slots : Nat} {dC : Nat → ClassId} {dI : Nat → Nat → Nat} {h0 : Nat} {v : Nat → Nat} {cI cZ : ClassId} {H : Heap} {locs : List Loc} {u : mS} (hx : p.tables.exec = Jvm.exec) (hb : c.code = cX12_plate) (hml : c.maxLocals = 5) (hts : ∀ w ∈ wsX12_plate, w.before args s = true) (hown : s.vm.findClass RX12 = some m.cls) (hN : NN s) (hK : va_K (dC, dI) vwCl [(cI, .int), (cZ, .boolean)] s) (hRf : 1 ≤ R.frames) (hRl : 22 ≤ R.locals) (hRc : cells ≤ R.cells) (hRs : slots ≤ R.slots) (hP : va_P (dC, dI) vwCl (mW h0 v cI cZ u) H) {p0 a0 : Int32} {c9 K : Nat} (hp : bw p0 0 11 = true) (hc8 : c9 < 8) (eK : u.2 0 (8 * p0 + nI c9).toNatClampNeg = nI K) (hK6 : K ≤ 60) (kx55 : ∀ (i : Nat) (a : Int32) (ls : Array Slot), i < K → (u.2 2 (480 * p0 + 60 * nI c9 + nI i).toNatClampNeg) = (-2) → (a = a0 + nI i ∧ ∀ t, t < i → ¬ (u.2 2 (480 * p0 + 60 * nI c9 + nI t).toNatClampNeg) = (-2)) → lv_has ls 5 [(4, .int (nI i)), (2, .int a), (3, .int (nI c9)), (0, .ref h0), (1, .int p0)] → W p l e R s m args below meth c H locs cells slots Q (F0 m 55 ls [])) (kx : ∀ (a : Int32) (ls : Array Slot), (a = a0 + nI K ∧ ∀ t, t < K → ¬ (u.2 2 (480 * p0 + 60 * nI c9 + nI t).toNatClampNeg) = (-2)) → lv_has ls 5 [(4, .int (nI K)), (2, .int a), (3, .int (nI c9)), (0, .ref h0), (1, .int p0)] → W p l e R s m args below meth c H locs cells slots Q (F0 m 66 ls [])) : ∀ (k i : Nat) (a : Int32) (ls : Array Slot), i ≤ K → K - i < k → (a = a0 + nI i ∧ ∀ t, t < i → ¬ (u.2 2 (480 * p0 + 60 * nI c9 + nI t).toNatClampNeg) = (-2)) → lv_has ls 5 [(4, .int (nI i)), (2, .int a), (3, .int (nI c9)), (0, .ref h0), (1, .int p0)] → W p l e R s m args below meth c H locs cells slots Q (F0 m 22 ls []) := by
  intro k
  induction k with
  | zero => intro i a ls h1 h2; exact absurd h2 (Nat.not_lt_zero _)
  | succ k ih =>
    intro i a ls hi hk hg hl
    refine lv_iload hx hb dX12_plate_22 (lv_at hl 0 rfl) ?_
    refine lv_aload_n hx hb dX12_plate_24 rfl (lv_at hl 3 rfl) ?_
    refine va_get (D := (dC, dI)) (ci := 11) (v := .ref (v 0)) (C := RX12) (T := TX12) (N := 52) hx hb hts zl_X12_plate_X12 hown hK hP 0 rfl rfl 0 (by decide) (hts (.fieldLink RX12 7 "PageOneModel" "lines" "[I") (zat q_wsX12_plate k_wsX12_plate 882 rfl (by decide +kernel))) (fun _ h9 => h9) rfl dX12_plate_25 ?_
    refine lv_bipush (v := 8) hx hb dX12_plate_28 (by decide) ?_
    refine lv_iload_n hx hb dX12_plate_30 rfl (lv_at hl 4 rfl) ?_
    refine lv_imul hx hb dX12_plate_31 ?_
    refine lv_iload_n hx hb dX12_plate_32 rfl (lv_at hl 2 rfl) ?_
    refine lv_iadd hx hb dX12_plate_33 ?_
    refine va_iald hx hb hK hP 1 0 rfl rfl (vin8 hp (bw7 hc8)) dX12_plate_34 ?_
    refine lv_topi (fun y_1 ey_1 => ?_)
    obtain rfl : y_1 = (nI K) := ey_1.trans (eK)
    refine lv_icmp_ge (tgt := 66) hx hb dX12_plate_35 (by decide) (fun c_2 => ?_) (fun c_2 => ?_)
    ·
      have hie : i = K := lp_eq rfl (by omega) hi c_2
      rw [hie] at hg hl
      exact kx _ ls hg (lv_sub hl [0, 1, 2, 3, 4] rfl)
    ·
      have hlt : i < K := lp_lt rfl (by omega) hi c_2
      refine lv_aload_n hx hb dX12_plate_38 rfl (lv_at hl 3 rfl) ?_
      refine va_get (D := (dC, dI)) (ci := 11) (v := .ref (v 2)) (C := RX12) (T := TX12) (N := 52) hx hb hts zl_X12_plate_X12 hown hK hP 0 rfl rfl 2 (by decide) (hts (.fieldLink RX12 16 "PageOneModel" "cell" "[I") (zat q_wsX12_plate k_wsX12_plate 884 rfl (by decide +kernel))) (fun _ h9 => h9) rfl dX12_plate_39 ?_
      refine lv_iload_n hx hb dX12_plate_42 rfl (lv_at hl 4 rfl) ?_
      refine lv_iload_n hx hb dX12_plate_43 rfl (lv_at hl 2 rfl) ?_
      refine lv_iload hx hb dX12_plate_44 (lv_at hl 0 rfl) ?_
      refine vp_callSi (va_runS (As := [.int p0, .int (nI c9), .int (nI i)]) (rest := [.ref (v 2)]) ⟨hx, hb, hml, hown, hts⟩ (m_at l dC dI p0 (nI c9) (nI i)) (va_cwS 3 hts gX12_plate_X12_at rfl rfl rfl zh_X12_at_7 ⟨Nat.le_trans (Nat.le_of_ble_eq_true rfl) hRf, Nat.le_trans (Nat.le_of_ble_eq_true rfl) hRl⟩) ⟨pw_fb, fun U hU hW => ⟨rfl, pw_to hU hW (hP.sub (ws' := []) [] rfl) (hK.sub (tys' := []) [] rfl) hN⟩⟩ rfl rfl hl.1 rfl (lv_room (Nat.le_of_ble_eq_true rfl)) dX12_plate_46 ⟨hRc, hRs⟩).run (fun r hw => ?_)
      obtain rfl : r = (480 * p0 + 60 * (nI c9) + (nI i)) := hw
      refine va_iald hx hb hK hP 3 0 rfl rfl (vinC hp (bw7 hc8) (by omega)) dX12_plate_49 ?_
      refine lv_bipush (v := (-2)) hx hb dX12_plate_50 (by decide) ?_
      refine lv_icmp_ne (tgt := 57) hx hb dX12_plate_52 (by decide) (fun c_3 => ?_) (fun c_3 => ?_)
      ·
        obtain ⟨x_4, ex_4⟩ : ∃ y : Int32, y = a + 1 := ⟨_, rfl⟩
        refine lv_iinc (v := x_4) (lv' := [(2, .int x_4), (4, .int (nI i)), (3, .int (nI c9)), (0, .ref h0), (1, .int p0)]) hx hb dX12_plate_57 hl (k := 1) rfl (by rw [ex_4]; rfl) (by decide) rfl (fun ls hl => ?_)
        refine lv_iinc (v := (nI (i + 1))) (lv' := [(4, .int (nI (i + 1))), (2, .int x_4), (3, .int (nI c9)), (0, .ref h0), (1, .int p0)]) hx hb dX12_plate_60 hl (k := 1) rfl (nI_1 i) (by decide) rfl (fun ls hl => ?_)
        refine lv_goto (tgt := 22) hx hb dX12_plate_63 (by decide) ?_
        exact ih (i + 1) _ ls (by omega) (by omega) ⟨by rw [ex_4, hg.1, Int32.add_assoc, nI_1], fun t ht => if h3 : t = i then by rw [h3]; exact c_3 else hg.2 t (by omega)⟩ (lv_sub hl [0, 1, 2, 3, 4] rfl)
      ·
        exact kx55 i _ ls hlt c_3 hg (lv_sub hl [0, 1, 2, 3, 4] rfl)
set_option maxHeartbeats 4000000 in
set_option maxRecDepth 100000 in
theorem n_pl_out {p : Program} {l : Launch} {e : Env} {R : Room} {s : State} {m : MethodId} {args : Array Value} {below : List Frame} {meth : Method} {c : Code} {Q : State → Prop} {cells slots : Nat} {dC : Nat → ClassId} {dI : Nat → Nat → Nat} {h0 : Nat} {v : Nat → Nat} {cI cZ : ClassId} {H : Heap} {locs : List Loc} {u : mS} (hx : p.tables.exec = Jvm.exec) (hb : c.code = cX12_plate) (hml : c.maxLocals = 5) (hts : ∀ w ∈ wsX12_plate, w.before args s = true) (hown : s.vm.findClass RX12 = some m.cls) (hN : NN s) (hK : va_K (dC, dI) vwCl [(cI, .int), (cZ, .boolean)] s) (hRf : 1 ≤ R.frames) (hRl : 22 ≤ R.locals) (hRc : cells ≤ R.cells) (hRs : slots ≤ R.slots) (hP : va_P (dC, dI) vwCl (mW h0 v cI cZ u) H) {p0 : Int32} (hp : bw p0 0 11 = true) (hln : ∀ j, j < 96 → bw (u.2 0 j) 0 60 = true) (kx55 : ∀ (i : Nat) (a : Int32) (ls : Array Slot), i < 8 → (∃ c l, c < 8 ∧ l < lnN u p0 c ∧ u.2 2 (480 * p0 + 60 * nI c + nI l).toNatClampNeg = (-2)) → lv_has ls 5 [(3, .int (nI i)), (2, .int a), (0, .ref h0), (1, .int p0)] → W p l e R s m args below meth c H locs cells slots Q (F0 m 55 ls [])) (kx : ∀ (a : Int32) (ls : Array Slot), (a = plS u p0 8 ∧ (∀ c l, c < 8 → l < lnN u p0 c → ¬ u.2 2 (480 * p0 + 60 * nI c + nI l).toNatClampNeg = (-2))) → lv_has ls 5 [(3, .int (nI 8)), (2, .int a), (0, .ref h0), (1, .int p0)] → W p l e R s m args below meth c H locs cells slots Q (F0 m 72 ls [])) : ∀ (k i : Nat) (a : Int32) (ls : Array Slot), i ≤ 8 → 8 - i < k → (a = plS u p0 i ∧ (∀ c l, c < i → l < lnN u p0 c → ¬ u.2 2 (480 * p0 + 60 * nI c + nI l).toNatClampNeg = (-2))) → lv_has ls 5 [(3, .int (nI i)), (2, .int a), (0, .ref h0), (1, .int p0)] → W p l e R s m args below meth c H locs cells slots Q (F0 m 13 ls []) := by
  intro k
  induction k with
  | zero => intro i a ls h1 h2; exact absurd h2 (Nat.not_lt_zero _)
  | succ k ih =>
    intro i a ls hi hk hg hl
    refine lv_iload_n hx hb dX12_plate_13 rfl (lv_at hl 0 rfl) ?_
    refine lv_bipush (v := 8) hx hb dX12_plate_14 (by decide) ?_
    refine lv_icmp_ge (tgt := 72) hx hb dX12_plate_16 (by decide) (fun c_1 => ?_) (fun c_1 => ?_)
    ·
      have hie : i = 8 := lp_eq rfl (by decide) hi c_1
      subst hie
      exact kx _ ls hg (lv_sub hl [0, 1, 2, 3] rfl)
    ·
      have hlt : i < 8 := lp_lt rfl (by decide) hi c_1
      refine lv_iconst (v := 0) hx hb dX12_plate_19 (by decide) ?_
      refine lv_istore (lv' := [(4, .int 0), (3, .int (nI i)), (2, .int a), (0, .ref h0), (1, .int p0)]) hx hb dX12_plate_20 hl (by decide) rfl (fun ls hl => ?_)
      obtain ⟨eK, eK2, eK3⟩ := nI_of_bw (hln _ (vlt (vin8 hp (bw7 hlt))))
      have h60 : (60 : Int32).toInt = 60 := rfl
      refine n_pl_in (a0 := a) (c9 := i) (K := (u.2 0 (8 * p0 + nI i).toNatClampNeg).toNatClampNeg) hx hb hml hts hown hN hK hRf hRl hRc hRs hP hp hlt eK (by omega) (fun j b ls hj he _ hl => kx55 i b ls hlt ⟨i, j, hlt, hj, he⟩ (lv_sub hl [2, 1, 3, 4] rfl)) (fun b ls hg2 hl => ?_) _ 0 _ ls (Nat.zero_le _) (Nat.lt_succ_self _) ⟨(Int32.add_zero a).symm, fun t ht => absurd ht (Nat.not_lt_zero _)⟩ (lv_sub hl [0, 2, 1, 3, 4] rfl)
      have hg9 : b = plS u p0 (i + 1) ∧ (∀ c l, c < (i + 1) → l < lnN u p0 c → ¬ u.2 2 (480 * p0 + 60 * nI c + nI l).toNatClampNeg = (-2)) := ⟨by rw [hg2.1, hg.1, ← eK]; rfl, fun c l h1 h2 => if h3 : c = i then by rw [h3] at h2 ⊢; exact hg2.2 l h2 else hg.2 c l (by omega) h2⟩
      refine lv_iinc (v := (nI (i + 1))) (lv' := [(3, .int (nI (i + 1))), (4, .int (nI (u.2 0 (8 * p0 + nI i).toNatClampNeg).toNatClampNeg)), (2, .int b), (0, .ref h0), (1, .int p0)]) hx hb dX12_plate_66 hl (k := 2) rfl (nI_1 i) (by decide) rfl (fun ls hl => ?_)
      refine lv_goto (tgt := 13) hx hb dX12_plate_69 (by decide) ?_
      exact ih (i + 1) _ ls (by omega) (by omega) hg9 (lv_sub hl [0, 2, 3, 4] rfl)
set_option maxHeartbeats 4000000 in
set_option maxRecDepth 100000 in
theorem n_pl_c {p : Program} {l : Launch} {e : Env} {R : Room} {s : State} {m : MethodId} {args : Array Value} {below : List Frame} {meth : Method} {c : Code} {Q : State → Prop} {cells slots : Nat} {dC : Nat → ClassId} {dI : Nat → Nat → Nat} {h0 : Nat} {v : Nat → Nat} {cI cZ : ClassId} {u0 : mS} {p0 b9 : Int32} {P : Nat} (hp : bw p0 0 11 = true) (hP12 : P < 12) (eP : p0 = nI P) {A : Nat → Prop} {H0 : Heap} (hx : p.tables.exec = Jvm.exec) (hb : c.code = cX12_plate) (hml : c.maxLocals = 5) (hts : ∀ w ∈ wsX12_plate, w.before args s = true) (hown : s.vm.findClass RX12 = some m.cls) (hN : NN s) (hK : va_K (dC, dI) vwCl [(cI, .int), (cZ, .boolean)] s) (hA : ∀ q : Nat, H0.size ≤ q → A q) (kx : ∀ (u : mS) (H : Heap) (locs : List Loc) (ls : Array Slot), (plA u0 P u ∧ plC u0 u P 480 ∧ u.2 43 = u0.2 43 ∧ u.2 45 = u0.2 45 ∧ u.2 46 = u0.2 46) → va_P (dC, dI) vwCl (mW h0 v cI cZ u) H → va_D A (mW h0 v cI cZ u) → va_S A H0 H locs → lv_has ls 5 [(3, .int (nI 480)), (2, .int b9), (0, .ref h0), (1, .int p0)] → W p l e R s m args below meth c H locs cells slots Q (F0 m 156 ls [])) : ∀ (k i : Nat) (u : mS) (H : Heap) (locs : List Loc) (ls : Array Slot), i ≤ 480 → 480 - i < k → (plA u0 P u ∧ plC u0 u P i ∧ u.2 43 = u0.2 43 ∧ u.2 45 = u0.2 45 ∧ u.2 46 = u0.2 46) → va_P (dC, dI) vwCl (mW h0 v cI cZ u) H → va_D A (mW h0 v cI cZ u) → va_S A H0 H locs → lv_has ls 5 [(3, .int (nI i)), (2, .int b9), (0, .ref h0), (1, .int p0)] → W p l e R s m args below meth c H locs cells slots Q (F0 m 119 ls []) := by
  intro k
  induction k with
  | zero => intro i u H locs ls h1 h2; exact absurd h2 (Nat.not_lt_zero _)
  | succ k ih =>
    intro i u H locs ls hi hk hg hP hD hS hl
    refine lv_iload_n hx hb dX12_plate_119 rfl (lv_at hl 0 rfl) ?_
    refine lv_sipush (v := 480) hx hb dX12_plate_120 (by decide) ?_
    refine lv_icmp_ge (tgt := 156) hx hb dX12_plate_123 (by decide) (fun c_1 => ?_) (fun c_1 => ?_)
    ·
      have hie : i = 480 := lp_eq rfl (by decide) hi c_1
      subst hie
      exact kx _ _ _ ls hg hP hD hS (lv_sub hl [0, 1, 2, 3] rfl)
    ·
      have hlt : i < 480 := lp_lt rfl (by decide) hi c_1
      refine lv_aload_n hx hb dX12_plate_126 rfl (lv_at hl 2 rfl) ?_
      refine va_get (D := (dC, dI)) (ci := 11) (v := .ref (v 44)) (C := RX12) (T := TX12) (N := 52) hx hb hts zl_X12_plate_X12 hown hK hP 0 rfl rfl 44 (by decide) (hts (.fieldLink RX12 128 "PageOneModel" "plateCell" "[I") (zat q_wsX12_plate k_wsX12_plate 926 rfl (by decide +kernel))) (fun _ h9 => h9) rfl dX12_plate_127 ?_
      refine lv_sipush (v := 480) hx hb dX12_plate_130 (by decide) ?_
      refine lv_iload_n hx hb dX12_plate_133 rfl (lv_at hl 3 rfl) ?_
      refine lv_imul hx hb dX12_plate_134 ?_
      refine lv_iload_n hx hb dX12_plate_135 rfl (lv_at hl 0 rfl) ?_
      refine lv_iadd hx hb dX12_plate_136 ?_
      refine lv_aload_n hx hb dX12_plate_137 rfl (lv_at hl 2 rfl) ?_
      refine va_get (D := (dC, dI)) (ci := 11) (v := .ref (v 2)) (C := RX12) (T := TX12) (N := 52) hx hb hts zl_X12_plate_X12 hown hK hP 0 rfl rfl 2 (by decide) (hts (.fieldLink RX12 16 "PageOneModel" "cell" "[I") (zat q_wsX12_plate k_wsX12_plate 884 rfl (by decide +kernel))) (fun _ h9 => h9) rfl dX12_plate_138 ?_
      refine lv_sipush (v := 480) hx hb dX12_plate_141 (by decide) ?_
      refine lv_iload_n hx hb dX12_plate_144 rfl (lv_at hl 3 rfl) ?_
      refine lv_imul hx hb dX12_plate_145 ?_
      refine lv_iload_n hx hb dX12_plate_146 rfl (lv_at hl 0 rfl) ?_
      refine lv_iadd hx hb dX12_plate_147 ?_
      refine va_iald hx hb hK hP 3 0 rfl rfl (vinP hp hlt) dX12_plate_148 ?_
      refine va_iast hx hb hK hP hD hS 40 0 rfl rfl (vinP hp hlt) dX12_plate_149 (fun H locs hP hD hS => ?_)
      obtain ⟨u_2, eu_2⟩ : ∃ zz : mS, zz = mst u 44 ((480 * p0) + (nI i)) (u.2 2 (((480 * p0) + (nI i)) : Int32).toNatClampNeg) := ⟨_, rfl⟩
      have hP : va_P (dC, dI) vwCl (mW h0 v cI cZ u_2) H := by rw [eu_2]; exact hP
      have hD : va_D A (mW h0 v cI cZ u_2) := by rw [eu_2]; exact hD
      refine lv_iinc (v := (nI (i + 1))) (lv' := [(3, .int (nI (i + 1))), (2, .int b9), (0, .ref h0), (1, .int p0)]) hx hb dX12_plate_150 hl (k := 0) rfl (nI_1 i) (by decide) rfl (fun ls hl => ?_)
      refine lv_goto (tgt := 119) hx hb dX12_plate_153 (by decide) ?_
      exact ih (i + 1) _ _ _ ls (by omega) (by omega) (by rw [eu_2]; exact ⟨plA_st hg.1 (by decide) _ _, plC_s hg.2.1 hP12 eP hlt (by rw [hg.1.2.1 2 (Or.inl (by decide)), eP, i480 hP12 hlt]), (mst_other (by decide)).trans hg.2.2.1, (mst_other (by decide)).trans hg.2.2.2.1, (mst_other (by decide)).trans hg.2.2.2.2⟩) hP hD hS (lv_sub hl [0, 1, 2, 3] rfl)
set_option maxHeartbeats 4000000 in
set_option maxRecDepth 100000 in
theorem n_pl_l {p : Program} {l : Launch} {e : Env} {R : Room} {s : State} {m : MethodId} {args : Array Value} {below : List Frame} {meth : Method} {c : Code} {Q : State → Prop} {cells slots : Nat} {dC : Nat → ClassId} {dI : Nat → Nat → Nat} {h0 : Nat} {v : Nat → Nat} {cI cZ : ClassId} {u0 : mS} {p0 b9 : Int32} {P : Nat} (hp : bw p0 0 11 = true) (hP12 : P < 12) (eP : p0 = nI P) {A : Nat → Prop} {H0 : Heap} (hx : p.tables.exec = Jvm.exec) (hb : c.code = cX12_plate) (hml : c.maxLocals = 5) (hts : ∀ w ∈ wsX12_plate, w.before args s = true) (hown : s.vm.findClass RX12 = some m.cls) (hN : NN s) (hK : va_K (dC, dI) vwCl [(cI, .int), (cZ, .boolean)] s) (hA : ∀ q : Nat, H0.size ≤ q → A q) (kx : ∀ (u : mS) (H : Heap) (locs : List Loc) (ls : Array Slot), (plA u0 P u ∧ plC u0 u P 480 ∧ plL u0 u P 8 ∧ u.2 45 = u0.2 45 ∧ u.2 46 = u0.2 46) → va_P (dC, dI) vwCl (mW h0 v cI cZ u) H → va_D A (mW h0 v cI cZ u) → va_S A H0 H locs → lv_has ls 5 [(3, .int (nI 8)), (2, .int b9), (0, .ref h0), (1, .int p0)] → W p l e R s m args below meth c H locs cells slots Q (F0 m 192 ls [])) : ∀ (k i : Nat) (u : mS) (H : Heap) (locs : List Loc) (ls : Array Slot), i ≤ 8 → 8 - i < k → (plA u0 P u ∧ plC u0 u P 480 ∧ plL u0 u P i ∧ u.2 45 = u0.2 45 ∧ u.2 46 = u0.2 46) → va_P (dC, dI) vwCl (mW h0 v cI cZ u) H → va_D A (mW h0 v cI cZ u) → va_S A H0 H locs → lv_has ls 5 [(3, .int (nI i)), (2, .int b9), (0, .ref h0), (1, .int p0)] → W p l e R s m args below meth c H locs cells slots Q (F0 m 158 ls []) := by
  intro k
  induction k with
  | zero => intro i u H locs ls h1 h2; exact absurd h2 (Nat.not_lt_zero _)
  | succ k ih =>
    intro i u H locs ls hi hk hg hP hD hS hl
    refine lv_iload_n hx hb dX12_plate_158 rfl (lv_at hl 0 rfl) ?_
    refine lv_bipush (v := 8) hx hb dX12_plate_159 (by decide) ?_
    refine lv_icmp_ge (tgt := 192) hx hb dX12_plate_161 (by decide) (fun c_1 => ?_) (fun c_1 => ?_)
    ·
      have hie : i = 8 := lp_eq rfl (by decide) hi c_1
      subst hie
      exact kx _ _ _ ls hg hP hD hS (lv_sub hl [0, 1, 2, 3] rfl)
    ·
      have hlt : i < 8 := lp_lt rfl (by decide) hi c_1
      refine lv_aload_n hx hb dX12_plate_164 rfl (lv_at hl 2 rfl) ?_
      refine va_get (D := (dC, dI)) (ci := 11) (v := .ref (v 43)) (C := RX12) (T := TX12) (N := 52) hx hb hts zl_X12_plate_X12 hown hK hP 0 rfl rfl 43 (by decide) (hts (.fieldLink RX12 125 "PageOneModel" "plateLines" "[I") (zat q_wsX12_plate k_wsX12_plate 925 rfl (by decide +kernel))) (fun _ h9 => h9) rfl dX12_plate_165 ?_
      refine lv_bipush (v := 8) hx hb dX12_plate_168 (by decide) ?_
      refine lv_iload_n hx hb dX12_plate_170 rfl (lv_at hl 3 rfl) ?_
      refine lv_imul hx hb dX12_plate_171 ?_
      refine lv_iload_n hx hb dX12_plate_172 rfl (lv_at hl 0 rfl) ?_
      refine lv_iadd hx hb dX12_plate_173 ?_
      refine lv_aload_n hx hb dX12_plate_174 rfl (lv_at hl 2 rfl) ?_
      refine va_get (D := (dC, dI)) (ci := 11) (v := .ref (v 0)) (C := RX12) (T := TX12) (N := 52) hx hb hts zl_X12_plate_X12 hown hK hP 0 rfl rfl 0 (by decide) (hts (.fieldLink RX12 7 "PageOneModel" "lines" "[I") (zat q_wsX12_plate k_wsX12_plate 882 rfl (by decide +kernel))) (fun _ h9 => h9) rfl dX12_plate_175 ?_
      refine lv_bipush (v := 8) hx hb dX12_plate_178 (by decide) ?_
      refine lv_iload_n hx hb dX12_plate_180 rfl (lv_at hl 3 rfl) ?_
      refine lv_imul hx hb dX12_plate_181 ?_
      refine lv_iload_n hx hb dX12_plate_182 rfl (lv_at hl 0 rfl) ?_
      refine lv_iadd hx hb dX12_plate_183 ?_
      refine va_iald hx hb hK hP 1 0 rfl rfl (vin8 hp (bw7 hlt)) dX12_plate_184 ?_
      refine va_iast hx hb hK hP hD hS 39 0 rfl rfl (vin8 hp (bw7 hlt)) dX12_plate_185 (fun H locs hP hD hS => ?_)
      obtain ⟨u_2, eu_2⟩ : ∃ zz : mS, zz = mst u 43 ((8 * p0) + (nI i)) (u.2 0 (((8 * p0) + (nI i)) : Int32).toNatClampNeg) := ⟨_, rfl⟩
      have hP : va_P (dC, dI) vwCl (mW h0 v cI cZ u_2) H := by rw [eu_2]; exact hP
      have hD : va_D A (mW h0 v cI cZ u_2) := by rw [eu_2]; exact hD
      refine lv_iinc (v := (nI (i + 1))) (lv' := [(3, .int (nI (i + 1))), (2, .int b9), (0, .ref h0), (1, .int p0)]) hx hb dX12_plate_186 hl (k := 0) rfl (nI_1 i) (by decide) rfl (fun ls hl => ?_)
      refine lv_goto (tgt := 158) hx hb dX12_plate_189 (by decide) ?_
      exact ih (i + 1) _ _ _ ls (by omega) (by omega) (by rw [eu_2]; exact ⟨plA_st hg.1 (by decide) _ _, fun j => by rw [mst_other (by decide)]; exact hg.2.1 j, plL_s hg.2.2.1 hP12 eP hlt (by rw [hg.1.2.1 0 (Or.inl (by decide)), eP, idx8 hP12 hlt]), (mst_other (by decide)).trans hg.2.2.2.1, (mst_other (by decide)).trans hg.2.2.2.2⟩) hP hD hS (lv_sub hl [0, 1, 2, 3] rfl)
set_option maxHeartbeats 4000000 in
set_option maxRecDepth 100000 in
theorem n_pl_k {p : Program} {l : Launch} {e : Env} {R : Room} {s : State} {m : MethodId} {args : Array Value} {below : List Frame} {meth : Method} {c : Code} {Q : State → Prop} {cells slots : Nat} {dC : Nat → ClassId} {dI : Nat → Nat → Nat} {h0 : Nat} {v : Nat → Nat} {cI cZ : ClassId} {u0 ub : mS} {p0 b9 : Int32} {P j9 K : Nat} (hP12 : P < 12) (eP : p0 = nI P) (hj9 : j9 < 80) (hK6 : K ≤ 6) {A : Nat → Prop} {H0 : Heap} (hx : p.tables.exec = Jvm.exec) (hb : c.code = cX12_plate) (hml : c.maxLocals = 5) (hts : ∀ w ∈ wsX12_plate, w.before args s = true) (hown : s.vm.findClass RX12 = some m.cls) (hN : NN s) (hK : va_K (dC, dI) vwCl [(cI, .int), (cZ, .boolean)] s) (hA : ∀ q : Nat, H0.size ≤ q → A q) (kx : ∀ (u : mS) (H : Heap) (locs : List Loc) (ls : Array Slot), (plB u0 P u ∧ plK9 u0 ub P u j9 (K - K) K) → va_P (dC, dI) vwCl (mW h0 v cI cZ u) H → va_D A (mW h0 v cI cZ u) → va_S A H0 H locs → lv_has ls 5 [(4, .int (nI (K - K) - 1)), (3, .int (nI j9)), (2, .int b9), (0, .ref h0), (1, .int p0)] → W p l e R s m args below meth c H locs cells slots Q (F0 m 307 ls [])) : ∀ (k i : Nat) (u : mS) (H : Heap) (locs : List Loc) (ls : Array Slot), i ≤ K → K - i < k → (plB u0 P u ∧ plK9 u0 ub P u j9 (K - i) K) → va_P (dC, dI) vwCl (mW h0 v cI cZ u) H → va_D A (mW h0 v cI cZ u) → va_S A H0 H locs → lv_has ls 5 [(4, .int (nI (K - i) - 1)), (3, .int (nI j9)), (2, .int b9), (0, .ref h0), (1, .int p0)] → W p l e R s m args below meth c H locs cells slots Q (F0 m 234 ls []) := by
  intro k
  induction k with
  | zero => intro i u H locs ls h1 h2; exact absurd h2 (Nat.not_lt_zero _)
  | succ k ih =>
    intro i u H locs ls hi hk hg hP hD hS hl
    refine lv_iload hx hb dX12_plate_234 (lv_at hl 0 rfl) ?_
    refine lv_if_lt (tgt := 307) hx hb dX12_plate_236 (by decide) (fun c_1 => ?_) (fun c_1 => ?_)
    ·
      have hie : i = K := by have := dn_z (m := K - i) (by omega) c_1; omega
      rw [hie] at hg hl
      exact kx _ _ _ ls hg hP hD hS (lv_sub hl [0, 1, 2, 3, 4] rfl)
    ·
      have hlt : i < K := by have := dn_p (m := K - i) (by omega) c_1; omega
      rw [dn_e (m := K - i) (by omega)] at hl
      refine lv_aload_n hx hb dX12_plate_239 rfl (lv_at hl 3 rfl) ?_
      refine va_get (D := (dC, dI)) (ci := 11) (v := .ref (v 23)) (C := RX12) (T := TX12) (N := 52) hx hb hts zl_X12_plate_X12 hown hK hP 0 rfl rfl 23 (by decide) (hts (.fieldLink RX12 77 "PageOneModel" "pPage" "[I") (zat q_wsX12_plate k_wsX12_plate 905 rfl (by decide +kernel))) (fun _ h9 => h9) rfl dX12_plate_240 ?_
      refine lv_bipush (v := 6) hx hb dX12_plate_243 (by decide) ?_
      refine lv_iload_n hx hb dX12_plate_245 rfl (lv_at hl 1 rfl) ?_
      refine lv_imul hx hb dX12_plate_246 ?_
      refine lv_iload hx hb dX12_plate_247 (lv_at hl 0 rfl) ?_
      refine lv_iadd hx hb dX12_plate_249 ?_
      refine va_iald hx hb hK hP 23 0 rfl rfl (v6n hj9 (by omega)) dX12_plate_250 ?_
      refine lv_iload_n hx hb dX12_plate_251 rfl (lv_at hl 4 rfl) ?_
      refine lv_icmp_ne (tgt := 301) hx hb dX12_plate_252 (by decide) (fun c_2 => ?_) (fun c_2 => ?_)
      ·
        refine lv_iinc (v := (nI (K - (i + 1)) - 1)) (lv' := [(4, .int (nI (K - (i + 1)) - 1)), (3, .int (nI j9)), (2, .int b9), (0, .ref h0), (1, .int p0)]) hx hb dX12_plate_301 hl (k := 0) rfl (by rw [dec1, Nat.sub_sub]) (by decide) rfl (fun ls hl => ?_)
        refine lv_goto (tgt := 234) hx hb dX12_plate_304 (by decide) ?_
        exact ih (i + 1) _ _ _ ls (by omega) (by omega) ⟨hg.1, hg.2.1, plR_o (by rw [← (show K - i = (K - (i + 1)) + 1 by omega)]; exact hg.2.2) (fun q => c_2 (by rw [hg.1.1.2.1 23 (Or.inl (by decide)), i6k hj9 (by omega), show K - i - 1 = K - (i + 1) by omega, eP]; exact q))⟩ hP hD hS (lv_sub hl [0, 1, 2, 3, 4] rfl)
      ·
        refine lv_aload_n hx hb dX12_plate_255 rfl (lv_at hl 3 rfl) ?_
        refine va_get (D := (dC, dI)) (ci := 11) (v := .ref (v 45)) (C := RX12) (T := TX12) (N := 52) hx hb hts zl_X12_plate_X12 hown hK hP 0 rfl rfl 45 (by decide) (hts (.fieldLink RX12 131 "PageOneModel" "plateColumn" "[I") (zat q_wsX12_plate k_wsX12_plate 927 rfl (by decide +kernel))) (fun _ h9 => h9) rfl dX12_plate_256 ?_
        refine lv_bipush (v := 80) hx hb dX12_plate_259 (by decide) ?_
        refine lv_iload_n hx hb dX12_plate_261 rfl (lv_at hl 4 rfl) ?_
        refine lv_imul hx hb dX12_plate_262 ?_
        refine lv_iload_n hx hb dX12_plate_263 rfl (lv_at hl 1 rfl) ?_
        refine lv_iadd hx hb dX12_plate_264 ?_
        refine lv_aload_n hx hb dX12_plate_265 rfl (lv_at hl 3 rfl) ?_
        refine va_get (D := (dC, dI)) (ci := 11) (v := .ref (v 24)) (C := RX12) (T := TX12) (N := 52) hx hb hts zl_X12_plate_X12 hown hK hP 0 rfl rfl 24 (by decide) (hts (.fieldLink RX12 80 "PageOneModel" "pColumn" "[I") (zat q_wsX12_plate k_wsX12_plate 906 rfl (by decide +kernel))) (fun _ h9 => h9) rfl dX12_plate_266 ?_
        refine lv_bipush (v := 6) hx hb dX12_plate_269 (by decide) ?_
        refine lv_iload_n hx hb dX12_plate_271 rfl (lv_at hl 1 rfl) ?_
        refine lv_imul hx hb dX12_plate_272 ?_
        refine lv_iload hx hb dX12_plate_273 (lv_at hl 0 rfl) ?_
        refine lv_iadd hx hb dX12_plate_275 ?_
        refine va_iald hx hb hK hP 24 0 rfl rfl (v6n hj9 (by omega)) dX12_plate_276 ?_
        refine va_iast hx hb hK hP hD hS 41 0 rfl rfl (by have h := vPl (i := nI j9) (bw79 hj9) hP12; rw [← eP] at h; exact h) dX12_plate_277 (fun H locs hP hD hS => ?_)
        obtain ⟨u_3, eu_3⟩ : ∃ zz : mS, zz = mst u 45 ((80 * p0) + (nI j9)) (u.2 24 (((6 * (nI j9)) + (nI (K - i - 1))) : Int32).toNatClampNeg) := ⟨_, rfl⟩
        have hP : va_P (dC, dI) vwCl (mW h0 v cI cZ u_3) H := by rw [eu_3]; exact hP
        have hD : va_D A (mW h0 v cI cZ u_3) := by rw [eu_3]; exact hD
        refine lv_aload_n hx hb dX12_plate_278 rfl (lv_at hl 3 rfl) ?_
        refine va_get (D := (dC, dI)) (ci := 11) (v := .ref (v 46)) (C := RX12) (T := TX12) (N := 52) hx hb hts zl_X12_plate_X12 hown hK hP 0 rfl rfl 46 (by decide) (hts (.fieldLink RX12 134 "PageOneModel" "plateLine" "[I") (zat q_wsX12_plate k_wsX12_plate 928 rfl (by decide +kernel))) (fun _ h9 => h9) rfl dX12_plate_279 ?_
        refine lv_bipush (v := 80) hx hb dX12_plate_282 (by decide) ?_
        refine lv_iload_n hx hb dX12_plate_284 rfl (lv_at hl 4 rfl) ?_
        refine lv_imul hx hb dX12_plate_285 ?_
        refine lv_iload_n hx hb dX12_plate_286 rfl (lv_at hl 1 rfl) ?_
        refine lv_iadd hx hb dX12_plate_287 ?_
        refine lv_aload_n hx hb dX12_plate_288 rfl (lv_at hl 3 rfl) ?_
        refine va_get (D := (dC, dI)) (ci := 11) (v := .ref (v 25)) (C := RX12) (T := TX12) (N := 52) hx hb hts zl_X12_plate_X12 hown hK hP 0 rfl rfl 25 (by decide) (hts (.fieldLink RX12 83 "PageOneModel" "pLine" "[I") (zat q_wsX12_plate k_wsX12_plate 907 rfl (by decide +kernel))) (fun _ h9 => h9) rfl dX12_plate_289 ?_
        refine lv_bipush (v := 6) hx hb dX12_plate_292 (by decide) ?_
        refine lv_iload_n hx hb dX12_plate_294 rfl (lv_at hl 1 rfl) ?_
        refine lv_imul hx hb dX12_plate_295 ?_
        refine lv_iload hx hb dX12_plate_296 (lv_at hl 0 rfl) ?_
        refine lv_iadd hx hb dX12_plate_298 ?_
        refine va_iald hx hb hK hP 25 0 rfl rfl (v6n hj9 (by omega)) dX12_plate_299 ?_
        refine va_iast hx hb hK hP hD hS 42 0 rfl rfl (by have h := vPl (i := nI j9) (bw79 hj9) hP12; rw [← eP] at h; exact h) dX12_plate_300 (fun H locs hP hD hS => ?_)
        obtain ⟨u_4, eu_4⟩ : ∃ zz : mS, zz = mst u_3 46 ((80 * p0) + (nI j9)) (u_3.2 25 (((6 * (nI j9)) + (nI (K - i - 1))) : Int32).toNatClampNeg) := ⟨_, rfl⟩
        have hP : va_P (dC, dI) vwCl (mW h0 v cI cZ u_4) H := by rw [eu_4]; exact hP
        have hD : va_D A (mW h0 v cI cZ u_4) := by rw [eu_4]; exact hD
        refine lv_iinc (v := (nI (K - (i + 1)) - 1)) (lv' := [(4, .int (nI (K - (i + 1)) - 1)), (3, .int (nI j9)), (2, .int b9), (0, .ref h0), (1, .int p0)]) hx hb dX12_plate_301 hl (k := 0) rfl (by rw [dec1, Nat.sub_sub]) (by decide) rfl (fun ls hl => ?_)
        refine lv_goto (tgt := 234) hx hb dX12_plate_304 (by decide) ?_
        exact ih (i + 1) _ _ _ ls (by omega) (by omega) (by rw [eu_4, eu_3]; exact ⟨plB_st (plB_st hg.1 (Or.inl rfl) _ _) (Or.inr rfl) _ _, plK_s (by rw [← (show K - i = (K - (i + 1)) + 1 by omega)]; exact hg.2) hP12 hj9 eP (by omega) (by have z := c_2; rw [hg.1.1.2.1 23 (Or.inl (by decide)), i6k hj9 (by omega), show K - i - 1 = K - (i + 1) by omega, eP] at z; exact z) (by rw [hg.1.1.2.1 24 (Or.inl (by decide)), i6k hj9 (by omega), show K - i - 1 = K - (i + 1) by omega]) (by rw [mst_other (by decide), hg.1.1.2.1 25 (Or.inl (by decide)), i6k hj9 (by omega), show K - i - 1 = K - (i + 1) by omega])⟩) hP hD hS (lv_sub hl [0, 1, 2, 3, 4] rfl)
theorem nigt {n : Int32} {i : Nat} (hn : bw n 0 80 = true) (hi : i < n.toNatClampNeg) : ¬ n ≤ nI i := fun h => by
  obtain ⟨a, b, c⟩ := nI_of_bw hn
  have h80 : (80 : Int32).toInt = 80 := rfl
  rw [i32_le, nI_toInt (by omega)] at h
  omega
theorem nile {n : Int32} {i : Nat} (hn : bw n 0 80 = true) (hi8 : i < 80) (hi : ¬ i < n.toNatClampNeg) : n ≤ nI i := by
  obtain ⟨a, b, c⟩ := nI_of_bw hn
  rw [i32_le, nI_toInt (by omega)]
  omega
set_option maxHeartbeats 4000000 in
set_option maxRecDepth 100000 in
theorem n_pl_i {p : Program} {l : Launch} {e : Env} {R : Room} {s : State} {m : MethodId} {args : Array Value} {below : List Frame} {meth : Method} {c : Code} {Q : State → Prop} {cells slots : Nat} {dC : Nat → ClassId} {dI : Nat → Nat → Nat} {h0 : Nat} {v : Nat → Nat} {cI cZ : ClassId} {u0 : mS} {p0 b9 : Int32} {P : Nat} (hP12 : P < 12) (eP : p0 = nI P) (hn0 : bw (u0.1 3) 0 80 = true) (hpc0 : ∀ j, j < 80 → bw (u0.2 22 j) 0 6 = true) {A : Nat → Prop} {H0 : Heap} (hx : p.tables.exec = Jvm.exec) (hb : c.code = cX12_plate) (hml : c.maxLocals = 5) (hts : ∀ w ∈ wsX12_plate, w.before args s = true) (hown : s.vm.findClass RX12 = some m.cls) (hN : NN s) (hK : va_K (dC, dI) vwCl [(cI, .int), (cZ, .boolean)] s) (hA : ∀ q : Nat, H0.size ≤ q → A q) (kx : ∀ (u : mS) (H : Heap) (locs : List Loc) (ls : Array Slot), (plB u0 P u ∧ plI9 u0 P u 80) → va_P (dC, dI) vwCl (mW h0 v cI cZ u) H → va_D A (mW h0 v cI cZ u) → va_S A H0 H locs → lv_has ls 5 [(3, .int (nI 80)), (2, .int b9), (0, .ref h0), (1, .int p0)] → W p l e R s m args below meth c H locs cells slots Q (F0 m 313 ls [])) : ∀ (k i : Nat) (u : mS) (H : Heap) (locs : List Loc) (ls : Array Slot), i ≤ 80 → 80 - i < k → (plB u0 P u ∧ plI9 u0 P u i) → va_P (dC, dI) vwCl (mW h0 v cI cZ u) H → va_D A (mW h0 v cI cZ u) → va_S A H0 H locs → lv_has ls 5 [(3, .int (nI i)), (2, .int b9), (0, .ref h0), (1, .int p0)] → W p l e R s m args below meth c H locs cells slots Q (F0 m 194 ls []) := by
  intro k
  induction k with
  | zero => intro i u H locs ls h1 h2; exact absurd h2 (Nat.not_lt_zero _)
  | succ k ih =>
    intro i u H locs ls hi hk hg hP hD hS hl
    refine lv_iload_n hx hb dX12_plate_194 rfl (lv_at hl 0 rfl) ?_
    refine lv_bipush (v := 80) hx hb dX12_plate_195 (by decide) ?_
    refine lv_icmp_ge (tgt := 313) hx hb dX12_plate_197 (by decide) (fun c_1 => ?_) (fun c_1 => ?_)
    ·
      have hie : i = 80 := lp_eq rfl (by decide) hi c_1
      subst hie
      exact kx _ _ _ ls hg hP hD hS (lv_sub hl [0, 1, 2, 3] rfl)
    ·
      have hlt : i < 80 := lp_lt rfl (by decide) hi c_1
      obtain ⟨eK, eK2, eK3⟩ := nI_of_bw (hpc0 (nI i).toNatClampNeg (by rw [nI_clamp (by omega)]; omega))
      refine lv_aload_n hx hb dX12_plate_200 rfl (lv_at hl 2 rfl) ?_
      refine va_get (D := (dC, dI)) (ci := 11) (v := .ref (v 45)) (C := RX12) (T := TX12) (N := 52) hx hb hts zl_X12_plate_X12 hown hK hP 0 rfl rfl 45 (by decide) (hts (.fieldLink RX12 131 "PageOneModel" "plateColumn" "[I") (zat q_wsX12_plate k_wsX12_plate 927 rfl (by decide +kernel))) (fun _ h9 => h9) rfl dX12_plate_201 ?_
      refine lv_bipush (v := 80) hx hb dX12_plate_204 (by decide) ?_
      refine lv_iload_n hx hb dX12_plate_206 rfl (lv_at hl 3 rfl) ?_
      refine lv_imul hx hb dX12_plate_207 ?_
      refine lv_iload_n hx hb dX12_plate_208 rfl (lv_at hl 0 rfl) ?_
      refine lv_iadd hx hb dX12_plate_209 ?_
      refine lv_iconst (v := (-1)) hx hb dX12_plate_210 (by decide) ?_
      refine va_iast hx hb hK hP hD hS 41 0 rfl rfl (by have h := vPl (i := nI i) (bw79 hlt) hP12; rw [← eP] at h; exact h) dX12_plate_211 (fun H locs hP hD hS => ?_)
      obtain ⟨u_2, eu_2⟩ : ∃ zz : mS, zz = mst u 45 ((80 * p0) + (nI i)) (-1) := ⟨_, rfl⟩
      have hP : va_P (dC, dI) vwCl (mW h0 v cI cZ u_2) H := by rw [eu_2]; exact hP
      have hD : va_D A (mW h0 v cI cZ u_2) := by rw [eu_2]; exact hD
      refine lv_iload_n hx hb dX12_plate_212 rfl (lv_at hl 0 rfl) ?_
      refine lv_aload_n hx hb dX12_plate_213 rfl (lv_at hl 2 rfl) ?_
      refine va_get (D := (dC, dI)) (ci := 11) (v := .int (u_2.1 3)) (C := RX12) (T := TX12) (N := 52) hx hb hts zl_X12_plate_X12 hown hK hP 0 rfl rfl 3 (by decide) (hts (.fieldLink RX12 147 "PageOneModel" "items" "I") (zat q_wsX12_plate k_wsX12_plate 885 rfl (by decide +kernel))) (fun _ h9 => h9) rfl dX12_plate_214 ?_
      refine lv_icmp_ge (tgt := 229) hx hb dX12_plate_217 (by decide) (fun c_3 => ?_) (fun c_3 => ?_)
      ·
        refine lv_iconst (v := 0) hx hb dX12_plate_229 (by decide) ?_
        refine lv_iconst (v := 1) hx hb dX12_plate_230 (by decide) ?_
        refine lv_isub hx hb dX12_plate_231 ?_
        refine lv_topi (fun k_4 ek_4 => ?_)
        obtain rfl : k_4 = (-1) := ek_4.trans (by decide)
        refine lv_istore (lv' := [(4, .int (-1)), (3, .int (nI i)), (2, .int b9), (0, .ref h0), (1, .int p0)]) hx hb dX12_plate_232 hl (by decide) rfl (fun ls hl => ?_)
        have hpt : ptN u0 i = 0 := by unfold ptN; exact if_neg (fun q => nigt hn0 q (by rw [eu_2] at c_3; rw [mst_1, hg.1.1.1 3 (by decide) (by decide) (by decide)] at c_3; exact c_3))
        have hk9 : plB u0 P u_2 ∧ plI9 u0 P u_2 (i + 1) := ⟨by rw [eu_2]; exact plB_st hg.1 (Or.inl rfl) _ _, plI_s hg.2 (by rw [hpt, eu_2]; exact plK_0 hP12 hlt eP)⟩
        refine lv_iload hx hb dX12_plate_234 (lv_at hl 0 rfl) ?_
        refine lv_if_lt (tgt := 307) hx hb dX12_plate_236 (by decide) (fun c_5 => ?_) (fun c_5 => absurd (by decide) c_5)
        refine lv_iinc (v := (nI (i + 1))) (lv' := [(3, .int (nI (i + 1))), (4, .int (-1)), (2, .int b9), (0, .ref h0), (1, .int p0)]) hx hb dX12_plate_307 hl (k := 1) rfl (nI_1 i) (by decide) rfl (fun ls hl => ?_)
        refine lv_goto (tgt := 194) hx hb dX12_plate_310 (by decide) ?_
        exact ih (i + 1) _ _ _ ls (by omega) (by omega) hk9 hP hD hS (lv_sub hl [0, 2, 3, 4] rfl)
      ·
        refine lv_aload_n hx hb dX12_plate_220 rfl (lv_at hl 2 rfl) ?_
        refine va_get (D := (dC, dI)) (ci := 11) (v := .ref (v 22)) (C := RX12) (T := TX12) (N := 52) hx hb hts zl_X12_plate_X12 hown hK hP 0 rfl rfl 22 (by decide) (hts (.fieldLink RX12 74 "PageOneModel" "pieces" "[I") (zat q_wsX12_plate k_wsX12_plate 904 rfl (by decide +kernel))) (fun _ h9 => h9) rfl dX12_plate_221 ?_
        refine lv_iload_n hx hb dX12_plate_224 rfl (lv_at hl 0 rfl) ?_
        refine va_iald hx hb hK hP 22 0 rfl rfl (vp_in_nI (by omega) (by decide)) dX12_plate_225 ?_
        refine lv_topi (fun y_6 ey_6 => ?_)
        obtain rfl : y_6 = (nI (u0.2 22 (nI i).toNatClampNeg).toNatClampNeg) := ey_6.trans ((by rw [eu_2, mst_other (by decide), hg.1.1.2.1 22 (Or.inl (by decide))]; exact eK))
        refine lv_goto (tgt := 230) hx hb dX12_plate_226 (by decide) ?_
        refine lv_iconst (v := 1) hx hb dX12_plate_230 (by decide) ?_
        refine lv_isub hx hb dX12_plate_231 ?_
        refine lv_topi (fun x_7 ex_7 => ?_)
        refine lv_istore (lv' := [(4, .int x_7), (3, .int (nI i)), (2, .int b9), (0, .ref h0), (1, .int p0)]) hx hb dX12_plate_232 hl (by decide) rfl (fun ls hl => ?_)
        subst ex_7
        have h6 : (6 : Int32).toInt = 6 := rfl
        have hpt : ptN u0 i = (u0.2 22 (nI i).toNatClampNeg).toNatClampNeg := by unfold ptN; rw [if_pos (Classical.byContradiction (fun q => c_3 (by rw [eu_2, mst_1, hg.1.1.1 3 (by decide) (by decide) (by decide)]; exact nile hn0 (by omega) q))), nI_clamp (n := i) (by omega)]
        have hgI := hg.2
        have hg : plB u0 P u_2 ∧ plK9 u0 u P u_2 i ((u0.2 22 (nI i).toNatClampNeg).toNatClampNeg - 0) (u0.2 22 (nI i).toNatClampNeg).toNatClampNeg := ⟨by rw [eu_2]; exact plB_st hg.1 (Or.inl rfl) _ _, by rw [eu_2]; exact plK_0 hP12 hlt eP⟩
        refine n_pl_k (u0 := u0) (ub := u) (P := P) (j9 := i) (K := (u0.2 22 (nI i).toNatClampNeg).toNatClampNeg) hP12 eP (by omega) (by omega) hx hb hml hts hown hN hK hA (fun u2 H locs ls hg hP hD hS hl => ?_) _ 0 u_2 _ _ ls (Nat.zero_le _) (Nat.lt_succ_self _) hg hP hD hS (lv_sub hl [0, 1, 2, 3, 4] rfl)
        have hk9 : plB u0 P u2 ∧ plI9 u0 P u2 (i + 1) := ⟨hg.1, plI_s hgI (by rw [hpt]; have z := hg.2; rw [Nat.sub_self] at z; exact z)⟩
        refine lv_iinc (v := (nI (i + 1))) (lv' := [(3, .int (nI (i + 1))), (4, .int (nI ((u0.2 22 (nI i).toNatClampNeg).toNatClampNeg - (u0.2 22 (nI i).toNatClampNeg).toNatClampNeg) - 1)), (2, .int b9), (0, .ref h0), (1, .int p0)]) hx hb dX12_plate_307 hl (k := 1) rfl (nI_1 i) (by decide) rfl (fun ls hl => ?_)
        refine lv_goto (tgt := 194) hx hb dX12_plate_310 (by decide) ?_
        exact ih (i + 1) _ _ _ ls (by omega) (by omega) hk9 hP hD hS (lv_sub hl [0, 2, 3, 4] rfl)
/-- what plate answers and leaves -/
def plEx (u : mS) (p0 : Int32) : Prop := ∃ c l, c < 8 ∧ l < lnN u p0 c ∧ u.2 2 (480 * p0 + 60 * nI c + nI l).toNatClampNeg = (-2)
def plX (u : mS) (p0 r : Int32) (u9 : mS) : Prop := (r = (-1) ∧ mE u u9 ∧ (¬ bw p0 0 11 = true ∨ (bw p0 0 11 = true ∧ (plEx u p0 ∨ plS u p0 8 = 0 ∨ ∃ b, best (brS u p0 (u.1 3).toNatClampNeg) b ∧ ¬ b.1 ≤ 0)))) ∨ (bw p0 0 11 = true ∧ ¬ plEx u p0 ∧ r = plS u p0 8 ∧ ¬ r = 0 ∧ (∃ b, best (brS u p0 (u.1 3).toNatClampNeg) b ∧ b.1 ≤ 0) ∧ ∃ P, P < 12 ∧ p0 = nI P ∧ plB u P u9 ∧ plI9 u P u9 80)
set_option maxHeartbeats 4000000 in
set_option maxRecDepth 100000 in
theorem n_plate (l : Launch) (dC : Nat → ClassId) (dI : Nat → Nat → Nat) (h0 : Nat) (v : Nat → Nat) (cI cZ : ClassId) (u : mS) (p0 : Int32) (hn : bw (u.1 3) 0 80 = true) (hln : ∀ j, j < 96 → bw (u.2 0 j) 0 60 = true) (hcl : ∀ j, j < 5760 → mThing (u.2 2 j) = true → bw (u.2 2 j) 0 79 = true) (hk : ∀ j, j < 80 → u.2 4 j = 3 → bw (u.2 10 j) 0 9 = true) (hpc : ∀ j, j < 80 → bw (u.2 22 j) 0 6 = true) (hsl : ∀ j, j < 480 → ∃ X D : Nat, u.2 24 j = nI X ∧ u.2 26 j = nI D ∧ X + D ≤ 8) (sz : Nat) : Met l yX12_plate wsX12_plate ({ frames := 5, cells := 0, slots := 0, locals := 114 }) (va_Pc [.ref h0, .int p0] (fun U => U.heap.size = sz ∧ PW dC dI (mW h0 v cI cZ u) [(cI, .int), (cZ, .boolean)] U ∧ va_D (fun _ => True) (mW h0 v cI cZ u))) (va_Qi (fun (r : Int32) (u9 : mS) => plX u p0 r u9) (fun u9 t => va_P (dC, dI) vwCl (mW h0 v cI cZ u9) t.heap ∧ va_D (va_A (mW h0 v cI cZ u) sz) (mW h0 v cI cZ u9)) (va_A (mW h0 v cI cZ u) sz)) 0 0 (va_A (mW h0 v cI cZ u) sz) := by
  refine Met.ofW (cc := cX12_plate) (maxL := 5) (ret := (some .int)) (by decide) rfl ?_
  intro p e s m args below meth c s₁ B hml hv
  obtain ⟨rfl, hsz, ⟨hP, hK, hN⟩, hD0⟩ := hv
  have hx := B.exec
  have hb := B.bytes
  have hr := B.returns
  have hts := atoms_spec (ws := wsX12_plate) B.pre
  have hown : s.vm.findClass RX12 = some m.cls := findClass_of_methodNamed B.named
  have hlocks := B.notSynchronized
  subst hsz
  have hD := hD0.self (sz := s.heap.size)
  generalize hAe : va_A (mW h0 v cI cZ u) s.heap.size = A at hD ⊢
  have hA : ∀ q : Nat, s.heap.size ≤ q → A q := fun q h => by rw [← hAe]; exact Or.inr h
  have hS : va_S A s.heap s.heap [] := va_S.rf
  have hl := lv_entry ([.ref h0, .int p0]) (n := 5) (Nat.le_of_ble_eq_true rfl)
  rw [lg_entry_eq]
  generalize (lg_sl ([.ref h0, .int p0]) ++ List.replicate (5 - (lg_sl ([.ref h0, .int p0])).length) Slot.unset).toArray = ls at hl ⊢
  have hl : lv_has ls 5 [(0, .ref h0), (1, .int p0)] := hl
  refine lv_iload_n hx hb dX12_plate_0 rfl (lv_at hl 1 rfl) ?_
  refine vp_callSi (va_runS (As := [.int p0]) (rest := []) ⟨hx, hb, hml, hown, hts⟩ (m_isPage l dC dI p0) (va_cwS 1 hts gX12_plate_X12_isPage rfl rfl rfl zh_X12_isPage_4 ⟨Nat.le_of_ble_eq_true rfl, Nat.le_of_ble_eq_true rfl⟩) ⟨pw_fb, fun U hU hW => ⟨rfl, pw_to hU hW (hP.sub (ws' := []) [] rfl) (hK.sub (tys' := []) [] rfl) hN⟩⟩ rfl rfl hl.1 rfl (lv_room (Nat.le_of_ble_eq_true rfl)) dX12_plate_1 ⟨Nat.le_of_ble_eq_true rfl, Nat.le_of_ble_eq_true rfl⟩).run (fun r hw => ?_)
  rcases Bool.eq_false_or_eq_true (bw p0 0 11) with b_1 | b_1
  ·
    obtain rfl : r = 1 := b_t hw b_1
    refine lv_if_ne (tgt := 9) hx hb dX12_plate_4 (by decide) (fun c_2 => ?_) (fun c_2 => absurd c_2 (by decide))
    refine lv_iconst (v := 0) hx hb dX12_plate_9 (by decide) ?_
    refine lv_istore_n (lv' := [(2, .int 0), (0, .ref h0), (1, .int p0)]) hx hb dX12_plate_10 rfl hl (by decide) rfl (fun ls hl => ?_)
    refine lv_iconst (v := 0) hx hb dX12_plate_11 (by decide) ?_
    refine lv_istore_n (lv' := [(3, .int 0), (2, .int 0), (0, .ref h0), (1, .int p0)]) hx hb dX12_plate_12 rfl hl (by decide) rfl (fun ls hl => ?_)
    have hb11 := b_1
    obtain ⟨P, hP12, -, eP⟩ := exN b_1 (by decide)
    have h11 : (11 : Int32).toInt = 11 := rfl
    refine n_pl_out hx hb hml hts hown hN hK (Nat.le_of_ble_eq_true rfl) (Nat.le_of_ble_eq_true rfl) (Nat.le_of_ble_eq_true rfl) (Nat.le_of_ble_eq_true rfl) hP b_1 hln (fun i a ls hlt hexo hl => ?_) (fun a ls hcnt hl => ?_) 9 0 0 ls (by decide) (by decide) ⟨rfl, fun c l h1 _ => absurd h1 (Nat.not_lt_zero _)⟩ (lv_sub hl [0, 1, 2, 3] rfl)
    ·
      refine lv_iconst (v := (-1)) hx hb dX12_plate_55 (by decide) ?_
      exact W.iret (v := (-1)) hx hb hr (fun t ht hW => ⟨⟨(-1), u, rfl, (Or.inl ⟨rfl, mE_rf u, Or.inr ⟨hb11, Or.inl hexo⟩⟩), by rw [ht]; exact hP, hD⟩, hS.F ht⟩) hS.2.2 dX12_plate_56
    ·
      refine lv_aload_n hx hb dX12_plate_72 rfl (lv_at hl 2 rfl) ?_
      refine lv_iload_n hx hb dX12_plate_73 rfl (lv_at hl 3 rfl) ?_
      have hFc := fr_all hD hS hA
      refine va_callv (va_runV (As := [.int p0]) (rest := []) ⟨hx, hb, hml, hown, hts⟩ (n_breaks l dC dI h0 v cI cZ u p0 b_1 hn hln hcl hk hpc hsl s.heap.size) (cwV 1 hts gX12_plate_X12_breaks rfl rfl rfl zh_X12_breaks_24 ⟨Nat.le_of_ble_eq_true rfl, Nat.le_of_ble_eq_true rfl⟩) ⟨gw_fb, va_recv hK hP (ci := 11) (q0 := 0) rfl rfl, fun U hU hW => ⟨rfl, by rw [hU], pw_to hU hW hP hK hN, hD.weaken (fun _ _ _ _ => trivial)⟩⟩ rfl rfl hl.1 rfl (lv_room (Nat.le_of_ble_eq_true rfl)) dX12_plate_74 ⟨Nat.le_of_ble_eq_true rfl, Nat.le_of_ble_eq_true rfl⟩) hS (fun q _ h => hFc q h) hFc (fun u_3 t H1 locs ht hvm hw hB hz1 hk1 hS => ?_)
      obtain ⟨hP, hD1⟩ := hB
      rw [ht] at hP
      have hD := hD1.weaken (fun _ q _ h => hFc q.1 h)
      generalize H1 = H at hP hS ⊢
      have hg : mE u u_3 := hw.1
      have hbr9 := hw.2
      refine lv_iload_n hx hb dX12_plate_77 rfl (lv_at hl 1 rfl) ?_
      refine lv_if_eq (tgt := 88) hx hb dX12_plate_78 (by decide) (fun c_4 => ?_) (fun c_4 => ?_)
      ·
        refine lv_iconst (v := (-1)) hx hb dX12_plate_88 (by decide) ?_
        exact W.iret (v := (-1)) hx hb hr (fun t ht hW => ⟨⟨(-1), u_3, rfl, (Or.inl ⟨rfl, hg, Or.inr ⟨hb11, Or.inr (Or.inl (hcnt.1.symm.trans c_4))⟩⟩), by rw [ht]; exact hP, hD⟩, hS.F ht⟩) hS.2.2 dX12_plate_89
      ·
        refine lv_aload_n hx hb dX12_plate_81 rfl (lv_at hl 2 rfl) ?_
        refine va_get (D := (dC, dI)) (ci := 11) (v := .int (u_3.1 49)) (C := RX12) (T := TX12) (N := 52) hx hb hts zl_X12_plate_X12 hown hK hP 0 rfl rfl 49 (by decide) (hts (.fieldLink RX12 228 "PageOneModel" "wrong" "I") (zat q_wsX12_plate k_wsX12_plate 931 rfl (by decide +kernel))) (fun _ h9 => h9) rfl dX12_plate_82 ?_
        refine lv_if_le (tgt := 90) hx hb dX12_plate_85 (by decide) (fun c_5 => ?_) (fun c_5 => ?_)
        ·
          refine lv_aload_n hx hb dX12_plate_90 rfl (lv_at hl 2 rfl) ?_
          refine va_get (D := (dC, dI)) (ci := 11) (v := .ref (v 40)) (C := RX12) (T := TX12) (N := 52) hx hb hts zl_X12_plate_X12 hown hK hP 0 rfl rfl 40 (by decide) (hts (.fieldLink RX12 116 "PageOneModel" "isPlated" "[Z") (zat q_wsX12_plate k_wsX12_plate 922 rfl (by decide +kernel))) (fun _ h9 => h9) rfl dX12_plate_91 ?_
          refine lv_iload_n hx hb dX12_plate_94 rfl (lv_at hl 3 rfl) ?_
          refine lv_iconst (v := 1) hx hb dX12_plate_95 (by decide) ?_
          refine va_zast hx hb hK hP hD hS 36 1 rfl rfl (vin b_1 (by decide)) dX12_plate_96 (fun H locs hP hD hS => ?_)
          obtain ⟨u_6, eu_6⟩ : ∃ zz : mS, zz = mst u_3 40 p0 (vp_nar .boolean 1) := ⟨_, rfl⟩
          have hP : va_P (dC, dI) vwCl (mW h0 v cI cZ u_6) H := by rw [eu_6]; exact hP
          have hD : va_D A (mW h0 v cI cZ u_6) := by rw [eu_6]; exact hD
          refine lv_aload_n hx hb dX12_plate_97 rfl (lv_at hl 2 rfl) ?_
          refine va_get (D := (dC, dI)) (ci := 11) (v := .ref (v 41)) (C := RX12) (T := TX12) (N := 52) hx hb hts zl_X12_plate_X12 hown hK hP 0 rfl rfl 41 (by decide) (hts (.fieldLink RX12 119 "PageOneModel" "plateDay" "[I") (zat q_wsX12_plate k_wsX12_plate 923 rfl (by decide +kernel))) (fun _ h9 => h9) rfl dX12_plate_98 ?_
          refine lv_iload_n hx hb dX12_plate_101 rfl (lv_at hl 3 rfl) ?_
          refine lv_aload_n hx hb dX12_plate_102 rfl (lv_at hl 2 rfl) ?_
          refine va_get (D := (dC, dI)) (ci := 11) (v := .int (u_6.1 38)) (C := RX12) (T := TX12) (N := 52) hx hb hts zl_X12_plate_X12 hown hK hP 0 rfl rfl 38 (by decide) (hts (.fieldLink RX12 206 "PageOneModel" "day" "I") (zat q_wsX12_plate k_wsX12_plate 920 rfl (by decide +kernel))) (fun _ h9 => h9) rfl dX12_plate_103 ?_
          refine va_iast hx hb hK hP hD hS 37 0 rfl rfl (vin b_1 (by decide)) dX12_plate_106 (fun H locs hP hD hS => ?_)
          obtain ⟨u_7, eu_7⟩ : ∃ zz : mS, zz = mst u_6 41 p0 (u_6.1 38) := ⟨_, rfl⟩
          have hP : va_P (dC, dI) vwCl (mW h0 v cI cZ u_7) H := by rw [eu_7]; exact hP
          have hD : va_D A (mW h0 v cI cZ u_7) := by rw [eu_7]; exact hD
          refine lv_aload_n hx hb dX12_plate_107 rfl (lv_at hl 2 rfl) ?_
          refine va_get (D := (dC, dI)) (ci := 11) (v := .ref (v 42)) (C := RX12) (T := TX12) (N := 52) hx hb hts zl_X12_plate_X12 hown hK hP 0 rfl rfl 42 (by decide) (hts (.fieldLink RX12 122 "PageOneModel" "plateEdition" "[I") (zat q_wsX12_plate k_wsX12_plate 924 rfl (by decide +kernel))) (fun _ h9 => h9) rfl dX12_plate_108 ?_
          refine lv_iload_n hx hb dX12_plate_111 rfl (lv_at hl 3 rfl) ?_
          refine lv_aload_n hx hb dX12_plate_112 rfl (lv_at hl 2 rfl) ?_
          refine va_get (D := (dC, dI)) (ci := 11) (v := .int (u_7.1 39)) (C := RX12) (T := TX12) (N := 52) hx hb hts zl_X12_plate_X12 hown hK hP 0 rfl rfl 39 (by decide) (hts (.fieldLink RX12 257 "PageOneModel" "edition" "I") (zat q_wsX12_plate k_wsX12_plate 921 rfl (by decide +kernel))) (fun _ h9 => h9) rfl dX12_plate_113 ?_
          refine va_iast hx hb hK hP hD hS 38 0 rfl rfl (vin b_1 (by decide)) dX12_plate_116 (fun H locs hP hD hS => ?_)
          obtain ⟨u_8, eu_8⟩ : ∃ zz : mS, zz = mst u_7 42 p0 (u_7.1 39) := ⟨_, rfl⟩
          have hP : va_P (dC, dI) vwCl (mW h0 v cI cZ u_8) H := by rw [eu_8]; exact hP
          have hD : va_D A (mW h0 v cI cZ u_8) := by rw [eu_8]; exact hD
          refine lv_iconst (v := 0) hx hb dX12_plate_117 (by decide) ?_
          refine lv_istore_n (lv' := [(3, .int 0), (2, .int a), (0, .ref h0), (1, .int p0)]) hx hb dX12_plate_118 rfl hl (by decide) rfl (fun ls hl => ?_)
          have hg : plA u P u_8 ∧ plC u u_8 P 0 ∧ u_8.2 43 = u.2 43 ∧ u_8.2 45 = u.2 45 ∧ u_8.2 46 = u.2 46 := by
            rw [eu_8, eu_7, eu_6]
            exact ⟨plA_3 hg (by omega) eP rfl (hg.2 38 (by decide) (by decide) (by decide)) (hg.2 39 (by decide) (by decide) (by decide)), plC_0 (pl3_o hg (by decide)), pl3_o hg (by decide), pl3_o hg (by decide), pl3_o hg (by decide)⟩
          refine n_pl_c (u0 := u) (P := P) hb11 (by omega) eP hx hb hml hts hown hN hK hA (fun u4 H locs ls hg hP hD hS hl => ?_) 481 0 u_8 _ _ ls (by decide) (by decide) hg hP hD hS (lv_sub hl [0, 1, 2, 3] rfl)
          refine lv_iconst (v := 0) hx hb dX12_plate_156 (by decide) ?_
          refine lv_istore_n (lv' := [(3, .int 0), (2, .int a), (0, .ref h0), (1, .int p0)]) hx hb dX12_plate_157 rfl hl (by decide) rfl (fun ls hl => ?_)
          refine n_pl_l (u0 := u) (P := P) hb11 (by omega) eP hx hb hml hts hown hN hK hA (fun u5 H locs ls hg hP hD hS hl => ?_) 9 0 u4 _ _ ls (by decide) (by decide) ⟨hg.1, hg.2.1, plL_0 hg.2.2.1, hg.2.2.2.1, hg.2.2.2.2⟩ hP hD hS (lv_sub hl [0, 1, 2, 3] rfl)
          refine lv_iconst (v := 0) hx hb dX12_plate_192 (by decide) ?_
          refine lv_istore_n (lv' := [(3, .int 0), (2, .int a), (0, .ref h0), (1, .int p0)]) hx hb dX12_plate_193 rfl hl (by decide) rfl (fun ls hl => ?_)
          refine n_pl_i (u0 := u) (P := P) (by omega) eP hn hpc hx hb hml hts hown hN hK hA (fun u6 H locs ls hg hP hD hS hl => ?_) 81 0 u5 _ _ ls (by decide) (by decide) ⟨⟨hg.1, hg.2.1, hg.2.2.1⟩, fun j _ => ⟨congrFun hg.2.2.2.1 j, congrFun hg.2.2.2.2 j⟩, fun t ht => absurd ht (Nat.not_lt_zero _)⟩ hP hD hS (lv_sub hl [0, 1, 2, 3] rfl)
          refine lv_iload_n hx hb dX12_plate_313 rfl (lv_at hl 1 rfl) ?_
          exact W.iret (v := a) hx hb hr (fun t ht hW => ⟨⟨a, u6, rfl, (Or.inr ⟨hb11, fun ⟨c, l, h1, h2, h3⟩ => hcnt.2 c l h1 h2 h3, hcnt.1, c_4, ⟨_, hbr9, c_5⟩, P, by omega, eP, hg.1, hg.2⟩), by rw [ht]; exact hP, hD⟩, hS.F ht⟩) hS.2.2 dX12_plate_314
        ·
          refine lv_iconst (v := (-1)) hx hb dX12_plate_88 (by decide) ?_
          exact W.iret (v := (-1)) hx hb hr (fun t ht hW => ⟨⟨(-1), u_3, rfl, (Or.inl ⟨rfl, hg, Or.inr ⟨hb11, Or.inr (Or.inr ⟨_, hbr9, c_5⟩)⟩⟩), by rw [ht]; exact hP, hD⟩, hS.F ht⟩) hS.2.2 dX12_plate_89
  ·
    obtain rfl : r = 0 := b_f hw b_1
    refine lv_if_ne (tgt := 9) hx hb dX12_plate_4 (by decide) (fun c_9 => absurd (by decide) c_9) (fun c_9 => ?_)
    refine lv_iconst (v := (-1)) hx hb dX12_plate_7 (by decide) ?_
    exact W.iret (v := (-1)) hx hb hr (fun t ht hW => ⟨⟨(-1), u, rfl, (Or.inl ⟨rfl, mE_rf u, Or.inl (bne b_1)⟩), by rw [ht]; exact hP, hD⟩, hS.F ht⟩) hS.2.2 dX12_plate_8
/-- the place of a cell in a rectangle -/
theorem inR_xy {r : fR} {P x y : Nat} (hr : rOK r) (hx : x < 8) (hy : y < 60) : inR r (480 * P + 60 * x + y) ↔ r.1 = P ∧ r.2.1 ≤ x ∧ x < r.2.1 + r.2.2.2.1 ∧ r.2.2.1 ≤ y ∧ y < r.2.2.1 + r.2.2.2.2 := by
  obtain ⟨h1, h2, h3, h4, h5⟩ := hr
  constructor
  · rintro ⟨a, b, ha, hb, e⟩
    omega
  · rintro ⟨q1, q2, q3, q4, q5⟩
    exact ⟨x - r.2.1, y - r.2.2.1, by omega, by omega, by omega⟩
def besN (r s : fR) : Prop := (r.2.1 + r.2.2.2.1 = s.2.1 ∨ s.2.1 + s.2.2.2.1 = r.2.1) ∧ r.1 = s.1 ∧ r.2.2.1 < s.2.2.1 + s.2.2.2.2 ∧ s.2.2.1 < r.2.2.1 + r.2.2.2.2
def ovrN (r s : fR) : Prop := (r.2.2.1 + r.2.2.2.2 = s.2.2.1 ∨ s.2.2.1 + s.2.2.2.2 = r.2.2.1) ∧ r.1 = s.1 ∧ r.2.1 < s.2.1 + s.2.2.2.1 ∧ s.2.1 < r.2.1 + r.2.2.2.1
/-- two items beside one another, over one another, on page P -/
def hAd (c : cfg) (P a b : Nat) : Prop := ∃ r s, r ∈ c a ∧ s ∈ c b ∧ r.1 = P ∧ besN r s
def vAd (c : cfg) (P a b : Nat) : Prop := ∃ r s, r ∈ c a ∧ s ∈ c b ∧ r.1 = P ∧ ovrN r s
theorem hAd_s {c : cfg} {P a b : Nat} (h : hAd c P a b) : hAd c P b a := by
  obtain ⟨r, s, h1, h2, h3, h4⟩ := h
  exact ⟨s, r, h2, h1, h4.2.1.symm.trans h3, h4.1.symm, h4.2.1.symm, h4.2.2.2, h4.2.2.1⟩
theorem vAd_s {c : cfg} {P a b : Nat} (h : vAd c P a b) : vAd c P b a := by
  obtain ⟨r, s, h1, h2, h3, h4⟩ := h
  exact ⟨s, r, h2, h1, h4.2.1.symm.trans h3, h4.1.symm, h4.2.1.symm, h4.2.2.2, h4.2.2.1⟩
/-- there is such a cell -/
def cel (u : mS) (P x y : Nat) : Prop := x < 8 ∧ y < (u.2 0 (8 * P + x)).toNatClampNeg
theorem ln60 {u : mS} (h : rI u) {j : Nat} (hj : j < 96) : (u.2 0 j).toNatClampNeg ≤ 60 := by
  obtain ⟨e1, e2, e3⟩ := nI_of_bw (h.2.2.1 j hj)
  have h60 : (60 : Int32).toInt = 60 := rfl
  omega
def vC (u : mS) (P a b : Nat) : Prop := ∃ x y, cel u P x y ∧ cel u P x (y + 1) ∧ u.2 2 (480 * P + 60 * x + y) = nI a ∧ u.2 2 (480 * P + 60 * x + (y + 1)) = nI b
def hC (u : mS) (P a b : Nat) : Prop := ∃ x y, cel u P x y ∧ cel u P (x + 1) y ∧ u.2 2 (480 * P + 60 * x + y) = nI a ∧ u.2 2 (480 * P + 60 * (x + 1) + y) = nI b
/-- what the geometry needs of the pieces -/
def gOK (u : mS) (c : cfg) : Prop := rI u ∧ agr c (u.2 2) ∧ (∀ a r, r ∈ c a → rOK r ∧ rLn u r) ∧ cM u c ∧ (∀ a, (u.1 3).toNatClampNeg ≤ a → c a = []) ∧ ∀ a, (c a).length ≤ 6
theorem rLn_at {u : mS} {r : fR} {P x : Nat} (h : rLn u r) (hP : r.1 = P) (h1 : r.2.1 ≤ x) (h2 : x < r.2.1 + r.2.2.2.1) : r.2.2.1 + r.2.2.2.2 ≤ (u.2 0 (8 * P + x)).toNatClampNeg := by
  have q := h (x - r.2.1) (by omega)
  rw [hP, show r.2.1 + (x - r.2.1) = x by omega] at q
  exact q
theorem vC_ad {u : mS} {c : cfg} {P a b : Nat} (g : gOK u c) (hP : P < 12) (ha : a < 80) (hb : b < 80) (hab : a ≠ b) (h : vC u P a b) : vAd c P a b := by
  obtain ⟨x, y, h1, h2, h3, h4⟩ := h
  have l6 := ln60 g.1 (j := 8 * P + x) (by have := h1.1; omega)
  have hx := h1.1
  have hy := h2.2
  obtain ⟨r, r1, r2⟩ := (g.2.1.1 (480 * P + 60 * x + y) (by omega) a ha).mp h3
  obtain ⟨s, s1, s2⟩ := (g.2.1.1 (480 * P + 60 * x + (y + 1)) (by omega) b hb).mp h4
  have nr : ¬ inR r (480 * P + 60 * x + (y + 1)) := fun q => hab ((nI_inj (by omega) (by omega)).mp (((g.2.1.1 _ (by omega) a ha).mpr ⟨r, r1, q⟩).symm.trans h4))
  have ns : ¬ inR s (480 * P + 60 * x + y) := fun q => hab ((nI_inj (by omega) (by omega)).mp (h3.symm.trans ((g.2.1.1 _ (by omega) b hb).mpr ⟨s, s1, q⟩)))
  have kr := (g.2.2.1 a r r1).1
  have ks := (g.2.2.1 b s s1).1
  rw [inR_xy kr hx (by omega)] at r2 nr
  rw [inR_xy ks hx (by omega)] at s2 ns
  exact ⟨r, s, r1, s1, r2.1, by unfold ovrN; omega⟩
theorem hC_ad {u : mS} {c : cfg} {P a b : Nat} (g : gOK u c) (hP : P < 12) (ha : a < 80) (hb : b < 80) (hab : a ≠ b) (h : hC u P a b) : hAd c P a b := by
  obtain ⟨x, y, h1, h2, h3, h4⟩ := h
  have l6 := ln60 g.1 (j := 8 * P + x) (by have := h1.1; omega)
  have hx := h2.1
  have hy := h1.2
  obtain ⟨r, r1, r2⟩ := (g.2.1.1 (480 * P + 60 * x + y) (by omega) a ha).mp h3
  obtain ⟨s, s1, s2⟩ := (g.2.1.1 (480 * P + 60 * (x + 1) + y) (by omega) b hb).mp h4
  have nr : ¬ inR r (480 * P + 60 * (x + 1) + y) := fun q => hab ((nI_inj (by omega) (by omega)).mp (((g.2.1.1 _ (by omega) a ha).mpr ⟨r, r1, q⟩).symm.trans h4))
  have ns : ¬ inR s (480 * P + 60 * x + y) := fun q => hab ((nI_inj (by omega) (by omega)).mp (h3.symm.trans ((g.2.1.1 _ (by omega) b hb).mpr ⟨s, s1, q⟩)))
  have kr := (g.2.2.1 a r r1).1
  have ks := (g.2.2.1 b s s1).1
  rw [inR_xy kr (by omega) (by omega)] at r2
  rw [inR_xy kr hx (by omega)] at nr
  rw [inR_xy ks hx (by omega)] at s2
  rw [inR_xy ks (by omega) (by omega)] at ns
  exact ⟨r, s, r1, s1, r2.1, by unfold besN; omega⟩
theorem vAd_C1 {u : mS} {c : cfg} {P a b : Nat} (g : gOK u c) (hP : P < 12) (ha : a < 80) (hb : b < 80) {r s : fR} (r1 : r ∈ c a) (s1 : s ∈ c b) (rP : r.1 = P) (h1 : r.2.2.1 + r.2.2.2.2 = s.2.2.1) (h2 : r.1 = s.1) (h3 : r.2.1 < s.2.1 + s.2.2.2.1) (h4 : s.2.1 < r.2.1 + r.2.2.2.1) : vC u P a b := by
  obtain ⟨kr, lr⟩ := g.2.2.1 a r r1
  obtain ⟨ks, ls⟩ := g.2.2.1 b s s1
  have sP : s.1 = P := h2.symm.trans rP
  obtain ⟨x, x1, x2, x3, x4⟩ : ∃ x, r.2.1 ≤ x ∧ x < r.2.1 + r.2.2.2.1 ∧ s.2.1 ≤ x ∧ x < s.2.1 + s.2.2.2.1 := by
    by_cases q : r.2.1 ≤ s.2.1
    · exact ⟨s.2.1, q, h4, Nat.le_refl _, by have := ks.2.2.2.1; omega⟩
    · exact ⟨r.2.1, Nat.le_refl _, by have := kr.2.2.2.1; omega, by omega, h3⟩
  have q1 := rLn_at lr rP x1 x2
  have q2 := rLn_at ls sP x3 x4
  obtain ⟨k1, k2, k3, k4, k5⟩ := kr
  obtain ⟨m1, m2, m3, m4, m5⟩ := ks
  refine ⟨x, s.2.2.1 - 1, ⟨by omega, by omega⟩, ⟨by omega, by omega⟩, ?_, ?_⟩
  · exact (g.2.1.1 _ (by omega) a ha).mpr ⟨r, r1, (inR_xy ⟨k1, k2, k3, k4, k5⟩ (by omega) (by omega)).mpr ⟨rP, x1, x2, by omega, by omega⟩⟩
  · exact (g.2.1.1 _ (by omega) b hb).mpr ⟨s, s1, (inR_xy ⟨m1, m2, m3, m4, m5⟩ (by omega) (by omega)).mpr ⟨sP, x3, x4, by omega, by omega⟩⟩
theorem hAd_C1 {u : mS} {c : cfg} {P a b : Nat} (g : gOK u c) (hP : P < 12) (ha : a < 80) (hb : b < 80) {r s : fR} (r1 : r ∈ c a) (s1 : s ∈ c b) (rP : r.1 = P) (h1 : r.2.1 + r.2.2.2.1 = s.2.1) (h2 : r.1 = s.1) (h3 : r.2.2.1 < s.2.2.1 + s.2.2.2.2) (h4 : s.2.2.1 < r.2.2.1 + r.2.2.2.2) : hC u P a b := by
  obtain ⟨kr, lr⟩ := g.2.2.1 a r r1
  obtain ⟨ks, ls⟩ := g.2.2.1 b s s1
  have sP : s.1 = P := h2.symm.trans rP
  obtain ⟨y, y1, y2, y3, y4⟩ : ∃ y, r.2.2.1 ≤ y ∧ y < r.2.2.1 + r.2.2.2.2 ∧ s.2.2.1 ≤ y ∧ y < s.2.2.1 + s.2.2.2.2 := by
    by_cases q : r.2.2.1 ≤ s.2.2.1
    · exact ⟨s.2.2.1, q, h4, Nat.le_refl _, by have := ks.2.2.2.2; omega⟩
    · exact ⟨r.2.2.1, Nat.le_refl _, by have := kr.2.2.2.2; omega, by omega, h3⟩
  have kd := kr.2.2.2.1
  have q1 := rLn_at lr rP (x := s.2.1 - 1) (by omega) (by omega)
  have q2 := rLn_at ls sP (x := s.2.1) (Nat.le_refl _) (by have := ks.2.2.2.1; omega)
  obtain ⟨k1, k2, k3, k4, k5⟩ := kr
  obtain ⟨m1, m2, m3, m4, m5⟩ := ks
  have e1 : s.2.1 - 1 + 1 = s.2.1 := by omega
  refine ⟨s.2.1 - 1, y, ⟨by omega, by omega⟩, ⟨by omega, by rw [e1]; omega⟩, ?_, ?_⟩
  · exact (g.2.1.1 _ (by omega) a ha).mpr ⟨r, r1, (inR_xy ⟨k1, k2, k3, k4, k5⟩ (by omega) (by omega)).mpr ⟨rP, by omega, by omega, y1, y2⟩⟩
  · rw [e1]
    exact (g.2.1.1 _ (by omega) b hb).mpr ⟨s, s1, (inR_xy ⟨m1, m2, m3, m4, m5⟩ (by omega) (by omega)).mpr ⟨sP, by omega, by omega, y3, y4⟩⟩
theorem vAd_C {u : mS} {c : cfg} {P a b : Nat} (g : gOK u c) (hP : P < 12) (ha : a < 80) (hb : b < 80) (h : vAd c P a b) : vC u P a b ∨ vC u P b a := by
  obtain ⟨r, s, r1, s1, rP, h1, h2, h3, h4⟩ := h
  rcases h1 with h1 | h1
  · exact Or.inl (vAd_C1 g hP ha hb r1 s1 rP h1 h2 h3 h4)
  · exact Or.inr (vAd_C1 g hP hb ha s1 r1 (h2.symm.trans rP) h1 h2.symm h4 h3)
theorem hAd_C {u : mS} {c : cfg} {P a b : Nat} (g : gOK u c) (hP : P < 12) (ha : a < 80) (hb : b < 80) (h : hAd c P a b) : hC u P a b ∨ hC u P b a := by
  obtain ⟨r, s, r1, s1, rP, h1, h2, h3, h4⟩ := h
  rcases h1 with h1 | h1
  · exact Or.inl (hAd_C1 g hP ha hb r1 s1 rP h1 h2 h3 h4)
  · exact Or.inr (hAd_C1 g hP hb ha s1 r1 (h2.symm.trans rP) h1 h2.symm h4 h3)
/-- a thing in a cell is an item -/
theorem thing_it {u : mS} {c : cfg} (g : gOK u c) {j : Nat} (hj : j < 5760) (h : mThing (u.2 2 j) = true) : ∃ a, a < (u.1 3).toNatClampNeg ∧ u.2 2 j = nI a := by
  rcases g.2.1.2.1 j hj with q | q | ⟨a, ha, q⟩
  · rw [q] at h; exact absurd h (by decide)
  · rw [q] at h; exact absurd h (by decide)
  · refine ⟨a, Nat.lt_of_not_le (fun z => ?_), q⟩
    obtain ⟨r, r1, -⟩ := (g.2.1.1 j hj a ha).mp q
    rw [g.2.2.2.2.1 a z] at r1
    exact absurd r1 List.not_mem_nil
theorem thing_n {a : Nat} (ha : a < 80) : mThing (nI a) = true := by
  unfold mThing
  rw [decide_eq_false (nIpos (by omega)), decide_eq_false (nI_100 ha)]
  rfl
def prT (u : mS) (a b : Nat) (ac : Int32) (t : tr3) : Prop := bT1 u (nI a) (nI b) t ∨ bT2 u (nI a) (nI b) t ∨ bT3 u (nI a) (nI b) ac t
theorem bsT_pr {u : mS} {a b : Nat} (ha : a < 80) (hb : b < 80) (ac : Int32) (t : tr3) : bsT u (nI a) (nI b) ac t ↔ a ≠ b ∧ prT u a b ac t := by
  unfold bsT
  rw [thing_n ha, thing_n hb, nI_inj (by omega) (by omega)]
  exact ⟨fun q => ⟨q.1.2.2, q.2⟩, fun q => ⟨⟨rfl, rfl, q.1⟩, q.2⟩⟩
theorem mC_cel {u : mS} {P x y : Nat} (g : rI u) (hP : P < 12) (hx : x < 200) (hy : y < 200) : mCell u (nI P) (nI x) (nI y) = true ↔ cel u P x y := mC_iff hP hx hy (fun h => g.2.2.1 _ (by omega))
theorem lnN_e {u : mS} {P c : Nat} (hP : P < 12) (hc : c < 8) : lnN u (nI P) c = (u.2 0 (8 * P + c)).toNatClampNeg := by
  unfold lnN
  rw [idx8 hP hc]
theorem ix_c {P x y : Nat} (hP : P < 12) (hx : x < 8) (hy : y < 60) : (480 * nI P + 60 * nI x + nI y).toNatClampNeg = 480 * P + 60 * x + y := by
  rw [idxN hP hx hy, nI_clamp (by omega)]
/-- what the neighbouring cells break, told of the items -/
theorem vTS_iff {u : mS} {c : cfg} {P : Nat} (g : gOK u c) (hP : P < 12) (t : tr3) : vTS u (nI P) 8 0 t ↔ ∃ a b, a < (u.1 3).toNatClampNeg ∧ b < (u.1 3).toNatClampNeg ∧ a ≠ b ∧ ((vC u P a b ∧ prT u a b 0 t) ∨ (hC u P a b ∧ prT u a b 1 t)) := by
  have hn := n80 g.1
  constructor
  · rintro ⟨x, y, hx, hy, -, h⟩
    rw [lnN_e hP hx] at hy
    have l6 := ln60 g.1 (j := 8 * P + x) (by omega)
    rcases h with ⟨h1, h2⟩ | ⟨h1, h2⟩
    · rw [nI_1, mC_cel g.1 hP (by omega) (by omega)] at h1
      have hy2 := h1.2
      rw [nI_1, ix_c hP hx (by omega), ix_c hP hx (by omega)] at h2
      obtain ⟨a, ha, ea⟩ := thing_it g (by omega) h2.1.1
      obtain ⟨b, hb, eb⟩ := thing_it g (by omega) h2.1.2.1
      rw [ea, eb, bsT_pr (by omega) (by omega)] at h2
      exact ⟨a, b, ha, hb, h2.1, Or.inl ⟨⟨x, y, ⟨hx, hy⟩, h1, ea, eb⟩, h2.2⟩⟩
    · rw [nI_1, mC_cel g.1 hP (by omega) (by omega)] at h1
      have hx2 := h1.1
      rw [nI_1, ix_c hP hx (by omega), ix_c hP hx2 (by omega)] at h2
      obtain ⟨a, ha, ea⟩ := thing_it g (by omega) h2.1.1
      obtain ⟨b, hb, eb⟩ := thing_it g (by omega) h2.1.2.1
      rw [ea, eb, bsT_pr (by omega) (by omega)] at h2
      exact ⟨a, b, ha, hb, h2.1, Or.inr ⟨⟨x, y, ⟨hx, hy⟩, h1, ea, eb⟩, h2.2⟩⟩
  · rintro ⟨a, b, ha, hb, hab, h⟩
    rcases h with ⟨⟨x, y, h1, h2, ea, eb⟩, h3⟩ | ⟨⟨x, y, h1, h2, ea, eb⟩, h3⟩
    · have l6 := ln60 g.1 (j := 8 * P + x) (by have := h1.1; omega)
      have hx := h1.1
      have hy := h2.2
      refine ⟨x, y, hx, by rw [lnN_e hP hx]; exact h1.2, Or.inl hx, Or.inl ⟨?_, ?_⟩⟩
      · rw [nI_1, mC_cel g.1 hP (by omega) (by omega)]; exact h2
      · rw [nI_1, ix_c hP hx (by omega), ix_c hP hx (by omega), ea, eb, bsT_pr (by omega) (by omega)]
        exact ⟨hab, h3⟩
    · have l6 := ln60 g.1 (j := 8 * P + x) (by have := h1.1; omega)
      have hx := h2.1
      have hy := h1.2
      refine ⟨x, y, by omega, by rw [lnN_e hP (by omega)]; exact h1.2, Or.inl (by omega), Or.inr ⟨?_, ?_⟩⟩
      · rw [nI_1, mC_cel g.1 hP (by omega) (by omega)]; exact h2
      · rw [nI_1, ix_c hP (by omega) (by omega), ix_c hP hx (by omega), ea, eb, bsT_pr (by omega) (by omega)]
        exact ⟨hab, h3⟩
theorem nm_i {u : mS} (hk : kB u) {a b : Nat} (ha : a < 80) (hb : b < 80) : bCa u (nI a) (nI b) ↔ nmP u a b := by
  unfold bCa nmP
  rw [nI_clamp (n := a) (by omega), nI_clamp (n := b) (by omega)]
  by_cases h : u.2 4 a = 3
  · obtain ⟨x, hx, -, ex⟩ := exN (hk a ha h) (by decide)
    have h9 : (9 : Int32).toInt = 9 := rfl
    rw [ex, show (10 : Int32) = nI 10 from rfl, pk_mul, nI_add, nI_clamp (n := 10 * b + x) (by omega), nI_clamp (n := x) (by omega)]
  · exact ⟨fun q => absurd q.1 h, fun q => absurd q.1 h⟩
/-- rivals of one another -/
def rvI (u : mS) : Prop := ∀ x y, x < 10 → y < 10 → (u.2 20 (10 * x + y) = 0 ↔ u.2 20 (10 * y + x) = 0)
theorem rv_i {u : mS} {a b : Nat} (ha : a < 80) (hb : b < 80) : bC1 u (nI a) (nI b) ↔ rvP u a b := by
  unfold bC1 rvP
  rw [nI_clamp (n := a) (by omega), nI_clamp (n := b) (by omega), Int32.mul_comm 10 (u.2 10 a)]
theorem rv_s {u : mS} (hk : kB u) (hv : rvI u) {a b : Nat} (ha : a < 80) (hb : b < 80) (h : rvP u a b) : rvP u b a := by
  obtain ⟨h1, h2, h3⟩ := h
  refine ⟨h2, h1, fun q => h3 ?_⟩
  obtain ⟨x, hx, -, ex⟩ := exN (hk a ha h1) (by decide)
  obtain ⟨y, hy, -, ey⟩ := exN (hk b hb h2) (by decide)
  have h9 : (9 : Int32).toInt = 9 := rfl
  rw [ex, ey, show (10 : Int32) = nI 10 from rfl, pk_mul, nI_add, nI_clamp (by omega)] at q ⊢
  rw [Nat.mul_comm] at q ⊢
  exact (hv x y (by omega) (by omega)).mpr q
theorem sl_mem {u : mS} {a : Nat} : ∀ {l : List fR}, slM u a l → (∀ r, r ∈ l → ∃ t, t < l.length ∧ slE u (6 * a + t) r) ∧ ∀ t, t < l.length → ∃ r, r ∈ l ∧ slE u (6 * a + t) r
  | [], _ => ⟨fun r h => absurd h List.not_mem_nil, fun t h => absurd h (Nat.not_lt_zero _)⟩
  | r :: l, h => by
    obtain ⟨h1, h2⟩ := h
    obtain ⟨a1, a2⟩ := sl_mem h2
    refine ⟨fun s hs => ?_, fun t ht => ?_⟩
    · rcases List.mem_cons.mp hs with q | q
      · exact ⟨l.length, by rw [List.length_cons]; omega, by rw [q]; exact h1⟩
      · obtain ⟨t, t1, t2⟩ := a1 s q
        exact ⟨t, by rw [List.length_cons]; omega, t2⟩
    · by_cases e : t = l.length
      · exact ⟨r, List.mem_cons_self, by rw [e]; exact h1⟩
      · obtain ⟨s, s1, s2⟩ := a2 t (by rw [List.length_cons] at ht; omega)
        exact ⟨s, List.mem_cons_of_mem _ s1, s2⟩
theorem cnt_e {u : mS} {c : cfg} (g : gOK u c) {i : Nat} (hi : i < 80) : (u.2 22 i).toNatClampNeg = (c i).length := by
  rw [(g.2.2.2.1 i hi).1, nI_clamp (by have := g.2.2.2.2.2 i; omega)]
theorem pc_r {u : mS} {c : cfg} (g : gOK u c) {i t : Nat} (hi : i < 80) (ht : t < (u.2 22 i).toNatClampNeg) : ∃ r, r ∈ c i ∧ slE u (6 * i + t) r := (sl_mem (g.2.2.2.1 i hi).2).2 t (by rw [← cnt_e g hi]; exact ht)
theorem r_pc {u : mS} {c : cfg} (g : gOK u c) {i : Nat} {r : fR} (hi : i < 80) (hr : r ∈ c i) : ∃ t, t < (u.2 22 i).toNatClampNeg ∧ slE u (6 * i + t) r := by
  obtain ⟨t, t1, t2⟩ := (sl_mem (g.2.2.2.1 i hi).2).1 r hr
  exact ⟨t, by rw [cnt_e g hi]; exact t1, t2⟩
theorem tch_iff {u : mS} {i j t t2 : Nat} {r s : fR} (kr : rOK r) (ks : rOK s) (hr : slE u (6 * i + t) r) (hs : slE u (6 * j + t2) s) (sw : Int32) : s_tch (pR u j) (pR u i t 0) (pR u i t 1) (pR u i t 2) (pR u i t 3) (pR u i t 4) sw t2 ↔ besN s r ∨ (sw = 0 ∧ ovrN s r) := by
  unfold s_tch
  have a0 : pR u i t 0 = nI r.1 := hr.1
  have a1 : pR u i t 1 = nI r.2.1 := hr.2.1
  have a2 : pR u i t 2 = nI r.2.2.1 := hr.2.2.1
  have a3 : pR u i t 3 = nI r.2.2.2.1 := hr.2.2.2.1
  have a4 : pR u i t 4 = nI r.2.2.2.2 := hr.2.2.2.2
  have b0 : pR u j t2 0 = nI s.1 := hs.1
  have b1 : pR u j t2 1 = nI s.2.1 := hs.2.1
  have b2 : pR u j t2 2 = nI s.2.2.1 := hs.2.2.1
  have b3 : pR u j t2 3 = nI s.2.2.2.1 := hs.2.2.2.1
  have b4 : pR u j t2 4 = nI s.2.2.2.2 := hs.2.2.2.2
  obtain ⟨k1, k2, k3, k4, k5⟩ := kr
  obtain ⟨m1, m2, m3, m4, m5⟩ := ks
  rw [a0, a1, a2, a3, a4, b0, b1, b2, b3, b4, bes_iff ⟨by omega, by omega, by omega, by omega, by omega⟩ ⟨by omega, by omega, by omega, by omega, by omega⟩, ovr_iff ⟨by omega, by omega, by omega, by omega, by omega⟩ ⟨by omega, by omega, by omega, by omega, by omega⟩]
  exact Iff.rfl
theorem besN_s {r s : fR} (h : besN r s) : besN s r := ⟨h.1.symm, h.2.1.symm, h.2.2.2, h.2.2.1⟩
theorem ovrN_s {r s : fR} (h : ovrN r s) : ovrN s r := ⟨h.1.symm, h.2.1.symm, h.2.2.2, h.2.2.1⟩
theorem mt_iff {u : mS} {c : cfg} {P i j : Nat} (g : gOK u c) (hP : P < 12) (hi : i < 80) (hj : j < 80) (sw : Int32) : mtP u i j (nI P) sw ↔ hAd c P i j ∨ (sw = 0 ∧ vAd c P i j) := by
  constructor
  · rintro ⟨t, ht, e, hb⟩
    obtain ⟨t2, h1, h2⟩ := bP_nz rfl hb
    obtain ⟨r, r1, r2⟩ := pc_r g hi ht
    obtain ⟨s, s1, s2⟩ := pc_r g hj h1
    have kr := (g.2.2.1 i r r1).1
    have ks := (g.2.2.1 j s s1).1
    have e2 : pR u i t 0 = nI r.1 := r2.1
    have rP : r.1 = P := (nI_inj (by have := kr.1; omega) (by omega)).mp (e2.symm.trans e)
    rw [tch_iff kr ks r2 s2] at h2
    rcases h2 with h2 | h2
    · exact Or.inl ⟨r, s, r1, s1, rP, besN_s h2⟩
    · exact Or.inr ⟨h2.1, r, s, r1, s1, rP, ovrN_s h2.2⟩
  · intro h
    obtain ⟨r, s, r1, s1, rP, h2⟩ : ∃ r s, r ∈ c i ∧ s ∈ c j ∧ r.1 = P ∧ (besN s r ∨ (sw = 0 ∧ ovrN s r)) := by
      rcases h with ⟨r, s, r1, s1, rP, h⟩ | ⟨h0, r, s, r1, s1, rP, h⟩
      · exact ⟨r, s, r1, s1, rP, Or.inl (besN_s h)⟩
      · exact ⟨r, s, r1, s1, rP, Or.inr ⟨h0, ovrN_s h⟩⟩
    obtain ⟨t, t1, t2⟩ := r_pc g hi r1
    obtain ⟨t3, t4, t5⟩ := r_pc g hj s1
    have kr := (g.2.2.1 i r r1).1
    have ks := (g.2.2.1 j s s1).1
    have e2 : pR u i t 0 = nI r.1 := t2.1
    refine ⟨t, t1, by rw [e2, rP], ?_⟩
    rw [bP_t ⟨t3, t4, (tch_iff kr ks t2 t5 sw).mpr h2⟩]
    decide
theorem lpC_iff {u : mS} {c : cfg} {P a b : Nat} (g : gOK u c) (hP : P < 12) (ha : a < 80) (hb : b < 80) (kd : Int32) : lpC u (nI P) kd a b ↔ mnP u a b kd ∧ (hAd c P a b ∨ (swA kd = 0 ∧ vAd c P a b)) := by
  unfold lpC lpB
  rw [mt_iff g hP ha hb]
  refine ⟨fun h => h.2, fun h => ⟨?_, h⟩⟩
  obtain ⟨r, r1, rP⟩ : ∃ r, r ∈ c a ∧ r.1 = P := by
    rcases h.2 with ⟨r, s, r1, s1, rP, -⟩ | ⟨-, r, s, r1, s1, rP, -⟩
    · exact ⟨r, r1, rP⟩
    · exact ⟨r, r1, rP⟩
  obtain ⟨t, t1, t2⟩ := r_pc g ha r1
  exact ⟨t, t1, by rw [← rP]; exact t2.1⟩
theorem trN_lt {a b : Nat} (h : a < b) (hb : b < 80) (k : Int32) : trN k (nI a) (nI b) = (k, nI a, nI b) ∧ trN k (nI b) (nI a) = (k, nI a, nI b) := by
  unfold trN
  have h1 : nI a ≤ nI b := by rw [nle (by omega) (by omega)]; omega
  have h2 : ¬ nI b ≤ nI a := by rw [nle (by omega) (by omega)]; omega
  rw [if_neg (nIpos (by omega)), if_neg (nIpos (by omega)), if_neg (nIpos (by omega)), if_neg (nIpos (by omega)), if_pos h1, if_pos h1, if_neg h2, if_neg h2]
  exact ⟨rfl, rfl⟩
def kdO (ac kd : Int32) : Prop := kd = 1 ∨ kd = 2 ∨ (kd = 3 ∧ ¬ ac = 0)
theorem prT_lt {u : mS} (hk : kB u) {a b : Nat} (h : a < b) (hb : b < 80) (ac : Int32) (t : tr3) : prT u a b ac t ↔ ∃ kd, kdO ac kd ∧ mnP u a b kd ∧ t = (kd, nI a, nI b) := by
  unfold prT bT1 bT2 bT3 bC3
  rw [rv_i (by omega) hb, nm_i hk (by omega) hb, nm_i hk hb (by omega), (trN_lt h hb 1).1, (trN_lt h hb 2).1, (trN_lt h hb 3).1, nI_clamp (n := a) (by omega), nI_clamp (n := b) (by omega)]
  constructor
  · rintro (⟨h1, h2⟩ | ⟨h1, h2⟩ | ⟨⟨h0, h1⟩, h2⟩)
    · exact ⟨1, Or.inl rfl, Or.inl ⟨rfl, h1⟩, h2⟩
    · exact ⟨2, Or.inr (Or.inl rfl), Or.inr (Or.inl ⟨rfl, h1⟩), h2⟩
    · exact ⟨3, Or.inr (Or.inr ⟨rfl, h0⟩), Or.inr (Or.inr ⟨rfl, h1⟩), h2⟩
  · rintro ⟨kd, hk1, h1, h2⟩
    rcases h1 with ⟨e, h1⟩ | ⟨e, h1⟩ | ⟨e, h1⟩
    · rw [e] at h2; exact Or.inl ⟨h1, h2⟩
    · rw [e] at h2; exact Or.inr (Or.inl ⟨h1, h2⟩)
    · rw [e] at h2 hk1
      rcases hk1 with q | q | q
      · exact absurd q (by decide)
      · exact absurd q (by decide)
      · exact Or.inr (Or.inr ⟨⟨q.2, h1⟩, h2⟩)
theorem prT_gt {u : mS} (hk : kB u) (hv : rvI u) {a b : Nat} (h : a < b) (hb : b < 80) (ac : Int32) (t : tr3) : prT u b a ac t ↔ ∃ kd, kdO ac kd ∧ mnP u a b kd ∧ t = (kd, nI a, nI b) := by
  unfold prT bT1 bT2 bT3 bC3
  rw [rv_i hb (by omega), nm_i hk (by omega) hb, nm_i hk hb (by omega), (trN_lt h hb 1).2, (trN_lt h hb 2).2, (trN_lt h hb 3).2, nI_clamp (n := a) (by omega), nI_clamp (n := b) (by omega)]
  constructor
  · rintro (⟨h1, h2⟩ | ⟨h1, h2⟩ | ⟨⟨h0, h1⟩, h2⟩)
    · exact ⟨1, Or.inl rfl, Or.inl ⟨rfl, rv_s hk hv hb (by omega) h1⟩, h2⟩
    · exact ⟨2, Or.inr (Or.inl rfl), Or.inr (Or.inl ⟨rfl, h1.symm⟩), h2⟩
    · exact ⟨3, Or.inr (Or.inr ⟨rfl, h0⟩), Or.inr (Or.inr ⟨rfl, h1.symm⟩), h2⟩
  · rintro ⟨kd, hk1, h1, h2⟩
    rcases h1 with ⟨e, h1⟩ | ⟨e, h1⟩ | ⟨e, h1⟩
    · rw [e] at h2; exact Or.inl ⟨rv_s hk hv (by omega) hb h1, h2⟩
    · rw [e] at h2; exact Or.inr (Or.inl ⟨h1.symm, h2⟩)
    · rw [e] at h2 hk1
      rcases hk1 with q | q | q
      · exact absurd q (by decide)
      · exact absurd q (by decide)
      · exact Or.inr (Or.inr ⟨⟨q.2, h1.symm⟩, h2⟩)
def kd3 (kd : Int32) : Prop := kd = 1 ∨ kd = 2 ∨ kd = 3
theorem kdO_3 {ac kd : Int32} (h : kdO ac kd) : kd3 kd := h.elim Or.inl (fun q => q.elim (fun z => Or.inr (Or.inl z)) (fun z => Or.inr (Or.inr z.1)))
theorem kdO_0 {kd : Int32} (h : kdO 0 kd) : swA kd = 0 := by
  rcases h with q | q | q
  · rw [q]; decide
  · rw [q]; decide
  · exact absurd rfl q.2
theorem kdO_1 {kd : Int32} (h : kd3 kd) : kdO 1 kd := h.elim Or.inl (fun q => q.elim (fun z => Or.inr (Or.inl z)) (fun z => Or.inr (Or.inr ⟨z, by decide⟩)))
theorem kdO_w {kd : Int32} (h : kd3 kd) (hs : swA kd = 0) : kdO 0 kd := by
  rcases h with q | q | q
  · exact Or.inl q
  · exact Or.inr (Or.inl q)
  · rw [q] at hs; exact absurd hs (by decide)
/-- what neighbouring cells break: the class's pairs -/
theorem vTS_k {u : mS} {c : cfg} {P : Nat} (g : gOK u c) (hP : P < 12) (hk : kB u) (hv : rvI u) (t : tr3) : vTS u (nI P) 8 0 t ↔ ∃ kd a b, kd3 kd ∧ a < b ∧ b < (u.1 3).toNatClampNeg ∧ lpC u (nI P) kd a b ∧ t = (kd, nI a, nI b) := by
  have hn := n80 g.1
  rw [vTS_iff g hP]
  constructor
  · rintro ⟨a, b, ha, hb, hab, h⟩
    rcases Nat.lt_or_gt_of_ne hab with q | q
    · rcases h with ⟨h1, h2⟩ | ⟨h1, h2⟩
      · obtain ⟨kd, k1, k2, k3⟩ := (prT_lt hk q (by omega) 0 t).mp h2
        exact ⟨kd, a, b, kdO_3 k1, q, hb, (lpC_iff g hP (by omega) (by omega) kd).mpr ⟨k2, Or.inr ⟨kdO_0 k1, vC_ad g hP (by omega) (by omega) hab h1⟩⟩, k3⟩
      · obtain ⟨kd, k1, k2, k3⟩ := (prT_lt hk q (by omega) 1 t).mp h2
        exact ⟨kd, a, b, kdO_3 k1, q, hb, (lpC_iff g hP (by omega) (by omega) kd).mpr ⟨k2, Or.inl (hC_ad g hP (by omega) (by omega) hab h1)⟩, k3⟩
    · rcases h with ⟨h1, h2⟩ | ⟨h1, h2⟩
      · obtain ⟨kd, k1, k2, k3⟩ := (prT_gt hk hv q (by omega) 0 t).mp h2
        exact ⟨kd, b, a, kdO_3 k1, q, ha, (lpC_iff g hP (by omega) (by omega) kd).mpr ⟨k2, Or.inr ⟨kdO_0 k1, vAd_s (vC_ad g hP (by omega) (by omega) hab h1)⟩⟩, k3⟩
      · obtain ⟨kd, k1, k2, k3⟩ := (prT_gt hk hv q (by omega) 1 t).mp h2
        exact ⟨kd, b, a, kdO_3 k1, q, ha, (lpC_iff g hP (by omega) (by omega) kd).mpr ⟨k2, Or.inl (hAd_s (hC_ad g hP (by omega) (by omega) hab h1))⟩, k3⟩
  · rintro ⟨kd, a, b, k1, q, hb, h, k3⟩
    obtain ⟨k2, h⟩ := (lpC_iff g hP (by omega) (by omega) kd).mp h
    rcases h with h | ⟨hs, h⟩
    · rcases hAd_C g hP (by omega) (by omega) h with z | z
      · exact ⟨a, b, by omega, hb, by omega, Or.inr ⟨z, (prT_lt hk q (by omega) 1 t).mpr ⟨kd, kdO_1 k1, k2, k3⟩⟩⟩
      · exact ⟨b, a, hb, by omega, by omega, Or.inr ⟨z, (prT_gt hk hv q (by omega) 1 t).mpr ⟨kd, kdO_1 k1, k2, k3⟩⟩⟩
    · rcases vAd_C g hP (by omega) (by omega) h with z | z
      · exact ⟨a, b, by omega, hb, by omega, Or.inl ⟨z, (prT_lt hk q (by omega) 0 t).mpr ⟨kd, kdO_w k1 hs, k2, k3⟩⟩⟩
      · exact ⟨b, a, hb, by omega, by omega, Or.inl ⟨z, (prT_gt hk hv q (by omega) 0 t).mpr ⟨kd, kdO_w k1 hs, k2, k3⟩⟩⟩
/-- heads: one piece at most, and they belong to something -/
def hdI (u : mS) (c : cfg) : Prop := ∀ i, i < (u.1 3).toNatClampNeg → u.2 4 i = 1 → (c i).length ≤ 1 ∧ ¬ u.2 9 i = (-1)
theorem thN_on {u : mS} {c : cfg} (g : gOK u c) {p0 : Int32} {j : Nat} (hj : j < 80) : thN u p0 j ↔ onP u j p0 := by
  have h6 := g.2.2.2.2.2 j
  have ec := cnt_e g hj
  unfold thN thP onP ptC
  rw [nI_clamp (n := j) (by omega)]
  constructor
  · rintro ⟨t, t1, t2⟩
    rw [i6k hj (by omega)] at t2
    exact ⟨t, t1, t2⟩
  · rintro ⟨t, t1, t2⟩
    refine ⟨t, t1, ?_⟩
    rw [i6k hj (by omega)]
    exact t2
theorem iC4_i {u : mS} {c : cfg} (g : gOK u c) {p0 : Int32} {j : Nat} (hj : j < 80) : iC4 u p0 j ↔ fsC u p0 4 j := by
  have hc : bw (u.2 22 j) 0 6 = true := by
    rw [(g.2.2.2.1 j hj).1]
    exact bwN (by have h6 : (6 : Int32).toInt = 6 := rfl; have := g.2.2.2.2.2 j; rw [h6]; omega) (by have := g.2.2.2.2.2 j; omega)
  unfold iC4 fsC faP
  rw [thN_on g hj, nI_clamp (n := j) (by omega), s_standing_m hj hc]
  constructor
  · rintro ⟨h1, h2, h3⟩
    refine ⟨h1, Or.inl ⟨rfl, h2, ?_⟩⟩
    rw [i32_lt]
    rw [i32_le] at h3
    omega
  · rintro ⟨h1, h2⟩
    rcases h2 with ⟨-, h2, h3⟩ | ⟨h2, -⟩
    · refine ⟨h1, h2, ?_⟩
      rw [i32_lt] at h3
      rw [i32_le]
      omega
    · exact absurd rfl h2
theorem hs_so {u : mS} {c : cfg} (g : gOK u c) {j : Nat} (hj : j < (u.1 3).toNatClampNeg) (h1 : (c j).length = 1) (h9 : ¬ u.2 9 j = (-1)) : hsP u j ↔ soP u j := by
  have hn := n80 g.1
  have hj8 : j < 80 := by omega
  have ec := cnt_e g hj8
  obtain ⟨r, r1, r2⟩ := pc_r g (i := j) (t := 0) hj8 (by omega)
  obtain ⟨kr, lr⟩ := g.2.2.1 j r r1
  have e6 : (6 * nI j).toNatClampNeg = 6 * j := by rw [show (6 : Int32) = nI 6 from rfl, pk_mul, nI_clamp (by omega)]
  have r2 : slE u (6 * j) r := r2
  obtain ⟨a0, a1, a2, a3, a4⟩ := r2
  have e22 : u.2 22 j = 1 := by rw [(g.2.2.2.1 j hj8).1, h1]; rfl
  have c22 : (u.2 22 j).toNatClampNeg - 1 = 0 := by omega
  have core : ∀ k, k < r.2.2.2.1 → (hsC u (nI j) (6 * nI j) (u.2 25 (6 * nI j).toNatClampNeg + u.2 27 (6 * nI j).toNatClampNeg) (r.2.1 + k) ↔ soC u j r.1 r.2.1 r.2.2.1 r.2.2.2.2 k) := fun k hk => by
    unfold hsC soC mCellAt
    rw [e6, a0, a2, a4, nI_clamp (n := j) (by omega)]
    by_cases q : mCell u (nI r.1) (nI (r.2.1 + k)) (nI r.2.2.1 + nI r.2.2.2.2) = true
    · rw [if_pos q]
      exact ⟨fun z => z.2, fun z => ⟨q, z⟩⟩
    · rw [if_neg q]
      exact ⟨fun z => absurd z.1 q, fun z => absurd z.symm h9⟩
  constructor
  · rintro ⟨X, D, f1, f2, f3, k, k1, k2⟩
    rw [e6] at f1 f2
    have eX : X = r.2.1 := (nI_inj (by omega) (by have := kr.2.1; omega)).mp (f1.symm.trans a1)
    have eD : D = r.2.2.2.1 := (nI_inj (by omega) (by have := kr.2.1; omega)).mp (f2.symm.trans a3)
    rw [eX] at k2
    rw [eD] at k1
    refine ⟨by rw [e22]; decide, r.1, r.2.1, r.2.2.1, r.2.2.2.1, r.2.2.2.2, ?_, ?_, ?_, ?_, ?_, rIn_of kr lr, k, k1, (core k k1).mp k2⟩
    · rw [c22]; exact a0
    · rw [c22]; exact a1
    · rw [c22]; exact a2
    · rw [c22]; exact a3
    · rw [c22]; exact a4
  · rintro ⟨-, P, X, Y, D, N, b0, b1, b2, b3, b4, hin, k, k1, k2⟩
    rw [c22] at b0 b1 b2 b3 b4
    obtain ⟨i1, i2, i3, i4, i5, -⟩ := hin
    have b0 : u.2 23 (6 * j) = nI P := b0
    have b1 : u.2 24 (6 * j) = nI X := b1
    have b2 : u.2 25 (6 * j) = nI Y := b2
    have b3 : u.2 26 (6 * j) = nI D := b3
    have b4 : u.2 27 (6 * j) = nI N := b4
    obtain ⟨m1, m2, m3, m4, m5⟩ := kr
    have eP : P = r.1 := (nI_inj (by omega) (by omega)).mp (b0.symm.trans a0)
    have eX : X = r.2.1 := (nI_inj (by omega) (by omega)).mp (b1.symm.trans a1)
    have eY : Y = r.2.2.1 := (nI_inj (by omega) (by omega)).mp (b2.symm.trans a2)
    have eD : D = r.2.2.2.1 := (nI_inj (by omega) (by omega)).mp (b3.symm.trans a3)
    have eN : N = r.2.2.2.2 := (nI_inj (by omega) (by omega)).mp (b4.symm.trans a4)
    rw [eP, eX, eY, eN] at k2
    rw [eD] at k1
    exact ⟨r.2.1, r.2.2.2.1, by rw [e6]; exact a1, by rw [e6]; exact a3, m2, k, k1, (core k k1).mpr k2⟩
theorem iC5_i {u : mS} {c : cfg} (g : gOK u c) (hd : hdI u c) {p0 : Int32} {j : Nat} (hj : j < (u.1 3).toNatClampNeg) : iC5 u p0 j ↔ fsC u p0 5 j := by
  have hn := n80 g.1
  have hj8 : j < 80 := by omega
  unfold iC5 fsC faP
  rw [thN_on g hj8, nI_clamp (n := j) (by omega)]
  have key : onP u j p0 → u.2 4 j = 1 → (hsP u j ↔ soP u j) := fun h1 h2 => by
    obtain ⟨q1, q2⟩ := hd j hj h2
    obtain ⟨t, t1, -⟩ := h1
    rw [cnt_e g hj8] at t1
    exact hs_so g hj (by omega) q2
  constructor
  · rintro ⟨h1, h2, h3⟩
    exact ⟨h1, Or.inr ⟨by decide, h2, fun z => h3 ((key h1 h2).mpr z)⟩⟩
  · rintro ⟨h1, h2⟩
    rcases h2 with ⟨h2, -⟩ | ⟨-, h2, h3⟩
    · exact absurd h2 (by decide)
    · exact ⟨h1, h2, fun z => h3 ((key h1 h2).mp z)⟩
def kd2 (kd : Int32) : Prop := kd = 4 ∨ kd = 5
/-- all that is broken on a page, in the class's words -/
def kS (u : mS) (p : Int32) (t : tr3) : Prop := (∃ kd a b, kd3 kd ∧ a < b ∧ b < (u.1 3).toNatClampNeg ∧ lpC u p kd a b ∧ t = (kd, nI a, nI b)) ∨ ∃ kd i, kd2 kd ∧ i < (u.1 3).toNatClampNeg ∧ fsC u p kd i ∧ t = (kd, nI i, -1)
theorem trN_1 {k : Int32} {j : Nat} : trN k (nI j) (-1) = (k, nI j, -1) := by
  unfold trN
  rw [if_pos (by decide), if_pos (by decide)]
theorem brS_k {u : mS} {c : cfg} {P : Nat} (g : gOK u c) (hP : P < 12) (hk : kB u) (hv : rvI u) (hd : hdI u c) (t : tr3) : brS u (nI P) (u.1 3).toNatClampNeg t ↔ kS u (nI P) t := by
  have hn := n80 g.1
  unfold brS kS
  rw [vTS_k g hP hk hv]
  refine or_congr Iff.rfl ⟨?_, ?_⟩
  · rintro ⟨j, hj, h⟩
    rcases h with ⟨h1, h2⟩ | ⟨h1, h2⟩
    · exact ⟨4, j, Or.inl rfl, hj, (iC4_i g (by omega)).mp h1, by rw [h2, trN_1]⟩
    · exact ⟨5, j, Or.inr rfl, hj, (iC5_i g hd hj).mp h1, by rw [h2, trN_1]⟩
  · rintro ⟨kd, i, h1, hi, h2, h3⟩
    rcases h1 with e | e
    · rw [e] at h2 h3
      exact ⟨i, hi, Or.inl ⟨(iC4_i g (by omega)).mpr h2, by rw [h3, trN_1]⟩⟩
    · rw [e] at h2 h3
      exact ⟨i, hi, Or.inr ⟨(iC5_i g hd hi).mpr h2, by rw [h3, trN_1]⟩⟩
theorem kd_int {kd : Int32} : (kd3 kd → 1 ≤ kd.toInt ∧ kd.toInt ≤ 3) ∧ (kd2 kd → 4 ≤ kd.toInt ∧ kd.toInt ≤ 5) := by
  have e1 : (1 : Int32).toInt = 1 := rfl
  have e2 : (2 : Int32).toInt = 2 := rfl
  have e3 : (3 : Int32).toInt = 3 := rfl
  have e4 : (4 : Int32).toInt = 4 := rfl
  have e5 : (5 : Int32).toInt = 5 := rfl
  refine ⟨fun h => ?_, fun h => ?_⟩
  · rcases h with q | q | q <;> rw [q] <;> omega
  · rcases h with q | q <;> rw [q] <;> omega
theorem best_L {u : mS} {p : Int32} {kd0 x y t : Int32} (hn : (u.1 3).toNatClampNeg ≤ 80) (h0 : kd3 kd0) (hno : ∀ kd, kd3 kd → kd.toInt < kd0.toInt → noL u p kd) (h : isL u p kd0 x y t) : best (kS u p) (x, y, t) := by
  obtain ⟨ex, a, b, ey, et, hab, hb, hc, hm⟩ := h
  rw [ex, ey, et]
  have k0 := (kd_int (kd := kd0)).1 h0
  refine Or.inr ⟨fun q => ?_, Or.inl ⟨kd0, a, b, h0, hab, hb, hc, rfl⟩, fun t' ht' => ?_⟩
  · have q2 : kd0.toInt = 0 := congrArg Int32.toInt q
    omega
  · rcases ht' with ⟨kd, a', b', k1, k2, k3, k4, k5⟩ | ⟨kd, i, k1, k2, k3, k4⟩
    · have kk := (kd_int (kd := kd)).1 k1
      rw [k5]
      unfold le3
      dsimp only
      rcases Int.lt_trichotomy kd.toInt kd0.toInt with q | q | q
      · exact absurd k4 (hno kd k1 q a' b' k2 k3)
      · have e : kd = kd0 := Int32.toInt_inj.mp q
        rw [e] at k4
        have nm : ¬ (a' < a ∨ (a' = a ∧ b' < b)) := fun z => hm a' b' k2 k3 z k4
        rw [nI_toInt (by omega), nI_toInt (by omega), nI_toInt (by omega), nI_toInt (by omega)]
        omega
      · exact Or.inl q
    · have kk := (kd_int (kd := kd)).2 k1
      rw [k4]
      exact Or.inl (by show kd0.toInt < kd.toInt; omega)
theorem best_S {u : mS} {p : Int32} {kd0 x y t : Int32} (hn : (u.1 3).toNatClampNeg ≤ 80) (h0 : kd2 kd0) (hno : ∀ kd, kd3 kd → noL u p kd) (hno2 : ∀ kd, kd2 kd → kd.toInt < kd0.toInt → noS u p kd) (h : isS u p kd0 x y t) : best (kS u p) (x, y, t) := by
  obtain ⟨ex, et, i, hi, ey, hc, hm⟩ := h
  rw [ex, ey, et]
  have k0 := (kd_int (kd := kd0)).2 h0
  refine Or.inr ⟨fun q => ?_, Or.inr ⟨kd0, i, h0, hi, hc, rfl⟩, fun t' ht' => ?_⟩
  · have q2 : kd0.toInt = 0 := congrArg Int32.toInt q
    omega
  · rcases ht' with ⟨kd, a', b', k1, k2, k3, k4, k5⟩ | ⟨kd, j, k1, k2, k3, k4⟩
    · exact absurd k4 (hno kd k1 a' b' k2 k3)
    · have kk := (kd_int (kd := kd)).2 k1
      rw [k4]
      unfold le3
      dsimp only
      rcases Int.lt_trichotomy kd.toInt kd0.toInt with q | q | q
      · exact absurd k3 (hno2 kd k1 q j k2)
      · have e : kd = kd0 := Int32.toInt_inj.mp q
        rw [e] at k3
        have nm : ¬ j < i := fun z => hm j z k3
        rw [nI_toInt (by omega), nI_toInt (by omega)]
        omega
      · exact Or.inl q
theorem t1 : (1 : Int32).toInt = 1 ∧ (2 : Int32).toInt = 2 ∧ (3 : Int32).toInt = 3 ∧ (4 : Int32).toInt = 4 ∧ (5 : Int32).toInt = 5 := ⟨rfl, rfl, rfl, rfl, rfl⟩
/-- what the class finds is the least wrong -/
theorem brM_best {u : mS} {p x y t : Int32} (hn : (u.1 3).toNatClampNeg ≤ 80) (h : brM u p x y t) : best (kS u p) (x, y, t) := by
  obtain ⟨e1, e2, e3, e4, e5⟩ := t1
  rcases h with h | ⟨n1, h⟩
  · refine best_L hn (Or.inl rfl) (fun kd k q => ?_) h
    have := (kd_int (kd := kd)).1 k
    omega
  rcases h with h | ⟨n2, h⟩
  · refine best_L hn (Or.inr (Or.inl rfl)) (fun kd k q => ?_) h
    rcases k with k | k | k
    · rw [k]; exact n1
    · rw [k] at q; omega
    · rw [k] at q; omega
  rcases h with h | ⟨n3, h⟩
  · refine best_L hn (Or.inr (Or.inr rfl)) (fun kd k q => ?_) h
    rcases k with k | k | k
    · rw [k]; exact n1
    · rw [k]; exact n2
    · rw [k] at q; omega
  have hno : ∀ kd, kd3 kd → noL u p kd := fun kd k => by
    rcases k with k | k | k
    · rw [k]; exact n1
    · rw [k]; exact n2
    · rw [k]; exact n3
  rcases h with h | ⟨n4, h⟩
  · refine best_S hn (Or.inl rfl) hno (fun kd k q => ?_) h
    have := (kd_int (kd := kd)).2 k
    omega
  rcases h with h | ⟨n5, hx, hy, ht⟩
  · refine best_S hn (Or.inr rfl) hno (fun kd k q => ?_) h
    rcases k with k | k
    · rw [k]; exact n4
    · rw [k] at q; omega
  rw [hx, hy, ht]
  refine Or.inl ⟨rfl, fun t' ht' => ?_⟩
  rcases ht' with ⟨kd, a', b', k1, k2, k3, k4, k5⟩ | ⟨kd, j, k1, k2, k3, k4⟩
  · exact hno kd k1 a' b' k2 k3 k4
  · rcases k1 with k | k
    · rw [k] at k3; exact n4 j k2 k3
    · rw [k] at k3; exact n5 j k2 k3
/-- broken: class and reference answer alike -/
theorem br_eq {u : mS} {c : cfg} {P : Nat} (g : gOK u c) (hP : P < 12) (hk : kB u) (hv : rvI u) (hd : hdI u c) {x y t : Int32} {b : tr3} (h : brM u (nI P) x y t) (h2 : best (brS u (nI P) (u.1 3).toNatClampNeg) b) : b = (x, y, t) := best_u (best_c h2 (fun t => brS_k g hP hk hv hd t)) (brM_best (n80 g.1) h)
theorem nlt_le {a b : Int32} : ¬ a < b ↔ b ≤ a := by
  rw [i32_lt, i32_le]; omega
theorem canT_n {a n p2 co : Int32} {gw : Nat → Int32} {u : mS} {i : Nat} (ha : -1000 ≤ a.toInt ∧ a.toInt ≤ 1000) (hn : -1000 ≤ n.toInt ∧ n.toInt ≤ 1000) (hc : 0 ≤ co.toInt ∧ co.toInt ≤ 80) (hg : eqR 80 gw (u.2 16) (80 * i)) : s_canT a n p2 co gw ↔ 0 ≤ a.toInt ∧ 1 ≤ n.toInt ∧ a.toInt + n.toInt ≤ co.toInt ∧ ∀ j : Nat, (j : Int) < n.toInt → u.2 16 (80 * i + (a.toInt.toNat + j)) ≤ p2 := by
  unfold s_canT
  rw [i32_lt, i32_lt, i32_le, i0, i1, subI (by omega) (by omega)]
  have e2 : ∀ j : Nat, j < 1000 → 0 ≤ a.toInt → (a + nI j).toNatClampNeg = a.toInt.toNat + j := fun j hj h0 => by
    show (a + nI j).toInt.toNat = _
    rw [addI (by rw [nI_toInt (by omega)]; omega) (by rw [nI_toInt (by omega)]; omega), nI_toInt (by omega)]
    omega
  have en : n.toNatClampNeg = n.toInt.toNat := rfl
  rw [en]
  constructor
  · rintro ⟨h1, h2, h3, h4⟩
    refine ⟨by omega, by omega, by omega, fun j hj => ?_⟩
    have q := h4 j (by omega)
    rw [e2 j (by omega) (by omega), hg _ (by omega)] at q
    exact q
  · rintro ⟨h1, h2, h3, h4⟩
    refine ⟨by omega, by omega, by omega, fun j hj => ?_⟩
    rw [e2 j (by omega) (by omega), hg _ (by omega)]
    exact h4 j (by omega)
theorem rX_n {A M co p2 : Int32} {u : mS} {i : Nat} (hi : i < 80) (hA : 0 ≤ A.toInt ∧ A.toInt ≤ 400) (hM : 1 ≤ M.toInt ∧ M.toInt ≤ 60) : (¬ co < A + M ∧ ∀ t, t < M.toNatClampNeg → ¬ p2 < u.2 16 (80 * nI i + nI (A.toNatClampNeg + t)).toNatClampNeg) ↔ A.toInt + M.toInt ≤ co.toInt ∧ ∀ j : Nat, (j : Int) < M.toInt → u.2 16 (80 * i + (A.toInt.toNat + j)) ≤ p2 := by
  have eA : A.toNatClampNeg = A.toInt.toNat := rfl
  have eM : M.toNatClampNeg = M.toInt.toNat := rfl
  rw [eA, eM, i32_lt, addI (by omega) (by omega)]
  have ei : ∀ t : Nat, t < 60 → (80 * nI i + nI (A.toInt.toNat + t)).toNatClampNeg = 80 * i + (A.toInt.toNat + t) := fun t ht => by
    rw [show (80 : Int32) = nI 80 from rfl, pk_mul, nI_add, nI_clamp (by omega)]
  constructor
  · rintro ⟨h1, h2⟩
    refine ⟨by omega, fun j hj => ?_⟩
    have q := h2 j (by omega)
    rw [ei j (by omega), nlt_le] at q
    exact q
  · rintro ⟨h1, h2⟩
    refine ⟨by omega, fun t ht => ?_⟩
    rw [ei t (by omega), nlt_le]
    exact h2 t (by omega)
theorem bP_iff {P : Prop} : ¬ bP P = 0 ↔ P := ⟨fun h => bP_nz rfl h, fun h => by rw [bP_t h]; decide⟩
/-- behind, in the reference's words -/
theorem bh_iff {P X Y D N P2 X2 Y2 D2 N2 : Int32} : ¬ s_isBehind P X Y D N P2 X2 Y2 D2 N2 = 0 ↔ P2 < P ∨ (P = P2 ∧ (X2 < X ∨ (X = X2 ∧ ¬ Y < Y2 + N2))) := by
  unfold s_isBehind
  by_cases e : P = P2
  · rw [if_pos e]
    have hn : ¬ P2 < P := by rw [e, i32_lt]; omega
    by_cases a : X2 < X
    · rw [if_pos a]; exact ⟨fun _ => Or.inr ⟨e, Or.inl a⟩, fun _ => by decide⟩
    · rw [if_neg a]
      by_cases b : X = X2
      · rw [if_pos b]
        by_cases d : Y < Y2 + N2
        · rw [if_pos d]
          exact ⟨fun q => absurd rfl q, fun q => absurd q (by rintro (q | ⟨_, q | ⟨_, q⟩⟩); exact hn q; exact a q; exact q d)⟩
        · rw [if_neg d]; exact ⟨fun _ => Or.inr ⟨e, Or.inr ⟨b, d⟩⟩, fun _ => by decide⟩
      · rw [if_neg b]
        exact ⟨fun q => absurd rfl q, fun q => absurd q (by rintro (q | ⟨_, q | ⟨q, _⟩⟩); exact hn q; exact a q; exact b q)⟩
  · rw [if_neg e]
    by_cases a : P ≤ P2
    · rw [if_pos a]
      exact ⟨fun q => absurd rfl q, fun q => absurd q (by rintro (q | ⟨q, _⟩); rw [← nlt_le] at a; exact a q; exact e q)⟩
    · rw [if_neg a]
      exact ⟨fun _ => Or.inl (by rw [← nlt_le] at a; exact Classical.byContradiction a), fun _ => by decide⟩
set_option maxHeartbeats 2000000 in
/-- a story's piece: the class lets it sit where the reference lets it run -/
theorem sit_run {u : mS} {c : cfg} {n i P X Y N : Nat} {kd : Nat → Int32} (r0 : rI u) (hM : cM u c) (hok : cOK n kd c) (hi : i < 80) (hl : (c i).length ≤ 5) (hP : P < 12) (hX : X + 1 ≤ 8) (hY : Y + N ≤ 60) (hN : 1 ≤ N) {gw : Nat → Int32} (hg : eqR 80 gw (u.2 16) (80 * i)) : ¬ s_sitS (nI P) (nI X) (nI Y) 1 (nI N) (u.2 1 P) (u.2 22 i) (u.2 15 i) (pR u i) gw = 0 ↔ runX u (nI i) P X Y N := by
  have hr : rOK (P, X, Y, 1, N) := ⟨hP, hX, hY, Nat.le_refl 1, hN⟩
  have hr2 := (hok i).2.2.1
  have hlg := (hok i).2.2.2.1
  have hw := cM_stand hi hl (fun b => (hok b).2.1) hM P X Y 1 N
  obtain ⟨w22, wsl⟩ := hw i hi
  rw [cPush_a] at w22 wsl
  rw [List.length_cons] at w22
  have e22 := (hM i hi).1
  have hT := mTk0 hi hl hr hr2 wsl w22
  have w15 : (mStand u (nI i) P X Y 1 N).2 15 = u.2 15 := mStand_k2 _ _ _ _ _ _ _ (by decide) (by decide)
  have w1 : (mStand u (nI i) P X Y 1 N).2 1 = u.2 1 := mStand_k2 _ _ _ _ _ _ _ (by decide) (by decide)
  have w16 : (mStand u (nI i) P X Y 1 N).2 16 = u.2 16 := mStand_k2 _ _ _ _ _ _ _ (by decide) (by decide)
  have hco := bw_iff.mp (r0.2.2.2.2.1 i hi)
  have h80 : (80 : Int32).toInt = 80 := rfl
  rw [i0, h80] at hco
  have hFr : (mFrom (mStand u (nI i) P X Y 1 N) (nI i) (c i).length).toInt = frL (some P) (c i) := mFr hi (n := (c i).length + 1) (by omega) w22 (c i) P hr2 wsl.2 (by omega) hP wsl.1.1
  have h6 : ¬ u.2 22 i = 6 := fun q => by
    have q2 := congrArg Int32.toInt (e22.symm.trans q)
    rw [nI_toInt (by omega)] at q2
    have h6 : (6 : Int32).toInt = 6 := rfl
    omega
  generalize hw9 : mStand u (nI i) P X Y 1 N = w at *
  unfold runX bhR rX runG
  rw [hw9, nI_clamp (n := i) (by omega), nI_clamp (n := P) (by omega), w15, w1, w16, e22, nI_clamp (n := (c i).length) (by omega)]
  have hTb := tkL_b hr none (c i)
  cases hL : c i with
  | nil =>
    rw [hL] at hT hFr
    have hT : (mTakes w (nI i) (nI 0)).toInt = (N : Int) - 0 - 0 := hT
    have hF : (mFrom w (nI i) 0).toInt = 0 := hFr
    show ¬ s_sitS (nI P) (nI X) (nI Y) 1 (nI N) (u.2 1 P) (nI 0) (u.2 15 i) (pR u i) gw = 0 ↔ ¬ nI 0 = 6 ∧ (nI 0 ≤ 0 ∨ bhK u P X Y (6 * nI i + nI 0 - 1)) ∧ (¬ mTakes w (nI i) (nI 0) < 1 ∧ (nI 0 = 0 ∨ ¬ mTakes w (nI i) (nI 0 - 1) < 1)) ∧ ¬ u.2 15 i < mFrom w (nI i) 0 + mTakes w (nI i) (nI 0) ∧ ∀ t, t < (mTakes w (nI i) (nI 0)).toNatClampNeg → ¬ u.2 1 P < u.2 16 (80 * nI i + nI ((mFrom w (nI i) 0).toNatClampNeg + t)).toNatClampNeg
    unfold s_sitS
    rw [if_pos (by decide), bP_iff, canT_n (by decide) (by rw [nI_toInt (by omega)]; omega) hco hg, nI_toInt (by omega), i0, rX_n hi (by omega) (by omega), hF, hT]
    constructor
    · rintro ⟨-, q1, q2, q3⟩
      exact ⟨by decide, Or.inl (by decide), ⟨by rw [i32_lt, hT, i1]; omega, Or.inl rfl⟩, by omega, fun j hj => q3 j (by omega)⟩
    · rintro ⟨-, -, -, q1, q2⟩
      exact ⟨by decide, by omega, by omega, fun j hj => q2 j (by omega)⟩
  | cons q l =>
    rw [hL] at hT hFr hl hr2 hlg e22 wsl hTb w22
    rw [List.length_cons] at hl e22 w22 hT hFr
    have hq := hr2 q List.mem_cons_self
    have hq2 : ∀ x ∈ l, rOK x := fun x hx => hr2 x (List.mem_cons_of_mem _ hx)
    have usl := (hM i hi).2
    rw [hL] at usl
    have hT1 : (mTakes w (nI i) (nI l.length)).toInt = tkL (some P) q l := mTk1 hi (by omega) hq hq2 wsl.2 (n := l.length + 1 + 1) (by omega) w22 (by omega) hP wsl.1.1
    have uT : (mTakes u (nI i) (nI l.length)).toInt = tkL none q l := mTk0 hi (by omega) hq hq2 usl e22
    have uF : (mFrom u (nI i) l.length).toInt = frL (some q.1) l := mFr hi (n := l.length + 1) (by omega) e22 l q.1 hq2 usl.2 (by omega) hq.1 usl.1.1
    have b1 := tkL_b hq none l
    have b2 := frL_w l (some q.1) hq2
    have b3 := tkL_b hq (some P) l
    have p1 := frL_p l (some q.1) hlg.2
    -- the class's numbers
    have hcb : bw (u.2 22 i) 0 6 = true := by rw [e22]; exact bwN (by have h7 : (6 : Int32).toInt = 6 := rfl; rw [h7]; omega) (by omega)
    have hcn : u.2 22 i - 1 = nI l.length := by rw [e22, dn_e (by omega)]; rfl
    have hst : s_taken (u.2 22 i - 1) (u.2 22 i) (pR u i) = mTakes u (nI i) (nI l.length) := by
      rw [hcn]
      exact s_taken_m hi (by omega) (by rw [hcn]; exact bwN (by rw [nI_toInt (by omega)]; omega) (by omega))
    have hsd : (s_standing (u.2 22 i) (pR u i)).toInt = tkL none q l + frL (some q.1) l := by
      rw [s_standing_m hi hcb]
      unfold mStanding
      rw [nI_clamp (n := i) (by omega), e22, nI_clamp (by omega)]
      show (mFrom u (nI i) l.length + mTakes u (nI i) (nI l.length)).toInt = _
      rw [addI (by omega) (by omega), uF, uT]; omega
    rw [e22] at hst hcn hsd
    have eFr : frL (some P) (q :: l) = tkL (some P) q l + frL (some q.1) l := rfl
    have eT1 : tkL (some P) q l = tkL none q l - dfP P q.1 := by
      show (q.2.2.2.2 : Int) - pvT q l - dfP P q.1 = (q.2.2.2.2 : Int) - pvT q l - 0 - dfP P q.1
      omega
    have eT0 : tkL none (P, X, Y, 1, N) (q :: l) = (N : Int) - dfP q.1 P - 0 := rfl
    rw [eFr] at hFr
    rw [eT0] at hT
    have r0' : pR u i l.length 0 = nI q.1 := usl.1.1
    have r1' : pR u i l.length 1 = nI q.2.1 := usl.1.2.1
    have r2' : pR u i l.length 2 = nI q.2.2.1 := usl.1.2.2.1
    have r3' : pR u i l.length 3 = nI q.2.2.2.1 := usl.1.2.2.2.1
    have r4' : pR u i l.length 4 = nI q.2.2.2.2 := usl.1.2.2.2.2
    have hbk : bhK u P X Y (6 * nI i + nI (l.length + 1) - 1) ↔ ¬ s_isBehind (nI P) (nI X) (nI Y) 1 (nI N) (nI q.1) (nI q.2.1) (nI q.2.2.1) (nI q.2.2.2.1) (nI q.2.2.2.2) = 0 := by
      rw [bh_iff, add_sub1, dn_e (by omega), Nat.add_sub_cancel]
      unfold bhK
      rw [ix6, nI_clamp (by omega), usl.1.1, usl.1.2.1, usl.1.2.2.1, usl.1.2.2.2.2]
    rw [List.length_cons]
    unfold s_sitS
    rw [if_neg (by rw [i32_le, nI_toInt (by omega), i0]; omega), hst, hcn, nI_clamp (n := l.length) (by omega), r0', r1', r2', r3', r4']
    have h60 : ¬ nI (l.length + 1) = 6 := fun z => by rw [e22] at h6; exact h6 z
    have hz0 : ¬ nI (l.length + 1) ≤ 0 := by rw [i32_le, nI_toInt (by omega), i0]; omega
    have hz1 : ¬ nI (l.length + 1) = 0 := fun z => hz0 (by rw [z]; decide)
    have n1 : (nI N).toInt = (N : Int) := nI_toInt (by omega)
    have hN6 : N ≤ 60 := by omega
    have hle := hl
    have b4 : -300 ≤ frL (some q.1) l ∧ frL (some q.1) l ≤ 300 := by omega
    by_cases e : P = q.1
    · have ed : dfP q.1 P = 0 := by unfold dfP; exact if_pos e.symm
      have ed2 : dfP P q.1 = 0 := by unfold dfP; exact if_pos e
      rw [if_pos (by rw [e])]
      rw [ed] at hT
      rw [ed2] at eT1
      have s1 : (s_standing (nI (l.length + 1)) (pR u i) - 0).toInt = tkL none q l + frL (some q.1) l := by rw [subI (by rw [i0]; omega) (by rw [i0]; omega), i0, hsd]; omega
      have s2 : (nI N - 0).toInt = (N : Int) := by rw [subI (by rw [i0]; omega) (by rw [i0]; omega), i0, n1]; omega
      have s3 : (mTakes u (nI i) (nI l.length) - 0).toInt = tkL none q l := by rw [subI (by rw [i0]; omega) (by rw [i0]; omega), i0, uT]; omega
      constructor
      · intro z
        by_cases c1 : s_isBehind (nI P) (nI X) (nI Y) 1 (nI N) (nI q.1) (nI q.2.1) (nI q.2.2.1) (nI q.2.2.2.1) (nI q.2.2.2.2) = 0
        · rw [if_pos c1] at z; exact absurd rfl z
        · rw [if_neg c1] at z
          by_cases c2 : 1 ≤ mTakes u (nI i) (nI l.length) - 0
          · rw [if_pos c2, bP_iff, canT_n (by omega) (by omega) hco hg, s1, s2] at z
            rw [i32_le, s3, i1] at c2
            refine ⟨h60, Or.inr (hbk.mpr c1), ⟨by rw [i32_lt, hT, i1]; omega, Or.inr (by rw [i32_lt, hT1, i1]; omega)⟩, ?_⟩
            rw [rX_n hi (by omega) (by omega), hFr, hT, eT1]
            refine ⟨by omega, fun j hj => ?_⟩
            have z4 := z.2.2.2 j (by omega)
            rw [show tkL none q l - 0 + frL (some q.1) l = tkL none q l + frL (some q.1) l by omega]
            exact z4
          · rw [if_neg c2] at z; exact absurd rfl z
      · rintro ⟨-, z1, ⟨z2, z3⟩, z4⟩
        have c1 := hbk.mp (z1.resolve_left hz0)
        have z3 := z3.resolve_left hz1
        rw [i32_lt, hT1, i1] at z3
        rw [i32_lt, hT, i1] at z2
        rw [rX_n hi (by omega) (by omega), hFr, hT, eT1] at z4
        rw [if_neg c1, if_pos (by rw [i32_le, s3, i1]; omega), bP_iff, canT_n (by omega) (by omega) hco hg, s1, s2]
        refine ⟨by omega, by omega, by omega, fun j hj => ?_⟩
        have z5 := z4.2 j (by omega)
        rw [show tkL none q l - 0 + frL (some q.1) l = tkL none q l + frL (some q.1) l by omega] at z5
        exact z5
    · have ed : dfP q.1 P = 1 := by unfold dfP; exact if_neg (fun h => e h.symm)
      have ed2 : dfP P q.1 = 1 := by unfold dfP; exact if_neg e
      rw [if_neg (fun h => e ((nI_inj (by omega) (by have := hq.1; omega)).mp h))]
      rw [ed] at hT
      rw [ed2] at eT1
      have s1 : (s_standing (nI (l.length + 1)) (pR u i) - 1).toInt = tkL none q l + frL (some q.1) l - 1 := by rw [subI (by rw [i1]; omega) (by rw [i1]; omega), i1, hsd]
      have s2 : (nI N - 1).toInt = (N : Int) - 1 := by rw [subI (by rw [i1]; omega) (by rw [i1]; omega), i1, n1]
      have s3 : (mTakes u (nI i) (nI l.length) - 1).toInt = tkL none q l - 1 := by rw [subI (by rw [i1]; omega) (by rw [i1]; omega), i1, uT]
      constructor
      · intro z
        by_cases c1 : s_isBehind (nI P) (nI X) (nI Y) 1 (nI N) (nI q.1) (nI q.2.1) (nI q.2.2.1) (nI q.2.2.2.1) (nI q.2.2.2.2) = 0
        · rw [if_pos c1] at z; exact absurd rfl z
        · rw [if_neg c1] at z
          by_cases c2 : 1 ≤ mTakes u (nI i) (nI l.length) - 1
          · rw [if_pos c2, bP_iff, canT_n (by omega) (by omega) hco hg, s1, s2] at z
            rw [i32_le, s3, i1] at c2
            refine ⟨h60, Or.inr (hbk.mpr c1), ⟨by rw [i32_lt, hT, i1]; omega, Or.inr (by rw [i32_lt, hT1, i1]; omega)⟩, ?_⟩
            rw [rX_n hi (by omega) (by omega), hFr, hT, eT1]
            refine ⟨by omega, fun j hj => ?_⟩
            have z4 := z.2.2.2 j (by omega)
            rw [show tkL none q l - 1 + frL (some q.1) l = tkL none q l + frL (some q.1) l - 1 by omega]
            exact z4
          · rw [if_neg c2] at z; exact absurd rfl z
      · rintro ⟨-, z1, ⟨z2, z3⟩, z4⟩
        have c1 := hbk.mp (z1.resolve_left hz0)
        have z3 := z3.resolve_left hz1
        rw [i32_lt, hT1, i1] at z3
        rw [i32_lt, hT, i1] at z2
        rw [rX_n hi (by omega) (by omega), hFr, hT, eT1] at z4
        rw [if_neg c1, if_pos (by rw [i32_le, s3, i1]; omega), bP_iff, canT_n (by omega) (by omega) hco hg, s1, s2]
        refine ⟨by omega, by omega, by omega, fun j hj => ?_⟩
        have z5 := z4.2 j (by omega)
        rw [show tkL none q l - 1 + frL (some q.1) l = tkL none q l + frL (some q.1) l - 1 by omega] at z5
        exact z5
theorem leastN {p : Nat → Prop} {M : Nat} (h : ∃ q, q < M ∧ p q) : ∃ q, q < M ∧ p q ∧ ∀ j, j < q → ¬ p j := by
  have key : ∀ k, (∃ q, q < k ∧ q < M ∧ p q) → ∃ q, q < M ∧ p q ∧ ∀ j, j < q → ¬ p j := by
    intro k
    induction k with
    | zero => rintro ⟨q, h1, -⟩; omega
    | succ k ih =>
      rintro ⟨q, h1, h2, h3⟩
      by_cases hk : ∃ q, q < k ∧ q < M ∧ p q
      · exact ih hk
      · exact ⟨q, h2, h3, fun j hj hc => hk ⟨j, by omega, by omega, hc⟩⟩
  obtain ⟨q0, h1, h2⟩ := h
  exact key (q0 + 1) ⟨q0, by omega, h1, h2⟩
/-- the first printing is of the least day on which the item was on a plate -/
def foI (u : mS) : Prop := ∀ i, i < 80 → (u.2 47 (5 * i) = (-1) ∧ ∀ d, d < 400 → u.2 48 (80 * d + i) = 0) ∨ ∃ d0, d0 ≤ (u.1 38).toNatClampNeg ∧ u.2 47 (5 * i) = nI d0 ∧ ¬ u.2 48 (80 * d0 + i) = 0 ∧ ∀ d, d < d0 → u.2 48 (80 * d + i) = 0
theorem mWas_i {u : mS} {i : Nat} (hi : i < 80) : ∀ n, n ≤ 400 → (mWas u (nI i) n = true ↔ ∃ d, d < n ∧ ¬ u.2 48 (80 * d + i) = 0)
  | 0, _ => ⟨fun h => absurd (show false = true from h) (by decide), fun ⟨d, h, _⟩ => absurd h (Nat.not_lt_zero _)⟩
  | n + 1, h => by
    have ih := mWas_i (u := u) hi n (by omega)
    unfold mWas
    rw [Bool.or_eq_true, ih, i80 (by omega) hi]
    constructor
    · rintro (⟨d, d1, d2⟩ | h2)
      · exact ⟨d, by omega, d2⟩
      · refine ⟨n, Nat.lt_succ_self _, fun q => ?_⟩
        rw [decide_eq_true q] at h2
        exact absurd h2 (by decide)
    · rintro ⟨d, d1, d2⟩
      by_cases e : d = n
      · rw [e] at d2
        exact Or.inr (by rw [decide_eq_false d2]; rfl)
      · exact Or.inl ⟨d, by omega, d2⟩
theorem day_n {u : mS} (h : rI u) : ∃ D : Nat, D ≤ 399 ∧ u.1 38 = nI D ∧ (u.1 38).toNatClampNeg = D := by
  obtain ⟨D, hD, -, eD⟩ := exN h.2.1 (by decide)
  have h9 : (399 : Int32).toInt = 399 := rfl
  exact ⟨D, by omega, eD, by rw [eD, nI_clamp (by omega)]⟩
theorem bw_day {d D : Nat} (hd : d < 1000) (hD : D ≤ 399) : bw (nI d) 0 (nI D - 1) = true ↔ d < D := by
  rw [bw_iff, i0, nI_toInt (by omega), subI (by rw [i1, nI_toInt (by omega)]; omega) (by rw [i1, nI_toInt (by omega)]; omega), nI_toInt (by omega), i1]
  omega
theorem bw_m1 {x : Int32} : ¬ bw (-1) 0 x = true := fun h => by
  have q := (bw_iff.mp h).1
  exact absurd q (by decide)
/-- printed ahead: by the days, and by the first printing -/
theorem was_bw {u : mS} {i : Nat} (r : rI u) (hf : foI u) (hi : i < 80) : mWas u (nI i) (u.1 38).toNatClampNeg = true ↔ bw (u.2 47 (5 * i)) 0 (u.1 38 - 1) = true := by
  obtain ⟨D, hD, eD, eN⟩ := day_n r
  rw [eN, mWas_i hi D (by omega), eD]
  rcases hf i hi with ⟨h1, h2⟩ | ⟨d0, h1, h2, h3, h4⟩
  · rw [h1]
    exact ⟨fun ⟨d, d1, d2⟩ => absurd (h2 d (by omega)) d2, fun q => absurd q bw_m1⟩
  · rw [h2, bw_day (by omega) hD]
    refine ⟨fun ⟨d, d1, d2⟩ => ?_, fun q => ⟨d0, q, h3⟩⟩
    exact Nat.lt_of_not_le (fun q => d2 (h4 d (by omega)))
theorem mPr_f {u : mS} {i w : Nat} (r : rI u) (hi : i < (u.1 3).toNatClampNeg) (hw : w < 5) (h : ¬ u.2 47 (5 * i) < 0) : mPr u (nI i) (nI w) = u.2 47 (5 * i + w) := by
  have hn := n80 r
  refine (mPr_eq ?_).symm
  unfold mPrR
  rw [if_pos (itI r hi), if_pos (bwN (by have h4 : (4 : Int32).toInt = 4 := rfl; rw [h4]; omega) (by omega)), i50 (by omega), if_neg h, i5 (by omega) hw]
theorem mPr_n {u : mS} {i : Nat} (r : rI u) (hi : i < (u.1 3).toNatClampNeg) (h : u.2 47 (5 * i) < 0) : mPr u (nI i) 0 = u.1 38 ∨ mPr u (nI i) 0 = (-1) := by
  have hn := n80 r
  by_cases q : ∃ p, p < 12 ∧ prC u (nI i) p = true
  · obtain ⟨p, p1, p2, p3⟩ := leastN q
    refine Or.inl (mPr_eq ?_).symm
    unfold mPrR
    rw [if_pos (itI r hi), if_pos (by decide), i50 (by omega), if_pos h]
    exact Or.inl ⟨p, p1, p2, fun j hj => by have z := p3 j hj; exact Bool.eq_false_iff.mpr z, by unfold mPrV; rw [if_pos rfl]⟩
  · refine Or.inr (mPr_eq ?_).symm
    unfold mPrR
    rw [if_pos (itI r hi), if_pos (by decide), i50 (by omega), if_pos h]
    exact Or.inr ⟨fun j hj => Bool.eq_false_iff.mpr (fun z => q ⟨j, hj, z⟩), rfl⟩
theorem le_rf (x : Int32) : x ≤ x := by rw [i32_le]; omega
/-- a notice: the class lets it sit where the reference lets it mend -/
theorem sit_mend {u : mS} {i o : Nat} {p1 p2 : Int32} {g gm : Nat → Int32} (r : rI u) (hf : foI u) (hi : i < 80) (ho : o < (u.1 3).toNatClampNeg) (e9 : u.2 9 i = nI o) (hg : eqR 5 g (u.2 47) (5 * i)) (hm : eqR 5 gm (u.2 47) (5 * o)) : ¬ s_sitN p1 p2 (u.1 38) g gm = 0 ↔ ¬ mMend u (nI i) p1 p2 = 0 := by
  have hn := n80 r
  have g0 : g (0 : Int32).toNatClampNeg = u.2 47 (5 * i) := hg 0 (by decide)
  have m0 : gm (0 : Int32).toNatClampNeg = u.2 47 (5 * o) := hm 0 (by decide)
  have m2 : gm (2 : Int32).toNatClampNeg = u.2 47 (5 * o + 2) := hm 2 (by decide)
  have m3 : gm (3 : Int32).toNatClampNeg = u.2 47 (5 * o + 3) := hm 3 (by decide)
  have hw := was_bw r hf hi
  unfold s_sitN mMend
  rw [g0, m0, m2, m3, nI_clamp (n := i) (by omega), e9]
  rcases hf o (by omega) with ⟨h1, h2⟩ | ⟨d0, h1, h2, h3, h4⟩
  · have hneg : u.2 47 (5 * o) < 0 := by rw [h1]; decide
    have z1 : (if bw (u.2 47 (5 * i)) 0 (u.1 38 - 1) = true then (0 : Int32) else (if bw (u.2 47 (5 * o)) 0 (u.1 38 - 1) = true then (if p1 = u.2 47 (5 * o + 2) then (if p2 < u.2 47 (5 * o + 3) then 0 else 1) else (if p1 ≤ u.2 47 (5 * o + 2) then 0 else 1)) else 0)) = 0 := by
      rw [h1]
      by_cases q : bw (u.2 47 (5 * i)) 0 (u.1 38 - 1) = true
      · rw [if_pos q]
      · rw [if_neg q, if_neg bw_m1]
    rw [z1]
    rcases mPr_n r ho hneg with q | q
    · rw [q]
      by_cases z : u.1 38 < 0
      · rw [if_pos z]
      · rw [if_neg z, if_pos (le_rf _)]
    · rw [q, if_pos (by decide)]
  · obtain ⟨D, hD, eD, eN⟩ := day_n r
    have hnn : ¬ u.2 47 (5 * o) < 0 := by rw [h2]; exact nIpos (by omega)
    have q0 : mPr u (nI o) 0 = nI d0 := by have z := mPr_f r ho (w := 0) (by decide) hnn; rw [← h2]; exact z
    have q2 : mPr u (nI o) 2 = u.2 47 (5 * o + 2) := mPr_f r ho (w := 2) (by decide) hnn
    have q3 : mPr u (nI o) 3 = u.2 47 (5 * o + 3) := mPr_f r ho (w := 3) (by decide) hnn
    rw [q0, q2, q3, h2, if_neg (nIpos (by omega))]
    by_cases a : d0 < D
    · have b1 : bw (nI d0) 0 (u.1 38 - 1) = true := by rw [eD]; exact (bw_day (by omega) hD).mpr a
      have b2 : ¬ u.1 38 ≤ nI d0 := by rw [eD, nle (by omega) (by omega)]; omega
      rw [if_pos b1, if_neg b2]
      by_cases c : bw (u.2 47 (5 * i)) 0 (u.1 38 - 1) = true
      · rw [if_pos c, if_pos (hw.mpr c)]
      · rw [if_neg c, if_neg (fun z => c (hw.mp z))]
        by_cases e : p1 = u.2 47 (5 * o + 2)
        · have hlt : ¬ u.2 47 (5 * o + 2) < p1 := by rw [e, i32_lt]; omega
          rw [if_pos e, if_neg hlt, if_pos e]
        · rw [if_neg e, if_neg e]
          by_cases l : p1 ≤ u.2 47 (5 * o + 2)
          · rw [if_pos l, if_neg (fun z => nlt_le.mpr l z)]
          · rw [if_neg l, if_pos (Classical.byContradiction (fun z => l (nlt_le.mp z)))]
    · have b1 : ¬ bw (nI d0) 0 (u.1 38 - 1) = true := by rw [eD, bw_day (by omega) hD]; exact a
      have b2 : u.1 38 ≤ nI d0 := by rw [eD, nle (by omega) (by omega)]; omega
      rw [if_neg b1, if_pos b2, ite_self]
/-- what the item itself asks -/
def sitP (u : mS) (i : Nat) (p1 p2 p3 H : Int32) : Prop := (u.2 4 i = 0 → runX u (nI i) p1.toNatClampNeg p2.toNatClampNeg p3.toNatClampNeg H.toNatClampNeg) ∧ (u.2 4 i = 3 → p1 = u.2 11 i ∧ p2 = u.2 12 i ∧ p3 = u.2 13 i) ∧ (u.2 4 i = 5 → ¬ mMend u (nI i) p1 p2 = 0)
def okU (u : mS) (i : Nat) (p1 p2 p3 p4 : Int32) : Prop := ¬ u.1 28 = 300 ∧ rmP u i ∧ mFreeP u p1 p2 p3 (cpW u i p4) (cpH u i p4) ∧ sitP u i p1 p2 p3 (cpH u i p4)
theorem cpW_0 {u : mS} {i : Nat} {p : Int32} (h : u.2 4 i = 0 ∨ u.2 4 i = 4 ∨ u.2 4 i = 5) : cpW u i p = 1 := by
  unfold cpW
  rcases h with h | h | h <;> rw [h, if_neg (by decide), if_neg (by decide)]
theorem cpW_1 {u : mS} {i : Nat} {p : Int32} (h : u.2 4 i = 1 ∨ u.2 4 i = 3) : cpW u i p = if p = 0 then u.2 7 i else 0 := by
  unfold cpW
  rw [if_pos h]
theorem cpW_2 {u : mS} {i : Nat} {p : Int32} (h : u.2 4 i = 2) : cpW u i p = if bw p 0 (u.2 17 i - 1) = true then u.2 18 (4 * i + p.toNatClampNeg) else 0 := by
  unfold cpW
  rw [h, if_neg (by decide), if_pos rfl]
theorem cpH_0 {u : mS} {i : Nat} {p : Int32} (h : u.2 4 i = 0) : cpH u i p = if bw p 1 60 = true then p else 0 := by
  unfold cpH
  rw [h, if_pos rfl]
theorem cpH_1 {u : mS} {i : Nat} {p : Int32} (h : u.2 4 i = 1 ∨ u.2 4 i = 3 ∨ u.2 4 i = 5) : cpH u i p = if p = 0 then u.2 8 i else 0 := by
  unfold cpH
  rcases h with h | h | h <;> rw [h, if_neg (by decide), if_neg (by decide), if_neg (by decide)]
theorem cpH_2 {u : mS} {i : Nat} {p : Int32} (h : u.2 4 i = 2) : cpH u i p = if bw p 0 (u.2 17 i - 1) = true then u.2 19 (4 * i + p.toNatClampNeg) else 0 := by
  unfold cpH
  rw [h, if_neg (by decide), if_pos rfl]
theorem cpH_4 {u : mS} {i : Nat} {p : Int32} (h : u.2 4 i = 4) : cpH u i p = if bw p (u.2 5 i) (u.2 6 i) = true then p else 0 := by
  unfold cpH
  rw [h, if_neg (by decide), if_neg (by decide), if_pos rfl]
theorem free_h0 {u : mS} {p c l w : Int32} : ¬ mFreeP u p c l w 0 := fun h => absurd h.2.2.1 (by decide)
theorem bw_1 {x lo hi : Int32} (h : bw x lo hi = true) (hl : 1 ≤ lo.toInt) : ¬ x < 1 := by
  have q := (bw_iff.mp h).1
  rw [i32_lt, i1]; omega
theorem rm_0 {u : mS} {i : Nat} (h : u.2 4 i = 0) (hc : bw (u.2 22 i) 0 6 = true) : rmP u i ↔ ¬ u.2 22 i = 6 := by
  unfold rmP
  rw [if_pos h]
  obtain ⟨a, b, c⟩ := nI_of_bw hc
  have h6 : (6 : Int32).toInt = 6 := rfl
  constructor
  · intro q e
    rw [e] at q
    exact absurd q (by decide)
  · intro q
    have q2 : ¬ (u.2 22 i).toInt = 6 := fun e => q (Int32.toInt_inj.mp (by rw [h6]; exact e))
    omega
theorem rm_1 {u : mS} {i : Nat} (h : ¬ u.2 4 i = 0) (hc : bw (u.2 22 i) 0 6 = true) : rmP u i ↔ u.2 22 i = 0 := by
  unfold rmP
  rw [if_neg h]
  obtain ⟨a, b, c⟩ := nI_of_bw hc
  constructor
  · intro q
    rw [a, show (u.2 22 i).toNatClampNeg = 0 by omega]; rfl
  · intro q
    rw [q]; decide
theorem ok0 {u : mS} {i : Nat} {p1 p2 p3 p4 : Int32} (r : rI u) (hi : i < (u.1 3).toNatClampNeg) (hc : bw (u.2 22 i) 0 6 = true) (hk : u.2 4 i = 0) : okP0 u (nI i) p1 p2 p3 p4 ↔ okU u i p1 p2 p3 p4 := by
  have hn := n80 r
  unfold okP0 okU sitP
  rw [cpW_0 (Or.inl hk), cpH_0 hk, rm_0 hk hc]
  constructor
  · rintro ⟨-, h1, -, h2, -, h3, h4⟩
    have h5 := h3.2.2.1
    rw [if_pos h5]
    refine ⟨h1, ?_, h3, fun _ => h4, fun q => absurd (hk.symm.trans q) (by decide), fun q => absurd (hk.symm.trans q) (by decide)⟩
    have z := h4.1
    rw [nI_clamp (by omega)] at z
    exact z
  · rintro ⟨h1, h2, h3, h4, -, -⟩
    by_cases h5 : bw p4 1 60 = true
    · rw [if_pos h5] at h3 h4
      exact ⟨itI r hi, h1, trivial, bw_1 h5 (by decide), trivial, h3, h4 hk⟩
    · rw [if_neg h5] at h3; exact absurd h3 free_h0
theorem ok1 {u : mS} {i : Nat} {p1 p2 p3 p4 : Int32} (r : rI u) (hi : i < (u.1 3).toNatClampNeg) (hc : bw (u.2 22 i) 0 6 = true) (hk : u.2 4 i = 1) : okP1 u (nI i) p1 p2 p3 p4 ↔ okU u i p1 p2 p3 p4 := by
  have hn := n80 r
  unfold okP1 okU sitP
  rw [cpW_1 (Or.inl hk), cpH_1 (Or.inl hk), rm_1 (by rw [hk]; decide) hc, nI_clamp (n := i) (by omega)]
  constructor
  · rintro ⟨-, h1, h0, h2, h6, h3, -⟩
    rw [if_pos h0, if_pos h0]
    exact ⟨h1, h6, h3, fun q => absurd (hk.symm.trans q) (by decide), fun q => absurd (hk.symm.trans q) (by decide), fun q => absurd (hk.symm.trans q) (by decide)⟩
  · rintro ⟨h1, h2, h3, -⟩
    by_cases h5 : p4 = 0
    · rw [if_pos h5, if_pos h5] at h3
      exact ⟨itI r hi, h1, h5, bw_1 h3.2.2.1 (by decide), h2, h3, trivial⟩
    · rw [if_neg h5, if_neg h5] at h3; exact absurd h3 free_h0
theorem ok3 {u : mS} {i : Nat} {p1 p2 p3 p4 : Int32} (r : rI u) (hi : i < (u.1 3).toNatClampNeg) (hc : bw (u.2 22 i) 0 6 = true) (hk : u.2 4 i = 3) : okP3 u (nI i) p1 p2 p3 p4 ↔ okU u i p1 p2 p3 p4 := by
  have hn := n80 r
  unfold okP3 okU sitP
  rw [cpW_1 (Or.inr hk), cpH_1 (Or.inr (Or.inl hk)), rm_1 (by rw [hk]; decide) hc, nI_clamp (n := i) (by omega)]
  constructor
  · rintro ⟨-, h1, h0, h2, h6, h3, h7⟩
    rw [if_pos h0, if_pos h0]
    exact ⟨h1, h6, h3, fun q => absurd (hk.symm.trans q) (by decide), fun q => h7, fun q => absurd (hk.symm.trans q) (by decide)⟩
  · rintro ⟨h1, h2, h3, -, h7, -⟩
    by_cases h5 : p4 = 0
    · rw [if_pos h5, if_pos h5] at h3
      exact ⟨itI r hi, h1, h5, bw_1 h3.2.2.1 (by decide), h2, h3, h7 hk⟩
    · rw [if_neg h5, if_neg h5] at h3; exact absurd h3 free_h0
theorem ok5 {u : mS} {i : Nat} {p1 p2 p3 p4 : Int32} (r : rI u) (hi : i < (u.1 3).toNatClampNeg) (hc : bw (u.2 22 i) 0 6 = true) (hk : u.2 4 i = 5) : okP5 u (nI i) p1 p2 p3 p4 ↔ okU u i p1 p2 p3 p4 := by
  have hn := n80 r
  unfold okP5 okU sitP
  rw [cpW_0 (Or.inr (Or.inr hk)), cpH_1 (Or.inr (Or.inr hk)), rm_1 (by rw [hk]; decide) hc, nI_clamp (n := i) (by omega)]
  constructor
  · rintro ⟨-, h1, h0, h2, h6, h3, h7⟩
    rw [if_pos h0]
    exact ⟨h1, h6, h3, fun q => absurd (hk.symm.trans q) (by decide), fun q => absurd (hk.symm.trans q) (by decide), fun q => h7⟩
  · rintro ⟨h1, h2, h3, -, -, h7⟩
    by_cases h5 : p4 = 0
    · rw [if_pos h5] at h3
      exact ⟨itI r hi, h1, h5, bw_1 h3.2.2.1 (by decide), h2, h3, h7 hk⟩
    · rw [if_neg h5] at h3; exact absurd h3 free_h0
theorem ok4 {u : mS} {i : Nat} {p1 p2 p3 p4 : Int32} (r : rI u) (hi : i < (u.1 3).toNatClampNeg) (hc : bw (u.2 22 i) 0 6 = true) (hk : u.2 4 i = 4) : okP4 u (nI i) p1 p2 p3 p4 ↔ okU u i p1 p2 p3 p4 := by
  have hn := n80 r
  unfold okP4 okU sitP
  rw [cpW_0 (Or.inr (Or.inl hk)), cpH_4 hk, rm_1 (by rw [hk]; decide) hc, nI_clamp (n := i) (by omega)]
  constructor
  · rintro ⟨-, h1, -, h2, h6, h3, h7⟩
    rw [if_pos h7]
    exact ⟨h1, h6, h3, fun q => absurd (hk.symm.trans q) (by decide), fun q => absurd (hk.symm.trans q) (by decide), fun q => absurd (hk.symm.trans q) (by decide)⟩
  · rintro ⟨h1, h2, h3, -⟩
    by_cases h5 : bw p4 (u.2 5 i) (u.2 6 i) = true
    · rw [if_pos h5] at h3
      exact ⟨itI r hi, h1, trivial, bw_1 h3.2.2.1 (by decide), h2, h3, h5⟩
    · rw [if_neg h5] at h3; exact absurd h3 free_h0
theorem i4k {u : mS} {i : Nat} {p : Int32} (r : rI u) (hi : i < 80) (h : bw p 0 (u.2 17 i - 1) = true) : (4 * nI i + p).toNatClampNeg = 4 * i + p.toNatClampNeg := by
  obtain ⟨s1, s2, s3⟩ := nI_of_bw (r.2.2.2.2.2.1 i hi)
  have h4 : (4 : Int32).toInt = 4 := rfl
  have q := bw_iff.mp h
  rw [i0, subI (by rw [i1]; omega) (by rw [i1]; omega), i1] at q
  obtain ⟨t, ht⟩ : ∃ t : Nat, p.toInt = (t : Int) := ⟨p.toInt.toNat, by omega⟩
  have e : p = nI t := Int32.toInt_inj.mp (by rw [nI_toInt (by omega)]; exact ht)
  rw [e, show (4 : Int32) = nI 4 from rfl, pk_mul, nI_add, nI_clamp (by omega), nI_clamp (by omega)]
theorem ok2 {u : mS} {i : Nat} {p1 p2 p3 p4 : Int32} (r : rI u) (hi : i < (u.1 3).toNatClampNeg) (hc : bw (u.2 22 i) 0 6 = true) (hk : u.2 4 i = 2) : okP2 u (nI i) p1 p2 p3 p4 ↔ okU u i p1 p2 p3 p4 := by
  have hn := n80 r
  unfold okP2 okU sitP
  rw [cpW_2 hk, cpH_2 hk, rm_1 (by rw [hk]; decide) hc, nI_clamp (n := i) (by omega)]
  constructor
  · rintro ⟨-, h1, h0, h2, h6, h3, -⟩
    rw [i4k r (by omega) h0] at h3
    rw [if_pos h0, if_pos h0]
    exact ⟨h1, h6, h3, fun q => absurd (hk.symm.trans q) (by decide), fun q => absurd (hk.symm.trans q) (by decide), fun q => absurd (hk.symm.trans q) (by decide)⟩
  · rintro ⟨h1, h2, h3, -⟩
    by_cases h5 : bw p4 0 (u.2 17 i - 1) = true
    · rw [if_pos h5, if_pos h5] at h3
      rw [i4k r (by omega) h5]
      exact ⟨itI r hi, h1, h5, bw_1 h3.2.2.1 (by decide), h2, h3, trivial⟩
    · rw [if_neg h5, if_neg h5] at h3; exact absurd h3 free_h0
/-- where no item is, no plate tells of one -/
def plZ (u : mS) : Prop := ∀ p, p < 12 → u.2 40 p = 1 → ∀ i, (u.1 3).toNatClampNeg ≤ i → i < 80 → u.2 45 (80 * p + i) = (-1)
/-- the reference's whole invariant, with its history -/
def uI (u : mS) (es : List hE) (c : cfg) : Prop := rI u ∧ kB u ∧ mH u es c ∧ gH u es c (u.2 2) ∧ nwI u ∧ plI u ∧ sdI u ∧ plZ u ∧ foI u ∧ rvI u ∧ bw (u.1 39) 0 7 = true
theorem uI_M {u : mS} {es : List hE} {c : cfg} (h : uI u es c) : mInv u := ⟨h.1, h.2.1, es, c, h.2.2.1⟩
theorem uI_ok {u : mS} {es : List hE} {c : cfg} (h : uI u es c) : cOK (u.1 3).toNatClampNeg (u.2 4) c := hOK_c h.2.2.1.2.2.2.1
theorem uI_g {u : mS} {es : List hE} {c : cfg} (h : uI u es c) : gOK u c := by
  have hok := uI_ok h
  refine ⟨h.1, gH_agr h.2.2.2.1, fun a r hr => ⟨(hok a).2.2.1 r hr, ?_⟩, h.2.2.1.2.2.2.2.2, fun a ha => (hok a).1 ha, fun a => (hok a).2.1⟩
  by_cases q : a < (u.1 3).toNatClampNeg
  · exact (gH_cX h.2.2.2.1 a q).1 r hr
  · rw [(hok a).1 (by omega)] at hr
    exact absurd hr List.not_mem_nil
theorem uI_pc {u : mS} {es : List hE} {c : cfg} (h : uI u es c) : pcI u := fun i hi t ht => by
  have g := uI_g h
  have hn := n80 h.1
  obtain ⟨r, r1, r2⟩ := pc_r g (by omega) ht
  obtain ⟨k1, k2⟩ := g.2.2.1 i r r1
  exact ⟨r.1, r.2.1, r.2.2.1, r.2.2.2.1, r.2.2.2.2, rIn_of k1 k2, r2⟩
theorem uI_ne {u : mS} {es : List hE} {c : cfg} (h : uI u es c) : neI u := fun j hj q => by
  rcases (gH_agr h.2.2.2.1).2.1 j hj with z | z | ⟨a, ha, z⟩
  · rw [z] at q; exact absurd q (by decide)
  · rw [z] at q; exact absurd q (by decide)
  · rw [z] at q
    have q2 := congrArg Int32.toInt q
    rw [nI_toInt (by omega)] at q2
    have e1 : (-1 : Int32).toInt = -1 := rfl
    omega
theorem uI_es {u : mS} {es : List hE} {c : cfg} (h : uI u es c) (h0 : u.1 28 ≤ 0) : es = [] := by
  have a1 := h.2.2.1.1
  rw [h.2.2.1.2.1, i32_le, nI_toInt (by omega), i0] at h0
  exact List.length_eq_zero_iff.mp (by omega)
theorem uI_br {u : mS} {es : List hE} {c : cfg} (h : uI u es c) : u.1 28 ≤ 0 → ∀ j, j < 5760 → u.2 2 j = (-2) := fun h0 => by
  have e := uI_es h h0
  have g := h.2.2.2.1
  rw [e] at g
  exact g.2
theorem uI_fi {u : mS} {es : List hE} {c : cfg} (h : uI u es c) : fiI u := fun i hi => by
  rcases h.2.2.2.2.2.2.2.2.1 i hi with ⟨h1, -⟩ | ⟨d0, h1, h2, -⟩
  · rw [h1]; decide
  · rw [h2, i32_lt]
    have hd := h.1.2.1
    obtain ⟨a, b, e⟩ := nI_of_bw hd
    have h9 : (399 : Int32).toInt = 399 := rfl
    have e1 : (-1 : Int32).toInt = -1 := rfl
    rw [nI_toInt (by omega), e1]; omega
theorem uI_n {u : mS} (h : rI u) : u.1 3 = nI (u.1 3).toNatClampNeg := (nI_of_bw h.1).1
/-- rows that the invariant reads are the same -/
theorem uI_c {u w : mS} {es : List hE} {c : cfg} (h : uI u es c) (h1 : ∀ k, k ≠ 49 → k ≠ 50 → k ≠ 51 → w.1 k = u.1 k) (hr : ∀ k, k = 0 ∨ k = 2 ∨ k = 4 ∨ k = 10 ∨ k = 11 ∨ (22 ≤ k ∧ k ≤ 37) ∨ 40 ≤ k → w.2 k = u.2 k) (hw : rI w) (hn : nwI w) (hv : rvI w) : uI w es c := by
  obtain ⟨a1, a2, a3, a4, a5, a6, a7, a8, a9, a10, a11⟩ := h
  have e3 := h1 3 (by decide) (by decide) (by decide)
  refine ⟨hw, kB_c a2 (hr 4 (by omega)) (hr 10 (by omega)), mH_c a3 e3 (h1 28 (by decide) (by decide) (by decide)) (h1 36 (by decide) (by decide) (by decide)) (hr 4 (by omega)) (fun k k1 k2 => hr k (by omega)), ?_, hn, plI_c a6 (fun r r1 r2 => hr r (by omega)), ?_, ?_, ?_, hv, by rw [h1 39 (by decide) (by decide) (by decide)]; exact a11⟩
  · rw [hr 2 (by omega)]
    exact gH_e e3 (hr 0 (by omega)) (hr 4 (by omega)) (hr 11 (by omega)) a4
  · unfold sdI at a7 ⊢
    rw [hr 40 (by omega), hr 4 (by omega), hr 45 (by omega), hr 11 (by omega)]; exact a7
  · unfold plZ at a8 ⊢
    rw [e3, hr 40 (by omega), hr 45 (by omega)]; exact a8
  · unfold foI at a9 ⊢
    rw [h1 38 (by decide) (by decide) (by decide), hr 47 (by omega), hr 48 (by omega)]; exact a9
theorem rvI_c {u w : mS} (h : rvI u) (hr : w.2 20 = u.2 20) : rvI w := by
  unfold rvI at h ⊢
  rw [hr]; exact h
theorem nwI_c {u w : mS} (h : nwI u) (h3 : w.1 3 = u.1 3) (h16 : ∀ i t, (u.1 3).toNatClampNeg ≤ i → i < 80 → t < 80 → w.2 16 (80 * i + t) = u.2 16 (80 * i + t)) (h18 : ∀ i t, (u.1 3).toNatClampNeg ≤ i → i < 80 → t < 4 → w.2 18 (4 * i + t) = u.2 18 (4 * i + t) ∧ w.2 19 (4 * i + t) = u.2 19 (4 * i + t)) (h21 : ∀ i t, (u.1 3).toNatClampNeg ≤ i → i < 80 → t < 10 → w.2 21 (10 * i + t) = u.2 21 (10 * i + t)) (h47 : ∀ i t, (u.1 3).toNatClampNeg ≤ i → i < 80 → t < 5 → w.2 47 (5 * i + t) = u.2 47 (5 * i + t)) (h48 : ∀ i t, (u.1 3).toNatClampNeg ≤ i → i < 80 → t < 400 → w.2 48 (80 * t + i) = u.2 48 (80 * t + i)) : nwI w := by
  intro i hi h8
  rw [h3] at hi
  obtain ⟨q1, q2, q3, q4, q5⟩ := h i hi h8
  exact ⟨fun t ht => (h47 i t hi h8 ht).trans (q1 t ht), fun t ht => (h16 i t hi h8 ht).trans (q2 t ht), fun t ht => ⟨(h18 i t hi h8 ht).1.trans (q3 t ht).1, (h18 i t hi h8 ht).2.trans (q3 t ht).2⟩, fun t ht => (h21 i t hi h8 ht).trans (q4 t ht), fun t ht => (h48 i t hi h8 ht).trans (q5 t ht)⟩
theorem nwI_e {u w : mS} (h : nwI u) (h3 : w.1 3 = u.1 3) (hr : ∀ r, r = 16 ∨ r = 18 ∨ r = 19 ∨ r = 21 ∨ r = 47 ∨ r = 48 → w.2 r = u.2 r) : nwI w := nwI_c h h3 (fun i t _ _ _ => by rw [hr 16 (by omega)]) (fun i t _ _ _ => by rw [hr 18 (by omega), hr 19 (by omega)]; exact ⟨rfl, rfl⟩) (fun i t _ _ _ => by rw [hr 21 (by omega)]) (fun i t _ _ _ => by rw [hr 47 (by omega)]) (fun i t _ _ _ => by rw [hr 48 (by omega)])
/-- line -/
theorem uI_line {u : mS} {es : List hE} {c : cfg} (h : uI u es c) (i x : Int32) : uI (mLine u i x).2 es c := by
  have hk := (line_inv (uI_M h) (Prod.ext rfl rfl : ((mLine u i x).1, (mLine u i x).2) = mLine u i x)).1.1
  have hn := n80 h.1
  revert hk
  unfold mLine
  by_cases h1 : mKind u i 0 = true
  · rw [if_pos h1]
    by_cases h2 : bw x 1 200 = true
    · rw [if_pos h2]
      by_cases h3 : u.2 15 i.toNatClampNeg = 80
      · rw [if_pos h3]; exact fun _ => h
      · rw [if_neg h3]
        dsimp only
        intro hk
        obtain ⟨m1, -⟩ := band h1
        obtain ⟨a, ea, ha, -⟩ := itN h.1 m1
        have hc := vp_in_iff.mp (vNew (h.1.2.2.2.2.1 i.toNatClampNeg (by rw [ea, nI_clamp (by omega)]; omega)) h3)
        obtain ⟨y, hy⟩ : ∃ y : Nat, (u.2 15 i.toNatClampNeg).toInt = (y : Int) := ⟨(u.2 15 i.toNatClampNeg).toInt.toNat, by omega⟩
        have ey : u.2 15 i.toNatClampNeg = nI y := Int32.toInt_inj.mp (by rw [nI_toInt (by omega)]; exact hy)
        refine uI_c h (fun k _ _ _ => rfl) (fun k k1 => by rw [mst_other (by omega), mst_other (by omega)]) hk (nwI_c h.2.2.2.2.1 rfl (fun j t j1 j2 j3 => ?_) (fun i t _ _ _ => by rw [mst_other (by decide), mst_other (by decide), mst_other (by decide), mst_other (by decide)]; exact ⟨rfl, rfl⟩) (fun i t _ _ _ => by rw [mst_other (by decide), mst_other (by decide)]) (fun i t _ _ _ => by rw [mst_other (by decide), mst_other (by decide)]) (fun i t _ _ _ => by rw [mst_other (by decide), mst_other (by decide)])) (rvI_c h.2.2.2.2.2.2.2.2.2.1 (by rw [mst_other (by decide), mst_other (by decide)]))
        rw [mst_other (by decide), mst_at, ey, ea, i80 (by omega) (by omega), if_neg (by omega)]
    · rw [if_neg h2]; exact fun _ => h
  · rw [if_neg h1]; exact fun _ => h
theorem uI_names {u : mS} {es : List hE} {c : cfg} (h : uI u es c) (i x : Int32) : uI (mNames u i x).2 es c := by
  have hk := (names_inv (uI_M h) (Prod.ext rfl rfl : ((mNames u i x).1, (mNames u i x).2) = mNames u i x)).1.1
  have hn := n80 h.1
  revert hk
  unfold mNames
  by_cases h1 : mKind u i 0 = true
  · rw [if_pos h1]
    by_cases h2 : bw x 0 9 = true
    · rw [if_pos h2]
      by_cases h3 : u.2 21 (10 * i + x).toNatClampNeg = 0
      · rw [if_pos h3]
        intro hk
        obtain ⟨m1, -⟩ := band h1
        obtain ⟨a, ea, ha, -⟩ := itN h.1 m1
        obtain ⟨y, hy, -, ey⟩ := exN h2 (by decide)
        have h9 : (9 : Int32).toInt = 9 := rfl
        refine uI_c h (fun k _ _ _ => rfl) (fun k k1 => by rw [mst_other (by omega)]) hk (nwI_c h.2.2.2.2.1 rfl (fun i t _ _ _ => by rw [mst_other (by decide)]) (fun i t _ _ _ => by rw [mst_other (by decide), mst_other (by decide)]; exact ⟨rfl, rfl⟩) (fun j t j1 j2 j3 => ?_) (fun i t _ _ _ => by rw [mst_other (by decide)]) (fun i t _ _ _ => by rw [mst_other (by decide)])) (rvI_c h.2.2.2.2.2.2.2.2.2.1 (by rw [mst_other (by decide)]))
        rw [mst_at, ey, ea, show (10 : Int32) = nI 10 from rfl, pk_mul, nI_add, nI_clamp (by omega), if_neg (by omega)]
      · rw [if_neg h3]; exact fun _ => h
    · rw [if_neg h2]; exact fun _ => h
  · rw [if_neg h1]; exact fun _ => h
theorem uI_size {u : mS} {es : List hE} {c : cfg} (h : uI u es c) (i x y : Int32) : uI (mSize u i x y).2 es c := by
  have hk := (size_inv (uI_M h) (Prod.ext rfl rfl : ((mSize u i x y).1, (mSize u i x y).2) = mSize u i x y)).1.1
  have hn := n80 h.1
  revert hk
  unfold mSize
  by_cases h1 : mKind u i 2 = true
  · rw [if_pos h1]
    by_cases h2 : bw x 1 8 = true
    · rw [if_pos h2]
      by_cases h4 : bw y 1 60 = true
      · rw [if_pos h4]
        by_cases h3 : u.2 17 i.toNatClampNeg = 4
        · rw [if_pos h3]; exact fun _ => h
        · rw [if_neg h3]
          dsimp only
          intro hk
          obtain ⟨m1, -⟩ := band h1
          obtain ⟨a, ea, ha, -⟩ := itN h.1 m1
          have hs := bw_iff.mp (h.1.2.2.2.2.2.1 i.toNatClampNeg (by rw [ea, nI_clamp (by omega)]; omega))
          have e4 : (4 : Int32).toInt = 4 := rfl
          rw [i0, e4] at hs
          have hs4 : ¬ (u.2 17 i.toNatClampNeg).toInt = 4 := fun q => h3 (sw_in q.symm e4)
          obtain ⟨b, hb⟩ : ∃ b : Nat, (u.2 17 i.toNatClampNeg).toInt = (b : Int) := ⟨(u.2 17 i.toNatClampNeg).toInt.toNat, by omega⟩
          have eb : u.2 17 i.toNatClampNeg = nI b := Int32.toInt_inj.mp (by rw [nI_toInt (by omega)]; exact hb)
          have ei : (4 * i + u.2 17 i.toNatClampNeg).toNatClampNeg = 4 * a + b := by rw [eb, ea, show (4 : Int32) = nI 4 from rfl, pk_mul, nI_add, nI_clamp (by omega)]
          refine uI_c h (fun k _ _ _ => rfl) (fun k k1 => by rw [mst_other (by omega), mst_other (by omega), mst_other (by omega)]) hk (nwI_c h.2.2.2.2.1 rfl (fun i t _ _ _ => by rw [mst_other (by decide), mst_other (by decide), mst_other (by decide)]) (fun j t j1 j2 j3 => ⟨?_, ?_⟩) (fun i t _ _ _ => by rw [mst_other (by decide), mst_other (by decide), mst_other (by decide)]) (fun i t _ _ _ => by rw [mst_other (by decide), mst_other (by decide), mst_other (by decide)]) (fun i t _ _ _ => by rw [mst_other (by decide), mst_other (by decide), mst_other (by decide)])) (rvI_c h.2.2.2.2.2.2.2.2.2.1 (by rw [mst_other (by decide), mst_other (by decide), mst_other (by decide)]))
          · rw [mst_other (by decide), mst_other (by decide), mst_at, ei, if_neg (by omega)]
          · rw [mst_other (by decide), mst_at, mst_other (by decide), ei, if_neg (by omega), mst_other (by decide)]
      · rw [if_neg h4]; exact fun _ => h
    · rw [if_neg h2]; exact fun _ => h
  · rw [if_neg h1]; exact fun _ => h
theorem uI_rival {u : mS} {es : List hE} {c : cfg} (h : uI u es c) (a b : Int32) : uI (mRival u a b).2 es c := by
  have hk := (riv_inv (uI_M h) (Prod.ext rfl rfl : ((mRival u a b).1, (mRival u a b).2) = mRival u a b)).1.1
  revert hk
  unfold mRival
  by_cases h1 : bw a 0 9 = true
  · rw [if_pos h1]
    by_cases h2 : bw b 0 9 = true
    · rw [if_pos h2]
      by_cases h4 : a = b
      · rw [if_pos h4]; exact fun _ => h
      · rw [if_neg h4]
        by_cases h3 : u.2 20 (10 * a + b).toNatClampNeg = 0
        · rw [if_pos h3]
          intro hk
          obtain ⟨x, hx, -, ex⟩ := exN h1 (by decide)
          obtain ⟨y, hy, -, ey⟩ := exN h2 (by decide)
          have h9 : (9 : Int32).toInt = 9 := rfl
          refine uI_c h (fun k _ _ _ => rfl) (fun k k1 => by rw [mst_other (by omega), mst_other (by omega)]) hk (nwI_e h.2.2.2.2.1 rfl (fun r r1 => by rw [mst_other (by omega), mst_other (by omega)])) ?_
          have hxy : x ≠ y := fun z => h4 (by rw [ex, ey, z])
          intro p q hp hq
          have hv := h.2.2.2.2.2.2.2.2.2.1 p q hp hq
          rw [mst_at, mst_at, mst_at, mst_at, ex, ey, show (10 : Int32) = nI 10 from rfl, pk_mul, pk_mul, nI_add, nI_add, nI_clamp (by omega), nI_clamp (by omega)]
          by_cases e1 : 10 * p + q = 10 * y + x
          · rw [if_pos e1, if_neg (by omega), if_pos (by omega)]
          · rw [if_neg e1]
            by_cases e2 : 10 * p + q = 10 * x + y
            · rw [if_pos e2, if_pos (by omega)]
            · rw [if_neg e2, if_neg (by omega), if_neg (by omega)]; exact hv
        · rw [if_neg h3]; exact fun _ => h
    · rw [if_neg h2]; exact fun _ => h
  · rw [if_neg h1]; exact fun _ => h
theorem uI_column {u : mS} {es : List hE} {c : cfg} (h : uI u es c) (p x n : Int32) : uI (mColumn u p x n).2 es c := by
  have hk := (col_inv (uI_M h) (Prod.ext rfl rfl : ((mColumn u p x n).1, (mColumn u p x n).2) = mColumn u p x n)).1.1
  revert hk
  unfold mColumn
  by_cases h1 : bw p 0 11 = true
  · rw [if_pos h1]
    by_cases h2 : bw x 0 7 = true
    · rw [if_pos h2]
      by_cases h3 : bw n 0 60 = true
      · rw [if_pos h3]
        by_cases h4 : u.1 28 ≤ 0
        · rw [if_pos h4]
          by_cases h5 : mBare (u.2 2) (480 * p + 60 * x) = true
          · rw [if_pos h5]
            intro hk
            have e := uI_es h h4
            obtain ⟨a1, a2, a3, a4, a5, a6, a7, a8, a9, a10, a11⟩ := h
            rw [e] at a3 a4 ⊢
            have ho : ∀ k, k ≠ 0 → (mst u 0 (8 * p + x) n).2 k = u.2 k := fun k q => mst_other q
            refine ⟨hk, kB_c a2 (ho 4 (by decide)) (ho 10 (by decide)), mH_c a3 rfl rfl rfl (ho 4 (by decide)) (fun k k1 k2 => ho k (by omega)), ?_, nwI_e a5 rfl (fun r r1 => ho r (by omega)), plI_c a6 (fun r r1 r2 => ho r (by omega)), ?_, ?_, ?_, rvI_c a10 (ho 20 (by decide)), a11⟩
            · rw [ho 2 (by decide)]; exact a4
            · unfold sdI at a7 ⊢
              rw [ho 40 (by decide), ho 4 (by decide), ho 45 (by decide), ho 11 (by decide)]; exact a7
            · unfold plZ at a8 ⊢
              rw [ho 40 (by decide), ho 45 (by decide)]; exact a8
            · unfold foI at a9 ⊢
              rw [ho 47 (by decide), ho 48 (by decide)]; exact a9
          · rw [if_neg h5]; exact fun _ => h
        · rw [if_neg h4]; exact fun _ => h
      · rw [if_neg h3]; exact fun _ => h
    · rw [if_neg h2]; exact fun _ => h
  · rw [if_neg h1]; exact fun _ => h
theorem uI_measure {u : mS} {es : List hE} {c : cfg} (h : uI u es c) (p x : Int32) : uI (mMeasure u p x).2 es c := by
  unfold mMeasure
  by_cases h1 : bw p 0 11 = true
  · rw [if_pos h1]
    by_cases h2 : bw x 1 200 = true
    · rw [if_pos h2]
      by_cases h3 : 0 < u.1 28
      · rw [if_pos h3]; exact h
      · rw [if_neg h3]
        by_cases h4 : mHas (u.2 2) (480 * p) 480 = true
        · rw [if_pos h4]; exact h
        · rw [if_neg h4]
          exact uI_c h (fun k _ _ _ => rfl) (fun k k1 => mst_other (by omega)) (rI_c h.1 (fun k _ => rfl) (fun k k1 => mst_other (by unfold kR at k1; omega))) (nwI_e h.2.2.2.2.1 rfl (fun r r1 => mst_other (by omega))) (rvI_c h.2.2.2.2.2.2.2.2.2.1 (mst_other (by decide)))
    · rw [if_neg h2]; exact h
  · rw [if_neg h1]; exact h
/-- a new item -/
theorem uI_mk {u w : mS} {es : List hE} {c : cfg} (h : uI u es c) (h8 : ¬ u.1 3 = 80) (hS : mkS u w (u.1 3).toNatClampNeg) (h22 : w.2 22 (u.1 3).toNatClampNeg = 0) (hw : rI w) (hkb : kB w) : uI w es c := by
  have hn := n80 h.1
  have hok := uI_ok h
  obtain ⟨a1, a2, a3, a4, a5, a6, a7, a8, a9, a10, a11⟩ := h
  have e3 := uI_n a1
  have hn8 : (u.1 3).toNatClampNeg < 80 := Nat.lt_of_le_of_ne hn (fun q => h8 (by rw [e3, q]; rfl))
  have w3 : (w.1 3).toNatClampNeg = (u.1 3).toNatClampNeg + 1 := by
    rw [hS.1 3, if_pos rfl]
    rw [e3, nI_1, nI_clamp (by omega), nI_clamp (by omega)]
  have w1 : ∀ k, k ≠ 3 → w.1 k = u.1 k := fun k q => by rw [hS.1 k, if_neg q]
  have ho : ∀ r, r < 4 ∨ (15 < r ∧ r ≠ 17 ∧ r ≠ 22) → w.2 r = u.2 r := hS.2.2
  have hi : ∀ r j, j ≠ (u.1 3).toNatClampNeg → (4 ≤ r ∧ r ≤ 15 ∨ r = 17 ∨ r = 22) → w.2 r j = u.2 r j := hS.2.1
  obtain ⟨b1, b2, b3, b4, b5, b6⟩ := a3
  refine ⟨hw, hkb, ⟨b1, (w1 28 (by decide)).trans b2, (w1 36 (by decide)).trans b3, hOK_mono (by omega) (fun a ha => hi 4 a (by omega) (by omega)) b4, aM_rows (fun k k1 k2 => ho k (by omega)) b5, fun a ha => ?_⟩, ?_, nwI_mk a5 hS w3, plI_c a6 (fun r r1 r2 => ho r (by omega)), fun p hp h40 i hi8 h4 h45 => ?_, fun p hp h40 i i1 i2 => ?_, ?_, rvI_c a10 (ho 20 (by omega)), by rw [w1 39 (by decide)]; exact a11⟩
  · by_cases e : a = (u.1 3).toNatClampNeg
    · rw [e, h22, (hok _).1 (Nat.le_refl _)]
      exact ⟨rfl, trivial⟩
    · rw [hi 22 a e (by omega)]
      exact ⟨(b6 a ha).1, slM_c (fun k _ _ => ⟨by rw [ho 23 (by omega)], by rw [ho 24 (by omega)], by rw [ho 25 (by omega)], by rw [ho 26 (by omega)], by rw [ho 27 (by omega)]⟩) (b6 a ha).2⟩
  · rw [ho 2 (by omega)]
    exact gH_c (by omega) (ho 0 (by omega)) (fun a ha => ⟨hi 4 a (by omega) (by omega), hi 11 a (by omega) (by omega)⟩) a4
  · rw [ho 40 (by omega)] at h40
    rw [ho 45 (by omega)] at h45
    by_cases e : i = (u.1 3).toNatClampNeg
    · exact absurd (a8 p hp h40 i (by omega) hi8) h45
    · rw [hi 11 i e (by omega)]
      rw [hi 4 i e (by omega)] at h4
      exact a7 p hp h40 i hi8 h4 h45
  · rw [ho 40 (by omega)] at h40
    rw [ho 45 (by omega)]
    exact a8 p hp h40 i (by omega) i2
  · unfold foI at a9 ⊢
    rw [w1 38 (by decide), ho 47 (by omega), ho 48 (by omega)]; exact a9
theorem eqP {α β : Type} (x : α × β) : (x.1, x.2) = x := rfl
theorem mk22 {u : mS} {k : Int32} : (mMade u k).2 22 (u.1 3).toNatClampNeg = 0 := by rw [made_22, if_pos rfl]
theorem uI_story {u : mS} {es : List hE} {c : cfg} (h : uI u es c) (n : Int32) : uI (mStory u n).2 es c := by
  have hk := (story_inv (uI_M h) (eqP (mStory u n))).1
  revert hk
  unfold mStory
  by_cases h8 : u.1 3 = 80
  · rw [if_pos h8]; exact fun _ => h
  · rw [if_neg h8]
    by_cases h1 : bw n 1 80 = true
    · rw [if_pos h1]
      exact fun hk => uI_mk h h8 (mkS_mst (mkS_made u 0) rfl (by decide) _) ((congrFun (mst_other (by decide)) _).trans mk22) hk.1 hk.2.1
    · rw [if_neg h1]; exact fun _ => h
theorem uI_picture {u : mS} {es : List hE} {c : cfg} (h : uI u es c) : uI (mPicture u).2 es c := by
  have hk := (pic_inv (uI_M h) (eqP (mPicture u))).1
  revert hk
  unfold mPicture
  by_cases h8 : u.1 3 = 80
  · rw [if_pos h8]; exact fun _ => h
  · rw [if_neg h8]
    exact fun hk => uI_mk h h8 (mkS_made u 2) mk22 hk.1 hk.2.1
theorem uI_filler {u : mS} {es : List hE} {c : cfg} (h : uI u es c) (a b : Int32) : uI (mFiller u a b).2 es c := by
  have hk := (fill_inv0 (uI_M h) (eqP (mFiller u a b))).1
  revert hk
  unfold mFiller
  by_cases h8 : u.1 3 = 80
  · rw [if_pos h8]; exact fun _ => h
  · rw [if_neg h8]
    by_cases h1 : bw a 1 60 = true
    · rw [if_pos h1]
      by_cases h2 : bw b a 60 = true
      · rw [if_pos h2]
        exact fun hk => uI_mk h h8 (mkS_mst (mkS_mst (mkS_made u 4) rfl (by decide) _) rfl (by decide) _) ((congrFun ((mst_other (by decide)).trans (mst_other (by decide))) _).trans mk22) hk.1 hk.2.1
      · rw [if_neg h2]; exact fun _ => h
    · rw [if_neg h1]; exact fun _ => h
theorem uI_head {u : mS} {es : List hE} {c : cfg} (h : uI u es c) (s x y : Int32) : uI (mHead u s x y).2 es c := by
  have hk := (head_inv (uI_M h) (eqP (mHead u s x y))).1
  revert hk
  unfold mHead
  by_cases h8 : u.1 3 = 80
  · rw [if_pos h8]; exact fun _ => h
  · rw [if_neg h8]
    by_cases h1 : mKind u s 0 = true
    · rw [if_pos h1]
      by_cases h2 : bw x 1 8 = true
      · rw [if_pos h2]
        by_cases h3 : bw y 1 9 = true
        · rw [if_pos h3]
          exact fun hk => uI_mk h h8 (mkS_mst (mkS_mst (mkS_mst (mkS_made u 1) rfl (by decide) _) rfl (by decide) _) rfl (by decide) _) ((congrFun (((mst_other (by decide)).trans (mst_other (by decide))).trans (mst_other (by decide))) _).trans mk22) hk.1 hk.2.1
        · rw [if_neg h3]; exact fun _ => h
      · rw [if_neg h2]; exact fun _ => h
    · rw [if_neg h1]; exact fun _ => h
theorem uI_paid {u : mS} {es : List hE} {c : cfg} (h : uI u es c) (b p x l y z m : Int32) : uI (mPaid u b p x l y z m).2 es c := by
  have hk := (paid_inv (uI_M h) (eqP (mPaid u b p x l y z m))).1
  revert hk
  unfold mPaid
  by_cases h8 : u.1 3 = 80
  · rw [if_pos h8]; exact fun _ => h
  · rw [if_neg h8]
    split
    · exact fun hk => uI_mk h h8 (mkS_mst (mkS_mst (mkS_mst (mkS_mst (mkS_mst (mkS_mst (mkS_mst (mkS_made u 3) rfl (by decide) _) rfl (by decide) _) rfl (by decide) _) rfl (by decide) _) rfl (by decide) _) rfl (by decide) _) rfl (by decide) _) ((congrFun (((((((mst_other (by decide)).trans (mst_other (by decide))).trans (mst_other (by decide))).trans (mst_other (by decide))).trans (mst_other (by decide))).trans (mst_other (by decide))).trans (mst_other (by decide))) _).trans mk22) hk.1 hk.2.1
    · exact fun _ => h
theorem uI_notice {u : mS} {es : List hE} {c : cfg} (h : uI u es c) (i x : Int32) : uI (mNoticeX u i x).2 es c := by
  unfold mNoticeX
  by_cases h8 : u.1 3 = 80
  · rw [if_pos h8]; exact h
  · rw [if_neg h8]
    by_cases h1 : bw i 0 (u.1 3 - 1) = true
    · rw [if_pos h1]
      have hk := (not_inv (x := x) (uI_M h) (Or.inr ⟨h8, h1, rfl⟩)).1
      have hu : uI (mNotice u i x) es c := uI_mk h h8 (mkS_mst (mkS_mst (mkS_made u 5) rfl (by decide) _) rfl (by decide) _) ((congrFun ((mst_other (by decide)).trans (mst_other (by decide))) _).trans mk22) hk.1 hk.2.1
      split
      · split
        · exact h
        · split
          · split
            · exact hu
            · exact h
          · exact h
      · exact h
    · rw [if_neg h1]; exact h
theorem foI_en {w : mS} {p : Nat} {S : Nat → Prop} (r : rI w) (h : foI w) (hS : ∀ i, S i → i < 80) : foI (enS w p S) := by
  obtain ⟨D, hD, eD, eN⟩ := day_n r
  intro i hi
  rw [enS_47, enS_48, enS_1, eN]
  have e5 : 5 * i / 5 = i := by omega
  have e6 : 5 * i % 5 = 0 := by omega
  unfold en47 en48
  rw [e5, e6, eN]
  have hv : enV w p i 0 = nI D := eD
  have low : ∀ d, d < D → ¬ (80 * D ≤ 80 * d + i ∧ S (80 * d + i - 80 * D)) := fun d hd q => by have := q.1; omega
  by_cases s : S i
  · rcases h i hi with ⟨h1, h2⟩ | ⟨d0, h1, h2, h3, h4⟩
    · have hneg : w.2 47 (5 * i) < 0 := by rw [h1]; decide
      refine Or.inr ⟨D, Nat.le_refl _, ?_, ?_, fun d hd => ?_⟩
      · rw [if_pos ⟨s, hneg⟩]; exact hv
      · rw [if_pos ⟨by omega, by rw [show 80 * D + i - 80 * D = i by omega]; exact s⟩]; decide
      · rw [if_neg (low d hd)]; exact h2 d (by omega)
    · have hnn : ¬ w.2 47 (5 * i) < 0 := by rw [h2]; exact nIpos (by omega)
      refine Or.inr ⟨d0, by omega, ?_, ?_, fun d hd => ?_⟩
      · rw [if_neg (fun q => hnn q.2)]; exact h2
      · split
        · decide
        · exact h3
      · rw [if_neg (low d (by omega))]; exact h4 d hd
  · have same : ∀ d, ¬ (80 * D ≤ 80 * d + i ∧ S (80 * d + i - 80 * D)) := fun d q => by
      have q2 := hS _ q.2
      have q1 := q.1
      exact s (by rw [show i = 80 * d + i - 80 * D by omega]; exact q.2)
    rcases h i hi with ⟨h1, h2⟩ | ⟨d0, h1, h2, h3, h4⟩
    · refine Or.inl ⟨by rw [if_neg (fun q => s q.1)]; exact h1, fun d hd => by rw [if_neg (same d)]; exact h2 d hd⟩
    · refine Or.inr ⟨d0, by omega, by rw [if_neg (fun q => s q.1)]; exact h2, by rw [if_neg (same d0)]; exact h3, fun d hd => by rw [if_neg (same d)]; exact h4 d hd⟩
theorem nwI_en {w : mS} {p : Nat} {S : Nat → Prop} (r : rI w) (h : nwI w) (hS : ∀ i, S i → i < (w.1 3).toNatClampNeg) : nwI (enS w p S) := by
  have hn := n80 r
  obtain ⟨D, hD, eD, eN⟩ := day_n r
  refine nwI_c h rfl (fun i t _ _ _ => by rw [enS_o w p S (by decide) (by decide)]) (fun i t _ _ _ => by rw [enS_o w p S (by decide) (by decide), enS_o w p S (by decide) (by decide)]; exact ⟨rfl, rfl⟩) (fun i t _ _ _ => by rw [enS_o w p S (by decide) (by decide)]) (fun i t i1 i2 t1 => ?_) (fun i t i1 i2 t1 => ?_)
  · rw [enS_47]
    unfold en47
    rw [if_neg (fun q => by
      have e : (5 * i + t) / 5 = i := by omega
      rw [e] at q
      have := hS i q.1
      omega)]
  · rw [enS_48]
    unfold en48
    rw [eN, if_neg (fun q => by
      have q1 := q.1
      have q2 := hS _ q.2
      omega)]
theorem uI_end {u : mS} {es : List hE} {c : cfg} (h : uI u es c) : ∀ n, n ≤ 12 → uI (endP u n) es c
  | 0, _ => h
  | n + 1, hn => by
    have ih := uI_end h n (by omega)
    show uI (if mNow (endP u n) (nI n) = true then endL (endP u n) (nI n) ((u.1 3).toNatClampNeg) else endP u n) es c
    have e3 : (endP u n).1 3 = u.1 3 := by rw [(endP_k u n).1]
    generalize endP u n = w at ih e3
    have hw8 := n80 ih.1
    by_cases q : mNow w (nI n) = true
    · rw [if_pos q, ← e3, endL_s (by omega) ih.1.2.1 _ hw8]
      obtain ⟨S, eS⟩ : ∃ S : Nat → Prop, S = (fun i => i < (w.1 3).toNatClampNeg ∧ 0 ≤ w.2 45 (80 * n + i)) := ⟨_, rfl⟩
      rw [← eS]
      have hS : ∀ i, S i → i < (w.1 3).toNatClampNeg := by rw [eS]; exact fun i z => z.1
      have a7 := ih.2.2.2.2.2.2.1
      have a8 := ih.2.2.2.2.2.2.2.1
      have ho : ∀ k, k ≠ 47 → k ≠ 48 → (enS w n S).2 k = w.2 k := fun k k1 k2 => enS_o w n S k1 k2
      refine ⟨rI_c ih.1 (fun k _ => rfl) (fun k k1 => ho k (by unfold kR at k1; omega) (by unfold kR at k1; omega)), kB_c ih.2.1 (ho 4 (by decide) (by decide)) (ho 10 (by decide) (by decide)), mH_c ih.2.2.1 rfl rfl rfl (ho 4 (by decide) (by decide)) (fun k k1 k2 => ho k (by omega) (by omega)), ?_, nwI_en ih.1 ih.2.2.2.2.1 hS, plI_c ih.2.2.2.2.2.1 (fun r r1 r2 => ho r (by omega) (by omega)), ?_, ?_, foI_en ih.1 ih.2.2.2.2.2.2.2.2.1 (fun i z => by have := hS i z; omega), rvI_c ih.2.2.2.2.2.2.2.2.2.1 (ho 20 (by decide) (by decide)), ih.2.2.2.2.2.2.2.2.2.2⟩
      · rw [ho 2 (by decide) (by decide)]
        exact gH_e (u := w) (w := enS w n S) rfl (ho 0 (by decide) (by decide)) (ho 4 (by decide) (by decide)) (ho 11 (by decide) (by decide)) ih.2.2.2.1
      · unfold sdI at a7 ⊢
        rw [ho 40 (by decide) (by decide), ho 4 (by decide) (by decide), ho 45 (by decide) (by decide), ho 11 (by decide) (by decide)]; exact a7
      · unfold plZ at a8 ⊢
        rw [ho 40 (by decide) (by decide), ho 45 (by decide) (by decide)]; exact a8
    · rw [if_neg q]; exact ih
theorem uI_edition {u : mS} {es : List hE} {c : cfg} (h : uI u es c) : uI (mEdition u).2 es c := by
  have hk := ed_inv (uI_M h) (eqP (mEdition u))
  have he := uI_end h 12 (Nat.le_refl _)
  have e39 : (endP u 12).1 39 = u.1 39 := by rw [(endP_k u 12).1]
  revert hk
  unfold mEdition
  by_cases h7 : u.1 39 = 7
  · rw [if_pos h7]; exact fun _ => h
  · rw [if_neg h7]
    dsimp only
    generalize endP u 12 = w at he e39
    intro hk
    obtain ⟨a1, a2, a3, a4, a5, a6, a7, a8, a9, a10, a11⟩ := he
    have w1 : ∀ k, k ≠ 39 → (mset w 39 (w.1 39 + 1)).1 k = w.1 k := fun k q => by unfold mset; exact if_neg q
    refine ⟨hk.1.1, kB_c a2 rfl rfl, mH_c a3 (w1 3 (by decide)) (w1 28 (by decide)) (w1 36 (by decide)) rfl (fun _ _ _ => rfl), gH_e (u := w) (w1 3 (by decide)) rfl rfl rfl a4, nwI_e a5 (w1 3 (by decide)) (fun _ _ => rfl), plI_c a6 (fun _ _ _ => rfl), a7, ?_, ?_, rvI_c a10 rfl, ?_⟩
    · unfold plZ at a8 ⊢
      rw [w1 3 (by decide)]; exact a8
    · unfold foI at a9 ⊢
      rw [w1 38 (by decide)]; exact a9
    · rw [mset_same, e39]
      refine (ed_7 (by rw [← e39]; exact a11)).2 ?_
      exact Classical.byContradiction (fun q => h7 ((ed_7 (by rw [← e39]; exact a11)).1.mp q))
theorem uI_day {u : mS} {es : List hE} {c : cfg} (h : uI u es c) : (u.1 38 = 399 ∧ (mDay u).2 = u) ∨ (¬ u.1 38 = 399 ∧ (mDay u).2 = dayS (endP u 12) (u.1 3).toNatClampNeg ∧ uI (mDay u).2 [] (fun _ => [])) := by
  have hk := day_inv (uI_M h) (eqP (mDay u))
  have he := uI_end h 12 (Nat.le_refl _)
  have e1 := (endP_k u 12).1
  revert hk
  unfold mDay
  by_cases h7 : u.1 38 = 399
  · rw [if_pos h7]; exact fun _ => Or.inl ⟨h7, rfl⟩
  · rw [if_neg h7]
    dsimp only
    intro hk
    refine Or.inr ⟨h7, rfl, ?_⟩
    have hk1 := hk.1.1
    have e3 : (endP u 12).1 3 = u.1 3 := by rw [e1]
    have e38 : (endP u 12).1 38 = u.1 38 := by rw [e1]
    have hok := uI_ok he
    generalize endP u 12 = w at he e3 e38 hk1 hok
    obtain ⟨a1, a2, a3, a4, a5, a6, a7, a8, a9, a10, a11⟩ := he
    obtain ⟨d1, d2, d3, d4, d5⟩ := dayS_1 w (u.1 3).toNatClampNeg
    have ho : ∀ k, k ≠ 2 → k ≠ 22 → (dayS w (u.1 3).toNatClampNeg).2 k = w.2 k := fun k k1 k2 => dayS_k w _ k1 k2
    refine ⟨hk1, kB_c a2 (ho 4 (by decide) (by decide)) (ho 10 (by decide) (by decide)), ⟨Nat.zero_le _, d1, d2, fun _ => rfl, trivial, fun a ha => ⟨?_, trivial⟩⟩, ⟨fun _ => rfl, fun j hj => ?_⟩, nwI_e a5 d5 (fun r r1 => ho r (by omega) (by omega)), plI_c a6 (fun r r1 r2 => ho r (by omega) (by omega)), ?_, ?_, ?_, rvI_c a10 (ho 20 (by decide) (by decide)), by rw [d4]; decide⟩
    · rw [dayS_22]
      unfold fillF
      split
      · rfl
      · rename_i q
        rw [(a3.2.2.2.2.2 a ha).1, (hok a).1 (by rw [e3]; omega)]
    · rw [dayS_2]
      unfold fillF
      rw [if_pos hj]
    · unfold sdI at a7 ⊢
      rw [ho 40 (by decide) (by decide), ho 4 (by decide) (by decide), ho 45 (by decide) (by decide), ho 11 (by decide) (by decide)]; exact a7
    · unfold plZ at a8 ⊢
      rw [d5, ho 40 (by decide) (by decide), ho 45 (by decide) (by decide)]; exact a8
    · intro i hi
      rw [ho 47 (by decide) (by decide), ho 48 (by decide) (by decide), d3]
      obtain ⟨D, hD, eD, eN⟩ := day_n a1
      rcases a9 i hi with q | ⟨d0, q1, q2⟩
      · exact Or.inl q
      · refine Or.inr ⟨d0, ?_, q2⟩
        rw [eD, nI_1, nI_clamp (by omega)]
        omega
