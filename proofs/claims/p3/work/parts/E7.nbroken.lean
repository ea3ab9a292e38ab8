theorem best_no {S T : tr3 → Prop} {u : mS} (h : best S (wr3 u)) (hn : ∀ t, ¬ T t) : best (fun t => S t ∨ T t) (wr3 u) := best_c h (fun t => ⟨Or.inl, fun q => q.elim id (fun z => absurd z (hn t))⟩)
theorem best_ad {S T : tr3 → Prop} {w w2 : mS} {k a b : Int32} (h : best S (wr3 w)) (hw : w2 = mWrongs w k a b) (hk : ¬ k = 0) (h2 : ∀ t, T t ↔ t = trN k a b) : best (fun t => S t ∨ T t) (wr3 w2) := by
  rw [hw]
  exact best_c (best_wr h hk) (fun t => ⟨fun q => q.elim Or.inl (fun z => Or.inr ((h2 t).mpr z)), fun q => q.elim Or.inl (fun z => Or.inr ((h2 t).mp z))⟩)
theorem mFrom_E {u w : mS} (h : w.2 = u.2) (i : Int32) : ∀ n, mFrom w i n = mFrom u i n
  | 0 => rfl
  | n + 1 => by
    show mFrom w i n + mTakes w i (nI n) = mFrom u i n + mTakes u i (nI n)
    rw [mFrom_E h i n]
    unfold mTakes
    rw [h]
theorem mStanding_E {u w : mS} (h : w.2 = u.2) (i : Int32) : mStanding w i = mStanding u i := by
  unfold mStanding
  rw [mFrom_E h, h]
/-- an item of a page: short, or a head without its story -/
def thN (u : mS) (p0 : Int32) (j : Nat) : Prop := thP u p0 j (u.2 22 (nI j).toNatClampNeg).toNatClampNeg
def hsP (u : mS) (j : Nat) : Prop := ∃ X D, u.2 24 (6 * nI j).toNatClampNeg = nI X ∧ u.2 26 (6 * nI j).toNatClampNeg = nI D ∧ X + D ≤ 8 ∧ ∃ c, c < D ∧ hsC u (nI j) (6 * nI j) (u.2 25 (6 * nI j).toNatClampNeg + u.2 27 (6 * nI j).toNatClampNeg) (X + c)
def iC4 (u : mS) (p0 : Int32) (j : Nat) : Prop := thN u p0 j ∧ u.2 4 (nI j).toNatClampNeg = 0 ∧ ¬ u.2 5 (nI j).toNatClampNeg ≤ mStanding u (nI j)
def iC5 (u : mS) (p0 : Int32) (j : Nat) : Prop := thN u p0 j ∧ u.2 4 (nI j).toNatClampNeg = 1 ∧ ¬ hsP u j
def iT4 (u : mS) (p0 : Int32) (j : Nat) (t : tr3) : Prop := iC4 u p0 j ∧ t = trN 4 (nI j) (-1)
def iT5 (u : mS) (p0 : Int32) (j : Nat) (t : tr3) : Prop := iC5 u p0 j ∧ t = trN 5 (nI j) (-1)
def itS (u : mS) (p0 : Int32) (n : Nat) (t : tr3) : Prop := ∃ j, j < n ∧ (iT4 u p0 j t ∨ iT5 u p0 j t)
def brS (u : mS) (p0 : Int32) (n : Nat) (t : tr3) : Prop := vTS u p0 8 0 t ∨ itS u p0 n t
theorem brS_n {u : mS} {p0 : Int32} {n : Nat} (t : tr3) : ((brS u p0 n t ∨ iT4 u p0 n t) ∨ iT5 u p0 n t) ↔ brS u p0 (n + 1) t := by
  constructor
  · rintro (((h | ⟨j, h1, h2⟩) | h) | h)
    · exact Or.inl h
    · exact Or.inr ⟨j, by omega, h2⟩
    · exact Or.inr ⟨n, Nat.lt_succ_self _, Or.inl h⟩
    · exact Or.inr ⟨n, Nat.lt_succ_self _, Or.inr h⟩
  · rintro (h | ⟨j, h1, h2⟩)
    · exact Or.inl (Or.inl (Or.inl h))
    · by_cases e : j = n
      · rw [e] at h2
        exact h2.elim (fun z => Or.inl (Or.inr z)) Or.inr
      · exact Or.inl (Or.inl (Or.inr ⟨j, by omega, h2⟩))
theorem thP_E {u w : mS} (h : w.2 = u.2) (p0 : Int32) (j n : Nat) : thP w p0 j n = thP u p0 j n := by
  unfold thP ptC
  rw [h]
theorem bP_nz {P : Prop} {a : Int32} (h : a = bP P) (h2 : ¬ a = 0) : P := Classical.byContradiction (fun q => h2 (by rw [h, bP_f q]))
theorem bP_no {P : Prop} {a : Int32} (h : a = bP P) (h2 : a = 0) : ¬ P := fun q => by rw [h2, bP_t q] at h; exact absurd h (by decide)
theorem hs_P {u w : mS} (h : w.2 = u.2) {j X D : Nat} {z : Int32} (hX3 : X + D ≤ 8) (e24 : u.2 24 (6 * nI j).toNatClampNeg = nI X) (e26 : u.2 26 (6 * nI j).toNatClampNeg = nI D) (hz : z = bP (∃ c, c < D ∧ hsC w (nI j) (6 * nI j) (w.2 25 (6 * nI j).toNatClampNeg + w.2 27 (6 * nI j).toNatClampNeg) (X + c))) : z = bP (hsP u j) := by
  have e : (∃ c, c < D ∧ hsC w (nI j) (6 * nI j) (w.2 25 (6 * nI j).toNatClampNeg + w.2 27 (6 * nI j).toNatClampNeg) (X + c)) ↔ hsP u j := by
    have e2 : ∀ c, hsC w (nI j) (6 * nI j) (w.2 25 (6 * nI j).toNatClampNeg + w.2 27 (6 * nI j).toNatClampNeg) c ↔ hsC u (nI j) (6 * nI j) (u.2 25 (6 * nI j).toNatClampNeg + u.2 27 (6 * nI j).toNatClampNeg) c := fun c => by
      unfold hsC mCell
      rw [h]
    constructor
    · rintro ⟨c, h1, h2⟩
      exact ⟨X, D, e24, e26, hX3, c, h1, (e2 _).mp h2⟩
    · rintro ⟨X2, D2, f1, f2, f3, c, h1, h2⟩
      have eX : X2 = X := (nI_inj (by omega) (by omega)).mp (f1.symm.trans e24)
      have eD : D2 = D := (nI_inj (by omega) (by omega)).mp (f2.symm.trans e26)
      rw [eX] at h2
      exact ⟨c, by omega, (e2 _).mpr h2⟩
  rw [hz]
  by_cases q : hsP u j
  · rw [bP_t q, bP_t (e.mpr q)]
  · rw [bP_f q, bP_f (fun z => q (e.mp z))]
set_option maxHeartbeats 4000000 in
set_option maxRecDepth 100000 in
theorem n_br_it {p : Program} {l : Launch} {e : Env} {R : Room} {s : State} {m : MethodId} {args : Array Value} {below : List Frame} {meth : Method} {c : Code} {Q : State → Prop} {cells slots : Nat} {dC : Nat → ClassId} {dI : Nat → Nat → Nat} {h0 : Nat} {v : Nat → Nat} {cI cZ : ClassId} {u0 : mS} {p0 : Int32} (hp : bw p0 0 11 = true) (hln0 : ∀ j, j < 96 → bw (u0.2 0 j) 0 60 = true) (hcl0 : ∀ j, j < 5760 → mThing (u0.2 2 j) = true → bw (u0.2 2 j) 0 79 = true) (hk0 : ∀ j, j < 80 → u0.2 4 j = 3 → bw (u0.2 10 j) 0 9 = true) {M : Nat} (hM8 : M ≤ 80) (eM : u0.1 3 = nI M) (hpc0 : ∀ j, j < 80 → bw (u0.2 22 j) 0 6 = true) (hsl0 : ∀ j, j < 480 → ∃ X D : Nat, u0.2 24 j = nI X ∧ u0.2 26 j = nI D ∧ X + D ≤ 8) {A : Nat → Prop} {H0 : Heap} (hx : p.tables.exec = Jvm.exec) (hb : c.code = cX12_breaks) (hml : c.maxLocals = 5) (hts : ∀ w ∈ wsX12_breaks, w.before args s = true) (hown : s.vm.findClass RX12 = some m.cls) (hN : NN s) (hK : va_K (dC, dI) vwCl [(cI, .int), (cZ, .boolean)] s) (hRf : 4 ≤ R.frames) (hRl : 90 ≤ R.locals) (hRc : cells ≤ R.cells) (hRs : slots ≤ R.slots) (hA : ∀ q : Nat, H0.size ≤ q → A q) (kx : ∀ (u : mS) (H : Heap) (locs : List Loc) (ls : Array Slot), (mE u0 u ∧ best (brS u0 p0 M) (wr3 u)) → va_P (dC, dI) vwCl (mW h0 v cI cZ u) H → va_D A (mW h0 v cI cZ u) → va_S A H0 H locs → lv_has ls 5 [(2, .int (nI M)), (0, .ref h0), (1, .int p0)] → W p l e R s m args below meth c H locs cells slots Q (F0 m 256 ls [])) : ∀ (k i : Nat) (u : mS) (H : Heap) (locs : List Loc) (ls : Array Slot), i ≤ M → M - i < k → (mE u0 u ∧ best (brS u0 p0 i) (wr3 u)) → va_P (dC, dI) vwCl (mW h0 v cI cZ u) H → va_D A (mW h0 v cI cZ u) → va_S A H0 H locs → lv_has ls 5 [(2, .int (nI i)), (0, .ref h0), (1, .int p0)] → W p l e R s m args below meth c H locs cells slots Q (F0 m 131 ls []) := by
  intro k
  induction k with
  | zero => intro i u H locs ls h1 h2; exact absurd h2 (Nat.not_lt_zero _)
  | succ k ih =>
    intro i u H locs ls hi hk hg hP hD hS hl
    refine lv_iload_n hx hb dX12_breaks_131 rfl (lv_at hl 0 rfl) ?_
    refine lv_aload_n hx hb dX12_breaks_132 rfl (lv_at hl 1 rfl) ?_
    refine va_get (D := (dC, dI)) (ci := 11) (v := .int (u.1 3)) (C := RX12) (T := TX12) (N := 52) hx hb hts (by decide +kernel) hown hK hP 0 rfl rfl 3 (by decide) (hts (.fieldLink RX12 147 "PageOneModel" "items" "I") (by decide +kernel)) (fun _ h9 => h9) rfl dX12_breaks_133 ?_
    refine lv_topi (fun y_1 ey_1 => ?_)
    obtain rfl : y_1 = (nI M) := ey_1.trans ((by rw [hg.1.2 3 (by decide) (by decide) (by decide)]; exact eM))
    refine lv_icmp_ge (tgt := 256) hx hb dX12_breaks_136 (by decide) (fun c_2 => ?_) (fun c_2 => ?_)
    ·
      have hie : i = M := lp_eq rfl (by omega) hi c_2
      rw [hie] at hg hl
      exact kx _ _ _ ls hg hP hD hS (lv_sub hl [0, 1, 2] rfl)
    ·
      have hlt : i < M := lp_lt rfl (by omega) hi c_2
      have hb0 := hg.2
      have hg := hg.1
      have hlnu : ∀ j, j < 96 → bw (u.2 0 j) 0 60 = true := fun j hj => by rw [hg.1]; exact hln0 j hj
      refine lv_iconst (v := 0) hx hb dX12_breaks_139 (by decide) ?_
      refine lv_istore_n (lv' := [(3, .int 0), (2, .int (nI i)), (0, .ref h0), (1, .int p0)]) hx hb dX12_breaks_140 rfl hl (by decide) rfl (fun ls hl => ?_)
      refine lv_iconst (v := 0) hx hb dX12_breaks_141 (by decide) ?_
      refine lv_istore (lv' := [(4, .int 0), (3, .int 0), (2, .int (nI i)), (0, .ref h0), (1, .int p0)]) hx hb dX12_breaks_142 hl (by decide) rfl (fun ls hl => ?_)
      obtain ⟨eK, eK2, eK3⟩ := nI_of_bw (hpc0 (nI i).toNatClampNeg (by rw [nI_clamp (by omega)]; omega))
      have h6 : (6 : Int32).toInt = 6 := rfl
      refine w_cut (X := fun R cells slots Q args => ∀ (uJ221 : mS) (H : Heap) (locs : List Loc) (a : Int32) (ls : Array Slot), mE u0 uJ221 → best (fun t => brS u0 p0 i t ∨ iT4 u0 p0 i t) (wr3 uJ221) → a = bP (thN u0 p0 i) → va_P (dC, dI) vwCl (mW h0 v cI cZ uJ221) H → va_D A (mW h0 v cI cZ uJ221) → va_S A H0 H locs → lv_has ls 5 [(3, .int a), (2, .int (nI i)), (0, .ref h0), (1, .int p0)] → W p l e R s m args below meth c H locs cells slots Q (F0 m 221 ls [])) ?_ (fun kJ221 => ?_)
      ·
        intro uJ221 H locs a ls hg hBa hAa hP hD hS hl
        refine lv_iload_n hx hb dX12_breaks_221 rfl (lv_at hl 0 rfl) ?_
        refine lv_if_eq (tgt := 250) hx hb dX12_breaks_222 (by decide) (fun c_3 => ?_) (fun c_3 => ?_)
        ·
          refine lv_iinc (v := (nI (i + 1))) (lv' := [(2, .int (nI (i + 1))), (3, .int a), (0, .ref h0), (1, .int p0)]) hx hb dX12_breaks_250 hl (k := 1) rfl (nI_1 i) (by decide) rfl (fun ls hl => ?_)
          refine lv_goto (tgt := 131) hx hb dX12_breaks_253 (by decide) ?_
          exact ih (i + 1) _ _ _ ls (by omega) (by omega) ⟨hg, best_c (best_no hBa (fun t q => bP_no hAa c_3 q.1.1)) (fun t => brS_n t)⟩ hP hD hS (lv_sub hl [0, 2, 3] rfl)
        ·
          refine lv_aload_n hx hb dX12_breaks_225 rfl (lv_at hl 2 rfl) ?_
          refine va_get (D := (dC, dI)) (ci := 11) (v := .ref (v 4)) (C := RX12) (T := TX12) (N := 52) hx hb hts (by decide +kernel) hown hK hP 0 rfl rfl 4 (by decide) (hts (.fieldLink RX12 19 "PageOneModel" "kind" "[I") (by decide +kernel)) (fun _ h9 => h9) rfl dX12_breaks_226 ?_
          refine lv_iload_n hx hb dX12_breaks_229 rfl (lv_at hl 1 rfl) ?_
          refine va_iald hx hb hK hP 4 0 rfl rfl (vp_in_nI (by omega) (by decide)) dX12_breaks_230 ?_
          refine lv_iconst (v := 1) hx hb dX12_breaks_231 (by decide) ?_
          refine lv_icmp_ne (tgt := 250) hx hb dX12_breaks_232 (by decide) (fun c_4 => ?_) (fun c_4 => ?_)
          ·
            refine lv_iinc (v := (nI (i + 1))) (lv' := [(2, .int (nI (i + 1))), (3, .int a), (0, .ref h0), (1, .int p0)]) hx hb dX12_breaks_250 hl (k := 1) rfl (nI_1 i) (by decide) rfl (fun ls hl => ?_)
            refine lv_goto (tgt := 131) hx hb dX12_breaks_253 (by decide) ?_
            exact ih (i + 1) _ _ _ ls (by omega) (by omega) ⟨hg, best_c (best_no hBa (fun t q => c_4 (by rw [hg.1]; exact q.1.2.1))) (fun t => brS_n t)⟩ hP hD hS (lv_sub hl [0, 2, 3] rfl)
          ·
            refine lv_aload_n hx hb dX12_breaks_235 rfl (lv_at hl 2 rfl) ?_
            refine lv_iload_n hx hb dX12_breaks_236 rfl (lv_at hl 1 rfl) ?_
            obtain ⟨X, D, hX1, hX2, hX3⟩ := hsl0 (6 * nI i).toNatClampNeg (vlt (v60 (bw79 (by omega)) rfl))
            refine vp_callSi (va_runV (As := [.int (nI i)]) (rest := []) ⟨hx, hb, hml, hown, hts⟩ (n_hasStory l dC dI h0 v cI cZ uJ221 (nI i) X D (bw79 (by omega)) hX3 (fun j hj => by rw [hg.1]; exact hln0 j hj) (by rw [hg.1]; exact hX1) (by rw [hg.1]; exact hX2)) (cwV 1 hts gX12_breaks_X12_hasStory rfl rfl rfl (by decide +kernel) ⟨Nat.le_trans (Nat.le_of_ble_eq_true rfl) hRf, Nat.le_trans (Nat.le_of_ble_eq_true rfl) hRl⟩) ⟨pw_fb, va_recv hK hP (ci := 11) (q0 := 0) rfl rfl, fun U hU hW => ⟨rfl, pw_to hU hW hP hK hN⟩⟩ rfl rfl hl.1 rfl (lv_room (Nat.le_of_ble_eq_true rfl)) dX12_breaks_237 ⟨hRc, hRs⟩).run (fun r hw => ?_)
            generalize r = z_5 at hw ⊢
            have hz5 := hs_P hg.1 hX3 hX1 hX2 hw
            refine lv_if_ne (tgt := 250) hx hb dX12_breaks_240 (by decide) (fun c_6 => ?_) (fun c_6 => ?_)
            ·
              refine lv_iinc (v := (nI (i + 1))) (lv' := [(2, .int (nI (i + 1))), (3, .int a), (0, .ref h0), (1, .int p0)]) hx hb dX12_breaks_250 hl (k := 1) rfl (nI_1 i) (by decide) rfl (fun ls hl => ?_)
              refine lv_goto (tgt := 131) hx hb dX12_breaks_253 (by decide) ?_
              exact ih (i + 1) _ _ _ ls (by omega) (by omega) ⟨hg, best_c (best_no hBa (fun t q => q.1.2.2 (bP_nz hz5 c_6))) (fun t => brS_n t)⟩ hP hD hS (lv_sub hl [0, 2, 3] rfl)
            ·
              refine lv_aload_n hx hb dX12_breaks_243 rfl (lv_at hl 2 rfl) ?_
              refine lv_iconst (v := 5) hx hb dX12_breaks_244 (by decide) ?_
              refine lv_iload_n hx hb dX12_breaks_245 rfl (lv_at hl 1 rfl) ?_
              refine lv_iconst (v := (-1)) hx hb dX12_breaks_246 (by decide) ?_
              have hg8 := hg
              have hFc := fr_all hD hS hA
              refine va_callv (va_runV (As := [.int 5, .int (nI i), .int (-1)]) (rest := []) ⟨hx, hb, hml, hown, hts⟩ (m_wrongs l dC dI h0 v cI cZ uJ221 5 (nI i) (-1) H.size) (cwV 3 hts gX12_breaks_X12_wrongs rfl rfl rfl (by decide +kernel) ⟨Nat.le_trans (Nat.le_of_ble_eq_true rfl) hRf, Nat.le_trans (Nat.le_of_ble_eq_true rfl) hRl⟩) ⟨gw_fb, va_recv hK hP (ci := 11) (q0 := 0) rfl rfl, fun U hU hW => ⟨rfl, by rw [hU], pw_to hU hW hP hK hN, hD.weaken (fun _ _ _ _ => trivial)⟩⟩ rfl rfl hl.1 rfl (lv_room (Nat.le_of_ble_eq_true rfl)) dX12_breaks_247 ⟨hRc, hRs⟩) hS (fun q _ h => hFc q h) hFc (fun u_7 t H1 locs ht hvm hw hB hz1 hk1 hS => ?_)
              obtain ⟨hP, hD1⟩ := hB
              rw [ht] at hP
              have hD := hD1.weaken (fun _ q _ h => hFc q.1 h)
              generalize H1 = H at hP hS ⊢
              have hg := mE_wr hg hw
              have hwr := hw
              refine lv_iinc (v := (nI (i + 1))) (lv' := [(2, .int (nI (i + 1))), (3, .int a), (0, .ref h0), (1, .int p0)]) hx hb dX12_breaks_250 hl (k := 1) rfl (nI_1 i) (by decide) rfl (fun ls hl => ?_)
              refine lv_goto (tgt := 131) hx hb dX12_breaks_253 (by decide) ?_
              exact ih (i + 1) _ _ _ ls (by omega) (by omega) ⟨hg, best_c (best_ad hBa hwr (by decide) (fun t => ⟨fun q => q.2, fun q => ⟨⟨bP_nz hAa c_3, by rw [← hg8.1]; exact c_4, bP_no hz5 (by first | exact c_6 | exact Classical.byContradiction c_6)⟩, q⟩⟩)) (fun t => brS_n t)⟩ hP hD hS (lv_sub hl [0, 2, 3] rfl)
      ·
        refine n_br_k (j9 := i) (K := (u0.2 22 (nI i).toNatClampNeg).toNatClampNeg) hx hb hml hts hown hN hK hP (by omega) (by omega) (by rw [hg.1]; exact eK) (fun a ls hg2 hl => ?_) _ 0 0 ls (Nat.zero_le _) (Nat.lt_succ_self _) (bP_f (fun ⟨t, q, _⟩ => absurd q (Nat.not_lt_zero _))).symm (lv_sub hl [0, 1, 2, 3, 4] rfl)
        have hA9 : a = bP (thN u0 p0 i) := by rw [hg2, thP_E hg.1]; rfl
        refine lv_iload_n hx hb dX12_breaks_187 rfl (lv_at hl 1 rfl) ?_
        refine lv_if_eq (tgt := 221) hx hb dX12_breaks_188 (by decide) (fun c_8 => ?_) (fun c_8 => ?_)
        ·
          exact kJ221 _ _ _ _ ls hg (best_no hb0 (fun t q => bP_no hA9 c_8 q.1.1)) hA9 hP hD hS (lv_sub hl [1, 2, 3, 4] rfl)
        ·
          refine lv_aload_n hx hb dX12_breaks_191 rfl (lv_at hl 3 rfl) ?_
          refine va_get (D := (dC, dI)) (ci := 11) (v := .ref (v 4)) (C := RX12) (T := TX12) (N := 52) hx hb hts (by decide +kernel) hown hK hP 0 rfl rfl 4 (by decide) (hts (.fieldLink RX12 19 "PageOneModel" "kind" "[I") (by decide +kernel)) (fun _ h9 => h9) rfl dX12_breaks_192 ?_
          refine lv_iload_n hx hb dX12_breaks_195 rfl (lv_at hl 2 rfl) ?_
          refine va_iald hx hb hK hP 4 0 rfl rfl (vp_in_nI (by omega) (by decide)) dX12_breaks_196 ?_
          refine lv_if_ne (tgt := 221) hx hb dX12_breaks_197 (by decide) (fun c_9 => ?_) (fun c_9 => ?_)
          ·
            exact kJ221 _ _ _ _ ls hg (best_no hb0 (fun t q => c_9 (by rw [hg.1]; exact q.1.2.1))) hA9 hP hD hS (lv_sub hl [1, 2, 3, 4] rfl)
          ·
            refine lv_aload_n hx hb dX12_breaks_200 rfl (lv_at hl 3 rfl) ?_
            refine lv_iload_n hx hb dX12_breaks_201 rfl (lv_at hl 2 rfl) ?_
            refine vp_callSi (va_runV (As := [.int (nI i)]) (rest := []) ⟨hx, hb, hml, hown, hts⟩ (m_standing l dC dI h0 v cI cZ u (nI i) (bw79 (by omega)) (by rw [hg.1]; exact hpc0 _ (by rw [nI_clamp (by omega)]; omega))) (cwV 1 hts gX12_breaks_X12_standing rfl rfl rfl (by decide +kernel) ⟨Nat.le_trans (Nat.le_of_ble_eq_true rfl) hRf, Nat.le_trans (Nat.le_of_ble_eq_true rfl) hRl⟩) ⟨pw_fb, va_recv hK hP (ci := 11) (q0 := 0) rfl rfl, fun U hU hW => ⟨rfl, pw_to hU hW hP hK hN⟩⟩ rfl rfl hl.1 rfl (lv_room (Nat.le_of_ble_eq_true rfl)) dX12_breaks_202 ⟨hRc, hRs⟩).run (fun r hw => ?_)
            obtain rfl : r = (mStanding u (nI i)) := hw
            refine lv_aload_n hx hb dX12_breaks_205 rfl (lv_at hl 3 rfl) ?_
            refine va_get (D := (dC, dI)) (ci := 11) (v := .ref (v 5)) (C := RX12) (T := TX12) (N := 52) hx hb hts (by decide +kernel) hown hK hP 0 rfl rfl 5 (by decide) (hts (.fieldLink RX12 22 "PageOneModel" "least" "[I") (by decide +kernel)) (fun _ h9 => h9) rfl dX12_breaks_206 ?_
            refine lv_iload_n hx hb dX12_breaks_209 rfl (lv_at hl 2 rfl) ?_
            refine va_iald hx hb hK hP 5 0 rfl rfl (vp_in_nI (by omega) (by decide)) dX12_breaks_210 ?_
            refine lv_icmp_ge (tgt := 221) hx hb dX12_breaks_211 (by decide) (fun c_10 => ?_) (fun c_10 => ?_)
            ·
              exact kJ221 _ _ _ _ ls hg (best_no hb0 (fun t q => q.1.2.2 (by rw [← hg.1, ← mStanding_E hg.1]; exact c_10))) hA9 hP hD hS (lv_sub hl [1, 2, 3, 4] rfl)
            ·
              refine lv_aload_n hx hb dX12_breaks_214 rfl (lv_at hl 3 rfl) ?_
              refine lv_iconst (v := 4) hx hb dX12_breaks_215 (by decide) ?_
              refine lv_iload_n hx hb dX12_breaks_216 rfl (lv_at hl 2 rfl) ?_
              refine lv_iconst (v := (-1)) hx hb dX12_breaks_217 (by decide) ?_
              have hg8 := hg
              have hFc := fr_all hD hS hA
              refine va_callv (va_runV (As := [.int 4, .int (nI i), .int (-1)]) (rest := []) ⟨hx, hb, hml, hown, hts⟩ (m_wrongs l dC dI h0 v cI cZ u 4 (nI i) (-1) H.size) (cwV 3 hts gX12_breaks_X12_wrongs rfl rfl rfl (by decide +kernel) ⟨Nat.le_trans (Nat.le_of_ble_eq_true rfl) hRf, Nat.le_trans (Nat.le_of_ble_eq_true rfl) hRl⟩) ⟨gw_fb, va_recv hK hP (ci := 11) (q0 := 0) rfl rfl, fun U hU hW => ⟨rfl, by rw [hU], pw_to hU hW hP hK hN, hD.weaken (fun _ _ _ _ => trivial)⟩⟩ rfl rfl hl.1 rfl (lv_room (Nat.le_of_ble_eq_true rfl)) dX12_breaks_218 ⟨hRc, hRs⟩) hS (fun q _ h => hFc q h) hFc (fun u_11 t H1 locs ht hvm hw hB hz1 hk1 hS => ?_)
              obtain ⟨hP, hD1⟩ := hB
              rw [ht] at hP
              have hD := hD1.weaken (fun _ q _ h => hFc q.1 h)
              generalize H1 = H at hP hS ⊢
              have hg := mE_wr hg hw
              have hwr := hw
              exact kJ221 _ _ _ _ ls hg (best_ad hb0 hwr (by decide) (fun t => ⟨fun q => q.2, fun q => ⟨⟨bP_nz hA9 c_8, by rw [← hg8.1]; exact c_9, by rw [← hg8.1, ← mStanding_E hg8.1]; exact c_10⟩, q⟩⟩)) hA9 hP hD hS (lv_sub hl [1, 2, 3, 4] rfl)
theorem wr3_0 (u : mS) : wr3 (mset (mset (mset u 49 0) 50 (-1)) 51 (-1)) = (0, -1, -1) := by
  unfold wr3 mset
  dsimp only
  rw [if_neg (by decide), if_neg (by decide), if_pos rfl, if_neg (by decide), if_pos rfl, if_pos rfl]
set_option maxHeartbeats 4000000 in
set_option maxRecDepth 100000 in
theorem n_breaks (l : Launch) (dC : Nat → ClassId) (dI : Nat → Nat → Nat) (h0 : Nat) (v : Nat → Nat) (cI cZ : ClassId) (u : mS) (p0 : Int32) (hp : bw p0 0 11 = true) (hn : bw (u.1 3) 0 80 = true) (hln : ∀ j, j < 96 → bw (u.2 0 j) 0 60 = true) (hcl : ∀ j, j < 5760 → mThing (u.2 2 j) = true → bw (u.2 2 j) 0 79 = true) (hk : ∀ j, j < 80 → u.2 4 j = 3 → bw (u.2 10 j) 0 9 = true) (hpc : ∀ j, j < 80 → bw (u.2 22 j) 0 6 = true) (hsl : ∀ j, j < 480 → ∃ X D : Nat, u.2 24 j = nI X ∧ u.2 26 j = nI D ∧ X + D ≤ 8) (sz : Nat) : Met l yX12_breaks wsX12_breaks ({ frames := 4, cells := 0, slots := 0, locals := 90 }) (va_Pc [.ref h0, .int p0] (fun U => U.heap.size = sz ∧ PW dC dI (mW h0 v cI cZ u) [(cI, .int), (cZ, .boolean)] U ∧ va_D (fun _ => True) (mW h0 v cI cZ u))) (va_Qv (fun u9 : mS => mE u u9 ∧ best (brS u p0 (u.1 3).toNatClampNeg) (wr3 u9)) (fun u9 t => va_P (dC, dI) vwCl (mW h0 v cI cZ u9) t.heap ∧ va_D (va_A (mW h0 v cI cZ u) sz) (mW h0 v cI cZ u9)) (va_A (mW h0 v cI cZ u) sz)) 0 0 (va_A (mW h0 v cI cZ u) sz) := by
  refine Met.ofW (cc := cX12_breaks) (maxL := 5) (ret := none) (by decide) rfl ?_
  intro p e s m args below meth c s₁ B hml hv
  obtain ⟨rfl, hsz, ⟨hP, hK, hN⟩, hD0⟩ := hv
  have hx := B.exec
  have hb := B.bytes
  have hr := B.returns
  have hts := atoms_spec (ws := wsX12_breaks) B.pre
  have hown : s.vm.findClass RX12 = some m.cls := findClass_of_methodNamed B.named
  have hlocks := B.notSynchronized
  subst hsz
  have hD := hD0.self (sz := s.heap.size)
  generalize hAe : va_A (mW h0 v cI cZ u) s.heap.size = A at hD ⊢
  have hA : ∀ q : Nat, s.heap.size ≤ q → A q := fun q h => by rw [← hAe]; exact Or.inr h
  have hS : va_S A s.heap s.heap [] := va_S.rf
  have hl := lv_entry ([.ref h0, .int p0]) (n := 5) (Nat.le_of_ble_eq_true rfl)
  rw [lg_entry_eq]
  generalize (lg_sl ([.ref h0, .int p0]) ++ List.replicate (5 - (lg_sl ([.ref h0, .int p0])).length) Slot.unset).toArray = ls at hl ⊢
  have hl : lv_has ls 5 [(0, .ref h0), (1, .int p0)] := hl
  refine lv_aload_n hx hb dX12_breaks_0 rfl (lv_at hl 0 rfl) ?_
  refine lv_iconst (v := 0) hx hb dX12_breaks_1 (by decide) ?_
  refine va_put (D := (dC, dI)) (ci := 11) (v := .int 0) (ty := .int) (C := RX12) (T := TX12) (N := 52) hx hb hts (by decide +kernel) tyX12 tyX12_ok nmX12 hown hK hP hD hS 0 rfl rfl 49 (by decide) (hts (.fieldLink RX12 228 "PageOneModel" "wrong" "I") (by decide +kernel)) (fun _ h9 => h9) rfl (by decide +kernel) rfl rfl (Nat.le_of_ble_eq_true rfl) dX12_breaks_2 (fun H locs hP hD hS => ?_)
  obtain ⟨u_1, eu_1⟩ : ∃ zz : mS, zz = mset u 49 0 := ⟨_, rfl⟩
  have hP : va_P (dC, dI) vwCl (mW h0 v cI cZ u_1) H := by rw [eu_1]; exact hP
  have hD : va_D A (mW h0 v cI cZ u_1) := by rw [eu_1]; exact hD
  refine lv_aload_n hx hb dX12_breaks_5 rfl (lv_at hl 0 rfl) ?_
  refine lv_iconst (v := (-1)) hx hb dX12_breaks_6 (by decide) ?_
  refine va_put (D := (dC, dI)) (ci := 11) (v := .int (-1)) (ty := .int) (C := RX12) (T := TX12) (N := 52) hx hb hts (by decide +kernel) tyX12 tyX12_ok nmX12 hown hK hP hD hS 0 rfl rfl 50 (by decide) (hts (.fieldLink RX12 231 "PageOneModel" "wrongOne" "I") (by decide +kernel)) (fun _ h9 => h9) rfl (by decide +kernel) rfl rfl (Nat.le_of_ble_eq_true rfl) dX12_breaks_7 (fun H locs hP hD hS => ?_)
  obtain ⟨u_2, eu_2⟩ : ∃ zz : mS, zz = mset u_1 50 (-1) := ⟨_, rfl⟩
  have hP : va_P (dC, dI) vwCl (mW h0 v cI cZ u_2) H := by rw [eu_2]; exact hP
  have hD : va_D A (mW h0 v cI cZ u_2) := by rw [eu_2]; exact hD
  refine lv_aload_n hx hb dX12_breaks_10 rfl (lv_at hl 0 rfl) ?_
  refine lv_iconst (v := (-1)) hx hb dX12_breaks_11 (by decide) ?_
  refine va_put (D := (dC, dI)) (ci := 11) (v := .int (-1)) (ty := .int) (C := RX12) (T := TX12) (N := 52) hx hb hts (by decide +kernel) tyX12 tyX12_ok nmX12 hown hK hP hD hS 0 rfl rfl 51 (by decide) (hts (.fieldLink RX12 234 "PageOneModel" "wrongTwo" "I") (by decide +kernel)) (fun _ h9 => h9) rfl (by decide +kernel) rfl rfl (Nat.le_of_ble_eq_true rfl) dX12_breaks_12 (fun H locs hP hD hS => ?_)
  obtain ⟨u_3, eu_3⟩ : ∃ zz : mS, zz = mset u_2 51 (-1) := ⟨_, rfl⟩
  have hP : va_P (dC, dI) vwCl (mW h0 v cI cZ u_3) H := by rw [eu_3]; exact hP
  have hD : va_D A (mW h0 v cI cZ u_3) := by rw [eu_3]; exact hD
  refine lv_iconst (v := 0) hx hb dX12_breaks_15 (by decide) ?_
  refine lv_istore_n (lv' := [(2, .int 0), (0, .ref h0), (1, .int p0)]) hx hb dX12_breaks_16 rfl hl (by decide) rfl (fun ls hl => ?_)
  have hg : mE u u_3 ∧ best (vTS u p0 0 0) (wr3 u_3) := ⟨by rw [eu_3, eu_2, eu_1]; exact mE_set (mE_set (mE_set (mE_rf u) (Or.inl rfl) _) (Or.inr (Or.inl rfl)) _) (Or.inr (Or.inr rfl)) _, Or.inl ⟨by rw [eu_3, eu_2, eu_1]; exact wr3_0 u, fun t => vTS_0 t⟩⟩
  refine n_br_out (u0 := u) hp hln hcl hk hx hb hml hts hown hN hK (Nat.le_of_ble_eq_true rfl) (Nat.le_of_ble_eq_true rfl) (Nat.le_of_ble_eq_true rfl) (Nat.le_of_ble_eq_true rfl) hA (fun u4 H locs ls hg hP hD hS hl => ?_) 9 0 u_3 _ _ ls (by decide) (by decide) hg hP hD hS (lv_sub hl [0, 1, 2] rfl)
  refine lv_iconst (v := 0) hx hb dX12_breaks_129 (by decide) ?_
  refine lv_istore_n (lv' := [(2, .int 0), (0, .ref h0), (1, .int p0)]) hx hb dX12_breaks_130 rfl hl (by decide) rfl (fun ls hl => ?_)
  obtain ⟨eK, eK2, eK3⟩ := nI_of_bw hn
  have h80 : (80 : Int32).toInt = 80 := rfl
  refine n_br_it (u0 := u) (M := (u.1 3).toNatClampNeg) hp hln hcl hk (by omega) eK hpc hsl hx hb hml hts hown hN hK (Nat.le_of_ble_eq_true rfl) (Nat.le_of_ble_eq_true rfl) (Nat.le_of_ble_eq_true rfl) (Nat.le_of_ble_eq_true rfl) hA (fun u5 H locs ls hg hP hD hS hl => ?_) _ 0 u4 _ _ ls (Nat.zero_le _) (Nat.lt_succ_self _) ⟨hg.1, best_c hg.2 (fun t => ⟨Or.inl, fun q => q.elim id (fun ⟨j, z, _⟩ => absurd z (Nat.not_lt_zero _))⟩)⟩ hP hD hS (lv_sub hl [0, 1, 2] rfl)
  exact W.vret hx hb hr (fun t ht hW => ⟨⟨u5, rfl, hg, by rw [ht]; exact hP, hD⟩, hS.F ht⟩) hS.2.2 dX12_breaks_256
/-- what broken answers -/
def bkX (u : mS) (p wh r : Int32) (u9 : mS) : Prop := mE u u9 ∧ (((¬ bw p 0 11 = true ∨ ¬ bw wh 0 2 = true) ∧ r = (-1)) ∨ (bw p 0 11 = true ∧ bw wh 0 2 = true ∧ ∃ b, best (brS u p (u.1 3).toNatClampNeg) b ∧ r = (if wh = 0 then b.1 else if wh = 1 then b.2.1 else b.2.2)))
set_option maxHeartbeats 4000000 in
set_option maxRecDepth 100000 in
theorem n_broken (l : Launch) (dC : Nat → ClassId) (dI : Nat → Nat → Nat) (h0 : Nat) (v : Nat → Nat) (cI cZ : ClassId) (u : mS) (p0 p1 : Int32) (hn : bw (u.1 3) 0 80 = true) (hln : ∀ j, j < 96 → bw (u.2 0 j) 0 60 = true) (hcl : ∀ j, j < 5760 → mThing (u.2 2 j) = true → bw (u.2 2 j) 0 79 = true) (hk : ∀ j, j < 80 → u.2 4 j = 3 → bw (u.2 10 j) 0 9 = true) (hpc : ∀ j, j < 80 → bw (u.2 22 j) 0 6 = true) (hsl : ∀ j, j < 480 → ∃ X D : Nat, u.2 24 j = nI X ∧ u.2 26 j = nI D ∧ X + D ≤ 8) (sz : Nat) : Met l yX12_broken wsX12_broken ({ frames := 5, cells := 0, slots := 0, locals := 114 }) (va_Pc [.ref h0, .int p0, .int p1] (fun U => U.heap.size = sz ∧ PW dC dI (mW h0 v cI cZ u) [(cI, .int), (cZ, .boolean)] U ∧ va_D (fun _ => True) (mW h0 v cI cZ u))) (va_Qi (fun (r : Int32) (u9 : mS) => bkX u p0 p1 r u9) (fun u9 t => va_P (dC, dI) vwCl (mW h0 v cI cZ u9) t.heap ∧ va_D (va_A (mW h0 v cI cZ u) sz) (mW h0 v cI cZ u9)) (va_A (mW h0 v cI cZ u) sz)) 0 0 (va_A (mW h0 v cI cZ u) sz) := by
  refine Met.ofW (cc := cX12_broken) (maxL := 3) (ret := (some .int)) (by decide) rfl ?_
  intro p e s m args below meth c s₁ B hml hv
  obtain ⟨rfl, hsz, ⟨hP, hK, hN⟩, hD0⟩ := hv
  have hx := B.exec
  have hb := B.bytes
  have hr := B.returns
  have hts := atoms_spec (ws := wsX12_broken) B.pre
  have hown : s.vm.findClass RX12 = some m.cls := findClass_of_methodNamed B.named
  have hlocks := B.notSynchronized
  subst hsz
  have hD := hD0.self (sz := s.heap.size)
  generalize hAe : va_A (mW h0 v cI cZ u) s.heap.size = A at hD ⊢
  have hA : ∀ q : Nat, s.heap.size ≤ q → A q := fun q h => by rw [← hAe]; exact Or.inr h
  have hS : va_S A s.heap s.heap [] := va_S.rf
  have hl := lv_entry ([.ref h0, .int p0, .int p1]) (n := 3) (Nat.le_of_ble_eq_true rfl)
  rw [lg_entry_eq]
  generalize (lg_sl ([.ref h0, .int p0, .int p1]) ++ List.replicate (3 - (lg_sl ([.ref h0, .int p0, .int p1])).length) Slot.unset).toArray = ls at hl ⊢
  have hl : lv_has ls 3 [(0, .ref h0), (1, .int p0), (2, .int p1)] := hl
  refine lv_iload_n hx hb dX12_broken_0 rfl (lv_at hl 1 rfl) ?_
  refine vp_callSi (va_runS (As := [.int p0]) (rest := []) ⟨hx, hb, hml, hown, hts⟩ (m_isPage l dC dI p0) (va_cwS 1 hts gX12_broken_X12_isPage rfl rfl rfl (by decide +kernel) ⟨Nat.le_of_ble_eq_true rfl, Nat.le_of_ble_eq_true rfl⟩) ⟨pw_fb, fun U hU hW => ⟨rfl, pw_to hU hW (hP.sub (ws' := []) [] rfl) (hK.sub (tys' := []) [] rfl) hN⟩⟩ rfl rfl hl.1 rfl (lv_room (Nat.le_of_ble_eq_true rfl)) dX12_broken_1 ⟨Nat.le_of_ble_eq_true rfl, Nat.le_of_ble_eq_true rfl⟩).run (fun r hw => ?_)
  rcases Bool.eq_false_or_eq_true (bw p0 0 11) with b_1 | b_1
  ·
    obtain rfl : r = 1 := b_t hw b_1
    refine lv_if_eq (tgt := 16) hx hb dX12_broken_4 (by decide) (fun c_2 => absurd c_2 (by decide)) (fun c_2 => ?_)
    refine lv_iload_n hx hb dX12_broken_7 rfl (lv_at hl 2 rfl) ?_
    refine lv_iconst (v := 0) hx hb dX12_broken_8 (by decide) ?_
    refine lv_iconst (v := 2) hx hb dX12_broken_9 (by decide) ?_
    refine vp_callSi (va_runS (As := [.int p1, .int 0, .int 2]) (rest := []) ⟨hx, hb, hml, hown, hts⟩ (m_in l dC dI p1 0 2) (va_cwS 3 hts gX12_broken_X12_in rfl rfl rfl (by decide +kernel) ⟨Nat.le_of_ble_eq_true rfl, Nat.le_of_ble_eq_true rfl⟩) ⟨pw_fb, fun U hU hW => ⟨rfl, pw_to hU hW (hP.sub (ws' := []) [] rfl) (hK.sub (tys' := []) [] rfl) hN⟩⟩ rfl rfl hl.1 rfl (lv_room (Nat.le_of_ble_eq_true rfl)) dX12_broken_10 ⟨Nat.le_of_ble_eq_true rfl, Nat.le_of_ble_eq_true rfl⟩).run (fun r hw => ?_)
    rcases Bool.eq_false_or_eq_true (bw p1 0 2) with b_3 | b_3
    ·
      obtain rfl : r = 1 := b_t hw b_3
      refine lv_if_ne (tgt := 18) hx hb dX12_broken_13 (by decide) (fun c_4 => ?_) (fun c_4 => absurd c_4 (by decide))
      refine lv_aload_n hx hb dX12_broken_18 rfl (lv_at hl 0 rfl) ?_
      refine lv_iload_n hx hb dX12_broken_19 rfl (lv_at hl 1 rfl) ?_
      have hFc := fr_all hD hS hA
      refine va_callv (va_runV (As := [.int p0]) (rest := []) ⟨hx, hb, hml, hown, hts⟩ (n_breaks l dC dI h0 v cI cZ u p0 b_1 hn hln hcl hk hpc hsl s.heap.size) (cwV 1 hts gX12_broken_X12_breaks rfl rfl rfl (by decide +kernel) ⟨Nat.le_of_ble_eq_true rfl, Nat.le_of_ble_eq_true rfl⟩) ⟨gw_fb, va_recv hK hP (ci := 11) (q0 := 0) rfl rfl, fun U hU hW => ⟨rfl, by rw [hU], pw_to hU hW hP hK hN, hD.weaken (fun _ _ _ _ => trivial)⟩⟩ rfl rfl hl.1 rfl (lv_room (Nat.le_of_ble_eq_true rfl)) dX12_broken_20 ⟨Nat.le_of_ble_eq_true rfl, Nat.le_of_ble_eq_true rfl⟩) hS (fun q _ h => hFc q h) hFc (fun u_5 t H1 locs ht hvm hw hB hz1 hk1 hS => ?_)
      obtain ⟨hP, hD1⟩ := hB
      rw [ht] at hP
      have hD := hD1.weaken (fun _ q _ h => hFc q.1 h)
      generalize H1 = H at hP hS ⊢
      have hg : mE u u_5 := hw.1
      have hbr9 := hw.2
      refine lv_iload_n hx hb dX12_broken_23 rfl (lv_at hl 2 rfl) ?_
      refine lv_if_ne (tgt := 34) hx hb dX12_broken_24 (by decide) (fun c_6 => ?_) (fun c_6 => ?_)
      ·
        refine lv_iload_n hx hb dX12_broken_34 rfl (lv_at hl 2 rfl) ?_
        refine lv_iconst (v := 1) hx hb dX12_broken_35 (by decide) ?_
        refine lv_icmp_ne (tgt := 46) hx hb dX12_broken_36 (by decide) (fun c_7 => ?_) (fun c_7 => ?_)
        ·
          refine lv_aload_n hx hb dX12_broken_46 rfl (lv_at hl 0 rfl) ?_
          refine va_get (D := (dC, dI)) (ci := 11) (v := .int (u_5.1 51)) (C := RX12) (T := TX12) (N := 52) hx hb hts (by decide +kernel) hown hK hP 0 rfl rfl 51 (by decide) (hts (.fieldLink RX12 234 "PageOneModel" "wrongTwo" "I") (by decide +kernel)) (fun _ h9 => h9) rfl dX12_broken_47 ?_
          exact W.iret (v := (u_5.1 51)) hx hb hr (fun t ht hW => ⟨⟨(u_5.1 51), u_5, rfl, ⟨hg, Or.inr ⟨b_1, b_3, _, hbr9, by first | (rw [if_neg c_6, if_pos c_7]; rfl) | (rw [if_neg c_6, if_neg c_7]; rfl)⟩⟩, by rw [ht]; exact hP, hD⟩, hS.F ht⟩) hS.2.2 dX12_broken_50
        ·
          refine lv_aload_n hx hb dX12_broken_39 rfl (lv_at hl 0 rfl) ?_
          refine va_get (D := (dC, dI)) (ci := 11) (v := .int (u_5.1 50)) (C := RX12) (T := TX12) (N := 52) hx hb hts (by decide +kernel) hown hK hP 0 rfl rfl 50 (by decide) (hts (.fieldLink RX12 231 "PageOneModel" "wrongOne" "I") (by decide +kernel)) (fun _ h9 => h9) rfl dX12_broken_40 ?_
          refine lv_goto (tgt := 50) hx hb dX12_broken_43 (by decide) ?_
          exact W.iret (v := (u_5.1 50)) hx hb hr (fun t ht hW => ⟨⟨(u_5.1 50), u_5, rfl, ⟨hg, Or.inr ⟨b_1, b_3, _, hbr9, by first | (rw [if_neg c_6, if_pos c_7]; rfl) | (rw [if_neg c_6, if_neg c_7]; rfl)⟩⟩, by rw [ht]; exact hP, hD⟩, hS.F ht⟩) hS.2.2 dX12_broken_50
      ·
        refine lv_aload_n hx hb dX12_broken_27 rfl (lv_at hl 0 rfl) ?_
        refine va_get (D := (dC, dI)) (ci := 11) (v := .int (u_5.1 49)) (C := RX12) (T := TX12) (N := 52) hx hb hts (by decide +kernel) hown hK hP 0 rfl rfl 49 (by decide) (hts (.fieldLink RX12 228 "PageOneModel" "wrong" "I") (by decide +kernel)) (fun _ h9 => h9) rfl dX12_broken_28 ?_
        refine lv_goto (tgt := 50) hx hb dX12_broken_31 (by decide) ?_
        exact W.iret (v := (u_5.1 49)) hx hb hr (fun t ht hW => ⟨⟨(u_5.1 49), u_5, rfl, ⟨hg, Or.inr ⟨b_1, b_3, _, hbr9, by rw [if_pos c_6]; rfl⟩⟩, by rw [ht]; exact hP, hD⟩, hS.F ht⟩) hS.2.2 dX12_broken_50
    ·
      obtain rfl : r = 0 := b_f hw b_3
      refine lv_if_ne (tgt := 18) hx hb dX12_broken_13 (by decide) (fun c_8 => absurd (by decide) c_8) (fun c_8 => ?_)
      refine lv_iconst (v := (-1)) hx hb dX12_broken_16 (by decide) ?_
      exact W.iret (v := (-1)) hx hb hr (fun t ht hW => ⟨⟨(-1), u, rfl, ⟨mE_rf u, Or.inl ⟨Or.inr (bne b_3), rfl⟩⟩, by rw [ht]; exact hP, hD⟩, hS.F ht⟩) hS.2.2 dX12_broken_17
  ·
    obtain rfl : r = 0 := b_f hw b_1
    refine lv_if_eq (tgt := 16) hx hb dX12_broken_4 (by decide) (fun c_9 => ?_) (fun c_9 => absurd (by decide) c_9)
    refine lv_iconst (v := (-1)) hx hb dX12_broken_16 (by decide) ?_
    exact W.iret (v := (-1)) hx hb hr (fun t ht hW => ⟨⟨(-1), u, rfl, ⟨mE_rf u, Or.inl ⟨Or.inl (bne b_1), rfl⟩⟩, by rw [ht]; exact hP, hD⟩, hS.F ht⟩) hS.2.2 dX12_broken_17
