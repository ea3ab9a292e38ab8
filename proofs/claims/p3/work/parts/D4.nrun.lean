/-- behind the piece in slot K -/
def bhK (u : mS) (P X Y : Nat) (K : Int32) : Prop := u.2 23 K.toNatClampNeg < nI P ∨ (nI P = u.2 23 K.toNatClampNeg ∧ (u.2 24 K.toNatClampNeg < nI X ∨ (nI X = u.2 24 K.toNatClampNeg ∧ ¬ nI Y < u.2 25 K.toNatClampNeg + u.2 27 K.toNatClampNeg)))
def bhR (u : mS) (p0 : Int32) (P X Y : Nat) : Prop := u.2 22 p0.toNatClampNeg ≤ 0 ∨ bhK u P X Y (6 * p0 + u.2 22 p0.toNatClampNeg - 1)
/-- the lines fit -/
def rX (w : mS) (p0 : Int32) (P : Nat) (x : Int32) : Prop := runG w p0 x ∧ ¬ w.2 15 p0.toNatClampNeg < mFrom w p0 x.toNatClampNeg + mTakes w p0 x ∧ ∀ t, t < (mTakes w p0 x).toNatClampNeg → ¬ w.2 1 (nI P).toNatClampNeg < w.2 16 (80 * p0 + nI ((mFrom w p0 x.toNatClampNeg).toNatClampNeg + t)).toNatClampNeg
def runX (u : mS) (p0 : Int32) (P X Y N : Nat) : Prop := ¬ u.2 22 p0.toNatClampNeg = 6 ∧ bhR u p0 P X Y ∧ rX (mStand u p0 P X Y 1 N) p0 P (u.2 22 p0.toNatClampNeg)
theorem bh_y {u : mS} {p0 K : Int32} {P X Y : Nat} (e : K = 6 * p0 + u.2 22 p0.toNatClampNeg - 1) (h : bhK u P X Y K) : bhR u p0 P X Y := Or.inr (by rw [← e]; exact h)
theorem bh_n {u : mS} {p0 K : Int32} {P X Y : Nat} (e : K = 6 * p0 + u.2 22 p0.toNatClampNeg - 1) (hz : ¬ u.2 22 p0.toNatClampNeg ≤ 0) (h : ¬ bhK u P X Y K) : ¬ bhR u p0 P X Y := fun q => q.elim hz (fun q => h (by rw [e]; exact q))
theorem rX_i {w : mS} {p0 x g9 : Int32} {P T a9 : Nat} (hG : runG w p0 x) (eT : mTakes w p0 x = nI T) (ea : nI a9 = mFrom w p0 x.toNatClampNeg) (hT : T ≤ 80) (ha : a9 ≤ 400) (hcl : ¬ w.2 15 p0.toNatClampNeg < nI a9 + nI T) (hq : (g9 = 1 ∧ ∀ t, t < T → ¬ w.2 1 (nI P).toNatClampNeg < w.2 16 (80 * p0 + nI (a9 + t)).toNatClampNeg) ∨ (g9 = 0 ∧ ∃ t, t < T ∧ w.2 1 (nI P).toNatClampNeg < w.2 16 (80 * p0 + nI (a9 + t)).toNatClampNeg)) : (g9 = 0 ∧ ¬ rX w p0 P x) ∨ (g9 = 1 ∧ rX w p0 P x) := by
  unfold rX
  rw [eT, ← ea, nI_clamp (n := T) (by omega), nI_clamp (n := a9) (by omega)]
  rcases hq with ⟨h1, h2⟩ | ⟨h1, t, h2, h3⟩
  · exact Or.inr ⟨h1, hG, hcl, h2⟩
  · exact Or.inl ⟨h1, fun r => r.2.2 t h2 h3⟩
set_option maxHeartbeats 4000000 in
set_option maxRecDepth 100000 in
theorem n_mr_loop {p : Program} {l : Launch} {e : Env} {R : Room} {s : State} {m : MethodId} {args : Array Value} {below : List Frame} {meth : Method} {c : Code} {Q : State → Prop} {cells slots : Nat} {dC : Nat → ClassId} {dI : Nat → Nat → Nat} {h0 : Nat} {v : Nat → Nat} {cI cZ : ClassId} {H : Heap} {locs : List Loc} {u : mS} (hx : p.tables.exec = Jvm.exec) (hb : c.code = cX12_mayRun) (hml : c.maxLocals = 10) (hts : ∀ w ∈ wsX12_mayRun, w.before args s = true) (hown : s.vm.findClass RX12 = some m.cls) (hN : NN s) (hK : va_K (dC, dI) vwCl [(cI, .int), (cZ, .boolean)] s) (hRf : 1 ≤ R.frames) (hRl : 24 ≤ R.locals) (hRc : cells ≤ R.cells) (hRs : slots ≤ R.slots) (hP : va_P (dC, dI) vwCl (mW h0 v cI cZ u) H) {p0 x6 : Int32} {P X Y N a9 T : Nat} (hi0 : bw p0 0 79 = true) (hPP : P < 12) (hl5 : bw x6 0 5 = true) (hc6 : bw (u.2 22 p0.toNatClampNeg) 0 6 = true) (eT : mTakes u p0 x6 = nI T) (ha8 : a9 + T ≤ 80) (kx271 : ∀ (g9 : Int32) (ls : Array Slot), ((g9 = 1 ∧ ∀ t, t < T → (¬ u.2 1 (nI P).toNatClampNeg < u.2 16 (80 * p0 + nI (a9 + t)).toNatClampNeg)) ∨ (g9 = 0 ∧ ∃ t, t < T ∧ (u.2 1 (nI P).toNatClampNeg < u.2 16 (80 * p0 + nI (a9 + t)).toNatClampNeg))) → lv_has ls 10 [(7, .int g9), (0, .ref h0), (1, .int p0), (2, .int (nI P)), (3, .int (nI X)), (4, .int (nI Y)), (5, .int (nI N))] → W p l e R s m args below meth c H locs cells slots Q (F0 m 271 ls [])) : ∀ (k i : Nat) (g : Int32) (ls : Array Slot), i ≤ T → T - i < k → ((g = 1 ∧ ∀ t, t < i → (¬ u.2 1 (nI P).toNatClampNeg < u.2 16 (80 * p0 + nI (a9 + t)).toNatClampNeg)) ∨ (g = 0 ∧ ∃ t, t < T ∧ (u.2 1 (nI P).toNatClampNeg < u.2 16 (80 * p0 + nI (a9 + t)).toNatClampNeg))) → lv_has ls 10 [(9, .int (nI (a9 + i))), (8, .int (nI a9)), (7, .int g), (6, .int x6), (0, .ref h0), (1, .int p0), (2, .int (nI P)), (3, .int (nI X)), (4, .int (nI Y)), (5, .int (nI N))] → W p l e R s m args below meth c H locs cells slots Q (F0 m 217 ls []) := by
  intro k
  induction k with
  | zero => intro i g ls h1 h2; exact absurd h2 (Nat.not_lt_zero _)
  | succ k ih =>
    intro i g ls hi hk hg hl
    refine lv_iload hx hb dX12_mayRun_217 (lv_at hl 0 rfl) ?_
    refine lv_iload hx hb dX12_mayRun_219 (lv_at hl 1 rfl) ?_
    refine lv_aload_n hx hb dX12_mayRun_221 rfl (lv_at hl 4 rfl) ?_
    refine lv_iload_n hx hb dX12_mayRun_222 rfl (lv_at hl 5 rfl) ?_
    refine lv_iload hx hb dX12_mayRun_223 (lv_at hl 3 rfl) ?_
    refine vp_callSi (va_runV (As := [.int p0, .int x6]) (rest := [.int (nI a9), .int (nI (a9 + i))]) ⟨hx, hb, hml, hown, hts⟩ (m_takes l dC dI h0 v cI cZ u p0 x6 hi0 hl5 hc6) (cwV 2 hts gX12_mayRun_X12_takes rfl rfl rfl (by decide +kernel) ⟨Nat.le_trans (Nat.le_of_ble_eq_true rfl) hRf, Nat.le_trans (Nat.le_of_ble_eq_true rfl) hRl⟩) ⟨pw_fb, va_recv hK hP (ci := 11) (q0 := 0) rfl rfl, fun U hU hW => ⟨rfl, pw_to hU hW hP hK hN⟩⟩ rfl rfl hl.1 rfl (lv_room (Nat.le_of_ble_eq_true rfl)) dX12_mayRun_225 ⟨hRc, hRs⟩).run (fun r hw => ?_)
    obtain rfl : r = nI T := hw.trans eT
    refine lv_iadd hx hb dX12_mayRun_228 ?_
    refine lv_icmp_ge (tgt := 271) hx hb dX12_mayRun_229 (by decide) (fun c_1 => ?_) (fun c_1 => ?_)
    ·
      have hie : i = T := by have := lp_eq (nI_add a9 T) (by omega) (by omega) c_1; omega
      exact kx271 _ ls (by rw [hie] at hg; exact hg) (lv_sub hl [2, 4, 5, 6, 7, 8, 9] rfl)
    ·
      have hlt : i < T := by have := lp_lt (nI_add a9 T) (by omega) (by omega) c_1; omega
      refine lv_iload hx hb dX12_mayRun_232 (lv_at hl 2 rfl) ?_
      refine lv_if_eq (tgt := 271) hx hb dX12_mayRun_234 (by decide) (fun c_2 => ?_) (fun c_2 => ?_)
      ·
        exact kx271 _ ls (hg.elim (fun h => absurd (h.1.symm.trans c_2) (by decide)) Or.inr) (lv_sub hl [2, 4, 5, 6, 7, 8, 9] rfl)
      ·
        refine lv_aload_n hx hb dX12_mayRun_237 rfl (lv_at hl 4 rfl) ?_
        refine va_get (D := (dC, dI)) (ci := 11) (v := .ref (v 16)) (C := RX12) (T := TX12) (N := 52) hx hb hts (by decide +kernel) hown hK hP 0 rfl rfl 16 (by decide) (hts (.fieldLink RX12 55 "PageOneModel" "width" "[I") (by decide +kernel)) (fun _ h9 => h9) rfl dX12_mayRun_238 ?_
        refine lv_bipush (v := 80) hx hb dX12_mayRun_241 (by decide) ?_
        refine lv_iload_n hx hb dX12_mayRun_243 rfl (lv_at hl 5 rfl) ?_
        refine lv_imul hx hb dX12_mayRun_244 ?_
        refine lv_iload hx hb dX12_mayRun_245 (lv_at hl 0 rfl) ?_
        refine lv_iadd hx hb dX12_mayRun_247 ?_
        refine va_iald hx hb hK hP 16 0 rfl rfl (vW hi0 (by omega)) dX12_mayRun_248 ?_
        refine lv_aload_n hx hb dX12_mayRun_249 rfl (lv_at hl 4 rfl) ?_
        refine va_get (D := (dC, dI)) (ci := 11) (v := .ref (v 1)) (C := RX12) (T := TX12) (N := 52) hx hb hts (by decide +kernel) hown hK hP 0 rfl rfl 1 (by decide) (hts (.fieldLink RX12 13 "PageOneModel" "measure" "[I") (by decide +kernel)) (fun _ h9 => h9) rfl dX12_mayRun_250 ?_
        refine lv_iload_n hx hb dX12_mayRun_253 rfl (lv_at hl 6 rfl) ?_
        refine va_iald hx hb hK hP 2 0 rfl rfl (vp_in_nI hPP (by decide)) dX12_mayRun_254 ?_
        refine lv_icmp_gt (tgt := 262) hx hb dX12_mayRun_255 (by decide) (fun c_3 => ?_) (fun c_3 => ?_)
        ·
          refine lv_iconst (v := 0) hx hb dX12_mayRun_262 (by decide) ?_
          refine lv_istore (lv' := [(7, .int 0), (9, .int (nI (a9 + i))), (8, .int (nI a9)), (6, .int x6), (0, .ref h0), (1, .int p0), (2, .int (nI P)), (3, .int (nI X)), (4, .int (nI Y)), (5, .int (nI N))]) hx hb dX12_mayRun_263 hl (by decide) rfl (fun ls hl => ?_)
          refine lv_iinc (v := (nI (a9 + i + 1))) (lv' := [(9, .int (nI (a9 + i + 1))), (7, .int 0), (8, .int (nI a9)), (6, .int x6), (0, .ref h0), (1, .int p0), (2, .int (nI P)), (3, .int (nI X)), (4, .int (nI Y)), (5, .int (nI N))]) hx hb dX12_mayRun_265 hl (k := 1) rfl (nI_1 _) (by decide) rfl (fun ls hl => ?_)
          refine lv_goto (tgt := 217) hx hb dX12_mayRun_268 (by decide) ?_
          exact ih (i + 1) _ ls (by omega) (by omega) (Or.inr ⟨rfl, i, hlt, c_3⟩) (lv_sub hl [0, 2, 1, 3, 4, 5, 6, 7, 8, 9] rfl)
        ·
          refine lv_iconst (v := 1) hx hb dX12_mayRun_258 (by decide) ?_
          refine lv_goto (tgt := 263) hx hb dX12_mayRun_259 (by decide) ?_
          refine lv_istore (lv' := [(7, .int 1), (9, .int (nI (a9 + i))), (8, .int (nI a9)), (6, .int x6), (0, .ref h0), (1, .int p0), (2, .int (nI P)), (3, .int (nI X)), (4, .int (nI Y)), (5, .int (nI N))]) hx hb dX12_mayRun_263 hl (by decide) rfl (fun ls hl => ?_)
          refine lv_iinc (v := (nI (a9 + i + 1))) (lv' := [(9, .int (nI (a9 + i + 1))), (7, .int 1), (8, .int (nI a9)), (6, .int x6), (0, .ref h0), (1, .int p0), (2, .int (nI P)), (3, .int (nI X)), (4, .int (nI Y)), (5, .int (nI N))]) hx hb dX12_mayRun_265 hl (k := 1) rfl (nI_1 _) (by decide) rfl (fun ls hl => ?_)
          refine lv_goto (tgt := 217) hx hb dX12_mayRun_268 (by decide) ?_
          exact ih (i + 1) _ ls (by omega) (by omega) (Or.inl ⟨rfl, fr_1 (hg.resolve_right (fun h => c_2 h.1)).2 c_3⟩) (lv_sub hl [0, 2, 1, 3, 4, 5, 6, 7, 8, 9] rfl)
set_option maxHeartbeats 4000000 in
set_option maxRecDepth 100000 in
theorem n_mayRun (l : Launch) (dC : Nat → ClassId) (dI : Nat → Nat → Nat) (h0 : Nat) (v : Nat → Nat) (cI cZ : ClassId) (u : mS) (p0 : Int32) (P X Y N : Nat) (hPP : P < 12) (hXW : X + 1 ≤ 8) (hYN : Y + N ≤ 60) (hi : bw p0 0 79 = true) (hc : bw (u.2 22 p0.toNatClampNeg) 0 6 = true) (hcm : bw (u.2 15 p0.toNatClampNeg) 0 80 = true) (hpr : ¬ u.2 22 p0.toNatClampNeg = 0 → vp_in (6 * p0 + u.2 22 p0.toNatClampNeg - 1) 480) (hfr : ¬ u.2 22 p0.toNatClampNeg = 6 → runG (mStand u p0 P X Y 1 N) p0 (u.2 22 p0.toNatClampNeg) → 0 ≤ (mFrom (mStand u p0 P X Y 1 N) p0 (u.2 22 p0.toNatClampNeg).toNatClampNeg).toInt ∧ (mFrom (mStand u p0 P X Y 1 N) p0 (u.2 22 p0.toNatClampNeg).toNatClampNeg).toInt ≤ 400 ∧ (mTakes (mStand u p0 P X Y 1 N) p0 (u.2 22 p0.toNatClampNeg)).toInt ≤ 60) (sz : Nat) : Met l yX12_mayRun wsX12_mayRun ({ frames := 3, cells := 0, slots := 0, locals := 77 }) (va_Pc [.ref h0, .int p0, .int (nI P), .int (nI X), .int (nI Y), .int (nI N)] (fun U => U.heap.size = sz ∧ PW dC dI (mW h0 v cI cZ u) [(cI, .int), (cZ, .boolean)] U ∧ va_D (fun _ => True) (mW h0 v cI cZ u))) (va_Qi (fun (r : Int32) (u9 : mS) => (r = 0 ∧ u9 = u ∧ ¬ runX u p0 P X Y N) ∨ (((r = 0 ∧ ¬ runX u p0 P X Y N) ∨ (r = 1 ∧ runX u p0 P X Y N)) ∧ ¬ u.2 22 p0.toNatClampNeg = 6 ∧ u9 = mUnstand (mStand u p0 P X Y 1 N) p0 P X Y 1 N)) (fun u9 t => va_P (dC, dI) vwCl (mW h0 v cI cZ u9) t.heap ∧ va_D (va_A (mW h0 v cI cZ u) sz) (mW h0 v cI cZ u9)) (va_A (mW h0 v cI cZ u) sz)) 0 0 (va_A (mW h0 v cI cZ u) sz) := by
  refine Met.ofW (cc := cX12_mayRun) (maxL := 10) (ret := (some .boolean)) (by decide) rfl ?_
  intro p e s m args below meth c s₁ B hml hv
  obtain ⟨rfl, hsz, ⟨hP, hK, hN⟩, hD0⟩ := hv
  have hx := B.exec
  have hb := B.bytes
  have hr := B.returns
  have hts := atoms_spec (ws := wsX12_mayRun) B.pre
  have hown : s.vm.findClass RX12 = some m.cls := findClass_of_methodNamed B.named
  have hlocks := B.notSynchronized
  subst hsz
  have hD := hD0.self (sz := s.heap.size)
  generalize hAe : va_A (mW h0 v cI cZ u) s.heap.size = A at hD ⊢
  have hA : ∀ q : Nat, s.heap.size ≤ q → A q := fun q h => by rw [← hAe]; exact Or.inr h
  have hS : va_S A s.heap s.heap [] := va_S.rf
  have hl := lv_entry ([.ref h0, .int p0, .int (nI P), .int (nI X), .int (nI Y), .int (nI N)]) (n := 10) (Nat.le_of_ble_eq_true rfl)
  rw [lg_entry_eq]
  generalize (lg_sl ([.ref h0, .int p0, .int (nI P), .int (nI X), .int (nI Y), .int (nI N)]) ++ List.replicate (10 - (lg_sl ([.ref h0, .int p0, .int (nI P), .int (nI X), .int (nI Y), .int (nI N)])).length) Slot.unset).toArray = ls at hl ⊢
  have hl : lv_has ls 10 [(0, .ref h0), (1, .int p0), (2, .int (nI P)), (3, .int (nI X)), (4, .int (nI Y)), (5, .int (nI N))] := hl
  refine lv_aload_n hx hb dX12_mayRun_0 rfl (lv_at hl 0 rfl) ?_
  refine va_get (D := (dC, dI)) (ci := 11) (v := .ref (v 22)) (C := RX12) (T := TX12) (N := 52) hx hb hts (by decide +kernel) hown hK hP 0 rfl rfl 22 (by decide) (hts (.fieldLink RX12 74 "PageOneModel" "pieces" "[I") (by decide +kernel)) (fun _ h9 => h9) rfl dX12_mayRun_1 ?_
  refine lv_iload_n hx hb dX12_mayRun_4 rfl (lv_at hl 1 rfl) ?_
  refine va_iald hx hb hK hP 22 0 rfl rfl (vin hi (by decide)) dX12_mayRun_5 ?_
  refine lv_bipush (v := 6) hx hb dX12_mayRun_6 (by decide) ?_
  refine lv_icmp_ne (tgt := 13) hx hb dX12_mayRun_8 (by decide) (fun c_1 => ?_) (fun c_1 => ?_)
  ·
    have h6 := c_1
    refine w_cut (X := fun R cells slots Q args => ∀ (ls : Array Slot), bhR u p0 P X Y → lv_has ls 10 [(0, .ref h0), (1, .int p0), (2, .int (nI P)), (3, .int (nI X)), (4, .int (nI Y)), (5, .int (nI N))] → W p l e R s m args below meth c s.heap [] cells slots Q (F0 m 115 ls [])) ?_ (fun kJ115 => ?_)
    ·
      intro ls hbh hl
      refine lv_aload_n hx hb dX12_mayRun_115 rfl (lv_at hl 0 rfl) ?_
      refine lv_iload_n hx hb dX12_mayRun_116 rfl (lv_at hl 1 rfl) ?_
      refine lv_iload_n hx hb dX12_mayRun_117 rfl (lv_at hl 2 rfl) ?_
      refine lv_iload_n hx hb dX12_mayRun_118 rfl (lv_at hl 3 rfl) ?_
      refine lv_iload hx hb dX12_mayRun_119 (lv_at hl 4 rfl) ?_
      refine lv_iconst (v := 1) hx hb dX12_mayRun_121 (by decide) ?_
      refine lv_iload hx hb dX12_mayRun_122 (lv_at hl 5 rfl) ?_
      have hFc := fr_all hD hS hA
      refine va_callv (va_runV (As := [.int p0, .int (nI P), .int (nI X), .int (nI Y), .int 1, .int (nI N)]) (rest := []) ⟨hx, hb, hml, hown, hts⟩ (m_stand l dC dI h0 v cI cZ u p0 P X Y 1 N hPP hXW hYN hi (q05 hc h6) s.heap.size) (cwV 6 hts gX12_mayRun_X12_stand rfl rfl rfl (by decide +kernel) ⟨Nat.le_of_ble_eq_true rfl, Nat.le_of_ble_eq_true rfl⟩) ⟨gw_fb, va_recv hK hP (ci := 11) (q0 := 0) rfl rfl, fun U hU hW => ⟨rfl, by rw [hU], pw_to hU hW hP hK hN, hD.weaken (fun _ _ _ _ => trivial)⟩⟩ rfl rfl hl.1 rfl (lv_room (Nat.le_of_ble_eq_true rfl)) dX12_mayRun_124 ⟨Nat.le_of_ble_eq_true rfl, Nat.le_of_ble_eq_true rfl⟩) hS (fun q _ h => hFc q h) hFc (fun u_2 t H1 locs ht hvm hw hB hz1 hk1 hS => ?_)
      obtain ⟨hP, hD1⟩ := hB
      rw [ht] at hP
      have hD := hD1.weaken (fun _ q _ h => hFc q.1 h)
      generalize H1 = H at hP hS ⊢
      have eu_2 := hw
      refine lv_aload_n hx hb dX12_mayRun_127 rfl (lv_at hl 0 rfl) ?_
      refine va_get (D := (dC, dI)) (ci := 11) (v := .ref (v 22)) (C := RX12) (T := TX12) (N := 52) hx hb hts (by decide +kernel) hown hK hP 0 rfl rfl 22 (by decide) (hts (.fieldLink RX12 74 "PageOneModel" "pieces" "[I") (by decide +kernel)) (fun _ h9 => h9) rfl dX12_mayRun_128 ?_
      refine lv_iload_n hx hb dX12_mayRun_131 rfl (lv_at hl 1 rfl) ?_
      refine va_iald hx hb hK hP 22 0 rfl rfl (vin hi (by decide)) dX12_mayRun_132 ?_
      refine lv_iconst (v := 1) hx hb dX12_mayRun_133 (by decide) ?_
      refine lv_isub hx hb dX12_mayRun_134 ?_
      refine lv_topi (fun x_3 ex_3 => ?_)
      refine lv_istore (lv' := [(6, .int x_3), (0, .ref h0), (1, .int p0), (2, .int (nI P)), (3, .int (nI X)), (4, .int (nI Y)), (5, .int (nI N))]) hx hb dX12_mayRun_135 hl (by decide) rfl (fun ls hl => ?_)
      have hex : x_3 = u.2 22 p0.toNatClampNeg := by rw [ex_3, eu_2, mStand_22, addsub1]
      have hl5 : bw x_3 0 5 = true := by rw [hex]; exact q05 hc h6
      have hc6 : bw (u_2.2 22 p0.toNatClampNeg) 0 6 = true := by rw [eu_2, mStand_22]; exact q16 (q05 hc h6)
      have hfr2 : runG u_2 p0 x_3 → 0 ≤ (mFrom u_2 p0 x_3.toNatClampNeg).toInt ∧ (mFrom u_2 p0 x_3.toNatClampNeg).toInt ≤ 400 ∧ (mTakes u_2 p0 x_3).toInt ≤ 60 := by rw [hex, eu_2]; exact hfr h6
      refine w_cut (X := fun R cells slots Q args => ∀ (g9 : Int32) (ls : Array Slot), ((g9 = 0 ∧ ¬ rX u_2 p0 P x_3) ∨ (g9 = 1 ∧ rX u_2 p0 P x_3)) → lv_has ls 10 [(7, .int g9), (0, .ref h0), (1, .int p0), (2, .int (nI P)), (3, .int (nI X)), (4, .int (nI Y)), (5, .int (nI N))] → W p l e R s m args below meth c H locs cells slots Q (F0 m 271 ls [])) ?_ (fun kJ271 => ?_)
      ·
        intro g9 ls hg9 hl
        refine lv_aload_n hx hb dX12_mayRun_271 rfl (lv_at hl 1 rfl) ?_
        refine lv_iload_n hx hb dX12_mayRun_272 rfl (lv_at hl 2 rfl) ?_
        obtain ⟨e23_9, e24_9, e25_9, e26_9, e27_9⟩ := mStand_sl u p0 P X Y 1 N
        rw [← eu_2] at e23_9 e24_9 e25_9 e26_9 e27_9
        have hq9 : bw (u_2.2 22 p0.toNatClampNeg - 1) 0 5 = true := by rw [eu_2, mStand_22, addsub1]; exact q05 hc h6
        have hFc := fr_all hD hS hA
        refine va_callv (va_runV (As := [.int p0]) (rest := []) ⟨hx, hb, hml, hown, hts⟩ (m_unstand l dC dI h0 v cI cZ u_2 p0 P X Y 1 N hPP hXW hYN hi hq9 e23_9 e24_9 e25_9 e26_9 e27_9 H.size) (cwV 1 hts gX12_mayRun_X12_unstand rfl rfl rfl (by decide +kernel) ⟨Nat.le_of_ble_eq_true rfl, Nat.le_of_ble_eq_true rfl⟩) ⟨gw_fb, va_recv hK hP (ci := 11) (q0 := 0) rfl rfl, fun U hU hW => ⟨rfl, by rw [hU], pw_to hU hW hP hK hN, hD.weaken (fun _ _ _ _ => trivial)⟩⟩ rfl rfl hl.1 rfl (lv_room (Nat.le_of_ble_eq_true rfl)) dX12_mayRun_273 ⟨Nat.le_of_ble_eq_true rfl, Nat.le_of_ble_eq_true rfl⟩) hS (fun q _ h => hFc q h) hFc (fun u_4 t H1 locs ht hvm hw hB hz1 hk1 hS => ?_)
        obtain ⟨hP, hD1⟩ := hB
        rw [ht] at hP
        have hD := hD1.weaken (fun _ q _ h => hFc q.1 h)
        generalize H1 = H at hP hS ⊢
        have eu_4 := hw
        refine lv_iload hx hb dX12_mayRun_276 (lv_at hl 0 rfl) ?_
        exact W.zret (v := g9) hx hb hr (by rcases hg9 with ⟨h, -⟩ | ⟨h, -⟩ <;> rw [h] <;> decide) (fun t ht hW => ⟨⟨g9, u_4, rfl, (Or.inr ⟨(by rw [hex, eu_2] at hg9; exact hg9.imp (fun h => ⟨h.1, fun q => h.2 q.2.2⟩) (fun h => ⟨h.1, h6, hbh, h.2⟩)), h6, (by rw [eu_4, eu_2])⟩), by rw [ht]; exact hP, hD⟩, hS.F ht⟩) hS.2.2 dX12_mayRun_278
      ·
        refine w_cut (X := fun R cells slots Q args => ∀ (a8 : Int32) (g8 : Int32) (ls : Array Slot), ((g8 = 0 ∧ ¬ rX u_2 p0 P x_3) ∨ (g8 = 1 ∧ runG u_2 p0 x_3 ∧ a8 = mFrom u_2 p0 x_3.toNatClampNeg ∧ ¬ u_2.2 15 p0.toNatClampNeg < a8 + mTakes u_2 p0 x_3)) → lv_has ls 10 [(8, .int a8), (7, .int g8), (6, .int x_3), (0, .ref h0), (1, .int p0), (2, .int (nI P)), (3, .int (nI X)), (4, .int (nI Y)), (5, .int (nI N))] → W p l e R s m args below meth c H locs cells slots Q (F0 m 213 ls [])) ?_ (fun kJ213 => ?_)
        ·
          intro a8 g8 ls hg8 hl
          refine lv_iload hx hb dX12_mayRun_213 (lv_at hl 0 rfl) ?_
          refine lv_istore (lv' := [(9, .int a8), (8, .int a8), (7, .int g8), (6, .int x_3), (0, .ref h0), (1, .int p0), (2, .int (nI P)), (3, .int (nI X)), (4, .int (nI Y)), (5, .int (nI N))]) hx hb dX12_mayRun_215 hl (by decide) rfl (fun ls hl => ?_)
          rcases hg8 with ⟨h8, hn8⟩ | ⟨h8, hG, ea8, hcl⟩
          ·
            subst h8
            refine lv_iload hx hb dX12_mayRun_217 (lv_at hl 0 rfl) ?_
            refine lv_iload hx hb dX12_mayRun_219 (lv_at hl 1 rfl) ?_
            refine lv_aload_n hx hb dX12_mayRun_221 rfl (lv_at hl 4 rfl) ?_
            refine lv_iload_n hx hb dX12_mayRun_222 rfl (lv_at hl 5 rfl) ?_
            refine lv_iload hx hb dX12_mayRun_223 (lv_at hl 3 rfl) ?_
            refine vp_callSi (va_runV (As := [.int p0, .int x_3]) (rest := [.int a8, .int a8]) ⟨hx, hb, hml, hown, hts⟩ (m_takes l dC dI h0 v cI cZ u_2 p0 x_3 hi hl5 hc6) (cwV 2 hts gX12_mayRun_X12_takes rfl rfl rfl (by decide +kernel) ⟨Nat.le_of_ble_eq_true rfl, Nat.le_of_ble_eq_true rfl⟩) ⟨pw_fb, va_recv hK hP (ci := 11) (q0 := 0) rfl rfl, fun U hU hW => ⟨rfl, pw_to hU hW hP hK hN⟩⟩ rfl rfl hl.1 rfl (lv_room (Nat.le_of_ble_eq_true rfl)) dX12_mayRun_225 ⟨Nat.le_of_ble_eq_true rfl, Nat.le_of_ble_eq_true rfl⟩).run (fun r hw => ?_)
            obtain rfl : r = (mTakes u_2 p0 x_3) := hw
            refine lv_iadd hx hb dX12_mayRun_228 ?_
            refine lv_icmp_ge (tgt := 271) hx hb dX12_mayRun_229 (by decide) (fun c_5 => ?_) (fun c_5 => ?_)
            ·
              exact kJ271 _ ls (Or.inl ⟨rfl, hn8⟩) (lv_sub hl [2, 4, 5, 6, 7, 8, 9] rfl)
            ·
              refine lv_iload hx hb dX12_mayRun_232 (lv_at hl 2 rfl) ?_
              refine lv_if_eq (tgt := 271) hx hb dX12_mayRun_234 (by decide) (fun c_6 => ?_) (fun c_6 => absurd (by decide) c_6)
              exact kJ271 _ ls (Or.inl ⟨rfl, hn8⟩) (lv_sub hl [2, 4, 5, 6, 7, 8, 9] rfl)
          ·
            subst h8
            obtain ⟨h1, h2, h3⟩ := hfr2 hG
            rw [← ea8] at h1 h2
            obtain ⟨T, hT1, hT2, eT⟩ := exN (x := mTakes u_2 p0 x_3) (lo := 1) (hi := 60) (by rw [bw_iff]; refine ⟨?_, h3⟩; have := hG.1; rw [i32_lt] at this; omega) (by decide)
            obtain ⟨a9, ha1, ha2, ea9⟩ := exN (x := a8) (lo := 0) (hi := 400) (by rw [bw_iff]; exact ⟨h1, h2⟩) (by decide)
            have h400 : (400 : Int32).toInt = 400 := rfl
            have h60 : (60 : Int32).toInt = 60 := rfl
            have hcl2 := hcl
            rw [eT, ea9] at hcl2
            have ha8 : a9 + T ≤ 80 := by have hz := bw_iff.mp hcm; have h80 : (80 : Int32).toInt = 80 := rfl; rw [h80] at hz; rw [show u_2.2 15 p0.toNatClampNeg = u.2 15 p0.toNatClampNeg from by rw [eu_2]; rfl, eT, ea9, nI_add, i32_lt, nI_toInt (by omega)] at hcl; omega
            subst ea9
            exact n_mr_loop (u := u_2) (T := T) (a9 := a9) hx hb hml hts hown hN hK (Nat.le_of_ble_eq_true rfl) (Nat.le_of_ble_eq_true rfl) (Nat.le_of_ble_eq_true rfl) (Nat.le_of_ble_eq_true rfl) hP hi hPP hl5 hc6 eT ha8 (fun g9 ls hq hl => kJ271 g9 ls (rX_i hG eT ea8 (by omega) (by omega) hcl2 hq) hl) (T + 1) 0 1 ls (Nat.zero_le _) (by omega) (Or.inl ⟨rfl, fun t ht => absurd ht (Nat.not_lt_zero _)⟩) (lv_sub hl [0, 1, 2, 3, 4, 5, 6, 7, 8, 9] rfl)
        ·
          refine w_cut (X := fun R cells slots Q args => ∀ (g7 : Int32) (ls : Array Slot), ((g7 = 0 ∧ ¬ runG u_2 p0 x_3) ∨ (g7 = 1 ∧ runG u_2 p0 x_3)) → lv_has ls 10 [(7, .int g7), (6, .int x_3), (0, .ref h0), (1, .int p0), (2, .int (nI P)), (3, .int (nI X)), (4, .int (nI Y)), (5, .int (nI N))] → W p l e R s m args below meth c H locs cells slots Q (F0 m 173 ls [])) ?_ (fun kJ173 => ?_)
          ·
            intro g7 ls hg7 hl
            refine lv_aload_n hx hb dX12_mayRun_173 rfl (lv_at hl 2 rfl) ?_
            refine lv_iload_n hx hb dX12_mayRun_174 rfl (lv_at hl 3 rfl) ?_
            refine lv_iload hx hb dX12_mayRun_175 (lv_at hl 1 rfl) ?_
            refine vp_callSi (va_runV (As := [.int p0, .int x_3]) (rest := []) ⟨hx, hb, hml, hown, hts⟩ (m_from2 l dC dI h0 v cI cZ u_2 p0 x_3 hi (k56 hl5) hc6) (cwV 2 hts gX12_mayRun_X12_from rfl rfl rfl (by decide +kernel) ⟨Nat.le_of_ble_eq_true rfl, Nat.le_of_ble_eq_true rfl⟩) ⟨pw_fb, va_recv hK hP (ci := 11) (q0 := 0) rfl rfl, fun U hU hW => ⟨rfl, pw_to hU hW hP hK hN⟩⟩ rfl rfl hl.1 rfl (lv_room (Nat.le_of_ble_eq_true rfl)) dX12_mayRun_177 ⟨Nat.le_of_ble_eq_true rfl, Nat.le_of_ble_eq_true rfl⟩).run (fun r hw => ?_)
            obtain rfl : r = (mFrom u_2 p0 (x_3 : Int32).toNatClampNeg) := hw
            refine lv_topi (fun x_7 ex_7 => ?_)
            refine lv_istore (lv' := [(8, .int x_7), (7, .int g7), (6, .int x_3), (0, .ref h0), (1, .int p0), (2, .int (nI P)), (3, .int (nI X)), (4, .int (nI Y)), (5, .int (nI N))]) hx hb dX12_mayRun_180 hl (by decide) rfl (fun ls hl => ?_)
            refine lv_iload hx hb dX12_mayRun_182 (lv_at hl 1 rfl) ?_
            refine lv_if_eq (tgt := 210) hx hb dX12_mayRun_184 (by decide) (fun c_8 => ?_) (fun c_8 => ?_)
            ·
              refine lv_iconst (v := 0) hx hb dX12_mayRun_210 (by decide) ?_
              refine lv_istore (lv' := [(7, .int 0), (8, .int x_7), (6, .int x_3), (0, .ref h0), (1, .int p0), (2, .int (nI P)), (3, .int (nI X)), (4, .int (nI Y)), (5, .int (nI N))]) hx hb dX12_mayRun_211 hl (by decide) rfl (fun ls hl => ?_)
              exact kJ213 _ _ ls (Or.inl ⟨rfl, fun h => (hg7.elim (fun q => q.2 h.1) (fun q => absurd (q.1.symm.trans c_8) (by decide)))⟩) (lv_sub hl [1, 0, 2, 3, 4, 5, 6, 7, 8] rfl)
            ·
              refine lv_iload hx hb dX12_mayRun_187 (lv_at hl 0 rfl) ?_
              refine lv_aload_n hx hb dX12_mayRun_189 rfl (lv_at hl 3 rfl) ?_
              refine lv_iload_n hx hb dX12_mayRun_190 rfl (lv_at hl 4 rfl) ?_
              refine lv_iload hx hb dX12_mayRun_191 (lv_at hl 2 rfl) ?_
              refine vp_callSi (va_runV (As := [.int p0, .int x_3]) (rest := [.int x_7]) ⟨hx, hb, hml, hown, hts⟩ (m_takes l dC dI h0 v cI cZ u_2 p0 x_3 hi hl5 hc6) (cwV 2 hts gX12_mayRun_X12_takes rfl rfl rfl (by decide +kernel) ⟨Nat.le_of_ble_eq_true rfl, Nat.le_of_ble_eq_true rfl⟩) ⟨pw_fb, va_recv hK hP (ci := 11) (q0 := 0) rfl rfl, fun U hU hW => ⟨rfl, pw_to hU hW hP hK hN⟩⟩ rfl rfl hl.1 rfl (lv_room (Nat.le_of_ble_eq_true rfl)) dX12_mayRun_193 ⟨Nat.le_of_ble_eq_true rfl, Nat.le_of_ble_eq_true rfl⟩).run (fun r hw => ?_)
              obtain rfl : r = (mTakes u_2 p0 x_3) := hw
              refine lv_iadd hx hb dX12_mayRun_196 ?_
              refine lv_aload_n hx hb dX12_mayRun_197 rfl (lv_at hl 3 rfl) ?_
              refine va_get (D := (dC, dI)) (ci := 11) (v := .ref (v 15)) (C := RX12) (T := TX12) (N := 52) hx hb hts (by decide +kernel) hown hK hP 0 rfl rfl 15 (by decide) (hts (.fieldLink RX12 52 "PageOneModel" "come" "[I") (by decide +kernel)) (fun _ h9 => h9) rfl dX12_mayRun_198 ?_
              refine lv_iload_n hx hb dX12_mayRun_201 rfl (lv_at hl 4 rfl) ?_
              refine va_iald hx hb hK hP 15 0 rfl rfl (vin hi (by decide)) dX12_mayRun_202 ?_
              refine lv_icmp_gt (tgt := 210) hx hb dX12_mayRun_203 (by decide) (fun c_9 => ?_) (fun c_9 => ?_)
              ·
                refine lv_iconst (v := 0) hx hb dX12_mayRun_210 (by decide) ?_
                refine lv_istore (lv' := [(7, .int 0), (8, .int x_7), (6, .int x_3), (0, .ref h0), (1, .int p0), (2, .int (nI P)), (3, .int (nI X)), (4, .int (nI Y)), (5, .int (nI N))]) hx hb dX12_mayRun_211 hl (by decide) rfl (fun ls hl => ?_)
                exact kJ213 _ _ ls (Or.inl ⟨rfl, fun h => h.2.1 (by rw [← ex_7]; exact c_9)⟩) (lv_sub hl [1, 0, 2, 3, 4, 5, 6, 7, 8] rfl)
              ·
                refine lv_iconst (v := 1) hx hb dX12_mayRun_206 (by decide) ?_
                refine lv_goto (tgt := 211) hx hb dX12_mayRun_207 (by decide) ?_
                refine lv_istore (lv' := [(7, .int 1), (8, .int x_7), (6, .int x_3), (0, .ref h0), (1, .int p0), (2, .int (nI P)), (3, .int (nI X)), (4, .int (nI Y)), (5, .int (nI N))]) hx hb dX12_mayRun_211 hl (by decide) rfl (fun ls hl => ?_)
                exact kJ213 _ _ ls (Or.inr ⟨rfl, (hg7.resolve_left (fun h => c_8 h.1)).2, ex_7, c_9⟩) (lv_sub hl [1, 0, 2, 3, 4, 5, 6, 7, 8] rfl)
          ·
            refine lv_aload_n hx hb dX12_mayRun_137 rfl (lv_at hl 1 rfl) ?_
            refine lv_iload_n hx hb dX12_mayRun_138 rfl (lv_at hl 2 rfl) ?_
            refine lv_iload hx hb dX12_mayRun_139 (lv_at hl 0 rfl) ?_
            refine vp_callSi (va_runV (As := [.int p0, .int x_3]) (rest := []) ⟨hx, hb, hml, hown, hts⟩ (m_takes l dC dI h0 v cI cZ u_2 p0 x_3 hi hl5 hc6) (cwV 2 hts gX12_mayRun_X12_takes rfl rfl rfl (by decide +kernel) ⟨Nat.le_of_ble_eq_true rfl, Nat.le_of_ble_eq_true rfl⟩) ⟨pw_fb, va_recv hK hP (ci := 11) (q0 := 0) rfl rfl, fun U hU hW => ⟨rfl, pw_to hU hW hP hK hN⟩⟩ rfl rfl hl.1 rfl (lv_room (Nat.le_of_ble_eq_true rfl)) dX12_mayRun_141 ⟨Nat.le_of_ble_eq_true rfl, Nat.le_of_ble_eq_true rfl⟩).run (fun r hw => ?_)
            obtain rfl : r = (mTakes u_2 p0 x_3) := hw
            refine lv_iconst (v := 1) hx hb dX12_mayRun_144 (by decide) ?_
            refine lv_icmp_lt (tgt := 170) hx hb dX12_mayRun_145 (by decide) (fun c_10 => ?_) (fun c_10 => ?_)
            ·
              refine lv_iconst (v := 0) hx hb dX12_mayRun_170 (by decide) ?_
              refine lv_istore (lv' := [(7, .int 0), (6, .int x_3), (0, .ref h0), (1, .int p0), (2, .int (nI P)), (3, .int (nI X)), (4, .int (nI Y)), (5, .int (nI N))]) hx hb dX12_mayRun_171 hl (by decide) rfl (fun ls hl => ?_)
              exact kJ173 _ ls (Or.inl ⟨rfl, fun h => h.1 c_10⟩) (lv_sub hl [0, 1, 2, 3, 4, 5, 6, 7] rfl)
            ·
              refine lv_iload hx hb dX12_mayRun_148 (lv_at hl 0 rfl) ?_
              refine lv_if_eq (tgt := 166) hx hb dX12_mayRun_150 (by decide) (fun c_11 => ?_) (fun c_11 => ?_)
              ·
                refine lv_iconst (v := 1) hx hb dX12_mayRun_166 (by decide) ?_
                refine lv_goto (tgt := 171) hx hb dX12_mayRun_167 (by decide) ?_
                refine lv_istore (lv' := [(7, .int 1), (6, .int x_3), (0, .ref h0), (1, .int p0), (2, .int (nI P)), (3, .int (nI X)), (4, .int (nI Y)), (5, .int (nI N))]) hx hb dX12_mayRun_171 hl (by decide) rfl (fun ls hl => ?_)
                exact kJ173 _ ls (Or.inr ⟨rfl, ⟨c_10, Or.inl c_11⟩⟩) (lv_sub hl [0, 1, 2, 3, 4, 5, 6, 7] rfl)
              ·
                refine lv_aload_n hx hb dX12_mayRun_153 rfl (lv_at hl 1 rfl) ?_
                refine lv_iload_n hx hb dX12_mayRun_154 rfl (lv_at hl 2 rfl) ?_
                refine lv_iload hx hb dX12_mayRun_155 (lv_at hl 0 rfl) ?_
                refine lv_iconst (v := 1) hx hb dX12_mayRun_157 (by decide) ?_
                refine lv_isub hx hb dX12_mayRun_158 ?_
                refine vp_callSi (va_runV (As := [.int p0, .int (x_3 - 1)]) (rest := []) ⟨hx, hb, hml, hown, hts⟩ (m_takes l dC dI h0 v cI cZ u_2 p0 (x_3 - 1) hi (qm1 hl5 c_11) hc6) (cwV 2 hts gX12_mayRun_X12_takes rfl rfl rfl (by decide +kernel) ⟨Nat.le_of_ble_eq_true rfl, Nat.le_of_ble_eq_true rfl⟩) ⟨pw_fb, va_recv hK hP (ci := 11) (q0 := 0) rfl rfl, fun U hU hW => ⟨rfl, pw_to hU hW hP hK hN⟩⟩ rfl rfl hl.1 rfl (lv_room (Nat.le_of_ble_eq_true rfl)) dX12_mayRun_159 ⟨Nat.le_of_ble_eq_true rfl, Nat.le_of_ble_eq_true rfl⟩).run (fun r hw => ?_)
                obtain rfl : r = (mTakes u_2 p0 (x_3 - 1)) := hw
                refine lv_iconst (v := 1) hx hb dX12_mayRun_162 (by decide) ?_
                refine lv_icmp_lt (tgt := 170) hx hb dX12_mayRun_163 (by decide) (fun c_12 => ?_) (fun c_12 => ?_)
                ·
                  refine lv_iconst (v := 0) hx hb dX12_mayRun_170 (by decide) ?_
                  refine lv_istore (lv' := [(7, .int 0), (6, .int x_3), (0, .ref h0), (1, .int p0), (2, .int (nI P)), (3, .int (nI X)), (4, .int (nI Y)), (5, .int (nI N))]) hx hb dX12_mayRun_171 hl (by decide) rfl (fun ls hl => ?_)
                  exact kJ173 _ ls (Or.inl ⟨rfl, fun h => h.2.elim c_11 (fun q => q c_12)⟩) (lv_sub hl [0, 1, 2, 3, 4, 5, 6, 7] rfl)
                ·
                  refine lv_iconst (v := 1) hx hb dX12_mayRun_166 (by decide) ?_
                  refine lv_goto (tgt := 171) hx hb dX12_mayRun_167 (by decide) ?_
                  refine lv_istore (lv' := [(7, .int 1), (6, .int x_3), (0, .ref h0), (1, .int p0), (2, .int (nI P)), (3, .int (nI X)), (4, .int (nI Y)), (5, .int (nI N))]) hx hb dX12_mayRun_171 hl (by decide) rfl (fun ls hl => ?_)
                  exact kJ173 _ ls (Or.inr ⟨rfl, ⟨c_10, Or.inr c_12⟩⟩) (lv_sub hl [0, 1, 2, 3, 4, 5, 6, 7] rfl)
    ·
      refine w_cut (X := fun R cells slots Q args => ∀ (g0 : Int32) (ls : Array Slot), ((g0 = 0 ∧ ¬ bhR u p0 P X Y) ∨ (g0 = 1 ∧ bhR u p0 P X Y)) → lv_has ls 10 [(7, .int g0), (0, .ref h0), (1, .int p0), (2, .int (nI P)), (3, .int (nI X)), (4, .int (nI Y)), (5, .int (nI N))] → W p l e R s m args below meth c s.heap [] cells slots Q (F0 m 108 ls [])) ?_ (fun kJ108 => ?_)
      ·
        intro g0 ls hB0 hl
        refine lv_iload hx hb dX12_mayRun_108 (lv_at hl 0 rfl) ?_
        refine lv_if_ne (tgt := 115) hx hb dX12_mayRun_110 (by decide) (fun c_13 => ?_) (fun c_13 => ?_)
        ·
          exact kJ115 ls (hB0.resolve_left (fun h => c_13 h.1)).2 (lv_sub hl [1, 2, 3, 4, 5, 6] rfl)
        ·
          refine lv_iconst (v := 0) hx hb dX12_mayRun_113 (by decide) ?_
          exact W.zret (v := 0) hx hb hr (by decide) (fun t ht hW => ⟨⟨0, u, rfl, (Or.inl ⟨rfl, rfl, fun q => hB0.elim (fun h => h.2 q.2.1) (fun h => absurd (h.1.symm.trans c_13) (by decide))⟩), by rw [ht]; exact hP, hD⟩, hS.F ht⟩) hS.2.2 dX12_mayRun_114
      ·
        refine lv_aload_n hx hb dX12_mayRun_13 rfl (lv_at hl 0 rfl) ?_
        refine va_get (D := (dC, dI)) (ci := 11) (v := .ref (v 22)) (C := RX12) (T := TX12) (N := 52) hx hb hts (by decide +kernel) hown hK hP 0 rfl rfl 22 (by decide) (hts (.fieldLink RX12 74 "PageOneModel" "pieces" "[I") (by decide +kernel)) (fun _ h9 => h9) rfl dX12_mayRun_14 ?_
        refine lv_iload_n hx hb dX12_mayRun_17 rfl (lv_at hl 1 rfl) ?_
        refine va_iald hx hb hK hP 22 0 rfl rfl (vin hi (by decide)) dX12_mayRun_18 ?_
        refine lv_if_le (tgt := 115) hx hb dX12_mayRun_19 (by decide) (fun c_14 => ?_) (fun c_14 => ?_)
        ·
          exact kJ115 ls (Or.inl c_14) (lv_sub hl [0, 1, 2, 3, 4, 5] rfl)
        ·
          refine lv_bipush (v := 6) hx hb dX12_mayRun_22 (by decide) ?_
          refine lv_iload_n hx hb dX12_mayRun_24 rfl (lv_at hl 1 rfl) ?_
          refine lv_imul hx hb dX12_mayRun_25 ?_
          refine lv_aload_n hx hb dX12_mayRun_26 rfl (lv_at hl 0 rfl) ?_
          refine va_get (D := (dC, dI)) (ci := 11) (v := .ref (v 22)) (C := RX12) (T := TX12) (N := 52) hx hb hts (by decide +kernel) hown hK hP 0 rfl rfl 22 (by decide) (hts (.fieldLink RX12 74 "PageOneModel" "pieces" "[I") (by decide +kernel)) (fun _ h9 => h9) rfl dX12_mayRun_27 ?_
          refine lv_iload_n hx hb dX12_mayRun_30 rfl (lv_at hl 1 rfl) ?_
          refine va_iald hx hb hK hP 22 0 rfl rfl (vin hi (by decide)) dX12_mayRun_31 ?_
          refine lv_iadd hx hb dX12_mayRun_32 ?_
          refine lv_iconst (v := 1) hx hb dX12_mayRun_33 (by decide) ?_
          refine lv_isub hx hb dX12_mayRun_34 ?_
          refine lv_topi (fun x_15 ex_15 => ?_)
          refine lv_istore (lv' := [(6, .int x_15), (0, .ref h0), (1, .int p0), (2, .int (nI P)), (3, .int (nI X)), (4, .int (nI Y)), (5, .int (nI N))]) hx hb dX12_mayRun_35 hl (by decide) rfl (fun ls hl => ?_)
          refine lv_iload_n hx hb dX12_mayRun_37 rfl (lv_at hl 3 rfl) ?_
          refine lv_aload_n hx hb dX12_mayRun_38 rfl (lv_at hl 1 rfl) ?_
          refine va_get (D := (dC, dI)) (ci := 11) (v := .ref (v 23)) (C := RX12) (T := TX12) (N := 52) hx hb hts (by decide +kernel) hown hK hP 0 rfl rfl 23 (by decide) (hts (.fieldLink RX12 77 "PageOneModel" "pPage" "[I") (by decide +kernel)) (fun _ h9 => h9) rfl dX12_mayRun_39 ?_
          refine lv_iload hx hb dX12_mayRun_42 (lv_at hl 0 rfl) ?_
          refine va_iald hx hb hK hP 23 0 rfl rfl (by rw [ex_15]; exact hpr (fun h => absurd (by rw [h]; decide) c_14)) dX12_mayRun_44 ?_
          refine lv_icmp_gt (tgt := 101) hx hb dX12_mayRun_45 (by decide) (fun c_16 => ?_) (fun c_16 => ?_)
          ·
            refine lv_iconst (v := 1) hx hb dX12_mayRun_101 (by decide) ?_
            refine lv_goto (tgt := 106) hx hb dX12_mayRun_102 (by decide) ?_
            refine lv_istore (lv' := [(7, .int 1), (6, .int x_15), (0, .ref h0), (1, .int p0), (2, .int (nI P)), (3, .int (nI X)), (4, .int (nI Y)), (5, .int (nI N))]) hx hb dX12_mayRun_106 hl (by decide) rfl (fun ls hl => ?_)
            exact kJ108 _ ls (Or.inr ⟨rfl, bh_y ex_15 (Or.inl c_16)⟩) (lv_sub hl [0, 2, 3, 4, 5, 6, 7] rfl)
          ·
            refine lv_iload_n hx hb dX12_mayRun_48 rfl (lv_at hl 3 rfl) ?_
            refine lv_aload_n hx hb dX12_mayRun_49 rfl (lv_at hl 1 rfl) ?_
            refine va_get (D := (dC, dI)) (ci := 11) (v := .ref (v 23)) (C := RX12) (T := TX12) (N := 52) hx hb hts (by decide +kernel) hown hK hP 0 rfl rfl 23 (by decide) (hts (.fieldLink RX12 77 "PageOneModel" "pPage" "[I") (by decide +kernel)) (fun _ h9 => h9) rfl dX12_mayRun_50 ?_
            refine lv_iload hx hb dX12_mayRun_53 (lv_at hl 0 rfl) ?_
            refine va_iald hx hb hK hP 23 0 rfl rfl (by rw [ex_15]; exact hpr (fun h => absurd (by rw [h]; decide) c_14)) dX12_mayRun_55 ?_
            refine lv_icmp_ne (tgt := 105) hx hb dX12_mayRun_56 (by decide) (fun c_17 => ?_) (fun c_17 => ?_)
            ·
              refine lv_iconst (v := 0) hx hb dX12_mayRun_105 (by decide) ?_
              refine lv_istore (lv' := [(7, .int 0), (6, .int x_15), (0, .ref h0), (1, .int p0), (2, .int (nI P)), (3, .int (nI X)), (4, .int (nI Y)), (5, .int (nI N))]) hx hb dX12_mayRun_106 hl (by decide) rfl (fun ls hl => ?_)
              exact kJ108 _ ls (Or.inl ⟨rfl, bh_n ex_15 c_14 (fun h => h.elim c_16 (fun h => c_17 h.1))⟩) (lv_sub hl [0, 2, 3, 4, 5, 6, 7] rfl)
            ·
              refine lv_iload_n hx hb dX12_mayRun_59 rfl (lv_at hl 4 rfl) ?_
              refine lv_aload_n hx hb dX12_mayRun_60 rfl (lv_at hl 1 rfl) ?_
              refine va_get (D := (dC, dI)) (ci := 11) (v := .ref (v 24)) (C := RX12) (T := TX12) (N := 52) hx hb hts (by decide +kernel) hown hK hP 0 rfl rfl 24 (by decide) (hts (.fieldLink RX12 80 "PageOneModel" "pColumn" "[I") (by decide +kernel)) (fun _ h9 => h9) rfl dX12_mayRun_61 ?_
              refine lv_iload hx hb dX12_mayRun_64 (lv_at hl 0 rfl) ?_
              refine va_iald hx hb hK hP 24 0 rfl rfl (by rw [ex_15]; exact hpr (fun h => absurd (by rw [h]; decide) c_14)) dX12_mayRun_66 ?_
              refine lv_icmp_gt (tgt := 101) hx hb dX12_mayRun_67 (by decide) (fun c_18 => ?_) (fun c_18 => ?_)
              ·
                refine lv_iconst (v := 1) hx hb dX12_mayRun_101 (by decide) ?_
                refine lv_goto (tgt := 106) hx hb dX12_mayRun_102 (by decide) ?_
                refine lv_istore (lv' := [(7, .int 1), (6, .int x_15), (0, .ref h0), (1, .int p0), (2, .int (nI P)), (3, .int (nI X)), (4, .int (nI Y)), (5, .int (nI N))]) hx hb dX12_mayRun_106 hl (by decide) rfl (fun ls hl => ?_)
                exact kJ108 _ ls (Or.inr ⟨rfl, bh_y ex_15 (Or.inr ⟨c_17, Or.inl c_18⟩)⟩) (lv_sub hl [0, 2, 3, 4, 5, 6, 7] rfl)
              ·
                refine lv_iload_n hx hb dX12_mayRun_70 rfl (lv_at hl 4 rfl) ?_
                refine lv_aload_n hx hb dX12_mayRun_71 rfl (lv_at hl 1 rfl) ?_
                refine va_get (D := (dC, dI)) (ci := 11) (v := .ref (v 24)) (C := RX12) (T := TX12) (N := 52) hx hb hts (by decide +kernel) hown hK hP 0 rfl rfl 24 (by decide) (hts (.fieldLink RX12 80 "PageOneModel" "pColumn" "[I") (by decide +kernel)) (fun _ h9 => h9) rfl dX12_mayRun_72 ?_
                refine lv_iload hx hb dX12_mayRun_75 (lv_at hl 0 rfl) ?_
                refine va_iald hx hb hK hP 24 0 rfl rfl (by rw [ex_15]; exact hpr (fun h => absurd (by rw [h]; decide) c_14)) dX12_mayRun_77 ?_
                refine lv_icmp_ne (tgt := 105) hx hb dX12_mayRun_78 (by decide) (fun c_19 => ?_) (fun c_19 => ?_)
                ·
                  refine lv_iconst (v := 0) hx hb dX12_mayRun_105 (by decide) ?_
                  refine lv_istore (lv' := [(7, .int 0), (6, .int x_15), (0, .ref h0), (1, .int p0), (2, .int (nI P)), (3, .int (nI X)), (4, .int (nI Y)), (5, .int (nI N))]) hx hb dX12_mayRun_106 hl (by decide) rfl (fun ls hl => ?_)
                  exact kJ108 _ ls (Or.inl ⟨rfl, bh_n ex_15 c_14 (fun h => h.elim c_16 (fun h => h.2.elim c_18 (fun h => c_19 h.1)))⟩) (lv_sub hl [0, 2, 3, 4, 5, 6, 7] rfl)
                ·
                  refine lv_iload hx hb dX12_mayRun_81 (lv_at hl 5 rfl) ?_
                  refine lv_aload_n hx hb dX12_mayRun_83 rfl (lv_at hl 1 rfl) ?_
                  refine va_get (D := (dC, dI)) (ci := 11) (v := .ref (v 25)) (C := RX12) (T := TX12) (N := 52) hx hb hts (by decide +kernel) hown hK hP 0 rfl rfl 25 (by decide) (hts (.fieldLink RX12 83 "PageOneModel" "pLine" "[I") (by decide +kernel)) (fun _ h9 => h9) rfl dX12_mayRun_84 ?_
                  refine lv_iload hx hb dX12_mayRun_87 (lv_at hl 0 rfl) ?_
                  refine va_iald hx hb hK hP 25 0 rfl rfl (by rw [ex_15]; exact hpr (fun h => absurd (by rw [h]; decide) c_14)) dX12_mayRun_89 ?_
                  refine lv_aload_n hx hb dX12_mayRun_90 rfl (lv_at hl 1 rfl) ?_
                  refine va_get (D := (dC, dI)) (ci := 11) (v := .ref (v 27)) (C := RX12) (T := TX12) (N := 52) hx hb hts (by decide +kernel) hown hK hP 0 rfl rfl 27 (by decide) (hts (.fieldLink RX12 89 "PageOneModel" "pHigh" "[I") (by decide +kernel)) (fun _ h9 => h9) rfl dX12_mayRun_91 ?_
                  refine lv_iload hx hb dX12_mayRun_94 (lv_at hl 0 rfl) ?_
                  refine va_iald hx hb hK hP 27 0 rfl rfl (by rw [ex_15]; exact hpr (fun h => absurd (by rw [h]; decide) c_14)) dX12_mayRun_96 ?_
                  refine lv_iadd hx hb dX12_mayRun_97 ?_
                  refine lv_icmp_lt (tgt := 105) hx hb dX12_mayRun_98 (by decide) (fun c_20 => ?_) (fun c_20 => ?_)
                  ·
                    refine lv_iconst (v := 0) hx hb dX12_mayRun_105 (by decide) ?_
                    refine lv_istore (lv' := [(7, .int 0), (6, .int x_15), (0, .ref h0), (1, .int p0), (2, .int (nI P)), (3, .int (nI X)), (4, .int (nI Y)), (5, .int (nI N))]) hx hb dX12_mayRun_106 hl (by decide) rfl (fun ls hl => ?_)
                    exact kJ108 _ ls (Or.inl ⟨rfl, bh_n ex_15 c_14 (fun h => h.elim c_16 (fun h => h.2.elim c_18 (fun h => h.2 c_20)))⟩) (lv_sub hl [0, 2, 3, 4, 5, 6, 7] rfl)
                  ·
                    refine lv_iconst (v := 1) hx hb dX12_mayRun_101 (by decide) ?_
                    refine lv_goto (tgt := 106) hx hb dX12_mayRun_102 (by decide) ?_
                    refine lv_istore (lv' := [(7, .int 1), (6, .int x_15), (0, .ref h0), (1, .int p0), (2, .int (nI P)), (3, .int (nI X)), (4, .int (nI Y)), (5, .int (nI N))]) hx hb dX12_mayRun_106 hl (by decide) rfl (fun ls hl => ?_)
                    exact kJ108 _ ls (Or.inr ⟨rfl, bh_y ex_15 (Or.inr ⟨c_17, Or.inr ⟨c_19, c_20⟩⟩)⟩) (lv_sub hl [0, 2, 3, 4, 5, 6, 7] rfl)
  ·
    refine lv_iconst (v := 0) hx hb dX12_mayRun_11 (by decide) ?_
    exact W.zret (v := 0) hx hb hr (by decide) (fun t ht hW => ⟨⟨0, u, rfl, (Or.inl ⟨rfl, rfl, fun q => q.1 c_1⟩), by rw [ht]; exact hP, hD⟩, hS.F ht⟩) hS.2.2 dX12_mayRun_12
