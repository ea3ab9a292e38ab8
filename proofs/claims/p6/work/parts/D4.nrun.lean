/-- behind the piece in slot K -/
def bhK (u : mS) (P X Y : Nat) (K : Int32) : Prop := u.2 23 K.toNatClampNeg < nI P ∨ (nI P = u.2 23 K.toNatClampNeg ∧ (u.2 24 K.toNatClampNeg < nI X ∨ (nI X = u.2 24 K.toNatClampNeg ∧ ¬ nI Y < u.2 25 K.toNatClampNeg + u.2 27 K.toNatClampNeg)))
def bhR (u : mS) (p0 : Int32) (P X Y : Nat) : Prop := u.2 22 p0.toNatClampNeg ≤ 0 ∨ bhK u P X Y (6 * p0 + u.2 22 p0.toNatClampNeg - 1)
/-- the lines fit -/
def rX (w : mS) (p0 : Int32) (P : Nat) (x : Int32) : Prop := runG w p0 x ∧ ¬ w.2 15 p0.toNatClampNeg < mFrom w p0 x.toNatClampNeg + mTakes w p0 x ∧ ∀ t, t < (mTakes w p0 x).toNatClampNeg → ¬ w.2 1 (nI P).toNatClampNeg < w.2 16 (80 * p0 + nI ((mFrom w p0 x.toNatClampNeg).toNatClampNeg + t)).toNatClampNeg
def runX (u : mS) (p0 : Int32) (P X Y N : Nat) : Prop := ¬ u.2 22 p0.toNatClampNeg = 6 ∧ bhR u p0 P X Y ∧ rX (mStand u p0 P X Y 1 N) p0 P (u.2 22 p0.toNatClampNeg)
theorem bh_y {u : mS} {p0 K : Int32} {P X Y : Nat} (e : K = 6 * p0 + u.2 22 p0.toNatClampNeg - 1) (h : bhK u P X Y K) : bhR u p0 P X Y := Or.inr (by rw [← e]; exact h)
theorem bh_n {u : mS} {p0 K : Int32} {P X Y : Nat} (e : K = 6 * p0 + u.2 22 p0.toNatClampNeg - 1) (hz : ¬ u.2 22 p0.toNatClampNeg ≤ 0) (h : ¬ bhK u P X Y K) : ¬ bhR u p0 P X Y := fun q => q.elim hz (fun q => h (by rw [e]; exact q))
theorem rX_i {w : mS} {p0 x g9 : Int32} {P T a9 : Nat} (hG : runG w p0 x) (eT : mTakes w p0 x = nI T) (ea : nI a9 = mFrom w p0 x.toNatClampNeg) (hT : T ≤ 80) (ha : a9 ≤ 400) (hcl : ¬ w.2 15 p0.toNatClampNeg < nI a9 + nI T) (hq : (g9 = 1 ∧ ∀ t, t < T → ¬ w.2 1 (nI P).toNatClampNeg < w.2 16 (80 * p0 + nI (a9 + t)).toNatClampNeg) ∨ (g9 = 0 ∧ ∃ t, t < T ∧ w.2 1 (nI P).toNatClampNeg < w.2 16 (80 * p0 + nI (a9 + t)).toNatClampNeg)) : (g9 = 0 ∧ ¬ rX w p0 P x) ∨ (g9 = 1 ∧ rX w p0 P x) := by
  unfold rX
  rw [eT, ← ea, nI_clamp (n := T) (by omega), nI_clamp (n := a9) (by omega)]
  rcases hq with ⟨h1, h2⟩ | ⟨h1, t, h2, h3⟩
  · exact Or.inr ⟨h1, hG, hcl, h2⟩
  · exact Or.inl ⟨h1, fun r => r.2.2 t h2 h3⟩
set_option maxHeartbeats 4000000 in
set_option maxRecDepth 100000 in
theorem n_mr_loop {p : Program} {l : Launch} {e : Env} {R : Room} {s : State} {m : MethodId} {args : Array Value} {below : List Frame} {meth : Method} {c : Code} {Q : State → Prop} {cells slots : Nat} {dC : Nat → ClassId} {dI : Nat → Nat → Nat} {h0 : Nat} {v : Nat → Nat} {cI cZ : ClassId} {H : Heap} {locs : List Loc} {u : mS} (hx : p.tables.exec = Jvm.exec) (hb : c.code = cX12_mayRun) (hml : c.maxLocals = 10) (hts : ∀ w ∈ wsX12_mayRun, w.before args s = true) (hown : s.vm.findClass RX12 = some m.cls) (hN : NN s) (hK : va_K (dC, dI) vwCl [(cI, .int), (cZ, .boolean)] s) (hRf : 1 ≤ R.frames) (hRl : 24 ≤ R.locals) (hRc : cells ≤ R.cells) (hRs : slots ≤ R.slots) (hP : va_P (dC, dI) vwCl (mW h0 v cI cZ u) H) {p0 x6 : Int32} {P X Y N a9 T : Nat} (hi0 : bw p0 0 79 = true) (hPP : P < 12) (hl5 : bw x6 0 5 = true) (hc6 : bw (u.2 22 p0.toNatClampNeg) 0 6 = true) (eT : mTakes u p0 x6 = nI T) (ha8 : a9 + T ≤ 80) (kx271 : ∀ (g9 : Int32) (ls : Array Slot), ((g9 = 1 ∧ ∀ t, t < T → (¬ u.2 1 (nI P).toNatClampNeg < u.2 16 (80 * p0 + nI (a9 + t)).toNatClampNeg)) ∨ (g9 = 0 ∧ ∃ t, t < T ∧ (u.2 1 (nI P).toNatClampNeg < u.2 16 (80 * p0 + nI (a9 + t)).toNatClampNeg))) → lv_has ls 10 [(7, .int g9), (0, .ref h0), (1, .int p0), (2, .int (nI P)), (3, .int (nI X)), (4, .int (nI Y)), (5, .int (nI N))] → W p l e R s m args below meth c H locs cells slots Q (F0 m 271 ls [])) : ∀ (k i : Nat) (g : Int32) (ls : Array Slot), i ≤ T → T - i < k → ((g = 1 ∧ ∀ t, t < i → (¬ u.2 1 (nI P).toNatClampNeg < u.2 16 (80 * p0 + nI (a9 + t)).toNatClampNeg)) ∨ (g = 0 ∧ ∃ t, t < T ∧ (u.2 1 (nI P).toNatClampNeg < u.2 16 (80 * p0 + nI (a9 + t)).toNatClampNeg))) → lv_has ls 10 [(9, .int (nI (a9 + i))), (8, .int (nI a9)), (7, .int g), (6, .int x6), (0, .ref h0), (1, .int p0), (2, .int (nI P)), (3, .int (nI X)), (4, .int (nI Y)), (5, .int (nI N))] → W p l e R s m args below meth c H locs cells slots Q (F0 m 217 ls []) := by
  intro k
  induction k with
  | zero => intro i g ls h1 h2; exact absurd h2 (Nat.not_lt_zero _)
  | succ k ih =>
    intro i g ls hi hk hg hl
    refine lv_iload hx hb dX12_mayRun_217 (lv_at hl 0 rfl) ?_
    refine lv_iload hx hb dX12_mayRun_219 (lv_at hl 1 rfl) ?_
    refine lv_aload_n hx hb dX12_mayRun_221 rfl (lv_at hl 4 rfl) ?_
    refine lv_iload_n hx hb dX12_mayRun_222 rfl (lv_at hl 5 rfl) ?_
    refine lv_iload hx hb dX12_mayRun_223 (lv_at hl 3 rfl) ?_
    refine vp_callSi (va_runV (As := [.int p0, .int x6]) (rest := [.int (nI a9), .int (nI (a9 + i))]) ⟨hx, hb, hml, hown, hts⟩ (m_takes l dC dI h0 v cI cZ u p0 x6 hi0 hl5 hc6) (cwV 2 hts gX12_mayRun_X12_takes rfl rfl rfl (by decide +kernel) ⟨Nat.le_trans (Nat.le_of_ble_eq_true rfl) hRf, Nat.le_trans (Nat.le_of_ble_eq_true rfl) hRl⟩) ⟨pw_fb, va_recv hK hP (ci := 11) (q0 := 0) rfl rfl, fun U hU hW => ⟨rfl, pw_to hU hW hP hK hN⟩⟩ rfl rfl hl.1 rfl (lv_room (Nat.le_of_ble_eq_true rfl)) dX12_mayRun_225 ⟨hRc, hRs⟩).run (fun r hw => ?_)
    obtain rfl : r = nI T := hw.trans eT
    refine lv_iadd hx hb dX12_mayRun_228 ?_
    refine lv_icmp_ge (tgt := 271) hx hb dX12_mayRun_229 (by decide) (fun c_1 => ?_) (fun c_1 => ?_)
    ·
      have hie : i = T := by have := lp_eq (nI_add a9 T) (by omega) (by omega) c_1; omega
      exact kx271 _ ls (by rw [hie] at hg; exact hg) (lv_sub hl [2, 4, 5, 6, 7, 8, 9] rfl)
    ·
      have hlt : i < T := by have := lp_lt (nI_add a9 T) (by omega) (by omega) c_1; omega
      refine lv_iload hx hb dX12_mayRun_232 (lv_at hl 2 rfl) ?_
      refine lv_if_eq (tgt := 271) hx hb dX12_mayRun_234 (by decide) (fun c_2 => ?_) (fun c_2 => ?_)
      ·
        exact kx271 _ ls (hg.elim (fun h => absurd (h.1.symm.trans c_2) (by decide)) Or.inr) (lv_sub hl [2, 4, 5, 6, 7, 8, 9] rfl)
      ·
        refine lv_aload_n hx hb dX12_mayRun_237 rfl (lv_at hl 4 rfl) ?_
        refine va_get (D := (dC, dI)) (ci := 11) (v := .ref (v 16)) (C := RX12) (T := TX12) (N := 52) hx hb hts (by decide +kernel) hown hK hP 0 rfl rfl 16 (by decide) (hts (.fieldLink RX12 55 "PageOneModel" "width" "[I") (by decide +kernel)) (fun _ h9 => h9) rfl dX12_mayRun_238 ?_
        refine lv_bipush (v := 80) hx hb dX12_mayRun_241 (by decide) ?_
        refine lv_iload_n hx hb dX12_mayRun_243 rfl (lv_at hl 5 rfl) ?_
        refine lv_imul hx hb dX12_mayRun_244 ?_
        refine lv_iload hx hb dX12_mayRun_245 (lv_at hl 0 rfl) ?_
        refine lv_iadd hx hb dX12_mayRun_247 ?_
        refine va_iald hx hb hK hP 16 0 rfl rfl (vW hi0 (by omega)) dX12_mayRun_248 ?_
        refine lv_aload_n hx hb dX12_mayRun_249 rfl (lv_at hl 4 rfl) ?_
        refine va_get (D := (dC, dI)) (ci := 11) (v := .ref (v 1)) (C := RX12) (T := TX12) (N := 52) hx hb hts (by decide +kernel) hown hK hP 0 rfl rfl 1 (by decide) (hts (.fieldLink RX12 13 "PageOneModel" "measure" "[I") (by decide +kernel)) (fun _ h9 => h9) rfl dX12_mayRun_250 ?_
        refine lv_iload_n hx hb dX12_mayRun_253 rfl (lv_at hl 6 rfl) ?_
        refine va_iald hx hb hK hP 2 0 rfl rfl (vp_in_nI hPP (by decide)) dX12_mayRun_254 ?_
        refine lv_icmp_gt (tgt := 262) hx hb dX12_mayRun_255 (by decide) (fun c_3 => ?_) (fun c_3 => ?_)
        ·
          refine lv_iconst (v := 0) hx hb dX12_mayRun_262 (by decide) ?_
          refine lv_istore (lv' := [(7, .int 0), (9, .int (nI (a9 + i))), (8, .int (nI a9)), (6, .int x6), (0, .ref h0), (1, .int p0), (2, .int (nI P)), (3, .int (nI X)), (4, .int (nI Y)), (5, .int (nI N))]) hx hb dX12_mayRun_263 hl (by decide) rfl (fun ls hl => ?_)
          refine lv_iinc (v := (nI (a9 + i + 1))) (lv' := [(9, .int (nI (a9 + i + 1))), (7, .int 0), (8, .int (nI a9)), (6, .int x6), (0, .ref h0), (1, .int p0), (2, .int (nI P)), (3, .int (nI X)), (4, .int (nI Y)), (5, .int (nI N))]) hx hb dX12_mayRun_265 hl (k := 1) rfl (nI_1 _) (by decide) rfl (fun ls hl => ?_)
          refine lv_goto (tgt := 217) hx hb dX12_mayRun_268 (by decide) ?_
          exact ih (i + 1) _ ls (by omega) (by omega) (Or.inr ⟨rfl, i, hlt, c_3⟩) (lv_sub hl [0, 2, 1, 3, 4, 5, 6, 7, 8, 9] rfl)
        ·
          refine lv_iconst (v := 1) hx hb dX12_mayRun_258 (by decide) ?_
          refine lv_goto (tgt := 263) hx hb dX12_mayRun_259 (by decide) ?_
          refine lv_istore (lv' := [(7, .int 1), (9, .int (nI (a9 + i))), (8, .int (nI a9)), (6, .int x6), (0, .ref h0), (1, .int p0), (2, .int (nI P)), (3, .int (nI X)), (4, .int (nI Y)), (5, .int (nI N))]) hx hb dX12_mayRun_263 hl (by decide) rfl (fun ls hl => ?_)
          refine lv_iinc (v := (nI (a9 + i + 1))) (lv' := [(9, .int (nI (a9 + i + 1))), (7, .int 1), (8, .int (nI a9)), (6, .int x6), (0, .ref h0), (1, .int p0), (2, .int (nI P)), (3, .int (nI X)), (4, .int (nI Y)), (5, .int (nI N))]) hx hb dX12_mayRun_265 hl (k := 1) rfl (nI_1 _) (by decide) rfl (fun ls hl => ?_)
          refine lv_goto (tgt := 217) hx hb dX12_mayRun_268 (by decide) ?_
          exact ih (i + 1) _ ls (by omega) (by omega) (Or.inl ⟨rfl, fr_1 (hg.resolve_right (fun h => c_2 h.1)).2 c_3⟩) (lv_sub hl [0, 2, 1, 3, 4, 5, 6, 7, 8, 9] rfl)
set_option maxHeartbeats 4000000 in
set_option maxRecDepth 100000 in
theorem n_mayRun (l : Launch) (dC : Nat → ClassId) (dI : Nat → Nat → Nat) (h0 : Nat) (v : Nat → Nat) (cI cZ : ClassId) (u : mS) (p0 : Int32) (P X Y N : Nat) (hPP : P < 12) (hXW : X + 1 ≤ 8) (hYN : Y + N ≤ 60) (hi : bw p0 0 79 = true) (hc : bw (u.2 22 p0.toNatClampNeg) 0 6 = true) (hcm : bw (u.2 15 p0.toNatClampNeg) 0 80 = true) (hpr : ¬ u.2 22 p0.toNatClampNeg = 0 → vp_in (6 * p0 + u.2 22 p0.toNatClampNeg - 1) 480) (hfr : ¬ u.2 22 p0.toNatClampNeg = 6 → runG (mStand u p0 P X Y 1 N) p0 (u.2 22 p0.toNatClampNeg) → 0 ≤ (mFrom (mStand u p0 P X Y 1 N) p0 (u.2 22 p0.toNatClampNeg).toNatClampNeg).toInt ∧ (mFrom (mStand u p0 P X Y 1 N) p0 (u.2 22 p0.toNatClampNeg).toNatClampNeg).toInt ≤ 400 ∧ (mTakes (mStand u p0 P X Y 1 N) p0 (u.2 22 p0.toNatClampNeg)).toInt ≤ 60) (sz : Nat) : Met l yX12_mayRun wsX12_mayRun ({ frames := 3, cells := 0, slots := 0, locals := 77 }) (va_Pc [.ref h0, .int p0, .int (nI P), .int (nI X), .int (nI Y), .int (nI N)] (fun U => U.heap.size = sz ∧ PW dC dI (mW h0 v cI cZ u) [(cI, .int), (cZ, .boolean)] U ∧ va_D (fun _ => True) (mW h0 v cI cZ u))) (va_Qi (fun (r : Int32) (u9 : mS) => (r = 0 ∧ u9 = u ∧ ¬ runX u p0 P X Y N) ∨ (((r = 0 ∧ ¬ runX u p0 P X Y N) ∨ (r = 1 ∧ runX u p0 P X Y N)) ∧ ¬ u.2 22 p0.toNatClampNeg = 6 ∧ u9 = mUnstand (mStand u p0 P X Y 1 N) p0 P X Y 1 N)) (fun u9 t => va_P (dC, dI) vwCl (mW h0 v cI cZ u9) t.heap ∧ va_D (va_A (mW h0 v cI cZ u) sz) (mW h0 v cI cZ u9)) (va_A (mW h0 v cI cZ u) sz)) 0 0 (va_A (mW h0 v cI cZ u) sz) := by
  refine Met.ofW (cc := cX12_mayRun) (maxL := 10) (ret := (some .boolean)) (by decide) rfl ?_
  intro p e s m args below meth c s₁ B hml hv
  obtain ⟨rfl, hsz, ⟨hP, hK, hN⟩, hD0⟩ := hv
  have hx := B.exec
  have hb := B.bytes
  have hr := B.returns
  have hts := atoms_spec (ws := wsX12_mayRun) B.pre
  have hown : s.vm.findClass RX12 = some m.cls := findClass_of_methodNamed B.named
  have hlocks := B.notSynchronized
  subst hsz
  have hD := hD0.self (sz := s.heap.size)
  generalize hAe : va_A (mW h0 v cI cZ u) s.heap.size = A at hD ⊢
  have hA : ∀ q : Nat, s.heap.size ≤ q → A q := fun q h => by rw [← hAe]; exact Or.inr h
  have hS : va_S A s.heap s.heap [] := va_S.rf
  have hl := lv_entry ([.ref h0, .int p0, .int (nI P), .int (nI X), .int (nI Y), .int (nI N)]) (n := 10) (Nat.le_of_ble_eq_true rfl)
  rw [lg_entry_eq]
  generalize (lg_sl ([.ref h0, .int p0, .int (nI P), .int (nI X), .int (nI Y), .int (nI N)]) ++ List.replicate (10 - (lg_sl ([.ref h0, .int p0, .int (nI P), .int (nI X), .int (nI Y), .int (nI N)])).length) Slot.unset).toArray = ls at hl ⊢
  have hl : lv_has ls 10 [(0, .ref h0), (1, .int p0), (2, .int (nI P)), (3, .int (nI X)), (4, .int (nI Y)), (5, .int (nI N))] := hl
  refine lv_aload_n hx hb dX12_mayRun_0 rfl (lv_at hl 0 rfl) ?_
  refine va_get (D := (dC, dI)) (ci := 11) (v := .ref (v 22)) (C := RX12) (T := TX12) (N := 52) hx hb hts (by decide +kernel) hown hK hP 0 rfl rfl 22 (by decide) (hts (.fieldLink RX12 74 "PageOneModel" "pieces" "[I") (by decide +kernel)) (fun _ h9 => h9) rfl dX12_mayRun_1 ?_
  refine lv_iload_n hx hb dX12_mayRun_4 rfl (lv_at hl 1 rfl) ?_
  refine va_iald hx hb hK hP 22 0 rfl rfl (vin hi (by decide)) dX12_mayRun_5 ?_
  refine lv_bipush (v := 6) hx hb dX12_mayRun_6 (by decide) ?_
  refine lv_icmp_ne (tgt := 13) hx hb dX12_mayRun_8 (by decide) (fun c_1 => ?_) (fun c_1 => ?_)
  ·
    have h6 := c_1
    refine w_cut (X := fun R cells slots Q args => ∀ (ls : Array Slot), bhR u p0 P X Y → lv_has ls 10 [(0, .ref h0), (1, .int p0), (2, .int (nI P)), (3, .int (nI X)), (4, .int (nI Y)), (5, .int (nI N))] → W p l e R s m args below meth c s.heap [] cells slots Q (F0 m 115 ls [])) ?_ (fun kJ115 => ?_)
    ·
      intro ls hbh hl
      refine lv_aload_n hx hb dX12_mayRun_115 rfl (lv_at hl 0 rfl) ?_
      refine lv_iload_n hx hb dX12_mayRun_116 rfl (lv_at hl 1 rfl) ?_
      refine lv_iload_n hx hb dX12_mayRun_117 rfl (lv_at hl 2 rfl) ?_
      refine lv_iload_n hx hb dX12_mayRun_118 rfl (lv_at hl 3 rfl) ?_
      refine lv_iload hx hb dX12_mayRun_119 (lv_at hl 4 rfl) ?_
      refine lv_iconst (v := 1) hx hb dX12_mayRun_121 (by decide) ?_
      refine lv_iload hx hb dX12_mayRun_122 (lv_at hl 5 rfl) ?_
      have hFc := fr_all hD hS hA
      refine va_callv (va_runV (As := [.int p0, .int (nI P), .int (nI X), .int (nI Y), .int 1, .int (nI N)]) (rest := []) ⟨hx, hb, hml, hown, hts⟩ (m_stand l dC dI h0 v cI cZ u p0 P X Y 1 N hPP hXW hYN hi (q05 hc h6) s.heap.size) (cwV 6 hts gX12_mayRun_X12_stand rfl rfl rfl (by decide +kernel) ⟨Nat.le_of_ble_eq_true rfl, Nat.le_of_ble_eq_true rfl⟩) ⟨gw_fb, va_recv hK hP (ci := 11) (q0 := 0) rfl rfl, fun U hU hW => ⟨rfl, by rw [hU], pw_to hU hW hP hK hN, hD.weaken (fun _ _ _ _ => trivial)⟩⟩ rfl rfl hl.1 rfl (lv_room (Nat.le_of_ble_eq_true rfl)) dX12_mayRun_124 ⟨Nat.le_of_ble_eq_true rfl, Nat.le_of_ble_eq_true rfl⟩) hS (fun q _ h => hFc q h) hFc (fun u_2 t H1 locs ht hvm hw hB hz1 hk1 hS => ?_)
      obtain ⟨hP, hD1⟩ := hB
      rw [ht] at hP
      have hD := hD1.weaken (fun _ q _ h => hFc q.1 h)
      generalize H1 = H at hP hS ⊢
      have eu_2 := hw
      refine lv_aload_n hx hb dX12_mayRun_127 rfl (lv_at hl 0 rfl) ?_
      refine va_get (D := (dC, dI)) (ci := 11) (v := .ref (v 22)) (C := RX12) (T := TX12) (N := 52) hx hb hts (by decide +kernel) hown hK hP 0 rfl rfl 22 (by decide) (hts (.fieldLink RX12 74 "PageOneModel" "pieces" "[I") (by decide +kernel)) (fun _ h9 => h9) rfl dX12_mayRun_128 ?_
      refine lv_iload_n hx hb dX12_mayRun_131 rfl (lv_at hl 1 rfl) ?_
      refine va_iald hx hb hK hP 22 0 rfl rfl (vin hi (by decide)) dX12_mayRun_132 ?_
      refine lv_iconst (v := 1) hx hb dX12_mayRun_133 (by decide) ?_
      refine lv_isub hx hb dX12_mayRun_134 ?_
      refine lv_topi (fun x_3 ex_3 => ?_)
      refine lv_istore (lv' := [(6, .int x_3), (0, .ref h0), (1, .int p0), (2, .int (nI P)), (3, .int (nI X)), (4, .int (nI Y)), (5, .int (nI N))]) hx hb dX12_mayRun_135 hl (by decide) rfl (fun ls hl => ?_)
      have hex : x_3 = u.2 22 p0.toNatClampNeg := by rw [ex_3, eu_2, mStand_22, addsub1]
      have hl5 : bw x_3 0 5 = true := by rw [hex]; exact q05 hc h6
      have hc6 : bw (u_2.2 22 p0.toNatClampNeg) 0 6 = true := by rw [eu_2, mStand_22]; exact q16 (q05 hc h6)
      have hfr2 : runG u_2 p0 x_3 → 0 ≤ (mFrom u_2 p0 x_3.toNatClampNeg).toInt ∧ (mFrom u_2 p0 x_3.toNatClampNeg).toInt ≤ 400 ∧ (mTakes u_2 p0 x_3).toInt ≤ 60 := by rw [hex, eu_2]; exact hfr h6
      refine w_cut (X := fun R cells slots Q args => ∀ (g9 : Int32) (ls : Array Slot), ((g9 = 0 ∧ ¬ rX u_2 p0 P x_3) ∨ (g9 = 1 ∧ rX u_2 p0 P x_3)) → lv_has ls 10 [(7, .int g9), (0, .ref h0), (1, .int p0), (2, .int (nI P)), (3, .int (nI X)), (4, .int (nI Y)), (5, .int (nI N))] → W p l e R s m args below meth c H locs cells slots Q (F0 m 271 ls [])) ?_ (fun kJ271 => ?_)
      ·
        intro g9 ls hg9 hl
        refine lv_aload_n hx hb dX12_mayRun_271 rfl (lv_at hl 1 rfl) ?_
        refine lv_iload_n hx hb dX12_mayRun_272 rfl (lv_at hl 2 rfl) ?_
        obtain ⟨e23_9, e24_9, e25_9, e26_9, e27_9⟩ := mStand_sl u p0 P X Y 1 N
        rw [← eu_2] at e23_9 e24_9 e25_9 e26_9 e27_9
        have hq9 : bw (u_2.2 22 p0.toNatClampNeg - 1) 0 5 = true := by rw [eu_2, mStand_22, addsub1]; exact q05 hc h6
        have hFc := fr_all hD hS hA
        refine va_callv (va_runV (As := [.int p0]) (rest := []) ⟨hx, hb, hml, hown, hts⟩ (m_unstand l dC dI h0 v cI cZ u_2 p0 P X Y 1 N hPP hXW hYN hi hq9 e23_9 e24_9 e25_9 e26_9 e27_9 H.size) (cwV 1 hts gX12_mayRun_X12_unstand rfl rfl rfl (by decide +kernel) ⟨Nat.le_of_ble_eq_true rfl, Nat.le_of_ble_eq_true rfl⟩) ⟨gw_fb, va_recv hK hP (ci := 11) (q0 := 0) rfl rfl, fun U hU hW => ⟨rfl, by rw [hU], pw_to hU hW hP hK hN, hD.weaken (fun _ _ _ _ => trivial)⟩⟩ rfl rfl hl.1 rfl (lv_room (Nat.le_of_ble_eq_true rfl)) dX12_mayRun_273 ⟨Nat.le_of_ble_eq_true rfl, Nat.le_of_ble_eq_true rfl⟩) hS (fun q _ h => hFc q h) hFc (fun u_4 t H1 locs ht hvm hw hB hz1 hk1 hS => ?_)
        obtain ⟨hP, hD1⟩ := hB
        rw [ht] at hP
        have hD := hD1.weaken (fun _ q _ h => hFc q.1 h)
        generalize H1 = H at hP hS ⊢
        have eu_4 := hw
        refine lv_iload hx hb dX12_mayRun_276 (lv_at hl 0 rfl) ?_
        exact W.zret (v := g9) hx hb hr (by rcases hg9 with ⟨h, -⟩ | ⟨h, -⟩ <;> rw [h] <;> decide) (fun t ht hW => ⟨⟨g9, u_4, rfl, (Or.inr ⟨(by rw [hex, eu_2] at hg9; exact hg9.imp (fun h => ⟨h.1, fun q => h.2 q.2.2⟩) (fun h => ⟨h.1, h6, hbh, h.2⟩)), h6, (by rw [eu_4, eu_2])⟩), by rw [ht]; exact hP, hD⟩, hS.F ht⟩) hS.2.2 dX12_mayRun_278
      ·
        refine w_cut (X := fun R cells slots Q args => ∀ (a8 : Int32) (g8 : Int32) (ls : Array Slot), ((g8 = 0 ∧ ¬ rX u_2 p0 P x_3) ∨ (g8 = 1 ∧ runG u_2 p0 x_3 ∧ a8 = mFrom u_2 p0 x_3.toNatClampNeg ∧ ¬ u_2.2 15 p0.toNatClampNeg < a8 + mTakes u_2 p0 x_3)) → lv_has ls 10 [(8, .int a8), (7, .int g8), (6, .int x_3), (0, .ref h0), (1, .int p0), (2, .int (nI P)), (3, .int (nI X)), (4, .int (nI Y)), (5, .int (nI N))] → W p l e R s m args below meth c H locs cells slots Q (F0 m 213 ls [])) ?_ (fun kJ213 => ?_)
        ·
          intro a8 g8 ls hg8 hl
          refine lv_iload hx hb dX12_mayRun_213 (lv_at hl 0 rfl) ?_
          refine lv_istore (lv' := [(9, .int a8), (8, .int a8), (7, .int g8), (6, .int x_3), (0, .ref h0), (1, .int p0), (2, .int (nI P)), (3, .int (nI X)), (4, .int (nI Y)), (5, .int (nI N))]) hx hb dX12_mayRun_215 hl (by decide) rfl (fun ls hl => ?_)
          rcases hg8 with ⟨h8, hn8⟩ | ⟨h8, hG, ea8, hcl⟩
          ·
            subst h8
            refine lv_iload hx hb dX12_mayRun_217 (lv_at hl 0 rfl) ?_
            refine lv_iload hx hb dX12_mayRun_219 (lv_at hl 1 rfl) ?_
            refine lv_aload_n hx hb dX12_mayRun_221 rfl (lv_at hl 4 rfl) ?_
            refine lv_iload_n hx hb dX12_mayRun_222 rfl (lv_at hl 5 rfl) ?_
            refine lv_iload hx hb dX12_mayRun_223 (lv_at hl 3 rfl) ?_
            refine vp_callSi (va_runV (As := [.int p0, .int x_3]) (rest := [.int a8, .int a8]) ⟨hx, hb, hml, hown, hts⟩ (m_takes l dC dI h0 v cI cZ u_2 p0 x_3 hi hl5 hc6) (cwV 2 hts gX12_mayRun_X12_takes rfl rfl rfl (by decide +kernel) ⟨Nat.le_of_ble_eq_true rfl, Nat.le_of_ble_eq_true rfl⟩) ⟨pw_fb, va_recv hK hP (ci := 11) (q0 := 0) rfl rfl, fun U hU hW => ⟨rfl, pw_to hU hW hP hK hN⟩⟩ rfl rfl hl.1 rfl (lv_room (Nat.le_of_ble_eq_true rfl)) dX12_mayRun_225 ⟨Nat.le_of_ble_eq_true rfl, Nat.le_of_ble_eq_true rfl⟩).run (fun r hw => ?_)
            obtain rfl : r = (mTakes u_2 p0 x_3) := hw
            refine lv_iadd hx hb dX12_mayRun_228 ?_
            refine lv_icmp_ge (tgt := 271) hx hb dX12_mayRun_229 (by decide) (fun c_5 => ?_) (fun c_5 => ?_)
            ·
              exact kJ271 _ ls (Or.inl ⟨rfl, hn8⟩) (lv_sub hl [2, 4, 5, 6, 7, 8, 9] rfl)
            ·
              refine lv_iload hx hb dX12_mayRun_232 (lv_at hl 2 rfl) ?_
              refine lv_if_eq (tgt := 271) hx hb dX12_mayRun_234 (by decide) (fun c_6 => ?_) (fun c_6 => absurd (by decide) c_6)
              exact kJ271 _ ls (Or.inl ⟨rfl, hn8⟩) (lv_sub hl [2, 4, 5, 6, 7, 8, 9] rfl)
          ·
            subst h8
            obtain ⟨h1, h2, h3⟩ := hfr2 hG
            rw [← ea8] at h1 h2
            obtain ⟨T, hT1, hT2, eT⟩ := exN (x := mTakes u_2 p0 x_3) (lo := 1) (hi := 60) (by rw [bw_iff]; refine ⟨?_, h3⟩; have := hG.1; rw [i32_lt] at this; omega) (by decide)
            obtain ⟨a9, ha1, ha2, ea9⟩ := exN (x := a8) (lo := 0) (hi := 400) (by rw [bw_iff]; exact ⟨h1, h2⟩) (by decide)
            have h400 : (400 : Int32).toInt = 400 := rfl
            have h60 : (60 : Int32).toInt = 60 := rfl
            have hcl2 := hcl
            rw [eT, ea9] at hcl2
            have ha8 : a9 + T ≤ 80 := by have hz := bw_iff.mp hcm; have h80 : (80 : Int32).toInt = 80 := rfl; rw [h80] at hz; rw [show u_2.2 15 p0.toNatClampNeg = u.2 15 p0.toNatClampNeg from by rw [eu_2]; rfl, eT, ea9, nI_add, i32_lt, nI_toInt (by omega)] at hcl; omega
            subst ea9
            exact n_mr_loop (u := u_2) (T := T) (a9 := a9) hx hb hml hts hown hN hK (Nat.le_of_ble_eq_true rfl) (Nat.le_of_ble_eq_true rfl) (Nat.le_of_ble_eq_true rfl) (Nat.le_of_ble_eq_true rfl) hP hi hPP hl5 hc6 eT ha8 (fun g9 ls hq hl => kJ271 g9 ls (rX_i hG eT ea8 (by omega) (by omega) hcl2 hq) hl) (T + 1) 0 1 ls (Nat.zero_le _) (by omega) (Or.inl ⟨rfl, fun t ht => absurd ht (Nat.not_lt_zero _)⟩) (lv_sub hl [0, 1, 2, 3, 4, 5, 6, 7, 8, 9] rfl)
        ·
          refine w_cut (X := fun R cells slots Q args => ∀ (g7 : Int32) (ls : Array Slot), ((g7 = 0 ∧ ¬ runG u_2 p0 x_3) ∨ (g7 = 1 ∧ runG u_2 p0 x_3)) → lv_has ls 10 [(7, .int g7), (6, .int x_3), (0, .ref h0), (1, .int p0), (2, .int (nI P)), (3, .int (nI X)), (4, .int (nI Y)), (5, .int (nI N))] → W p l e R s m args below meth c H locs cells slots Q (F0 m 173 ls [])) ?_ (fun kJ173 => ?_)
          ·
            intro g7 ls hg7 hl
            refine lv_aload_n hx hb dX12_mayRun_173 rfl (lv_at hl 2 rfl) ?_
            refine lv_iload_n hx hb dX12_mayRun_174 rfl (lv_at hl 3 rfl) ?_
            refine lv_iload hx hb dX12_mayRun_175 (lv_at hl 1 rfl) ?_
            refine vp_callSi (va_runV (As := [.int p0, .int x_3]) (rest := []) ⟨hx, hb, hml, hown, hts⟩ (m_from2 l dC dI h0 v cI cZ u_2 p0 x_3 hi (k56 hl5) hc6) (cwV 2 hts gX12_mayRun_X12_from rfl rfl rfl (by decide +kernel) ⟨Nat.le_of_ble_eq_true rfl, Nat.le_of_ble_eq_true rfl⟩) ⟨pw_fb, va_recv hK hP (ci := 11) (q0 := 0) rfl rfl, fun U hU hW => ⟨rfl, pw_to hU hW hP hK hN⟩⟩ rfl rfl hl.1 rfl (lv_room (Nat.le_of_ble_eq_true rfl)) dX12_mayRun_177 ⟨Nat.le_of_ble_eq_true rfl, Nat.le_of_ble_eq_true rfl⟩).run (fun r hw => ?_)
            obtain rfl : r = (mFrom u_2 p0 (x_3 : Int32).toNatClampNeg) := hw
            refine lv_topi (fun x_7 ex_7 => ?_)
            refine lv_istore (lv' := [(8, .int x_7), (7, .int g7), (6, .int x_3), (0, .ref h0), (1, .int p0), (2, .int (nI P)), (3, .int (nI X)), (4, .int (nI Y)), (5, .int (nI N))]) hx hb dX12_mayRun_180 hl (by decide) rfl (fun ls hl => ?_)
            refine lv_iload hx hb dX12_mayRun_182 (lv_at hl 1 rfl) ?_
            refine lv_if_eq (tgt := 210) hx hb dX12_mayRun_184 (by decide) (fun c_8 => ?_) (fun c_8 => ?_)
            ·
              refine lv_iconst (v := 0) hx hb dX12_mayRun_210 (by decide) ?_
              refine lv_istore (lv' := [(7, .int 0), (8, .int x_7), (6, .int x_3), (0, .ref h0), (1, .int p0), (2, .int (nI P)), (3, .int (nI X)), (4, .int (nI Y)), (5, .int (nI N))]) hx hb dX12_mayRun_211 hl (by decide) rfl (fun ls hl => ?_)
              exact kJ213 _ _ ls (Or.inl ⟨rfl, fun h => (hg7.elim (fun q => q.2 h.1) (fun q => absurd (q.1.symm.trans c_8) (by decide)))⟩) (lv_sub hl [1, 0, 2, 3, 4, 5, 6, 7, 8] rfl)
            ·
              refine lv_iload hx hb dX12_mayRun_187 (lv_at hl 0 rfl) ?_
              refine lv_aload_n hx hb dX12_mayRun_189 rfl (lv_at hl 3 rfl) ?_
              refine lv_iload_n hx hb dX12_mayRun_190 rfl (lv_at hl 4 rfl) ?_
              refine lv_iload hx hb dX12_mayRun_191 (lv_at hl 2 rfl) ?_
              refine vp_callSi (va_runV (As := [.int p0, .int x_3]) (rest := [.int x_7]) ⟨hx, hb, hml, hown, hts⟩ (m_takes l dC dI h0 v cI cZ u_2 p0 x_3 hi hl5 hc6) (cwV 2 hts gX12_mayRun_X12_takes rfl rfl rfl (by decide +kernel) ⟨Nat.le_of_ble_eq_true rfl, Nat.le_of_ble_eq_true rfl⟩) ⟨pw_fb, va_recv hK hP (ci := 11) (q0 := 0) rfl rfl, fun U hU hW => ⟨rfl, pw_to hU hW hP hK hN⟩⟩ rfl rfl hl.1 rfl (lv_room (Nat.le_of_ble_eq_true rfl)) dX12_mayRun_193 ⟨Nat.le_of_ble_eq_true rfl, Nat.le_of_ble_eq_true rfl⟩).run (fun r hw => ?_)
              obtain rfl : r = (mTakes u_2 p0 x_3) := hw
              refine lv_iadd hx hb dX12_mayRun_196 ?_
              refine lv_aload_n hx hb dX12_mayRun_197 rfl (lv_at hl 3 rfl) ?_
              refine va_get (D := (dC, dI)) (ci := 11) (v := .ref (v 15)) (C := RX12) (T := TX12) (N := 52) hx hb hts (by decide +kernel) hown hK hP 0 rfl rfl 15 (by decide) (hts (.fieldLink RX12 52 "PageOneModel" "come" "[I") (by decide +kernel)) (fun _ h9 => h9) rfl dX12_mayRun_198 ?_
              refine lv_iload_n hx hb dX12_mayRun_201 rfl (lv_at hl 4 rfl) ?_
              refine va_iald hx hb hK hP 15 0 rfl rfl (vin hi (by decide)) dX12_mayRun_202 ?_
              refine lv_icmp_gt (tgt := 210) hx hb dX12_mayRun_203 (by decide) (fun c_9 => ?_) (fun c_9 => ?_)
              ·
                refine lv_iconst (v := 0) hx hb dX12_mayRun_210 (by decide) ?_
                refine lv_istore (lv' := [(7, .int 0), (8, .int x_7), (6, .int x_3), (0, .ref h0), (1, .int p0), (2, .int (nI P)), (3, .int (nI X)), (4, .int (nI Y)), (5, .int (nI N))]) hx hb dX12_mayRun_211 hl (by decide) rfl (fun ls hl => ?_)
                exact kJ213 _ _ ls (Or.inl ⟨rfl, fun h => h.2.1 (by rw [← ex_7]; exact c_9)⟩) (lv_sub hl [1, 0, 2, 3, 4, 5, 6, 7, 8] rfl)
              ·
                refine lv_iconst (v := 1) hx hb dX12_mayRun_206 (by decide) ?_
                refine lv_goto (tgt := 211) hx hb dX12_mayRun_207 (by decide) ?_
                refine lv_istore (lv' := [(7, .int 1), (8, .int x_7), (6, .int x_3), (0, .ref h0), (1, .int p0), (2, .int (nI P)), (3, .int (nI X)), (4, .int (nI Y)), (5, .int (nI N))]) hx hb dX12_mayRun_211 hl (by decide) rfl (fun ls hl => ?_)
                exact kJ213 _ _ ls (Or.inr ⟨rfl, (hg7.resolve_left (fun h => c_8 h.1)).2, ex_7, c_9⟩) (lv_sub hl [1, 0, 2, 3, 4, 5, 6, 7, 8] rfl)
          ·
            refine lv_aload_n hx hb dX12_mayRun_137 rfl (lv_at hl 1 rfl) ?_
            refine lv_iload_n hx hb dX12_mayRun_138 rfl (lv_at hl 2 rfl) ?_
            refine lv_iload hx hb dX12_mayRun_139 (lv_at hl 0 rfl) ?_
            refine vp_callSi (va_runV (As := [.int p0, .int x_3]) (rest := []) ⟨hx, hb, hml, hown, hts⟩ (m_takes l dC dI h0 v cI cZ u_2 p0 x_3 hi hl5 hc6) (cwV 2 hts gX12_mayRun_X12_takes rfl rfl rfl (by decide +kernel) ⟨Nat.le_of_ble_eq_true rfl, Nat.le_of_ble_eq_true rfl⟩) ⟨pw_fb, va_recv hK hP (ci := 11) (q0 := 0) rfl rfl, fun U hU hW => ⟨rfl, pw_to hU hW hP hK hN⟩⟩ rfl rfl hl.1 rfl (lv_room (Nat.le_of_ble_eq_true rfl)) dX12_mayRun_141 ⟨Nat.le_of_ble_eq_true rfl, Nat.le_of_ble_eq_true rfl⟩).run (fun r hw => ?_)
            obtain rfl : r = (mTakes u_2 p0 x_3) := hw
            refine lv_iconst (v := 1) hx hb dX12_mayRun_144 (by decide) ?_
            refine lv_icmp_lt (tgt := 170) hx hb dX12_mayRun_145 (by decide) (fun c_10 => ?_) (fun c_10 => ?_)
            ·
              refine lv_iconst (v := 0) hx hb dX12_mayRun_170 (by decide) ?_
              refine lv_istore (lv' := [(7, .int 0), (6, .int x_3), (0, .ref h0), (1, .int p0), (2, .int (nI P)), (3, .int (nI X)), (4, .int (nI Y)), (5, .int (nI N))]) hx hb dX12_mayRun_171 hl (by decide) rfl (fun ls hl => ?_)
              exact kJ173 _ ls (Or.inl ⟨rfl, fun h => h.1 c_10⟩) (lv_sub hl [0, 1, 2, 3, 4, 5, 6, 7] rfl)
            ·
              refine lv_iload hx hb dX12_mayRun_148 (lv_at hl 0 rfl) ?_
              refine lv_if_eq (tgt := 166) hx hb dX12_mayRun_150 (by decide) (fun c_11 => ?_) (fun c_11 => ?_)
              ·
                refine lv_iconst (v := 1) hx hb dX12_mayRun_166 (by decide) ?_
                refine lv_goto (tgt := 171) hx hb dX12_mayRun_167 (by decide) ?_
                refine lv_istore (lv' := [(7, .int 1), (6, .int x_3), (0, .ref h0), (1, .int p0), (2, .int (nI P)), (3, .int (nI X)), (4, .int (nI Y)), (5, .int (nI N))]) hx hb dX12_mayRun_171 hl (by decide) rfl (fun ls hl => ?_)
                exact kJ173 _ ls (Or.inr ⟨rfl, ⟨c_10, Or.inl c_11⟩⟩) (lv_sub hl [0, 1, 2, 3, 4, 5, 6, 7] rfl)
              ·
                refine lv_aload_n hx hb dX12_mayRun_153 rfl (lv_at hl 1 rfl) ?_
                refine lv_iload_n hx hb dX12_mayRun_154 rfl (lv_at hl 2 rfl) ?_
                refine lv_iload hx hb dX12_mayRun_155 (lv_at hl 0 rfl) ?_
                refine lv_iconst (v := 1) hx hb dX12_mayRun_157 (by decide) ?_
                refine lv_isub hx hb dX12_mayRun_158 ?_
                refine vp_callSi (va_runV (As := [.int p0, .int (x_3 - 1)]) (rest := []) ⟨hx, hb, hml, hown, hts⟩ (m_takes l dC dI h0 v cI cZ u_2 p0 (x_3 - 1) hi (qm1 hl5 c_11) hc6) (cwV 2 hts gX12_mayRun_X12_takes rfl rfl rfl (by decide +kernel) ⟨Nat.le_of_ble_eq_true rfl, Nat.le_of_ble_eq_true rfl⟩) ⟨pw_fb, va_recv hK hP (ci := 11) (q0 := 0) rfl rfl, fun U hU hW => ⟨rfl, pw_to hU hW hP hK hN⟩⟩ rfl rfl hl.1 rfl (lv_room (Nat.le_of_ble_eq_true rfl)) dX12_mayRun_159 ⟨Nat.le_of_ble_eq_true rfl, Nat.le_of_ble_eq_true rfl⟩).run (fun r hw => ?_)
                obtain rfl : r = (mTakes u_2 p0 (x_3 - 1)) := hw
                refine lv_iconst (v := 1) hx hb dX12_mayRun_162 (by decide) ?_
                refine lv_icmp_lt (tgt := 170) hx hb dX12_mayRun_163 (by decide) (fun c_12 => ?_) (fun c_12 => ?_)
                ·
                  refine lv_iconst (v := 0) hx hb dX12_mayRun_170 (by decide) ?_
                  refine lv_istore (lv' := [(7, .int 0), (6, .int x_3), (0, .ref h0), (1, .int p0), (2, .int (nI P)), (3, .int (nI X)), (4, .int (nI Y)), (5, .int (nI N))]) hx hb dX12_mayRun_171 hl (by decide) rfl (fun ls hl => ?_)
                  exact kJ173 _ ls (Or.inl ⟨rfl, fun h => h.2.elim c_11 (fun q => q c_12)⟩) (lv_sub hl [0, 1, 2, 3, 4, 5, 6, 7] rfl)
                ·
                  refine lv_iconst (v := 1) hx hb dX12_mayRun_166 (by decide) ?_
                  refine lv_goto (tgt := 171) hx hb dX12_mayRun_167 (by decide) ?_
                  refine lv_istore (lv' := [(7, .int 1), (6, .int x_3), (0, .ref h0), (1, .int p0), (2, .int (nI P)), (3, .int (nI X)), (4, .int (nI Y)), (5, .int (nI N))]) hx hb dX12_mayRun_171 hl (by decide) rfl (fun ls hl => ?_)
                  exact kJ173 _ ls (Or.inr ⟨rfl, ⟨c_10, Or.inr c_12⟩⟩) (lv_sub hl [0, 1, 2, 3, 4, 5, 6, 7] rfl)
    ·
      refine w_cut (X := fun R cells slots Q args => ∀ (g0 : Int32) (ls : Array Slot), ((g0 = 0 ∧ ¬ bhR u p0 P X Y) ∨ (g0 = 1 ∧ bhR u p0 P X Y)) → lv_has ls 10 [(7, .int g0), (0, .ref h0), (1, .int p0), (2, .int (nI P)), (3, .int (nI X)), (4, .int (nI Y)), (5, .int (nI N))] → W p l e R s m args below meth c s.heap [] cells slots Q (F0 m 108 ls [])) ?_ (fun kJ108 => ?_)
      ·
        intro g0 ls hB0 hl
        refine lv_iload hx hb dX12_mayRun_108 (lv_at hl 0 rfl) ?_
        refine lv_if_ne (tgt := 115) hx hb dX12_mayRun_110 (by decide) (fun c_13 => ?_) (fun c_13 => ?_)
        ·
          exact kJ115 ls (hB0.resolve_left (fun h => c_13 h.1)).2 (lv_sub hl [1, 2, 3, 4, 5, 6] rfl)
        ·
          refine lv_iconst (v := 0) hx hb dX12_mayRun_113 (by decide) ?_
          exact W.zret (v := 0) hx hb hr (by decide) (fun t ht hW => ⟨⟨0, u, rfl, (Or.inl ⟨rfl, rfl, fun q => hB0.elim (fun h => h.2 q.2.1) (fun h => absurd (h.1.symm.trans c_13) (by decide))⟩), by rw [ht]; exact hP, hD⟩, hS.F ht⟩) hS.2.2 dX12_mayRun_114
      ·
        refine lv_aload_n hx hb dX12_mayRun_13 rfl (lv_at hl 0 rfl) ?_
        refine va_get (D := (dC, dI)) (ci := 11) (v := .ref (v 22)) (C := RX12) (T := TX12) (N := 52) hx hb hts (by decide +kernel) hown hK hP 0 rfl rfl 22 (by decide) (hts (.fieldLink RX12 74 "PageOneModel" "pieces" "[I") (by decide +kernel)) (fun _ h9 => h9) rfl dX12_mayRun_14 ?_
        refine lv_iload_n hx hb dX12_mayRun_17 rfl (lv_at hl 1 rfl) ?_
        refine va_iald hx hb hK hP 22 0 rfl rfl (vin hi (by decide)) dX12_mayRun_18 ?_
        refine lv_if_le (tgt := 115) hx hb dX12_mayRun_19 (by decide) (fun c_14 => ?_) (fun c_14 => ?_)
        ·
          exact kJ115 ls (Or.inl c_14) (lv_sub hl [0, 1, 2, 3, 4, 5] rfl)
        ·
          refine lv_bipush (v := 6) hx hb dX12_mayRun_22 (by decide) ?_
          refine lv_iload_n hx hb dX12_mayRun_24 rfl (lv_at hl 1 rfl) ?_
          refine lv_imul hx hb dX12_mayRun_25 ?_
          refine lv_aload_n hx hb dX12_mayRun_26 rfl (lv_at hl 0 rfl) ?_
          refine va_get (D := (dC, dI)) (ci := 11) (v := .ref (v 22)) (C := RX12) (T := TX12) (N := 52) hx hb hts (by decide +kernel) hown hK hP 0 rfl rfl 22 (by decide) (hts (.fieldLink RX12 74 "PageOneModel" "pieces" "[I") (by decide +kernel)) (fun _ h9 => h9) rfl dX12_mayRun_27 ?_
          refine lv_iload_n hx hb dX12_mayRun_30 rfl (lv_at hl 1 rfl) ?_
          refine va_iald hx hb hK hP 22 0 rfl rfl (vin hi (by decide)) dX12_mayRun_31 ?_
          refine lv_iadd hx hb dX12_mayRun_32 ?_
          refine lv_iconst (v := 1) hx hb dX12_mayRun_33 (by decide) ?_
          refine lv_isub hx hb dX12_mayRun_34 ?_
          refine lv_topi (fun x_15 ex_15 => ?_)
          refine lv_istore (lv' := [(6, .int x_15), (0, .ref h0), (1, .int p0), (2, .int (nI P)), (3, .int (nI X)), (4, .int (nI Y)), (5, .int (nI N))]) hx hb dX12_mayRun_35 hl (by decide) rfl (fun ls hl => ?_)
          refine lv_iload_n hx hb dX12_mayRun_37 rfl (lv_at hl 3 rfl) ?_
          refine lv_aload_n hx hb dX12_mayRun_38 rfl (lv_at hl 1 rfl) ?_
          refine va_get (D := (dC, dI)) (ci := 11) (v := .ref (v 23)) (C := RX12) (T := TX12) (N := 52) hx hb hts (by decide +kernel) hown hK hP 0 rfl rfl 23 (by decide) (hts (.fieldLink RX12 77 "PageOneModel" "pPage" "[I") (by decide +kernel)) (fun _ h9 => h9) rfl dX12_mayRun_39 ?_
          refine lv_iload hx hb dX12_mayRun_42 (lv_at hl 0 rfl) ?_
          refine va_iald hx hb hK hP 23 0 rfl rfl (by rw [ex_15]; exact hpr (fun h => absurd (by rw [h]; decide) c_14)) dX12_mayRun_44 ?_
          refine lv_icmp_gt (tgt := 101) hx hb dX12_mayRun_45 (by decide) (fun c_16 => ?_) (fun c_16 => ?_)
          ·
            refine lv_iconst (v := 1) hx hb dX12_mayRun_101 (by decide) ?_
            refine lv_goto (tgt := 106) hx hb dX12_mayRun_102 (by decide) ?_
            refine lv_istore (lv' := [(7, .int 1), (6, .int x_15), (0, .ref h0), (1, .int p0), (2, .int (nI P)), (3, .int (nI X)), (4, .int (nI Y)), (5, .int (nI N))]) hx hb dX12_mayRun_106 hl (by decide) rfl (fun ls hl => ?_)
            exact kJ108 _ ls (Or.inr ⟨rfl, bh_y ex_15 (Or.inl c_16)⟩) (lv_sub hl [0, 2, 3, 4, 5, 6, 7] rfl)
          ·
            refine lv_iload_n hx hb dX12_mayRun_48 rfl (lv_at hl 3 rfl) ?_
            refine lv_aload_n hx hb dX12_mayRun_49 rfl (lv_at hl 1 rfl) ?_
            refine va_get (D := (dC, dI)) (ci := 11) (v := .ref (v 23)) (C := RX12) (T := TX12) (N := 52) hx hb hts (by decide +kernel) hown hK hP 0 rfl rfl 23 (by decide) (hts (.fieldLink RX12 77 "PageOneModel" "pPage" "[I") (by decide +kernel)) (fun _ h9 => h9) rfl dX12_mayRun_50 ?_
            refine lv_iload hx hb dX12_mayRun_53 (lv_at hl 0 rfl) ?_
            refine va_iald hx hb hK hP 23 0 rfl rfl (by rw [ex_15]; exact hpr (fun h => absurd (by rw [h]; decide) c_14)) dX12_mayRun_55 ?_
            refine lv_icmp_ne (tgt := 105) hx hb dX12_mayRun_56 (by decide) (fun c_17 => ?_) (fun c_17 => ?_)
            ·
              refine lv_iconst (v := 0) hx hb dX12_mayRun_105 (by decide) ?_
              refine lv_istore (lv' := [(7, .int 0), (6, .int x_15), (0, .ref h0), (1, .int p0), (2, .int (nI P)), (3, .int (nI X)), (4, .int (nI Y)), (5, .int (nI N))]) hx hb dX12_mayRun_106 hl (by decide) rfl (fun ls hl => ?_)
              exact kJ108 _ ls (Or.inl ⟨rfl, bh_n ex_15 c_14 (fun h => h.elim c_16 (fun h => c_17 h.1))⟩) (lv_sub hl [0, 2, 3, 4, 5, 6, 7] rfl)
            ·
              refine lv_iload_n hx hb dX12_mayRun_59 rfl (lv_at hl 4 rfl) ?_
              refine lv_aload_n hx hb dX12_mayRun_60 rfl (lv_at hl 1 rfl) ?_
              refine va_get (D := (dC, dI)) (ci := 11) (v := .ref (v 24)) (C := RX12) (T := TX12) (N := 52) hx hb hts (by decide +kernel) hown hK hP 0 rfl rfl 24 (by decide) (hts (.fieldLink RX12 80 "PageOneModel" "pColumn" "[I") (by decide +kernel)) (fun _ h9 => h9) rfl dX12_mayRun_61 ?_
              refine lv_iload hx hb dX12_mayRun_64 (lv_at hl 0 rfl) ?_
              refine va_iald hx hb hK hP 24 0 rfl rfl (by rw [ex_15]; exact hpr (fun h => absurd (by rw [h]; decide) c_14)) dX12_mayRun_66 ?_
              refine lv_icmp_gt (tgt := 101) hx hb dX12_mayRun_67 (by decide) (fun c_18 => ?_) (fun c_18 => ?_)
              ·
                refine lv_iconst (v := 1) hx hb dX12_mayRun_101 (by decide) ?_
                refine lv_goto (tgt := 106) hx hb dX12_mayRun_102 (by decide) ?_
                refine lv_istore (lv' := [(7, .int 1), (6, .int x_15), (0, .ref h0), (1, .int p0), (2, .int (nI P)), (3, .int (nI X)), (4, .int (nI Y)), (5, .int (nI N))]) hx hb dX12_mayRun_106 hl (by decide) rfl (fun ls hl => ?_)
                exact kJ108 _ ls (Or.inr ⟨rfl, bh_y ex_15 (Or.inr ⟨c_17, Or.inl c_18⟩)⟩) (lv_sub hl [0, 2, 3, 4, 5, 6, 7] rfl)
              ·
                refine lv_iload_n hx hb dX12_mayRun_70 rfl (lv_at hl 4 rfl) ?_
                refine lv_aload_n hx hb dX12_mayRun_71 rfl (lv_at hl 1 rfl) ?_
                refine va_get (D := (dC, dI)) (ci := 11) (v := .ref (v 24)) (C := RX12) (T := TX12) (N := 52) hx hb hts (by decide +kernel) hown hK hP 0 rfl rfl 24 (by decide) (hts (.fieldLink RX12 80 "PageOneModel" "pColumn" "[I") (by decide +kernel)) (fun _ h9 => h9) rfl dX12_mayRun_72 ?_
                refine lv_iload hx hb dX12_mayRun_75 (lv_at hl 0 rfl) ?_
                refine va_iald hx hb hK hP 24 0 rfl rfl (by rw [ex_15]; exact hpr (fun h => absurd (by rw [h]; decide) c_14)) dX12_mayRun_77 ?_
                refine lv_icmp_ne (tgt := 105) hx hb dX12_mayRun_78 (by decide) (fun c_19 => ?_) (fun c_19 => ?_)
                ·
                  refine lv_iconst (v := 0) hx hb dX12_mayRun_105 (by decide) ?_
                  refine lv_istore (lv' := [(7, .int 0), (6, .int x_15), (0, .ref h0), (1, .int p0), (2, .int (nI P)), (3, .int (nI X)), (4, .int (nI Y)), (5, .int (nI N))]) hx hb dX12_mayRun_106 hl (by decide) rfl (fun ls hl => ?_)
                  exact kJ108 _ ls (Or.inl ⟨rfl, bh_n ex_15 c_14 (fun h => h.elim c_16 (fun h => h.2.elim c_18 (fun h => c_19 h.1)))⟩) (lv_sub hl [0, 2, 3, 4, 5, 6, 7] rfl)
                ·
                  refine lv_iload hx hb dX12_mayRun_81 (lv_at hl 5 rfl) ?_
                  refine lv_aload_n hx hb dX12_mayRun_83 rfl (lv_at hl 1 rfl) ?_
                  refine va_get (D := (dC, dI)) (ci := 11) (v := .ref (v 25)) (C := RX12) (T := TX12) (N := 52) hx hb hts (by decide +kernel) hown hK hP 0 rfl rfl 25 (by decide) (hts (.fieldLink RX12 83 "PageOneModel" "pLine" "[I") (by decide +kernel)) (fun _ h9 => h9) rfl dX12_mayRun_84 ?_
                  refine lv_iload hx hb dX12_mayRun_87 (lv_at hl 0 rfl) ?_
                  refine va_iald hx hb hK hP 25 0 rfl rfl (by rw [ex_15]; exact hpr (fun h => absurd (by rw [h]; decide) c_14)) dX12_mayRun_89 ?_
                  refine lv_aload_n hx hb dX12_mayRun_90 rfl (lv_at hl 1 rfl) ?_
                  refine va_get (D := (dC, dI)) (ci := 11) (v := .ref (v 27)) (C := RX12) (T := TX12) (N := 52) hx hb hts (by decide +kernel) hown hK hP 0 rfl rfl 27 (by decide) (hts (.fieldLink RX12 89 "PageOneModel" "pHigh" "[I") (by decide +kernel)) (fun _ h9 => h9) rfl dX12_mayRun_91 ?_
                  refine lv_iload hx hb dX12_mayRun_94 (lv_at hl 0 rfl) ?_
                  refine va_iald hx hb hK hP 27 0 rfl rfl (by rw [ex_15]; exact hpr (fun h => absurd (by rw [h]; decide) c_14)) dX12_mayRun_96 ?_
                  refine lv_iadd hx hb dX12_mayRun_97 ?_
                  refine lv_icmp_lt (tgt := 105) hx hb dX12_mayRun_98 (by decide) (fun c_20 => ?_) (fun c_20 => ?_)
                  ·
                    refine lv_iconst (v := 0) hx hb dX12_mayRun_105 (by decide) ?_
                    refine lv_istore (lv' := [(7, .int 0), (6, .int x_15), (0, .ref h0), (1, .int p0), (2, .int (nI P)), (3, .int (nI X)), (4, .int (nI Y)), (5, .int (nI N))]) hx hb dX12_mayRun_106 hl (by decide) rfl (fun ls hl => ?_)
                    exact kJ108 _ ls (Or.inl ⟨rfl, bh_n ex_15 c_14 (fun h => h.elim c_16 (fun h => h.2.elim c_18 (fun h => h.2 c_20)))⟩) (lv_sub hl [0, 2, 3, 4, 5, 6, 7] rfl)
                  ·
                    refine lv_iconst (v := 1) hx hb dX12_mayRun_101 (by decide) ?_
                    refine lv_goto (tgt := 106) hx hb dX12_mayRun_102 (by decide) ?_
                    refine lv_istore (lv' := [(7, .int 1), (6, .int x_15), (0, .ref h0), (1, .int p0), (2, .int (nI P)), (3, .int (nI X)), (4, .int (nI Y)), (5, .int (nI N))]) hx hb dX12_mayRun_106 hl (by decide) rfl (fun ls hl => ?_)
                    exact kJ108 _ ls (Or.inr ⟨rfl, bh_y ex_15 (Or.inr ⟨c_17, Or.inr ⟨c_19, c_20⟩⟩)⟩) (lv_sub hl [0, 2, 3, 4, 5, 6, 7] rfl)
  ·
    refine lv_iconst (v := 0) hx hb dX12_mayRun_11 (by decide) ?_
    exact W.zret (v := 0) hx hb hr (by decide) (fun t ht hW => ⟨⟨0, u, rfl, (Or.inl ⟨rfl, rfl, fun q => q.1 c_1⟩), by rw [ht]; exact hP, hD⟩, hS.F ht⟩) hS.2.2 dX12_mayRun_12
theorem putR (u : mS) (i : Int32) (P X Y D N : Nat) : (mActs (mStand u i P X Y D N) 0 i 0 0 0 0 0).2 22 i.toNatClampNeg = u.2 22 i.toNatClampNeg + 1 := by
  rw [mActs_k _ _ _ _ _ _ _ _ (by omega), mStand_22]
noncomputable def okP0 (u : mS) (p0 p1 p2 p3 p4 : Int32) : Prop := bw p0 0 (u.1 3 - 1) = true ∧ ¬ u.1 28 = 300 ∧ (True) ∧ ¬ p4 < 1 ∧ (True) ∧ mFreeP u p1 p2 p3 1 p4 ∧ (runX u p0 p1.toNatClampNeg p2.toNatClampNeg p3.toNatClampNeg p4.toNatClampNeg)
noncomputable def okP1 (u : mS) (p0 p1 p2 p3 p4 : Int32) : Prop := bw p0 0 (u.1 3 - 1) = true ∧ ¬ u.1 28 = 300 ∧ (p4 = 0) ∧ ¬ (u.2 8 p0.toNatClampNeg) < 1 ∧ (u.2 22 p0.toNatClampNeg = 0) ∧ mFreeP u p1 p2 p3 (u.2 7 p0.toNatClampNeg) (u.2 8 p0.toNatClampNeg) ∧ (True)
noncomputable def okP2 (u : mS) (p0 p1 p2 p3 p4 : Int32) : Prop := bw p0 0 (u.1 3 - 1) = true ∧ ¬ u.1 28 = 300 ∧ (bw p4 0 (u.2 17 p0.toNatClampNeg - 1) = true) ∧ ¬ (u.2 19 (4 * p0 + p4).toNatClampNeg) < 1 ∧ (u.2 22 p0.toNatClampNeg = 0) ∧ mFreeP u p1 p2 p3 (u.2 18 (4 * p0 + p4).toNatClampNeg) (u.2 19 (4 * p0 + p4).toNatClampNeg) ∧ (True)
noncomputable def okP3 (u : mS) (p0 p1 p2 p3 p4 : Int32) : Prop := bw p0 0 (u.1 3 - 1) = true ∧ ¬ u.1 28 = 300 ∧ (p4 = 0) ∧ ¬ (u.2 8 p0.toNatClampNeg) < 1 ∧ (u.2 22 p0.toNatClampNeg = 0) ∧ mFreeP u p1 p2 p3 (u.2 7 p0.toNatClampNeg) (u.2 8 p0.toNatClampNeg) ∧ (p1 = u.2 11 p0.toNatClampNeg ∧ p2 = u.2 12 p0.toNatClampNeg ∧ p3 = u.2 13 p0.toNatClampNeg)
noncomputable def okP4 (u : mS) (p0 p1 p2 p3 p4 : Int32) : Prop := bw p0 0 (u.1 3 - 1) = true ∧ ¬ u.1 28 = 300 ∧ (True) ∧ ¬ p4 < 1 ∧ (u.2 22 p0.toNatClampNeg = 0) ∧ mFreeP u p1 p2 p3 1 p4 ∧ (bw p4 (u.2 5 p0.toNatClampNeg) (u.2 6 p0.toNatClampNeg) = true)
noncomputable def okP5 (u : mS) (p0 p1 p2 p3 p4 : Int32) : Prop := bw p0 0 (u.1 3 - 1) = true ∧ ¬ u.1 28 = 300 ∧ (p4 = 0) ∧ ¬ (u.2 8 p0.toNatClampNeg) < 1 ∧ (u.2 22 p0.toNatClampNeg = 0) ∧ mFreeP u p1 p2 p3 1 (u.2 8 p0.toNatClampNeg) ∧ (¬ mMend u p0 p1 p2 = 0)
/-- what the reference's put does: ok, columns, lines -/
def rPut (u : mS) (p0 p1 p2 p3 W H : Int32) (ok : Prop) (r : Int32) (u9 : mS) : Prop := (r = (-1) ∧ ¬ ok ∧ (u9 = u ∨ (bw p0 0 (u.1 3 - 1) = true ∧ ∃ P X Y N, p1 = nI P ∧ p2 = nI X ∧ p3 = nI Y ∧ P < 12 ∧ X + 1 ≤ 8 ∧ Y + N ≤ 60 ∧ 1 ≤ N ∧ mFreeP u (nI P) (nI X) (nI Y) 1 (nI N) ∧ ¬ u.2 22 p0.toNatClampNeg = 6 ∧ u9 = mTry u p0 P X Y N))) ∨ (ok ∧ r = u.2 22 p0.toNatClampNeg + 1 ∧ ∃ P X Y D N, p1 = nI P ∧ p2 = nI X ∧ p3 = nI Y ∧ W = nI D ∧ H = nI N ∧ P < 12 ∧ X + D ≤ 8 ∧ Y + N ≤ 60 ∧ 1 ≤ D ∧ 1 ≤ N ∧ (u9 = mActs (mStand u p0 P X Y D N) 0 p0 0 0 0 0 0 ∨ (¬ u.2 22 p0.toNatClampNeg = 6 ∧ u9 = mActs (mStand (mTry u p0 P X Y N) p0 P X Y D N) 0 p0 0 0 0 0 0)))
set_option maxHeartbeats 4000000 in
set_option maxRecDepth 100000 in
theorem n_put0 (l : Launch) (dC : Nat → ClassId) (dI : Nat → Nat → Nat) (h0 : Nat) (v : Nat → Nat) (cI cZ : ClassId) (u : mS) (p0 p1 p2 p3 p4 : Int32) (hn : bw (u.1 3) 0 80 = true) (hln : ∀ j, j < 96 → bw (u.2 0 j) 0 60 = true) (hd : bw (u.1 38) 0 399 = true) (ha : bw (u.1 28) 0 300 = true) (hpc : ∀ j, j < 80 → bw (u.2 22 j) 0 6 = true) (hcm : ∀ j, j < 80 → bw (u.2 15 j) 0 80 = true) (hsz : ∀ j, j < 80 → bw (u.2 17 j) 0 4 = true) (hfr : bw p0 0 79 = true → ∀ P X Y N : Nat, P < 12 → X + 1 ≤ 8 → 1 ≤ N → Y + N ≤ 60 → ¬ u.2 22 p0.toNatClampNeg = 6 → runG (mStand u p0 P X Y 1 N) p0 (u.2 22 p0.toNatClampNeg) → 0 ≤ (mFrom (mStand u p0 P X Y 1 N) p0 (u.2 22 p0.toNatClampNeg).toNatClampNeg).toInt ∧ (mFrom (mStand u p0 P X Y 1 N) p0 (u.2 22 p0.toNatClampNeg).toNatClampNeg).toInt ≤ 400 ∧ (mTakes (mStand u p0 P X Y 1 N) p0 (u.2 22 p0.toNatClampNeg)).toInt ≤ 60) (hK9 : bw p0 0 (u.1 3 - 1) = true → u.2 4 p0.toNatClampNeg = 0) (sz : Nat) : Met l yX12_put wsX12_put ({ frames := 4, cells := 0, slots := 0, locals := 106 }) (va_Pc [.ref h0, .int p0, .int p1, .int p2, .int p3, .int p4] (fun U => U.heap.size = sz ∧ PW dC dI (mW h0 v cI cZ u) [(cI, .int), (cZ, .boolean)] U ∧ va_D (fun _ => True) (mW h0 v cI cZ u))) (va_Qi (fun (r : Int32) (u9 : mS) => rPut u p0 p1 p2 p3 1 p4 (okP0 u p0 p1 p2 p3 p4) r u9) (fun u9 t => va_P (dC, dI) vwCl (mW h0 v cI cZ u9) t.heap ∧ va_D (va_A (mW h0 v cI cZ u) sz) (mW h0 v cI cZ u9)) (va_A (mW h0 v cI cZ u) sz)) 0 0 (va_A (mW h0 v cI cZ u) sz) := by
  refine Met.ofW (cc := cX12_put) (maxL := 10) (ret := (some .int)) (by decide) rfl ?_
  intro p e s m args below meth c s₁ B hml hv
  obtain ⟨rfl, hsz, ⟨hP, hK, hN⟩, hD0⟩ := hv
  have hx := B.exec
  have hb := B.bytes
  have hr := B.returns
  have hts := atoms_spec (ws := wsX12_put) B.pre
  have hown : s.vm.findClass RX12 = some m.cls := findClass_of_methodNamed B.named
  have hlocks := B.notSynchronized
  subst hsz
  have hD := hD0.self (sz := s.heap.size)
  generalize hAe : va_A (mW h0 v cI cZ u) s.heap.size = A at hD ⊢
  have hA : ∀ q : Nat, s.heap.size ≤ q → A q := fun q h => by rw [← hAe]; exact Or.inr h
  have hS : va_S A s.heap s.heap [] := va_S.rf
  have hl := lv_entry ([.ref h0, .int p0, .int p1, .int p2, .int p3, .int p4]) (n := 10) (Nat.le_of_ble_eq_true rfl)
  rw [lg_entry_eq]
  generalize (lg_sl ([.ref h0, .int p0, .int p1, .int p2, .int p3, .int p4]) ++ List.replicate (10 - (lg_sl ([.ref h0, .int p0, .int p1, .int p2, .int p3, .int p4])).length) Slot.unset).toArray = ls at hl ⊢
  have hl : lv_has ls 10 [(0, .ref h0), (1, .int p0), (2, .int p1), (3, .int p2), (4, .int p3), (5, .int p4)] := hl
  refine lv_aload_n hx hb dX12_put_0 rfl (lv_at hl 0 rfl) ?_
  refine lv_iload_n hx hb dX12_put_1 rfl (lv_at hl 1 rfl) ?_
  refine vp_callSi (va_runV (As := [.int p0]) (rest := []) ⟨hx, hb, hml, hown, hts⟩ (m_isItem l dC dI h0 v cI cZ u p0) (cwV 1 hts gX12_put_X12_isItem rfl rfl rfl (by decide +kernel) ⟨Nat.le_of_ble_eq_true rfl, Nat.le_of_ble_eq_true rfl⟩) ⟨pw_fb, va_recv hK hP (ci := 11) (q0 := 0) rfl rfl, fun U hU hW => ⟨rfl, pw_to hU hW hP hK hN⟩⟩ rfl rfl hl.1 rfl (lv_room (Nat.le_of_ble_eq_true rfl)) dX12_put_2 ⟨Nat.le_of_ble_eq_true rfl, Nat.le_of_ble_eq_true rfl⟩).run (fun r hw => ?_)
  rcases Bool.eq_false_or_eq_true (bw p0 0 (u.1 3 - 1)) with b_1 | b_1
  ·
    obtain rfl : r = 1 := b_t hw b_1
    refine lv_if_eq (tgt := 18) hx hb dX12_put_5 (by decide) (fun c_2 => absurd c_2 (by decide)) (fun c_2 => ?_)
    refine lv_aload_n hx hb dX12_put_8 rfl (lv_at hl 0 rfl) ?_
    refine va_get (D := (dC, dI)) (ci := 11) (v := .int (u.1 28)) (C := RX12) (T := TX12) (N := 52) hx hb hts (by decide +kernel) hown hK hP 0 rfl rfl 28 (by decide) (hts (.fieldLink RX12 158 "PageOneModel" "acts" "I") (by decide +kernel)) (fun _ h9 => h9) rfl dX12_put_9 ?_
    refine lv_sipush (v := 300) hx hb dX12_put_12 (by decide) ?_
    refine lv_icmp_ne (tgt := 20) hx hb dX12_put_15 (by decide) (fun c_3 => ?_) (fun c_3 => ?_)
    ·
      refine lv_aload_n hx hb dX12_put_20 rfl (lv_at hl 0 rfl) ?_
      refine va_get (D := (dC, dI)) (ci := 11) (v := .ref (v 4)) (C := RX12) (T := TX12) (N := 52) hx hb hts (by decide +kernel) hown hK hP 0 rfl rfl 4 (by decide) (hts (.fieldLink RX12 19 "PageOneModel" "kind" "[I") (by decide +kernel)) (fun _ h9 => h9) rfl dX12_put_21 ?_
      refine lv_iload_n hx hb dX12_put_24 rfl (lv_at hl 1 rfl) ?_
      refine va_iald hx hb hK hP 4 0 rfl rfl (vin (it79 hn b_1) (by decide)) dX12_put_25 ?_
      refine lv_topi (fun y_4 ey_4 => ?_)
      obtain rfl : y_4 = 0 := ey_4.trans (hK9 b_1)
      refine lv_istore (lv' := [(6, .int 0), (0, .ref h0), (1, .int p0), (2, .int p1), (3, .int p2), (4, .int p3), (5, .int p4)]) hx hb dX12_put_26 hl (by decide) rfl (fun ls hl => ?_)
      refine lv_iload hx hb dX12_put_28 (lv_at hl 0 rfl) ?_
      refine lv_iconst (v := 1) hx hb dX12_put_30 (by decide) ?_
      refine lv_icmp_eq (tgt := 40) hx hb dX12_put_31 (by decide) (fun c_5 => absurd c_5 (by decide)) (fun c_5 => ?_)
      refine lv_iload hx hb dX12_put_34 (lv_at hl 0 rfl) ?_
      refine lv_iconst (v := 3) hx hb dX12_put_36 (by decide) ?_
      refine lv_icmp_ne (tgt := 49) hx hb dX12_put_37 (by decide) (fun c_6 => ?_) (fun c_6 => absurd c_6 (by decide))
      refine lv_iconst (v := 1) hx hb dX12_put_49 (by decide) ?_
      refine lv_istore (lv' := [(7, .int 1), (6, .int 0), (0, .ref h0), (1, .int p0), (2, .int p1), (3, .int p2), (4, .int p3), (5, .int p4)]) hx hb dX12_put_50 hl (by decide) rfl (fun ls hl => ?_)
      refine lv_iload hx hb dX12_put_52 (lv_at hl 1 rfl) ?_
      refine lv_if_eq (tgt := 63) hx hb dX12_put_54 (by decide) (fun c_7 => ?_) (fun c_7 => absurd (by decide) c_7)
      refine lv_iload hx hb dX12_put_63 (lv_at hl 7 rfl) ?_
      refine lv_goto (tgt := 74) hx hb dX12_put_65 (by decide) ?_
      refine lv_istore (lv' := [(8, .int p4), (7, .int 1), (6, .int 0), (0, .ref h0), (1, .int p0), (2, .int p1), (3, .int p2), (4, .int p3), (5, .int p4)]) hx hb dX12_put_74 hl (by decide) rfl (fun ls hl => ?_)
      refine lv_iload hx hb dX12_put_76 (lv_at hl 2 rfl) ?_
      refine lv_iconst (v := 2) hx hb dX12_put_78 (by decide) ?_
      refine lv_icmp_ne (tgt := 127) hx hb dX12_put_79 (by decide) (fun c_8 => ?_) (fun c_8 => absurd c_8 (by decide))
      refine lv_iload hx hb dX12_put_127 (lv_at hl 2 rfl) ?_
      refine lv_if_eq (tgt := 149) hx hb dX12_put_129 (by decide) (fun c_9 => ?_) (fun c_9 => absurd (by decide) c_9)
      refine lv_iconst (v := 1) hx hb dX12_put_149 (by decide) ?_
      refine lv_goto (tgt := 154) hx hb dX12_put_150 (by decide) ?_
      refine lv_istore (lv' := [(9, .int 1), (8, .int p4), (7, .int 1), (6, .int 0), (0, .ref h0), (1, .int p0), (2, .int p1), (3, .int p2), (4, .int p3), (5, .int p4)]) hx hb dX12_put_154 hl (by decide) rfl (fun ls hl => ?_)
      refine lv_iload hx hb dX12_put_156 (lv_at hl 0 rfl) ?_
      refine lv_if_eq (tgt := 200) hx hb dX12_put_158 (by decide) (fun c_10 => absurd c_10 (by decide)) (fun c_10 => ?_)
      refine lv_iload hx hb dX12_put_161 (lv_at hl 1 rfl) ?_
      refine lv_iconst (v := 1) hx hb dX12_put_163 (by decide) ?_
      refine lv_icmp_lt (tgt := 200) hx hb dX12_put_164 (by decide) (fun c_11 => ?_) (fun c_11 => ?_)
      ·
        refine lv_iconst (v := 0) hx hb dX12_put_200 (by decide) ?_
        refine lv_istore (lv' := [(9, .int 0), (8, .int p4), (7, .int 1), (6, .int 0), (0, .ref h0), (1, .int p0), (2, .int p1), (3, .int p2), (4, .int p3), (5, .int p4)]) hx hb dX12_put_201 hl (by decide) rfl (fun ls hl => ?_)
        refine lv_iload hx hb dX12_put_203 (lv_at hl 0 rfl) ?_
        refine lv_if_ne (tgt := 210) hx hb dX12_put_205 (by decide) (fun c_12 => absurd (by decide) c_12) (fun c_12 => ?_)
        refine lv_iconst (v := (-1)) hx hb dX12_put_208 (by decide) ?_
        exact W.iret (v := (-1)) hx hb hr (fun t ht hW => ⟨⟨(-1), u, rfl, (Or.inl ⟨rfl, (fun h => h.2.2.2.1 c_11), Or.inl rfl⟩), by rw [ht]; exact hP, hD⟩, hS.F ht⟩) hS.2.2 dX12_put_209
      ·
        refine lv_iload hx hb dX12_put_167 (lv_at hl 3 rfl) ?_
        refine lv_if_eq (tgt := 181) hx hb dX12_put_169 (by decide) (fun c_13 => ?_) (fun c_13 => absurd (by decide) c_13)
        refine lv_aload_n hx hb dX12_put_181 rfl (lv_at hl 4 rfl) ?_
        refine lv_iload_n hx hb dX12_put_182 rfl (lv_at hl 6 rfl) ?_
        refine lv_iload_n hx hb dX12_put_183 rfl (lv_at hl 7 rfl) ?_
        refine lv_iload hx hb dX12_put_184 (lv_at hl 8 rfl) ?_
        refine lv_iload hx hb dX12_put_186 (lv_at hl 2 rfl) ?_
        refine lv_iload hx hb dX12_put_188 (lv_at hl 1 rfl) ?_
        refine vp_callSi (va_runV (As := [.int p1, .int p2, .int p3, .int 1, .int p4]) (rest := []) ⟨hx, hb, hml, hown, hts⟩ (m_isFree l dC dI h0 v cI cZ u p1 p2 p3 1 p4 hln) (cwV 5 hts gX12_put_X12_isFree rfl rfl rfl (by decide +kernel) ⟨Nat.le_of_ble_eq_true rfl, Nat.le_of_ble_eq_true rfl⟩) ⟨pw_fb, va_recv hK hP (ci := 11) (q0 := 0) rfl rfl, fun U hU hW => ⟨rfl, pw_to hU hW hP hK hN⟩⟩ rfl rfl hl.1 rfl (lv_room (Nat.le_of_ble_eq_true rfl)) dX12_put_190 ⟨Nat.le_of_ble_eq_true rfl, Nat.le_of_ble_eq_true rfl⟩).run (fun r hw => ?_)
        have hit := b_1
        have hi := it79 hn hit
        have h300 := c_3
        rcases hw with ⟨hw, hfree⟩ | ⟨hw, hfree⟩
        ·
          subst hw
          have hfree0 := hfree
          obtain ⟨P, X, Y, D, N, eP, eX, eY, eD, eN, hPP, hXW, hYN, hDD1, hN1⟩ := free_rect hln hfree
          subst eP eX eY
          obtain rfl : D = 1 := (nI_inj (by omega) (by decide)).mp (show nI D = nI 1 from eD.symm)
          subst eN
          refine lv_if_eq (tgt := 200) hx hb dX12_put_193 (by decide) (fun c_14 => absurd c_14 (by decide)) (fun c_14 => ?_)
          refine lv_iconst (v := 1) hx hb dX12_put_196 (by decide) ?_
          refine lv_goto (tgt := 201) hx hb dX12_put_197 (by decide) ?_
          refine lv_istore (lv' := [(9, .int 1), (8, .int (nI N)), (7, .int 1), (6, .int 0), (0, .ref h0), (1, .int p0), (2, .int (nI P)), (3, .int (nI X)), (4, .int (nI Y)), (5, .int (nI N))]) hx hb dX12_put_201 hl (by decide) rfl (fun ls hl => ?_)
          refine lv_iload hx hb dX12_put_203 (lv_at hl 0 rfl) ?_
          refine lv_if_ne (tgt := 210) hx hb dX12_put_205 (by decide) (fun c_15 => ?_) (fun c_15 => absurd c_15 (by decide))
          refine lv_iload hx hb dX12_put_210 (lv_at hl 3 rfl) ?_
          refine lv_tableIn (tgt := 252) (off := 40) hx hb dX12_put_212 (by decide) (by decide) (by decide) (by decide) ?_
          refine lv_aload_n hx hb dX12_put_252 rfl (lv_at hl 4 rfl) ?_
          refine lv_iload_n hx hb dX12_put_253 rfl (lv_at hl 5 rfl) ?_
          refine lv_iload_n hx hb dX12_put_254 rfl (lv_at hl 6 rfl) ?_
          refine lv_iload_n hx hb dX12_put_255 rfl (lv_at hl 7 rfl) ?_
          refine lv_iload hx hb dX12_put_256 (lv_at hl 8 rfl) ?_
          refine lv_iload hx hb dX12_put_258 (lv_at hl 1 rfl) ?_
          have hFc := fr_all hD hS hA
          refine va_calli (va_runV (As := [.int p0, .int (nI P), .int (nI X), .int (nI Y), .int (nI N)]) (rest := []) ⟨hx, hb, hml, hown, hts⟩ (n_mayRun l dC dI h0 v cI cZ u p0 P X Y N hPP (by omega) hYN hi (hpc _ (vlt (vin hi (by decide)))) (hcm _ (vlt (vin hi (by decide)))) (fun h => by rw [add_sub1]; exact v6a hi (k5 (hpc _ (vlt (vin hi (by decide)))) (bwS (hpc _ (vlt (vin hi (by decide)))) h)) rfl) (hfr hi P X Y N hPP (by omega) hN1 hYN) s.heap.size) (cwV 5 hts gX12_put_X12_mayRun rfl rfl rfl (by decide +kernel) ⟨Nat.le_of_ble_eq_true rfl, Nat.le_of_ble_eq_true rfl⟩) ⟨gw_fb, va_recv hK hP (ci := 11) (q0 := 0) rfl rfl, fun U hU hW => ⟨rfl, by rw [hU], pw_to hU hW hP hK hN, hD.weaken (fun _ _ _ _ => trivial)⟩⟩ rfl rfl hl.1 rfl (lv_room (Nat.le_of_ble_eq_true rfl)) dX12_put_260 ⟨Nat.le_of_ble_eq_true rfl, Nat.le_of_ble_eq_true rfl⟩) hS (fun q _ h => hFc q h) hFc (fun r u_16 t H1 locs ht hvm hw hB hz1 hk1 hS => ?_)
          obtain ⟨hP, hD1⟩ := hB
          rw [ht] at hP
          have hD := hD1.weaken (fun _ q _ h => hFc q.1 h)
          generalize H1 = H at hP hS ⊢
          generalize r = z_17 at hw ⊢
          have hrun := hw
          have hJ1 : u_16.1 28 = u.1 28 := by rcases hrun with ⟨-, h, -⟩ | ⟨-, -, h⟩ <;> rw [h] <;> rfl
          have hJ2 : u_16.2 22 p0.toNatClampNeg = u.2 22 p0.toNatClampNeg := hrun.elim (fun h => by rw [h.2.1]) (fun h => by rw [h.2.2]; exact mTry_22 _ _ _ _ _ _)
          refine lv_istore (lv' := [(9, .int z_17), (8, .int (nI N)), (7, .int 1), (6, .int 0), (0, .ref h0), (1, .int p0), (2, .int (nI P)), (3, .int (nI X)), (4, .int (nI Y)), (5, .int (nI N))]) hx hb dX12_put_263 hl (by decide) rfl (fun ls hl => ?_)
          refine lv_goto (tgt := 343) hx hb dX12_put_265 (by decide) ?_
          refine lv_iload hx hb dX12_put_343 (lv_at hl 0 rfl) ?_
          refine lv_if_ne (tgt := 350) hx hb dX12_put_345 (by decide) (fun c_18 => ?_) (fun c_18 => ?_)
          ·
            refine lv_aload_n hx hb dX12_put_350 rfl (lv_at hl 4 rfl) ?_
            refine lv_iload_n hx hb dX12_put_351 rfl (lv_at hl 5 rfl) ?_
            refine lv_iload_n hx hb dX12_put_352 rfl (lv_at hl 6 rfl) ?_
            refine lv_iload_n hx hb dX12_put_353 rfl (lv_at hl 7 rfl) ?_
            refine lv_iload hx hb dX12_put_354 (lv_at hl 8 rfl) ?_
            refine lv_iload hx hb dX12_put_356 (lv_at hl 2 rfl) ?_
            refine lv_iload hx hb dX12_put_358 (lv_at hl 1 rfl) ?_
            have hFc := fr_all hD hS hA
            refine va_callv (va_runV (As := [.int p0, .int (nI P), .int (nI X), .int (nI Y), .int 1, .int (nI N)]) (rest := []) ⟨hx, hb, hml, hown, hts⟩ (m_stand l dC dI h0 v cI cZ u_16 p0 P X Y 1 N hPP hXW hYN hi (by rw [hJ2]; exact q05 (hpc _ (vlt (vin hi (by decide)))) (hrun.elim (fun h => absurd h.1 c_18) (fun h => h.2.1))) H.size) (cwV 6 hts gX12_put_X12_stand rfl rfl rfl (by decide +kernel) ⟨Nat.le_of_ble_eq_true rfl, Nat.le_of_ble_eq_true rfl⟩) ⟨gw_fb, va_recv hK hP (ci := 11) (q0 := 0) rfl rfl, fun U hU hW => ⟨rfl, by rw [hU], pw_to hU hW hP hK hN, hD.weaken (fun _ _ _ _ => trivial)⟩⟩ rfl rfl hl.1 rfl (lv_room (Nat.le_of_ble_eq_true rfl)) dX12_put_360 ⟨Nat.le_of_ble_eq_true rfl, Nat.le_of_ble_eq_true rfl⟩) hS (fun q _ h => hFc q h) hFc (fun u_19 t H1 locs ht hvm hw hB hz1 hk1 hS => ?_)
            obtain ⟨hP, hD1⟩ := hB
            rw [ht] at hP
            have hD := hD1.weaken (fun _ q _ h => hFc q.1 h)
            generalize H1 = H at hP hS ⊢
            have eu_19 := hw
            refine lv_aload_n hx hb dX12_put_363 rfl (lv_at hl 4 rfl) ?_
            refine lv_iconst (v := 0) hx hb dX12_put_364 (by decide) ?_
            refine lv_iload_n hx hb dX12_put_365 rfl (lv_at hl 5 rfl) ?_
            refine lv_iconst (v := 0) hx hb dX12_put_366 (by decide) ?_
            refine lv_iconst (v := 0) hx hb dX12_put_367 (by decide) ?_
            refine lv_iconst (v := 0) hx hb dX12_put_368 (by decide) ?_
            refine lv_iconst (v := 0) hx hb dX12_put_369 (by decide) ?_
            refine lv_iconst (v := 0) hx hb dX12_put_370 (by decide) ?_
            have hFc := fr_all hD hS hA
            refine va_callv (va_runV (As := [.int 0, .int p0, .int 0, .int 0, .int 0, .int 0, .int 0]) (rest := []) ⟨hx, hb, hml, hown, hts⟩ (m_acts l dC dI h0 v cI cZ u_19 0 p0 0 0 0 0 0 (by rw [eu_19]; show bw (u_16.1 28) 0 299 = true; rw [hJ1]; exact v300 ha h300) H.size) (cwV 7 hts gX12_put_X12_acts rfl rfl rfl (by decide +kernel) ⟨Nat.le_of_ble_eq_true rfl, Nat.le_of_ble_eq_true rfl⟩) ⟨gw_fb, va_recv hK hP (ci := 11) (q0 := 0) rfl rfl, fun U hU hW => ⟨rfl, by rw [hU], pw_to hU hW hP hK hN, hD.weaken (fun _ _ _ _ => trivial)⟩⟩ rfl rfl hl.1 rfl (lv_room (Nat.le_of_ble_eq_true rfl)) dX12_put_371 ⟨Nat.le_of_ble_eq_true rfl, Nat.le_of_ble_eq_true rfl⟩) hS (fun q _ h => hFc q h) hFc (fun u_20 t H1 locs ht hvm hw hB hz1 hk1 hS => ?_)
            obtain ⟨hP, hD1⟩ := hB
            rw [ht] at hP
            have hD := hD1.weaken (fun _ q _ h => hFc q.1 h)
            generalize H1 = H at hP hS ⊢
            have eu_20 := hw
            refine lv_aload_n hx hb dX12_put_374 rfl (lv_at hl 4 rfl) ?_
            refine va_get (D := (dC, dI)) (ci := 11) (v := .ref (v 22)) (C := RX12) (T := TX12) (N := 52) hx hb hts (by decide +kernel) hown hK hP 0 rfl rfl 22 (by decide) (hts (.fieldLink RX12 74 "PageOneModel" "pieces" "[I") (by decide +kernel)) (fun _ h9 => h9) rfl dX12_put_375 ?_
            refine lv_iload_n hx hb dX12_put_378 rfl (lv_at hl 5 rfl) ?_
            refine va_iald hx hb hK hP 22 0 rfl rfl (vin (it79 hn b_1) (by decide)) dX12_put_379 ?_
            exact W.iret (v := (u_20.2 22 (p0 : Int32).toNatClampNeg)) hx hb hr (fun t ht hW => ⟨⟨(u_20.2 22 (p0 : Int32).toNatClampNeg), u_20, rfl, (Or.inr ⟨⟨hit, h300, trivial, c_11, trivial, hfree0, (by rw [nI_clamp (by omega), nI_clamp (by omega), nI_clamp (by omega), nI_clamp (by omega)]; exact hrun.elim (fun h => absurd h.1 c_18) (fun h => h.1.elim (fun q => absurd q.1 c_18) (fun q => q.2)))⟩, (by rw [eu_20, eu_19, putR, hJ2]), P, X, Y, 1, N, rfl, rfl, rfl, rfl, rfl, hPP, hXW, hYN, hDD1, hN1, (Or.inr ⟨hrun.elim (fun h => absurd h.1 c_18) (fun h => h.2.1), by rw [eu_20, eu_19, hrun.elim (fun h => absurd h.1 c_18) (fun h => h.2.2)]; rfl⟩)⟩), by rw [ht]; exact hP, hD⟩, hS.F ht⟩) hS.2.2 dX12_put_380
          ·
            refine lv_iconst (v := (-1)) hx hb dX12_put_348 (by decide) ?_
            exact W.iret (v := (-1)) hx hb hr (fun t ht hW => ⟨⟨(-1), u_16, rfl, (Or.inl ⟨rfl, (fun h => hrun.elim (fun q => q.2.2 (by have h7 := h.2.2.2.2.2.2; rw [nI_clamp (by omega), nI_clamp (by omega), nI_clamp (by omega), nI_clamp (by omega)] at h7; exact h7)) (fun q => q.1.elim (fun q => q.2 (by have h7 := h.2.2.2.2.2.2; rw [nI_clamp (by omega), nI_clamp (by omega), nI_clamp (by omega), nI_clamp (by omega)] at h7; exact h7)) (fun q => absurd (q.1.symm.trans c_18) (by decide)))), (hrun.elim (fun q => Or.inl q.2.1) (fun q => Or.inr ⟨hit, P, X, Y, N, rfl, rfl, rfl, hPP, hXW, hYN, hN1, hfree0, q.2.1, q.2.2⟩))⟩), by rw [ht]; exact hP, hD⟩, hS.F ht⟩) hS.2.2 dX12_put_349
        ·
          subst hw
          refine lv_if_eq (tgt := 200) hx hb dX12_put_193 (by decide) (fun c_21 => ?_) (fun c_21 => absurd (by decide) c_21)
          refine lv_iconst (v := 0) hx hb dX12_put_200 (by decide) ?_
          refine lv_istore (lv' := [(9, .int 0), (8, .int p4), (7, .int 1), (6, .int 0), (0, .ref h0), (1, .int p0), (2, .int p1), (3, .int p2), (4, .int p3), (5, .int p4)]) hx hb dX12_put_201 hl (by decide) rfl (fun ls hl => ?_)
          refine lv_iload hx hb dX12_put_203 (lv_at hl 0 rfl) ?_
          refine lv_if_ne (tgt := 210) hx hb dX12_put_205 (by decide) (fun c_22 => absurd (by decide) c_22) (fun c_22 => ?_)
          refine lv_iconst (v := (-1)) hx hb dX12_put_208 (by decide) ?_
          exact W.iret (v := (-1)) hx hb hr (fun t ht hW => ⟨⟨(-1), u, rfl, (Or.inl ⟨rfl, (fun h => hfree h.2.2.2.2.2.1), Or.inl rfl⟩), by rw [ht]; exact hP, hD⟩, hS.F ht⟩) hS.2.2 dX12_put_209
    ·
      refine lv_iconst (v := (-1)) hx hb dX12_put_18 (by decide) ?_
      exact W.iret (v := (-1)) hx hb hr (fun t ht hW => ⟨⟨(-1), u, rfl, (Or.inl ⟨rfl, (fun h => h.2.1 c_3), Or.inl rfl⟩), by rw [ht]; exact hP, hD⟩, hS.F ht⟩) hS.2.2 dX12_put_19
  ·
    obtain rfl : r = 0 := b_f hw b_1
    refine lv_if_eq (tgt := 18) hx hb dX12_put_5 (by decide) (fun c_23 => ?_) (fun c_23 => absurd (by decide) c_23)
    refine lv_iconst (v := (-1)) hx hb dX12_put_18 (by decide) ?_
    exact W.iret (v := (-1)) hx hb hr (fun t ht hW => ⟨⟨(-1), u, rfl, (Or.inl ⟨rfl, (fun h => bne b_1 h.1), Or.inl rfl⟩), by rw [ht]; exact hP, hD⟩, hS.F ht⟩) hS.2.2 dX12_put_19
/-- a cell of a rectangle, by its place in the row of cells -/
def inR (r : fR) (j : Nat) : Prop := ∃ x y, x < r.2.2.2.1 ∧ y < r.2.2.2.2 ∧ j = 480 * r.1 + 60 * (r.2.1 + x) + (r.2.2.1 + y)
def setF (G : Nat → Int32) (r : fR) (x : Int32) : Nat → Int32 := setR G r.1 r.2.1 r.2.2.1 r.2.2.2.2 x r.2.2.2.1
theorem setF_in {G : Nat → Int32} {r : fR} {x : Int32} {j : Nat} (h : inR r j) : setF G r x j = x := by
  obtain ⟨a, b, ha, hb, e⟩ := h
  rw [e]; exact setR_in _ _ _ _ _ _ _ _ _ ha hb
theorem setF_out {G : Nat → Int32} {r : fR} {x : Int32} {j : Nat} (h : ¬ inR r j) : setF G r x j = G j := setR_out (fun a b ha hb e => h ⟨a, b, ha, hb, e⟩)
theorem inR_lt {r : fR} (hr : rOK r) {j : Nat} (h : inR r j) : j < 5760 := by
  obtain ⟨h1, h2, h3, -, -⟩ := hr
  obtain ⟨a, b, ha, hb, e⟩ := h
  omega
/-- the rectangle is free -/
def frG (G : Nat → Int32) (r : fR) : Prop := ∀ j, inR r j → G j = (-2)
theorem setF_re {G : Nat → Int32} {r : fR} {x y : Int32} (h : ∀ j, inR r j → G j = x) : setF (setF G r y) r x = G := by
  funext j
  by_cases hj : inR r j
  · rw [setF_in hj, h j hj]
  · rw [setF_out hj, setF_out hj]
def dj (r s : fR) : Prop := ∀ j, inR r j → ¬ inR s j
/-- cells and pieces agree -/
def agr (c : cfg) (G : Nat → Int32) : Prop := (∀ j, j < 5760 → ∀ a, a < 80 → (G j = nI a ↔ ∃ r, r ∈ c a ∧ inR r j)) ∧ (∀ j, j < 5760 → G j = (-2) ∨ G j = 100 ∨ ∃ a, a < 80 ∧ G j = nI a) ∧ ∀ a, List.Pairwise dj (c a)
theorem nI_n2 {a : Nat} (ha : a < 80) : ¬ nI a = (-2) := fun e => by
  have h := congrArg Int32.toInt e
  rw [nI_toInt (by omega)] at h
  have h2 : (-2 : Int32).toInt = -2 := rfl
  omega
theorem nI_100 {a : Nat} (ha : a < 80) : ¬ nI a = 100 := fun e => by
  have h := congrArg Int32.toInt e
  rw [nI_toInt (by omega)] at h
  have h2 : (100 : Int32).toInt = 100 := rfl
  omega
theorem agr_push {c : cfg} {G : Nat → Int32} {a : Nat} {r : fR} (h : agr c G) (ha : a < 80) (hr : rOK r) (hf : frG G r) : agr (cPush c a r) (setF G r (nI a)) := by
  obtain ⟨h1, h2, h3⟩ := h
  refine ⟨fun j hj b hb => ?_, fun j hj => ?_, fun b => ?_⟩
  · by_cases hi : inR r j
    · rw [setF_in hi]
      by_cases e : b = a
      · rw [e]
        exact ⟨fun _ => ⟨r, by rw [cPush_a]; exact List.mem_cons_self, hi⟩, fun _ => rfl⟩
      · refine ⟨fun q => absurd ((nI_inj (by omega) (by omega)).mp q).symm e, fun ⟨s, hs, hs2⟩ => ?_⟩
        rw [cPush_o e] at hs
        have q := (h1 j hj b hb).mpr ⟨s, hs, hs2⟩
        rw [hf j hi] at q
        exact absurd q.symm (nI_n2 hb)
    · rw [setF_out hi]
      by_cases e : b = a
      · rw [e, cPush_a]
        refine ⟨fun q => ?_, fun ⟨s, hs, hs2⟩ => ?_⟩
        · obtain ⟨s, hs, hs2⟩ := (h1 j hj a ha).mp q
          exact ⟨s, List.mem_cons_of_mem _ hs, hs2⟩
        · rcases List.mem_cons.mp hs with q | q
          · exact absurd (q ▸ hs2) hi
          · exact (h1 j hj a ha).mpr ⟨s, q, hs2⟩
      · rw [cPush_o e]; exact h1 j hj b hb
  · by_cases hi : inR r j
    · rw [setF_in hi]; exact Or.inr (Or.inr ⟨a, ha, rfl⟩)
    · rw [setF_out hi]; exact h2 j hj
  · by_cases e : b = a
    · rw [e, cPush_a]
      refine List.Pairwise.cons (fun s hs j hj hj2 => ?_) (h3 a)
      have q := (h1 j (inR_lt hr hj) a ha).mpr ⟨s, hs, hj2⟩
      rw [hf j hj] at q
      exact absurd q.symm (nI_n2 ha)
    · rw [cPush_o e]; exact h3 b
theorem agr_pop {c : cfg} {G : Nat → Int32} {a : Nat} {r : fR} (h : agr (cPush c a r) G) (ha : a < 80) : agr c (setF G r (-2)) := by
  obtain ⟨h1, h2, h3⟩ := h
  have h3a := h3 a
  rw [cPush_a] at h3a
  obtain ⟨h4, h5⟩ := List.pairwise_cons.mp h3a
  refine ⟨fun j hj b hb => ?_, fun j hj => ?_, fun b => ?_⟩
  · by_cases hi : inR r j
    · rw [setF_in hi]
      refine ⟨fun q => absurd q.symm (nI_n2 hb), fun ⟨s, hs, hs2⟩ => ?_⟩
      by_cases e : b = a
      · rw [e] at hs
        exact absurd hs2 (h4 s hs j hi)
      · have q := (h1 j hj b hb).mpr ⟨s, by rw [cPush_o e]; exact hs, hs2⟩
        have q2 := (h1 j hj a ha).mpr ⟨r, by rw [cPush_a]; exact List.mem_cons_self, hi⟩
        exact absurd ((nI_inj (by omega) (by omega)).mp (q.symm.trans q2)) e
    · rw [setF_out hi]
      by_cases e : b = a
      · rw [e]
        have q := h1 j hj a ha
        rw [cPush_a] at q
        refine ⟨fun q2 => ?_, fun ⟨s, hs, hs2⟩ => q.mpr ⟨s, List.mem_cons_of_mem _ hs, hs2⟩⟩
        obtain ⟨s, hs, hs2⟩ := q.mp q2
        rcases List.mem_cons.mp hs with q3 | q3
        · exact absurd (q3 ▸ hs2) hi
        · exact ⟨s, q3, hs2⟩
      · have q := h1 j hj b hb
        rw [cPush_o e] at q; exact q
  · by_cases hi : inR r j
    · rw [setF_in hi]; exact Or.inl rfl
    · rw [setF_out hi]; exact h2 j hj
  · by_cases e : b = a
    · rw [e]; exact h5
    · have q := h3 b
      rw [cPush_o e] at q; exact q
theorem agr_rule {c : cfg} {G : Nat → Int32} {r : fR} (h : agr c G) (hf : frG G r) : agr c (setF G r 100) := by
  obtain ⟨h1, h2, h3⟩ := h
  refine ⟨fun j hj b hb => ?_, fun j hj => ?_, h3⟩
  · by_cases hi : inR r j
    · rw [setF_in hi]
      refine ⟨fun q => absurd q.symm (nI_100 hb), fun q => ?_⟩
      have q2 := (h1 j hj b hb).mpr q
      rw [hf j hi] at q2
      exact absurd q2.symm (nI_n2 hb)
    · rw [setF_out hi]; exact h1 j hj b hb
  · by_cases hi : inR r j
    · rw [setF_in hi]; exact Or.inr (Or.inl rfl)
    · rw [setF_out hi]; exact h2 j hj
theorem agr_top {c : cfg} {G : Nat → Int32} {a : Nat} {r : fR} (h : agr (cPush c a r) G) (ha : a < 80) (hr : rOK r) : ∀ j, inR r j → G j = nI a := fun j hj => (h.1 j (inR_lt hr hj) a ha).mpr ⟨r, by rw [cPush_a]; exact List.mem_cons_self, hj⟩
theorem agr_nil {c : cfg} {G : Nat → Int32} (h : ∀ a, c a = []) (hG : ∀ j, j < 5760 → G j = (-2)) : agr c G := by
  refine ⟨fun j hj b hb => ?_, fun j hj => Or.inl (hG j hj), fun b => by rw [h b]; exact List.Pairwise.nil⟩
  rw [hG j hj, h b]
  exact ⟨fun q => absurd q.symm (nI_n2 hb), fun ⟨s, hs, _⟩ => absurd hs (List.not_mem_nil)⟩
/-- the lines hold the rectangle -/
def rLn (u : mS) (r : fR) : Prop := ∀ x, x < r.2.2.2.1 → r.2.2.1 + r.2.2.2.2 ≤ (u.2 0 (8 * r.1 + (r.2.1 + x))).toNatClampNeg
/-- r stands behind s -/
def bhd (r s : fR) : Prop := s.1 < r.1 ∨ (s.1 = r.1 ∧ (s.2.1 < r.2.1 ∨ (s.2.1 = r.2.1 ∧ s.2.2.1 + s.2.2.2.2 ≤ r.2.2.1)))
theorem bhd_tr {r s t : fR} (h1 : bhd r s) (h2 : bhd s t) : bhd r t := by
  unfold bhd at *; omega
/-- what the pieces of an item keep -/
def cX (u : mS) (c : cfg) : Prop := ∀ a, a < (u.1 3).toNatClampNeg → (∀ r, r ∈ c a → rLn u r) ∧ (¬ u.2 4 a = 0 → (c a).length ≤ 1) ∧ (u.2 4 a = 0 → (∀ r, r ∈ c a → r.2.2.2.1 = 1) ∧ List.Pairwise bhd (c a)) ∧ (u.2 4 a = 3 → ∀ r, r ∈ c a → u.2 11 a = nI r.1)
theorem cX_pop {u : mS} {c : cfg} {a : Nat} {r : fR} (h : cX u (cPush c a r)) : cX u c := fun b hb => by
  by_cases e : b = a
  · have q := h b hb
    rw [e] at q ⊢
    rw [cPush_a] at q
    refine ⟨fun s hs => q.1 s (List.mem_cons_of_mem _ hs), fun k => by have q2 := q.2.1 k; rw [List.length_cons] at q2; omega, fun k => ⟨fun s hs => (q.2.2.1 k).1 s (List.mem_cons_of_mem _ hs), (List.pairwise_cons.mp (q.2.2.1 k).2).2⟩, fun k s hs => q.2.2.2 k s (List.mem_cons_of_mem _ hs)⟩
  · have q := h b hb
    rw [cPush_o e] at q; exact q
theorem cX_push {u : mS} {c : cfg} {a : Nat} {r : fR} (h : cX u c) (ha : a < (u.1 3).toNatClampNeg) (h1 : rLn u r) (h2 : ¬ u.2 4 a = 0 → c a = []) (h3 : u.2 4 a = 0 → r.2.2.2.1 = 1 ∧ ∀ s, s ∈ c a → bhd r s) (h4 : u.2 4 a = 3 → u.2 11 a = nI r.1) : cX u (cPush c a r) := fun b hb => by
  by_cases e : b = a
  · rw [e, cPush_a]
    have q := h a ha
    refine ⟨fun s hs => ?_, fun k => by rw [h2 k]; exact Nat.le_refl _, fun k => ⟨fun s hs => ?_, List.Pairwise.cons (h3 k).2 (q.2.2.1 k).2⟩, fun k s hs => ?_⟩
    · rcases List.mem_cons.mp hs with g | g
      · rw [g]; exact h1
      · exact q.1 s g
    · rcases List.mem_cons.mp hs with g | g
      · rw [g]; exact (h3 k).1
      · exact (q.2.2.1 k).1 s g
    · rcases List.mem_cons.mp hs with g | g
      · rw [g]; exact h4 k
      · exact q.2.2.2 k s g
  · rw [cPush_o e]; exact h b hb
theorem cX_nil {u : mS} {c : cfg} (h : ∀ a, c a = []) : cX u c := fun b _ => by
  rw [h b]
  exact ⟨fun s hs => absurd hs List.not_mem_nil, fun _ => Nat.zero_le _, fun _ => ⟨fun s hs => absurd hs List.not_mem_nil, List.Pairwise.nil⟩, fun _ s hs => absurd hs List.not_mem_nil⟩
/-- new items, other numbers: what cX reads is the same -/
theorem cX_c {u w : mS} {c : cfg} (h : cX u c) (hn : (u.1 3).toNatClampNeg ≤ (w.1 3).toNatClampNeg) (h0 : w.2 0 = u.2 0) (h4 : ∀ a, a < (u.1 3).toNatClampNeg → w.2 4 a = u.2 4 a ∧ w.2 11 a = u.2 11 a) (hc : ∀ a, (u.1 3).toNatClampNeg ≤ a → c a = []) : cX w c := fun b hb => by
  by_cases e : b < (u.1 3).toNatClampNeg
  · have q := h b e
    unfold rLn at *
    rw [h0, (h4 b e).1, (h4 b e).2]; exact q
  · rw [hc b (by omega)]
    exact ⟨fun s hs => absurd hs List.not_mem_nil, fun _ => Nat.zero_le _, fun _ => ⟨fun s hs => absurd hs List.not_mem_nil, List.Pairwise.nil⟩, fun _ s hs => absurd hs List.not_mem_nil⟩
/-- a filler's rectangle -/
def xR (x : fX) : fR := (x.2.1, x.2.2.1, x.2.2.2.1, 1, x.2.2.2.2)
def gFill (G : Nat → Int32) : List fX → Nat → Int32
  | [] => G
  | x :: xs => setF (gFill G xs) (xR x) (nI x.1)
def frL9 (G : Nat → Int32) : List fX → Prop
  | [] => True
  | x :: xs => frL9 G xs ∧ frG (gFill G xs) (xR x)
def ruR (e : hE) : fR := (e.2.2.1.1, e.2.2.1.2.1, e.2.2.1.2.2.1, 1, 1)
/-- what an act does to pieces and cells -/
def gS9 (e : hE) (c1 : cfg) (G1 : Nat → Int32) (c : cfg) (G : Nat → Int32) : Prop := (e.1 = 0 ∧ c = cPush c1 e.2.1 e.2.2.1 ∧ G = setF G1 e.2.2.1 (nI e.2.1) ∧ frG G1 e.2.2.1 ∧ rOK e.2.2.1) ∨ (e.1 = 1 ∧ c1 = cPush c e.2.1 e.2.2.1 ∧ G = setF G1 e.2.2.1 (-2) ∧ rOK e.2.2.1) ∨ (e.1 = 2 ∧ c = c1 ∧ G = setF G1 (ruR e) 100 ∧ frG G1 (ruR e)) ∨ (e.1 = 3 ∧ c = cFill c1 e.2.2.2 ∧ G = gFill G1 e.2.2.2 ∧ frL9 G1 e.2.2.2)
/-- the history with its cells -/
def gH (u : mS) : List hE → cfg → (Nat → Int32) → Prop
  | [], c, G => (∀ a, c a = []) ∧ ∀ j, j < 5760 → G j = (-2)
  | e :: es, c, G => cX u c ∧ agr c G ∧ cOK (u.1 3).toNatClampNeg (u.2 4) c ∧ (e.1 ≠ 3 → e.1 ≠ 2 → e.2.1 < (u.1 3).toNatClampNeg) ∧ (e.1 = 2 → rLn u (ruR e)) ∧ ∃ c1 G1, gH u es c1 G1 ∧ eS (u.1 3).toNatClampNeg (u.2 4) e c1 c ∧ gS9 e c1 G1 c G
theorem gH_agr {u : mS} {es : List hE} {c : cfg} {G : Nat → Int32} (h : gH u es c G) : agr c G := by
  cases es with
  | nil => exact agr_nil h.1 h.2
  | cons e es => exact h.2.1
theorem gH_cX {u : mS} {es : List hE} {c : cfg} {G : Nat → Int32} (h : gH u es c G) : cX u c := by
  cases es with
  | nil => exact cX_nil h.1
  | cons e es => exact h.1
theorem gH_hOK {u : mS} : ∀ {es : List hE} {c : cfg} {G : Nat → Int32}, gH u es c G → hOK (u.1 3).toNatClampNeg (u.2 4) es c
  | [], _, _, h => h.1
  | _ :: _, _, _, h => ⟨h.2.2.1, h.2.2.2.2.2.choose, gH_hOK h.2.2.2.2.2.choose_spec.choose_spec.1, h.2.2.2.2.2.choose_spec.choose_spec.2.1⟩
theorem gH_c {u w : mS} (hn : (u.1 3).toNatClampNeg ≤ (w.1 3).toNatClampNeg) (h0 : w.2 0 = u.2 0) (h4 : ∀ a, a < (u.1 3).toNatClampNeg → w.2 4 a = u.2 4 a ∧ w.2 11 a = u.2 11 a) : ∀ {es : List hE} {c : cfg} {G : Nat → Int32}, gH u es c G → gH w es c G
  | [], _, _, h => h
  | e :: es, c, G, h => by
    obtain ⟨h1, h2, h3, h5, hru, c1, G1, h6, h7, h8⟩ := h
    refine ⟨cX_c h1 hn h0 h4 (fun a ha => (h3 a).1 ha), h2, cOK_mono hn (fun a ha => (h4 a ha).1) h3, fun q1 q2 => Nat.lt_of_lt_of_le (h5 q1 q2) hn, fun q => by have z := hru q; unfold rLn at *; rw [h0]; exact z, c1, G1, gH_c hn h0 h4 h6, ?_, h8⟩
    rcases h7 with q | q | q | ⟨q1, q2, q3⟩
    · exact Or.inl q
    · exact Or.inr (Or.inl q)
    · exact Or.inr (Or.inr (Or.inl q))
    · exact Or.inr (Or.inr (Or.inr ⟨q1, q2, xG_mono hn (fun a ha => (h4 a ha).1) q3⟩))
theorem gH_e {u w : mS} (h3 : w.1 3 = u.1 3) (h0 : w.2 0 = u.2 0) (h4 : w.2 4 = u.2 4) (h11 : w.2 11 = u.2 11) {es : List hE} {c : cfg} {G : Nat → Int32} (h : gH u es c G) : gH w es c G := gH_c (by rw [h3]; exact Nat.le_refl _) h0 (fun a _ => ⟨by rw [h4], by rw [h11]⟩) h
theorem rIn_of {u : mS} {r : fR} (hr : rOK r) (hl : rLn u r) : rIn u r.1 r.2.1 r.2.2.1 r.2.2.2.1 r.2.2.2.2 := ⟨hr.1, hr.2.1, hr.2.2.2.1, hr.2.2.1, hr.2.2.2.2, hl⟩
/-- the parts of a kept act, as they are taken back -/
def bkL (e : hE) : List bS := if e.1 = 0 then [(false, some e.2.1, e.2.2.1)] else if e.1 = 1 then [(true, some e.2.1, e.2.2.1)] else if e.1 = 2 then [(false, none, ruR e)] else e.2.2.2.map (fun x => (false, some x.1, xR x))
theorem acF_bkS {z : gS} {d : Nat → Nat} : ∀ {xs : List fX} {o : Option Nat}, acF z d o xs → bkS z d o (xs.map (fun x => (false, some x.1, xR x)))
  | [], _, h => h
  | _ :: _, _, h => by
    obtain ⟨a, pp, ah, h1, h2, h3, h4⟩ := h
    exact ⟨a, pp, _, ah, h1, h2, h3, acF_bkS h4⟩
theorem acE_bkS {z : gS} {d : Nat → Nat} {a : Nat} {e : hE} (h : acE z d a e) : bkS z d (some a) (bkL e) := by
  unfold bkL
  rcases h with ⟨q, pp, h1, h2⟩ | ⟨q, pp, h1, h2⟩ | ⟨q, pp, h1, h2⟩ | ⟨q, h1⟩
  · rw [if_pos q]; exact ⟨a, pp, _, none, rfl, h1, h2, rfl⟩
  · rw [if_neg (by omega), if_pos q]; exact ⟨a, pp, _, none, rfl, h1, h2, rfl⟩
  · rw [if_neg (by omega), if_neg (by omega), if_pos q]; exact ⟨a, pp, _, none, rfl, h1, h2, rfl⟩
  · rw [if_neg (by omega), if_neg (by omega), if_neg (by omega)]; exact acF_bkS h1
/-- what the reference's undo of e leaves -/
def refU (u : mS) (e : hE) : mS := if e.1 = 0 then mUnstand (mBack u) (nI e.2.1) e.2.2.1.1 e.2.2.1.2.1 e.2.2.1.2.2.1 e.2.2.1.2.2.2.1 e.2.2.1.2.2.2.2 else if e.1 = 1 then mStand (mBack u) (nI e.2.1) e.2.2.1.1 e.2.2.1.2.1 e.2.2.1.2.2.1 e.2.2.1.2.2.2.1 e.2.2.1.2.2.2.2 else if e.1 = 2 then mst (mBack u) 2 (480 * nI e.2.2.1.1 + 60 * nI e.2.2.1.2.1 + nI e.2.2.1.2.2.1) (-2) else popAll (mBack u) e.2.2.2
theorem n_undoH (l : Launch) (dC : Nat → ClassId) (dI : Nat → Nat → Nat) (h0 : Nat) (v : Nat → Nat) (cI cZ : ClassId) (u : mS) (e : hE) (es : List hE) (c : cfg) (r : rI u) (d : mH u (e :: es) c) (g : gH u (e :: es) c (u.2 2)) (sz : Nat) : Met l yX12_undo wsX12_undo ({ frames := 3, cells := 0, slots := 0, locals := 77 }) (va_Pc [.ref h0] (fun U => U.heap.size = sz ∧ PW dC dI (mW h0 v cI cZ u) [(cI, .int), (cZ, .boolean)] U ∧ va_D (fun _ => True) (mW h0 v cI cZ u))) (va_Qi (fun (r : Int32) (u9 : mS) => r = u.1 28 - 1 ∧ u9 = refU u e) (fun u9 t => va_P (dC, dI) vwCl (mW h0 v cI cZ u9) t.heap ∧ va_D (va_A (mW h0 v cI cZ u) sz) (mW h0 v cI cZ u9)) (va_A (mW h0 v cI cZ u) sz)) 0 0 (va_A (mW h0 v cI cZ u) sz) := by
  have hn := n80 r
  have a1 := d.1
  have a2 := d.2.1
  rw [List.length_cons] at a1 a2
  have hz0 : ¬ u.1 28 = 0 := fun q => by
    have q2 : (nI (es.length + 1)).toInt = 0 := by rw [← a2, q]; rfl
    rw [nI_toInt (by omega)] at q2; omega
  have ht : u.1 28 - 1 = nI es.length := by rw [a2, dn_e (by omega)]; rfl
  have ha1 : bw (u.1 28 - 1) 0 299 = true := by rw [ht]; exact bwN (by have h7 : (299 : Int32).toInt = 299 := rfl; rw [h7]; omega) (by omega)
  have htc : (u.1 28 - 1).toNatClampNeg = es.length := by rw [ht, nI_clamp (by omega)]
  obtain ⟨gx, ga, hok, gn, gr, c1, G1, g1, gs, g9⟩ := g
  have hc1 := gH_hOK g1
  have hok1 := hOK_c hc1
  obtain ⟨e1, e2, e3, e4, e5⟩ := d.2.2.2.2.1.1
  rw [← htc] at e1 e2 e3 e4 e5
  rcases g9 with ⟨q, hp, -, -, hr⟩ | ⟨q, hp, -, hr⟩ | ⟨q, hp, -, -⟩ | ⟨q, hp, -, -⟩
  · have hpa : c e.2.1 = e.2.2.1 :: c1 e.2.1 := by rw [hp, cPush_a]
    have han : e.2.1 < (u.1 3).toNatClampNeg := gn (by omega) (by omega)
    have ha : e.2.1 < 80 := by omega
    have hl : (c1 e.2.1).length ≤ 5 := by
      have z := (hok e.2.1).2.1
      rw [hpa, List.length_cons] at z
      omega
    have hm : cM u (cPush c1 e.2.1 (e.2.2.1.1, e.2.2.1.2.1, e.2.2.1.2.2.1, e.2.2.1.2.2.2.1, e.2.2.1.2.2.2.2)) := by
      have z := d.2.2.2.2.2
      rw [hp] at z; exact z
    rw [q] at e1
    refine mq (n_undoP l dC dI h0 v cI cZ u e.2.1 e.2.2.1.1 e.2.2.1.2.1 e.2.2.1.2.2.1 e.2.2.1.2.2.2.1 e.2.2.1.2.2.2.2 hr.1 hr.2.1 hr.2.2.1 ha (e2 q) (cM_slR ha hl hm) hz0 ha1 e1 sz) (fun r9 u9 he => ⟨he.1, ?_⟩)
    rw [he.2]; unfold refU; rw [if_pos q]
  · have hpa : c1 e.2.1 = e.2.2.1 :: c e.2.1 := by rw [hp, cPush_a]
    have han : e.2.1 < (u.1 3).toNatClampNeg := gn (by omega) (by omega)
    have ha : e.2.1 < 80 := by omega
    have hl : (c e.2.1).length ≤ 5 := by
      have z := (hok1 e.2.1).2.1
      rw [hpa, List.length_cons] at z
      omega
    obtain ⟨f1, f2, f3, f4, f5, f6⟩ := e3 q
    have hq5 : bw (u.2 22 (nI e.2.1).toNatClampNeg) 0 5 = true := by
      rw [nI_clamp (by omega), (d.2.2.2.2.2 e.2.1 ha).1]
      exact bwN (by have h7 : (5 : Int32).toInt = 5 := rfl; rw [h7]; omega) (by omega)
    rw [q] at e1
    refine mq (n_undoL l dC dI h0 v cI cZ u e.2.1 e.2.2.1.1 e.2.2.1.2.1 e.2.2.1.2.2.1 e.2.2.1.2.2.2.1 e.2.2.1.2.2.2.2 hr.1 hr.2.1 hr.2.2.1 ha f1 f2 f3 f4 f5 f6 hq5 hz0 ha1 e1 sz) (fun r9 u9 he => ⟨he.1, ?_⟩)
    rw [he.2]; unfold refU; rw [if_neg (by omega), if_pos q]
  · obtain ⟨f1, f2, f3⟩ := e4 q
    rw [q] at e1
    have hs3 : e.2.2.1.1 < 12 ∧ e.2.2.1.2.1 < 8 ∧ e.2.2.1.2.2.1 < 60 := by
      rcases gs with z | z | z | z
      · exact absurd z.1 (by omega)
      · exact absurd z.1 (by omega)
      · exact z.2.2
      · exact absurd z.1 (by omega)
    refine mq (n_undoR l dC dI h0 v cI cZ u e.2.2.1.1 e.2.2.1.2.1 e.2.2.1.2.2.1 hs3.1 hs3.2.1 hs3.2.2 f1 f2 f3 hz0 ha1 e1 sz) (fun r9 u9 he => ⟨he.1, ?_⟩)
    rw [he.2]; unfold refU; rw [if_neg (by omega), if_neg (by omega), if_pos q]
  · obtain ⟨f1, f2⟩ := e5 q
    have hx : xG (u.1 3).toNatClampNeg (u.2 4) c1 e.2.2.2 := by
      rcases gs with z | z | z | z
      · exact absurd z.1 (by omega)
      · exact absurd z.1 (by omega)
      · exact absurd z.1 (by omega)
      · exact z.2.2
    have hf := fil_380 hc1 hx
    have hfil : fil (e :: es) = fil es + e.2.2.2.length := by
      show fil es + (if e.1 = 3 then e.2.2.2.length else 0) = _
      rw [if_pos q]
    obtain ⟨j1, j2, j3, j4, j5, j6⟩ := pop_ind hn hok1 e.2.2.2 (mBack u) hx (F := fil es) (by omega) (by rw [back_1 u (by decide), d.2.2.1, hfil]) (fM_c (u := u) (fun _ _ => rfl) f2) (cM_rows (u := u) (fun k _ _ => rfl) (by rw [← hp]; exact d.2.2.2.2.2)) (rI_m (w := mBack u) r rfl rfl (fun _ _ => rfl))
    rw [q] at e1
    refine mq (n_undoF l dC dI h0 v cI cZ u e.2.2.2 (by omega) f1 j1 hz0 ha1 e1 sz) (fun r9 u9 he => ⟨he.1, ?_⟩)
    rw [he.2]; unfold refU; rw [if_neg (by omega), if_neg (by omega), if_neg (by omega)]
theorem mUn_cg {a b : mS} (h : a.2 = b.2) (i : Int32) (P X Y D N : Nat) : (mUnstand a i P X Y D N).2 = (mUnstand b i P X Y D N).2 := by
  obtain ⟨a1, a2⟩ := a
  obtain ⟨b1, b2⟩ := b
  have h : a2 = b2 := h
  subst h
  rfl
theorem pop_bk : ∀ (xs : List fX) (v w : mS), v.2 = w.2 → (∀ k, k ≠ 36 → v.1 k = w.1 k) → (popAll v xs).2 = (bkU w (xs.map (fun x => (false, some x.1, xR x)))).2 ∧ ∀ k, k ≠ 36 → (popAll v xs).1 k = (bkU w (xs.map (fun x => (false, some x.1, xR x)))).1 k
  | [], _, _, h1, h2 => ⟨h1, h2⟩
  | x :: xs, v, w, h1, h2 => by
    refine pop_bk xs (popS v x) (mUnstand w (nI x.1) x.2.1 x.2.2.1 x.2.2.2.1 1 x.2.2.2.2) (mUn_cg (a := mset v 36 (v.1 36 - 1)) (b := w) h1 _ _ _ _ _ _) (fun k hk => ?_)
    show (mset v 36 (v.1 36 - 1)).1 k = w.1 k
    unfold mset; exact (if_neg hk).trans (h2 k hk)
theorem pop_G {G1 : Nat → Int32} : ∀ (xs : List fX) (v : mS), v.2 2 = gFill G1 xs → frL9 G1 xs → (popAll v xs).2 2 = G1
  | [], _, h, _ => h
  | x :: xs, v, h, hf => by
    refine pop_G xs (popS v x) ?_ hf.1
    unfold popS
    rw [mUnstand_2]
    show setF (v.2 2) (xR x) (-2) = _
    rw [h]
    exact setF_re hf.2
theorem fill_bkK {u : mS} {c1 : cfg} (hn : (u.1 3).toNatClampNeg ≤ 80) : ∀ (xs : List fX) (v : mS), xG (u.1 3).toNatClampNeg (u.2 4) c1 xs → cX u (cFill c1 xs) → cM v (cFill c1 xs) → v.1 3 = u.1 3 → v.2 0 = u.2 0 → bkK v (xs.map (fun x => (false, some x.1, xR x)))
  | [], _, _, _, _, _, _ => trivial
  | x :: xs, v, hx, hX, hc, h3, h0 => by
    obtain ⟨hx1, hx2, hx3, hx4, hx5⟩ := hx
    have ha : x.1 < 80 := by omega
    have he : (cFill c1 xs x.1).length ≤ 5 := by rw [hx4]; exact Nat.zero_le _
    have hc2 : cM v (cPush (cFill c1 xs) x.1 (xR x)) := hc
    have hm2 := cM_unstand ha he hc2 x.2.1 x.2.2.1 x.2.2.2.1 1 x.2.2.2.2
    have hX2 : cX u (cPush (cFill c1 xs) x.1 (xR x)) := hX
    have hl := (hX2 x.1 hx2).1 (xR x) (by rw [cPush_a]; exact List.mem_cons_self)
    refine ⟨rIn_of (u := v) (r := xR x) hx5 (by unfold rLn at *; rw [h0]; exact hl), by rw [h3]; exact hx2, ?_, fill_bkK hn xs _ hx1 (cX_pop hX2) hm2 (by rw [mUnstand_1]; exact h3) (by rw [mUnstand_k _ _ _ _ _ _ _ (by decide) (by decide)]; exact h0)⟩
    rw [(hc2 x.1 ha).1, cPush_a, hx4]
    show 0 < (nI 1).toNatClampNeg
    rw [nI_clamp (by decide)]
    decide
/-- what an undo needs and leaves -/
theorem undo_all {u : mS} {e : hE} {es : List hE} {c : cfg} (r : rI u) (d : mH u (e :: es) c) (g : gH u (e :: es) c (u.2 2)) : bkK (mBack u) (bkL e) ∧ (∀ q d z f, rep q d (bkU (mBack u) (bkL e)) z f → rep q d (refU u e) z f) ∧ rI (refU u e) ∧ ∃ c1, mH (refU u e) es c1 ∧ gH (refU u e) es c1 ((refU u e).2 2) ∧ (∀ k, k ≠ 28 → k ≠ 36 → (refU u e).1 k = u.1 k) ∧ (refU u e).1 28 = u.1 28 - 1 ∧ ∀ k, k < 2 ∨ 2 < k → k < 22 ∨ 27 < k → (refU u e).2 k = u.2 k := by
  have hn := n80 r
  have g0 := g
  obtain ⟨gx, ga, hok, gn, gr, c1, G1, g1, gs, g9⟩ := g
  have hc1 := gH_hOK g1
  have hok1 := hOK_c hc1
  have hb := rI_m (w := mBack u) r rfl rfl (fun _ _ => rfl)
  have hfin : ∀ w : mS, rI w → (∀ k, k ≠ 28 → k ≠ 36 → w.1 k = u.1 k) → w.1 28 = u.1 28 - 1 → w.1 36 = nI (fil es) → (∀ k, k < 2 ∨ 2 < k → k < 22 ∨ 27 < k → w.2 k = u.2 k) → cM w c1 → w.2 2 = G1 → rI w ∧ ∃ c1, mH w es c1 ∧ gH w es c1 (w.2 2) ∧ (∀ k, k ≠ 28 → k ≠ 36 → w.1 k = u.1 k) ∧ w.1 28 = u.1 28 - 1 ∧ ∀ k, k < 2 ∨ 2 < k → k < 22 ∨ 27 < k → w.2 k = u.2 k := fun w hr i3 h28 h36 k2 hc hG => ⟨hr, c1, mH_old d hc1 (i3 3 (by decide) (by decide)) (k2 4 (by decide) (by decide)) h28 h36 (fun k k3 k4 => k2 k (by omega) (by omega)) hc, by rw [hG]; exact gH_e (i3 3 (by decide) (by decide)) (k2 0 (by decide) (by decide)) (k2 4 (by decide) (by decide)) (k2 11 (by decide) (by decide)) g1, i3, h28, k2⟩
  rcases g9 with ⟨q, hp, hG, hfr, hr⟩ | ⟨q, hp, hG, hr⟩ | ⟨q, hp, hG, hfr⟩ | ⟨q, hp, hG, hfr⟩
  · have han : e.2.1 < (u.1 3).toNatClampNeg := gn (by omega) (by omega)
    have ha : e.2.1 < 80 := by omega
    have hpa : c e.2.1 = e.2.2.1 :: c1 e.2.1 := by rw [hp, cPush_a]
    have hl : (c1 e.2.1).length ≤ 5 := by
      have z := (hok e.2.1).2.1
      rw [hpa, List.length_cons] at z
      omega
    have hm : cM u (cPush c1 e.2.1 e.2.2.1) := by rw [← hp]; exact d.2.2.2.2.2
    have eU : refU u e = mUnstand (mBack u) (nI e.2.1) e.2.2.1.1 e.2.2.1.2.1 e.2.2.1.2.2.1 e.2.2.1.2.2.2.1 e.2.2.1.2.2.2.2 := by unfold refU; rw [if_pos q]
    have eL : bkL e = [(false, some e.2.1, e.2.2.1)] := by unfold bkL; rw [if_pos q]
    refine ⟨?_, ?_, ?_⟩
    · rw [eL]
      refine ⟨rIn_of (u := mBack u) hr ((gx e.2.1 han).1 e.2.2.1 (by rw [hpa]; exact List.mem_cons_self)), han, ?_, trivial⟩
      show 0 < (u.2 22 e.2.1).toNatClampNeg
      rw [(hm e.2.1 ha).1, cPush_a, List.length_cons, nI_clamp (by omega)]
      omega
    · rw [eL, eU]; exact fun _ _ _ _ h => h
    · rw [eU]
      refine hfin _ (rI_unstand hb _ _ _ _ _ _) (fun k k1 k2 => back_1 u k1) (back_28 u) ?_ (fun k k1 k2 => by rw [mUnstand_k _ _ _ _ _ _ _ (by omega) (by omega)]; rfl) (cM_unstand ha hl (cM_rows (u := u) (w := mBack u) (fun k _ _ => rfl) hm) _ _ _ _ _) ?_
      · show (mBack u).1 36 = _
        rw [back_1 u (by decide), d.2.2.1, fil_no _ (by omega)]
      · rw [mUnstand_2]
        show setF (u.2 2) e.2.2.1 (-2) = G1
        rw [hG]; exact setF_re hfr
  · have han : e.2.1 < (u.1 3).toNatClampNeg := gn (by omega) (by omega)
    have ha : e.2.1 < 80 := by omega
    have hpa : c1 e.2.1 = e.2.2.1 :: c e.2.1 := by rw [hp, cPush_a]
    have hl : (c e.2.1).length ≤ 5 := by
      have z := (hok1 e.2.1).2.1
      rw [hpa, List.length_cons] at z
      omega
    have eU : refU u e = mStand (mBack u) (nI e.2.1) e.2.2.1.1 e.2.2.1.2.1 e.2.2.1.2.2.1 e.2.2.1.2.2.2.1 e.2.2.1.2.2.2.2 := by unfold refU; rw [if_neg (by omega), if_pos q]
    have eL : bkL e = [(true, some e.2.1, e.2.2.1)] := by unfold bkL; rw [if_neg (by omega), if_pos q]
    have gx1 := gH_cX g1
    have ga1 := gH_agr g1
    refine ⟨?_, ?_, ?_⟩
    · rw [eL]
      refine ⟨rIn_of (u := mBack u) hr ((gx1 e.2.1 han).1 e.2.2.1 (by rw [hpa]; exact List.mem_cons_self)), han, ?_, trivial⟩
      show (u.2 22 e.2.1).toNatClampNeg < if u.2 4 e.2.1 = 0 then 6 else 1
      rw [(d.2.2.2.2.2 e.2.1 ha).1, nI_clamp (by omega)]
      by_cases hk : u.2 4 e.2.1 = 0
      · rw [if_pos hk]; omega
      · rw [if_neg hk]
        have z := (gx1 e.2.1 han).2.1 hk
        rw [hpa, List.length_cons] at z; omega
    · rw [eL, eU]; exact fun _ _ _ _ h => h
    · rw [eU]
      refine hfin _ (rI_stand hb ha hr.2.1) (fun k k1 k2 => back_1 u k1) (back_28 u) ?_ (fun k k1 k2 => by rw [mStand_k2 _ _ _ _ _ _ _ (by omega) k2]; rfl) ?_ ?_
      · show (mBack u).1 36 = _
        rw [back_1 u (by decide), d.2.2.1, fil_no _ (by omega)]
      · rw [hp]
        exact cM_stand ha hl (fun b => (hok b).2.1) (cM_rows (u := u) (w := mBack u) (fun k _ _ => rfl) d.2.2.2.2.2) e.2.2.1.1 e.2.2.1.2.1 e.2.2.1.2.2.1 e.2.2.1.2.2.2.1 e.2.2.1.2.2.2.2
      · rw [mStand_2]
        show setF (u.2 2) e.2.2.1 (nI e.2.1) = G1
        rw [hG]
        refine setF_re ?_
        rw [hp] at ga1
        exact agr_top ga1 ha hr
  · have hs3 : e.2.2.1.1 < 12 ∧ e.2.2.1.2.1 < 8 ∧ e.2.2.1.2.2.1 < 60 := by
      rcases gs with z | z | z | z
      · exact absurd z.1 (by omega)
      · exact absurd z.1 (by omega)
      · exact z.2.2
      · exact absurd z.1 (by omega)
    have hr : rOK (ruR e) := ⟨hs3.1, by show e.2.2.1.2.1 + 1 ≤ 8; omega, by show e.2.2.1.2.2.1 + 1 ≤ 60; omega, Nat.le_refl 1, Nat.le_refl 1⟩
    have eU : refU u e = mst (mBack u) 2 (480 * nI e.2.2.1.1 + 60 * nI e.2.2.1.2.1 + nI e.2.2.1.2.2.1) (-2) := by unfold refU; rw [if_neg (by omega), if_neg (by omega), if_pos q]
    have eL : bkL e = [(false, none, ruR e)] := by unfold bkL; rw [if_neg (by omega), if_neg (by omega), if_pos q]
    have eR : setF (u.2 2) (ruR e) (-2) = upd (u.2 2) (480 * nI e.2.2.1.1 + 60 * nI e.2.2.1.2.1 + nI e.2.2.1.2.2.1).toNatClampNeg (-2) := by
      rw [idxN hs3.1 hs3.2.1 hs3.2.2, nI_clamp (by omega)]
      funext j
      show setR (u.2 2) e.2.2.1.1 e.2.2.1.2.1 e.2.2.1.2.2.1 1 (-2) 1 j = _
      unfold setR setR setC upd
      by_cases hj : j = 480 * e.2.2.1.1 + 60 * e.2.2.1.2.1 + e.2.2.1.2.2.1
      · rw [if_pos (by omega), if_pos hj]
      · rw [if_neg (by omega), if_neg hj]
    have eM : mput (mBack u) 2 (setR ((mBack u).2 2) e.2.2.1.1 e.2.2.1.2.1 e.2.2.1.2.2.1 1 (-2) 1) = refU u e := by
      rw [eU]
      show mput (mBack u) 2 (setF (u.2 2) (ruR e) (-2)) = mput (mBack u) 2 (upd (u.2 2) _ (-2))
      rw [eR]
    refine ⟨?_, ?_, ?_⟩
    · rw [eL]
      exact ⟨rIn_of (u := mBack u) hr (gr q), trivial⟩
    · rw [eL]
      intro q9 d9 z9 f9 h9
      rw [← eM]; exact h9
    · rw [eU]
      refine hfin _ ?_ (fun k k1 k2 => back_1 u k1) (back_28 u) ?_ (fun k k1 k2 => by rw [mst_other (by omega)]; rfl) (cM_rows (u := u) (fun k k1 k2 => by rw [mst_other (by omega)]; rfl) (by rw [← hp]; exact d.2.2.2.2.2)) ?_
      · generalize mBack u = z at hb
        obtain ⟨r1, r2, r3, r4, r5, r6, r7, r8⟩ := hb
        refine ⟨r1, r2, ?_, ?_, ?_, ?_, fun j hj => ?_, ?_⟩
        · rw [mst_other (by decide)]; exact r3
        · rw [mst_other (by decide)]; exact r4
        · rw [mst_other (by decide)]; exact r5
        · rw [mst_other (by decide)]; exact r6
        · rw [mst_at]
          split
          · exact fun q => absurd q (by decide)
          · exact r7 j hj
        · rw [mst_other (by decide), mst_other (by decide)]; exact r8
      · show (mBack u).1 36 = _
        rw [back_1 u (by decide), d.2.2.1, fil_no _ (by omega)]
      · rw [← eU, ← eM]
        show setF (u.2 2) (ruR e) (-2) = G1
        rw [hG]; exact setF_re hfr
  · have hx : xG (u.1 3).toNatClampNeg (u.2 4) c1 e.2.2.2 := by
      rcases gs with z | z | z | z
      · exact absurd z.1 (by omega)
      · exact absurd z.1 (by omega)
      · exact absurd z.1 (by omega)
      · exact z.2.2
    have eU : refU u e = popAll (mBack u) e.2.2.2 := by unfold refU; rw [if_neg (by omega), if_neg (by omega), if_neg (by omega)]
    have eL : bkL e = e.2.2.2.map (fun x => (false, some x.1, xR x)) := by unfold bkL; rw [if_neg (by omega), if_neg (by omega), if_neg (by omega)]
    have hf := fil_380 hc1 hx
    have hfil : fil (e :: es) = fil es + e.2.2.2.length := by
      show fil es + (if e.1 = 3 then e.2.2.2.length else 0) = _
      rw [if_pos q]
    have a1 := d.1
    rw [List.length_cons] at a1
    have f2 := (d.2.2.2.2.1.1.2.2.2.2 q).2
    have hcm : cM (mBack u) (cFill c1 e.2.2.2) := cM_rows (u := u) (fun k _ _ => rfl) (by rw [← hp]; exact d.2.2.2.2.2)
    obtain ⟨j1, j2, j3, j4, j5, j6⟩ := pop_ind hn hok1 e.2.2.2 (mBack u) hx (F := fil es) (by omega) (by rw [back_1 u (by decide), d.2.2.1, hfil]) (fM_c (u := u) (fun _ _ => rfl) f2) hcm hb
    refine ⟨?_, ?_, ?_⟩
    · rw [eL]
      exact fill_bkK hn e.2.2.2 (mBack u) hx (by rw [← hp]; exact gx) hcm (back_1 u (by decide)) rfl
    · rw [eL, eU]
      intro q9 d9 z9 f9 h9
      obtain ⟨p1, p2⟩ := pop_bk e.2.2.2 (mBack u) (mBack u) rfl (fun _ _ => rfl)
      refine rep_rows h9 (p2 3 (by decide)) (fun k _ => by rw [p1])
    · rw [eU]
      refine hfin _ j3 (fun k k1 k2 => (j5 k k2).trans (back_1 u k1)) ((j5 28 (by decide)).trans (back_28 u)) j4 (fun k k1 k2 => (j6 k (by omega) (by omega)).trans rfl) j2 ?_
      exact pop_G e.2.2.2 (mBack u) hG hfr
theorem itI {u : mS} (h : rI u) {i : Nat} (hi : i < (u.1 3).toNatClampNeg) : bw (nI i) 0 (u.1 3 - 1) = true := by
  obtain ⟨X, hX, -, eX⟩ := exN h.1 (by decide)
  have h8 : (80 : Int32).toInt = 80 := rfl
  rw [eX] at hi ⊢
  rw [nI_clamp (by omega)] at hi
  rw [dn_e (by omega)]
  exact bwN (by rw [nI_toInt (by omega)]; omega) (by omega)
theorem mst_f1 (u : mS) (k : Nat) (i x : Int32) : (mst u k i x).1 = u.1 := rfl
theorem mS_x {a b : mS} (h1 : a.1 = b.1) (h2 : ∀ r j, a.2 r j = b.2 r j) : a = b := Prod.ext h1 (funext fun r => funext fun j => h2 r j)
/-- the facts of a first printing on page p -/
def enV (w : mS) (p i t : Nat) : Int32 := if t = 0 then w.1 38 else if t = 1 then w.1 39 else if t = 2 then nI p else if t = 3 then w.2 45 (80 * p + i) else w.2 46 (80 * p + i)
noncomputable def en47 (w : mS) (p : Nat) (S : Nat → Prop) : Nat → Int32 := fun j => @ite Int32 (S (j / 5) ∧ w.2 47 (5 * (j / 5)) < 0) (Classical.propDecidable _) (enV w p (j / 5) (j % 5)) (w.2 47 j)
noncomputable def en48 (w : mS) (S : Nat → Prop) : Nat → Int32 := fun j => @ite Int32 (80 * (w.1 38).toNatClampNeg ≤ j ∧ S (j - 80 * (w.1 38).toNatClampNeg)) (Classical.propDecidable _) (vp_nar .boolean 1) (w.2 48 j)
/-- the items of S are written down for page p -/
noncomputable def enS (w : mS) (p : Nat) (S : Nat → Prop) : mS := mput (mput w 47 (en47 w p S)) 48 (en48 w S)
theorem enS_1 (w : mS) (p : Nat) (S : Nat → Prop) : (enS w p S).1 = w.1 := rfl
theorem enS_47 (w : mS) (p : Nat) (S : Nat → Prop) : (enS w p S).2 47 = en47 w p S := rfl
theorem enS_48 (w : mS) (p : Nat) (S : Nat → Prop) : (enS w p S).2 48 = en48 w S := rfl
theorem enS_o (w : mS) (p : Nat) (S : Nat → Prop) {r : Nat} (h1 : r ≠ 47) (h2 : r ≠ 48) : (enS w p S).2 r = w.2 r := by
  show (if r = 48 then _ else if r = 47 then _ else w.2 r) = w.2 r
  rw [if_neg h2, if_neg h1]
theorem enS_cg {w : mS} {p : Nat} {S T : Nat → Prop} (h : ∀ i, S i ↔ T i) : enS w p S = enS w p T := by
  have e : S = T := funext fun i => propext (h i)
  rw [e]
theorem enS_nil {w : mS} {p : Nat} {S : Nat → Prop} (h : ∀ i, ¬ S i) : enS w p S = w := by
  refine mS_x rfl (fun r j => ?_)
  by_cases h1 : r = 47
  · rw [h1, enS_47]; unfold en47; rw [if_neg (fun q => h _ q.1)]
  · by_cases h2 : r = 48
    · rw [h2, enS_48]; unfold en48; rw [if_neg (fun q => h _ q.2)]
    · rw [enS_o w p S h1 h2]
/-- five writes, one after the other -/
theorem w5 {g : Nat → Int32} {m j : Nat} {v0 v1 v2 v3 v4 : Int32} : (if j = 5 * m + 4 then v4 else if j = 5 * m + 3 then v3 else if j = 5 * m + 2 then v2 else if j = 5 * m + 1 then v1 else if j = 5 * m then v0 else g j) = if j / 5 = m then (if j % 5 = 0 then v0 else if j % 5 = 1 then v1 else if j % 5 = 2 then v2 else if j % 5 = 3 then v3 else v4) else g j := by
  by_cases h : j / 5 = m
  · rw [if_pos h]
    rcases (by omega : j % 5 = 0 ∨ j % 5 = 1 ∨ j % 5 = 2 ∨ j % 5 = 3 ∨ j % 5 = 4) with q | q | q | q | q
    · rw [if_neg (by omega), if_neg (by omega), if_neg (by omega), if_neg (by omega), if_pos (by omega), if_pos q]
    · rw [if_neg (by omega), if_neg (by omega), if_neg (by omega), if_pos (by omega), if_neg (by omega), if_pos q]
    · rw [if_neg (by omega), if_neg (by omega), if_pos (by omega), if_neg (by omega), if_neg (by omega), if_pos q]
    · rw [if_neg (by omega), if_pos (by omega), if_neg (by omega), if_neg (by omega), if_neg (by omega), if_pos q]
    · rw [if_pos (by omega), if_neg (by omega), if_neg (by omega), if_neg (by omega), if_neg (by omega)]
  · rw [if_neg h, if_neg (by omega), if_neg (by omega), if_neg (by omega), if_neg (by omega), if_neg (by omega)]
theorem i80 {p m : Nat} (hp : p < 400) (hm : m < 80) : (80 * nI p + nI m).toNatClampNeg = 80 * p + m := by
  rw [show (80 : Int32) = nI 80 from rfl, pk_mul, nI_add, nI_clamp (by omega)]
theorem i5 {m t : Nat} (hm : m < 80) (ht : t < 5) : (5 * nI m + nI t).toNatClampNeg = 5 * m + t := by
  rw [show (5 : Int32) = nI 5 from rfl, pk_mul, nI_add, nI_clamp (by omega)]
theorem i50 {m : Nat} (hm : m < 80) : (5 * nI m).toNatClampNeg = 5 * m := by
  rw [show (5 : Int32) = nI 5 from rfl, pk_mul, nI_clamp (by omega)]
/-- row 48 behind one more item -/
theorem en48_n {w : mS} {S : Nat → Prop} {m j : Nat} : (if j = 80 * (w.1 38).toNatClampNeg + m then vp_nar .boolean 1 else en48 w S j) = en48 w (fun i => S i ∨ i = m) j := by
  unfold en48
  by_cases h : j = 80 * (w.1 38).toNatClampNeg + m
  · rw [if_pos h, if_pos ⟨by omega, Or.inr (by omega)⟩]
  · rw [if_neg h]
    by_cases h2 : 80 * (w.1 38).toNatClampNeg ≤ j ∧ S (j - 80 * (w.1 38).toNatClampNeg)
    · rw [if_pos h2, if_pos ⟨h2.1, Or.inl h2.2⟩]
    · rw [if_neg h2, if_neg (fun q => q.2.elim (fun z => h2 ⟨q.1, z⟩) (fun z => h (by have := q.1; omega)))]
/-- row 47 behind one more item whose first printing stood already -/
theorem en47_o {w : mS} {p : Nat} {S : Nat → Prop} {m j : Nat} (h : S m ∨ ¬ w.2 47 (5 * m) < 0) : en47 w p S j = en47 w p (fun i => S i ∨ i = m) j := by
  unfold en47
  by_cases h2 : S (j / 5) ∧ w.2 47 (5 * (j / 5)) < 0
  · rw [if_pos h2, if_pos ⟨Or.inl h2.1, h2.2⟩]
  · rw [if_neg h2, if_neg (fun q => q.1.elim (fun z => h2 ⟨z, q.2⟩) (fun z => by
      rw [z] at q h2
      exact h.elim (fun g => h2 ⟨g, q.2⟩) (fun g => g q.2)))]
/-- row 47 behind one more item that is printed for the first time -/
theorem en47_n {w : mS} {p : Nat} {S : Nat → Prop} {m j : Nat} (h : w.2 47 (5 * m) < 0) : (if j / 5 = m then enV w p m (j % 5) else en47 w p S j) = en47 w p (fun i => S i ∨ i = m) j := by
  unfold en47
  by_cases h1 : j / 5 = m
  · rw [if_pos h1, if_pos ⟨Or.inr h1, by rw [h1]; exact h⟩, h1]
  · rw [if_neg h1]
    by_cases h2 : S (j / 5) ∧ w.2 47 (5 * (j / 5)) < 0
    · rw [if_pos h2, if_pos ⟨Or.inl h2.1, h2.2⟩]
    · rw [if_neg h2, if_neg (fun q => q.1.elim (fun z => h2 ⟨z, q.2⟩) h1)]
theorem nn0 {x : Int32} (h : 0 ≤ x) : ¬ x < 0 := fun q => by
  rw [i32_le] at h; rw [i32_lt] at q; rw [i0] at *; omega
theorem en47_at {w : mS} {p : Nat} {S : Nat → Prop} {m : Nat} (h : ¬ S m) : en47 w p S (5 * m) = w.2 47 (5 * m) := by
  unfold en47
  rw [if_neg (fun q => h (by have e : 5 * m / 5 = m := by omega
                             rw [e] at q; exact q.1))]
theorem lt_nn {x : Int32} (h : ¬ 0 ≤ x) : x < 0 := by
  rw [i32_le] at h; rw [i32_lt]; rw [i0] at *; omega
/-- the reference's step -/
theorem endI_s {w : mS} {p m : Nat} {S : Nat → Prop} (hp : p < 12) (hm : m < 80) (hd : bw (w.1 38) 0 399 = true) (hS : ¬ S m) : endI (enS w p S) (nI p) (nI m) = enS w p (fun i => S i ∨ (i = m ∧ 0 ≤ w.2 45 (80 * p + m))) := by
  unfold endI
  rw [i80 (by omega) hm, enS_o w p S (by decide) (by decide)]
  by_cases ho : 0 ≤ w.2 45 (80 * p + m)
  · rw [if_pos ho]
    rw [enS_cg (T := fun i => S i ∨ i = m) (fun i => ⟨fun q => q.elim Or.inl (fun z => Or.inr z.1), fun q => q.elim Or.inl (fun z => Or.inr ⟨z, ho⟩)⟩)]
    dsimp only
    rw [i50 hm, mst_other (by decide), enS_47, en47_at hS]
    have e48 : ∀ j, (mst (enS w p S) 48 (80 * (enS w p S).1 38 + nI m) (vp_nar .boolean 1)).2 48 j = en48 w (fun i => S i ∨ i = m) j := fun j => by
      rw [mst_at, enS_1, e48i hm hd, enS_48]; exact en48_n
    by_cases hf : 0 ≤ w.2 47 (5 * m)
    · rw [if_pos hf]
      refine mS_x rfl (fun r j => ?_)
      by_cases h1 : r = 47
      · rw [h1, mst_other (by decide), enS_47, enS_47]; exact en47_o (Or.inr (nn0 hf))
      · by_cases h2 : r = 48
        · rw [h2, e48, enS_48]
        · rw [mst_other h2, enS_o w p _ h1 h2, enS_o w p _ h1 h2]
    · rw [if_neg hf]
      refine mS_x rfl (fun r j => ?_)
      by_cases h1 : r = 47
      · subst h1
        rw [mst_at, mst_at, mst_at, mst_at, mst_at, mst_other (by decide), mst_other (by decide), mst_other (by decide), mst_other (by decide), mst_other (by decide), mst_other (by decide), mst_other (by decide), mst_other (by decide), mst_other (by decide), mst_other (by decide)]
        rw [show (4 : Int32) = nI 4 from rfl, show (3 : Int32) = nI 3 from rfl, show (2 : Int32) = nI 2 from rfl, show (1 : Int32) = nI 1 from rfl, i5 hm (by decide), i5 hm (by decide), i5 hm (by decide), i5 hm (by decide), i50 hm, w5, enS_47, enS_47, ← en47_n (lt_nn hf)]
        congr 1
      · by_cases h2 : r = 48
        · subst h2
          rw [mst_other (by decide), mst_other (by decide), mst_other (by decide), mst_other (by decide), mst_other (by decide), e48, enS_48]
        · rw [mst_other h1, mst_other h1, mst_other h1, mst_other h1, mst_other h1, mst_other h2, enS_o w p _ h1 h2, enS_o w p _ h1 h2]
  · rw [if_neg ho]
    exact enS_cg (fun i => ⟨Or.inl, fun q => q.elim id (fun z => absurd z.2 ho)⟩)
theorem endL_s {w : mS} {p : Nat} (hp : p < 12) (hd : bw (w.1 38) 0 399 = true) : ∀ n, n ≤ 80 → endL w (nI p) n = enS w p (fun i => i < n ∧ 0 ≤ w.2 45 (80 * p + i))
  | 0, _ => (enS_nil (fun i q => absurd q.1 (Nat.not_lt_zero _))).symm
  | n + 1, h => by
    show endI (endL w (nI p) n) (nI p) (nI n) = _
    rw [endL_s hp hd n (by omega), endI_s hp (by omega) hd (fun q => absurd q.1 (by omega))]
    refine enS_cg (fun i => ⟨fun q => ?_, fun q => ?_⟩)
    · rcases q with q | q
      · exact ⟨by omega, q.2⟩
      · exact ⟨by omega, by rw [q.1]; exact q.2⟩
    · by_cases e : i = n
      · exact Or.inr ⟨e, by rw [← e]; exact q.2⟩
      · exact Or.inl ⟨by omega, q.2⟩
/-- the cells before (c, l) of plate p -/
def seen (w : mS) (p c l i : Nat) : Prop := ∃ c' l', c' < 8 ∧ l' < (w.2 43 (8 * p + c')).toNatClampNeg ∧ (c' < c ∨ (c' = c ∧ l' < l)) ∧ w.2 44 (480 * p + (60 * c' + l')) = nI i
def Sx (w : mS) (p n c l i : Nat) : Prop := i < n ∧ seen w p c l i
/-- the class's step -/
theorem wdS_s {w : mS} {p c l : Nat} (hr : rI w) (hp : p < 12) (hc : c < 8) (hl : l < (w.2 43 (8 * p + c)).toNatClampNeg) (hl6 : l < 60) (hpl : plI w) (hfi : fiI w) (h40 : w.2 40 p = 1) (h41 : w.2 41 p = w.1 38) (h42 : w.2 42 p = w.1 39) : wdS p c l (enS w p (Sx w p (w.1 3).toNatClampNeg c l)) = enS w p (Sx w p (w.1 3).toNatClampNeg c (l + 1)) := by
  have hd := hr.2.1
  have hn := n80 hr
  unfold wdS
  rw [enS_o w p _ (by decide) (by decide), enS_1]
  by_cases hb : bw (w.2 44 (480 * p + (60 * c + l))) 0 (w.1 3 - 1) = true
  · rw [if_pos hb]
    obtain ⟨i, ei, hi, -⟩ := itN hr hb
    have hi8 : i < 80 := by omega
    rw [ei, nI_clamp (by omega)]
    rw [enS_cg (S := Sx w p (w.1 3).toNatClampNeg c (l + 1)) (T := fun j => Sx w p (w.1 3).toNatClampNeg c l j ∨ j = i) (fun j => ⟨fun q => by
      obtain ⟨q1, c', l', a1, a2, a3, a4⟩ := q
      by_cases e : c' = c ∧ l' = l
      · rw [e.1, e.2, ei] at a4
        exact Or.inr ((nI_inj (by omega) (by omega)).mp a4).symm
      · exact Or.inl ⟨q1, c', l', a1, a2, by omega, a4⟩, fun q => by
      rcases q with ⟨q1, c', l', a1, a2, a3, a4⟩ | q
      · exact ⟨q1, c', l', a1, a2, by omega, a4⟩
      · rw [q]; exact ⟨hi, c, l, hc, hl, Or.inr ⟨rfl, by omega⟩, ei⟩⟩)]
    generalize hS : Sx w p (w.1 3).toNatClampNeg c l = S
    have e48 : ∀ v : mS, v.2 48 = en48 w S → v.1 = w.1 → ∀ j, (mst v 48 (nI (80 * (w.1 38).toNatClampNeg + i)) (vp_nar .boolean 1)).2 48 j = en48 w (fun i9 => S i9 ∨ i9 = i) j := fun v h1 h2 j => by
      have hd9 : (w.1 38).toNatClampNeg < 400 := by
        obtain ⟨X, hX, -, eX⟩ := exN hd (by decide)
        have h3 : (399 : Int32).toInt = 399 := rfl
        rw [eX, nI_clamp (by omega)]; omega
      rw [mst_at, nI_clamp (by omega), h1]; exact en48_n
    unfold wdU
    rw [enS_47, enS_1]
    by_cases hs : S i
    · have hne : ¬ en47 w p S (5 * i) = (-1) := by
        unfold en47
        have e5 : 5 * i / 5 = i := by omega
        rw [e5]
        by_cases hf : w.2 47 (5 * i) < 0
        · rw [if_pos ⟨hs, hf⟩, show 5 * i % 5 = 0 by omega]
          intro q
          have q2 : w.1 38 = (-1) := q
          have h3 := (bw_iff.mp hd).1
          rw [q2] at h3
          exact absurd h3 (by decide)
        · rw [if_neg (fun q => hf q.2)]
          intro q; rw [q] at hf; exact hf (by decide)
      rw [if_neg hne]
      refine mS_x rfl (fun r j => ?_)
      by_cases h1 : r = 47
      · rw [h1, mst_other (by decide), enS_47, enS_47]; exact en47_o (Or.inl hs)
      · by_cases h2 : r = 48
        · rw [h2, e48 _ (enS_48 w p S) rfl, enS_48]
        · rw [mst_other h2, enS_o w p _ h1 h2, enS_o w p _ h1 h2]
    · rw [en47_at hs]
      have hfirst : w.2 45 (80 * p + i) = nI c ∧ w.2 46 (80 * p + i) = nI l := by
        rcases hpl p hp h40 i hi8 with ⟨-, hN⟩ | ⟨c', l', b1, b2, b3, b4, b5, b6⟩
        · exact absurd ei (hN c l hc hl)
        · have h1 : ¬ (c' < c ∨ (c' = c ∧ l' < l)) := fun q => hs (by rw [← hS]; exact ⟨hi, c', l', b3, b4, q, b5⟩)
          have h2 : ¬ (c < c' ∨ (c = c' ∧ l < l')) := fun q => b6 c l hc hl q ei
          have h3 : c' = c ∧ l' = l := by omega
          rw [← h3.1, ← h3.2]; exact ⟨b1, b2⟩
      by_cases hf : w.2 47 (5 * i) = (-1)
      · rw [if_pos hf]
        have hneg : w.2 47 (5 * i) < 0 := by rw [hf]; decide
        refine mS_x (((mst_f1 _ _ _ _).trans (wdF_1 (enS w p S) i (nI p) (nI (60 * c + l)) 5)).trans (enS_1 w p S)) (fun r j => ?_)
        by_cases h1 : r = 47
        · subst h1
          rw [mst_other (by decide), enS_47, ← en47_n hneg]
          unfold wdF wdF wdF wdF wdF wdF
          rw [mst_at, mst_at, mst_at, mst_at, mst_at, nI_clamp (by omega), nI_clamp (by omega), nI_clamp (by omega), nI_clamp (by omega), nI_clamp (by omega), Nat.add_zero (5 * i), w5, enS_47]
          congr 1
          have q6 := q60 ⟨c, hc⟩ ⟨l, hl6⟩
          have m0 : mPF (enS w p S) (nI p) (nI (60 * c + l)) (nI 0) = w.1 38 := by unfold mPF; rw [if_pos (by decide), nI_clamp (by omega), enS_o w p _ (by decide) (by decide), h41]
          have m1 : mPF (enS w p S) (nI p) (nI (60 * c + l)) (nI 1) = w.1 39 := by unfold mPF; rw [if_neg (by decide), if_pos (by decide), nI_clamp (by omega), enS_o w p _ (by decide) (by decide), h42]
          have m2 : mPF (enS w p S) (nI p) (nI (60 * c + l)) (nI 2) = nI p := by unfold mPF; rw [if_neg (by decide), if_neg (by decide), if_pos (by decide)]
          have m3 : mPF (enS w p S) (nI p) (nI (60 * c + l)) (nI 3) = w.2 45 (80 * p + i) := by unfold mPF; rw [if_neg (by decide), if_neg (by decide), if_neg (by decide), if_pos (by decide), hfirst.1]; exact q6.1
          have m4 : mPF (enS w p S) (nI p) (nI (60 * c + l)) (nI 4) = w.2 46 (80 * p + i) := by unfold mPF; rw [if_neg (by decide), if_neg (by decide), if_neg (by decide), if_neg (by decide), if_pos (by decide), hfirst.2]; exact q6.2
          rw [m0, m1, m2, m3, m4]
          rfl
        · by_cases h2 : r = 48
          · subst h2
            rw [e48 _ ?_ ?_, enS_48]
            · unfold wdF wdF wdF wdF wdF wdF
              rw [mst_other (by decide), mst_other (by decide), mst_other (by decide), mst_other (by decide), mst_other (by decide), enS_48]
            · exact (wdF_1 (enS w p S) i (nI p) (nI (60 * c + l)) 5).trans (enS_1 w p S)
          · rw [mst_other h2]
            unfold wdF wdF wdF wdF wdF wdF
            rw [mst_other h1, mst_other h1, mst_other h1, mst_other h1, mst_other h1, enS_o w p _ h1 h2, enS_o w p _ h1 h2]
      · rw [if_neg hf]
        have hnn : ¬ w.2 47 (5 * i) < 0 := fun q => by
          have h9 := hfi i hi8
          have e1 : (-1 : Int32).toInt = -1 := rfl
          rw [i32_lt, e1] at h9
          rw [i32_lt, i0] at q
          exact hf (Int32.toInt_inj.mp (by rw [e1]; omega))
        refine mS_x rfl (fun r j => ?_)
        by_cases h1 : r = 47
        · rw [h1, mst_other (by decide), enS_47, enS_47]; exact en47_o (Or.inr hnn)
        · by_cases h2 : r = 48
          · rw [h2, e48 _ (enS_48 w p S) rfl, enS_48]
          · rw [mst_other h2, enS_o w p _ h1 h2, enS_o w p _ h1 h2]
  · rw [if_neg hb]
    refine enS_cg (fun j => ⟨fun q => ?_, fun q => ?_⟩)
    · obtain ⟨q1, c', l', a1, a2, a3, a4⟩ := q
      exact ⟨q1, c', l', a1, a2, by omega, a4⟩
    · obtain ⟨q1, c', l', a1, a2, a3, a4⟩ := q
      by_cases e : c' = c ∧ l' = l
      · rw [e.1, e.2] at a4
        exact absurd (by rw [a4]; exact itI hr q1) hb
      · exact ⟨q1, c', l', a1, a2, by omega, a4⟩
theorem wdC_s {w : mS} {p c : Nat} (hr : rI w) (hp : p < 12) (hc : c < 8) (h6 : (w.2 43 (8 * p + c)).toNatClampNeg ≤ 60) (hpl : plI w) (hfi : fiI w) (h40 : w.2 40 p = 1) (h41 : w.2 41 p = w.1 38) (h42 : w.2 42 p = w.1 39) : ∀ l, l ≤ (w.2 43 (8 * p + c)).toNatClampNeg → wdC p c (enS w p (Sx w p (w.1 3).toNatClampNeg c 0)) l = enS w p (Sx w p (w.1 3).toNatClampNeg c l)
  | 0, _ => rfl
  | l + 1, h => by
    show wdS p c l (wdC p c (enS w p (Sx w p (w.1 3).toNatClampNeg c 0)) l) = _
    rw [wdC_s hr hp hc h6 hpl hfi h40 h41 h42 l (by omega)]
    exact wdS_s hr hp hc (by omega) (by omega) hpl hfi h40 h41 h42
theorem wdP_s {w : mS} {p : Nat} (hr : rI w) (hp : p < 12) (hpl : plI w) (hfi : fiI w) (h40 : w.2 40 p = 1) (h41 : w.2 41 p = w.1 38) (h42 : w.2 42 p = w.1 39) : ∀ c, c ≤ 8 → wdP p w c = enS w p (Sx w p (w.1 3).toNatClampNeg c 0)
  | 0, _ => (enS_nil (fun i q => by
      obtain ⟨-, c', l', a1, a2, a3, a4⟩ := q
      omega)).symm
  | c + 1, h => by
    have h6 : (w.2 43 (8 * p + c)).toNatClampNeg ≤ 60 := by
      obtain ⟨e1, e2, e3⟩ := nI_of_bw (hr.2.2.2.1 (8 * p + c) (by omega))
      have h60 : (60 : Int32).toInt = 60 := rfl
      omega
    show wdC p c (wdP p w c) (w.2 43 (8 * p + c)).toNatClampNeg = _
    rw [wdP_s hr hp hpl hfi h40 h41 h42 c (by omega), wdC_s hr hp (by omega) h6 hpl hfi h40 h41 h42 _ (Nat.le_refl _)]
    refine enS_cg (fun i => ⟨fun q => ?_, fun q => ?_⟩)
    · obtain ⟨q1, c', l', a1, a2, a3, a4⟩ := q
      exact ⟨q1, c', l', a1, a2, by omega, a4⟩
    · obtain ⟨q1, c', l', a1, a2, a3, a4⟩ := q
      refine ⟨q1, c', l', a1, a2, ?_, a4⟩
      by_cases e : c' = c
      · rw [e] at a2
        exact Or.inr ⟨e, a2⟩
      · exact Or.inl (by omega)
/-- what is on a plate: its first cell is told -/
theorem seen_45 {w : mS} {p i : Nat} (hp : p < 12) (hi : i < 80) (hpl : plI w) (h40 : w.2 40 p = 1) : seen w p 8 0 i ↔ 0 ≤ w.2 45 (80 * p + i) := by
  rcases hpl p hp h40 i hi with ⟨e, hN⟩ | ⟨c, l, e1, e2, f1, f2, f3, f4⟩
  · rw [e]
    exact ⟨fun ⟨c', l', a1, a2, a3, a4⟩ => absurd a4 (hN c' l' a1 a2), fun q => absurd q (by decide)⟩
  · rw [e1]
    refine ⟨fun _ => ?_, fun _ => ⟨c, l, f1, f2, Or.inl f1, f3⟩⟩
    rw [i32_le, i0, nI_toInt (by omega)]; omega
theorem wdP_e {w : mS} {p : Nat} (hr : rI w) (hp : p < 12) (hpl : plI w) (hfi : fiI w) (h40 : w.2 40 p = 1) (h41 : w.2 41 p = w.1 38) (h42 : w.2 42 p = w.1 39) : wdP p w 8 = endL w (nI p) (w.1 3).toNatClampNeg := by
  have hn := n80 hr
  rw [wdP_s hr hp hpl hfi h40 h41 h42 8 (Nat.le_refl _), endL_s hp hr.2.1 _ hn]
  refine enS_cg (fun i => ⟨fun q => ⟨q.1, (seen_45 hp (by have := q.1; omega) hpl h40).mp q.2⟩, fun q => ⟨q.1, (seen_45 hp (by have := q.1; omega) hpl h40).mpr q.2⟩⟩)
theorem mNow_3 {w : mS} {p : Nat} (hp : p < 12) (hpl : w.2 40 p = 0 ∨ w.2 40 p = 1) (h : mNow w (nI p) = true) : w.2 40 p = 1 ∧ w.2 41 p = w.1 38 ∧ w.2 42 p = w.1 39 := by
  unfold mNow at h
  rw [nI_clamp (by omega)] at h
  obtain ⟨h1, h2⟩ := band h
  obtain ⟨h2, h3⟩ := band h2
  refine ⟨?_, of_decide_eq_true h2, of_decide_eq_true h3⟩
  rcases hpl with q | q
  · rw [q] at h1; exact absurd h1 (by decide)
  · exact q
theorem enV_nn {w : mS} {p i : Nat} (hd : bw (w.1 38) 0 399 = true) : ¬ enV w p i 0 < (-1) := fun q => by
  have q2 : w.1 38 < (-1) := q
  have h := (bw_iff.mp hd).1
  have e1 : (-1 : Int32).toInt = -1 := rfl
  rw [i32_lt, e1] at q2
  rw [i0] at h
  omega
theorem fiI_L {w : mS} {p : Nat} (hp : p < 12) (hd : bw (w.1 38) 0 399 = true) (h : fiI w) {n : Nat} (hn : n ≤ 80) : fiI (endL w (nI p) n) := by
  intro i hi
  rw [endL_s hp hd n hn, enS_47]
  unfold en47
  have e5 : 5 * i / 5 = i := by omega
  have e6 : 5 * i % 5 = 0 := by omega
  rw [e5, e6]
  split
  · exact enV_nn hd
  · exact h i hi
/-- closing an edition: class and reference leave the same -/
theorem clE_e {u : mS} (hr : rI u) (hpl : plI u) (hfi : fiI u) (h40 : ∀ p, p < 12 → u.2 40 p = 0 ∨ u.2 40 p = 1) : ∀ n, n ≤ 12 → clE u n = endP u n ∧ fiI (endP u n)
  | 0, _ => ⟨rfl, hfi⟩
  | n + 1, h => by
    obtain ⟨h1, h2⟩ := clE_e hr hpl hfi h40 n (by omega)
    have hk := endP_k u n
    have hr2 : rI (endP u n) := rI_c hr (fun k _ => by rw [hk.1]) (fun k hk2 => hk.2 k (by unfold kR at hk2; omega) (by unfold kR at hk2; omega))
    have hpl2 : plI (endP u n) := plI_c hpl (fun r r1 r2 => hk.2 r (by omega) (by omega))
    show (if mNow (clE u n) (nI n) = true then wdP n (clE u n) 8 else clE u n) = (if mNow (endP u n) (nI n) = true then endL (endP u n) (nI n) ((u.1 3).toNatClampNeg) else endP u n) ∧ fiI (if mNow (endP u n) (nI n) = true then endL (endP u n) (nI n) ((u.1 3).toNatClampNeg) else endP u n)
    rw [h1]
    have e3 : (endP u n).1 3 = u.1 3 := by rw [hk.1]
    by_cases hn : mNow (endP u n) (nI n) = true
    · rw [if_pos hn, if_pos hn]
      obtain ⟨n1, n2, n3⟩ := mNow_3 (by omega) (by rw [hk.2 40 (by decide) (by decide)]; exact h40 n (by omega)) hn
      have e := wdP_e hr2 (by omega) hpl2 h2 n1 n2 n3
      rw [e3] at e
      refine ⟨e, fiI_L (by omega) hr2.2.1 h2 (by rw [← e3]; exact n80 hr2)⟩
    · rw [if_neg hn, if_neg hn]
      exact ⟨rfl, h2⟩
