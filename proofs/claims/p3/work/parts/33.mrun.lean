theorem addsub1 (q : Int32) : q + 1 - 1 = q := by rw [Int32.sub_eq_add_neg, Int32.add_assoc]; exact Int32.add_zero q
theorem mput_other {u : mS} {k j : Nat} {f : Nat → Int32} (h : j ≠ k) : (mput u k f).2 j = u.2 j := by
  unfold mput; dsimp only; rw [if_neg h]
theorem mStand_22 (u : mS) (i : Int32) (P X Y D N : Nat) : (mStand u i P X Y D N).2 22 i.toNatClampNeg = u.2 22 i.toNatClampNeg + 1 := by
  unfold mStand
  dsimp only
  rw [mput_other (by decide), mst_same, mst_other (by decide), mst_other (by decide), mst_other (by decide), mst_other (by decide), mst_other (by decide)]
theorem mStand_sl (u : mS) (i : Int32) (P X Y D N : Nat) : (mStand u i P X Y D N).2 23 (6 * i + ((mStand u i P X Y D N).2 22 i.toNatClampNeg - 1)).toNatClampNeg = nI P ∧ (mStand u i P X Y D N).2 24 (6 * i + ((mStand u i P X Y D N).2 22 i.toNatClampNeg - 1)).toNatClampNeg = nI X ∧ (mStand u i P X Y D N).2 25 (6 * i + ((mStand u i P X Y D N).2 22 i.toNatClampNeg - 1)).toNatClampNeg = nI Y ∧ (mStand u i P X Y D N).2 26 (6 * i + ((mStand u i P X Y D N).2 22 i.toNatClampNeg - 1)).toNatClampNeg = nI D ∧ (mStand u i P X Y D N).2 27 (6 * i + ((mStand u i P X Y D N).2 22 i.toNatClampNeg - 1)).toNatClampNeg = nI N := by
  rw [mStand_22, addsub1]
  refine ⟨?_, ?_, ?_, ?_, ?_⟩
  · show (mst u 23 (6 * i + u.2 22 i.toNatClampNeg) (nI P)).2 23 _ = _; exact mst_same _ _ _ _
  · show (mst _ 24 (6 * i + u.2 22 i.toNatClampNeg) (nI X)).2 24 _ = _; exact mst_same _ _ _ _
  · show (mst _ 25 (6 * i + u.2 22 i.toNatClampNeg) (nI Y)).2 25 _ = _; exact mst_same _ _ _ _
  · show (mst _ 26 (6 * i + u.2 22 i.toNatClampNeg) (nI D)).2 26 _ = _; exact mst_same _ _ _ _
  · show (mst _ 27 (6 * i + u.2 22 i.toNatClampNeg) (nI N)).2 27 _ = _; exact mst_same _ _ _ _
theorem q05 {q : Int32} (h : bw q 0 6 = true) (h6 : ¬ q = 6) : bw q 0 5 = true := by
  have e6 : (6 : Int32).toInt = 6 := rfl
  have e5 : (5 : Int32).toInt = 5 := rfl
  have h1 := bw_iff.mp h
  rw [i0, e6] at h1
  have h2 : ¬ q.toInt = 6 := fun e => h6 (sw_in e.symm e6)
  rw [bw_iff, i0, e5]; omega
theorem q16 {q : Int32} (h : bw q 0 5 = true) : bw (q + 1) 0 6 = true := by
  have e6 : (6 : Int32).toInt = 6 := rfl
  have e5 : (5 : Int32).toInt = 5 := rfl
  have h1 := bw_iff.mp h
  rw [i0, e5] at h1
  rw [bw_iff, i0, e6, addI (by rw [i1]; omega) (by rw [i1]; omega), i1]; omega
theorem qm1 {q : Int32} (h : bw q 0 5 = true) (h0 : ¬ q = 0) : bw (q - 1) 0 5 = true := by
  have e5 : (5 : Int32).toInt = 5 := rfl
  have h1 := bw_iff.mp h
  rw [i0, e5] at h1
  have h2 : ¬ q.toInt = 0 := fun e => h0 (sw_in e.symm i0)
  rw [bw_iff, i0, e5, subI (by rw [i1]; omega) (by rw [i1]; omega), i1]; omega
theorem vW {i : Int32} {n : Nat} (hi : bw i 0 79 = true) (hn : n < 80) : vp_in (80 * i + nI n) 6400 := by
  have h80 : (80 : Int32).toInt = 80 := rfl
  have h79 : (79 : Int32).toInt = 79 := rfl
  have h1 := bw_iff.mp hi
  rw [i0, h79] at h1
  have e1 : (80 * i).toInt = 80 * i.toInt := by rw [mulI (by rw [h80]; omega) (by rw [h80]; omega), h80]
  rw [vp_in_iff, addI (by rw [e1, nI_toInt (by omega)]; omega) (by rw [e1, nI_toInt (by omega)]; omega), e1, nI_toInt (by omega)]; omega
/-- what mayRun has found of the last piece and of the one ahead -/
def runG (w : mS) (i x : Int32) : Prop := ¬ mTakes w i x < 1 ∧ (x = 0 ∨ ¬ mTakes w i (x - 1) < 1)
set_option maxHeartbeats 4000000 in
set_option maxRecDepth 100000 in
theorem m_mr_loop {p : Program} {l : Launch} {e : Env} {R : Room} {s : State} {m : MethodId} {args : Array Value} {below : List Frame} {meth : Method} {c : Code} {Q : State → Prop} {cells slots : Nat} {dC : Nat → ClassId} {dI : Nat → Nat → Nat} {h0 : Nat} {v : Nat → Nat} {cI cZ : ClassId} {H : Heap} {locs : List Loc} {u : mS} (hx : p.tables.exec = Jvm.exec) (hb : c.code = cX12_mayRun) (hml : c.maxLocals = 10) (hts : ∀ w ∈ wsX12_mayRun, w.before args s = true) (hown : s.vm.findClass RX12 = some m.cls) (hN : NN s) (hK : va_K (dC, dI) vwCl [(cI, .int), (cZ, .boolean)] s) (hRf : 1 ≤ R.frames) (hRl : 24 ≤ R.locals) (hRc : cells ≤ R.cells) (hRs : slots ≤ R.slots) (hP : va_P (dC, dI) vwCl (mW h0 v cI cZ u) H) {p0 x6 : Int32} {P X Y N a9 T : Nat} (hi0 : bw p0 0 79 = true) (hPP : P < 12) (hl5 : bw x6 0 5 = true) (hc6 : bw (u.2 22 p0.toNatClampNeg) 0 6 = true) (eT : mTakes u p0 x6 = nI T) (ha8 : a9 + T ≤ 80) (kx271 : ∀ (g9 : Int32) (ls : Array Slot), (g9 = 0 ∨ g9 = 1) → lv_has ls 10 [(7, .int g9), (0, .ref h0), (1, .int p0), (2, .int (nI P)), (3, .int (nI X)), (4, .int (nI Y)), (5, .int (nI N))] → W p l e R s m args below meth c H locs cells slots Q (F0 m 271 ls [])) : ∀ (k i : Nat) (g : Int32) (ls : Array Slot), i ≤ T → T - i < k → (g = 0 ∨ g = 1) → lv_has ls 10 [(9, .int (nI (a9 + i))), (8, .int (nI a9)), (7, .int g), (6, .int x6), (0, .ref h0), (1, .int p0), (2, .int (nI P)), (3, .int (nI X)), (4, .int (nI Y)), (5, .int (nI N))] → W p l e R s m args below meth c H locs cells slots Q (F0 m 217 ls []) := by
  intro k
  induction k with
  | zero => intro i g ls h1 h2; exact absurd h2 (Nat.not_lt_zero _)
  | succ k ih =>
    intro i g ls hi hk hg hl
    refine lv_iload hx hb dX12_mayRun_217 (lv_at hl 0 rfl) ?_
    refine lv_iload hx hb dX12_mayRun_219 (lv_at hl 1 rfl) ?_
    refine lv_aload_n hx hb dX12_mayRun_221 rfl (lv_at hl 4 rfl) ?_
    refine lv_iload_n hx hb dX12_mayRun_222 rfl (lv_at hl 5 rfl) ?_
    refine lv_iload hx hb dX12_mayRun_223 (lv_at hl 3 rfl) ?_
    refine vp_callSi (va_runV (As := [.int p0, .int x6]) (rest := [.int (nI a9), .int (nI (a9 + i))]) ⟨hx, hb, hml, hown, hts⟩ (m_takes l dC dI h0 v cI cZ u p0 x6 hi0 hl5 hc6) (cwV 2 hts gX12_mayRun_X12_takes rfl rfl rfl (by decide +kernel) ⟨Nat.le_trans (Nat.le_of_ble_eq_true rfl) hRf, Nat.le_trans (Nat.le_of_ble_eq_true rfl) hRl⟩) ⟨pw_fb, va_recv hK hP (ci := 11) (q0 := 0) rfl rfl, fun U hU hW => ⟨rfl, pw_to hU hW hP hK hN⟩⟩ rfl rfl hl.1 rfl (lv_room (Nat.le_of_ble_eq_true rfl)) dX12_mayRun_225 ⟨hRc, hRs⟩).run (fun r hw => ?_)
    obtain rfl : r = nI T := hw.trans eT
    refine lv_iadd hx hb dX12_mayRun_228 ?_
    refine lv_icmp_ge (tgt := 271) hx hb dX12_mayRun_229 (by decide) (fun c_1 => ?_) (fun c_1 => ?_)
    ·
      have hie : i = T := by have := lp_eq (nI_add a9 T) (by omega) (by omega) c_1; omega
      exact kx271 _ ls hg (lv_sub hl [2, 4, 5, 6, 7, 8, 9] rfl)
    ·
      have hlt : i < T := by have := lp_lt (nI_add a9 T) (by omega) (by omega) c_1; omega
      refine lv_iload hx hb dX12_mayRun_232 (lv_at hl 2 rfl) ?_
      refine lv_if_eq (tgt := 271) hx hb dX12_mayRun_234 (by decide) (fun c_2 => ?_) (fun c_2 => ?_)
      ·
        exact kx271 _ ls hg (lv_sub hl [2, 4, 5, 6, 7, 8, 9] rfl)
      ·
        refine lv_aload_n hx hb dX12_mayRun_237 rfl (lv_at hl 4 rfl) ?_
        refine va_get (D := (dC, dI)) (ci := 11) (v := .ref (v 16)) (C := RX12) (T := TX12) (N := 52) hx hb hts (by decide +kernel) hown hK hP 0 rfl rfl 16 (by decide) (hts (.fieldLink RX12 55 "PageOneModel" "width" "[I") (by decide +kernel)) (fun _ h9 => h9) rfl dX12_mayRun_238 ?_
        refine lv_bipush (v := 80) hx hb dX12_mayRun_241 (by decide) ?_
        refine lv_iload_n hx hb dX12_mayRun_243 rfl (lv_at hl 5 rfl) ?_
        refine lv_imul hx hb dX12_mayRun_244 ?_
        refine lv_iload hx hb dX12_mayRun_245 (lv_at hl 0 rfl) ?_
        refine lv_iadd hx hb dX12_mayRun_247 ?_
        refine va_iald hx hb hK hP 16 0 rfl rfl (vW hi0 (by omega)) dX12_mayRun_248 ?_
        refine lv_aload_n hx hb dX12_mayRun_249 rfl (lv_at hl 4 rfl) ?_
        refine va_get (D := (dC, dI)) (ci := 11) (v := .ref (v 1)) (C := RX12) (T := TX12) (N := 52) hx hb hts (by decide +kernel) hown hK hP 0 rfl rfl 1 (by decide) (hts (.fieldLink RX12 13 "PageOneModel" "measure" "[I") (by decide +kernel)) (fun _ h9 => h9) rfl dX12_mayRun_250 ?_
        refine lv_iload_n hx hb dX12_mayRun_253 rfl (lv_at hl 6 rfl) ?_
        refine va_iald hx hb hK hP 2 0 rfl rfl (vp_in_nI hPP (by decide)) dX12_mayRun_254 ?_
        refine lv_icmp_gt (tgt := 262) hx hb dX12_mayRun_255 (by decide) (fun c_3 => ?_) (fun c_3 => ?_)
        ·
          refine lv_iconst (v := 0) hx hb dX12_mayRun_262 (by decide) ?_
          refine lv_istore (lv' := [(7, .int 0), (9, .int (nI (a9 + i))), (8, .int (nI a9)), (6, .int x6), (0, .ref h0), (1, .int p0), (2, .int (nI P)), (3, .int (nI X)), (4, .int (nI Y)), (5, .int (nI N))]) hx hb dX12_mayRun_263 hl (by decide) rfl (fun ls hl => ?_)
          refine lv_iinc (v := (nI (a9 + i + 1))) (lv' := [(9, .int (nI (a9 + i + 1))), (7, .int 0), (8, .int (nI a9)), (6, .int x6), (0, .ref h0), (1, .int p0), (2, .int (nI P)), (3, .int (nI X)), (4, .int (nI Y)), (5, .int (nI N))]) hx hb dX12_mayRun_265 hl (k := 1) rfl (nI_1 _) (by decide) rfl (fun ls hl => ?_)
          refine lv_goto (tgt := 217) hx hb dX12_mayRun_268 (by decide) ?_
          exact ih (i + 1) _ ls (by omega) (by omega) (by decide) (lv_sub hl [0, 2, 1, 3, 4, 5, 6, 7, 8, 9] rfl)
        ·
          refine lv_iconst (v := 1) hx hb dX12_mayRun_258 (by decide) ?_
          refine lv_goto (tgt := 263) hx hb dX12_mayRun_259 (by decide) ?_
          refine lv_istore (lv' := [(7, .int 1), (9, .int (nI (a9 + i))), (8, .int (nI a9)), (6, .int x6), (0, .ref h0), (1, .int p0), (2, .int (nI P)), (3, .int (nI X)), (4, .int (nI Y)), (5, .int (nI N))]) hx hb dX12_mayRun_263 hl (by decide) rfl (fun ls hl => ?_)
          refine lv_iinc (v := (nI (a9 + i + 1))) (lv' := [(9, .int (nI (a9 + i + 1))), (7, .int 1), (8, .int (nI a9)), (6, .int x6), (0, .ref h0), (1, .int p0), (2, .int (nI P)), (3, .int (nI X)), (4, .int (nI Y)), (5, .int (nI N))]) hx hb dX12_mayRun_265 hl (k := 1) rfl (nI_1 _) (by decide) rfl (fun ls hl => ?_)
          refine lv_goto (tgt := 217) hx hb dX12_mayRun_268 (by decide) ?_
          exact ih (i + 1) _ ls (by omega) (by omega) (by decide) (lv_sub hl [0, 2, 1, 3, 4, 5, 6, 7, 8, 9] rfl)
set_option maxHeartbeats 4000000 in
set_option maxRecDepth 100000 in
theorem m_mayRun (l : Launch) (dC : Nat → ClassId) (dI : Nat → Nat → Nat) (h0 : Nat) (v : Nat → Nat) (cI cZ : ClassId) (u : mS) (p0 : Int32) (P X Y N : Nat) (hPP : P < 12) (hXW : X + 1 ≤ 8) (hYN : Y + N ≤ 60) (hi : bw p0 0 79 = true) (hc : bw (u.2 22 p0.toNatClampNeg) 0 6 = true) (hcm : bw (u.2 15 p0.toNatClampNeg) 0 80 = true) (hpr : ¬ u.2 22 p0.toNatClampNeg = 0 → vp_in (6 * p0 + u.2 22 p0.toNatClampNeg - 1) 480) (hfr : ¬ u.2 22 p0.toNatClampNeg = 6 → runG (mStand u p0 P X Y 1 N) p0 (u.2 22 p0.toNatClampNeg) → 0 ≤ (mFrom (mStand u p0 P X Y 1 N) p0 (u.2 22 p0.toNatClampNeg).toNatClampNeg).toInt ∧ (mFrom (mStand u p0 P X Y 1 N) p0 (u.2 22 p0.toNatClampNeg).toNatClampNeg).toInt ≤ 400 ∧ (mTakes (mStand u p0 P X Y 1 N) p0 (u.2 22 p0.toNatClampNeg)).toInt ≤ 60) (sz : Nat) : Met l yX12_mayRun wsX12_mayRun ({ frames := 3, cells := 0, slots := 0, locals := 77 }) (va_Pc [.ref h0, .int p0, .int (nI P), .int (nI X), .int (nI Y), .int (nI N)] (fun U => U.heap.size = sz ∧ PW dC dI (mW h0 v cI cZ u) [(cI, .int), (cZ, .boolean)] U ∧ va_D (fun _ => True) (mW h0 v cI cZ u))) (va_Qi (fun (r : Int32) (u9 : mS) => (r = 0 ∧ u9 = u) ∨ ((r = 0 ∨ r = 1) ∧ ¬ u.2 22 p0.toNatClampNeg = 6 ∧ u9 = mUnstand (mStand u p0 P X Y 1 N) p0 P X Y 1 N ∧ (r = 1 → runG (mStand u p0 P X Y 1 N) p0 (u.2 22 p0.toNatClampNeg)))) (fun u9 t => va_P (dC, dI) vwCl (mW h0 v cI cZ u9) t.heap ∧ va_D (va_A (mW h0 v cI cZ u) sz) (mW h0 v cI cZ u9)) (va_A (mW h0 v cI cZ u) sz)) 0 0 (va_A (mW h0 v cI cZ u) sz) := by
  refine Met.ofW (cc := cX12_mayRun) (maxL := 10) (ret := (some .boolean)) (by decide) rfl ?_
  intro p e s m args below meth c s₁ B hml hv
  obtain ⟨rfl, hsz, ⟨hP, hK, hN⟩, hD0⟩ := hv
  have hx := B.exec
  have hb := B.bytes
  have hr := B.returns
  have hts := atoms_spec (ws := wsX12_mayRun) B.pre
  have hown : s.vm.findClass RX12 = some m.cls := findClass_of_methodNamed B.named
  have hlocks := B.notSynchronized
  subst hsz
  have hD := hD0.self (sz := s.heap.size)
  generalize hAe : va_A (mW h0 v cI cZ u) s.heap.size = A at hD ⊢
  have hA : ∀ q : Nat, s.heap.size ≤ q → A q := fun q h => by rw [← hAe]; exact Or.inr h
  have hS : va_S A s.heap s.heap [] := va_S.rf
  have hl := lv_entry ([.ref h0, .int p0, .int (nI P), .int (nI X), .int (nI Y), .int (nI N)]) (n := 10) (Nat.le_of_ble_eq_true rfl)
  rw [lg_entry_eq]
  generalize (lg_sl ([.ref h0, .int p0, .int (nI P), .int (nI X), .int (nI Y), .int (nI N)]) ++ List.replicate (10 - (lg_sl ([.ref h0, .int p0, .int (nI P), .int (nI X), .int (nI Y), .int (nI N)])).length) Slot.unset).toArray = ls at hl ⊢
  have hl : lv_has ls 10 [(0, .ref h0), (1, .int p0), (2, .int (nI P)), (3, .int (nI X)), (4, .int (nI Y)), (5, .int (nI N))] := hl
  refine lv_aload_n hx hb dX12_mayRun_0 rfl (lv_at hl 0 rfl) ?_
  refine va_get (D := (dC, dI)) (ci := 11) (v := .ref (v 22)) (C := RX12) (T := TX12) (N := 52) hx hb hts (by decide +kernel) hown hK hP 0 rfl rfl 22 (by decide) (hts (.fieldLink RX12 74 "PageOneModel" "pieces" "[I") (by decide +kernel)) (fun _ h9 => h9) rfl dX12_mayRun_1 ?_
  refine lv_iload_n hx hb dX12_mayRun_4 rfl (lv_at hl 1 rfl) ?_
  refine va_iald hx hb hK hP 22 0 rfl rfl (vin hi (by decide)) dX12_mayRun_5 ?_
  refine lv_bipush (v := 6) hx hb dX12_mayRun_6 (by decide) ?_
  refine lv_icmp_ne (tgt := 13) hx hb dX12_mayRun_8 (by decide) (fun c_1 => ?_) (fun c_1 => ?_)
  ·
    have h6 := c_1
    refine w_cut (X := fun R cells slots Q args => ∀ (ls : Array Slot), lv_has ls 10 [(0, .ref h0), (1, .int p0), (2, .int (nI P)), (3, .int (nI X)), (4, .int (nI Y)), (5, .int (nI N))] → W p l e R s m args below meth c s.heap [] cells slots Q (F0 m 115 ls [])) ?_ (fun kJ115 => ?_)
    ·
      intro ls hl
      refine lv_aload_n hx hb dX12_mayRun_115 rfl (lv_at hl 0 rfl) ?_
      refine lv_iload_n hx hb dX12_mayRun_116 rfl (lv_at hl 1 rfl) ?_
      refine lv_iload_n hx hb dX12_mayRun_117 rfl (lv_at hl 2 rfl) ?_
      refine lv_iload_n hx hb dX12_mayRun_118 rfl (lv_at hl 3 rfl) ?_
      refine lv_iload hx hb dX12_mayRun_119 (lv_at hl 4 rfl) ?_
      refine lv_iconst (v := 1) hx hb dX12_mayRun_121 (by decide) ?_
      refine lv_iload hx hb dX12_mayRun_122 (lv_at hl 5 rfl) ?_
      have hFc := fr_all hD hS hA
      refine va_callv (va_runV (As := [.int p0, .int (nI P), .int (nI X), .int (nI Y), .int 1, .int (nI N)]) (rest := []) ⟨hx, hb, hml, hown, hts⟩ (m_stand l dC dI h0 v cI cZ u p0 P X Y 1 N hPP hXW hYN hi (q05 hc h6) s.heap.size) (cwV 6 hts gX12_mayRun_X12_stand rfl rfl rfl (by decide +kernel) ⟨Nat.le_of_ble_eq_true rfl, Nat.le_of_ble_eq_true rfl⟩) ⟨gw_fb, va_recv hK hP (ci := 11) (q0 := 0) rfl rfl, fun U hU hW => ⟨rfl, by rw [hU], pw_to hU hW hP hK hN, hD.weaken (fun _ _ _ _ => trivial)⟩⟩ rfl rfl hl.1 rfl (lv_room (Nat.le_of_ble_eq_true rfl)) dX12_mayRun_124 ⟨Nat.le_of_ble_eq_true rfl, Nat.le_of_ble_eq_true rfl⟩) hS (fun q _ h => hFc q h) hFc (fun u_2 t H1 locs ht hvm hw hB hz1 hk1 hS => ?_)
      obtain ⟨hP, hD1⟩ := hB
      rw [ht] at hP
      have hD := hD1.weaken (fun _ q _ h => hFc q.1 h)
      generalize H1 = H at hP hS ⊢
      have eu_2 := hw
      refine lv_aload_n hx hb dX12_mayRun_127 rfl (lv_at hl 0 rfl) ?_
      refine va_get (D := (dC, dI)) (ci := 11) (v := .ref (v 22)) (C := RX12) (T := TX12) (N := 52) hx hb hts (by decide +kernel) hown hK hP 0 rfl rfl 22 (by decide) (hts (.fieldLink RX12 74 "PageOneModel" "pieces" "[I") (by decide +kernel)) (fun _ h9 => h9) rfl dX12_mayRun_128 ?_
      refine lv_iload_n hx hb dX12_mayRun_131 rfl (lv_at hl 1 rfl) ?_
      refine va_iald hx hb hK hP 22 0 rfl rfl (vin hi (by decide)) dX12_mayRun_132 ?_
      refine lv_iconst (v := 1) hx hb dX12_mayRun_133 (by decide) ?_
      refine lv_isub hx hb dX12_mayRun_134 ?_
      refine lv_topi (fun x_3 ex_3 => ?_)
      refine lv_istore (lv' := [(6, .int x_3), (0, .ref h0), (1, .int p0), (2, .int (nI P)), (3, .int (nI X)), (4, .int (nI Y)), (5, .int (nI N))]) hx hb dX12_mayRun_135 hl (by decide) rfl (fun ls hl => ?_)
      have hex : x_3 = u.2 22 p0.toNatClampNeg := by rw [ex_3, eu_2, mStand_22, addsub1]
      have hl5 : bw x_3 0 5 = true := by rw [hex]; exact q05 hc h6
      have hc6 : bw (u_2.2 22 p0.toNatClampNeg) 0 6 = true := by rw [eu_2, mStand_22]; exact q16 (q05 hc h6)
      have hfr2 : runG u_2 p0 x_3 → 0 ≤ (mFrom u_2 p0 x_3.toNatClampNeg).toInt ∧ (mFrom u_2 p0 x_3.toNatClampNeg).toInt ≤ 400 ∧ (mTakes u_2 p0 x_3).toInt ≤ 60 := by rw [hex, eu_2]; exact hfr h6
      refine w_cut (X := fun R cells slots Q args => ∀ (g9 : Int32) (ls : Array Slot), (g9 = 0 ∨ g9 = 1) → (g9 = 1 → runG u_2 p0 x_3) → lv_has ls 10 [(7, .int g9), (0, .ref h0), (1, .int p0), (2, .int (nI P)), (3, .int (nI X)), (4, .int (nI Y)), (5, .int (nI N))] → W p l e R s m args below meth c H locs cells slots Q (F0 m 271 ls [])) ?_ (fun kJ271 => ?_)
      ·
        intro g9 ls hg9 hG9 hl
        refine lv_aload_n hx hb dX12_mayRun_271 rfl (lv_at hl 1 rfl) ?_
        refine lv_iload_n hx hb dX12_mayRun_272 rfl (lv_at hl 2 rfl) ?_
        obtain ⟨e23_9, e24_9, e25_9, e26_9, e27_9⟩ := mStand_sl u p0 P X Y 1 N
        rw [← eu_2] at e23_9 e24_9 e25_9 e26_9 e27_9
        have hq9 : bw (u_2.2 22 p0.toNatClampNeg - 1) 0 5 = true := by rw [eu_2, mStand_22, addsub1]; exact q05 hc h6
        have hFc := fr_all hD hS hA
        refine va_callv (va_runV (As := [.int p0]) (rest := []) ⟨hx, hb, hml, hown, hts⟩ (m_unstand l dC dI h0 v cI cZ u_2 p0 P X Y 1 N hPP hXW hYN hi hq9 e23_9 e24_9 e25_9 e26_9 e27_9 H.size) (cwV 1 hts gX12_mayRun_X12_unstand rfl rfl rfl (by decide +kernel) ⟨Nat.le_of_ble_eq_true rfl, Nat.le_of_ble_eq_true rfl⟩) ⟨gw_fb, va_recv hK hP (ci := 11) (q0 := 0) rfl rfl, fun U hU hW => ⟨rfl, by rw [hU], pw_to hU hW hP hK hN, hD.weaken (fun _ _ _ _ => trivial)⟩⟩ rfl rfl hl.1 rfl (lv_room (Nat.le_of_ble_eq_true rfl)) dX12_mayRun_273 ⟨Nat.le_of_ble_eq_true rfl, Nat.le_of_ble_eq_true rfl⟩) hS (fun q _ h => hFc q h) hFc (fun u_4 t H1 locs ht hvm hw hB hz1 hk1 hS => ?_)
        obtain ⟨hP, hD1⟩ := hB
        rw [ht] at hP
        have hD := hD1.weaken (fun _ q _ h => hFc q.1 h)
        generalize H1 = H at hP hS ⊢
        have eu_4 := hw
        refine lv_iload hx hb dX12_mayRun_276 (lv_at hl 0 rfl) ?_
        exact W.zret (v := g9) hx hb hr (by rcases hg9 with h | h <;> rw [h] <;> decide) (fun t ht hW => ⟨⟨g9, u_4, rfl, (Or.inr ⟨hg9, h6, (by rw [eu_4, eu_2]), (fun h => by have h7 := hG9 h; rw [hex, eu_2] at h7; exact h7)⟩), by rw [ht]; exact hP, hD⟩, hS.F ht⟩) hS.2.2 dX12_mayRun_278
      ·
        refine w_cut (X := fun R cells slots Q args => ∀ (a8 : Int32) (g8 : Int32) (ls : Array Slot), (g8 = 0 ∨ (g8 = 1 ∧ runG u_2 p0 x_3 ∧ a8 = mFrom u_2 p0 x_3.toNatClampNeg ∧ ¬ u_2.2 15 p0.toNatClampNeg < a8 + mTakes u_2 p0 x_3)) → lv_has ls 10 [(8, .int a8), (7, .int g8), (6, .int x_3), (0, .ref h0), (1, .int p0), (2, .int (nI P)), (3, .int (nI X)), (4, .int (nI Y)), (5, .int (nI N))] → W p l e R s m args below meth c H locs cells slots Q (F0 m 213 ls [])) ?_ (fun kJ213 => ?_)
        ·
          intro a8 g8 ls hg8 hl
          refine lv_iload hx hb dX12_mayRun_213 (lv_at hl 0 rfl) ?_
          refine lv_istore (lv' := [(9, .int a8), (8, .int a8), (7, .int g8), (6, .int x_3), (0, .ref h0), (1, .int p0), (2, .int (nI P)), (3, .int (nI X)), (4, .int (nI Y)), (5, .int (nI N))]) hx hb dX12_mayRun_215 hl (by decide) rfl (fun ls hl => ?_)
          rcases hg8 with h8 | ⟨h8, hG, ea8, hcl⟩
          ·
            subst h8
            refine lv_iload hx hb dX12_mayRun_217 (lv_at hl 0 rfl) ?_
            refine lv_iload hx hb dX12_mayRun_219 (lv_at hl 1 rfl) ?_
            refine lv_aload_n hx hb dX12_mayRun_221 rfl (lv_at hl 4 rfl) ?_
            refine lv_iload_n hx hb dX12_mayRun_222 rfl (lv_at hl 5 rfl) ?_
            refine lv_iload hx hb dX12_mayRun_223 (lv_at hl 3 rfl) ?_
            refine vp_callSi (va_runV (As := [.int p0, .int x_3]) (rest := [.int a8, .int a8]) ⟨hx, hb, hml, hown, hts⟩ (m_takes l dC dI h0 v cI cZ u_2 p0 x_3 hi hl5 hc6) (cwV 2 hts gX12_mayRun_X12_takes rfl rfl rfl (by decide +kernel) ⟨Nat.le_of_ble_eq_true rfl, Nat.le_of_ble_eq_true rfl⟩) ⟨pw_fb, va_recv hK hP (ci := 11) (q0 := 0) rfl rfl, fun U hU hW => ⟨rfl, pw_to hU hW hP hK hN⟩⟩ rfl rfl hl.1 rfl (lv_room (Nat.le_of_ble_eq_true rfl)) dX12_mayRun_225 ⟨Nat.le_of_ble_eq_true rfl, Nat.le_of_ble_eq_true rfl⟩).run (fun r hw => ?_)
            obtain rfl : r = (mTakes u_2 p0 x_3) := hw
            refine lv_iadd hx hb dX12_mayRun_228 ?_
            refine lv_icmp_ge (tgt := 271) hx hb dX12_mayRun_229 (by decide) (fun c_5 => ?_) (fun c_5 => ?_)
            ·
              exact kJ271 _ ls (by decide) (fun h => absurd h (by decide)) (lv_sub hl [2, 4, 5, 6, 7, 8, 9] rfl)
            ·
              refine lv_iload hx hb dX12_mayRun_232 (lv_at hl 2 rfl) ?_
              refine lv_if_eq (tgt := 271) hx hb dX12_mayRun_234 (by decide) (fun c_6 => ?_) (fun c_6 => absurd (by decide) c_6)
              exact kJ271 _ ls (by decide) (fun h => absurd h (by decide)) (lv_sub hl [2, 4, 5, 6, 7, 8, 9] rfl)
          ·
            subst h8
            obtain ⟨h1, h2, h3⟩ := hfr2 hG
            rw [← ea8] at h1 h2
            obtain ⟨T, hT1, hT2, eT⟩ := exN (x := mTakes u_2 p0 x_3) (lo := 1) (hi := 60) (by rw [bw_iff]; refine ⟨?_, h3⟩; have := hG.1; rw [i32_lt] at this; omega) (by decide)
            obtain ⟨a9, ha1, ha2, ea9⟩ := exN (x := a8) (lo := 0) (hi := 400) (by rw [bw_iff]; exact ⟨h1, h2⟩) (by decide)
            have h400 : (400 : Int32).toInt = 400 := rfl
            have h60 : (60 : Int32).toInt = 60 := rfl
            have ha8 : a9 + T ≤ 80 := by have hz := bw_iff.mp hcm; have h80 : (80 : Int32).toInt = 80 := rfl; rw [h80] at hz; rw [show u_2.2 15 p0.toNatClampNeg = u.2 15 p0.toNatClampNeg from by rw [eu_2]; rfl, eT, ea9, nI_add, i32_lt, nI_toInt (by omega)] at hcl; omega
            subst ea9
            exact m_mr_loop (u := u_2) (T := T) (a9 := a9) hx hb hml hts hown hN hK (Nat.le_of_ble_eq_true rfl) (Nat.le_of_ble_eq_true rfl) (Nat.le_of_ble_eq_true rfl) (Nat.le_of_ble_eq_true rfl) hP hi hPP hl5 hc6 eT ha8 (fun g9 ls hq hl => kJ271 g9 ls hq (fun _ => hG) hl) (T + 1) 0 1 ls (Nat.zero_le _) (by omega) (Or.inr rfl) (lv_sub hl [0, 1, 2, 3, 4, 5, 6, 7, 8, 9] rfl)
        ·
          refine w_cut (X := fun R cells slots Q args => ∀ (g7 : Int32) (ls : Array Slot), (g7 = 0 ∨ (g7 = 1 ∧ runG u_2 p0 x_3)) → lv_has ls 10 [(7, .int g7), (6, .int x_3), (0, .ref h0), (1, .int p0), (2, .int (nI P)), (3, .int (nI X)), (4, .int (nI Y)), (5, .int (nI N))] → W p l e R s m args below meth c H locs cells slots Q (F0 m 173 ls [])) ?_ (fun kJ173 => ?_)
          ·
            intro g7 ls hg7 hl
            refine lv_aload_n hx hb dX12_mayRun_173 rfl (lv_at hl 2 rfl) ?_
            refine lv_iload_n hx hb dX12_mayRun_174 rfl (lv_at hl 3 rfl) ?_
            refine lv_iload hx hb dX12_mayRun_175 (lv_at hl 1 rfl) ?_
            refine vp_callSi (va_runV (As := [.int p0, .int x_3]) (rest := []) ⟨hx, hb, hml, hown, hts⟩ (m_from2 l dC dI h0 v cI cZ u_2 p0 x_3 hi (k56 hl5) hc6) (cwV 2 hts gX12_mayRun_X12_from rfl rfl rfl (by decide +kernel) ⟨Nat.le_of_ble_eq_true rfl, Nat.le_of_ble_eq_true rfl⟩) ⟨pw_fb, va_recv hK hP (ci := 11) (q0 := 0) rfl rfl, fun U hU hW => ⟨rfl, pw_to hU hW hP hK hN⟩⟩ rfl rfl hl.1 rfl (lv_room (Nat.le_of_ble_eq_true rfl)) dX12_mayRun_177 ⟨Nat.le_of_ble_eq_true rfl, Nat.le_of_ble_eq_true rfl⟩).run (fun r hw => ?_)
            obtain rfl : r = (mFrom u_2 p0 (x_3 : Int32).toNatClampNeg) := hw
            refine lv_topi (fun x_7 ex_7 => ?_)
            refine lv_istore (lv' := [(8, .int x_7), (7, .int g7), (6, .int x_3), (0, .ref h0), (1, .int p0), (2, .int (nI P)), (3, .int (nI X)), (4, .int (nI Y)), (5, .int (nI N))]) hx hb dX12_mayRun_180 hl (by decide) rfl (fun ls hl => ?_)
            refine lv_iload hx hb dX12_mayRun_182 (lv_at hl 1 rfl) ?_
            refine lv_if_eq (tgt := 210) hx hb dX12_mayRun_184 (by decide) (fun c_8 => ?_) (fun c_8 => ?_)
            ·
              refine lv_iconst (v := 0) hx hb dX12_mayRun_210 (by decide) ?_
              refine lv_istore (lv' := [(7, .int 0), (8, .int x_7), (6, .int x_3), (0, .ref h0), (1, .int p0), (2, .int (nI P)), (3, .int (nI X)), (4, .int (nI Y)), (5, .int (nI N))]) hx hb dX12_mayRun_211 hl (by decide) rfl (fun ls hl => ?_)
              exact kJ213 _ _ ls (Or.inl rfl) (lv_sub hl [1, 0, 2, 3, 4, 5, 6, 7, 8] rfl)
            ·
              refine lv_iload hx hb dX12_mayRun_187 (lv_at hl 0 rfl) ?_
              refine lv_aload_n hx hb dX12_mayRun_189 rfl (lv_at hl 3 rfl) ?_
              refine lv_iload_n hx hb dX12_mayRun_190 rfl (lv_at hl 4 rfl) ?_
              refine lv_iload hx hb dX12_mayRun_191 (lv_at hl 2 rfl) ?_
              refine vp_callSi (va_runV (As := [.int p0, .int x_3]) (rest := [.int x_7]) ⟨hx, hb, hml, hown, hts⟩ (m_takes l dC dI h0 v cI cZ u_2 p0 x_3 hi hl5 hc6) (cwV 2 hts gX12_mayRun_X12_takes rfl rfl rfl (by decide +kernel) ⟨Nat.le_of_ble_eq_true rfl, Nat.le_of_ble_eq_true rfl⟩) ⟨pw_fb, va_recv hK hP (ci := 11) (q0 := 0) rfl rfl, fun U hU hW => ⟨rfl, pw_to hU hW hP hK hN⟩⟩ rfl rfl hl.1 rfl (lv_room (Nat.le_of_ble_eq_true rfl)) dX12_mayRun_193 ⟨Nat.le_of_ble_eq_true rfl, Nat.le_of_ble_eq_true rfl⟩).run (fun r hw => ?_)
              obtain rfl : r = (mTakes u_2 p0 x_3) := hw
              refine lv_iadd hx hb dX12_mayRun_196 ?_
              refine lv_aload_n hx hb dX12_mayRun_197 rfl (lv_at hl 3 rfl) ?_
              refine va_get (D := (dC, dI)) (ci := 11) (v := .ref (v 15)) (C := RX12) (T := TX12) (N := 52) hx hb hts (by decide +kernel) hown hK hP 0 rfl rfl 15 (by decide) (hts (.fieldLink RX12 52 "PageOneModel" "come" "[I") (by decide +kernel)) (fun _ h9 => h9) rfl dX12_mayRun_198 ?_
              refine lv_iload_n hx hb dX12_mayRun_201 rfl (lv_at hl 4 rfl) ?_
              refine va_iald hx hb hK hP 15 0 rfl rfl (vin hi (by decide)) dX12_mayRun_202 ?_
              refine lv_icmp_gt (tgt := 210) hx hb dX12_mayRun_203 (by decide) (fun c_9 => ?_) (fun c_9 => ?_)
              ·
                refine lv_iconst (v := 0) hx hb dX12_mayRun_210 (by decide) ?_
                refine lv_istore (lv' := [(7, .int 0), (8, .int x_7), (6, .int x_3), (0, .ref h0), (1, .int p0), (2, .int (nI P)), (3, .int (nI X)), (4, .int (nI Y)), (5, .int (nI N))]) hx hb dX12_mayRun_211 hl (by decide) rfl (fun ls hl => ?_)
                exact kJ213 _ _ ls (Or.inl rfl) (lv_sub hl [1, 0, 2, 3, 4, 5, 6, 7, 8] rfl)
              ·
                refine lv_iconst (v := 1) hx hb dX12_mayRun_206 (by decide) ?_
                refine lv_goto (tgt := 211) hx hb dX12_mayRun_207 (by decide) ?_
                refine lv_istore (lv' := [(7, .int 1), (8, .int x_7), (6, .int x_3), (0, .ref h0), (1, .int p0), (2, .int (nI P)), (3, .int (nI X)), (4, .int (nI Y)), (5, .int (nI N))]) hx hb dX12_mayRun_211 hl (by decide) rfl (fun ls hl => ?_)
                exact kJ213 _ _ ls (Or.inr ⟨rfl, (hg7.resolve_left c_8).2, ex_7, c_9⟩) (lv_sub hl [1, 0, 2, 3, 4, 5, 6, 7, 8] rfl)
          ·
            refine lv_aload_n hx hb dX12_mayRun_137 rfl (lv_at hl 1 rfl) ?_
            refine lv_iload_n hx hb dX12_mayRun_138 rfl (lv_at hl 2 rfl) ?_
            refine lv_iload hx hb dX12_mayRun_139 (lv_at hl 0 rfl) ?_
            refine vp_callSi (va_runV (As := [.int p0, .int x_3]) (rest := []) ⟨hx, hb, hml, hown, hts⟩ (m_takes l dC dI h0 v cI cZ u_2 p0 x_3 hi hl5 hc6) (cwV 2 hts gX12_mayRun_X12_takes rfl rfl rfl (by decide +kernel) ⟨Nat.le_of_ble_eq_true rfl, Nat.le_of_ble_eq_true rfl⟩) ⟨pw_fb, va_recv hK hP (ci := 11) (q0 := 0) rfl rfl, fun U hU hW => ⟨rfl, pw_to hU hW hP hK hN⟩⟩ rfl rfl hl.1 rfl (lv_room (Nat.le_of_ble_eq_true rfl)) dX12_mayRun_141 ⟨Nat.le_of_ble_eq_true rfl, Nat.le_of_ble_eq_true rfl⟩).run (fun r hw => ?_)
            obtain rfl : r = (mTakes u_2 p0 x_3) := hw
            refine lv_iconst (v := 1) hx hb dX12_mayRun_144 (by decide) ?_
            refine lv_icmp_lt (tgt := 170) hx hb dX12_mayRun_145 (by decide) (fun c_10 => ?_) (fun c_10 => ?_)
            ·
              refine lv_iconst (v := 0) hx hb dX12_mayRun_170 (by decide) ?_
              refine lv_istore (lv' := [(7, .int 0), (6, .int x_3), (0, .ref h0), (1, .int p0), (2, .int (nI P)), (3, .int (nI X)), (4, .int (nI Y)), (5, .int (nI N))]) hx hb dX12_mayRun_171 hl (by decide) rfl (fun ls hl => ?_)
              exact kJ173 _ ls (Or.inl rfl) (lv_sub hl [0, 1, 2, 3, 4, 5, 6, 7] rfl)
            ·
              refine lv_iload hx hb dX12_mayRun_148 (lv_at hl 0 rfl) ?_
              refine lv_if_eq (tgt := 166) hx hb dX12_mayRun_150 (by decide) (fun c_11 => ?_) (fun c_11 => ?_)
              ·
                refine lv_iconst (v := 1) hx hb dX12_mayRun_166 (by decide) ?_
                refine lv_goto (tgt := 171) hx hb dX12_mayRun_167 (by decide) ?_
                refine lv_istore (lv' := [(7, .int 1), (6, .int x_3), (0, .ref h0), (1, .int p0), (2, .int (nI P)), (3, .int (nI X)), (4, .int (nI Y)), (5, .int (nI N))]) hx hb dX12_mayRun_171 hl (by decide) rfl (fun ls hl => ?_)
                exact kJ173 _ ls (Or.inr ⟨rfl, c_10, Or.inl c_11⟩) (lv_sub hl [0, 1, 2, 3, 4, 5, 6, 7] rfl)
              ·
                refine lv_aload_n hx hb dX12_mayRun_153 rfl (lv_at hl 1 rfl) ?_
                refine lv_iload_n hx hb dX12_mayRun_154 rfl (lv_at hl 2 rfl) ?_
                refine lv_iload hx hb dX12_mayRun_155 (lv_at hl 0 rfl) ?_
                refine lv_iconst (v := 1) hx hb dX12_mayRun_157 (by decide) ?_
                refine lv_isub hx hb dX12_mayRun_158 ?_
                refine vp_callSi (va_runV (As := [.int p0, .int (x_3 - 1)]) (rest := []) ⟨hx, hb, hml, hown, hts⟩ (m_takes l dC dI h0 v cI cZ u_2 p0 (x_3 - 1) hi (qm1 hl5 c_11) hc6) (cwV 2 hts gX12_mayRun_X12_takes rfl rfl rfl (by decide +kernel) ⟨Nat.le_of_ble_eq_true rfl, Nat.le_of_ble_eq_true rfl⟩) ⟨pw_fb, va_recv hK hP (ci := 11) (q0 := 0) rfl rfl, fun U hU hW => ⟨rfl, pw_to hU hW hP hK hN⟩⟩ rfl rfl hl.1 rfl (lv_room (Nat.le_of_ble_eq_true rfl)) dX12_mayRun_159 ⟨Nat.le_of_ble_eq_true rfl, Nat.le_of_ble_eq_true rfl⟩).run (fun r hw => ?_)
                obtain rfl : r = (mTakes u_2 p0 (x_3 - 1)) := hw
                refine lv_iconst (v := 1) hx hb dX12_mayRun_162 (by decide) ?_
                refine lv_icmp_lt (tgt := 170) hx hb dX12_mayRun_163 (by decide) (fun c_12 => ?_) (fun c_12 => ?_)
                ·
                  refine lv_iconst (v := 0) hx hb dX12_mayRun_170 (by decide) ?_
                  refine lv_istore (lv' := [(7, .int 0), (6, .int x_3), (0, .ref h0), (1, .int p0), (2, .int (nI P)), (3, .int (nI X)), (4, .int (nI Y)), (5, .int (nI N))]) hx hb dX12_mayRun_171 hl (by decide) rfl (fun ls hl => ?_)
                  exact kJ173 _ ls (Or.inl rfl) (lv_sub hl [0, 1, 2, 3, 4, 5, 6, 7] rfl)
                ·
                  refine lv_iconst (v := 1) hx hb dX12_mayRun_166 (by decide) ?_
                  refine lv_goto (tgt := 171) hx hb dX12_mayRun_167 (by decide) ?_
                  refine lv_istore (lv' := [(7, .int 1), (6, .int x_3), (0, .ref h0), (1, .int p0), (2, .int (nI P)), (3, .int (nI X)), (4, .int (nI Y)), (5, .int (nI N))]) hx hb dX12_mayRun_171 hl (by decide) rfl (fun ls hl => ?_)
                  exact kJ173 _ ls (Or.inr ⟨rfl, c_10, Or.inr c_12⟩) (lv_sub hl [0, 1, 2, 3, 4, 5, 6, 7] rfl)
    ·
      refine w_cut (X := fun R cells slots Q args => ∀ (g0 : Int32) (ls : Array Slot), lv_has ls 10 [(7, .int g0), (0, .ref h0), (1, .int p0), (2, .int (nI P)), (3, .int (nI X)), (4, .int (nI Y)), (5, .int (nI N))] → W p l e R s m args below meth c s.heap [] cells slots Q (F0 m 108 ls [])) ?_ (fun kJ108 => ?_)
      ·
        intro g0 ls hl
        refine lv_iload hx hb dX12_mayRun_108 (lv_at hl 0 rfl) ?_
        refine lv_if_ne (tgt := 115) hx hb dX12_mayRun_110 (by decide) (fun c_13 => ?_) (fun c_13 => ?_)
        ·
          exact kJ115 ls (lv_sub hl [1, 2, 3, 4, 5, 6] rfl)
        ·
          refine lv_iconst (v := 0) hx hb dX12_mayRun_113 (by decide) ?_
          exact W.zret (v := 0) hx hb hr (by decide) (fun t ht hW => ⟨⟨0, u, rfl, (Or.inl ⟨rfl, rfl⟩), by rw [ht]; exact hP, hD⟩, hS.F ht⟩) hS.2.2 dX12_mayRun_114
      ·
        refine lv_aload_n hx hb dX12_mayRun_13 rfl (lv_at hl 0 rfl) ?_
        refine va_get (D := (dC, dI)) (ci := 11) (v := .ref (v 22)) (C := RX12) (T := TX12) (N := 52) hx hb hts (by decide +kernel) hown hK hP 0 rfl rfl 22 (by decide) (hts (.fieldLink RX12 74 "PageOneModel" "pieces" "[I") (by decide +kernel)) (fun _ h9 => h9) rfl dX12_mayRun_14 ?_
        refine lv_iload_n hx hb dX12_mayRun_17 rfl (lv_at hl 1 rfl) ?_
        refine va_iald hx hb hK hP 22 0 rfl rfl (vin hi (by decide)) dX12_mayRun_18 ?_
        refine lv_if_le (tgt := 115) hx hb dX12_mayRun_19 (by decide) (fun c_14 => ?_) (fun c_14 => ?_)
        ·
          exact kJ115 ls (lv_sub hl [0, 1, 2, 3, 4, 5] rfl)
        ·
          refine lv_bipush (v := 6) hx hb dX12_mayRun_22 (by decide) ?_
          refine lv_iload_n hx hb dX12_mayRun_24 rfl (lv_at hl 1 rfl) ?_
          refine lv_imul hx hb dX12_mayRun_25 ?_
          refine lv_aload_n hx hb dX12_mayRun_26 rfl (lv_at hl 0 rfl) ?_
          refine va_get (D := (dC, dI)) (ci := 11) (v := .ref (v 22)) (C := RX12) (T := TX12) (N := 52) hx hb hts (by decide +kernel) hown hK hP 0 rfl rfl 22 (by decide) (hts (.fieldLink RX12 74 "PageOneModel" "pieces" "[I") (by decide +kernel)) (fun _ h9 => h9) rfl dX12_mayRun_27 ?_
          refine lv_iload_n hx hb dX12_mayRun_30 rfl (lv_at hl 1 rfl) ?_
          refine va_iald hx hb hK hP 22 0 rfl rfl (vin hi (by decide)) dX12_mayRun_31 ?_
          refine lv_iadd hx hb dX12_mayRun_32 ?_
          refine lv_iconst (v := 1) hx hb dX12_mayRun_33 (by decide) ?_
          refine lv_isub hx hb dX12_mayRun_34 ?_
          refine lv_topi (fun x_15 ex_15 => ?_)
          refine lv_istore (lv' := [(6, .int x_15), (0, .ref h0), (1, .int p0), (2, .int (nI P)), (3, .int (nI X)), (4, .int (nI Y)), (5, .int (nI N))]) hx hb dX12_mayRun_35 hl (by decide) rfl (fun ls hl => ?_)
          refine lv_iload_n hx hb dX12_mayRun_37 rfl (lv_at hl 3 rfl) ?_
          refine lv_aload_n hx hb dX12_mayRun_38 rfl (lv_at hl 1 rfl) ?_
          refine va_get (D := (dC, dI)) (ci := 11) (v := .ref (v 23)) (C := RX12) (T := TX12) (N := 52) hx hb hts (by decide +kernel) hown hK hP 0 rfl rfl 23 (by decide) (hts (.fieldLink RX12 77 "PageOneModel" "pPage" "[I") (by decide +kernel)) (fun _ h9 => h9) rfl dX12_mayRun_39 ?_
          refine lv_iload hx hb dX12_mayRun_42 (lv_at hl 0 rfl) ?_
          refine va_iald hx hb hK hP 23 0 rfl rfl (by rw [ex_15]; exact hpr (fun h => absurd (by rw [h]; decide) c_14)) dX12_mayRun_44 ?_
          refine lv_icmp_gt (tgt := 101) hx hb dX12_mayRun_45 (by decide) (fun c_16 => ?_) (fun c_16 => ?_)
          ·
            refine lv_iconst (v := 1) hx hb dX12_mayRun_101 (by decide) ?_
            refine lv_goto (tgt := 106) hx hb dX12_mayRun_102 (by decide) ?_
            refine lv_istore (lv' := [(7, .int 1), (6, .int x_15), (0, .ref h0), (1, .int p0), (2, .int (nI P)), (3, .int (nI X)), (4, .int (nI Y)), (5, .int (nI N))]) hx hb dX12_mayRun_106 hl (by decide) rfl (fun ls hl => ?_)
            exact kJ108 _ ls (lv_sub hl [0, 2, 3, 4, 5, 6, 7] rfl)
          ·
            refine lv_iload_n hx hb dX12_mayRun_48 rfl (lv_at hl 3 rfl) ?_
            refine lv_aload_n hx hb dX12_mayRun_49 rfl (lv_at hl 1 rfl) ?_
            refine va_get (D := (dC, dI)) (ci := 11) (v := .ref (v 23)) (C := RX12) (T := TX12) (N := 52) hx hb hts (by decide +kernel) hown hK hP 0 rfl rfl 23 (by decide) (hts (.fieldLink RX12 77 "PageOneModel" "pPage" "[I") (by decide +kernel)) (fun _ h9 => h9) rfl dX12_mayRun_50 ?_
            refine lv_iload hx hb dX12_mayRun_53 (lv_at hl 0 rfl) ?_
            refine va_iald hx hb hK hP 23 0 rfl rfl (by rw [ex_15]; exact hpr (fun h => absurd (by rw [h]; decide) c_14)) dX12_mayRun_55 ?_
            refine lv_icmp_ne (tgt := 105) hx hb dX12_mayRun_56 (by decide) (fun c_17 => ?_) (fun c_17 => ?_)
            ·
              refine lv_iconst (v := 0) hx hb dX12_mayRun_105 (by decide) ?_
              refine lv_istore (lv' := [(7, .int 0), (6, .int x_15), (0, .ref h0), (1, .int p0), (2, .int (nI P)), (3, .int (nI X)), (4, .int (nI Y)), (5, .int (nI N))]) hx hb dX12_mayRun_106 hl (by decide) rfl (fun ls hl => ?_)
              exact kJ108 _ ls (lv_sub hl [0, 2, 3, 4, 5, 6, 7] rfl)
            ·
              refine lv_iload_n hx hb dX12_mayRun_59 rfl (lv_at hl 4 rfl) ?_
              refine lv_aload_n hx hb dX12_mayRun_60 rfl (lv_at hl 1 rfl) ?_
              refine va_get (D := (dC, dI)) (ci := 11) (v := .ref (v 24)) (C := RX12) (T := TX12) (N := 52) hx hb hts (by decide +kernel) hown hK hP 0 rfl rfl 24 (by decide) (hts (.fieldLink RX12 80 "PageOneModel" "pColumn" "[I") (by decide +kernel)) (fun _ h9 => h9) rfl dX12_mayRun_61 ?_
              refine lv_iload hx hb dX12_mayRun_64 (lv_at hl 0 rfl) ?_
              refine va_iald hx hb hK hP 24 0 rfl rfl (by rw [ex_15]; exact hpr (fun h => absurd (by rw [h]; decide) c_14)) dX12_mayRun_66 ?_
              refine lv_icmp_gt (tgt := 101) hx hb dX12_mayRun_67 (by decide) (fun c_18 => ?_) (fun c_18 => ?_)
              ·
                refine lv_iconst (v := 1) hx hb dX12_mayRun_101 (by decide) ?_
                refine lv_goto (tgt := 106) hx hb dX12_mayRun_102 (by decide) ?_
                refine lv_istore (lv' := [(7, .int 1), (6, .int x_15), (0, .ref h0), (1, .int p0), (2, .int (nI P)), (3, .int (nI X)), (4, .int (nI Y)), (5, .int (nI N))]) hx hb dX12_mayRun_106 hl (by decide) rfl (fun ls hl => ?_)
                exact kJ108 _ ls (lv_sub hl [0, 2, 3, 4, 5, 6, 7] rfl)
              ·
                refine lv_iload_n hx hb dX12_mayRun_70 rfl (lv_at hl 4 rfl) ?_
                refine lv_aload_n hx hb dX12_mayRun_71 rfl (lv_at hl 1 rfl) ?_
                refine va_get (D := (dC, dI)) (ci := 11) (v := .ref (v 24)) (C := RX12) (T := TX12) (N := 52) hx hb hts (by decide +kernel) hown hK hP 0 rfl rfl 24 (by decide) (hts (.fieldLink RX12 80 "PageOneModel" "pColumn" "[I") (by decide +kernel)) (fun _ h9 => h9) rfl dX12_mayRun_72 ?_
                refine lv_iload hx hb dX12_mayRun_75 (lv_at hl 0 rfl) ?_
                refine va_iald hx hb hK hP 24 0 rfl rfl (by rw [ex_15]; exact hpr (fun h => absurd (by rw [h]; decide) c_14)) dX12_mayRun_77 ?_
                refine lv_icmp_ne (tgt := 105) hx hb dX12_mayRun_78 (by decide) (fun c_19 => ?_) (fun c_19 => ?_)
                ·
                  refine lv_iconst (v := 0) hx hb dX12_mayRun_105 (by decide) ?_
                  refine lv_istore (lv' := [(7, .int 0), (6, .int x_15), (0, .ref h0), (1, .int p0), (2, .int (nI P)), (3, .int (nI X)), (4, .int (nI Y)), (5, .int (nI N))]) hx hb dX12_mayRun_106 hl (by decide) rfl (fun ls hl => ?_)
                  exact kJ108 _ ls (lv_sub hl [0, 2, 3, 4, 5, 6, 7] rfl)
                ·
                  refine lv_iload hx hb dX12_mayRun_81 (lv_at hl 5 rfl) ?_
                  refine lv_aload_n hx hb dX12_mayRun_83 rfl (lv_at hl 1 rfl) ?_
                  refine va_get (D := (dC, dI)) (ci := 11) (v := .ref (v 25)) (C := RX12) (T := TX12) (N := 52) hx hb hts (by decide +kernel) hown hK hP 0 rfl rfl 25 (by decide) (hts (.fieldLink RX12 83 "PageOneModel" "pLine" "[I") (by decide +kernel)) (fun _ h9 => h9) rfl dX12_mayRun_84 ?_
                  refine lv_iload hx hb dX12_mayRun_87 (lv_at hl 0 rfl) ?_
                  refine va_iald hx hb hK hP 25 0 rfl rfl (by rw [ex_15]; exact hpr (fun h => absurd (by rw [h]; decide) c_14)) dX12_mayRun_89 ?_
                  refine lv_aload_n hx hb dX12_mayRun_90 rfl (lv_at hl 1 rfl) ?_
                  refine va_get (D := (dC, dI)) (ci := 11) (v := .ref (v 27)) (C := RX12) (T := TX12) (N := 52) hx hb hts (by decide +kernel) hown hK hP 0 rfl rfl 27 (by decide) (hts (.fieldLink RX12 89 "PageOneModel" "pHigh" "[I") (by decide +kernel)) (fun _ h9 => h9) rfl dX12_mayRun_91 ?_
                  refine lv_iload hx hb dX12_mayRun_94 (lv_at hl 0 rfl) ?_
                  refine va_iald hx hb hK hP 27 0 rfl rfl (by rw [ex_15]; exact hpr (fun h => absurd (by rw [h]; decide) c_14)) dX12_mayRun_96 ?_
                  refine lv_iadd hx hb dX12_mayRun_97 ?_
                  refine lv_icmp_lt (tgt := 105) hx hb dX12_mayRun_98 (by decide) (fun c_20 => ?_) (fun c_20 => ?_)
                  ·
                    refine lv_iconst (v := 0) hx hb dX12_mayRun_105 (by decide) ?_
                    refine lv_istore (lv' := [(7, .int 0), (6, .int x_15), (0, .ref h0), (1, .int p0), (2, .int (nI P)), (3, .int (nI X)), (4, .int (nI Y)), (5, .int (nI N))]) hx hb dX12_mayRun_106 hl (by decide) rfl (fun ls hl => ?_)
                    exact kJ108 _ ls (lv_sub hl [0, 2, 3, 4, 5, 6, 7] rfl)
                  ·
                    refine lv_iconst (v := 1) hx hb dX12_mayRun_101 (by decide) ?_
                    refine lv_goto (tgt := 106) hx hb dX12_mayRun_102 (by decide) ?_
                    refine lv_istore (lv' := [(7, .int 1), (6, .int x_15), (0, .ref h0), (1, .int p0), (2, .int (nI P)), (3, .int (nI X)), (4, .int (nI Y)), (5, .int (nI N))]) hx hb dX12_mayRun_106 hl (by decide) rfl (fun ls hl => ?_)
                    exact kJ108 _ ls (lv_sub hl [0, 2, 3, 4, 5, 6, 7] rfl)
  ·
    refine lv_iconst (v := 0) hx hb dX12_mayRun_11 (by decide) ?_
    exact W.zret (v := 0) hx hb hr (by decide) (fun t ht hW => ⟨⟨0, u, rfl, (Or.inl ⟨rfl, rfl⟩), by rw [ht]; exact hP, hD⟩, hS.F ht⟩) hS.2.2 dX12_mayRun_12
