/-- the same but for the wrongs and the plates -/
def mPl (u w : mS) : Prop := (∀ k, k ≠ 49 → k ≠ 50 → k ≠ 51 → w.1 k = u.1 k) ∧ (∀ k, k < 40 ∨ 46 < k → w.2 k = u.2 k) ∧ ∀ j, j < 96 → bw (w.2 43 j) 0 60 = true
theorem mPl_E {u w : mS} (h : mE u w) (h43 : ∀ j, j < 96 → bw (u.2 43 j) 0 60 = true) : mPl u w := ⟨h.2, fun k _ => by rw [h.1], fun j hj => by rw [h.1]; exact h43 j hj⟩
theorem mPl_st {u w : mS} (h : mPl u w) {k : Nat} (hk : 40 ≤ k ∧ k ≤ 46 ∧ k ≠ 43) (i x : Int32) : mPl u (mst w k i x) := by
  refine ⟨h.1, fun j hj => ?_, fun j hj => ?_⟩
  · rw [mst_other (by omega)]; exact h.2.1 j hj
  · rw [mst_other (by omega)]; exact h.2.2 j hj
theorem mPl_43 {u w : mS} (h : mPl u w) (i : Int32) {x : Int32} (hx : bw x 0 60 = true) : mPl u (mst w 43 i x) := by
  refine ⟨h.1, fun j hj => ?_, fun j hj => ?_⟩
  · rw [mst_other (by omega)]; exact h.2.1 j hj
  · unfold mst mput upd
    dsimp only
    rw [if_pos rfl]
    split
    · exact hx
    · exact h.2.2 j hj
set_option maxHeartbeats 4000000 in
set_option maxRecDepth 100000 in
theorem m_pl_in {p : Program} {l : Launch} {e : Env} {R : Room} {s : State} {m : MethodId} {args : Array Value} {below : List Frame} {meth : Method} {c : Code} {Q : State → Prop} {cells slots : Nat} {dC : Nat → ClassId} {dI : Nat → Nat → Nat} {h0 : Nat} {v : Nat → Nat} {cI cZ : ClassId} {H : Heap} {locs : List Loc} {u : mS} (hx : p.tables.exec = Jvm.exec) (hb : c.code = cX12_plate) (hml : c.maxLocals = 5) (hts : ∀ w ∈ wsX12_plate, w.before args s = true) (hown : s.vm.findClass RX12 = some m.cls) (hN : NN s) (hK : va_K (dC, dI) vwCl [(cI, .int), (cZ, .boolean)] s) (hRf : 1 ≤ R.frames) (hRl : 22 ≤ R.locals) (hRc : cells ≤ R.cells) (hRs : slots ≤ R.slots) (hP : va_P (dC, dI) vwCl (mW h0 v cI cZ u) H) {p0 : Int32} {c9 K : Nat} (hp : bw p0 0 11 = true) (hc8 : c9 < 8) (eK : u.2 0 (8 * p0 + nI c9).toNatClampNeg = nI K) (hK6 : K ≤ 60) (kx55 : ∀ (i : Nat) (a : Int32) (ls : Array Slot), i < K → True → lv_has ls 5 [(4, .int (nI i)), (2, .int a), (3, .int (nI c9)), (0, .ref h0), (1, .int p0)] → W p l e R s m args below meth c H locs cells slots Q (F0 m 55 ls [])) (kx : ∀ (a : Int32) (ls : Array Slot), lv_has ls 5 [(4, .int (nI K)), (2, .int a), (3, .int (nI c9)), (0, .ref h0), (1, .int p0)] → W p l e R s m args below meth c H locs cells slots Q (F0 m 66 ls [])) : ∀ (k i : Nat) (a : Int32) (ls : Array Slot), i ≤ K → K - i < k → lv_has ls 5 [(4, .int (nI i)), (2, .int a), (3, .int (nI c9)), (0, .ref h0), (1, .int p0)] → W p l e R s m args below meth c H locs cells slots Q (F0 m 22 ls []) := by
  intro k
  induction k with
  | zero => intro i a ls h1 h2; exact absurd h2 (Nat.not_lt_zero _)
  | succ k ih =>
    intro i a ls hi hk hl
    refine lv_iload hx hb dX12_plate_22 (lv_at hl 0 rfl) ?_
    refine lv_aload_n hx hb dX12_plate_24 rfl (lv_at hl 3 rfl) ?_
    refine va_get (D := (dC, dI)) (ci := 11) (v := .ref (v 0)) (C := RX12) (T := TX12) (N := 52) hx hb hts (by decide +kernel) hown hK hP 0 rfl rfl 0 (by decide) (hts (.fieldLink RX12 7 "PageOneModel" "lines" "[I") (by decide +kernel)) (fun _ h9 => h9) rfl dX12_plate_25 ?_
    refine lv_bipush (v := 8) hx hb dX12_plate_28 (by decide) ?_
    refine lv_iload_n hx hb dX12_plate_30 rfl (lv_at hl 4 rfl) ?_
    refine lv_imul hx hb dX12_plate_31 ?_
    refine lv_iload_n hx hb dX12_plate_32 rfl (lv_at hl 2 rfl) ?_
    refine lv_iadd hx hb dX12_plate_33 ?_
    refine va_iald hx hb hK hP 1 0 rfl rfl (vin8 hp (bw7 hc8)) dX12_plate_34 ?_
    refine lv_topi (fun y_1 ey_1 => ?_)
    obtain rfl : y_1 = (nI K) := ey_1.trans (eK)
    refine lv_icmp_ge (tgt := 66) hx hb dX12_plate_35 (by decide) (fun c_2 => ?_) (fun c_2 => ?_)
    ·
      have hie : i = K := lp_eq rfl (by omega) hi c_2
      rw [hie] at hl
      exact kx _ ls (lv_sub hl [0, 1, 2, 3, 4] rfl)
    ·
      have hlt : i < K := lp_lt rfl (by omega) hi c_2
      refine lv_aload_n hx hb dX12_plate_38 rfl (lv_at hl 3 rfl) ?_
      refine va_get (D := (dC, dI)) (ci := 11) (v := .ref (v 2)) (C := RX12) (T := TX12) (N := 52) hx hb hts (by decide +kernel) hown hK hP 0 rfl rfl 2 (by decide) (hts (.fieldLink RX12 16 "PageOneModel" "cell" "[I") (by decide +kernel)) (fun _ h9 => h9) rfl dX12_plate_39 ?_
      refine lv_iload_n hx hb dX12_plate_42 rfl (lv_at hl 4 rfl) ?_
      refine lv_iload_n hx hb dX12_plate_43 rfl (lv_at hl 2 rfl) ?_
      refine lv_iload hx hb dX12_plate_44 (lv_at hl 0 rfl) ?_
      refine vp_callSi (va_runS (As := [.int p0, .int (nI c9), .int (nI i)]) (rest := [.ref (v 2)]) ⟨hx, hb, hml, hown, hts⟩ (m_at l dC dI p0 (nI c9) (nI i)) (va_cwS 3 hts gX12_plate_X12_at rfl rfl rfl (by decide +kernel) ⟨Nat.le_trans (Nat.le_of_ble_eq_true rfl) hRf, Nat.le_trans (Nat.le_of_ble_eq_true rfl) hRl⟩) ⟨pw_fb, fun U hU hW => ⟨rfl, pw_to hU hW (hP.sub (ws' := []) [] rfl) (hK.sub (tys' := []) [] rfl) hN⟩⟩ rfl rfl hl.1 rfl (lv_room (Nat.le_of_ble_eq_true rfl)) dX12_plate_46 ⟨hRc, hRs⟩).run (fun r hw => ?_)
      obtain rfl : r = (480 * p0 + 60 * (nI c9) + (nI i)) := hw
      refine va_iald hx hb hK hP 3 0 rfl rfl (vinC hp (bw7 hc8) (by omega)) dX12_plate_49 ?_
      refine lv_bipush (v := (-2)) hx hb dX12_plate_50 (by decide) ?_
      refine lv_icmp_ne (tgt := 57) hx hb dX12_plate_52 (by decide) (fun c_3 => ?_) (fun c_3 => ?_)
      ·
        obtain ⟨x_4, ex_4⟩ : ∃ y : Int32, y = a + 1 := ⟨_, rfl⟩
        refine lv_iinc (v := x_4) (lv' := [(2, .int x_4), (4, .int (nI i)), (3, .int (nI c9)), (0, .ref h0), (1, .int p0)]) hx hb dX12_plate_57 hl (k := 1) rfl (by rw [ex_4]; rfl) (by decide) rfl (fun ls hl => ?_)
        refine lv_iinc (v := (nI (i + 1))) (lv' := [(4, .int (nI (i + 1))), (2, .int x_4), (3, .int (nI c9)), (0, .ref h0), (1, .int p0)]) hx hb dX12_plate_60 hl (k := 1) rfl (nI_1 i) (by decide) rfl (fun ls hl => ?_)
        refine lv_goto (tgt := 22) hx hb dX12_plate_63 (by decide) ?_
        exact ih (i + 1) _ ls (by omega) (by omega) (lv_sub hl [0, 1, 2, 3, 4] rfl)
      ·
        exact kx55 i _ ls hlt trivial (lv_sub hl [0, 1, 2, 3, 4] rfl)
set_option maxHeartbeats 4000000 in
set_option maxRecDepth 100000 in
theorem m_pl_out {p : Program} {l : Launch} {e : Env} {R : Room} {s : State} {m : MethodId} {args : Array Value} {below : List Frame} {meth : Method} {c : Code} {Q : State → Prop} {cells slots : Nat} {dC : Nat → ClassId} {dI : Nat → Nat → Nat} {h0 : Nat} {v : Nat → Nat} {cI cZ : ClassId} {H : Heap} {locs : List Loc} {u : mS} (hx : p.tables.exec = Jvm.exec) (hb : c.code = cX12_plate) (hml : c.maxLocals = 5) (hts : ∀ w ∈ wsX12_plate, w.before args s = true) (hown : s.vm.findClass RX12 = some m.cls) (hN : NN s) (hK : va_K (dC, dI) vwCl [(cI, .int), (cZ, .boolean)] s) (hRf : 1 ≤ R.frames) (hRl : 22 ≤ R.locals) (hRc : cells ≤ R.cells) (hRs : slots ≤ R.slots) (hP : va_P (dC, dI) vwCl (mW h0 v cI cZ u) H) {p0 : Int32} (hp : bw p0 0 11 = true) (hln : ∀ j, j < 96 → bw (u.2 0 j) 0 60 = true) (kx55 : ∀ (i : Nat) (a : Int32) (ls : Array Slot), i < 8 → True → lv_has ls 5 [(3, .int (nI i)), (2, .int a), (0, .ref h0), (1, .int p0)] → W p l e R s m args below meth c H locs cells slots Q (F0 m 55 ls [])) (kx : ∀ (a : Int32) (ls : Array Slot), lv_has ls 5 [(3, .int (nI 8)), (2, .int a), (0, .ref h0), (1, .int p0)] → W p l e R s m args below meth c H locs cells slots Q (F0 m 72 ls [])) : ∀ (k i : Nat) (a : Int32) (ls : Array Slot), i ≤ 8 → 8 - i < k → lv_has ls 5 [(3, .int (nI i)), (2, .int a), (0, .ref h0), (1, .int p0)] → W p l e R s m args below meth c H locs cells slots Q (F0 m 13 ls []) := by
  intro k
  induction k with
  | zero => intro i a ls h1 h2; exact absurd h2 (Nat.not_lt_zero _)
  | succ k ih =>
    intro i a ls hi hk hl
    refine lv_iload_n hx hb dX12_plate_13 rfl (lv_at hl 0 rfl) ?_
    refine lv_bipush (v := 8) hx hb dX12_plate_14 (by decide) ?_
    refine lv_icmp_ge (tgt := 72) hx hb dX12_plate_16 (by decide) (fun c_1 => ?_) (fun c_1 => ?_)
    ·
      have hie : i = 8 := lp_eq rfl (by decide) hi c_1
      subst hie
      exact kx _ ls (lv_sub hl [0, 1, 2, 3] rfl)
    ·
      have hlt : i < 8 := lp_lt rfl (by decide) hi c_1
      refine lv_iconst (v := 0) hx hb dX12_plate_19 (by decide) ?_
      refine lv_istore (lv' := [(4, .int 0), (3, .int (nI i)), (2, .int a), (0, .ref h0), (1, .int p0)]) hx hb dX12_plate_20 hl (by decide) rfl (fun ls hl => ?_)
      obtain ⟨eK, eK2, eK3⟩ := nI_of_bw (hln _ (vlt (vin8 hp (bw7 hlt))))
      have h60 : (60 : Int32).toInt = 60 := rfl
      refine m_pl_in (c9 := i) (K := (u.2 0 (8 * p0 + nI i).toNatClampNeg).toNatClampNeg) hx hb hml hts hown hN hK hRf hRl hRc hRs hP hp hlt eK (by omega) (fun j b ls hj _ hl => kx55 i b ls hlt trivial (lv_sub hl [2, 1, 3, 4] rfl)) (fun b ls hl => ?_) _ 0 _ ls (Nat.zero_le _) (Nat.lt_succ_self _) (lv_sub hl [0, 2, 1, 3, 4] rfl)
      refine lv_iinc (v := (nI (i + 1))) (lv' := [(3, .int (nI (i + 1))), (4, .int (nI (u.2 0 (8 * p0 + nI i).toNatClampNeg).toNatClampNeg)), (2, .int b), (0, .ref h0), (1, .int p0)]) hx hb dX12_plate_66 hl (k := 2) rfl (nI_1 i) (by decide) rfl (fun ls hl => ?_)
      refine lv_goto (tgt := 13) hx hb dX12_plate_69 (by decide) ?_
      exact ih (i + 1) _ ls (by omega) (by omega) (lv_sub hl [0, 2, 3, 4] rfl)
set_option maxHeartbeats 4000000 in
set_option maxRecDepth 100000 in
theorem m_pl_c {p : Program} {l : Launch} {e : Env} {R : Room} {s : State} {m : MethodId} {args : Array Value} {below : List Frame} {meth : Method} {c : Code} {Q : State → Prop} {cells slots : Nat} {dC : Nat → ClassId} {dI : Nat → Nat → Nat} {h0 : Nat} {v : Nat → Nat} {cI cZ : ClassId} {u0 : mS} {p0 b9 : Int32} (hp : bw p0 0 11 = true) {A : Nat → Prop} {H0 : Heap} (hx : p.tables.exec = Jvm.exec) (hb : c.code = cX12_plate) (hml : c.maxLocals = 5) (hts : ∀ w ∈ wsX12_plate, w.before args s = true) (hown : s.vm.findClass RX12 = some m.cls) (hN : NN s) (hK : va_K (dC, dI) vwCl [(cI, .int), (cZ, .boolean)] s) (hA : ∀ q : Nat, H0.size ≤ q → A q) (kx : ∀ (u : mS) (H : Heap) (locs : List Loc) (ls : Array Slot), mPl u0 u → va_P (dC, dI) vwCl (mW h0 v cI cZ u) H → va_D A (mW h0 v cI cZ u) → va_S A H0 H locs → lv_has ls 5 [(3, .int (nI 480)), (2, .int b9), (0, .ref h0), (1, .int p0)] → W p l e R s m args below meth c H locs cells slots Q (F0 m 156 ls [])) : ∀ (k i : Nat) (u : mS) (H : Heap) (locs : List Loc) (ls : Array Slot), i ≤ 480 → 480 - i < k → mPl u0 u → va_P (dC, dI) vwCl (mW h0 v cI cZ u) H → va_D A (mW h0 v cI cZ u) → va_S A H0 H locs → lv_has ls 5 [(3, .int (nI i)), (2, .int b9), (0, .ref h0), (1, .int p0)] → W p l e R s m args below meth c H locs cells slots Q (F0 m 119 ls []) := by
  intro k
  induction k with
  | zero => intro i u H locs ls h1 h2; exact absurd h2 (Nat.not_lt_zero _)
  | succ k ih =>
    intro i u H locs ls hi hk hg hP hD hS hl
    refine lv_iload_n hx hb dX12_plate_119 rfl (lv_at hl 0 rfl) ?_
    refine lv_sipush (v := 480) hx hb dX12_plate_120 (by decide) ?_
    refine lv_icmp_ge (tgt := 156) hx hb dX12_plate_123 (by decide) (fun c_1 => ?_) (fun c_1 => ?_)
    ·
      have hie : i = 480 := lp_eq rfl (by decide) hi c_1
      subst hie
      exact kx _ _ _ ls hg hP hD hS (lv_sub hl [0, 1, 2, 3] rfl)
    ·
      have hlt : i < 480 := lp_lt rfl (by decide) hi c_1
      refine lv_aload_n hx hb dX12_plate_126 rfl (lv_at hl 2 rfl) ?_
      refine va_get (D := (dC, dI)) (ci := 11) (v := .ref (v 44)) (C := RX12) (T := TX12) (N := 52) hx hb hts (by decide +kernel) hown hK hP 0 rfl rfl 44 (by decide) (hts (.fieldLink RX12 128 "PageOneModel" "plateCell" "[I") (by decide +kernel)) (fun _ h9 => h9) rfl dX12_plate_127 ?_
      refine lv_sipush (v := 480) hx hb dX12_plate_130 (by decide) ?_
      refine lv_iload_n hx hb dX12_plate_133 rfl (lv_at hl 3 rfl) ?_
      refine lv_imul hx hb dX12_plate_134 ?_
      refine lv_iload_n hx hb dX12_plate_135 rfl (lv_at hl 0 rfl) ?_
      refine lv_iadd hx hb dX12_plate_136 ?_
      refine lv_aload_n hx hb dX12_plate_137 rfl (lv_at hl 2 rfl) ?_
      refine va_get (D := (dC, dI)) (ci := 11) (v := .ref (v 2)) (C := RX12) (T := TX12) (N := 52) hx hb hts (by decide +kernel) hown hK hP 0 rfl rfl 2 (by decide) (hts (.fieldLink RX12 16 "PageOneModel" "cell" "[I") (by decide +kernel)) (fun _ h9 => h9) rfl dX12_plate_138 ?_
      refine lv_sipush (v := 480) hx hb dX12_plate_141 (by decide) ?_
      refine lv_iload_n hx hb dX12_plate_144 rfl (lv_at hl 3 rfl) ?_
      refine lv_imul hx hb dX12_plate_145 ?_
      refine lv_iload_n hx hb dX12_plate_146 rfl (lv_at hl 0 rfl) ?_
      refine lv_iadd hx hb dX12_plate_147 ?_
      refine va_iald hx hb hK hP 3 0 rfl rfl (vinP hp hlt) dX12_plate_148 ?_
      refine va_iast hx hb hK hP hD hS 40 0 rfl rfl (vinP hp hlt) dX12_plate_149 (fun H locs hP hD hS => ?_)
      obtain ⟨u_2, eu_2⟩ : ∃ zz : mS, zz = mst u 44 ((480 * p0) + (nI i)) (u.2 2 (((480 * p0) + (nI i)) : Int32).toNatClampNeg) := ⟨_, rfl⟩
      have hP : va_P (dC, dI) vwCl (mW h0 v cI cZ u_2) H := by rw [eu_2]; exact hP
      have hD : va_D A (mW h0 v cI cZ u_2) := by rw [eu_2]; exact hD
      refine lv_iinc (v := (nI (i + 1))) (lv' := [(3, .int (nI (i + 1))), (2, .int b9), (0, .ref h0), (1, .int p0)]) hx hb dX12_plate_150 hl (k := 0) rfl (nI_1 i) (by decide) rfl (fun ls hl => ?_)
      refine lv_goto (tgt := 119) hx hb dX12_plate_153 (by decide) ?_
      exact ih (i + 1) _ _ _ ls (by omega) (by omega) (by rw [eu_2]; exact (mPl_st hg (by decide) _ _)) hP hD hS (lv_sub hl [0, 1, 2, 3] rfl)
set_option maxHeartbeats 4000000 in
set_option maxRecDepth 100000 in
theorem m_pl_l {p : Program} {l : Launch} {e : Env} {R : Room} {s : State} {m : MethodId} {args : Array Value} {below : List Frame} {meth : Method} {c : Code} {Q : State → Prop} {cells slots : Nat} {dC : Nat → ClassId} {dI : Nat → Nat → Nat} {h0 : Nat} {v : Nat → Nat} {cI cZ : ClassId} {u0 : mS} {p0 b9 : Int32} (hp : bw p0 0 11 = true) (hln0 : ∀ j, j < 96 → bw (u0.2 0 j) 0 60 = true) {A : Nat → Prop} {H0 : Heap} (hx : p.tables.exec = Jvm.exec) (hb : c.code = cX12_plate) (hml : c.maxLocals = 5) (hts : ∀ w ∈ wsX12_plate, w.before args s = true) (hown : s.vm.findClass RX12 = some m.cls) (hN : NN s) (hK : va_K (dC, dI) vwCl [(cI, .int), (cZ, .boolean)] s) (hA : ∀ q : Nat, H0.size ≤ q → A q) (kx : ∀ (u : mS) (H : Heap) (locs : List Loc) (ls : Array Slot), mPl u0 u → va_P (dC, dI) vwCl (mW h0 v cI cZ u) H → va_D A (mW h0 v cI cZ u) → va_S A H0 H locs → lv_has ls 5 [(3, .int (nI 8)), (2, .int b9), (0, .ref h0), (1, .int p0)] → W p l e R s m args below meth c H locs cells slots Q (F0 m 192 ls [])) : ∀ (k i : Nat) (u : mS) (H : Heap) (locs : List Loc) (ls : Array Slot), i ≤ 8 → 8 - i < k → mPl u0 u → va_P (dC, dI) vwCl (mW h0 v cI cZ u) H → va_D A (mW h0 v cI cZ u) → va_S A H0 H locs → lv_has ls 5 [(3, .int (nI i)), (2, .int b9), (0, .ref h0), (1, .int p0)] → W p l e R s m args below meth c H locs cells slots Q (F0 m 158 ls []) := by
  intro k
  induction k with
  | zero => intro i u H locs ls h1 h2; exact absurd h2 (Nat.not_lt_zero _)
  | succ k ih =>
    intro i u H locs ls hi hk hg hP hD hS hl
    refine lv_iload_n hx hb dX12_plate_158 rfl (lv_at hl 0 rfl) ?_
    refine lv_bipush (v := 8) hx hb dX12_plate_159 (by decide) ?_
    refine lv_icmp_ge (tgt := 192) hx hb dX12_plate_161 (by decide) (fun c_1 => ?_) (fun c_1 => ?_)
    ·
      have hie : i = 8 := lp_eq rfl (by decide) hi c_1
      subst hie
      exact kx _ _ _ ls hg hP hD hS (lv_sub hl [0, 1, 2, 3] rfl)
    ·
      have hlt : i < 8 := lp_lt rfl (by decide) hi c_1
      refine lv_aload_n hx hb dX12_plate_164 rfl (lv_at hl 2 rfl) ?_
      refine va_get (D := (dC, dI)) (ci := 11) (v := .ref (v 43)) (C := RX12) (T := TX12) (N := 52) hx hb hts (by decide +kernel) hown hK hP 0 rfl rfl 43 (by decide) (hts (.fieldLink RX12 125 "PageOneModel" "plateLines" "[I") (by decide +kernel)) (fun _ h9 => h9) rfl dX12_plate_165 ?_
      refine lv_bipush (v := 8) hx hb dX12_plate_168 (by decide) ?_
      refine lv_iload_n hx hb dX12_plate_170 rfl (lv_at hl 3 rfl) ?_
      refine lv_imul hx hb dX12_plate_171 ?_
      refine lv_iload_n hx hb dX12_plate_172 rfl (lv_at hl 0 rfl) ?_
      refine lv_iadd hx hb dX12_plate_173 ?_
      refine lv_aload_n hx hb dX12_plate_174 rfl (lv_at hl 2 rfl) ?_
      refine va_get (D := (dC, dI)) (ci := 11) (v := .ref (v 0)) (C := RX12) (T := TX12) (N := 52) hx hb hts (by decide +kernel) hown hK hP 0 rfl rfl 0 (by decide) (hts (.fieldLink RX12 7 "PageOneModel" "lines" "[I") (by decide +kernel)) (fun _ h9 => h9) rfl dX12_plate_175 ?_
      refine lv_bipush (v := 8) hx hb dX12_plate_178 (by decide) ?_
      refine lv_iload_n hx hb dX12_plate_180 rfl (lv_at hl 3 rfl) ?_
      refine lv_imul hx hb dX12_plate_181 ?_
      refine lv_iload_n hx hb dX12_plate_182 rfl (lv_at hl 0 rfl) ?_
      refine lv_iadd hx hb dX12_plate_183 ?_
      refine va_iald hx hb hK hP 1 0 rfl rfl (vin8 hp (bw7 hlt)) dX12_plate_184 ?_
      refine va_iast hx hb hK hP hD hS 39 0 rfl rfl (vin8 hp (bw7 hlt)) dX12_plate_185 (fun H locs hP hD hS => ?_)
      obtain ⟨u_2, eu_2⟩ : ∃ zz : mS, zz = mst u 43 ((8 * p0) + (nI i)) (u.2 0 (((8 * p0) + (nI i)) : Int32).toNatClampNeg) := ⟨_, rfl⟩
      have hP : va_P (dC, dI) vwCl (mW h0 v cI cZ u_2) H := by rw [eu_2]; exact hP
      have hD : va_D A (mW h0 v cI cZ u_2) := by rw [eu_2]; exact hD
      refine lv_iinc (v := (nI (i + 1))) (lv' := [(3, .int (nI (i + 1))), (2, .int b9), (0, .ref h0), (1, .int p0)]) hx hb dX12_plate_186 hl (k := 0) rfl (nI_1 i) (by decide) rfl (fun ls hl => ?_)
      refine lv_goto (tgt := 158) hx hb dX12_plate_189 (by decide) ?_
      exact ih (i + 1) _ _ _ ls (by omega) (by omega) (by rw [eu_2]; exact mPl_43 hg _ (by rw [hg.2.1 0 (Or.inl (by decide))]; exact hln0 _ (vlt (vin8 hp (bw7 hlt))))) hP hD hS (lv_sub hl [0, 1, 2, 3] rfl)
set_option maxHeartbeats 4000000 in
set_option maxRecDepth 100000 in
theorem m_pl_k {p : Program} {l : Launch} {e : Env} {R : Room} {s : State} {m : MethodId} {args : Array Value} {below : List Frame} {meth : Method} {c : Code} {Q : State → Prop} {cells slots : Nat} {dC : Nat → ClassId} {dI : Nat → Nat → Nat} {h0 : Nat} {v : Nat → Nat} {cI cZ : ClassId} {u0 : mS} {p0 b9 : Int32} {P j9 K : Nat} (hP12 : P < 12) (eP : p0 = nI P) (hj9 : j9 < 80) (hK6 : K ≤ 6) {A : Nat → Prop} {H0 : Heap} (hx : p.tables.exec = Jvm.exec) (hb : c.code = cX12_plate) (hml : c.maxLocals = 5) (hts : ∀ w ∈ wsX12_plate, w.before args s = true) (hown : s.vm.findClass RX12 = some m.cls) (hN : NN s) (hK : va_K (dC, dI) vwCl [(cI, .int), (cZ, .boolean)] s) (hA : ∀ q : Nat, H0.size ≤ q → A q) (kx : ∀ (u : mS) (H : Heap) (locs : List Loc) (ls : Array Slot), mPl u0 u → va_P (dC, dI) vwCl (mW h0 v cI cZ u) H → va_D A (mW h0 v cI cZ u) → va_S A H0 H locs → lv_has ls 5 [(4, .int (nI (K - K) - 1)), (3, .int (nI j9)), (2, .int b9), (0, .ref h0), (1, .int p0)] → W p l e R s m args below meth c H locs cells slots Q (F0 m 307 ls [])) : ∀ (k i : Nat) (u : mS) (H : Heap) (locs : List Loc) (ls : Array Slot), i ≤ K → K - i < k → mPl u0 u → va_P (dC, dI) vwCl (mW h0 v cI cZ u) H → va_D A (mW h0 v cI cZ u) → va_S A H0 H locs → lv_has ls 5 [(4, .int (nI (K - i) - 1)), (3, .int (nI j9)), (2, .int b9), (0, .ref h0), (1, .int p0)] → W p l e R s m args below meth c H locs cells slots Q (F0 m 234 ls []) := by
  intro k
  induction k with
  | zero => intro i u H locs ls h1 h2; exact absurd h2 (Nat.not_lt_zero _)
  | succ k ih =>
    intro i u H locs ls hi hk hg hP hD hS hl
    refine lv_iload hx hb dX12_plate_234 (lv_at hl 0 rfl) ?_
    refine lv_if_lt (tgt := 307) hx hb dX12_plate_236 (by decide) (fun c_1 => ?_) (fun c_1 => ?_)
    ·
      have hie : i = K := by have := dn_z (m := K - i) (by omega) c_1; omega
      rw [hie] at hl
      exact kx _ _ _ ls hg hP hD hS (lv_sub hl [0, 1, 2, 3, 4] rfl)
    ·
      have hlt : i < K := by have := dn_p (m := K - i) (by omega) c_1; omega
      rw [dn_e (m := K - i) (by omega)] at hl
      refine lv_aload_n hx hb dX12_plate_239 rfl (lv_at hl 3 rfl) ?_
      refine va_get (D := (dC, dI)) (ci := 11) (v := .ref (v 23)) (C := RX12) (T := TX12) (N := 52) hx hb hts (by decide +kernel) hown hK hP 0 rfl rfl 23 (by decide) (hts (.fieldLink RX12 77 "PageOneModel" "pPage" "[I") (by decide +kernel)) (fun _ h9 => h9) rfl dX12_plate_240 ?_
      refine lv_bipush (v := 6) hx hb dX12_plate_243 (by decide) ?_
      refine lv_iload_n hx hb dX12_plate_245 rfl (lv_at hl 1 rfl) ?_
      refine lv_imul hx hb dX12_plate_246 ?_
      refine lv_iload hx hb dX12_plate_247 (lv_at hl 0 rfl) ?_
      refine lv_iadd hx hb dX12_plate_249 ?_
      refine va_iald hx hb hK hP 23 0 rfl rfl (v6n hj9 (by omega)) dX12_plate_250 ?_
      refine lv_iload_n hx hb dX12_plate_251 rfl (lv_at hl 4 rfl) ?_
      refine lv_icmp_ne (tgt := 301) hx hb dX12_plate_252 (by decide) (fun c_2 => ?_) (fun c_2 => ?_)
      ·
        refine lv_iinc (v := (nI (K - (i + 1)) - 1)) (lv' := [(4, .int (nI (K - (i + 1)) - 1)), (3, .int (nI j9)), (2, .int b9), (0, .ref h0), (1, .int p0)]) hx hb dX12_plate_301 hl (k := 0) rfl (by rw [dec1, Nat.sub_sub]) (by decide) rfl (fun ls hl => ?_)
        refine lv_goto (tgt := 234) hx hb dX12_plate_304 (by decide) ?_
        exact ih (i + 1) _ _ _ ls (by omega) (by omega) hg hP hD hS (lv_sub hl [0, 1, 2, 3, 4] rfl)
      ·
        refine lv_aload_n hx hb dX12_plate_255 rfl (lv_at hl 3 rfl) ?_
        refine va_get (D := (dC, dI)) (ci := 11) (v := .ref (v 45)) (C := RX12) (T := TX12) (N := 52) hx hb hts (by decide +kernel) hown hK hP 0 rfl rfl 45 (by decide) (hts (.fieldLink RX12 131 "PageOneModel" "plateColumn" "[I") (by decide +kernel)) (fun _ h9 => h9) rfl dX12_plate_256 ?_
        refine lv_bipush (v := 80) hx hb dX12_plate_259 (by decide) ?_
        refine lv_iload_n hx hb dX12_plate_261 rfl (lv_at hl 4 rfl) ?_
        refine lv_imul hx hb dX12_plate_262 ?_
        refine lv_iload_n hx hb dX12_plate_263 rfl (lv_at hl 1 rfl) ?_
        refine lv_iadd hx hb dX12_plate_264 ?_
        refine lv_aload_n hx hb dX12_plate_265 rfl (lv_at hl 3 rfl) ?_
        refine va_get (D := (dC, dI)) (ci := 11) (v := .ref (v 24)) (C := RX12) (T := TX12) (N := 52) hx hb hts (by decide +kernel) hown hK hP 0 rfl rfl 24 (by decide) (hts (.fieldLink RX12 80 "PageOneModel" "pColumn" "[I") (by decide +kernel)) (fun _ h9 => h9) rfl dX12_plate_266 ?_
        refine lv_bipush (v := 6) hx hb dX12_plate_269 (by decide) ?_
        refine lv_iload_n hx hb dX12_plate_271 rfl (lv_at hl 1 rfl) ?_
        refine lv_imul hx hb dX12_plate_272 ?_
        refine lv_iload hx hb dX12_plate_273 (lv_at hl 0 rfl) ?_
        refine lv_iadd hx hb dX12_plate_275 ?_
        refine va_iald hx hb hK hP 24 0 rfl rfl (v6n hj9 (by omega)) dX12_plate_276 ?_
        refine va_iast hx hb hK hP hD hS 41 0 rfl rfl (by have h := vPl (i := nI j9) (bw79 hj9) hP12; rw [← eP] at h; exact h) dX12_plate_277 (fun H locs hP hD hS => ?_)
        obtain ⟨u_3, eu_3⟩ : ∃ zz : mS, zz = mst u 45 ((80 * p0) + (nI j9)) (u.2 24 (((6 * (nI j9)) + (nI (K - i - 1))) : Int32).toNatClampNeg) := ⟨_, rfl⟩
        have hP : va_P (dC, dI) vwCl (mW h0 v cI cZ u_3) H := by rw [eu_3]; exact hP
        have hD : va_D A (mW h0 v cI cZ u_3) := by rw [eu_3]; exact hD
        refine lv_aload_n hx hb dX12_plate_278 rfl (lv_at hl 3 rfl) ?_
        refine va_get (D := (dC, dI)) (ci := 11) (v := .ref (v 46)) (C := RX12) (T := TX12) (N := 52) hx hb hts (by decide +kernel) hown hK hP 0 rfl rfl 46 (by decide) (hts (.fieldLink RX12 134 "PageOneModel" "plateLine" "[I") (by decide +kernel)) (fun _ h9 => h9) rfl dX12_plate_279 ?_
        refine lv_bipush (v := 80) hx hb dX12_plate_282 (by decide) ?_
        refine lv_iload_n hx hb dX12_plate_284 rfl (lv_at hl 4 rfl) ?_
        refine lv_imul hx hb dX12_plate_285 ?_
        refine lv_iload_n hx hb dX12_plate_286 rfl (lv_at hl 1 rfl) ?_
        refine lv_iadd hx hb dX12_plate_287 ?_
        refine lv_aload_n hx hb dX12_plate_288 rfl (lv_at hl 3 rfl) ?_
        refine va_get (D := (dC, dI)) (ci := 11) (v := .ref (v 25)) (C := RX12) (T := TX12) (N := 52) hx hb hts (by decide +kernel) hown hK hP 0 rfl rfl 25 (by decide) (hts (.fieldLink RX12 83 "PageOneModel" "pLine" "[I") (by decide +kernel)) (fun _ h9 => h9) rfl dX12_plate_289 ?_
        refine lv_bipush (v := 6) hx hb dX12_plate_292 (by decide) ?_
        refine lv_iload_n hx hb dX12_plate_294 rfl (lv_at hl 1 rfl) ?_
        refine lv_imul hx hb dX12_plate_295 ?_
        refine lv_iload hx hb dX12_plate_296 (lv_at hl 0 rfl) ?_
        refine lv_iadd hx hb dX12_plate_298 ?_
        refine va_iald hx hb hK hP 25 0 rfl rfl (v6n hj9 (by omega)) dX12_plate_299 ?_
        refine va_iast hx hb hK hP hD hS 42 0 rfl rfl (by have h := vPl (i := nI j9) (bw79 hj9) hP12; rw [← eP] at h; exact h) dX12_plate_300 (fun H locs hP hD hS => ?_)
        obtain ⟨u_4, eu_4⟩ : ∃ zz : mS, zz = mst u_3 46 ((80 * p0) + (nI j9)) (u_3.2 25 (((6 * (nI j9)) + (nI (K - i - 1))) : Int32).toNatClampNeg) := ⟨_, rfl⟩
        have hP : va_P (dC, dI) vwCl (mW h0 v cI cZ u_4) H := by rw [eu_4]; exact hP
        have hD : va_D A (mW h0 v cI cZ u_4) := by rw [eu_4]; exact hD
        refine lv_iinc (v := (nI (K - (i + 1)) - 1)) (lv' := [(4, .int (nI (K - (i + 1)) - 1)), (3, .int (nI j9)), (2, .int b9), (0, .ref h0), (1, .int p0)]) hx hb dX12_plate_301 hl (k := 0) rfl (by rw [dec1, Nat.sub_sub]) (by decide) rfl (fun ls hl => ?_)
        refine lv_goto (tgt := 234) hx hb dX12_plate_304 (by decide) ?_
        exact ih (i + 1) _ _ _ ls (by omega) (by omega) (by rw [eu_4, eu_3]; exact (mPl_st (mPl_st hg (by decide) _ _) (by decide) _ _)) hP hD hS (lv_sub hl [0, 1, 2, 3, 4] rfl)
set_option maxHeartbeats 4000000 in
set_option maxRecDepth 100000 in
theorem m_pl_i {p : Program} {l : Launch} {e : Env} {R : Room} {s : State} {m : MethodId} {args : Array Value} {below : List Frame} {meth : Method} {c : Code} {Q : State → Prop} {cells slots : Nat} {dC : Nat → ClassId} {dI : Nat → Nat → Nat} {h0 : Nat} {v : Nat → Nat} {cI cZ : ClassId} {u0 : mS} {p0 b9 : Int32} {P : Nat} (hP12 : P < 12) (eP : p0 = nI P) (hpc0 : ∀ j, j < 80 → bw (u0.2 22 j) 0 6 = true) {A : Nat → Prop} {H0 : Heap} (hx : p.tables.exec = Jvm.exec) (hb : c.code = cX12_plate) (hml : c.maxLocals = 5) (hts : ∀ w ∈ wsX12_plate, w.before args s = true) (hown : s.vm.findClass RX12 = some m.cls) (hN : NN s) (hK : va_K (dC, dI) vwCl [(cI, .int), (cZ, .boolean)] s) (hA : ∀ q : Nat, H0.size ≤ q → A q) (kx : ∀ (u : mS) (H : Heap) (locs : List Loc) (ls : Array Slot), mPl u0 u → va_P (dC, dI) vwCl (mW h0 v cI cZ u) H → va_D A (mW h0 v cI cZ u) → va_S A H0 H locs → lv_has ls 5 [(3, .int (nI 80)), (2, .int b9), (0, .ref h0), (1, .int p0)] → W p l e R s m args below meth c H locs cells slots Q (F0 m 313 ls [])) : ∀ (k i : Nat) (u : mS) (H : Heap) (locs : List Loc) (ls : Array Slot), i ≤ 80 → 80 - i < k → mPl u0 u → va_P (dC, dI) vwCl (mW h0 v cI cZ u) H → va_D A (mW h0 v cI cZ u) → va_S A H0 H locs → lv_has ls 5 [(3, .int (nI i)), (2, .int b9), (0, .ref h0), (1, .int p0)] → W p l e R s m args below meth c H locs cells slots Q (F0 m 194 ls []) := by
  intro k
  induction k with
  | zero => intro i u H locs ls h1 h2; exact absurd h2 (Nat.not_lt_zero _)
  | succ k ih =>
    intro i u H locs ls hi hk hg hP hD hS hl
    refine lv_iload_n hx hb dX12_plate_194 rfl (lv_at hl 0 rfl) ?_
    refine lv_bipush (v := 80) hx hb dX12_plate_195 (by decide) ?_
    refine lv_icmp_ge (tgt := 313) hx hb dX12_plate_197 (by decide) (fun c_1 => ?_) (fun c_1 => ?_)
    ·
      have hie : i = 80 := lp_eq rfl (by decide) hi c_1
      subst hie
      exact kx _ _ _ ls hg hP hD hS (lv_sub hl [0, 1, 2, 3] rfl)
    ·
      have hlt : i < 80 := lp_lt rfl (by decide) hi c_1
      obtain ⟨eK, eK2, eK3⟩ := nI_of_bw (hpc0 (nI i).toNatClampNeg (by rw [nI_clamp (by omega)]; omega))
      refine lv_aload_n hx hb dX12_plate_200 rfl (lv_at hl 2 rfl) ?_
      refine va_get (D := (dC, dI)) (ci := 11) (v := .ref (v 45)) (C := RX12) (T := TX12) (N := 52) hx hb hts (by decide +kernel) hown hK hP 0 rfl rfl 45 (by decide) (hts (.fieldLink RX12 131 "PageOneModel" "plateColumn" "[I") (by decide +kernel)) (fun _ h9 => h9) rfl dX12_plate_201 ?_
      refine lv_bipush (v := 80) hx hb dX12_plate_204 (by decide) ?_
      refine lv_iload_n hx hb dX12_plate_206 rfl (lv_at hl 3 rfl) ?_
      refine lv_imul hx hb dX12_plate_207 ?_
      refine lv_iload_n hx hb dX12_plate_208 rfl (lv_at hl 0 rfl) ?_
      refine lv_iadd hx hb dX12_plate_209 ?_
      refine lv_iconst (v := (-1)) hx hb dX12_plate_210 (by decide) ?_
      refine va_iast hx hb hK hP hD hS 41 0 rfl rfl (by have h := vPl (i := nI i) (bw79 hlt) hP12; rw [← eP] at h; exact h) dX12_plate_211 (fun H locs hP hD hS => ?_)
      obtain ⟨u_2, eu_2⟩ : ∃ zz : mS, zz = mst u 45 ((80 * p0) + (nI i)) (-1) := ⟨_, rfl⟩
      have hP : va_P (dC, dI) vwCl (mW h0 v cI cZ u_2) H := by rw [eu_2]; exact hP
      have hD : va_D A (mW h0 v cI cZ u_2) := by rw [eu_2]; exact hD
      refine lv_iload_n hx hb dX12_plate_212 rfl (lv_at hl 0 rfl) ?_
      refine lv_aload_n hx hb dX12_plate_213 rfl (lv_at hl 2 rfl) ?_
      refine va_get (D := (dC, dI)) (ci := 11) (v := .int (u_2.1 3)) (C := RX12) (T := TX12) (N := 52) hx hb hts (by decide +kernel) hown hK hP 0 rfl rfl 3 (by decide) (hts (.fieldLink RX12 147 "PageOneModel" "items" "I") (by decide +kernel)) (fun _ h9 => h9) rfl dX12_plate_214 ?_
      refine lv_icmp_ge (tgt := 229) hx hb dX12_plate_217 (by decide) (fun c_3 => ?_) (fun c_3 => ?_)
      ·
        refine lv_iconst (v := 0) hx hb dX12_plate_229 (by decide) ?_
        refine lv_iconst (v := 1) hx hb dX12_plate_230 (by decide) ?_
        refine lv_isub hx hb dX12_plate_231 ?_
        refine lv_topi (fun k_4 ek_4 => ?_)
        obtain rfl : k_4 = (-1) := ek_4.trans (by decide)
        refine lv_istore (lv' := [(4, .int (-1)), (3, .int (nI i)), (2, .int b9), (0, .ref h0), (1, .int p0)]) hx hb dX12_plate_232 hl (by decide) rfl (fun ls hl => ?_)
        have hg : mPl u0 u_2 := (by rw [eu_2]; exact (mPl_st hg (by decide) _ _))
        refine lv_iload hx hb dX12_plate_234 (lv_at hl 0 rfl) ?_
        refine lv_if_lt (tgt := 307) hx hb dX12_plate_236 (by decide) (fun c_5 => ?_) (fun c_5 => absurd (by decide) c_5)
        refine lv_iinc (v := (nI (i + 1))) (lv' := [(3, .int (nI (i + 1))), (4, .int (-1)), (2, .int b9), (0, .ref h0), (1, .int p0)]) hx hb dX12_plate_307 hl (k := 1) rfl (nI_1 i) (by decide) rfl (fun ls hl => ?_)
        refine lv_goto (tgt := 194) hx hb dX12_plate_310 (by decide) ?_
        exact ih (i + 1) _ _ _ ls (by omega) (by omega) hg hP hD hS (lv_sub hl [0, 2, 3, 4] rfl)
      ·
        refine lv_aload_n hx hb dX12_plate_220 rfl (lv_at hl 2 rfl) ?_
        refine va_get (D := (dC, dI)) (ci := 11) (v := .ref (v 22)) (C := RX12) (T := TX12) (N := 52) hx hb hts (by decide +kernel) hown hK hP 0 rfl rfl 22 (by decide) (hts (.fieldLink RX12 74 "PageOneModel" "pieces" "[I") (by decide +kernel)) (fun _ h9 => h9) rfl dX12_plate_221 ?_
        refine lv_iload_n hx hb dX12_plate_224 rfl (lv_at hl 0 rfl) ?_
        refine va_iald hx hb hK hP 22 0 rfl rfl (vp_in_nI (by omega) (by decide)) dX12_plate_225 ?_
        refine lv_topi (fun y_6 ey_6 => ?_)
        obtain rfl : y_6 = (nI (u0.2 22 (nI i).toNatClampNeg).toNatClampNeg) := ey_6.trans ((by rw [eu_2, mst_other (by decide), hg.2.1 22 (Or.inl (by decide))]; exact eK))
        refine lv_goto (tgt := 230) hx hb dX12_plate_226 (by decide) ?_
        refine lv_iconst (v := 1) hx hb dX12_plate_230 (by decide) ?_
        refine lv_isub hx hb dX12_plate_231 ?_
        refine lv_topi (fun x_7 ex_7 => ?_)
        refine lv_istore (lv' := [(4, .int x_7), (3, .int (nI i)), (2, .int b9), (0, .ref h0), (1, .int p0)]) hx hb dX12_plate_232 hl (by decide) rfl (fun ls hl => ?_)
        subst ex_7
        have h6 : (6 : Int32).toInt = 6 := rfl
        have hg : mPl u0 u_2 := (by rw [eu_2]; exact (mPl_st hg (by decide) _ _))
        refine m_pl_k (u0 := u0) (P := P) (j9 := i) (K := (u0.2 22 (nI i).toNatClampNeg).toNatClampNeg) hP12 eP (by omega) (by omega) hx hb hml hts hown hN hK hA (fun u2 H locs ls hg hP hD hS hl => ?_) _ 0 u_2 _ _ ls (Nat.zero_le _) (Nat.lt_succ_self _) hg hP hD hS (lv_sub hl [0, 1, 2, 3, 4] rfl)
        refine lv_iinc (v := (nI (i + 1))) (lv' := [(3, .int (nI (i + 1))), (4, .int (nI ((u0.2 22 (nI i).toNatClampNeg).toNatClampNeg - (u0.2 22 (nI i).toNatClampNeg).toNatClampNeg) - 1)), (2, .int b9), (0, .ref h0), (1, .int p0)]) hx hb dX12_plate_307 hl (k := 1) rfl (nI_1 i) (by decide) rfl (fun ls hl => ?_)
        refine lv_goto (tgt := 194) hx hb dX12_plate_310 (by decide) ?_
        exact ih (i + 1) _ _ _ ls (by omega) (by omega) hg hP hD hS (lv_sub hl [0, 2, 3, 4] rfl)
