theorem idxN {P x y : Nat} (hP : P < 12) (hx : x < 8) (hy : y < 60) : 480 * nI P + 60 * nI x + nI y = nI (480 * P + 60 * x + y) := by
  rw [show (480 : Int32) = nI 480 from rfl, show (60 : Int32) = nI 60 from rfl, pk_mul, pk_mul, nI_add, nI_add]
theorem idxV {P x y : Nat} (hP : P < 12) (hx : x < 8) (hy : y < 60) : vp_in (480 * nI P + 60 * nI x + nI y) 5760 := by
  rw [idxN hP hx hy]; exact vp_in_nI (by omega) (by decide)
/-- a stretch of a column -/
def setC (f : Nat → Int32) (P x Y n : Nat) (z : Int32) : Nat → Int32 := fun j => if 480 * P + 60 * x + Y ≤ j ∧ j < 480 * P + 60 * x + Y + n then z else f j
/-- a rectangle -/
def setR (f : Nat → Int32) (P X : Nat) (Y n : Nat) (z : Int32) : Nat → Nat → Int32
  | 0 => f
  | D + 1 => setC (setR f P X Y n z D) P (X + D) Y n z
theorem setC_0 (f : Nat → Int32) (P x Y : Nat) (z : Int32) : setC f P x Y 0 z = f := by
  funext j; unfold setC; rw [if_neg (by omega)]
theorem setC_step (u0 : mS) {P x Y i : Nat} (hP : P < 12) (hx : x < 8) (hy : Y + i < 60) (z : Int32) : mst (mput u0 2 (setC (u0.2 2) P x Y i z)) 2 (480 * nI P + 60 * nI x + nI (Y + i)) z = mput u0 2 (setC (u0.2 2) P x Y (i + 1) z) := by
  unfold mst
  rw [idxN hP hx hy, nI_clamp (by omega)]
  unfold mput
  refine Prod.ext rfl ?_
  funext j
  dsimp only
  by_cases e : j = 2
  · subst e
    rw [if_pos rfl, if_pos rfl, if_pos rfl]
    funext q
    unfold upd setC
    by_cases e1 : q = 480 * P + 60 * x + (Y + i)
    · rw [if_pos e1, if_pos (by omega)]
    · rw [if_neg e1]
      by_cases e2 : 480 * P + 60 * x + Y ≤ q ∧ q < 480 * P + 60 * x + Y + i
      · rw [if_pos e2, if_pos (by omega)]
      · rw [if_neg e2, if_neg (by omega)]
  · rw [if_neg e, if_neg e, if_neg e]
theorem mput_id (u : mS) : mput u 2 (u.2 2) = u := by
  refine Prod.ext rfl ?_
  funext j
  unfold mput
  dsimp only
  by_cases e : j = 2
  · rw [if_pos e, e]
  · rw [if_neg e]
theorem mput_2 (u : mS) (f g : Nat → Int32) : mput (mput u 2 f) 2 g = mput u 2 g := by
  refine Prod.ext rfl ?_
  funext j
  unfold mput
  dsimp only
  by_cases e : j = 2
  · rw [if_pos e, if_pos e]
  · rw [if_neg e, if_neg e, if_neg e]
theorem mst_same (u : mS) (k : Nat) (i x : Int32) : (mst u k i x).2 k i.toNatClampNeg = x := by
  unfold mst mput upd; dsimp only; rw [if_pos rfl, if_pos rfl]
theorem mst_other {u : mS} {k j : Nat} {i x : Int32} (h : j ≠ k) : (mst u k i x).2 j = u.2 j := by
  unfold mst mput; dsimp only; rw [if_neg h]
theorem mput_at (u : mS) (f : Nat → Int32) : (mput u 2 f).2 2 = f := rfl
set_option maxHeartbeats 4000000 in
set_option maxRecDepth 100000 in
theorem m_sets_in {p : Program} {l : Launch} {e : Env} {R : Room} {s : State} {m : MethodId} {args : Array Value} {below : List Frame} {meth : Method} {c : Code} {Q : State → Prop} {cells slots : Nat} {dC : Nat → ClassId} {dI : Nat → Nat → Nat} {h0 : Nat} {v : Nat → Nat} {cI cZ : ClassId} {P X Y D N : Nat} {z : Int32} (hPP : P < 12) (hXW : X + D ≤ 8) (hYN : Y + N ≤ 60) {x : Nat} {u0 : mS} (hx8 : x < 8) {A : Nat → Prop} {H0 : Heap} (hx : p.tables.exec = Jvm.exec) (hb : c.code = cX12_sets) (hml : c.maxLocals = 9) (hts : ∀ w ∈ wsX12_sets, w.before args s = true) (hown : s.vm.findClass RX12 = some m.cls) (hN : NN s) (hK : va_K (dC, dI) vwCl [(cI, .int), (cZ, .boolean)] s) (hRf : 1 ≤ R.frames) (hRl : 22 ≤ R.locals) (hRc : cells ≤ R.cells) (hRs : slots ≤ R.slots) (hA : ∀ q : Nat, H0.size ≤ q → A q) (kx : ∀ (u : mS) (H : Heap) (locs : List Loc) (ls : Array Slot), u = mput u0 2 (setC (u0.2 2) P x Y N z) → va_P (dC, dI) vwCl (mW h0 v cI cZ u) H → va_D A (mW h0 v cI cZ u) → va_S A H0 H locs → lv_has ls 9 [(8, .int (nI (Y + N))), (7, .int (nI x)), (0, .ref h0), (1, .int (nI P)), (2, .int (nI X)), (3, .int (nI Y)), (4, .int (nI D)), (5, .int (nI N)), (6, .int z)] → W p l e R s m args below meth c H locs cells slots Q (F0 m 45 ls [])) : ∀ (k i : Nat) (u : mS) (H : Heap) (locs : List Loc) (ls : Array Slot), i ≤ N → N - i < k → u = mput u0 2 (setC (u0.2 2) P x Y i z) → va_P (dC, dI) vwCl (mW h0 v cI cZ u) H → va_D A (mW h0 v cI cZ u) → va_S A H0 H locs → lv_has ls 9 [(8, .int (nI (Y + i))), (7, .int (nI x)), (0, .ref h0), (1, .int (nI P)), (2, .int (nI X)), (3, .int (nI Y)), (4, .int (nI D)), (5, .int (nI N)), (6, .int z)] → W p l e R s m args below meth c H locs cells slots Q (F0 m 15 ls []) := by
  intro k
  induction k with
  | zero => intro i u H locs ls h1 h2; exact absurd h2 (Nat.not_lt_zero _)
  | succ k ih =>
    intro i u H locs ls hi hk hg hP hD hS hl
    refine lv_iload hx hb dX12_sets_15 (lv_at hl 0 rfl) ?_
    refine lv_iload_n hx hb dX12_sets_17 rfl (lv_at hl 5 rfl) ?_
    refine lv_iload hx hb dX12_sets_18 (lv_at hl 7 rfl) ?_
    refine lv_iadd hx hb dX12_sets_20 ?_
    refine lv_icmp_ge (tgt := 45) hx hb dX12_sets_21 (by decide) (fun c_1 => ?_) (fun c_1 => ?_)
    ·
      have hie : i = N := by have := lp_eq (nI_add Y N) (by omega) (by omega) c_1; omega
      rw [hie] at hg hl
      exact kx _ _ _ ls hg hP hD hS (lv_sub hl [0, 1, 2, 3, 4, 5, 6, 7, 8] rfl)
    ·
      have hlt : Y + i < Y + N := lp_lt (nI_add Y N) (by omega) (by omega) c_1
      refine lv_aload_n hx hb dX12_sets_24 rfl (lv_at hl 2 rfl) ?_
      refine va_get (D := (dC, dI)) (ci := 11) (v := .ref (v 2)) (C := RX12) (T := TX12) (N := 52) hx hb hts (by decide +kernel) hown hK hP 0 rfl rfl 2 (by decide) (hts (.fieldLink RX12 16 "PageOneModel" "cell" "[I") (by decide +kernel)) (fun _ h9 => h9) rfl dX12_sets_25 ?_
      refine lv_iload_n hx hb dX12_sets_28 rfl (lv_at hl 3 rfl) ?_
      refine lv_iload hx hb dX12_sets_29 (lv_at hl 1 rfl) ?_
      refine lv_iload hx hb dX12_sets_31 (lv_at hl 0 rfl) ?_
      refine vp_callSi (va_runS (As := [.int (nI P), .int (nI x), .int (nI (Y + i))]) (rest := [.ref (v 2)]) ⟨hx, hb, hml, hown, hts⟩ (m_at l dC dI (nI P) (nI x) (nI (Y + i))) (va_cwS 3 hts gX12_sets_X12_at rfl rfl rfl (by decide +kernel) ⟨hRf, hRl⟩) ⟨pw_fb, fun U hU hW => ⟨rfl, pw_to hU hW (hP.sub (ws' := []) [] rfl) (hK.sub (tys' := []) [] rfl) hN⟩⟩ rfl rfl hl.1 rfl (lv_room (Nat.le_of_ble_eq_true rfl)) dX12_sets_33 ⟨hRc, hRs⟩).run (fun r hw => ?_)
      obtain rfl : r = (480 * (nI P) + 60 * (nI x) + (nI (Y + i))) := hw
      refine lv_iload hx hb dX12_sets_36 (lv_at hl 8 rfl) ?_
      refine va_iast hx hb hK hP hD hS 3 0 rfl rfl (idxV hPP hx8 (by omega)) dX12_sets_38 (fun H locs hP hD hS => ?_)
      obtain ⟨u_2, eu_2⟩ : ∃ zz : mS, zz = mst u 2 (480 * (nI P) + 60 * (nI x) + (nI (Y + i))) z := ⟨_, rfl⟩
      have hP : va_P (dC, dI) vwCl (mW h0 v cI cZ u_2) H := by rw [eu_2]; exact hP
      have hD : va_D A (mW h0 v cI cZ u_2) := by rw [eu_2]; exact hD
      refine lv_iinc (v := (nI (Y + i + 1))) (lv' := [(8, .int (nI (Y + i + 1))), (7, .int (nI x)), (0, .ref h0), (1, .int (nI P)), (2, .int (nI X)), (3, .int (nI Y)), (4, .int (nI D)), (5, .int (nI N)), (6, .int z)]) hx hb dX12_sets_39 hl (k := 0) rfl (nI_1 _) (by decide) rfl (fun ls hl => ?_)
      refine lv_goto (tgt := 15) hx hb dX12_sets_42 (by decide) ?_
      exact ih (i + 1) _ _ _ ls (by omega) (by omega) (by subst_vars; exact setC_step u0 hPP hx8 (by omega) z) hP hD hS (lv_sub hl [0, 1, 2, 3, 4, 5, 6, 7, 8] rfl)
set_option maxHeartbeats 4000000 in
set_option maxRecDepth 100000 in
theorem m_sets_out {p : Program} {l : Launch} {e : Env} {R : Room} {s : State} {m : MethodId} {args : Array Value} {below : List Frame} {meth : Method} {c : Code} {Q : State → Prop} {cells slots : Nat} {dC : Nat → ClassId} {dI : Nat → Nat → Nat} {h0 : Nat} {v : Nat → Nat} {cI cZ : ClassId} {P X Y D N : Nat} {z : Int32} (hPP : P < 12) (hXW : X + D ≤ 8) (hYN : Y + N ≤ 60) {u0 : mS} {A : Nat → Prop} {H0 : Heap} (hx : p.tables.exec = Jvm.exec) (hb : c.code = cX12_sets) (hml : c.maxLocals = 9) (hts : ∀ w ∈ wsX12_sets, w.before args s = true) (hown : s.vm.findClass RX12 = some m.cls) (hN : NN s) (hK : va_K (dC, dI) vwCl [(cI, .int), (cZ, .boolean)] s) (hRf : 1 ≤ R.frames) (hRl : 22 ≤ R.locals) (hRc : cells ≤ R.cells) (hRs : slots ≤ R.slots) (hA : ∀ q : Nat, H0.size ≤ q → A q) (kx : ∀ (u : mS) (H : Heap) (locs : List Loc) (ls : Array Slot), u = mput u0 2 (setR (u0.2 2) P X Y N z D) → va_P (dC, dI) vwCl (mW h0 v cI cZ u) H → va_D A (mW h0 v cI cZ u) → va_S A H0 H locs → lv_has ls 9 [(7, .int (nI (X + D))), (0, .ref h0), (1, .int (nI P)), (2, .int (nI X)), (3, .int (nI Y)), (4, .int (nI D)), (5, .int (nI N)), (6, .int z)] → W p l e R s m args below meth c H locs cells slots Q (F0 m 51 ls [])) : ∀ (k i : Nat) (u : mS) (H : Heap) (locs : List Loc) (ls : Array Slot), i ≤ D → D - i < k → u = mput u0 2 (setR (u0.2 2) P X Y N z i) → va_P (dC, dI) vwCl (mW h0 v cI cZ u) H → va_D A (mW h0 v cI cZ u) → va_S A H0 H locs → lv_has ls 9 [(7, .int (nI (X + i))), (0, .ref h0), (1, .int (nI P)), (2, .int (nI X)), (3, .int (nI Y)), (4, .int (nI D)), (5, .int (nI N)), (6, .int z)] → W p l e R s m args below meth c H locs cells slots Q (F0 m 3 ls []) := by
  intro k
  induction k with
  | zero => intro i u H locs ls h1 h2; exact absurd h2 (Nat.not_lt_zero _)
  | succ k ih =>
    intro i u H locs ls hi hk hg hP hD hS hl
    refine lv_iload hx hb dX12_sets_3 (lv_at hl 0 rfl) ?_
    refine lv_iload_n hx hb dX12_sets_5 rfl (lv_at hl 3 rfl) ?_
    refine lv_iload hx hb dX12_sets_6 (lv_at hl 5 rfl) ?_
    refine lv_iadd hx hb dX12_sets_8 ?_
    refine lv_icmp_ge (tgt := 51) hx hb dX12_sets_9 (by decide) (fun c_1 => ?_) (fun c_1 => ?_)
    ·
      have hie : i = D := by have := lp_eq (nI_add X D) (by omega) (by omega) c_1; omega
      rw [hie] at hg hl
      exact kx _ _ _ ls hg hP hD hS (lv_sub hl [0, 1, 2, 3, 4, 5, 6, 7] rfl)
    ·
      have hlt : X + i < X + D := lp_lt (nI_add X D) (by omega) (by omega) c_1
      refine lv_iload_n hx hb dX12_sets_12 rfl (lv_at hl 4 rfl) ?_
      refine lv_istore (lv' := [(8, .int (nI Y)), (7, .int (nI (X + i))), (0, .ref h0), (1, .int (nI P)), (2, .int (nI X)), (3, .int (nI Y)), (4, .int (nI D)), (5, .int (nI N)), (6, .int z)]) hx hb dX12_sets_13 hl (by decide) rfl (fun ls hl => ?_)
      refine m_sets_in (x := X + i) (u0 := u) (Y := Y) (N := N) (X := X) (D := D) (P := P) (z := z) hPP hXW hYN (by omega) hx hb hml hts hown hN hK hRf hRl hRc hRs hA (fun u2 H locs ls hg2 hP hD hS hl => ?_) (N + 1) 0 u _ _ ls (Nat.zero_le _) (by omega) (by rw [setC_0, mput_id]) hP hD hS (lv_sub hl [0, 1, 2, 3, 4, 5, 6, 7, 8] rfl)
      refine lv_iinc (v := (nI (X + i + 1))) (lv' := [(7, .int (nI (X + i + 1))), (8, .int (nI (Y + N))), (0, .ref h0), (1, .int (nI P)), (2, .int (nI X)), (3, .int (nI Y)), (4, .int (nI D)), (5, .int (nI N)), (6, .int z)]) hx hb dX12_sets_45 hl (k := 1) rfl (nI_1 _) (by decide) rfl (fun ls hl => ?_)
      refine lv_goto (tgt := 3) hx hb dX12_sets_48 (by decide) ?_
      exact ih (i + 1) _ _ _ ls (by omega) (by omega) (by subst_vars; rw [mput_at, mput_2]; rfl) hP hD hS (lv_sub hl [0, 2, 3, 4, 5, 6, 7, 8] rfl)
set_option maxHeartbeats 4000000 in
set_option maxRecDepth 100000 in
theorem m_sets (l : Launch) (dC : Nat → ClassId) (dI : Nat → Nat → Nat) (h0 : Nat) (v : Nat → Nat) (cI cZ : ClassId) (u : mS) (P X Y D N : Nat) (z : Int32) (hPP : P < 12) (hXW : X + D ≤ 8) (hYN : Y + N ≤ 60) (sz : Nat) : Met l yX12_sets wsX12_sets ({ frames := 1, cells := 0, slots := 0, locals := 22 }) (va_Pc [.ref h0, .int (nI P), .int (nI X), .int (nI Y), .int (nI D), .int (nI N), .int z] (fun U => U.heap.size = sz ∧ PW dC dI (mW h0 v cI cZ u) [(cI, .int), (cZ, .boolean)] U ∧ va_D (fun _ => True) (mW h0 v cI cZ u))) (va_Qv (fun u9 : mS => u9 = mput u 2 (setR (u.2 2) P X Y N z D)) (fun u9 t => va_P (dC, dI) vwCl (mW h0 v cI cZ u9) t.heap ∧ va_D (va_A (mW h0 v cI cZ u) sz) (mW h0 v cI cZ u9)) (va_A (mW h0 v cI cZ u) sz)) 0 0 (va_A (mW h0 v cI cZ u) sz) := by
  refine Met.ofW (cc := cX12_sets) (maxL := 9) (ret := none) (by decide) rfl ?_
  intro p e s m args below meth c s₁ B hml hv
  obtain ⟨rfl, hsz, ⟨hP, hK, hN⟩, hD0⟩ := hv
  have hx := B.exec
  have hb := B.bytes
  have hr := B.returns
  have hts := atoms_spec (ws := wsX12_sets) B.pre
  have hown : s.vm.findClass RX12 = some m.cls := findClass_of_methodNamed B.named
  have hlocks := B.notSynchronized
  subst hsz
  have hD := hD0.self (sz := s.heap.size)
  generalize hAe : va_A (mW h0 v cI cZ u) s.heap.size = A at hD ⊢
  have hA : ∀ q : Nat, s.heap.size ≤ q → A q := fun q h => by rw [← hAe]; exact Or.inr h
  have hS : va_S A s.heap s.heap [] := va_S.rf
  have hl := lv_entry ([.ref h0, .int (nI P), .int (nI X), .int (nI Y), .int (nI D), .int (nI N), .int z]) (n := 9) (Nat.le_of_ble_eq_true rfl)
  rw [lg_entry_eq]
  generalize (lg_sl ([.ref h0, .int (nI P), .int (nI X), .int (nI Y), .int (nI D), .int (nI N), .int z]) ++ List.replicate (9 - (lg_sl ([.ref h0, .int (nI P), .int (nI X), .int (nI Y), .int (nI D), .int (nI N), .int z])).length) Slot.unset).toArray = ls at hl ⊢
  have hl : lv_has ls 9 [(0, .ref h0), (1, .int (nI P)), (2, .int (nI X)), (3, .int (nI Y)), (4, .int (nI D)), (5, .int (nI N)), (6, .int z)] := hl
  refine lv_iload_n hx hb dX12_sets_0 rfl (lv_at hl 2 rfl) ?_
  refine lv_istore (lv' := [(7, .int (nI X)), (0, .ref h0), (1, .int (nI P)), (2, .int (nI X)), (3, .int (nI Y)), (4, .int (nI D)), (5, .int (nI N)), (6, .int z)]) hx hb dX12_sets_1 hl (by decide) rfl (fun ls hl => ?_)
  refine m_sets_out (u0 := u) (X := X) (D := D) (Y := Y) (N := N) (P := P) (z := z) hPP hXW hYN hx hb hml hts hown hN hK (Nat.le_of_ble_eq_true rfl) (Nat.le_of_ble_eq_true rfl) (Nat.le_of_ble_eq_true rfl) (Nat.le_of_ble_eq_true rfl) hA (fun u2 H locs ls hg hP hD hS hl => ?_) (D + 1) 0 u _ _ ls (Nat.zero_le _) (by omega) (mput_id u).symm hP hD hS (lv_sub hl [0, 1, 2, 3, 4, 5, 6, 7] rfl)
  exact W.vret hx hb hr (fun t ht hW => ⟨⟨u2, rfl, hg, by rw [ht]; exact hP, hD⟩, hS.F ht⟩) hS.2.2 dX12_sets_51
