set_option maxHeartbeats 4000000 in
set_option maxRecDepth 100000 in
theorem j_fill_loop {p : Program} {l : Launch} {e : Env} {R : Room} {s : State} {m : MethodId} {args : Array Value} {below : List Frame} {meth : Method} {c : Code} {Q : State → Prop} {cells slots : Nat} {A : Nat → Prop} {H0 : Heap} {dC : Nat → ClassId} {dI : Nat → Nat → Nat} {h0 : Nat} {cI : ClassId} {n : Nat} {v0 : Int32} (hn : n < 2 ^ 31) (hx : p.tables.exec = Jvm.exec) (hb : c.code = cJ7_fill_53178) (hml : c.maxLocals = 4) (hts : ∀ w ∈ wsJ7_fill_53178, w.before args s = true) (hown : s.vm.findClass RJ7 = some m.cls) (hN : NN s) (hK : va_K (dC, dI) vwCl [(cI, .int)] s) (kx : ∀ (g : Nat → Int32) (H : Heap) (locs : List Loc) (ls : Array Slot), (∀ j, j < n → g j = v0) → va_P (dC, dI) vwCl [(h0, .inl (cI, n, .inl g))] H → va_D A [(h0, .inl (cI, n, .inl g))] → va_S A H0 H locs → lv_has ls 4 [(3, .int (nI n)), (2, .int (nI n)), (0, .ref h0), (1, .int v0)] → W p l e R s m args below meth c H locs cells slots Q (F0 m 20 ls [])) : ∀ (k i : Nat) (g : Nat → Int32) (H : Heap) (locs : List Loc) (ls : Array Slot), i ≤ n → n - i < k → (∀ j, j < i → g j = v0) → va_P (dC, dI) vwCl [(h0, .inl (cI, n, .inl g))] H → va_D A [(h0, .inl (cI, n, .inl g))] → va_S A H0 H locs → lv_has ls 4 [(3, .int (nI n)), (2, .int (nI i)), (0, .ref h0), (1, .int v0)] → W p l e R s m args below meth c H locs cells slots Q (F0 m 5 ls []) := by
  intro k
  induction k with
  | zero => intro i g H locs ls h1 h2; exact absurd h2 (Nat.not_lt_zero _)
  | succ k ih =>
    intro i g H locs ls hi hk hg hP hD hS hl
    refine lv_iload_n hx hb dJ7_fill_53178_5 rfl (lv_at hl 1 rfl) ?_
    refine lv_iload_n hx hb dJ7_fill_53178_6 rfl (lv_at hl 0 rfl) ?_
    refine lv_icmp_ge (tgt := 20) hx hb dJ7_fill_53178_7 (by decide) (fun c_1 => ?_) (fun c_1 => ?_)
    ·
      have hie : i = n := lp_eq rfl hn hi c_1
      rw [hie] at hg hl
      exact kx _ _ _ ls hg hP hD hS (lv_sub hl [0, 1, 2, 3] rfl)
    ·
      have hlt : i < n := lp_lt rfl hn hi c_1
      refine lv_aload_n hx hb dJ7_fill_53178_10 rfl (lv_at hl 2 rfl) ?_
      refine lv_iload_n hx hb dJ7_fill_53178_11 rfl (lv_at hl 1 rfl) ?_
      refine lv_iload_n hx hb dJ7_fill_53178_12 rfl (lv_at hl 3 rfl) ?_
      refine va_iast hx hb hK hP hD hS 0 0 rfl rfl (vp_in_nI hlt hn) dJ7_fill_53178_13 (fun H locs hP hD hS => ?_)
      have hP : va_P (dC, dI) vwCl [(h0, .inl (cI, n, .inl (upd g ((nI i) : Int32).toNatClampNeg v0)))] H := hP
      have hD : va_D A [(h0, .inl (cI, n, .inl (upd g ((nI i) : Int32).toNatClampNeg v0)))] := hD
      refine lv_iinc (v := (nI (i + 1))) (lv' := [(2, .int (nI (i + 1))), (3, .int (nI n)), (0, .ref h0), (1, .int v0)]) hx hb dJ7_fill_53178_14 hl (k := 1) rfl (nI_1 i) (by decide) rfl (fun ls hl => ?_)
      refine lv_goto (tgt := 5) hx hb dJ7_fill_53178_17 (by decide) ?_
      exact ih (i + 1) _ _ _ ls (by omega) (by omega) (upd_step (by omega) hg) hP hD hS (lv_sub hl [1, 0, 2, 3] rfl)
set_option maxHeartbeats 4000000 in
set_option maxRecDepth 100000 in
theorem j_fill (l : Launch) (dC : Nat → ClassId) (dI : Nat → Nat → Nat) (h0 : Nat) (cI : ClassId) (n : Nat) (f : Nat → Int32) (v0 : Int32) (hn : n < 2 ^ 31) (sz : Nat) : Met l yJ7_fill_53178 wsJ7_fill_53178 ({ frames := 0, cells := 0, slots := 0, locals := 0 }) (va_Pc [.ref h0, .int v0] (fun U => U.heap.size = sz ∧ PW dC dI [(h0, .inl (cI, n, .inl f))] [(cI, .int)] U ∧ va_D (fun _ => True) [(h0, .inl (cI, n, .inl f))])) (va_Qv (fun _ : Unit => True) (fun _ t => va_P (dC, dI) vwCl [(h0, .inl (cI, n, .inl (fun _ => v0)))] t.heap ∧ va_D (va_A [(h0, .inl (cI, n, .inl f))] sz) [(h0, .inl (cI, n, .inl (fun _ => v0)))]) (va_A [(h0, .inl (cI, n, .inl f))] sz)) 0 0 (va_A [(h0, .inl (cI, n, .inl f))] sz) := by
  refine Met.ofW (cc := cJ7_fill_53178) (maxL := 4) (ret := none) (by decide) rfl ?_
  intro p e s m args below meth c s₁ B hml hv
  obtain ⟨rfl, hsz, ⟨hP, hK, hN⟩, hD0⟩ := hv
  have hx := B.exec
  have hb := B.bytes
  have hr := B.returns
  have hts := atoms_spec (ws := wsJ7_fill_53178) B.pre
  have hown : s.vm.findClass RJ7 = some m.cls := findClass_of_methodNamed B.named
  have hlocks := B.notSynchronized
  subst hsz
  have hD := hD0.self (sz := s.heap.size)
  generalize hAe : va_A [(h0, .inl (cI, n, .inl f))] s.heap.size = A at hD ⊢
  have hA : ∀ q : Nat, s.heap.size ≤ q → A q := fun q h => by rw [← hAe]; exact Or.inr h
  have hS : va_S A s.heap s.heap [] := va_S.rf
  have hP : va_P (dC, dI) vwCl [(h0, .inl (cI, n, .inl f))] s.heap := hP
  have hl := lv_entry ([.ref h0, .int v0]) (n := 4) (Nat.le_of_ble_eq_true rfl)
  rw [lg_entry_eq]
  generalize (lg_sl ([.ref h0, .int v0]) ++ List.replicate (4 - (lg_sl ([.ref h0, .int v0])).length) Slot.unset).toArray = ls at hl ⊢
  have hl : lv_has ls 4 [(0, .ref h0), (1, .int v0)] := hl
  refine lv_iconst (v := 0) hx hb dJ7_fill_53178_0 (by decide) ?_
  refine lv_istore_n (lv' := [(2, .int 0), (0, .ref h0), (1, .int v0)]) hx hb dJ7_fill_53178_1 rfl hl (by decide) rfl (fun ls hl => ?_)
  refine lv_aload_n hx hb dJ7_fill_53178_2 rfl (lv_at hl 1 rfl) ?_
  refine va_alen hx hb hK hP 0 0 rfl rfl (v := (nI n)) rfl dJ7_fill_53178_3 ?_
  refine lv_istore_n (lv' := [(3, .int (nI n)), (2, .int 0), (0, .ref h0), (1, .int v0)]) hx hb dJ7_fill_53178_4 rfl hl (by decide) rfl (fun ls hl => ?_)
  refine j_fill_loop (n := n) (v0 := v0) hn hx hb hml hts hown hN hK (fun g H locs ls hg hP hD hS hl => ?_) (n + 1) 0 _ _ _ ls (Nat.zero_le _) (by omega) (fun j hj => absurd hj (Nat.not_lt_zero _)) hP hD hS (lv_sub hl [0, 1, 2, 3] rfl)
  have hP := vaP_ext hP 0 rfl (g := fun _ => v0) hg
  have hD := vaD_ext (e' := .inl (cI, n, .inl (fun _ => v0))) hD 0 rfl
  exact W.vret hx hb hr (fun t ht hW => ⟨⟨(), rfl, trivial, by rw [ht]; exact hP, hD⟩, hS.F ht⟩) hS.2.2 dJ7_fill_53178_20
set_option maxHeartbeats 4000000 in
set_option maxRecDepth 100000 in
theorem xn_Sheet (l : Launch) (dC : Nat → ClassId) (dI : Nat → Nat → Nat) (h0 : Nat) (cI : ClassId) (sz : Nat) : Met l yX9_init wsX9_init ({ frames := 1, cells := 2, slots := 488, locals := 23 }) (va_Pc [.ref h0] (fun U => U.heap.size = sz ∧ PW dC dI [(h0, .inr (8, [.null, .null, .int 0, .int 0, .int 0]))] [(cI, .int)] U ∧ va_D (fun _ => True) [(h0, .inr (8, [.null, .null, .int 0, .int 0, .int 0]))])) (va_Qv (fun _ : Unit => True) (fun _ t => ∃ q1 q2 : Nat, va_P (dC, dI) vwCl [(q1, .inl (cI, 8, .inl (fun _ => 0))), (q2, .inl (cI, 480, .inl (fun _ => (-2)))), (h0, .inr (8, [.ref q1, .ref q2, .int 100, .int (-1), .int (-1)]))] t.heap ∧ va_D (va_A [(h0, .inr (8, [.null, .null, .int 0, .int 0, .int 0]))] sz) [(q1, .inl (cI, 8, .inl (fun _ => 0))), (q2, .inl (cI, 480, .inl (fun _ => (-2)))), (h0, .inr (8, [.ref q1, .ref q2, .int 100, .int (-1), .int (-1)]))]) (va_A [(h0, .inr (8, [.null, .null, .int 0, .int 0, .int 0]))] sz)) 2 488 (va_A [(h0, .inr (8, [.null, .null, .int 0, .int 0, .int 0]))] sz) := by
  refine Met.ofW (cc := cX9_init) (maxL := 1) (ret := none) (by decide) rfl ?_
  intro p e s m args below meth c s₁ B hml hv
  obtain ⟨rfl, hsz, ⟨hP, hK, hN⟩, hD0⟩ := hv
  have hx := B.exec
  have hb := B.bytes
  have hr := B.returns
  have hts := atoms_spec (ws := wsX9_init) B.pre
  have hown : s.vm.findClass RX9 = some m.cls := findClass_of_methodNamed B.named
  have hlocks := B.notSynchronized
  have hin : meth.name = "<init>" := (name_of_methodNamed B.named B.method).1
  subst hsz
  have hD := hD0.self (sz := s.heap.size)
  generalize hAe : va_A [(h0, .inr (8, [.null, .null, .int 0, .int 0, .int 0]))] s.heap.size = A at hD ⊢
  have hA : ∀ q : Nat, s.heap.size ≤ q → A q := fun q h => by rw [← hAe]; exact Or.inr h
  have hS : va_S A s.heap s.heap [] := va_S.rf
  have hP : va_P (dC, dI) vwCl [(h0, .inr (8, [.null, .null, .int 0, .int 0, .int 0]))] s.heap := hP
  have hl := lv_entry ([.ref h0]) (n := 1) (Nat.le_of_ble_eq_true rfl)
  rw [lg_entry_eq]
  generalize (lg_sl ([.ref h0]) ++ List.replicate (1 - (lg_sl ([.ref h0])).length) Slot.unset).toArray = ls at hl ⊢
  have hl : lv_has ls 1 [(0, .ref h0)] := hl
  refine lv_aload_n hx hb dX9_init_0 rfl (lv_at hl 0 rfl) ?_
  refine W.objInit hx hb hown (hts (.methodLink RX9 3 objectInit) (zat q_wsX9_init k_wsX9_init 86 rfl (by decide +kernel))) (hts (.instanceMethod objectInit) (zat q_wsX9_init k_wsX9_init 74 rfl (by decide +kernel))) (hts (.code objectInit ⟨#[0xb1]⟩ 1 none) (zat q_wsX9_init k_wsX9_init 75 rfl (by decide +kernel))) rfl (by rw [hml]; exact hl.1) rfl dX9_init_1 (Nat.le_of_ble_eq_true rfl) (Nat.le_of_ble_eq_true rfl) ?_
  refine W.eq (g2 := F0 m 4 ls []) rfl ?_
  refine lv_aload_n hx hb dX9_init_4 rfl (lv_at hl 0 rfl) ?_
  refine lv_bipush (v := 8) hx hb dX9_init_5 (by decide) ?_
  refine va_newa (atype := .int) (ty := .int) (a0 := (8, .inl (fun _ => 0))) (N' := 8) hx hb (hts (.arrayClass .int) (zat q_wsX9_init k_wsX9_init 111 rfl (by decide +kernel))) rfl hK hP hD hS hA (newI 8) (by decide) (by decide) (nbI (Nat.le_of_ble_eq_true rfl)) (Nat.le_of_ble_eq_true rfl) (Nat.le_of_ble_eq_true rfl) dX9_init_7 (fun q_1 cA_2 H hK hP hD hS => ?_)
  obtain rfl : cI = cA_2 := kuniq hK 0 1 rfl rfl
  have hK := hK.sub (tys' := [(cI, .int)]) [0] rfl
  have hK : va_K (dC, dI) vwCl [(cI, .int)] s := hK
  have hP : va_P (dC, dI) vwCl [(h0, .inr (8, [.null, .null, .int 0, .int 0, .int 0])), (q_1, .inl (cI, 8, .inl (fun _ => 0)))] H := hP
  have hD : va_D A [(h0, .inr (8, [.null, .null, .int 0, .int 0, .int 0])), (q_1, .inl (cI, 8, .inl (fun _ => 0)))] := hD
  refine W.widen (k := 1) (n := 8) (Nat.le_of_ble_eq_true rfl) (Nat.le_of_ble_eq_true rfl) ?_
  refine va_putF (D := (dC, dI)) (ci := 8) (v := .ref q_1) (ty := .array .int) (C := RX9) (T := TX9) (N := 5) hx hb hts zl_X9_init_X9 tyX9 tyX9_ok nmX9 hown hK hP hD hS 0 rfl rfl 0 (by decide) (hts (.fieldLink RX9 9 "PageOne$Sheet" "lines" "[I") (zat q_wsX9_init k_wsX9_init 90 rfl (by decide +kernel))) (fun _ h9 => h9) rfl hin rfl (tyX9_ok 0 (by decide)) rfl rfl (Nat.le_of_ble_eq_true rfl) dX9_init_9 (fun H locs hP hD hS => ?_)
  have hP : va_P (dC, dI) vwCl [(h0, .inr (8, [.ref q_1, .null, .int 0, .int 0, .int 0])), (q_1, .inl (cI, 8, .inl (fun _ => 0)))] H := hP
  have hD : va_D A [(h0, .inr (8, [.ref q_1, .null, .int 0, .int 0, .int 0])), (q_1, .inl (cI, 8, .inl (fun _ => 0)))] := hD
  refine lv_aload_n hx hb dX9_init_12 rfl (lv_at hl 0 rfl) ?_
  refine lv_sipush (v := 480) hx hb dX9_init_13 (by decide) ?_
  refine va_newa (atype := .int) (ty := .int) (a0 := (480, .inl (fun _ => 0))) (N' := 480) hx hb (hts (.arrayClass .int) (zat q_wsX9_init k_wsX9_init 111 rfl (by decide +kernel))) rfl hK hP hD hS hA (newI 480) (by decide) (by decide) (nbI (Nat.le_of_ble_eq_true rfl)) (Nat.le_of_ble_eq_true rfl) (Nat.le_of_ble_eq_true rfl) dX9_init_16 (fun q_3 cA_4 H hK hP hD hS => ?_)
  obtain rfl : cI = cA_4 := kuniq hK 0 1 rfl rfl
  have hK := hK.sub (tys' := [(cI, .int)]) [0] rfl
  have hK : va_K (dC, dI) vwCl [(cI, .int)] s := hK
  have hP : va_P (dC, dI) vwCl [(h0, .inr (8, [.ref q_1, .null, .int 0, .int 0, .int 0])), (q_1, .inl (cI, 8, .inl (fun _ => 0))), (q_3, .inl (cI, 480, .inl (fun _ => 0)))] H := hP
  have hD : va_D A [(h0, .inr (8, [.ref q_1, .null, .int 0, .int 0, .int 0])), (q_1, .inl (cI, 8, .inl (fun _ => 0))), (q_3, .inl (cI, 480, .inl (fun _ => 0)))] := hD
  refine W.widen (k := 2) (n := 488) (Nat.le_of_ble_eq_true rfl) (Nat.le_of_ble_eq_true rfl) ?_
  refine va_putF (D := (dC, dI)) (ci := 8) (v := .ref q_3) (ty := .array .int) (C := RX9) (T := TX9) (N := 5) hx hb hts zl_X9_init_X9 tyX9 tyX9_ok nmX9 hown hK hP hD hS 0 rfl rfl 1 (by decide) (hts (.fieldLink RX9 15 "PageOne$Sheet" "cells" "[I") (zat q_wsX9_init k_wsX9_init 92 rfl (by decide +kernel))) (fun _ h9 => h9) rfl hin rfl (tyX9_ok 1 (by decide)) rfl rfl (Nat.le_of_ble_eq_true rfl) dX9_init_18 (fun H locs hP hD hS => ?_)
  have hP : va_P (dC, dI) vwCl [(h0, .inr (8, [.ref q_1, .ref q_3, .int 0, .int 0, .int 0])), (q_1, .inl (cI, 8, .inl (fun _ => 0))), (q_3, .inl (cI, 480, .inl (fun _ => 0)))] H := hP
  have hD : va_D A [(h0, .inr (8, [.ref q_1, .ref q_3, .int 0, .int 0, .int 0])), (q_1, .inl (cI, 8, .inl (fun _ => 0))), (q_3, .inl (cI, 480, .inl (fun _ => 0)))] := hD
  refine lv_aload_n hx hb dX9_init_21 rfl (lv_at hl 0 rfl) ?_
  refine lv_bipush (v := 100) hx hb dX9_init_22 (by decide) ?_
  refine va_put (D := (dC, dI)) (ci := 8) (v := .int 100) (ty := .int) (C := RX9) (T := TX9) (N := 5) hx hb hts zl_X9_init_X9 tyX9 tyX9_ok nmX9 hown hK hP hD hS 0 rfl rfl 2 (by decide) (hts (.fieldLink RX9 18 "PageOne$Sheet" "measure" "I") (zat q_wsX9_init k_wsX9_init 93 rfl (by decide +kernel))) (fun _ h9 => h9) rfl (tyX9_ok 2 (by decide)) rfl rfl (Nat.le_of_ble_eq_true rfl) dX9_init_24 (fun H locs hP hD hS => ?_)
  have hP : va_P (dC, dI) vwCl [(h0, .inr (8, [.ref q_1, .ref q_3, .int 100, .int 0, .int 0])), (q_1, .inl (cI, 8, .inl (fun _ => 0))), (q_3, .inl (cI, 480, .inl (fun _ => 0)))] H := hP
  have hD : va_D A [(h0, .inr (8, [.ref q_1, .ref q_3, .int 100, .int 0, .int 0])), (q_1, .inl (cI, 8, .inl (fun _ => 0))), (q_3, .inl (cI, 480, .inl (fun _ => 0)))] := hD
  refine lv_aload_n hx hb dX9_init_27 rfl (lv_at hl 0 rfl) ?_
  refine lv_iconst (v := (-1)) hx hb dX9_init_28 (by decide) ?_
  refine va_put (D := (dC, dI)) (ci := 8) (v := .int (-1)) (ty := .int) (C := RX9) (T := TX9) (N := 5) hx hb hts zl_X9_init_X9 tyX9 tyX9_ok nmX9 hown hK hP hD hS 0 rfl rfl 3 (by decide) (hts (.fieldLink RX9 22 "PageOne$Sheet" "day" "I") (zat q_wsX9_init k_wsX9_init 95 rfl (by decide +kernel))) (fun _ h9 => h9) rfl (tyX9_ok 3 (by decide)) rfl rfl (Nat.le_of_ble_eq_true rfl) dX9_init_29 (fun H locs hP hD hS => ?_)
  have hP : va_P (dC, dI) vwCl [(h0, .inr (8, [.ref q_1, .ref q_3, .int 100, .int (-1), .int 0])), (q_1, .inl (cI, 8, .inl (fun _ => 0))), (q_3, .inl (cI, 480, .inl (fun _ => 0)))] H := hP
  have hD : va_D A [(h0, .inr (8, [.ref q_1, .ref q_3, .int 100, .int (-1), .int 0])), (q_1, .inl (cI, 8, .inl (fun _ => 0))), (q_3, .inl (cI, 480, .inl (fun _ => 0)))] := hD
  refine lv_aload_n hx hb dX9_init_32 rfl (lv_at hl 0 rfl) ?_
  refine lv_iconst (v := (-1)) hx hb dX9_init_33 (by decide) ?_
  refine va_put (D := (dC, dI)) (ci := 8) (v := .int (-1)) (ty := .int) (C := RX9) (T := TX9) (N := 5) hx hb hts zl_X9_init_X9 tyX9 tyX9_ok nmX9 hown hK hP hD hS 0 rfl rfl 4 (by decide) (hts (.fieldLink RX9 25 "PageOne$Sheet" "edition" "I") (zat q_wsX9_init k_wsX9_init 97 rfl (by decide +kernel))) (fun _ h9 => h9) rfl (tyX9_ok 4 (by decide)) rfl rfl (Nat.le_of_ble_eq_true rfl) dX9_init_34 (fun H locs hP hD hS => ?_)
  have hP : va_P (dC, dI) vwCl [(h0, .inr (8, [.ref q_1, .ref q_3, .int 100, .int (-1), .int (-1)])), (q_1, .inl (cI, 8, .inl (fun _ => 0))), (q_3, .inl (cI, 480, .inl (fun _ => 0)))] H := hP
  have hD : va_D A [(h0, .inr (8, [.ref q_1, .ref q_3, .int 100, .int (-1), .int (-1)])), (q_1, .inl (cI, 8, .inl (fun _ => 0))), (q_3, .inl (cI, 480, .inl (fun _ => 0)))] := hD
  refine lv_aload_n hx hb dX9_init_37 rfl (lv_at hl 0 rfl) ?_
  refine va_get (D := (dC, dI)) (ci := 8) (v := .ref q_3) (C := RX9) (T := TX9) (N := 5) hx hb hts zl_X9_init_X9 hown hK hP 0 rfl rfl 1 (by decide) (hts (.fieldLink RX9 15 "PageOne$Sheet" "cells" "[I") (zat q_wsX9_init k_wsX9_init 92 rfl (by decide +kernel))) (fun _ h9 => h9) rfl dX9_init_38 ?_
  refine lv_bipush (v := (-2)) hx hb dX9_init_41 (by decide) ?_
  have hPc := hP.sub (ws' := [(q_3, .inl (cI, 480, .inl (fun _ => 0)))]) [2] rfl
  have hKc := hK.sub (tys' := [(cI, .int)]) [0] rfl
  have hDc := hD.sub (ws' := [(q_3, .inl (cI, 480, .inl (fun _ => 0)))]) [2] (by decide) rfl
  have hFc := va_free (wc := [(q_3, .inl (cI, 480, .inl (fun _ => 0)))]) hD hS hA [2] rfl
  refine va_callv (va_runS (As := [.ref q_3, .int (-2)]) (rest := []) ⟨hx, hb, hml, hown, hts⟩ (j_fill l dC dI q_3 cI 480 (fun _ => 0) (-2) (by decide) H.size) (va_cwS 2 hts gX9_init_J7_fill_53178 rfl rfl rfl zh_J7_fill_53178_59 ⟨Nat.le_of_ble_eq_true rfl, Nat.le_of_ble_eq_true rfl⟩) ⟨gw_fb, fun U hU hW => ⟨rfl, by rw [hU], pw_to hU hW hPc hKc hN, hDc.weaken (fun _ _ _ _ => trivial)⟩⟩ rfl rfl hl.1 rfl (lv_room (Nat.le_of_ble_eq_true rfl)) dX9_init_43 ⟨Nat.le_of_ble_eq_true rfl, Nat.le_of_ble_eq_true rfl⟩) hS (fun q _ h => hFc q h) hFc (fun u t H1 locs ht hvm hw hB hz1 hk1 hS => ?_)
  obtain ⟨hP1, hD1⟩ := hB
  rw [ht] at hP1
  obtain ⟨hP, hD⟩ := va_join (wr := [(h0, .inr (8, [.ref q_1, .ref q_3, .int 100, .int (-1), .int (-1)])), (q_1, .inl (cI, 8, .inl (fun _ => 0)))]) (w1 := [(q_3, .inl (cI, 480, .inl (fun _ => (-2))))]) hP hD [2] [0, 1] rfl rfl (by decide) (by decide) hk1 hFc hP1 hD1
  generalize H1 = H at hP hS ⊢
  have hP : va_P (dC, dI) vwCl [(h0, .inr (8, [.ref q_1, .ref q_3, .int 100, .int (-1), .int (-1)])), (q_1, .inl (cI, 8, .inl (fun _ => 0))), (q_3, .inl (cI, 480, .inl (fun _ => (-2))))] H := hP
  have hD : va_D A [(h0, .inr (8, [.ref q_1, .ref q_3, .int 100, .int (-1), .int (-1)])), (q_1, .inl (cI, 8, .inl (fun _ => 0))), (q_3, .inl (cI, 480, .inl (fun _ => (-2))))] := hD
  refine W.widen (k := 2) (n := 488) (Nat.le_of_ble_eq_true rfl) (Nat.le_of_ble_eq_true rfl) ?_
  exact W.vret hx hb hr (fun t ht hW => ⟨⟨(), rfl, trivial, ⟨q_1, q_3, by rw [ht]; exact hP.sub [1, 2, 0] rfl, hD.sub [1, 2, 0] (by decide) rfl⟩⟩, hS.F ht⟩) hS.2.2 dX9_init_46
set_option maxHeartbeats 4000000 in
set_option maxRecDepth 100000 in
theorem xn_Item_Story (l : Launch) (dC : Nat → ClassId) (dI : Nat → Nat → Nat) (h0 : Nat) (cI cP : ClassId) (p0 : Int32) (sz : Nat) : Met l yX4_init wsX4_init ({ frames := 1, cells := 2, slots := 11, locals := 23 }) (va_Pc [.ref h0, .int p0, .int 0, .int 6] (fun U => U.heap.size = sz ∧ PW dC dI [(h0, .inr (9, [.int 0, .int 0, .null, .int 0, .null, .int 0, .null, .int 0, .null]))] [(cI, .int), (cP, .object "PageOne$Piece")] U ∧ va_D (fun _ => True) [(h0, .inr (9, [.int 0, .int 0, .null, .int 0, .null, .int 0, .null, .int 0, .null]))])) (va_Qv (fun _ : Unit => True) (fun _ t => ∃ q1 q2 : Nat, va_P (dC, dI) vwCl [(q1, .inl (cI, 5, .inl (fun _ => (-1)))), (q2, .inl (cP, 6, .inr (.inr (.inr (.inr (fun _ => none)))))), (h0, .inr (9, [.int p0, .int 0, .ref q2, .int 0, .ref q1, .int 0, .null, .int 0, .null]))] t.heap ∧ va_D (va_A [(h0, .inr (9, [.int 0, .int 0, .null, .int 0, .null, .int 0, .null, .int 0, .null]))] sz) [(q1, .inl (cI, 5, .inl (fun _ => (-1)))), (q2, .inl (cP, 6, .inr (.inr (.inr (.inr (fun _ => none)))))), (h0, .inr (9, [.int p0, .int 0, .ref q2, .int 0, .ref q1, .int 0, .null, .int 0, .null]))]) (va_A [(h0, .inr (9, [.int 0, .int 0, .null, .int 0, .null, .int 0, .null, .int 0, .null]))] sz)) 2 11 (va_A [(h0, .inr (9, [.int 0, .int 0, .null, .int 0, .null, .int 0, .null, .int 0, .null]))] sz) := by
  refine Met.ofW (cc := cX4_init) (maxL := 4) (ret := none) (by decide) rfl ?_
  intro p e s m args below meth c s₁ B hml hv
  obtain ⟨rfl, hsz, ⟨hP, hK, hN⟩, hD0⟩ := hv
  have hx := B.exec
  have hb := B.bytes
  have hr := B.returns
  have hts := atoms_spec (ws := wsX4_init) B.pre
  have hown : s.vm.findClass RX4 = some m.cls := findClass_of_methodNamed B.named
  have hlocks := B.notSynchronized
  have hin : meth.name = "<init>" := (name_of_methodNamed B.named B.method).1
  subst hsz
  have hD := hD0.self (sz := s.heap.size)
  generalize hAe : va_A [(h0, .inr (9, [.int 0, .int 0, .null, .int 0, .null, .int 0, .null, .int 0, .null]))] s.heap.size = A at hD ⊢
  have hA : ∀ q : Nat, s.heap.size ≤ q → A q := fun q h => by rw [← hAe]; exact Or.inr h
  have hS : va_S A s.heap s.heap [] := va_S.rf
  have hP : va_P (dC, dI) vwCl [(h0, .inr (9, [.int 0, .int 0, .null, .int 0, .null, .int 0, .null, .int 0, .null]))] s.heap := hP
  have hl := lv_entry ([.ref h0, .int p0, .int 0, .int 6]) (n := 4) (Nat.le_of_ble_eq_true rfl)
  rw [lg_entry_eq]
  generalize (lg_sl ([.ref h0, .int p0, .int 0, .int 6]) ++ List.replicate (4 - (lg_sl ([.ref h0, .int p0, .int 0, .int 6])).length) Slot.unset).toArray = ls at hl ⊢
  have hl : lv_has ls 4 [(0, .ref h0), (1, .int p0), (2, .int 0), (3, .int 6)] := hl
  refine lv_aload_n hx hb dX4_init_0 rfl (lv_at hl 0 rfl) ?_
  refine W.objInit hx hb hown (hts (.methodLink RX4 3 objectInit) (zat q_wsX4_init k_wsX4_init 169 rfl (by decide +kernel))) (hts (.instanceMethod objectInit) (zat q_wsX4_init k_wsX4_init 74 rfl (by decide +kernel))) (hts (.code objectInit ⟨#[0xb1]⟩ 1 none) (zat q_wsX4_init k_wsX4_init 75 rfl (by decide +kernel))) rfl (by rw [hml]; exact hl.1) rfl dX4_init_1 (Nat.le_of_ble_eq_true rfl) (Nat.le_of_ble_eq_true rfl) ?_
  refine W.eq (g2 := F0 m 4 ls []) rfl ?_
  refine lv_aload_n hx hb dX4_init_4 rfl (lv_at hl 0 rfl) ?_
  refine lv_iconst (v := 0) hx hb dX4_init_5 (by decide) ?_
  refine va_put (D := (dC, dI)) (ci := 9) (v := .int 0) (ty := .int) (C := RX10) (T := TX10) (N := 9) hx hb hts zl_X4_init_X10 tyX10 tyX10_ok nmX10 hown hK hP hD hS 0 rfl rfl 3 (by decide) (hts (.fieldLink RX4 9 "PageOne$Item" "count" "I") (zat q_wsX4_init k_wsX4_init 194 rfl (by decide +kernel))) (fun _ h9 => h9) rfl (tyX10_ok 3 (by decide)) rfl rfl (Nat.le_of_ble_eq_true rfl) dX4_init_6 (fun H locs hP hD hS => ?_)
  have hP : va_P (dC, dI) vwCl [(h0, .inr (9, [.int 0, .int 0, .null, .int 0, .null, .int 0, .null, .int 0, .null]))] H := hP
  have hD : va_D A [(h0, .inr (9, [.int 0, .int 0, .null, .int 0, .null, .int 0, .null, .int 0, .null]))] := hD
  refine lv_aload_n hx hb dX4_init_9 rfl (lv_at hl 0 rfl) ?_
  refine lv_iconst (v := 5) hx hb dX4_init_10 (by decide) ?_
  refine va_newa (atype := .int) (ty := .int) (a0 := (5, .inl (fun _ => 0))) (N' := 5) hx hb (hts (.arrayClass .int) (zat q_wsX4_init k_wsX4_init 111 rfl (by decide +kernel))) rfl hK hP hD hS hA (newI 5) (by decide) (by decide) (nbI (Nat.le_of_ble_eq_true rfl)) (Nat.le_of_ble_eq_true rfl) (Nat.le_of_ble_eq_true rfl) dX4_init_11 (fun q_1 cA_2 H hK hP hD hS => ?_)
  obtain rfl : cI = cA_2 := kuniq hK 0 2 rfl rfl
  have hK := hK.sub (tys' := [(cI, .int), (cP, .object "PageOne$Piece")]) [0, 1] rfl
  have hK : va_K (dC, dI) vwCl [(cI, .int), (cP, .object "PageOne$Piece")] s := hK
  have hP : va_P (dC, dI) vwCl [(h0, .inr (9, [.int 0, .int 0, .null, .int 0, .null, .int 0, .null, .int 0, .null])), (q_1, .inl (cI, 5, .inl (fun _ => 0)))] H := hP
  have hD : va_D A [(h0, .inr (9, [.int 0, .int 0, .null, .int 0, .null, .int 0, .null, .int 0, .null])), (q_1, .inl (cI, 5, .inl (fun _ => 0)))] := hD
  refine W.widen (k := 1) (n := 5) (Nat.le_of_ble_eq_true rfl) (Nat.le_of_ble_eq_true rfl) ?_
  refine va_putF (D := (dC, dI)) (ci := 9) (v := .ref q_1) (ty := .array .int) (C := RX10) (T := TX10) (N := 9) hx hb hts zl_X4_init_X10 tyX10 tyX10_ok nmX10 hown hK hP hD hS 0 rfl rfl 4 (by decide) (hts (.fieldLink RX4 15 "PageOne$Item" "first" "[I") (zat q_wsX4_init k_wsX4_init 198 rfl (by decide +kernel))) (fun _ h9 => h9) rfl hin rfl (tyX10_ok 4 (by decide)) rfl rfl (Nat.le_of_ble_eq_true rfl) dX4_init_13 (fun H locs hP hD hS => ?_)
  have hP : va_P (dC, dI) vwCl [(h0, .inr (9, [.int 0, .int 0, .null, .int 0, .ref q_1, .int 0, .null, .int 0, .null])), (q_1, .inl (cI, 5, .inl (fun _ => 0)))] H := hP
  have hD : va_D A [(h0, .inr (9, [.int 0, .int 0, .null, .int 0, .ref q_1, .int 0, .null, .int 0, .null])), (q_1, .inl (cI, 5, .inl (fun _ => 0)))] := hD
  refine lv_aload_n hx hb dX4_init_16 rfl (lv_at hl 0 rfl) ?_
  refine lv_iload_n hx hb dX4_init_17 rfl (lv_at hl 1 rfl) ?_
  refine va_putF (D := (dC, dI)) (ci := 9) (v := .int p0) (ty := .int) (C := RX10) (T := TX10) (N := 9) hx hb hts zl_X4_init_X10 tyX10 tyX10_ok nmX10 hown hK hP hD hS 0 rfl rfl 0 (by decide) (hts (.fieldLink RX4 19 "PageOne$Item" "number" "I") (zat q_wsX4_init k_wsX4_init 181 rfl (by decide +kernel))) (fun _ h9 => h9) rfl hin rfl (tyX10_ok 0 (by decide)) rfl rfl (Nat.le_of_ble_eq_true rfl) dX4_init_18 (fun H locs hP hD hS => ?_)
  have hP : va_P (dC, dI) vwCl [(h0, .inr (9, [.int p0, .int 0, .null, .int 0, .ref q_1, .int 0, .null, .int 0, .null])), (q_1, .inl (cI, 5, .inl (fun _ => 0)))] H := hP
  have hD : va_D A [(h0, .inr (9, [.int p0, .int 0, .null, .int 0, .ref q_1, .int 0, .null, .int 0, .null])), (q_1, .inl (cI, 5, .inl (fun _ => 0)))] := hD
  refine lv_aload_n hx hb dX4_init_21 rfl (lv_at hl 0 rfl) ?_
  refine lv_iload_n hx hb dX4_init_22 rfl (lv_at hl 2 rfl) ?_
  refine va_putF (D := (dC, dI)) (ci := 9) (v := .int 0) (ty := .int) (C := RX10) (T := TX10) (N := 9) hx hb hts zl_X4_init_X10 tyX10 tyX10_ok nmX10 hown hK hP hD hS 0 rfl rfl 1 (by decide) (hts (.fieldLink RX4 22 "PageOne$Item" "kind" "I") (zat q_wsX4_init k_wsX4_init 188 rfl (by decide +kernel))) (fun _ h9 => h9) rfl hin rfl (tyX10_ok 1 (by decide)) rfl rfl (Nat.le_of_ble_eq_true rfl) dX4_init_23 (fun H locs hP hD hS => ?_)
  have hP : va_P (dC, dI) vwCl [(h0, .inr (9, [.int p0, .int 0, .null, .int 0, .ref q_1, .int 0, .null, .int 0, .null])), (q_1, .inl (cI, 5, .inl (fun _ => 0)))] H := hP
  have hD : va_D A [(h0, .inr (9, [.int p0, .int 0, .null, .int 0, .ref q_1, .int 0, .null, .int 0, .null])), (q_1, .inl (cI, 5, .inl (fun _ => 0)))] := hD
  refine lv_aload_n hx hb dX4_init_26 rfl (lv_at hl 0 rfl) ?_
  refine lv_iload_n hx hb dX4_init_27 rfl (lv_at hl 3 rfl) ?_
  refine lv_iconst (v := 1) hx hb dX4_init_28 (by decide) ?_
  refine lv_bipush (v := 6) hx hb dX4_init_29 (by decide) ?_
  have hPc := hP.sub (ws' := []) [] rfl
  have hKc := hK.sub (tys' := []) [] rfl
  refine vp_callSi (va_runSN (As := [.int 6, .int 1, .int 6]) (rest := [.ref h0]) ⟨hx, hb, hml, hown, hts⟩ (x_isWithin l dC dI 6 1 6) ⟨va_cnB (host := "PageOne") 3 hts gX4_init_X11_isWithin_n25 rfl rfl rfl hN.n_RX4_25 (hts (.initialized RX11) (zat q_wsX4_init k_wsX4_init 53 rfl (by decide +kernel))) (by decide +kernel) ⟨Nat.le_of_ble_eq_true rfl, Nat.le_of_ble_eq_true rfl⟩, hts (.static yX11_isWithin) (zat q_wsX4_init k_wsX4_init 148 rfl (by decide +kernel)), trivial⟩ ⟨pw_fb, fun U hU hW => ⟨rfl, pw_to hU hW hPc hKc hN⟩⟩ rfl rfl hl.1 rfl (lv_room (Nat.le_of_ble_eq_true rfl)) dX4_init_31 ⟨Nat.le_of_ble_eq_true rfl, Nat.le_of_ble_eq_true rfl⟩).run (fun r hw => ?_)
  obtain rfl : r = 1 := hw.trans (by decide)
  refine lv_if_eq (tgt := 41) hx hb dX4_init_34 (by decide) (fun c_3 => absurd c_3 (by decide)) (fun c_3 => ?_)
  refine lv_iload_n hx hb dX4_init_37 rfl (lv_at hl 3 rfl) ?_
  refine lv_goto (tgt := 42) hx hb dX4_init_38 (by decide) ?_
  refine va_newq (N' := 6) (C := RX8) hx hb hown (hts (.classLink RX4 29 RX8) (zat q_wsX4_init k_wsX4_init 171 rfl (by decide +kernel))) hN.ao_Piece hK hP hD hS hA (by decide) (by decide) (by decide) (Nat.le_of_ble_eq_true rfl) (Nat.le_of_ble_eq_true rfl) dX4_init_42 (fun q_4 cA_5 H hK hP hD hS => ?_)
  obtain rfl : cP = cA_5 := kuniqo hK 1 2 rfl rfl
  have hK := hK.sub (tys' := [(cI, .int), (cP, .object "PageOne$Piece")]) [0, 1] rfl
  have hK : va_K (dC, dI) vwCl [(cI, .int), (cP, .object "PageOne$Piece")] s := hK
  have hP : va_P (dC, dI) vwCl [(h0, .inr (9, [.int p0, .int 0, .null, .int 0, .ref q_1, .int 0, .null, .int 0, .null])), (q_1, .inl (cI, 5, .inl (fun _ => 0))), (q_4, .inl (cP, 6, .inr (.inr (.inr (.inr (fun _ => none))))))] H := hP
  have hD : va_D A [(h0, .inr (9, [.int p0, .int 0, .null, .int 0, .ref q_1, .int 0, .null, .int 0, .null])), (q_1, .inl (cI, 5, .inl (fun _ => 0))), (q_4, .inl (cP, 6, .inr (.inr (.inr (.inr (fun _ => none))))))] := hD
  refine W.widen (k := 2) (n := 11) (Nat.le_of_ble_eq_true rfl) (Nat.le_of_ble_eq_true rfl) ?_
  refine va_putF (D := (dC, dI)) (ci := 9) (v := .ref q_4) (ty := .array (.object "PageOne$Piece")) (C := RX10) (T := TX10) (N := 9) hx hb hts zl_X4_init_X10 tyX10 tyX10_ok nmX10 hown hK hP hD hS 0 rfl rfl 2 (by decide) (hts (.fieldLink RX4 31 "PageOne$Item" "pieces" "[LPageOne$Piece;") (zat q_wsX4_init k_wsX4_init 190 rfl (by decide +kernel))) (fun _ h9 => h9) rfl hin rfl (tyX10_ok 2 (by decide)) rfl rfl (Nat.le_of_ble_eq_true rfl) dX4_init_45 (fun H locs hP hD hS => ?_)
  have hP : va_P (dC, dI) vwCl [(h0, .inr (9, [.int p0, .int 0, .ref q_4, .int 0, .ref q_1, .int 0, .null, .int 0, .null])), (q_1, .inl (cI, 5, .inl (fun _ => 0))), (q_4, .inl (cP, 6, .inr (.inr (.inr (.inr (fun _ => none))))))] H := hP
  have hD : va_D A [(h0, .inr (9, [.int p0, .int 0, .ref q_4, .int 0, .ref q_1, .int 0, .null, .int 0, .null])), (q_1, .inl (cI, 5, .inl (fun _ => 0))), (q_4, .inl (cP, 6, .inr (.inr (.inr (.inr (fun _ => none))))))] := hD
  refine lv_aload_n hx hb dX4_init_48 rfl (lv_at hl 0 rfl) ?_
  refine va_get (D := (dC, dI)) (ci := 9) (v := .ref q_1) (C := RX10) (T := TX10) (N := 9) hx hb hts zl_X4_init_X10 hown hK hP 0 rfl rfl 4 (by decide) (hts (.fieldLink RX4 15 "PageOne$Item" "first" "[I") (zat q_wsX4_init k_wsX4_init 198 rfl (by decide +kernel))) (fun _ h9 => h9) rfl dX4_init_49 ?_
  refine lv_iconst (v := (-1)) hx hb dX4_init_52 (by decide) ?_
  have hPc := hP.sub (ws' := [(q_1, .inl (cI, 5, .inl (fun _ => 0)))]) [1] rfl
  have hKc := hK.sub (tys' := [(cI, .int)]) [0] rfl
  have hDc := hD.sub (ws' := [(q_1, .inl (cI, 5, .inl (fun _ => 0)))]) [1] (by decide) rfl
  have hFc := va_free (wc := [(q_1, .inl (cI, 5, .inl (fun _ => 0)))]) hD hS hA [1] rfl
  refine va_callv (va_runS (As := [.ref q_1, .int (-1)]) (rest := []) ⟨hx, hb, hml, hown, hts⟩ (j_fill l dC dI q_1 cI 5 (fun _ => 0) (-1) (by decide) H.size) (va_cwS 2 hts gX4_init_J7_fill_53178 rfl rfl rfl zh_J7_fill_53178_59 ⟨Nat.le_of_ble_eq_true rfl, Nat.le_of_ble_eq_true rfl⟩) ⟨gw_fb, fun U hU hW => ⟨rfl, by rw [hU], pw_to hU hW hPc hKc hN, hDc.weaken (fun _ _ _ _ => trivial)⟩⟩ rfl rfl hl.1 rfl (lv_room (Nat.le_of_ble_eq_true rfl)) dX4_init_53 ⟨Nat.le_of_ble_eq_true rfl, Nat.le_of_ble_eq_true rfl⟩) hS (fun q _ h => hFc q h) hFc (fun u t H1 locs ht hvm hw hB hz1 hk1 hS => ?_)
  obtain ⟨hP1, hD1⟩ := hB
  rw [ht] at hP1
  obtain ⟨hP, hD⟩ := va_join (wr := [(h0, .inr (9, [.int p0, .int 0, .ref q_4, .int 0, .ref q_1, .int 0, .null, .int 0, .null])), (q_4, .inl (cP, 6, .inr (.inr (.inr (.inr (fun _ => none))))))]) (w1 := [(q_1, .inl (cI, 5, .inl (fun _ => (-1))))]) hP hD [1] [0, 2] rfl rfl (by decide) (by decide) hk1 hFc hP1 hD1
  generalize H1 = H at hP hS ⊢
  have hP : va_P (dC, dI) vwCl [(h0, .inr (9, [.int p0, .int 0, .ref q_4, .int 0, .ref q_1, .int 0, .null, .int 0, .null])), (q_4, .inl (cP, 6, .inr (.inr (.inr (.inr (fun _ => none)))))), (q_1, .inl (cI, 5, .inl (fun _ => (-1))))] H := hP
  have hD : va_D A [(h0, .inr (9, [.int p0, .int 0, .ref q_4, .int 0, .ref q_1, .int 0, .null, .int 0, .null])), (q_4, .inl (cP, 6, .inr (.inr (.inr (.inr (fun _ => none)))))), (q_1, .inl (cI, 5, .inl (fun _ => (-1))))] := hD
  refine W.widen (k := 2) (n := 11) (Nat.le_of_ble_eq_true rfl) (Nat.le_of_ble_eq_true rfl) ?_
  exact W.vret hx hb hr (fun t ht hW => ⟨⟨(), rfl, trivial, ⟨q_1, q_4, by rw [ht]; exact hP.sub [2, 1, 0] rfl, hD.sub [2, 1, 0] (by decide) rfl⟩⟩, hS.F ht⟩) hS.2.2 dX4_init_56
set_option maxHeartbeats 4000000 in
set_option maxRecDepth 100000 in
theorem xn_Item_Head (l : Launch) (dC : Nat → ClassId) (dI : Nat → Nat → Nat) (h0 : Nat) (cI cP : ClassId) (p0 : Int32) (sz : Nat) : Met l yX4_init wsX4_init ({ frames := 1, cells := 2, slots := 6, locals := 23 }) (va_Pc [.ref h0, .int p0, .int 1, .int 1] (fun U => U.heap.size = sz ∧ PW dC dI [(h0, .inr (3, [.int 0, .int 0, .null, .int 0, .null, .null, .int 0, .int 0]))] [(cI, .int), (cP, .object "PageOne$Piece")] U ∧ va_D (fun _ => True) [(h0, .inr (3, [.int 0, .int 0, .null, .int 0, .null, .null, .int 0, .int 0]))])) (va_Qv (fun _ : Unit => True) (fun _ t => ∃ q1 q2 : Nat, va_P (dC, dI) vwCl [(q1, .inl (cI, 5, .inl (fun _ => (-1)))), (q2, .inl (cP, 1, .inr (.inr (.inr (.inr (fun _ => none)))))), (h0, .inr (3, [.int p0, .int 1, .ref q2, .int 0, .ref q1, .null, .int 0, .int 0]))] t.heap ∧ va_D (va_A [(h0, .inr (3, [.int 0, .int 0, .null, .int 0, .null, .null, .int 0, .int 0]))] sz) [(q1, .inl (cI, 5, .inl (fun _ => (-1)))), (q2, .inl (cP, 1, .inr (.inr (.inr (.inr (fun _ => none)))))), (h0, .inr (3, [.int p0, .int 1, .ref q2, .int 0, .ref q1, .null, .int 0, .int 0]))]) (va_A [(h0, .inr (3, [.int 0, .int 0, .null, .int 0, .null, .null, .int 0, .int 0]))] sz)) 2 6 (va_A [(h0, .inr (3, [.int 0, .int 0, .null, .int 0, .null, .null, .int 0, .int 0]))] sz) := by
  refine Met.ofW (cc := cX4_init) (maxL := 4) (ret := none) (by decide) rfl ?_
  intro p e s m args below meth c s₁ B hml hv
  obtain ⟨rfl, hsz, ⟨hP, hK, hN⟩, hD0⟩ := hv
  have hx := B.exec
  have hb := B.bytes
  have hr := B.returns
  have hts := atoms_spec (ws := wsX4_init) B.pre
  have hown : s.vm.findClass RX4 = some m.cls := findClass_of_methodNamed B.named
  have hlocks := B.notSynchronized
  have hin : meth.name = "<init>" := (name_of_methodNamed B.named B.method).1
  subst hsz
  have hD := hD0.self (sz := s.heap.size)
  generalize hAe : va_A [(h0, .inr (3, [.int 0, .int 0, .null, .int 0, .null, .null, .int 0, .int 0]))] s.heap.size = A at hD ⊢
  have hA : ∀ q : Nat, s.heap.size ≤ q → A q := fun q h => by rw [← hAe]; exact Or.inr h
  have hS : va_S A s.heap s.heap [] := va_S.rf
  have hP : va_P (dC, dI) vwCl [(h0, .inr (3, [.int 0, .int 0, .null, .int 0, .null, .null, .int 0, .int 0]))] s.heap := hP
  have hl := lv_entry ([.ref h0, .int p0, .int 1, .int 1]) (n := 4) (Nat.le_of_ble_eq_true rfl)
  rw [lg_entry_eq]
  generalize (lg_sl ([.ref h0, .int p0, .int 1, .int 1]) ++ List.replicate (4 - (lg_sl ([.ref h0, .int p0, .int 1, .int 1])).length) Slot.unset).toArray = ls at hl ⊢
  have hl : lv_has ls 4 [(0, .ref h0), (1, .int p0), (2, .int 1), (3, .int 1)] := hl
  refine lv_aload_n hx hb dX4_init_0 rfl (lv_at hl 0 rfl) ?_
  refine W.objInit hx hb hown (hts (.methodLink RX4 3 objectInit) (zat q_wsX4_init k_wsX4_init 169 rfl (by decide +kernel))) (hts (.instanceMethod objectInit) (zat q_wsX4_init k_wsX4_init 74 rfl (by decide +kernel))) (hts (.code objectInit ⟨#[0xb1]⟩ 1 none) (zat q_wsX4_init k_wsX4_init 75 rfl (by decide +kernel))) rfl (by rw [hml]; exact hl.1) rfl dX4_init_1 (Nat.le_of_ble_eq_true rfl) (Nat.le_of_ble_eq_true rfl) ?_
  refine W.eq (g2 := F0 m 4 ls []) rfl ?_
  refine lv_aload_n hx hb dX4_init_4 rfl (lv_at hl 0 rfl) ?_
  refine lv_iconst (v := 0) hx hb dX4_init_5 (by decide) ?_
  refine va_put (D := (dC, dI)) (ci := 3) (v := .int 0) (ty := .int) (C := RX3) (T := TX3) (N := 8) hx hb hts zl_X4_init_X3 tyX3 tyX3_ok nmX3 hown hK hP hD hS 0 rfl rfl 3 (by decide) (hts (.fieldLink RX4 9 "PageOne$Item" "count" "I") (zat q_wsX4_init k_wsX4_init 194 rfl (by decide +kernel))) (fun _ h9 => h9) rfl (tyX3_ok 3 (by decide)) rfl rfl (Nat.le_of_ble_eq_true rfl) dX4_init_6 (fun H locs hP hD hS => ?_)
  have hP : va_P (dC, dI) vwCl [(h0, .inr (3, [.int 0, .int 0, .null, .int 0, .null, .null, .int 0, .int 0]))] H := hP
  have hD : va_D A [(h0, .inr (3, [.int 0, .int 0, .null, .int 0, .null, .null, .int 0, .int 0]))] := hD
  refine lv_aload_n hx hb dX4_init_9 rfl (lv_at hl 0 rfl) ?_
  refine lv_iconst (v := 5) hx hb dX4_init_10 (by decide) ?_
  refine va_newa (atype := .int) (ty := .int) (a0 := (5, .inl (fun _ => 0))) (N' := 5) hx hb (hts (.arrayClass .int) (zat q_wsX4_init k_wsX4_init 111 rfl (by decide +kernel))) rfl hK hP hD hS hA (newI 5) (by decide) (by decide) (nbI (Nat.le_of_ble_eq_true rfl)) (Nat.le_of_ble_eq_true rfl) (Nat.le_of_ble_eq_true rfl) dX4_init_11 (fun q_1 cA_2 H hK hP hD hS => ?_)
  obtain rfl : cI = cA_2 := kuniq hK 0 2 rfl rfl
  have hK := hK.sub (tys' := [(cI, .int), (cP, .object "PageOne$Piece")]) [0, 1] rfl
  have hK : va_K (dC, dI) vwCl [(cI, .int), (cP, .object "PageOne$Piece")] s := hK
  have hP : va_P (dC, dI) vwCl [(h0, .inr (3, [.int 0, .int 0, .null, .int 0, .null, .null, .int 0, .int 0])), (q_1, .inl (cI, 5, .inl (fun _ => 0)))] H := hP
  have hD : va_D A [(h0, .inr (3, [.int 0, .int 0, .null, .int 0, .null, .null, .int 0, .int 0])), (q_1, .inl (cI, 5, .inl (fun _ => 0)))] := hD
  refine W.widen (k := 1) (n := 5) (Nat.le_of_ble_eq_true rfl) (Nat.le_of_ble_eq_true rfl) ?_
  refine va_putF (D := (dC, dI)) (ci := 3) (v := .ref q_1) (ty := .array .int) (C := RX3) (T := TX3) (N := 8) hx hb hts zl_X4_init_X3 tyX3 tyX3_ok nmX3 hown hK hP hD hS 0 rfl rfl 4 (by decide) (hts (.fieldLink RX4 15 "PageOne$Item" "first" "[I") (zat q_wsX4_init k_wsX4_init 198 rfl (by decide +kernel))) (fun _ h9 => h9) rfl hin rfl (tyX3_ok 4 (by decide)) rfl rfl (Nat.le_of_ble_eq_true rfl) dX4_init_13 (fun H locs hP hD hS => ?_)
  have hP : va_P (dC, dI) vwCl [(h0, .inr (3, [.int 0, .int 0, .null, .int 0, .ref q_1, .null, .int 0, .int 0])), (q_1, .inl (cI, 5, .inl (fun _ => 0)))] H := hP
  have hD : va_D A [(h0, .inr (3, [.int 0, .int 0, .null, .int 0, .ref q_1, .null, .int 0, .int 0])), (q_1, .inl (cI, 5, .inl (fun _ => 0)))] := hD
  refine lv_aload_n hx hb dX4_init_16 rfl (lv_at hl 0 rfl) ?_
  refine lv_iload_n hx hb dX4_init_17 rfl (lv_at hl 1 rfl) ?_
  refine va_putF (D := (dC, dI)) (ci := 3) (v := .int p0) (ty := .int) (C := RX3) (T := TX3) (N := 8) hx hb hts zl_X4_init_X3 tyX3 tyX3_ok nmX3 hown hK hP hD hS 0 rfl rfl 0 (by decide) (hts (.fieldLink RX4 19 "PageOne$Item" "number" "I") (zat q_wsX4_init k_wsX4_init 181 rfl (by decide +kernel))) (fun _ h9 => h9) rfl hin rfl (tyX3_ok 0 (by decide)) rfl rfl (Nat.le_of_ble_eq_true rfl) dX4_init_18 (fun H locs hP hD hS => ?_)
  have hP : va_P (dC, dI) vwCl [(h0, .inr (3, [.int p0, .int 0, .null, .int 0, .ref q_1, .null, .int 0, .int 0])), (q_1, .inl (cI, 5, .inl (fun _ => 0)))] H := hP
  have hD : va_D A [(h0, .inr (3, [.int p0, .int 0, .null, .int 0, .ref q_1, .null, .int 0, .int 0])), (q_1, .inl (cI, 5, .inl (fun _ => 0)))] := hD
  refine lv_aload_n hx hb dX4_init_21 rfl (lv_at hl 0 rfl) ?_
  refine lv_iload_n hx hb dX4_init_22 rfl (lv_at hl 2 rfl) ?_
  refine va_putF (D := (dC, dI)) (ci := 3) (v := .int 1) (ty := .int) (C := RX3) (T := TX3) (N := 8) hx hb hts zl_X4_init_X3 tyX3 tyX3_ok nmX3 hown hK hP hD hS 0 rfl rfl 1 (by decide) (hts (.fieldLink RX4 22 "PageOne$Item" "kind" "I") (zat q_wsX4_init k_wsX4_init 188 rfl (by decide +kernel))) (fun _ h9 => h9) rfl hin rfl (tyX3_ok 1 (by decide)) rfl rfl (Nat.le_of_ble_eq_true rfl) dX4_init_23 (fun H locs hP hD hS => ?_)
  have hP : va_P (dC, dI) vwCl [(h0, .inr (3, [.int p0, .int 1, .null, .int 0, .ref q_1, .null, .int 0, .int 0])), (q_1, .inl (cI, 5, .inl (fun _ => 0)))] H := hP
  have hD : va_D A [(h0, .inr (3, [.int p0, .int 1, .null, .int 0, .ref q_1, .null, .int 0, .int 0])), (q_1, .inl (cI, 5, .inl (fun _ => 0)))] := hD
  refine lv_aload_n hx hb dX4_init_26 rfl (lv_at hl 0 rfl) ?_
  refine lv_iload_n hx hb dX4_init_27 rfl (lv_at hl 3 rfl) ?_
  refine lv_iconst (v := 1) hx hb dX4_init_28 (by decide) ?_
  refine lv_bipush (v := 6) hx hb dX4_init_29 (by decide) ?_
  have hPc := hP.sub (ws' := []) [] rfl
  have hKc := hK.sub (tys' := []) [] rfl
  refine vp_callSi (va_runSN (As := [.int 1, .int 1, .int 6]) (rest := [.ref h0]) ⟨hx, hb, hml, hown, hts⟩ (x_isWithin l dC dI 1 1 6) ⟨va_cnB (host := "PageOne") 3 hts gX4_init_X11_isWithin_n25 rfl rfl rfl hN.n_RX4_25 (hts (.initialized RX11) (zat q_wsX4_init k_wsX4_init 53 rfl (by decide +kernel))) (by decide +kernel) ⟨Nat.le_of_ble_eq_true rfl, Nat.le_of_ble_eq_true rfl⟩, hts (.static yX11_isWithin) (zat q_wsX4_init k_wsX4_init 148 rfl (by decide +kernel)), trivial⟩ ⟨pw_fb, fun U hU hW => ⟨rfl, pw_to hU hW hPc hKc hN⟩⟩ rfl rfl hl.1 rfl (lv_room (Nat.le_of_ble_eq_true rfl)) dX4_init_31 ⟨Nat.le_of_ble_eq_true rfl, Nat.le_of_ble_eq_true rfl⟩).run (fun r hw => ?_)
  obtain rfl : r = 1 := hw.trans (by decide)
  refine lv_if_eq (tgt := 41) hx hb dX4_init_34 (by decide) (fun c_3 => absurd c_3 (by decide)) (fun c_3 => ?_)
  refine lv_iload_n hx hb dX4_init_37 rfl (lv_at hl 3 rfl) ?_
  refine lv_goto (tgt := 42) hx hb dX4_init_38 (by decide) ?_
  refine va_newq (N' := 1) (C := RX8) hx hb hown (hts (.classLink RX4 29 RX8) (zat q_wsX4_init k_wsX4_init 171 rfl (by decide +kernel))) hN.ao_Piece hK hP hD hS hA (by decide) (by decide) (by decide) (Nat.le_of_ble_eq_true rfl) (Nat.le_of_ble_eq_true rfl) dX4_init_42 (fun q_4 cA_5 H hK hP hD hS => ?_)
  obtain rfl : cP = cA_5 := kuniqo hK 1 2 rfl rfl
  have hK := hK.sub (tys' := [(cI, .int), (cP, .object "PageOne$Piece")]) [0, 1] rfl
  have hK : va_K (dC, dI) vwCl [(cI, .int), (cP, .object "PageOne$Piece")] s := hK
  have hP : va_P (dC, dI) vwCl [(h0, .inr (3, [.int p0, .int 1, .null, .int 0, .ref q_1, .null, .int 0, .int 0])), (q_1, .inl (cI, 5, .inl (fun _ => 0))), (q_4, .inl (cP, 1, .inr (.inr (.inr (.inr (fun _ => none))))))] H := hP
  have hD : va_D A [(h0, .inr (3, [.int p0, .int 1, .null, .int 0, .ref q_1, .null, .int 0, .int 0])), (q_1, .inl (cI, 5, .inl (fun _ => 0))), (q_4, .inl (cP, 1, .inr (.inr (.inr (.inr (fun _ => none))))))] := hD
  refine W.widen (k := 2) (n := 6) (Nat.le_of_ble_eq_true rfl) (Nat.le_of_ble_eq_true rfl) ?_
  refine va_putF (D := (dC, dI)) (ci := 3) (v := .ref q_4) (ty := .array (.object "PageOne$Piece")) (C := RX3) (T := TX3) (N := 8) hx hb hts zl_X4_init_X3 tyX3 tyX3_ok nmX3 hown hK hP hD hS 0 rfl rfl 2 (by decide) (hts (.fieldLink RX4 31 "PageOne$Item" "pieces" "[LPageOne$Piece;") (zat q_wsX4_init k_wsX4_init 190 rfl (by decide +kernel))) (fun _ h9 => h9) rfl hin rfl (tyX3_ok 2 (by decide)) rfl rfl (Nat.le_of_ble_eq_true rfl) dX4_init_45 (fun H locs hP hD hS => ?_)
  have hP : va_P (dC, dI) vwCl [(h0, .inr (3, [.int p0, .int 1, .ref q_4, .int 0, .ref q_1, .null, .int 0, .int 0])), (q_1, .inl (cI, 5, .inl (fun _ => 0))), (q_4, .inl (cP, 1, .inr (.inr (.inr (.inr (fun _ => none))))))] H := hP
  have hD : va_D A [(h0, .inr (3, [.int p0, .int 1, .ref q_4, .int 0, .ref q_1, .null, .int 0, .int 0])), (q_1, .inl (cI, 5, .inl (fun _ => 0))), (q_4, .inl (cP, 1, .inr (.inr (.inr (.inr (fun _ => none))))))] := hD
  refine lv_aload_n hx hb dX4_init_48 rfl (lv_at hl 0 rfl) ?_
  refine va_get (D := (dC, dI)) (ci := 3) (v := .ref q_1) (C := RX3) (T := TX3) (N := 8) hx hb hts zl_X4_init_X3 hown hK hP 0 rfl rfl 4 (by decide) (hts (.fieldLink RX4 15 "PageOne$Item" "first" "[I") (zat q_wsX4_init k_wsX4_init 198 rfl (by decide +kernel))) (fun _ h9 => h9) rfl dX4_init_49 ?_
  refine lv_iconst (v := (-1)) hx hb dX4_init_52 (by decide) ?_
  have hPc := hP.sub (ws' := [(q_1, .inl (cI, 5, .inl (fun _ => 0)))]) [1] rfl
  have hKc := hK.sub (tys' := [(cI, .int)]) [0] rfl
  have hDc := hD.sub (ws' := [(q_1, .inl (cI, 5, .inl (fun _ => 0)))]) [1] (by decide) rfl
  have hFc := va_free (wc := [(q_1, .inl (cI, 5, .inl (fun _ => 0)))]) hD hS hA [1] rfl
  refine va_callv (va_runS (As := [.ref q_1, .int (-1)]) (rest := []) ⟨hx, hb, hml, hown, hts⟩ (j_fill l dC dI q_1 cI 5 (fun _ => 0) (-1) (by decide) H.size) (va_cwS 2 hts gX4_init_J7_fill_53178 rfl rfl rfl zh_J7_fill_53178_59 ⟨Nat.le_of_ble_eq_true rfl, Nat.le_of_ble_eq_true rfl⟩) ⟨gw_fb, fun U hU hW => ⟨rfl, by rw [hU], pw_to hU hW hPc hKc hN, hDc.weaken (fun _ _ _ _ => trivial)⟩⟩ rfl rfl hl.1 rfl (lv_room (Nat.le_of_ble_eq_true rfl)) dX4_init_53 ⟨Nat.le_of_ble_eq_true rfl, Nat.le_of_ble_eq_true rfl⟩) hS (fun q _ h => hFc q h) hFc (fun u t H1 locs ht hvm hw hB hz1 hk1 hS => ?_)
  obtain ⟨hP1, hD1⟩ := hB
  rw [ht] at hP1
  obtain ⟨hP, hD⟩ := va_join (wr := [(h0, .inr (3, [.int p0, .int 1, .ref q_4, .int 0, .ref q_1, .null, .int 0, .int 0])), (q_4, .inl (cP, 1, .inr (.inr (.inr (.inr (fun _ => none))))))]) (w1 := [(q_1, .inl (cI, 5, .inl (fun _ => (-1))))]) hP hD [1] [0, 2] rfl rfl (by decide) (by decide) hk1 hFc hP1 hD1
  generalize H1 = H at hP hS ⊢
  have hP : va_P (dC, dI) vwCl [(h0, .inr (3, [.int p0, .int 1, .ref q_4, .int 0, .ref q_1, .null, .int 0, .int 0])), (q_4, .inl (cP, 1, .inr (.inr (.inr (.inr (fun _ => none)))))), (q_1, .inl (cI, 5, .inl (fun _ => (-1))))] H := hP
  have hD : va_D A [(h0, .inr (3, [.int p0, .int 1, .ref q_4, .int 0, .ref q_1, .null, .int 0, .int 0])), (q_4, .inl (cP, 1, .inr (.inr (.inr (.inr (fun _ => none)))))), (q_1, .inl (cI, 5, .inl (fun _ => (-1))))] := hD
  refine W.widen (k := 2) (n := 6) (Nat.le_of_ble_eq_true rfl) (Nat.le_of_ble_eq_true rfl) ?_
  exact W.vret hx hb hr (fun t ht hW => ⟨⟨(), rfl, trivial, ⟨q_1, q_4, by rw [ht]; exact hP.sub [2, 1, 0] rfl, hD.sub [2, 1, 0] (by decide) rfl⟩⟩, hS.F ht⟩) hS.2.2 dX4_init_56
set_option maxHeartbeats 4000000 in
set_option maxRecDepth 100000 in
theorem xn_Item_Picture (l : Launch) (dC : Nat → ClassId) (dI : Nat → Nat → Nat) (h0 : Nat) (cI cP : ClassId) (p0 : Int32) (sz : Nat) : Met l yX4_init wsX4_init ({ frames := 1, cells := 2, slots := 6, locals := 23 }) (va_Pc [.ref h0, .int p0, .int 2, .int 1] (fun U => U.heap.size = sz ∧ PW dC dI [(h0, .inr (6, [.int 0, .int 0, .null, .int 0, .null, .null, .null, .int 0]))] [(cI, .int), (cP, .object "PageOne$Piece")] U ∧ va_D (fun _ => True) [(h0, .inr (6, [.int 0, .int 0, .null, .int 0, .null, .null, .null, .int 0]))])) (va_Qv (fun _ : Unit => True) (fun _ t => ∃ q1 q2 : Nat, va_P (dC, dI) vwCl [(q1, .inl (cI, 5, .inl (fun _ => (-1)))), (q2, .inl (cP, 1, .inr (.inr (.inr (.inr (fun _ => none)))))), (h0, .inr (6, [.int p0, .int 2, .ref q2, .int 0, .ref q1, .null, .null, .int 0]))] t.heap ∧ va_D (va_A [(h0, .inr (6, [.int 0, .int 0, .null, .int 0, .null, .null, .null, .int 0]))] sz) [(q1, .inl (cI, 5, .inl (fun _ => (-1)))), (q2, .inl (cP, 1, .inr (.inr (.inr (.inr (fun _ => none)))))), (h0, .inr (6, [.int p0, .int 2, .ref q2, .int 0, .ref q1, .null, .null, .int 0]))]) (va_A [(h0, .inr (6, [.int 0, .int 0, .null, .int 0, .null, .null, .null, .int 0]))] sz)) 2 6 (va_A [(h0, .inr (6, [.int 0, .int 0, .null, .int 0, .null, .null, .null, .int 0]))] sz) := by
  refine Met.ofW (cc := cX4_init) (maxL := 4) (ret := none) (by decide) rfl ?_
  intro p e s m args below meth c s₁ B hml hv
  obtain ⟨rfl, hsz, ⟨hP, hK, hN⟩, hD0⟩ := hv
  have hx := B.exec
  have hb := B.bytes
  have hr := B.returns
  have hts := atoms_spec (ws := wsX4_init) B.pre
  have hown : s.vm.findClass RX4 = some m.cls := findClass_of_methodNamed B.named
  have hlocks := B.notSynchronized
  have hin : meth.name = "<init>" := (name_of_methodNamed B.named B.method).1
  subst hsz
  have hD := hD0.self (sz := s.heap.size)
  generalize hAe : va_A [(h0, .inr (6, [.int 0, .int 0, .null, .int 0, .null, .null, .null, .int 0]))] s.heap.size = A at hD ⊢
  have hA : ∀ q : Nat, s.heap.size ≤ q → A q := fun q h => by rw [← hAe]; exact Or.inr h
  have hS : va_S A s.heap s.heap [] := va_S.rf
  have hP : va_P (dC, dI) vwCl [(h0, .inr (6, [.int 0, .int 0, .null, .int 0, .null, .null, .null, .int 0]))] s.heap := hP
  have hl := lv_entry ([.ref h0, .int p0, .int 2, .int 1]) (n := 4) (Nat.le_of_ble_eq_true rfl)
  rw [lg_entry_eq]
  generalize (lg_sl ([.ref h0, .int p0, .int 2, .int 1]) ++ List.replicate (4 - (lg_sl ([.ref h0, .int p0, .int 2, .int 1])).length) Slot.unset).toArray = ls at hl ⊢
  have hl : lv_has ls 4 [(0, .ref h0), (1, .int p0), (2, .int 2), (3, .int 1)] := hl
  refine lv_aload_n hx hb dX4_init_0 rfl (lv_at hl 0 rfl) ?_
  refine W.objInit hx hb hown (hts (.methodLink RX4 3 objectInit) (zat q_wsX4_init k_wsX4_init 169 rfl (by decide +kernel))) (hts (.instanceMethod objectInit) (zat q_wsX4_init k_wsX4_init 74 rfl (by decide +kernel))) (hts (.code objectInit ⟨#[0xb1]⟩ 1 none) (zat q_wsX4_init k_wsX4_init 75 rfl (by decide +kernel))) rfl (by rw [hml]; exact hl.1) rfl dX4_init_1 (Nat.le_of_ble_eq_true rfl) (Nat.le_of_ble_eq_true rfl) ?_
  refine W.eq (g2 := F0 m 4 ls []) rfl ?_
  refine lv_aload_n hx hb dX4_init_4 rfl (lv_at hl 0 rfl) ?_
  refine lv_iconst (v := 0) hx hb dX4_init_5 (by decide) ?_
  refine va_put (D := (dC, dI)) (ci := 6) (v := .int 0) (ty := .int) (C := RX7) (T := TX7) (N := 8) hx hb hts zl_X4_init_X7 tyX7 tyX7_ok nmX7 hown hK hP hD hS 0 rfl rfl 3 (by decide) (hts (.fieldLink RX4 9 "PageOne$Item" "count" "I") (zat q_wsX4_init k_wsX4_init 194 rfl (by decide +kernel))) (fun _ h9 => h9) rfl (tyX7_ok 3 (by decide)) rfl rfl (Nat.le_of_ble_eq_true rfl) dX4_init_6 (fun H locs hP hD hS => ?_)
  have hP : va_P (dC, dI) vwCl [(h0, .inr (6, [.int 0, .int 0, .null, .int 0, .null, .null, .null, .int 0]))] H := hP
  have hD : va_D A [(h0, .inr (6, [.int 0, .int 0, .null, .int 0, .null, .null, .null, .int 0]))] := hD
  refine lv_aload_n hx hb dX4_init_9 rfl (lv_at hl 0 rfl) ?_
  refine lv_iconst (v := 5) hx hb dX4_init_10 (by decide) ?_
  refine va_newa (atype := .int) (ty := .int) (a0 := (5, .inl (fun _ => 0))) (N' := 5) hx hb (hts (.arrayClass .int) (zat q_wsX4_init k_wsX4_init 111 rfl (by decide +kernel))) rfl hK hP hD hS hA (newI 5) (by decide) (by decide) (nbI (Nat.le_of_ble_eq_true rfl)) (Nat.le_of_ble_eq_true rfl) (Nat.le_of_ble_eq_true rfl) dX4_init_11 (fun q_1 cA_2 H hK hP hD hS => ?_)
  obtain rfl : cI = cA_2 := kuniq hK 0 2 rfl rfl
  have hK := hK.sub (tys' := [(cI, .int), (cP, .object "PageOne$Piece")]) [0, 1] rfl
  have hK : va_K (dC, dI) vwCl [(cI, .int), (cP, .object "PageOne$Piece")] s := hK
  have hP : va_P (dC, dI) vwCl [(h0, .inr (6, [.int 0, .int 0, .null, .int 0, .null, .null, .null, .int 0])), (q_1, .inl (cI, 5, .inl (fun _ => 0)))] H := hP
  have hD : va_D A [(h0, .inr (6, [.int 0, .int 0, .null, .int 0, .null, .null, .null, .int 0])), (q_1, .inl (cI, 5, .inl (fun _ => 0)))] := hD
  refine W.widen (k := 1) (n := 5) (Nat.le_of_ble_eq_true rfl) (Nat.le_of_ble_eq_true rfl) ?_
  refine va_putF (D := (dC, dI)) (ci := 6) (v := .ref q_1) (ty := .array .int) (C := RX7) (T := TX7) (N := 8) hx hb hts zl_X4_init_X7 tyX7 tyX7_ok nmX7 hown hK hP hD hS 0 rfl rfl 4 (by decide) (hts (.fieldLink RX4 15 "PageOne$Item" "first" "[I") (zat q_wsX4_init k_wsX4_init 198 rfl (by decide +kernel))) (fun _ h9 => h9) rfl hin rfl (tyX7_ok 4 (by decide)) rfl rfl (Nat.le_of_ble_eq_true rfl) dX4_init_13 (fun H locs hP hD hS => ?_)
  have hP : va_P (dC, dI) vwCl [(h0, .inr (6, [.int 0, .int 0, .null, .int 0, .ref q_1, .null, .null, .int 0])), (q_1, .inl (cI, 5, .inl (fun _ => 0)))] H := hP
  have hD : va_D A [(h0, .inr (6, [.int 0, .int 0, .null, .int 0, .ref q_1, .null, .null, .int 0])), (q_1, .inl (cI, 5, .inl (fun _ => 0)))] := hD
  refine lv_aload_n hx hb dX4_init_16 rfl (lv_at hl 0 rfl) ?_
  refine lv_iload_n hx hb dX4_init_17 rfl (lv_at hl 1 rfl) ?_
  refine va_putF (D := (dC, dI)) (ci := 6) (v := .int p0) (ty := .int) (C := RX7) (T := TX7) (N := 8) hx hb hts zl_X4_init_X7 tyX7 tyX7_ok nmX7 hown hK hP hD hS 0 rfl rfl 0 (by decide) (hts (.fieldLink RX4 19 "PageOne$Item" "number" "I") (zat q_wsX4_init k_wsX4_init 181 rfl (by decide +kernel))) (fun _ h9 => h9) rfl hin rfl (tyX7_ok 0 (by decide)) rfl rfl (Nat.le_of_ble_eq_true rfl) dX4_init_18 (fun H locs hP hD hS => ?_)
  have hP : va_P (dC, dI) vwCl [(h0, .inr (6, [.int p0, .int 0, .null, .int 0, .ref q_1, .null, .null, .int 0])), (q_1, .inl (cI, 5, .inl (fun _ => 0)))] H := hP
  have hD : va_D A [(h0, .inr (6, [.int p0, .int 0, .null, .int 0, .ref q_1, .null, .null, .int 0])), (q_1, .inl (cI, 5, .inl (fun _ => 0)))] := hD
  refine lv_aload_n hx hb dX4_init_21 rfl (lv_at hl 0 rfl) ?_
  refine lv_iload_n hx hb dX4_init_22 rfl (lv_at hl 2 rfl) ?_
  refine va_putF (D := (dC, dI)) (ci := 6) (v := .int 2) (ty := .int) (C := RX7) (T := TX7) (N := 8) hx hb hts zl_X4_init_X7 tyX7 tyX7_ok nmX7 hown hK hP hD hS 0 rfl rfl 1 (by decide) (hts (.fieldLink RX4 22 "PageOne$Item" "kind" "I") (zat q_wsX4_init k_wsX4_init 188 rfl (by decide +kernel))) (fun _ h9 => h9) rfl hin rfl (tyX7_ok 1 (by decide)) rfl rfl (Nat.le_of_ble_eq_true rfl) dX4_init_23 (fun H locs hP hD hS => ?_)
  have hP : va_P (dC, dI) vwCl [(h0, .inr (6, [.int p0, .int 2, .null, .int 0, .ref q_1, .null, .null, .int 0])), (q_1, .inl (cI, 5, .inl (fun _ => 0)))] H := hP
  have hD : va_D A [(h0, .inr (6, [.int p0, .int 2, .null, .int 0, .ref q_1, .null, .null, .int 0])), (q_1, .inl (cI, 5, .inl (fun _ => 0)))] := hD
  refine lv_aload_n hx hb dX4_init_26 rfl (lv_at hl 0 rfl) ?_
  refine lv_iload_n hx hb dX4_init_27 rfl (lv_at hl 3 rfl) ?_
  refine lv_iconst (v := 1) hx hb dX4_init_28 (by decide) ?_
  refine lv_bipush (v := 6) hx hb dX4_init_29 (by decide) ?_
  have hPc := hP.sub (ws' := []) [] rfl
  have hKc := hK.sub (tys' := []) [] rfl
  refine vp_callSi (va_runSN (As := [.int 1, .int 1, .int 6]) (rest := [.ref h0]) ⟨hx, hb, hml, hown, hts⟩ (x_isWithin l dC dI 1 1 6) ⟨va_cnB (host := "PageOne") 3 hts gX4_init_X11_isWithin_n25 rfl rfl rfl hN.n_RX4_25 (hts (.initialized RX11) (zat q_wsX4_init k_wsX4_init 53 rfl (by decide +kernel))) (by decide +kernel) ⟨Nat.le_of_ble_eq_true rfl, Nat.le_of_ble_eq_true rfl⟩, hts (.static yX11_isWithin) (zat q_wsX4_init k_wsX4_init 148 rfl (by decide +kernel)), trivial⟩ ⟨pw_fb, fun U hU hW => ⟨rfl, pw_to hU hW hPc hKc hN⟩⟩ rfl rfl hl.1 rfl (lv_room (Nat.le_of_ble_eq_true rfl)) dX4_init_31 ⟨Nat.le_of_ble_eq_true rfl, Nat.le_of_ble_eq_true rfl⟩).run (fun r hw => ?_)
  obtain rfl : r = 1 := hw.trans (by decide)
  refine lv_if_eq (tgt := 41) hx hb dX4_init_34 (by decide) (fun c_3 => absurd c_3 (by decide)) (fun c_3 => ?_)
  refine lv_iload_n hx hb dX4_init_37 rfl (lv_at hl 3 rfl) ?_
  refine lv_goto (tgt := 42) hx hb dX4_init_38 (by decide) ?_
  refine va_newq (N' := 1) (C := RX8) hx hb hown (hts (.classLink RX4 29 RX8) (zat q_wsX4_init k_wsX4_init 171 rfl (by decide +kernel))) hN.ao_Piece hK hP hD hS hA (by decide) (by decide) (by decide) (Nat.le_of_ble_eq_true rfl) (Nat.le_of_ble_eq_true rfl) dX4_init_42 (fun q_4 cA_5 H hK hP hD hS => ?_)
  obtain rfl : cP = cA_5 := kuniqo hK 1 2 rfl rfl
  have hK := hK.sub (tys' := [(cI, .int), (cP, .object "PageOne$Piece")]) [0, 1] rfl
  have hK : va_K (dC, dI) vwCl [(cI, .int), (cP, .object "PageOne$Piece")] s := hK
  have hP : va_P (dC, dI) vwCl [(h0, .inr (6, [.int p0, .int 2, .null, .int 0, .ref q_1, .null, .null, .int 0])), (q_1, .inl (cI, 5, .inl (fun _ => 0))), (q_4, .inl (cP, 1, .inr (.inr (.inr (.inr (fun _ => none))))))] H := hP
  have hD : va_D A [(h0, .inr (6, [.int p0, .int 2, .null, .int 0, .ref q_1, .null, .null, .int 0])), (q_1, .inl (cI, 5, .inl (fun _ => 0))), (q_4, .inl (cP, 1, .inr (.inr (.inr (.inr (fun _ => none))))))] := hD
  refine W.widen (k := 2) (n := 6) (Nat.le_of_ble_eq_true rfl) (Nat.le_of_ble_eq_true rfl) ?_
  refine va_putF (D := (dC, dI)) (ci := 6) (v := .ref q_4) (ty := .array (.object "PageOne$Piece")) (C := RX7) (T := TX7) (N := 8) hx hb hts zl_X4_init_X7 tyX7 tyX7_ok nmX7 hown hK hP hD hS 0 rfl rfl 2 (by decide) (hts (.fieldLink RX4 31 "PageOne$Item" "pieces" "[LPageOne$Piece;") (zat q_wsX4_init k_wsX4_init 190 rfl (by decide +kernel))) (fun _ h9 => h9) rfl hin rfl (tyX7_ok 2 (by decide)) rfl rfl (Nat.le_of_ble_eq_true rfl) dX4_init_45 (fun H locs hP hD hS => ?_)
  have hP : va_P (dC, dI) vwCl [(h0, .inr (6, [.int p0, .int 2, .ref q_4, .int 0, .ref q_1, .null, .null, .int 0])), (q_1, .inl (cI, 5, .inl (fun _ => 0))), (q_4, .inl (cP, 1, .inr (.inr (.inr (.inr (fun _ => none))))))] H := hP
  have hD : va_D A [(h0, .inr (6, [.int p0, .int 2, .ref q_4, .int 0, .ref q_1, .null, .null, .int 0])), (q_1, .inl (cI, 5, .inl (fun _ => 0))), (q_4, .inl (cP, 1, .inr (.inr (.inr (.inr (fun _ => none))))))] := hD
  refine lv_aload_n hx hb dX4_init_48 rfl (lv_at hl 0 rfl) ?_
  refine va_get (D := (dC, dI)) (ci := 6) (v := .ref q_1) (C := RX7) (T := TX7) (N := 8) hx hb hts zl_X4_init_X7 hown hK hP 0 rfl rfl 4 (by decide) (hts (.fieldLink RX4 15 "PageOne$Item" "first" "[I") (zat q_wsX4_init k_wsX4_init 198 rfl (by decide +kernel))) (fun _ h9 => h9) rfl dX4_init_49 ?_
  refine lv_iconst (v := (-1)) hx hb dX4_init_52 (by decide) ?_
  have hPc := hP.sub (ws' := [(q_1, .inl (cI, 5, .inl (fun _ => 0)))]) [1] rfl
  have hKc := hK.sub (tys' := [(cI, .int)]) [0] rfl
  have hDc := hD.sub (ws' := [(q_1, .inl (cI, 5, .inl (fun _ => 0)))]) [1] (by decide) rfl
  have hFc := va_free (wc := [(q_1, .inl (cI, 5, .inl (fun _ => 0)))]) hD hS hA [1] rfl
  refine va_callv (va_runS (As := [.ref q_1, .int (-1)]) (rest := []) ⟨hx, hb, hml, hown, hts⟩ (j_fill l dC dI q_1 cI 5 (fun _ => 0) (-1) (by decide) H.size) (va_cwS 2 hts gX4_init_J7_fill_53178 rfl rfl rfl zh_J7_fill_53178_59 ⟨Nat.le_of_ble_eq_true rfl, Nat.le_of_ble_eq_true rfl⟩) ⟨gw_fb, fun U hU hW => ⟨rfl, by rw [hU], pw_to hU hW hPc hKc hN, hDc.weaken (fun _ _ _ _ => trivial)⟩⟩ rfl rfl hl.1 rfl (lv_room (Nat.le_of_ble_eq_true rfl)) dX4_init_53 ⟨Nat.le_of_ble_eq_true rfl, Nat.le_of_ble_eq_true rfl⟩) hS (fun q _ h => hFc q h) hFc (fun u t H1 locs ht hvm hw hB hz1 hk1 hS => ?_)
  obtain ⟨hP1, hD1⟩ := hB
  rw [ht] at hP1
  obtain ⟨hP, hD⟩ := va_join (wr := [(h0, .inr (6, [.int p0, .int 2, .ref q_4, .int 0, .ref q_1, .null, .null, .int 0])), (q_4, .inl (cP, 1, .inr (.inr (.inr (.inr (fun _ => none))))))]) (w1 := [(q_1, .inl (cI, 5, .inl (fun _ => (-1))))]) hP hD [1] [0, 2] rfl rfl (by decide) (by decide) hk1 hFc hP1 hD1
  generalize H1 = H at hP hS ⊢
  have hP : va_P (dC, dI) vwCl [(h0, .inr (6, [.int p0, .int 2, .ref q_4, .int 0, .ref q_1, .null, .null, .int 0])), (q_4, .inl (cP, 1, .inr (.inr (.inr (.inr (fun _ => none)))))), (q_1, .inl (cI, 5, .inl (fun _ => (-1))))] H := hP
  have hD : va_D A [(h0, .inr (6, [.int p0, .int 2, .ref q_4, .int 0, .ref q_1, .null, .null, .int 0])), (q_4, .inl (cP, 1, .inr (.inr (.inr (.inr (fun _ => none)))))), (q_1, .inl (cI, 5, .inl (fun _ => (-1))))] := hD
  refine W.widen (k := 2) (n := 6) (Nat.le_of_ble_eq_true rfl) (Nat.le_of_ble_eq_true rfl) ?_
  exact W.vret hx hb hr (fun t ht hW => ⟨⟨(), rfl, trivial, ⟨q_1, q_4, by rw [ht]; exact hP.sub [2, 1, 0] rfl, hD.sub [2, 1, 0] (by decide) rfl⟩⟩, hS.F ht⟩) hS.2.2 dX4_init_56
set_option maxHeartbeats 4000000 in
set_option maxRecDepth 100000 in
theorem xn_Item_Paid (l : Launch) (dC : Nat → ClassId) (dI : Nat → Nat → Nat) (h0 : Nat) (cI cP : ClassId) (p0 : Int32) (sz : Nat) : Met l yX4_init wsX4_init ({ frames := 1, cells := 2, slots := 6, locals := 23 }) (va_Pc [.ref h0, .int p0, .int 3, .int 1] (fun U => U.heap.size = sz ∧ PW dC dI [(h0, .inr (5, [.int 0, .int 0, .null, .int 0, .null, .int 0, .int 0, .null, .null]))] [(cI, .int), (cP, .object "PageOne$Piece")] U ∧ va_D (fun _ => True) [(h0, .inr (5, [.int 0, .int 0, .null, .int 0, .null, .int 0, .int 0, .null, .null]))])) (va_Qv (fun _ : Unit => True) (fun _ t => ∃ q1 q2 : Nat, va_P (dC, dI) vwCl [(q1, .inl (cI, 5, .inl (fun _ => (-1)))), (q2, .inl (cP, 1, .inr (.inr (.inr (.inr (fun _ => none)))))), (h0, .inr (5, [.int p0, .int 3, .ref q2, .int 0, .ref q1, .int 0, .int 0, .null, .null]))] t.heap ∧ va_D (va_A [(h0, .inr (5, [.int 0, .int 0, .null, .int 0, .null, .int 0, .int 0, .null, .null]))] sz) [(q1, .inl (cI, 5, .inl (fun _ => (-1)))), (q2, .inl (cP, 1, .inr (.inr (.inr (.inr (fun _ => none)))))), (h0, .inr (5, [.int p0, .int 3, .ref q2, .int 0, .ref q1, .int 0, .int 0, .null, .null]))]) (va_A [(h0, .inr (5, [.int 0, .int 0, .null, .int 0, .null, .int 0, .int 0, .null, .null]))] sz)) 2 6 (va_A [(h0, .inr (5, [.int 0, .int 0, .null, .int 0, .null, .int 0, .int 0, .null, .null]))] sz) := by
  refine Met.ofW (cc := cX4_init) (maxL := 4) (ret := none) (by decide) rfl ?_
  intro p e s m args below meth c s₁ B hml hv
  obtain ⟨rfl, hsz, ⟨hP, hK, hN⟩, hD0⟩ := hv
  have hx := B.exec
  have hb := B.bytes
  have hr := B.returns
  have hts := atoms_spec (ws := wsX4_init) B.pre
  have hown : s.vm.findClass RX4 = some m.cls := findClass_of_methodNamed B.named
  have hlocks := B.notSynchronized
  have hin : meth.name = "<init>" := (name_of_methodNamed B.named B.method).1
  subst hsz
  have hD := hD0.self (sz := s.heap.size)
  generalize hAe : va_A [(h0, .inr (5, [.int 0, .int 0, .null, .int 0, .null, .int 0, .int 0, .null, .null]))] s.heap.size = A at hD ⊢
  have hA : ∀ q : Nat, s.heap.size ≤ q → A q := fun q h => by rw [← hAe]; exact Or.inr h
  have hS : va_S A s.heap s.heap [] := va_S.rf
  have hP : va_P (dC, dI) vwCl [(h0, .inr (5, [.int 0, .int 0, .null, .int 0, .null, .int 0, .int 0, .null, .null]))] s.heap := hP
  have hl := lv_entry ([.ref h0, .int p0, .int 3, .int 1]) (n := 4) (Nat.le_of_ble_eq_true rfl)
  rw [lg_entry_eq]
  generalize (lg_sl ([.ref h0, .int p0, .int 3, .int 1]) ++ List.replicate (4 - (lg_sl ([.ref h0, .int p0, .int 3, .int 1])).length) Slot.unset).toArray = ls at hl ⊢
  have hl : lv_has ls 4 [(0, .ref h0), (1, .int p0), (2, .int 3), (3, .int 1)] := hl
  refine lv_aload_n hx hb dX4_init_0 rfl (lv_at hl 0 rfl) ?_
  refine W.objInit hx hb hown (hts (.methodLink RX4 3 objectInit) (zat q_wsX4_init k_wsX4_init 169 rfl (by decide +kernel))) (hts (.instanceMethod objectInit) (zat q_wsX4_init k_wsX4_init 74 rfl (by decide +kernel))) (hts (.code objectInit ⟨#[0xb1]⟩ 1 none) (zat q_wsX4_init k_wsX4_init 75 rfl (by decide +kernel))) rfl (by rw [hml]; exact hl.1) rfl dX4_init_1 (Nat.le_of_ble_eq_true rfl) (Nat.le_of_ble_eq_true rfl) ?_
  refine W.eq (g2 := F0 m 4 ls []) rfl ?_
  refine lv_aload_n hx hb dX4_init_4 rfl (lv_at hl 0 rfl) ?_
  refine lv_iconst (v := 0) hx hb dX4_init_5 (by decide) ?_
  refine va_put (D := (dC, dI)) (ci := 5) (v := .int 0) (ty := .int) (C := RX6) (T := TX6) (N := 9) hx hb hts zl_X4_init_X6 tyX6 tyX6_ok nmX6 hown hK hP hD hS 0 rfl rfl 3 (by decide) (hts (.fieldLink RX4 9 "PageOne$Item" "count" "I") (zat q_wsX4_init k_wsX4_init 194 rfl (by decide +kernel))) (fun _ h9 => h9) rfl (tyX6_ok 3 (by decide)) rfl rfl (Nat.le_of_ble_eq_true rfl) dX4_init_6 (fun H locs hP hD hS => ?_)
  have hP : va_P (dC, dI) vwCl [(h0, .inr (5, [.int 0, .int 0, .null, .int 0, .null, .int 0, .int 0, .null, .null]))] H := hP
  have hD : va_D A [(h0, .inr (5, [.int 0, .int 0, .null, .int 0, .null, .int 0, .int 0, .null, .null]))] := hD
  refine lv_aload_n hx hb dX4_init_9 rfl (lv_at hl 0 rfl) ?_
  refine lv_iconst (v := 5) hx hb dX4_init_10 (by decide) ?_
  refine va_newa (atype := .int) (ty := .int) (a0 := (5, .inl (fun _ => 0))) (N' := 5) hx hb (hts (.arrayClass .int) (zat q_wsX4_init k_wsX4_init 111 rfl (by decide +kernel))) rfl hK hP hD hS hA (newI 5) (by decide) (by decide) (nbI (Nat.le_of_ble_eq_true rfl)) (Nat.le_of_ble_eq_true rfl) (Nat.le_of_ble_eq_true rfl) dX4_init_11 (fun q_1 cA_2 H hK hP hD hS => ?_)
  obtain rfl : cI = cA_2 := kuniq hK 0 2 rfl rfl
  have hK := hK.sub (tys' := [(cI, .int), (cP, .object "PageOne$Piece")]) [0, 1] rfl
  have hK : va_K (dC, dI) vwCl [(cI, .int), (cP, .object "PageOne$Piece")] s := hK
  have hP : va_P (dC, dI) vwCl [(h0, .inr (5, [.int 0, .int 0, .null, .int 0, .null, .int 0, .int 0, .null, .null])), (q_1, .inl (cI, 5, .inl (fun _ => 0)))] H := hP
  have hD : va_D A [(h0, .inr (5, [.int 0, .int 0, .null, .int 0, .null, .int 0, .int 0, .null, .null])), (q_1, .inl (cI, 5, .inl (fun _ => 0)))] := hD
  refine W.widen (k := 1) (n := 5) (Nat.le_of_ble_eq_true rfl) (Nat.le_of_ble_eq_true rfl) ?_
  refine va_putF (D := (dC, dI)) (ci := 5) (v := .ref q_1) (ty := .array .int) (C := RX6) (T := TX6) (N := 9) hx hb hts zl_X4_init_X6 tyX6 tyX6_ok nmX6 hown hK hP hD hS 0 rfl rfl 4 (by decide) (hts (.fieldLink RX4 15 "PageOne$Item" "first" "[I") (zat q_wsX4_init k_wsX4_init 198 rfl (by decide +kernel))) (fun _ h9 => h9) rfl hin rfl (tyX6_ok 4 (by decide)) rfl rfl (Nat.le_of_ble_eq_true rfl) dX4_init_13 (fun H locs hP hD hS => ?_)
  have hP : va_P (dC, dI) vwCl [(h0, .inr (5, [.int 0, .int 0, .null, .int 0, .ref q_1, .int 0, .int 0, .null, .null])), (q_1, .inl (cI, 5, .inl (fun _ => 0)))] H := hP
  have hD : va_D A [(h0, .inr (5, [.int 0, .int 0, .null, .int 0, .ref q_1, .int 0, .int 0, .null, .null])), (q_1, .inl (cI, 5, .inl (fun _ => 0)))] := hD
  refine lv_aload_n hx hb dX4_init_16 rfl (lv_at hl 0 rfl) ?_
  refine lv_iload_n hx hb dX4_init_17 rfl (lv_at hl 1 rfl) ?_
  refine va_putF (D := (dC, dI)) (ci := 5) (v := .int p0) (ty := .int) (C := RX6) (T := TX6) (N := 9) hx hb hts zl_X4_init_X6 tyX6 tyX6_ok nmX6 hown hK hP hD hS 0 rfl rfl 0 (by decide) (hts (.fieldLink RX4 19 "PageOne$Item" "number" "I") (zat q_wsX4_init k_wsX4_init 181 rfl (by decide +kernel))) (fun _ h9 => h9) rfl hin rfl (tyX6_ok 0 (by decide)) rfl rfl (Nat.le_of_ble_eq_true rfl) dX4_init_18 (fun H locs hP hD hS => ?_)
  have hP : va_P (dC, dI) vwCl [(h0, .inr (5, [.int p0, .int 0, .null, .int 0, .ref q_1, .int 0, .int 0, .null, .null])), (q_1, .inl (cI, 5, .inl (fun _ => 0)))] H := hP
  have hD : va_D A [(h0, .inr (5, [.int p0, .int 0, .null, .int 0, .ref q_1, .int 0, .int 0, .null, .null])), (q_1, .inl (cI, 5, .inl (fun _ => 0)))] := hD
  refine lv_aload_n hx hb dX4_init_21 rfl (lv_at hl 0 rfl) ?_
  refine lv_iload_n hx hb dX4_init_22 rfl (lv_at hl 2 rfl) ?_
  refine va_putF (D := (dC, dI)) (ci := 5) (v := .int 3) (ty := .int) (C := RX6) (T := TX6) (N := 9) hx hb hts zl_X4_init_X6 tyX6 tyX6_ok nmX6 hown hK hP hD hS 0 rfl rfl 1 (by decide) (hts (.fieldLink RX4 22 "PageOne$Item" "kind" "I") (zat q_wsX4_init k_wsX4_init 188 rfl (by decide +kernel))) (fun _ h9 => h9) rfl hin rfl (tyX6_ok 1 (by decide)) rfl rfl (Nat.le_of_ble_eq_true rfl) dX4_init_23 (fun H locs hP hD hS => ?_)
  have hP : va_P (dC, dI) vwCl [(h0, .inr (5, [.int p0, .int 3, .null, .int 0, .ref q_1, .int 0, .int 0, .null, .null])), (q_1, .inl (cI, 5, .inl (fun _ => 0)))] H := hP
  have hD : va_D A [(h0, .inr (5, [.int p0, .int 3, .null, .int 0, .ref q_1, .int 0, .int 0, .null, .null])), (q_1, .inl (cI, 5, .inl (fun _ => 0)))] := hD
  refine lv_aload_n hx hb dX4_init_26 rfl (lv_at hl 0 rfl) ?_
  refine lv_iload_n hx hb dX4_init_27 rfl (lv_at hl 3 rfl) ?_
  refine lv_iconst (v := 1) hx hb dX4_init_28 (by decide) ?_
  refine lv_bipush (v := 6) hx hb dX4_init_29 (by decide) ?_
  have hPc := hP.sub (ws' := []) [] rfl
  have hKc := hK.sub (tys' := []) [] rfl
  refine vp_callSi (va_runSN (As := [.int 1, .int 1, .int 6]) (rest := [.ref h0]) ⟨hx, hb, hml, hown, hts⟩ (x_isWithin l dC dI 1 1 6) ⟨va_cnB (host := "PageOne") 3 hts gX4_init_X11_isWithin_n25 rfl rfl rfl hN.n_RX4_25 (hts (.initialized RX11) (zat q_wsX4_init k_wsX4_init 53 rfl (by decide +kernel))) (by decide +kernel) ⟨Nat.le_of_ble_eq_true rfl, Nat.le_of_ble_eq_true rfl⟩, hts (.static yX11_isWithin) (zat q_wsX4_init k_wsX4_init 148 rfl (by decide +kernel)), trivial⟩ ⟨pw_fb, fun U hU hW => ⟨rfl, pw_to hU hW hPc hKc hN⟩⟩ rfl rfl hl.1 rfl (lv_room (Nat.le_of_ble_eq_true rfl)) dX4_init_31 ⟨Nat.le_of_ble_eq_true rfl, Nat.le_of_ble_eq_true rfl⟩).run (fun r hw => ?_)
  obtain rfl : r = 1 := hw.trans (by decide)
  refine lv_if_eq (tgt := 41) hx hb dX4_init_34 (by decide) (fun c_3 => absurd c_3 (by decide)) (fun c_3 => ?_)
  refine lv_iload_n hx hb dX4_init_37 rfl (lv_at hl 3 rfl) ?_
  refine lv_goto (tgt := 42) hx hb dX4_init_38 (by decide) ?_
  refine va_newq (N' := 1) (C := RX8) hx hb hown (hts (.classLink RX4 29 RX8) (zat q_wsX4_init k_wsX4_init 171 rfl (by decide +kernel))) hN.ao_Piece hK hP hD hS hA (by decide) (by decide) (by decide) (Nat.le_of_ble_eq_true rfl) (Nat.le_of_ble_eq_true rfl) dX4_init_42 (fun q_4 cA_5 H hK hP hD hS => ?_)
  obtain rfl : cP = cA_5 := kuniqo hK 1 2 rfl rfl
  have hK := hK.sub (tys' := [(cI, .int), (cP, .object "PageOne$Piece")]) [0, 1] rfl
  have hK : va_K (dC, dI) vwCl [(cI, .int), (cP, .object "PageOne$Piece")] s := hK
  have hP : va_P (dC, dI) vwCl [(h0, .inr (5, [.int p0, .int 3, .null, .int 0, .ref q_1, .int 0, .int 0, .null, .null])), (q_1, .inl (cI, 5, .inl (fun _ => 0))), (q_4, .inl (cP, 1, .inr (.inr (.inr (.inr (fun _ => none))))))] H := hP
  have hD : va_D A [(h0, .inr (5, [.int p0, .int 3, .null, .int 0, .ref q_1, .int 0, .int 0, .null, .null])), (q_1, .inl (cI, 5, .inl (fun _ => 0))), (q_4, .inl (cP, 1, .inr (.inr (.inr (.inr (fun _ => none))))))] := hD
  refine W.widen (k := 2) (n := 6) (Nat.le_of_ble_eq_true rfl) (Nat.le_of_ble_eq_true rfl) ?_
  refine va_putF (D := (dC, dI)) (ci := 5) (v := .ref q_4) (ty := .array (.object "PageOne$Piece")) (C := RX6) (T := TX6) (N := 9) hx hb hts zl_X4_init_X6 tyX6 tyX6_ok nmX6 hown hK hP hD hS 0 rfl rfl 2 (by decide) (hts (.fieldLink RX4 31 "PageOne$Item" "pieces" "[LPageOne$Piece;") (zat q_wsX4_init k_wsX4_init 190 rfl (by decide +kernel))) (fun _ h9 => h9) rfl hin rfl (tyX6_ok 2 (by decide)) rfl rfl (Nat.le_of_ble_eq_true rfl) dX4_init_45 (fun H locs hP hD hS => ?_)
  have hP : va_P (dC, dI) vwCl [(h0, .inr (5, [.int p0, .int 3, .ref q_4, .int 0, .ref q_1, .int 0, .int 0, .null, .null])), (q_1, .inl (cI, 5, .inl (fun _ => 0))), (q_4, .inl (cP, 1, .inr (.inr (.inr (.inr (fun _ => none))))))] H := hP
  have hD : va_D A [(h0, .inr (5, [.int p0, .int 3, .ref q_4, .int 0, .ref q_1, .int 0, .int 0, .null, .null])), (q_1, .inl (cI, 5, .inl (fun _ => 0))), (q_4, .inl (cP, 1, .inr (.inr (.inr (.inr (fun _ => none))))))] := hD
  refine lv_aload_n hx hb dX4_init_48 rfl (lv_at hl 0 rfl) ?_
  refine va_get (D := (dC, dI)) (ci := 5) (v := .ref q_1) (C := RX6) (T := TX6) (N := 9) hx hb hts zl_X4_init_X6 hown hK hP 0 rfl rfl 4 (by decide) (hts (.fieldLink RX4 15 "PageOne$Item" "first" "[I") (zat q_wsX4_init k_wsX4_init 198 rfl (by decide +kernel))) (fun _ h9 => h9) rfl dX4_init_49 ?_
  refine lv_iconst (v := (-1)) hx hb dX4_init_52 (by decide) ?_
  have hPc := hP.sub (ws' := [(q_1, .inl (cI, 5, .inl (fun _ => 0)))]) [1] rfl
  have hKc := hK.sub (tys' := [(cI, .int)]) [0] rfl
  have hDc := hD.sub (ws' := [(q_1, .inl (cI, 5, .inl (fun _ => 0)))]) [1] (by decide) rfl
  have hFc := va_free (wc := [(q_1, .inl (cI, 5, .inl (fun _ => 0)))]) hD hS hA [1] rfl
  refine va_callv (va_runS (As := [.ref q_1, .int (-1)]) (rest := []) ⟨hx, hb, hml, hown, hts⟩ (j_fill l dC dI q_1 cI 5 (fun _ => 0) (-1) (by decide) H.size) (va_cwS 2 hts gX4_init_J7_fill_53178 rfl rfl rfl zh_J7_fill_53178_59 ⟨Nat.le_of_ble_eq_true rfl, Nat.le_of_ble_eq_true rfl⟩) ⟨gw_fb, fun U hU hW => ⟨rfl, by rw [hU], pw_to hU hW hPc hKc hN, hDc.weaken (fun _ _ _ _ => trivial)⟩⟩ rfl rfl hl.1 rfl (lv_room (Nat.le_of_ble_eq_true rfl)) dX4_init_53 ⟨Nat.le_of_ble_eq_true rfl, Nat.le_of_ble_eq_true rfl⟩) hS (fun q _ h => hFc q h) hFc (fun u t H1 locs ht hvm hw hB hz1 hk1 hS => ?_)
  obtain ⟨hP1, hD1⟩ := hB
  rw [ht] at hP1
  obtain ⟨hP, hD⟩ := va_join (wr := [(h0, .inr (5, [.int p0, .int 3, .ref q_4, .int 0, .ref q_1, .int 0, .int 0, .null, .null])), (q_4, .inl (cP, 1, .inr (.inr (.inr (.inr (fun _ => none))))))]) (w1 := [(q_1, .inl (cI, 5, .inl (fun _ => (-1))))]) hP hD [1] [0, 2] rfl rfl (by decide) (by decide) hk1 hFc hP1 hD1
  generalize H1 = H at hP hS ⊢
  have hP : va_P (dC, dI) vwCl [(h0, .inr (5, [.int p0, .int 3, .ref q_4, .int 0, .ref q_1, .int 0, .int 0, .null, .null])), (q_4, .inl (cP, 1, .inr (.inr (.inr (.inr (fun _ => none)))))), (q_1, .inl (cI, 5, .inl (fun _ => (-1))))] H := hP
  have hD : va_D A [(h0, .inr (5, [.int p0, .int 3, .ref q_4, .int 0, .ref q_1, .int 0, .int 0, .null, .null])), (q_4, .inl (cP, 1, .inr (.inr (.inr (.inr (fun _ => none)))))), (q_1, .inl (cI, 5, .inl (fun _ => (-1))))] := hD
  refine W.widen (k := 2) (n := 6) (Nat.le_of_ble_eq_true rfl) (Nat.le_of_ble_eq_true rfl) ?_
  exact W.vret hx hb hr (fun t ht hW => ⟨⟨(), rfl, trivial, ⟨q_1, q_4, by rw [ht]; exact hP.sub [2, 1, 0] rfl, hD.sub [2, 1, 0] (by decide) rfl⟩⟩, hS.F ht⟩) hS.2.2 dX4_init_56
set_option maxHeartbeats 4000000 in
set_option maxRecDepth 100000 in
theorem xn_Item_Filler (l : Launch) (dC : Nat → ClassId) (dI : Nat → Nat → Nat) (h0 : Nat) (cI cP : ClassId) (p0 : Int32) (sz : Nat) : Met l yX4_init wsX4_init ({ frames := 1, cells := 2, slots := 6, locals := 23 }) (va_Pc [.ref h0, .int p0, .int 4, .int 1] (fun U => U.heap.size = sz ∧ PW dC dI [(h0, .inr (2, [.int 0, .int 0, .null, .int 0, .null, .int 0, .int 0]))] [(cI, .int), (cP, .object "PageOne$Piece")] U ∧ va_D (fun _ => True) [(h0, .inr (2, [.int 0, .int 0, .null, .int 0, .null, .int 0, .int 0]))])) (va_Qv (fun _ : Unit => True) (fun _ t => ∃ q1 q2 : Nat, va_P (dC, dI) vwCl [(q1, .inl (cI, 5, .inl (fun _ => (-1)))), (q2, .inl (cP, 1, .inr (.inr (.inr (.inr (fun _ => none)))))), (h0, .inr (2, [.int p0, .int 4, .ref q2, .int 0, .ref q1, .int 0, .int 0]))] t.heap ∧ va_D (va_A [(h0, .inr (2, [.int 0, .int 0, .null, .int 0, .null, .int 0, .int 0]))] sz) [(q1, .inl (cI, 5, .inl (fun _ => (-1)))), (q2, .inl (cP, 1, .inr (.inr (.inr (.inr (fun _ => none)))))), (h0, .inr (2, [.int p0, .int 4, .ref q2, .int 0, .ref q1, .int 0, .int 0]))]) (va_A [(h0, .inr (2, [.int 0, .int 0, .null, .int 0, .null, .int 0, .int 0]))] sz)) 2 6 (va_A [(h0, .inr (2, [.int 0, .int 0, .null, .int 0, .null, .int 0, .int 0]))] sz) := by
  refine Met.ofW (cc := cX4_init) (maxL := 4) (ret := none) (by decide) rfl ?_
  intro p e s m args below meth c s₁ B hml hv
  obtain ⟨rfl, hsz, ⟨hP, hK, hN⟩, hD0⟩ := hv
  have hx := B.exec
  have hb := B.bytes
  have hr := B.returns
  have hts := atoms_spec (ws := wsX4_init) B.pre
  have hown : s.vm.findClass RX4 = some m.cls := findClass_of_methodNamed B.named
  have hlocks := B.notSynchronized
  have hin : meth.name = "<init>" := (name_of_methodNamed B.named B.method).1
  subst hsz
  have hD := hD0.self (sz := s.heap.size)
  generalize hAe : va_A [(h0, .inr (2, [.int 0, .int 0, .null, .int 0, .null, .int 0, .int 0]))] s.heap.size = A at hD ⊢
  have hA : ∀ q : Nat, s.heap.size ≤ q → A q := fun q h => by rw [← hAe]; exact Or.inr h
  have hS : va_S A s.heap s.heap [] := va_S.rf
  have hP : va_P (dC, dI) vwCl [(h0, .inr (2, [.int 0, .int 0, .null, .int 0, .null, .int 0, .int 0]))] s.heap := hP
  have hl := lv_entry ([.ref h0, .int p0, .int 4, .int 1]) (n := 4) (Nat.le_of_ble_eq_true rfl)
  rw [lg_entry_eq]
  generalize (lg_sl ([.ref h0, .int p0, .int 4, .int 1]) ++ List.replicate (4 - (lg_sl ([.ref h0, .int p0, .int 4, .int 1])).length) Slot.unset).toArray = ls at hl ⊢
  have hl : lv_has ls 4 [(0, .ref h0), (1, .int p0), (2, .int 4), (3, .int 1)] := hl
  refine lv_aload_n hx hb dX4_init_0 rfl (lv_at hl 0 rfl) ?_
  refine W.objInit hx hb hown (hts (.methodLink RX4 3 objectInit) (zat q_wsX4_init k_wsX4_init 169 rfl (by decide +kernel))) (hts (.instanceMethod objectInit) (zat q_wsX4_init k_wsX4_init 74 rfl (by decide +kernel))) (hts (.code objectInit ⟨#[0xb1]⟩ 1 none) (zat q_wsX4_init k_wsX4_init 75 rfl (by decide +kernel))) rfl (by rw [hml]; exact hl.1) rfl dX4_init_1 (Nat.le_of_ble_eq_true rfl) (Nat.le_of_ble_eq_true rfl) ?_
  refine W.eq (g2 := F0 m 4 ls []) rfl ?_
  refine lv_aload_n hx hb dX4_init_4 rfl (lv_at hl 0 rfl) ?_
  refine lv_iconst (v := 0) hx hb dX4_init_5 (by decide) ?_
  refine va_put (D := (dC, dI)) (ci := 2) (v := .int 0) (ty := .int) (C := RX2) (T := TX2) (N := 7) hx hb hts zl_X4_init_X2 tyX2 tyX2_ok nmX2 hown hK hP hD hS 0 rfl rfl 3 (by decide) (hts (.fieldLink RX4 9 "PageOne$Item" "count" "I") (zat q_wsX4_init k_wsX4_init 194 rfl (by decide +kernel))) (fun _ h9 => h9) rfl (tyX2_ok 3 (by decide)) rfl rfl (Nat.le_of_ble_eq_true rfl) dX4_init_6 (fun H locs hP hD hS => ?_)
  have hP : va_P (dC, dI) vwCl [(h0, .inr (2, [.int 0, .int 0, .null, .int 0, .null, .int 0, .int 0]))] H := hP
  have hD : va_D A [(h0, .inr (2, [.int 0, .int 0, .null, .int 0, .null, .int 0, .int 0]))] := hD
  refine lv_aload_n hx hb dX4_init_9 rfl (lv_at hl 0 rfl) ?_
  refine lv_iconst (v := 5) hx hb dX4_init_10 (by decide) ?_
  refine va_newa (atype := .int) (ty := .int) (a0 := (5, .inl (fun _ => 0))) (N' := 5) hx hb (hts (.arrayClass .int) (zat q_wsX4_init k_wsX4_init 111 rfl (by decide +kernel))) rfl hK hP hD hS hA (newI 5) (by decide) (by decide) (nbI (Nat.le_of_ble_eq_true rfl)) (Nat.le_of_ble_eq_true rfl) (Nat.le_of_ble_eq_true rfl) dX4_init_11 (fun q_1 cA_2 H hK hP hD hS => ?_)
  obtain rfl : cI = cA_2 := kuniq hK 0 2 rfl rfl
  have hK := hK.sub (tys' := [(cI, .int), (cP, .object "PageOne$Piece")]) [0, 1] rfl
  have hK : va_K (dC, dI) vwCl [(cI, .int), (cP, .object "PageOne$Piece")] s := hK
  have hP : va_P (dC, dI) vwCl [(h0, .inr (2, [.int 0, .int 0, .null, .int 0, .null, .int 0, .int 0])), (q_1, .inl (cI, 5, .inl (fun _ => 0)))] H := hP
  have hD : va_D A [(h0, .inr (2, [.int 0, .int 0, .null, .int 0, .null, .int 0, .int 0])), (q_1, .inl (cI, 5, .inl (fun _ => 0)))] := hD
  refine W.widen (k := 1) (n := 5) (Nat.le_of_ble_eq_true rfl) (Nat.le_of_ble_eq_true rfl) ?_
  refine va_putF (D := (dC, dI)) (ci := 2) (v := .ref q_1) (ty := .array .int) (C := RX2) (T := TX2) (N := 7) hx hb hts zl_X4_init_X2 tyX2 tyX2_ok nmX2 hown hK hP hD hS 0 rfl rfl 4 (by decide) (hts (.fieldLink RX4 15 "PageOne$Item" "first" "[I") (zat q_wsX4_init k_wsX4_init 198 rfl (by decide +kernel))) (fun _ h9 => h9) rfl hin rfl (tyX2_ok 4 (by decide)) rfl rfl (Nat.le_of_ble_eq_true rfl) dX4_init_13 (fun H locs hP hD hS => ?_)
  have hP : va_P (dC, dI) vwCl [(h0, .inr (2, [.int 0, .int 0, .null, .int 0, .ref q_1, .int 0, .int 0])), (q_1, .inl (cI, 5, .inl (fun _ => 0)))] H := hP
  have hD : va_D A [(h0, .inr (2, [.int 0, .int 0, .null, .int 0, .ref q_1, .int 0, .int 0])), (q_1, .inl (cI, 5, .inl (fun _ => 0)))] := hD
  refine lv_aload_n hx hb dX4_init_16 rfl (lv_at hl 0 rfl) ?_
  refine lv_iload_n hx hb dX4_init_17 rfl (lv_at hl 1 rfl) ?_
  refine va_putF (D := (dC, dI)) (ci := 2) (v := .int p0) (ty := .int) (C := RX2) (T := TX2) (N := 7) hx hb hts zl_X4_init_X2 tyX2 tyX2_ok nmX2 hown hK hP hD hS 0 rfl rfl 0 (by decide) (hts (.fieldLink RX4 19 "PageOne$Item" "number" "I") (zat q_wsX4_init k_wsX4_init 181 rfl (by decide +kernel))) (fun _ h9 => h9) rfl hin rfl (tyX2_ok 0 (by decide)) rfl rfl (Nat.le_of_ble_eq_true rfl) dX4_init_18 (fun H locs hP hD hS => ?_)
  have hP : va_P (dC, dI) vwCl [(h0, .inr (2, [.int p0, .int 0, .null, .int 0, .ref q_1, .int 0, .int 0])), (q_1, .inl (cI, 5, .inl (fun _ => 0)))] H := hP
  have hD : va_D A [(h0, .inr (2, [.int p0, .int 0, .null, .int 0, .ref q_1, .int 0, .int 0])), (q_1, .inl (cI, 5, .inl (fun _ => 0)))] := hD
  refine lv_aload_n hx hb dX4_init_21 rfl (lv_at hl 0 rfl) ?_
  refine lv_iload_n hx hb dX4_init_22 rfl (lv_at hl 2 rfl) ?_
  refine va_putF (D := (dC, dI)) (ci := 2) (v := .int 4) (ty := .int) (C := RX2) (T := TX2) (N := 7) hx hb hts zl_X4_init_X2 tyX2 tyX2_ok nmX2 hown hK hP hD hS 0 rfl rfl 1 (by decide) (hts (.fieldLink RX4 22 "PageOne$Item" "kind" "I") (zat q_wsX4_init k_wsX4_init 188 rfl (by decide +kernel))) (fun _ h9 => h9) rfl hin rfl (tyX2_ok 1 (by decide)) rfl rfl (Nat.le_of_ble_eq_true rfl) dX4_init_23 (fun H locs hP hD hS => ?_)
  have hP : va_P (dC, dI) vwCl [(h0, .inr (2, [.int p0, .int 4, .null, .int 0, .ref q_1, .int 0, .int 0])), (q_1, .inl (cI, 5, .inl (fun _ => 0)))] H := hP
  have hD : va_D A [(h0, .inr (2, [.int p0, .int 4, .null, .int 0, .ref q_1, .int 0, .int 0])), (q_1, .inl (cI, 5, .inl (fun _ => 0)))] := hD
  refine lv_aload_n hx hb dX4_init_26 rfl (lv_at hl 0 rfl) ?_
  refine lv_iload_n hx hb dX4_init_27 rfl (lv_at hl 3 rfl) ?_
  refine lv_iconst (v := 1) hx hb dX4_init_28 (by decide) ?_
  refine lv_bipush (v := 6) hx hb dX4_init_29 (by decide) ?_
  have hPc := hP.sub (ws' := []) [] rfl
  have hKc := hK.sub (tys' := []) [] rfl
  refine vp_callSi (va_runSN (As := [.int 1, .int 1, .int 6]) (rest := [.ref h0]) ⟨hx, hb, hml, hown, hts⟩ (x_isWithin l dC dI 1 1 6) ⟨va_cnB (host := "PageOne") 3 hts gX4_init_X11_isWithin_n25 rfl rfl rfl hN.n_RX4_25 (hts (.initialized RX11) (zat q_wsX4_init k_wsX4_init 53 rfl (by decide +kernel))) (by decide +kernel) ⟨Nat.le_of_ble_eq_true rfl, Nat.le_of_ble_eq_true rfl⟩, hts (.static yX11_isWithin) (zat q_wsX4_init k_wsX4_init 148 rfl (by decide +kernel)), trivial⟩ ⟨pw_fb, fun U hU hW => ⟨rfl, pw_to hU hW hPc hKc hN⟩⟩ rfl rfl hl.1 rfl (lv_room (Nat.le_of_ble_eq_true rfl)) dX4_init_31 ⟨Nat.le_of_ble_eq_true rfl, Nat.le_of_ble_eq_true rfl⟩).run (fun r hw => ?_)
  obtain rfl : r = 1 := hw.trans (by decide)
  refine lv_if_eq (tgt := 41) hx hb dX4_init_34 (by decide) (fun c_3 => absurd c_3 (by decide)) (fun c_3 => ?_)
  refine lv_iload_n hx hb dX4_init_37 rfl (lv_at hl 3 rfl) ?_
  refine lv_goto (tgt := 42) hx hb dX4_init_38 (by decide) ?_
  refine va_newq (N' := 1) (C := RX8) hx hb hown (hts (.classLink RX4 29 RX8) (zat q_wsX4_init k_wsX4_init 171 rfl (by decide +kernel))) hN.ao_Piece hK hP hD hS hA (by decide) (by decide) (by decide) (Nat.le_of_ble_eq_true rfl) (Nat.le_of_ble_eq_true rfl) dX4_init_42 (fun q_4 cA_5 H hK hP hD hS => ?_)
  obtain rfl : cP = cA_5 := kuniqo hK 1 2 rfl rfl
  have hK := hK.sub (tys' := [(cI, .int), (cP, .object "PageOne$Piece")]) [0, 1] rfl
  have hK : va_K (dC, dI) vwCl [(cI, .int), (cP, .object "PageOne$Piece")] s := hK
  have hP : va_P (dC, dI) vwCl [(h0, .inr (2, [.int p0, .int 4, .null, .int 0, .ref q_1, .int 0, .int 0])), (q_1, .inl (cI, 5, .inl (fun _ => 0))), (q_4, .inl (cP, 1, .inr (.inr (.inr (.inr (fun _ => none))))))] H := hP
  have hD : va_D A [(h0, .inr (2, [.int p0, .int 4, .null, .int 0, .ref q_1, .int 0, .int 0])), (q_1, .inl (cI, 5, .inl (fun _ => 0))), (q_4, .inl (cP, 1, .inr (.inr (.inr (.inr (fun _ => none))))))] := hD
  refine W.widen (k := 2) (n := 6) (Nat.le_of_ble_eq_true rfl) (Nat.le_of_ble_eq_true rfl) ?_
  refine va_putF (D := (dC, dI)) (ci := 2) (v := .ref q_4) (ty := .array (.object "PageOne$Piece")) (C := RX2) (T := TX2) (N := 7) hx hb hts zl_X4_init_X2 tyX2 tyX2_ok nmX2 hown hK hP hD hS 0 rfl rfl 2 (by decide) (hts (.fieldLink RX4 31 "PageOne$Item" "pieces" "[LPageOne$Piece;") (zat q_wsX4_init k_wsX4_init 190 rfl (by decide +kernel))) (fun _ h9 => h9) rfl hin rfl (tyX2_ok 2 (by decide)) rfl rfl (Nat.le_of_ble_eq_true rfl) dX4_init_45 (fun H locs hP hD hS => ?_)
  have hP : va_P (dC, dI) vwCl [(h0, .inr (2, [.int p0, .int 4, .ref q_4, .int 0, .ref q_1, .int 0, .int 0])), (q_1, .inl (cI, 5, .inl (fun _ => 0))), (q_4, .inl (cP, 1, .inr (.inr (.inr (.inr (fun _ => none))))))] H := hP
  have hD : va_D A [(h0, .inr (2, [.int p0, .int 4, .ref q_4, .int 0, .ref q_1, .int 0, .int 0])), (q_1, .inl (cI, 5, .inl (fun _ => 0))), (q_4, .inl (cP, 1, .inr (.inr (.inr (.inr (fun _ => none))))))] := hD
  refine lv_aload_n hx hb dX4_init_48 rfl (lv_at hl 0 rfl) ?_
  refine va_get (D := (dC, dI)) (ci := 2) (v := .ref q_1) (C := RX2) (T := TX2) (N := 7) hx hb hts zl_X4_init_X2 hown hK hP 0 rfl rfl 4 (by decide) (hts (.fieldLink RX4 15 "PageOne$Item" "first" "[I") (zat q_wsX4_init k_wsX4_init 198 rfl (by decide +kernel))) (fun _ h9 => h9) rfl dX4_init_49 ?_
  refine lv_iconst (v := (-1)) hx hb dX4_init_52 (by decide) ?_
  have hPc := hP.sub (ws' := [(q_1, .inl (cI, 5, .inl (fun _ => 0)))]) [1] rfl
  have hKc := hK.sub (tys' := [(cI, .int)]) [0] rfl
  have hDc := hD.sub (ws' := [(q_1, .inl (cI, 5, .inl (fun _ => 0)))]) [1] (by decide) rfl
  have hFc := va_free (wc := [(q_1, .inl (cI, 5, .inl (fun _ => 0)))]) hD hS hA [1] rfl
  refine va_callv (va_runS (As := [.ref q_1, .int (-1)]) (rest := []) ⟨hx, hb, hml, hown, hts⟩ (j_fill l dC dI q_1 cI 5 (fun _ => 0) (-1) (by decide) H.size) (va_cwS 2 hts gX4_init_J7_fill_53178 rfl rfl rfl zh_J7_fill_53178_59 ⟨Nat.le_of_ble_eq_true rfl, Nat.le_of_ble_eq_true rfl⟩) ⟨gw_fb, fun U hU hW => ⟨rfl, by rw [hU], pw_to hU hW hPc hKc hN, hDc.weaken (fun _ _ _ _ => trivial)⟩⟩ rfl rfl hl.1 rfl (lv_room (Nat.le_of_ble_eq_true rfl)) dX4_init_53 ⟨Nat.le_of_ble_eq_true rfl, Nat.le_of_ble_eq_true rfl⟩) hS (fun q _ h => hFc q h) hFc (fun u t H1 locs ht hvm hw hB hz1 hk1 hS => ?_)
  obtain ⟨hP1, hD1⟩ := hB
  rw [ht] at hP1
  obtain ⟨hP, hD⟩ := va_join (wr := [(h0, .inr (2, [.int p0, .int 4, .ref q_4, .int 0, .ref q_1, .int 0, .int 0])), (q_4, .inl (cP, 1, .inr (.inr (.inr (.inr (fun _ => none))))))]) (w1 := [(q_1, .inl (cI, 5, .inl (fun _ => (-1))))]) hP hD [1] [0, 2] rfl rfl (by decide) (by decide) hk1 hFc hP1 hD1
  generalize H1 = H at hP hS ⊢
  have hP : va_P (dC, dI) vwCl [(h0, .inr (2, [.int p0, .int 4, .ref q_4, .int 0, .ref q_1, .int 0, .int 0])), (q_4, .inl (cP, 1, .inr (.inr (.inr (.inr (fun _ => none)))))), (q_1, .inl (cI, 5, .inl (fun _ => (-1))))] H := hP
  have hD : va_D A [(h0, .inr (2, [.int p0, .int 4, .ref q_4, .int 0, .ref q_1, .int 0, .int 0])), (q_4, .inl (cP, 1, .inr (.inr (.inr (.inr (fun _ => none)))))), (q_1, .inl (cI, 5, .inl (fun _ => (-1))))] := hD
  refine W.widen (k := 2) (n := 6) (Nat.le_of_ble_eq_true rfl) (Nat.le_of_ble_eq_true rfl) ?_
  exact W.vret hx hb hr (fun t ht hW => ⟨⟨(), rfl, trivial, ⟨q_1, q_4, by rw [ht]; exact hP.sub [2, 1, 0] rfl, hD.sub [2, 1, 0] (by decide) rfl⟩⟩, hS.F ht⟩) hS.2.2 dX4_init_56
set_option maxHeartbeats 4000000 in
set_option maxRecDepth 100000 in
theorem xn_Item_Notice (l : Launch) (dC : Nat → ClassId) (dI : Nat → Nat → Nat) (h0 : Nat) (cI cP : ClassId) (p0 : Int32) (sz : Nat) : Met l yX4_init wsX4_init ({ frames := 1, cells := 2, slots := 6, locals := 23 }) (va_Pc [.ref h0, .int p0, .int 5, .int 1] (fun U => U.heap.size = sz ∧ PW dC dI [(h0, .inr (4, [.int 0, .int 0, .null, .int 0, .null, .null, .int 0]))] [(cI, .int), (cP, .object "PageOne$Piece")] U ∧ va_D (fun _ => True) [(h0, .inr (4, [.int 0, .int 0, .null, .int 0, .null, .null, .int 0]))])) (va_Qv (fun _ : Unit => True) (fun _ t => ∃ q1 q2 : Nat, va_P (dC, dI) vwCl [(q1, .inl (cI, 5, .inl (fun _ => (-1)))), (q2, .inl (cP, 1, .inr (.inr (.inr (.inr (fun _ => none)))))), (h0, .inr (4, [.int p0, .int 5, .ref q2, .int 0, .ref q1, .null, .int 0]))] t.heap ∧ va_D (va_A [(h0, .inr (4, [.int 0, .int 0, .null, .int 0, .null, .null, .int 0]))] sz) [(q1, .inl (cI, 5, .inl (fun _ => (-1)))), (q2, .inl (cP, 1, .inr (.inr (.inr (.inr (fun _ => none)))))), (h0, .inr (4, [.int p0, .int 5, .ref q2, .int 0, .ref q1, .null, .int 0]))]) (va_A [(h0, .inr (4, [.int 0, .int 0, .null, .int 0, .null, .null, .int 0]))] sz)) 2 6 (va_A [(h0, .inr (4, [.int 0, .int 0, .null, .int 0, .null, .null, .int 0]))] sz) := by
  refine Met.ofW (cc := cX4_init) (maxL := 4) (ret := none) (by decide) rfl ?_
  intro p e s m args below meth c s₁ B hml hv
  obtain ⟨rfl, hsz, ⟨hP, hK, hN⟩, hD0⟩ := hv
  have hx := B.exec
  have hb := B.bytes
  have hr := B.returns
  have hts := atoms_spec (ws := wsX4_init) B.pre
  have hown : s.vm.findClass RX4 = some m.cls := findClass_of_methodNamed B.named
  have hlocks := B.notSynchronized
  have hin : meth.name = "<init>" := (name_of_methodNamed B.named B.method).1
  subst hsz
  have hD := hD0.self (sz := s.heap.size)
  generalize hAe : va_A [(h0, .inr (4, [.int 0, .int 0, .null, .int 0, .null, .null, .int 0]))] s.heap.size = A at hD ⊢
  have hA : ∀ q : Nat, s.heap.size ≤ q → A q := fun q h => by rw [← hAe]; exact Or.inr h
  have hS : va_S A s.heap s.heap [] := va_S.rf
  have hP : va_P (dC, dI) vwCl [(h0, .inr (4, [.int 0, .int 0, .null, .int 0, .null, .null, .int 0]))] s.heap := hP
  have hl := lv_entry ([.ref h0, .int p0, .int 5, .int 1]) (n := 4) (Nat.le_of_ble_eq_true rfl)
  rw [lg_entry_eq]
  generalize (lg_sl ([.ref h0, .int p0, .int 5, .int 1]) ++ List.replicate (4 - (lg_sl ([.ref h0, .int p0, .int 5, .int 1])).length) Slot.unset).toArray = ls at hl ⊢
  have hl : lv_has ls 4 [(0, .ref h0), (1, .int p0), (2, .int 5), (3, .int 1)] := hl
  refine lv_aload_n hx hb dX4_init_0 rfl (lv_at hl 0 rfl) ?_
  refine W.objInit hx hb hown (hts (.methodLink RX4 3 objectInit) (zat q_wsX4_init k_wsX4_init 169 rfl (by decide +kernel))) (hts (.instanceMethod objectInit) (zat q_wsX4_init k_wsX4_init 74 rfl (by decide +kernel))) (hts (.code objectInit ⟨#[0xb1]⟩ 1 none) (zat q_wsX4_init k_wsX4_init 75 rfl (by decide +kernel))) rfl (by rw [hml]; exact hl.1) rfl dX4_init_1 (Nat.le_of_ble_eq_true rfl) (Nat.le_of_ble_eq_true rfl) ?_
  refine W.eq (g2 := F0 m 4 ls []) rfl ?_
  refine lv_aload_n hx hb dX4_init_4 rfl (lv_at hl 0 rfl) ?_
  refine lv_iconst (v := 0) hx hb dX4_init_5 (by decide) ?_
  refine va_put (D := (dC, dI)) (ci := 4) (v := .int 0) (ty := .int) (C := RX5) (T := TX5) (N := 7) hx hb hts zl_X4_init_X5 tyX5 tyX5_ok nmX5 hown hK hP hD hS 0 rfl rfl 3 (by decide) (hts (.fieldLink RX4 9 "PageOne$Item" "count" "I") (zat q_wsX4_init k_wsX4_init 194 rfl (by decide +kernel))) (fun _ h9 => h9) rfl (tyX5_ok 3 (by decide)) rfl rfl (Nat.le_of_ble_eq_true rfl) dX4_init_6 (fun H locs hP hD hS => ?_)
  have hP : va_P (dC, dI) vwCl [(h0, .inr (4, [.int 0, .int 0, .null, .int 0, .null, .null, .int 0]))] H := hP
  have hD : va_D A [(h0, .inr (4, [.int 0, .int 0, .null, .int 0, .null, .null, .int 0]))] := hD
  refine lv_aload_n hx hb dX4_init_9 rfl (lv_at hl 0 rfl) ?_
  refine lv_iconst (v := 5) hx hb dX4_init_10 (by decide) ?_
  refine va_newa (atype := .int) (ty := .int) (a0 := (5, .inl (fun _ => 0))) (N' := 5) hx hb (hts (.arrayClass .int) (zat q_wsX4_init k_wsX4_init 111 rfl (by decide +kernel))) rfl hK hP hD hS hA (newI 5) (by decide) (by decide) (nbI (Nat.le_of_ble_eq_true rfl)) (Nat.le_of_ble_eq_true rfl) (Nat.le_of_ble_eq_true rfl) dX4_init_11 (fun q_1 cA_2 H hK hP hD hS => ?_)
  obtain rfl : cI = cA_2 := kuniq hK 0 2 rfl rfl
  have hK := hK.sub (tys' := [(cI, .int), (cP, .object "PageOne$Piece")]) [0, 1] rfl
  have hK : va_K (dC, dI) vwCl [(cI, .int), (cP, .object "PageOne$Piece")] s := hK
  have hP : va_P (dC, dI) vwCl [(h0, .inr (4, [.int 0, .int 0, .null, .int 0, .null, .null, .int 0])), (q_1, .inl (cI, 5, .inl (fun _ => 0)))] H := hP
  have hD : va_D A [(h0, .inr (4, [.int 0, .int 0, .null, .int 0, .null, .null, .int 0])), (q_1, .inl (cI, 5, .inl (fun _ => 0)))] := hD
  refine W.widen (k := 1) (n := 5) (Nat.le_of_ble_eq_true rfl) (Nat.le_of_ble_eq_true rfl) ?_
  refine va_putF (D := (dC, dI)) (ci := 4) (v := .ref q_1) (ty := .array .int) (C := RX5) (T := TX5) (N := 7) hx hb hts zl_X4_init_X5 tyX5 tyX5_ok nmX5 hown hK hP hD hS 0 rfl rfl 4 (by decide) (hts (.fieldLink RX4 15 "PageOne$Item" "first" "[I") (zat q_wsX4_init k_wsX4_init 198 rfl (by decide +kernel))) (fun _ h9 => h9) rfl hin rfl (tyX5_ok 4 (by decide)) rfl rfl (Nat.le_of_ble_eq_true rfl) dX4_init_13 (fun H locs hP hD hS => ?_)
  have hP : va_P (dC, dI) vwCl [(h0, .inr (4, [.int 0, .int 0, .null, .int 0, .ref q_1, .null, .int 0])), (q_1, .inl (cI, 5, .inl (fun _ => 0)))] H := hP
  have hD : va_D A [(h0, .inr (4, [.int 0, .int 0, .null, .int 0, .ref q_1, .null, .int 0])), (q_1, .inl (cI, 5, .inl (fun _ => 0)))] := hD
  refine lv_aload_n hx hb dX4_init_16 rfl (lv_at hl 0 rfl) ?_
  refine lv_iload_n hx hb dX4_init_17 rfl (lv_at hl 1 rfl) ?_
  refine va_putF (D := (dC, dI)) (ci := 4) (v := .int p0) (ty := .int) (C := RX5) (T := TX5) (N := 7) hx hb hts zl_X4_init_X5 tyX5 tyX5_ok nmX5 hown hK hP hD hS 0 rfl rfl 0 (by decide) (hts (.fieldLink RX4 19 "PageOne$Item" "number" "I") (zat q_wsX4_init k_wsX4_init 181 rfl (by decide +kernel))) (fun _ h9 => h9) rfl hin rfl (tyX5_ok 0 (by decide)) rfl rfl (Nat.le_of_ble_eq_true rfl) dX4_init_18 (fun H locs hP hD hS => ?_)
  have hP : va_P (dC, dI) vwCl [(h0, .inr (4, [.int p0, .int 0, .null, .int 0, .ref q_1, .null, .int 0])), (q_1, .inl (cI, 5, .inl (fun _ => 0)))] H := hP
  have hD : va_D A [(h0, .inr (4, [.int p0, .int 0, .null, .int 0, .ref q_1, .null, .int 0])), (q_1, .inl (cI, 5, .inl (fun _ => 0)))] := hD
  refine lv_aload_n hx hb dX4_init_21 rfl (lv_at hl 0 rfl) ?_
  refine lv_iload_n hx hb dX4_init_22 rfl (lv_at hl 2 rfl) ?_
  refine va_putF (D := (dC, dI)) (ci := 4) (v := .int 5) (ty := .int) (C := RX5) (T := TX5) (N := 7) hx hb hts zl_X4_init_X5 tyX5 tyX5_ok nmX5 hown hK hP hD hS 0 rfl rfl 1 (by decide) (hts (.fieldLink RX4 22 "PageOne$Item" "kind" "I") (zat q_wsX4_init k_wsX4_init 188 rfl (by decide +kernel))) (fun _ h9 => h9) rfl hin rfl (tyX5_ok 1 (by decide)) rfl rfl (Nat.le_of_ble_eq_true rfl) dX4_init_23 (fun H locs hP hD hS => ?_)
  have hP : va_P (dC, dI) vwCl [(h0, .inr (4, [.int p0, .int 5, .null, .int 0, .ref q_1, .null, .int 0])), (q_1, .inl (cI, 5, .inl (fun _ => 0)))] H := hP
  have hD : va_D A [(h0, .inr (4, [.int p0, .int 5, .null, .int 0, .ref q_1, .null, .int 0])), (q_1, .inl (cI, 5, .inl (fun _ => 0)))] := hD
  refine lv_aload_n hx hb dX4_init_26 rfl (lv_at hl 0 rfl) ?_
  refine lv_iload_n hx hb dX4_init_27 rfl (lv_at hl 3 rfl) ?_
  refine lv_iconst (v := 1) hx hb dX4_init_28 (by decide) ?_
  refine lv_bipush (v := 6) hx hb dX4_init_29 (by decide) ?_
  have hPc := hP.sub (ws' := []) [] rfl
  have hKc := hK.sub (tys' := []) [] rfl
  refine vp_callSi (va_runSN (As := [.int 1, .int 1, .int 6]) (rest := [.ref h0]) ⟨hx, hb, hml, hown, hts⟩ (x_isWithin l dC dI 1 1 6) ⟨va_cnB (host := "PageOne") 3 hts gX4_init_X11_isWithin_n25 rfl rfl rfl hN.n_RX4_25 (hts (.initialized RX11) (zat q_wsX4_init k_wsX4_init 53 rfl (by decide +kernel))) (by decide +kernel) ⟨Nat.le_of_ble_eq_true rfl, Nat.le_of_ble_eq_true rfl⟩, hts (.static yX11_isWithin) (zat q_wsX4_init k_wsX4_init 148 rfl (by decide +kernel)), trivial⟩ ⟨pw_fb, fun U hU hW => ⟨rfl, pw_to hU hW hPc hKc hN⟩⟩ rfl rfl hl.1 rfl (lv_room (Nat.le_of_ble_eq_true rfl)) dX4_init_31 ⟨Nat.le_of_ble_eq_true rfl, Nat.le_of_ble_eq_true rfl⟩).run (fun r hw => ?_)
  obtain rfl : r = 1 := hw.trans (by decide)
  refine lv_if_eq (tgt := 41) hx hb dX4_init_34 (by decide) (fun c_3 => absurd c_3 (by decide)) (fun c_3 => ?_)
  refine lv_iload_n hx hb dX4_init_37 rfl (lv_at hl 3 rfl) ?_
  refine lv_goto (tgt := 42) hx hb dX4_init_38 (by decide) ?_
  refine va_newq (N' := 1) (C := RX8) hx hb hown (hts (.classLink RX4 29 RX8) (zat q_wsX4_init k_wsX4_init 171 rfl (by decide +kernel))) hN.ao_Piece hK hP hD hS hA (by decide) (by decide) (by decide) (Nat.le_of_ble_eq_true rfl) (Nat.le_of_ble_eq_true rfl) dX4_init_42 (fun q_4 cA_5 H hK hP hD hS => ?_)
  obtain rfl : cP = cA_5 := kuniqo hK 1 2 rfl rfl
  have hK := hK.sub (tys' := [(cI, .int), (cP, .object "PageOne$Piece")]) [0, 1] rfl
  have hK : va_K (dC, dI) vwCl [(cI, .int), (cP, .object "PageOne$Piece")] s := hK
  have hP : va_P (dC, dI) vwCl [(h0, .inr (4, [.int p0, .int 5, .null, .int 0, .ref q_1, .null, .int 0])), (q_1, .inl (cI, 5, .inl (fun _ => 0))), (q_4, .inl (cP, 1, .inr (.inr (.inr (.inr (fun _ => none))))))] H := hP
  have hD : va_D A [(h0, .inr (4, [.int p0, .int 5, .null, .int 0, .ref q_1, .null, .int 0])), (q_1, .inl (cI, 5, .inl (fun _ => 0))), (q_4, .inl (cP, 1, .inr (.inr (.inr (.inr (fun _ => none))))))] := hD
  refine W.widen (k := 2) (n := 6) (Nat.le_of_ble_eq_true rfl) (Nat.le_of_ble_eq_true rfl) ?_
  refine va_putF (D := (dC, dI)) (ci := 4) (v := .ref q_4) (ty := .array (.object "PageOne$Piece")) (C := RX5) (T := TX5) (N := 7) hx hb hts zl_X4_init_X5 tyX5 tyX5_ok nmX5 hown hK hP hD hS 0 rfl rfl 2 (by decide) (hts (.fieldLink RX4 31 "PageOne$Item" "pieces" "[LPageOne$Piece;") (zat q_wsX4_init k_wsX4_init 190 rfl (by decide +kernel))) (fun _ h9 => h9) rfl hin rfl (tyX5_ok 2 (by decide)) rfl rfl (Nat.le_of_ble_eq_true rfl) dX4_init_45 (fun H locs hP hD hS => ?_)
  have hP : va_P (dC, dI) vwCl [(h0, .inr (4, [.int p0, .int 5, .ref q_4, .int 0, .ref q_1, .null, .int 0])), (q_1, .inl (cI, 5, .inl (fun _ => 0))), (q_4, .inl (cP, 1, .inr (.inr (.inr (.inr (fun _ => none))))))] H := hP
  have hD : va_D A [(h0, .inr (4, [.int p0, .int 5, .ref q_4, .int 0, .ref q_1, .null, .int 0])), (q_1, .inl (cI, 5, .inl (fun _ => 0))), (q_4, .inl (cP, 1, .inr (.inr (.inr (.inr (fun _ => none))))))] := hD
  refine lv_aload_n hx hb dX4_init_48 rfl (lv_at hl 0 rfl) ?_
  refine va_get (D := (dC, dI)) (ci := 4) (v := .ref q_1) (C := RX5) (T := TX5) (N := 7) hx hb hts zl_X4_init_X5 hown hK hP 0 rfl rfl 4 (by decide) (hts (.fieldLink RX4 15 "PageOne$Item" "first" "[I") (zat q_wsX4_init k_wsX4_init 198 rfl (by decide +kernel))) (fun _ h9 => h9) rfl dX4_init_49 ?_
  refine lv_iconst (v := (-1)) hx hb dX4_init_52 (by decide) ?_
  have hPc := hP.sub (ws' := [(q_1, .inl (cI, 5, .inl (fun _ => 0)))]) [1] rfl
  have hKc := hK.sub (tys' := [(cI, .int)]) [0] rfl
  have hDc := hD.sub (ws' := [(q_1, .inl (cI, 5, .inl (fun _ => 0)))]) [1] (by decide) rfl
  have hFc := va_free (wc := [(q_1, .inl (cI, 5, .inl (fun _ => 0)))]) hD hS hA [1] rfl
  refine va_callv (va_runS (As := [.ref q_1, .int (-1)]) (rest := []) ⟨hx, hb, hml, hown, hts⟩ (j_fill l dC dI q_1 cI 5 (fun _ => 0) (-1) (by decide) H.size) (va_cwS 2 hts gX4_init_J7_fill_53178 rfl rfl rfl zh_J7_fill_53178_59 ⟨Nat.le_of_ble_eq_true rfl, Nat.le_of_ble_eq_true rfl⟩) ⟨gw_fb, fun U hU hW => ⟨rfl, by rw [hU], pw_to hU hW hPc hKc hN, hDc.weaken (fun _ _ _ _ => trivial)⟩⟩ rfl rfl hl.1 rfl (lv_room (Nat.le_of_ble_eq_true rfl)) dX4_init_53 ⟨Nat.le_of_ble_eq_true rfl, Nat.le_of_ble_eq_true rfl⟩) hS (fun q _ h => hFc q h) hFc (fun u t H1 locs ht hvm hw hB hz1 hk1 hS => ?_)
  obtain ⟨hP1, hD1⟩ := hB
  rw [ht] at hP1
  obtain ⟨hP, hD⟩ := va_join (wr := [(h0, .inr (4, [.int p0, .int 5, .ref q_4, .int 0, .ref q_1, .null, .int 0])), (q_4, .inl (cP, 1, .inr (.inr (.inr (.inr (fun _ => none))))))]) (w1 := [(q_1, .inl (cI, 5, .inl (fun _ => (-1))))]) hP hD [1] [0, 2] rfl rfl (by decide) (by decide) hk1 hFc hP1 hD1
  generalize H1 = H at hP hS ⊢
  have hP : va_P (dC, dI) vwCl [(h0, .inr (4, [.int p0, .int 5, .ref q_4, .int 0, .ref q_1, .null, .int 0])), (q_4, .inl (cP, 1, .inr (.inr (.inr (.inr (fun _ => none)))))), (q_1, .inl (cI, 5, .inl (fun _ => (-1))))] H := hP
  have hD : va_D A [(h0, .inr (4, [.int p0, .int 5, .ref q_4, .int 0, .ref q_1, .null, .int 0])), (q_4, .inl (cP, 1, .inr (.inr (.inr (.inr (fun _ => none)))))), (q_1, .inl (cI, 5, .inl (fun _ => (-1))))] := hD
  refine W.widen (k := 2) (n := 6) (Nat.le_of_ble_eq_true rfl) (Nat.le_of_ble_eq_true rfl) ?_
  exact W.vret hx hb hr (fun t ht hW => ⟨⟨(), rfl, trivial, ⟨q_1, q_4, by rw [ht]; exact hP.sub [2, 1, 0] rfl, hD.sub [2, 1, 0] (by decide) rfl⟩⟩, hS.F ht⟩) hS.2.2 dX4_init_56
set_option maxHeartbeats 4000000 in
set_option maxRecDepth 100000 in
theorem xn_Story (l : Launch) (dC : Nat → ClassId) (dI : Nat → Nat → Nat) (h0 : Nat) (cI cZ cP : ClassId) (p0 p1 : Int32) (sz : Nat) : Met l yX10_init wsX10_init ({ frames := 2, cells := 4, slots := 101, locals := 46 }) (va_Pc [.ref h0, .int p0, .int p1] (fun U => U.heap.size = sz ∧ PW dC dI [(h0, .inr (9, [.int 0, .int 0, .null, .int 0, .null, .int 0, .null, .int 0, .null]))] [(cI, .int), (cZ, .boolean), (cP, .object "PageOne$Piece")] U ∧ va_D (fun _ => True) [(h0, .inr (9, [.int 0, .int 0, .null, .int 0, .null, .int 0, .null, .int 0, .null]))])) (va_Qv (fun _ : Unit => True) (fun _ t => ∃ q1 q2 q3 q4 : Nat, va_P (dC, dI) vwCl [(q1, .inl (cI, 5, .inl (fun _ => (-1)))), (q2, .inl (cP, 6, .inr (.inr (.inr (.inr (fun _ => none)))))), (q3, .inl (cI, 80, .inl (fun _ => 0))), (q4, .inl (cZ, 10, .inl (fun _ => 0))), (h0, .inr (9, [.int p0, .int 0, .ref q2, .int 0, .ref q1, .int p1, .ref q3, .int 0, .ref q4]))] t.heap ∧ va_D (va_A [(h0, .inr (9, [.int 0, .int 0, .null, .int 0, .null, .int 0, .null, .int 0, .null]))] sz) [(q1, .inl (cI, 5, .inl (fun _ => (-1)))), (q2, .inl (cP, 6, .inr (.inr (.inr (.inr (fun _ => none)))))), (q3, .inl (cI, 80, .inl (fun _ => 0))), (q4, .inl (cZ, 10, .inl (fun _ => 0))), (h0, .inr (9, [.int p0, .int 0, .ref q2, .int 0, .ref q1, .int p1, .ref q3, .int 0, .ref q4]))]) (va_A [(h0, .inr (9, [.int 0, .int 0, .null, .int 0, .null, .int 0, .null, .int 0, .null]))] sz)) 4 101 (va_A [(h0, .inr (9, [.int 0, .int 0, .null, .int 0, .null, .int 0, .null, .int 0, .null]))] sz) := by
  refine Met.ofW (cc := cX10_init) (maxL := 3) (ret := none) (by decide) rfl ?_
  intro p e s m args below meth c s₁ B hml hv
  obtain ⟨rfl, hsz, ⟨hP, hK, hN⟩, hD0⟩ := hv
  have hx := B.exec
  have hb := B.bytes
  have hr := B.returns
  have hts := atoms_spec (ws := wsX10_init) B.pre
  have hown : s.vm.findClass RX10 = some m.cls := findClass_of_methodNamed B.named
  have hlocks := B.notSynchronized
  have hin : meth.name = "<init>" := (name_of_methodNamed B.named B.method).1
  subst hsz
  have hD := hD0.self (sz := s.heap.size)
  generalize hAe : va_A [(h0, .inr (9, [.int 0, .int 0, .null, .int 0, .null, .int 0, .null, .int 0, .null]))] s.heap.size = A at hD ⊢
  have hA : ∀ q : Nat, s.heap.size ≤ q → A q := fun q h => by rw [← hAe]; exact Or.inr h
  have hS : va_S A s.heap s.heap [] := va_S.rf
  have hP : va_P (dC, dI) vwCl [(h0, .inr (9, [.int 0, .int 0, .null, .int 0, .null, .int 0, .null, .int 0, .null]))] s.heap := hP
  have hl := lv_entry ([.ref h0, .int p0, .int p1]) (n := 3) (Nat.le_of_ble_eq_true rfl)
  rw [lg_entry_eq]
  generalize (lg_sl ([.ref h0, .int p0, .int p1]) ++ List.replicate (3 - (lg_sl ([.ref h0, .int p0, .int p1])).length) Slot.unset).toArray = ls at hl ⊢
  have hl : lv_has ls 3 [(0, .ref h0), (1, .int p0), (2, .int p1)] := hl
  refine lv_aload_n hx hb dX10_init_0 rfl (lv_at hl 0 rfl) ?_
  refine lv_iload_n hx hb dX10_init_1 rfl (lv_at hl 1 rfl) ?_
  refine lv_iconst (v := 0) hx hb dX10_init_2 (by decide) ?_
  refine lv_bipush (v := 6) hx hb dX10_init_3 (by decide) ?_
  have hPc := hP.sub (ws' := [(h0, .inr (9, [.int 0, .int 0, .null, .int 0, .null, .int 0, .null, .int 0, .null]))]) [0] rfl
  have hKc := hK.sub (tys' := [(cI, .int), (cP, .object "PageOne$Piece")]) [0, 2] rfl
  have hDc := hD.sub (ws' := [(h0, .inr (9, [.int 0, .int 0, .null, .int 0, .null, .int 0, .null, .int 0, .null]))]) [0] (by decide) rfl
  have hFc := va_free (wc := [(h0, .inr (9, [.int 0, .int 0, .null, .int 0, .null, .int 0, .null, .int 0, .null]))]) hD hS hA [0] rfl
  refine va_callv (va_runI (As := [.int p0, .int 0, .int 6]) (rest := []) ⟨hx, hb, hml, hown, hts⟩ (xn_Item_Story l dC dI h0 cI cP p0 s.heap.size) (cwI 3 hts gX10_init_X4_init rfl rfl rfl (hts (.initialized RX4) (zat q_wsX10_init k_wsX10_init 57 rfl (by decide +kernel))) (hts (.methodLink RX10 3 yX4_init) (zat q_wsX10_init k_wsX10_init 166 rfl (by decide +kernel))) (hts (.instanceMethod yX4_init) (zat q_wsX10_init k_wsX10_init 167 rfl (by decide +kernel))) rfl zh_X4_init_86 ⟨Nat.le_of_ble_eq_true rfl, Nat.le_of_ble_eq_true rfl⟩) ⟨gw_fb, fun U hU hW => ⟨rfl, by rw [hU], pw_to hU hW hPc hKc hN, hDc.weaken (fun _ _ _ _ => trivial)⟩⟩ rfl rfl hl.1 rfl (lv_room (Nat.le_of_ble_eq_true rfl)) dX10_init_5 ⟨Nat.le_of_ble_eq_true rfl, Nat.le_of_ble_eq_true rfl⟩) hS (fun q _ h => hFc q h) hFc (fun u t H1 locs ht hvm hw hB hz1 hk1 hS => ?_)
  obtain ⟨qa_1, qa_2, hP1, hD1⟩ := hB
  rw [ht] at hP1
  obtain ⟨hP, hD⟩ := va_join (wr := []) (w1 := [(qa_1, .inl (cI, 5, .inl (fun _ => (-1)))), (qa_2, .inl (cP, 6, .inr (.inr (.inr (.inr (fun _ => none)))))), (h0, .inr (9, [.int p0, .int 0, .ref qa_2, .int 0, .ref qa_1, .int 0, .null, .int 0, .null]))]) hP hD [0] [] rfl rfl (by decide) (by decide) hk1 hFc hP1 hD1
  generalize H1 = H at hP hS ⊢
  have hP : va_P (dC, dI) vwCl [(qa_1, .inl (cI, 5, .inl (fun _ => (-1)))), (qa_2, .inl (cP, 6, .inr (.inr (.inr (.inr (fun _ => none)))))), (h0, .inr (9, [.int p0, .int 0, .ref qa_2, .int 0, .ref qa_1, .int 0, .null, .int 0, .null]))] H := hP
  have hD : va_D A [(qa_1, .inl (cI, 5, .inl (fun _ => (-1)))), (qa_2, .inl (cP, 6, .inr (.inr (.inr (.inr (fun _ => none)))))), (h0, .inr (9, [.int p0, .int 0, .ref qa_2, .int 0, .ref qa_1, .int 0, .null, .int 0, .null]))] := hD
  refine W.widen (k := 2) (n := 11) (Nat.le_of_ble_eq_true rfl) (Nat.le_of_ble_eq_true rfl) ?_
  refine lv_aload_n hx hb dX10_init_8 rfl (lv_at hl 0 rfl) ?_
  refine lv_bipush (v := 80) hx hb dX10_init_9 (by decide) ?_
  refine va_newa (atype := .int) (ty := .int) (a0 := (80, .inl (fun _ => 0))) (N' := 80) hx hb (hts (.arrayClass .int) (zat q_wsX10_init k_wsX10_init 111 rfl (by decide +kernel))) rfl hK hP hD hS hA (newI 80) (by decide) (by decide) (nbI (Nat.le_of_ble_eq_true rfl)) (Nat.le_of_ble_eq_true rfl) (Nat.le_of_ble_eq_true rfl) dX10_init_11 (fun q_3 cA_4 H hK hP hD hS => ?_)
  obtain rfl : cI = cA_4 := kuniq hK 0 3 rfl rfl
  have hK := hK.sub (tys' := [(cI, .int), (cZ, .boolean), (cP, .object "PageOne$Piece")]) [0, 1, 2] rfl
  have hK : va_K (dC, dI) vwCl [(cI, .int), (cZ, .boolean), (cP, .object "PageOne$Piece")] s := hK
  have hP : va_P (dC, dI) vwCl [(qa_1, .inl (cI, 5, .inl (fun _ => (-1)))), (qa_2, .inl (cP, 6, .inr (.inr (.inr (.inr (fun _ => none)))))), (h0, .inr (9, [.int p0, .int 0, .ref qa_2, .int 0, .ref qa_1, .int 0, .null, .int 0, .null])), (q_3, .inl (cI, 80, .inl (fun _ => 0)))] H := hP
  have hD : va_D A [(qa_1, .inl (cI, 5, .inl (fun _ => (-1)))), (qa_2, .inl (cP, 6, .inr (.inr (.inr (.inr (fun _ => none)))))), (h0, .inr (9, [.int p0, .int 0, .ref qa_2, .int 0, .ref qa_1, .int 0, .null, .int 0, .null])), (q_3, .inl (cI, 80, .inl (fun _ => 0)))] := hD
  refine W.widen (k := 3) (n := 91) (Nat.le_of_ble_eq_true rfl) (Nat.le_of_ble_eq_true rfl) ?_
  refine va_putF (D := (dC, dI)) (ci := 9) (v := .ref q_3) (ty := .array .int) (C := RX10) (T := TX10) (N := 9) hx hb hts zl_X10_init_X10 tyX10 tyX10_ok nmX10 hown hK hP hD hS 2 rfl rfl 6 (by decide) (hts (.fieldLink RX10 9 "PageOne$Story" "widths" "[I") (zat q_wsX10_init k_wsX10_init 176 rfl (by decide +kernel))) (fun _ h9 => h9) rfl hin rfl (tyX10_ok 6 (by decide)) rfl rfl (Nat.le_of_ble_eq_true rfl) dX10_init_13 (fun H locs hP hD hS => ?_)
  have hP : va_P (dC, dI) vwCl [(qa_1, .inl (cI, 5, .inl (fun _ => (-1)))), (qa_2, .inl (cP, 6, .inr (.inr (.inr (.inr (fun _ => none)))))), (h0, .inr (9, [.int p0, .int 0, .ref qa_2, .int 0, .ref qa_1, .int 0, .ref q_3, .int 0, .null])), (q_3, .inl (cI, 80, .inl (fun _ => 0)))] H := hP
  have hD : va_D A [(qa_1, .inl (cI, 5, .inl (fun _ => (-1)))), (qa_2, .inl (cP, 6, .inr (.inr (.inr (.inr (fun _ => none)))))), (h0, .inr (9, [.int p0, .int 0, .ref qa_2, .int 0, .ref qa_1, .int 0, .ref q_3, .int 0, .null])), (q_3, .inl (cI, 80, .inl (fun _ => 0)))] := hD
  refine lv_aload_n hx hb dX10_init_16 rfl (lv_at hl 0 rfl) ?_
  refine lv_iconst (v := 0) hx hb dX10_init_17 (by decide) ?_
  refine va_put (D := (dC, dI)) (ci := 9) (v := .int 0) (ty := .int) (C := RX10) (T := TX10) (N := 9) hx hb hts zl_X10_init_X10 tyX10 tyX10_ok nmX10 hown hK hP hD hS 2 rfl rfl 7 (by decide) (hts (.fieldLink RX10 15 "PageOne$Story" "come" "I") (zat q_wsX10_init k_wsX10_init 177 rfl (by decide +kernel))) (fun _ h9 => h9) rfl (tyX10_ok 7 (by decide)) rfl rfl (Nat.le_of_ble_eq_true rfl) dX10_init_18 (fun H locs hP hD hS => ?_)
  have hP : va_P (dC, dI) vwCl [(qa_1, .inl (cI, 5, .inl (fun _ => (-1)))), (qa_2, .inl (cP, 6, .inr (.inr (.inr (.inr (fun _ => none)))))), (h0, .inr (9, [.int p0, .int 0, .ref qa_2, .int 0, .ref qa_1, .int 0, .ref q_3, .int 0, .null])), (q_3, .inl (cI, 80, .inl (fun _ => 0)))] H := hP
  have hD : va_D A [(qa_1, .inl (cI, 5, .inl (fun _ => (-1)))), (qa_2, .inl (cP, 6, .inr (.inr (.inr (.inr (fun _ => none)))))), (h0, .inr (9, [.int p0, .int 0, .ref qa_2, .int 0, .ref qa_1, .int 0, .ref q_3, .int 0, .null])), (q_3, .inl (cI, 80, .inl (fun _ => 0)))] := hD
  refine lv_aload_n hx hb dX10_init_21 rfl (lv_at hl 0 rfl) ?_
  refine lv_bipush (v := 10) hx hb dX10_init_22 (by decide) ?_
  refine va_newa (atype := .boolean) (ty := .boolean) (a0 := (10, .inl (fun _ => 0))) (N' := 10) hx hb (hts (.arrayClass .boolean) (zat q_wsX10_init k_wsX10_init 110 rfl (by decide +kernel))) rfl hK hP hD hS hA (newZ 10) (by decide) (by decide) (nbZ (Nat.le_of_ble_eq_true rfl)) (Nat.le_of_ble_eq_true rfl) (Nat.le_of_ble_eq_true rfl) dX10_init_24 (fun q_5 cA_6 H hK hP hD hS => ?_)
  obtain rfl : cZ = cA_6 := kuniq hK 1 3 rfl rfl
  have hK := hK.sub (tys' := [(cI, .int), (cZ, .boolean), (cP, .object "PageOne$Piece")]) [0, 1, 2] rfl
  have hK : va_K (dC, dI) vwCl [(cI, .int), (cZ, .boolean), (cP, .object "PageOne$Piece")] s := hK
  have hP : va_P (dC, dI) vwCl [(qa_1, .inl (cI, 5, .inl (fun _ => (-1)))), (qa_2, .inl (cP, 6, .inr (.inr (.inr (.inr (fun _ => none)))))), (h0, .inr (9, [.int p0, .int 0, .ref qa_2, .int 0, .ref qa_1, .int 0, .ref q_3, .int 0, .null])), (q_3, .inl (cI, 80, .inl (fun _ => 0))), (q_5, .inl (cZ, 10, .inl (fun _ => 0)))] H := hP
  have hD : va_D A [(qa_1, .inl (cI, 5, .inl (fun _ => (-1)))), (qa_2, .inl (cP, 6, .inr (.inr (.inr (.inr (fun _ => none)))))), (h0, .inr (9, [.int p0, .int 0, .ref qa_2, .int 0, .ref qa_1, .int 0, .ref q_3, .int 0, .null])), (q_3, .inl (cI, 80, .inl (fun _ => 0))), (q_5, .inl (cZ, 10, .inl (fun _ => 0)))] := hD
  refine W.widen (k := 4) (n := 101) (Nat.le_of_ble_eq_true rfl) (Nat.le_of_ble_eq_true rfl) ?_
  refine va_putF (D := (dC, dI)) (ci := 9) (v := .ref q_5) (ty := .array .boolean) (C := RX10) (T := TX10) (N := 9) hx hb hts zl_X10_init_X10 tyX10 tyX10_ok nmX10 hown hK hP hD hS 2 rfl rfl 8 (by decide) (hts (.fieldLink RX10 19 "PageOne$Story" "named" "[Z") (zat q_wsX10_init k_wsX10_init 179 rfl (by decide +kernel))) (fun _ h9 => h9) rfl hin rfl (tyX10_ok 8 (by decide)) rfl rfl (Nat.le_of_ble_eq_true rfl) dX10_init_26 (fun H locs hP hD hS => ?_)
  have hP : va_P (dC, dI) vwCl [(qa_1, .inl (cI, 5, .inl (fun _ => (-1)))), (qa_2, .inl (cP, 6, .inr (.inr (.inr (.inr (fun _ => none)))))), (h0, .inr (9, [.int p0, .int 0, .ref qa_2, .int 0, .ref qa_1, .int 0, .ref q_3, .int 0, .ref q_5])), (q_3, .inl (cI, 80, .inl (fun _ => 0))), (q_5, .inl (cZ, 10, .inl (fun _ => 0)))] H := hP
  have hD : va_D A [(qa_1, .inl (cI, 5, .inl (fun _ => (-1)))), (qa_2, .inl (cP, 6, .inr (.inr (.inr (.inr (fun _ => none)))))), (h0, .inr (9, [.int p0, .int 0, .ref qa_2, .int 0, .ref qa_1, .int 0, .ref q_3, .int 0, .ref q_5])), (q_3, .inl (cI, 80, .inl (fun _ => 0))), (q_5, .inl (cZ, 10, .inl (fun _ => 0)))] := hD
  refine lv_aload_n hx hb dX10_init_29 rfl (lv_at hl 0 rfl) ?_
  refine lv_iload_n hx hb dX10_init_30 rfl (lv_at hl 2 rfl) ?_
  refine va_putF (D := (dC, dI)) (ci := 9) (v := .int p1) (ty := .int) (C := RX10) (T := TX10) (N := 9) hx hb hts zl_X10_init_X10 tyX10 tyX10_ok nmX10 hown hK hP hD hS 2 rfl rfl 5 (by decide) (hts (.fieldLink RX10 23 "PageOne$Story" "least" "I") (zat q_wsX10_init k_wsX10_init 174 rfl (by decide +kernel))) (fun _ h9 => h9) rfl hin rfl (tyX10_ok 5 (by decide)) rfl rfl (Nat.le_of_ble_eq_true rfl) dX10_init_31 (fun H locs hP hD hS => ?_)
  have hP : va_P (dC, dI) vwCl [(qa_1, .inl (cI, 5, .inl (fun _ => (-1)))), (qa_2, .inl (cP, 6, .inr (.inr (.inr (.inr (fun _ => none)))))), (h0, .inr (9, [.int p0, .int 0, .ref qa_2, .int 0, .ref qa_1, .int p1, .ref q_3, .int 0, .ref q_5])), (q_3, .inl (cI, 80, .inl (fun _ => 0))), (q_5, .inl (cZ, 10, .inl (fun _ => 0)))] H := hP
  have hD : va_D A [(qa_1, .inl (cI, 5, .inl (fun _ => (-1)))), (qa_2, .inl (cP, 6, .inr (.inr (.inr (.inr (fun _ => none)))))), (h0, .inr (9, [.int p0, .int 0, .ref qa_2, .int 0, .ref qa_1, .int p1, .ref q_3, .int 0, .ref q_5])), (q_3, .inl (cI, 80, .inl (fun _ => 0))), (q_5, .inl (cZ, 10, .inl (fun _ => 0)))] := hD
  exact W.vret hx hb hr (fun t ht hW => ⟨⟨(), rfl, trivial, ⟨qa_1, qa_2, q_3, q_5, by rw [ht]; exact hP.sub [0, 1, 3, 4, 2] rfl, hD.sub [0, 1, 3, 4, 2] (by decide) rfl⟩⟩, hS.F ht⟩) hS.2.2 dX10_init_34
set_option maxHeartbeats 4000000 in
set_option maxRecDepth 100000 in
theorem xn_Head (l : Launch) (dC : Nat → ClassId) (dI : Nat → Nat → Nat) (h0 ow : Nat) (cI cP : ClassId) (p0 p1 p2 : Int32) (sz : Nat) : Met l yX3_init wsX3_init ({ frames := 2, cells := 2, slots := 6, locals := 46 }) (va_Pc [.ref h0, .int p0, .ref ow, .int p1, .int p2] (fun U => U.heap.size = sz ∧ PW dC dI [(h0, .inr (3, [.int 0, .int 0, .null, .int 0, .null, .null, .int 0, .int 0]))] [(cI, .int), (cP, .object "PageOne$Piece")] U ∧ va_D (fun _ => True) [(h0, .inr (3, [.int 0, .int 0, .null, .int 0, .null, .null, .int 0, .int 0]))])) (va_Qv (fun _ : Unit => True) (fun _ t => ∃ q1 q2 : Nat, va_P (dC, dI) vwCl [(q1, .inl (cI, 5, .inl (fun _ => (-1)))), (q2, .inl (cP, 1, .inr (.inr (.inr (.inr (fun _ => none)))))), (h0, .inr (3, [.int p0, .int 1, .ref q2, .int 0, .ref q1, .ref ow, .int p1, .int p2]))] t.heap ∧ va_D (va_A [(h0, .inr (3, [.int 0, .int 0, .null, .int 0, .null, .null, .int 0, .int 0]))] sz) [(q1, .inl (cI, 5, .inl (fun _ => (-1)))), (q2, .inl (cP, 1, .inr (.inr (.inr (.inr (fun _ => none)))))), (h0, .inr (3, [.int p0, .int 1, .ref q2, .int 0, .ref q1, .ref ow, .int p1, .int p2]))]) (va_A [(h0, .inr (3, [.int 0, .int 0, .null, .int 0, .null, .null, .int 0, .int 0]))] sz)) 2 6 (va_A [(h0, .inr (3, [.int 0, .int 0, .null, .int 0, .null, .null, .int 0, .int 0]))] sz) := by
  refine Met.ofW (cc := cX3_init) (maxL := 5) (ret := none) (by decide) rfl ?_
  intro p e s m args below meth c s₁ B hml hv
  obtain ⟨rfl, hsz, ⟨hP, hK, hN⟩, hD0⟩ := hv
  have hx := B.exec
  have hb := B.bytes
  have hr := B.returns
  have hts := atoms_spec (ws := wsX3_init) B.pre
  have hown : s.vm.findClass RX3 = some m.cls := findClass_of_methodNamed B.named
  have hlocks := B.notSynchronized
  have hin : meth.name = "<init>" := (name_of_methodNamed B.named B.method).1
  subst hsz
  have hD := hD0.self (sz := s.heap.size)
  generalize hAe : va_A [(h0, .inr (3, [.int 0, .int 0, .null, .int 0, .null, .null, .int 0, .int 0]))] s.heap.size = A at hD ⊢
  have hA : ∀ q : Nat, s.heap.size ≤ q → A q := fun q h => by rw [← hAe]; exact Or.inr h
  have hS : va_S A s.heap s.heap [] := va_S.rf
  have hP : va_P (dC, dI) vwCl [(h0, .inr (3, [.int 0, .int 0, .null, .int 0, .null, .null, .int 0, .int 0]))] s.heap := hP
  have hl := lv_entry ([.ref h0, .int p0, .ref ow, .int p1, .int p2]) (n := 5) (Nat.le_of_ble_eq_true rfl)
  rw [lg_entry_eq]
  generalize (lg_sl ([.ref h0, .int p0, .ref ow, .int p1, .int p2]) ++ List.replicate (5 - (lg_sl ([.ref h0, .int p0, .ref ow, .int p1, .int p2])).length) Slot.unset).toArray = ls at hl ⊢
  have hl : lv_has ls 5 [(0, .ref h0), (1, .int p0), (2, .ref ow), (3, .int p1), (4, .int p2)] := hl
  refine lv_aload_n hx hb dX3_init_0 rfl (lv_at hl 0 rfl) ?_
  refine lv_iload_n hx hb dX3_init_1 rfl (lv_at hl 1 rfl) ?_
  refine lv_iconst (v := 1) hx hb dX3_init_2 (by decide) ?_
  refine lv_iconst (v := 1) hx hb dX3_init_3 (by decide) ?_
  have hPc := hP.sub (ws' := [(h0, .inr (3, [.int 0, .int 0, .null, .int 0, .null, .null, .int 0, .int 0]))]) [0] rfl
  have hKc := hK.sub (tys' := [(cI, .int), (cP, .object "PageOne$Piece")]) [0, 1] rfl
  have hDc := hD.sub (ws' := [(h0, .inr (3, [.int 0, .int 0, .null, .int 0, .null, .null, .int 0, .int 0]))]) [0] (by decide) rfl
  have hFc := va_free (wc := [(h0, .inr (3, [.int 0, .int 0, .null, .int 0, .null, .null, .int 0, .int 0]))]) hD hS hA [0] rfl
  refine va_callv (va_runI (As := [.int p0, .int 1, .int 1]) (rest := []) ⟨hx, hb, hml, hown, hts⟩ (xn_Item_Head l dC dI h0 cI cP p0 s.heap.size) (cwI 3 hts gX3_init_X4_init rfl rfl rfl (hts (.initialized RX4) (zat q_wsX3_init k_wsX3_init 57 rfl (by decide +kernel))) (hts (.methodLink RX3 3 yX4_init) (zat q_wsX3_init k_wsX3_init 247 rfl (by decide +kernel))) (hts (.instanceMethod yX4_init) (zat q_wsX3_init k_wsX3_init 167 rfl (by decide +kernel))) rfl zh_X4_init_86 ⟨Nat.le_of_ble_eq_true rfl, Nat.le_of_ble_eq_true rfl⟩) ⟨gw_fb, fun U hU hW => ⟨rfl, by rw [hU], pw_to hU hW hPc hKc hN, hDc.weaken (fun _ _ _ _ => trivial)⟩⟩ rfl rfl hl.1 rfl (lv_room (Nat.le_of_ble_eq_true rfl)) dX3_init_4 ⟨Nat.le_of_ble_eq_true rfl, Nat.le_of_ble_eq_true rfl⟩) hS (fun q _ h => hFc q h) hFc (fun u t H1 locs ht hvm hw hB hz1 hk1 hS => ?_)
  obtain ⟨qa_1, qa_2, hP1, hD1⟩ := hB
  rw [ht] at hP1
  obtain ⟨hP, hD⟩ := va_join (wr := []) (w1 := [(qa_1, .inl (cI, 5, .inl (fun _ => (-1)))), (qa_2, .inl (cP, 1, .inr (.inr (.inr (.inr (fun _ => none)))))), (h0, .inr (3, [.int p0, .int 1, .ref qa_2, .int 0, .ref qa_1, .null, .int 0, .int 0]))]) hP hD [0] [] rfl rfl (by decide) (by decide) hk1 hFc hP1 hD1
  generalize H1 = H at hP hS ⊢
  have hP : va_P (dC, dI) vwCl [(qa_1, .inl (cI, 5, .inl (fun _ => (-1)))), (qa_2, .inl (cP, 1, .inr (.inr (.inr (.inr (fun _ => none)))))), (h0, .inr (3, [.int p0, .int 1, .ref qa_2, .int 0, .ref qa_1, .null, .int 0, .int 0]))] H := hP
  have hD : va_D A [(qa_1, .inl (cI, 5, .inl (fun _ => (-1)))), (qa_2, .inl (cP, 1, .inr (.inr (.inr (.inr (fun _ => none)))))), (h0, .inr (3, [.int p0, .int 1, .ref qa_2, .int 0, .ref qa_1, .null, .int 0, .int 0]))] := hD
  refine W.widen (k := 2) (n := 6) (Nat.le_of_ble_eq_true rfl) (Nat.le_of_ble_eq_true rfl) ?_
  refine lv_aload_n hx hb dX3_init_7 rfl (lv_at hl 0 rfl) ?_
  refine lv_aload_n hx hb dX3_init_8 rfl (lv_at hl 2 rfl) ?_
  refine va_putF (D := (dC, dI)) (ci := 3) (v := .ref ow) (ty := .object "PageOne$Story") (C := RX3) (T := TX3) (N := 8) hx hb hts zl_X3_init_X3 tyX3 tyX3_ok nmX3 hown hK hP hD hS 2 rfl rfl 5 (by decide) (hts (.fieldLink RX3 9 "PageOne$Head" "owner" "LPageOne$Story;") (zat q_wsX3_init k_wsX3_init 248 rfl (by decide +kernel))) (fun _ h9 => h9) rfl hin rfl (tyX3_ok 5 (by decide)) rfl rfl (Nat.le_of_ble_eq_true rfl) dX3_init_9 (fun H locs hP hD hS => ?_)
  have hP : va_P (dC, dI) vwCl [(qa_1, .inl (cI, 5, .inl (fun _ => (-1)))), (qa_2, .inl (cP, 1, .inr (.inr (.inr (.inr (fun _ => none)))))), (h0, .inr (3, [.int p0, .int 1, .ref qa_2, .int 0, .ref qa_1, .ref ow, .int 0, .int 0]))] H := hP
  have hD : va_D A [(qa_1, .inl (cI, 5, .inl (fun _ => (-1)))), (qa_2, .inl (cP, 1, .inr (.inr (.inr (.inr (fun _ => none)))))), (h0, .inr (3, [.int p0, .int 1, .ref qa_2, .int 0, .ref qa_1, .ref ow, .int 0, .int 0]))] := hD
  refine lv_aload_n hx hb dX3_init_12 rfl (lv_at hl 0 rfl) ?_
  refine lv_iload_n hx hb dX3_init_13 rfl (lv_at hl 3 rfl) ?_
  refine va_putF (D := (dC, dI)) (ci := 3) (v := .int p1) (ty := .int) (C := RX3) (T := TX3) (N := 8) hx hb hts zl_X3_init_X3 tyX3 tyX3_ok nmX3 hown hK hP hD hS 2 rfl rfl 6 (by decide) (hts (.fieldLink RX3 15 "PageOne$Head" "w" "I") (zat q_wsX3_init k_wsX3_init 250 rfl (by decide +kernel))) (fun _ h9 => h9) rfl hin rfl (tyX3_ok 6 (by decide)) rfl rfl (Nat.le_of_ble_eq_true rfl) dX3_init_14 (fun H locs hP hD hS => ?_)
  have hP : va_P (dC, dI) vwCl [(qa_1, .inl (cI, 5, .inl (fun _ => (-1)))), (qa_2, .inl (cP, 1, .inr (.inr (.inr (.inr (fun _ => none)))))), (h0, .inr (3, [.int p0, .int 1, .ref qa_2, .int 0, .ref qa_1, .ref ow, .int p1, .int 0]))] H := hP
  have hD : va_D A [(qa_1, .inl (cI, 5, .inl (fun _ => (-1)))), (qa_2, .inl (cP, 1, .inr (.inr (.inr (.inr (fun _ => none)))))), (h0, .inr (3, [.int p0, .int 1, .ref qa_2, .int 0, .ref qa_1, .ref ow, .int p1, .int 0]))] := hD
  refine lv_aload_n hx hb dX3_init_17 rfl (lv_at hl 0 rfl) ?_
  refine lv_iload hx hb dX3_init_18 (lv_at hl 4 rfl) ?_
  refine va_putF (D := (dC, dI)) (ci := 3) (v := .int p2) (ty := .int) (C := RX3) (T := TX3) (N := 8) hx hb hts zl_X3_init_X3 tyX3 tyX3_ok nmX3 hown hK hP hD hS 2 rfl rfl 7 (by decide) (hts (.fieldLink RX3 19 "PageOne$Head" "h" "I") (zat q_wsX3_init k_wsX3_init 251 rfl (by decide +kernel))) (fun _ h9 => h9) rfl hin rfl (tyX3_ok 7 (by decide)) rfl rfl (Nat.le_of_ble_eq_true rfl) dX3_init_20 (fun H locs hP hD hS => ?_)
  have hP : va_P (dC, dI) vwCl [(qa_1, .inl (cI, 5, .inl (fun _ => (-1)))), (qa_2, .inl (cP, 1, .inr (.inr (.inr (.inr (fun _ => none)))))), (h0, .inr (3, [.int p0, .int 1, .ref qa_2, .int 0, .ref qa_1, .ref ow, .int p1, .int p2]))] H := hP
  have hD : va_D A [(qa_1, .inl (cI, 5, .inl (fun _ => (-1)))), (qa_2, .inl (cP, 1, .inr (.inr (.inr (.inr (fun _ => none)))))), (h0, .inr (3, [.int p0, .int 1, .ref qa_2, .int 0, .ref qa_1, .ref ow, .int p1, .int p2]))] := hD
  exact W.vret hx hb hr (fun t ht hW => ⟨⟨(), rfl, trivial, ⟨qa_1, qa_2, by rw [ht]; exact hP.sub [0, 1, 2] rfl, hD.sub [0, 1, 2] (by decide) rfl⟩⟩, hS.F ht⟩) hS.2.2 dX3_init_23
set_option maxHeartbeats 4000000 in
set_option maxRecDepth 100000 in
theorem xn_Picture (l : Launch) (dC : Nat → ClassId) (dI : Nat → Nat → Nat) (h0 : Nat) (cI cP : ClassId) (p0 : Int32) (sz : Nat) : Met l yX7_init wsX7_init ({ frames := 2, cells := 4, slots := 14, locals := 46 }) (va_Pc [.ref h0, .int p0] (fun U => U.heap.size = sz ∧ PW dC dI [(h0, .inr (6, [.int 0, .int 0, .null, .int 0, .null, .null, .null, .int 0]))] [(cI, .int), (cP, .object "PageOne$Piece")] U ∧ va_D (fun _ => True) [(h0, .inr (6, [.int 0, .int 0, .null, .int 0, .null, .null, .null, .int 0]))])) (va_Qv (fun _ : Unit => True) (fun _ t => ∃ q1 q2 q3 q4 : Nat, va_P (dC, dI) vwCl [(q1, .inl (cI, 5, .inl (fun _ => (-1)))), (q2, .inl (cP, 1, .inr (.inr (.inr (.inr (fun _ => none)))))), (q3, .inl (cI, 4, .inl (fun _ => 0))), (q4, .inl (cI, 4, .inl (fun _ => 0))), (h0, .inr (6, [.int p0, .int 2, .ref q2, .int 0, .ref q1, .ref q3, .ref q4, .int 0]))] t.heap ∧ va_D (va_A [(h0, .inr (6, [.int 0, .int 0, .null, .int 0, .null, .null, .null, .int 0]))] sz) [(q1, .inl (cI, 5, .inl (fun _ => (-1)))), (q2, .inl (cP, 1, .inr (.inr (.inr (.inr (fun _ => none)))))), (q3, .inl (cI, 4, .inl (fun _ => 0))), (q4, .inl (cI, 4, .inl (fun _ => 0))), (h0, .inr (6, [.int p0, .int 2, .ref q2, .int 0, .ref q1, .ref q3, .ref q4, .int 0]))]) (va_A [(h0, .inr (6, [.int 0, .int 0, .null, .int 0, .null, .null, .null, .int 0]))] sz)) 4 14 (va_A [(h0, .inr (6, [.int 0, .int 0, .null, .int 0, .null, .null, .null, .int 0]))] sz) := by
  refine Met.ofW (cc := cX7_init) (maxL := 2) (ret := none) (by decide) rfl ?_
  intro p e s m args below meth c s₁ B hml hv
  obtain ⟨rfl, hsz, ⟨hP, hK, hN⟩, hD0⟩ := hv
  have hx := B.exec
  have hb := B.bytes
  have hr := B.returns
  have hts := atoms_spec (ws := wsX7_init) B.pre
  have hown : s.vm.findClass RX7 = some m.cls := findClass_of_methodNamed B.named
  have hlocks := B.notSynchronized
  have hin : meth.name = "<init>" := (name_of_methodNamed B.named B.method).1
  subst hsz
  have hD := hD0.self (sz := s.heap.size)
  generalize hAe : va_A [(h0, .inr (6, [.int 0, .int 0, .null, .int 0, .null, .null, .null, .int 0]))] s.heap.size = A at hD ⊢
  have hA : ∀ q : Nat, s.heap.size ≤ q → A q := fun q h => by rw [← hAe]; exact Or.inr h
  have hS : va_S A s.heap s.heap [] := va_S.rf
  have hP : va_P (dC, dI) vwCl [(h0, .inr (6, [.int 0, .int 0, .null, .int 0, .null, .null, .null, .int 0]))] s.heap := hP
  have hl := lv_entry ([.ref h0, .int p0]) (n := 2) (Nat.le_of_ble_eq_true rfl)
  rw [lg_entry_eq]
  generalize (lg_sl ([.ref h0, .int p0]) ++ List.replicate (2 - (lg_sl ([.ref h0, .int p0])).length) Slot.unset).toArray = ls at hl ⊢
  have hl : lv_has ls 2 [(0, .ref h0), (1, .int p0)] := hl
  refine lv_aload_n hx hb dX7_init_0 rfl (lv_at hl 0 rfl) ?_
  refine lv_iload_n hx hb dX7_init_1 rfl (lv_at hl 1 rfl) ?_
  refine lv_iconst (v := 2) hx hb dX7_init_2 (by decide) ?_
  refine lv_iconst (v := 1) hx hb dX7_init_3 (by decide) ?_
  have hPc := hP.sub (ws' := [(h0, .inr (6, [.int 0, .int 0, .null, .int 0, .null, .null, .null, .int 0]))]) [0] rfl
  have hKc := hK.sub (tys' := [(cI, .int), (cP, .object "PageOne$Piece")]) [0, 1] rfl
  have hDc := hD.sub (ws' := [(h0, .inr (6, [.int 0, .int 0, .null, .int 0, .null, .null, .null, .int 0]))]) [0] (by decide) rfl
  have hFc := va_free (wc := [(h0, .inr (6, [.int 0, .int 0, .null, .int 0, .null, .null, .null, .int 0]))]) hD hS hA [0] rfl
  refine va_callv (va_runI (As := [.int p0, .int 2, .int 1]) (rest := []) ⟨hx, hb, hml, hown, hts⟩ (xn_Item_Picture l dC dI h0 cI cP p0 s.heap.size) (cwI 3 hts gX7_init_X4_init rfl rfl rfl (hts (.initialized RX4) (zat q_wsX7_init k_wsX7_init 57 rfl (by decide +kernel))) (hts (.methodLink RX7 3 yX4_init) (zat q_wsX7_init k_wsX7_init 273 rfl (by decide +kernel))) (hts (.instanceMethod yX4_init) (zat q_wsX7_init k_wsX7_init 167 rfl (by decide +kernel))) rfl zh_X4_init_86 ⟨Nat.le_of_ble_eq_true rfl, Nat.le_of_ble_eq_true rfl⟩) ⟨gw_fb, fun U hU hW => ⟨rfl, by rw [hU], pw_to hU hW hPc hKc hN, hDc.weaken (fun _ _ _ _ => trivial)⟩⟩ rfl rfl hl.1 rfl (lv_room (Nat.le_of_ble_eq_true rfl)) dX7_init_4 ⟨Nat.le_of_ble_eq_true rfl, Nat.le_of_ble_eq_true rfl⟩) hS (fun q _ h => hFc q h) hFc (fun u t H1 locs ht hvm hw hB hz1 hk1 hS => ?_)
  obtain ⟨qa_1, qa_2, hP1, hD1⟩ := hB
  rw [ht] at hP1
  obtain ⟨hP, hD⟩ := va_join (wr := []) (w1 := [(qa_1, .inl (cI, 5, .inl (fun _ => (-1)))), (qa_2, .inl (cP, 1, .inr (.inr (.inr (.inr (fun _ => none)))))), (h0, .inr (6, [.int p0, .int 2, .ref qa_2, .int 0, .ref qa_1, .null, .null, .int 0]))]) hP hD [0] [] rfl rfl (by decide) (by decide) hk1 hFc hP1 hD1
  generalize H1 = H at hP hS ⊢
  have hP : va_P (dC, dI) vwCl [(qa_1, .inl (cI, 5, .inl (fun _ => (-1)))), (qa_2, .inl (cP, 1, .inr (.inr (.inr (.inr (fun _ => none)))))), (h0, .inr (6, [.int p0, .int 2, .ref qa_2, .int 0, .ref qa_1, .null, .null, .int 0]))] H := hP
  have hD : va_D A [(qa_1, .inl (cI, 5, .inl (fun _ => (-1)))), (qa_2, .inl (cP, 1, .inr (.inr (.inr (.inr (fun _ => none)))))), (h0, .inr (6, [.int p0, .int 2, .ref qa_2, .int 0, .ref qa_1, .null, .null, .int 0]))] := hD
  refine W.widen (k := 2) (n := 6) (Nat.le_of_ble_eq_true rfl) (Nat.le_of_ble_eq_true rfl) ?_
  refine lv_aload_n hx hb dX7_init_7 rfl (lv_at hl 0 rfl) ?_
  refine lv_iconst (v := 4) hx hb dX7_init_8 (by decide) ?_
  refine va_newa (atype := .int) (ty := .int) (a0 := (4, .inl (fun _ => 0))) (N' := 4) hx hb (hts (.arrayClass .int) (zat q_wsX7_init k_wsX7_init 111 rfl (by decide +kernel))) rfl hK hP hD hS hA (newI 4) (by decide) (by decide) (nbI (Nat.le_of_ble_eq_true rfl)) (Nat.le_of_ble_eq_true rfl) (Nat.le_of_ble_eq_true rfl) dX7_init_9 (fun q_3 cA_4 H hK hP hD hS => ?_)
  obtain rfl : cI = cA_4 := kuniq hK 0 2 rfl rfl
  have hK := hK.sub (tys' := [(cI, .int), (cP, .object "PageOne$Piece")]) [0, 1] rfl
  have hK : va_K (dC, dI) vwCl [(cI, .int), (cP, .object "PageOne$Piece")] s := hK
  have hP : va_P (dC, dI) vwCl [(qa_1, .inl (cI, 5, .inl (fun _ => (-1)))), (qa_2, .inl (cP, 1, .inr (.inr (.inr (.inr (fun _ => none)))))), (h0, .inr (6, [.int p0, .int 2, .ref qa_2, .int 0, .ref qa_1, .null, .null, .int 0])), (q_3, .inl (cI, 4, .inl (fun _ => 0)))] H := hP
  have hD : va_D A [(qa_1, .inl (cI, 5, .inl (fun _ => (-1)))), (qa_2, .inl (cP, 1, .inr (.inr (.inr (.inr (fun _ => none)))))), (h0, .inr (6, [.int p0, .int 2, .ref qa_2, .int 0, .ref qa_1, .null, .null, .int 0])), (q_3, .inl (cI, 4, .inl (fun _ => 0)))] := hD
  refine W.widen (k := 3) (n := 10) (Nat.le_of_ble_eq_true rfl) (Nat.le_of_ble_eq_true rfl) ?_
  refine va_putF (D := (dC, dI)) (ci := 6) (v := .ref q_3) (ty := .array .int) (C := RX7) (T := TX7) (N := 8) hx hb hts zl_X7_init_X7 tyX7 tyX7_ok nmX7 hown hK hP hD hS 2 rfl rfl 5 (by decide) (hts (.fieldLink RX7 9 "PageOne$Picture" "widths" "[I") (zat q_wsX7_init k_wsX7_init 274 rfl (by decide +kernel))) (fun _ h9 => h9) rfl hin rfl (tyX7_ok 5 (by decide)) rfl rfl (Nat.le_of_ble_eq_true rfl) dX7_init_11 (fun H locs hP hD hS => ?_)
  have hP : va_P (dC, dI) vwCl [(qa_1, .inl (cI, 5, .inl (fun _ => (-1)))), (qa_2, .inl (cP, 1, .inr (.inr (.inr (.inr (fun _ => none)))))), (h0, .inr (6, [.int p0, .int 2, .ref qa_2, .int 0, .ref qa_1, .ref q_3, .null, .int 0])), (q_3, .inl (cI, 4, .inl (fun _ => 0)))] H := hP
  have hD : va_D A [(qa_1, .inl (cI, 5, .inl (fun _ => (-1)))), (qa_2, .inl (cP, 1, .inr (.inr (.inr (.inr (fun _ => none)))))), (h0, .inr (6, [.int p0, .int 2, .ref qa_2, .int 0, .ref qa_1, .ref q_3, .null, .int 0])), (q_3, .inl (cI, 4, .inl (fun _ => 0)))] := hD
  refine lv_aload_n hx hb dX7_init_14 rfl (lv_at hl 0 rfl) ?_
  refine lv_iconst (v := 4) hx hb dX7_init_15 (by decide) ?_
  refine va_newa (atype := .int) (ty := .int) (a0 := (4, .inl (fun _ => 0))) (N' := 4) hx hb (hts (.arrayClass .int) (zat q_wsX7_init k_wsX7_init 111 rfl (by decide +kernel))) rfl hK hP hD hS hA (newI 4) (by decide) (by decide) (nbI (Nat.le_of_ble_eq_true rfl)) (Nat.le_of_ble_eq_true rfl) (Nat.le_of_ble_eq_true rfl) dX7_init_16 (fun q_5 cA_6 H hK hP hD hS => ?_)
  obtain rfl : cI = cA_6 := kuniq hK 0 2 rfl rfl
  have hK := hK.sub (tys' := [(cI, .int), (cP, .object "PageOne$Piece")]) [0, 1] rfl
  have hK : va_K (dC, dI) vwCl [(cI, .int), (cP, .object "PageOne$Piece")] s := hK
  have hP : va_P (dC, dI) vwCl [(qa_1, .inl (cI, 5, .inl (fun _ => (-1)))), (qa_2, .inl (cP, 1, .inr (.inr (.inr (.inr (fun _ => none)))))), (h0, .inr (6, [.int p0, .int 2, .ref qa_2, .int 0, .ref qa_1, .ref q_3, .null, .int 0])), (q_3, .inl (cI, 4, .inl (fun _ => 0))), (q_5, .inl (cI, 4, .inl (fun _ => 0)))] H := hP
  have hD : va_D A [(qa_1, .inl (cI, 5, .inl (fun _ => (-1)))), (qa_2, .inl (cP, 1, .inr (.inr (.inr (.inr (fun _ => none)))))), (h0, .inr (6, [.int p0, .int 2, .ref qa_2, .int 0, .ref qa_1, .ref q_3, .null, .int 0])), (q_3, .inl (cI, 4, .inl (fun _ => 0))), (q_5, .inl (cI, 4, .inl (fun _ => 0)))] := hD
  refine W.widen (k := 4) (n := 14) (Nat.le_of_ble_eq_true rfl) (Nat.le_of_ble_eq_true rfl) ?_
  refine va_putF (D := (dC, dI)) (ci := 6) (v := .ref q_5) (ty := .array .int) (C := RX7) (T := TX7) (N := 8) hx hb hts zl_X7_init_X7 tyX7 tyX7_ok nmX7 hown hK hP hD hS 2 rfl rfl 6 (by decide) (hts (.fieldLink RX7 15 "PageOne$Picture" "heights" "[I") (zat q_wsX7_init k_wsX7_init 275 rfl (by decide +kernel))) (fun _ h9 => h9) rfl hin rfl (tyX7_ok 6 (by decide)) rfl rfl (Nat.le_of_ble_eq_true rfl) dX7_init_18 (fun H locs hP hD hS => ?_)
  have hP : va_P (dC, dI) vwCl [(qa_1, .inl (cI, 5, .inl (fun _ => (-1)))), (qa_2, .inl (cP, 1, .inr (.inr (.inr (.inr (fun _ => none)))))), (h0, .inr (6, [.int p0, .int 2, .ref qa_2, .int 0, .ref qa_1, .ref q_3, .ref q_5, .int 0])), (q_3, .inl (cI, 4, .inl (fun _ => 0))), (q_5, .inl (cI, 4, .inl (fun _ => 0)))] H := hP
  have hD : va_D A [(qa_1, .inl (cI, 5, .inl (fun _ => (-1)))), (qa_2, .inl (cP, 1, .inr (.inr (.inr (.inr (fun _ => none)))))), (h0, .inr (6, [.int p0, .int 2, .ref qa_2, .int 0, .ref qa_1, .ref q_3, .ref q_5, .int 0])), (q_3, .inl (cI, 4, .inl (fun _ => 0))), (q_5, .inl (cI, 4, .inl (fun _ => 0)))] := hD
  refine lv_aload_n hx hb dX7_init_21 rfl (lv_at hl 0 rfl) ?_
  refine lv_iconst (v := 0) hx hb dX7_init_22 (by decide) ?_
  refine va_put (D := (dC, dI)) (ci := 6) (v := .int 0) (ty := .int) (C := RX7) (T := TX7) (N := 8) hx hb hts zl_X7_init_X7 tyX7 tyX7_ok nmX7 hown hK hP hD hS 2 rfl rfl 7 (by decide) (hts (.fieldLink RX7 18 "PageOne$Picture" "sizes" "I") (zat q_wsX7_init k_wsX7_init 276 rfl (by decide +kernel))) (fun _ h9 => h9) rfl (tyX7_ok 7 (by decide)) rfl rfl (Nat.le_of_ble_eq_true rfl) dX7_init_23 (fun H locs hP hD hS => ?_)
  have hP : va_P (dC, dI) vwCl [(qa_1, .inl (cI, 5, .inl (fun _ => (-1)))), (qa_2, .inl (cP, 1, .inr (.inr (.inr (.inr (fun _ => none)))))), (h0, .inr (6, [.int p0, .int 2, .ref qa_2, .int 0, .ref qa_1, .ref q_3, .ref q_5, .int 0])), (q_3, .inl (cI, 4, .inl (fun _ => 0))), (q_5, .inl (cI, 4, .inl (fun _ => 0)))] H := hP
  have hD : va_D A [(qa_1, .inl (cI, 5, .inl (fun _ => (-1)))), (qa_2, .inl (cP, 1, .inr (.inr (.inr (.inr (fun _ => none)))))), (h0, .inr (6, [.int p0, .int 2, .ref qa_2, .int 0, .ref qa_1, .ref q_3, .ref q_5, .int 0])), (q_3, .inl (cI, 4, .inl (fun _ => 0))), (q_5, .inl (cI, 4, .inl (fun _ => 0)))] := hD
  exact W.vret hx hb hr (fun t ht hW => ⟨⟨(), rfl, trivial, ⟨qa_1, qa_2, q_3, q_5, by rw [ht]; exact hP.sub [0, 1, 3, 4, 2] rfl, hD.sub [0, 1, 3, 4, 2] (by decide) rfl⟩⟩, hS.F ht⟩) hS.2.2 dX7_init_26
set_option maxHeartbeats 4000000 in
set_option maxRecDepth 100000 in
theorem xn_Paid (l : Launch) (dC : Nat → ClassId) (dI : Nat → Nat → Nat) (h0 sp : Nat) (cI cZ cP : ClassId) (p0 p1 p2 : Int32) (sz : Nat) : Met l yX6_init wsX6_init ({ frames := 2, cells := 3, slots := 406, locals := 46 }) (va_Pc [.ref h0, .int p0, .int p1, .int p2, .ref sp] (fun U => U.heap.size = sz ∧ PW dC dI [(h0, .inr (5, [.int 0, .int 0, .null, .int 0, .null, .int 0, .int 0, .null, .null]))] [(cI, .int), (cZ, .boolean), (cP, .object "PageOne$Piece")] U ∧ va_D (fun _ => True) [(h0, .inr (5, [.int 0, .int 0, .null, .int 0, .null, .int 0, .int 0, .null, .null]))])) (va_Qv (fun _ : Unit => True) (fun _ t => ∃ q1 q2 q3 : Nat, va_P (dC, dI) vwCl [(q1, .inl (cI, 5, .inl (fun _ => (-1)))), (q2, .inl (cP, 1, .inr (.inr (.inr (.inr (fun _ => none)))))), (q3, .inl (cZ, 400, .inl (fun _ => 0))), (h0, .inr (5, [.int p0, .int 3, .ref q2, .int 0, .ref q1, .int p1, .int p2, .ref sp, .ref q3]))] t.heap ∧ va_D (va_A [(h0, .inr (5, [.int 0, .int 0, .null, .int 0, .null, .int 0, .int 0, .null, .null]))] sz) [(q1, .inl (cI, 5, .inl (fun _ => (-1)))), (q2, .inl (cP, 1, .inr (.inr (.inr (.inr (fun _ => none)))))), (q3, .inl (cZ, 400, .inl (fun _ => 0))), (h0, .inr (5, [.int p0, .int 3, .ref q2, .int 0, .ref q1, .int p1, .int p2, .ref sp, .ref q3]))]) (va_A [(h0, .inr (5, [.int 0, .int 0, .null, .int 0, .null, .int 0, .int 0, .null, .null]))] sz)) 3 406 (va_A [(h0, .inr (5, [.int 0, .int 0, .null, .int 0, .null, .int 0, .int 0, .null, .null]))] sz) := by
  refine Met.ofW (cc := cX6_init) (maxL := 5) (ret := none) (by decide) rfl ?_
  intro p e s m args below meth c s₁ B hml hv
  obtain ⟨rfl, hsz, ⟨hP, hK, hN⟩, hD0⟩ := hv
  have hx := B.exec
  have hb := B.bytes
  have hr := B.returns
  have hts := atoms_spec (ws := wsX6_init) B.pre
  have hown : s.vm.findClass RX6 = some m.cls := findClass_of_methodNamed B.named
  have hlocks := B.notSynchronized
  have hin : meth.name = "<init>" := (name_of_methodNamed B.named B.method).1
  subst hsz
  have hD := hD0.self (sz := s.heap.size)
  generalize hAe : va_A [(h0, .inr (5, [.int 0, .int 0, .null, .int 0, .null, .int 0, .int 0, .null, .null]))] s.heap.size = A at hD ⊢
  have hA : ∀ q : Nat, s.heap.size ≤ q → A q := fun q h => by rw [← hAe]; exact Or.inr h
  have hS : va_S A s.heap s.heap [] := va_S.rf
  have hP : va_P (dC, dI) vwCl [(h0, .inr (5, [.int 0, .int 0, .null, .int 0, .null, .int 0, .int 0, .null, .null]))] s.heap := hP
  have hl := lv_entry ([.ref h0, .int p0, .int p1, .int p2, .ref sp]) (n := 5) (Nat.le_of_ble_eq_true rfl)
  rw [lg_entry_eq]
  generalize (lg_sl ([.ref h0, .int p0, .int p1, .int p2, .ref sp]) ++ List.replicate (5 - (lg_sl ([.ref h0, .int p0, .int p1, .int p2, .ref sp])).length) Slot.unset).toArray = ls at hl ⊢
  have hl : lv_has ls 5 [(0, .ref h0), (1, .int p0), (2, .int p1), (3, .int p2), (4, .ref sp)] := hl
  refine lv_aload_n hx hb dX6_init_0 rfl (lv_at hl 0 rfl) ?_
  refine lv_iload_n hx hb dX6_init_1 rfl (lv_at hl 1 rfl) ?_
  refine lv_iconst (v := 3) hx hb dX6_init_2 (by decide) ?_
  refine lv_iconst (v := 1) hx hb dX6_init_3 (by decide) ?_
  have hPc := hP.sub (ws' := [(h0, .inr (5, [.int 0, .int 0, .null, .int 0, .null, .int 0, .int 0, .null, .null]))]) [0] rfl
  have hKc := hK.sub (tys' := [(cI, .int), (cP, .object "PageOne$Piece")]) [0, 2] rfl
  have hDc := hD.sub (ws' := [(h0, .inr (5, [.int 0, .int 0, .null, .int 0, .null, .int 0, .int 0, .null, .null]))]) [0] (by decide) rfl
  have hFc := va_free (wc := [(h0, .inr (5, [.int 0, .int 0, .null, .int 0, .null, .int 0, .int 0, .null, .null]))]) hD hS hA [0] rfl
  refine va_callv (va_runI (As := [.int p0, .int 3, .int 1]) (rest := []) ⟨hx, hb, hml, hown, hts⟩ (xn_Item_Paid l dC dI h0 cI cP p0 s.heap.size) (cwI 3 hts gX6_init_X4_init rfl rfl rfl (hts (.initialized RX4) (zat q_wsX6_init k_wsX6_init 57 rfl (by decide +kernel))) (hts (.methodLink RX6 3 yX4_init) (zat q_wsX6_init k_wsX6_init 354 rfl (by decide +kernel))) (hts (.instanceMethod yX4_init) (zat q_wsX6_init k_wsX6_init 167 rfl (by decide +kernel))) rfl zh_X4_init_86 ⟨Nat.le_of_ble_eq_true rfl, Nat.le_of_ble_eq_true rfl⟩) ⟨gw_fb, fun U hU hW => ⟨rfl, by rw [hU], pw_to hU hW hPc hKc hN, hDc.weaken (fun _ _ _ _ => trivial)⟩⟩ rfl rfl hl.1 rfl (lv_room (Nat.le_of_ble_eq_true rfl)) dX6_init_4 ⟨Nat.le_of_ble_eq_true rfl, Nat.le_of_ble_eq_true rfl⟩) hS (fun q _ h => hFc q h) hFc (fun u t H1 locs ht hvm hw hB hz1 hk1 hS => ?_)
  obtain ⟨qa_1, qa_2, hP1, hD1⟩ := hB
  rw [ht] at hP1
  obtain ⟨hP, hD⟩ := va_join (wr := []) (w1 := [(qa_1, .inl (cI, 5, .inl (fun _ => (-1)))), (qa_2, .inl (cP, 1, .inr (.inr (.inr (.inr (fun _ => none)))))), (h0, .inr (5, [.int p0, .int 3, .ref qa_2, .int 0, .ref qa_1, .int 0, .int 0, .null, .null]))]) hP hD [0] [] rfl rfl (by decide) (by decide) hk1 hFc hP1 hD1
  generalize H1 = H at hP hS ⊢
  have hP : va_P (dC, dI) vwCl [(qa_1, .inl (cI, 5, .inl (fun _ => (-1)))), (qa_2, .inl (cP, 1, .inr (.inr (.inr (.inr (fun _ => none)))))), (h0, .inr (5, [.int p0, .int 3, .ref qa_2, .int 0, .ref qa_1, .int 0, .int 0, .null, .null]))] H := hP
  have hD : va_D A [(qa_1, .inl (cI, 5, .inl (fun _ => (-1)))), (qa_2, .inl (cP, 1, .inr (.inr (.inr (.inr (fun _ => none)))))), (h0, .inr (5, [.int p0, .int 3, .ref qa_2, .int 0, .ref qa_1, .int 0, .int 0, .null, .null]))] := hD
  refine W.widen (k := 2) (n := 6) (Nat.le_of_ble_eq_true rfl) (Nat.le_of_ble_eq_true rfl) ?_
  refine lv_aload_n hx hb dX6_init_7 rfl (lv_at hl 0 rfl) ?_
  refine lv_sipush (v := 400) hx hb dX6_init_8 (by decide) ?_
  refine va_newa (atype := .boolean) (ty := .boolean) (a0 := (400, .inl (fun _ => 0))) (N' := 400) hx hb (hts (.arrayClass .boolean) (zat q_wsX6_init k_wsX6_init 110 rfl (by decide +kernel))) rfl hK hP hD hS hA (newZ 400) (by decide) (by decide) (nbZ (Nat.le_of_ble_eq_true rfl)) (Nat.le_of_ble_eq_true rfl) (Nat.le_of_ble_eq_true rfl) dX6_init_11 (fun q_3 cA_4 H hK hP hD hS => ?_)
  obtain rfl : cZ = cA_4 := kuniq hK 1 3 rfl rfl
  have hK := hK.sub (tys' := [(cI, .int), (cZ, .boolean), (cP, .object "PageOne$Piece")]) [0, 1, 2] rfl
  have hK : va_K (dC, dI) vwCl [(cI, .int), (cZ, .boolean), (cP, .object "PageOne$Piece")] s := hK
  have hP : va_P (dC, dI) vwCl [(qa_1, .inl (cI, 5, .inl (fun _ => (-1)))), (qa_2, .inl (cP, 1, .inr (.inr (.inr (.inr (fun _ => none)))))), (h0, .inr (5, [.int p0, .int 3, .ref qa_2, .int 0, .ref qa_1, .int 0, .int 0, .null, .null])), (q_3, .inl (cZ, 400, .inl (fun _ => 0)))] H := hP
  have hD : va_D A [(qa_1, .inl (cI, 5, .inl (fun _ => (-1)))), (qa_2, .inl (cP, 1, .inr (.inr (.inr (.inr (fun _ => none)))))), (h0, .inr (5, [.int p0, .int 3, .ref qa_2, .int 0, .ref qa_1, .int 0, .int 0, .null, .null])), (q_3, .inl (cZ, 400, .inl (fun _ => 0)))] := hD
  refine W.widen (k := 3) (n := 406) (Nat.le_of_ble_eq_true rfl) (Nat.le_of_ble_eq_true rfl) ?_
  refine va_putF (D := (dC, dI)) (ci := 5) (v := .ref q_3) (ty := .array .boolean) (C := RX6) (T := TX6) (N := 9) hx hb hts zl_X6_init_X6 tyX6 tyX6_ok nmX6 hown hK hP hD hS 2 rfl rfl 8 (by decide) (hts (.fieldLink RX6 9 "PageOne$Paid" "days" "[Z") (zat q_wsX6_init k_wsX6_init 360 rfl (by decide +kernel))) (fun _ h9 => h9) rfl hin rfl (tyX6_ok 8 (by decide)) rfl rfl (Nat.le_of_ble_eq_true rfl) dX6_init_13 (fun H locs hP hD hS => ?_)
  have hP : va_P (dC, dI) vwCl [(qa_1, .inl (cI, 5, .inl (fun _ => (-1)))), (qa_2, .inl (cP, 1, .inr (.inr (.inr (.inr (fun _ => none)))))), (h0, .inr (5, [.int p0, .int 3, .ref qa_2, .int 0, .ref qa_1, .int 0, .int 0, .null, .ref q_3])), (q_3, .inl (cZ, 400, .inl (fun _ => 0)))] H := hP
  have hD : va_D A [(qa_1, .inl (cI, 5, .inl (fun _ => (-1)))), (qa_2, .inl (cP, 1, .inr (.inr (.inr (.inr (fun _ => none)))))), (h0, .inr (5, [.int p0, .int 3, .ref qa_2, .int 0, .ref qa_1, .int 0, .int 0, .null, .ref q_3])), (q_3, .inl (cZ, 400, .inl (fun _ => 0)))] := hD
  refine lv_aload_n hx hb dX6_init_16 rfl (lv_at hl 0 rfl) ?_
  refine lv_iload_n hx hb dX6_init_17 rfl (lv_at hl 2 rfl) ?_
  refine va_putF (D := (dC, dI)) (ci := 5) (v := .int p1) (ty := .int) (C := RX6) (T := TX6) (N := 9) hx hb hts zl_X6_init_X6 tyX6 tyX6_ok nmX6 hown hK hP hD hS 2 rfl rfl 5 (by decide) (hts (.fieldLink RX6 15 "PageOne$Paid" "buyer" "I") (zat q_wsX6_init k_wsX6_init 355 rfl (by decide +kernel))) (fun _ h9 => h9) rfl hin rfl (tyX6_ok 5 (by decide)) rfl rfl (Nat.le_of_ble_eq_true rfl) dX6_init_18 (fun H locs hP hD hS => ?_)
  have hP : va_P (dC, dI) vwCl [(qa_1, .inl (cI, 5, .inl (fun _ => (-1)))), (qa_2, .inl (cP, 1, .inr (.inr (.inr (.inr (fun _ => none)))))), (h0, .inr (5, [.int p0, .int 3, .ref qa_2, .int 0, .ref qa_1, .int p1, .int 0, .null, .ref q_3])), (q_3, .inl (cZ, 400, .inl (fun _ => 0)))] H := hP
  have hD : va_D A [(qa_1, .inl (cI, 5, .inl (fun _ => (-1)))), (qa_2, .inl (cP, 1, .inr (.inr (.inr (.inr (fun _ => none)))))), (h0, .inr (5, [.int p0, .int 3, .ref qa_2, .int 0, .ref qa_1, .int p1, .int 0, .null, .ref q_3])), (q_3, .inl (cZ, 400, .inl (fun _ => 0)))] := hD
  refine lv_aload_n hx hb dX6_init_21 rfl (lv_at hl 0 rfl) ?_
  refine lv_iload_n hx hb dX6_init_22 rfl (lv_at hl 3 rfl) ?_
  refine va_putF (D := (dC, dI)) (ci := 5) (v := .int p2) (ty := .int) (C := RX6) (T := TX6) (N := 9) hx hb hts zl_X6_init_X6 tyX6 tyX6_ok nmX6 hown hK hP hD hS 2 rfl rfl 6 (by decide) (hts (.fieldLink RX6 19 "PageOne$Paid" "price" "I") (zat q_wsX6_init k_wsX6_init 357 rfl (by decide +kernel))) (fun _ h9 => h9) rfl hin rfl (tyX6_ok 6 (by decide)) rfl rfl (Nat.le_of_ble_eq_true rfl) dX6_init_23 (fun H locs hP hD hS => ?_)
  have hP : va_P (dC, dI) vwCl [(qa_1, .inl (cI, 5, .inl (fun _ => (-1)))), (qa_2, .inl (cP, 1, .inr (.inr (.inr (.inr (fun _ => none)))))), (h0, .inr (5, [.int p0, .int 3, .ref qa_2, .int 0, .ref qa_1, .int p1, .int p2, .null, .ref q_3])), (q_3, .inl (cZ, 400, .inl (fun _ => 0)))] H := hP
  have hD : va_D A [(qa_1, .inl (cI, 5, .inl (fun _ => (-1)))), (qa_2, .inl (cP, 1, .inr (.inr (.inr (.inr (fun _ => none)))))), (h0, .inr (5, [.int p0, .int 3, .ref qa_2, .int 0, .ref qa_1, .int p1, .int p2, .null, .ref q_3])), (q_3, .inl (cZ, 400, .inl (fun _ => 0)))] := hD
  refine lv_aload_n hx hb dX6_init_26 rfl (lv_at hl 0 rfl) ?_
  refine lv_aload hx hb dX6_init_27 (lv_at hl 4 rfl) ?_
  refine va_putF (D := (dC, dI)) (ci := 5) (v := .ref sp) (ty := .object "PageOne$Piece") (C := RX6) (T := TX6) (N := 9) hx hb hts zl_X6_init_X6 tyX6 tyX6_ok nmX6 hown hK hP hD hS 2 rfl rfl 7 (by decide) (hts (.fieldLink RX6 22 "PageOne$Paid" "spot" "LPageOne$Piece;") (zat q_wsX6_init k_wsX6_init 358 rfl (by decide +kernel))) (fun _ h9 => h9) rfl hin rfl (tyX6_ok 7 (by decide)) rfl rfl (Nat.le_of_ble_eq_true rfl) dX6_init_29 (fun H locs hP hD hS => ?_)
  have hP : va_P (dC, dI) vwCl [(qa_1, .inl (cI, 5, .inl (fun _ => (-1)))), (qa_2, .inl (cP, 1, .inr (.inr (.inr (.inr (fun _ => none)))))), (h0, .inr (5, [.int p0, .int 3, .ref qa_2, .int 0, .ref qa_1, .int p1, .int p2, .ref sp, .ref q_3])), (q_3, .inl (cZ, 400, .inl (fun _ => 0)))] H := hP
  have hD : va_D A [(qa_1, .inl (cI, 5, .inl (fun _ => (-1)))), (qa_2, .inl (cP, 1, .inr (.inr (.inr (.inr (fun _ => none)))))), (h0, .inr (5, [.int p0, .int 3, .ref qa_2, .int 0, .ref qa_1, .int p1, .int p2, .ref sp, .ref q_3])), (q_3, .inl (cZ, 400, .inl (fun _ => 0)))] := hD
  exact W.vret hx hb hr (fun t ht hW => ⟨⟨(), rfl, trivial, ⟨qa_1, qa_2, q_3, by rw [ht]; exact hP.sub [0, 1, 3, 2] rfl, hD.sub [0, 1, 3, 2] (by decide) rfl⟩⟩, hS.F ht⟩) hS.2.2 dX6_init_32
set_option maxHeartbeats 4000000 in
set_option maxRecDepth 100000 in
theorem xn_Filler (l : Launch) (dC : Nat → ClassId) (dI : Nat → Nat → Nat) (h0 : Nat) (cI cP : ClassId) (p0 p1 p2 : Int32) (sz : Nat) : Met l yX2_init wsX2_init ({ frames := 2, cells := 2, slots := 6, locals := 46 }) (va_Pc [.ref h0, .int p0, .int p1, .int p2] (fun U => U.heap.size = sz ∧ PW dC dI [(h0, .inr (2, [.int 0, .int 0, .null, .int 0, .null, .int 0, .int 0]))] [(cI, .int), (cP, .object "PageOne$Piece")] U ∧ va_D (fun _ => True) [(h0, .inr (2, [.int 0, .int 0, .null, .int 0, .null, .int 0, .int 0]))])) (va_Qv (fun _ : Unit => True) (fun _ t => ∃ q1 q2 : Nat, va_P (dC, dI) vwCl [(q1, .inl (cI, 5, .inl (fun _ => (-1)))), (q2, .inl (cP, 1, .inr (.inr (.inr (.inr (fun _ => none)))))), (h0, .inr (2, [.int p0, .int 4, .ref q2, .int 0, .ref q1, .int p1, .int p2]))] t.heap ∧ va_D (va_A [(h0, .inr (2, [.int 0, .int 0, .null, .int 0, .null, .int 0, .int 0]))] sz) [(q1, .inl (cI, 5, .inl (fun _ => (-1)))), (q2, .inl (cP, 1, .inr (.inr (.inr (.inr (fun _ => none)))))), (h0, .inr (2, [.int p0, .int 4, .ref q2, .int 0, .ref q1, .int p1, .int p2]))]) (va_A [(h0, .inr (2, [.int 0, .int 0, .null, .int 0, .null, .int 0, .int 0]))] sz)) 2 6 (va_A [(h0, .inr (2, [.int 0, .int 0, .null, .int 0, .null, .int 0, .int 0]))] sz) := by
  refine Met.ofW (cc := cX2_init) (maxL := 4) (ret := none) (by decide) rfl ?_
  intro p e s m args below meth c s₁ B hml hv
  obtain ⟨rfl, hsz, ⟨hP, hK, hN⟩, hD0⟩ := hv
  have hx := B.exec
  have hb := B.bytes
  have hr := B.returns
  have hts := atoms_spec (ws := wsX2_init) B.pre
  have hown : s.vm.findClass RX2 = some m.cls := findClass_of_methodNamed B.named
  have hlocks := B.notSynchronized
  have hin : meth.name = "<init>" := (name_of_methodNamed B.named B.method).1
  subst hsz
  have hD := hD0.self (sz := s.heap.size)
  generalize hAe : va_A [(h0, .inr (2, [.int 0, .int 0, .null, .int 0, .null, .int 0, .int 0]))] s.heap.size = A at hD ⊢
  have hA : ∀ q : Nat, s.heap.size ≤ q → A q := fun q h => by rw [← hAe]; exact Or.inr h
  have hS : va_S A s.heap s.heap [] := va_S.rf
  have hP : va_P (dC, dI) vwCl [(h0, .inr (2, [.int 0, .int 0, .null, .int 0, .null, .int 0, .int 0]))] s.heap := hP
  have hl := lv_entry ([.ref h0, .int p0, .int p1, .int p2]) (n := 4) (Nat.le_of_ble_eq_true rfl)
  rw [lg_entry_eq]
  generalize (lg_sl ([.ref h0, .int p0, .int p1, .int p2]) ++ List.replicate (4 - (lg_sl ([.ref h0, .int p0, .int p1, .int p2])).length) Slot.unset).toArray = ls at hl ⊢
  have hl : lv_has ls 4 [(0, .ref h0), (1, .int p0), (2, .int p1), (3, .int p2)] := hl
  refine lv_aload_n hx hb dX2_init_0 rfl (lv_at hl 0 rfl) ?_
  refine lv_iload_n hx hb dX2_init_1 rfl (lv_at hl 1 rfl) ?_
  refine lv_iconst (v := 4) hx hb dX2_init_2 (by decide) ?_
  refine lv_iconst (v := 1) hx hb dX2_init_3 (by decide) ?_
  have hPc := hP.sub (ws' := [(h0, .inr (2, [.int 0, .int 0, .null, .int 0, .null, .int 0, .int 0]))]) [0] rfl
  have hKc := hK.sub (tys' := [(cI, .int), (cP, .object "PageOne$Piece")]) [0, 1] rfl
  have hDc := hD.sub (ws' := [(h0, .inr (2, [.int 0, .int 0, .null, .int 0, .null, .int 0, .int 0]))]) [0] (by decide) rfl
  have hFc := va_free (wc := [(h0, .inr (2, [.int 0, .int 0, .null, .int 0, .null, .int 0, .int 0]))]) hD hS hA [0] rfl
  refine va_callv (va_runI (As := [.int p0, .int 4, .int 1]) (rest := []) ⟨hx, hb, hml, hown, hts⟩ (xn_Item_Filler l dC dI h0 cI cP p0 s.heap.size) (cwI 3 hts gX2_init_X4_init rfl rfl rfl (hts (.initialized RX4) (zat q_wsX2_init k_wsX2_init 57 rfl (by decide +kernel))) (hts (.methodLink RX2 3 yX4_init) (zat q_wsX2_init k_wsX2_init 385 rfl (by decide +kernel))) (hts (.instanceMethod yX4_init) (zat q_wsX2_init k_wsX2_init 167 rfl (by decide +kernel))) rfl zh_X4_init_86 ⟨Nat.le_of_ble_eq_true rfl, Nat.le_of_ble_eq_true rfl⟩) ⟨gw_fb, fun U hU hW => ⟨rfl, by rw [hU], pw_to hU hW hPc hKc hN, hDc.weaken (fun _ _ _ _ => trivial)⟩⟩ rfl rfl hl.1 rfl (lv_room (Nat.le_of_ble_eq_true rfl)) dX2_init_4 ⟨Nat.le_of_ble_eq_true rfl, Nat.le_of_ble_eq_true rfl⟩) hS (fun q _ h => hFc q h) hFc (fun u t H1 locs ht hvm hw hB hz1 hk1 hS => ?_)
  obtain ⟨qa_1, qa_2, hP1, hD1⟩ := hB
  rw [ht] at hP1
  obtain ⟨hP, hD⟩ := va_join (wr := []) (w1 := [(qa_1, .inl (cI, 5, .inl (fun _ => (-1)))), (qa_2, .inl (cP, 1, .inr (.inr (.inr (.inr (fun _ => none)))))), (h0, .inr (2, [.int p0, .int 4, .ref qa_2, .int 0, .ref qa_1, .int 0, .int 0]))]) hP hD [0] [] rfl rfl (by decide) (by decide) hk1 hFc hP1 hD1
  generalize H1 = H at hP hS ⊢
  have hP : va_P (dC, dI) vwCl [(qa_1, .inl (cI, 5, .inl (fun _ => (-1)))), (qa_2, .inl (cP, 1, .inr (.inr (.inr (.inr (fun _ => none)))))), (h0, .inr (2, [.int p0, .int 4, .ref qa_2, .int 0, .ref qa_1, .int 0, .int 0]))] H := hP
  have hD : va_D A [(qa_1, .inl (cI, 5, .inl (fun _ => (-1)))), (qa_2, .inl (cP, 1, .inr (.inr (.inr (.inr (fun _ => none)))))), (h0, .inr (2, [.int p0, .int 4, .ref qa_2, .int 0, .ref qa_1, .int 0, .int 0]))] := hD
  refine W.widen (k := 2) (n := 6) (Nat.le_of_ble_eq_true rfl) (Nat.le_of_ble_eq_true rfl) ?_
  refine lv_aload_n hx hb dX2_init_7 rfl (lv_at hl 0 rfl) ?_
  refine lv_iload_n hx hb dX2_init_8 rfl (lv_at hl 2 rfl) ?_
  refine va_putF (D := (dC, dI)) (ci := 2) (v := .int p1) (ty := .int) (C := RX2) (T := TX2) (N := 7) hx hb hts zl_X2_init_X2 tyX2 tyX2_ok nmX2 hown hK hP hD hS 2 rfl rfl 5 (by decide) (hts (.fieldLink RX2 9 "PageOne$Filler" "least" "I") (zat q_wsX2_init k_wsX2_init 386 rfl (by decide +kernel))) (fun _ h9 => h9) rfl hin rfl (tyX2_ok 5 (by decide)) rfl rfl (Nat.le_of_ble_eq_true rfl) dX2_init_9 (fun H locs hP hD hS => ?_)
  have hP : va_P (dC, dI) vwCl [(qa_1, .inl (cI, 5, .inl (fun _ => (-1)))), (qa_2, .inl (cP, 1, .inr (.inr (.inr (.inr (fun _ => none)))))), (h0, .inr (2, [.int p0, .int 4, .ref qa_2, .int 0, .ref qa_1, .int p1, .int 0]))] H := hP
  have hD : va_D A [(qa_1, .inl (cI, 5, .inl (fun _ => (-1)))), (qa_2, .inl (cP, 1, .inr (.inr (.inr (.inr (fun _ => none)))))), (h0, .inr (2, [.int p0, .int 4, .ref qa_2, .int 0, .ref qa_1, .int p1, .int 0]))] := hD
  refine lv_aload_n hx hb dX2_init_12 rfl (lv_at hl 0 rfl) ?_
  refine lv_iload_n hx hb dX2_init_13 rfl (lv_at hl 3 rfl) ?_
  refine va_putF (D := (dC, dI)) (ci := 2) (v := .int p2) (ty := .int) (C := RX2) (T := TX2) (N := 7) hx hb hts zl_X2_init_X2 tyX2 tyX2_ok nmX2 hown hK hP hD hS 2 rfl rfl 6 (by decide) (hts (.fieldLink RX2 15 "PageOne$Filler" "most" "I") (zat q_wsX2_init k_wsX2_init 388 rfl (by decide +kernel))) (fun _ h9 => h9) rfl hin rfl (tyX2_ok 6 (by decide)) rfl rfl (Nat.le_of_ble_eq_true rfl) dX2_init_14 (fun H locs hP hD hS => ?_)
  have hP : va_P (dC, dI) vwCl [(qa_1, .inl (cI, 5, .inl (fun _ => (-1)))), (qa_2, .inl (cP, 1, .inr (.inr (.inr (.inr (fun _ => none)))))), (h0, .inr (2, [.int p0, .int 4, .ref qa_2, .int 0, .ref qa_1, .int p1, .int p2]))] H := hP
  have hD : va_D A [(qa_1, .inl (cI, 5, .inl (fun _ => (-1)))), (qa_2, .inl (cP, 1, .inr (.inr (.inr (.inr (fun _ => none)))))), (h0, .inr (2, [.int p0, .int 4, .ref qa_2, .int 0, .ref qa_1, .int p1, .int p2]))] := hD
  exact W.vret hx hb hr (fun t ht hW => ⟨⟨(), rfl, trivial, ⟨qa_1, qa_2, by rw [ht]; exact hP.sub [0, 1, 2] rfl, hD.sub [0, 1, 2] (by decide) rfl⟩⟩, hS.F ht⟩) hS.2.2 dX2_init_17
set_option maxHeartbeats 4000000 in
set_option maxRecDepth 100000 in
theorem xn_Notice (l : Launch) (dC : Nat → ClassId) (dI : Nat → Nat → Nat) (h0 me : Nat) (cI cP : ClassId) (p0 p1 : Int32) (sz : Nat) : Met l yX5_init wsX5_init ({ frames := 2, cells := 2, slots := 6, locals := 46 }) (va_Pc [.ref h0, .int p0, .ref me, .int p1] (fun U => U.heap.size = sz ∧ PW dC dI [(h0, .inr (4, [.int 0, .int 0, .null, .int 0, .null, .null, .int 0]))] [(cI, .int), (cP, .object "PageOne$Piece")] U ∧ va_D (fun _ => True) [(h0, .inr (4, [.int 0, .int 0, .null, .int 0, .null, .null, .int 0]))])) (va_Qv (fun _ : Unit => True) (fun _ t => ∃ q1 q2 : Nat, va_P (dC, dI) vwCl [(q1, .inl (cI, 5, .inl (fun _ => (-1)))), (q2, .inl (cP, 1, .inr (.inr (.inr (.inr (fun _ => none)))))), (h0, .inr (4, [.int p0, .int 5, .ref q2, .int 0, .ref q1, .ref me, .int p1]))] t.heap ∧ va_D (va_A [(h0, .inr (4, [.int 0, .int 0, .null, .int 0, .null, .null, .int 0]))] sz) [(q1, .inl (cI, 5, .inl (fun _ => (-1)))), (q2, .inl (cP, 1, .inr (.inr (.inr (.inr (fun _ => none)))))), (h0, .inr (4, [.int p0, .int 5, .ref q2, .int 0, .ref q1, .ref me, .int p1]))]) (va_A [(h0, .inr (4, [.int 0, .int 0, .null, .int 0, .null, .null, .int 0]))] sz)) 2 6 (va_A [(h0, .inr (4, [.int 0, .int 0, .null, .int 0, .null, .null, .int 0]))] sz) := by
  refine Met.ofW (cc := cX5_init) (maxL := 4) (ret := none) (by decide) rfl ?_
  intro p e s m args below meth c s₁ B hml hv
  obtain ⟨rfl, hsz, ⟨hP, hK, hN⟩, hD0⟩ := hv
  have hx := B.exec
  have hb := B.bytes
  have hr := B.returns
  have hts := atoms_spec (ws := wsX5_init) B.pre
  have hown : s.vm.findClass RX5 = some m.cls := findClass_of_methodNamed B.named
  have hlocks := B.notSynchronized
  have hin : meth.name = "<init>" := (name_of_methodNamed B.named B.method).1
  subst hsz
  have hD := hD0.self (sz := s.heap.size)
  generalize hAe : va_A [(h0, .inr (4, [.int 0, .int 0, .null, .int 0, .null, .null, .int 0]))] s.heap.size = A at hD ⊢
  have hA : ∀ q : Nat, s.heap.size ≤ q → A q := fun q h => by rw [← hAe]; exact Or.inr h
  have hS : va_S A s.heap s.heap [] := va_S.rf
  have hP : va_P (dC, dI) vwCl [(h0, .inr (4, [.int 0, .int 0, .null, .int 0, .null, .null, .int 0]))] s.heap := hP
  have hl := lv_entry ([.ref h0, .int p0, .ref me, .int p1]) (n := 4) (Nat.le_of_ble_eq_true rfl)
  rw [lg_entry_eq]
  generalize (lg_sl ([.ref h0, .int p0, .ref me, .int p1]) ++ List.replicate (4 - (lg_sl ([.ref h0, .int p0, .ref me, .int p1])).length) Slot.unset).toArray = ls at hl ⊢
  have hl : lv_has ls 4 [(0, .ref h0), (1, .int p0), (2, .ref me), (3, .int p1)] := hl
  refine lv_aload_n hx hb dX5_init_0 rfl (lv_at hl 0 rfl) ?_
  refine lv_iload_n hx hb dX5_init_1 rfl (lv_at hl 1 rfl) ?_
  refine lv_iconst (v := 5) hx hb dX5_init_2 (by decide) ?_
  refine lv_iconst (v := 1) hx hb dX5_init_3 (by decide) ?_
  have hPc := hP.sub (ws' := [(h0, .inr (4, [.int 0, .int 0, .null, .int 0, .null, .null, .int 0]))]) [0] rfl
  have hKc := hK.sub (tys' := [(cI, .int), (cP, .object "PageOne$Piece")]) [0, 1] rfl
  have hDc := hD.sub (ws' := [(h0, .inr (4, [.int 0, .int 0, .null, .int 0, .null, .null, .int 0]))]) [0] (by decide) rfl
  have hFc := va_free (wc := [(h0, .inr (4, [.int 0, .int 0, .null, .int 0, .null, .null, .int 0]))]) hD hS hA [0] rfl
  refine va_callv (va_runI (As := [.int p0, .int 5, .int 1]) (rest := []) ⟨hx, hb, hml, hown, hts⟩ (xn_Item_Notice l dC dI h0 cI cP p0 s.heap.size) (cwI 3 hts gX5_init_X4_init rfl rfl rfl (hts (.initialized RX4) (zat q_wsX5_init k_wsX5_init 57 rfl (by decide +kernel))) (hts (.methodLink RX5 3 yX4_init) (zat q_wsX5_init k_wsX5_init 439 rfl (by decide +kernel))) (hts (.instanceMethod yX4_init) (zat q_wsX5_init k_wsX5_init 167 rfl (by decide +kernel))) rfl zh_X4_init_86 ⟨Nat.le_of_ble_eq_true rfl, Nat.le_of_ble_eq_true rfl⟩) ⟨gw_fb, fun U hU hW => ⟨rfl, by rw [hU], pw_to hU hW hPc hKc hN, hDc.weaken (fun _ _ _ _ => trivial)⟩⟩ rfl rfl hl.1 rfl (lv_room (Nat.le_of_ble_eq_true rfl)) dX5_init_4 ⟨Nat.le_of_ble_eq_true rfl, Nat.le_of_ble_eq_true rfl⟩) hS (fun q _ h => hFc q h) hFc (fun u t H1 locs ht hvm hw hB hz1 hk1 hS => ?_)
  obtain ⟨qa_1, qa_2, hP1, hD1⟩ := hB
  rw [ht] at hP1
  obtain ⟨hP, hD⟩ := va_join (wr := []) (w1 := [(qa_1, .inl (cI, 5, .inl (fun _ => (-1)))), (qa_2, .inl (cP, 1, .inr (.inr (.inr (.inr (fun _ => none)))))), (h0, .inr (4, [.int p0, .int 5, .ref qa_2, .int 0, .ref qa_1, .null, .int 0]))]) hP hD [0] [] rfl rfl (by decide) (by decide) hk1 hFc hP1 hD1
  generalize H1 = H at hP hS ⊢
  have hP : va_P (dC, dI) vwCl [(qa_1, .inl (cI, 5, .inl (fun _ => (-1)))), (qa_2, .inl (cP, 1, .inr (.inr (.inr (.inr (fun _ => none)))))), (h0, .inr (4, [.int p0, .int 5, .ref qa_2, .int 0, .ref qa_1, .null, .int 0]))] H := hP
  have hD : va_D A [(qa_1, .inl (cI, 5, .inl (fun _ => (-1)))), (qa_2, .inl (cP, 1, .inr (.inr (.inr (.inr (fun _ => none)))))), (h0, .inr (4, [.int p0, .int 5, .ref qa_2, .int 0, .ref qa_1, .null, .int 0]))] := hD
  refine W.widen (k := 2) (n := 6) (Nat.le_of_ble_eq_true rfl) (Nat.le_of_ble_eq_true rfl) ?_
  refine lv_aload_n hx hb dX5_init_7 rfl (lv_at hl 0 rfl) ?_
  refine lv_aload_n hx hb dX5_init_8 rfl (lv_at hl 2 rfl) ?_
  refine va_putF (D := (dC, dI)) (ci := 4) (v := .ref me) (ty := .object "PageOne$Item") (C := RX5) (T := TX5) (N := 7) hx hb hts zl_X5_init_X5 tyX5 tyX5_ok nmX5 hown hK hP hD hS 2 rfl rfl 5 (by decide) (hts (.fieldLink RX5 9 "PageOne$Notice" "mended" "LPageOne$Item;") (zat q_wsX5_init k_wsX5_init 440 rfl (by decide +kernel))) (fun _ h9 => h9) rfl hin rfl (tyX5_ok 5 (by decide)) rfl rfl (Nat.le_of_ble_eq_true rfl) dX5_init_9 (fun H locs hP hD hS => ?_)
  have hP : va_P (dC, dI) vwCl [(qa_1, .inl (cI, 5, .inl (fun _ => (-1)))), (qa_2, .inl (cP, 1, .inr (.inr (.inr (.inr (fun _ => none)))))), (h0, .inr (4, [.int p0, .int 5, .ref qa_2, .int 0, .ref qa_1, .ref me, .int 0]))] H := hP
  have hD : va_D A [(qa_1, .inl (cI, 5, .inl (fun _ => (-1)))), (qa_2, .inl (cP, 1, .inr (.inr (.inr (.inr (fun _ => none)))))), (h0, .inr (4, [.int p0, .int 5, .ref qa_2, .int 0, .ref qa_1, .ref me, .int 0]))] := hD
  refine lv_aload_n hx hb dX5_init_12 rfl (lv_at hl 0 rfl) ?_
  refine lv_iload_n hx hb dX5_init_13 rfl (lv_at hl 3 rfl) ?_
  refine va_putF (D := (dC, dI)) (ci := 4) (v := .int p1) (ty := .int) (C := RX5) (T := TX5) (N := 7) hx hb hts zl_X5_init_X5 tyX5 tyX5_ok nmX5 hown hK hP hD hS 2 rfl rfl 6 (by decide) (hts (.fieldLink RX5 15 "PageOne$Notice" "h" "I") (zat q_wsX5_init k_wsX5_init 442 rfl (by decide +kernel))) (fun _ h9 => h9) rfl hin rfl (tyX5_ok 6 (by decide)) rfl rfl (Nat.le_of_ble_eq_true rfl) dX5_init_14 (fun H locs hP hD hS => ?_)
  have hP : va_P (dC, dI) vwCl [(qa_1, .inl (cI, 5, .inl (fun _ => (-1)))), (qa_2, .inl (cP, 1, .inr (.inr (.inr (.inr (fun _ => none)))))), (h0, .inr (4, [.int p0, .int 5, .ref qa_2, .int 0, .ref qa_1, .ref me, .int p1]))] H := hP
  have hD : va_D A [(qa_1, .inl (cI, 5, .inl (fun _ => (-1)))), (qa_2, .inl (cP, 1, .inr (.inr (.inr (.inr (fun _ => none)))))), (h0, .inr (4, [.int p0, .int 5, .ref qa_2, .int 0, .ref qa_1, .ref me, .int p1]))] := hD
  exact W.vret hx hb hr (fun t ht hW => ⟨⟨(), rfl, trivial, ⟨qa_1, qa_2, by rw [ht]; exact hP.sub [0, 1, 2] rfl, hD.sub [0, 1, 2] (by decide) rfl⟩⟩, hS.F ht⟩) hS.2.2 dX5_init_17
theorem cO_24 {q : Nat → ClassId} {z : gS} {a : Nat} {e : va_E} (h : (z.2 a).1 = 24) : cO q z a e := cO_of h ⟨fun x => absurd x (by decide), fun x => absurd x (by decide), fun x => absurd x (by decide), fun x => absurd x (by decide), fun x => absurd x (by decide), fun x => absurd x (by decide), fun x => absurd x (by decide), fun x => absurd x (by decide), fun _ y => absurd y (by decide), fun x => absurd x (by decide), fun x => absurd x (by decide), fun x => absurd x (by decide), fun x => absurd x (by decide), fun x => absurd x (by decide), fun x => absurd x (by decide), fun x => absurd x (by decide), fun x => absurd x (by decide)⟩
theorem vaP_3 {D : va_G} {cl : List vw_C} {c1 c2 : Nat × va_E} {pl : va_W} {H : Heap} (h : va_P D cl (([] ++ [c2]) ++ (pl ++ [c1])) H) : va_P D cl (c2 :: ([c1] ++ pl)) H := by
  intro k q hk
  have hm : q ∈ (([] ++ [c2]) ++ (pl ++ [c1])) := by
    rcases List.mem_cons.mp (List.mem_of_getElem? hk) with y | y
    · rw [y]; exact List.mem_append_left _ (List.mem_append_right _ List.mem_cons_self)
    · rcases List.mem_append.mp y with y | y
      · exact List.mem_append_right _ (List.mem_append_right _ y)
      · exact List.mem_append_right _ (List.mem_append_left _ y)
  obtain ⟨i, hi⟩ := List.getElem?_of_mem hm
  exact h i q hi
theorem vaD_sw {A : Nat → Prop} {c1 c2 : Nat × va_E} {r : va_W} (h : va_D A (c1 :: c2 :: r)) : va_D A (c2 :: c1 :: r) := by
  refine va_D.by h (fun k => if k = 0 then 1 else if k = 1 then 0 else k) (fun k q hk => ?_) (fun i j hi hj hij => ?_)
  · match k, hk with
    | 0, hk => exact hk
    | 1, hk => exact hk
    | k + 2, hk => exact hk
  · by_cases i0 : i = 0
    · rw [if_pos i0] at hij
      by_cases j0 : j = 0
      · omega
      · rw [if_neg j0] at hij
        by_cases j1 : j = 1
        · rw [if_pos j1] at hij; omega
        · rw [if_neg j1] at hij; omega
    · rw [if_neg i0] at hij
      by_cases i1 : i = 1
      · rw [if_pos i1] at hij
        by_cases j0 : j = 0
        · rw [if_pos j0] at hij; omega
        · rw [if_neg j0] at hij
          by_cases j1 : j = 1
          · omega
          · rw [if_neg j1] at hij; omega
      · rw [if_neg i1] at hij
        by_cases j0 : j = 0
        · rw [if_pos j0] at hij; omega
        · rw [if_neg j0] at hij
          by_cases j1 : j = 1
          · rw [if_pos j1] at hij; omega
          · rw [if_neg j1] at hij; omega
theorem vaD_3 {A : Nat → Prop} {c1 c2 : Nat × va_E} {pl : va_W} (h : va_D A (([] ++ [c2]) ++ (pl ++ [c1]))) : va_D A (c2 :: ([c1] ++ pl)) := vaD_sw (vaD_rotR (r := c2 :: pl) h)
theorem up_up {f : xF} {a : Nat} {x y : va_E} : va_up (va_up f a x) a y = va_up f a y := by
  funext b
  unfold va_up
  by_cases e : b = a
  · rw [if_pos e, if_pos e]
  · rw [if_neg e, if_neg e, if_neg e]
theorem cO_acA {q : Nat → ClassId} {z : gS} {a p b : Nat} {l n : Int32} (hp : lgP z p) (hb : tg z b 23) (ha : a ∉ z.1) : cO q (pz z a (23, (z.2 b).2.1 + 1, [.ref p, .int l, .ref b, .int n])) a (.inr (0, [.ref p, .int l, .ref b, .int n])) := by
  refine cO_23 (by rw [pz_s]) ⟨by rw [pz_s], p, l, n, some b, by rw [pz_s]; rfl, zE_lg (pz_E ha _) hp, ty_s ⟨zE_tg (pz_E ha _) hb, ?_⟩⟩
  rw [pz_s, zE_o (pz_E ha _) hb.1]
  exact Nat.lt_succ_self _
theorem nI_sb {i r : Nat} (h : r ≤ i) (hi : i ≤ 61) : nI i - nI r = nI (i - r) := sw_in (k := ((i - r : Nat) : Int)) (by rw [subI (by rw [nI_toInt (by omega), nI_toInt (by omega)]; omega) (by rw [nI_toInt (by omega), nI_toInt (by omega)]; omega), nI_toInt (by omega), nI_toInt (by omega)]; omega) (by rw [nI_toInt (by omega)])
theorem b60n {r : Nat} (h : r ≤ 60) : bw (nI r) 0 60 = true := bwN (by have e60 : (60 : Int32).toInt = 60 := rfl; rw [e60]; omega) (by omega)
theorem b7n {r : Nat} (h : r < 8) : bw (nI r) 0 7 = true := bwN (by have e60 : (7 : Int32).toInt = 7 := rfl; rw [e60]; omega) (by omega)
theorem b87 {x y w : Int32} (h : bw x 0 y = true) (hy : y = 8 - w) (hw : bw w 1 8 = true) : bw x 0 7 = true := by
  have e8 : (8 : Int32).toInt = 8 := rfl
  have e7 : (7 : Int32).toInt = 7 := rfl
  have h1 := bw_iff.mp h
  have h2 := bw_iff.mp hw
  rw [i1, e8] at h2
  rw [hy, i0, subI (by rw [e8]; omega) (by rw [e8]; omega), e8] at h1
  rw [bw_iff, i0, e7]; omega
theorem b60 {x y w : Int32} (h : bw x 0 y = true) (hy : y = 60 - w) (hw : bw w 1 60 = true) : bw x 0 60 = true := by
  have e8 : (60 : Int32).toInt = 60 := rfl
  have h1 := bw_iff.mp h
  have h2 := bw_iff.mp hw
  rw [i1, e8] at h2
  rw [hy, i0, subI (by rw [e8]; omega) (by rw [e8]; omega), e8] at h1
  rw [bw_iff, i0, e8]; omega
theorem ban {a b : Bool} (h : (a && b) = true) : a = true ∧ b = true := by
  cases a <;> cases b <;> first | exact ⟨rfl, rfl⟩ | exact absurd h (by decide)
theorem b1to0 {x y : Int32} (h : bw x 1 y = true) : bw x 0 y = true := by
  have h1 := bw_iff.mp h
  rw [i1] at h1
  rw [bw_iff, i0]; omega
theorem b00 : bw 0 0 60 = true := by decide
