/-- whether an item was printed on one of the first days -/
def mWas (u : mS) (i : Int32) : Nat → Bool
  | 0 => false
  | n + 1 => mWas u i n || !decide (u.2 48 (80 * nI n + i).toNatClampNeg = 0)
theorem vDay {i : Int32} {d : Nat} (hi : bw i 0 79 = true) (hd : d < 400) : vp_in (80 * nI d + i) 32000 := by
  have h79 : (79 : Int32).toInt = 79 := rfl
  have h1 := bw_iff.mp hi
  rw [i0, h79] at h1
  have e1 : (80 * nI d).toInt = 80 * d := by rw [show (80 : Int32) = nI 80 from rfl, pk_mul, nI_toInt (by omega)]; omega
  rw [vp_in_iff, addI (by rw [e1]; omega) (by rw [e1]; omega), e1]; omega
theorem add_sub1 (a b : Int32) : a + b - 1 = a + (b - 1) := by
  rw [Int32.sub_eq_add_neg, Int32.sub_eq_add_neg, Int32.add_assoc]
def mLift (u : mS) (i : Int32) (P X Y D N : Nat) : Int32 × mS := if bw i 0 (u.1 3 - 1) = true then (if u.2 22 i.toNatClampNeg = 0 then (-1, u) else if u.1 28 = 300 then (-1, u) else
  let k := 6 * i + u.2 22 i.toNatClampNeg - 1
  let u1 := mActs u 1 i (u.2 23 k.toNatClampNeg) (u.2 24 k.toNatClampNeg) (u.2 25 k.toNatClampNeg) (u.2 26 k.toNatClampNeg) (u.2 27 k.toNatClampNeg)
  let u2 := mUnstand u1 i P X Y D N
  (u2.2 22 i.toNatClampNeg, u2)) else (-1, u)
set_option maxHeartbeats 4000000 in
set_option maxRecDepth 100000 in
theorem m_was_loop {p : Program} {l : Launch} {e : Env} {R : Room} {s : State} {m : MethodId} {args : Array Value} {below : List Frame} {meth : Method} {c : Code} {Q : State → Prop} {cells slots : Nat} {dC : Nat → ClassId} {dI : Nat → Nat → Nat} {h0 : Nat} {v : Nat → Nat} {cI cZ : ClassId} {H : Heap} {locs : List Loc} {u : mS} (hx : p.tables.exec = Jvm.exec) (hb : c.code = cX12_wasPrintedAhead) (hml : c.maxLocals = 4) (hts : ∀ w ∈ wsX12_wasPrintedAhead, w.before args s = true) (hown : s.vm.findClass RX12 = some m.cls) (hN : NN s) (hK : va_K (dC, dI) vwCl [(cI, .int), (cZ, .boolean)] s) (hP : va_P (dC, dI) vwCl (mW h0 v cI cZ u) H) {p0 : Int32} {K : Nat} (hi0 : bw p0 0 79 = true) (hKd : K < 400) (eK : u.1 38 = nI K) (kx : ∀ (a : Int32) (ls : Array Slot), a = bi (mWas u p0 K) → lv_has ls 4 [(3, .int (nI K)), (2, .int a), (0, .ref h0), (1, .int p0)] → W p l e R s m args below meth c H locs cells slots Q (F0 m 42 ls [])) : ∀ (k i : Nat) (a : Int32) (ls : Array Slot), i ≤ K → K - i < k → a = bi (mWas u p0 i) → lv_has ls 4 [(3, .int (nI i)), (2, .int a), (0, .ref h0), (1, .int p0)] → W p l e R s m args below meth c H locs cells slots Q (F0 m 4 ls []) := by
  intro k
  induction k with
  | zero => intro i a ls h1 h2; exact absurd h2 (Nat.not_lt_zero _)
  | succ k ih =>
    intro i a ls hi hk hg hl
    refine lv_iload_n hx hb dX12_wasPrintedAhead_4 rfl (lv_at hl 0 rfl) ?_
    refine lv_aload_n hx hb dX12_wasPrintedAhead_5 rfl (lv_at hl 2 rfl) ?_
    refine va_get (D := (dC, dI)) (ci := 11) (v := .int (u.1 38)) (C := RX12) (T := TX12) (N := 52) hx hb hts (by decide +kernel) hown hK hP 0 rfl rfl 38 (by decide) (hts (.fieldLink RX12 206 "PageOneModel" "day" "I") (by decide +kernel)) (fun _ h9 => h9) rfl dX12_wasPrintedAhead_6 ?_
    refine lv_topi (fun y_1 ey_1 => ?_)
    obtain rfl : y_1 = (nI K) := ey_1.trans (eK)
    refine lv_icmp_ge (tgt := 42) hx hb dX12_wasPrintedAhead_9 (by decide) (fun c_2 => ?_) (fun c_2 => ?_)
    ·
      have hie : i = K := lp_eq rfl (by omega) hi c_2
      rw [hie] at hg hl
      exact kx _ ls hg (lv_sub hl [0, 1, 2, 3] rfl)
    ·
      have hlt : i < K := lp_lt rfl (by omega) hi c_2
      refine lv_iload_n hx hb dX12_wasPrintedAhead_12 rfl (lv_at hl 1 rfl) ?_
      refine lv_if_ne (tgt := 30) hx hb dX12_wasPrintedAhead_13 (by decide) (fun c_3 => ?_) (fun c_3 => ?_)
      ·
        refine lv_iconst (v := 1) hx hb dX12_wasPrintedAhead_30 (by decide) ?_
        refine lv_goto (tgt := 35) hx hb dX12_wasPrintedAhead_31 (by decide) ?_
        refine lv_istore_n (lv' := [(2, .int 1), (3, .int (nI i)), (0, .ref h0), (1, .int p0)]) hx hb dX12_wasPrintedAhead_35 rfl hl (by decide) rfl (fun ls hl => ?_)
        refine lv_iinc (v := (nI (i + 1))) (lv' := [(3, .int (nI (i + 1))), (2, .int 1), (0, .ref h0), (1, .int p0)]) hx hb dX12_wasPrintedAhead_36 hl (k := 1) rfl (nI_1 i) (by decide) rfl (fun ls hl => ?_)
        refine lv_goto (tgt := 4) hx hb dX12_wasPrintedAhead_39 (by decide) ?_
        exact ih (i + 1) _ ls (by omega) (by omega) (by rw [mWas, nz hg c_3]; rfl) (lv_sub hl [0, 1, 2, 3] rfl)
      ·
        refine lv_aload_n hx hb dX12_wasPrintedAhead_16 rfl (lv_at hl 2 rfl) ?_
        refine va_get (D := (dC, dI)) (ci := 11) (v := .ref (v 48)) (C := RX12) (T := TX12) (N := 52) hx hb hts (by decide +kernel) hown hK hP 0 rfl rfl 48 (by decide) (hts (.fieldLink RX12 140 "PageOneModel" "isOn" "[Z") (by decide +kernel)) (fun _ h9 => h9) rfl dX12_wasPrintedAhead_17 ?_
        refine lv_bipush (v := 80) hx hb dX12_wasPrintedAhead_20 (by decide) ?_
        refine lv_iload_n hx hb dX12_wasPrintedAhead_22 rfl (lv_at hl 0 rfl) ?_
        refine lv_imul hx hb dX12_wasPrintedAhead_23 ?_
        refine lv_iload_n hx hb dX12_wasPrintedAhead_24 rfl (lv_at hl 3 rfl) ?_
        refine lv_iadd hx hb dX12_wasPrintedAhead_25 ?_
        refine va_zald hx hb hK hP 44 1 rfl rfl (vDay hi0 (by omega)) dX12_wasPrintedAhead_26 ?_
        refine lv_if_eq (tgt := 34) hx hb dX12_wasPrintedAhead_27 (by decide) (fun c_4 => ?_) (fun c_4 => ?_)
        ·
          refine lv_iconst (v := 0) hx hb dX12_wasPrintedAhead_34 (by decide) ?_
          refine lv_istore_n (lv' := [(2, .int 0), (3, .int (nI i)), (0, .ref h0), (1, .int p0)]) hx hb dX12_wasPrintedAhead_35 rfl hl (by decide) rfl (fun ls hl => ?_)
          refine lv_iinc (v := (nI (i + 1))) (lv' := [(3, .int (nI (i + 1))), (2, .int 0), (0, .ref h0), (1, .int p0)]) hx hb dX12_wasPrintedAhead_36 hl (k := 1) rfl (nI_1 i) (by decide) rfl (fun ls hl => ?_)
          refine lv_goto (tgt := 4) hx hb dX12_wasPrintedAhead_39 (by decide) ?_
          exact ih (i + 1) _ ls (by omega) (by omega) (by rw [mWas, zz0 hg c_3]; simp [bi, c_4]) (lv_sub hl [0, 1, 2, 3] rfl)
        ·
          refine lv_iconst (v := 1) hx hb dX12_wasPrintedAhead_30 (by decide) ?_
          refine lv_goto (tgt := 35) hx hb dX12_wasPrintedAhead_31 (by decide) ?_
          refine lv_istore_n (lv' := [(2, .int 1), (3, .int (nI i)), (0, .ref h0), (1, .int p0)]) hx hb dX12_wasPrintedAhead_35 rfl hl (by decide) rfl (fun ls hl => ?_)
          refine lv_iinc (v := (nI (i + 1))) (lv' := [(3, .int (nI (i + 1))), (2, .int 1), (0, .ref h0), (1, .int p0)]) hx hb dX12_wasPrintedAhead_36 hl (k := 1) rfl (nI_1 i) (by decide) rfl (fun ls hl => ?_)
          refine lv_goto (tgt := 4) hx hb dX12_wasPrintedAhead_39 (by decide) ?_
          exact ih (i + 1) _ ls (by omega) (by omega) (by rw [mWas, zz0 hg c_3]; simp [bi, c_4]) (lv_sub hl [0, 1, 2, 3] rfl)
set_option maxHeartbeats 4000000 in
set_option maxRecDepth 100000 in
theorem m_wasPrintedAhead (l : Launch) (dC : Nat → ClassId) (dI : Nat → Nat → Nat) (h0 : Nat) (v : Nat → Nat) (cI cZ : ClassId) (u : mS) (p0 : Int32) (hi : bw p0 0 79 = true) (hd : bw (u.1 38) 0 399 = true) : Met l yX12_wasPrintedAhead wsX12_wasPrintedAhead ({ frames := 0, cells := 0, slots := 0, locals := 0 }) (va_Pc [.ref h0, .int p0] (PW dC dI (mW h0 v cI cZ u) [(cI, .int), (cZ, .boolean)])) (vp_Si (fun r => r = bi (mWas u p0 (u.1 38).toNatClampNeg))) 0 0 (fun _ => False) := by
  refine Met.ofW (cc := cX12_wasPrintedAhead) (maxL := 4) (ret := (some .boolean)) (by decide) rfl ?_
  intro p e s m args below meth c s₁ B hml hv
  obtain ⟨rfl, hP, hK, hN⟩ := hv
  have hx := B.exec
  have hb := B.bytes
  have hr := B.returns
  have hts := atoms_spec (ws := wsX12_wasPrintedAhead) B.pre
  have hown : s.vm.findClass RX12 = some m.cls := findClass_of_methodNamed B.named
  have hlocks := B.notSynchronized
  have hl := lv_entry ([.ref h0, .int p0]) (n := 4) (Nat.le_of_ble_eq_true rfl)
  rw [lg_entry_eq]
  generalize (lg_sl ([.ref h0, .int p0]) ++ List.replicate (4 - (lg_sl ([.ref h0, .int p0])).length) Slot.unset).toArray = ls at hl ⊢
  have hl : lv_has ls 4 [(0, .ref h0), (1, .int p0)] := hl
  refine lv_iconst (v := 0) hx hb dX12_wasPrintedAhead_0 (by decide) ?_
  refine lv_istore_n (lv' := [(2, .int 0), (0, .ref h0), (1, .int p0)]) hx hb dX12_wasPrintedAhead_1 rfl hl (by decide) rfl (fun ls hl => ?_)
  refine lv_iconst (v := 0) hx hb dX12_wasPrintedAhead_2 (by decide) ?_
  refine lv_istore_n (lv' := [(3, .int 0), (2, .int 0), (0, .ref h0), (1, .int p0)]) hx hb dX12_wasPrintedAhead_3 rfl hl (by decide) rfl (fun ls hl => ?_)
  obtain ⟨eK, eK2, eK3⟩ := nI_of_bw hd
  have h399 : (399 : Int32).toInt = 399 := rfl
  refine m_was_loop (K := (u.1 38).toNatClampNeg) hx hb hml hts hown hN hK hP hi (by omega) eK (fun a ls hg hl => ?_) _ 0 0 ls (Nat.zero_le _) (Nat.lt_succ_self _) rfl (lv_sub hl [0, 1, 2, 3] rfl)
  refine lv_iload_n hx hb dX12_wasPrintedAhead_42 rfl (lv_at hl 1 rfl) ?_
  exact W.zret (v := a) hx hb hr (by rw [hg]; exact zb _) (fun t ht hW => ⟨_, rfl, hg, ht⟩) (fun q h => absurd h List.not_mem_nil) dX12_wasPrintedAhead_43
set_option maxHeartbeats 4000000 in
set_option maxRecDepth 100000 in
theorem m_lift (l : Launch) (dC : Nat → ClassId) (dI : Nat → Nat → Nat) (h0 : Nat) (v : Nat → Nat) (cI cZ : ClassId) (u : mS) (p0 : Int32) (P X Y D N : Nat) (hPP : P < 12) (hXW : X + D ≤ 8) (hYN : Y + N ≤ 60) (hn : bw (u.1 3) 0 80 = true) (ha : bw (u.1 28) 0 300 = true) (hq : bw (u.2 22 p0.toNatClampNeg - 1) 0 5 = true) (e23 : u.2 23 (6 * p0 + (u.2 22 p0.toNatClampNeg - 1)).toNatClampNeg = nI P) (e24 : u.2 24 (6 * p0 + (u.2 22 p0.toNatClampNeg - 1)).toNatClampNeg = nI X) (e25 : u.2 25 (6 * p0 + (u.2 22 p0.toNatClampNeg - 1)).toNatClampNeg = nI Y) (e26 : u.2 26 (6 * p0 + (u.2 22 p0.toNatClampNeg - 1)).toNatClampNeg = nI D) (e27 : u.2 27 (6 * p0 + (u.2 22 p0.toNatClampNeg - 1)).toNatClampNeg = nI N) (sz : Nat) : Met l yX12_lift wsX12_lift ({ frames := 3, cells := 0, slots := 0, locals := 72 }) (va_Pc [.ref h0, .int p0] (fun U => U.heap.size = sz ∧ PW dC dI (mW h0 v cI cZ u) [(cI, .int), (cZ, .boolean)] U ∧ va_D (fun _ => True) (mW h0 v cI cZ u))) (va_Qi (fun (r : Int32) (u9 : mS) => (r, u9) = mLift u p0 P X Y D N) (fun u9 t => va_P (dC, dI) vwCl (mW h0 v cI cZ u9) t.heap ∧ va_D (va_A (mW h0 v cI cZ u) sz) (mW h0 v cI cZ u9)) (va_A (mW h0 v cI cZ u) sz)) 0 0 (va_A (mW h0 v cI cZ u) sz) := by
  refine Met.ofW (cc := cX12_lift) (maxL := 3) (ret := (some .int)) (by decide) rfl ?_
  intro p e s m args below meth c s₁ B hml hv
  obtain ⟨rfl, hsz, ⟨hP, hK, hN⟩, hD0⟩ := hv
  have hx := B.exec
  have hb := B.bytes
  have hr := B.returns
  have hts := atoms_spec (ws := wsX12_lift) B.pre
  have hown : s.vm.findClass RX12 = some m.cls := findClass_of_methodNamed B.named
  have hlocks := B.notSynchronized
  subst hsz
  have hD := hD0.self (sz := s.heap.size)
  generalize hAe : va_A (mW h0 v cI cZ u) s.heap.size = A at hD ⊢
  have hA : ∀ q : Nat, s.heap.size ≤ q → A q := fun q h => by rw [← hAe]; exact Or.inr h
  have hS : va_S A s.heap s.heap [] := va_S.rf
  have hl := lv_entry ([.ref h0, .int p0]) (n := 3) (Nat.le_of_ble_eq_true rfl)
  rw [lg_entry_eq]
  generalize (lg_sl ([.ref h0, .int p0]) ++ List.replicate (3 - (lg_sl ([.ref h0, .int p0])).length) Slot.unset).toArray = ls at hl ⊢
  have hl : lv_has ls 3 [(0, .ref h0), (1, .int p0)] := hl
  refine lv_aload_n hx hb dX12_lift_0 rfl (lv_at hl 0 rfl) ?_
  refine lv_iload_n hx hb dX12_lift_1 rfl (lv_at hl 1 rfl) ?_
  refine vp_callSi (va_runV (As := [.int p0]) (rest := []) ⟨hx, hb, hml, hown, hts⟩ (m_isItem l dC dI h0 v cI cZ u p0) (cwV 1 hts gX12_lift_X12_isItem rfl rfl rfl (by decide +kernel) ⟨Nat.le_of_ble_eq_true rfl, Nat.le_of_ble_eq_true rfl⟩) ⟨pw_fb, va_recv hK hP (ci := 11) (q0 := 0) rfl rfl, fun U hU hW => ⟨rfl, pw_to hU hW hP hK hN⟩⟩ rfl rfl hl.1 rfl (lv_room (Nat.le_of_ble_eq_true rfl)) dX12_lift_2 ⟨Nat.le_of_ble_eq_true rfl, Nat.le_of_ble_eq_true rfl⟩).run (fun r hw => ?_)
  rcases Bool.eq_false_or_eq_true (bw p0 0 (u.1 3 - 1)) with b_1 | b_1
  ·
    obtain rfl : r = 1 := b_t hw b_1
    refine lv_if_eq (tgt := 27) hx hb dX12_lift_5 (by decide) (fun c_2 => absurd c_2 (by decide)) (fun c_2 => ?_)
    refine lv_aload_n hx hb dX12_lift_8 rfl (lv_at hl 0 rfl) ?_
    refine va_get (D := (dC, dI)) (ci := 11) (v := .ref (v 22)) (C := RX12) (T := TX12) (N := 52) hx hb hts (by decide +kernel) hown hK hP 0 rfl rfl 22 (by decide) (hts (.fieldLink RX12 74 "PageOneModel" "pieces" "[I") (by decide +kernel)) (fun _ h9 => h9) rfl dX12_lift_9 ?_
    refine lv_iload_n hx hb dX12_lift_12 rfl (lv_at hl 1 rfl) ?_
    refine va_iald hx hb hK hP 22 0 rfl rfl (vIt hn b_1) dX12_lift_13 ?_
    refine lv_if_eq (tgt := 27) hx hb dX12_lift_14 (by decide) (fun c_3 => ?_) (fun c_3 => ?_)
    ·
      refine lv_iconst (v := (-1)) hx hb dX12_lift_27 (by decide) ?_
      exact W.iret (v := (-1)) hx hb hr (fun t ht hW => ⟨⟨(-1), u, rfl, (by subst_vars; simp only [mLift, if_pos b_1, if_pos c_3]), by rw [ht]; exact hP, hD⟩, hS.F ht⟩) hS.2.2 dX12_lift_28
    ·
      refine lv_aload_n hx hb dX12_lift_17 rfl (lv_at hl 0 rfl) ?_
      refine va_get (D := (dC, dI)) (ci := 11) (v := .int (u.1 28)) (C := RX12) (T := TX12) (N := 52) hx hb hts (by decide +kernel) hown hK hP 0 rfl rfl 28 (by decide) (hts (.fieldLink RX12 158 "PageOneModel" "acts" "I") (by decide +kernel)) (fun _ h9 => h9) rfl dX12_lift_18 ?_
      refine lv_sipush (v := 300) hx hb dX12_lift_21 (by decide) ?_
      refine lv_icmp_ne (tgt := 29) hx hb dX12_lift_24 (by decide) (fun c_4 => ?_) (fun c_4 => ?_)
      ·
        refine lv_bipush (v := 6) hx hb dX12_lift_29 (by decide) ?_
        refine lv_iload_n hx hb dX12_lift_31 rfl (lv_at hl 1 rfl) ?_
        refine lv_imul hx hb dX12_lift_32 ?_
        refine lv_aload_n hx hb dX12_lift_33 rfl (lv_at hl 0 rfl) ?_
        refine va_get (D := (dC, dI)) (ci := 11) (v := .ref (v 22)) (C := RX12) (T := TX12) (N := 52) hx hb hts (by decide +kernel) hown hK hP 0 rfl rfl 22 (by decide) (hts (.fieldLink RX12 74 "PageOneModel" "pieces" "[I") (by decide +kernel)) (fun _ h9 => h9) rfl dX12_lift_34 ?_
        refine lv_iload_n hx hb dX12_lift_37 rfl (lv_at hl 1 rfl) ?_
        refine va_iald hx hb hK hP 22 0 rfl rfl (vIt hn b_1) dX12_lift_38 ?_
        refine lv_iadd hx hb dX12_lift_39 ?_
        refine lv_iconst (v := 1) hx hb dX12_lift_40 (by decide) ?_
        refine lv_isub hx hb dX12_lift_41 ?_
        refine lv_topi (fun x_5 ex_5 => ?_)
        refine lv_istore_n (lv' := [(2, .int x_5), (0, .ref h0), (1, .int p0)]) hx hb dX12_lift_42 rfl hl (by decide) rfl (fun ls hl => ?_)
        refine lv_aload_n hx hb dX12_lift_43 rfl (lv_at hl 1 rfl) ?_
        refine lv_iconst (v := 1) hx hb dX12_lift_44 (by decide) ?_
        refine lv_iload_n hx hb dX12_lift_45 rfl (lv_at hl 2 rfl) ?_
        refine lv_aload_n hx hb dX12_lift_46 rfl (lv_at hl 1 rfl) ?_
        refine va_get (D := (dC, dI)) (ci := 11) (v := .ref (v 23)) (C := RX12) (T := TX12) (N := 52) hx hb hts (by decide +kernel) hown hK hP 0 rfl rfl 23 (by decide) (hts (.fieldLink RX12 77 "PageOneModel" "pPage" "[I") (by decide +kernel)) (fun _ h9 => h9) rfl dX12_lift_47 ?_
        refine lv_iload_n hx hb dX12_lift_50 rfl (lv_at hl 0 rfl) ?_
        refine va_iald hx hb hK hP 23 0 rfl rfl (v6a (it79 hn b_1) hq (ex_5.trans (add_sub1 _ _))) dX12_lift_51 ?_
        refine lv_aload_n hx hb dX12_lift_52 rfl (lv_at hl 1 rfl) ?_
        refine va_get (D := (dC, dI)) (ci := 11) (v := .ref (v 24)) (C := RX12) (T := TX12) (N := 52) hx hb hts (by decide +kernel) hown hK hP 0 rfl rfl 24 (by decide) (hts (.fieldLink RX12 80 "PageOneModel" "pColumn" "[I") (by decide +kernel)) (fun _ h9 => h9) rfl dX12_lift_53 ?_
        refine lv_iload_n hx hb dX12_lift_56 rfl (lv_at hl 0 rfl) ?_
        refine va_iald hx hb hK hP 24 0 rfl rfl (v6a (it79 hn b_1) hq (ex_5.trans (add_sub1 _ _))) dX12_lift_57 ?_
        refine lv_aload_n hx hb dX12_lift_58 rfl (lv_at hl 1 rfl) ?_
        refine va_get (D := (dC, dI)) (ci := 11) (v := .ref (v 25)) (C := RX12) (T := TX12) (N := 52) hx hb hts (by decide +kernel) hown hK hP 0 rfl rfl 25 (by decide) (hts (.fieldLink RX12 83 "PageOneModel" "pLine" "[I") (by decide +kernel)) (fun _ h9 => h9) rfl dX12_lift_59 ?_
        refine lv_iload_n hx hb dX12_lift_62 rfl (lv_at hl 0 rfl) ?_
        refine va_iald hx hb hK hP 25 0 rfl rfl (v6a (it79 hn b_1) hq (ex_5.trans (add_sub1 _ _))) dX12_lift_63 ?_
        refine lv_aload_n hx hb dX12_lift_64 rfl (lv_at hl 1 rfl) ?_
        refine va_get (D := (dC, dI)) (ci := 11) (v := .ref (v 26)) (C := RX12) (T := TX12) (N := 52) hx hb hts (by decide +kernel) hown hK hP 0 rfl rfl 26 (by decide) (hts (.fieldLink RX12 86 "PageOneModel" "pWide" "[I") (by decide +kernel)) (fun _ h9 => h9) rfl dX12_lift_65 ?_
        refine lv_iload_n hx hb dX12_lift_68 rfl (lv_at hl 0 rfl) ?_
        refine va_iald hx hb hK hP 26 0 rfl rfl (v6a (it79 hn b_1) hq (ex_5.trans (add_sub1 _ _))) dX12_lift_69 ?_
        refine lv_aload_n hx hb dX12_lift_70 rfl (lv_at hl 1 rfl) ?_
        refine va_get (D := (dC, dI)) (ci := 11) (v := .ref (v 27)) (C := RX12) (T := TX12) (N := 52) hx hb hts (by decide +kernel) hown hK hP 0 rfl rfl 27 (by decide) (hts (.fieldLink RX12 89 "PageOneModel" "pHigh" "[I") (by decide +kernel)) (fun _ h9 => h9) rfl dX12_lift_71 ?_
        refine lv_iload_n hx hb dX12_lift_74 rfl (lv_at hl 0 rfl) ?_
        refine va_iald hx hb hK hP 27 0 rfl rfl (v6a (it79 hn b_1) hq (ex_5.trans (add_sub1 _ _))) dX12_lift_75 ?_
        have hFc := fr_all hD hS hA
        refine va_callv (va_runV (As := [.int 1, .int p0, .int (u.2 23 (x_5 : Int32).toNatClampNeg), .int (u.2 24 (x_5 : Int32).toNatClampNeg), .int (u.2 25 (x_5 : Int32).toNatClampNeg), .int (u.2 26 (x_5 : Int32).toNatClampNeg), .int (u.2 27 (x_5 : Int32).toNatClampNeg)]) (rest := []) ⟨hx, hb, hml, hown, hts⟩ (m_acts l dC dI h0 v cI cZ u 1 p0 (u.2 23 (x_5 : Int32).toNatClampNeg) (u.2 24 (x_5 : Int32).toNatClampNeg) (u.2 25 (x_5 : Int32).toNatClampNeg) (u.2 26 (x_5 : Int32).toNatClampNeg) (u.2 27 (x_5 : Int32).toNatClampNeg) (by subst_vars; exact v300 ha c_4) s.heap.size) (cwV 7 hts gX12_lift_X12_acts rfl rfl rfl (by decide +kernel) ⟨Nat.le_of_ble_eq_true rfl, Nat.le_of_ble_eq_true rfl⟩) ⟨gw_fb, va_recv hK hP (ci := 11) (q0 := 0) rfl rfl, fun U hU hW => ⟨rfl, by rw [hU], pw_to hU hW hP hK hN, hD.weaken (fun _ _ _ _ => trivial)⟩⟩ rfl rfl hl.1 rfl (lv_room (Nat.le_of_ble_eq_true rfl)) dX12_lift_76 ⟨Nat.le_of_ble_eq_true rfl, Nat.le_of_ble_eq_true rfl⟩) hS (fun q _ h => hFc q h) hFc (fun u_6 t H1 locs ht hvm hw hB hz1 hk1 hS => ?_)
        obtain ⟨hP, hD1⟩ := hB
        rw [ht] at hP
        have hD := hD1.weaken (fun _ q _ h => hFc q.1 h)
        generalize H1 = H at hP hS ⊢
        have eu_6 := hw
        refine lv_aload_n hx hb dX12_lift_79 rfl (lv_at hl 1 rfl) ?_
        refine lv_iload_n hx hb dX12_lift_80 rfl (lv_at hl 2 rfl) ?_
        have hFc := fr_all hD hS hA
        refine va_callv (va_runV (As := [.int p0]) (rest := []) ⟨hx, hb, hml, hown, hts⟩ (m_unstand l dC dI h0 v cI cZ u_6 p0 P X Y D N hPP hXW hYN (it79 hn b_1) (by rw [eu_6]; exact hq) (by rw [eu_6]; exact e23) (by rw [eu_6]; exact e24) (by rw [eu_6]; exact e25) (by rw [eu_6]; exact e26) (by rw [eu_6]; exact e27) H.size) (cwV 1 hts gX12_lift_X12_unstand rfl rfl rfl (by decide +kernel) ⟨Nat.le_of_ble_eq_true rfl, Nat.le_of_ble_eq_true rfl⟩) ⟨gw_fb, va_recv hK hP (ci := 11) (q0 := 0) rfl rfl, fun U hU hW => ⟨rfl, by rw [hU], pw_to hU hW hP hK hN, hD.weaken (fun _ _ _ _ => trivial)⟩⟩ rfl rfl hl.1 rfl (lv_room (Nat.le_of_ble_eq_true rfl)) dX12_lift_81 ⟨Nat.le_of_ble_eq_true rfl, Nat.le_of_ble_eq_true rfl⟩) hS (fun q _ h => hFc q h) hFc (fun u_7 t H1 locs ht hvm hw hB hz1 hk1 hS => ?_)
        obtain ⟨hP, hD1⟩ := hB
        rw [ht] at hP
        have hD := hD1.weaken (fun _ q _ h => hFc q.1 h)
        generalize H1 = H at hP hS ⊢
        have eu_7 := hw
        refine lv_aload_n hx hb dX12_lift_84 rfl (lv_at hl 1 rfl) ?_
        refine va_get (D := (dC, dI)) (ci := 11) (v := .ref (v 22)) (C := RX12) (T := TX12) (N := 52) hx hb hts (by decide +kernel) hown hK hP 0 rfl rfl 22 (by decide) (hts (.fieldLink RX12 74 "PageOneModel" "pieces" "[I") (by decide +kernel)) (fun _ h9 => h9) rfl dX12_lift_85 ?_
        refine lv_iload_n hx hb dX12_lift_88 rfl (lv_at hl 2 rfl) ?_
        refine va_iald hx hb hK hP 22 0 rfl rfl (vIt hn b_1) dX12_lift_89 ?_
        exact W.iret (v := (u_7.2 22 (p0 : Int32).toNatClampNeg)) hx hb hr (fun t ht hW => ⟨⟨(u_7.2 22 (p0 : Int32).toNatClampNeg), u_7, rfl, (by subst_vars; simp only [mLift, if_pos b_1, if_neg c_3, if_neg c_4]), by rw [ht]; exact hP, hD⟩, hS.F ht⟩) hS.2.2 dX12_lift_90
      ·
        refine lv_iconst (v := (-1)) hx hb dX12_lift_27 (by decide) ?_
        exact W.iret (v := (-1)) hx hb hr (fun t ht hW => ⟨⟨(-1), u, rfl, (by subst_vars; simp only [mLift, if_pos b_1, if_neg c_3, if_pos c_4]), by rw [ht]; exact hP, hD⟩, hS.F ht⟩) hS.2.2 dX12_lift_28
  ·
    obtain rfl : r = 0 := b_f hw b_1
    refine lv_if_eq (tgt := 27) hx hb dX12_lift_5 (by decide) (fun c_8 => ?_) (fun c_8 => absurd (by decide) c_8)
    refine lv_iconst (v := (-1)) hx hb dX12_lift_27 (by decide) ?_
    exact W.iret (v := (-1)) hx hb hr (fun t ht hW => ⟨⟨(-1), u, rfl, (by subst_vars; simp only [mLift, if_neg (bne b_1)]), by rw [ht]; exact hP, hD⟩, hS.F ht⟩) hS.2.2 dX12_lift_28
