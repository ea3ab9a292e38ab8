set_option maxHeartbeats 4000000 in
set_option maxRecDepth 100000 in
theorem m_ends_out {p : Program} {l : Launch} {e : Env} {R : Room} {s : State} {m : MethodId} {args : Array Value} {below : List Frame} {meth : Method} {c : Code} {Q : State → Prop} {cells slots : Nat} {dC : Nat → ClassId} {dI : Nat → Nat → Nat} {h0 : Nat} {v : Nat → Nat} {cI cZ : ClassId} {u0 : mS} {K : Nat} (hK8 : K ≤ 80) (eK : u0.1 3 = nI K) (hd : bw (u0.1 38) 0 399 = true) {A : Nat → Prop} {H0 : Heap} (hx : p.tables.exec = Jvm.exec) (hb : c.code = cX12_ends) (hml : c.maxLocals = 3) (hts : ∀ w ∈ wsX12_ends, w.before args s = true) (hown : s.vm.findClass RX12 = some m.cls) (hN : NN s) (hK : va_K (dC, dI) vwCl [(cI, .int), (cZ, .boolean)] s) (hRf : 1 ≤ R.frames) (hRl : 21 ≤ R.locals) (hRc : cells ≤ R.cells) (hRs : slots ≤ R.slots) (hA : ∀ q : Nat, H0.size ≤ q → A q) (kx : ∀ (u : mS) (H : Heap) (locs : List Loc) (ls : Array Slot), u = endP u0 12 → va_P (dC, dI) vwCl (mW h0 v cI cZ u) H → va_D A (mW h0 v cI cZ u) → va_S A H0 H locs → lv_has ls 3 [(1, .int (nI 12)), (0, .ref h0)] → W p l e R s m args below meth c H locs cells slots Q (F0 m 160 ls [])) : ∀ (k i : Nat) (u : mS) (H : Heap) (locs : List Loc) (ls : Array Slot), i ≤ 12 → 12 - i < k → u = endP u0 i → va_P (dC, dI) vwCl (mW h0 v cI cZ u) H → va_D A (mW h0 v cI cZ u) → va_S A H0 H locs → lv_has ls 3 [(1, .int (nI i)), (0, .ref h0)] → W p l e R s m args below meth c H locs cells slots Q (F0 m 2 ls []) := by
  intro k
  induction k with
  | zero => intro i u H locs ls h1 h2; exact absurd h2 (Nat.not_lt_zero _)
  | succ k ih =>
    intro i u H locs ls hi hk hg hP hD hS hl
    refine lv_iload_n hx hb dX12_ends_2 rfl (lv_at hl 0 rfl) ?_
    refine lv_bipush (v := 12) hx hb dX12_ends_3 (by decide) ?_
    refine lv_icmp_ge (tgt := 160) hx hb dX12_ends_5 (by decide) (fun c_1 => ?_) (fun c_1 => ?_)
    ·
      have hie : i = 12 := lp_eq rfl (by decide) hi c_1
      subst hie
      exact kx _ _ _ ls hg hP hD hS (lv_sub hl [0, 1] rfl)
    ·
      have hlt : i < 12 := lp_lt rfl (by decide) hi c_1
      refine lv_iconst (v := 0) hx hb dX12_ends_8 (by decide) ?_
      refine lv_istore_n (lv' := [(2, .int 0), (1, .int (nI i)), (0, .ref h0)]) hx hb dX12_ends_9 rfl hl (by decide) rfl (fun ls hl => ?_)
      rcases Bool.eq_false_or_eq_true (mNow u (nI i)) with hb9 | hb9
      ·
        refine m_ends_in (u0 := u) (P := i) (K := K) hlt hK8 (by rw [hg, (endP_k u0 i).1]; exact eK) (by rw [hg, (endP_k u0 i).1]; exact hd) hb9 hx hb hml hts hown hN hK hRf hRl hRc hRs hA (fun u2 H locs ls hg2 hP hD hS hl => ?_) (K + 1) 0 u _ _ ls (Nat.zero_le _) (by omega) rfl hP hD hS (lv_sub hl [0, 1, 2] rfl)
        refine lv_iinc (v := (nI (i + 1))) (lv' := [(1, .int (nI (i + 1))), (2, .int (nI K)), (0, .ref h0)]) hx hb dX12_ends_154 hl (k := 1) rfl (nI_1 i) (by decide) rfl (fun ls hl => ?_)
        refine lv_goto (tgt := 2) hx hb dX12_ends_157 (by decide) ?_
        exact ih (i + 1) _ _ _ ls (by omega) (by omega) (by unfold endP; rw [← hg, if_pos hb9, eK, nI_clamp (by omega)]; exact hg2) hP hD hS (lv_sub hl [0, 2] rfl)
      ·
        refine lv_iload_n hx hb dX12_ends_10 rfl (lv_at hl 0 rfl) ?_
        refine lv_aload_n hx hb dX12_ends_11 rfl (lv_at hl 2 rfl) ?_
        refine va_get (D := (dC, dI)) (ci := 11) (v := .int (u.1 3)) (C := RX12) (T := TX12) (N := 52) hx hb hts (by decide +kernel) hown hK hP 0 rfl rfl 3 (by decide) (hts (.fieldLink RX12 147 "PageOneModel" "items" "I") (by decide +kernel)) (fun _ h9 => h9) rfl dX12_ends_12 ?_
        refine lv_icmp_ge (tgt := 154) hx hb dX12_ends_15 (by decide) (fun c_2 => ?_) (fun c_2 => ?_)
        ·
          refine lv_iinc (v := (nI (i + 1))) (lv' := [(1, .int (nI (i + 1))), (2, .int 0), (0, .ref h0)]) hx hb dX12_ends_154 hl (k := 1) rfl (nI_1 i) (by decide) rfl (fun ls hl => ?_)
          refine lv_goto (tgt := 2) hx hb dX12_ends_157 (by decide) ?_
          exact ih (i + 1) _ _ _ ls (by omega) (by omega) (by unfold endP; rw [← hg, if_neg (bne hb9)]) hP hD hS (lv_sub hl [0, 2] rfl)
        ·
          refine lv_aload_n hx hb dX12_ends_18 rfl (lv_at hl 2 rfl) ?_
          refine lv_iload_n hx hb dX12_ends_19 rfl (lv_at hl 1 rfl) ?_
          refine vp_callSi (va_runV (As := [.int (nI i)]) (rest := []) ⟨hx, hb, hml, hown, hts⟩ (m_isNow l dC dI h0 v cI cZ u (nI i) (bwN (by have h11 : (11 : Int32).toInt = 11 := rfl; rw [h11]; omega) (by omega))) (cwV 1 hts gX12_ends_X12_isNow rfl rfl rfl (by decide +kernel) ⟨hRf, hRl⟩) ⟨pw_fb, va_recv hK hP (ci := 11) (q0 := 0) rfl rfl, fun U hU hW => ⟨rfl, pw_to hU hW hP hK hN⟩⟩ rfl rfl hl.1 rfl (lv_room (Nat.le_of_ble_eq_true rfl)) dX12_ends_20 ⟨hRc, hRs⟩).run (fun r hw => ?_)
          obtain rfl : r = 0 := b_f hw hb9
          refine lv_if_eq (tgt := 154) hx hb dX12_ends_23 (by decide) (fun c_3 => ?_) (fun c_3 => absurd (by decide) c_3)
          refine lv_iinc (v := (nI (i + 1))) (lv' := [(1, .int (nI (i + 1))), (2, .int 0), (0, .ref h0)]) hx hb dX12_ends_154 hl (k := 1) rfl (nI_1 i) (by decide) rfl (fun ls hl => ?_)
          refine lv_goto (tgt := 2) hx hb dX12_ends_157 (by decide) ?_
          exact ih (i + 1) _ _ _ ls (by omega) (by omega) (by unfold endP; rw [← hg, if_neg (bne hb9)]) hP hD hS (lv_sub hl [0, 2] rfl)
set_option maxHeartbeats 4000000 in
set_option maxRecDepth 100000 in
theorem m_ends (l : Launch) (dC : Nat → ClassId) (dI : Nat → Nat → Nat) (h0 : Nat) (v : Nat → Nat) (cI cZ : ClassId) (u : mS) (hn : bw (u.1 3) 0 80 = true) (hd : bw (u.1 38) 0 399 = true) (sz : Nat) : Met l yX12_ends wsX12_ends ({ frames := 1, cells := 0, slots := 0, locals := 21 }) (va_Pc [.ref h0] (fun U => U.heap.size = sz ∧ PW dC dI (mW h0 v cI cZ u) [(cI, .int), (cZ, .boolean)] U ∧ va_D (fun _ => True) (mW h0 v cI cZ u))) (va_Qv (fun u9 : mS => u9 = endP u 12) (fun u9 t => va_P (dC, dI) vwCl (mW h0 v cI cZ u9) t.heap ∧ va_D (va_A (mW h0 v cI cZ u) sz) (mW h0 v cI cZ u9)) (va_A (mW h0 v cI cZ u) sz)) 0 0 (va_A (mW h0 v cI cZ u) sz) := by
  refine Met.ofW (cc := cX12_ends) (maxL := 3) (ret := none) (by decide) rfl ?_
  intro p e s m args below meth c s₁ B hml hv
  obtain ⟨rfl, hsz, ⟨hP, hK, hN⟩, hD0⟩ := hv
  have hx := B.exec
  have hb := B.bytes
  have hr := B.returns
  have hts := atoms_spec (ws := wsX12_ends) B.pre
  have hown : s.vm.findClass RX12 = some m.cls := findClass_of_methodNamed B.named
  have hlocks := B.notSynchronized
  subst hsz
  have hD := hD0.self (sz := s.heap.size)
  generalize hAe : va_A (mW h0 v cI cZ u) s.heap.size = A at hD ⊢
  have hA : ∀ q : Nat, s.heap.size ≤ q → A q := fun q h => by rw [← hAe]; exact Or.inr h
  have hS : va_S A s.heap s.heap [] := va_S.rf
  have hl := lv_entry ([.ref h0]) (n := 3) (Nat.le_of_ble_eq_true rfl)
  rw [lg_entry_eq]
  generalize (lg_sl ([.ref h0]) ++ List.replicate (3 - (lg_sl ([.ref h0])).length) Slot.unset).toArray = ls at hl ⊢
  have hl : lv_has ls 3 [(0, .ref h0)] := hl
  refine lv_iconst (v := 0) hx hb dX12_ends_0 (by decide) ?_
  refine lv_istore_n (lv' := [(1, .int 0), (0, .ref h0)]) hx hb dX12_ends_1 rfl hl (by decide) rfl (fun ls hl => ?_)
  obtain ⟨eK, eK2, eK3⟩ := nI_of_bw hn
  have h80 : (80 : Int32).toInt = 80 := rfl
  refine m_ends_out (u0 := u) (K := (u.1 3).toNatClampNeg) (by omega) eK hd hx hb hml hts hown hN hK (Nat.le_of_ble_eq_true rfl) (Nat.le_of_ble_eq_true rfl) (Nat.le_of_ble_eq_true rfl) (Nat.le_of_ble_eq_true rfl) hA (fun u2 H locs ls hg hP hD hS hl => ?_) 13 0 u _ _ ls (by decide) (by decide) rfl hP hD hS (lv_sub hl [0, 1] rfl)
  exact W.vret hx hb hr (fun t ht hW => ⟨⟨u2, rfl, hg, by rw [ht]; exact hP, hD⟩, hS.F ht⟩) hS.2.2 dX12_ends_160
