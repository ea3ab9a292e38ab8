theorem vin60 {a b n : Int32} (ha : bw a 0 7 = true) (hn : bw n 0 60 = true) (hb : bw b 0 (n - 1) = true) : vp_in (a * 60 + b) 480 := by
  have h60 : (60 : Int32).toInt = 60 := rfl
  have h7 : (7 : Int32).toInt = 7 := rfl
  have h1 := bw_iff.mp ha
  have h2 := bw_iff.mp hn
  have h3 := bw_iff.mp hb
  rw [i0, h7] at h1
  rw [i0, h60] at h2
  rw [i0, subI (by rw [i1]; omega) (by rw [i1]; omega), i1] at h3
  have e1 : (a * 60).toInt = a.toInt * 60 := by rw [mulI (by rw [h60]; omega) (by rw [h60]; omega), h60]
  rw [vp_in_iff, addI (by rw [e1]; omega) (by rw [e1]; omega), e1]; omega
theorem b59 {b n : Int32} (hn : bw n 0 60 = true) (hb : bw b 0 (n - 1) = true) : bw b 0 59 = true := by
  have h60 : (60 : Int32).toInt = 60 := rfl
  have h59 : (59 : Int32).toInt = 59 := rfl
  have h2 := bw_iff.mp hn
  have h3 := bw_iff.mp hb
  rw [i0, h60] at h2
  rw [i0, subI (by rw [i1]; omega) (by rw [i1]; omega), i1] at h3
  rw [bw_iff, i0, h59]; omega
theorem vin59 {a b : Int32} (ha : bw a 0 7 = true) (hb : bw b 0 59 = true) : vp_in (a * 60 + b) 480 := by
  have h60 : (60 : Int32).toInt = 60 := rfl
  have h59 : (59 : Int32).toInt = 59 := rfl
  have h7 : (7 : Int32).toInt = 7 := rfl
  have h1 := bw_iff.mp ha
  have h3 := bw_iff.mp hb
  rw [i0, h7] at h1
  rw [i0, h59] at h3
  have e1 : (a * 60).toInt = a.toInt * 60 := by rw [mulI (by rw [h60]; omega) (by rw [h60]; omega), h60]
  rw [vp_in_iff, addI (by rw [e1]; omega) (by rw [e1]; omega), e1]; omega
set_option maxHeartbeats 4000000 in
set_option maxRecDepth 100000 in
theorem x_at (l : Launch) (dC : Nat → ClassId) (dI : Nat → Nat → Nat) (q : Nat → ClassId) (h0 : Nat) (d : Nat → Nat) (k : Nat → Int32) (z : gS) (f : xF) (hI : xI q h0 d k z f) (a0 : Nat) (p0 p1 : Int32) (ha0 : tg z a0 7) : Met l yX9_at wsX9_at ({ frames := 2, cells := 0, slots := 0, locals := 42 }) (va_Pc [.ref a0, .int p0, .int p1] (PX dC dI (va_pl z.1 f) (xT q))) (vp_Si (fun r => r = -1 ∨ (bw p0 0 7 = true ∧ bw p1 0 59 = true))) 0 0 (fun _ => False) := by
  refine Met.ofW (cc := cX9_at) (maxL := 3) (ret := (some .int)) (by decide) rfl ?_
  intro p e s m args below meth c s₁ B hml hv
  obtain ⟨rfl, ⟨hP, hK, hN⟩, hXN⟩ := hv
  have hx := B.exec
  have hb := B.bytes
  have hr := B.returns
  have hts := atoms_spec (ws := wsX9_at) B.pre
  have hown : s.vm.findClass RX9 = some m.cls := findClass_of_methodNamed B.named
  have hlocks := B.notSynchronized
  have hl := lv_entry ([.ref a0, .int p0, .int p1]) (n := 3) (Nat.le_of_ble_eq_true rfl)
  rw [lg_entry_eq]
  generalize (lg_sl ([.ref a0, .int p0, .int p1]) ++ List.replicate (3 - (lg_sl ([.ref a0, .int p0, .int p1])).length) Slot.unset).toArray = ls at hl ⊢
  have hl : lv_has ls 3 [(0, .ref a0), (1, .int p0), (2, .int p1)] := hl
  refine lv_iload_n hx hb dX9_at_0 rfl (lv_at hl 1 rfl) ?_
  refine vp_callSi (va_runSN (As := [.int p0]) (rest := []) ⟨hx, hb, hml, hown, hts⟩ (x_isColumn l dC dI p0) ⟨va_cnB (host := "PageOne") 1 hts gX9_at_X11_isColumn_n34 rfl rfl rfl hN.n_RX9_34 (hts (.initialized RX11) (by decide +kernel)) (by decide +kernel) ⟨Nat.le_of_ble_eq_true rfl, Nat.le_of_ble_eq_true rfl⟩, hts (.static yX11_isColumn) (by decide +kernel), trivial⟩ ⟨pw_fb, fun U hU hW => ⟨rfl, pw_to hU hW (hP.sub (ws' := []) [] rfl) (hK.sub (tys' := []) [] rfl) hN⟩⟩ rfl rfl hl.1 rfl (lv_room (Nat.le_of_ble_eq_true rfl)) dX9_at_1 ⟨Nat.le_of_ble_eq_true rfl, Nat.le_of_ble_eq_true rfl⟩).run (fun r hw => ?_)
  rcases Bool.eq_false_or_eq_true (bw p0 0 7) with b_1 | b_1
  ·
    obtain rfl : r = 1 := b_t hw b_1
    refine lv_if_eq (tgt := 23) hx hb dX9_at_4 (by decide) (fun c_2 => absurd c_2 (by decide)) (fun c_2 => ?_)
    refine lv_iload_n hx hb dX9_at_7 rfl (lv_at hl 2 rfl) ?_
    refine lv_iconst (v := 0) hx hb dX9_at_8 (by decide) ?_
    refine lv_aload_n hx hb dX9_at_9 rfl (lv_at hl 0 rfl) ?_
    obtain ⟨la_3, ca_4, m_5, dd_6, ii_7, hs_8, ht_9, ht_10⟩ := x_sh hI ha0
    obtain ⟨kk_11, hk_12⟩ := pl_at ha0.1 hs_8
    refine va_get (D := (dC, dI)) (ci := 8) (v := .ref la_3) (C := RX9) (T := TX9) (N := 5) hx hb hts (by decide +kernel) hown hK hP kk_11 hk_12 rfl 0 (by decide) (hts (.fieldLink RX9 9 "PageOne$Sheet" "lines" "[I") (by decide +kernel)) (fun _ h9 => h9) rfl dX9_at_10 ?_
    refine lv_iload_n hx hb dX9_at_13 rfl (lv_at hl 1 rfl) ?_
    obtain ⟨g_13, hs_14, hg_15⟩ := x_ln hI ht_9
    obtain ⟨kk_16, hk_17⟩ := pl_at ht_9.1 hs_14
    refine va_iald hx hb hK hP kk_16 0 hk_17 rfl (vin b_1 (by decide)) dX9_at_14 ?_
    refine lv_iconst (v := 1) hx hb dX9_at_15 (by decide) ?_
    refine lv_isub hx hb dX9_at_16 ?_
    refine vp_callSi (va_runSN (As := [.int p1, .int 0, .int ((g_13 (p0 : Int32).toNatClampNeg) - 1)]) (rest := []) ⟨hx, hb, hml, hown, hts⟩ (x_isWithin l dC dI p1 0 ((g_13 (p0 : Int32).toNatClampNeg) - 1)) ⟨va_cnB (host := "PageOne") 3 hts gX9_at_X11_isWithin_n38 rfl rfl rfl hN.n_RX9_38 (hts (.initialized RX11) (by decide +kernel)) (by decide +kernel) ⟨Nat.le_of_ble_eq_true rfl, Nat.le_of_ble_eq_true rfl⟩, hts (.static yX11_isWithin) (by decide +kernel), trivial⟩ ⟨pw_fb, fun U hU hW => ⟨rfl, pw_to hU hW (hP.sub (ws' := []) [] rfl) (hK.sub (tys' := []) [] rfl) hN⟩⟩ rfl rfl hl.1 rfl (lv_room (Nat.le_of_ble_eq_true rfl)) dX9_at_17 ⟨Nat.le_of_ble_eq_true rfl, Nat.le_of_ble_eq_true rfl⟩).run (fun r hw => ?_)
    rcases Bool.eq_false_or_eq_true (bw p1 0 ((g_13 (p0 : Int32).toNatClampNeg) - 1)) with b_18 | b_18
    ·
      obtain rfl : r = 1 := b_t hw b_18
      refine lv_if_ne (tgt := 25) hx hb dX9_at_20 (by decide) (fun c_19 => ?_) (fun c_19 => absurd c_19 (by decide))
      refine lv_aload_n hx hb dX9_at_25 rfl (lv_at hl 0 rfl) ?_
      obtain ⟨kk_20, hk_21⟩ := pl_at ha0.1 hs_8
      refine va_get (D := (dC, dI)) (ci := 8) (v := .ref ca_4) (C := RX9) (T := TX9) (N := 5) hx hb hts (by decide +kernel) hown hK hP kk_20 hk_21 rfl 1 (by decide) (hts (.fieldLink RX9 15 "PageOne$Sheet" "cells" "[I") (by decide +kernel)) (fun _ h9 => h9) rfl dX9_at_26 ?_
      refine lv_iload_n hx hb dX9_at_29 rfl (lv_at hl 1 rfl) ?_
      refine lv_bipush (v := 60) hx hb dX9_at_30 (by decide) ?_
      refine lv_imul hx hb dX9_at_32 ?_
      refine lv_iload_n hx hb dX9_at_33 rfl (lv_at hl 2 rfl) ?_
      refine lv_iadd hx hb dX9_at_34 ?_
      obtain ⟨g_22, hs_23⟩ := x_ce hI ht_10
      obtain ⟨kk_24, hk_25⟩ := pl_at ht_10.1 hs_23
      refine va_iald hx hb hK hP kk_24 0 hk_25 rfl (vin60 b_1 (hg_15 _ (vlt (vin b_1 (by decide)))) b_18) dX9_at_35 ?_
      exact W.iret (v := (g_22 (((p0 * 60) + p1) : Int32).toNatClampNeg)) hx hb hr (fun t ht hW => ⟨_, rfl, (Or.inr ⟨b_1, b59 (hg_15 _ (vlt (vin b_1 (by decide)))) b_18⟩), ht⟩) (fun q h => absurd h List.not_mem_nil) dX9_at_36
    ·
      obtain rfl : r = 0 := b_f hw b_18
      refine lv_if_ne (tgt := 25) hx hb dX9_at_20 (by decide) (fun c_26 => absurd (by decide) c_26) (fun c_26 => ?_)
      refine lv_iconst (v := (-1)) hx hb dX9_at_23 (by decide) ?_
      exact W.iret (v := (-1)) hx hb hr (fun t ht hW => ⟨_, rfl, (Or.inl rfl), ht⟩) (fun q h => absurd h List.not_mem_nil) dX9_at_24
  ·
    obtain rfl : r = 0 := b_f hw b_1
    refine lv_if_eq (tgt := 23) hx hb dX9_at_4 (by decide) (fun c_27 => ?_) (fun c_27 => absurd (by decide) c_27)
    refine lv_iconst (v := (-1)) hx hb dX9_at_23 (by decide) ?_
    exact W.iret (v := (-1)) hx hb hr (fun t ht hW => ⟨_, rfl, (Or.inl rfl), ht⟩) (fun q h => absurd h List.not_mem_nil) dX9_at_24
set_option maxHeartbeats 4000000 in
set_option maxRecDepth 100000 in
theorem x_emptyIn_l {p : Program} {l : Launch} {e : Env} {R : Room} {s : State} {m : MethodId} {args : Array Value} {below : List Frame} {meth : Method} {c : Code} {Q : State → Prop} {cells slots : Nat} {dC : Nat → ClassId} {dI : Nat → Nat → Nat} {q : Nat → ClassId} {h0 : Nat} {d : Nat → Nat} {k : Nat → Int32} {z : gS} {f : xF} {H : Heap} {locs : List Loc} (hI : xI q h0 d k z f) (hx : p.tables.exec = Jvm.exec) (hb : c.code = cX9_emptyIn) (hml : c.maxLocals = 4) (hts : ∀ w ∈ wsX9_emptyIn, w.before args s = true) (hown : s.vm.findClass RX9 = some m.cls) (hN : NN s) (hXN : XN s) (hK : va_K (dC, dI) vwCl (xT q) s) (hRf : 3 ≤ R.frames) (hRl : 64 ≤ R.locals) (hRc : cells ≤ R.cells) (hRs : slots ≤ R.slots) (hP : va_P (dC, dI) vwCl (va_pl z.1 f) H) {a0 la ca : Nat} {m9 d9 i9 : Int32} {g9 : Nat → Int32} (ha0 : tg z a0 7) (hs9 : f a0 = .inr (8, [.ref la, .ref ca, .int m9, .int d9, .int i9])) (hla : tg z la 8) (hca : tg z ca 9) (hg9 : f la = aI (q 0) 8 g9) (hgb : ∀ j, j < 8 → bw (g9 j) 0 60 = true) {p0 : Int32} {K : Nat} (hp : bw p0 0 7 = true) (eK : g9 p0.toNatClampNeg = nI K) (hK6 : K ≤ 60) (kx34 : ∀ (a9 : Int32) (ls : Array Slot), lv_has ls 4 [(2, .int a9), (0, .ref a0), (1, .int p0)] → W p l e R s m args below meth c H locs cells slots Q (F0 m 34 ls [])) : ∀ (kk i : Nat) (a : Int32) (ls : Array Slot), i ≤ K → K - i < kk → lv_has ls 4 [(3, .int (nI i)), (2, .int a), (0, .ref a0), (1, .int p0)] → W p l e R s m args below meth c H locs cells slots Q (F0 m 4 ls []) := by
  intro kk
  induction kk with
  | zero => intro i a ls h1 h2; exact absurd h2 (Nat.not_lt_zero _)
  | succ kk ih =>
    intro i a ls hi hkk hl
    refine lv_iload_n hx hb dX9_emptyIn_4 rfl (lv_at hl 0 rfl) ?_
    refine lv_aload_n hx hb dX9_emptyIn_5 rfl (lv_at hl 2 rfl) ?_
    obtain ⟨kk_1, hk_2⟩ := pl_at ha0.1 hs9
    refine va_get (D := (dC, dI)) (ci := 8) (v := .ref la) (C := RX9) (T := TX9) (N := 5) hx hb hts (by decide +kernel) hown hK hP kk_1 hk_2 rfl 0 (by decide) (hts (.fieldLink RX9 9 "PageOne$Sheet" "lines" "[I") (by decide +kernel)) (fun _ h9 => h9) rfl dX9_emptyIn_6 ?_
    refine lv_iload_n hx hb dX9_emptyIn_9 rfl (lv_at hl 3 rfl) ?_
    obtain ⟨kk_3, hk_4⟩ := pl_at hla.1 hg9
    refine va_iald hx hb hK hP kk_3 0 hk_4 rfl (vin hp (by decide)) dX9_emptyIn_10 ?_
    refine lv_topi (fun y_5 ey_5 => ?_)
    obtain rfl : y_5 = (nI K) := ey_5.trans (eK)
    refine lv_icmp_ge (tgt := 34) hx hb dX9_emptyIn_11 (by decide) (fun c_6 => ?_) (fun c_6 => ?_)
    ·
      have hie : i = K := lp_eq rfl (by omega) hi c_6
      exact kx34 _ ls (lv_sub hl [1, 2, 3] rfl)
    ·
      have hlt : i < K := lp_lt rfl (by omega) hi c_6
      refine lv_aload_n hx hb dX9_emptyIn_14 rfl (lv_at hl 2 rfl) ?_
      refine lv_iload_n hx hb dX9_emptyIn_15 rfl (lv_at hl 3 rfl) ?_
      refine lv_iload_n hx hb dX9_emptyIn_16 rfl (lv_at hl 0 rfl) ?_
      obtain ⟨kk_7, hk_8⟩ := pl_at ha0.1 hs9
      refine vp_callSi (va_runV (As := [.int p0, .int (nI i)]) (rest := []) ⟨hx, hb, hml, hown, hts⟩ (x_at l dC dI q h0 d k z f hI a0 p0 (nI i) ha0) (cwV 2 hts gX9_emptyIn_X9_at rfl rfl rfl (by decide +kernel) ⟨Nat.le_trans (Nat.le_of_ble_eq_true rfl) hRf, Nat.le_trans (Nat.le_of_ble_eq_true rfl) hRl⟩) ⟨px_fb, va_recv hK hP (ci := 8) (q0 := kk_7) rfl hk_8, fun U hU hW => ⟨rfl, px_to hU hW hP hK hN hXN⟩⟩ rfl rfl hl.1 rfl (lv_room (Nat.le_of_ble_eq_true rfl)) dX9_emptyIn_17 ⟨hRc, hRs⟩).run (fun r hw => ?_)
      generalize r = zr_9 at hw ⊢
      have hzr_9 := hw
      refine lv_bipush (v := (-2)) hx hb dX9_emptyIn_20 (by decide) ?_
      refine lv_icmp_ne (tgt := 28) hx hb dX9_emptyIn_22 (by decide) (fun c_10 => ?_) (fun c_10 => ?_)
      ·
        refine lv_iinc (v := (nI (i + 1))) (lv' := [(3, .int (nI (i + 1))), (2, .int a), (0, .ref a0), (1, .int p0)]) hx hb dX9_emptyIn_28 hl (k := 0) rfl (nI_1 i) (by decide) rfl (fun ls hl => ?_)
        refine lv_goto (tgt := 4) hx hb dX9_emptyIn_31 (by decide) ?_
        exact ih (i + 1) _ ls (by omega) (by omega) (lv_sub hl [0, 1, 2, 3] rfl)
      ·
        obtain ⟨x_11, ex_11⟩ : ∃ y : Int32, y = a + 1 := ⟨_, rfl⟩
        refine lv_iinc (v := x_11) (lv' := [(2, .int x_11), (3, .int (nI i)), (0, .ref a0), (1, .int p0)]) hx hb dX9_emptyIn_25 hl (k := 1) rfl (by rw [ex_11]; rfl) (by decide) rfl (fun ls hl => ?_)
        refine lv_iinc (v := (nI (i + 1))) (lv' := [(3, .int (nI (i + 1))), (2, .int x_11), (0, .ref a0), (1, .int p0)]) hx hb dX9_emptyIn_28 hl (k := 1) rfl (nI_1 i) (by decide) rfl (fun ls hl => ?_)
        refine lv_goto (tgt := 4) hx hb dX9_emptyIn_31 (by decide) ?_
        exact ih (i + 1) _ ls (by omega) (by omega) (lv_sub hl [0, 1, 2, 3] rfl)
set_option maxHeartbeats 4000000 in
set_option maxRecDepth 100000 in
theorem x_emptyIn (l : Launch) (dC : Nat → ClassId) (dI : Nat → Nat → Nat) (q : Nat → ClassId) (h0 : Nat) (d : Nat → Nat) (k : Nat → Int32) (z : gS) (f : xF) (hI : xI q h0 d k z f) (a0 : Nat) (p0 : Int32) (ha0 : tg z a0 7) (hp : bw p0 0 7 = true) : Met l yX9_emptyIn wsX9_emptyIn ({ frames := 3, cells := 0, slots := 0, locals := 64 }) (va_Pc [.ref a0, .int p0] (PX dC dI (va_pl z.1 f) (xT q))) (vp_Si (fun r => True)) 0 0 (fun _ => False) := by
  refine Met.ofW (cc := cX9_emptyIn) (maxL := 4) (ret := (some .int)) (by decide) rfl ?_
  intro p e s m args below meth c s₁ B hml hv
  obtain ⟨rfl, ⟨hP, hK, hN⟩, hXN⟩ := hv
  have hx := B.exec
  have hb := B.bytes
  have hr := B.returns
  have hts := atoms_spec (ws := wsX9_emptyIn) B.pre
  have hown : s.vm.findClass RX9 = some m.cls := findClass_of_methodNamed B.named
  have hlocks := B.notSynchronized
  have hl := lv_entry ([.ref a0, .int p0]) (n := 4) (Nat.le_of_ble_eq_true rfl)
  rw [lg_entry_eq]
  generalize (lg_sl ([.ref a0, .int p0]) ++ List.replicate (4 - (lg_sl ([.ref a0, .int p0])).length) Slot.unset).toArray = ls at hl ⊢
  have hl : lv_has ls 4 [(0, .ref a0), (1, .int p0)] := hl
  refine lv_iconst (v := 0) hx hb dX9_emptyIn_0 (by decide) ?_
  refine lv_istore_n (lv' := [(2, .int 0), (0, .ref a0), (1, .int p0)]) hx hb dX9_emptyIn_1 rfl hl (by decide) rfl (fun ls hl => ?_)
  refine lv_iconst (v := 0) hx hb dX9_emptyIn_2 (by decide) ?_
  refine lv_istore_n (lv' := [(3, .int 0), (2, .int 0), (0, .ref a0), (1, .int p0)]) hx hb dX9_emptyIn_3 rfl hl (by decide) rfl (fun ls hl => ?_)
  obtain ⟨la_1, ca_2, m_3, dd_4, ii_5, hs_6, ht_7, ht_8⟩ := x_sh hI ha0
  obtain ⟨g_9, hs_10, hg_11⟩ := x_ln hI ht_7
  obtain ⟨eK, eK2, eK3⟩ := nI_of_bw (hg_11 _ (vlt (vin hp (by decide))))
  have h60 : (60 : Int32).toInt = 60 := rfl
  refine x_emptyIn_l hI hx hb hml hts hown hN hXN hK (Nat.le_of_ble_eq_true rfl) (Nat.le_of_ble_eq_true rfl) (Nat.le_of_ble_eq_true rfl) (Nat.le_of_ble_eq_true rfl) hP ha0 hs_6 ht_7 ht_8 hs_10 hg_11 hp eK (by omega) (fun a9 ls hl => ?_) _ 0 0 ls (Nat.zero_le _) (Nat.lt_succ_self _) (lv_sub hl [0, 1, 2, 3] rfl)
  refine lv_iload_n hx hb dX9_emptyIn_34 rfl (lv_at hl 0 rfl) ?_
  exact W.iret (v := a9) hx hb hr (fun t ht hW => ⟨_, rfl, trivial, ht⟩) (fun q h => absurd h List.not_mem_nil) dX9_emptyIn_35
set_option maxHeartbeats 4000000 in
set_option maxRecDepth 100000 in
theorem x_emptyCount_l {p : Program} {l : Launch} {e : Env} {R : Room} {s : State} {m : MethodId} {args : Array Value} {below : List Frame} {meth : Method} {c : Code} {Q : State → Prop} {cells slots : Nat} {dC : Nat → ClassId} {dI : Nat → Nat → Nat} {q : Nat → ClassId} {h0 : Nat} {d : Nat → Nat} {k : Nat → Int32} {z : gS} {f : xF} {H : Heap} {locs : List Loc} (hI : xI q h0 d k z f) (hx : p.tables.exec = Jvm.exec) (hb : c.code = cX9_emptyCount) (hml : c.maxLocals = 3) (hts : ∀ w ∈ wsX9_emptyCount, w.before args s = true) (hown : s.vm.findClass RX9 = some m.cls) (hN : NN s) (hXN : XN s) (hK : va_K (dC, dI) vwCl (xT q) s) (hRf : 4 ≤ R.frames) (hRl : 87 ≤ R.locals) (hRc : cells ≤ R.cells) (hRs : slots ≤ R.slots) (hP : va_P (dC, dI) vwCl (va_pl z.1 f) H) {a0 : Nat} (ha0 : tg z a0 7) (kx24 : ∀ (a9 : Int32) (ls : Array Slot), lv_has ls 3 [(1, .int a9), (0, .ref a0)] → W p l e R s m args below meth c H locs cells slots Q (F0 m 24 ls [])) : ∀ (kk i : Nat) (a : Int32) (ls : Array Slot), i ≤ 8 → 8 - i < kk → lv_has ls 3 [(2, .int (nI i)), (1, .int a), (0, .ref a0)] → W p l e R s m args below meth c H locs cells slots Q (F0 m 4 ls []) := by
  intro kk
  induction kk with
  | zero => intro i a ls h1 h2; exact absurd h2 (Nat.not_lt_zero _)
  | succ kk ih =>
    intro i a ls hi hkk hl
    refine lv_iload_n hx hb dX9_emptyCount_4 rfl (lv_at hl 0 rfl) ?_
    refine lv_bipush (v := 8) hx hb dX9_emptyCount_5 (by decide) ?_
    refine lv_icmp_ge (tgt := 24) hx hb dX9_emptyCount_7 (by decide) (fun c_1 => ?_) (fun c_1 => ?_)
    ·
      have hie : i = 8 := lp_eq rfl (by decide) hi c_1
      exact kx24 _ ls (lv_sub hl [1, 2] rfl)
    ·
      have hlt : i < 8 := lp_lt rfl (by decide) hi c_1
      refine lv_iload_n hx hb dX9_emptyCount_10 rfl (lv_at hl 1 rfl) ?_
      refine lv_aload_n hx hb dX9_emptyCount_11 rfl (lv_at hl 2 rfl) ?_
      refine lv_iload_n hx hb dX9_emptyCount_12 rfl (lv_at hl 0 rfl) ?_
      obtain ⟨la_2, ca_3, m_4, dd_5, ii_6, hs_7, ht_8, ht_9⟩ := x_sh hI ha0
      obtain ⟨kk_10, hk_11⟩ := pl_at ha0.1 hs_7
      refine vp_callSi (va_runV (As := [.int (nI i)]) (rest := [.int a]) ⟨hx, hb, hml, hown, hts⟩ (x_emptyIn l dC dI q h0 d k z f hI a0 (nI i) ha0 (bw7 hlt)) (cwV 1 hts gX9_emptyCount_X9_emptyIn rfl rfl rfl (by decide +kernel) ⟨Nat.le_trans (Nat.le_of_ble_eq_true rfl) hRf, Nat.le_trans (Nat.le_of_ble_eq_true rfl) hRl⟩) ⟨px_fb, va_recv hK hP (ci := 8) (q0 := kk_10) rfl hk_11, fun U hU hW => ⟨rfl, px_to hU hW hP hK hN hXN⟩⟩ rfl rfl hl.1 rfl (lv_room (Nat.le_of_ble_eq_true rfl)) dX9_emptyCount_13 ⟨hRc, hRs⟩).run (fun r hw => ?_)
      generalize r = zr_12 at hw ⊢
      have hzr_12 := hw
      refine lv_iadd hx hb dX9_emptyCount_16 ?_
      refine lv_topi (fun x_13 ex_13 => ?_)
      refine lv_istore_n (lv' := [(1, .int x_13), (2, .int (nI i)), (0, .ref a0)]) hx hb dX9_emptyCount_17 rfl hl (by decide) rfl (fun ls hl => ?_)
      refine lv_iinc (v := (nI (i + 1))) (lv' := [(2, .int (nI (i + 1))), (1, .int x_13), (0, .ref a0)]) hx hb dX9_emptyCount_18 hl (k := 1) rfl (nI_1 i) (by decide) rfl (fun ls hl => ?_)
      refine lv_goto (tgt := 4) hx hb dX9_emptyCount_21 (by decide) ?_
      exact ih (i + 1) _ ls (by omega) (by omega) (lv_sub hl [0, 1, 2] rfl)
set_option maxHeartbeats 4000000 in
set_option maxRecDepth 100000 in
theorem x_emptyCount (l : Launch) (dC : Nat → ClassId) (dI : Nat → Nat → Nat) (q : Nat → ClassId) (h0 : Nat) (d : Nat → Nat) (k : Nat → Int32) (z : gS) (f : xF) (hI : xI q h0 d k z f) (a0 : Nat) (ha0 : tg z a0 7) : Met l yX9_emptyCount wsX9_emptyCount ({ frames := 4, cells := 0, slots := 0, locals := 87 }) (va_Pc [.ref a0] (PX dC dI (va_pl z.1 f) (xT q))) (vp_Si (fun r => True)) 0 0 (fun _ => False) := by
  refine Met.ofW (cc := cX9_emptyCount) (maxL := 3) (ret := (some .int)) (by decide) rfl ?_
  intro p e s m args below meth c s₁ B hml hv
  obtain ⟨rfl, ⟨hP, hK, hN⟩, hXN⟩ := hv
  have hx := B.exec
  have hb := B.bytes
  have hr := B.returns
  have hts := atoms_spec (ws := wsX9_emptyCount) B.pre
  have hown : s.vm.findClass RX9 = some m.cls := findClass_of_methodNamed B.named
  have hlocks := B.notSynchronized
  have hl := lv_entry ([.ref a0]) (n := 3) (Nat.le_of_ble_eq_true rfl)
  rw [lg_entry_eq]
  generalize (lg_sl ([.ref a0]) ++ List.replicate (3 - (lg_sl ([.ref a0])).length) Slot.unset).toArray = ls at hl ⊢
  have hl : lv_has ls 3 [(0, .ref a0)] := hl
  refine lv_iconst (v := 0) hx hb dX9_emptyCount_0 (by decide) ?_
  refine lv_istore_n (lv' := [(1, .int 0), (0, .ref a0)]) hx hb dX9_emptyCount_1 rfl hl (by decide) rfl (fun ls hl => ?_)
  refine lv_iconst (v := 0) hx hb dX9_emptyCount_2 (by decide) ?_
  refine lv_istore_n (lv' := [(2, .int 0), (1, .int 0), (0, .ref a0)]) hx hb dX9_emptyCount_3 rfl hl (by decide) rfl (fun ls hl => ?_)
  refine x_emptyCount_l hI hx hb hml hts hown hN hXN hK (Nat.le_of_ble_eq_true rfl) (Nat.le_of_ble_eq_true rfl) (Nat.le_of_ble_eq_true rfl) (Nat.le_of_ble_eq_true rfl) hP ha0 (fun a9 ls hl => ?_) 9 0 0 ls (by decide) (by decide) (lv_sub hl [0, 1, 2] rfl)
  refine lv_iload_n hx hb dX9_emptyCount_24 rfl (lv_at hl 0 rfl) ?_
  exact W.iret (v := a9) hx hb hr (fun t ht hW => ⟨_, rfl, trivial, ht⟩) (fun q h => absurd h List.not_mem_nil) dX9_emptyCount_25
set_option maxHeartbeats 4000000 in
set_option maxRecDepth 100000 in
theorem x_cellCount_l {p : Program} {l : Launch} {e : Env} {R : Room} {s : State} {m : MethodId} {args : Array Value} {below : List Frame} {meth : Method} {c : Code} {Q : State → Prop} {cells slots : Nat} {dC : Nat → ClassId} {dI : Nat → Nat → Nat} {q : Nat → ClassId} {h0 : Nat} {d : Nat → Nat} {k : Nat → Int32} {z : gS} {f : xF} {H : Heap} {locs : List Loc} (hI : xI q h0 d k z f) (hx : p.tables.exec = Jvm.exec) (hb : c.code = cX9_cellCount) (hml : c.maxLocals = 3) (hts : ∀ w ∈ wsX9_cellCount, w.before args s = true) (hown : s.vm.findClass RX9 = some m.cls) (hN : NN s) (hXN : XN s) (hK : va_K (dC, dI) vwCl (xT q) s) (hP : va_P (dC, dI) vwCl (va_pl z.1 f) H) {a0 la ca : Nat} {m9 d9 i9 : Int32} {g9 : Nat → Int32} (ha0 : tg z a0 7) (hs9 : f a0 = .inr (8, [.ref la, .ref ca, .int m9, .int d9, .int i9])) (hla : tg z la 8) (hca : tg z ca 9) (hg9 : f la = aI (q 0) 8 g9) (hgb : ∀ j, j < 8 → bw (g9 j) 0 60 = true) (kx25 : ∀ (a9 : Int32) (ls : Array Slot), lv_has ls 3 [(1, .int a9), (0, .ref a0)] → W p l e R s m args below meth c H locs cells slots Q (F0 m 25 ls [])) : ∀ (kk i : Nat) (a : Int32) (ls : Array Slot), i ≤ 8 → 8 - i < kk → lv_has ls 3 [(2, .int (nI i)), (1, .int a), (0, .ref a0)] → W p l e R s m args below meth c H locs cells slots Q (F0 m 4 ls []) := by
  intro kk
  induction kk with
  | zero => intro i a ls h1 h2; exact absurd h2 (Nat.not_lt_zero _)
  | succ kk ih =>
    intro i a ls hi hkk hl
    refine lv_iload_n hx hb dX9_cellCount_4 rfl (lv_at hl 0 rfl) ?_
    refine lv_bipush (v := 8) hx hb dX9_cellCount_5 (by decide) ?_
    refine lv_icmp_ge (tgt := 25) hx hb dX9_cellCount_7 (by decide) (fun c_1 => ?_) (fun c_1 => ?_)
    ·
      have hie : i = 8 := lp_eq rfl (by decide) hi c_1
      exact kx25 _ ls (lv_sub hl [1, 2] rfl)
    ·
      have hlt : i < 8 := lp_lt rfl (by decide) hi c_1
      refine lv_iload_n hx hb dX9_cellCount_10 rfl (lv_at hl 1 rfl) ?_
      refine lv_aload_n hx hb dX9_cellCount_11 rfl (lv_at hl 2 rfl) ?_
      obtain ⟨kk_2, hk_3⟩ := pl_at ha0.1 hs9
      refine va_get (D := (dC, dI)) (ci := 8) (v := .ref la) (C := RX9) (T := TX9) (N := 5) hx hb hts (by decide +kernel) hown hK hP kk_2 hk_3 rfl 0 (by decide) (hts (.fieldLink RX9 9 "PageOne$Sheet" "lines" "[I") (by decide +kernel)) (fun _ h9 => h9) rfl dX9_cellCount_12 ?_
      refine lv_iload_n hx hb dX9_cellCount_15 rfl (lv_at hl 0 rfl) ?_
      obtain ⟨kk_4, hk_5⟩ := pl_at hla.1 hg9
      refine va_iald hx hb hK hP kk_4 0 hk_5 rfl (vp_in_nI hlt (by decide)) dX9_cellCount_16 ?_
      refine lv_iadd hx hb dX9_cellCount_17 ?_
      refine lv_topi (fun x_6 ex_6 => ?_)
      refine lv_istore_n (lv' := [(1, .int x_6), (2, .int (nI i)), (0, .ref a0)]) hx hb dX9_cellCount_18 rfl hl (by decide) rfl (fun ls hl => ?_)
      refine lv_iinc (v := (nI (i + 1))) (lv' := [(2, .int (nI (i + 1))), (1, .int x_6), (0, .ref a0)]) hx hb dX9_cellCount_19 hl (k := 1) rfl (nI_1 i) (by decide) rfl (fun ls hl => ?_)
      refine lv_goto (tgt := 4) hx hb dX9_cellCount_22 (by decide) ?_
      exact ih (i + 1) _ ls (by omega) (by omega) (lv_sub hl [0, 1, 2] rfl)
set_option maxHeartbeats 4000000 in
set_option maxRecDepth 100000 in
theorem x_cellCount (l : Launch) (dC : Nat → ClassId) (dI : Nat → Nat → Nat) (q : Nat → ClassId) (h0 : Nat) (d : Nat → Nat) (k : Nat → Int32) (z : gS) (f : xF) (hI : xI q h0 d k z f) (a0 : Nat) (ha0 : tg z a0 7) : Met l yX9_cellCount wsX9_cellCount ({ frames := 0, cells := 0, slots := 0, locals := 0 }) (va_Pc [.ref a0] (PX dC dI (va_pl z.1 f) (xT q))) (vp_Si (fun r => True)) 0 0 (fun _ => False) := by
  refine Met.ofW (cc := cX9_cellCount) (maxL := 3) (ret := (some .int)) (by decide) rfl ?_
  intro p e s m args below meth c s₁ B hml hv
  obtain ⟨rfl, ⟨hP, hK, hN⟩, hXN⟩ := hv
  have hx := B.exec
  have hb := B.bytes
  have hr := B.returns
  have hts := atoms_spec (ws := wsX9_cellCount) B.pre
  have hown : s.vm.findClass RX9 = some m.cls := findClass_of_methodNamed B.named
  have hlocks := B.notSynchronized
  have hl := lv_entry ([.ref a0]) (n := 3) (Nat.le_of_ble_eq_true rfl)
  rw [lg_entry_eq]
  generalize (lg_sl ([.ref a0]) ++ List.replicate (3 - (lg_sl ([.ref a0])).length) Slot.unset).toArray = ls at hl ⊢
  have hl : lv_has ls 3 [(0, .ref a0)] := hl
  refine lv_iconst (v := 0) hx hb dX9_cellCount_0 (by decide) ?_
  refine lv_istore_n (lv' := [(1, .int 0), (0, .ref a0)]) hx hb dX9_cellCount_1 rfl hl (by decide) rfl (fun ls hl => ?_)
  refine lv_iconst (v := 0) hx hb dX9_cellCount_2 (by decide) ?_
  refine lv_istore_n (lv' := [(2, .int 0), (1, .int 0), (0, .ref a0)]) hx hb dX9_cellCount_3 rfl hl (by decide) rfl (fun ls hl => ?_)
  obtain ⟨la_1, ca_2, m_3, dd_4, ii_5, hs_6, ht_7, ht_8⟩ := x_sh hI ha0
  obtain ⟨g_9, hs_10, hg_11⟩ := x_ln hI ht_7
  refine x_cellCount_l hI hx hb hml hts hown hN hXN hK hP ha0 hs_6 ht_7 ht_8 hs_10 hg_11 (fun a9 ls hl => ?_) 9 0 0 ls (by decide) (by decide) (lv_sub hl [0, 1, 2] rfl)
  refine lv_iload_n hx hb dX9_cellCount_25 rfl (lv_at hl 0 rfl) ?_
  exact W.iret (v := a9) hx hb hr (fun t ht hW => ⟨_, rfl, trivial, ht⟩) (fun q h => absurd h List.not_mem_nil) dX9_cellCount_26
set_option maxHeartbeats 4000000 in
set_option maxRecDepth 100000 in
theorem x_spot_in {p : Program} {l : Launch} {e : Env} {R : Room} {s : State} {m : MethodId} {args : Array Value} {below : List Frame} {meth : Method} {c : Code} {Q : State → Prop} {cells slots : Nat} {dC : Nat → ClassId} {dI : Nat → Nat → Nat} {q : Nat → ClassId} {h0 : Nat} {d : Nat → Nat} {k : Nat → Int32} {z : gS} {f : xF} {H : Heap} {locs : List Loc} (hI : xI q h0 d k z f) (hx : p.tables.exec = Jvm.exec) (hb : c.code = cX9_spotOf) (hml : c.maxLocals = 4) (hts : ∀ w ∈ wsX9_spotOf, w.before args s = true) (hown : s.vm.findClass RX9 = some m.cls) (hN : NN s) (hXN : XN s) (hK : va_K (dC, dI) vwCl (xT q) s) (hRf : 3 ≤ R.frames) (hRl : 64 ≤ R.locals) (hRc : cells ≤ R.cells) (hRs : slots ≤ R.slots) (hP : va_P (dC, dI) vwCl (va_pl z.1 f) H) {a0 la ca : Nat} {m9 d9 i9 : Int32} {g9 : Nat → Int32} (ha0 : tg z a0 7) (hs9 : f a0 = .inr (8, [.ref la, .ref ca, .int m9, .int d9, .int i9])) (hla : tg z la 8) (hca : tg z ca 9) (hg9 : f la = aI (q 0) 8 g9) (hgb : ∀ j, j < 8 → bw (g9 j) 0 60 = true) {p0 : Int32} {c9 K : Nat} (hc8 : c9 < 8) (eK : g9 (nI c9).toNatClampNeg = nI K) (hK6 : K ≤ 60) (kx43 : ∀ (ls : Array Slot), lv_has ls 4 [(2, .int (nI c9)), (0, .ref a0), (1, .int p0)] → W p l e R s m args below meth c H locs cells slots Q (F0 m 43 ls [])) (kx30 : ∀ (l9 : Int32) (ls : Array Slot), lv_has ls 4 [(3, .int l9), (2, .int (nI c9)), (0, .ref a0), (1, .int p0)] → W p l e R s m args below meth c H locs cells slots Q (F0 m 30 ls [])) : ∀ (kk i : Nat) (ls : Array Slot), i ≤ K → K - i < kk → lv_has ls 4 [(3, .int (nI i)), (2, .int (nI c9)), (0, .ref a0), (1, .int p0)] → W p l e R s m args below meth c H locs cells slots Q (F0 m 10 ls []) := by
  intro kk
  induction kk with
  | zero => intro i ls h1 h2; exact absurd h2 (Nat.not_lt_zero _)
  | succ kk ih =>
    intro i ls hi hkk hl
    refine lv_iload_n hx hb dX9_spotOf_10 rfl (lv_at hl 0 rfl) ?_
    refine lv_aload_n hx hb dX9_spotOf_11 rfl (lv_at hl 2 rfl) ?_
    obtain ⟨kk_1, hk_2⟩ := pl_at ha0.1 hs9
    refine va_get (D := (dC, dI)) (ci := 8) (v := .ref la) (C := RX9) (T := TX9) (N := 5) hx hb hts (by decide +kernel) hown hK hP kk_1 hk_2 rfl 0 (by decide) (hts (.fieldLink RX9 9 "PageOne$Sheet" "lines" "[I") (by decide +kernel)) (fun _ h9 => h9) rfl dX9_spotOf_12 ?_
    refine lv_iload_n hx hb dX9_spotOf_15 rfl (lv_at hl 1 rfl) ?_
    obtain ⟨kk_3, hk_4⟩ := pl_at hla.1 hg9
    refine va_iald hx hb hK hP kk_3 0 hk_4 rfl (vp_in_nI hc8 (by decide)) dX9_spotOf_16 ?_
    refine lv_topi (fun y_5 ey_5 => ?_)
    obtain rfl : y_5 = (nI K) := ey_5.trans (eK)
    refine lv_icmp_ge (tgt := 43) hx hb dX9_spotOf_17 (by decide) (fun c_6 => ?_) (fun c_6 => ?_)
    ·
      have hie : i = K := lp_eq rfl (by omega) hi c_6
      exact kx43 ls (lv_sub hl [1, 2, 3] rfl)
    ·
      have hlt : i < K := lp_lt rfl (by omega) hi c_6
      refine lv_aload_n hx hb dX9_spotOf_20 rfl (lv_at hl 2 rfl) ?_
      refine lv_iload_n hx hb dX9_spotOf_21 rfl (lv_at hl 1 rfl) ?_
      refine lv_iload_n hx hb dX9_spotOf_22 rfl (lv_at hl 0 rfl) ?_
      obtain ⟨kk_7, hk_8⟩ := pl_at ha0.1 hs9
      refine vp_callSi (va_runV (As := [.int (nI c9), .int (nI i)]) (rest := []) ⟨hx, hb, hml, hown, hts⟩ (x_at l dC dI q h0 d k z f hI a0 (nI c9) (nI i) ha0) (cwV 2 hts gX9_spotOf_X9_at rfl rfl rfl (by decide +kernel) ⟨Nat.le_trans (Nat.le_of_ble_eq_true rfl) hRf, Nat.le_trans (Nat.le_of_ble_eq_true rfl) hRl⟩) ⟨px_fb, va_recv hK hP (ci := 8) (q0 := kk_7) rfl hk_8, fun U hU hW => ⟨rfl, px_to hU hW hP hK hN hXN⟩⟩ rfl rfl hl.1 rfl (lv_room (Nat.le_of_ble_eq_true rfl)) dX9_spotOf_23 ⟨hRc, hRs⟩).run (fun r hw => ?_)
      generalize r = zr_9 at hw ⊢
      have hzr_9 := hw
      refine lv_iload_n hx hb dX9_spotOf_26 rfl (lv_at hl 3 rfl) ?_
      refine lv_icmp_ne (tgt := 37) hx hb dX9_spotOf_27 (by decide) (fun c_10 => ?_) (fun c_10 => ?_)
      ·
        refine lv_iinc (v := (nI (i + 1))) (lv' := [(3, .int (nI (i + 1))), (2, .int (nI c9)), (0, .ref a0), (1, .int p0)]) hx hb dX9_spotOf_37 hl (k := 0) rfl (nI_1 i) (by decide) rfl (fun ls hl => ?_)
        refine lv_goto (tgt := 10) hx hb dX9_spotOf_40 (by decide) ?_
        exact ih (i + 1) ls (by omega) (by omega) (lv_sub hl [0, 1, 2, 3] rfl)
      ·
        exact kx30 _ ls (lv_sub hl [0, 1, 2, 3] rfl)
set_option maxHeartbeats 4000000 in
set_option maxRecDepth 100000 in
theorem x_spot_out {p : Program} {l : Launch} {e : Env} {R : Room} {s : State} {m : MethodId} {args : Array Value} {below : List Frame} {meth : Method} {c : Code} {Q : State → Prop} {cells slots : Nat} {dC : Nat → ClassId} {dI : Nat → Nat → Nat} {q : Nat → ClassId} {h0 : Nat} {d : Nat → Nat} {k : Nat → Int32} {z : gS} {f : xF} {H : Heap} {locs : List Loc} (hI : xI q h0 d k z f) (hx : p.tables.exec = Jvm.exec) (hb : c.code = cX9_spotOf) (hml : c.maxLocals = 4) (hts : ∀ w ∈ wsX9_spotOf, w.before args s = true) (hown : s.vm.findClass RX9 = some m.cls) (hN : NN s) (hXN : XN s) (hK : va_K (dC, dI) vwCl (xT q) s) (hRf : 3 ≤ R.frames) (hRl : 64 ≤ R.locals) (hRc : cells ≤ R.cells) (hRs : slots ≤ R.slots) (hP : va_P (dC, dI) vwCl (va_pl z.1 f) H) {a0 la ca : Nat} {m9 d9 i9 : Int32} {g9 : Nat → Int32} (ha0 : tg z a0 7) (hs9 : f a0 = .inr (8, [.ref la, .ref ca, .int m9, .int d9, .int i9])) (hla : tg z la 8) (hca : tg z ca 9) (hg9 : f la = aI (q 0) 8 g9) (hgb : ∀ j, j < 8 → bw (g9 j) 0 60 = true) {p0 : Int32} (kx49 : ∀ (ls : Array Slot), lv_has ls 4 [(0, .ref a0), (1, .int p0)] → W p l e R s m args below meth c H locs cells slots Q (F0 m 49 ls [])) (kx30 : ∀ (l9 : Int32) (c9 : Int32) (ls : Array Slot), lv_has ls 4 [(3, .int l9), (2, .int c9), (0, .ref a0), (1, .int p0)] → W p l e R s m args below meth c H locs cells slots Q (F0 m 30 ls [])) : ∀ (kk i : Nat) (ls : Array Slot), i ≤ 8 → 8 - i < kk → lv_has ls 4 [(2, .int (nI i)), (0, .ref a0), (1, .int p0)] → W p l e R s m args below meth c H locs cells slots Q (F0 m 2 ls []) := by
  intro kk
  induction kk with
  | zero => intro i ls h1 h2; exact absurd h2 (Nat.not_lt_zero _)
  | succ kk ih =>
    intro i ls hi hkk hl
    refine lv_iload_n hx hb dX9_spotOf_2 rfl (lv_at hl 0 rfl) ?_
    refine lv_bipush (v := 8) hx hb dX9_spotOf_3 (by decide) ?_
    refine lv_icmp_ge (tgt := 49) hx hb dX9_spotOf_5 (by decide) (fun c_1 => ?_) (fun c_1 => ?_)
    ·
      have hie : i = 8 := lp_eq rfl (by decide) hi c_1
      exact kx49 ls (lv_sub hl [1, 2] rfl)
    ·
      have hlt : i < 8 := lp_lt rfl (by decide) hi c_1
      refine lv_iconst (v := 0) hx hb dX9_spotOf_8 (by decide) ?_
      refine lv_istore_n (lv' := [(3, .int 0), (2, .int (nI i)), (0, .ref a0), (1, .int p0)]) hx hb dX9_spotOf_9 rfl hl (by decide) rfl (fun ls hl => ?_)
      obtain ⟨eK, eK2, eK3⟩ := nI_of_bw (hgb (nI i).toNatClampNeg (by rw [nI_clamp (by omega)]; exact hlt))
      have h60 : (60 : Int32).toInt = 60 := rfl
      refine x_spot_in (c9 := i) (K := (g9 (nI i).toNatClampNeg).toNatClampNeg) hI hx hb hml hts hown hN hXN hK hRf hRl hRc hRs hP ha0 hs9 hla hca hg9 hgb hlt eK (by omega) (fun ls hl => ?_) (fun l9 ls hl => kx30 _ _ ls hl) _ 0 ls (Nat.zero_le _) (Nat.lt_succ_self _) (lv_sub hl [0, 1, 2, 3] rfl)
      refine lv_iinc (v := (nI (i + 1))) (lv' := [(2, .int (nI (i + 1))), (0, .ref a0), (1, .int p0)]) hx hb dX9_spotOf_43 hl (k := 0) rfl (nI_1 i) (by decide) rfl (fun ls hl => ?_)
      refine lv_goto (tgt := 2) hx hb dX9_spotOf_46 (by decide) ?_
      exact ih (i + 1) ls (by omega) (by omega) (lv_sub hl [0, 1, 2] rfl)
set_option maxHeartbeats 4000000 in
set_option maxRecDepth 100000 in
theorem x_spotOf (l : Launch) (dC : Nat → ClassId) (dI : Nat → Nat → Nat) (q : Nat → ClassId) (h0 : Nat) (d : Nat → Nat) (k : Nat → Int32) (z : gS) (f : xF) (hI : xI q h0 d k z f) (a0 : Nat) (p0 : Int32) (ha0 : tg z a0 7) : Met l yX9_spotOf wsX9_spotOf ({ frames := 3, cells := 0, slots := 0, locals := 64 }) (va_Pc [.ref a0, .int p0] (PX dC dI (va_pl z.1 f) (xT q))) (vp_Si (fun r => True)) 0 0 (fun _ => False) := by
  refine Met.ofW (cc := cX9_spotOf) (maxL := 4) (ret := (some .int)) (by decide) rfl ?_
  intro p e s m args below meth c s₁ B hml hv
  obtain ⟨rfl, ⟨hP, hK, hN⟩, hXN⟩ := hv
  have hx := B.exec
  have hb := B.bytes
  have hr := B.returns
  have hts := atoms_spec (ws := wsX9_spotOf) B.pre
  have hown : s.vm.findClass RX9 = some m.cls := findClass_of_methodNamed B.named
  have hlocks := B.notSynchronized
  have hl := lv_entry ([.ref a0, .int p0]) (n := 4) (Nat.le_of_ble_eq_true rfl)
  rw [lg_entry_eq]
  generalize (lg_sl ([.ref a0, .int p0]) ++ List.replicate (4 - (lg_sl ([.ref a0, .int p0])).length) Slot.unset).toArray = ls at hl ⊢
  have hl : lv_has ls 4 [(0, .ref a0), (1, .int p0)] := hl
  refine lv_iconst (v := 0) hx hb dX9_spotOf_0 (by decide) ?_
  refine lv_istore_n (lv' := [(2, .int 0), (0, .ref a0), (1, .int p0)]) hx hb dX9_spotOf_1 rfl hl (by decide) rfl (fun ls hl => ?_)
  obtain ⟨la_1, ca_2, m_3, dd_4, ii_5, hs_6, ht_7, ht_8⟩ := x_sh hI ha0
  obtain ⟨g_9, hs_10, hg_11⟩ := x_ln hI ht_7
  refine x_spot_out hI hx hb hml hts hown hN hXN hK (Nat.le_of_ble_eq_true rfl) (Nat.le_of_ble_eq_true rfl) (Nat.le_of_ble_eq_true rfl) (Nat.le_of_ble_eq_true rfl) hP ha0 hs_6 ht_7 ht_8 hs_10 hg_11 (fun ls hl => ?_) (fun l9 c9 ls hl => ?_) 9 0 ls (by decide) (by decide) (lv_sub hl [0, 1, 2] rfl)
  ·
    refine lv_iconst (v := (-1)) hx hb dX9_spotOf_49 (by decide) ?_
    exact W.iret (v := (-1)) hx hb hr (fun t ht hW => ⟨_, rfl, trivial, ht⟩) (fun q h => absurd h List.not_mem_nil) dX9_spotOf_50
  ·
    refine lv_iload_n hx hb dX9_spotOf_30 rfl (lv_at hl 1 rfl) ?_
    refine lv_bipush (v := 60) hx hb dX9_spotOf_31 (by decide) ?_
    refine lv_imul hx hb dX9_spotOf_33 ?_
    refine lv_iload_n hx hb dX9_spotOf_34 rfl (lv_at hl 0 rfl) ?_
    refine lv_iadd hx hb dX9_spotOf_35 ?_
    exact W.iret (v := ((c9 * 60) + l9)) hx hb hr (fun t ht hW => ⟨_, rfl, trivial, ht⟩) (fun q h => absurd h List.not_mem_nil) dX9_spotOf_36
