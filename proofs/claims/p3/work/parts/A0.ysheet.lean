/-- a sheet's cell, by its lines gl and cells gc -/
def shAt (gl gc : Nat → Int32) (c l : Int32) : Int32 := if bw c 0 7 = true then (if bw l 0 (gl c.toNatClampNeg - 1) = true then gc (c * 60 + l).toNatClampNeg else (-1)) else (-1)
def shE (gl gc : Nat → Int32) (c : Int32) : Nat → Int32
  | 0 => 0
  | n + 1 => shE gl gc c n + (if shAt gl gc c (nI n) = (-2) then 1 else 0)
def shEC (gl gc : Nat → Int32) : Nat → Int32
  | 0 => 0
  | n + 1 => shEC gl gc n + shE gl gc (nI n) (gl (nI n).toNatClampNeg).toNatClampNeg
def shCC (gl : Nat → Int32) : Nat → Int32
  | 0 => 0
  | n + 1 => shCC gl n + gl (nI n).toNatClampNeg
/-- a number's first cell, by column, then line -/
def shNo (gl gc : Nat → Int32) (x : Int32) (c l : Nat) : Prop := ∀ c' l', c' < 8 → l' < (gl (nI c').toNatClampNeg).toNatClampNeg → (c' < c ∨ (c' = c ∧ l' < l)) → ¬ shAt gl gc (nI c') (nI l') = x
def shSp (gl gc : Nat → Int32) (x r : Int32) : Prop := (r = -1 ∧ shNo gl gc x 8 0) ∨ (∃ c l : Nat, c < 8 ∧ l < (gl (nI c).toNatClampNeg).toNatClampNeg ∧ r = nI c * 60 + nI l ∧ shAt gl gc (nI c) (nI l) = x ∧ shNo gl gc x c l)
def shFr (gl gc : Nat → Int32) (X Y D N : Int32) : Prop := (bw D 1 8 && bw N 1 60) = true ∧ bw X 0 7 = true ∧ bw Y 0 (60 - N) = true ∧ ∀ a, a < D.toNatClampNeg → ∀ b, b < N.toNatClampNeg → shAt gl gc (X + nI a) (Y + nI b) = (-2)
theorem shE_1 {gl gc : Nat → Int32} {c : Int32} {n : Nat} (h : shAt gl gc c (nI n) = (-2)) {x : Int32} (hx : x = shE gl gc c n + 1) : x = shE gl gc c (n + 1) := by
  show x = shE gl gc c n + (if shAt gl gc c (nI n) = (-2) then 1 else 0)
  rw [if_pos h]; exact hx
theorem shE_0 {gl gc : Nat → Int32} {c : Int32} {n : Nat} (h : ¬ shAt gl gc c (nI n) = (-2)) : shE gl gc c n = shE gl gc c (n + 1) := by
  show _ = shE gl gc c n + (if shAt gl gc c (nI n) = (-2) then 1 else 0)
  rw [if_neg h]; exact (Int32.add_zero _).symm
theorem shNo_z (gl gc : Nat → Int32) (x : Int32) : shNo gl gc x 0 0 := fun c' l' _ _ h => by omega
theorem shNo_l {gl gc : Nat → Int32} {x : Int32} {c l : Nat} (h : shNo gl gc x c l) (hn : ¬ shAt gl gc (nI c) (nI l) = x) : shNo gl gc x c (l + 1) := fun c' l' h1 h2 h3 => by
  by_cases e : c' = c ∧ l' = l
  · rw [e.1, e.2]; exact hn
  · exact h c' l' h1 h2 (by omega)
theorem shNo_c {gl gc : Nat → Int32} {x : Int32} {c l : Nat} (h : shNo gl gc x c l) (hl : l = (gl (nI c).toNatClampNeg).toNatClampNeg) : shNo gl gc x (c + 1) 0 := fun c' l' h1 h2 h3 => by
  by_cases e : c' = c
  · subst e; exact h c' l' h1 h2 (Or.inr ⟨rfl, by omega⟩)
  · exact h c' l' h1 h2 (Or.inl (by omega))
set_option maxHeartbeats 4000000 in
set_option maxRecDepth 100000 in
theorem y_at (l : Launch) (dC : Nat → ClassId) (dI : Nat → Nat → Nat) (q : Nat → ClassId) (h0 : Nat) (d : Nat → Nat) (k : Nat → Int32) (z : gS) (f : xF) (hI : xI q h0 d k z f) (a0 la ca : Nat) (m9 d9 i9 : Int32) (gl gc : Nat → Int32) (ha0 : tg z a0 7) (hs9 : f a0 = .inr (8, [.ref la, .ref ca, .int m9, .int d9, .int i9])) (hla : tg z la 8) (hca : tg z ca 9) (hg9 : f la = aI (q 0) 8 gl) (hgb : ∀ j, j < 8 → bw (gl j) 0 60 = true) (hc9 : f ca = aI (q 0) 480 gc) (p0 p1 : Int32) : Met l yX9_at wsX9_at ({ frames := 2, cells := 0, slots := 0, locals := 42 }) (va_Pc [.ref a0, .int p0, .int p1] (PX dC dI (va_pl z.1 f) (xT q))) (vp_Si (fun r => r = shAt gl gc p0 p1)) 0 0 (fun _ => False) := by
  refine Met.ofW (cc := cX9_at) (maxL := 3) (ret := (some .int)) (by decide) rfl ?_
  intro p e s m args below meth c s₁ B hml hv
  obtain ⟨rfl, ⟨hP, hK, hN⟩, hXN⟩ := hv
  have hx := B.exec
  have hb := B.bytes
  have hr := B.returns
  have hts := atoms_spec (ws := wsX9_at) B.pre
  have hown : s.vm.findClass RX9 = some m.cls := findClass_of_methodNamed B.named
  have hlocks := B.notSynchronized
  have hl := lv_entry ([.ref a0, .int p0, .int p1]) (n := 3) (Nat.le_of_ble_eq_true rfl)
  rw [lg_entry_eq]
  generalize (lg_sl ([.ref a0, .int p0, .int p1]) ++ List.replicate (3 - (lg_sl ([.ref a0, .int p0, .int p1])).length) Slot.unset).toArray = ls at hl ⊢
  have hl : lv_has ls 3 [(0, .ref a0), (1, .int p0), (2, .int p1)] := hl
  refine lv_iload_n hx hb dX9_at_0 rfl (lv_at hl 1 rfl) ?_
  refine vp_callSi (va_runSN (As := [.int p0]) (rest := []) ⟨hx, hb, hml, hown, hts⟩ (x_isColumn l dC dI p0) ⟨va_cnB (host := "PageOne") 1 hts gX9_at_X11_isColumn_n34 rfl rfl rfl hN.n_RX9_34 (hts (.initialized RX11) (by decide +kernel)) (by decide +kernel) ⟨Nat.le_of_ble_eq_true rfl, Nat.le_of_ble_eq_true rfl⟩, hts (.static yX11_isColumn) (by decide +kernel), trivial⟩ ⟨pw_fb, fun U hU hW => ⟨rfl, pw_to hU hW (hP.sub (ws' := []) [] rfl) (hK.sub (tys' := []) [] rfl) hN⟩⟩ rfl rfl hl.1 rfl (lv_room (Nat.le_of_ble_eq_true rfl)) dX9_at_1 ⟨Nat.le_of_ble_eq_true rfl, Nat.le_of_ble_eq_true rfl⟩).run (fun r hw => ?_)
  rcases Bool.eq_false_or_eq_true (bw p0 0 7) with b_1 | b_1
  ·
    obtain rfl : r = 1 := b_t hw b_1
    refine lv_if_eq (tgt := 23) hx hb dX9_at_4 (by decide) (fun c_2 => absurd c_2 (by decide)) (fun c_2 => ?_)
    refine lv_iload_n hx hb dX9_at_7 rfl (lv_at hl 2 rfl) ?_
    refine lv_iconst (v := 0) hx hb dX9_at_8 (by decide) ?_
    refine lv_aload_n hx hb dX9_at_9 rfl (lv_at hl 0 rfl) ?_
    obtain ⟨kk_3, hk_4⟩ := pl_at ha0.1 hs9
    refine va_get (D := (dC, dI)) (ci := 8) (v := .ref la) (C := RX9) (T := TX9) (N := 5) hx hb hts (by decide +kernel) hown hK hP kk_3 hk_4 rfl 0 (by decide) (hts (.fieldLink RX9 9 "PageOne$Sheet" "lines" "[I") (by decide +kernel)) (fun _ h9 => h9) rfl dX9_at_10 ?_
    refine lv_iload_n hx hb dX9_at_13 rfl (lv_at hl 1 rfl) ?_
    obtain ⟨kk_5, hk_6⟩ := pl_at hla.1 hg9
    refine va_iald hx hb hK hP kk_5 0 hk_6 rfl (vin b_1 (by decide)) dX9_at_14 ?_
    refine lv_iconst (v := 1) hx hb dX9_at_15 (by decide) ?_
    refine lv_isub hx hb dX9_at_16 ?_
    refine vp_callSi (va_runSN (As := [.int p1, .int 0, .int ((gl (p0 : Int32).toNatClampNeg) - 1)]) (rest := []) ⟨hx, hb, hml, hown, hts⟩ (x_isWithin l dC dI p1 0 ((gl (p0 : Int32).toNatClampNeg) - 1)) ⟨va_cnB (host := "PageOne") 3 hts gX9_at_X11_isWithin_n38 rfl rfl rfl hN.n_RX9_38 (hts (.initialized RX11) (by decide +kernel)) (by decide +kernel) ⟨Nat.le_of_ble_eq_true rfl, Nat.le_of_ble_eq_true rfl⟩, hts (.static yX11_isWithin) (by decide +kernel), trivial⟩ ⟨pw_fb, fun U hU hW => ⟨rfl, pw_to hU hW (hP.sub (ws' := []) [] rfl) (hK.sub (tys' := []) [] rfl) hN⟩⟩ rfl rfl hl.1 rfl (lv_room (Nat.le_of_ble_eq_true rfl)) dX9_at_17 ⟨Nat.le_of_ble_eq_true rfl, Nat.le_of_ble_eq_true rfl⟩).run (fun r hw => ?_)
    rcases Bool.eq_false_or_eq_true (bw p1 0 ((gl (p0 : Int32).toNatClampNeg) - 1)) with b_7 | b_7
    ·
      obtain rfl : r = 1 := b_t hw b_7
      refine lv_if_ne (tgt := 25) hx hb dX9_at_20 (by decide) (fun c_8 => ?_) (fun c_8 => absurd c_8 (by decide))
      refine lv_aload_n hx hb dX9_at_25 rfl (lv_at hl 0 rfl) ?_
      obtain ⟨kk_9, hk_10⟩ := pl_at ha0.1 hs9
      refine va_get (D := (dC, dI)) (ci := 8) (v := .ref ca) (C := RX9) (T := TX9) (N := 5) hx hb hts (by decide +kernel) hown hK hP kk_9 hk_10 rfl 1 (by decide) (hts (.fieldLink RX9 15 "PageOne$Sheet" "cells" "[I") (by decide +kernel)) (fun _ h9 => h9) rfl dX9_at_26 ?_
      refine lv_iload_n hx hb dX9_at_29 rfl (lv_at hl 1 rfl) ?_
      refine lv_bipush (v := 60) hx hb dX9_at_30 (by decide) ?_
      refine lv_imul hx hb dX9_at_32 ?_
      refine lv_iload_n hx hb dX9_at_33 rfl (lv_at hl 2 rfl) ?_
      refine lv_iadd hx hb dX9_at_34 ?_
      obtain ⟨kk_11, hk_12⟩ := pl_at hca.1 hc9
      refine va_iald hx hb hK hP kk_11 0 hk_12 rfl (vin60 b_1 (hgb _ (vlt (vin b_1 (by decide)))) b_7) dX9_at_35 ?_
      exact W.iret (v := (gc (((p0 * 60) + p1) : Int32).toNatClampNeg)) hx hb hr (fun t ht hW => ⟨_, rfl, (by unfold shAt; rw [if_pos b_1, if_pos b_7]), ht⟩) (fun q h => absurd h List.not_mem_nil) dX9_at_36
    ·
      obtain rfl : r = 0 := b_f hw b_7
      refine lv_if_ne (tgt := 25) hx hb dX9_at_20 (by decide) (fun c_13 => absurd (by decide) c_13) (fun c_13 => ?_)
      refine lv_iconst (v := (-1)) hx hb dX9_at_23 (by decide) ?_
      exact W.iret (v := (-1)) hx hb hr (fun t ht hW => ⟨_, rfl, (by unfold shAt; rw [if_pos b_1, if_neg (bne b_7)]), ht⟩) (fun q h => absurd h List.not_mem_nil) dX9_at_24
  ·
    obtain rfl : r = 0 := b_f hw b_1
    refine lv_if_eq (tgt := 23) hx hb dX9_at_4 (by decide) (fun c_14 => ?_) (fun c_14 => absurd (by decide) c_14)
    refine lv_iconst (v := (-1)) hx hb dX9_at_23 (by decide) ?_
    exact W.iret (v := (-1)) hx hb hr (fun t ht hW => ⟨_, rfl, (by unfold shAt; rw [if_neg (bne b_1)]), ht⟩) (fun q h => absurd h List.not_mem_nil) dX9_at_24
set_option maxHeartbeats 4000000 in
set_option maxRecDepth 100000 in
theorem y_emptyIn_l {p : Program} {l : Launch} {e : Env} {R : Room} {s : State} {m : MethodId} {args : Array Value} {below : List Frame} {meth : Method} {c : Code} {Q : State → Prop} {cells slots : Nat} {dC : Nat → ClassId} {dI : Nat → Nat → Nat} {q : Nat → ClassId} {h0 : Nat} {d : Nat → Nat} {k : Nat → Int32} {z : gS} {f : xF} {H : Heap} {locs : List Loc} (hI : xI q h0 d k z f) (hx : p.tables.exec = Jvm.exec) (hb : c.code = cX9_emptyIn) (hml : c.maxLocals = 4) (hts : ∀ w ∈ wsX9_emptyIn, w.before args s = true) (hown : s.vm.findClass RX9 = some m.cls) (hN : NN s) (hXN : XN s) (hK : va_K (dC, dI) vwCl (xT q) s) (hRf : 3 ≤ R.frames) (hRl : 64 ≤ R.locals) (hRc : cells ≤ R.cells) (hRs : slots ≤ R.slots) (hP : va_P (dC, dI) vwCl (va_pl z.1 f) H) {a0 la ca : Nat} {m9 d9 i9 : Int32} {gl gc : Nat → Int32} (ha0 : tg z a0 7) (hs9 : f a0 = .inr (8, [.ref la, .ref ca, .int m9, .int d9, .int i9])) (hla : tg z la 8) (hca : tg z ca 9) (hg9 : f la = aI (q 0) 8 gl) (hgb : ∀ j, j < 8 → bw (gl j) 0 60 = true) (hc9 : f ca = aI (q 0) 480 gc) {p0 : Int32} {K : Nat} (hp : bw p0 0 7 = true) (eK : gl p0.toNatClampNeg = nI K) (hK6 : K ≤ 60) (kx34 : ∀ (a9 : Int32) (ls : Array Slot), a9 = shE gl gc p0 K → lv_has ls 4 [(2, .int a9), (0, .ref a0), (1, .int p0)] → W p l e R s m args below meth c H locs cells slots Q (F0 m 34 ls [])) : ∀ (kk i : Nat) (a : Int32) (ls : Array Slot), i ≤ K → K - i < kk → a = shE gl gc p0 i → lv_has ls 4 [(3, .int (nI i)), (2, .int a), (0, .ref a0), (1, .int p0)] → W p l e R s m args below meth c H locs cells slots Q (F0 m 4 ls []) := by
  intro kk
  induction kk with
  | zero => intro i a ls h1 h2; exact absurd h2 (Nat.not_lt_zero _)
  | succ kk ih =>
    intro i a ls hi hkk hg hl
    refine lv_iload_n hx hb dX9_emptyIn_4 rfl (lv_at hl 0 rfl) ?_
    refine lv_aload_n hx hb dX9_emptyIn_5 rfl (lv_at hl 2 rfl) ?_
    obtain ⟨kk_1, hk_2⟩ := pl_at ha0.1 hs9
    refine va_get (D := (dC, dI)) (ci := 8) (v := .ref la) (C := RX9) (T := TX9) (N := 5) hx hb hts (by decide +kernel) hown hK hP kk_1 hk_2 rfl 0 (by decide) (hts (.fieldLink RX9 9 "PageOne$Sheet" "lines" "[I") (by decide +kernel)) (fun _ h9 => h9) rfl dX9_emptyIn_6 ?_
    refine lv_iload_n hx hb dX9_emptyIn_9 rfl (lv_at hl 3 rfl) ?_
    obtain ⟨kk_3, hk_4⟩ := pl_at hla.1 hg9
    refine va_iald hx hb hK hP kk_3 0 hk_4 rfl (vin hp (by decide)) dX9_emptyIn_10 ?_
    refine lv_topi (fun y_5 ey_5 => ?_)
    obtain rfl : y_5 = (nI K) := ey_5.trans (eK)
    refine lv_icmp_ge (tgt := 34) hx hb dX9_emptyIn_11 (by decide) (fun c_6 => ?_) (fun c_6 => ?_)
    ·
      have hie : i = K := lp_eq rfl (by omega) hi c_6
      exact kx34 _ ls (by rw [← hie]; exact hg) (lv_sub hl [1, 2, 3] rfl)
    ·
      have hlt : i < K := lp_lt rfl (by omega) hi c_6
      refine lv_aload_n hx hb dX9_emptyIn_14 rfl (lv_at hl 2 rfl) ?_
      refine lv_iload_n hx hb dX9_emptyIn_15 rfl (lv_at hl 3 rfl) ?_
      refine lv_iload_n hx hb dX9_emptyIn_16 rfl (lv_at hl 0 rfl) ?_
      obtain ⟨kk_7, hk_8⟩ := pl_at ha0.1 hs9
      refine vp_callSi (va_runV (As := [.int p0, .int (nI i)]) (rest := []) ⟨hx, hb, hml, hown, hts⟩ (y_at l dC dI q h0 d k z f hI a0 la ca m9 d9 i9 gl gc ha0 hs9 hla hca hg9 hgb hc9 p0 (nI i)) (cwV 2 hts gX9_emptyIn_X9_at rfl rfl rfl (by decide +kernel) ⟨Nat.le_trans (Nat.le_of_ble_eq_true rfl) hRf, Nat.le_trans (Nat.le_of_ble_eq_true rfl) hRl⟩) ⟨px_fb, va_recv hK hP (ci := 8) (q0 := kk_7) rfl hk_8, fun U hU hW => ⟨rfl, px_to hU hW hP hK hN hXN⟩⟩ rfl rfl hl.1 rfl (lv_room (Nat.le_of_ble_eq_true rfl)) dX9_emptyIn_17 ⟨hRc, hRs⟩).run (fun r hw => ?_)
      generalize r = zr_9 at hw ⊢
      have hzr_9 := hw
      refine lv_bipush (v := (-2)) hx hb dX9_emptyIn_20 (by decide) ?_
      refine lv_icmp_ne (tgt := 28) hx hb dX9_emptyIn_22 (by decide) (fun c_10 => ?_) (fun c_10 => ?_)
      ·
        refine lv_iinc (v := (nI (i + 1))) (lv' := [(3, .int (nI (i + 1))), (2, .int a), (0, .ref a0), (1, .int p0)]) hx hb dX9_emptyIn_28 hl (k := 0) rfl (nI_1 i) (by decide) rfl (fun ls hl => ?_)
        refine lv_goto (tgt := 4) hx hb dX9_emptyIn_31 (by decide) ?_
        exact ih (i + 1) _ ls (by omega) (by omega) (by rw [hg]; exact shE_0 (fun h => c_10 (hzr_9.trans h))) (lv_sub hl [0, 1, 2, 3] rfl)
      ·
        obtain ⟨x_11, ex_11⟩ : ∃ y : Int32, y = a + 1 := ⟨_, rfl⟩
        refine lv_iinc (v := x_11) (lv' := [(2, .int x_11), (3, .int (nI i)), (0, .ref a0), (1, .int p0)]) hx hb dX9_emptyIn_25 hl (k := 1) rfl (by rw [ex_11]; rfl) (by decide) rfl (fun ls hl => ?_)
        refine lv_iinc (v := (nI (i + 1))) (lv' := [(3, .int (nI (i + 1))), (2, .int x_11), (0, .ref a0), (1, .int p0)]) hx hb dX9_emptyIn_28 hl (k := 1) rfl (nI_1 i) (by decide) rfl (fun ls hl => ?_)
        refine lv_goto (tgt := 4) hx hb dX9_emptyIn_31 (by decide) ?_
        exact ih (i + 1) _ ls (by omega) (by omega) (by rw [hg] at ex_11; exact shE_1 (hzr_9.symm.trans c_10) ex_11) (lv_sub hl [0, 1, 2, 3] rfl)
set_option maxHeartbeats 4000000 in
set_option maxRecDepth 100000 in
theorem y_emptyIn (l : Launch) (dC : Nat → ClassId) (dI : Nat → Nat → Nat) (q : Nat → ClassId) (h0 : Nat) (d : Nat → Nat) (k : Nat → Int32) (z : gS) (f : xF) (hI : xI q h0 d k z f) (a0 la ca : Nat) (m9 d9 i9 : Int32) (gl gc : Nat → Int32) (ha0 : tg z a0 7) (hs9 : f a0 = .inr (8, [.ref la, .ref ca, .int m9, .int d9, .int i9])) (hla : tg z la 8) (hca : tg z ca 9) (hg9 : f la = aI (q 0) 8 gl) (hgb : ∀ j, j < 8 → bw (gl j) 0 60 = true) (hc9 : f ca = aI (q 0) 480 gc) (p0 : Int32) (hp : bw p0 0 7 = true) : Met l yX9_emptyIn wsX9_emptyIn ({ frames := 3, cells := 0, slots := 0, locals := 64 }) (va_Pc [.ref a0, .int p0] (PX dC dI (va_pl z.1 f) (xT q))) (vp_Si (fun r => r = shE gl gc p0 (gl p0.toNatClampNeg).toNatClampNeg)) 0 0 (fun _ => False) := by
  refine Met.ofW (cc := cX9_emptyIn) (maxL := 4) (ret := (some .int)) (by decide) rfl ?_
  intro p e s m args below meth c s₁ B hml hv
  obtain ⟨rfl, ⟨hP, hK, hN⟩, hXN⟩ := hv
  have hx := B.exec
  have hb := B.bytes
  have hr := B.returns
  have hts := atoms_spec (ws := wsX9_emptyIn) B.pre
  have hown : s.vm.findClass RX9 = some m.cls := findClass_of_methodNamed B.named
  have hlocks := B.notSynchronized
  have hl := lv_entry ([.ref a0, .int p0]) (n := 4) (Nat.le_of_ble_eq_true rfl)
  rw [lg_entry_eq]
  generalize (lg_sl ([.ref a0, .int p0]) ++ List.replicate (4 - (lg_sl ([.ref a0, .int p0])).length) Slot.unset).toArray = ls at hl ⊢
  have hl : lv_has ls 4 [(0, .ref a0), (1, .int p0)] := hl
  refine lv_iconst (v := 0) hx hb dX9_emptyIn_0 (by decide) ?_
  refine lv_istore_n (lv' := [(2, .int 0), (0, .ref a0), (1, .int p0)]) hx hb dX9_emptyIn_1 rfl hl (by decide) rfl (fun ls hl => ?_)
  refine lv_iconst (v := 0) hx hb dX9_emptyIn_2 (by decide) ?_
  refine lv_istore_n (lv' := [(3, .int 0), (2, .int 0), (0, .ref a0), (1, .int p0)]) hx hb dX9_emptyIn_3 rfl hl (by decide) rfl (fun ls hl => ?_)
  obtain ⟨eK, eK2, eK3⟩ := nI_of_bw (hgb _ (vlt (vin hp (by decide))))
  have h60 : (60 : Int32).toInt = 60 := rfl
  refine y_emptyIn_l hI hx hb hml hts hown hN hXN hK (Nat.le_of_ble_eq_true rfl) (Nat.le_of_ble_eq_true rfl) (Nat.le_of_ble_eq_true rfl) (Nat.le_of_ble_eq_true rfl) hP ha0 hs9 hla hca hg9 hgb hc9 hp eK (by omega) (fun a9 ls ha9 hl => ?_) _ 0 0 ls (Nat.zero_le _) (Nat.lt_succ_self _) rfl (lv_sub hl [0, 1, 2, 3] rfl)
  refine lv_iload_n hx hb dX9_emptyIn_34 rfl (lv_at hl 0 rfl) ?_
  exact W.iret (v := a9) hx hb hr (fun t ht hW => ⟨_, rfl, ha9, ht⟩) (fun q h => absurd h List.not_mem_nil) dX9_emptyIn_35
set_option maxHeartbeats 4000000 in
set_option maxRecDepth 100000 in
theorem y_emptyCount_l {p : Program} {l : Launch} {e : Env} {R : Room} {s : State} {m : MethodId} {args : Array Value} {below : List Frame} {meth : Method} {c : Code} {Q : State → Prop} {cells slots : Nat} {dC : Nat → ClassId} {dI : Nat → Nat → Nat} {q : Nat → ClassId} {h0 : Nat} {d : Nat → Nat} {k : Nat → Int32} {z : gS} {f : xF} {H : Heap} {locs : List Loc} (hI : xI q h0 d k z f) (hx : p.tables.exec = Jvm.exec) (hb : c.code = cX9_emptyCount) (hml : c.maxLocals = 3) (hts : ∀ w ∈ wsX9_emptyCount, w.before args s = true) (hown : s.vm.findClass RX9 = some m.cls) (hN : NN s) (hXN : XN s) (hK : va_K (dC, dI) vwCl (xT q) s) (hRf : 4 ≤ R.frames) (hRl : 87 ≤ R.locals) (hRc : cells ≤ R.cells) (hRs : slots ≤ R.slots) (hP : va_P (dC, dI) vwCl (va_pl z.1 f) H) {a0 la ca : Nat} {m9 d9 i9 : Int32} {gl gc : Nat → Int32} (ha0 : tg z a0 7) (hs9 : f a0 = .inr (8, [.ref la, .ref ca, .int m9, .int d9, .int i9])) (hla : tg z la 8) (hca : tg z ca 9) (hg9 : f la = aI (q 0) 8 gl) (hgb : ∀ j, j < 8 → bw (gl j) 0 60 = true) (hc9 : f ca = aI (q 0) 480 gc) (kx24 : ∀ (a9 : Int32) (ls : Array Slot), a9 = shEC gl gc 8 → lv_has ls 3 [(1, .int a9), (0, .ref a0)] → W p l e R s m args below meth c H locs cells slots Q (F0 m 24 ls [])) : ∀ (kk i : Nat) (a : Int32) (ls : Array Slot), i ≤ 8 → 8 - i < kk → a = shEC gl gc i → lv_has ls 3 [(2, .int (nI i)), (1, .int a), (0, .ref a0)] → W p l e R s m args below meth c H locs cells slots Q (F0 m 4 ls []) := by
  intro kk
  induction kk with
  | zero => intro i a ls h1 h2; exact absurd h2 (Nat.not_lt_zero _)
  | succ kk ih =>
    intro i a ls hi hkk hg hl
    refine lv_iload_n hx hb dX9_emptyCount_4 rfl (lv_at hl 0 rfl) ?_
    refine lv_bipush (v := 8) hx hb dX9_emptyCount_5 (by decide) ?_
    refine lv_icmp_ge (tgt := 24) hx hb dX9_emptyCount_7 (by decide) (fun c_1 => ?_) (fun c_1 => ?_)
    ·
      have hie : i = 8 := lp_eq rfl (by decide) hi c_1
      exact kx24 _ ls (by rw [← hie]; exact hg) (lv_sub hl [1, 2] rfl)
    ·
      have hlt : i < 8 := lp_lt rfl (by decide) hi c_1
      refine lv_iload_n hx hb dX9_emptyCount_10 rfl (lv_at hl 1 rfl) ?_
      refine lv_aload_n hx hb dX9_emptyCount_11 rfl (lv_at hl 2 rfl) ?_
      refine lv_iload_n hx hb dX9_emptyCount_12 rfl (lv_at hl 0 rfl) ?_
      obtain ⟨kk_2, hk_3⟩ := pl_at ha0.1 hs9
      refine vp_callSi (va_runV (As := [.int (nI i)]) (rest := [.int a]) ⟨hx, hb, hml, hown, hts⟩ (y_emptyIn l dC dI q h0 d k z f hI a0 la ca m9 d9 i9 gl gc ha0 hs9 hla hca hg9 hgb hc9 (nI i) (bw7 hlt)) (cwV 1 hts gX9_emptyCount_X9_emptyIn rfl rfl rfl (by decide +kernel) ⟨Nat.le_trans (Nat.le_of_ble_eq_true rfl) hRf, Nat.le_trans (Nat.le_of_ble_eq_true rfl) hRl⟩) ⟨px_fb, va_recv hK hP (ci := 8) (q0 := kk_2) rfl hk_3, fun U hU hW => ⟨rfl, px_to hU hW hP hK hN hXN⟩⟩ rfl rfl hl.1 rfl (lv_room (Nat.le_of_ble_eq_true rfl)) dX9_emptyCount_13 ⟨hRc, hRs⟩).run (fun r hw => ?_)
      generalize r = zr_4 at hw ⊢
      have hzr_4 := hw
      refine lv_iadd hx hb dX9_emptyCount_16 ?_
      refine lv_topi (fun x_5 ex_5 => ?_)
      refine lv_istore_n (lv' := [(1, .int x_5), (2, .int (nI i)), (0, .ref a0)]) hx hb dX9_emptyCount_17 rfl hl (by decide) rfl (fun ls hl => ?_)
      refine lv_iinc (v := (nI (i + 1))) (lv' := [(2, .int (nI (i + 1))), (1, .int x_5), (0, .ref a0)]) hx hb dX9_emptyCount_18 hl (k := 1) rfl (nI_1 i) (by decide) rfl (fun ls hl => ?_)
      refine lv_goto (tgt := 4) hx hb dX9_emptyCount_21 (by decide) ?_
      exact ih (i + 1) _ ls (by omega) (by omega) (by rw [ex_5, hg, hzr_4]; rfl) (lv_sub hl [0, 1, 2] rfl)
set_option maxHeartbeats 4000000 in
set_option maxRecDepth 100000 in
theorem y_emptyCount (l : Launch) (dC : Nat → ClassId) (dI : Nat → Nat → Nat) (q : Nat → ClassId) (h0 : Nat) (d : Nat → Nat) (k : Nat → Int32) (z : gS) (f : xF) (hI : xI q h0 d k z f) (a0 la ca : Nat) (m9 d9 i9 : Int32) (gl gc : Nat → Int32) (ha0 : tg z a0 7) (hs9 : f a0 = .inr (8, [.ref la, .ref ca, .int m9, .int d9, .int i9])) (hla : tg z la 8) (hca : tg z ca 9) (hg9 : f la = aI (q 0) 8 gl) (hgb : ∀ j, j < 8 → bw (gl j) 0 60 = true) (hc9 : f ca = aI (q 0) 480 gc) : Met l yX9_emptyCount wsX9_emptyCount ({ frames := 4, cells := 0, slots := 0, locals := 87 }) (va_Pc [.ref a0] (PX dC dI (va_pl z.1 f) (xT q))) (vp_Si (fun r => r = shEC gl gc 8)) 0 0 (fun _ => False) := by
  refine Met.ofW (cc := cX9_emptyCount) (maxL := 3) (ret := (some .int)) (by decide) rfl ?_
  intro p e s m args below meth c s₁ B hml hv
  obtain ⟨rfl, ⟨hP, hK, hN⟩, hXN⟩ := hv
  have hx := B.exec
  have hb := B.bytes
  have hr := B.returns
  have hts := atoms_spec (ws := wsX9_emptyCount) B.pre
  have hown : s.vm.findClass RX9 = some m.cls := findClass_of_methodNamed B.named
  have hlocks := B.notSynchronized
  have hl := lv_entry ([.ref a0]) (n := 3) (Nat.le_of_ble_eq_true rfl)
  rw [lg_entry_eq]
  generalize (lg_sl ([.ref a0]) ++ List.replicate (3 - (lg_sl ([.ref a0])).length) Slot.unset).toArray = ls at hl ⊢
  have hl : lv_has ls 3 [(0, .ref a0)] := hl
  refine lv_iconst (v := 0) hx hb dX9_emptyCount_0 (by decide) ?_
  refine lv_istore_n (lv' := [(1, .int 0), (0, .ref a0)]) hx hb dX9_emptyCount_1 rfl hl (by decide) rfl (fun ls hl => ?_)
  refine lv_iconst (v := 0) hx hb dX9_emptyCount_2 (by decide) ?_
  refine lv_istore_n (lv' := [(2, .int 0), (1, .int 0), (0, .ref a0)]) hx hb dX9_emptyCount_3 rfl hl (by decide) rfl (fun ls hl => ?_)
  refine y_emptyCount_l hI hx hb hml hts hown hN hXN hK (Nat.le_of_ble_eq_true rfl) (Nat.le_of_ble_eq_true rfl) (Nat.le_of_ble_eq_true rfl) (Nat.le_of_ble_eq_true rfl) hP ha0 hs9 hla hca hg9 hgb hc9 (fun a9 ls ha9 hl => ?_) 9 0 0 ls (by decide) (by decide) rfl (lv_sub hl [0, 1, 2] rfl)
  refine lv_iload_n hx hb dX9_emptyCount_24 rfl (lv_at hl 0 rfl) ?_
  exact W.iret (v := a9) hx hb hr (fun t ht hW => ⟨_, rfl, ha9, ht⟩) (fun q h => absurd h List.not_mem_nil) dX9_emptyCount_25
set_option maxHeartbeats 4000000 in
set_option maxRecDepth 100000 in
theorem y_cellCount_l {p : Program} {l : Launch} {e : Env} {R : Room} {s : State} {m : MethodId} {args : Array Value} {below : List Frame} {meth : Method} {c : Code} {Q : State → Prop} {cells slots : Nat} {dC : Nat → ClassId} {dI : Nat → Nat → Nat} {q : Nat → ClassId} {h0 : Nat} {d : Nat → Nat} {k : Nat → Int32} {z : gS} {f : xF} {H : Heap} {locs : List Loc} (hI : xI q h0 d k z f) (hx : p.tables.exec = Jvm.exec) (hb : c.code = cX9_cellCount) (hml : c.maxLocals = 3) (hts : ∀ w ∈ wsX9_cellCount, w.before args s = true) (hown : s.vm.findClass RX9 = some m.cls) (hN : NN s) (hXN : XN s) (hK : va_K (dC, dI) vwCl (xT q) s) (hP : va_P (dC, dI) vwCl (va_pl z.1 f) H) {a0 la ca : Nat} {m9 d9 i9 : Int32} {gl gc : Nat → Int32} (ha0 : tg z a0 7) (hs9 : f a0 = .inr (8, [.ref la, .ref ca, .int m9, .int d9, .int i9])) (hla : tg z la 8) (hca : tg z ca 9) (hg9 : f la = aI (q 0) 8 gl) (hgb : ∀ j, j < 8 → bw (gl j) 0 60 = true) (hc9 : f ca = aI (q 0) 480 gc) (kx25 : ∀ (a9 : Int32) (ls : Array Slot), a9 = shCC gl 8 → lv_has ls 3 [(1, .int a9), (0, .ref a0)] → W p l e R s m args below meth c H locs cells slots Q (F0 m 25 ls [])) : ∀ (kk i : Nat) (a : Int32) (ls : Array Slot), i ≤ 8 → 8 - i < kk → a = shCC gl i → lv_has ls 3 [(2, .int (nI i)), (1, .int a), (0, .ref a0)] → W p l e R s m args below meth c H locs cells slots Q (F0 m 4 ls []) := by
  intro kk
  induction kk with
  | zero => intro i a ls h1 h2; exact absurd h2 (Nat.not_lt_zero _)
  | succ kk ih =>
    intro i a ls hi hkk hg hl
    refine lv_iload_n hx hb dX9_cellCount_4 rfl (lv_at hl 0 rfl) ?_
    refine lv_bipush (v := 8) hx hb dX9_cellCount_5 (by decide) ?_
    refine lv_icmp_ge (tgt := 25) hx hb dX9_cellCount_7 (by decide) (fun c_1 => ?_) (fun c_1 => ?_)
    ·
      have hie : i = 8 := lp_eq rfl (by decide) hi c_1
      exact kx25 _ ls (by rw [← hie]; exact hg) (lv_sub hl [1, 2] rfl)
    ·
      have hlt : i < 8 := lp_lt rfl (by decide) hi c_1
      refine lv_iload_n hx hb dX9_cellCount_10 rfl (lv_at hl 1 rfl) ?_
      refine lv_aload_n hx hb dX9_cellCount_11 rfl (lv_at hl 2 rfl) ?_
      obtain ⟨kk_2, hk_3⟩ := pl_at ha0.1 hs9
      refine va_get (D := (dC, dI)) (ci := 8) (v := .ref la) (C := RX9) (T := TX9) (N := 5) hx hb hts (by decide +kernel) hown hK hP kk_2 hk_3 rfl 0 (by decide) (hts (.fieldLink RX9 9 "PageOne$Sheet" "lines" "[I") (by decide +kernel)) (fun _ h9 => h9) rfl dX9_cellCount_12 ?_
      refine lv_iload_n hx hb dX9_cellCount_15 rfl (lv_at hl 0 rfl) ?_
      obtain ⟨kk_4, hk_5⟩ := pl_at hla.1 hg9
      refine va_iald hx hb hK hP kk_4 0 hk_5 rfl (vp_in_nI hlt (by decide)) dX9_cellCount_16 ?_
      refine lv_iadd hx hb dX9_cellCount_17 ?_
      refine lv_topi (fun x_6 ex_6 => ?_)
      refine lv_istore_n (lv' := [(1, .int x_6), (2, .int (nI i)), (0, .ref a0)]) hx hb dX9_cellCount_18 rfl hl (by decide) rfl (fun ls hl => ?_)
      refine lv_iinc (v := (nI (i + 1))) (lv' := [(2, .int (nI (i + 1))), (1, .int x_6), (0, .ref a0)]) hx hb dX9_cellCount_19 hl (k := 1) rfl (nI_1 i) (by decide) rfl (fun ls hl => ?_)
      refine lv_goto (tgt := 4) hx hb dX9_cellCount_22 (by decide) ?_
      exact ih (i + 1) _ ls (by omega) (by omega) (by rw [ex_6, hg]; rfl) (lv_sub hl [0, 1, 2] rfl)
set_option maxHeartbeats 4000000 in
set_option maxRecDepth 100000 in
theorem y_cellCount (l : Launch) (dC : Nat → ClassId) (dI : Nat → Nat → Nat) (q : Nat → ClassId) (h0 : Nat) (d : Nat → Nat) (k : Nat → Int32) (z : gS) (f : xF) (hI : xI q h0 d k z f) (a0 la ca : Nat) (m9 d9 i9 : Int32) (gl gc : Nat → Int32) (ha0 : tg z a0 7) (hs9 : f a0 = .inr (8, [.ref la, .ref ca, .int m9, .int d9, .int i9])) (hla : tg z la 8) (hca : tg z ca 9) (hg9 : f la = aI (q 0) 8 gl) (hgb : ∀ j, j < 8 → bw (gl j) 0 60 = true) (hc9 : f ca = aI (q 0) 480 gc) : Met l yX9_cellCount wsX9_cellCount ({ frames := 0, cells := 0, slots := 0, locals := 0 }) (va_Pc [.ref a0] (PX dC dI (va_pl z.1 f) (xT q))) (vp_Si (fun r => r = shCC gl 8)) 0 0 (fun _ => False) := by
  refine Met.ofW (cc := cX9_cellCount) (maxL := 3) (ret := (some .int)) (by decide) rfl ?_
  intro p e s m args below meth c s₁ B hml hv
  obtain ⟨rfl, ⟨hP, hK, hN⟩, hXN⟩ := hv
  have hx := B.exec
  have hb := B.bytes
  have hr := B.returns
  have hts := atoms_spec (ws := wsX9_cellCount) B.pre
  have hown : s.vm.findClass RX9 = some m.cls := findClass_of_methodNamed B.named
  have hlocks := B.notSynchronized
  have hl := lv_entry ([.ref a0]) (n := 3) (Nat.le_of_ble_eq_true rfl)
  rw [lg_entry_eq]
  generalize (lg_sl ([.ref a0]) ++ List.replicate (3 - (lg_sl ([.ref a0])).length) Slot.unset).toArray = ls at hl ⊢
  have hl : lv_has ls 3 [(0, .ref a0)] := hl
  refine lv_iconst (v := 0) hx hb dX9_cellCount_0 (by decide) ?_
  refine lv_istore_n (lv' := [(1, .int 0), (0, .ref a0)]) hx hb dX9_cellCount_1 rfl hl (by decide) rfl (fun ls hl => ?_)
  refine lv_iconst (v := 0) hx hb dX9_cellCount_2 (by decide) ?_
  refine lv_istore_n (lv' := [(2, .int 0), (1, .int 0), (0, .ref a0)]) hx hb dX9_cellCount_3 rfl hl (by decide) rfl (fun ls hl => ?_)
  refine y_cellCount_l hI hx hb hml hts hown hN hXN hK hP ha0 hs9 hla hca hg9 hgb hc9 (fun a9 ls ha9 hl => ?_) 9 0 0 ls (by decide) (by decide) rfl (lv_sub hl [0, 1, 2] rfl)
  refine lv_iload_n hx hb dX9_cellCount_25 rfl (lv_at hl 0 rfl) ?_
  exact W.iret (v := a9) hx hb hr (fun t ht hW => ⟨_, rfl, ha9, ht⟩) (fun q h => absurd h List.not_mem_nil) dX9_cellCount_26
set_option maxHeartbeats 4000000 in
set_option maxRecDepth 100000 in
theorem y_spot_in {p : Program} {l : Launch} {e : Env} {R : Room} {s : State} {m : MethodId} {args : Array Value} {below : List Frame} {meth : Method} {c : Code} {Q : State → Prop} {cells slots : Nat} {dC : Nat → ClassId} {dI : Nat → Nat → Nat} {q : Nat → ClassId} {h0 : Nat} {d : Nat → Nat} {k : Nat → Int32} {z : gS} {f : xF} {H : Heap} {locs : List Loc} (hI : xI q h0 d k z f) (hx : p.tables.exec = Jvm.exec) (hb : c.code = cX9_spotOf) (hml : c.maxLocals = 4) (hts : ∀ w ∈ wsX9_spotOf, w.before args s = true) (hown : s.vm.findClass RX9 = some m.cls) (hN : NN s) (hXN : XN s) (hK : va_K (dC, dI) vwCl (xT q) s) (hRf : 3 ≤ R.frames) (hRl : 64 ≤ R.locals) (hRc : cells ≤ R.cells) (hRs : slots ≤ R.slots) (hP : va_P (dC, dI) vwCl (va_pl z.1 f) H) {a0 la ca : Nat} {m9 d9 i9 : Int32} {gl gc : Nat → Int32} (ha0 : tg z a0 7) (hs9 : f a0 = .inr (8, [.ref la, .ref ca, .int m9, .int d9, .int i9])) (hla : tg z la 8) (hca : tg z ca 9) (hg9 : f la = aI (q 0) 8 gl) (hgb : ∀ j, j < 8 → bw (gl j) 0 60 = true) (hc9 : f ca = aI (q 0) 480 gc) {p0 : Int32} {c9 K : Nat} (hc8 : c9 < 8) (eK : gl (nI c9).toNatClampNeg = nI K) (hK6 : K ≤ 60) (kx43 : ∀ (ls : Array Slot), shNo gl gc p0 c9 K → lv_has ls 4 [(2, .int (nI c9)), (0, .ref a0), (1, .int p0)] → W p l e R s m args below meth c H locs cells slots Q (F0 m 43 ls [])) (kx30 : ∀ (l9 : Nat) (ls : Array Slot), (l9 < K ∧ shAt gl gc (nI c9) (nI l9) = p0 ∧ shNo gl gc p0 c9 l9) → lv_has ls 4 [(3, .int (nI l9)), (2, .int (nI c9)), (0, .ref a0), (1, .int p0)] → W p l e R s m args below meth c H locs cells slots Q (F0 m 30 ls [])) : ∀ (kk i : Nat) (ls : Array Slot), i ≤ K → K - i < kk → shNo gl gc p0 c9 i → lv_has ls 4 [(3, .int (nI i)), (2, .int (nI c9)), (0, .ref a0), (1, .int p0)] → W p l e R s m args below meth c H locs cells slots Q (F0 m 10 ls []) := by
  intro kk
  induction kk with
  | zero => intro i ls h1 h2; exact absurd h2 (Nat.not_lt_zero _)
  | succ kk ih =>
    intro i ls hi hkk hg hl
    refine lv_iload_n hx hb dX9_spotOf_10 rfl (lv_at hl 0 rfl) ?_
    refine lv_aload_n hx hb dX9_spotOf_11 rfl (lv_at hl 2 rfl) ?_
    obtain ⟨kk_1, hk_2⟩ := pl_at ha0.1 hs9
    refine va_get (D := (dC, dI)) (ci := 8) (v := .ref la) (C := RX9) (T := TX9) (N := 5) hx hb hts (by decide +kernel) hown hK hP kk_1 hk_2 rfl 0 (by decide) (hts (.fieldLink RX9 9 "PageOne$Sheet" "lines" "[I") (by decide +kernel)) (fun _ h9 => h9) rfl dX9_spotOf_12 ?_
    refine lv_iload_n hx hb dX9_spotOf_15 rfl (lv_at hl 1 rfl) ?_
    obtain ⟨kk_3, hk_4⟩ := pl_at hla.1 hg9
    refine va_iald hx hb hK hP kk_3 0 hk_4 rfl (vp_in_nI hc8 (by decide)) dX9_spotOf_16 ?_
    refine lv_topi (fun y_5 ey_5 => ?_)
    obtain rfl : y_5 = (nI K) := ey_5.trans (eK)
    refine lv_icmp_ge (tgt := 43) hx hb dX9_spotOf_17 (by decide) (fun c_6 => ?_) (fun c_6 => ?_)
    ·
      have hie : i = K := lp_eq rfl (by omega) hi c_6
      exact kx43 ls (by rw [← hie]; exact hg) (lv_sub hl [1, 2, 3] rfl)
    ·
      have hlt : i < K := lp_lt rfl (by omega) hi c_6
      refine lv_aload_n hx hb dX9_spotOf_20 rfl (lv_at hl 2 rfl) ?_
      refine lv_iload_n hx hb dX9_spotOf_21 rfl (lv_at hl 1 rfl) ?_
      refine lv_iload_n hx hb dX9_spotOf_22 rfl (lv_at hl 0 rfl) ?_
      obtain ⟨kk_7, hk_8⟩ := pl_at ha0.1 hs9
      refine vp_callSi (va_runV (As := [.int (nI c9), .int (nI i)]) (rest := []) ⟨hx, hb, hml, hown, hts⟩ (y_at l dC dI q h0 d k z f hI a0 la ca m9 d9 i9 gl gc ha0 hs9 hla hca hg9 hgb hc9 (nI c9) (nI i)) (cwV 2 hts gX9_spotOf_X9_at rfl rfl rfl (by decide +kernel) ⟨Nat.le_trans (Nat.le_of_ble_eq_true rfl) hRf, Nat.le_trans (Nat.le_of_ble_eq_true rfl) hRl⟩) ⟨px_fb, va_recv hK hP (ci := 8) (q0 := kk_7) rfl hk_8, fun U hU hW => ⟨rfl, px_to hU hW hP hK hN hXN⟩⟩ rfl rfl hl.1 rfl (lv_room (Nat.le_of_ble_eq_true rfl)) dX9_spotOf_23 ⟨hRc, hRs⟩).run (fun r hw => ?_)
      generalize r = zr_9 at hw ⊢
      have hzr_9 := hw
      refine lv_iload_n hx hb dX9_spotOf_26 rfl (lv_at hl 3 rfl) ?_
      refine lv_icmp_ne (tgt := 37) hx hb dX9_spotOf_27 (by decide) (fun c_10 => ?_) (fun c_10 => ?_)
      ·
        refine lv_iinc (v := (nI (i + 1))) (lv' := [(3, .int (nI (i + 1))), (2, .int (nI c9)), (0, .ref a0), (1, .int p0)]) hx hb dX9_spotOf_37 hl (k := 0) rfl (nI_1 i) (by decide) rfl (fun ls hl => ?_)
        refine lv_goto (tgt := 10) hx hb dX9_spotOf_40 (by decide) ?_
        exact ih (i + 1) ls (by omega) (by omega) (shNo_l hg (fun h => c_10 (hzr_9.trans h))) (lv_sub hl [0, 1, 2, 3] rfl)
      ·
        exact kx30 _ ls ⟨hlt, hzr_9.symm.trans c_10, hg⟩ (lv_sub hl [0, 1, 2, 3] rfl)
set_option maxHeartbeats 4000000 in
set_option maxRecDepth 100000 in
theorem y_spot_out {p : Program} {l : Launch} {e : Env} {R : Room} {s : State} {m : MethodId} {args : Array Value} {below : List Frame} {meth : Method} {c : Code} {Q : State → Prop} {cells slots : Nat} {dC : Nat → ClassId} {dI : Nat → Nat → Nat} {q : Nat → ClassId} {h0 : Nat} {d : Nat → Nat} {k : Nat → Int32} {z : gS} {f : xF} {H : Heap} {locs : List Loc} (hI : xI q h0 d k z f) (hx : p.tables.exec = Jvm.exec) (hb : c.code = cX9_spotOf) (hml : c.maxLocals = 4) (hts : ∀ w ∈ wsX9_spotOf, w.before args s = true) (hown : s.vm.findClass RX9 = some m.cls) (hN : NN s) (hXN : XN s) (hK : va_K (dC, dI) vwCl (xT q) s) (hRf : 3 ≤ R.frames) (hRl : 64 ≤ R.locals) (hRc : cells ≤ R.cells) (hRs : slots ≤ R.slots) (hP : va_P (dC, dI) vwCl (va_pl z.1 f) H) {a0 la ca : Nat} {m9 d9 i9 : Int32} {gl gc : Nat → Int32} (ha0 : tg z a0 7) (hs9 : f a0 = .inr (8, [.ref la, .ref ca, .int m9, .int d9, .int i9])) (hla : tg z la 8) (hca : tg z ca 9) (hg9 : f la = aI (q 0) 8 gl) (hgb : ∀ j, j < 8 → bw (gl j) 0 60 = true) (hc9 : f ca = aI (q 0) 480 gc) {p0 : Int32} (kx49 : ∀ (ls : Array Slot), shNo gl gc p0 8 0 → lv_has ls 4 [(0, .ref a0), (1, .int p0)] → W p l e R s m args below meth c H locs cells slots Q (F0 m 49 ls [])) (kx30 : ∀ (l9 : Nat) (c9 : Nat) (ls : Array Slot), (c9 < 8 ∧ l9 < (gl (nI c9).toNatClampNeg).toNatClampNeg ∧ shAt gl gc (nI c9) (nI l9) = p0 ∧ shNo gl gc p0 c9 l9) → lv_has ls 4 [(3, .int (nI l9)), (2, .int (nI c9)), (0, .ref a0), (1, .int p0)] → W p l e R s m args below meth c H locs cells slots Q (F0 m 30 ls [])) : ∀ (kk i : Nat) (ls : Array Slot), i ≤ 8 → 8 - i < kk → shNo gl gc p0 i 0 → lv_has ls 4 [(2, .int (nI i)), (0, .ref a0), (1, .int p0)] → W p l e R s m args below meth c H locs cells slots Q (F0 m 2 ls []) := by
  intro kk
  induction kk with
  | zero => intro i ls h1 h2; exact absurd h2 (Nat.not_lt_zero _)
  | succ kk ih =>
    intro i ls hi hkk hg hl
    refine lv_iload_n hx hb dX9_spotOf_2 rfl (lv_at hl 0 rfl) ?_
    refine lv_bipush (v := 8) hx hb dX9_spotOf_3 (by decide) ?_
    refine lv_icmp_ge (tgt := 49) hx hb dX9_spotOf_5 (by decide) (fun c_1 => ?_) (fun c_1 => ?_)
    ·
      have hie : i = 8 := lp_eq rfl (by decide) hi c_1
      exact kx49 ls (by rw [← hie]; exact hg) (lv_sub hl [1, 2] rfl)
    ·
      have hlt : i < 8 := lp_lt rfl (by decide) hi c_1
      refine lv_iconst (v := 0) hx hb dX9_spotOf_8 (by decide) ?_
      refine lv_istore_n (lv' := [(3, .int 0), (2, .int (nI i)), (0, .ref a0), (1, .int p0)]) hx hb dX9_spotOf_9 rfl hl (by decide) rfl (fun ls hl => ?_)
      obtain ⟨eK, eK2, eK3⟩ := nI_of_bw (hgb (nI i).toNatClampNeg (by rw [nI_clamp (by omega)]; exact hlt))
      have h60 : (60 : Int32).toInt = 60 := rfl
      refine y_spot_in (p0 := p0) (c9 := i) (K := (gl (nI i).toNatClampNeg).toNatClampNeg) hI hx hb hml hts hown hN hXN hK hRf hRl hRc hRs hP ha0 hs9 hla hca hg9 hgb hc9 hlt eK (by omega) (fun ls hno hl => ?_) (fun l9 ls hh hl => kx30 _ _ ls ⟨hlt, hh⟩ hl) _ 0 ls (Nat.zero_le _) (Nat.lt_succ_self _) hg (lv_sub hl [0, 1, 2, 3] rfl)
      refine lv_iinc (v := (nI (i + 1))) (lv' := [(2, .int (nI (i + 1))), (0, .ref a0), (1, .int p0)]) hx hb dX9_spotOf_43 hl (k := 0) rfl (nI_1 i) (by decide) rfl (fun ls hl => ?_)
      refine lv_goto (tgt := 2) hx hb dX9_spotOf_46 (by decide) ?_
      exact ih (i + 1) ls (by omega) (by omega) (shNo_c hno rfl) (lv_sub hl [0, 1, 2] rfl)
set_option maxHeartbeats 4000000 in
set_option maxRecDepth 100000 in
theorem y_spotOf (l : Launch) (dC : Nat → ClassId) (dI : Nat → Nat → Nat) (q : Nat → ClassId) (h0 : Nat) (d : Nat → Nat) (k : Nat → Int32) (z : gS) (f : xF) (hI : xI q h0 d k z f) (a0 la ca : Nat) (m9 d9 i9 : Int32) (gl gc : Nat → Int32) (ha0 : tg z a0 7) (hs9 : f a0 = .inr (8, [.ref la, .ref ca, .int m9, .int d9, .int i9])) (hla : tg z la 8) (hca : tg z ca 9) (hg9 : f la = aI (q 0) 8 gl) (hgb : ∀ j, j < 8 → bw (gl j) 0 60 = true) (hc9 : f ca = aI (q 0) 480 gc) (p0 : Int32) : Met l yX9_spotOf wsX9_spotOf ({ frames := 3, cells := 0, slots := 0, locals := 64 }) (va_Pc [.ref a0, .int p0] (PX dC dI (va_pl z.1 f) (xT q))) (vp_Si (fun r => shSp gl gc p0 r)) 0 0 (fun _ => False) := by
  refine Met.ofW (cc := cX9_spotOf) (maxL := 4) (ret := (some .int)) (by decide) rfl ?_
  intro p e s m args below meth c s₁ B hml hv
  obtain ⟨rfl, ⟨hP, hK, hN⟩, hXN⟩ := hv
  have hx := B.exec
  have hb := B.bytes
  have hr := B.returns
  have hts := atoms_spec (ws := wsX9_spotOf) B.pre
  have hown : s.vm.findClass RX9 = some m.cls := findClass_of_methodNamed B.named
  have hlocks := B.notSynchronized
  have hl := lv_entry ([.ref a0, .int p0]) (n := 4) (Nat.le_of_ble_eq_true rfl)
  rw [lg_entry_eq]
  generalize (lg_sl ([.ref a0, .int p0]) ++ List.replicate (4 - (lg_sl ([.ref a0, .int p0])).length) Slot.unset).toArray = ls at hl ⊢
  have hl : lv_has ls 4 [(0, .ref a0), (1, .int p0)] := hl
  refine lv_iconst (v := 0) hx hb dX9_spotOf_0 (by decide) ?_
  refine lv_istore_n (lv' := [(2, .int 0), (0, .ref a0), (1, .int p0)]) hx hb dX9_spotOf_1 rfl hl (by decide) rfl (fun ls hl => ?_)
  refine y_spot_out (p0 := p0) hI hx hb hml hts hown hN hXN hK (Nat.le_of_ble_eq_true rfl) (Nat.le_of_ble_eq_true rfl) (Nat.le_of_ble_eq_true rfl) (Nat.le_of_ble_eq_true rfl) hP ha0 hs9 hla hca hg9 hgb hc9 (fun ls hno hl => ?_) (fun l9 c9 ls hh hl => ?_) 9 0 ls (by decide) (by decide) (shNo_z _ _ _) (lv_sub hl [0, 1, 2] rfl)
  ·
    refine lv_iconst (v := (-1)) hx hb dX9_spotOf_49 (by decide) ?_
    exact W.iret (v := (-1)) hx hb hr (fun t ht hW => ⟨_, rfl, (Or.inl ⟨rfl, hno⟩), ht⟩) (fun q h => absurd h List.not_mem_nil) dX9_spotOf_50
  ·
    refine lv_iload_n hx hb dX9_spotOf_30 rfl (lv_at hl 1 rfl) ?_
    refine lv_bipush (v := 60) hx hb dX9_spotOf_31 (by decide) ?_
    refine lv_imul hx hb dX9_spotOf_33 ?_
    refine lv_iload_n hx hb dX9_spotOf_34 rfl (lv_at hl 0 rfl) ?_
    refine lv_iadd hx hb dX9_spotOf_35 ?_
    exact W.iret (v := (((nI c9) * 60) + (nI l9))) hx hb hr (fun t ht hW => ⟨_, rfl, (Or.inr ⟨c9, l9, hh.1, hh.2.1, rfl, hh.2.2⟩), ht⟩) (fun q h => absurd h List.not_mem_nil) dX9_spotOf_36
