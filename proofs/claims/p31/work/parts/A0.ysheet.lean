/-- a sheet's cell, by its lines gl and cells gc -/
def shAt (gl gc : Nat → Int32) (c l : Int32) : Int32 := if bw c 0 7 = true then (if bw l 0 (gl c.toNatClampNeg - 1) = true then gc (c * 60 + l).toNatClampNeg else (-1)) else (-1)
def shE (gl gc : Nat → Int32) (c : Int32) : Nat → Int32
  | 0 => 0
  | n + 1 => shE gl gc c n + (if shAt gl gc c (nI n) = (-2) then 1 else 0)
def shEC (gl gc : Nat → Int32) : Nat → Int32
  | 0 => 0
  | n + 1 => shEC gl gc n + shE gl gc (nI n) (gl (nI n).toNatClampNeg).toNatClampNeg
def shCC (gl : Nat → Int32) : Nat → Int32
  | 0 => 0
  | n + 1 => shCC gl n + gl (nI n).toNatClampNeg
/-- a number's first cell, by column, then line -/
def shNo (gl gc : Nat → Int32) (x : Int32) (c l : Nat) : Prop := ∀ c' l', c' < 8 → l' < (gl (nI c').toNatClampNeg).toNatClampNeg → (c' < c ∨ (c' = c ∧ l' < l)) → ¬ shAt gl gc (nI c') (nI l') = x
def shSp (gl gc : Nat → Int32) (x r : Int32) : Prop := (r = -1 ∧ shNo gl gc x 8 0) ∨ (∃ c l : Nat, c < 8 ∧ l < (gl (nI c).toNatClampNeg).toNatClampNeg ∧ r = nI c * 60 + nI l ∧ shAt gl gc (nI c) (nI l) = x ∧ shNo gl gc x c l)
def shFr (gl gc : Nat → Int32) (X Y D N : Int32) : Prop := (bw D 1 8 && bw N 1 60) = true ∧ bw X 0 7 = true ∧ bw Y 0 (60 - N) = true ∧ ∀ a, a < D.toNatClampNeg → ∀ b, b < N.toNatClampNeg → shAt gl gc (X + nI a) (Y + nI b) = (-2)
theorem shE_1 {gl gc : Nat → Int32} {c : Int32} {n : Nat} (h : shAt gl gc c (nI n) = (-2)) {x : Int32} (hx : x = shE gl gc c n + 1) : x = shE gl gc c (n + 1) := by
  show x = shE gl gc c n + (if shAt gl gc c (nI n) = (-2) then 1 else 0)
  rw [if_pos h]; exact hx
theorem shE_0 {gl gc : Nat → Int32} {c : Int32} {n : Nat} (h : ¬ shAt gl gc c (nI n) = (-2)) : shE gl gc c n = shE gl gc c (n + 1) := by
  show _ = shE gl gc c n + (if shAt gl gc c (nI n) = (-2) then 1 else 0)
  rw [if_neg h]; exact (Int32.add_zero _).symm
theorem shNo_z (gl gc : Nat → Int32) (x : Int32) : shNo gl gc x 0 0 := fun c' l' _ _ h => by omega
theorem shNo_l {gl gc : Nat → Int32} {x : Int32} {c l : Nat} (h : shNo gl gc x c l) (hn : ¬ shAt gl gc (nI c) (nI l) = x) : shNo gl gc x c (l + 1) := fun c' l' h1 h2 h3 => by
  by_cases e : c' = c ∧ l' = l
  · rw [e.1, e.2]; exact hn
  · exact h c' l' h1 h2 (by omega)
theorem shNo_c {gl gc : Nat → Int32} {x : Int32} {c l : Nat} (h : shNo gl gc x c l) (hl : l = (gl (nI c).toNatClampNeg).toNatClampNeg) : shNo gl gc x (c + 1) 0 := fun c' l' h1 h2 h3 => by
  by_cases e : c' = c
  · subst e; exact h c' l' h1 h2 (Or.inr ⟨rfl, by omega⟩)
  · exact h c' l' h1 h2 (Or.inl (by omega))
set_option maxHeartbeats 4000000 in
set_option maxRecDepth 100000 in
theorem y_at (l : Launch) (dC : Nat → ClassId) (dI : Nat → Nat → Nat) (q : Nat → ClassId) (h0 : Nat) (d : Nat → Nat) (k : Nat → Int32) (z : gS) (f : xF) (hI : xI q h0 d k z f) (a0 la ca : Nat) (m9 d9 i9 : Int32) (gl gc : Nat → Int32) (ha0 : tg z a0 7) (hs9 : f a0 = .inr (8, [.ref la, .ref ca, .int m9, .int d9, .int i9])) (hla : tg z la 8) (hca : tg z ca 9) (hg9 : f la = aI (q 0) 8 gl) (hgb : ∀ j, j < 8 → bw (gl j) 0 60 = true) (hc9 : f ca = aI (q 0) 480 gc) (p0 p1 : Int32) : Met l yX9_at wsX9_at ({ frames := 2, cells := 0, slots := 0, locals := 42 }) (va_Pc [.ref a0, .int p0, .int p1] (PX dC dI (va_pl z.1 f) (xT q))) (vp_Si (fun r => r = shAt gl gc p0 p1)) 0 0 (fun _ => False) := by
  refine Met.ofW (cc := cX9_at) (maxL := 3) (ret := (some .int)) (by decide) rfl ?_
  intro p e s m args below meth c s₁ B hml hv
  obtain ⟨rfl, ⟨hP, hK, hN⟩, hXN⟩ := hv
  have hx := B.exec
  have hb := B.bytes
  have hr := B.returns
  have hts := atoms_spec (ws := wsX9_at) B.pre
  have hown : s.vm.findClass RX9 = some m.cls := findClass_of_methodNamed B.named
  have hlocks := B.notSynchronized
  have hl := lv_entry ([.ref a0, .int p0, .int p1]) (n := 3) (Nat.le_of_ble_eq_true rfl)
  rw [lg_entry_eq]
  generalize (lg_sl ([.ref a0, .int p0, .int p1]) ++ List.replicate (3 - (lg_sl ([.ref a0, .int p0, .int p1])).length) Slot.unset).toArray = ls at hl ⊢
  have hl : lv_has ls 3 [(0, .ref a0), (1, .int p0), (2, .int p1)] := hl
  refine lv_iload_n hx hb dX9_at_0 rfl (lv_at hl 1 rfl) ?_
  refine vp_callSi (va_runSN (As := [.int p0]) (rest := []) ⟨hx, hb, hml, hown, hts⟩ (x_isColumn l dC dI p0) ⟨va_cnB (host := "PageOne") 1 hts gX9_at_X11_isColumn_n34 rfl rfl rfl hN.n_RX9_34 (hts (.initialized RX11) (zat q_wsX9_at k_wsX9_at 53 rfl (by decide +kernel))) (by decide +kernel) ⟨Nat.le_of_ble_eq_true rfl, Nat.le_of_ble_eq_true rfl⟩, hts (.static yX11_isColumn) (zat q_wsX9_at k_wsX9_at 151 rfl (by decide +kernel)), trivial⟩ ⟨pw_fb, fun U hU hW => ⟨rfl, pw_to hU hW (hP.sub (ws' := []) [] rfl) (hK.sub (tys' := []) [] rfl) hN⟩⟩ rfl rfl hl.1 rfl (lv_room (Nat.le_of_ble_eq_true rfl)) dX9_at_1 ⟨Nat.le_of_ble_eq_true rfl, Nat.le_of_ble_eq_true rfl⟩).run (fun r hw => ?_)
  rcases Bool.eq_false_or_eq_true (bw p0 0 7) with b_1 | b_1
  ·
    obtain rfl : r = 1 := b_t hw b_1
    refine lv_if_eq (tgt := 23) hx hb dX9_at_4 (by decide) (fun c_2 => absurd c_2 (by decide)) (fun c_2 => ?_)
    refine lv_iload_n hx hb dX9_at_7 rfl (lv_at hl 2 rfl) ?_
    refine lv_iconst (v := 0) hx hb dX9_at_8 (by decide) ?_
    refine lv_aload_n hx hb dX9_at_9 rfl (lv_at hl 0 rfl) ?_
    obtain ⟨kk_3, hk_4⟩ := pl_at ha0.1 hs9
    refine va_get (D := (dC, dI)) (ci := 8) (v := .ref la) (C := RX9) (T := TX9) (N := 5) hx hb hts zl_X9_at_X9 hown hK hP kk_3 hk_4 rfl 0 (by decide) (hts (.fieldLink RX9 9 "PageOne$Sheet" "lines" "[I") (zat q_wsX9_at k_wsX9_at 90 rfl (by decide +kernel))) (fun _ h9 => h9) rfl dX9_at_10 ?_
    refine lv_iload_n hx hb dX9_at_13 rfl (lv_at hl 1 rfl) ?_
    obtain ⟨kk_5, hk_6⟩ := pl_at hla.1 hg9
    refine va_iald hx hb hK hP kk_5 0 hk_6 rfl (vin b_1 (by decide)) dX9_at_14 ?_
    refine lv_iconst (v := 1) hx hb dX9_at_15 (by decide) ?_
    refine lv_isub hx hb dX9_at_16 ?_
    refine vp_callSi (va_runSN (As := [.int p1, .int 0, .int ((gl (p0 : Int32).toNatClampNeg) - 1)]) (rest := []) ⟨hx, hb, hml, hown, hts⟩ (x_isWithin l dC dI p1 0 ((gl (p0 : Int32).toNatClampNeg) - 1)) ⟨va_cnB (host := "PageOne") 3 hts gX9_at_X11_isWithin_n38 rfl rfl rfl hN.n_RX9_38 (hts (.initialized RX11) (zat q_wsX9_at k_wsX9_at 53 rfl (by decide +kernel))) (by decide +kernel) ⟨Nat.le_of_ble_eq_true rfl, Nat.le_of_ble_eq_true rfl⟩, hts (.static yX11_isWithin) (zat q_wsX9_at k_wsX9_at 148 rfl (by decide +kernel)), trivial⟩ ⟨pw_fb, fun U hU hW => ⟨rfl, pw_to hU hW (hP.sub (ws' := []) [] rfl) (hK.sub (tys' := []) [] rfl) hN⟩⟩ rfl rfl hl.1 rfl (lv_room (Nat.le_of_ble_eq_true rfl)) dX9_at_17 ⟨Nat.le_of_ble_eq_true rfl, Nat.le_of_ble_eq_true rfl⟩).run (fun r hw => ?_)
    rcases Bool.eq_false_or_eq_true (bw p1 0 ((gl (p0 : Int32).toNatClampNeg) - 1)) with b_7 | b_7
    ·
      obtain rfl : r = 1 := b_t hw b_7
      refine lv_if_ne (tgt := 25) hx hb dX9_at_20 (by decide) (fun c_8 => ?_) (fun c_8 => absurd c_8 (by decide))
      refine lv_aload_n hx hb dX9_at_25 rfl (lv_at hl 0 rfl) ?_
      obtain ⟨kk_9, hk_10⟩ := pl_at ha0.1 hs9
      refine va_get (D := (dC, dI)) (ci := 8) (v := .ref ca) (C := RX9) (T := TX9) (N := 5) hx hb hts zl_X9_at_X9 hown hK hP kk_9 hk_10 rfl 1 (by decide) (hts (.fieldLink RX9 15 "PageOne$Sheet" "cells" "[I") (zat q_wsX9_at k_wsX9_at 92 rfl (by decide +kernel))) (fun _ h9 => h9) rfl dX9_at_26 ?_
      refine lv_iload_n hx hb dX9_at_29 rfl (lv_at hl 1 rfl) ?_
      refine lv_bipush (v := 60) hx hb dX9_at_30 (by decide) ?_
      refine lv_imul hx hb dX9_at_32 ?_
      refine lv_iload_n hx hb dX9_at_33 rfl (lv_at hl 2 rfl) ?_
      refine lv_iadd hx hb dX9_at_34 ?_
      obtain ⟨kk_11, hk_12⟩ := pl_at hca.1 hc9
      refine va_iald hx hb hK hP kk_11 0 hk_12 rfl (vin60 b_1 (hgb _ (vlt (vin b_1 (by decide)))) b_7) dX9_at_35 ?_
      exact W.iret (v := (gc (((p0 * 60) + p1) : Int32).toNatClampNeg)) hx hb hr (fun t ht hW => ⟨_, rfl, (by unfold shAt; rw [if_pos b_1, if_pos b_7]), ht⟩) (fun q h => absurd h List.not_mem_nil) dX9_at_36
    ·
      obtain rfl : r = 0 := b_f hw b_7
      refine lv_if_ne (tgt := 25) hx hb dX9_at_20 (by decide) (fun c_13 => absurd (by decide) c_13) (fun c_13 => ?_)
      refine lv_iconst (v := (-1)) hx hb dX9_at_23 (by decide) ?_
      exact W.iret (v := (-1)) hx hb hr (fun t ht hW => ⟨_, rfl, (by unfold shAt; rw [if_pos b_1, if_neg (bne b_7)]), ht⟩) (fun q h => absurd h List.not_mem_nil) dX9_at_24
  ·
    obtain rfl : r = 0 := b_f hw b_1
    refine lv_if_eq (tgt := 23) hx hb dX9_at_4 (by decide) (fun c_14 => ?_) (fun c_14 => absurd (by decide) c_14)
    refine lv_iconst (v := (-1)) hx hb dX9_at_23 (by decide) ?_
    exact W.iret (v := (-1)) hx hb hr (fun t ht hW => ⟨_, rfl, (by unfold shAt; rw [if_neg (bne b_1)]), ht⟩) (fun q h => absurd h List.not_mem_nil) dX9_at_24
set_option maxHeartbeats 4000000 in
set_option maxRecDepth 100000 in
theorem y_emptyIn_l {p : Program} {l : Launch} {e : Env} {R : Room} {s : State} {m : MethodId} {args : Array Value} {below : List Frame} {meth : Method} {c : Code} {Q : State → Prop} {cells slots : Nat} {dC : Nat → ClassId} {dI : Nat → Nat → Nat} {q : Nat → ClassId} {h0 : Nat} {d : Nat → Nat} {k : Nat → Int32} {z : gS} {f : xF} {H : Heap} {locs : List Loc} (hI : xI q h0 d k z f) (hx : p.tables.exec = Jvm.exec) (hb : c.code = cX9_emptyIn) (hml : c.maxLocals = 4) (hts : ∀ w ∈ wsX9_emptyIn, w.before args s = true) (hown : s.vm.findClass RX9 = some m.cls) (hN : NN s) (hXN : XN s) (hK : va_K (dC, dI) vwCl (xT q) s) (hRf : 3 ≤ R.frames) (hRl : 64 ≤ R.locals) (hRc : cells ≤ R.cells) (hRs : slots ≤ R.slots) (hP : va_P (dC, dI) vwCl (va_pl z.1 f) H) {a0 la ca : Nat} {m9 d9 i9 : Int32} {gl gc : Nat → Int32} (ha0 : tg z a0 7) (hs9 : f a0 = .inr (8, [.ref la, .ref ca, .int m9, .int d9, .int i9])) (hla : tg z la 8) (hca : tg z ca 9) (hg9 : f la = aI (q 0) 8 gl) (hgb : ∀ j, j < 8 → bw (gl j) 0 60 = true) (hc9 : f ca = aI (q 0) 480 gc) {p0 : Int32} {K : Nat} (hp : bw p0 0 7 = true) (eK : gl p0.toNatClampNeg = nI K) (hK6 : K ≤ 60) (kx34 : ∀ (a9 : Int32) (ls : Array Slot), a9 = shE gl gc p0 K → lv_has ls 4 [(2, .int a9), (0, .ref a0), (1, .int p0)] → W p l e R s m args below meth c H locs cells slots Q (F0 m 34 ls [])) : ∀ (kk i : Nat) (a : Int32) (ls : Array Slot), i ≤ K → K - i < kk → a = shE gl gc p0 i → lv_has ls 4 [(3, .int (nI i)), (2, .int a), (0, .ref a0), (1, .int p0)] → W p l e R s m args below meth c H locs cells slots Q (F0 m 4 ls []) := by
  intro kk
  induction kk with
  | zero => intro i a ls h1 h2; exact absurd h2 (Nat.not_lt_zero _)
  | succ kk ih =>
    intro i a ls hi hkk hg hl
    refine lv_iload_n hx hb dX9_emptyIn_4 rfl (lv_at hl 0 rfl) ?_
    refine lv_aload_n hx hb dX9_emptyIn_5 rfl (lv_at hl 2 rfl) ?_
    obtain ⟨kk_1, hk_2⟩ := pl_at ha0.1 hs9
    refine va_get (D := (dC, dI)) (ci := 8) (v := .ref la) (C := RX9) (T := TX9) (N := 5) hx hb hts zl_X9_emptyIn_X9 hown hK hP kk_1 hk_2 rfl 0 (by decide) (hts (.fieldLink RX9 9 "PageOne$Sheet" "lines" "[I") (zat q_wsX9_emptyIn k_wsX9_emptyIn 90 rfl (by decide +kernel))) (fun _ h9 => h9) rfl dX9_emptyIn_6 ?_
    refine lv_iload_n hx hb dX9_emptyIn_9 rfl (lv_at hl 3 rfl) ?_
    obtain ⟨kk_3, hk_4⟩ := pl_at hla.1 hg9
    refine va_iald hx hb hK hP kk_3 0 hk_4 rfl (vin hp (by decide)) dX9_emptyIn_10 ?_
    refine lv_topi (fun y_5 ey_5 => ?_)
    obtain rfl : y_5 = (nI K) := ey_5.trans (eK)
    refine lv_icmp_ge (tgt := 34) hx hb dX9_emptyIn_11 (by decide) (fun c_6 => ?_) (fun c_6 => ?_)
    ·
      have hie : i = K := lp_eq rfl (by omega) hi c_6
      exact kx34 _ ls (by rw [← hie]; exact hg) (lv_sub hl [1, 2, 3] rfl)
    ·
      have hlt : i < K := lp_lt rfl (by omega) hi c_6
      refine lv_aload_n hx hb dX9_emptyIn_14 rfl (lv_at hl 2 rfl) ?_
      refine lv_iload_n hx hb dX9_emptyIn_15 rfl (lv_at hl 3 rfl) ?_
      refine lv_iload_n hx hb dX9_emptyIn_16 rfl (lv_at hl 0 rfl) ?_
      obtain ⟨kk_7, hk_8⟩ := pl_at ha0.1 hs9
      refine vp_callSi (va_runV (As := [.int p0, .int (nI i)]) (rest := []) ⟨hx, hb, hml, hown, hts⟩ (y_at l dC dI q h0 d k z f hI a0 la ca m9 d9 i9 gl gc ha0 hs9 hla hca hg9 hgb hc9 p0 (nI i)) (cwV 2 hts gX9_emptyIn_X9_at rfl rfl rfl zh_X9_at_31 ⟨Nat.le_trans (Nat.le_of_ble_eq_true rfl) hRf, Nat.le_trans (Nat.le_of_ble_eq_true rfl) hRl⟩) ⟨px_fb, va_recv hK hP (ci := 8) (q0 := kk_7) rfl hk_8, fun U hU hW => ⟨rfl, px_to hU hW hP hK hN hXN⟩⟩ rfl rfl hl.1 rfl (lv_room (Nat.le_of_ble_eq_true rfl)) dX9_emptyIn_17 ⟨hRc, hRs⟩).run (fun r hw => ?_)
      generalize r = zr_9 at hw ⊢
      have hzr_9 := hw
      refine lv_bipush (v := (-2)) hx hb dX9_emptyIn_20 (by decide) ?_
      refine lv_icmp_ne (tgt := 28) hx hb dX9_emptyIn_22 (by decide) (fun c_10 => ?_) (fun c_10 => ?_)
      ·
        refine lv_iinc (v := (nI (i + 1))) (lv' := [(3, .int (nI (i + 1))), (2, .int a), (0, .ref a0), (1, .int p0)]) hx hb dX9_emptyIn_28 hl (k := 0) rfl (nI_1 i) (by decide) rfl (fun ls hl => ?_)
        refine lv_goto (tgt := 4) hx hb dX9_emptyIn_31 (by decide) ?_
        exact ih (i + 1) _ ls (by omega) (by omega) (by rw [hg]; exact shE_0 (fun h => c_10 (hzr_9.trans h))) (lv_sub hl [0, 1, 2, 3] rfl)
      ·
        obtain ⟨x_11, ex_11⟩ : ∃ y : Int32, y = a + 1 := ⟨_, rfl⟩
        refine lv_iinc (v := x_11) (lv' := [(2, .int x_11), (3, .int (nI i)), (0, .ref a0), (1, .int p0)]) hx hb dX9_emptyIn_25 hl (k := 1) rfl (by rw [ex_11]; rfl) (by decide) rfl (fun ls hl => ?_)
        refine lv_iinc (v := (nI (i + 1))) (lv' := [(3, .int (nI (i + 1))), (2, .int x_11), (0, .ref a0), (1, .int p0)]) hx hb dX9_emptyIn_28 hl (k := 1) rfl (nI_1 i) (by decide) rfl (fun ls hl => ?_)
        refine lv_goto (tgt := 4) hx hb dX9_emptyIn_31 (by decide) ?_
        exact ih (i + 1) _ ls (by omega) (by omega) (by rw [hg] at ex_11; exact shE_1 (hzr_9.symm.trans c_10) ex_11) (lv_sub hl [0, 1, 2, 3] rfl)
set_option maxHeartbeats 4000000 in
set_option maxRecDepth 100000 in
theorem y_emptyIn (l : Launch) (dC : Nat → ClassId) (dI : Nat → Nat → Nat) (q : Nat → ClassId) (h0 : Nat) (d : Nat → Nat) (k : Nat → Int32) (z : gS) (f : xF) (hI : xI q h0 d k z f) (a0 la ca : Nat) (m9 d9 i9 : Int32) (gl gc : Nat → Int32) (ha0 : tg z a0 7) (hs9 : f a0 = .inr (8, [.ref la, .ref ca, .int m9, .int d9, .int i9])) (hla : tg z la 8) (hca : tg z ca 9) (hg9 : f la = aI (q 0) 8 gl) (hgb : ∀ j, j < 8 → bw (gl j) 0 60 = true) (hc9 : f ca = aI (q 0) 480 gc) (p0 : Int32) (hp : bw p0 0 7 = true) : Met l yX9_emptyIn wsX9_emptyIn ({ frames := 3, cells := 0, slots := 0, locals := 64 }) (va_Pc [.ref a0, .int p0] (PX dC dI (va_pl z.1 f) (xT q))) (vp_Si (fun r => r = shE gl gc p0 (gl p0.toNatClampNeg).toNatClampNeg)) 0 0 (fun _ => False) := by
  refine Met.ofW (cc := cX9_emptyIn) (maxL := 4) (ret := (some .int)) (by decide) rfl ?_
  intro p e s m args below meth c s₁ B hml hv
  obtain ⟨rfl, ⟨hP, hK, hN⟩, hXN⟩ := hv
  have hx := B.exec
  have hb := B.bytes
  have hr := B.returns
  have hts := atoms_spec (ws := wsX9_emptyIn) B.pre
  have hown : s.vm.findClass RX9 = some m.cls := findClass_of_methodNamed B.named
  have hlocks := B.notSynchronized
  have hl := lv_entry ([.ref a0, .int p0]) (n := 4) (Nat.le_of_ble_eq_true rfl)
  rw [lg_entry_eq]
  generalize (lg_sl ([.ref a0, .int p0]) ++ List.replicate (4 - (lg_sl ([.ref a0, .int p0])).length) Slot.unset).toArray = ls at hl ⊢
  have hl : lv_has ls 4 [(0, .ref a0), (1, .int p0)] := hl
  refine lv_iconst (v := 0) hx hb dX9_emptyIn_0 (by decide) ?_
  refine lv_istore_n (lv' := [(2, .int 0), (0, .ref a0), (1, .int p0)]) hx hb dX9_emptyIn_1 rfl hl (by decide) rfl (fun ls hl => ?_)
  refine lv_iconst (v := 0) hx hb dX9_emptyIn_2 (by decide) ?_
  refine lv_istore_n (lv' := [(3, .int 0), (2, .int 0), (0, .ref a0), (1, .int p0)]) hx hb dX9_emptyIn_3 rfl hl (by decide) rfl (fun ls hl => ?_)
  obtain ⟨eK, eK2, eK3⟩ := nI_of_bw (hgb _ (vlt (vin hp (by decide))))
  have h60 : (60 : Int32).toInt = 60 := rfl
  refine y_emptyIn_l hI hx hb hml hts hown hN hXN hK (Nat.le_of_ble_eq_true rfl) (Nat.le_of_ble_eq_true rfl) (Nat.le_of_ble_eq_true rfl) (Nat.le_of_ble_eq_true rfl) hP ha0 hs9 hla hca hg9 hgb hc9 hp eK (by omega) (fun a9 ls ha9 hl => ?_) _ 0 0 ls (Nat.zero_le _) (Nat.lt_succ_self _) rfl (lv_sub hl [0, 1, 2, 3] rfl)
  refine lv_iload_n hx hb dX9_emptyIn_34 rfl (lv_at hl 0 rfl) ?_
  exact W.iret (v := a9) hx hb hr (fun t ht hW => ⟨_, rfl, ha9, ht⟩) (fun q h => absurd h List.not_mem_nil) dX9_emptyIn_35
set_option maxHeartbeats 4000000 in
set_option maxRecDepth 100000 in
theorem y_emptyCount_l {p : Program} {l : Launch} {e : Env} {R : Room} {s : State} {m : MethodId} {args : Array Value} {below : List Frame} {meth : Method} {c : Code} {Q : State → Prop} {cells slots : Nat} {dC : Nat → ClassId} {dI : Nat → Nat → Nat} {q : Nat → ClassId} {h0 : Nat} {d : Nat → Nat} {k : Nat → Int32} {z : gS} {f : xF} {H : Heap} {locs : List Loc} (hI : xI q h0 d k z f) (hx : p.tables.exec = Jvm.exec) (hb : c.code = cX9_emptyCount) (hml : c.maxLocals = 3) (hts : ∀ w ∈ wsX9_emptyCount, w.before args s = true) (hown : s.vm.findClass RX9 = some m.cls) (hN : NN s) (hXN : XN s) (hK : va_K (dC, dI) vwCl (xT q) s) (hRf : 4 ≤ R.frames) (hRl : 87 ≤ R.locals) (hRc : cells ≤ R.cells) (hRs : slots ≤ R.slots) (hP : va_P (dC, dI) vwCl (va_pl z.1 f) H) {a0 la ca : Nat} {m9 d9 i9 : Int32} {gl gc : Nat → Int32} (ha0 : tg z a0 7) (hs9 : f a0 = .inr (8, [.ref la, .ref ca, .int m9, .int d9, .int i9])) (hla : tg z la 8) (hca : tg z ca 9) (hg9 : f la = aI (q 0) 8 gl) (hgb : ∀ j, j < 8 → bw (gl j) 0 60 = true) (hc9 : f ca = aI (q 0) 480 gc) (kx24 : ∀ (a9 : Int32) (ls : Array Slot), a9 = shEC gl gc 8 → lv_has ls 3 [(1, .int a9), (0, .ref a0)] → W p l e R s m args below meth c H locs cells slots Q (F0 m 24 ls [])) : ∀ (kk i : Nat) (a : Int32) (ls : Array Slot), i ≤ 8 → 8 - i < kk → a = shEC gl gc i → lv_has ls 3 [(2, .int (nI i)), (1, .int a), (0, .ref a0)] → W p l e R s m args below meth c H locs cells slots Q (F0 m 4 ls []) := by
  intro kk
  induction kk with
  | zero => intro i a ls h1 h2; exact absurd h2 (Nat.not_lt_zero _)
  | succ kk ih =>
    intro i a ls hi hkk hg hl
    refine lv_iload_n hx hb dX9_emptyCount_4 rfl (lv_at hl 0 rfl) ?_
    refine lv_bipush (v := 8) hx hb dX9_emptyCount_5 (by decide) ?_
    refine lv_icmp_ge (tgt := 24) hx hb dX9_emptyCount_7 (by decide) (fun c_1 => ?_) (fun c_1 => ?_)
    ·
      have hie : i = 8 := lp_eq rfl (by decide) hi c_1
      exact kx24 _ ls (by rw [← hie]; exact hg) (lv_sub hl [1, 2] rfl)
    ·
      have hlt : i < 8 := lp_lt rfl (by decide) hi c_1
      refine lv_iload_n hx hb dX9_emptyCount_10 rfl (lv_at hl 1 rfl) ?_
      refine lv_aload_n hx hb dX9_emptyCount_11 rfl (lv_at hl 2 rfl) ?_
      refine lv_iload_n hx hb dX9_emptyCount_12 rfl (lv_at hl 0 rfl) ?_
      obtain ⟨kk_2, hk_3⟩ := pl_at ha0.1 hs9
      refine vp_callSi (va_runV (As := [.int (nI i)]) (rest := [.int a]) ⟨hx, hb, hml, hown, hts⟩ (y_emptyIn l dC dI q h0 d k z f hI a0 la ca m9 d9 i9 gl gc ha0 hs9 hla hca hg9 hgb hc9 (nI i) (bw7 hlt)) (cwV 1 hts gX9_emptyCount_X9_emptyIn rfl rfl rfl zh_X9_emptyIn_32 ⟨Nat.le_trans (Nat.le_of_ble_eq_true rfl) hRf, Nat.le_trans (Nat.le_of_ble_eq_true rfl) hRl⟩) ⟨px_fb, va_recv hK hP (ci := 8) (q0 := kk_2) rfl hk_3, fun U hU hW => ⟨rfl, px_to hU hW hP hK hN hXN⟩⟩ rfl rfl hl.1 rfl (lv_room (Nat.le_of_ble_eq_true rfl)) dX9_emptyCount_13 ⟨hRc, hRs⟩).run (fun r hw => ?_)
      generalize r = zr_4 at hw ⊢
      have hzr_4 := hw
      refine lv_iadd hx hb dX9_emptyCount_16 ?_
      refine lv_topi (fun x_5 ex_5 => ?_)
      refine lv_istore_n (lv' := [(1, .int x_5), (2, .int (nI i)), (0, .ref a0)]) hx hb dX9_emptyCount_17 rfl hl (by decide) rfl (fun ls hl => ?_)
      refine lv_iinc (v := (nI (i + 1))) (lv' := [(2, .int (nI (i + 1))), (1, .int x_5), (0, .ref a0)]) hx hb dX9_emptyCount_18 hl (k := 1) rfl (nI_1 i) (by decide) rfl (fun ls hl => ?_)
      refine lv_goto (tgt := 4) hx hb dX9_emptyCount_21 (by decide) ?_
      exact ih (i + 1) _ ls (by omega) (by omega) (by rw [ex_5, hg, hzr_4]; rfl) (lv_sub hl [0, 1, 2] rfl)
set_option maxHeartbeats 4000000 in
set_option maxRecDepth 100000 in
theorem y_emptyCount (l : Launch) (dC : Nat → ClassId) (dI : Nat → Nat → Nat) (q : Nat → ClassId) (h0 : Nat) (d : Nat → Nat) (k : Nat → Int32) (z : gS) (f : xF) (hI : xI q h0 d k z f) (a0 la ca : Nat) (m9 d9 i9 : Int32) (gl gc : Nat → Int32) (ha0 : tg z a0 7) (hs9 : f a0 = .inr (8, [.ref la, .ref ca, .int m9, .int d9, .int i9])) (hla : tg z la 8) (hca : tg z ca 9) (hg9 : f la = aI (q 0) 8 gl) (hgb : ∀ j, j < 8 → bw (gl j) 0 60 = true) (hc9 : f ca = aI (q 0) 480 gc) : Met l yX9_emptyCount wsX9_emptyCount ({ frames := 4, cells := 0, slots := 0, locals := 87 }) (va_Pc [.ref a0] (PX dC dI (va_pl z.1 f) (xT q))) (vp_Si (fun r => r = shEC gl gc 8)) 0 0 (fun _ => False) := by
  refine Met.ofW (cc := cX9_emptyCount) (maxL := 3) (ret := (some .int)) (by decide) rfl ?_
  intro p e s m args below meth c s₁ B hml hv
  obtain ⟨rfl, ⟨hP, hK, hN⟩, hXN⟩ := hv
  have hx := B.exec
  have hb := B.bytes
  have hr := B.returns
  have hts := atoms_spec (ws := wsX9_emptyCount) B.pre
  have hown : s.vm.findClass RX9 = some m.cls := findClass_of_methodNamed B.named
  have hlocks := B.notSynchronized
  have hl := lv_entry ([.ref a0]) (n := 3) (Nat.le_of_ble_eq_true rfl)
  rw [lg_entry_eq]
  generalize (lg_sl ([.ref a0]) ++ List.replicate (3 - (lg_sl ([.ref a0])).length) Slot.unset).toArray = ls at hl ⊢
  have hl : lv_has ls 3 [(0, .ref a0)] := hl
  refine lv_iconst (v := 0) hx hb dX9_emptyCount_0 (by decide) ?_
  refine lv_istore_n (lv' := [(1, .int 0), (0, .ref a0)]) hx hb dX9_emptyCount_1 rfl hl (by decide) rfl (fun ls hl => ?_)
  refine lv_iconst (v := 0) hx hb dX9_emptyCount_2 (by decide) ?_
  refine lv_istore_n (lv' := [(2, .int 0), (1, .int 0), (0, .ref a0)]) hx hb dX9_emptyCount_3 rfl hl (by decide) rfl (fun ls hl => ?_)
  refine y_emptyCount_l hI hx hb hml hts hown hN hXN hK (Nat.le_of_ble_eq_true rfl) (Nat.le_of_ble_eq_true rfl) (Nat.le_of_ble_eq_true rfl) (Nat.le_of_ble_eq_true rfl) hP ha0 hs9 hla hca hg9 hgb hc9 (fun a9 ls ha9 hl => ?_) 9 0 0 ls (by decide) (by decide) rfl (lv_sub hl [0, 1, 2] rfl)
  refine lv_iload_n hx hb dX9_emptyCount_24 rfl (lv_at hl 0 rfl) ?_
  exact W.iret (v := a9) hx hb hr (fun t ht hW => ⟨_, rfl, ha9, ht⟩) (fun q h => absurd h List.not_mem_nil) dX9_emptyCount_25
set_option maxHeartbeats 4000000 in
set_option maxRecDepth 100000 in
theorem y_cellCount_l {p : Program} {l : Launch} {e : Env} {R : Room} {s : State} {m : MethodId} {args : Array Value} {below : List Frame} {meth : Method} {c : Code} {Q : State → Prop} {cells slots : Nat} {dC : Nat → ClassId} {dI : Nat → Nat → Nat} {q : Nat → ClassId} {h0 : Nat} {d : Nat → Nat} {k : Nat → Int32} {z : gS} {f : xF} {H : Heap} {locs : List Loc} (hI : xI q h0 d k z f) (hx : p.tables.exec = Jvm.exec) (hb : c.code = cX9_cellCount) (hml : c.maxLocals = 3) (hts : ∀ w ∈ wsX9_cellCount, w.before args s = true) (hown : s.vm.findClass RX9 = some m.cls) (hN : NN s) (hXN : XN s) (hK : va_K (dC, dI) vwCl (xT q) s) (hP : va_P (dC, dI) vwCl (va_pl z.1 f) H) {a0 la ca : Nat} {m9 d9 i9 : Int32} {gl gc : Nat → Int32} (ha0 : tg z a0 7) (hs9 : f a0 = .inr (8, [.ref la, .ref ca, .int m9, .int d9, .int i9])) (hla : tg z la 8) (hca : tg z ca 9) (hg9 : f la = aI (q 0) 8 gl) (hgb : ∀ j, j < 8 → bw (gl j) 0 60 = true) (hc9 : f ca = aI (q 0) 480 gc) (kx25 : ∀ (a9 : Int32) (ls : Array Slot), a9 = shCC gl 8 → lv_has ls 3 [(1, .int a9), (0, .ref a0)] → W p l e R s m args below meth c H locs cells slots Q (F0 m 25 ls [])) : ∀ (kk i : Nat) (a : Int32) (ls : Array Slot), i ≤ 8 → 8 - i < kk → a = shCC gl i → lv_has ls 3 [(2, .int (nI i)), (1, .int a), (0, .ref a0)] → W p l e R s m args below meth c H locs cells slots Q (F0 m 4 ls []) := by
  intro kk
  induction kk with
  | zero => intro i a ls h1 h2; exact absurd h2 (Nat.not_lt_zero _)
  | succ kk ih =>
    intro i a ls hi hkk hg hl
    refine lv_iload_n hx hb dX9_cellCount_4 rfl (lv_at hl 0 rfl) ?_
    refine lv_bipush (v := 8) hx hb dX9_cellCount_5 (by decide) ?_
    refine lv_icmp_ge (tgt := 25) hx hb dX9_cellCount_7 (by decide) (fun c_1 => ?_) (fun c_1 => ?_)
    ·
      have hie : i = 8 := lp_eq rfl (by decide) hi c_1
      exact kx25 _ ls (by rw [← hie]; exact hg) (lv_sub hl [1, 2] rfl)
    ·
      have hlt : i < 8 := lp_lt rfl (by decide) hi c_1
      refine lv_iload_n hx hb dX9_cellCount_10 rfl (lv_at hl 1 rfl) ?_
      refine lv_aload_n hx hb dX9_cellCount_11 rfl (lv_at hl 2 rfl) ?_
      obtain ⟨kk_2, hk_3⟩ := pl_at ha0.1 hs9
      refine va_get (D := (dC, dI)) (ci := 8) (v := .ref la) (C := RX9) (T := TX9) (N := 5) hx hb hts zl_X9_cellCount_X9 hown hK hP kk_2 hk_3 rfl 0 (by decide) (hts (.fieldLink RX9 9 "PageOne$Sheet" "lines" "[I") (zat q_wsX9_cellCount k_wsX9_cellCount 90 rfl (by decide +kernel))) (fun _ h9 => h9) rfl dX9_cellCount_12 ?_
      refine lv_iload_n hx hb dX9_cellCount_15 rfl (lv_at hl 0 rfl) ?_
      obtain ⟨kk_4, hk_5⟩ := pl_at hla.1 hg9
      refine va_iald hx hb hK hP kk_4 0 hk_5 rfl (vp_in_nI hlt (by decide)) dX9_cellCount_16 ?_
      refine lv_iadd hx hb dX9_cellCount_17 ?_
      refine lv_topi (fun x_6 ex_6 => ?_)
      refine lv_istore_n (lv' := [(1, .int x_6), (2, .int (nI i)), (0, .ref a0)]) hx hb dX9_cellCount_18 rfl hl (by decide) rfl (fun ls hl => ?_)
      refine lv_iinc (v := (nI (i + 1))) (lv' := [(2, .int (nI (i + 1))), (1, .int x_6), (0, .ref a0)]) hx hb dX9_cellCount_19 hl (k := 1) rfl (nI_1 i) (by decide) rfl (fun ls hl => ?_)
      refine lv_goto (tgt := 4) hx hb dX9_cellCount_22 (by decide) ?_
      exact ih (i + 1) _ ls (by omega) (by omega) (by rw [ex_6, hg]; rfl) (lv_sub hl [0, 1, 2] rfl)
set_option maxHeartbeats 4000000 in
set_option maxRecDepth 100000 in
theorem y_cellCount (l : Launch) (dC : Nat → ClassId) (dI : Nat → Nat → Nat) (q : Nat → ClassId) (h0 : Nat) (d : Nat → Nat) (k : Nat → Int32) (z : gS) (f : xF) (hI : xI q h0 d k z f) (a0 la ca : Nat) (m9 d9 i9 : Int32) (gl gc : Nat → Int32) (ha0 : tg z a0 7) (hs9 : f a0 = .inr (8, [.ref la, .ref ca, .int m9, .int d9, .int i9])) (hla : tg z la 8) (hca : tg z ca 9) (hg9 : f la = aI (q 0) 8 gl) (hgb : ∀ j, j < 8 → bw (gl j) 0 60 = true) (hc9 : f ca = aI (q 0) 480 gc) : Met l yX9_cellCount wsX9_cellCount ({ frames := 0, cells := 0, slots := 0, locals := 0 }) (va_Pc [.ref a0] (PX dC dI (va_pl z.1 f) (xT q))) (vp_Si (fun r => r = shCC gl 8)) 0 0 (fun _ => False) := by
  refine Met.ofW (cc := cX9_cellCount) (maxL := 3) (ret := (some .int)) (by decide) rfl ?_
  intro p e s m args below meth c s₁ B hml hv
  obtain ⟨rfl, ⟨hP, hK, hN⟩, hXN⟩ := hv
  have hx := B.exec
  have hb := B.bytes
  have hr := B.returns
  have hts := atoms_spec (ws := wsX9_cellCount) B.pre
  have hown : s.vm.findClass RX9 = some m.cls := findClass_of_methodNamed B.named
  have hlocks := B.notSynchronized
  have hl := lv_entry ([.ref a0]) (n := 3) (Nat.le_of_ble_eq_true rfl)
  rw [lg_entry_eq]
  generalize (lg_sl ([.ref a0]) ++ List.replicate (3 - (lg_sl ([.ref a0])).length) Slot.unset).toArray = ls at hl ⊢
  have hl : lv_has ls 3 [(0, .ref a0)] := hl
  refine lv_iconst (v := 0) hx hb dX9_cellCount_0 (by decide) ?_
  refine lv_istore_n (lv' := [(1, .int 0), (0, .ref a0)]) hx hb dX9_cellCount_1 rfl hl (by decide) rfl (fun ls hl => ?_)
  refine lv_iconst (v := 0) hx hb dX9_cellCount_2 (by decide) ?_
  refine lv_istore_n (lv' := [(2, .int 0), (1, .int 0), (0, .ref a0)]) hx hb dX9_cellCount_3 rfl hl (by decide) rfl (fun ls hl => ?_)
  refine y_cellCount_l hI hx hb hml hts hown hN hXN hK hP ha0 hs9 hla hca hg9 hgb hc9 (fun a9 ls ha9 hl => ?_) 9 0 0 ls (by decide) (by decide) rfl (lv_sub hl [0, 1, 2] rfl)
  refine lv_iload_n hx hb dX9_cellCount_25 rfl (lv_at hl 0 rfl) ?_
  exact W.iret (v := a9) hx hb hr (fun t ht hW => ⟨_, rfl, ha9, ht⟩) (fun q h => absurd h List.not_mem_nil) dX9_cellCount_26
set_option maxHeartbeats 4000000 in
set_option maxRecDepth 100000 in
theorem y_spot_in {p : Program} {l : Launch} {e : Env} {R : Room} {s : State} {m : MethodId} {args : Array Value} {below : List Frame} {meth : Method} {c : Code} {Q : State → Prop} {cells slots : Nat} {dC : Nat → ClassId} {dI : Nat → Nat → Nat} {q : Nat → ClassId} {h0 : Nat} {d : Nat → Nat} {k : Nat → Int32} {z : gS} {f : xF} {H : Heap} {locs : List Loc} (hI : xI q h0 d k z f) (hx : p.tables.exec = Jvm.exec) (hb : c.code = cX9_spotOf) (hml : c.maxLocals = 4) (hts : ∀ w ∈ wsX9_spotOf, w.before args s = true) (hown : s.vm.findClass RX9 = some m.cls) (hN : NN s) (hXN : XN s) (hK : va_K (dC, dI) vwCl (xT q) s) (hRf : 3 ≤ R.frames) (hRl : 64 ≤ R.locals) (hRc : cells ≤ R.cells) (hRs : slots ≤ R.slots) (hP : va_P (dC, dI) vwCl (va_pl z.1 f) H) {a0 la ca : Nat} {m9 d9 i9 : Int32} {gl gc : Nat → Int32} (ha0 : tg z a0 7) (hs9 : f a0 = .inr (8, [.ref la, .ref ca, .int m9, .int d9, .int i9])) (hla : tg z la 8) (hca : tg z ca 9) (hg9 : f la = aI (q 0) 8 gl) (hgb : ∀ j, j < 8 → bw (gl j) 0 60 = true) (hc9 : f ca = aI (q 0) 480 gc) {p0 : Int32} {c9 K : Nat} (hc8 : c9 < 8) (eK : gl (nI c9).toNatClampNeg = nI K) (hK6 : K ≤ 60) (kx43 : ∀ (ls : Array Slot), shNo gl gc p0 c9 K → lv_has ls 4 [(2, .int (nI c9)), (0, .ref a0), (1, .int p0)] → W p l e R s m args below meth c H locs cells slots Q (F0 m 43 ls [])) (kx30 : ∀ (l9 : Nat) (ls : Array Slot), (l9 < K ∧ shAt gl gc (nI c9) (nI l9) = p0 ∧ shNo gl gc p0 c9 l9) → lv_has ls 4 [(3, .int (nI l9)), (2, .int (nI c9)), (0, .ref a0), (1, .int p0)] → W p l e R s m args below meth c H locs cells slots Q (F0 m 30 ls [])) : ∀ (kk i : Nat) (ls : Array Slot), i ≤ K → K - i < kk → shNo gl gc p0 c9 i → lv_has ls 4 [(3, .int (nI i)), (2, .int (nI c9)), (0, .ref a0), (1, .int p0)] → W p l e R s m args below meth c H locs cells slots Q (F0 m 10 ls []) := by
  intro kk
  induction kk with
  | zero => intro i ls h1 h2; exact absurd h2 (Nat.not_lt_zero _)
  | succ kk ih =>
    intro i ls hi hkk hg hl
    refine lv_iload_n hx hb dX9_spotOf_10 rfl (lv_at hl 0 rfl) ?_
    refine lv_aload_n hx hb dX9_spotOf_11 rfl (lv_at hl 2 rfl) ?_
    obtain ⟨kk_1, hk_2⟩ := pl_at ha0.1 hs9
    refine va_get (D := (dC, dI)) (ci := 8) (v := .ref la) (C := RX9) (T := TX9) (N := 5) hx hb hts zl_X9_spotOf_X9 hown hK hP kk_1 hk_2 rfl 0 (by decide) (hts (.fieldLink RX9 9 "PageOne$Sheet" "lines" "[I") (zat q_wsX9_spotOf k_wsX9_spotOf 90 rfl (by decide +kernel))) (fun _ h9 => h9) rfl dX9_spotOf_12 ?_
    refine lv_iload_n hx hb dX9_spotOf_15 rfl (lv_at hl 1 rfl) ?_
    obtain ⟨kk_3, hk_4⟩ := pl_at hla.1 hg9
    refine va_iald hx hb hK hP kk_3 0 hk_4 rfl (vp_in_nI hc8 (by decide)) dX9_spotOf_16 ?_
    refine lv_topi (fun y_5 ey_5 => ?_)
    obtain rfl : y_5 = (nI K) := ey_5.trans (eK)
    refine lv_icmp_ge (tgt := 43) hx hb dX9_spotOf_17 (by decide) (fun c_6 => ?_) (fun c_6 => ?_)
    ·
      have hie : i = K := lp_eq rfl (by omega) hi c_6
      exact kx43 ls (by rw [← hie]; exact hg) (lv_sub hl [1, 2, 3] rfl)
    ·
      have hlt : i < K := lp_lt rfl (by omega) hi c_6
      refine lv_aload_n hx hb dX9_spotOf_20 rfl (lv_at hl 2 rfl) ?_
      refine lv_iload_n hx hb dX9_spotOf_21 rfl (lv_at hl 1 rfl) ?_
      refine lv_iload_n hx hb dX9_spotOf_22 rfl (lv_at hl 0 rfl) ?_
      obtain ⟨kk_7, hk_8⟩ := pl_at ha0.1 hs9
      refine vp_callSi (va_runV (As := [.int (nI c9), .int (nI i)]) (rest := []) ⟨hx, hb, hml, hown, hts⟩ (y_at l dC dI q h0 d k z f hI a0 la ca m9 d9 i9 gl gc ha0 hs9 hla hca hg9 hgb hc9 (nI c9) (nI i)) (cwV 2 hts gX9_spotOf_X9_at rfl rfl rfl zh_X9_at_31 ⟨Nat.le_trans (Nat.le_of_ble_eq_true rfl) hRf, Nat.le_trans (Nat.le_of_ble_eq_true rfl) hRl⟩) ⟨px_fb, va_recv hK hP (ci := 8) (q0 := kk_7) rfl hk_8, fun U hU hW => ⟨rfl, px_to hU hW hP hK hN hXN⟩⟩ rfl rfl hl.1 rfl (lv_room (Nat.le_of_ble_eq_true rfl)) dX9_spotOf_23 ⟨hRc, hRs⟩).run (fun r hw => ?_)
      generalize r = zr_9 at hw ⊢
      have hzr_9 := hw
      refine lv_iload_n hx hb dX9_spotOf_26 rfl (lv_at hl 3 rfl) ?_
      refine lv_icmp_ne (tgt := 37) hx hb dX9_spotOf_27 (by decide) (fun c_10 => ?_) (fun c_10 => ?_)
      ·
        refine lv_iinc (v := (nI (i + 1))) (lv' := [(3, .int (nI (i + 1))), (2, .int (nI c9)), (0, .ref a0), (1, .int p0)]) hx hb dX9_spotOf_37 hl (k := 0) rfl (nI_1 i) (by decide) rfl (fun ls hl => ?_)
        refine lv_goto (tgt := 10) hx hb dX9_spotOf_40 (by decide) ?_
        exact ih (i + 1) ls (by omega) (by omega) (shNo_l hg (fun h => c_10 (hzr_9.trans h))) (lv_sub hl [0, 1, 2, 3] rfl)
      ·
        exact kx30 _ ls ⟨hlt, hzr_9.symm.trans c_10, hg⟩ (lv_sub hl [0, 1, 2, 3] rfl)
set_option maxHeartbeats 4000000 in
set_option maxRecDepth 100000 in
theorem y_spot_out {p : Program} {l : Launch} {e : Env} {R : Room} {s : State} {m : MethodId} {args : Array Value} {below : List Frame} {meth : Method} {c : Code} {Q : State → Prop} {cells slots : Nat} {dC : Nat → ClassId} {dI : Nat → Nat → Nat} {q : Nat → ClassId} {h0 : Nat} {d : Nat → Nat} {k : Nat → Int32} {z : gS} {f : xF} {H : Heap} {locs : List Loc} (hI : xI q h0 d k z f) (hx : p.tables.exec = Jvm.exec) (hb : c.code = cX9_spotOf) (hml : c.maxLocals = 4) (hts : ∀ w ∈ wsX9_spotOf, w.before args s = true) (hown : s.vm.findClass RX9 = some m.cls) (hN : NN s) (hXN : XN s) (hK : va_K (dC, dI) vwCl (xT q) s) (hRf : 3 ≤ R.frames) (hRl : 64 ≤ R.locals) (hRc : cells ≤ R.cells) (hRs : slots ≤ R.slots) (hP : va_P (dC, dI) vwCl (va_pl z.1 f) H) {a0 la ca : Nat} {m9 d9 i9 : Int32} {gl gc : Nat → Int32} (ha0 : tg z a0 7) (hs9 : f a0 = .inr (8, [.ref la, .ref ca, .int m9, .int d9, .int i9])) (hla : tg z la 8) (hca : tg z ca 9) (hg9 : f la = aI (q 0) 8 gl) (hgb : ∀ j, j < 8 → bw (gl j) 0 60 = true) (hc9 : f ca = aI (q 0) 480 gc) {p0 : Int32} (kx49 : ∀ (ls : Array Slot), shNo gl gc p0 8 0 → lv_has ls 4 [(0, .ref a0), (1, .int p0)] → W p l e R s m args below meth c H locs cells slots Q (F0 m 49 ls [])) (kx30 : ∀ (l9 : Nat) (c9 : Nat) (ls : Array Slot), (c9 < 8 ∧ l9 < (gl (nI c9).toNatClampNeg).toNatClampNeg ∧ shAt gl gc (nI c9) (nI l9) = p0 ∧ shNo gl gc p0 c9 l9) → lv_has ls 4 [(3, .int (nI l9)), (2, .int (nI c9)), (0, .ref a0), (1, .int p0)] → W p l e R s m args below meth c H locs cells slots Q (F0 m 30 ls [])) : ∀ (kk i : Nat) (ls : Array Slot), i ≤ 8 → 8 - i < kk → shNo gl gc p0 i 0 → lv_has ls 4 [(2, .int (nI i)), (0, .ref a0), (1, .int p0)] → W p l e R s m args below meth c H locs cells slots Q (F0 m 2 ls []) := by
  intro kk
  induction kk with
  | zero => intro i ls h1 h2; exact absurd h2 (Nat.not_lt_zero _)
  | succ kk ih =>
    intro i ls hi hkk hg hl
    refine lv_iload_n hx hb dX9_spotOf_2 rfl (lv_at hl 0 rfl) ?_
    refine lv_bipush (v := 8) hx hb dX9_spotOf_3 (by decide) ?_
    refine lv_icmp_ge (tgt := 49) hx hb dX9_spotOf_5 (by decide) (fun c_1 => ?_) (fun c_1 => ?_)
    ·
      have hie : i = 8 := lp_eq rfl (by decide) hi c_1
      exact kx49 ls (by rw [← hie]; exact hg) (lv_sub hl [1, 2] rfl)
    ·
      have hlt : i < 8 := lp_lt rfl (by decide) hi c_1
      refine lv_iconst (v := 0) hx hb dX9_spotOf_8 (by decide) ?_
      refine lv_istore_n (lv' := [(3, .int 0), (2, .int (nI i)), (0, .ref a0), (1, .int p0)]) hx hb dX9_spotOf_9 rfl hl (by decide) rfl (fun ls hl => ?_)
      obtain ⟨eK, eK2, eK3⟩ := nI_of_bw (hgb (nI i).toNatClampNeg (by rw [nI_clamp (by omega)]; exact hlt))
      have h60 : (60 : Int32).toInt = 60 := rfl
      refine y_spot_in (p0 := p0) (c9 := i) (K := (gl (nI i).toNatClampNeg).toNatClampNeg) hI hx hb hml hts hown hN hXN hK hRf hRl hRc hRs hP ha0 hs9 hla hca hg9 hgb hc9 hlt eK (by omega) (fun ls hno hl => ?_) (fun l9 ls hh hl => kx30 _ _ ls ⟨hlt, hh⟩ hl) _ 0 ls (Nat.zero_le _) (Nat.lt_succ_self _) hg (lv_sub hl [0, 1, 2, 3] rfl)
      refine lv_iinc (v := (nI (i + 1))) (lv' := [(2, .int (nI (i + 1))), (0, .ref a0), (1, .int p0)]) hx hb dX9_spotOf_43 hl (k := 0) rfl (nI_1 i) (by decide) rfl (fun ls hl => ?_)
      refine lv_goto (tgt := 2) hx hb dX9_spotOf_46 (by decide) ?_
      exact ih (i + 1) ls (by omega) (by omega) (shNo_c hno rfl) (lv_sub hl [0, 1, 2] rfl)
set_option maxHeartbeats 4000000 in
set_option maxRecDepth 100000 in
theorem y_spotOf (l : Launch) (dC : Nat → ClassId) (dI : Nat → Nat → Nat) (q : Nat → ClassId) (h0 : Nat) (d : Nat → Nat) (k : Nat → Int32) (z : gS) (f : xF) (hI : xI q h0 d k z f) (a0 la ca : Nat) (m9 d9 i9 : Int32) (gl gc : Nat → Int32) (ha0 : tg z a0 7) (hs9 : f a0 = .inr (8, [.ref la, .ref ca, .int m9, .int d9, .int i9])) (hla : tg z la 8) (hca : tg z ca 9) (hg9 : f la = aI (q 0) 8 gl) (hgb : ∀ j, j < 8 → bw (gl j) 0 60 = true) (hc9 : f ca = aI (q 0) 480 gc) (p0 : Int32) : Met l yX9_spotOf wsX9_spotOf ({ frames := 3, cells := 0, slots := 0, locals := 64 }) (va_Pc [.ref a0, .int p0] (PX dC dI (va_pl z.1 f) (xT q))) (vp_Si (fun r => shSp gl gc p0 r)) 0 0 (fun _ => False) := by
  refine Met.ofW (cc := cX9_spotOf) (maxL := 4) (ret := (some .int)) (by decide) rfl ?_
  intro p e s m args below meth c s₁ B hml hv
  obtain ⟨rfl, ⟨hP, hK, hN⟩, hXN⟩ := hv
  have hx := B.exec
  have hb := B.bytes
  have hr := B.returns
  have hts := atoms_spec (ws := wsX9_spotOf) B.pre
  have hown : s.vm.findClass RX9 = some m.cls := findClass_of_methodNamed B.named
  have hlocks := B.notSynchronized
  have hl := lv_entry ([.ref a0, .int p0]) (n := 4) (Nat.le_of_ble_eq_true rfl)
  rw [lg_entry_eq]
  generalize (lg_sl ([.ref a0, .int p0]) ++ List.replicate (4 - (lg_sl ([.ref a0, .int p0])).length) Slot.unset).toArray = ls at hl ⊢
  have hl : lv_has ls 4 [(0, .ref a0), (1, .int p0)] := hl
  refine lv_iconst (v := 0) hx hb dX9_spotOf_0 (by decide) ?_
  refine lv_istore_n (lv' := [(2, .int 0), (0, .ref a0), (1, .int p0)]) hx hb dX9_spotOf_1 rfl hl (by decide) rfl (fun ls hl => ?_)
  refine y_spot_out (p0 := p0) hI hx hb hml hts hown hN hXN hK (Nat.le_of_ble_eq_true rfl) (Nat.le_of_ble_eq_true rfl) (Nat.le_of_ble_eq_true rfl) (Nat.le_of_ble_eq_true rfl) hP ha0 hs9 hla hca hg9 hgb hc9 (fun ls hno hl => ?_) (fun l9 c9 ls hh hl => ?_) 9 0 ls (by decide) (by decide) (shNo_z _ _ _) (lv_sub hl [0, 1, 2] rfl)
  ·
    refine lv_iconst (v := (-1)) hx hb dX9_spotOf_49 (by decide) ?_
    exact W.iret (v := (-1)) hx hb hr (fun t ht hW => ⟨_, rfl, (Or.inl ⟨rfl, hno⟩), ht⟩) (fun q h => absurd h List.not_mem_nil) dX9_spotOf_50
  ·
    refine lv_iload_n hx hb dX9_spotOf_30 rfl (lv_at hl 1 rfl) ?_
    refine lv_bipush (v := 60) hx hb dX9_spotOf_31 (by decide) ?_
    refine lv_imul hx hb dX9_spotOf_33 ?_
    refine lv_iload_n hx hb dX9_spotOf_34 rfl (lv_at hl 0 rfl) ?_
    refine lv_iadd hx hb dX9_spotOf_35 ?_
    exact W.iret (v := (((nI c9) * 60) + (nI l9))) hx hb hr (fun t ht hW => ⟨_, rfl, (Or.inr ⟨c9, l9, hh.1, hh.2.1, rfl, hh.2.2⟩), ht⟩) (fun q h => absurd h List.not_mem_nil) dX9_spotOf_36
theorem shAt_ok {gl gc : Nat → Int32} {c l : Nat} (hc : c < 8) (hb : bw (gl c) 0 60 = true) (hl : l < (gl c).toNatClampNeg) : shAt gl gc (nI c) (nI l) = gc (60 * c + l) := by
  obtain ⟨e1, e2, e3⟩ := nI_of_bw hb
  have h60 : (60 : Int32).toInt = 60 := rfl
  rw [h60] at e3
  unfold shAt
  rw [nI_clamp (by omega), if_pos (bw7 hc), if_pos (by rw [e1, dn_e (by omega)]; exact bwN (by rw [nI_toInt (by omega)]; omega) (by omega)), show (60 : Int32) = nI 60 from rfl, pk_mul, nI_add, nI_clamp (by omega), Nat.mul_comm]
theorem setC_up {g : Nat → Int32} {c Y i : Nat} {v : Int32} (hc : c < 8) (hy : Y + i < 60) : upd (setC g 0 c Y i v) (nI c * 60 + nI (Y + i)).toNatClampNeg v = setC g 0 c Y (i + 1) v := by
  rw [show (60 : Int32) = nI 60 from rfl, pk_mul, nI_add, nI_clamp (by omega)]
  funext j
  unfold upd setC
  by_cases e1 : j = c * 60 + (Y + i)
  · rw [if_pos e1, if_pos (by omega)]
  · rw [if_neg e1]
    by_cases e2 : 480 * 0 + 60 * c + Y ≤ j ∧ j < 480 * 0 + 60 * c + Y + i
    · rw [if_pos e2, if_pos (by omega)]
    · rw [if_neg e2, if_neg (by omega)]
theorem setC_ne {g : Nat → Int32} {P c Y n : Nat} {v : Int32} (h : ∀ j, j < 480 → ¬ g j = (-1)) (hv : ¬ v = (-1)) : ∀ j, j < 480 → ¬ setC g P c Y n v j = (-1) := by
  intro j hj
  unfold setC
  split
  · exact hv
  · exact h j hj
theorem setR_ne {g : Nat → Int32} {P X Y n : Nat} {v : Int32} (h : ∀ j, j < 480 → ¬ g j = (-1)) (hv : ¬ v = (-1)) : ∀ D j, j < 480 → ¬ setR g P X Y n v D j = (-1)
  | 0, j, hj => h j hj
  | D + 1, j, hj => setC_ne (setR_ne h hv D) hv j hj
theorem fr_1 {P : Nat → Prop} {i : Nat} (h : ∀ b, b < i → P b) (hi : P i) : ∀ b, b < i + 1 → P b := fun b hb => by
  by_cases e : b = i
  · rw [e]; exact hi
  · exact h b (by omega)
set_option maxHeartbeats 4000000 in
set_option maxRecDepth 100000 in
theorem y_free_in {p : Program} {l : Launch} {e : Env} {R : Room} {s : State} {m : MethodId} {args : Array Value} {below : List Frame} {meth : Method} {c : Code} {Q : State → Prop} {cells slots : Nat} {dC : Nat → ClassId} {dI : Nat → Nat → Nat} {q : Nat → ClassId} {h0 : Nat} {d : Nat → Nat} {k : Nat → Int32} {z : gS} {f : xF} {H : Heap} {locs : List Loc} (hI : xI q h0 d k z f) (hx : p.tables.exec = Jvm.exec) (hb : c.code = cX9_isFree) (hml : c.maxLocals = 4) (hts : ∀ w ∈ wsX9_isFree, w.before args s = true) (hown : s.vm.findClass RX9 = some m.cls) (hN : NN s) (hXN : XN s) (hK : va_K (dC, dI) vwCl (xT q) s) (hRf : 3 ≤ R.frames) (hRl : 64 ≤ R.locals) (hRc : cells ≤ R.cells) (hRs : slots ≤ R.slots) (hP : va_P (dC, dI) vwCl (va_pl z.1 f) H) {a0 la ca : Nat} {m9 d9 i9 : Int32} {gl gc : Nat → Int32} (ha0 : tg z a0 7) (hs9 : f a0 = .inr (8, [.ref la, .ref ca, .int m9, .int d9, .int i9])) (hla : tg z la 8) (hca : tg z ca 9) (hg9 : f la = aI (q 0) 8 gl) (hgb : ∀ j, j < 8 → bw (gl j) 0 60 = true) (hc9 : f ca = aI (q 0) 480 gc) {c9 : Int32} {b0 : Nat} {it : Option Nat} {P : Int32} {X9 Y9 D9 N9 : Nat} (hpc : pcS z b0 it P (nI X9) (nI Y9) (nI D9) (nI N9)) (hX9 : X9 ≤ 7) (hY9 : Y9 ≤ 60) (hD9 : D9 ≤ 8) (hN9 : N9 ≤ 60) (kx99 : ∀ (ls : Array Slot), (∀ b, b < N9 → shAt gl gc c9 (nI (Y9 + b)) = (-2)) → lv_has ls 4 [(2, .int c9), (0, .ref a0), (1, .ref b0)] → W p l e R s m args below meth c H locs cells slots Q (F0 m 99 ls [])) (kx91 : ∀ (ls : Array Slot), (∃ b, b < N9 ∧ ¬ shAt gl gc c9 (nI (Y9 + b)) = (-2)) → lv_has ls 4 [(0, .ref a0), (1, .ref b0)] → W p l e R s m args below meth c H locs cells slots Q (F0 m 91 ls [])) : ∀ (kk i : Nat) (ls : Array Slot), i ≤ N9 → N9 - i < kk → (∀ b, b < i → shAt gl gc c9 (nI (Y9 + b)) = (-2)) → lv_has ls 4 [(3, .int (nI (Y9 + i))), (2, .int c9), (0, .ref a0), (1, .ref b0)] → W p l e R s m args below meth c H locs cells slots Q (F0 m 67 ls []) := by
  intro kk
  induction kk with
  | zero => intro i ls h1 h2; exact absurd h2 (Nat.not_lt_zero _)
  | succ kk ih =>
    intro i ls hi hkk hg hl
    refine lv_iload_n hx hb dX9_isFree_67 rfl (lv_at hl 0 rfl) ?_
    refine lv_aload_n hx hb dX9_isFree_68 rfl (lv_at hl 3 rfl) ?_
    obtain ⟨kk_1, hk_2⟩ := pl_at hpc.1.1 (x_pcF hI hpc)
    refine va_get (D := (dC, dI)) (ci := 7) (v := .int (nI Y9)) (C := RX8) (T := TX8) (N := 6) hx hb hts zl_X9_isFree_X8 hown hK hP kk_1 hk_2 rfl 3 (by decide) (hts (.fieldLink RX9 57 "PageOne$Piece" "line" "I") (zat q_wsX9_isFree k_wsX9_isFree 327 rfl (by decide +kernel))) (fun _ h9 => h9) rfl dX9_isFree_69 ?_
    refine lv_aload_n hx hb dX9_isFree_72 rfl (lv_at hl 3 rfl) ?_
    obtain ⟨kk_3, hk_4⟩ := pl_at hpc.1.1 (x_pcF hI hpc)
    refine va_get (D := (dC, dI)) (ci := 7) (v := .int (nI N9)) (C := RX8) (T := TX8) (N := 6) hx hb hts zl_X9_isFree_X8 hown hK hP kk_3 hk_4 rfl 5 (by decide) (hts (.fieldLink RX9 47 "PageOne$Piece" "h" "I") (zat q_wsX9_isFree k_wsX9_isFree 335 rfl (by decide +kernel))) (fun _ h9 => h9) rfl dX9_isFree_73 ?_
    refine lv_iadd hx hb dX9_isFree_76 ?_
    refine lv_icmp_ge (tgt := 99) hx hb dX9_isFree_77 (by decide) (fun c_5 => ?_) (fun c_5 => ?_)
    ·
      have hie : i = N9 := by have := lp_eq (nI_add Y9 N9) (by omega) (by omega) c_5; omega
      exact kx99 ls (by rw [← hie]; exact hg) (lv_sub hl [1, 2, 3] rfl)
    ·
      have hlt : i < N9 := by have := lp_lt (nI_add Y9 N9) (by omega) (by omega) c_5; omega
      refine lv_aload_n hx hb dX9_isFree_80 rfl (lv_at hl 2 rfl) ?_
      refine lv_iload_n hx hb dX9_isFree_81 rfl (lv_at hl 1 rfl) ?_
      refine lv_iload_n hx hb dX9_isFree_82 rfl (lv_at hl 0 rfl) ?_
      obtain ⟨kk_6, hk_7⟩ := pl_at ha0.1 hs9
      refine vp_callSi (va_runV (As := [.int c9, .int (nI (Y9 + i))]) (rest := []) ⟨hx, hb, hml, hown, hts⟩ (y_at l dC dI q h0 d k z f hI a0 la ca m9 d9 i9 gl gc ha0 hs9 hla hca hg9 hgb hc9 c9 (nI (Y9 + i))) (cwV 2 hts gX9_isFree_X9_at rfl rfl rfl zh_X9_at_31 ⟨Nat.le_trans (Nat.le_of_ble_eq_true rfl) hRf, Nat.le_trans (Nat.le_of_ble_eq_true rfl) hRl⟩) ⟨px_fb, va_recv hK hP (ci := 8) (q0 := kk_6) rfl hk_7, fun U hU hW => ⟨rfl, px_to hU hW hP hK hN hXN⟩⟩ rfl rfl hl.1 rfl (lv_room (Nat.le_of_ble_eq_true rfl)) dX9_isFree_83 ⟨hRc, hRs⟩).run (fun r hw => ?_)
      generalize r = zr_8 at hw ⊢
      have hzr_8 := hw
      refine lv_bipush (v := (-2)) hx hb dX9_isFree_86 (by decide) ?_
      refine lv_icmp_eq (tgt := 93) hx hb dX9_isFree_88 (by decide) (fun c_9 => ?_) (fun c_9 => ?_)
      ·
        refine lv_iinc (v := (nI (Y9 + i + 1))) (lv' := [(3, .int (nI (Y9 + i + 1))), (2, .int c9), (0, .ref a0), (1, .ref b0)]) hx hb dX9_isFree_93 hl (k := 0) rfl (nI_1 _) (by decide) rfl (fun ls hl => ?_)
        refine lv_goto (tgt := 67) hx hb dX9_isFree_96 (by decide) ?_
        exact ih (i + 1) ls (by omega) (by omega) (fr_1 hg (hzr_8.symm.trans c_9)) (lv_sub hl [0, 1, 2, 3] rfl)
      ·
        exact kx91 ls ⟨i, hlt, fun h => c_9 (hzr_8.trans h)⟩ (lv_sub hl [2, 3] rfl)
set_option maxHeartbeats 4000000 in
set_option maxRecDepth 100000 in
theorem y_free_out {p : Program} {l : Launch} {e : Env} {R : Room} {s : State} {m : MethodId} {args : Array Value} {below : List Frame} {meth : Method} {c : Code} {Q : State → Prop} {cells slots : Nat} {dC : Nat → ClassId} {dI : Nat → Nat → Nat} {q : Nat → ClassId} {h0 : Nat} {d : Nat → Nat} {k : Nat → Int32} {z : gS} {f : xF} {H : Heap} {locs : List Loc} (hI : xI q h0 d k z f) (hx : p.tables.exec = Jvm.exec) (hb : c.code = cX9_isFree) (hml : c.maxLocals = 4) (hts : ∀ w ∈ wsX9_isFree, w.before args s = true) (hown : s.vm.findClass RX9 = some m.cls) (hN : NN s) (hXN : XN s) (hK : va_K (dC, dI) vwCl (xT q) s) (hRf : 3 ≤ R.frames) (hRl : 64 ≤ R.locals) (hRc : cells ≤ R.cells) (hRs : slots ≤ R.slots) (hP : va_P (dC, dI) vwCl (va_pl z.1 f) H) {a0 la ca : Nat} {m9 d9 i9 : Int32} {gl gc : Nat → Int32} (ha0 : tg z a0 7) (hs9 : f a0 = .inr (8, [.ref la, .ref ca, .int m9, .int d9, .int i9])) (hla : tg z la 8) (hca : tg z ca 9) (hg9 : f la = aI (q 0) 8 gl) (hgb : ∀ j, j < 8 → bw (gl j) 0 60 = true) (hc9 : f ca = aI (q 0) 480 gc) {b0 : Nat} {it : Option Nat} {P : Int32} {X9 Y9 D9 N9 : Nat} (hpc : pcS z b0 it P (nI X9) (nI Y9) (nI D9) (nI N9)) (hX9 : X9 ≤ 7) (hY9 : Y9 ≤ 60) (hD9 : D9 ≤ 8) (hN9 : N9 ≤ 60) (kx105 : ∀ (ls : Array Slot), (∀ a, a < D9 → ∀ b, b < N9 → shAt gl gc (nI (X9 + a)) (nI (Y9 + b)) = (-2)) → lv_has ls 4 [(0, .ref a0), (1, .ref b0)] → W p l e R s m args below meth c H locs cells slots Q (F0 m 105 ls [])) (kx91 : ∀ (ls : Array Slot), (∃ a, a < D9 ∧ ∃ b, b < N9 ∧ ¬ shAt gl gc (nI (X9 + a)) (nI (Y9 + b)) = (-2)) → lv_has ls 4 [(0, .ref a0), (1, .ref b0)] → W p l e R s m args below meth c H locs cells slots Q (F0 m 91 ls [])) : ∀ (kk i : Nat) (ls : Array Slot), i ≤ D9 → D9 - i < kk → (∀ a, a < i → ∀ b, b < N9 → shAt gl gc (nI (X9 + a)) (nI (Y9 + b)) = (-2)) → lv_has ls 4 [(2, .int (nI (X9 + i))), (0, .ref a0), (1, .ref b0)] → W p l e R s m args below meth c H locs cells slots Q (F0 m 49 ls []) := by
  intro kk
  induction kk with
  | zero => intro i ls h1 h2; exact absurd h2 (Nat.not_lt_zero _)
  | succ kk ih =>
    intro i ls hi hkk hg hl
    refine lv_iload_n hx hb dX9_isFree_49 rfl (lv_at hl 0 rfl) ?_
    refine lv_aload_n hx hb dX9_isFree_50 rfl (lv_at hl 2 rfl) ?_
    obtain ⟨kk_1, hk_2⟩ := pl_at hpc.1.1 (x_pcF hI hpc)
    refine va_get (D := (dC, dI)) (ci := 7) (v := .int (nI X9)) (C := RX8) (T := TX8) (N := 6) hx hb hts zl_X9_isFree_X8 hown hK hP kk_1 hk_2 rfl 2 (by decide) (hts (.fieldLink RX9 54 "PageOne$Piece" "column" "I") (zat q_wsX9_isFree k_wsX9_isFree 323 rfl (by decide +kernel))) (fun _ h9 => h9) rfl dX9_isFree_51 ?_
    refine lv_aload_n hx hb dX9_isFree_54 rfl (lv_at hl 2 rfl) ?_
    obtain ⟨kk_3, hk_4⟩ := pl_at hpc.1.1 (x_pcF hI hpc)
    refine va_get (D := (dC, dI)) (ci := 7) (v := .int (nI D9)) (C := RX8) (T := TX8) (N := 6) hx hb hts zl_X9_isFree_X8 hown hK hP kk_3 hk_4 rfl 4 (by decide) (hts (.fieldLink RX9 42 "PageOne$Piece" "w" "I") (zat q_wsX9_isFree k_wsX9_isFree 331 rfl (by decide +kernel))) (fun _ h9 => h9) rfl dX9_isFree_55 ?_
    refine lv_iadd hx hb dX9_isFree_58 ?_
    refine lv_icmp_ge (tgt := 105) hx hb dX9_isFree_59 (by decide) (fun c_5 => ?_) (fun c_5 => ?_)
    ·
      have hie : i = D9 := by have := lp_eq (nI_add X9 D9) (by omega) (by omega) c_5; omega
      exact kx105 ls (by rw [← hie]; exact hg) (lv_sub hl [1, 2] rfl)
    ·
      have hlt : i < D9 := by have := lp_lt (nI_add X9 D9) (by omega) (by omega) c_5; omega
      refine lv_aload_n hx hb dX9_isFree_62 rfl (lv_at hl 2 rfl) ?_
      obtain ⟨kk_6, hk_7⟩ := pl_at hpc.1.1 (x_pcF hI hpc)
      refine va_get (D := (dC, dI)) (ci := 7) (v := .int (nI Y9)) (C := RX8) (T := TX8) (N := 6) hx hb hts zl_X9_isFree_X8 hown hK hP kk_6 hk_7 rfl 3 (by decide) (hts (.fieldLink RX9 57 "PageOne$Piece" "line" "I") (zat q_wsX9_isFree k_wsX9_isFree 327 rfl (by decide +kernel))) (fun _ h9 => h9) rfl dX9_isFree_63 ?_
      refine lv_istore_n (lv' := [(3, .int (nI Y9)), (2, .int (nI (X9 + i))), (0, .ref a0), (1, .ref b0)]) hx hb dX9_isFree_66 rfl hl (by decide) rfl (fun ls hl => ?_)
      refine y_free_in (c9 := nI (X9 + i)) hI hx hb hml hts hown hN hXN hK hRf hRl hRc hRs hP ha0 hs9 hla hca hg9 hgb hc9 hpc hX9 hY9 hD9 hN9 (fun ls hg2 hl => ?_) (fun ls hh hl => kx91 ls ⟨i, hlt, hh⟩ hl) (N9 + 1) 0 ls (Nat.zero_le _) (by omega) (fun b hb => absurd hb (Nat.not_lt_zero _)) (lv_sub hl [0, 1, 2, 3] rfl)
      refine lv_iinc (v := (nI (X9 + i + 1))) (lv' := [(2, .int (nI (X9 + i + 1))), (0, .ref a0), (1, .ref b0)]) hx hb dX9_isFree_99 hl (k := 0) rfl (nI_1 _) (by decide) rfl (fun ls hl => ?_)
      refine lv_goto (tgt := 49) hx hb dX9_isFree_102 (by decide) ?_
      exact ih (i + 1) ls (by omega) (by omega) (fr_1 hg hg2) (lv_sub hl [0, 1, 2] rfl)
set_option maxHeartbeats 4000000 in
set_option maxRecDepth 100000 in
theorem y_isFree (l : Launch) (dC : Nat → ClassId) (dI : Nat → Nat → Nat) (q : Nat → ClassId) (h0 : Nat) (d : Nat → Nat) (k : Nat → Int32) (z : gS) (f : xF) (hI : xI q h0 d k z f) (a0 la ca : Nat) (m9 d9 i9 : Int32) (gl gc : Nat → Int32) (ha0 : tg z a0 7) (hs9 : f a0 = .inr (8, [.ref la, .ref ca, .int m9, .int d9, .int i9])) (hla : tg z la 8) (hca : tg z ca 9) (hg9 : f la = aI (q 0) 8 gl) (hgb : ∀ j, j < 8 → bw (gl j) 0 60 = true) (hc9 : f ca = aI (q 0) 480 gc) (b0 : Nat) (it : Option Nat) (P X Y D N : Int32) (hpc : pcS z b0 it P X Y D N) : Met l yX9_isFree wsX9_isFree ({ frames := 3, cells := 0, slots := 0, locals := 64 }) (va_Pc [.ref a0, .ref b0] (PX dC dI (va_pl z.1 f) (xT q))) (vp_Si (fun r => (r = 1 ∧ shFr gl gc X Y D N) ∨ (r = 0 ∧ ¬ shFr gl gc X Y D N))) 0 0 (fun _ => False) := by
  refine Met.ofW (cc := cX9_isFree) (maxL := 4) (ret := (some .boolean)) (by decide) rfl ?_
  intro p e s m args below meth c s₁ B hml hv
  obtain ⟨rfl, ⟨hP, hK, hN⟩, hXN⟩ := hv
  have hx := B.exec
  have hb := B.bytes
  have hr := B.returns
  have hts := atoms_spec (ws := wsX9_isFree) B.pre
  have hown : s.vm.findClass RX9 = some m.cls := findClass_of_methodNamed B.named
  have hlocks := B.notSynchronized
  have hl := lv_entry ([.ref a0, .ref b0]) (n := 4) (Nat.le_of_ble_eq_true rfl)
  rw [lg_entry_eq]
  generalize (lg_sl ([.ref a0, .ref b0]) ++ List.replicate (4 - (lg_sl ([.ref a0, .ref b0])).length) Slot.unset).toArray = ls at hl ⊢
  have hl : lv_has ls 4 [(0, .ref a0), (1, .ref b0)] := hl
  refine lv_aload_n hx hb dX9_isFree_0 rfl (lv_at hl 1 rfl) ?_
  obtain ⟨kk_1, hk_2⟩ := pl_at hpc.1.1 (x_pcF hI hpc)
  refine va_get (D := (dC, dI)) (ci := 7) (v := .int D) (C := RX8) (T := TX8) (N := 6) hx hb hts zl_X9_isFree_X8 hown hK hP kk_1 hk_2 rfl 4 (by decide) (hts (.fieldLink RX9 42 "PageOne$Piece" "w" "I") (zat q_wsX9_isFree k_wsX9_isFree 331 rfl (by decide +kernel))) (fun _ h9 => h9) rfl dX9_isFree_1 ?_
  refine lv_aload_n hx hb dX9_isFree_4 rfl (lv_at hl 1 rfl) ?_
  obtain ⟨kk_3, hk_4⟩ := pl_at hpc.1.1 (x_pcF hI hpc)
  refine va_get (D := (dC, dI)) (ci := 7) (v := .int N) (C := RX8) (T := TX8) (N := 6) hx hb hts zl_X9_isFree_X8 hown hK hP kk_3 hk_4 rfl 5 (by decide) (hts (.fieldLink RX9 47 "PageOne$Piece" "h" "I") (zat q_wsX9_isFree k_wsX9_isFree 335 rfl (by decide +kernel))) (fun _ h9 => h9) rfl dX9_isFree_5 ?_
  refine vp_callSi (va_runSN (As := [.int D, .int N]) (rest := []) ⟨hx, hb, hml, hown, hts⟩ (x_isSquare l dC dI D N) ⟨va_cnB (host := "PageOne") 2 hts gX9_isFree_X11_isSquare_n50 rfl rfl rfl hN.n_RX9_50 (hts (.initialized RX11) (zat q_wsX9_isFree k_wsX9_isFree 53 rfl (by decide +kernel))) (by decide +kernel) ⟨Nat.le_of_ble_eq_true rfl, Nat.le_of_ble_eq_true rfl⟩, hts (.static yX11_isSquare) (zat q_wsX9_isFree k_wsX9_isFree 294 rfl (by decide +kernel)), trivial⟩ ⟨pw_fb, fun U hU hW => ⟨rfl, pw_to hU hW (hP.sub (ws' := []) [] rfl) (hK.sub (tys' := []) [] rfl) hN⟩⟩ rfl rfl hl.1 rfl (lv_room (Nat.le_of_ble_eq_true rfl)) dX9_isFree_8 ⟨Nat.le_of_ble_eq_true rfl, Nat.le_of_ble_eq_true rfl⟩).run (fun r hw => ?_)
  rcases Bool.eq_false_or_eq_true ((bw D 1 8 && bw N 1 60)) with b_5 | b_5
  ·
    obtain rfl : r = 1 := b_t hw b_5
    refine lv_if_eq (tgt := 42) hx hb dX9_isFree_11 (by decide) (fun c_6 => absurd c_6 (by decide)) (fun c_6 => ?_)
    refine lv_aload_n hx hb dX9_isFree_14 rfl (lv_at hl 1 rfl) ?_
    obtain ⟨kk_7, hk_8⟩ := pl_at hpc.1.1 (x_pcF hI hpc)
    refine va_get (D := (dC, dI)) (ci := 7) (v := .int X) (C := RX8) (T := TX8) (N := 6) hx hb hts zl_X9_isFree_X8 hown hK hP kk_7 hk_8 rfl 2 (by decide) (hts (.fieldLink RX9 54 "PageOne$Piece" "column" "I") (zat q_wsX9_isFree k_wsX9_isFree 323 rfl (by decide +kernel))) (fun _ h9 => h9) rfl dX9_isFree_15 ?_
    refine vp_callSi (va_runSN (As := [.int X]) (rest := []) ⟨hx, hb, hml, hown, hts⟩ (x_isColumn l dC dI X) ⟨va_cnB (host := "PageOne") 1 hts gX9_isFree_X11_isColumn_n34 rfl rfl rfl hN.n_RX9_34 (hts (.initialized RX11) (zat q_wsX9_isFree k_wsX9_isFree 53 rfl (by decide +kernel))) (by decide +kernel) ⟨Nat.le_of_ble_eq_true rfl, Nat.le_of_ble_eq_true rfl⟩, hts (.static yX11_isColumn) (zat q_wsX9_isFree k_wsX9_isFree 151 rfl (by decide +kernel)), trivial⟩ ⟨pw_fb, fun U hU hW => ⟨rfl, pw_to hU hW (hP.sub (ws' := []) [] rfl) (hK.sub (tys' := []) [] rfl) hN⟩⟩ rfl rfl hl.1 rfl (lv_room (Nat.le_of_ble_eq_true rfl)) dX9_isFree_18 ⟨Nat.le_of_ble_eq_true rfl, Nat.le_of_ble_eq_true rfl⟩).run (fun r hw => ?_)
    rcases Bool.eq_false_or_eq_true (bw X 0 7) with b_9 | b_9
    ·
      obtain rfl : r = 1 := b_t hw b_9
      refine lv_if_eq (tgt := 42) hx hb dX9_isFree_21 (by decide) (fun c_10 => absurd c_10 (by decide)) (fun c_10 => ?_)
      refine lv_aload_n hx hb dX9_isFree_24 rfl (lv_at hl 1 rfl) ?_
      obtain ⟨kk_11, hk_12⟩ := pl_at hpc.1.1 (x_pcF hI hpc)
      refine va_get (D := (dC, dI)) (ci := 7) (v := .int Y) (C := RX8) (T := TX8) (N := 6) hx hb hts zl_X9_isFree_X8 hown hK hP kk_11 hk_12 rfl 3 (by decide) (hts (.fieldLink RX9 57 "PageOne$Piece" "line" "I") (zat q_wsX9_isFree k_wsX9_isFree 327 rfl (by decide +kernel))) (fun _ h9 => h9) rfl dX9_isFree_25 ?_
      refine lv_iconst (v := 0) hx hb dX9_isFree_28 (by decide) ?_
      refine lv_bipush (v := 60) hx hb dX9_isFree_29 (by decide) ?_
      refine lv_aload_n hx hb dX9_isFree_31 rfl (lv_at hl 1 rfl) ?_
      obtain ⟨kk_13, hk_14⟩ := pl_at hpc.1.1 (x_pcF hI hpc)
      refine va_get (D := (dC, dI)) (ci := 7) (v := .int N) (C := RX8) (T := TX8) (N := 6) hx hb hts zl_X9_isFree_X8 hown hK hP kk_13 hk_14 rfl 5 (by decide) (hts (.fieldLink RX9 47 "PageOne$Piece" "h" "I") (zat q_wsX9_isFree k_wsX9_isFree 335 rfl (by decide +kernel))) (fun _ h9 => h9) rfl dX9_isFree_32 ?_
      refine lv_isub hx hb dX9_isFree_35 ?_
      refine vp_callSi (va_runSN (As := [.int Y, .int 0, .int (60 - N)]) (rest := []) ⟨hx, hb, hml, hown, hts⟩ (x_isWithin l dC dI Y 0 (60 - N)) ⟨va_cnB (host := "PageOne") 3 hts gX9_isFree_X11_isWithin_n38 rfl rfl rfl hN.n_RX9_38 (hts (.initialized RX11) (zat q_wsX9_isFree k_wsX9_isFree 53 rfl (by decide +kernel))) (by decide +kernel) ⟨Nat.le_of_ble_eq_true rfl, Nat.le_of_ble_eq_true rfl⟩, hts (.static yX11_isWithin) (zat q_wsX9_isFree k_wsX9_isFree 148 rfl (by decide +kernel)), trivial⟩ ⟨pw_fb, fun U hU hW => ⟨rfl, pw_to hU hW (hP.sub (ws' := []) [] rfl) (hK.sub (tys' := []) [] rfl) hN⟩⟩ rfl rfl hl.1 rfl (lv_room (Nat.le_of_ble_eq_true rfl)) dX9_isFree_36 ⟨Nat.le_of_ble_eq_true rfl, Nat.le_of_ble_eq_true rfl⟩).run (fun r hw => ?_)
      rcases Bool.eq_false_or_eq_true (bw Y 0 (60 - N)) with b_15 | b_15
      ·
        obtain rfl : r = 1 := b_t hw b_15
        refine lv_if_ne (tgt := 44) hx hb dX9_isFree_39 (by decide) (fun c_16 => ?_) (fun c_16 => absurd c_16 (by decide))
        refine lv_aload_n hx hb dX9_isFree_44 rfl (lv_at hl 1 rfl) ?_
        obtain ⟨kk_17, hk_18⟩ := pl_at hpc.1.1 (x_pcF hI hpc)
        refine va_get (D := (dC, dI)) (ci := 7) (v := .int X) (C := RX8) (T := TX8) (N := 6) hx hb hts zl_X9_isFree_X8 hown hK hP kk_17 hk_18 rfl 2 (by decide) (hts (.fieldLink RX9 54 "PageOne$Piece" "column" "I") (zat q_wsX9_isFree k_wsX9_isFree 323 rfl (by decide +kernel))) (fun _ h9 => h9) rfl dX9_isFree_45 ?_
        refine lv_istore_n (lv' := [(2, .int X), (0, .ref a0), (1, .ref b0)]) hx hb dX9_isFree_48 rfl hl (by decide) rfl (fun ls hl => ?_)
        have hlg := sq_lg b_5 b_9 b_15
        obtain ⟨g1, g2, g3, g4⟩ := hlg
        obtain ⟨X9, hX9, -, eX9⟩ := exN g1 (by decide)
        obtain ⟨Y9, hY9, -, eY9⟩ := exN g2 (by decide)
        obtain ⟨D9, hD9, -, eD9⟩ := exN g3 (by decide)
        obtain ⟨N9, hN9, -, eN9⟩ := exN g4 (by decide)
        have h7 : (7 : Int32).toInt = 7 := rfl
        have h8 : (8 : Int32).toInt = 8 := rfl
        have h60 : (60 : Int32).toInt = 60 := rfl
        subst eX9 eY9 eD9 eN9
        refine y_free_out (X9 := X9) (Y9 := Y9) (D9 := D9) (N9 := N9) hI hx hb hml hts hown hN hXN hK (Nat.le_of_ble_eq_true rfl) (Nat.le_of_ble_eq_true rfl) (Nat.le_of_ble_eq_true rfl) (Nat.le_of_ble_eq_true rfl) hP ha0 hs9 hla hca hg9 hgb hc9 hpc (by omega) (by omega) (by omega) (by omega) (fun ls hg2 hl => ?_) (fun ls hh hl => ?_) (D9 + 1) 0 ls (Nat.zero_le _) (by omega) (fun a ha => absurd ha (Nat.not_lt_zero _)) (lv_sub hl [0, 1, 2] rfl)
        ·
          refine lv_iconst (v := 1) hx hb dX9_isFree_105 (by decide) ?_
          exact W.zret (v := 1) hx hb hr (by decide) (fun t ht hW => ⟨_, rfl, (Or.inl ⟨rfl, b_5, b_9, b_15, fun a ha b hb => by rw [nI_add, nI_add]; rw [nI_clamp (by omega)] at ha hb; exact hg2 a ha b hb⟩), ht⟩) (fun q h => absurd h List.not_mem_nil) dX9_isFree_106
        ·
          refine lv_iconst (v := 0) hx hb dX9_isFree_91 (by decide) ?_
          exact W.zret (v := 0) hx hb hr (by decide) (fun t ht hW => ⟨_, rfl, (Or.inr ⟨rfl, fun h => by obtain ⟨a, ha, b, hb, hne⟩ := hh; have h9 := h.2.2.2 a (by rw [nI_clamp (by omega)]; exact ha) b (by rw [nI_clamp (by omega)]; exact hb); rw [nI_add, nI_add] at h9; exact hne h9⟩), ht⟩) (fun q h => absurd h List.not_mem_nil) dX9_isFree_92
      ·
        obtain rfl : r = 0 := b_f hw b_15
        refine lv_if_ne (tgt := 44) hx hb dX9_isFree_39 (by decide) (fun c_19 => absurd (by decide) c_19) (fun c_19 => ?_)
        refine lv_iconst (v := 0) hx hb dX9_isFree_42 (by decide) ?_
        exact W.zret (v := 0) hx hb hr (by decide) (fun t ht hW => ⟨_, rfl, (Or.inr ⟨rfl, fun h => bne b_15 h.2.2.1⟩), ht⟩) (fun q h => absurd h List.not_mem_nil) dX9_isFree_43
    ·
      obtain rfl : r = 0 := b_f hw b_9
      refine lv_if_eq (tgt := 42) hx hb dX9_isFree_21 (by decide) (fun c_20 => ?_) (fun c_20 => absurd (by decide) c_20)
      refine lv_iconst (v := 0) hx hb dX9_isFree_42 (by decide) ?_
      exact W.zret (v := 0) hx hb hr (by decide) (fun t ht hW => ⟨_, rfl, (Or.inr ⟨rfl, fun h => bne b_9 h.2.1⟩), ht⟩) (fun q h => absurd h List.not_mem_nil) dX9_isFree_43
  ·
    obtain rfl : r = 0 := b_f hw b_5
    refine lv_if_eq (tgt := 42) hx hb dX9_isFree_11 (by decide) (fun c_21 => ?_) (fun c_21 => absurd (by decide) c_21)
    refine lv_iconst (v := 0) hx hb dX9_isFree_42 (by decide) ?_
    exact W.zret (v := 0) hx hb hr (by decide) (fun t ht hW => ⟨_, rfl, (Or.inr ⟨rfl, fun h => bne b_5 h.1⟩), ht⟩) (fun q h => absurd h List.not_mem_nil) dX9_isFree_43
theorem cl60 {v : Int32} (h : bw v 0 60 = true) : v.toNatClampNeg ≤ 60 := by
  obtain ⟨e1, e2, e3⟩ := nI_of_bw h
  have h60 : (60 : Int32).toInt = 60 := rfl
  rw [h60] at e3; omega
theorem upF_id {f : xF} {a : Nat} {e : va_E} (h : f a = e) : va_up f a e = f := by
  funext b
  unfold va_up
  by_cases x : b = a
  · rw [if_pos x, x, h]
  · rw [if_neg x]
set_option maxHeartbeats 4000000 in
set_option maxRecDepth 100000 in
theorem y_mark_in {p : Program} {l : Launch} {e : Env} {R : Room} {s : State} {m : MethodId} {args : Array Value} {below : List Frame} {meth : Method} {c : Code} {Q : State → Prop} {cells slots : Nat} {dC : Nat → ClassId} {dI : Nat → Nat → Nat} {q : Nat → ClassId} {h0 : Nat} {d : Nat → Nat} {k : Nat → Int32} {z : gS} {a0 la ca : Nat} {m9 d9 i9 v9 : Int32} {gl g0 : Nat → Int32} {f0 : xF} (ha0 : tg z a0 7) (hla : tg z la 8) (hca : tg z ca 9) (hs0 : f0 a0 = .inr (8, [.ref la, .ref ca, .int m9, .int d9, .int i9])) (hl0 : f0 la = aI (q 0) 8 gl) (hgb : ∀ j, j < 8 → bw (gl j) 0 60 = true) (hn1 : ∀ j, j < 480 → ¬ g0 j = (-1)) (hv1 : ¬ v9 = (-1)) {b0 : Nat} {it : Option Nat} {P : Int32} {X9 Y9 D9 N9 : Nat} (hpc : pcS z b0 it P (nI X9) (nI Y9) (nI D9) (nI N9)) (hX9 : X9 ≤ 7) (hY9 : Y9 ≤ 60) (hD9 : D9 ≤ 8) (hN9 : N9 ≤ 60) (hex : X9 + D9 ≤ 8) (hexl : ∀ a, a < D9 → Y9 + N9 ≤ (gl (X9 + a)).toNatClampNeg) {c9 : Nat} (hc8 : c9 < 8) (hcl : Y9 + N9 ≤ (gl c9).toNatClampNeg) {A : Nat → Prop} {H0 : Heap} (hx : p.tables.exec = Jvm.exec) (hb : c.code = cX9_mark) (hml : c.maxLocals = 5) (hts : ∀ w ∈ wsX9_mark, w.before args s = true) (hown : s.vm.findClass RX9 = some m.cls) (hN : NN s) (hXN : XN s) (hK : va_K (dC, dI) vwCl (xT q) s) (hRf : 3 ≤ R.frames) (hRl : 64 ≤ R.locals) (hRc : cells ≤ R.cells) (hRs : slots ≤ R.slots) (hA : ∀ q : Nat, H0.size ≤ q → A q) (kx68 : ∀ (f : xF) (H : Heap) (locs : List Loc) (ls : Array Slot), f = va_up f0 ca (aI (q 0) 480 (setC g0 0 c9 Y9 N9 v9)) → xI q h0 d k z f → va_P (dC, dI) vwCl (va_pl z.1 f) H → va_D A (va_pl z.1 f) → va_S A H0 H locs → lv_has ls 5 [(3, .int (nI c9)), (2, .int v9), (0, .ref a0), (1, .ref b0)] → W p l e R s m args below meth c H locs cells slots Q (F0 m 68 ls [])) : ∀ (kk i : Nat) (f : xF) (H : Heap) (locs : List Loc) (ls : Array Slot), i ≤ N9 → N9 - i < kk → (f = va_up f0 ca (aI (q 0) 480 (setC g0 0 c9 Y9 i v9))) → xI q h0 d k z f → va_P (dC, dI) vwCl (va_pl z.1 f) H → va_D A (va_pl z.1 f) → va_S A H0 H locs → lv_has ls 5 [(4, .int (nI (Y9 + i))), (3, .int (nI c9)), (2, .int v9), (0, .ref a0), (1, .ref b0)] → W p l e R s m args below meth c H locs cells slots Q (F0 m 24 ls []) := by
  intro kk
  induction kk with
  | zero => intro i f H locs ls h1 h2; exact absurd h2 (Nat.not_lt_zero _)
  | succ kk ih =>
    intro i f H locs ls hi hkk hg hI hP hD hS hl
    have h60c := cl60 (hgb _ hc8)
    have hs9 : f a0 = .inr (8, [.ref la, .ref ca, .int m9, .int d9, .int i9]) := by rw [hg, up_o (tg_ne ha0 hca (by decide))]; exact hs0
    have hg9 : f la = aI (q 0) 8 gl := by rw [hg, up_o (tg_ne hla hca (by decide))]; exact hl0
    have hc9 : f ca = aI (q 0) 480 (setC g0 0 c9 Y9 i v9) := by rw [hg]; exact up_s
    refine lv_iload hx hb dX9_mark_24 (lv_at hl 0 rfl) ?_
    refine lv_aload_n hx hb dX9_mark_26 rfl (lv_at hl 4 rfl) ?_
    obtain ⟨kk_1, hk_2⟩ := pl_at hpc.1.1 (x_pcF hI hpc)
    refine va_get (D := (dC, dI)) (ci := 7) (v := .int (nI Y9)) (C := RX8) (T := TX8) (N := 6) hx hb hts zl_X9_mark_X8 hown hK hP kk_1 hk_2 rfl 3 (by decide) (hts (.fieldLink RX9 57 "PageOne$Piece" "line" "I") (zat q_wsX9_mark k_wsX9_mark 327 rfl (by decide +kernel))) (fun _ h9 => h9) rfl dX9_mark_27 ?_
    refine lv_aload_n hx hb dX9_mark_30 rfl (lv_at hl 4 rfl) ?_
    obtain ⟨kk_3, hk_4⟩ := pl_at hpc.1.1 (x_pcF hI hpc)
    refine va_get (D := (dC, dI)) (ci := 7) (v := .int (nI N9)) (C := RX8) (T := TX8) (N := 6) hx hb hts zl_X9_mark_X8 hown hK hP kk_3 hk_4 rfl 5 (by decide) (hts (.fieldLink RX9 47 "PageOne$Piece" "h" "I") (zat q_wsX9_mark k_wsX9_mark 335 rfl (by decide +kernel))) (fun _ h9 => h9) rfl dX9_mark_31 ?_
    refine lv_iadd hx hb dX9_mark_34 ?_
    refine lv_icmp_ge (tgt := 68) hx hb dX9_mark_35 (by decide) (fun c_5 => ?_) (fun c_5 => ?_)
    ·
      have hie : i = N9 := by have := lp_eq (nI_add Y9 N9) (by omega) (by omega) c_5; omega
      exact kx68 _ _ _ ls (by rw [← hie]; exact hg) hI hP hD hS (lv_sub hl [1, 2, 3, 4] rfl)
    ·
      have hlt : i < N9 := by have := lp_lt (nI_add Y9 N9) (by omega) (by omega) c_5; omega
      refine lv_aload_n hx hb dX9_mark_38 rfl (lv_at hl 3 rfl) ?_
      refine lv_iload_n hx hb dX9_mark_39 rfl (lv_at hl 1 rfl) ?_
      refine lv_iload hx hb dX9_mark_40 (lv_at hl 0 rfl) ?_
      obtain ⟨kk_6, hk_7⟩ := pl_at ha0.1 hs9
      refine vp_callSi (va_runV (As := [.int (nI c9), .int (nI (Y9 + i))]) (rest := []) ⟨hx, hb, hml, hown, hts⟩ (y_at l dC dI q h0 d k z f hI a0 la ca m9 d9 i9 gl (setC g0 0 c9 Y9 i v9) ha0 hs9 hla hca hg9 hgb hc9 (nI c9) (nI (Y9 + i))) (cwV 2 hts gX9_mark_X9_at rfl rfl rfl zh_X9_at_31 ⟨Nat.le_trans (Nat.le_of_ble_eq_true rfl) hRf, Nat.le_trans (Nat.le_of_ble_eq_true rfl) hRl⟩) ⟨px_fb, va_recv hK hP (ci := 8) (q0 := kk_6) rfl hk_7, fun U hU hW => ⟨rfl, px_to hU hW hP hK hN hXN⟩⟩ rfl rfl hl.1 rfl (lv_room (Nat.le_of_ble_eq_true rfl)) dX9_mark_42 ⟨hRc, hRs⟩).run (fun r hw => ?_)
      generalize r = zr_8 at hw ⊢
      have hzr_8 := hw
      refine lv_iconst (v := (-1)) hx hb dX9_mark_45 (by decide) ?_
      refine lv_icmp_eq (tgt := 62) hx hb dX9_mark_46 (by decide) (fun c_9 => absurd c_9 (fun h9 => setC_ne hn1 hv1 (60 * c9 + (Y9 + i)) (by omega) ((shAt_ok hc8 (hgb _ hc8) (by omega)).symm.trans (hzr_8.symm.trans h9)))) (fun c_9 => ?_)
      refine lv_aload_n hx hb dX9_mark_49 rfl (lv_at hl 3 rfl) ?_
      obtain ⟨kk_10, hk_11⟩ := pl_at ha0.1 hs9
      refine va_get (D := (dC, dI)) (ci := 8) (v := .ref ca) (C := RX9) (T := TX9) (N := 5) hx hb hts zl_X9_mark_X9 hown hK hP kk_10 hk_11 rfl 1 (by decide) (hts (.fieldLink RX9 15 "PageOne$Sheet" "cells" "[I") (zat q_wsX9_mark k_wsX9_mark 92 rfl (by decide +kernel))) (fun _ h9 => h9) rfl dX9_mark_50 ?_
      refine lv_iload_n hx hb dX9_mark_53 rfl (lv_at hl 1 rfl) ?_
      refine lv_bipush (v := 60) hx hb dX9_mark_54 (by decide) ?_
      refine lv_imul hx hb dX9_mark_56 ?_
      refine lv_iload hx hb dX9_mark_57 (lv_at hl 0 rfl) ?_
      refine lv_iadd hx hb dX9_mark_59 ?_
      refine lv_iload_n hx hb dX9_mark_60 rfl (lv_at hl 2 rfl) ?_
      obtain ⟨kk_12, hk_13⟩ := pl_at hca.1 hc9
      have hD0 := hD
      refine va_iast hx hb hK hP hD hS kk_12 0 hk_13 rfl (by rw [show (60 : Int32) = nI 60 from rfl, pk_mul, nI_add]; exact vp_in_nI (by omega) (by decide)) dX9_mark_61 (fun H locs hP hD hS => ?_)
      rw [pl_set hD0 hca.1 hc9 hk_13] at hP hD
      obtain ⟨f_14, ef_14⟩ : ∃ y : xF, y = va_up f ca (aI (q 0) 480 (upd (setC g0 0 c9 Y9 i v9) ((((nI c9) * 60) + (nI (Y9 + i))) : Int32).toNatClampNeg v9)) := ⟨_, rfl⟩
      have hI : xI q h0 d k z f_14 := by rw [ef_14]; exact x_up hI hca (by decide) (cO_9 hca.2 ⟨_, rfl⟩)
      have hP : va_P (dC, dI) vwCl (va_pl z.1 f_14) H := by rw [ef_14]; exact hP
      have hD : va_D A (va_pl z.1 f_14) := by rw [ef_14]; exact hD
      refine lv_iinc (v := (nI (Y9 + i + 1))) (lv' := [(4, .int (nI (Y9 + i + 1))), (3, .int (nI c9)), (2, .int v9), (0, .ref a0), (1, .ref b0)]) hx hb dX9_mark_62 hl (k := 0) rfl (nI_1 _) (by decide) rfl (fun ls hl => ?_)
      refine lv_goto (tgt := 24) hx hb dX9_mark_65 (by decide) ?_
      exact ih (i + 1) _ _ _ ls (by omega) (by omega) (by rw [ef_14, hg, up_up, setC_up hc8 (by omega)]) hI hP hD hS (lv_sub hl [0, 1, 2, 3, 4] rfl)
set_option maxHeartbeats 4000000 in
set_option maxRecDepth 100000 in
theorem y_mark_out {p : Program} {l : Launch} {e : Env} {R : Room} {s : State} {m : MethodId} {args : Array Value} {below : List Frame} {meth : Method} {c : Code} {Q : State → Prop} {cells slots : Nat} {dC : Nat → ClassId} {dI : Nat → Nat → Nat} {q : Nat → ClassId} {h0 : Nat} {d : Nat → Nat} {k : Nat → Int32} {z : gS} {a0 la ca : Nat} {m9 d9 i9 v9 : Int32} {gl g0 : Nat → Int32} {f0 : xF} (ha0 : tg z a0 7) (hla : tg z la 8) (hca : tg z ca 9) (hs0 : f0 a0 = .inr (8, [.ref la, .ref ca, .int m9, .int d9, .int i9])) (hl0 : f0 la = aI (q 0) 8 gl) (hgb : ∀ j, j < 8 → bw (gl j) 0 60 = true) (hn1 : ∀ j, j < 480 → ¬ g0 j = (-1)) (hv1 : ¬ v9 = (-1)) {b0 : Nat} {it : Option Nat} {P : Int32} {X9 Y9 D9 N9 : Nat} (hpc : pcS z b0 it P (nI X9) (nI Y9) (nI D9) (nI N9)) (hX9 : X9 ≤ 7) (hY9 : Y9 ≤ 60) (hD9 : D9 ≤ 8) (hN9 : N9 ≤ 60) (hex : X9 + D9 ≤ 8) (hexl : ∀ a, a < D9 → Y9 + N9 ≤ (gl (X9 + a)).toNatClampNeg) {A : Nat → Prop} {H0 : Heap} (hx : p.tables.exec = Jvm.exec) (hb : c.code = cX9_mark) (hml : c.maxLocals = 5) (hts : ∀ w ∈ wsX9_mark, w.before args s = true) (hown : s.vm.findClass RX9 = some m.cls) (hN : NN s) (hXN : XN s) (hK : va_K (dC, dI) vwCl (xT q) s) (hRf : 3 ≤ R.frames) (hRl : 64 ≤ R.locals) (hRc : cells ≤ R.cells) (hRs : slots ≤ R.slots) (hA : ∀ q : Nat, H0.size ≤ q → A q) (kx74 : ∀ (f : xF) (H : Heap) (locs : List Loc) (ls : Array Slot), f = va_up f0 ca (aI (q 0) 480 (setR g0 0 X9 Y9 N9 v9 D9)) → xI q h0 d k z f → va_P (dC, dI) vwCl (va_pl z.1 f) H → va_D A (va_pl z.1 f) → va_S A H0 H locs → lv_has ls 5 [(0, .ref a0), (1, .ref b0)] → W p l e R s m args below meth c H locs cells slots Q (F0 m 74 ls [])) : ∀ (kk i : Nat) (f : xF) (H : Heap) (locs : List Loc) (ls : Array Slot), i ≤ D9 → D9 - i < kk → (f = va_up f0 ca (aI (q 0) 480 (setR g0 0 X9 Y9 N9 v9 i))) → xI q h0 d k z f → va_P (dC, dI) vwCl (va_pl z.1 f) H → va_D A (va_pl z.1 f) → va_S A H0 H locs → lv_has ls 5 [(3, .int (nI (X9 + i))), (2, .int v9), (0, .ref a0), (1, .ref b0)] → W p l e R s m args below meth c H locs cells slots Q (F0 m 5 ls []) := by
  intro kk
  induction kk with
  | zero => intro i f H locs ls h1 h2; exact absurd h2 (Nat.not_lt_zero _)
  | succ kk ih =>
    intro i f H locs ls hi hkk hg hI hP hD hS hl
    refine lv_iload_n hx hb dX9_mark_5 rfl (lv_at hl 0 rfl) ?_
    refine lv_aload_n hx hb dX9_mark_6 rfl (lv_at hl 3 rfl) ?_
    obtain ⟨kk_1, hk_2⟩ := pl_at hpc.1.1 (x_pcF hI hpc)
    refine va_get (D := (dC, dI)) (ci := 7) (v := .int (nI X9)) (C := RX8) (T := TX8) (N := 6) hx hb hts zl_X9_mark_X8 hown hK hP kk_1 hk_2 rfl 2 (by decide) (hts (.fieldLink RX9 54 "PageOne$Piece" "column" "I") (zat q_wsX9_mark k_wsX9_mark 323 rfl (by decide +kernel))) (fun _ h9 => h9) rfl dX9_mark_7 ?_
    refine lv_aload_n hx hb dX9_mark_10 rfl (lv_at hl 3 rfl) ?_
    obtain ⟨kk_3, hk_4⟩ := pl_at hpc.1.1 (x_pcF hI hpc)
    refine va_get (D := (dC, dI)) (ci := 7) (v := .int (nI D9)) (C := RX8) (T := TX8) (N := 6) hx hb hts zl_X9_mark_X8 hown hK hP kk_3 hk_4 rfl 4 (by decide) (hts (.fieldLink RX9 42 "PageOne$Piece" "w" "I") (zat q_wsX9_mark k_wsX9_mark 331 rfl (by decide +kernel))) (fun _ h9 => h9) rfl dX9_mark_11 ?_
    refine lv_iadd hx hb dX9_mark_14 ?_
    refine lv_icmp_ge (tgt := 74) hx hb dX9_mark_15 (by decide) (fun c_5 => ?_) (fun c_5 => ?_)
    ·
      have hie : i = D9 := by have := lp_eq (nI_add X9 D9) (by omega) (by omega) c_5; omega
      exact kx74 _ _ _ ls (by rw [← hie]; exact hg) hI hP hD hS (lv_sub hl [2, 3] rfl)
    ·
      have hlt : i < D9 := by have := lp_lt (nI_add X9 D9) (by omega) (by omega) c_5; omega
      refine lv_aload_n hx hb dX9_mark_18 rfl (lv_at hl 3 rfl) ?_
      obtain ⟨kk_6, hk_7⟩ := pl_at hpc.1.1 (x_pcF hI hpc)
      refine va_get (D := (dC, dI)) (ci := 7) (v := .int (nI Y9)) (C := RX8) (T := TX8) (N := 6) hx hb hts zl_X9_mark_X8 hown hK hP kk_6 hk_7 rfl 3 (by decide) (hts (.fieldLink RX9 57 "PageOne$Piece" "line" "I") (zat q_wsX9_mark k_wsX9_mark 327 rfl (by decide +kernel))) (fun _ h9 => h9) rfl dX9_mark_19 ?_
      refine lv_istore (lv' := [(4, .int (nI Y9)), (3, .int (nI (X9 + i))), (2, .int v9), (0, .ref a0), (1, .ref b0)]) hx hb dX9_mark_22 hl (by decide) rfl (fun ls hl => ?_)
      have hs1 : f a0 = .inr (8, [.ref la, .ref ca, .int m9, .int d9, .int i9]) := by rw [hg, up_o (tg_ne ha0 hca (by decide))]; exact hs0
      have hl1 : f la = aI (q 0) 8 gl := by rw [hg, up_o (tg_ne hla hca (by decide))]; exact hl0
      refine y_mark_in (f0 := f) (g0 := setR g0 0 X9 Y9 N9 v9 i) (v9 := v9) (c9 := X9 + i) ha0 hla hca hs1 hl1 hgb (setR_ne hn1 hv1 i) hv1 hpc hX9 hY9 hD9 hN9 hex hexl (by omega) (hexl i hlt) hx hb hml hts hown hN hXN hK hRf hRl hRc hRs hA (fun f2 H locs ls hg2 hI hP hD hS hl => ?_) (N9 + 1) 0 _ _ _ ls (Nat.zero_le _) (by omega) (by rw [setC_0, hg, up_up]) hI hP hD hS (lv_sub hl [0, 1, 2, 3, 4] rfl)
      refine lv_iinc (v := (nI (X9 + i + 1))) (lv' := [(3, .int (nI (X9 + i + 1))), (2, .int v9), (0, .ref a0), (1, .ref b0)]) hx hb dX9_mark_68 hl (k := 0) rfl (nI_1 _) (by decide) rfl (fun ls hl => ?_)
      refine lv_goto (tgt := 5) hx hb dX9_mark_71 (by decide) ?_
      exact ih (i + 1) _ _ _ ls (by omega) (by omega) (by rw [hg2, hg, up_up]; rfl) hI hP hD hS (lv_sub hl [0, 1, 2, 3] rfl)
set_option maxHeartbeats 4000000 in
set_option maxRecDepth 100000 in
theorem y_mark (l : Launch) (dC : Nat → ClassId) (dI : Nat → Nat → Nat) (q : Nat → ClassId) (h0 : Nat) (d : Nat → Nat) (k : Nat → Int32) (z : gS) (f : xF) (hI : xI q h0 d k z f) (a0 la ca : Nat) (m9 d9 i9 : Int32) (gl gc : Nat → Int32) (ha0 : tg z a0 7) (hs9 : f a0 = .inr (8, [.ref la, .ref ca, .int m9, .int d9, .int i9])) (hla : tg z la 8) (hca : tg z ca 9) (hg9 : f la = aI (q 0) 8 gl) (hgb : ∀ j, j < 8 → bw (gl j) 0 60 = true) (hc9 : f ca = aI (q 0) 480 gc) (p0 : Int32) (b0 : Nat) (it : Option Nat) (P : Int32) (X9 Y9 D9 N9 : Nat) (hpc : pcS z b0 it P (nI X9) (nI Y9) (nI D9) (nI N9)) (hX9 : X9 ≤ 7) (hY9 : Y9 ≤ 60) (hD9 : D9 ≤ 8) (hN9 : N9 ≤ 60) (hex : X9 + D9 ≤ 8) (hexl : ∀ a, a < D9 → Y9 + N9 ≤ (gl (X9 + a)).toNatClampNeg) (hn1 : ∀ j, j < 480 → ¬ gc j = (-1)) (hv1 : ¬ p0 = (-1)) (sz : Nat) : Met l yX9_mark wsX9_mark ({ frames := 3, cells := 0, slots := 0, locals := 64 }) (va_Pc [.ref a0, .ref b0, .int p0] (fun U => U.heap.size = sz ∧ PX dC dI (va_pl z.1 f) (xT q) U ∧ va_D (fun _ => True) (va_pl z.1 f))) (va_Qv (fun (w : xU) => w.1 = k ∧ w.2.1 = z ∧ xI q h0 d k z w.2.2 ∧ w.2.2 = va_up f ca (aI (q 0) 480 (setR gc 0 X9 Y9 N9 p0 D9))) (fun (w : xU) t => va_P (dC, dI) vwCl (va_pl w.2.1.1 w.2.2) t.heap ∧ va_D (va_A (va_pl z.1 f) sz) (va_pl w.2.1.1 w.2.2)) (va_A (va_pl z.1 f) sz)) 0 0 (va_A (va_pl z.1 f) sz) := by
  refine Met.ofW (cc := cX9_mark) (maxL := 5) (ret := none) (by decide) rfl ?_
  intro p e s m args below meth c s₁ B hml hv
  obtain ⟨rfl, hsz, ⟨⟨hP, hK, hN⟩, hXN⟩, hD0⟩ := hv
  have hx := B.exec
  have hb := B.bytes
  have hr := B.returns
  have hts := atoms_spec (ws := wsX9_mark) B.pre
  have hown : s.vm.findClass RX9 = some m.cls := findClass_of_methodNamed B.named
  have hlocks := B.notSynchronized
  subst hsz
  have hD := hD0.self (sz := s.heap.size)
  generalize hAe : va_A (va_pl z.1 f) s.heap.size = A at hD ⊢
  have hA : ∀ q : Nat, s.heap.size ≤ q → A q := fun q h => by rw [← hAe]; exact Or.inr h
  have hS : va_S A s.heap s.heap [] := va_S.rf
  have hl := lv_entry ([.ref a0, .ref b0, .int p0]) (n := 5) (Nat.le_of_ble_eq_true rfl)
  rw [lg_entry_eq]
  generalize (lg_sl ([.ref a0, .ref b0, .int p0]) ++ List.replicate (5 - (lg_sl ([.ref a0, .ref b0, .int p0])).length) Slot.unset).toArray = ls at hl ⊢
  have hl : lv_has ls 5 [(0, .ref a0), (1, .ref b0), (2, .int p0)] := hl
  refine lv_aload_n hx hb dX9_mark_0 rfl (lv_at hl 1 rfl) ?_
  obtain ⟨kk_1, hk_2⟩ := pl_at hpc.1.1 (x_pcF hI hpc)
  refine va_get (D := (dC, dI)) (ci := 7) (v := .int (nI X9)) (C := RX8) (T := TX8) (N := 6) hx hb hts zl_X9_mark_X8 hown hK hP kk_1 hk_2 rfl 2 (by decide) (hts (.fieldLink RX9 54 "PageOne$Piece" "column" "I") (zat q_wsX9_mark k_wsX9_mark 323 rfl (by decide +kernel))) (fun _ h9 => h9) rfl dX9_mark_1 ?_
  refine lv_istore_n (lv' := [(3, .int (nI X9)), (0, .ref a0), (1, .ref b0), (2, .int p0)]) hx hb dX9_mark_4 rfl hl (by decide) rfl (fun ls hl => ?_)
  refine y_mark_out (f0 := f) (g0 := gc) (v9 := p0) ha0 hla hca hs9 hg9 hgb hn1 hv1 hpc hX9 hY9 hD9 hN9 hex hexl hx hb hml hts hown hN hXN hK (Nat.le_of_ble_eq_true rfl) (Nat.le_of_ble_eq_true rfl) (Nat.le_of_ble_eq_true rfl) (Nat.le_of_ble_eq_true rfl) hA (fun f2 H locs ls hg2 hI hP hD hS hl => ?_) (D9 + 1) 0 _ _ _ ls (Nat.zero_le _) (by omega) (upF_id hc9).symm hI hP hD hS (lv_sub hl [0, 3, 1, 2] rfl)
  exact W.vret hx hb hr (fun t ht hW => ⟨⟨(k, z, f2), rfl, ⟨rfl, rfl, hI, hg2⟩, by rw [ht]; exact hP, hD⟩, hS.F ht⟩) hS.2.2 dX9_mark_74
def s_isBehind (P X Y D N P2 X2 Y2 D2 N2 : Int32) : Int32 := if P = P2 then (if X2 < X then 1 else (if X = X2 then (if Y < (Y2 + N2) then 0 else 1) else 0)) else (if P ≤ P2 then 0 else 1)
set_option maxHeartbeats 4000000 in
set_option maxRecDepth 100000 in
theorem y_isBehind (l : Launch) (dC : Nat → ClassId) (dI : Nat → Nat → Nat) (q : Nat → ClassId) (h0 : Nat) (d : Nat → Nat) (k : Nat → Int32) (z : gS) (f : xF) (hI : xI q h0 d k z f) (a0 : Nat) (it : Option Nat) (P X Y D N : Int32) (hpa : pcS z a0 it P X Y D N) (b0 : Nat) (iu : Option Nat) (P2 X2 Y2 D2 N2 : Int32) (hpb : pcS z b0 iu P2 X2 Y2 D2 N2) : Met l yX8_isBehind wsX8_isBehind ({ frames := 0, cells := 0, slots := 0, locals := 0 }) (va_Pc [.ref a0, .ref b0] (PX dC dI (va_pl z.1 f) (xT q))) (vp_Si (fun r => r = s_isBehind P X Y D N P2 X2 Y2 D2 N2)) 0 0 (fun _ => False) := by
  refine Met.ofW (cc := cX8_isBehind) (maxL := 2) (ret := (some .boolean)) (by decide) rfl ?_
  intro p e s m args below meth c s₁ B hml hv
  obtain ⟨rfl, ⟨hP, hK, hN⟩, hXN⟩ := hv
  have hx := B.exec
  have hb := B.bytes
  have hr := B.returns
  have hts := atoms_spec (ws := wsX8_isBehind) B.pre
  have hown : s.vm.findClass RX8 = some m.cls := findClass_of_methodNamed B.named
  have hlocks := B.notSynchronized
  have hl := lv_entry ([.ref a0, .ref b0]) (n := 2) (Nat.le_of_ble_eq_true rfl)
  rw [lg_entry_eq]
  generalize (lg_sl ([.ref a0, .ref b0]) ++ List.replicate (2 - (lg_sl ([.ref a0, .ref b0])).length) Slot.unset).toArray = ls at hl ⊢
  have hl : lv_has ls 2 [(0, .ref a0), (1, .ref b0)] := hl
  refine lv_aload_n hx hb dX8_isBehind_0 rfl (lv_at hl 0 rfl) ?_
  obtain ⟨kk_1, hk_2⟩ := pl_at hpa.1.1 (x_pcF hI hpa)
  refine va_get (D := (dC, dI)) (ci := 7) (v := .int P) (C := RX8) (T := TX8) (N := 6) hx hb hts zl_X8_isBehind_X8 hown hK hP kk_1 hk_2 rfl 1 (by decide) (hts (.fieldLink RX8 15 "PageOne$Piece" "page" "I") (zat q_wsX8_isBehind k_wsX8_isBehind 317 rfl (by decide +kernel))) (fun _ h9 => h9) rfl dX8_isBehind_1 ?_
  refine lv_aload_n hx hb dX8_isBehind_4 rfl (lv_at hl 1 rfl) ?_
  obtain ⟨kk_3, hk_4⟩ := pl_at hpb.1.1 (x_pcF hI hpb)
  refine va_get (D := (dC, dI)) (ci := 7) (v := .int P2) (C := RX8) (T := TX8) (N := 6) hx hb hts zl_X8_isBehind_X8 hown hK hP kk_3 hk_4 rfl 1 (by decide) (hts (.fieldLink RX8 15 "PageOne$Piece" "page" "I") (zat q_wsX8_isBehind k_wsX8_isBehind 317 rfl (by decide +kernel))) (fun _ h9 => h9) rfl dX8_isBehind_5 ?_
  refine lv_icmp_eq (tgt := 28) hx hb dX8_isBehind_8 (by decide) (fun c_5 => ?_) (fun c_5 => ?_)
  ·
    refine lv_aload_n hx hb dX8_isBehind_28 rfl (lv_at hl 0 rfl) ?_
    obtain ⟨kk_6, hk_7⟩ := pl_at hpa.1.1 (x_pcF hI hpa)
    refine va_get (D := (dC, dI)) (ci := 7) (v := .int X) (C := RX8) (T := TX8) (N := 6) hx hb hts zl_X8_isBehind_X8 hown hK hP kk_6 hk_7 rfl 2 (by decide) (hts (.fieldLink RX8 19 "PageOne$Piece" "column" "I") (zat q_wsX8_isBehind k_wsX8_isBehind 322 rfl (by decide +kernel))) (fun _ h9 => h9) rfl dX8_isBehind_29 ?_
    refine lv_aload_n hx hb dX8_isBehind_32 rfl (lv_at hl 1 rfl) ?_
    obtain ⟨kk_8, hk_9⟩ := pl_at hpb.1.1 (x_pcF hI hpb)
    refine va_get (D := (dC, dI)) (ci := 7) (v := .int X2) (C := RX8) (T := TX8) (N := 6) hx hb hts zl_X8_isBehind_X8 hown hK hP kk_8 hk_9 rfl 2 (by decide) (hts (.fieldLink RX8 19 "PageOne$Piece" "column" "I") (zat q_wsX8_isBehind k_wsX8_isBehind 322 rfl (by decide +kernel))) (fun _ h9 => h9) rfl dX8_isBehind_33 ?_
    refine lv_icmp_gt (tgt := 66) hx hb dX8_isBehind_36 (by decide) (fun c_10 => ?_) (fun c_10 => ?_)
    ·
      refine lv_iconst (v := 1) hx hb dX8_isBehind_66 (by decide) ?_
      refine lv_goto (tgt := 71) hx hb dX8_isBehind_67 (by decide) ?_
      exact W.zret (v := 1) hx hb hr (by decide) (fun t ht hW => ⟨_, rfl, (by unfold s_isBehind; rw [if_pos c_5, if_pos c_10]), ht⟩) (fun q h => absurd h List.not_mem_nil) dX8_isBehind_71
    ·
      refine lv_aload_n hx hb dX8_isBehind_39 rfl (lv_at hl 0 rfl) ?_
      obtain ⟨kk_11, hk_12⟩ := pl_at hpa.1.1 (x_pcF hI hpa)
      refine va_get (D := (dC, dI)) (ci := 7) (v := .int X) (C := RX8) (T := TX8) (N := 6) hx hb hts zl_X8_isBehind_X8 hown hK hP kk_11 hk_12 rfl 2 (by decide) (hts (.fieldLink RX8 19 "PageOne$Piece" "column" "I") (zat q_wsX8_isBehind k_wsX8_isBehind 322 rfl (by decide +kernel))) (fun _ h9 => h9) rfl dX8_isBehind_40 ?_
      refine lv_aload_n hx hb dX8_isBehind_43 rfl (lv_at hl 1 rfl) ?_
      obtain ⟨kk_13, hk_14⟩ := pl_at hpb.1.1 (x_pcF hI hpb)
      refine va_get (D := (dC, dI)) (ci := 7) (v := .int X2) (C := RX8) (T := TX8) (N := 6) hx hb hts zl_X8_isBehind_X8 hown hK hP kk_13 hk_14 rfl 2 (by decide) (hts (.fieldLink RX8 19 "PageOne$Piece" "column" "I") (zat q_wsX8_isBehind k_wsX8_isBehind 322 rfl (by decide +kernel))) (fun _ h9 => h9) rfl dX8_isBehind_44 ?_
      refine lv_icmp_ne (tgt := 70) hx hb dX8_isBehind_47 (by decide) (fun c_15 => ?_) (fun c_15 => ?_)
      ·
        refine lv_iconst (v := 0) hx hb dX8_isBehind_70 (by decide) ?_
        exact W.zret (v := 0) hx hb hr (by decide) (fun t ht hW => ⟨_, rfl, (by unfold s_isBehind; rw [if_pos c_5, if_neg c_10, if_neg c_15]), ht⟩) (fun q h => absurd h List.not_mem_nil) dX8_isBehind_71
      ·
        refine lv_aload_n hx hb dX8_isBehind_50 rfl (lv_at hl 0 rfl) ?_
        obtain ⟨kk_16, hk_17⟩ := pl_at hpa.1.1 (x_pcF hI hpa)
        refine va_get (D := (dC, dI)) (ci := 7) (v := .int Y) (C := RX8) (T := TX8) (N := 6) hx hb hts zl_X8_isBehind_X8 hown hK hP kk_16 hk_17 rfl 3 (by decide) (hts (.fieldLink RX8 22 "PageOne$Piece" "line" "I") (zat q_wsX8_isBehind k_wsX8_isBehind 326 rfl (by decide +kernel))) (fun _ h9 => h9) rfl dX8_isBehind_51 ?_
        refine lv_aload_n hx hb dX8_isBehind_54 rfl (lv_at hl 1 rfl) ?_
        obtain ⟨kk_18, hk_19⟩ := pl_at hpb.1.1 (x_pcF hI hpb)
        refine va_get (D := (dC, dI)) (ci := 7) (v := .int Y2) (C := RX8) (T := TX8) (N := 6) hx hb hts zl_X8_isBehind_X8 hown hK hP kk_18 hk_19 rfl 3 (by decide) (hts (.fieldLink RX8 22 "PageOne$Piece" "line" "I") (zat q_wsX8_isBehind k_wsX8_isBehind 326 rfl (by decide +kernel))) (fun _ h9 => h9) rfl dX8_isBehind_55 ?_
        refine lv_aload_n hx hb dX8_isBehind_58 rfl (lv_at hl 1 rfl) ?_
        obtain ⟨kk_20, hk_21⟩ := pl_at hpb.1.1 (x_pcF hI hpb)
        refine va_get (D := (dC, dI)) (ci := 7) (v := .int N2) (C := RX8) (T := TX8) (N := 6) hx hb hts zl_X8_isBehind_X8 hown hK hP kk_20 hk_21 rfl 5 (by decide) (hts (.fieldLink RX8 28 "PageOne$Piece" "h" "I") (zat q_wsX8_isBehind k_wsX8_isBehind 333 rfl (by decide +kernel))) (fun _ h9 => h9) rfl dX8_isBehind_59 ?_
        refine lv_iadd hx hb dX8_isBehind_62 ?_
        refine lv_icmp_lt (tgt := 70) hx hb dX8_isBehind_63 (by decide) (fun c_22 => ?_) (fun c_22 => ?_)
        ·
          refine lv_iconst (v := 0) hx hb dX8_isBehind_70 (by decide) ?_
          exact W.zret (v := 0) hx hb hr (by decide) (fun t ht hW => ⟨_, rfl, (by unfold s_isBehind; rw [if_pos c_5, if_neg c_10, if_pos c_15, if_pos c_22]), ht⟩) (fun q h => absurd h List.not_mem_nil) dX8_isBehind_71
        ·
          refine lv_iconst (v := 1) hx hb dX8_isBehind_66 (by decide) ?_
          refine lv_goto (tgt := 71) hx hb dX8_isBehind_67 (by decide) ?_
          exact W.zret (v := 1) hx hb hr (by decide) (fun t ht hW => ⟨_, rfl, (by unfold s_isBehind; rw [if_pos c_5, if_neg c_10, if_pos c_15, if_neg c_22]), ht⟩) (fun q h => absurd h List.not_mem_nil) dX8_isBehind_71
  ·
    refine lv_aload_n hx hb dX8_isBehind_11 rfl (lv_at hl 0 rfl) ?_
    obtain ⟨kk_23, hk_24⟩ := pl_at hpa.1.1 (x_pcF hI hpa)
    refine va_get (D := (dC, dI)) (ci := 7) (v := .int P) (C := RX8) (T := TX8) (N := 6) hx hb hts zl_X8_isBehind_X8 hown hK hP kk_23 hk_24 rfl 1 (by decide) (hts (.fieldLink RX8 15 "PageOne$Piece" "page" "I") (zat q_wsX8_isBehind k_wsX8_isBehind 317 rfl (by decide +kernel))) (fun _ h9 => h9) rfl dX8_isBehind_12 ?_
    refine lv_aload_n hx hb dX8_isBehind_15 rfl (lv_at hl 1 rfl) ?_
    obtain ⟨kk_25, hk_26⟩ := pl_at hpb.1.1 (x_pcF hI hpb)
    refine va_get (D := (dC, dI)) (ci := 7) (v := .int P2) (C := RX8) (T := TX8) (N := 6) hx hb hts zl_X8_isBehind_X8 hown hK hP kk_25 hk_26 rfl 1 (by decide) (hts (.fieldLink RX8 15 "PageOne$Piece" "page" "I") (zat q_wsX8_isBehind k_wsX8_isBehind 317 rfl (by decide +kernel))) (fun _ h9 => h9) rfl dX8_isBehind_16 ?_
    refine lv_icmp_le (tgt := 26) hx hb dX8_isBehind_19 (by decide) (fun c_27 => ?_) (fun c_27 => ?_)
    ·
      refine lv_iconst (v := 0) hx hb dX8_isBehind_26 (by decide) ?_
      exact W.zret (v := 0) hx hb hr (by decide) (fun t ht hW => ⟨_, rfl, (by unfold s_isBehind; rw [if_neg c_5, if_pos c_27]), ht⟩) (fun q h => absurd h List.not_mem_nil) dX8_isBehind_27
    ·
      refine lv_iconst (v := 1) hx hb dX8_isBehind_22 (by decide) ?_
      refine lv_goto (tgt := 27) hx hb dX8_isBehind_23 (by decide) ?_
      exact W.zret (v := 1) hx hb hr (by decide) (fun t ht hW => ⟨_, rfl, (by unfold s_isBehind; rw [if_neg c_5, if_neg c_27]), ht⟩) (fun q h => absurd h List.not_mem_nil) dX8_isBehind_27
def s_startsWith (P X Y D N P2 X2 Y2 D2 N2 : Int32) : Int32 := if P = P2 then (if X = X2 then (if Y = Y2 then 1 else 0) else 0) else 0
set_option maxHeartbeats 4000000 in
set_option maxRecDepth 100000 in
theorem y_startsWith (l : Launch) (dC : Nat → ClassId) (dI : Nat → Nat → Nat) (q : Nat → ClassId) (h0 : Nat) (d : Nat → Nat) (k : Nat → Int32) (z : gS) (f : xF) (hI : xI q h0 d k z f) (a0 : Nat) (it : Option Nat) (P X Y D N : Int32) (hpa : pcS z a0 it P X Y D N) (b0 : Nat) (iu : Option Nat) (P2 X2 Y2 D2 N2 : Int32) (hpb : pcS z b0 iu P2 X2 Y2 D2 N2) : Met l yX8_startsWith wsX8_startsWith ({ frames := 0, cells := 0, slots := 0, locals := 0 }) (va_Pc [.ref a0, .ref b0] (PX dC dI (va_pl z.1 f) (xT q))) (vp_Si (fun r => r = s_startsWith P X Y D N P2 X2 Y2 D2 N2)) 0 0 (fun _ => False) := by
  refine Met.ofW (cc := cX8_startsWith) (maxL := 2) (ret := (some .boolean)) (by decide) rfl ?_
  intro p e s m args below meth c s₁ B hml hv
  obtain ⟨rfl, ⟨hP, hK, hN⟩, hXN⟩ := hv
  have hx := B.exec
  have hb := B.bytes
  have hr := B.returns
  have hts := atoms_spec (ws := wsX8_startsWith) B.pre
  have hown : s.vm.findClass RX8 = some m.cls := findClass_of_methodNamed B.named
  have hlocks := B.notSynchronized
  have hl := lv_entry ([.ref a0, .ref b0]) (n := 2) (Nat.le_of_ble_eq_true rfl)
  rw [lg_entry_eq]
  generalize (lg_sl ([.ref a0, .ref b0]) ++ List.replicate (2 - (lg_sl ([.ref a0, .ref b0])).length) Slot.unset).toArray = ls at hl ⊢
  have hl : lv_has ls 2 [(0, .ref a0), (1, .ref b0)] := hl
  refine lv_aload_n hx hb dX8_startsWith_0 rfl (lv_at hl 0 rfl) ?_
  obtain ⟨kk_1, hk_2⟩ := pl_at hpa.1.1 (x_pcF hI hpa)
  refine va_get (D := (dC, dI)) (ci := 7) (v := .int P) (C := RX8) (T := TX8) (N := 6) hx hb hts zl_X8_startsWith_X8 hown hK hP kk_1 hk_2 rfl 1 (by decide) (hts (.fieldLink RX8 15 "PageOne$Piece" "page" "I") (zat q_wsX8_startsWith k_wsX8_startsWith 317 rfl (by decide +kernel))) (fun _ h9 => h9) rfl dX8_startsWith_1 ?_
  refine lv_aload_n hx hb dX8_startsWith_4 rfl (lv_at hl 1 rfl) ?_
  obtain ⟨kk_3, hk_4⟩ := pl_at hpb.1.1 (x_pcF hI hpb)
  refine va_get (D := (dC, dI)) (ci := 7) (v := .int P2) (C := RX8) (T := TX8) (N := 6) hx hb hts zl_X8_startsWith_X8 hown hK hP kk_3 hk_4 rfl 1 (by decide) (hts (.fieldLink RX8 15 "PageOne$Piece" "page" "I") (zat q_wsX8_startsWith k_wsX8_startsWith 317 rfl (by decide +kernel))) (fun _ h9 => h9) rfl dX8_startsWith_5 ?_
  refine lv_icmp_ne (tgt := 37) hx hb dX8_startsWith_8 (by decide) (fun c_5 => ?_) (fun c_5 => ?_)
  ·
    refine lv_iconst (v := 0) hx hb dX8_startsWith_37 (by decide) ?_
    exact W.zret (v := 0) hx hb hr (by decide) (fun t ht hW => ⟨_, rfl, (by unfold s_startsWith; rw [if_neg c_5]), ht⟩) (fun q h => absurd h List.not_mem_nil) dX8_startsWith_38
  ·
    refine lv_aload_n hx hb dX8_startsWith_11 rfl (lv_at hl 0 rfl) ?_
    obtain ⟨kk_6, hk_7⟩ := pl_at hpa.1.1 (x_pcF hI hpa)
    refine va_get (D := (dC, dI)) (ci := 7) (v := .int X) (C := RX8) (T := TX8) (N := 6) hx hb hts zl_X8_startsWith_X8 hown hK hP kk_6 hk_7 rfl 2 (by decide) (hts (.fieldLink RX8 19 "PageOne$Piece" "column" "I") (zat q_wsX8_startsWith k_wsX8_startsWith 322 rfl (by decide +kernel))) (fun _ h9 => h9) rfl dX8_startsWith_12 ?_
    refine lv_aload_n hx hb dX8_startsWith_15 rfl (lv_at hl 1 rfl) ?_
    obtain ⟨kk_8, hk_9⟩ := pl_at hpb.1.1 (x_pcF hI hpb)
    refine va_get (D := (dC, dI)) (ci := 7) (v := .int X2) (C := RX8) (T := TX8) (N := 6) hx hb hts zl_X8_startsWith_X8 hown hK hP kk_8 hk_9 rfl 2 (by decide) (hts (.fieldLink RX8 19 "PageOne$Piece" "column" "I") (zat q_wsX8_startsWith k_wsX8_startsWith 322 rfl (by decide +kernel))) (fun _ h9 => h9) rfl dX8_startsWith_16 ?_
    refine lv_icmp_ne (tgt := 37) hx hb dX8_startsWith_19 (by decide) (fun c_10 => ?_) (fun c_10 => ?_)
    ·
      refine lv_iconst (v := 0) hx hb dX8_startsWith_37 (by decide) ?_
      exact W.zret (v := 0) hx hb hr (by decide) (fun t ht hW => ⟨_, rfl, (by unfold s_startsWith; rw [if_pos c_5, if_neg c_10]), ht⟩) (fun q h => absurd h List.not_mem_nil) dX8_startsWith_38
    ·
      refine lv_aload_n hx hb dX8_startsWith_22 rfl (lv_at hl 0 rfl) ?_
      obtain ⟨kk_11, hk_12⟩ := pl_at hpa.1.1 (x_pcF hI hpa)
      refine va_get (D := (dC, dI)) (ci := 7) (v := .int Y) (C := RX8) (T := TX8) (N := 6) hx hb hts zl_X8_startsWith_X8 hown hK hP kk_11 hk_12 rfl 3 (by decide) (hts (.fieldLink RX8 22 "PageOne$Piece" "line" "I") (zat q_wsX8_startsWith k_wsX8_startsWith 326 rfl (by decide +kernel))) (fun _ h9 => h9) rfl dX8_startsWith_23 ?_
      refine lv_aload_n hx hb dX8_startsWith_26 rfl (lv_at hl 1 rfl) ?_
      obtain ⟨kk_13, hk_14⟩ := pl_at hpb.1.1 (x_pcF hI hpb)
      refine va_get (D := (dC, dI)) (ci := 7) (v := .int Y2) (C := RX8) (T := TX8) (N := 6) hx hb hts zl_X8_startsWith_X8 hown hK hP kk_13 hk_14 rfl 3 (by decide) (hts (.fieldLink RX8 22 "PageOne$Piece" "line" "I") (zat q_wsX8_startsWith k_wsX8_startsWith 326 rfl (by decide +kernel))) (fun _ h9 => h9) rfl dX8_startsWith_27 ?_
      refine lv_icmp_ne (tgt := 37) hx hb dX8_startsWith_30 (by decide) (fun c_15 => ?_) (fun c_15 => ?_)
      ·
        refine lv_iconst (v := 0) hx hb dX8_startsWith_37 (by decide) ?_
        exact W.zret (v := 0) hx hb hr (by decide) (fun t ht hW => ⟨_, rfl, (by unfold s_startsWith; rw [if_pos c_5, if_pos c_10, if_neg c_15]), ht⟩) (fun q h => absurd h List.not_mem_nil) dX8_startsWith_38
      ·
        refine lv_iconst (v := 1) hx hb dX8_startsWith_33 (by decide) ?_
        refine lv_goto (tgt := 38) hx hb dX8_startsWith_34 (by decide) ?_
        exact W.zret (v := 1) hx hb hr (by decide) (fun t ht hW => ⟨_, rfl, (by unfold s_startsWith; rw [if_pos c_5, if_pos c_10, if_pos c_15]), ht⟩) (fun q h => absurd h List.not_mem_nil) dX8_startsWith_38
def s_isBeside (P X Y D N P2 X2 Y2 D2 N2 : Int32) : Int32 := if (X + D) = X2 then (if P = P2 then (if (Y2 + N2) ≤ Y then 0 else (if (Y + N) ≤ Y2 then 0 else 1)) else 0) else (if (X2 + D2) = X then (if P = P2 then (if (Y2 + N2) ≤ Y then 0 else (if (Y + N) ≤ Y2 then 0 else 1)) else 0) else (if P = P2 then 0 else 0))
set_option maxHeartbeats 4000000 in
set_option maxRecDepth 100000 in
theorem y_isBeside (l : Launch) (dC : Nat → ClassId) (dI : Nat → Nat → Nat) (q : Nat → ClassId) (h0 : Nat) (d : Nat → Nat) (k : Nat → Int32) (z : gS) (f : xF) (hI : xI q h0 d k z f) (a0 : Nat) (it : Option Nat) (P X Y D N : Int32) (hpa : pcS z a0 it P X Y D N) (b0 : Nat) (iu : Option Nat) (P2 X2 Y2 D2 N2 : Int32) (hpb : pcS z b0 iu P2 X2 Y2 D2 N2) : Met l yX8_isBeside wsX8_isBeside ({ frames := 0, cells := 0, slots := 0, locals := 0 }) (va_Pc [.ref a0, .ref b0] (PX dC dI (va_pl z.1 f) (xT q))) (vp_Si (fun r => r = s_isBeside P X Y D N P2 X2 Y2 D2 N2)) 0 0 (fun _ => False) := by
  refine Met.ofW (cc := cX8_isBeside) (maxL := 3) (ret := (some .boolean)) (by decide) rfl ?_
  intro p e s m args below meth c s₁ B hml hv
  obtain ⟨rfl, ⟨hP, hK, hN⟩, hXN⟩ := hv
  have hx := B.exec
  have hb := B.bytes
  have hr := B.returns
  have hts := atoms_spec (ws := wsX8_isBeside) B.pre
  have hown : s.vm.findClass RX8 = some m.cls := findClass_of_methodNamed B.named
  have hlocks := B.notSynchronized
  have hl := lv_entry ([.ref a0, .ref b0]) (n := 3) (Nat.le_of_ble_eq_true rfl)
  rw [lg_entry_eq]
  generalize (lg_sl ([.ref a0, .ref b0]) ++ List.replicate (3 - (lg_sl ([.ref a0, .ref b0])).length) Slot.unset).toArray = ls at hl ⊢
  have hl : lv_has ls 3 [(0, .ref a0), (1, .ref b0)] := hl
  refine lv_aload_n hx hb dX8_isBeside_0 rfl (lv_at hl 0 rfl) ?_
  obtain ⟨kk_1, hk_2⟩ := pl_at hpa.1.1 (x_pcF hI hpa)
  refine va_get (D := (dC, dI)) (ci := 7) (v := .int X) (C := RX8) (T := TX8) (N := 6) hx hb hts zl_X8_isBeside_X8 hown hK hP kk_1 hk_2 rfl 2 (by decide) (hts (.fieldLink RX8 19 "PageOne$Piece" "column" "I") (zat q_wsX8_isBeside k_wsX8_isBeside 322 rfl (by decide +kernel))) (fun _ h9 => h9) rfl dX8_isBeside_1 ?_
  refine lv_aload_n hx hb dX8_isBeside_4 rfl (lv_at hl 0 rfl) ?_
  obtain ⟨kk_3, hk_4⟩ := pl_at hpa.1.1 (x_pcF hI hpa)
  refine va_get (D := (dC, dI)) (ci := 7) (v := .int D) (C := RX8) (T := TX8) (N := 6) hx hb hts zl_X8_isBeside_X8 hown hK hP kk_3 hk_4 rfl 4 (by decide) (hts (.fieldLink RX8 25 "PageOne$Piece" "w" "I") (zat q_wsX8_isBeside k_wsX8_isBeside 329 rfl (by decide +kernel))) (fun _ h9 => h9) rfl dX8_isBeside_5 ?_
  refine lv_iadd hx hb dX8_isBeside_8 ?_
  refine lv_aload_n hx hb dX8_isBeside_9 rfl (lv_at hl 1 rfl) ?_
  obtain ⟨kk_5, hk_6⟩ := pl_at hpb.1.1 (x_pcF hI hpb)
  refine va_get (D := (dC, dI)) (ci := 7) (v := .int X2) (C := RX8) (T := TX8) (N := 6) hx hb hts zl_X8_isBeside_X8 hown hK hP kk_5 hk_6 rfl 2 (by decide) (hts (.fieldLink RX8 19 "PageOne$Piece" "column" "I") (zat q_wsX8_isBeside k_wsX8_isBeside 322 rfl (by decide +kernel))) (fun _ h9 => h9) rfl dX8_isBeside_10 ?_
  refine lv_icmp_eq (tgt := 32) hx hb dX8_isBeside_13 (by decide) (fun c_7 => ?_) (fun c_7 => ?_)
  ·
    refine lv_iconst (v := 1) hx hb dX8_isBeside_32 (by decide) ?_
    refine lv_goto (tgt := 37) hx hb dX8_isBeside_33 (by decide) ?_
    refine lv_istore_n (lv' := [(2, .int 1), (0, .ref a0), (1, .ref b0)]) hx hb dX8_isBeside_37 rfl hl (by decide) rfl (fun ls hl => ?_)
    refine lv_aload_n hx hb dX8_isBeside_38 rfl (lv_at hl 1 rfl) ?_
    obtain ⟨kk_8, hk_9⟩ := pl_at hpa.1.1 (x_pcF hI hpa)
    refine va_get (D := (dC, dI)) (ci := 7) (v := .int P) (C := RX8) (T := TX8) (N := 6) hx hb hts zl_X8_isBeside_X8 hown hK hP kk_8 hk_9 rfl 1 (by decide) (hts (.fieldLink RX8 15 "PageOne$Piece" "page" "I") (zat q_wsX8_isBeside k_wsX8_isBeside 317 rfl (by decide +kernel))) (fun _ h9 => h9) rfl dX8_isBeside_39 ?_
    refine lv_aload_n hx hb dX8_isBeside_42 rfl (lv_at hl 2 rfl) ?_
    obtain ⟨kk_10, hk_11⟩ := pl_at hpb.1.1 (x_pcF hI hpb)
    refine va_get (D := (dC, dI)) (ci := 7) (v := .int P2) (C := RX8) (T := TX8) (N := 6) hx hb hts zl_X8_isBeside_X8 hown hK hP kk_10 hk_11 rfl 1 (by decide) (hts (.fieldLink RX8 15 "PageOne$Piece" "page" "I") (zat q_wsX8_isBeside k_wsX8_isBeside 317 rfl (by decide +kernel))) (fun _ h9 => h9) rfl dX8_isBeside_43 ?_
    refine lv_icmp_ne (tgt := 89) hx hb dX8_isBeside_46 (by decide) (fun c_12 => ?_) (fun c_12 => ?_)
    ·
      refine lv_iconst (v := 0) hx hb dX8_isBeside_89 (by decide) ?_
      exact W.zret (v := 0) hx hb hr (by decide) (fun t ht hW => ⟨_, rfl, (by unfold s_isBeside; rw [if_pos c_7, if_neg c_12]), ht⟩) (fun q h => absurd h List.not_mem_nil) dX8_isBeside_90
    ·
      refine lv_iload_n hx hb dX8_isBeside_49 rfl (lv_at hl 0 rfl) ?_
      refine lv_if_eq (tgt := 89) hx hb dX8_isBeside_50 (by decide) (fun c_13 => absurd c_13 (by decide)) (fun c_13 => ?_)
      refine lv_aload_n hx hb dX8_isBeside_53 rfl (lv_at hl 1 rfl) ?_
      obtain ⟨kk_14, hk_15⟩ := pl_at hpa.1.1 (x_pcF hI hpa)
      refine va_get (D := (dC, dI)) (ci := 7) (v := .int Y) (C := RX8) (T := TX8) (N := 6) hx hb hts zl_X8_isBeside_X8 hown hK hP kk_14 hk_15 rfl 3 (by decide) (hts (.fieldLink RX8 22 "PageOne$Piece" "line" "I") (zat q_wsX8_isBeside k_wsX8_isBeside 326 rfl (by decide +kernel))) (fun _ h9 => h9) rfl dX8_isBeside_54 ?_
      refine lv_aload_n hx hb dX8_isBeside_57 rfl (lv_at hl 2 rfl) ?_
      obtain ⟨kk_16, hk_17⟩ := pl_at hpb.1.1 (x_pcF hI hpb)
      refine va_get (D := (dC, dI)) (ci := 7) (v := .int Y2) (C := RX8) (T := TX8) (N := 6) hx hb hts zl_X8_isBeside_X8 hown hK hP kk_16 hk_17 rfl 3 (by decide) (hts (.fieldLink RX8 22 "PageOne$Piece" "line" "I") (zat q_wsX8_isBeside k_wsX8_isBeside 326 rfl (by decide +kernel))) (fun _ h9 => h9) rfl dX8_isBeside_58 ?_
      refine lv_aload_n hx hb dX8_isBeside_61 rfl (lv_at hl 2 rfl) ?_
      obtain ⟨kk_18, hk_19⟩ := pl_at hpb.1.1 (x_pcF hI hpb)
      refine va_get (D := (dC, dI)) (ci := 7) (v := .int N2) (C := RX8) (T := TX8) (N := 6) hx hb hts zl_X8_isBeside_X8 hown hK hP kk_18 hk_19 rfl 5 (by decide) (hts (.fieldLink RX8 28 "PageOne$Piece" "h" "I") (zat q_wsX8_isBeside k_wsX8_isBeside 333 rfl (by decide +kernel))) (fun _ h9 => h9) rfl dX8_isBeside_62 ?_
      refine lv_iadd hx hb dX8_isBeside_65 ?_
      refine lv_icmp_ge (tgt := 89) hx hb dX8_isBeside_66 (by decide) (fun c_20 => ?_) (fun c_20 => ?_)
      ·
        refine lv_iconst (v := 0) hx hb dX8_isBeside_89 (by decide) ?_
        exact W.zret (v := 0) hx hb hr (by decide) (fun t ht hW => ⟨_, rfl, (by unfold s_isBeside; rw [if_pos c_7, if_pos c_12, if_pos c_20]), ht⟩) (fun q h => absurd h List.not_mem_nil) dX8_isBeside_90
      ·
        refine lv_aload_n hx hb dX8_isBeside_69 rfl (lv_at hl 2 rfl) ?_
        obtain ⟨kk_21, hk_22⟩ := pl_at hpb.1.1 (x_pcF hI hpb)
        refine va_get (D := (dC, dI)) (ci := 7) (v := .int Y2) (C := RX8) (T := TX8) (N := 6) hx hb hts zl_X8_isBeside_X8 hown hK hP kk_21 hk_22 rfl 3 (by decide) (hts (.fieldLink RX8 22 "PageOne$Piece" "line" "I") (zat q_wsX8_isBeside k_wsX8_isBeside 326 rfl (by decide +kernel))) (fun _ h9 => h9) rfl dX8_isBeside_70 ?_
        refine lv_aload_n hx hb dX8_isBeside_73 rfl (lv_at hl 1 rfl) ?_
        obtain ⟨kk_23, hk_24⟩ := pl_at hpa.1.1 (x_pcF hI hpa)
        refine va_get (D := (dC, dI)) (ci := 7) (v := .int Y) (C := RX8) (T := TX8) (N := 6) hx hb hts zl_X8_isBeside_X8 hown hK hP kk_23 hk_24 rfl 3 (by decide) (hts (.fieldLink RX8 22 "PageOne$Piece" "line" "I") (zat q_wsX8_isBeside k_wsX8_isBeside 326 rfl (by decide +kernel))) (fun _ h9 => h9) rfl dX8_isBeside_74 ?_
        refine lv_aload_n hx hb dX8_isBeside_77 rfl (lv_at hl 1 rfl) ?_
        obtain ⟨kk_25, hk_26⟩ := pl_at hpa.1.1 (x_pcF hI hpa)
        refine va_get (D := (dC, dI)) (ci := 7) (v := .int N) (C := RX8) (T := TX8) (N := 6) hx hb hts zl_X8_isBeside_X8 hown hK hP kk_25 hk_26 rfl 5 (by decide) (hts (.fieldLink RX8 28 "PageOne$Piece" "h" "I") (zat q_wsX8_isBeside k_wsX8_isBeside 333 rfl (by decide +kernel))) (fun _ h9 => h9) rfl dX8_isBeside_78 ?_
        refine lv_iadd hx hb dX8_isBeside_81 ?_
        refine lv_icmp_ge (tgt := 89) hx hb dX8_isBeside_82 (by decide) (fun c_27 => ?_) (fun c_27 => ?_)
        ·
          refine lv_iconst (v := 0) hx hb dX8_isBeside_89 (by decide) ?_
          exact W.zret (v := 0) hx hb hr (by decide) (fun t ht hW => ⟨_, rfl, (by unfold s_isBeside; rw [if_pos c_7, if_pos c_12, if_neg c_20, if_pos c_27]), ht⟩) (fun q h => absurd h List.not_mem_nil) dX8_isBeside_90
        ·
          refine lv_iconst (v := 1) hx hb dX8_isBeside_85 (by decide) ?_
          refine lv_goto (tgt := 90) hx hb dX8_isBeside_86 (by decide) ?_
          exact W.zret (v := 1) hx hb hr (by decide) (fun t ht hW => ⟨_, rfl, (by unfold s_isBeside; rw [if_pos c_7, if_pos c_12, if_neg c_20, if_neg c_27]), ht⟩) (fun q h => absurd h List.not_mem_nil) dX8_isBeside_90
  ·
    refine lv_aload_n hx hb dX8_isBeside_16 rfl (lv_at hl 1 rfl) ?_
    obtain ⟨kk_28, hk_29⟩ := pl_at hpb.1.1 (x_pcF hI hpb)
    refine va_get (D := (dC, dI)) (ci := 7) (v := .int X2) (C := RX8) (T := TX8) (N := 6) hx hb hts zl_X8_isBeside_X8 hown hK hP kk_28 hk_29 rfl 2 (by decide) (hts (.fieldLink RX8 19 "PageOne$Piece" "column" "I") (zat q_wsX8_isBeside k_wsX8_isBeside 322 rfl (by decide +kernel))) (fun _ h9 => h9) rfl dX8_isBeside_17 ?_
    refine lv_aload_n hx hb dX8_isBeside_20 rfl (lv_at hl 1 rfl) ?_
    obtain ⟨kk_30, hk_31⟩ := pl_at hpb.1.1 (x_pcF hI hpb)
    refine va_get (D := (dC, dI)) (ci := 7) (v := .int D2) (C := RX8) (T := TX8) (N := 6) hx hb hts zl_X8_isBeside_X8 hown hK hP kk_30 hk_31 rfl 4 (by decide) (hts (.fieldLink RX8 25 "PageOne$Piece" "w" "I") (zat q_wsX8_isBeside k_wsX8_isBeside 329 rfl (by decide +kernel))) (fun _ h9 => h9) rfl dX8_isBeside_21 ?_
    refine lv_iadd hx hb dX8_isBeside_24 ?_
    refine lv_aload_n hx hb dX8_isBeside_25 rfl (lv_at hl 0 rfl) ?_
    obtain ⟨kk_32, hk_33⟩ := pl_at hpa.1.1 (x_pcF hI hpa)
    refine va_get (D := (dC, dI)) (ci := 7) (v := .int X) (C := RX8) (T := TX8) (N := 6) hx hb hts zl_X8_isBeside_X8 hown hK hP kk_32 hk_33 rfl 2 (by decide) (hts (.fieldLink RX8 19 "PageOne$Piece" "column" "I") (zat q_wsX8_isBeside k_wsX8_isBeside 322 rfl (by decide +kernel))) (fun _ h9 => h9) rfl dX8_isBeside_26 ?_
    refine lv_icmp_ne (tgt := 36) hx hb dX8_isBeside_29 (by decide) (fun c_34 => ?_) (fun c_34 => ?_)
    ·
      refine lv_iconst (v := 0) hx hb dX8_isBeside_36 (by decide) ?_
      refine lv_istore_n (lv' := [(2, .int 0), (0, .ref a0), (1, .ref b0)]) hx hb dX8_isBeside_37 rfl hl (by decide) rfl (fun ls hl => ?_)
      refine lv_aload_n hx hb dX8_isBeside_38 rfl (lv_at hl 1 rfl) ?_
      obtain ⟨kk_35, hk_36⟩ := pl_at hpa.1.1 (x_pcF hI hpa)
      refine va_get (D := (dC, dI)) (ci := 7) (v := .int P) (C := RX8) (T := TX8) (N := 6) hx hb hts zl_X8_isBeside_X8 hown hK hP kk_35 hk_36 rfl 1 (by decide) (hts (.fieldLink RX8 15 "PageOne$Piece" "page" "I") (zat q_wsX8_isBeside k_wsX8_isBeside 317 rfl (by decide +kernel))) (fun _ h9 => h9) rfl dX8_isBeside_39 ?_
      refine lv_aload_n hx hb dX8_isBeside_42 rfl (lv_at hl 2 rfl) ?_
      obtain ⟨kk_37, hk_38⟩ := pl_at hpb.1.1 (x_pcF hI hpb)
      refine va_get (D := (dC, dI)) (ci := 7) (v := .int P2) (C := RX8) (T := TX8) (N := 6) hx hb hts zl_X8_isBeside_X8 hown hK hP kk_37 hk_38 rfl 1 (by decide) (hts (.fieldLink RX8 15 "PageOne$Piece" "page" "I") (zat q_wsX8_isBeside k_wsX8_isBeside 317 rfl (by decide +kernel))) (fun _ h9 => h9) rfl dX8_isBeside_43 ?_
      refine lv_icmp_ne (tgt := 89) hx hb dX8_isBeside_46 (by decide) (fun c_39 => ?_) (fun c_39 => ?_)
      ·
        refine lv_iconst (v := 0) hx hb dX8_isBeside_89 (by decide) ?_
        exact W.zret (v := 0) hx hb hr (by decide) (fun t ht hW => ⟨_, rfl, (by unfold s_isBeside; rw [if_neg c_7, if_neg c_34, if_neg c_39]), ht⟩) (fun q h => absurd h List.not_mem_nil) dX8_isBeside_90
      ·
        refine lv_iload_n hx hb dX8_isBeside_49 rfl (lv_at hl 0 rfl) ?_
        refine lv_if_eq (tgt := 89) hx hb dX8_isBeside_50 (by decide) (fun c_40 => ?_) (fun c_40 => absurd (by decide) c_40)
        refine lv_iconst (v := 0) hx hb dX8_isBeside_89 (by decide) ?_
        exact W.zret (v := 0) hx hb hr (by decide) (fun t ht hW => ⟨_, rfl, (by unfold s_isBeside; rw [if_neg c_7, if_neg c_34, if_pos c_39]), ht⟩) (fun q h => absurd h List.not_mem_nil) dX8_isBeside_90
    ·
      refine lv_iconst (v := 1) hx hb dX8_isBeside_32 (by decide) ?_
      refine lv_goto (tgt := 37) hx hb dX8_isBeside_33 (by decide) ?_
      refine lv_istore_n (lv' := [(2, .int 1), (0, .ref a0), (1, .ref b0)]) hx hb dX8_isBeside_37 rfl hl (by decide) rfl (fun ls hl => ?_)
      refine lv_aload_n hx hb dX8_isBeside_38 rfl (lv_at hl 1 rfl) ?_
      obtain ⟨kk_41, hk_42⟩ := pl_at hpa.1.1 (x_pcF hI hpa)
      refine va_get (D := (dC, dI)) (ci := 7) (v := .int P) (C := RX8) (T := TX8) (N := 6) hx hb hts zl_X8_isBeside_X8 hown hK hP kk_41 hk_42 rfl 1 (by decide) (hts (.fieldLink RX8 15 "PageOne$Piece" "page" "I") (zat q_wsX8_isBeside k_wsX8_isBeside 317 rfl (by decide +kernel))) (fun _ h9 => h9) rfl dX8_isBeside_39 ?_
      refine lv_aload_n hx hb dX8_isBeside_42 rfl (lv_at hl 2 rfl) ?_
      obtain ⟨kk_43, hk_44⟩ := pl_at hpb.1.1 (x_pcF hI hpb)
      refine va_get (D := (dC, dI)) (ci := 7) (v := .int P2) (C := RX8) (T := TX8) (N := 6) hx hb hts zl_X8_isBeside_X8 hown hK hP kk_43 hk_44 rfl 1 (by decide) (hts (.fieldLink RX8 15 "PageOne$Piece" "page" "I") (zat q_wsX8_isBeside k_wsX8_isBeside 317 rfl (by decide +kernel))) (fun _ h9 => h9) rfl dX8_isBeside_43 ?_
      refine lv_icmp_ne (tgt := 89) hx hb dX8_isBeside_46 (by decide) (fun c_45 => ?_) (fun c_45 => ?_)
      ·
        refine lv_iconst (v := 0) hx hb dX8_isBeside_89 (by decide) ?_
        exact W.zret (v := 0) hx hb hr (by decide) (fun t ht hW => ⟨_, rfl, (by unfold s_isBeside; rw [if_neg c_7, if_pos c_34, if_neg c_45]), ht⟩) (fun q h => absurd h List.not_mem_nil) dX8_isBeside_90
      ·
        refine lv_iload_n hx hb dX8_isBeside_49 rfl (lv_at hl 0 rfl) ?_
        refine lv_if_eq (tgt := 89) hx hb dX8_isBeside_50 (by decide) (fun c_46 => absurd c_46 (by decide)) (fun c_46 => ?_)
        refine lv_aload_n hx hb dX8_isBeside_53 rfl (lv_at hl 1 rfl) ?_
        obtain ⟨kk_47, hk_48⟩ := pl_at hpa.1.1 (x_pcF hI hpa)
        refine va_get (D := (dC, dI)) (ci := 7) (v := .int Y) (C := RX8) (T := TX8) (N := 6) hx hb hts zl_X8_isBeside_X8 hown hK hP kk_47 hk_48 rfl 3 (by decide) (hts (.fieldLink RX8 22 "PageOne$Piece" "line" "I") (zat q_wsX8_isBeside k_wsX8_isBeside 326 rfl (by decide +kernel))) (fun _ h9 => h9) rfl dX8_isBeside_54 ?_
        refine lv_aload_n hx hb dX8_isBeside_57 rfl (lv_at hl 2 rfl) ?_
        obtain ⟨kk_49, hk_50⟩ := pl_at hpb.1.1 (x_pcF hI hpb)
        refine va_get (D := (dC, dI)) (ci := 7) (v := .int Y2) (C := RX8) (T := TX8) (N := 6) hx hb hts zl_X8_isBeside_X8 hown hK hP kk_49 hk_50 rfl 3 (by decide) (hts (.fieldLink RX8 22 "PageOne$Piece" "line" "I") (zat q_wsX8_isBeside k_wsX8_isBeside 326 rfl (by decide +kernel))) (fun _ h9 => h9) rfl dX8_isBeside_58 ?_
        refine lv_aload_n hx hb dX8_isBeside_61 rfl (lv_at hl 2 rfl) ?_
        obtain ⟨kk_51, hk_52⟩ := pl_at hpb.1.1 (x_pcF hI hpb)
        refine va_get (D := (dC, dI)) (ci := 7) (v := .int N2) (C := RX8) (T := TX8) (N := 6) hx hb hts zl_X8_isBeside_X8 hown hK hP kk_51 hk_52 rfl 5 (by decide) (hts (.fieldLink RX8 28 "PageOne$Piece" "h" "I") (zat q_wsX8_isBeside k_wsX8_isBeside 333 rfl (by decide +kernel))) (fun _ h9 => h9) rfl dX8_isBeside_62 ?_
        refine lv_iadd hx hb dX8_isBeside_65 ?_
        refine lv_icmp_ge (tgt := 89) hx hb dX8_isBeside_66 (by decide) (fun c_53 => ?_) (fun c_53 => ?_)
        ·
          refine lv_iconst (v := 0) hx hb dX8_isBeside_89 (by decide) ?_
          exact W.zret (v := 0) hx hb hr (by decide) (fun t ht hW => ⟨_, rfl, (by unfold s_isBeside; rw [if_neg c_7, if_pos c_34, if_pos c_45, if_pos c_53]), ht⟩) (fun q h => absurd h List.not_mem_nil) dX8_isBeside_90
        ·
          refine lv_aload_n hx hb dX8_isBeside_69 rfl (lv_at hl 2 rfl) ?_
          obtain ⟨kk_54, hk_55⟩ := pl_at hpb.1.1 (x_pcF hI hpb)
          refine va_get (D := (dC, dI)) (ci := 7) (v := .int Y2) (C := RX8) (T := TX8) (N := 6) hx hb hts zl_X8_isBeside_X8 hown hK hP kk_54 hk_55 rfl 3 (by decide) (hts (.fieldLink RX8 22 "PageOne$Piece" "line" "I") (zat q_wsX8_isBeside k_wsX8_isBeside 326 rfl (by decide +kernel))) (fun _ h9 => h9) rfl dX8_isBeside_70 ?_
          refine lv_aload_n hx hb dX8_isBeside_73 rfl (lv_at hl 1 rfl) ?_
          obtain ⟨kk_56, hk_57⟩ := pl_at hpa.1.1 (x_pcF hI hpa)
          refine va_get (D := (dC, dI)) (ci := 7) (v := .int Y) (C := RX8) (T := TX8) (N := 6) hx hb hts zl_X8_isBeside_X8 hown hK hP kk_56 hk_57 rfl 3 (by decide) (hts (.fieldLink RX8 22 "PageOne$Piece" "line" "I") (zat q_wsX8_isBeside k_wsX8_isBeside 326 rfl (by decide +kernel))) (fun _ h9 => h9) rfl dX8_isBeside_74 ?_
          refine lv_aload_n hx hb dX8_isBeside_77 rfl (lv_at hl 1 rfl) ?_
          obtain ⟨kk_58, hk_59⟩ := pl_at hpa.1.1 (x_pcF hI hpa)
          refine va_get (D := (dC, dI)) (ci := 7) (v := .int N) (C := RX8) (T := TX8) (N := 6) hx hb hts zl_X8_isBeside_X8 hown hK hP kk_58 hk_59 rfl 5 (by decide) (hts (.fieldLink RX8 28 "PageOne$Piece" "h" "I") (zat q_wsX8_isBeside k_wsX8_isBeside 333 rfl (by decide +kernel))) (fun _ h9 => h9) rfl dX8_isBeside_78 ?_
          refine lv_iadd hx hb dX8_isBeside_81 ?_
          refine lv_icmp_ge (tgt := 89) hx hb dX8_isBeside_82 (by decide) (fun c_60 => ?_) (fun c_60 => ?_)
          ·
            refine lv_iconst (v := 0) hx hb dX8_isBeside_89 (by decide) ?_
            exact W.zret (v := 0) hx hb hr (by decide) (fun t ht hW => ⟨_, rfl, (by unfold s_isBeside; rw [if_neg c_7, if_pos c_34, if_pos c_45, if_neg c_53, if_pos c_60]), ht⟩) (fun q h => absurd h List.not_mem_nil) dX8_isBeside_90
          ·
            refine lv_iconst (v := 1) hx hb dX8_isBeside_85 (by decide) ?_
            refine lv_goto (tgt := 90) hx hb dX8_isBeside_86 (by decide) ?_
            exact W.zret (v := 1) hx hb hr (by decide) (fun t ht hW => ⟨_, rfl, (by unfold s_isBeside; rw [if_neg c_7, if_pos c_34, if_pos c_45, if_neg c_53, if_neg c_60]), ht⟩) (fun q h => absurd h List.not_mem_nil) dX8_isBeside_90
def s_isOverOrUnder (P X Y D N P2 X2 Y2 D2 N2 : Int32) : Int32 := if (Y + N) = Y2 then (if P = P2 then (if (X2 + D2) ≤ X then 0 else (if (X + D) ≤ X2 then 0 else 1)) else 0) else (if (Y2 + N2) = Y then (if P = P2 then (if (X2 + D2) ≤ X then 0 else (if (X + D) ≤ X2 then 0 else 1)) else 0) else (if P = P2 then 0 else 0))
set_option maxHeartbeats 4000000 in
set_option maxRecDepth 100000 in
theorem y_isOverOrUnder (l : Launch) (dC : Nat → ClassId) (dI : Nat → Nat → Nat) (q : Nat → ClassId) (h0 : Nat) (d : Nat → Nat) (k : Nat → Int32) (z : gS) (f : xF) (hI : xI q h0 d k z f) (a0 : Nat) (it : Option Nat) (P X Y D N : Int32) (hpa : pcS z a0 it P X Y D N) (b0 : Nat) (iu : Option Nat) (P2 X2 Y2 D2 N2 : Int32) (hpb : pcS z b0 iu P2 X2 Y2 D2 N2) : Met l yX8_isOverOrUnder wsX8_isOverOrUnder ({ frames := 0, cells := 0, slots := 0, locals := 0 }) (va_Pc [.ref a0, .ref b0] (PX dC dI (va_pl z.1 f) (xT q))) (vp_Si (fun r => r = s_isOverOrUnder P X Y D N P2 X2 Y2 D2 N2)) 0 0 (fun _ => False) := by
  refine Met.ofW (cc := cX8_isOverOrUnder) (maxL := 3) (ret := (some .boolean)) (by decide) rfl ?_
  intro p e s m args below meth c s₁ B hml hv
  obtain ⟨rfl, ⟨hP, hK, hN⟩, hXN⟩ := hv
  have hx := B.exec
  have hb := B.bytes
  have hr := B.returns
  have hts := atoms_spec (ws := wsX8_isOverOrUnder) B.pre
  have hown : s.vm.findClass RX8 = some m.cls := findClass_of_methodNamed B.named
  have hlocks := B.notSynchronized
  have hl := lv_entry ([.ref a0, .ref b0]) (n := 3) (Nat.le_of_ble_eq_true rfl)
  rw [lg_entry_eq]
  generalize (lg_sl ([.ref a0, .ref b0]) ++ List.replicate (3 - (lg_sl ([.ref a0, .ref b0])).length) Slot.unset).toArray = ls at hl ⊢
  have hl : lv_has ls 3 [(0, .ref a0), (1, .ref b0)] := hl
  refine lv_aload_n hx hb dX8_isOverOrUnder_0 rfl (lv_at hl 0 rfl) ?_
  obtain ⟨kk_1, hk_2⟩ := pl_at hpa.1.1 (x_pcF hI hpa)
  refine va_get (D := (dC, dI)) (ci := 7) (v := .int Y) (C := RX8) (T := TX8) (N := 6) hx hb hts zl_X8_isOverOrUnder_X8 hown hK hP kk_1 hk_2 rfl 3 (by decide) (hts (.fieldLink RX8 22 "PageOne$Piece" "line" "I") (zat q_wsX8_isOverOrUnder k_wsX8_isOverOrUnder 326 rfl (by decide +kernel))) (fun _ h9 => h9) rfl dX8_isOverOrUnder_1 ?_
  refine lv_aload_n hx hb dX8_isOverOrUnder_4 rfl (lv_at hl 0 rfl) ?_
  obtain ⟨kk_3, hk_4⟩ := pl_at hpa.1.1 (x_pcF hI hpa)
  refine va_get (D := (dC, dI)) (ci := 7) (v := .int N) (C := RX8) (T := TX8) (N := 6) hx hb hts zl_X8_isOverOrUnder_X8 hown hK hP kk_3 hk_4 rfl 5 (by decide) (hts (.fieldLink RX8 28 "PageOne$Piece" "h" "I") (zat q_wsX8_isOverOrUnder k_wsX8_isOverOrUnder 333 rfl (by decide +kernel))) (fun _ h9 => h9) rfl dX8_isOverOrUnder_5 ?_
  refine lv_iadd hx hb dX8_isOverOrUnder_8 ?_
  refine lv_aload_n hx hb dX8_isOverOrUnder_9 rfl (lv_at hl 1 rfl) ?_
  obtain ⟨kk_5, hk_6⟩ := pl_at hpb.1.1 (x_pcF hI hpb)
  refine va_get (D := (dC, dI)) (ci := 7) (v := .int Y2) (C := RX8) (T := TX8) (N := 6) hx hb hts zl_X8_isOverOrUnder_X8 hown hK hP kk_5 hk_6 rfl 3 (by decide) (hts (.fieldLink RX8 22 "PageOne$Piece" "line" "I") (zat q_wsX8_isOverOrUnder k_wsX8_isOverOrUnder 326 rfl (by decide +kernel))) (fun _ h9 => h9) rfl dX8_isOverOrUnder_10 ?_
  refine lv_icmp_eq (tgt := 32) hx hb dX8_isOverOrUnder_13 (by decide) (fun c_7 => ?_) (fun c_7 => ?_)
  ·
    refine lv_iconst (v := 1) hx hb dX8_isOverOrUnder_32 (by decide) ?_
    refine lv_goto (tgt := 37) hx hb dX8_isOverOrUnder_33 (by decide) ?_
    refine lv_istore_n (lv' := [(2, .int 1), (0, .ref a0), (1, .ref b0)]) hx hb dX8_isOverOrUnder_37 rfl hl (by decide) rfl (fun ls hl => ?_)
    refine lv_aload_n hx hb dX8_isOverOrUnder_38 rfl (lv_at hl 1 rfl) ?_
    obtain ⟨kk_8, hk_9⟩ := pl_at hpa.1.1 (x_pcF hI hpa)
    refine va_get (D := (dC, dI)) (ci := 7) (v := .int P) (C := RX8) (T := TX8) (N := 6) hx hb hts zl_X8_isOverOrUnder_X8 hown hK hP kk_8 hk_9 rfl 1 (by decide) (hts (.fieldLink RX8 15 "PageOne$Piece" "page" "I") (zat q_wsX8_isOverOrUnder k_wsX8_isOverOrUnder 317 rfl (by decide +kernel))) (fun _ h9 => h9) rfl dX8_isOverOrUnder_39 ?_
    refine lv_aload_n hx hb dX8_isOverOrUnder_42 rfl (lv_at hl 2 rfl) ?_
    obtain ⟨kk_10, hk_11⟩ := pl_at hpb.1.1 (x_pcF hI hpb)
    refine va_get (D := (dC, dI)) (ci := 7) (v := .int P2) (C := RX8) (T := TX8) (N := 6) hx hb hts zl_X8_isOverOrUnder_X8 hown hK hP kk_10 hk_11 rfl 1 (by decide) (hts (.fieldLink RX8 15 "PageOne$Piece" "page" "I") (zat q_wsX8_isOverOrUnder k_wsX8_isOverOrUnder 317 rfl (by decide +kernel))) (fun _ h9 => h9) rfl dX8_isOverOrUnder_43 ?_
    refine lv_icmp_ne (tgt := 89) hx hb dX8_isOverOrUnder_46 (by decide) (fun c_12 => ?_) (fun c_12 => ?_)
    ·
      refine lv_iconst (v := 0) hx hb dX8_isOverOrUnder_89 (by decide) ?_
      exact W.zret (v := 0) hx hb hr (by decide) (fun t ht hW => ⟨_, rfl, (by unfold s_isOverOrUnder; rw [if_pos c_7, if_neg c_12]), ht⟩) (fun q h => absurd h List.not_mem_nil) dX8_isOverOrUnder_90
    ·
      refine lv_iload_n hx hb dX8_isOverOrUnder_49 rfl (lv_at hl 0 rfl) ?_
      refine lv_if_eq (tgt := 89) hx hb dX8_isOverOrUnder_50 (by decide) (fun c_13 => absurd c_13 (by decide)) (fun c_13 => ?_)
      refine lv_aload_n hx hb dX8_isOverOrUnder_53 rfl (lv_at hl 1 rfl) ?_
      obtain ⟨kk_14, hk_15⟩ := pl_at hpa.1.1 (x_pcF hI hpa)
      refine va_get (D := (dC, dI)) (ci := 7) (v := .int X) (C := RX8) (T := TX8) (N := 6) hx hb hts zl_X8_isOverOrUnder_X8 hown hK hP kk_14 hk_15 rfl 2 (by decide) (hts (.fieldLink RX8 19 "PageOne$Piece" "column" "I") (zat q_wsX8_isOverOrUnder k_wsX8_isOverOrUnder 322 rfl (by decide +kernel))) (fun _ h9 => h9) rfl dX8_isOverOrUnder_54 ?_
      refine lv_aload_n hx hb dX8_isOverOrUnder_57 rfl (lv_at hl 2 rfl) ?_
      obtain ⟨kk_16, hk_17⟩ := pl_at hpb.1.1 (x_pcF hI hpb)
      refine va_get (D := (dC, dI)) (ci := 7) (v := .int X2) (C := RX8) (T := TX8) (N := 6) hx hb hts zl_X8_isOverOrUnder_X8 hown hK hP kk_16 hk_17 rfl 2 (by decide) (hts (.fieldLink RX8 19 "PageOne$Piece" "column" "I") (zat q_wsX8_isOverOrUnder k_wsX8_isOverOrUnder 322 rfl (by decide +kernel))) (fun _ h9 => h9) rfl dX8_isOverOrUnder_58 ?_
      refine lv_aload_n hx hb dX8_isOverOrUnder_61 rfl (lv_at hl 2 rfl) ?_
      obtain ⟨kk_18, hk_19⟩ := pl_at hpb.1.1 (x_pcF hI hpb)
      refine va_get (D := (dC, dI)) (ci := 7) (v := .int D2) (C := RX8) (T := TX8) (N := 6) hx hb hts zl_X8_isOverOrUnder_X8 hown hK hP kk_18 hk_19 rfl 4 (by decide) (hts (.fieldLink RX8 25 "PageOne$Piece" "w" "I") (zat q_wsX8_isOverOrUnder k_wsX8_isOverOrUnder 329 rfl (by decide +kernel))) (fun _ h9 => h9) rfl dX8_isOverOrUnder_62 ?_
      refine lv_iadd hx hb dX8_isOverOrUnder_65 ?_
      refine lv_icmp_ge (tgt := 89) hx hb dX8_isOverOrUnder_66 (by decide) (fun c_20 => ?_) (fun c_20 => ?_)
      ·
        refine lv_iconst (v := 0) hx hb dX8_isOverOrUnder_89 (by decide) ?_
        exact W.zret (v := 0) hx hb hr (by decide) (fun t ht hW => ⟨_, rfl, (by unfold s_isOverOrUnder; rw [if_pos c_7, if_pos c_12, if_pos c_20]), ht⟩) (fun q h => absurd h List.not_mem_nil) dX8_isOverOrUnder_90
      ·
        refine lv_aload_n hx hb dX8_isOverOrUnder_69 rfl (lv_at hl 2 rfl) ?_
        obtain ⟨kk_21, hk_22⟩ := pl_at hpb.1.1 (x_pcF hI hpb)
        refine va_get (D := (dC, dI)) (ci := 7) (v := .int X2) (C := RX8) (T := TX8) (N := 6) hx hb hts zl_X8_isOverOrUnder_X8 hown hK hP kk_21 hk_22 rfl 2 (by decide) (hts (.fieldLink RX8 19 "PageOne$Piece" "column" "I") (zat q_wsX8_isOverOrUnder k_wsX8_isOverOrUnder 322 rfl (by decide +kernel))) (fun _ h9 => h9) rfl dX8_isOverOrUnder_70 ?_
        refine lv_aload_n hx hb dX8_isOverOrUnder_73 rfl (lv_at hl 1 rfl) ?_
        obtain ⟨kk_23, hk_24⟩ := pl_at hpa.1.1 (x_pcF hI hpa)
        refine va_get (D := (dC, dI)) (ci := 7) (v := .int X) (C := RX8) (T := TX8) (N := 6) hx hb hts zl_X8_isOverOrUnder_X8 hown hK hP kk_23 hk_24 rfl 2 (by decide) (hts (.fieldLink RX8 19 "PageOne$Piece" "column" "I") (zat q_wsX8_isOverOrUnder k_wsX8_isOverOrUnder 322 rfl (by decide +kernel))) (fun _ h9 => h9) rfl dX8_isOverOrUnder_74 ?_
        refine lv_aload_n hx hb dX8_isOverOrUnder_77 rfl (lv_at hl 1 rfl) ?_
        obtain ⟨kk_25, hk_26⟩ := pl_at hpa.1.1 (x_pcF hI hpa)
        refine va_get (D := (dC, dI)) (ci := 7) (v := .int D) (C := RX8) (T := TX8) (N := 6) hx hb hts zl_X8_isOverOrUnder_X8 hown hK hP kk_25 hk_26 rfl 4 (by decide) (hts (.fieldLink RX8 25 "PageOne$Piece" "w" "I") (zat q_wsX8_isOverOrUnder k_wsX8_isOverOrUnder 329 rfl (by decide +kernel))) (fun _ h9 => h9) rfl dX8_isOverOrUnder_78 ?_
        refine lv_iadd hx hb dX8_isOverOrUnder_81 ?_
        refine lv_icmp_ge (tgt := 89) hx hb dX8_isOverOrUnder_82 (by decide) (fun c_27 => ?_) (fun c_27 => ?_)
        ·
          refine lv_iconst (v := 0) hx hb dX8_isOverOrUnder_89 (by decide) ?_
          exact W.zret (v := 0) hx hb hr (by decide) (fun t ht hW => ⟨_, rfl, (by unfold s_isOverOrUnder; rw [if_pos c_7, if_pos c_12, if_neg c_20, if_pos c_27]), ht⟩) (fun q h => absurd h List.not_mem_nil) dX8_isOverOrUnder_90
        ·
          refine lv_iconst (v := 1) hx hb dX8_isOverOrUnder_85 (by decide) ?_
          refine lv_goto (tgt := 90) hx hb dX8_isOverOrUnder_86 (by decide) ?_
          exact W.zret (v := 1) hx hb hr (by decide) (fun t ht hW => ⟨_, rfl, (by unfold s_isOverOrUnder; rw [if_pos c_7, if_pos c_12, if_neg c_20, if_neg c_27]), ht⟩) (fun q h => absurd h List.not_mem_nil) dX8_isOverOrUnder_90
  ·
    refine lv_aload_n hx hb dX8_isOverOrUnder_16 rfl (lv_at hl 1 rfl) ?_
    obtain ⟨kk_28, hk_29⟩ := pl_at hpb.1.1 (x_pcF hI hpb)
    refine va_get (D := (dC, dI)) (ci := 7) (v := .int Y2) (C := RX8) (T := TX8) (N := 6) hx hb hts zl_X8_isOverOrUnder_X8 hown hK hP kk_28 hk_29 rfl 3 (by decide) (hts (.fieldLink RX8 22 "PageOne$Piece" "line" "I") (zat q_wsX8_isOverOrUnder k_wsX8_isOverOrUnder 326 rfl (by decide +kernel))) (fun _ h9 => h9) rfl dX8_isOverOrUnder_17 ?_
    refine lv_aload_n hx hb dX8_isOverOrUnder_20 rfl (lv_at hl 1 rfl) ?_
    obtain ⟨kk_30, hk_31⟩ := pl_at hpb.1.1 (x_pcF hI hpb)
    refine va_get (D := (dC, dI)) (ci := 7) (v := .int N2) (C := RX8) (T := TX8) (N := 6) hx hb hts zl_X8_isOverOrUnder_X8 hown hK hP kk_30 hk_31 rfl 5 (by decide) (hts (.fieldLink RX8 28 "PageOne$Piece" "h" "I") (zat q_wsX8_isOverOrUnder k_wsX8_isOverOrUnder 333 rfl (by decide +kernel))) (fun _ h9 => h9) rfl dX8_isOverOrUnder_21 ?_
    refine lv_iadd hx hb dX8_isOverOrUnder_24 ?_
    refine lv_aload_n hx hb dX8_isOverOrUnder_25 rfl (lv_at hl 0 rfl) ?_
    obtain ⟨kk_32, hk_33⟩ := pl_at hpa.1.1 (x_pcF hI hpa)
    refine va_get (D := (dC, dI)) (ci := 7) (v := .int Y) (C := RX8) (T := TX8) (N := 6) hx hb hts zl_X8_isOverOrUnder_X8 hown hK hP kk_32 hk_33 rfl 3 (by decide) (hts (.fieldLink RX8 22 "PageOne$Piece" "line" "I") (zat q_wsX8_isOverOrUnder k_wsX8_isOverOrUnder 326 rfl (by decide +kernel))) (fun _ h9 => h9) rfl dX8_isOverOrUnder_26 ?_
    refine lv_icmp_ne (tgt := 36) hx hb dX8_isOverOrUnder_29 (by decide) (fun c_34 => ?_) (fun c_34 => ?_)
    ·
      refine lv_iconst (v := 0) hx hb dX8_isOverOrUnder_36 (by decide) ?_
      refine lv_istore_n (lv' := [(2, .int 0), (0, .ref a0), (1, .ref b0)]) hx hb dX8_isOverOrUnder_37 rfl hl (by decide) rfl (fun ls hl => ?_)
      refine lv_aload_n hx hb dX8_isOverOrUnder_38 rfl (lv_at hl 1 rfl) ?_
      obtain ⟨kk_35, hk_36⟩ := pl_at hpa.1.1 (x_pcF hI hpa)
      refine va_get (D := (dC, dI)) (ci := 7) (v := .int P) (C := RX8) (T := TX8) (N := 6) hx hb hts zl_X8_isOverOrUnder_X8 hown hK hP kk_35 hk_36 rfl 1 (by decide) (hts (.fieldLink RX8 15 "PageOne$Piece" "page" "I") (zat q_wsX8_isOverOrUnder k_wsX8_isOverOrUnder 317 rfl (by decide +kernel))) (fun _ h9 => h9) rfl dX8_isOverOrUnder_39 ?_
      refine lv_aload_n hx hb dX8_isOverOrUnder_42 rfl (lv_at hl 2 rfl) ?_
      obtain ⟨kk_37, hk_38⟩ := pl_at hpb.1.1 (x_pcF hI hpb)
      refine va_get (D := (dC, dI)) (ci := 7) (v := .int P2) (C := RX8) (T := TX8) (N := 6) hx hb hts zl_X8_isOverOrUnder_X8 hown hK hP kk_37 hk_38 rfl 1 (by decide) (hts (.fieldLink RX8 15 "PageOne$Piece" "page" "I") (zat q_wsX8_isOverOrUnder k_wsX8_isOverOrUnder 317 rfl (by decide +kernel))) (fun _ h9 => h9) rfl dX8_isOverOrUnder_43 ?_
      refine lv_icmp_ne (tgt := 89) hx hb dX8_isOverOrUnder_46 (by decide) (fun c_39 => ?_) (fun c_39 => ?_)
      ·
        refine lv_iconst (v := 0) hx hb dX8_isOverOrUnder_89 (by decide) ?_
        exact W.zret (v := 0) hx hb hr (by decide) (fun t ht hW => ⟨_, rfl, (by unfold s_isOverOrUnder; rw [if_neg c_7, if_neg c_34, if_neg c_39]), ht⟩) (fun q h => absurd h List.not_mem_nil) dX8_isOverOrUnder_90
      ·
        refine lv_iload_n hx hb dX8_isOverOrUnder_49 rfl (lv_at hl 0 rfl) ?_
        refine lv_if_eq (tgt := 89) hx hb dX8_isOverOrUnder_50 (by decide) (fun c_40 => ?_) (fun c_40 => absurd (by decide) c_40)
        refine lv_iconst (v := 0) hx hb dX8_isOverOrUnder_89 (by decide) ?_
        exact W.zret (v := 0) hx hb hr (by decide) (fun t ht hW => ⟨_, rfl, (by unfold s_isOverOrUnder; rw [if_neg c_7, if_neg c_34, if_pos c_39]), ht⟩) (fun q h => absurd h List.not_mem_nil) dX8_isOverOrUnder_90
    ·
      refine lv_iconst (v := 1) hx hb dX8_isOverOrUnder_32 (by decide) ?_
      refine lv_goto (tgt := 37) hx hb dX8_isOverOrUnder_33 (by decide) ?_
      refine lv_istore_n (lv' := [(2, .int 1), (0, .ref a0), (1, .ref b0)]) hx hb dX8_isOverOrUnder_37 rfl hl (by decide) rfl (fun ls hl => ?_)
      refine lv_aload_n hx hb dX8_isOverOrUnder_38 rfl (lv_at hl 1 rfl) ?_
      obtain ⟨kk_41, hk_42⟩ := pl_at hpa.1.1 (x_pcF hI hpa)
      refine va_get (D := (dC, dI)) (ci := 7) (v := .int P) (C := RX8) (T := TX8) (N := 6) hx hb hts zl_X8_isOverOrUnder_X8 hown hK hP kk_41 hk_42 rfl 1 (by decide) (hts (.fieldLink RX8 15 "PageOne$Piece" "page" "I") (zat q_wsX8_isOverOrUnder k_wsX8_isOverOrUnder 317 rfl (by decide +kernel))) (fun _ h9 => h9) rfl dX8_isOverOrUnder_39 ?_
      refine lv_aload_n hx hb dX8_isOverOrUnder_42 rfl (lv_at hl 2 rfl) ?_
      obtain ⟨kk_43, hk_44⟩ := pl_at hpb.1.1 (x_pcF hI hpb)
      refine va_get (D := (dC, dI)) (ci := 7) (v := .int P2) (C := RX8) (T := TX8) (N := 6) hx hb hts zl_X8_isOverOrUnder_X8 hown hK hP kk_43 hk_44 rfl 1 (by decide) (hts (.fieldLink RX8 15 "PageOne$Piece" "page" "I") (zat q_wsX8_isOverOrUnder k_wsX8_isOverOrUnder 317 rfl (by decide +kernel))) (fun _ h9 => h9) rfl dX8_isOverOrUnder_43 ?_
      refine lv_icmp_ne (tgt := 89) hx hb dX8_isOverOrUnder_46 (by decide) (fun c_45 => ?_) (fun c_45 => ?_)
      ·
        refine lv_iconst (v := 0) hx hb dX8_isOverOrUnder_89 (by decide) ?_
        exact W.zret (v := 0) hx hb hr (by decide) (fun t ht hW => ⟨_, rfl, (by unfold s_isOverOrUnder; rw [if_neg c_7, if_pos c_34, if_neg c_45]), ht⟩) (fun q h => absurd h List.not_mem_nil) dX8_isOverOrUnder_90
      ·
        refine lv_iload_n hx hb dX8_isOverOrUnder_49 rfl (lv_at hl 0 rfl) ?_
        refine lv_if_eq (tgt := 89) hx hb dX8_isOverOrUnder_50 (by decide) (fun c_46 => absurd c_46 (by decide)) (fun c_46 => ?_)
        refine lv_aload_n hx hb dX8_isOverOrUnder_53 rfl (lv_at hl 1 rfl) ?_
        obtain ⟨kk_47, hk_48⟩ := pl_at hpa.1.1 (x_pcF hI hpa)
        refine va_get (D := (dC, dI)) (ci := 7) (v := .int X) (C := RX8) (T := TX8) (N := 6) hx hb hts zl_X8_isOverOrUnder_X8 hown hK hP kk_47 hk_48 rfl 2 (by decide) (hts (.fieldLink RX8 19 "PageOne$Piece" "column" "I") (zat q_wsX8_isOverOrUnder k_wsX8_isOverOrUnder 322 rfl (by decide +kernel))) (fun _ h9 => h9) rfl dX8_isOverOrUnder_54 ?_
        refine lv_aload_n hx hb dX8_isOverOrUnder_57 rfl (lv_at hl 2 rfl) ?_
        obtain ⟨kk_49, hk_50⟩ := pl_at hpb.1.1 (x_pcF hI hpb)
        refine va_get (D := (dC, dI)) (ci := 7) (v := .int X2) (C := RX8) (T := TX8) (N := 6) hx hb hts zl_X8_isOverOrUnder_X8 hown hK hP kk_49 hk_50 rfl 2 (by decide) (hts (.fieldLink RX8 19 "PageOne$Piece" "column" "I") (zat q_wsX8_isOverOrUnder k_wsX8_isOverOrUnder 322 rfl (by decide +kernel))) (fun _ h9 => h9) rfl dX8_isOverOrUnder_58 ?_
        refine lv_aload_n hx hb dX8_isOverOrUnder_61 rfl (lv_at hl 2 rfl) ?_
        obtain ⟨kk_51, hk_52⟩ := pl_at hpb.1.1 (x_pcF hI hpb)
        refine va_get (D := (dC, dI)) (ci := 7) (v := .int D2) (C := RX8) (T := TX8) (N := 6) hx hb hts zl_X8_isOverOrUnder_X8 hown hK hP kk_51 hk_52 rfl 4 (by decide) (hts (.fieldLink RX8 25 "PageOne$Piece" "w" "I") (zat q_wsX8_isOverOrUnder k_wsX8_isOverOrUnder 329 rfl (by decide +kernel))) (fun _ h9 => h9) rfl dX8_isOverOrUnder_62 ?_
        refine lv_iadd hx hb dX8_isOverOrUnder_65 ?_
        refine lv_icmp_ge (tgt := 89) hx hb dX8_isOverOrUnder_66 (by decide) (fun c_53 => ?_) (fun c_53 => ?_)
        ·
          refine lv_iconst (v := 0) hx hb dX8_isOverOrUnder_89 (by decide) ?_
          exact W.zret (v := 0) hx hb hr (by decide) (fun t ht hW => ⟨_, rfl, (by unfold s_isOverOrUnder; rw [if_neg c_7, if_pos c_34, if_pos c_45, if_pos c_53]), ht⟩) (fun q h => absurd h List.not_mem_nil) dX8_isOverOrUnder_90
        ·
          refine lv_aload_n hx hb dX8_isOverOrUnder_69 rfl (lv_at hl 2 rfl) ?_
          obtain ⟨kk_54, hk_55⟩ := pl_at hpb.1.1 (x_pcF hI hpb)
          refine va_get (D := (dC, dI)) (ci := 7) (v := .int X2) (C := RX8) (T := TX8) (N := 6) hx hb hts zl_X8_isOverOrUnder_X8 hown hK hP kk_54 hk_55 rfl 2 (by decide) (hts (.fieldLink RX8 19 "PageOne$Piece" "column" "I") (zat q_wsX8_isOverOrUnder k_wsX8_isOverOrUnder 322 rfl (by decide +kernel))) (fun _ h9 => h9) rfl dX8_isOverOrUnder_70 ?_
          refine lv_aload_n hx hb dX8_isOverOrUnder_73 rfl (lv_at hl 1 rfl) ?_
          obtain ⟨kk_56, hk_57⟩ := pl_at hpa.1.1 (x_pcF hI hpa)
          refine va_get (D := (dC, dI)) (ci := 7) (v := .int X) (C := RX8) (T := TX8) (N := 6) hx hb hts zl_X8_isOverOrUnder_X8 hown hK hP kk_56 hk_57 rfl 2 (by decide) (hts (.fieldLink RX8 19 "PageOne$Piece" "column" "I") (zat q_wsX8_isOverOrUnder k_wsX8_isOverOrUnder 322 rfl (by decide +kernel))) (fun _ h9 => h9) rfl dX8_isOverOrUnder_74 ?_
          refine lv_aload_n hx hb dX8_isOverOrUnder_77 rfl (lv_at hl 1 rfl) ?_
          obtain ⟨kk_58, hk_59⟩ := pl_at hpa.1.1 (x_pcF hI hpa)
          refine va_get (D := (dC, dI)) (ci := 7) (v := .int D) (C := RX8) (T := TX8) (N := 6) hx hb hts zl_X8_isOverOrUnder_X8 hown hK hP kk_58 hk_59 rfl 4 (by decide) (hts (.fieldLink RX8 25 "PageOne$Piece" "w" "I") (zat q_wsX8_isOverOrUnder k_wsX8_isOverOrUnder 329 rfl (by decide +kernel))) (fun _ h9 => h9) rfl dX8_isOverOrUnder_78 ?_
          refine lv_iadd hx hb dX8_isOverOrUnder_81 ?_
          refine lv_icmp_ge (tgt := 89) hx hb dX8_isOverOrUnder_82 (by decide) (fun c_60 => ?_) (fun c_60 => ?_)
          ·
            refine lv_iconst (v := 0) hx hb dX8_isOverOrUnder_89 (by decide) ?_
            exact W.zret (v := 0) hx hb hr (by decide) (fun t ht hW => ⟨_, rfl, (by unfold s_isOverOrUnder; rw [if_neg c_7, if_pos c_34, if_pos c_45, if_neg c_53, if_pos c_60]), ht⟩) (fun q h => absurd h List.not_mem_nil) dX8_isOverOrUnder_90
          ·
            refine lv_iconst (v := 1) hx hb dX8_isOverOrUnder_85 (by decide) ?_
            refine lv_goto (tgt := 90) hx hb dX8_isOverOrUnder_86 (by decide) ?_
            exact W.zret (v := 1) hx hb hr (by decide) (fun t ht hW => ⟨_, rfl, (by unfold s_isOverOrUnder; rw [if_neg c_7, if_pos c_34, if_pos c_45, if_neg c_53, if_neg c_60]), ht⟩) (fun q h => absurd h List.not_mem_nil) dX8_isOverOrUnder_90
def s_linesF (p0 lz mz : Int32) : Int32 := if bw p0 lz mz = true then p0 else 0
set_option maxHeartbeats 4000000 in
set_option maxRecDepth 100000 in
theorem y_X2_linesBy (l : Launch) (dC : Nat → ClassId) (dI : Nat → Nat → Nat) (q : Nat → ClassId) (h0 : Nat) (d : Nat → Nat) (k : Nat → Int32) (z : gS) (f : xF) (hI : xI q h0 d k z f) (a0 pa fa : Nat) (nu kd cn lz mz : Int32) (ha0 : tg z a0 10) (hs : f a0 = .inr (2, [.int nu, .int kd, .ref pa, .int cn, .ref fa, .int lz, .int mz])) (p0 : Int32) : Met l yX2_linesBy wsX2_linesBy ({ frames := 1, cells := 0, slots := 0, locals := 22 }) (va_Pc [.ref a0, .int p0] (PX dC dI (va_pl z.1 f) (xT q))) (vp_Si (fun r => r = s_linesF p0 lz mz)) 0 0 (fun _ => False) := by
  refine Met.ofW (cc := cX2_linesBy) (maxL := 2) (ret := (some .int)) (by decide) rfl ?_
  intro p e s m args below meth c s₁ B hml hv
  obtain ⟨rfl, ⟨hP, hK, hN⟩, hXN⟩ := hv
  have hx := B.exec
  have hb := B.bytes
  have hr := B.returns
  have hts := atoms_spec (ws := wsX2_linesBy) B.pre
  have hown : s.vm.findClass RX2 = some m.cls := findClass_of_methodNamed B.named
  have hlocks := B.notSynchronized
  have hl := lv_entry ([.ref a0, .int p0]) (n := 2) (Nat.le_of_ble_eq_true rfl)
  rw [lg_entry_eq]
  generalize (lg_sl ([.ref a0, .int p0]) ++ List.replicate (2 - (lg_sl ([.ref a0, .int p0])).length) Slot.unset).toArray = ls at hl ⊢
  have hl : lv_has ls 2 [(0, .ref a0), (1, .int p0)] := hl
  refine lv_iload_n hx hb dX2_linesBy_0 rfl (lv_at hl 1 rfl) ?_
  refine lv_aload_n hx hb dX2_linesBy_1 rfl (lv_at hl 0 rfl) ?_
  obtain ⟨kk_1, hk_2⟩ := pl_at ha0.1 hs
  refine va_get (D := (dC, dI)) (ci := 2) (v := .int lz) (C := RX2) (T := TX2) (N := 7) hx hb hts zl_X2_linesBy_X2 hown hK hP kk_1 hk_2 rfl 5 (by decide) (hts (.fieldLink RX2 9 "PageOne$Filler" "least" "I") (zat q_wsX2_linesBy k_wsX2_linesBy 386 rfl (by decide +kernel))) (fun _ h9 => h9) rfl dX2_linesBy_2 ?_
  refine lv_aload_n hx hb dX2_linesBy_5 rfl (lv_at hl 0 rfl) ?_
  obtain ⟨kk_3, hk_4⟩ := pl_at ha0.1 hs
  refine va_get (D := (dC, dI)) (ci := 2) (v := .int mz) (C := RX2) (T := TX2) (N := 7) hx hb hts zl_X2_linesBy_X2 hown hK hP kk_3 hk_4 rfl 6 (by decide) (hts (.fieldLink RX2 15 "PageOne$Filler" "most" "I") (zat q_wsX2_linesBy k_wsX2_linesBy 388 rfl (by decide +kernel))) (fun _ h9 => h9) rfl dX2_linesBy_6 ?_
  refine vp_callSi (va_runSN (As := [.int p0, .int lz, .int mz]) (rest := []) ⟨hx, hb, hml, hown, hts⟩ (x_isWithin l dC dI p0 lz mz) ⟨va_cnB (host := "PageOne") 3 hts gX2_linesBy_X11_isWithin_n18 rfl rfl rfl hN.n_RX2_18 (hts (.initialized RX11) (zat q_wsX2_linesBy k_wsX2_linesBy 53 rfl (by decide +kernel))) (by decide +kernel) ⟨Nat.le_of_ble_eq_true rfl, Nat.le_of_ble_eq_true rfl⟩, hts (.static yX11_isWithin) (zat q_wsX2_linesBy k_wsX2_linesBy 148 rfl (by decide +kernel)), trivial⟩ ⟨pw_fb, fun U hU hW => ⟨rfl, pw_to hU hW (hP.sub (ws' := []) [] rfl) (hK.sub (tys' := []) [] rfl) hN⟩⟩ rfl rfl hl.1 rfl (lv_room (Nat.le_of_ble_eq_true rfl)) dX2_linesBy_9 ⟨Nat.le_of_ble_eq_true rfl, Nat.le_of_ble_eq_true rfl⟩).run (fun r hw => ?_)
  rcases Bool.eq_false_or_eq_true (bw p0 lz mz) with b_5 | b_5
  ·
    obtain rfl : r = 1 := b_t hw b_5
    refine lv_if_eq (tgt := 19) hx hb dX2_linesBy_12 (by decide) (fun c_6 => absurd c_6 (by decide)) (fun c_6 => ?_)
    refine lv_iload_n hx hb dX2_linesBy_15 rfl (lv_at hl 1 rfl) ?_
    refine lv_goto (tgt := 20) hx hb dX2_linesBy_16 (by decide) ?_
    exact W.iret (v := p0) hx hb hr (fun t ht hW => ⟨_, rfl, (by unfold s_linesF; rw [if_pos b_5]), ht⟩) (fun q h => absurd h List.not_mem_nil) dX2_linesBy_20
  ·
    obtain rfl : r = 0 := b_f hw b_5
    refine lv_if_eq (tgt := 19) hx hb dX2_linesBy_12 (by decide) (fun c_7 => ?_) (fun c_7 => absurd (by decide) c_7)
    refine lv_iconst (v := 0) hx hb dX2_linesBy_19 (by decide) ?_
    exact W.iret (v := 0) hx hb hr (fun t ht hW => ⟨_, rfl, (by unfold s_linesF; rw [if_neg (bne b_5)]), ht⟩) (fun q h => absurd h List.not_mem_nil) dX2_linesBy_20
def s_colsH (p0 wz : Int32) : Int32 := if p0 = 0 then wz else 0
set_option maxHeartbeats 4000000 in
set_option maxRecDepth 100000 in
theorem y_X3_columnsBy (l : Launch) (dC : Nat → ClassId) (dI : Nat → Nat → Nat) (q : Nat → ClassId) (h0 : Nat) (d : Nat → Nat) (k : Nat → Int32) (z : gS) (f : xF) (hI : xI q h0 d k z f) (a0 pa fa o : Nat) (nu kd cn wz yz : Int32) (ha0 : tg z a0 11) (hs : f a0 = .inr (3, [.int nu, .int kd, .ref pa, .int cn, .ref fa, .ref o, .int wz, .int yz])) (p0 : Int32) : Met l yX3_columnsBy wsX3_columnsBy ({ frames := 0, cells := 0, slots := 0, locals := 0 }) (va_Pc [.ref a0, .int p0] (PX dC dI (va_pl z.1 f) (xT q))) (vp_Si (fun r => r = s_colsH p0 wz)) 0 0 (fun _ => False) := by
  refine Met.ofW (cc := cX3_columnsBy) (maxL := 2) (ret := (some .int)) (by decide) rfl ?_
  intro p e s m args below meth c s₁ B hml hv
  obtain ⟨rfl, ⟨hP, hK, hN⟩, hXN⟩ := hv
  have hx := B.exec
  have hb := B.bytes
  have hr := B.returns
  have hts := atoms_spec (ws := wsX3_columnsBy) B.pre
  have hown : s.vm.findClass RX3 = some m.cls := findClass_of_methodNamed B.named
  have hlocks := B.notSynchronized
  have hl := lv_entry ([.ref a0, .int p0]) (n := 2) (Nat.le_of_ble_eq_true rfl)
  rw [lg_entry_eq]
  generalize (lg_sl ([.ref a0, .int p0]) ++ List.replicate (2 - (lg_sl ([.ref a0, .int p0])).length) Slot.unset).toArray = ls at hl ⊢
  have hl : lv_has ls 2 [(0, .ref a0), (1, .int p0)] := hl
  refine lv_iload_n hx hb dX3_columnsBy_0 rfl (lv_at hl 1 rfl) ?_
  refine lv_if_ne (tgt := 11) hx hb dX3_columnsBy_1 (by decide) (fun c_1 => ?_) (fun c_1 => ?_)
  ·
    refine lv_iconst (v := 0) hx hb dX3_columnsBy_11 (by decide) ?_
    exact W.iret (v := 0) hx hb hr (fun t ht hW => ⟨_, rfl, (by unfold s_colsH; rw [if_neg c_1]), ht⟩) (fun q h => absurd h List.not_mem_nil) dX3_columnsBy_12
  ·
    refine lv_aload_n hx hb dX3_columnsBy_4 rfl (lv_at hl 0 rfl) ?_
    obtain ⟨kk_2, hk_3⟩ := pl_at ha0.1 hs
    refine va_get (D := (dC, dI)) (ci := 3) (v := .int wz) (C := RX3) (T := TX3) (N := 8) hx hb hts zl_X3_columnsBy_X3 hown hK hP kk_2 hk_3 rfl 6 (by decide) (hts (.fieldLink RX3 15 "PageOne$Head" "w" "I") (zat q_wsX3_columnsBy k_wsX3_columnsBy 250 rfl (by decide +kernel))) (fun _ h9 => h9) rfl dX3_columnsBy_5 ?_
    refine lv_goto (tgt := 12) hx hb dX3_columnsBy_8 (by decide) ?_
    exact W.iret (v := wz) hx hb hr (fun t ht hW => ⟨_, rfl, (by unfold s_colsH; rw [if_pos c_1]), ht⟩) (fun q h => absurd h List.not_mem_nil) dX3_columnsBy_12
def s_linesH (p0 yz : Int32) : Int32 := if p0 = 0 then yz else 0
set_option maxHeartbeats 4000000 in
set_option maxRecDepth 100000 in
theorem y_X3_linesBy (l : Launch) (dC : Nat → ClassId) (dI : Nat → Nat → Nat) (q : Nat → ClassId) (h0 : Nat) (d : Nat → Nat) (k : Nat → Int32) (z : gS) (f : xF) (hI : xI q h0 d k z f) (a0 pa fa o : Nat) (nu kd cn wz yz : Int32) (ha0 : tg z a0 11) (hs : f a0 = .inr (3, [.int nu, .int kd, .ref pa, .int cn, .ref fa, .ref o, .int wz, .int yz])) (p0 : Int32) : Met l yX3_linesBy wsX3_linesBy ({ frames := 0, cells := 0, slots := 0, locals := 0 }) (va_Pc [.ref a0, .int p0] (PX dC dI (va_pl z.1 f) (xT q))) (vp_Si (fun r => r = s_linesH p0 yz)) 0 0 (fun _ => False) := by
  refine Met.ofW (cc := cX3_linesBy) (maxL := 2) (ret := (some .int)) (by decide) rfl ?_
  intro p e s m args below meth c s₁ B hml hv
  obtain ⟨rfl, ⟨hP, hK, hN⟩, hXN⟩ := hv
  have hx := B.exec
  have hb := B.bytes
  have hr := B.returns
  have hts := atoms_spec (ws := wsX3_linesBy) B.pre
  have hown : s.vm.findClass RX3 = some m.cls := findClass_of_methodNamed B.named
  have hlocks := B.notSynchronized
  have hl := lv_entry ([.ref a0, .int p0]) (n := 2) (Nat.le_of_ble_eq_true rfl)
  rw [lg_entry_eq]
  generalize (lg_sl ([.ref a0, .int p0]) ++ List.replicate (2 - (lg_sl ([.ref a0, .int p0])).length) Slot.unset).toArray = ls at hl ⊢
  have hl : lv_has ls 2 [(0, .ref a0), (1, .int p0)] := hl
  refine lv_iload_n hx hb dX3_linesBy_0 rfl (lv_at hl 1 rfl) ?_
  refine lv_if_ne (tgt := 11) hx hb dX3_linesBy_1 (by decide) (fun c_1 => ?_) (fun c_1 => ?_)
  ·
    refine lv_iconst (v := 0) hx hb dX3_linesBy_11 (by decide) ?_
    exact W.iret (v := 0) hx hb hr (fun t ht hW => ⟨_, rfl, (by unfold s_linesH; rw [if_neg c_1]), ht⟩) (fun q h => absurd h List.not_mem_nil) dX3_linesBy_12
  ·
    refine lv_aload_n hx hb dX3_linesBy_4 rfl (lv_at hl 0 rfl) ?_
    obtain ⟨kk_2, hk_3⟩ := pl_at ha0.1 hs
    refine va_get (D := (dC, dI)) (ci := 3) (v := .int yz) (C := RX3) (T := TX3) (N := 8) hx hb hts zl_X3_linesBy_X3 hown hK hP kk_2 hk_3 rfl 7 (by decide) (hts (.fieldLink RX3 19 "PageOne$Head" "h" "I") (zat q_wsX3_linesBy k_wsX3_linesBy 251 rfl (by decide +kernel))) (fun _ h9 => h9) rfl dX3_linesBy_5 ?_
    refine lv_goto (tgt := 12) hx hb dX3_linesBy_8 (by decide) ?_
    exact W.iret (v := yz) hx hb hr (fun t ht hW => ⟨_, rfl, (by unfold s_linesH; rw [if_pos c_1]), ht⟩) (fun q h => absurd h List.not_mem_nil) dX3_linesBy_12
def s_linesN (p0 yz : Int32) : Int32 := if p0 = 0 then yz else 0
set_option maxHeartbeats 4000000 in
set_option maxRecDepth 100000 in
theorem y_X5_linesBy (l : Launch) (dC : Nat → ClassId) (dI : Nat → Nat → Nat) (q : Nat → ClassId) (h0 : Nat) (d : Nat → Nat) (k : Nat → Int32) (z : gS) (f : xF) (hI : xI q h0 d k z f) (a0 pa fa o : Nat) (nu kd cn yz : Int32) (ha0 : tg z a0 12) (hs : f a0 = .inr (4, [.int nu, .int kd, .ref pa, .int cn, .ref fa, .ref o, .int yz])) (p0 : Int32) : Met l yX5_linesBy wsX5_linesBy ({ frames := 0, cells := 0, slots := 0, locals := 0 }) (va_Pc [.ref a0, .int p0] (PX dC dI (va_pl z.1 f) (xT q))) (vp_Si (fun r => r = s_linesN p0 yz)) 0 0 (fun _ => False) := by
  refine Met.ofW (cc := cX5_linesBy) (maxL := 2) (ret := (some .int)) (by decide) rfl ?_
  intro p e s m args below meth c s₁ B hml hv
  obtain ⟨rfl, ⟨hP, hK, hN⟩, hXN⟩ := hv
  have hx := B.exec
  have hb := B.bytes
  have hr := B.returns
  have hts := atoms_spec (ws := wsX5_linesBy) B.pre
  have hown : s.vm.findClass RX5 = some m.cls := findClass_of_methodNamed B.named
  have hlocks := B.notSynchronized
  have hl := lv_entry ([.ref a0, .int p0]) (n := 2) (Nat.le_of_ble_eq_true rfl)
  rw [lg_entry_eq]
  generalize (lg_sl ([.ref a0, .int p0]) ++ List.replicate (2 - (lg_sl ([.ref a0, .int p0])).length) Slot.unset).toArray = ls at hl ⊢
  have hl : lv_has ls 2 [(0, .ref a0), (1, .int p0)] := hl
  refine lv_iload_n hx hb dX5_linesBy_0 rfl (lv_at hl 1 rfl) ?_
  refine lv_if_ne (tgt := 11) hx hb dX5_linesBy_1 (by decide) (fun c_1 => ?_) (fun c_1 => ?_)
  ·
    refine lv_iconst (v := 0) hx hb dX5_linesBy_11 (by decide) ?_
    exact W.iret (v := 0) hx hb hr (fun t ht hW => ⟨_, rfl, (by unfold s_linesN; rw [if_neg c_1]), ht⟩) (fun q h => absurd h List.not_mem_nil) dX5_linesBy_12
  ·
    refine lv_aload_n hx hb dX5_linesBy_4 rfl (lv_at hl 0 rfl) ?_
    obtain ⟨kk_2, hk_3⟩ := pl_at ha0.1 hs
    refine va_get (D := (dC, dI)) (ci := 4) (v := .int yz) (C := RX5) (T := TX5) (N := 7) hx hb hts zl_X5_linesBy_X5 hown hK hP kk_2 hk_3 rfl 6 (by decide) (hts (.fieldLink RX5 15 "PageOne$Notice" "h" "I") (zat q_wsX5_linesBy k_wsX5_linesBy 442 rfl (by decide +kernel))) (fun _ h9 => h9) rfl dX5_linesBy_5 ?_
    refine lv_goto (tgt := 12) hx hb dX5_linesBy_8 (by decide) ?_
    exact W.iret (v := yz) hx hb hr (fun t ht hW => ⟨_, rfl, (by unfold s_linesN; rw [if_pos c_1]), ht⟩) (fun q h => absurd h List.not_mem_nil) dX5_linesBy_12
def s_colsP (p0 DD : Int32) : Int32 := if p0 = 0 then DD else 0
set_option maxHeartbeats 4000000 in
set_option maxRecDepth 100000 in
theorem y_X6_columnsBy (l : Launch) (dC : Nat → ClassId) (dI : Nat → Nat → Nat) (q : Nat → ClassId) (h0 : Nat) (d : Nat → Nat) (k : Nat → Int32) (z : gS) (f : xF) (hI : xI q h0 d k z f) (a0 pa fa sp dy : Nat) (nu kd cn bu pr : Int32) (ha0 : tg z a0 13) (hs : f a0 = .inr (5, [.int nu, .int kd, .ref pa, .int cn, .ref fa, .int bu, .int pr, .ref sp, .ref dy])) (p0 : Int32) (is : Option Nat) (PP XX YY DD NN : Int32) (hsp : pcS z sp is PP XX YY DD NN) : Met l yX6_columnsBy wsX6_columnsBy ({ frames := 0, cells := 0, slots := 0, locals := 0 }) (va_Pc [.ref a0, .int p0] (PX dC dI (va_pl z.1 f) (xT q))) (vp_Si (fun r => r = s_colsP p0 DD)) 0 0 (fun _ => False) := by
  refine Met.ofW (cc := cX6_columnsBy) (maxL := 2) (ret := (some .int)) (by decide) rfl ?_
  intro p e s m args below meth c s₁ B hml hv
  obtain ⟨rfl, ⟨hP, hK, hN⟩, hXN⟩ := hv
  have hx := B.exec
  have hb := B.bytes
  have hr := B.returns
  have hts := atoms_spec (ws := wsX6_columnsBy) B.pre
  have hown : s.vm.findClass RX6 = some m.cls := findClass_of_methodNamed B.named
  have hlocks := B.notSynchronized
  have hl := lv_entry ([.ref a0, .int p0]) (n := 2) (Nat.le_of_ble_eq_true rfl)
  rw [lg_entry_eq]
  generalize (lg_sl ([.ref a0, .int p0]) ++ List.replicate (2 - (lg_sl ([.ref a0, .int p0])).length) Slot.unset).toArray = ls at hl ⊢
  have hl : lv_has ls 2 [(0, .ref a0), (1, .int p0)] := hl
  refine lv_iload_n hx hb dX6_columnsBy_0 rfl (lv_at hl 1 rfl) ?_
  refine lv_if_ne (tgt := 14) hx hb dX6_columnsBy_1 (by decide) (fun c_1 => ?_) (fun c_1 => ?_)
  ·
    refine lv_iconst (v := 0) hx hb dX6_columnsBy_14 (by decide) ?_
    exact W.iret (v := 0) hx hb hr (fun t ht hW => ⟨_, rfl, (by unfold s_colsP; rw [if_neg c_1]), ht⟩) (fun q h => absurd h List.not_mem_nil) dX6_columnsBy_15
  ·
    refine lv_aload_n hx hb dX6_columnsBy_4 rfl (lv_at hl 0 rfl) ?_
    obtain ⟨kk_2, hk_3⟩ := pl_at ha0.1 hs
    refine va_get (D := (dC, dI)) (ci := 5) (v := .ref sp) (C := RX6) (T := TX6) (N := 9) hx hb hts zl_X6_columnsBy_X6 hown hK hP kk_2 hk_3 rfl 7 (by decide) (hts (.fieldLink RX6 22 "PageOne$Paid" "spot" "LPageOne$Piece;") (zat q_wsX6_columnsBy k_wsX6_columnsBy 358 rfl (by decide +kernel))) (fun _ h9 => h9) rfl dX6_columnsBy_5 ?_
    obtain ⟨kk_4, hk_5⟩ := pl_at hsp.1.1 (x_pcF hI hsp)
    refine va_get (D := (dC, dI)) (ci := 7) (v := .int DD) (C := RX8) (T := TX8) (N := 6) hx hb hts zl_X6_columnsBy_X8 hown hK hP kk_4 hk_5 rfl 4 (by decide) (hts (.fieldLink RX6 26 "PageOne$Piece" "w" "I") (zat q_wsX6_columnsBy k_wsX6_columnsBy 330 rfl (by decide +kernel))) (fun _ h9 => h9) rfl dX6_columnsBy_8 ?_
    refine lv_goto (tgt := 15) hx hb dX6_columnsBy_11 (by decide) ?_
    exact W.iret (v := DD) hx hb hr (fun t ht hW => ⟨_, rfl, (by unfold s_colsP; rw [if_pos c_1]), ht⟩) (fun q h => absurd h List.not_mem_nil) dX6_columnsBy_15
def s_linesP (p0 NN : Int32) : Int32 := if p0 = 0 then NN else 0
set_option maxHeartbeats 4000000 in
set_option maxRecDepth 100000 in
theorem y_X6_linesBy (l : Launch) (dC : Nat → ClassId) (dI : Nat → Nat → Nat) (q : Nat → ClassId) (h0 : Nat) (d : Nat → Nat) (k : Nat → Int32) (z : gS) (f : xF) (hI : xI q h0 d k z f) (a0 pa fa sp dy : Nat) (nu kd cn bu pr : Int32) (ha0 : tg z a0 13) (hs : f a0 = .inr (5, [.int nu, .int kd, .ref pa, .int cn, .ref fa, .int bu, .int pr, .ref sp, .ref dy])) (p0 : Int32) (is : Option Nat) (PP XX YY DD NN : Int32) (hsp : pcS z sp is PP XX YY DD NN) : Met l yX6_linesBy wsX6_linesBy ({ frames := 0, cells := 0, slots := 0, locals := 0 }) (va_Pc [.ref a0, .int p0] (PX dC dI (va_pl z.1 f) (xT q))) (vp_Si (fun r => r = s_linesP p0 NN)) 0 0 (fun _ => False) := by
  refine Met.ofW (cc := cX6_linesBy) (maxL := 2) (ret := (some .int)) (by decide) rfl ?_
  intro p e s m args below meth c s₁ B hml hv
  obtain ⟨rfl, ⟨hP, hK, hN⟩, hXN⟩ := hv
  have hx := B.exec
  have hb := B.bytes
  have hr := B.returns
  have hts := atoms_spec (ws := wsX6_linesBy) B.pre
  have hown : s.vm.findClass RX6 = some m.cls := findClass_of_methodNamed B.named
  have hlocks := B.notSynchronized
  have hl := lv_entry ([.ref a0, .int p0]) (n := 2) (Nat.le_of_ble_eq_true rfl)
  rw [lg_entry_eq]
  generalize (lg_sl ([.ref a0, .int p0]) ++ List.replicate (2 - (lg_sl ([.ref a0, .int p0])).length) Slot.unset).toArray = ls at hl ⊢
  have hl : lv_has ls 2 [(0, .ref a0), (1, .int p0)] := hl
  refine lv_iload_n hx hb dX6_linesBy_0 rfl (lv_at hl 1 rfl) ?_
  refine lv_if_ne (tgt := 14) hx hb dX6_linesBy_1 (by decide) (fun c_1 => ?_) (fun c_1 => ?_)
  ·
    refine lv_iconst (v := 0) hx hb dX6_linesBy_14 (by decide) ?_
    exact W.iret (v := 0) hx hb hr (fun t ht hW => ⟨_, rfl, (by unfold s_linesP; rw [if_neg c_1]), ht⟩) (fun q h => absurd h List.not_mem_nil) dX6_linesBy_15
  ·
    refine lv_aload_n hx hb dX6_linesBy_4 rfl (lv_at hl 0 rfl) ?_
    obtain ⟨kk_2, hk_3⟩ := pl_at ha0.1 hs
    refine va_get (D := (dC, dI)) (ci := 5) (v := .ref sp) (C := RX6) (T := TX6) (N := 9) hx hb hts zl_X6_linesBy_X6 hown hK hP kk_2 hk_3 rfl 7 (by decide) (hts (.fieldLink RX6 22 "PageOne$Paid" "spot" "LPageOne$Piece;") (zat q_wsX6_linesBy k_wsX6_linesBy 358 rfl (by decide +kernel))) (fun _ h9 => h9) rfl dX6_linesBy_5 ?_
    obtain ⟨kk_4, hk_5⟩ := pl_at hsp.1.1 (x_pcF hI hsp)
    refine va_get (D := (dC, dI)) (ci := 7) (v := .int NN) (C := RX8) (T := TX8) (N := 6) hx hb hts zl_X6_linesBy_X8 hown hK hP kk_4 hk_5 rfl 5 (by decide) (hts (.fieldLink RX6 31 "PageOne$Piece" "h" "I") (zat q_wsX6_linesBy k_wsX6_linesBy 334 rfl (by decide +kernel))) (fun _ h9 => h9) rfl dX6_linesBy_8 ?_
    refine lv_goto (tgt := 15) hx hb dX6_linesBy_11 (by decide) ?_
    exact W.iret (v := NN) hx hb hr (fun t ht hW => ⟨_, rfl, (by unfold s_linesP; rw [if_pos c_1]), ht⟩) (fun q h => absurd h List.not_mem_nil) dX6_linesBy_15
def s_cost (DD NN pr : Int32) : Int32 := ((DD * NN) * pr)
set_option maxHeartbeats 4000000 in
set_option maxRecDepth 100000 in
theorem y_cost (l : Launch) (dC : Nat → ClassId) (dI : Nat → Nat → Nat) (q : Nat → ClassId) (h0 : Nat) (d : Nat → Nat) (k : Nat → Int32) (z : gS) (f : xF) (hI : xI q h0 d k z f) (a0 pa fa sp dy : Nat) (nu kd cn bu pr : Int32) (ha0 : tg z a0 13) (hs : f a0 = .inr (5, [.int nu, .int kd, .ref pa, .int cn, .ref fa, .int bu, .int pr, .ref sp, .ref dy])) (is : Option Nat) (PP XX YY DD NN : Int32) (hsp : pcS z sp is PP XX YY DD NN) : Met l yX6_cost wsX6_cost ({ frames := 0, cells := 0, slots := 0, locals := 0 }) (va_Pc [.ref a0] (PX dC dI (va_pl z.1 f) (xT q))) (vp_Si (fun r => r = s_cost DD NN pr)) 0 0 (fun _ => False) := by
  refine Met.ofW (cc := cX6_cost) (maxL := 1) (ret := (some .int)) (by decide) rfl ?_
  intro p e s m args below meth c s₁ B hml hv
  obtain ⟨rfl, ⟨hP, hK, hN⟩, hXN⟩ := hv
  have hx := B.exec
  have hb := B.bytes
  have hr := B.returns
  have hts := atoms_spec (ws := wsX6_cost) B.pre
  have hown : s.vm.findClass RX6 = some m.cls := findClass_of_methodNamed B.named
  have hlocks := B.notSynchronized
  have hl := lv_entry ([.ref a0]) (n := 1) (Nat.le_of_ble_eq_true rfl)
  rw [lg_entry_eq]
  generalize (lg_sl ([.ref a0]) ++ List.replicate (1 - (lg_sl ([.ref a0])).length) Slot.unset).toArray = ls at hl ⊢
  have hl : lv_has ls 1 [(0, .ref a0)] := hl
  refine lv_aload_n hx hb dX6_cost_0 rfl (lv_at hl 0 rfl) ?_
  obtain ⟨kk_1, hk_2⟩ := pl_at ha0.1 hs
  refine va_get (D := (dC, dI)) (ci := 5) (v := .ref sp) (C := RX6) (T := TX6) (N := 9) hx hb hts zl_X6_cost_X6 hown hK hP kk_1 hk_2 rfl 7 (by decide) (hts (.fieldLink RX6 22 "PageOne$Paid" "spot" "LPageOne$Piece;") (zat q_wsX6_cost k_wsX6_cost 358 rfl (by decide +kernel))) (fun _ h9 => h9) rfl dX6_cost_1 ?_
  obtain ⟨kk_3, hk_4⟩ := pl_at hsp.1.1 (x_pcF hI hsp)
  refine va_get (D := (dC, dI)) (ci := 7) (v := .int DD) (C := RX8) (T := TX8) (N := 6) hx hb hts zl_X6_cost_X8 hown hK hP kk_3 hk_4 rfl 4 (by decide) (hts (.fieldLink RX6 26 "PageOne$Piece" "w" "I") (zat q_wsX6_cost k_wsX6_cost 330 rfl (by decide +kernel))) (fun _ h9 => h9) rfl dX6_cost_4 ?_
  refine lv_aload_n hx hb dX6_cost_7 rfl (lv_at hl 0 rfl) ?_
  obtain ⟨kk_5, hk_6⟩ := pl_at ha0.1 hs
  refine va_get (D := (dC, dI)) (ci := 5) (v := .ref sp) (C := RX6) (T := TX6) (N := 9) hx hb hts zl_X6_cost_X6 hown hK hP kk_5 hk_6 rfl 7 (by decide) (hts (.fieldLink RX6 22 "PageOne$Paid" "spot" "LPageOne$Piece;") (zat q_wsX6_cost k_wsX6_cost 358 rfl (by decide +kernel))) (fun _ h9 => h9) rfl dX6_cost_8 ?_
  obtain ⟨kk_7, hk_8⟩ := pl_at hsp.1.1 (x_pcF hI hsp)
  refine va_get (D := (dC, dI)) (ci := 7) (v := .int NN) (C := RX8) (T := TX8) (N := 6) hx hb hts zl_X6_cost_X8 hown hK hP kk_7 hk_8 rfl 5 (by decide) (hts (.fieldLink RX6 31 "PageOne$Piece" "h" "I") (zat q_wsX6_cost k_wsX6_cost 334 rfl (by decide +kernel))) (fun _ h9 => h9) rfl dX6_cost_11 ?_
  refine lv_imul hx hb dX6_cost_14 ?_
  refine lv_aload_n hx hb dX6_cost_15 rfl (lv_at hl 0 rfl) ?_
  obtain ⟨kk_9, hk_10⟩ := pl_at ha0.1 hs
  refine va_get (D := (dC, dI)) (ci := 5) (v := .int pr) (C := RX6) (T := TX6) (N := 9) hx hb hts zl_X6_cost_X6 hown hK hP kk_9 hk_10 rfl 6 (by decide) (hts (.fieldLink RX6 19 "PageOne$Paid" "price" "I") (zat q_wsX6_cost k_wsX6_cost 357 rfl (by decide +kernel))) (fun _ h9 => h9) rfl dX6_cost_16 ?_
  refine lv_imul hx hb dX6_cost_19 ?_
  exact W.iret (v := ((DD * NN) * pr)) hx hb hr (fun t ht hW => ⟨_, rfl, (by unfold s_cost; rfl), ht⟩) (fun q h => absurd h List.not_mem_nil) dX6_cost_20
def s_colsI (p0 sn : Int32) (g : Nat → Int32) : Int32 := if bw p0 0 (sn - 1) = true then (g (p0 : Int32).toNatClampNeg) else 0
set_option maxHeartbeats 4000000 in
set_option maxRecDepth 100000 in
theorem y_X7_columnsBy (l : Launch) (dC : Nat → ClassId) (dI : Nat → Nat → Nat) (q : Nat → ClassId) (h0 : Nat) (d : Nat → Nat) (k : Nat → Int32) (z : gS) (f : xF) (hI : xI q h0 d k z f) (a0 pa fa ww hh : Nat) (nu kd cn sn : Int32) (ha0 : tg z a0 14) (hs : f a0 = .inr (6, [.int nu, .int kd, .ref pa, .int cn, .ref fa, .ref ww, .ref hh, .int sn])) (p0 : Int32) (g : Nat → Int32) (hrw : tg z ww 20) (hrg : f ww = aI (q 0) 4 g) (hz4 : bw sn 0 4 = true) : Met l yX7_columnsBy wsX7_columnsBy ({ frames := 1, cells := 0, slots := 0, locals := 22 }) (va_Pc [.ref a0, .int p0] (PX dC dI (va_pl z.1 f) (xT q))) (vp_Si (fun r => r = s_colsI p0 sn g)) 0 0 (fun _ => False) := by
  refine Met.ofW (cc := cX7_columnsBy) (maxL := 2) (ret := (some .int)) (by decide) rfl ?_
  intro p e s m args below meth c s₁ B hml hv
  obtain ⟨rfl, ⟨hP, hK, hN⟩, hXN⟩ := hv
  have hx := B.exec
  have hb := B.bytes
  have hr := B.returns
  have hts := atoms_spec (ws := wsX7_columnsBy) B.pre
  have hown : s.vm.findClass RX7 = some m.cls := findClass_of_methodNamed B.named
  have hlocks := B.notSynchronized
  have hl := lv_entry ([.ref a0, .int p0]) (n := 2) (Nat.le_of_ble_eq_true rfl)
  rw [lg_entry_eq]
  generalize (lg_sl ([.ref a0, .int p0]) ++ List.replicate (2 - (lg_sl ([.ref a0, .int p0])).length) Slot.unset).toArray = ls at hl ⊢
  have hl : lv_has ls 2 [(0, .ref a0), (1, .int p0)] := hl
  refine lv_iload_n hx hb dX7_columnsBy_0 rfl (lv_at hl 1 rfl) ?_
  refine lv_iconst (v := 0) hx hb dX7_columnsBy_1 (by decide) ?_
  refine lv_aload_n hx hb dX7_columnsBy_2 rfl (lv_at hl 0 rfl) ?_
  obtain ⟨kk_1, hk_2⟩ := pl_at ha0.1 hs
  refine va_get (D := (dC, dI)) (ci := 6) (v := .int sn) (C := RX7) (T := TX7) (N := 8) hx hb hts zl_X7_columnsBy_X7 hown hK hP kk_1 hk_2 rfl 7 (by decide) (hts (.fieldLink RX7 18 "PageOne$Picture" "sizes" "I") (zat q_wsX7_columnsBy k_wsX7_columnsBy 276 rfl (by decide +kernel))) (fun _ h9 => h9) rfl dX7_columnsBy_3 ?_
  refine lv_iconst (v := 1) hx hb dX7_columnsBy_6 (by decide) ?_
  refine lv_isub hx hb dX7_columnsBy_7 ?_
  refine vp_callSi (va_runSN (As := [.int p0, .int 0, .int (sn - 1)]) (rest := []) ⟨hx, hb, hml, hown, hts⟩ (x_isWithin l dC dI p0 0 (sn - 1)) ⟨va_cnB (host := "PageOne") 3 hts gX7_columnsBy_X11_isWithin_n22 rfl rfl rfl hN.n_RX7_22 (hts (.initialized RX11) (zat q_wsX7_columnsBy k_wsX7_columnsBy 53 rfl (by decide +kernel))) (by decide +kernel) ⟨Nat.le_of_ble_eq_true rfl, Nat.le_of_ble_eq_true rfl⟩, hts (.static yX11_isWithin) (zat q_wsX7_columnsBy k_wsX7_columnsBy 148 rfl (by decide +kernel)), trivial⟩ ⟨pw_fb, fun U hU hW => ⟨rfl, pw_to hU hW (hP.sub (ws' := []) [] rfl) (hK.sub (tys' := []) [] rfl) hN⟩⟩ rfl rfl hl.1 rfl (lv_room (Nat.le_of_ble_eq_true rfl)) dX7_columnsBy_8 ⟨Nat.le_of_ble_eq_true rfl, Nat.le_of_ble_eq_true rfl⟩).run (fun r hw => ?_)
  rcases Bool.eq_false_or_eq_true (bw p0 0 (sn - 1)) with b_3 | b_3
  ·
    obtain rfl : r = 1 := b_t hw b_3
    refine lv_if_eq (tgt := 23) hx hb dX7_columnsBy_11 (by decide) (fun c_4 => absurd c_4 (by decide)) (fun c_4 => ?_)
    refine lv_aload_n hx hb dX7_columnsBy_14 rfl (lv_at hl 0 rfl) ?_
    obtain ⟨kk_5, hk_6⟩ := pl_at ha0.1 hs
    refine va_get (D := (dC, dI)) (ci := 6) (v := .ref ww) (C := RX7) (T := TX7) (N := 8) hx hb hts zl_X7_columnsBy_X7 hown hK hP kk_5 hk_6 rfl 5 (by decide) (hts (.fieldLink RX7 9 "PageOne$Picture" "widths" "[I") (zat q_wsX7_columnsBy k_wsX7_columnsBy 274 rfl (by decide +kernel))) (fun _ h9 => h9) rfl dX7_columnsBy_15 ?_
    refine lv_iload_n hx hb dX7_columnsBy_18 rfl (lv_at hl 1 rfl) ?_
    obtain ⟨kk_7, hk_8⟩ := pl_at hrw.1 hrg
    refine va_iald hx hb hK hP kk_7 0 hk_8 rfl (vsz hz4 b_3) dX7_columnsBy_19 ?_
    refine lv_goto (tgt := 24) hx hb dX7_columnsBy_20 (by decide) ?_
    exact W.iret (v := (g (p0 : Int32).toNatClampNeg)) hx hb hr (fun t ht hW => ⟨_, rfl, (by unfold s_colsI; rw [if_pos b_3]), ht⟩) (fun q h => absurd h List.not_mem_nil) dX7_columnsBy_24
  ·
    obtain rfl : r = 0 := b_f hw b_3
    refine lv_if_eq (tgt := 23) hx hb dX7_columnsBy_11 (by decide) (fun c_9 => ?_) (fun c_9 => absurd (by decide) c_9)
    refine lv_iconst (v := 0) hx hb dX7_columnsBy_23 (by decide) ?_
    exact W.iret (v := 0) hx hb hr (fun t ht hW => ⟨_, rfl, (by unfold s_colsI; rw [if_neg (bne b_3)]), ht⟩) (fun q h => absurd h List.not_mem_nil) dX7_columnsBy_24
def s_linesI (p0 sn : Int32) (g : Nat → Int32) : Int32 := if bw p0 0 (sn - 1) = true then (g (p0 : Int32).toNatClampNeg) else 0
set_option maxHeartbeats 4000000 in
set_option maxRecDepth 100000 in
theorem y_X7_linesBy (l : Launch) (dC : Nat → ClassId) (dI : Nat → Nat → Nat) (q : Nat → ClassId) (h0 : Nat) (d : Nat → Nat) (k : Nat → Int32) (z : gS) (f : xF) (hI : xI q h0 d k z f) (a0 pa fa ww hh : Nat) (nu kd cn sn : Int32) (ha0 : tg z a0 14) (hs : f a0 = .inr (6, [.int nu, .int kd, .ref pa, .int cn, .ref fa, .ref ww, .ref hh, .int sn])) (p0 : Int32) (g : Nat → Int32) (hrw : tg z hh 20) (hrg : f hh = aI (q 0) 4 g) (hz4 : bw sn 0 4 = true) : Met l yX7_linesBy wsX7_linesBy ({ frames := 1, cells := 0, slots := 0, locals := 22 }) (va_Pc [.ref a0, .int p0] (PX dC dI (va_pl z.1 f) (xT q))) (vp_Si (fun r => r = s_linesI p0 sn g)) 0 0 (fun _ => False) := by
  refine Met.ofW (cc := cX7_linesBy) (maxL := 2) (ret := (some .int)) (by decide) rfl ?_
  intro p e s m args below meth c s₁ B hml hv
  obtain ⟨rfl, ⟨hP, hK, hN⟩, hXN⟩ := hv
  have hx := B.exec
  have hb := B.bytes
  have hr := B.returns
  have hts := atoms_spec (ws := wsX7_linesBy) B.pre
  have hown : s.vm.findClass RX7 = some m.cls := findClass_of_methodNamed B.named
  have hlocks := B.notSynchronized
  have hl := lv_entry ([.ref a0, .int p0]) (n := 2) (Nat.le_of_ble_eq_true rfl)
  rw [lg_entry_eq]
  generalize (lg_sl ([.ref a0, .int p0]) ++ List.replicate (2 - (lg_sl ([.ref a0, .int p0])).length) Slot.unset).toArray = ls at hl ⊢
  have hl : lv_has ls 2 [(0, .ref a0), (1, .int p0)] := hl
  refine lv_iload_n hx hb dX7_linesBy_0 rfl (lv_at hl 1 rfl) ?_
  refine lv_iconst (v := 0) hx hb dX7_linesBy_1 (by decide) ?_
  refine lv_aload_n hx hb dX7_linesBy_2 rfl (lv_at hl 0 rfl) ?_
  obtain ⟨kk_1, hk_2⟩ := pl_at ha0.1 hs
  refine va_get (D := (dC, dI)) (ci := 6) (v := .int sn) (C := RX7) (T := TX7) (N := 8) hx hb hts zl_X7_linesBy_X7 hown hK hP kk_1 hk_2 rfl 7 (by decide) (hts (.fieldLink RX7 18 "PageOne$Picture" "sizes" "I") (zat q_wsX7_linesBy k_wsX7_linesBy 276 rfl (by decide +kernel))) (fun _ h9 => h9) rfl dX7_linesBy_3 ?_
  refine lv_iconst (v := 1) hx hb dX7_linesBy_6 (by decide) ?_
  refine lv_isub hx hb dX7_linesBy_7 ?_
  refine vp_callSi (va_runSN (As := [.int p0, .int 0, .int (sn - 1)]) (rest := []) ⟨hx, hb, hml, hown, hts⟩ (x_isWithin l dC dI p0 0 (sn - 1)) ⟨va_cnB (host := "PageOne") 3 hts gX7_linesBy_X11_isWithin_n22 rfl rfl rfl hN.n_RX7_22 (hts (.initialized RX11) (zat q_wsX7_linesBy k_wsX7_linesBy 53 rfl (by decide +kernel))) (by decide +kernel) ⟨Nat.le_of_ble_eq_true rfl, Nat.le_of_ble_eq_true rfl⟩, hts (.static yX11_isWithin) (zat q_wsX7_linesBy k_wsX7_linesBy 148 rfl (by decide +kernel)), trivial⟩ ⟨pw_fb, fun U hU hW => ⟨rfl, pw_to hU hW (hP.sub (ws' := []) [] rfl) (hK.sub (tys' := []) [] rfl) hN⟩⟩ rfl rfl hl.1 rfl (lv_room (Nat.le_of_ble_eq_true rfl)) dX7_linesBy_8 ⟨Nat.le_of_ble_eq_true rfl, Nat.le_of_ble_eq_true rfl⟩).run (fun r hw => ?_)
  rcases Bool.eq_false_or_eq_true (bw p0 0 (sn - 1)) with b_3 | b_3
  ·
    obtain rfl : r = 1 := b_t hw b_3
    refine lv_if_eq (tgt := 23) hx hb dX7_linesBy_11 (by decide) (fun c_4 => absurd c_4 (by decide)) (fun c_4 => ?_)
    refine lv_aload_n hx hb dX7_linesBy_14 rfl (lv_at hl 0 rfl) ?_
    obtain ⟨kk_5, hk_6⟩ := pl_at ha0.1 hs
    refine va_get (D := (dC, dI)) (ci := 6) (v := .ref hh) (C := RX7) (T := TX7) (N := 8) hx hb hts zl_X7_linesBy_X7 hown hK hP kk_5 hk_6 rfl 6 (by decide) (hts (.fieldLink RX7 15 "PageOne$Picture" "heights" "[I") (zat q_wsX7_linesBy k_wsX7_linesBy 275 rfl (by decide +kernel))) (fun _ h9 => h9) rfl dX7_linesBy_15 ?_
    refine lv_iload_n hx hb dX7_linesBy_18 rfl (lv_at hl 1 rfl) ?_
    obtain ⟨kk_7, hk_8⟩ := pl_at hrw.1 hrg
    refine va_iald hx hb hK hP kk_7 0 hk_8 rfl (vsz hz4 b_3) dX7_linesBy_19 ?_
    refine lv_goto (tgt := 24) hx hb dX7_linesBy_20 (by decide) ?_
    exact W.iret (v := (g (p0 : Int32).toNatClampNeg)) hx hb hr (fun t ht hW => ⟨_, rfl, (by unfold s_linesI; rw [if_pos b_3]), ht⟩) (fun q h => absurd h List.not_mem_nil) dX7_linesBy_24
  ·
    obtain rfl : r = 0 := b_f hw b_3
    refine lv_if_eq (tgt := 23) hx hb dX7_linesBy_11 (by decide) (fun c_9 => ?_) (fun c_9 => absurd (by decide) c_9)
    refine lv_iconst (v := 0) hx hb dX7_linesBy_23 (by decide) ?_
    exact W.iret (v := 0) hx hb hr (fun t ht hW => ⟨_, rfl, (by unfold s_linesI; rw [if_neg (bne b_3)]), ht⟩) (fun q h => absurd h List.not_mem_nil) dX7_linesBy_24
def s_linesS (p0 : Int32) : Int32 := if bw p0 1 60 = true then p0 else 0
set_option maxHeartbeats 4000000 in
set_option maxRecDepth 100000 in
theorem y_X10_linesBy (l : Launch) (dC : Nat → ClassId) (dI : Nat → Nat → Nat) (q : Nat → ClassId) (h0 : Nat) (d : Nat → Nat) (k : Nat → Int32) (z : gS) (f : xF) (hI : xI q h0 d k z f) (a0 pa fa wd nm : Nat) (nu kd cn lz co : Int32) (ha0 : tg z a0 15) (hs : f a0 = .inr (9, [.int nu, .int kd, .ref pa, .int cn, .ref fa, .int lz, .ref wd, .int co, .ref nm])) (p0 : Int32) : Met l yX10_linesBy wsX10_linesBy ({ frames := 1, cells := 0, slots := 0, locals := 22 }) (va_Pc [.ref a0, .int p0] (PX dC dI (va_pl z.1 f) (xT q))) (vp_Si (fun r => r = s_linesS p0)) 0 0 (fun _ => False) := by
  refine Met.ofW (cc := cX10_linesBy) (maxL := 2) (ret := (some .int)) (by decide) rfl ?_
  intro p e s m args below meth c s₁ B hml hv
  obtain ⟨rfl, ⟨hP, hK, hN⟩, hXN⟩ := hv
  have hx := B.exec
  have hb := B.bytes
  have hr := B.returns
  have hts := atoms_spec (ws := wsX10_linesBy) B.pre
  have hown : s.vm.findClass RX10 = some m.cls := findClass_of_methodNamed B.named
  have hlocks := B.notSynchronized
  have hl := lv_entry ([.ref a0, .int p0]) (n := 2) (Nat.le_of_ble_eq_true rfl)
  rw [lg_entry_eq]
  generalize (lg_sl ([.ref a0, .int p0]) ++ List.replicate (2 - (lg_sl ([.ref a0, .int p0])).length) Slot.unset).toArray = ls at hl ⊢
  have hl : lv_has ls 2 [(0, .ref a0), (1, .int p0)] := hl
  refine lv_iload_n hx hb dX10_linesBy_0 rfl (lv_at hl 1 rfl) ?_
  refine lv_iconst (v := 1) hx hb dX10_linesBy_1 (by decide) ?_
  refine lv_bipush (v := 60) hx hb dX10_linesBy_2 (by decide) ?_
  refine vp_callSi (va_runSN (As := [.int p0, .int 1, .int 60]) (rest := []) ⟨hx, hb, hml, hown, hts⟩ (x_isWithin l dC dI p0 1 60) ⟨va_cnB (host := "PageOne") 3 hts gX10_linesBy_X11_isWithin_n26 rfl rfl rfl hN.n_RX10_26 (hts (.initialized RX11) (zat q_wsX10_linesBy k_wsX10_linesBy 53 rfl (by decide +kernel))) (by decide +kernel) ⟨Nat.le_of_ble_eq_true rfl, Nat.le_of_ble_eq_true rfl⟩, hts (.static yX11_isWithin) (zat q_wsX10_linesBy k_wsX10_linesBy 148 rfl (by decide +kernel)), trivial⟩ ⟨pw_fb, fun U hU hW => ⟨rfl, pw_to hU hW (hP.sub (ws' := []) [] rfl) (hK.sub (tys' := []) [] rfl) hN⟩⟩ rfl rfl hl.1 rfl (lv_room (Nat.le_of_ble_eq_true rfl)) dX10_linesBy_4 ⟨Nat.le_of_ble_eq_true rfl, Nat.le_of_ble_eq_true rfl⟩).run (fun r hw => ?_)
  rcases Bool.eq_false_or_eq_true (bw p0 1 60) with b_1 | b_1
  ·
    obtain rfl : r = 1 := b_t hw b_1
    refine lv_if_eq (tgt := 14) hx hb dX10_linesBy_7 (by decide) (fun c_2 => absurd c_2 (by decide)) (fun c_2 => ?_)
    refine lv_iload_n hx hb dX10_linesBy_10 rfl (lv_at hl 1 rfl) ?_
    refine lv_goto (tgt := 15) hx hb dX10_linesBy_11 (by decide) ?_
    exact W.iret (v := p0) hx hb hr (fun t ht hW => ⟨_, rfl, (by unfold s_linesS; rw [if_pos b_1]), ht⟩) (fun q h => absurd h List.not_mem_nil) dX10_linesBy_15
  ·
    obtain rfl : r = 0 := b_f hw b_1
    refine lv_if_eq (tgt := 14) hx hb dX10_linesBy_7 (by decide) (fun c_3 => ?_) (fun c_3 => absurd (by decide) c_3)
    refine lv_iconst (v := 0) hx hb dX10_linesBy_14 (by decide) ?_
    exact W.iret (v := 0) hx hb hr (fun t ht hW => ⟨_, rfl, (by unfold s_linesS; rw [if_neg (bne b_1)]), ht⟩) (fun q h => absurd h List.not_mem_nil) dX10_linesBy_15
theorem s_startsWith_01 (P X Y D N P2 X2 Y2 D2 N2 : Int32) : s_startsWith P X Y D N P2 X2 Y2 D2 N2 = 0 ∨ s_startsWith P X Y D N P2 X2 Y2 D2 N2 = 1 := by
  unfold s_startsWith
  repeat (first | exact Or.inl rfl | exact Or.inr rfl | split)
def s_sitP (P2 X2 Y2 D2 N2 PP XX YY DD NN : Int32) : Int32 := (s_startsWith P2 X2 Y2 D2 N2 PP XX YY DD NN)
set_option maxHeartbeats 4000000 in
set_option maxRecDepth 100000 in
theorem y_X6_maySit (l : Launch) (dC : Nat → ClassId) (dI : Nat → Nat → Nat) (q : Nat → ClassId) (h0 : Nat) (d : Nat → Nat) (k : Nat → Int32) (z : gS) (f : xF) (hI : xI q h0 d k z f) (a0 pa fa sp dy : Nat) (nu kd cn bu pr : Int32) (ha0 : tg z a0 13) (hs : f a0 = .inr (5, [.int nu, .int kd, .ref pa, .int cn, .ref fa, .int bu, .int pr, .ref sp, .ref dy])) (p0 p1 : Int32) (is : Option Nat) (PP XX YY DD NN : Int32) (hsp : pcS z sp is PP XX YY DD NN) (b0 : Nat) (iu : Option Nat) (P2 X2 Y2 D2 N2 : Int32) (hpb : pcS z b0 iu P2 X2 Y2 D2 N2) : Met l yX6_maySit wsX6_maySit ({ frames := 1, cells := 0, slots := 0, locals := 21 }) (va_Pc [.ref a0, .ref b0, .int p0, .int p1] (PX dC dI (va_pl z.1 f) (xT q))) (vp_Si (fun r => r = s_sitP P2 X2 Y2 D2 N2 PP XX YY DD NN)) 0 0 (fun _ => False) := by
  refine Met.ofW (cc := cX6_maySit) (maxL := 4) (ret := (some .boolean)) (by decide) rfl ?_
  intro p e s m args below meth c s₁ B hml hv
  obtain ⟨rfl, ⟨hP, hK, hN⟩, hXN⟩ := hv
  have hx := B.exec
  have hb := B.bytes
  have hr := B.returns
  have hts := atoms_spec (ws := wsX6_maySit) B.pre
  have hown : s.vm.findClass RX6 = some m.cls := findClass_of_methodNamed B.named
  have hlocks := B.notSynchronized
  have hl := lv_entry ([.ref a0, .ref b0, .int p0, .int p1]) (n := 4) (Nat.le_of_ble_eq_true rfl)
  rw [lg_entry_eq]
  generalize (lg_sl ([.ref a0, .ref b0, .int p0, .int p1]) ++ List.replicate (4 - (lg_sl ([.ref a0, .ref b0, .int p0, .int p1])).length) Slot.unset).toArray = ls at hl ⊢
  have hl : lv_has ls 4 [(0, .ref a0), (1, .ref b0), (2, .int p0), (3, .int p1)] := hl
  refine lv_aload_n hx hb dX6_maySit_0 rfl (lv_at hl 1 rfl) ?_
  refine lv_aload_n hx hb dX6_maySit_1 rfl (lv_at hl 0 rfl) ?_
  obtain ⟨kk_1, hk_2⟩ := pl_at ha0.1 hs
  refine va_get (D := (dC, dI)) (ci := 5) (v := .ref sp) (C := RX6) (T := TX6) (N := 9) hx hb hts zl_X6_maySit_X6 hown hK hP kk_1 hk_2 rfl 7 (by decide) (hts (.fieldLink RX6 22 "PageOne$Paid" "spot" "LPageOne$Piece;") (zat q_wsX6_maySit k_wsX6_maySit 358 rfl (by decide +kernel))) (fun _ h9 => h9) rfl dX6_maySit_2 ?_
  obtain ⟨kk_3, hk_4⟩ := pl_at hpb.1.1 (x_pcF hI hpb)
  refine vp_callSi (va_runV (As := [.ref sp]) (rest := []) ⟨hx, hb, hml, hown, hts⟩ (y_startsWith l dC dI q h0 d k z f hI b0 iu P2 X2 Y2 D2 N2 hpb sp is PP XX YY DD NN hsp) (cwV 1 hts gX6_maySit_X8_startsWith rfl rfl rfl zh_X8_startsWith_37 ⟨Nat.le_of_ble_eq_true rfl, Nat.le_of_ble_eq_true rfl⟩) ⟨px_fb, va_recv hK hP (ci := 7) (q0 := kk_3) rfl hk_4, fun U hU hW => ⟨rfl, px_to hU hW hP hK hN hXN⟩⟩ rfl rfl hl.1 rfl (lv_room (Nat.le_of_ble_eq_true rfl)) dX6_maySit_5 ⟨Nat.le_of_ble_eq_true rfl, Nat.le_of_ble_eq_true rfl⟩).run (fun r hw => ?_)
  obtain rfl : r = (s_startsWith P2 X2 Y2 D2 N2 PP XX YY DD NN) := hw
  exact W.zret (v := (s_startsWith P2 X2 Y2 D2 N2 PP XX YY DD NN)) hx hb hr (by rcases s_startsWith_01 P2 X2 Y2 D2 N2 PP XX YY DD NN with h | h <;> rw [h] <;> decide) (fun t ht hW => ⟨_, rfl, (by unfold s_sitP; rfl), ht⟩) (fun q h => absurd h List.not_mem_nil) dX6_maySit_8
def s_sitN (P2 X2 p1 : Int32) (g gm : Nat → Int32) : Int32 := if bw (g (0 : Int32).toNatClampNeg) 0 (p1 - 1) = true then 0 else (if bw (gm (0 : Int32).toNatClampNeg) 0 (p1 - 1) = true then (if P2 = (gm (2 : Int32).toNatClampNeg) then (if X2 < (gm (3 : Int32).toNatClampNeg) then 0 else 1) else (if P2 ≤ (gm (2 : Int32).toNatClampNeg) then 0 else 1)) else 0)
set_option maxHeartbeats 4000000 in
set_option maxRecDepth 100000 in
theorem y_X5_maySit (l : Launch) (dC : Nat → ClassId) (dI : Nat → Nat → Nat) (q : Nat → ClassId) (h0 : Nat) (d : Nat → Nat) (k : Nat → Int32) (z : gS) (f : xF) (hI : xI q h0 d k z f) (a0 pa fa o : Nat) (nu kd cn yz : Int32) (ha0 : tg z a0 12) (hs : f a0 = .inr (4, [.int nu, .int kd, .ref pa, .int cn, .ref fa, .ref o, .int yz])) (p0 p1 : Int32) (b0 : Nat) (iu : Option Nat) (P2 X2 Y2 D2 N2 : Int32) (hpb : pcS z b0 iu P2 X2 Y2 D2 N2) (g gm : Nat → Int32) (hfa : tg z fa 17) (hfg : f fa = aI (q 0) 5 g) (nu2 kd2 cn2 : Int32) (pa2 fa2 : Nat) (rs2 : List Value) (ho : itm z o) (hso : f o = .inr (ciT (z.2 o).1, itF nu2 kd2 pa2 cn2 fa2 rs2)) (hfo : tg z fa2 17) (hfm : f fa2 = aI (q 0) 5 gm) : Met l yX5_maySit wsX5_maySit ({ frames := 1, cells := 0, slots := 0, locals := 22 }) (va_Pc [.ref a0, .ref b0, .int p0, .int p1] (PX dC dI (va_pl z.1 f) (xT q))) (vp_Si (fun r => r = s_sitN P2 X2 p1 g gm)) 0 0 (fun _ => False) := by
  refine Met.ofW (cc := cX5_maySit) (maxL := 5) (ret := (some .boolean)) (by decide) rfl ?_
  intro p e s m args below meth c s₁ B hml hv
  obtain ⟨rfl, ⟨hP, hK, hN⟩, hXN⟩ := hv
  have hx := B.exec
  have hb := B.bytes
  have hr := B.returns
  have hts := atoms_spec (ws := wsX5_maySit) B.pre
  have hown : s.vm.findClass RX5 = some m.cls := findClass_of_methodNamed B.named
  have hlocks := B.notSynchronized
  have hl := lv_entry ([.ref a0, .ref b0, .int p0, .int p1]) (n := 5) (Nat.le_of_ble_eq_true rfl)
  rw [lg_entry_eq]
  generalize (lg_sl ([.ref a0, .ref b0, .int p0, .int p1]) ++ List.replicate (5 - (lg_sl ([.ref a0, .ref b0, .int p0, .int p1])).length) Slot.unset).toArray = ls at hl ⊢
  have hl : lv_has ls 5 [(0, .ref a0), (1, .ref b0), (2, .int p0), (3, .int p1)] := hl
  refine lv_aload_n hx hb dX5_maySit_0 rfl (lv_at hl 0 rfl) ?_
  obtain ⟨kk_1, hk_2⟩ := pl_at ha0.1 hs
  refine va_get (D := (dC, dI)) (ci := 4) (v := .ref fa) (C := RX5) (T := TX5) (N := 7) hx hb hts zl_X5_maySit_X5 hown hK hP kk_1 hk_2 rfl 4 (by decide) (hts (.fieldLink RX5 19 "PageOne$Notice" "first" "[I") (zat q_wsX5_maySit k_wsX5_maySit 199 rfl (by decide +kernel))) (fun x9 h9 => u_same (hts (.sameField "PageOne$Notice" "PageOne$Item" "first" "[I") (zat q_wsX5_maySit k_wsX5_maySit 200 rfl (by decide +kernel))) x9 h9) rfl dX5_maySit_1 ?_
  refine lv_iconst (v := 0) hx hb dX5_maySit_4 (by decide) ?_
  obtain ⟨kk_3, hk_4⟩ := pl_at hfa.1 hfg
  refine va_iald hx hb hK hP kk_3 0 hk_4 rfl (by unfold vp_in; decide) dX5_maySit_5 ?_
  refine lv_iconst (v := 0) hx hb dX5_maySit_6 (by decide) ?_
  refine lv_iload_n hx hb dX5_maySit_7 rfl (lv_at hl 3 rfl) ?_
  refine lv_iconst (v := 1) hx hb dX5_maySit_8 (by decide) ?_
  refine lv_isub hx hb dX5_maySit_9 ?_
  refine vp_callSi (va_runSN (As := [.int (g (0 : Int32).toNatClampNeg), .int 0, .int (p1 - 1)]) (rest := []) ⟨hx, hb, hml, hown, hts⟩ (x_isWithin l dC dI (g (0 : Int32).toNatClampNeg) 0 (p1 - 1)) ⟨va_cnB (host := "PageOne") 3 hts gX5_maySit_X11_isWithin_n23 rfl rfl rfl hN.n_RX5_23 (hts (.initialized RX11) (zat q_wsX5_maySit k_wsX5_maySit 53 rfl (by decide +kernel))) (by decide +kernel) ⟨Nat.le_of_ble_eq_true rfl, Nat.le_of_ble_eq_true rfl⟩, hts (.static yX11_isWithin) (zat q_wsX5_maySit k_wsX5_maySit 148 rfl (by decide +kernel)), trivial⟩ ⟨pw_fb, fun U hU hW => ⟨rfl, pw_to hU hW (hP.sub (ws' := []) [] rfl) (hK.sub (tys' := []) [] rfl) hN⟩⟩ rfl rfl hl.1 rfl (lv_room (Nat.le_of_ble_eq_true rfl)) dX5_maySit_10 ⟨Nat.le_of_ble_eq_true rfl, Nat.le_of_ble_eq_true rfl⟩).run (fun r hw => ?_)
  rcases Bool.eq_false_or_eq_true (bw (g (0 : Int32).toNatClampNeg) 0 (p1 - 1)) with b_5 | b_5
  ·
    obtain rfl : r = 1 := b_t hw b_5
    refine lv_istore (lv' := [(4, .int 1), (0, .ref a0), (1, .ref b0), (2, .int p0), (3, .int p1)]) hx hb dX5_maySit_13 hl (by decide) rfl (fun ls hl => ?_)
    refine lv_iload hx hb dX5_maySit_15 (lv_at hl 0 rfl) ?_
    refine lv_if_ne (tgt := 39) hx hb dX5_maySit_17 (by decide) (fun c_6 => ?_) (fun c_6 => absurd c_6 (by decide))
    refine lv_iconst (v := 0) hx hb dX5_maySit_39 (by decide) ?_
    exact W.zret (v := 0) hx hb hr (by decide) (fun t ht hW => ⟨_, rfl, (by unfold s_sitN; rw [if_pos b_5]), ht⟩) (fun q h => absurd h List.not_mem_nil) dX5_maySit_40
  ·
    obtain rfl : r = 0 := b_f hw b_5
    refine lv_istore (lv' := [(4, .int 0), (0, .ref a0), (1, .ref b0), (2, .int p0), (3, .int p1)]) hx hb dX5_maySit_13 hl (by decide) rfl (fun ls hl => ?_)
    refine lv_iload hx hb dX5_maySit_15 (lv_at hl 0 rfl) ?_
    refine lv_if_ne (tgt := 39) hx hb dX5_maySit_17 (by decide) (fun c_7 => absurd (by decide) c_7) (fun c_7 => ?_)
    refine lv_aload_n hx hb dX5_maySit_20 rfl (lv_at hl 1 rfl) ?_
    obtain ⟨kk_8, hk_9⟩ := pl_at ha0.1 hs
    refine va_get (D := (dC, dI)) (ci := 4) (v := .ref o) (C := RX5) (T := TX5) (N := 7) hx hb hts zl_X5_maySit_X5 hown hK hP kk_8 hk_9 rfl 5 (by decide) (hts (.fieldLink RX5 9 "PageOne$Notice" "mended" "LPageOne$Item;") (zat q_wsX5_maySit k_wsX5_maySit 440 rfl (by decide +kernel))) (fun _ h9 => h9) rfl dX5_maySit_21 ?_
    obtain ⟨kk_10, hk_11⟩ := pl_at ho.1 hso
    refine w_then (F0 m 27 ls [.ref fa2]) (fun hgo => ?_) ?_
    ·
      rcases x_tag ho with ht9 | ht9 | ht9 | ht9 | ht9 | ht9
      ·
        rw [ht9.2] at hk_11
        exact va_get (D := (dC, dI)) (ci := 2) (v := .ref fa2) (C := RX2) (T := TX2) (N := 7) hx hb hts zl_X5_maySit_X2 hown hK hP kk_10 hk_11 rfl 4 (by decide) (hts (.fieldLink RX5 27 "PageOne$Item" "first" "[I") (zat q_wsX5_maySit k_wsX5_maySit 201 rfl (by decide +kernel))) (fun _ h9 => h9) rfl dX5_maySit_24 hgo
      ·
        rw [ht9.2] at hk_11
        exact va_get (D := (dC, dI)) (ci := 3) (v := .ref fa2) (C := RX3) (T := TX3) (N := 8) hx hb hts zl_X5_maySit_X3 hown hK hP kk_10 hk_11 rfl 4 (by decide) (hts (.fieldLink RX5 27 "PageOne$Item" "first" "[I") (zat q_wsX5_maySit k_wsX5_maySit 201 rfl (by decide +kernel))) (fun _ h9 => h9) rfl dX5_maySit_24 hgo
      ·
        rw [ht9.2] at hk_11
        exact va_get (D := (dC, dI)) (ci := 4) (v := .ref fa2) (C := RX5) (T := TX5) (N := 7) hx hb hts zl_X5_maySit_X5 hown hK hP kk_10 hk_11 rfl 4 (by decide) (hts (.fieldLink RX5 27 "PageOne$Item" "first" "[I") (zat q_wsX5_maySit k_wsX5_maySit 201 rfl (by decide +kernel))) (fun _ h9 => h9) rfl dX5_maySit_24 hgo
      ·
        rw [ht9.2] at hk_11
        exact va_get (D := (dC, dI)) (ci := 5) (v := .ref fa2) (C := RX6) (T := TX6) (N := 9) hx hb hts zl_X5_maySit_X6 hown hK hP kk_10 hk_11 rfl 4 (by decide) (hts (.fieldLink RX5 27 "PageOne$Item" "first" "[I") (zat q_wsX5_maySit k_wsX5_maySit 201 rfl (by decide +kernel))) (fun _ h9 => h9) rfl dX5_maySit_24 hgo
      ·
        rw [ht9.2] at hk_11
        exact va_get (D := (dC, dI)) (ci := 6) (v := .ref fa2) (C := RX7) (T := TX7) (N := 8) hx hb hts zl_X5_maySit_X7 hown hK hP kk_10 hk_11 rfl 4 (by decide) (hts (.fieldLink RX5 27 "PageOne$Item" "first" "[I") (zat q_wsX5_maySit k_wsX5_maySit 201 rfl (by decide +kernel))) (fun _ h9 => h9) rfl dX5_maySit_24 hgo
      ·
        rw [ht9.2] at hk_11
        exact va_get (D := (dC, dI)) (ci := 9) (v := .ref fa2) (C := RX10) (T := TX10) (N := 9) hx hb hts zl_X5_maySit_X10 hown hK hP kk_10 hk_11 rfl 4 (by decide) (hts (.fieldLink RX5 27 "PageOne$Item" "first" "[I") (zat q_wsX5_maySit k_wsX5_maySit 201 rfl (by decide +kernel))) (fun _ h9 => h9) rfl dX5_maySit_24 hgo
    ·
      refine lv_iconst (v := 0) hx hb dX5_maySit_27 (by decide) ?_
      obtain ⟨kk_12, hk_13⟩ := pl_at hfo.1 hfm
      refine va_iald hx hb hK hP kk_12 0 hk_13 rfl (by unfold vp_in; decide) dX5_maySit_28 ?_
      refine lv_iconst (v := 0) hx hb dX5_maySit_29 (by decide) ?_
      refine lv_iload_n hx hb dX5_maySit_30 rfl (lv_at hl 4 rfl) ?_
      refine lv_iconst (v := 1) hx hb dX5_maySit_31 (by decide) ?_
      refine lv_isub hx hb dX5_maySit_32 ?_
      refine vp_callSi (va_runSN (As := [.int (gm (0 : Int32).toNatClampNeg), .int 0, .int (p1 - 1)]) (rest := []) ⟨hx, hb, hml, hown, hts⟩ (x_isWithin l dC dI (gm (0 : Int32).toNatClampNeg) 0 (p1 - 1)) ⟨va_cnB (host := "PageOne") 3 hts gX5_maySit_X11_isWithin_n23 rfl rfl rfl hN.n_RX5_23 (hts (.initialized RX11) (zat q_wsX5_maySit k_wsX5_maySit 53 rfl (by decide +kernel))) (by decide +kernel) ⟨Nat.le_of_ble_eq_true rfl, Nat.le_of_ble_eq_true rfl⟩, hts (.static yX11_isWithin) (zat q_wsX5_maySit k_wsX5_maySit 148 rfl (by decide +kernel)), trivial⟩ ⟨pw_fb, fun U hU hW => ⟨rfl, pw_to hU hW (hP.sub (ws' := []) [] rfl) (hK.sub (tys' := []) [] rfl) hN⟩⟩ rfl rfl hl.1 rfl (lv_room (Nat.le_of_ble_eq_true rfl)) dX5_maySit_33 ⟨Nat.le_of_ble_eq_true rfl, Nat.le_of_ble_eq_true rfl⟩).run (fun r hw => ?_)
      rcases Bool.eq_false_or_eq_true (bw (gm (0 : Int32).toNatClampNeg) 0 (p1 - 1)) with b_14 | b_14
      ·
        obtain rfl : r = 1 := b_t hw b_14
        refine lv_if_ne (tgt := 41) hx hb dX5_maySit_36 (by decide) (fun c_15 => ?_) (fun c_15 => absurd c_15 (by decide))
        refine lv_aload_n hx hb dX5_maySit_41 rfl (lv_at hl 2 rfl) ?_
        obtain ⟨kk_16, hk_17⟩ := pl_at hpb.1.1 (x_pcF hI hpb)
        refine va_get (D := (dC, dI)) (ci := 7) (v := .int P2) (C := RX8) (T := TX8) (N := 6) hx hb hts zl_X5_maySit_X8 hown hK hP kk_16 hk_17 rfl 1 (by decide) (hts (.fieldLink RX5 28 "PageOne$Piece" "page" "I") (zat q_wsX5_maySit k_wsX5_maySit 318 rfl (by decide +kernel))) (fun _ h9 => h9) rfl dX5_maySit_42 ?_
        refine lv_aload_n hx hb dX5_maySit_45 rfl (lv_at hl 1 rfl) ?_
        obtain ⟨kk_18, hk_19⟩ := pl_at ha0.1 hs
        refine va_get (D := (dC, dI)) (ci := 4) (v := .ref o) (C := RX5) (T := TX5) (N := 7) hx hb hts zl_X5_maySit_X5 hown hK hP kk_18 hk_19 rfl 5 (by decide) (hts (.fieldLink RX5 9 "PageOne$Notice" "mended" "LPageOne$Item;") (zat q_wsX5_maySit k_wsX5_maySit 440 rfl (by decide +kernel))) (fun _ h9 => h9) rfl dX5_maySit_46 ?_
        obtain ⟨kk_20, hk_21⟩ := pl_at ho.1 hso
        refine w_then (F0 m 52 ls [.ref fa2, .int P2]) (fun hgo => ?_) ?_
        ·
          rcases x_tag ho with ht9 | ht9 | ht9 | ht9 | ht9 | ht9
          ·
            rw [ht9.2] at hk_21
            exact va_get (D := (dC, dI)) (ci := 2) (v := .ref fa2) (C := RX2) (T := TX2) (N := 7) hx hb hts zl_X5_maySit_X2 hown hK hP kk_20 hk_21 rfl 4 (by decide) (hts (.fieldLink RX5 27 "PageOne$Item" "first" "[I") (zat q_wsX5_maySit k_wsX5_maySit 201 rfl (by decide +kernel))) (fun _ h9 => h9) rfl dX5_maySit_49 hgo
          ·
            rw [ht9.2] at hk_21
            exact va_get (D := (dC, dI)) (ci := 3) (v := .ref fa2) (C := RX3) (T := TX3) (N := 8) hx hb hts zl_X5_maySit_X3 hown hK hP kk_20 hk_21 rfl 4 (by decide) (hts (.fieldLink RX5 27 "PageOne$Item" "first" "[I") (zat q_wsX5_maySit k_wsX5_maySit 201 rfl (by decide +kernel))) (fun _ h9 => h9) rfl dX5_maySit_49 hgo
          ·
            rw [ht9.2] at hk_21
            exact va_get (D := (dC, dI)) (ci := 4) (v := .ref fa2) (C := RX5) (T := TX5) (N := 7) hx hb hts zl_X5_maySit_X5 hown hK hP kk_20 hk_21 rfl 4 (by decide) (hts (.fieldLink RX5 27 "PageOne$Item" "first" "[I") (zat q_wsX5_maySit k_wsX5_maySit 201 rfl (by decide +kernel))) (fun _ h9 => h9) rfl dX5_maySit_49 hgo
          ·
            rw [ht9.2] at hk_21
            exact va_get (D := (dC, dI)) (ci := 5) (v := .ref fa2) (C := RX6) (T := TX6) (N := 9) hx hb hts zl_X5_maySit_X6 hown hK hP kk_20 hk_21 rfl 4 (by decide) (hts (.fieldLink RX5 27 "PageOne$Item" "first" "[I") (zat q_wsX5_maySit k_wsX5_maySit 201 rfl (by decide +kernel))) (fun _ h9 => h9) rfl dX5_maySit_49 hgo
          ·
            rw [ht9.2] at hk_21
            exact va_get (D := (dC, dI)) (ci := 6) (v := .ref fa2) (C := RX7) (T := TX7) (N := 8) hx hb hts zl_X5_maySit_X7 hown hK hP kk_20 hk_21 rfl 4 (by decide) (hts (.fieldLink RX5 27 "PageOne$Item" "first" "[I") (zat q_wsX5_maySit k_wsX5_maySit 201 rfl (by decide +kernel))) (fun _ h9 => h9) rfl dX5_maySit_49 hgo
          ·
            rw [ht9.2] at hk_21
            exact va_get (D := (dC, dI)) (ci := 9) (v := .ref fa2) (C := RX10) (T := TX10) (N := 9) hx hb hts zl_X5_maySit_X10 hown hK hP kk_20 hk_21 rfl 4 (by decide) (hts (.fieldLink RX5 27 "PageOne$Item" "first" "[I") (zat q_wsX5_maySit k_wsX5_maySit 201 rfl (by decide +kernel))) (fun _ h9 => h9) rfl dX5_maySit_49 hgo
        ·
          refine lv_iconst (v := 2) hx hb dX5_maySit_52 (by decide) ?_
          obtain ⟨kk_22, hk_23⟩ := pl_at hfo.1 hfm
          refine va_iald hx hb hK hP kk_22 0 hk_23 rfl (by unfold vp_in; decide) dX5_maySit_53 ?_
          refine lv_icmp_eq (tgt := 79) hx hb dX5_maySit_54 (by decide) (fun c_24 => ?_) (fun c_24 => ?_)
          ·
            refine lv_aload_n hx hb dX5_maySit_79 rfl (lv_at hl 2 rfl) ?_
            obtain ⟨kk_25, hk_26⟩ := pl_at hpb.1.1 (x_pcF hI hpb)
            refine va_get (D := (dC, dI)) (ci := 7) (v := .int X2) (C := RX8) (T := TX8) (N := 6) hx hb hts zl_X5_maySit_X8 hown hK hP kk_25 hk_26 rfl 2 (by decide) (hts (.fieldLink RX5 33 "PageOne$Piece" "column" "I") (zat q_wsX5_maySit k_wsX5_maySit 324 rfl (by decide +kernel))) (fun _ h9 => h9) rfl dX5_maySit_80 ?_
            refine lv_aload_n hx hb dX5_maySit_83 rfl (lv_at hl 1 rfl) ?_
            obtain ⟨kk_27, hk_28⟩ := pl_at ha0.1 hs
            refine va_get (D := (dC, dI)) (ci := 4) (v := .ref o) (C := RX5) (T := TX5) (N := 7) hx hb hts zl_X5_maySit_X5 hown hK hP kk_27 hk_28 rfl 5 (by decide) (hts (.fieldLink RX5 9 "PageOne$Notice" "mended" "LPageOne$Item;") (zat q_wsX5_maySit k_wsX5_maySit 440 rfl (by decide +kernel))) (fun _ h9 => h9) rfl dX5_maySit_84 ?_
            obtain ⟨kk_29, hk_30⟩ := pl_at ho.1 hso
            refine w_then (F0 m 90 ls [.ref fa2, .int X2]) (fun hgo => ?_) ?_
            ·
              rcases x_tag ho with ht9 | ht9 | ht9 | ht9 | ht9 | ht9
              ·
                rw [ht9.2] at hk_30
                exact va_get (D := (dC, dI)) (ci := 2) (v := .ref fa2) (C := RX2) (T := TX2) (N := 7) hx hb hts zl_X5_maySit_X2 hown hK hP kk_29 hk_30 rfl 4 (by decide) (hts (.fieldLink RX5 27 "PageOne$Item" "first" "[I") (zat q_wsX5_maySit k_wsX5_maySit 201 rfl (by decide +kernel))) (fun _ h9 => h9) rfl dX5_maySit_87 hgo
              ·
                rw [ht9.2] at hk_30
                exact va_get (D := (dC, dI)) (ci := 3) (v := .ref fa2) (C := RX3) (T := TX3) (N := 8) hx hb hts zl_X5_maySit_X3 hown hK hP kk_29 hk_30 rfl 4 (by decide) (hts (.fieldLink RX5 27 "PageOne$Item" "first" "[I") (zat q_wsX5_maySit k_wsX5_maySit 201 rfl (by decide +kernel))) (fun _ h9 => h9) rfl dX5_maySit_87 hgo
              ·
                rw [ht9.2] at hk_30
                exact va_get (D := (dC, dI)) (ci := 4) (v := .ref fa2) (C := RX5) (T := TX5) (N := 7) hx hb hts zl_X5_maySit_X5 hown hK hP kk_29 hk_30 rfl 4 (by decide) (hts (.fieldLink RX5 27 "PageOne$Item" "first" "[I") (zat q_wsX5_maySit k_wsX5_maySit 201 rfl (by decide +kernel))) (fun _ h9 => h9) rfl dX5_maySit_87 hgo
              ·
                rw [ht9.2] at hk_30
                exact va_get (D := (dC, dI)) (ci := 5) (v := .ref fa2) (C := RX6) (T := TX6) (N := 9) hx hb hts zl_X5_maySit_X6 hown hK hP kk_29 hk_30 rfl 4 (by decide) (hts (.fieldLink RX5 27 "PageOne$Item" "first" "[I") (zat q_wsX5_maySit k_wsX5_maySit 201 rfl (by decide +kernel))) (fun _ h9 => h9) rfl dX5_maySit_87 hgo
              ·
                rw [ht9.2] at hk_30
                exact va_get (D := (dC, dI)) (ci := 6) (v := .ref fa2) (C := RX7) (T := TX7) (N := 8) hx hb hts zl_X5_maySit_X7 hown hK hP kk_29 hk_30 rfl 4 (by decide) (hts (.fieldLink RX5 27 "PageOne$Item" "first" "[I") (zat q_wsX5_maySit k_wsX5_maySit 201 rfl (by decide +kernel))) (fun _ h9 => h9) rfl dX5_maySit_87 hgo
              ·
                rw [ht9.2] at hk_30
                exact va_get (D := (dC, dI)) (ci := 9) (v := .ref fa2) (C := RX10) (T := TX10) (N := 9) hx hb hts zl_X5_maySit_X10 hown hK hP kk_29 hk_30 rfl 4 (by decide) (hts (.fieldLink RX5 27 "PageOne$Item" "first" "[I") (zat q_wsX5_maySit k_wsX5_maySit 201 rfl (by decide +kernel))) (fun _ h9 => h9) rfl dX5_maySit_87 hgo
            ·
              refine lv_iconst (v := 3) hx hb dX5_maySit_90 (by decide) ?_
              obtain ⟨kk_31, hk_32⟩ := pl_at hfo.1 hfm
              refine va_iald hx hb hK hP kk_31 0 hk_32 rfl (by unfold vp_in; decide) dX5_maySit_91 ?_
              refine lv_icmp_lt (tgt := 99) hx hb dX5_maySit_92 (by decide) (fun c_33 => ?_) (fun c_33 => ?_)
              ·
                refine lv_iconst (v := 0) hx hb dX5_maySit_99 (by decide) ?_
                exact W.zret (v := 0) hx hb hr (by decide) (fun t ht hW => ⟨_, rfl, (by unfold s_sitN; rw [if_neg (bne b_5), if_pos b_14, if_pos c_24, if_pos c_33]), ht⟩) (fun q h => absurd h List.not_mem_nil) dX5_maySit_100
              ·
                refine lv_iconst (v := 1) hx hb dX5_maySit_95 (by decide) ?_
                refine lv_goto (tgt := 100) hx hb dX5_maySit_96 (by decide) ?_
                exact W.zret (v := 1) hx hb hr (by decide) (fun t ht hW => ⟨_, rfl, (by unfold s_sitN; rw [if_neg (bne b_5), if_pos b_14, if_pos c_24, if_neg c_33]), ht⟩) (fun q h => absurd h List.not_mem_nil) dX5_maySit_100
          ·
            refine lv_aload_n hx hb dX5_maySit_57 rfl (lv_at hl 2 rfl) ?_
            obtain ⟨kk_34, hk_35⟩ := pl_at hpb.1.1 (x_pcF hI hpb)
            refine va_get (D := (dC, dI)) (ci := 7) (v := .int P2) (C := RX8) (T := TX8) (N := 6) hx hb hts zl_X5_maySit_X8 hown hK hP kk_34 hk_35 rfl 1 (by decide) (hts (.fieldLink RX5 28 "PageOne$Piece" "page" "I") (zat q_wsX5_maySit k_wsX5_maySit 318 rfl (by decide +kernel))) (fun _ h9 => h9) rfl dX5_maySit_58 ?_
            refine lv_aload_n hx hb dX5_maySit_61 rfl (lv_at hl 1 rfl) ?_
            obtain ⟨kk_36, hk_37⟩ := pl_at ha0.1 hs
            refine va_get (D := (dC, dI)) (ci := 4) (v := .ref o) (C := RX5) (T := TX5) (N := 7) hx hb hts zl_X5_maySit_X5 hown hK hP kk_36 hk_37 rfl 5 (by decide) (hts (.fieldLink RX5 9 "PageOne$Notice" "mended" "LPageOne$Item;") (zat q_wsX5_maySit k_wsX5_maySit 440 rfl (by decide +kernel))) (fun _ h9 => h9) rfl dX5_maySit_62 ?_
            obtain ⟨kk_38, hk_39⟩ := pl_at ho.1 hso
            refine w_then (F0 m 68 ls [.ref fa2, .int P2]) (fun hgo => ?_) ?_
            ·
              rcases x_tag ho with ht9 | ht9 | ht9 | ht9 | ht9 | ht9
              ·
                rw [ht9.2] at hk_39
                exact va_get (D := (dC, dI)) (ci := 2) (v := .ref fa2) (C := RX2) (T := TX2) (N := 7) hx hb hts zl_X5_maySit_X2 hown hK hP kk_38 hk_39 rfl 4 (by decide) (hts (.fieldLink RX5 27 "PageOne$Item" "first" "[I") (zat q_wsX5_maySit k_wsX5_maySit 201 rfl (by decide +kernel))) (fun _ h9 => h9) rfl dX5_maySit_65 hgo
              ·
                rw [ht9.2] at hk_39
                exact va_get (D := (dC, dI)) (ci := 3) (v := .ref fa2) (C := RX3) (T := TX3) (N := 8) hx hb hts zl_X5_maySit_X3 hown hK hP kk_38 hk_39 rfl 4 (by decide) (hts (.fieldLink RX5 27 "PageOne$Item" "first" "[I") (zat q_wsX5_maySit k_wsX5_maySit 201 rfl (by decide +kernel))) (fun _ h9 => h9) rfl dX5_maySit_65 hgo
              ·
                rw [ht9.2] at hk_39
                exact va_get (D := (dC, dI)) (ci := 4) (v := .ref fa2) (C := RX5) (T := TX5) (N := 7) hx hb hts zl_X5_maySit_X5 hown hK hP kk_38 hk_39 rfl 4 (by decide) (hts (.fieldLink RX5 27 "PageOne$Item" "first" "[I") (zat q_wsX5_maySit k_wsX5_maySit 201 rfl (by decide +kernel))) (fun _ h9 => h9) rfl dX5_maySit_65 hgo
              ·
                rw [ht9.2] at hk_39
                exact va_get (D := (dC, dI)) (ci := 5) (v := .ref fa2) (C := RX6) (T := TX6) (N := 9) hx hb hts zl_X5_maySit_X6 hown hK hP kk_38 hk_39 rfl 4 (by decide) (hts (.fieldLink RX5 27 "PageOne$Item" "first" "[I") (zat q_wsX5_maySit k_wsX5_maySit 201 rfl (by decide +kernel))) (fun _ h9 => h9) rfl dX5_maySit_65 hgo
              ·
                rw [ht9.2] at hk_39
                exact va_get (D := (dC, dI)) (ci := 6) (v := .ref fa2) (C := RX7) (T := TX7) (N := 8) hx hb hts zl_X5_maySit_X7 hown hK hP kk_38 hk_39 rfl 4 (by decide) (hts (.fieldLink RX5 27 "PageOne$Item" "first" "[I") (zat q_wsX5_maySit k_wsX5_maySit 201 rfl (by decide +kernel))) (fun _ h9 => h9) rfl dX5_maySit_65 hgo
              ·
                rw [ht9.2] at hk_39
                exact va_get (D := (dC, dI)) (ci := 9) (v := .ref fa2) (C := RX10) (T := TX10) (N := 9) hx hb hts zl_X5_maySit_X10 hown hK hP kk_38 hk_39 rfl 4 (by decide) (hts (.fieldLink RX5 27 "PageOne$Item" "first" "[I") (zat q_wsX5_maySit k_wsX5_maySit 201 rfl (by decide +kernel))) (fun _ h9 => h9) rfl dX5_maySit_65 hgo
            ·
              refine lv_iconst (v := 2) hx hb dX5_maySit_68 (by decide) ?_
              obtain ⟨kk_40, hk_41⟩ := pl_at hfo.1 hfm
              refine va_iald hx hb hK hP kk_40 0 hk_41 rfl (by unfold vp_in; decide) dX5_maySit_69 ?_
              refine lv_icmp_le (tgt := 77) hx hb dX5_maySit_70 (by decide) (fun c_42 => ?_) (fun c_42 => ?_)
              ·
                refine lv_iconst (v := 0) hx hb dX5_maySit_77 (by decide) ?_
                exact W.zret (v := 0) hx hb hr (by decide) (fun t ht hW => ⟨_, rfl, (by unfold s_sitN; rw [if_neg (bne b_5), if_pos b_14, if_neg c_24, if_pos c_42]), ht⟩) (fun q h => absurd h List.not_mem_nil) dX5_maySit_78
              ·
                refine lv_iconst (v := 1) hx hb dX5_maySit_73 (by decide) ?_
                refine lv_goto (tgt := 78) hx hb dX5_maySit_74 (by decide) ?_
                exact W.zret (v := 1) hx hb hr (by decide) (fun t ht hW => ⟨_, rfl, (by unfold s_sitN; rw [if_neg (bne b_5), if_pos b_14, if_neg c_24, if_neg c_42]), ht⟩) (fun q h => absurd h List.not_mem_nil) dX5_maySit_78
      ·
        obtain rfl : r = 0 := b_f hw b_14
        refine lv_if_ne (tgt := 41) hx hb dX5_maySit_36 (by decide) (fun c_43 => absurd (by decide) c_43) (fun c_43 => ?_)
        refine lv_iconst (v := 0) hx hb dX5_maySit_39 (by decide) ?_
        exact W.zret (v := 0) hx hb hr (by decide) (fun t ht hW => ⟨_, rfl, (by unfold s_sitN; rw [if_neg (bne b_5), if_neg (bne b_14)]), ht⟩) (fun q h => absurd h List.not_mem_nil) dX5_maySit_40
/-- a row of pieces and their places: Rm j 0 page, 1 column, 2 line, 3 wide, 4 high -/
def pcL (z : gS) (g : Nat → Option Nat) (n : Nat) (Rm : Nat → Nat → Int32) : Prop := ∀ j, j < n → ∃ (b : Nat) (it : Option Nat), g j = some b ∧ pcS z b it (Rm j 0) (Rm j 1) (Rm j 2) (Rm j 3) (Rm j 4) ∧ lgP z b
def s_taken (p0 cn : Int32) (Rm : Nat → Nat → Int32) : Int32 := if bw p0 0 (cn - 1) = true then (if p0 ≤ 0 then (if cn ≤ (p0 + 1) then (Rm (p0 : Int32).toNatClampNeg 4) else (if (Rm ((p0 + 1) : Int32).toNatClampNeg 0) = (Rm (p0 : Int32).toNatClampNeg 0) then (Rm (p0 : Int32).toNatClampNeg 4) else ((Rm (p0 : Int32).toNatClampNeg 4) + (-1)))) else (if (Rm ((p0 - 1) : Int32).toNatClampNeg 0) = (Rm (p0 : Int32).toNatClampNeg 0) then (if cn ≤ (p0 + 1) then (Rm (p0 : Int32).toNatClampNeg 4) else (if (Rm ((p0 + 1) : Int32).toNatClampNeg 0) = (Rm (p0 : Int32).toNatClampNeg 0) then (Rm (p0 : Int32).toNatClampNeg 4) else ((Rm (p0 : Int32).toNatClampNeg 4) + (-1)))) else (if cn ≤ (p0 + 1) then ((Rm (p0 : Int32).toNatClampNeg 4) + (-1)) else (if (Rm ((p0 + 1) : Int32).toNatClampNeg 0) = (Rm (p0 : Int32).toNatClampNeg 0) then ((Rm (p0 : Int32).toNatClampNeg 4) + (-1)) else (((Rm (p0 : Int32).toNatClampNeg 4) + (-1)) + (-1)))))) else 0
set_option maxHeartbeats 4000000 in
set_option maxRecDepth 100000 in
theorem y_takenBy (l : Launch) (dC : Nat → ClassId) (dI : Nat → Nat → Nat) (q : Nat → ClassId) (h0 : Nat) (d : Nat → Nat) (k : Nat → Int32) (z : gS) (f : xF) (hI : xI q h0 d k z f) (a0 pa fa wd nm : Nat) (nu kd cn lz co : Int32) (ha0 : tg z a0 15) (hs : f a0 = .inr (9, [.int nu, .int kd, .ref pa, .int cn, .ref fa, .int lz, .ref wd, .int co, .ref nm])) (p0 : Int32) (n : Nat) (g : Nat → Option Nat) (Rm : Nat → Nat → Int32) (hpa : tg z pa 16) (hps : f pa = aR (q 5) n g) (h1 : 1 ≤ n) (h6 : n ≤ 6) (hcb : bw cn 0 (nI n) = true) (hpl : pcL z g cn.toNatClampNeg Rm) : Met l yX10_takenBy wsX10_takenBy ({ frames := 1, cells := 0, slots := 0, locals := 22 }) (va_Pc [.ref a0, .int p0] (PX dC dI (va_pl z.1 f) (xT q))) (vp_Si (fun r => r = s_taken p0 cn Rm)) 0 0 (fun _ => False) := by
  refine Met.ofW (cc := cX10_takenBy) (maxL := 3) (ret := (some .int)) (by decide) rfl ?_
  intro p e s m args below meth c s₁ B hml hv
  obtain ⟨rfl, ⟨hP, hK, hN⟩, hXN⟩ := hv
  have hx := B.exec
  have hb := B.bytes
  have hr := B.returns
  have hts := atoms_spec (ws := wsX10_takenBy) B.pre
  have hown : s.vm.findClass RX10 = some m.cls := findClass_of_methodNamed B.named
  have hlocks := B.notSynchronized
  have hl := lv_entry ([.ref a0, .int p0]) (n := 3) (Nat.le_of_ble_eq_true rfl)
  rw [lg_entry_eq]
  generalize (lg_sl ([.ref a0, .int p0]) ++ List.replicate (3 - (lg_sl ([.ref a0, .int p0])).length) Slot.unset).toArray = ls at hl ⊢
  have hl : lv_has ls 3 [(0, .ref a0), (1, .int p0)] := hl
  refine lv_iload_n hx hb dX10_takenBy_0 rfl (lv_at hl 1 rfl) ?_
  refine lv_iconst (v := 0) hx hb dX10_takenBy_1 (by decide) ?_
  refine lv_aload_n hx hb dX10_takenBy_2 rfl (lv_at hl 0 rfl) ?_
  obtain ⟨kk_1, hk_2⟩ := pl_at ha0.1 hs
  refine va_get (D := (dC, dI)) (ci := 9) (v := .int cn) (C := RX10) (T := TX10) (N := 9) hx hb hts zl_X10_takenBy_X10 hown hK hP kk_1 hk_2 rfl 3 (by decide) (hts (.fieldLink RX10 49 "PageOne$Story" "count" "I") (zat q_wsX10_takenBy k_wsX10_takenBy 195 rfl (by decide +kernel))) (fun x9 h9 => u_same (hts (.sameField "PageOne$Story" "PageOne$Item" "count" "I") (zat q_wsX10_takenBy k_wsX10_takenBy 196 rfl (by decide +kernel))) x9 h9) rfl dX10_takenBy_3 ?_
  refine lv_iconst (v := 1) hx hb dX10_takenBy_6 (by decide) ?_
  refine lv_isub hx hb dX10_takenBy_7 ?_
  refine vp_callSi (va_runSN (As := [.int p0, .int 0, .int (cn - 1)]) (rest := []) ⟨hx, hb, hml, hown, hts⟩ (x_isWithin l dC dI p0 0 (cn - 1)) ⟨va_cnB (host := "PageOne") 3 hts gX10_takenBy_X11_isWithin_n26 rfl rfl rfl hN.n_RX10_26 (hts (.initialized RX11) (zat q_wsX10_takenBy k_wsX10_takenBy 53 rfl (by decide +kernel))) (by decide +kernel) ⟨Nat.le_of_ble_eq_true rfl, Nat.le_of_ble_eq_true rfl⟩, hts (.static yX11_isWithin) (zat q_wsX10_takenBy k_wsX10_takenBy 148 rfl (by decide +kernel)), trivial⟩ ⟨pw_fb, fun U hU hW => ⟨rfl, pw_to hU hW (hP.sub (ws' := []) [] rfl) (hK.sub (tys' := []) [] rfl) hN⟩⟩ rfl rfl hl.1 rfl (lv_room (Nat.le_of_ble_eq_true rfl)) dX10_takenBy_8 ⟨Nat.le_of_ble_eq_true rfl, Nat.le_of_ble_eq_true rfl⟩).run (fun r hw => ?_)
  rcases Bool.eq_false_or_eq_true (bw p0 0 (cn - 1)) with b_3 | b_3
  ·
    obtain rfl : r = 1 := b_t hw b_3
    refine lv_if_ne (tgt := 16) hx hb dX10_takenBy_11 (by decide) (fun c_4 => ?_) (fun c_4 => absurd c_4 (by decide))
    refine lv_aload_n hx hb dX10_takenBy_16 rfl (lv_at hl 0 rfl) ?_
    obtain ⟨kk_5, hk_6⟩ := pl_at ha0.1 hs
    refine va_get (D := (dC, dI)) (ci := 9) (v := .ref pa) (C := RX10) (T := TX10) (N := 9) hx hb hts zl_X10_takenBy_X10 hown hK hP kk_5 hk_6 rfl 2 (by decide) (hts (.fieldLink RX10 60 "PageOne$Story" "pieces" "[LPageOne$Piece;") (zat q_wsX10_takenBy k_wsX10_takenBy 191 rfl (by decide +kernel))) (fun x9 h9 => u_same (hts (.sameField "PageOne$Story" "PageOne$Item" "pieces" "[LPageOne$Piece;") (zat q_wsX10_takenBy k_wsX10_takenBy 192 rfl (by decide +kernel))) x9 h9) rfl dX10_takenBy_17 ?_
    refine lv_iload_n hx hb dX10_takenBy_20 rfl (lv_at hl 1 rfl) ?_
    obtain ⟨kk_7, hk_8⟩ := pl_at hpa.1 hps
    refine va_aldq hx hb hK hP kk_7 5 hk_8 rfl (vkn h6 hcb b_3).1 dX10_takenBy_21 ?_
    obtain ⟨b_9, it_10, hg_11, hp_12, hlg_13⟩ := hpl (p0 : Int32).toNatClampNeg (vkn h6 hcb b_3).2
    rw [hg_11]
    refine W.eq (g2 := F0 m 22 ls [.ref b_9]) rfl ?_
    obtain ⟨kk_14, hk_15⟩ := pl_at hp_12.1.1 (x_pcF hI hp_12)
    refine va_get (D := (dC, dI)) (ci := 7) (v := .int (Rm (p0 : Int32).toNatClampNeg 4)) (C := RX8) (T := TX8) (N := 6) hx hb hts zl_X10_takenBy_X8 hown hK hP kk_14 hk_15 rfl 5 (by decide) (hts (.fieldLink RX10 34 "PageOne$Piece" "h" "I") (zat q_wsX10_takenBy k_wsX10_takenBy 336 rfl (by decide +kernel))) (fun _ h9 => h9) rfl dX10_takenBy_22 ?_
    refine lv_topi (fun x_16 ex_16 => ?_)
    refine lv_istore_n (lv' := [(2, .int x_16), (0, .ref a0), (1, .int p0)]) hx hb dX10_takenBy_25 rfl hl (by decide) rfl (fun ls hl => ?_)
    refine lv_iload_n hx hb dX10_takenBy_26 rfl (lv_at hl 2 rfl) ?_
    refine lv_if_le (tgt := 56) hx hb dX10_takenBy_27 (by decide) (fun c_17 => ?_) (fun c_17 => ?_)
    ·
      refine lv_iload_n hx hb dX10_takenBy_56 rfl (lv_at hl 2 rfl) ?_
      refine lv_iconst (v := 1) hx hb dX10_takenBy_57 (by decide) ?_
      refine lv_iadd hx hb dX10_takenBy_58 ?_
      refine lv_aload_n hx hb dX10_takenBy_59 rfl (lv_at hl 1 rfl) ?_
      obtain ⟨kk_18, hk_19⟩ := pl_at ha0.1 hs
      refine va_get (D := (dC, dI)) (ci := 9) (v := .int cn) (C := RX10) (T := TX10) (N := 9) hx hb hts zl_X10_takenBy_X10 hown hK hP kk_18 hk_19 rfl 3 (by decide) (hts (.fieldLink RX10 49 "PageOne$Story" "count" "I") (zat q_wsX10_takenBy k_wsX10_takenBy 195 rfl (by decide +kernel))) (fun x9 h9 => u_same (hts (.sameField "PageOne$Story" "PageOne$Item" "count" "I") (zat q_wsX10_takenBy k_wsX10_takenBy 196 rfl (by decide +kernel))) x9 h9) rfl dX10_takenBy_60 ?_
      refine lv_icmp_ge (tgt := 92) hx hb dX10_takenBy_63 (by decide) (fun c_20 => ?_) (fun c_20 => ?_)
      ·
        refine lv_iload_n hx hb dX10_takenBy_92 rfl (lv_at hl 0 rfl) ?_
        exact W.iret (v := x_16) hx hb hr (fun t ht hW => ⟨_, rfl, (by rw [ex_16]; unfold s_taken; rw [if_pos b_3, if_pos c_17, if_pos c_20]), ht⟩) (fun q h => absurd h List.not_mem_nil) dX10_takenBy_93
      ·
        refine lv_aload_n hx hb dX10_takenBy_66 rfl (lv_at hl 1 rfl) ?_
        obtain ⟨kk_21, hk_22⟩ := pl_at ha0.1 hs
        refine va_get (D := (dC, dI)) (ci := 9) (v := .ref pa) (C := RX10) (T := TX10) (N := 9) hx hb hts zl_X10_takenBy_X10 hown hK hP kk_21 hk_22 rfl 2 (by decide) (hts (.fieldLink RX10 60 "PageOne$Story" "pieces" "[LPageOne$Piece;") (zat q_wsX10_takenBy k_wsX10_takenBy 191 rfl (by decide +kernel))) (fun x9 h9 => u_same (hts (.sameField "PageOne$Story" "PageOne$Item" "pieces" "[LPageOne$Piece;") (zat q_wsX10_takenBy k_wsX10_takenBy 192 rfl (by decide +kernel))) x9 h9) rfl dX10_takenBy_67 ?_
        refine lv_iload_n hx hb dX10_takenBy_70 rfl (lv_at hl 2 rfl) ?_
        refine lv_iconst (v := 1) hx hb dX10_takenBy_71 (by decide) ?_
        refine lv_iadd hx hb dX10_takenBy_72 ?_
        obtain ⟨kk_23, hk_24⟩ := pl_at hpa.1 hps
        refine va_aldq hx hb hK hP kk_23 5 hk_24 rfl (vknp h6 hcb b_3 c_20).1 dX10_takenBy_73 ?_
        obtain ⟨b_25, it_26, hg_27, hp_28, hlg_29⟩ := hpl ((p0 + 1) : Int32).toNatClampNeg (vknp h6 hcb b_3 c_20).2
        rw [hg_27]
        refine W.eq (g2 := F0 m 74 ls [.ref b_25]) rfl ?_
        obtain ⟨kk_30, hk_31⟩ := pl_at hp_28.1.1 (x_pcF hI hp_28)
        refine va_get (D := (dC, dI)) (ci := 7) (v := .int (Rm ((p0 + 1) : Int32).toNatClampNeg 0)) (C := RX8) (T := TX8) (N := 6) hx hb hts zl_X10_takenBy_X8 hown hK hP kk_30 hk_31 rfl 1 (by decide) (hts (.fieldLink RX10 42 "PageOne$Piece" "page" "I") (zat q_wsX10_takenBy k_wsX10_takenBy 319 rfl (by decide +kernel))) (fun _ h9 => h9) rfl dX10_takenBy_74 ?_
        refine lv_aload_n hx hb dX10_takenBy_77 rfl (lv_at hl 1 rfl) ?_
        obtain ⟨kk_32, hk_33⟩ := pl_at ha0.1 hs
        refine va_get (D := (dC, dI)) (ci := 9) (v := .ref pa) (C := RX10) (T := TX10) (N := 9) hx hb hts zl_X10_takenBy_X10 hown hK hP kk_32 hk_33 rfl 2 (by decide) (hts (.fieldLink RX10 60 "PageOne$Story" "pieces" "[LPageOne$Piece;") (zat q_wsX10_takenBy k_wsX10_takenBy 191 rfl (by decide +kernel))) (fun x9 h9 => u_same (hts (.sameField "PageOne$Story" "PageOne$Item" "pieces" "[LPageOne$Piece;") (zat q_wsX10_takenBy k_wsX10_takenBy 192 rfl (by decide +kernel))) x9 h9) rfl dX10_takenBy_78 ?_
        refine lv_iload_n hx hb dX10_takenBy_81 rfl (lv_at hl 2 rfl) ?_
        obtain ⟨kk_34, hk_35⟩ := pl_at hpa.1 hps
        refine va_aldq hx hb hK hP kk_34 5 hk_35 rfl (vkn h6 hcb b_3).1 dX10_takenBy_82 ?_
        obtain ⟨b_36, it_37, hg_38, hp_39, hlg_40⟩ := hpl (p0 : Int32).toNatClampNeg (vkn h6 hcb b_3).2
        rw [hg_38]
        refine W.eq (g2 := F0 m 83 ls [.ref b_36, .int (Rm ((p0 + 1) : Int32).toNatClampNeg 0)]) rfl ?_
        obtain ⟨kk_41, hk_42⟩ := pl_at hp_39.1.1 (x_pcF hI hp_39)
        refine va_get (D := (dC, dI)) (ci := 7) (v := .int (Rm (p0 : Int32).toNatClampNeg 0)) (C := RX8) (T := TX8) (N := 6) hx hb hts zl_X10_takenBy_X8 hown hK hP kk_41 hk_42 rfl 1 (by decide) (hts (.fieldLink RX10 42 "PageOne$Piece" "page" "I") (zat q_wsX10_takenBy k_wsX10_takenBy 319 rfl (by decide +kernel))) (fun _ h9 => h9) rfl dX10_takenBy_83 ?_
        refine lv_icmp_eq (tgt := 92) hx hb dX10_takenBy_86 (by decide) (fun c_43 => ?_) (fun c_43 => ?_)
        ·
          refine lv_iload_n hx hb dX10_takenBy_92 rfl (lv_at hl 0 rfl) ?_
          exact W.iret (v := x_16) hx hb hr (fun t ht hW => ⟨_, rfl, (by rw [ex_16]; unfold s_taken; rw [if_pos b_3, if_pos c_17, if_neg c_20, if_pos c_43]), ht⟩) (fun q h => absurd h List.not_mem_nil) dX10_takenBy_93
        ·
          obtain ⟨x_44, ex_44⟩ : ∃ y : Int32, y = x_16 + (-1) := ⟨_, rfl⟩
          refine lv_iinc (v := x_44) (lv' := [(2, .int x_44), (0, .ref a0), (1, .int p0)]) hx hb dX10_takenBy_89 hl (k := 0) rfl (by rw [ex_44]; rfl) (by decide) rfl (fun ls hl => ?_)
          refine lv_iload_n hx hb dX10_takenBy_92 rfl (lv_at hl 0 rfl) ?_
          exact W.iret (v := x_44) hx hb hr (fun t ht hW => ⟨_, rfl, (by rw [ex_44, ex_16]; unfold s_taken; rw [if_pos b_3, if_pos c_17, if_neg c_20, if_neg c_43]), ht⟩) (fun q h => absurd h List.not_mem_nil) dX10_takenBy_93
    ·
      refine lv_aload_n hx hb dX10_takenBy_30 rfl (lv_at hl 1 rfl) ?_
      obtain ⟨kk_45, hk_46⟩ := pl_at ha0.1 hs
      refine va_get (D := (dC, dI)) (ci := 9) (v := .ref pa) (C := RX10) (T := TX10) (N := 9) hx hb hts zl_X10_takenBy_X10 hown hK hP kk_45 hk_46 rfl 2 (by decide) (hts (.fieldLink RX10 60 "PageOne$Story" "pieces" "[LPageOne$Piece;") (zat q_wsX10_takenBy k_wsX10_takenBy 191 rfl (by decide +kernel))) (fun x9 h9 => u_same (hts (.sameField "PageOne$Story" "PageOne$Item" "pieces" "[LPageOne$Piece;") (zat q_wsX10_takenBy k_wsX10_takenBy 192 rfl (by decide +kernel))) x9 h9) rfl dX10_takenBy_31 ?_
      refine lv_iload_n hx hb dX10_takenBy_34 rfl (lv_at hl 2 rfl) ?_
      refine lv_iconst (v := 1) hx hb dX10_takenBy_35 (by decide) ?_
      refine lv_isub hx hb dX10_takenBy_36 ?_
      obtain ⟨kk_47, hk_48⟩ := pl_at hpa.1 hps
      refine va_aldq hx hb hK hP kk_47 5 hk_48 rfl (vknm h6 hcb b_3 c_17).1 dX10_takenBy_37 ?_
      obtain ⟨b_49, it_50, hg_51, hp_52, hlg_53⟩ := hpl ((p0 - 1) : Int32).toNatClampNeg (vknm h6 hcb b_3 c_17).2
      rw [hg_51]
      refine W.eq (g2 := F0 m 38 ls [.ref b_49]) rfl ?_
      obtain ⟨kk_54, hk_55⟩ := pl_at hp_52.1.1 (x_pcF hI hp_52)
      refine va_get (D := (dC, dI)) (ci := 7) (v := .int (Rm ((p0 - 1) : Int32).toNatClampNeg 0)) (C := RX8) (T := TX8) (N := 6) hx hb hts zl_X10_takenBy_X8 hown hK hP kk_54 hk_55 rfl 1 (by decide) (hts (.fieldLink RX10 42 "PageOne$Piece" "page" "I") (zat q_wsX10_takenBy k_wsX10_takenBy 319 rfl (by decide +kernel))) (fun _ h9 => h9) rfl dX10_takenBy_38 ?_
      refine lv_aload_n hx hb dX10_takenBy_41 rfl (lv_at hl 1 rfl) ?_
      obtain ⟨kk_56, hk_57⟩ := pl_at ha0.1 hs
      refine va_get (D := (dC, dI)) (ci := 9) (v := .ref pa) (C := RX10) (T := TX10) (N := 9) hx hb hts zl_X10_takenBy_X10 hown hK hP kk_56 hk_57 rfl 2 (by decide) (hts (.fieldLink RX10 60 "PageOne$Story" "pieces" "[LPageOne$Piece;") (zat q_wsX10_takenBy k_wsX10_takenBy 191 rfl (by decide +kernel))) (fun x9 h9 => u_same (hts (.sameField "PageOne$Story" "PageOne$Item" "pieces" "[LPageOne$Piece;") (zat q_wsX10_takenBy k_wsX10_takenBy 192 rfl (by decide +kernel))) x9 h9) rfl dX10_takenBy_42 ?_
      refine lv_iload_n hx hb dX10_takenBy_45 rfl (lv_at hl 2 rfl) ?_
      obtain ⟨kk_58, hk_59⟩ := pl_at hpa.1 hps
      refine va_aldq hx hb hK hP kk_58 5 hk_59 rfl (vkn h6 hcb b_3).1 dX10_takenBy_46 ?_
      obtain ⟨b_60, it_61, hg_62, hp_63, hlg_64⟩ := hpl (p0 : Int32).toNatClampNeg (vkn h6 hcb b_3).2
      rw [hg_62]
      refine W.eq (g2 := F0 m 47 ls [.ref b_60, .int (Rm ((p0 - 1) : Int32).toNatClampNeg 0)]) rfl ?_
      obtain ⟨kk_65, hk_66⟩ := pl_at hp_63.1.1 (x_pcF hI hp_63)
      refine va_get (D := (dC, dI)) (ci := 7) (v := .int (Rm (p0 : Int32).toNatClampNeg 0)) (C := RX8) (T := TX8) (N := 6) hx hb hts zl_X10_takenBy_X8 hown hK hP kk_65 hk_66 rfl 1 (by decide) (hts (.fieldLink RX10 42 "PageOne$Piece" "page" "I") (zat q_wsX10_takenBy k_wsX10_takenBy 319 rfl (by decide +kernel))) (fun _ h9 => h9) rfl dX10_takenBy_47 ?_
      refine lv_icmp_eq (tgt := 56) hx hb dX10_takenBy_50 (by decide) (fun c_67 => ?_) (fun c_67 => ?_)
      ·
        refine lv_iload_n hx hb dX10_takenBy_56 rfl (lv_at hl 2 rfl) ?_
        refine lv_iconst (v := 1) hx hb dX10_takenBy_57 (by decide) ?_
        refine lv_iadd hx hb dX10_takenBy_58 ?_
        refine lv_aload_n hx hb dX10_takenBy_59 rfl (lv_at hl 1 rfl) ?_
        obtain ⟨kk_68, hk_69⟩ := pl_at ha0.1 hs
        refine va_get (D := (dC, dI)) (ci := 9) (v := .int cn) (C := RX10) (T := TX10) (N := 9) hx hb hts zl_X10_takenBy_X10 hown hK hP kk_68 hk_69 rfl 3 (by decide) (hts (.fieldLink RX10 49 "PageOne$Story" "count" "I") (zat q_wsX10_takenBy k_wsX10_takenBy 195 rfl (by decide +kernel))) (fun x9 h9 => u_same (hts (.sameField "PageOne$Story" "PageOne$Item" "count" "I") (zat q_wsX10_takenBy k_wsX10_takenBy 196 rfl (by decide +kernel))) x9 h9) rfl dX10_takenBy_60 ?_
        refine lv_icmp_ge (tgt := 92) hx hb dX10_takenBy_63 (by decide) (fun c_70 => ?_) (fun c_70 => ?_)
        ·
          refine lv_iload_n hx hb dX10_takenBy_92 rfl (lv_at hl 0 rfl) ?_
          exact W.iret (v := x_16) hx hb hr (fun t ht hW => ⟨_, rfl, (by rw [ex_16]; unfold s_taken; rw [if_pos b_3, if_neg c_17, if_pos c_67, if_pos c_70]), ht⟩) (fun q h => absurd h List.not_mem_nil) dX10_takenBy_93
        ·
          refine lv_aload_n hx hb dX10_takenBy_66 rfl (lv_at hl 1 rfl) ?_
          obtain ⟨kk_71, hk_72⟩ := pl_at ha0.1 hs
          refine va_get (D := (dC, dI)) (ci := 9) (v := .ref pa) (C := RX10) (T := TX10) (N := 9) hx hb hts zl_X10_takenBy_X10 hown hK hP kk_71 hk_72 rfl 2 (by decide) (hts (.fieldLink RX10 60 "PageOne$Story" "pieces" "[LPageOne$Piece;") (zat q_wsX10_takenBy k_wsX10_takenBy 191 rfl (by decide +kernel))) (fun x9 h9 => u_same (hts (.sameField "PageOne$Story" "PageOne$Item" "pieces" "[LPageOne$Piece;") (zat q_wsX10_takenBy k_wsX10_takenBy 192 rfl (by decide +kernel))) x9 h9) rfl dX10_takenBy_67 ?_
          refine lv_iload_n hx hb dX10_takenBy_70 rfl (lv_at hl 2 rfl) ?_
          refine lv_iconst (v := 1) hx hb dX10_takenBy_71 (by decide) ?_
          refine lv_iadd hx hb dX10_takenBy_72 ?_
          obtain ⟨kk_73, hk_74⟩ := pl_at hpa.1 hps
          refine va_aldq hx hb hK hP kk_73 5 hk_74 rfl (vknp h6 hcb b_3 c_70).1 dX10_takenBy_73 ?_
          obtain ⟨b_75, it_76, hg_77, hp_78, hlg_79⟩ := hpl ((p0 + 1) : Int32).toNatClampNeg (vknp h6 hcb b_3 c_70).2
          rw [hg_77]
          refine W.eq (g2 := F0 m 74 ls [.ref b_75]) rfl ?_
          obtain ⟨kk_80, hk_81⟩ := pl_at hp_78.1.1 (x_pcF hI hp_78)
          refine va_get (D := (dC, dI)) (ci := 7) (v := .int (Rm ((p0 + 1) : Int32).toNatClampNeg 0)) (C := RX8) (T := TX8) (N := 6) hx hb hts zl_X10_takenBy_X8 hown hK hP kk_80 hk_81 rfl 1 (by decide) (hts (.fieldLink RX10 42 "PageOne$Piece" "page" "I") (zat q_wsX10_takenBy k_wsX10_takenBy 319 rfl (by decide +kernel))) (fun _ h9 => h9) rfl dX10_takenBy_74 ?_
          refine lv_aload_n hx hb dX10_takenBy_77 rfl (lv_at hl 1 rfl) ?_
          obtain ⟨kk_82, hk_83⟩ := pl_at ha0.1 hs
          refine va_get (D := (dC, dI)) (ci := 9) (v := .ref pa) (C := RX10) (T := TX10) (N := 9) hx hb hts zl_X10_takenBy_X10 hown hK hP kk_82 hk_83 rfl 2 (by decide) (hts (.fieldLink RX10 60 "PageOne$Story" "pieces" "[LPageOne$Piece;") (zat q_wsX10_takenBy k_wsX10_takenBy 191 rfl (by decide +kernel))) (fun x9 h9 => u_same (hts (.sameField "PageOne$Story" "PageOne$Item" "pieces" "[LPageOne$Piece;") (zat q_wsX10_takenBy k_wsX10_takenBy 192 rfl (by decide +kernel))) x9 h9) rfl dX10_takenBy_78 ?_
          refine lv_iload_n hx hb dX10_takenBy_81 rfl (lv_at hl 2 rfl) ?_
          obtain ⟨kk_84, hk_85⟩ := pl_at hpa.1 hps
          refine va_aldq hx hb hK hP kk_84 5 hk_85 rfl (vkn h6 hcb b_3).1 dX10_takenBy_82 ?_
          obtain ⟨b_86, it_87, hg_88, hp_89, hlg_90⟩ := hpl (p0 : Int32).toNatClampNeg (vkn h6 hcb b_3).2
          rw [hg_88]
          refine W.eq (g2 := F0 m 83 ls [.ref b_86, .int (Rm ((p0 + 1) : Int32).toNatClampNeg 0)]) rfl ?_
          obtain ⟨kk_91, hk_92⟩ := pl_at hp_89.1.1 (x_pcF hI hp_89)
          refine va_get (D := (dC, dI)) (ci := 7) (v := .int (Rm (p0 : Int32).toNatClampNeg 0)) (C := RX8) (T := TX8) (N := 6) hx hb hts zl_X10_takenBy_X8 hown hK hP kk_91 hk_92 rfl 1 (by decide) (hts (.fieldLink RX10 42 "PageOne$Piece" "page" "I") (zat q_wsX10_takenBy k_wsX10_takenBy 319 rfl (by decide +kernel))) (fun _ h9 => h9) rfl dX10_takenBy_83 ?_
          refine lv_icmp_eq (tgt := 92) hx hb dX10_takenBy_86 (by decide) (fun c_93 => ?_) (fun c_93 => ?_)
          ·
            refine lv_iload_n hx hb dX10_takenBy_92 rfl (lv_at hl 0 rfl) ?_
            exact W.iret (v := x_16) hx hb hr (fun t ht hW => ⟨_, rfl, (by rw [ex_16]; unfold s_taken; rw [if_pos b_3, if_neg c_17, if_pos c_67, if_neg c_70, if_pos c_93]), ht⟩) (fun q h => absurd h List.not_mem_nil) dX10_takenBy_93
          ·
            obtain ⟨x_94, ex_94⟩ : ∃ y : Int32, y = x_16 + (-1) := ⟨_, rfl⟩
            refine lv_iinc (v := x_94) (lv' := [(2, .int x_94), (0, .ref a0), (1, .int p0)]) hx hb dX10_takenBy_89 hl (k := 0) rfl (by rw [ex_94]; rfl) (by decide) rfl (fun ls hl => ?_)
            refine lv_iload_n hx hb dX10_takenBy_92 rfl (lv_at hl 0 rfl) ?_
            exact W.iret (v := x_94) hx hb hr (fun t ht hW => ⟨_, rfl, (by rw [ex_94, ex_16]; unfold s_taken; rw [if_pos b_3, if_neg c_17, if_pos c_67, if_neg c_70, if_neg c_93]), ht⟩) (fun q h => absurd h List.not_mem_nil) dX10_takenBy_93
      ·
        obtain ⟨x_95, ex_95⟩ : ∃ y : Int32, y = x_16 + (-1) := ⟨_, rfl⟩
        refine lv_iinc (v := x_95) (lv' := [(2, .int x_95), (0, .ref a0), (1, .int p0)]) hx hb dX10_takenBy_53 hl (k := 0) rfl (by rw [ex_95]; rfl) (by decide) rfl (fun ls hl => ?_)
        refine lv_iload_n hx hb dX10_takenBy_56 rfl (lv_at hl 2 rfl) ?_
        refine lv_iconst (v := 1) hx hb dX10_takenBy_57 (by decide) ?_
        refine lv_iadd hx hb dX10_takenBy_58 ?_
        refine lv_aload_n hx hb dX10_takenBy_59 rfl (lv_at hl 1 rfl) ?_
        obtain ⟨kk_96, hk_97⟩ := pl_at ha0.1 hs
        refine va_get (D := (dC, dI)) (ci := 9) (v := .int cn) (C := RX10) (T := TX10) (N := 9) hx hb hts zl_X10_takenBy_X10 hown hK hP kk_96 hk_97 rfl 3 (by decide) (hts (.fieldLink RX10 49 "PageOne$Story" "count" "I") (zat q_wsX10_takenBy k_wsX10_takenBy 195 rfl (by decide +kernel))) (fun x9 h9 => u_same (hts (.sameField "PageOne$Story" "PageOne$Item" "count" "I") (zat q_wsX10_takenBy k_wsX10_takenBy 196 rfl (by decide +kernel))) x9 h9) rfl dX10_takenBy_60 ?_
        refine lv_icmp_ge (tgt := 92) hx hb dX10_takenBy_63 (by decide) (fun c_98 => ?_) (fun c_98 => ?_)
        ·
          refine lv_iload_n hx hb dX10_takenBy_92 rfl (lv_at hl 0 rfl) ?_
          exact W.iret (v := x_95) hx hb hr (fun t ht hW => ⟨_, rfl, (by rw [ex_95, ex_16]; unfold s_taken; rw [if_pos b_3, if_neg c_17, if_neg c_67, if_pos c_98]), ht⟩) (fun q h => absurd h List.not_mem_nil) dX10_takenBy_93
        ·
          refine lv_aload_n hx hb dX10_takenBy_66 rfl (lv_at hl 1 rfl) ?_
          obtain ⟨kk_99, hk_100⟩ := pl_at ha0.1 hs
          refine va_get (D := (dC, dI)) (ci := 9) (v := .ref pa) (C := RX10) (T := TX10) (N := 9) hx hb hts zl_X10_takenBy_X10 hown hK hP kk_99 hk_100 rfl 2 (by decide) (hts (.fieldLink RX10 60 "PageOne$Story" "pieces" "[LPageOne$Piece;") (zat q_wsX10_takenBy k_wsX10_takenBy 191 rfl (by decide +kernel))) (fun x9 h9 => u_same (hts (.sameField "PageOne$Story" "PageOne$Item" "pieces" "[LPageOne$Piece;") (zat q_wsX10_takenBy k_wsX10_takenBy 192 rfl (by decide +kernel))) x9 h9) rfl dX10_takenBy_67 ?_
          refine lv_iload_n hx hb dX10_takenBy_70 rfl (lv_at hl 2 rfl) ?_
          refine lv_iconst (v := 1) hx hb dX10_takenBy_71 (by decide) ?_
          refine lv_iadd hx hb dX10_takenBy_72 ?_
          obtain ⟨kk_101, hk_102⟩ := pl_at hpa.1 hps
          refine va_aldq hx hb hK hP kk_101 5 hk_102 rfl (vknp h6 hcb b_3 c_98).1 dX10_takenBy_73 ?_
          obtain ⟨b_103, it_104, hg_105, hp_106, hlg_107⟩ := hpl ((p0 + 1) : Int32).toNatClampNeg (vknp h6 hcb b_3 c_98).2
          rw [hg_105]
          refine W.eq (g2 := F0 m 74 ls [.ref b_103]) rfl ?_
          obtain ⟨kk_108, hk_109⟩ := pl_at hp_106.1.1 (x_pcF hI hp_106)
          refine va_get (D := (dC, dI)) (ci := 7) (v := .int (Rm ((p0 + 1) : Int32).toNatClampNeg 0)) (C := RX8) (T := TX8) (N := 6) hx hb hts zl_X10_takenBy_X8 hown hK hP kk_108 hk_109 rfl 1 (by decide) (hts (.fieldLink RX10 42 "PageOne$Piece" "page" "I") (zat q_wsX10_takenBy k_wsX10_takenBy 319 rfl (by decide +kernel))) (fun _ h9 => h9) rfl dX10_takenBy_74 ?_
          refine lv_aload_n hx hb dX10_takenBy_77 rfl (lv_at hl 1 rfl) ?_
          obtain ⟨kk_110, hk_111⟩ := pl_at ha0.1 hs
          refine va_get (D := (dC, dI)) (ci := 9) (v := .ref pa) (C := RX10) (T := TX10) (N := 9) hx hb hts zl_X10_takenBy_X10 hown hK hP kk_110 hk_111 rfl 2 (by decide) (hts (.fieldLink RX10 60 "PageOne$Story" "pieces" "[LPageOne$Piece;") (zat q_wsX10_takenBy k_wsX10_takenBy 191 rfl (by decide +kernel))) (fun x9 h9 => u_same (hts (.sameField "PageOne$Story" "PageOne$Item" "pieces" "[LPageOne$Piece;") (zat q_wsX10_takenBy k_wsX10_takenBy 192 rfl (by decide +kernel))) x9 h9) rfl dX10_takenBy_78 ?_
          refine lv_iload_n hx hb dX10_takenBy_81 rfl (lv_at hl 2 rfl) ?_
          obtain ⟨kk_112, hk_113⟩ := pl_at hpa.1 hps
          refine va_aldq hx hb hK hP kk_112 5 hk_113 rfl (vkn h6 hcb b_3).1 dX10_takenBy_82 ?_
          obtain ⟨b_114, it_115, hg_116, hp_117, hlg_118⟩ := hpl (p0 : Int32).toNatClampNeg (vkn h6 hcb b_3).2
          rw [hg_116]
          refine W.eq (g2 := F0 m 83 ls [.ref b_114, .int (Rm ((p0 + 1) : Int32).toNatClampNeg 0)]) rfl ?_
          obtain ⟨kk_119, hk_120⟩ := pl_at hp_117.1.1 (x_pcF hI hp_117)
          refine va_get (D := (dC, dI)) (ci := 7) (v := .int (Rm (p0 : Int32).toNatClampNeg 0)) (C := RX8) (T := TX8) (N := 6) hx hb hts zl_X10_takenBy_X8 hown hK hP kk_119 hk_120 rfl 1 (by decide) (hts (.fieldLink RX10 42 "PageOne$Piece" "page" "I") (zat q_wsX10_takenBy k_wsX10_takenBy 319 rfl (by decide +kernel))) (fun _ h9 => h9) rfl dX10_takenBy_83 ?_
          refine lv_icmp_eq (tgt := 92) hx hb dX10_takenBy_86 (by decide) (fun c_121 => ?_) (fun c_121 => ?_)
          ·
            refine lv_iload_n hx hb dX10_takenBy_92 rfl (lv_at hl 0 rfl) ?_
            exact W.iret (v := x_95) hx hb hr (fun t ht hW => ⟨_, rfl, (by rw [ex_95, ex_16]; unfold s_taken; rw [if_pos b_3, if_neg c_17, if_neg c_67, if_neg c_98, if_pos c_121]), ht⟩) (fun q h => absurd h List.not_mem_nil) dX10_takenBy_93
          ·
            obtain ⟨x_122, ex_122⟩ : ∃ y : Int32, y = x_95 + (-1) := ⟨_, rfl⟩
            refine lv_iinc (v := x_122) (lv' := [(2, .int x_122), (0, .ref a0), (1, .int p0)]) hx hb dX10_takenBy_89 hl (k := 0) rfl (by rw [ex_122]; rfl) (by decide) rfl (fun ls hl => ?_)
            refine lv_iload_n hx hb dX10_takenBy_92 rfl (lv_at hl 0 rfl) ?_
            exact W.iret (v := x_122) hx hb hr (fun t ht hW => ⟨_, rfl, (by rw [ex_122, ex_95, ex_16]; unfold s_taken; rw [if_pos b_3, if_neg c_17, if_neg c_67, if_neg c_98, if_neg c_121]), ht⟩) (fun q h => absurd h List.not_mem_nil) dX10_takenBy_93
  ·
    obtain rfl : r = 0 := b_f hw b_3
    refine lv_if_ne (tgt := 16) hx hb dX10_takenBy_11 (by decide) (fun c_123 => absurd (by decide) c_123) (fun c_123 => ?_)
    refine lv_iconst (v := 0) hx hb dX10_takenBy_14 (by decide) ?_
    exact W.iret (v := 0) hx hb hr (fun t ht hW => ⟨_, rfl, (by unfold s_taken; rw [if_neg (bne b_3)]), ht⟩) (fun q h => absurd h List.not_mem_nil) dX10_takenBy_15
def s_from (cn : Int32) (Rm : Nat → Nat → Int32) : Nat → Int32
  | 0 => 0
  | n + 1 => s_from cn Rm n + s_taken (nI n) cn Rm
set_option maxHeartbeats 4000000 in
set_option maxRecDepth 100000 in
theorem y_takenBefore_l {p : Program} {l : Launch} {e : Env} {R : Room} {s : State} {m : MethodId} {args : Array Value} {below : List Frame} {meth : Method} {c : Code} {Q : State → Prop} {cells slots : Nat} {dC : Nat → ClassId} {dI : Nat → Nat → Nat} {q : Nat → ClassId} {h0 : Nat} {d : Nat → Nat} {k : Nat → Int32} {z : gS} {f : xF} {H : Heap} {locs : List Loc} (hI : xI q h0 d k z f) (hx : p.tables.exec = Jvm.exec) (hb : c.code = cX10_takenBefore) (hml : c.maxLocals = 4) (hts : ∀ w ∈ wsX10_takenBefore, w.before args s = true) (hown : s.vm.findClass RX10 = some m.cls) (hN : NN s) (hXN : XN s) (hK : va_K (dC, dI) vwCl (xT q) s) (hRf : 2 ≤ R.frames) (hRl : 44 ≤ R.locals) (hRc : cells ≤ R.cells) (hRs : slots ≤ R.slots) (hP : va_P (dC, dI) vwCl (va_pl z.1 f) H) {K N : Nat} {a0 pa fa wd nm : Nat} {nu kd lz co : Int32} (ha0 : tg z a0 15) (hs : f a0 = .inr (9, [.int nu, .int kd, .ref pa, .int (nI K), .ref fa, .int lz, .ref wd, .int co, .ref nm])) {n : Nat} {g : Nat → Option Nat} {Rm : Nat → Nat → Int32} (hpa : tg z pa 16) (hps : f pa = aR (q 5) n g) (h1 : 1 ≤ n) (h6 : n ≤ 6) (hcb : bw (nI K) 0 (nI n) = true) (hpl : pcL z g (nI K).toNatClampNeg Rm) (hNK : N ≤ K) (hK6 : K ≤ 6) (kx31 : ∀ (a9 : Int32) (ls : Array Slot), a9 = s_from (nI K) Rm N → lv_has ls 4 [(2, .int a9), (0, .ref a0), (1, .int (nI N))] → W p l e R s m args below meth c H locs cells slots Q (F0 m 31 ls [])) : ∀ (kk i : Nat) (a : Int32) (ls : Array Slot), i ≤ N → N - i < kk → a = s_from (nI K) Rm i → lv_has ls 4 [(3, .int (nI i)), (2, .int a), (0, .ref a0), (1, .int (nI N))] → W p l e R s m args below meth c H locs cells slots Q (F0 m 4 ls []) := by
  intro kk
  induction kk with
  | zero => intro i a ls h1 h2; exact absurd h2 (Nat.not_lt_zero _)
  | succ kk ih =>
    intro i a ls hi hkk hg hl
    refine lv_iload_n hx hb dX10_takenBefore_4 rfl (lv_at hl 0 rfl) ?_
    refine lv_iload_n hx hb dX10_takenBefore_5 rfl (lv_at hl 3 rfl) ?_
    refine lv_icmp_ge (tgt := 31) hx hb dX10_takenBefore_6 (by decide) (fun c_1 => ?_) (fun c_1 => ?_)
    ·
      have hie : i = N := lp_eq rfl (by omega) hi c_1
      exact kx31 _ ls (by rw [← hie]; exact hg) (lv_sub hl [1, 2, 3] rfl)
    ·
      have hlt : i < N := lp_lt rfl (by omega) hi c_1
      refine lv_iload_n hx hb dX10_takenBefore_9 rfl (lv_at hl 0 rfl) ?_
      refine lv_aload_n hx hb dX10_takenBefore_10 rfl (lv_at hl 2 rfl) ?_
      obtain ⟨kk_2, hk_3⟩ := pl_at ha0.1 hs
      refine va_get (D := (dC, dI)) (ci := 9) (v := .int (nI K)) (C := RX10) (T := TX10) (N := 9) hx hb hts zl_X10_takenBefore_X10 hown hK hP kk_2 hk_3 rfl 3 (by decide) (hts (.fieldLink RX10 49 "PageOne$Story" "count" "I") (zat q_wsX10_takenBefore k_wsX10_takenBefore 195 rfl (by decide +kernel))) (fun x9 h9 => u_same (hts (.sameField "PageOne$Story" "PageOne$Item" "count" "I") (zat q_wsX10_takenBefore k_wsX10_takenBefore 196 rfl (by decide +kernel))) x9 h9) rfl dX10_takenBefore_11 ?_
      refine lv_icmp_ge (tgt := 31) hx hb dX10_takenBefore_14 (by decide) (fun c_4 => absurd c_4 (nI_ge (by omega) (by omega))) (fun c_4 => ?_)
      refine lv_iload_n hx hb dX10_takenBefore_17 rfl (lv_at hl 1 rfl) ?_
      refine lv_aload_n hx hb dX10_takenBefore_18 rfl (lv_at hl 2 rfl) ?_
      refine lv_iload_n hx hb dX10_takenBefore_19 rfl (lv_at hl 0 rfl) ?_
      obtain ⟨kk_5, hk_6⟩ := pl_at ha0.1 hs
      refine vp_callSi (va_runV (As := [.int (nI i)]) (rest := [.int a]) ⟨hx, hb, hml, hown, hts⟩ (y_takenBy l dC dI q h0 d k z f hI a0 pa fa wd nm nu kd (nI K) lz co ha0 hs (nI i) n g Rm hpa hps h1 h6 hcb hpl) (cwV 1 hts gX10_takenBefore_X10_takenBy rfl rfl rfl zh_X10_takenBy_38 ⟨Nat.le_trans (Nat.le_of_ble_eq_true rfl) hRf, Nat.le_trans (Nat.le_of_ble_eq_true rfl) hRl⟩) ⟨px_fb, va_recv hK hP (ci := 9) (q0 := kk_5) rfl hk_6, fun U hU hW => ⟨rfl, px_to hU hW hP hK hN hXN⟩⟩ rfl rfl hl.1 rfl (lv_room (Nat.le_of_ble_eq_true rfl)) dX10_takenBefore_20 ⟨hRc, hRs⟩).run (fun r hw => ?_)
      obtain rfl : r = (s_taken (nI i) (nI K) Rm) := hw
      refine lv_iadd hx hb dX10_takenBefore_23 ?_
      refine lv_topi (fun x_7 ex_7 => ?_)
      refine lv_istore_n (lv' := [(2, .int x_7), (3, .int (nI i)), (0, .ref a0), (1, .int (nI N))]) hx hb dX10_takenBefore_24 rfl hl (by decide) rfl (fun ls hl => ?_)
      refine lv_iinc (v := (nI (i + 1))) (lv' := [(3, .int (nI (i + 1))), (2, .int x_7), (0, .ref a0), (1, .int (nI N))]) hx hb dX10_takenBefore_25 hl (k := 1) rfl (nI_1 i) (by decide) rfl (fun ls hl => ?_)
      refine lv_goto (tgt := 4) hx hb dX10_takenBefore_28 (by decide) ?_
      exact ih (i + 1) _ ls (by omega) (by omega) (by rw [ex_7, hg]; rfl) (lv_sub hl [0, 1, 2, 3] rfl)
set_option maxHeartbeats 4000000 in
set_option maxRecDepth 100000 in
theorem y_takenBefore (l : Launch) (dC : Nat → ClassId) (dI : Nat → Nat → Nat) (q : Nat → ClassId) (h0 : Nat) (d : Nat → Nat) (k : Nat → Int32) (z : gS) (f : xF) (hI : xI q h0 d k z f) (a0 pa fa wd nm : Nat) (nu kd cn lz co : Int32) (ha0 : tg z a0 15) (hs : f a0 = .inr (9, [.int nu, .int kd, .ref pa, .int cn, .ref fa, .int lz, .ref wd, .int co, .ref nm])) (p0 : Int32) (n : Nat) (g : Nat → Option Nat) (Rm : Nat → Nat → Int32) (hpa : tg z pa 16) (hps : f pa = aR (q 5) n g) (h1 : 1 ≤ n) (h6 : n ≤ 6) (hcb : bw cn 0 (nI n) = true) (hpl : pcL z g cn.toNatClampNeg Rm) (hpk : bw p0 0 cn = true) : Met l yX10_takenBefore wsX10_takenBefore ({ frames := 2, cells := 0, slots := 0, locals := 44 }) (va_Pc [.ref a0, .int p0] (PX dC dI (va_pl z.1 f) (xT q))) (vp_Si (fun r => r = s_from cn Rm p0.toNatClampNeg)) 0 0 (fun _ => False) := by
  refine Met.ofW (cc := cX10_takenBefore) (maxL := 4) (ret := (some .int)) (by decide) rfl ?_
  intro p e s m args below meth c s₁ B hml hv
  obtain ⟨rfl, ⟨hP, hK, hN⟩, hXN⟩ := hv
  have hx := B.exec
  have hb := B.bytes
  have hr := B.returns
  have hts := atoms_spec (ws := wsX10_takenBefore) B.pre
  have hown : s.vm.findClass RX10 = some m.cls := findClass_of_methodNamed B.named
  have hlocks := B.notSynchronized
  have hl := lv_entry ([.ref a0, .int p0]) (n := 4) (Nat.le_of_ble_eq_true rfl)
  rw [lg_entry_eq]
  generalize (lg_sl ([.ref a0, .int p0]) ++ List.replicate (4 - (lg_sl ([.ref a0, .int p0])).length) Slot.unset).toArray = ls at hl ⊢
  have hl : lv_has ls 4 [(0, .ref a0), (1, .int p0)] := hl
  refine lv_iconst (v := 0) hx hb dX10_takenBefore_0 (by decide) ?_
  refine lv_istore_n (lv' := [(2, .int 0), (0, .ref a0), (1, .int p0)]) hx hb dX10_takenBefore_1 rfl hl (by decide) rfl (fun ls hl => ?_)
  refine lv_iconst (v := 0) hx hb dX10_takenBefore_2 (by decide) ?_
  refine lv_istore_n (lv' := [(3, .int 0), (2, .int 0), (0, .ref a0), (1, .int p0)]) hx hb dX10_takenBefore_3 rfl hl (by decide) rfl (fun ls hl => ?_)
  obtain ⟨K, hK1, -, eK⟩ := exN hcb (by decide)
  rw [nI_toInt (by omega)] at hK1
  subst eK
  obtain ⟨N, hN1, -, eN⟩ := exN hpk (by decide)
  rw [nI_toInt (by omega)] at hN1
  subst eN
  refine y_takenBefore_l (K := K) (N := N) hI hx hb hml hts hown hN hXN hK (Nat.le_of_ble_eq_true rfl) (Nat.le_of_ble_eq_true rfl) (Nat.le_of_ble_eq_true rfl) (Nat.le_of_ble_eq_true rfl) hP ha0 hs hpa hps h1 h6 hcb hpl (by omega) (by omega) (fun a9 ls ha9 hl => ?_) (N + 1) 0 0 ls (Nat.zero_le _) (by omega) rfl (lv_sub hl [0, 1, 2, 3] rfl)
  refine lv_iload_n hx hb dX10_takenBefore_31 rfl (lv_at hl 0 rfl) ?_
  exact W.iret (v := a9) hx hb hr (fun t ht hW => ⟨_, rfl, (by rw [nI_clamp (by omega)]; exact ha9), ht⟩) (fun q h => absurd h List.not_mem_nil) dX10_takenBefore_32
theorem bw_self {cn : Int32} {n : Nat} (h : bw cn 0 (nI n) = true) : bw cn 0 cn = true := by
  have h1 := bw_iff.mp h
  rw [bw_iff]; omega
def s_standing (cn : Int32) (Rm : Nat → Nat → Int32) : Int32 := (s_from cn Rm cn.toNatClampNeg)
set_option maxHeartbeats 4000000 in
set_option maxRecDepth 100000 in
theorem y_standing (l : Launch) (dC : Nat → ClassId) (dI : Nat → Nat → Nat) (q : Nat → ClassId) (h0 : Nat) (d : Nat → Nat) (k : Nat → Int32) (z : gS) (f : xF) (hI : xI q h0 d k z f) (a0 pa fa wd nm : Nat) (nu kd cn lz co : Int32) (ha0 : tg z a0 15) (hs : f a0 = .inr (9, [.int nu, .int kd, .ref pa, .int cn, .ref fa, .int lz, .ref wd, .int co, .ref nm])) (n : Nat) (g : Nat → Option Nat) (Rm : Nat → Nat → Int32) (hpa : tg z pa 16) (hps : f pa = aR (q 5) n g) (h1 : 1 ≤ n) (h6 : n ≤ 6) (hcb : bw cn 0 (nI n) = true) (hpl : pcL z g cn.toNatClampNeg Rm) : Met l yX10_standing wsX10_standing ({ frames := 3, cells := 0, slots := 0, locals := 67 }) (va_Pc [.ref a0] (PX dC dI (va_pl z.1 f) (xT q))) (vp_Si (fun r => r = s_standing cn Rm)) 0 0 (fun _ => False) := by
  refine Met.ofW (cc := cX10_standing) (maxL := 1) (ret := (some .int)) (by decide) rfl ?_
  intro p e s m args below meth c s₁ B hml hv
  obtain ⟨rfl, ⟨hP, hK, hN⟩, hXN⟩ := hv
  have hx := B.exec
  have hb := B.bytes
  have hr := B.returns
  have hts := atoms_spec (ws := wsX10_standing) B.pre
  have hown : s.vm.findClass RX10 = some m.cls := findClass_of_methodNamed B.named
  have hlocks := B.notSynchronized
  have hl := lv_entry ([.ref a0]) (n := 1) (Nat.le_of_ble_eq_true rfl)
  rw [lg_entry_eq]
  generalize (lg_sl ([.ref a0]) ++ List.replicate (1 - (lg_sl ([.ref a0])).length) Slot.unset).toArray = ls at hl ⊢
  have hl : lv_has ls 1 [(0, .ref a0)] := hl
  refine lv_aload_n hx hb dX10_standing_0 rfl (lv_at hl 0 rfl) ?_
  refine lv_aload_n hx hb dX10_standing_1 rfl (lv_at hl 0 rfl) ?_
  obtain ⟨kk_1, hk_2⟩ := pl_at ha0.1 hs
  refine va_get (D := (dC, dI)) (ci := 9) (v := .int cn) (C := RX10) (T := TX10) (N := 9) hx hb hts zl_X10_standing_X10 hown hK hP kk_1 hk_2 rfl 3 (by decide) (hts (.fieldLink RX10 49 "PageOne$Story" "count" "I") (zat q_wsX10_standing k_wsX10_standing 195 rfl (by decide +kernel))) (fun x9 h9 => u_same (hts (.sameField "PageOne$Story" "PageOne$Item" "count" "I") (zat q_wsX10_standing k_wsX10_standing 196 rfl (by decide +kernel))) x9 h9) rfl dX10_standing_2 ?_
  obtain ⟨kk_3, hk_4⟩ := pl_at ha0.1 hs
  refine vp_callSi (va_runV (As := [.int cn]) (rest := []) ⟨hx, hb, hml, hown, hts⟩ (y_takenBefore l dC dI q h0 d k z f hI a0 pa fa wd nm nu kd cn lz co ha0 hs cn n g Rm hpa hps h1 h6 hcb hpl (bw_self hcb)) (cwV 1 hts gX10_standing_X10_takenBefore rfl rfl rfl zh_X10_takenBefore_39 ⟨Nat.le_of_ble_eq_true rfl, Nat.le_of_ble_eq_true rfl⟩) ⟨px_fb, va_recv hK hP (ci := 9) (q0 := kk_3) rfl hk_4, fun U hU hW => ⟨rfl, px_to hU hW hP hK hN hXN⟩⟩ rfl rfl hl.1 rfl (lv_room (Nat.le_of_ble_eq_true rfl)) dX10_standing_5 ⟨Nat.le_of_ble_eq_true rfl, Nat.le_of_ble_eq_true rfl⟩).run (fun r hw => ?_)
  obtain rfl : r = (s_from cn Rm cn.toNatClampNeg) := hw
  exact W.iret (v := (s_from cn Rm cn.toNatClampNeg)) hx hb hr (fun t ht hW => ⟨_, rfl, (by unfold s_standing; rfl), ht⟩) (fun q h => absurd h List.not_mem_nil) dX10_standing_8
noncomputable def bP (P : Prop) : Int32 := @ite Int32 P (Classical.propDecidable P) 1 0
theorem bP_t {P : Prop} (h : P) : bP P = 1 := if_pos h
theorem bP_f {P : Prop} (h : ¬ P) : bP P = 0 := if_neg h
theorem bP_01 (P : Prop) : bP P = 0 ∨ bP P = 1 := by
  rcases Classical.em P with h | h
  · exact Or.inr (bP_t h)
  · exact Or.inl (bP_f h)
theorem bP_1 {P : Prop} (h : bP P = 1) : P := Classical.byContradiction (fun hn => by rw [bP_f hn] at h; exact absurd h (by decide))
theorem bP_0 {P : Prop} (h : bP P = 0) : ¬ P := fun hp => by rw [bP_t hp] at h; exact absurd h (by decide)
def s_canT (p0 p1 p2 co : Int32) (gw : Nat → Int32) : Prop := ¬ p0 < 0 ∧ ¬ p1 < 1 ∧ p1 ≤ co - p0 ∧ ∀ j, j < p1.toNatClampNeg → gw (p0 + nI j).toNatClampNeg ≤ p2
set_option maxHeartbeats 4000000 in
set_option maxRecDepth 100000 in
theorem y_canTake_l {p : Program} {l : Launch} {e : Env} {R : Room} {s : State} {m : MethodId} {args : Array Value} {below : List Frame} {meth : Method} {c : Code} {Q : State → Prop} {cells slots : Nat} {dC : Nat → ClassId} {dI : Nat → Nat → Nat} {q : Nat → ClassId} {h0 : Nat} {d : Nat → Nat} {k : Nat → Int32} {z : gS} {f : xF} {H : Heap} {locs : List Loc} (hI : xI q h0 d k z f) (hx : p.tables.exec = Jvm.exec) (hb : c.code = cX10_canTake) (hml : c.maxLocals = 5) (hts : ∀ w ∈ wsX10_canTake, w.before args s = true) (hown : s.vm.findClass RX10 = some m.cls) (hN : NN s) (hXN : XN s) (hK : va_K (dC, dI) vwCl (xT q) s) (hP : va_P (dC, dI) vwCl (va_pl z.1 f) H) {A T : Nat} {p2 : Int32} {a0 pa fa wd nm : Nat} {nu kd cn lz co : Int32} (ha0 : tg z a0 15) (hs : f a0 = .inr (9, [.int nu, .int kd, .ref pa, .int cn, .ref fa, .int lz, .ref wd, .int co, .ref nm])) {gw : Nat → Int32} (hwd : tg z wd 18) (hwg : f wd = aI (q 0) 80 gw) (hAT : A + T ≤ 80) (kx51 : ∀ (ls : Array Slot), (∀ j, j < T → gw (nI (A + j)).toNatClampNeg ≤ p2) → lv_has ls 5 [(0, .ref a0), (1, .int (nI A)), (2, .int (nI T)), (3, .int p2)] → W p l e R s m args below meth c H locs cells slots Q (F0 m 51 ls [])) (kx43 : ∀ (ls : Array Slot), (∃ j, j < T ∧ ¬ gw (nI (A + j)).toNatClampNeg ≤ p2) → lv_has ls 5 [(0, .ref a0), (1, .int (nI A)), (2, .int (nI T)), (3, .int p2)] → W p l e R s m args below meth c H locs cells slots Q (F0 m 43 ls [])) : ∀ (kk i : Nat) (ls : Array Slot), i ≤ T → T - i < kk → (∀ j, j < i → gw (nI (A + j)).toNatClampNeg ≤ p2) → lv_has ls 5 [(4, .int (nI (A + i))), (0, .ref a0), (1, .int (nI A)), (2, .int (nI T)), (3, .int p2)] → W p l e R s m args below meth c H locs cells slots Q (F0 m 24 ls []) := by
  intro kk
  induction kk with
  | zero => intro i ls h1 h2; exact absurd h2 (Nat.not_lt_zero _)
  | succ kk ih =>
    intro i ls hi hkk hg hl
    refine lv_iload hx hb dX10_canTake_24 (lv_at hl 0 rfl) ?_
    refine lv_iload_n hx hb dX10_canTake_26 rfl (lv_at hl 2 rfl) ?_
    refine lv_iload_n hx hb dX10_canTake_27 rfl (lv_at hl 3 rfl) ?_
    refine lv_iadd hx hb dX10_canTake_28 ?_
    refine lv_icmp_ge (tgt := 51) hx hb dX10_canTake_29 (by decide) (fun c_1 => ?_) (fun c_1 => ?_)
    ·
      have hie : i = T := by have := lp_eq (nI_add A T) (by omega) (by omega) c_1; omega
      exact kx51 ls (by rw [← hie]; exact hg) (lv_sub hl [1, 2, 3, 4] rfl)
    ·
      have hlt : i < T := by have := lp_lt (nI_add A T) (by omega) (by omega) c_1; omega
      refine lv_aload_n hx hb dX10_canTake_32 rfl (lv_at hl 1 rfl) ?_
      obtain ⟨kk_2, hk_3⟩ := pl_at ha0.1 hs
      refine va_get (D := (dC, dI)) (ci := 9) (v := .ref wd) (C := RX10) (T := TX10) (N := 9) hx hb hts zl_X10_canTake_X10 hown hK hP kk_2 hk_3 rfl 6 (by decide) (hts (.fieldLink RX10 9 "PageOne$Story" "widths" "[I") (zat q_wsX10_canTake k_wsX10_canTake 176 rfl (by decide +kernel))) (fun _ h9 => h9) rfl dX10_canTake_33 ?_
      refine lv_iload hx hb dX10_canTake_36 (lv_at hl 0 rfl) ?_
      obtain ⟨kk_4, hk_5⟩ := pl_at hwd.1 hwg
      refine va_iald hx hb hK hP kk_4 0 hk_5 rfl (vp_in_nI (by omega) (by decide)) dX10_canTake_38 ?_
      refine lv_iload_n hx hb dX10_canTake_39 rfl (lv_at hl 4 rfl) ?_
      refine lv_icmp_le (tgt := 45) hx hb dX10_canTake_40 (by decide) (fun c_6 => ?_) (fun c_6 => ?_)
      ·
        refine lv_iinc (v := (nI (A + i + 1))) (lv' := [(4, .int (nI (A + i + 1))), (0, .ref a0), (1, .int (nI A)), (2, .int (nI T)), (3, .int p2)]) hx hb dX10_canTake_45 hl (k := 0) rfl (nI_1 _) (by decide) rfl (fun ls hl => ?_)
        refine lv_goto (tgt := 24) hx hb dX10_canTake_48 (by decide) ?_
        exact ih (i + 1) ls (by omega) (by omega) (fr_1 hg c_6) (lv_sub hl [0, 1, 2, 3, 4] rfl)
      ·
        exact kx43 ls ⟨i, hlt, c_6⟩ (lv_sub hl [1, 2, 3, 4] rfl)
set_option maxHeartbeats 4000000 in
set_option maxRecDepth 100000 in
theorem y_canTake (l : Launch) (dC : Nat → ClassId) (dI : Nat → Nat → Nat) (q : Nat → ClassId) (h0 : Nat) (d : Nat → Nat) (k : Nat → Int32) (z : gS) (f : xF) (hI : xI q h0 d k z f) (a0 pa fa wd nm : Nat) (nu kd cn lz co : Int32) (ha0 : tg z a0 15) (hs : f a0 = .inr (9, [.int nu, .int kd, .ref pa, .int cn, .ref fa, .int lz, .ref wd, .int co, .ref nm])) (p0 p1 p2 : Int32) (gw : Nat → Int32) (hwd : tg z wd 18) (hwg : f wd = aI (q 0) 80 gw) (hco : bw co 0 80 = true) : Met l yX10_canTake wsX10_canTake ({ frames := 0, cells := 0, slots := 0, locals := 0 }) (va_Pc [.ref a0, .int p0, .int p1, .int p2] (PX dC dI (va_pl z.1 f) (xT q))) (vp_Si (fun r => r = bP (s_canT p0 p1 p2 co gw))) 0 0 (fun _ => False) := by
  refine Met.ofW (cc := cX10_canTake) (maxL := 5) (ret := (some .boolean)) (by decide) rfl ?_
  intro p e s m args below meth c s₁ B hml hv
  obtain ⟨rfl, ⟨hP, hK, hN⟩, hXN⟩ := hv
  have hx := B.exec
  have hb := B.bytes
  have hr := B.returns
  have hts := atoms_spec (ws := wsX10_canTake) B.pre
  have hown : s.vm.findClass RX10 = some m.cls := findClass_of_methodNamed B.named
  have hlocks := B.notSynchronized
  have hl := lv_entry ([.ref a0, .int p0, .int p1, .int p2]) (n := 5) (Nat.le_of_ble_eq_true rfl)
  rw [lg_entry_eq]
  generalize (lg_sl ([.ref a0, .int p0, .int p1, .int p2]) ++ List.replicate (5 - (lg_sl ([.ref a0, .int p0, .int p1, .int p2])).length) Slot.unset).toArray = ls at hl ⊢
  have hl : lv_has ls 5 [(0, .ref a0), (1, .int p0), (2, .int p1), (3, .int p2)] := hl
  refine lv_iload_n hx hb dX10_canTake_0 rfl (lv_at hl 1 rfl) ?_
  refine lv_if_lt (tgt := 19) hx hb dX10_canTake_1 (by decide) (fun c_1 => ?_) (fun c_1 => ?_)
  ·
    refine lv_iconst (v := 0) hx hb dX10_canTake_19 (by decide) ?_
    exact W.zret (v := 0) hx hb hr (by decide) (fun t ht hW => ⟨_, rfl, (bP_f (fun h => h.1 c_1)).symm, ht⟩) (fun q h => absurd h List.not_mem_nil) dX10_canTake_20
  ·
    refine lv_iload_n hx hb dX10_canTake_4 rfl (lv_at hl 2 rfl) ?_
    refine lv_iconst (v := 1) hx hb dX10_canTake_5 (by decide) ?_
    refine lv_icmp_lt (tgt := 19) hx hb dX10_canTake_6 (by decide) (fun c_2 => ?_) (fun c_2 => ?_)
    ·
      refine lv_iconst (v := 0) hx hb dX10_canTake_19 (by decide) ?_
      exact W.zret (v := 0) hx hb hr (by decide) (fun t ht hW => ⟨_, rfl, (bP_f (fun h => h.2.1 c_2)).symm, ht⟩) (fun q h => absurd h List.not_mem_nil) dX10_canTake_20
    ·
      refine lv_iload_n hx hb dX10_canTake_9 rfl (lv_at hl 2 rfl) ?_
      refine lv_aload_n hx hb dX10_canTake_10 rfl (lv_at hl 0 rfl) ?_
      obtain ⟨kk_3, hk_4⟩ := pl_at ha0.1 hs
      refine va_get (D := (dC, dI)) (ci := 9) (v := .int co) (C := RX10) (T := TX10) (N := 9) hx hb hts zl_X10_canTake_X10 hown hK hP kk_3 hk_4 rfl 7 (by decide) (hts (.fieldLink RX10 15 "PageOne$Story" "come" "I") (zat q_wsX10_canTake k_wsX10_canTake 177 rfl (by decide +kernel))) (fun _ h9 => h9) rfl dX10_canTake_11 ?_
      refine lv_iload_n hx hb dX10_canTake_14 rfl (lv_at hl 1 rfl) ?_
      refine lv_isub hx hb dX10_canTake_15 ?_
      refine lv_icmp_le (tgt := 21) hx hb dX10_canTake_16 (by decide) (fun c_5 => ?_) (fun c_5 => ?_)
      ·
        refine lv_iload_n hx hb dX10_canTake_21 rfl (lv_at hl 1 rfl) ?_
        refine lv_istore (lv' := [(4, .int p0), (0, .ref a0), (1, .int p0), (2, .int p1), (3, .int p2)]) hx hb dX10_canTake_22 hl (by decide) rfl (fun ls hl => ?_)
        obtain ⟨A, T, eA, eT, hAT⟩ := ct_b hco c_1 c_2 c_5
        subst eA eT
        refine y_canTake_l hI hx hb hml hts hown hN hXN hK hP ha0 hs hwd hwg hAT (fun ls hh hl => ?_) (fun ls hh hl => ?_) (T + 1) 0 ls (Nat.zero_le _) (by omega) (fun j hj => absurd hj (Nat.not_lt_zero _)) (lv_sub hl [0, 1, 2, 3, 4] rfl)
        ·
          refine lv_iconst (v := 1) hx hb dX10_canTake_51 (by decide) ?_
          exact W.zret (v := 1) hx hb hr (by decide) (fun t ht hW => ⟨_, rfl, (bP_t ⟨c_1, c_2, c_5, fun j hj => by rw [nI_clamp (by omega)] at hj; rw [nI_add]; exact hh j hj⟩).symm, ht⟩) (fun q h => absurd h List.not_mem_nil) dX10_canTake_52
        ·
          refine lv_iconst (v := 0) hx hb dX10_canTake_43 (by decide) ?_
          exact W.zret (v := 0) hx hb hr (by decide) (fun t ht hW => ⟨_, rfl, (bP_f (fun h => by obtain ⟨j, hj, hn⟩ := hh; have h9 := h.2.2.2 j (by rw [nI_clamp (by omega)]; exact hj); rw [nI_add] at h9; exact hn h9)).symm, ht⟩) (fun q h => absurd h List.not_mem_nil) dX10_canTake_44
      ·
        refine lv_iconst (v := 0) hx hb dX10_canTake_19 (by decide) ?_
        exact W.zret (v := 0) hx hb hr (by decide) (fun t ht hW => ⟨_, rfl, (bP_f (fun h => c_5 h.2.2.1)).symm, ht⟩) (fun q h => absurd h List.not_mem_nil) dX10_canTake_20
theorem nlt {a b : Int32} (h : b ≤ a) : ¬ a < b := fun h2 => by rw [i32_le] at h; rw [i32_lt] at h2; omega
theorem ltn {a b : Int32} (h : ¬ b ≤ a) : a < b := by rw [i32_le] at h; rw [i32_lt]; omega
set_option maxHeartbeats 4000000 in
set_option maxRecDepth 100000 in
theorem y_hasRoom (l : Launch) (dC : Nat → ClassId) (dI : Nat → Nat → Nat) (q : Nat → ClassId) (h0 : Nat) (d : Nat → Nat) (k : Nat → Int32) (z : gS) (f : xF) (hI : xI q h0 d k z f) (a0 : Nat) (ha0 : itm z a0) (nu kd cn : Int32) (pa fa : Nat) (rs : List Value) (hs : f a0 = .inr (ciT (z.2 a0).1, itF nu kd pa cn fa rs)) (n : Nat) (g : Nat → Option Nat) (hps : f pa = aR (q 5) n g) (hpa : tg z pa 16) : Met l yX4_hasRoom wsX4_hasRoom ({ frames := 0, cells := 0, slots := 0, locals := 0 }) (va_Pc [.ref a0] (PX dC dI (va_pl z.1 f) (xT q))) (vp_Si (fun r => r = bP (cn < nI n))) 0 0 (fun _ => False) := by
  refine Met.ofW (cc := cX4_hasRoom) (maxL := 1) (ret := (some .boolean)) (by decide) rfl ?_
  intro p e s m args below meth c s₁ B hml hv
  obtain ⟨rfl, ⟨hP, hK, hN⟩, hXN⟩ := hv
  have hx := B.exec
  have hb := B.bytes
  have hr := B.returns
  have hts := atoms_spec (ws := wsX4_hasRoom) B.pre
  have hown : s.vm.findClass RX4 = some m.cls := findClass_of_methodNamed B.named
  have hlocks := B.notSynchronized
  have hl := lv_entry ([.ref a0]) (n := 1) (Nat.le_of_ble_eq_true rfl)
  rw [lg_entry_eq]
  generalize (lg_sl ([.ref a0]) ++ List.replicate (1 - (lg_sl ([.ref a0])).length) Slot.unset).toArray = ls at hl ⊢
  have hl : lv_has ls 1 [(0, .ref a0)] := hl
  refine lv_aload_n hx hb dX4_hasRoom_0 rfl (lv_at hl 0 rfl) ?_
  obtain ⟨kk_1, hk_2⟩ := pl_at ha0.1 hs
  refine w_then (F0 m 4 ls [.int cn]) (fun hgo => ?_) ?_
  ·
    rcases x_tag ha0 with ht9 | ht9 | ht9 | ht9 | ht9 | ht9
    ·
      rw [ht9.2] at hk_2
      exact va_get (D := (dC, dI)) (ci := 2) (v := .int cn) (C := RX2) (T := TX2) (N := 7) hx hb hts zl_X4_hasRoom_X2 hown hK hP kk_1 hk_2 rfl 3 (by decide) (hts (.fieldLink RX4 9 "PageOne$Item" "count" "I") (zat q_wsX4_hasRoom k_wsX4_hasRoom 194 rfl (by decide +kernel))) (fun _ h9 => h9) rfl dX4_hasRoom_1 hgo
    ·
      rw [ht9.2] at hk_2
      exact va_get (D := (dC, dI)) (ci := 3) (v := .int cn) (C := RX3) (T := TX3) (N := 8) hx hb hts zl_X4_hasRoom_X3 hown hK hP kk_1 hk_2 rfl 3 (by decide) (hts (.fieldLink RX4 9 "PageOne$Item" "count" "I") (zat q_wsX4_hasRoom k_wsX4_hasRoom 194 rfl (by decide +kernel))) (fun _ h9 => h9) rfl dX4_hasRoom_1 hgo
    ·
      rw [ht9.2] at hk_2
      exact va_get (D := (dC, dI)) (ci := 4) (v := .int cn) (C := RX5) (T := TX5) (N := 7) hx hb hts zl_X4_hasRoom_X5 hown hK hP kk_1 hk_2 rfl 3 (by decide) (hts (.fieldLink RX4 9 "PageOne$Item" "count" "I") (zat q_wsX4_hasRoom k_wsX4_hasRoom 194 rfl (by decide +kernel))) (fun _ h9 => h9) rfl dX4_hasRoom_1 hgo
    ·
      rw [ht9.2] at hk_2
      exact va_get (D := (dC, dI)) (ci := 5) (v := .int cn) (C := RX6) (T := TX6) (N := 9) hx hb hts zl_X4_hasRoom_X6 hown hK hP kk_1 hk_2 rfl 3 (by decide) (hts (.fieldLink RX4 9 "PageOne$Item" "count" "I") (zat q_wsX4_hasRoom k_wsX4_hasRoom 194 rfl (by decide +kernel))) (fun _ h9 => h9) rfl dX4_hasRoom_1 hgo
    ·
      rw [ht9.2] at hk_2
      exact va_get (D := (dC, dI)) (ci := 6) (v := .int cn) (C := RX7) (T := TX7) (N := 8) hx hb hts zl_X4_hasRoom_X7 hown hK hP kk_1 hk_2 rfl 3 (by decide) (hts (.fieldLink RX4 9 "PageOne$Item" "count" "I") (zat q_wsX4_hasRoom k_wsX4_hasRoom 194 rfl (by decide +kernel))) (fun _ h9 => h9) rfl dX4_hasRoom_1 hgo
    ·
      rw [ht9.2] at hk_2
      exact va_get (D := (dC, dI)) (ci := 9) (v := .int cn) (C := RX10) (T := TX10) (N := 9) hx hb hts zl_X4_hasRoom_X10 hown hK hP kk_1 hk_2 rfl 3 (by decide) (hts (.fieldLink RX4 9 "PageOne$Item" "count" "I") (zat q_wsX4_hasRoom k_wsX4_hasRoom 194 rfl (by decide +kernel))) (fun _ h9 => h9) rfl dX4_hasRoom_1 hgo
  ·
    refine lv_aload_n hx hb dX4_hasRoom_4 rfl (lv_at hl 0 rfl) ?_
    obtain ⟨kk_3, hk_4⟩ := pl_at ha0.1 hs
    refine w_then (F0 m 8 ls [.ref pa, .int cn]) (fun hgo => ?_) ?_
    ·
      rcases x_tag ha0 with ht9 | ht9 | ht9 | ht9 | ht9 | ht9
      ·
        rw [ht9.2] at hk_4
        exact va_get (D := (dC, dI)) (ci := 2) (v := .ref pa) (C := RX2) (T := TX2) (N := 7) hx hb hts zl_X4_hasRoom_X2 hown hK hP kk_3 hk_4 rfl 2 (by decide) (hts (.fieldLink RX4 31 "PageOne$Item" "pieces" "[LPageOne$Piece;") (zat q_wsX4_hasRoom k_wsX4_hasRoom 190 rfl (by decide +kernel))) (fun _ h9 => h9) rfl dX4_hasRoom_5 hgo
      ·
        rw [ht9.2] at hk_4
        exact va_get (D := (dC, dI)) (ci := 3) (v := .ref pa) (C := RX3) (T := TX3) (N := 8) hx hb hts zl_X4_hasRoom_X3 hown hK hP kk_3 hk_4 rfl 2 (by decide) (hts (.fieldLink RX4 31 "PageOne$Item" "pieces" "[LPageOne$Piece;") (zat q_wsX4_hasRoom k_wsX4_hasRoom 190 rfl (by decide +kernel))) (fun _ h9 => h9) rfl dX4_hasRoom_5 hgo
      ·
        rw [ht9.2] at hk_4
        exact va_get (D := (dC, dI)) (ci := 4) (v := .ref pa) (C := RX5) (T := TX5) (N := 7) hx hb hts zl_X4_hasRoom_X5 hown hK hP kk_3 hk_4 rfl 2 (by decide) (hts (.fieldLink RX4 31 "PageOne$Item" "pieces" "[LPageOne$Piece;") (zat q_wsX4_hasRoom k_wsX4_hasRoom 190 rfl (by decide +kernel))) (fun _ h9 => h9) rfl dX4_hasRoom_5 hgo
      ·
        rw [ht9.2] at hk_4
        exact va_get (D := (dC, dI)) (ci := 5) (v := .ref pa) (C := RX6) (T := TX6) (N := 9) hx hb hts zl_X4_hasRoom_X6 hown hK hP kk_3 hk_4 rfl 2 (by decide) (hts (.fieldLink RX4 31 "PageOne$Item" "pieces" "[LPageOne$Piece;") (zat q_wsX4_hasRoom k_wsX4_hasRoom 190 rfl (by decide +kernel))) (fun _ h9 => h9) rfl dX4_hasRoom_5 hgo
      ·
        rw [ht9.2] at hk_4
        exact va_get (D := (dC, dI)) (ci := 6) (v := .ref pa) (C := RX7) (T := TX7) (N := 8) hx hb hts zl_X4_hasRoom_X7 hown hK hP kk_3 hk_4 rfl 2 (by decide) (hts (.fieldLink RX4 31 "PageOne$Item" "pieces" "[LPageOne$Piece;") (zat q_wsX4_hasRoom k_wsX4_hasRoom 190 rfl (by decide +kernel))) (fun _ h9 => h9) rfl dX4_hasRoom_5 hgo
      ·
        rw [ht9.2] at hk_4
        exact va_get (D := (dC, dI)) (ci := 9) (v := .ref pa) (C := RX10) (T := TX10) (N := 9) hx hb hts zl_X4_hasRoom_X10 hown hK hP kk_3 hk_4 rfl 2 (by decide) (hts (.fieldLink RX4 31 "PageOne$Item" "pieces" "[LPageOne$Piece;") (zat q_wsX4_hasRoom k_wsX4_hasRoom 190 rfl (by decide +kernel))) (fun _ h9 => h9) rfl dX4_hasRoom_5 hgo
    ·
      obtain ⟨kk_5, hk_6⟩ := pl_at hpa.1 hps
      refine va_alen hx hb hK hP kk_5 5 hk_6 rfl (v := nI n) rfl dX4_hasRoom_8 ?_
      refine lv_icmp_ge (tgt := 16) hx hb dX4_hasRoom_9 (by decide) (fun c_7 => ?_) (fun c_7 => ?_)
      ·
        refine lv_iconst (v := 0) hx hb dX4_hasRoom_16 (by decide) ?_
        exact W.zret (v := 0) hx hb hr (by decide) (fun t ht hW => ⟨_, rfl, (bP_f (fun h => absurd h (nlt c_7))).symm, ht⟩) (fun q h => absurd h List.not_mem_nil) dX4_hasRoom_17
      ·
        refine lv_iconst (v := 1) hx hb dX4_hasRoom_12 (by decide) ?_
        refine lv_goto (tgt := 17) hx hb dX4_hasRoom_13 (by decide) ?_
        exact W.zret (v := 1) hx hb hr (by decide) (fun t ht hW => ⟨_, rfl, (bP_t (ltn c_7)).symm, ht⟩) (fun q h => absurd h List.not_mem_nil) dX4_hasRoom_17
def s_last (cn : Int32) (g : Nat → Option Nat) : Option Nat := if cn ≤ 0 then none else g (cn - 1).toNatClampNeg
theorem clt1 {cn : Int32} {n : Nat} (hn : n ≤ 6) (h : bw cn 0 (nI n) = true) (h2 : ¬ cn ≤ 0) : vp_in (cn - 1) n ∧ (cn - 1).toNatClampNeg < cn.toNatClampNeg := ⟨(bcm1 hn h h2 rfl).2.2, by have := (bcm1 hn h h2 rfl).2.1; omega⟩
set_option maxHeartbeats 4000000 in
set_option maxRecDepth 100000 in
theorem y_lastPiece (l : Launch) (dC : Nat → ClassId) (dI : Nat → Nat → Nat) (q : Nat → ClassId) (h0 : Nat) (d : Nat → Nat) (k : Nat → Int32) (z : gS) (f : xF) (hI : xI q h0 d k z f) (a0 : Nat) (ha0 : itm z a0) (nu kd cn : Int32) (pa fa : Nat) (rs : List Value) (hs : f a0 = .inr (ciT (z.2 a0).1, itF nu kd pa cn fa rs)) (n : Nat) (g : Nat → Option Nat) (Rm : Nat → Nat → Int32) (hpa : tg z pa 16) (hps : f pa = aR (q 5) n g) (h1 : 1 ≤ n) (h6 : n ≤ 6) (hcb : bw cn 0 (nI n) = true) (hpl : pcL z g cn.toNatClampNeg Rm) : Met l yX4_lastPiece wsX4_lastPiece ({ frames := 0, cells := 0, slots := 0, locals := 0 }) (va_Pc [.ref a0] (PX dC dI (va_pl z.1 f) (xT q))) (va_Sq (fun r => r = s_last cn g)) 0 0 (fun _ => False) := by
  refine Met.ofW (cc := cX4_lastPiece) (maxL := 1) (ret := (some (.object "PageOne$Piece"))) (by decide) rfl ?_
  intro p e s m args below meth c s₁ B hml hv
  obtain ⟨rfl, ⟨hP, hK, hN⟩, hXN⟩ := hv
  have hx := B.exec
  have hb := B.bytes
  have hr := B.returns
  have hts := atoms_spec (ws := wsX4_lastPiece) B.pre
  have hown : s.vm.findClass RX4 = some m.cls := findClass_of_methodNamed B.named
  have hlocks := B.notSynchronized
  have hl := lv_entry ([.ref a0]) (n := 1) (Nat.le_of_ble_eq_true rfl)
  rw [lg_entry_eq]
  generalize (lg_sl ([.ref a0]) ++ List.replicate (1 - (lg_sl ([.ref a0])).length) Slot.unset).toArray = ls at hl ⊢
  have hl : lv_has ls 1 [(0, .ref a0)] := hl
  refine lv_aload_n hx hb dX4_lastPiece_0 rfl (lv_at hl 0 rfl) ?_
  obtain ⟨kk_1, hk_2⟩ := pl_at ha0.1 hs
  refine w_then (F0 m 4 ls [.int cn]) (fun hgo => ?_) ?_
  ·
    rcases x_tag ha0 with ht9 | ht9 | ht9 | ht9 | ht9 | ht9
    ·
      rw [ht9.2] at hk_2
      exact va_get (D := (dC, dI)) (ci := 2) (v := .int cn) (C := RX2) (T := TX2) (N := 7) hx hb hts zl_X4_lastPiece_X2 hown hK hP kk_1 hk_2 rfl 3 (by decide) (hts (.fieldLink RX4 9 "PageOne$Item" "count" "I") (zat q_wsX4_lastPiece k_wsX4_lastPiece 194 rfl (by decide +kernel))) (fun _ h9 => h9) rfl dX4_lastPiece_1 hgo
    ·
      rw [ht9.2] at hk_2
      exact va_get (D := (dC, dI)) (ci := 3) (v := .int cn) (C := RX3) (T := TX3) (N := 8) hx hb hts zl_X4_lastPiece_X3 hown hK hP kk_1 hk_2 rfl 3 (by decide) (hts (.fieldLink RX4 9 "PageOne$Item" "count" "I") (zat q_wsX4_lastPiece k_wsX4_lastPiece 194 rfl (by decide +kernel))) (fun _ h9 => h9) rfl dX4_lastPiece_1 hgo
    ·
      rw [ht9.2] at hk_2
      exact va_get (D := (dC, dI)) (ci := 4) (v := .int cn) (C := RX5) (T := TX5) (N := 7) hx hb hts zl_X4_lastPiece_X5 hown hK hP kk_1 hk_2 rfl 3 (by decide) (hts (.fieldLink RX4 9 "PageOne$Item" "count" "I") (zat q_wsX4_lastPiece k_wsX4_lastPiece 194 rfl (by decide +kernel))) (fun _ h9 => h9) rfl dX4_lastPiece_1 hgo
    ·
      rw [ht9.2] at hk_2
      exact va_get (D := (dC, dI)) (ci := 5) (v := .int cn) (C := RX6) (T := TX6) (N := 9) hx hb hts zl_X4_lastPiece_X6 hown hK hP kk_1 hk_2 rfl 3 (by decide) (hts (.fieldLink RX4 9 "PageOne$Item" "count" "I") (zat q_wsX4_lastPiece k_wsX4_lastPiece 194 rfl (by decide +kernel))) (fun _ h9 => h9) rfl dX4_lastPiece_1 hgo
    ·
      rw [ht9.2] at hk_2
      exact va_get (D := (dC, dI)) (ci := 6) (v := .int cn) (C := RX7) (T := TX7) (N := 8) hx hb hts zl_X4_lastPiece_X7 hown hK hP kk_1 hk_2 rfl 3 (by decide) (hts (.fieldLink RX4 9 "PageOne$Item" "count" "I") (zat q_wsX4_lastPiece k_wsX4_lastPiece 194 rfl (by decide +kernel))) (fun _ h9 => h9) rfl dX4_lastPiece_1 hgo
    ·
      rw [ht9.2] at hk_2
      exact va_get (D := (dC, dI)) (ci := 9) (v := .int cn) (C := RX10) (T := TX10) (N := 9) hx hb hts zl_X4_lastPiece_X10 hown hK hP kk_1 hk_2 rfl 3 (by decide) (hts (.fieldLink RX4 9 "PageOne$Item" "count" "I") (zat q_wsX4_lastPiece k_wsX4_lastPiece 194 rfl (by decide +kernel))) (fun _ h9 => h9) rfl dX4_lastPiece_1 hgo
  ·
    refine lv_if_le (tgt := 21) hx hb dX4_lastPiece_4 (by decide) (fun c_3 => ?_) (fun c_3 => ?_)
    ·
      refine lv_null hx hb dX4_lastPiece_21 ?_
      exact W.aret (v := .null) hx hb hr (Or.inl ⟨_, rfl⟩) (Or.inl rfl) (fun t ht hW => ⟨none, rfl, (by unfold s_last; rw [if_pos c_3]), ht⟩) (fun q h => absurd h List.not_mem_nil) dX4_lastPiece_22
    ·
      refine lv_aload_n hx hb dX4_lastPiece_7 rfl (lv_at hl 0 rfl) ?_
      obtain ⟨kk_4, hk_5⟩ := pl_at ha0.1 hs
      refine w_then (F0 m 11 ls [.ref pa]) (fun hgo => ?_) ?_
      ·
        rcases x_tag ha0 with ht9 | ht9 | ht9 | ht9 | ht9 | ht9
        ·
          rw [ht9.2] at hk_5
          exact va_get (D := (dC, dI)) (ci := 2) (v := .ref pa) (C := RX2) (T := TX2) (N := 7) hx hb hts zl_X4_lastPiece_X2 hown hK hP kk_4 hk_5 rfl 2 (by decide) (hts (.fieldLink RX4 31 "PageOne$Item" "pieces" "[LPageOne$Piece;") (zat q_wsX4_lastPiece k_wsX4_lastPiece 190 rfl (by decide +kernel))) (fun _ h9 => h9) rfl dX4_lastPiece_8 hgo
        ·
          rw [ht9.2] at hk_5
          exact va_get (D := (dC, dI)) (ci := 3) (v := .ref pa) (C := RX3) (T := TX3) (N := 8) hx hb hts zl_X4_lastPiece_X3 hown hK hP kk_4 hk_5 rfl 2 (by decide) (hts (.fieldLink RX4 31 "PageOne$Item" "pieces" "[LPageOne$Piece;") (zat q_wsX4_lastPiece k_wsX4_lastPiece 190 rfl (by decide +kernel))) (fun _ h9 => h9) rfl dX4_lastPiece_8 hgo
        ·
          rw [ht9.2] at hk_5
          exact va_get (D := (dC, dI)) (ci := 4) (v := .ref pa) (C := RX5) (T := TX5) (N := 7) hx hb hts zl_X4_lastPiece_X5 hown hK hP kk_4 hk_5 rfl 2 (by decide) (hts (.fieldLink RX4 31 "PageOne$Item" "pieces" "[LPageOne$Piece;") (zat q_wsX4_lastPiece k_wsX4_lastPiece 190 rfl (by decide +kernel))) (fun _ h9 => h9) rfl dX4_lastPiece_8 hgo
        ·
          rw [ht9.2] at hk_5
          exact va_get (D := (dC, dI)) (ci := 5) (v := .ref pa) (C := RX6) (T := TX6) (N := 9) hx hb hts zl_X4_lastPiece_X6 hown hK hP kk_4 hk_5 rfl 2 (by decide) (hts (.fieldLink RX4 31 "PageOne$Item" "pieces" "[LPageOne$Piece;") (zat q_wsX4_lastPiece k_wsX4_lastPiece 190 rfl (by decide +kernel))) (fun _ h9 => h9) rfl dX4_lastPiece_8 hgo
        ·
          rw [ht9.2] at hk_5
          exact va_get (D := (dC, dI)) (ci := 6) (v := .ref pa) (C := RX7) (T := TX7) (N := 8) hx hb hts zl_X4_lastPiece_X7 hown hK hP kk_4 hk_5 rfl 2 (by decide) (hts (.fieldLink RX4 31 "PageOne$Item" "pieces" "[LPageOne$Piece;") (zat q_wsX4_lastPiece k_wsX4_lastPiece 190 rfl (by decide +kernel))) (fun _ h9 => h9) rfl dX4_lastPiece_8 hgo
        ·
          rw [ht9.2] at hk_5
          exact va_get (D := (dC, dI)) (ci := 9) (v := .ref pa) (C := RX10) (T := TX10) (N := 9) hx hb hts zl_X4_lastPiece_X10 hown hK hP kk_4 hk_5 rfl 2 (by decide) (hts (.fieldLink RX4 31 "PageOne$Item" "pieces" "[LPageOne$Piece;") (zat q_wsX4_lastPiece k_wsX4_lastPiece 190 rfl (by decide +kernel))) (fun _ h9 => h9) rfl dX4_lastPiece_8 hgo
      ·
        refine lv_aload_n hx hb dX4_lastPiece_11 rfl (lv_at hl 0 rfl) ?_
        obtain ⟨kk_6, hk_7⟩ := pl_at ha0.1 hs
        refine w_then (F0 m 15 ls [.int cn, .ref pa]) (fun hgo => ?_) ?_
        ·
          rcases x_tag ha0 with ht9 | ht9 | ht9 | ht9 | ht9 | ht9
          ·
            rw [ht9.2] at hk_7
            exact va_get (D := (dC, dI)) (ci := 2) (v := .int cn) (C := RX2) (T := TX2) (N := 7) hx hb hts zl_X4_lastPiece_X2 hown hK hP kk_6 hk_7 rfl 3 (by decide) (hts (.fieldLink RX4 9 "PageOne$Item" "count" "I") (zat q_wsX4_lastPiece k_wsX4_lastPiece 194 rfl (by decide +kernel))) (fun _ h9 => h9) rfl dX4_lastPiece_12 hgo
          ·
            rw [ht9.2] at hk_7
            exact va_get (D := (dC, dI)) (ci := 3) (v := .int cn) (C := RX3) (T := TX3) (N := 8) hx hb hts zl_X4_lastPiece_X3 hown hK hP kk_6 hk_7 rfl 3 (by decide) (hts (.fieldLink RX4 9 "PageOne$Item" "count" "I") (zat q_wsX4_lastPiece k_wsX4_lastPiece 194 rfl (by decide +kernel))) (fun _ h9 => h9) rfl dX4_lastPiece_12 hgo
          ·
            rw [ht9.2] at hk_7
            exact va_get (D := (dC, dI)) (ci := 4) (v := .int cn) (C := RX5) (T := TX5) (N := 7) hx hb hts zl_X4_lastPiece_X5 hown hK hP kk_6 hk_7 rfl 3 (by decide) (hts (.fieldLink RX4 9 "PageOne$Item" "count" "I") (zat q_wsX4_lastPiece k_wsX4_lastPiece 194 rfl (by decide +kernel))) (fun _ h9 => h9) rfl dX4_lastPiece_12 hgo
          ·
            rw [ht9.2] at hk_7
            exact va_get (D := (dC, dI)) (ci := 5) (v := .int cn) (C := RX6) (T := TX6) (N := 9) hx hb hts zl_X4_lastPiece_X6 hown hK hP kk_6 hk_7 rfl 3 (by decide) (hts (.fieldLink RX4 9 "PageOne$Item" "count" "I") (zat q_wsX4_lastPiece k_wsX4_lastPiece 194 rfl (by decide +kernel))) (fun _ h9 => h9) rfl dX4_lastPiece_12 hgo
          ·
            rw [ht9.2] at hk_7
            exact va_get (D := (dC, dI)) (ci := 6) (v := .int cn) (C := RX7) (T := TX7) (N := 8) hx hb hts zl_X4_lastPiece_X7 hown hK hP kk_6 hk_7 rfl 3 (by decide) (hts (.fieldLink RX4 9 "PageOne$Item" "count" "I") (zat q_wsX4_lastPiece k_wsX4_lastPiece 194 rfl (by decide +kernel))) (fun _ h9 => h9) rfl dX4_lastPiece_12 hgo
          ·
            rw [ht9.2] at hk_7
            exact va_get (D := (dC, dI)) (ci := 9) (v := .int cn) (C := RX10) (T := TX10) (N := 9) hx hb hts zl_X4_lastPiece_X10 hown hK hP kk_6 hk_7 rfl 3 (by decide) (hts (.fieldLink RX4 9 "PageOne$Item" "count" "I") (zat q_wsX4_lastPiece k_wsX4_lastPiece 194 rfl (by decide +kernel))) (fun _ h9 => h9) rfl dX4_lastPiece_12 hgo
        ·
          refine lv_iconst (v := 1) hx hb dX4_lastPiece_15 (by decide) ?_
          refine lv_isub hx hb dX4_lastPiece_16 ?_
          obtain ⟨kk_8, hk_9⟩ := pl_at hpa.1 hps
          refine va_aldq hx hb hK hP kk_8 5 hk_9 rfl (clt1 h6 hcb c_3).1 dX4_lastPiece_17 ?_
          obtain ⟨b_10, it_11, hg_12, hp_13, hlg_14⟩ := hpl ((cn - 1) : Int32).toNatClampNeg (clt1 h6 hcb c_3).2
          rw [hg_12]
          refine W.eq (g2 := F0 m 18 ls [.ref b_10]) rfl ?_
          refine lv_goto (tgt := 22) hx hb dX4_lastPiece_18 (by decide) ?_
          exact W.aret (v := .ref b_10) hx hb hr (Or.inl ⟨_, rfl⟩) (Or.inr ⟨_, rfl⟩) (fun t ht hW => ⟨some b_10, rfl, (by unfold s_last; rw [if_neg c_3]; exact hg_12.symm), ht⟩) (fun q h => absurd h List.not_mem_nil) dX4_lastPiece_22
noncomputable def s_sitS (P2 X2 Y2 D2 N2 p0 cn co : Int32) (Rm : Nat → Nat → Int32) (gw : Nat → Int32) : Int32 := if cn ≤ 0 then (bP (s_canT 0 N2 p0 co gw)) else (if P2 = (Rm (cn - 1 : Int32).toNatClampNeg 0) then (if (s_isBehind P2 X2 Y2 D2 N2 (Rm (cn - 1 : Int32).toNatClampNeg 0) (Rm (cn - 1 : Int32).toNatClampNeg 1) (Rm (cn - 1 : Int32).toNatClampNeg 2) (Rm (cn - 1 : Int32).toNatClampNeg 3) (Rm (cn - 1 : Int32).toNatClampNeg 4)) = 0 then 0 else (if 1 ≤ ((s_taken (cn - 1) cn Rm) - 0) then (bP (s_canT ((s_standing cn Rm) - 0) (N2 - 0) p0 co gw)) else 0)) else (if (s_isBehind P2 X2 Y2 D2 N2 (Rm (cn - 1 : Int32).toNatClampNeg 0) (Rm (cn - 1 : Int32).toNatClampNeg 1) (Rm (cn - 1 : Int32).toNatClampNeg 2) (Rm (cn - 1 : Int32).toNatClampNeg 3) (Rm (cn - 1 : Int32).toNatClampNeg 4)) = 0 then 0 else (if 1 ≤ ((s_taken (cn - 1) cn Rm) - 1) then (bP (s_canT ((s_standing cn Rm) - 1) (N2 - 1) p0 co gw)) else 0)))
set_option maxHeartbeats 4000000 in
set_option maxRecDepth 100000 in
theorem y_X10_maySit (l : Launch) (dC : Nat → ClassId) (dI : Nat → Nat → Nat) (q : Nat → ClassId) (h0 : Nat) (d : Nat → Nat) (k : Nat → Int32) (z : gS) (f : xF) (hI : xI q h0 d k z f) (a0 pa fa wd nm : Nat) (nu kd cn lz co : Int32) (ha0 : tg z a0 15) (hs : f a0 = .inr (9, [.int nu, .int kd, .ref pa, .int cn, .ref fa, .int lz, .ref wd, .int co, .ref nm])) (p0 p1 : Int32) (b0 : Nat) (iu : Option Nat) (P2 X2 Y2 D2 N2 : Int32) (hpb : pcS z b0 iu P2 X2 Y2 D2 N2) (n : Nat) (g : Nat → Option Nat) (Rm : Nat → Nat → Int32) (hpa : tg z pa 16) (hps : f pa = aR (q 5) n g) (h1 : 1 ≤ n) (h6 : n ≤ 6) (hcb : bw cn 0 (nI n) = true) (hpl : pcL z g cn.toNatClampNeg Rm) (gw : Nat → Int32) (hwd : tg z wd 18) (hwg : f wd = aI (q 0) 80 gw) (hco : bw co 0 80 = true) : Met l yX10_maySit wsX10_maySit ({ frames := 4, cells := 0, slots := 0, locals := 87 }) (va_Pc [.ref a0, .ref b0, .int p0, .int p1] (PX dC dI (va_pl z.1 f) (xT q))) (vp_Si (fun r => r = s_sitS P2 X2 Y2 D2 N2 p0 cn co Rm gw)) 0 0 (fun _ => False) := by
  refine Met.ofW (cc := cX10_maySit) (maxL := 6) (ret := (some .boolean)) (by decide) rfl ?_
  intro p e s m args below meth c s₁ B hml hv
  obtain ⟨rfl, ⟨hP, hK, hN⟩, hXN⟩ := hv
  have hx := B.exec
  have hb := B.bytes
  have hr := B.returns
  have hts := atoms_spec (ws := wsX10_maySit) B.pre
  have hown : s.vm.findClass RX10 = some m.cls := findClass_of_methodNamed B.named
  have hlocks := B.notSynchronized
  have hl := lv_entry ([.ref a0, .ref b0, .int p0, .int p1]) (n := 6) (Nat.le_of_ble_eq_true rfl)
  rw [lg_entry_eq]
  generalize (lg_sl ([.ref a0, .ref b0, .int p0, .int p1]) ++ List.replicate (6 - (lg_sl ([.ref a0, .ref b0, .int p0, .int p1])).length) Slot.unset).toArray = ls at hl ⊢
  have hl : lv_has ls 6 [(0, .ref a0), (1, .ref b0), (2, .int p0), (3, .int p1)] := hl
  refine lv_aload_n hx hb dX10_maySit_0 rfl (lv_at hl 0 rfl) ?_
  obtain ⟨kk_7, hk_8⟩ := pl_at ha0.1 hs
  refine va_csq (va_runU (As := []) (rest := []) ⟨hx, hb, hml, hown, hts⟩ (y_lastPiece l dC dI q h0 d k z f hI a0 (tg_itm ha0 (by decide)) nu kd cn pa fa [.int lz, .ref wd, .int co, .ref nm] (by rw [hs, ha0.2]; rfl) n g Rm hpa hps h1 h6 hcb hpl) (va_cwU 0 hts gX10_maySit_X4_lastPiece_u30X10 rfl rfl rfl rfl zu_43 ⟨Nat.le_of_ble_eq_true rfl, Nat.le_of_ble_eq_true rfl⟩) ⟨px_fb, va_recv hK hP (ci := 9) (q0 := kk_7) rfl hk_8, fun U hU hW => ⟨rfl, px_to hU hW hP hK hN hXN⟩⟩ rfl rfl hl.1 rfl (lv_room (Nat.le_of_ble_eq_true rfl)) dX10_maySit_1 ⟨Nat.le_of_ble_eq_true rfl, Nat.le_of_ble_eq_true rfl⟩).run (fun r hw => ?_)
  rcases Classical.em (cn ≤ 0) with hcz_1 | hcz_1
  ·
    obtain rfl : r = none := hw.trans (by unfold s_last; rw [if_pos hcz_1])
    refine W.eq (g2 := F0 m 4 ls [.null]) rfl ?_
    refine lv_astoreN (lv' := [(4, .null), (0, .ref a0), (1, .ref b0), (2, .int p0), (3, .int p1)]) hx hb dX10_maySit_4 hl (by decide) rfl (fun ls hl => ?_)
    refine lv_aloadN hx hb dX10_maySit_6 (lv_at hl 0 rfl) ?_
    refine lv_ifnonnullN hx hb dX10_maySit_8 ?_
    refine lv_aload_n hx hb dX10_maySit_11 rfl (lv_at hl 1 rfl) ?_
    refine lv_iconst (v := 0) hx hb dX10_maySit_12 (by decide) ?_
    refine lv_aload_n hx hb dX10_maySit_13 rfl (lv_at hl 2 rfl) ?_
    obtain ⟨kk_9, hk_10⟩ := pl_at hpb.1.1 (x_pcF hI hpb)
    refine va_get (D := (dC, dI)) (ci := 7) (v := .int N2) (C := RX8) (T := TX8) (N := 6) hx hb hts zl_X10_maySit_X8 hown hK hP kk_9 hk_10 rfl 5 (by decide) (hts (.fieldLink RX10 34 "PageOne$Piece" "h" "I") (zat q_wsX10_maySit k_wsX10_maySit 336 rfl (by decide +kernel))) (fun _ h9 => h9) rfl dX10_maySit_14 ?_
    refine lv_iload_n hx hb dX10_maySit_17 rfl (lv_at hl 3 rfl) ?_
    obtain ⟨kk_11, hk_12⟩ := pl_at ha0.1 hs
    refine vp_callSi (va_runV (As := [.int 0, .int N2, .int p0]) (rest := []) ⟨hx, hb, hml, hown, hts⟩ (y_canTake l dC dI q h0 d k z f hI a0 pa fa wd nm nu kd cn lz co ha0 hs 0 N2 p0 gw hwd hwg hco) (cwV 3 hts gX10_maySit_X10_canTake rfl rfl rfl zh_X10_canTake_40 ⟨Nat.le_of_ble_eq_true rfl, Nat.le_of_ble_eq_true rfl⟩) ⟨px_fb, va_recv hK hP (ci := 9) (q0 := kk_11) rfl hk_12, fun U hU hW => ⟨rfl, px_to hU hW hP hK hN hXN⟩⟩ rfl rfl hl.1 rfl (lv_room (Nat.le_of_ble_eq_true rfl)) dX10_maySit_18 ⟨Nat.le_of_ble_eq_true rfl, Nat.le_of_ble_eq_true rfl⟩).run (fun r hw => ?_)
    obtain rfl : r = (bP (s_canT 0 N2 p0 co gw)) := hw
    exact W.zret (v := (bP (s_canT 0 N2 p0 co gw))) hx hb hr (by first | decide | (rcases bP_01 _ with h | h <;> rw [h] <;> decide)) (fun t ht hW => ⟨_, rfl, (by unfold s_sitS; rw [if_pos hcz_1]), ht⟩) (fun q h => absurd h List.not_mem_nil) dX10_maySit_21
  ·
    obtain ⟨b_2, it_3, hg_4, hp_5, hlg_6⟩ := hpl (cn - 1 : Int32).toNatClampNeg (clt1 h6 hcb hcz_1).2
    obtain rfl : r = some b_2 := hw.trans (by unfold s_last; rw [if_neg hcz_1]; exact hg_4)
    refine W.eq (g2 := F0 m 4 ls [.ref b_2]) rfl ?_
    refine lv_astore (lv' := [(4, .ref b_2), (0, .ref a0), (1, .ref b0), (2, .int p0), (3, .int p1)]) hx hb dX10_maySit_4 hl (by decide) rfl (fun ls hl => ?_)
    refine lv_aload hx hb dX10_maySit_6 (lv_at hl 0 rfl) ?_
    refine lv_ifnonnull (tgt := 22) hx hb dX10_maySit_8 (by decide) ?_
    refine lv_aload_n hx hb dX10_maySit_22 rfl (lv_at hl 2 rfl) ?_
    obtain ⟨kk_13, hk_14⟩ := pl_at hpb.1.1 (x_pcF hI hpb)
    refine va_get (D := (dC, dI)) (ci := 7) (v := .int P2) (C := RX8) (T := TX8) (N := 6) hx hb hts zl_X10_maySit_X8 hown hK hP kk_13 hk_14 rfl 1 (by decide) (hts (.fieldLink RX10 42 "PageOne$Piece" "page" "I") (zat q_wsX10_maySit k_wsX10_maySit 319 rfl (by decide +kernel))) (fun _ h9 => h9) rfl dX10_maySit_23 ?_
    refine lv_aload hx hb dX10_maySit_26 (lv_at hl 0 rfl) ?_
    obtain ⟨kk_15, hk_16⟩ := pl_at hp_5.1.1 (x_pcF hI hp_5)
    refine va_get (D := (dC, dI)) (ci := 7) (v := .int (Rm (cn - 1 : Int32).toNatClampNeg 0)) (C := RX8) (T := TX8) (N := 6) hx hb hts zl_X10_maySit_X8 hown hK hP kk_15 hk_16 rfl 1 (by decide) (hts (.fieldLink RX10 42 "PageOne$Piece" "page" "I") (zat q_wsX10_maySit k_wsX10_maySit 319 rfl (by decide +kernel))) (fun _ h9 => h9) rfl dX10_maySit_28 ?_
    refine lv_icmp_ne (tgt := 38) hx hb dX10_maySit_31 (by decide) (fun c_17 => ?_) (fun c_17 => ?_)
    ·
      refine lv_iconst (v := 1) hx hb dX10_maySit_38 (by decide) ?_
      refine lv_istore (lv' := [(5, .int 1), (4, .ref b_2), (0, .ref a0), (1, .ref b0), (2, .int p0), (3, .int p1)]) hx hb dX10_maySit_39 hl (by decide) rfl (fun ls hl => ?_)
      refine lv_aload_n hx hb dX10_maySit_41 rfl (lv_at hl 3 rfl) ?_
      refine lv_aload hx hb dX10_maySit_42 (lv_at hl 1 rfl) ?_
      obtain ⟨kk_18, hk_19⟩ := pl_at hpb.1.1 (x_pcF hI hpb)
      refine vp_callSi (va_runV (As := [.ref b_2]) (rest := []) ⟨hx, hb, hml, hown, hts⟩ (y_isBehind l dC dI q h0 d k z f hI b0 iu P2 X2 Y2 D2 N2 hpb b_2 it_3 (Rm (cn - 1 : Int32).toNatClampNeg 0) (Rm (cn - 1 : Int32).toNatClampNeg 1) (Rm (cn - 1 : Int32).toNatClampNeg 2) (Rm (cn - 1 : Int32).toNatClampNeg 3) (Rm (cn - 1 : Int32).toNatClampNeg 4) hp_5) (cwV 1 hts gX10_maySit_X8_isBehind rfl rfl rfl zh_X8_isBehind_41 ⟨Nat.le_of_ble_eq_true rfl, Nat.le_of_ble_eq_true rfl⟩) ⟨px_fb, va_recv hK hP (ci := 7) (q0 := kk_18) rfl hk_19, fun U hU hW => ⟨rfl, px_to hU hW hP hK hN hXN⟩⟩ rfl rfl hl.1 rfl (lv_room (Nat.le_of_ble_eq_true rfl)) dX10_maySit_44 ⟨Nat.le_of_ble_eq_true rfl, Nat.le_of_ble_eq_true rfl⟩).run (fun r hw => ?_)
      obtain rfl : r = (s_isBehind P2 X2 Y2 D2 N2 (Rm (cn - 1 : Int32).toNatClampNeg 0) (Rm (cn - 1 : Int32).toNatClampNeg 1) (Rm (cn - 1 : Int32).toNatClampNeg 2) (Rm (cn - 1 : Int32).toNatClampNeg 3) (Rm (cn - 1 : Int32).toNatClampNeg 4)) := hw
      refine lv_if_eq (tgt := 67) hx hb dX10_maySit_47 (by decide) (fun c_20 => ?_) (fun c_20 => ?_)
      ·
        refine lv_iconst (v := 0) hx hb dX10_maySit_67 (by decide) ?_
        exact W.zret (v := 0) hx hb hr (by decide) (fun t ht hW => ⟨_, rfl, (by unfold s_sitS; rw [if_neg hcz_1, if_neg c_17, if_pos c_20]), ht⟩) (fun q h => absurd h List.not_mem_nil) dX10_maySit_68
      ·
        refine lv_aload_n hx hb dX10_maySit_50 rfl (lv_at hl 2 rfl) ?_
        refine lv_aload_n hx hb dX10_maySit_51 rfl (lv_at hl 2 rfl) ?_
        obtain ⟨kk_21, hk_22⟩ := pl_at ha0.1 hs
        refine va_get (D := (dC, dI)) (ci := 9) (v := .int cn) (C := RX10) (T := TX10) (N := 9) hx hb hts zl_X10_maySit_X10 hown hK hP kk_21 hk_22 rfl 3 (by decide) (hts (.fieldLink RX10 49 "PageOne$Story" "count" "I") (zat q_wsX10_maySit k_wsX10_maySit 195 rfl (by decide +kernel))) (fun x9 h9 => u_same (hts (.sameField "PageOne$Story" "PageOne$Item" "count" "I") (zat q_wsX10_maySit k_wsX10_maySit 196 rfl (by decide +kernel))) x9 h9) rfl dX10_maySit_52 ?_
        refine lv_iconst (v := 1) hx hb dX10_maySit_55 (by decide) ?_
        refine lv_isub hx hb dX10_maySit_56 ?_
        obtain ⟨kk_23, hk_24⟩ := pl_at ha0.1 hs
        refine vp_callSi (va_runV (As := [.int (cn - 1)]) (rest := []) ⟨hx, hb, hml, hown, hts⟩ (y_takenBy l dC dI q h0 d k z f hI a0 pa fa wd nm nu kd cn lz co ha0 hs (cn - 1) n g Rm hpa hps h1 h6 hcb hpl) (cwV 1 hts gX10_maySit_X10_takenBy rfl rfl rfl zh_X10_takenBy_38 ⟨Nat.le_of_ble_eq_true rfl, Nat.le_of_ble_eq_true rfl⟩) ⟨px_fb, va_recv hK hP (ci := 9) (q0 := kk_23) rfl hk_24, fun U hU hW => ⟨rfl, px_to hU hW hP hK hN hXN⟩⟩ rfl rfl hl.1 rfl (lv_room (Nat.le_of_ble_eq_true rfl)) dX10_maySit_57 ⟨Nat.le_of_ble_eq_true rfl, Nat.le_of_ble_eq_true rfl⟩).run (fun r hw => ?_)
        obtain rfl : r = (s_taken (cn - 1) cn Rm) := hw
        refine lv_iload hx hb dX10_maySit_60 (lv_at hl 0 rfl) ?_
        refine lv_isub hx hb dX10_maySit_62 ?_
        refine lv_iconst (v := 1) hx hb dX10_maySit_63 (by decide) ?_
        refine lv_icmp_ge (tgt := 69) hx hb dX10_maySit_64 (by decide) (fun c_25 => ?_) (fun c_25 => ?_)
        ·
          refine lv_aload_n hx hb dX10_maySit_69 rfl (lv_at hl 2 rfl) ?_
          refine lv_aload_n hx hb dX10_maySit_70 rfl (lv_at hl 2 rfl) ?_
          obtain ⟨kk_26, hk_27⟩ := pl_at ha0.1 hs
          refine vp_callSi (va_runV (As := []) (rest := [.ref a0]) ⟨hx, hb, hml, hown, hts⟩ (y_standing l dC dI q h0 d k z f hI a0 pa fa wd nm nu kd cn lz co ha0 hs n g Rm hpa hps h1 h6 hcb hpl) (cwV 0 hts gX10_maySit_X10_standing rfl rfl rfl zh_X10_standing_42 ⟨Nat.le_of_ble_eq_true rfl, Nat.le_of_ble_eq_true rfl⟩) ⟨px_fb, va_recv hK hP (ci := 9) (q0 := kk_26) rfl hk_27, fun U hU hW => ⟨rfl, px_to hU hW hP hK hN hXN⟩⟩ rfl rfl hl.1 rfl (lv_room (Nat.le_of_ble_eq_true rfl)) dX10_maySit_71 ⟨Nat.le_of_ble_eq_true rfl, Nat.le_of_ble_eq_true rfl⟩).run (fun r hw => ?_)
          obtain rfl : r = (s_standing cn Rm) := hw
          refine lv_iload hx hb dX10_maySit_74 (lv_at hl 0 rfl) ?_
          refine lv_isub hx hb dX10_maySit_76 ?_
          refine lv_aload_n hx hb dX10_maySit_77 rfl (lv_at hl 3 rfl) ?_
          obtain ⟨kk_28, hk_29⟩ := pl_at hpb.1.1 (x_pcF hI hpb)
          refine va_get (D := (dC, dI)) (ci := 7) (v := .int N2) (C := RX8) (T := TX8) (N := 6) hx hb hts zl_X10_maySit_X8 hown hK hP kk_28 hk_29 rfl 5 (by decide) (hts (.fieldLink RX10 34 "PageOne$Piece" "h" "I") (zat q_wsX10_maySit k_wsX10_maySit 336 rfl (by decide +kernel))) (fun _ h9 => h9) rfl dX10_maySit_78 ?_
          refine lv_iload hx hb dX10_maySit_81 (lv_at hl 0 rfl) ?_
          refine lv_isub hx hb dX10_maySit_83 ?_
          refine lv_iload_n hx hb dX10_maySit_84 rfl (lv_at hl 4 rfl) ?_
          obtain ⟨kk_30, hk_31⟩ := pl_at ha0.1 hs
          refine vp_callSi (va_runV (As := [.int ((s_standing cn Rm) - 1), .int (N2 - 1), .int p0]) (rest := []) ⟨hx, hb, hml, hown, hts⟩ (y_canTake l dC dI q h0 d k z f hI a0 pa fa wd nm nu kd cn lz co ha0 hs ((s_standing cn Rm) - 1) (N2 - 1) p0 gw hwd hwg hco) (cwV 3 hts gX10_maySit_X10_canTake rfl rfl rfl zh_X10_canTake_40 ⟨Nat.le_of_ble_eq_true rfl, Nat.le_of_ble_eq_true rfl⟩) ⟨px_fb, va_recv hK hP (ci := 9) (q0 := kk_30) rfl hk_31, fun U hU hW => ⟨rfl, px_to hU hW hP hK hN hXN⟩⟩ rfl rfl hl.1 rfl (lv_room (Nat.le_of_ble_eq_true rfl)) dX10_maySit_85 ⟨Nat.le_of_ble_eq_true rfl, Nat.le_of_ble_eq_true rfl⟩).run (fun r hw => ?_)
          obtain rfl : r = (bP (s_canT ((s_standing cn Rm) - 1) (N2 - 1) p0 co gw)) := hw
          exact W.zret (v := (bP (s_canT ((s_standing cn Rm) - 1) (N2 - 1) p0 co gw))) hx hb hr (by first | decide | (rcases bP_01 _ with h | h <;> rw [h] <;> decide)) (fun t ht hW => ⟨_, rfl, (by unfold s_sitS; rw [if_neg hcz_1, if_neg c_17, if_neg c_20, if_pos c_25]), ht⟩) (fun q h => absurd h List.not_mem_nil) dX10_maySit_88
        ·
          refine lv_iconst (v := 0) hx hb dX10_maySit_67 (by decide) ?_
          exact W.zret (v := 0) hx hb hr (by decide) (fun t ht hW => ⟨_, rfl, (by unfold s_sitS; rw [if_neg hcz_1, if_neg c_17, if_neg c_20, if_neg c_25]), ht⟩) (fun q h => absurd h List.not_mem_nil) dX10_maySit_68
    ·
      refine lv_iconst (v := 0) hx hb dX10_maySit_34 (by decide) ?_
      refine lv_goto (tgt := 39) hx hb dX10_maySit_35 (by decide) ?_
      refine lv_istore (lv' := [(5, .int 0), (4, .ref b_2), (0, .ref a0), (1, .ref b0), (2, .int p0), (3, .int p1)]) hx hb dX10_maySit_39 hl (by decide) rfl (fun ls hl => ?_)
      refine lv_aload_n hx hb dX10_maySit_41 rfl (lv_at hl 3 rfl) ?_
      refine lv_aload hx hb dX10_maySit_42 (lv_at hl 1 rfl) ?_
      obtain ⟨kk_32, hk_33⟩ := pl_at hpb.1.1 (x_pcF hI hpb)
      refine vp_callSi (va_runV (As := [.ref b_2]) (rest := []) ⟨hx, hb, hml, hown, hts⟩ (y_isBehind l dC dI q h0 d k z f hI b0 iu P2 X2 Y2 D2 N2 hpb b_2 it_3 (Rm (cn - 1 : Int32).toNatClampNeg 0) (Rm (cn - 1 : Int32).toNatClampNeg 1) (Rm (cn - 1 : Int32).toNatClampNeg 2) (Rm (cn - 1 : Int32).toNatClampNeg 3) (Rm (cn - 1 : Int32).toNatClampNeg 4) hp_5) (cwV 1 hts gX10_maySit_X8_isBehind rfl rfl rfl zh_X8_isBehind_41 ⟨Nat.le_of_ble_eq_true rfl, Nat.le_of_ble_eq_true rfl⟩) ⟨px_fb, va_recv hK hP (ci := 7) (q0 := kk_32) rfl hk_33, fun U hU hW => ⟨rfl, px_to hU hW hP hK hN hXN⟩⟩ rfl rfl hl.1 rfl (lv_room (Nat.le_of_ble_eq_true rfl)) dX10_maySit_44 ⟨Nat.le_of_ble_eq_true rfl, Nat.le_of_ble_eq_true rfl⟩).run (fun r hw => ?_)
      obtain rfl : r = (s_isBehind P2 X2 Y2 D2 N2 (Rm (cn - 1 : Int32).toNatClampNeg 0) (Rm (cn - 1 : Int32).toNatClampNeg 1) (Rm (cn - 1 : Int32).toNatClampNeg 2) (Rm (cn - 1 : Int32).toNatClampNeg 3) (Rm (cn - 1 : Int32).toNatClampNeg 4)) := hw
      refine lv_if_eq (tgt := 67) hx hb dX10_maySit_47 (by decide) (fun c_34 => ?_) (fun c_34 => ?_)
      ·
        refine lv_iconst (v := 0) hx hb dX10_maySit_67 (by decide) ?_
        exact W.zret (v := 0) hx hb hr (by decide) (fun t ht hW => ⟨_, rfl, (by unfold s_sitS; rw [if_neg hcz_1, if_pos c_17, if_pos c_34]), ht⟩) (fun q h => absurd h List.not_mem_nil) dX10_maySit_68
      ·
        refine lv_aload_n hx hb dX10_maySit_50 rfl (lv_at hl 2 rfl) ?_
        refine lv_aload_n hx hb dX10_maySit_51 rfl (lv_at hl 2 rfl) ?_
        obtain ⟨kk_35, hk_36⟩ := pl_at ha0.1 hs
        refine va_get (D := (dC, dI)) (ci := 9) (v := .int cn) (C := RX10) (T := TX10) (N := 9) hx hb hts zl_X10_maySit_X10 hown hK hP kk_35 hk_36 rfl 3 (by decide) (hts (.fieldLink RX10 49 "PageOne$Story" "count" "I") (zat q_wsX10_maySit k_wsX10_maySit 195 rfl (by decide +kernel))) (fun x9 h9 => u_same (hts (.sameField "PageOne$Story" "PageOne$Item" "count" "I") (zat q_wsX10_maySit k_wsX10_maySit 196 rfl (by decide +kernel))) x9 h9) rfl dX10_maySit_52 ?_
        refine lv_iconst (v := 1) hx hb dX10_maySit_55 (by decide) ?_
        refine lv_isub hx hb dX10_maySit_56 ?_
        obtain ⟨kk_37, hk_38⟩ := pl_at ha0.1 hs
        refine vp_callSi (va_runV (As := [.int (cn - 1)]) (rest := []) ⟨hx, hb, hml, hown, hts⟩ (y_takenBy l dC dI q h0 d k z f hI a0 pa fa wd nm nu kd cn lz co ha0 hs (cn - 1) n g Rm hpa hps h1 h6 hcb hpl) (cwV 1 hts gX10_maySit_X10_takenBy rfl rfl rfl zh_X10_takenBy_38 ⟨Nat.le_of_ble_eq_true rfl, Nat.le_of_ble_eq_true rfl⟩) ⟨px_fb, va_recv hK hP (ci := 9) (q0 := kk_37) rfl hk_38, fun U hU hW => ⟨rfl, px_to hU hW hP hK hN hXN⟩⟩ rfl rfl hl.1 rfl (lv_room (Nat.le_of_ble_eq_true rfl)) dX10_maySit_57 ⟨Nat.le_of_ble_eq_true rfl, Nat.le_of_ble_eq_true rfl⟩).run (fun r hw => ?_)
        obtain rfl : r = (s_taken (cn - 1) cn Rm) := hw
        refine lv_iload hx hb dX10_maySit_60 (lv_at hl 0 rfl) ?_
        refine lv_isub hx hb dX10_maySit_62 ?_
        refine lv_iconst (v := 1) hx hb dX10_maySit_63 (by decide) ?_
        refine lv_icmp_ge (tgt := 69) hx hb dX10_maySit_64 (by decide) (fun c_39 => ?_) (fun c_39 => ?_)
        ·
          refine lv_aload_n hx hb dX10_maySit_69 rfl (lv_at hl 2 rfl) ?_
          refine lv_aload_n hx hb dX10_maySit_70 rfl (lv_at hl 2 rfl) ?_
          obtain ⟨kk_40, hk_41⟩ := pl_at ha0.1 hs
          refine vp_callSi (va_runV (As := []) (rest := [.ref a0]) ⟨hx, hb, hml, hown, hts⟩ (y_standing l dC dI q h0 d k z f hI a0 pa fa wd nm nu kd cn lz co ha0 hs n g Rm hpa hps h1 h6 hcb hpl) (cwV 0 hts gX10_maySit_X10_standing rfl rfl rfl zh_X10_standing_42 ⟨Nat.le_of_ble_eq_true rfl, Nat.le_of_ble_eq_true rfl⟩) ⟨px_fb, va_recv hK hP (ci := 9) (q0 := kk_40) rfl hk_41, fun U hU hW => ⟨rfl, px_to hU hW hP hK hN hXN⟩⟩ rfl rfl hl.1 rfl (lv_room (Nat.le_of_ble_eq_true rfl)) dX10_maySit_71 ⟨Nat.le_of_ble_eq_true rfl, Nat.le_of_ble_eq_true rfl⟩).run (fun r hw => ?_)
          obtain rfl : r = (s_standing cn Rm) := hw
          refine lv_iload hx hb dX10_maySit_74 (lv_at hl 0 rfl) ?_
          refine lv_isub hx hb dX10_maySit_76 ?_
          refine lv_aload_n hx hb dX10_maySit_77 rfl (lv_at hl 3 rfl) ?_
          obtain ⟨kk_42, hk_43⟩ := pl_at hpb.1.1 (x_pcF hI hpb)
          refine va_get (D := (dC, dI)) (ci := 7) (v := .int N2) (C := RX8) (T := TX8) (N := 6) hx hb hts zl_X10_maySit_X8 hown hK hP kk_42 hk_43 rfl 5 (by decide) (hts (.fieldLink RX10 34 "PageOne$Piece" "h" "I") (zat q_wsX10_maySit k_wsX10_maySit 336 rfl (by decide +kernel))) (fun _ h9 => h9) rfl dX10_maySit_78 ?_
          refine lv_iload hx hb dX10_maySit_81 (lv_at hl 0 rfl) ?_
          refine lv_isub hx hb dX10_maySit_83 ?_
          refine lv_iload_n hx hb dX10_maySit_84 rfl (lv_at hl 4 rfl) ?_
          obtain ⟨kk_44, hk_45⟩ := pl_at ha0.1 hs
          refine vp_callSi (va_runV (As := [.int ((s_standing cn Rm) - 0), .int (N2 - 0), .int p0]) (rest := []) ⟨hx, hb, hml, hown, hts⟩ (y_canTake l dC dI q h0 d k z f hI a0 pa fa wd nm nu kd cn lz co ha0 hs ((s_standing cn Rm) - 0) (N2 - 0) p0 gw hwd hwg hco) (cwV 3 hts gX10_maySit_X10_canTake rfl rfl rfl zh_X10_canTake_40 ⟨Nat.le_of_ble_eq_true rfl, Nat.le_of_ble_eq_true rfl⟩) ⟨px_fb, va_recv hK hP (ci := 9) (q0 := kk_44) rfl hk_45, fun U hU hW => ⟨rfl, px_to hU hW hP hK hN hXN⟩⟩ rfl rfl hl.1 rfl (lv_room (Nat.le_of_ble_eq_true rfl)) dX10_maySit_85 ⟨Nat.le_of_ble_eq_true rfl, Nat.le_of_ble_eq_true rfl⟩).run (fun r hw => ?_)
          obtain rfl : r = (bP (s_canT ((s_standing cn Rm) - 0) (N2 - 0) p0 co gw)) := hw
          exact W.zret (v := (bP (s_canT ((s_standing cn Rm) - 0) (N2 - 0) p0 co gw))) hx hb hr (by first | decide | (rcases bP_01 _ with h | h <;> rw [h] <;> decide)) (fun t ht hW => ⟨_, rfl, (by unfold s_sitS; rw [if_neg hcz_1, if_pos c_17, if_neg c_34, if_pos c_39]), ht⟩) (fun q h => absurd h List.not_mem_nil) dX10_maySit_88
        ·
          refine lv_iconst (v := 0) hx hb dX10_maySit_67 (by decide) ?_
          exact W.zret (v := 0) hx hb hr (by decide) (fun t ht hW => ⟨_, rfl, (by unfold s_sitS; rw [if_neg hcz_1, if_pos c_17, if_neg c_34, if_neg c_39]), ht⟩) (fun q h => absurd h List.not_mem_nil) dX10_maySit_68
