set_option maxHeartbeats 4000000 in
set_option maxRecDepth 100000 in
theorem x_free_in {p : Program} {l : Launch} {e : Env} {R : Room} {s : State} {m : MethodId} {args : Array Value} {below : List Frame} {meth : Method} {c : Code} {Q : State → Prop} {cells slots : Nat} {dC : Nat → ClassId} {dI : Nat → Nat → Nat} {q : Nat → ClassId} {h0 : Nat} {d : Nat → Nat} {k : Nat → Int32} {z : gS} {f : xF} {H : Heap} {locs : List Loc} (hI : xI q h0 d k z f) (hx : p.tables.exec = Jvm.exec) (hb : c.code = cX9_isFree) (hml : c.maxLocals = 4) (hts : ∀ w ∈ wsX9_isFree, w.before args s = true) (hown : s.vm.findClass RX9 = some m.cls) (hN : NN s) (hXN : XN s) (hK : va_K (dC, dI) vwCl (xT q) s) (hRf : 3 ≤ R.frames) (hRl : 64 ≤ R.locals) (hRc : cells ≤ R.cells) (hRs : slots ≤ R.slots) (hP : va_P (dC, dI) vwCl (va_pl z.1 f) H) {a0 : Nat} {c9 : Int32} {b0 : Nat} {it : Option Nat} {P : Int32} {X9 Y9 D9 N9 : Nat} (ha0 : tg z a0 7) (hpc : pcS z b0 it P (nI X9) (nI Y9) (nI D9) (nI N9)) (hX9 : X9 ≤ 7) (hY9 : Y9 ≤ 60) (hD9 : D9 ≤ 8) (hN9 : N9 ≤ 60) (kx99 : ∀ (ls : Array Slot), lv_has ls 4 [(2, .int c9), (0, .ref a0), (1, .ref b0)] → W p l e R s m args below meth c H locs cells slots Q (F0 m 99 ls [])) (kx91 : ∀ (ls : Array Slot), lv_has ls 4 [(0, .ref a0), (1, .ref b0)] → W p l e R s m args below meth c H locs cells slots Q (F0 m 91 ls [])) : ∀ (kk i : Nat) (ls : Array Slot), i ≤ N9 → N9 - i < kk → lv_has ls 4 [(3, .int (nI (Y9 + i))), (2, .int c9), (0, .ref a0), (1, .ref b0)] → W p l e R s m args below meth c H locs cells slots Q (F0 m 67 ls []) := by
  intro kk
  induction kk with
  | zero => intro i ls h1 h2; exact absurd h2 (Nat.not_lt_zero _)
  | succ kk ih =>
    intro i ls hi hkk hl
    refine lv_iload_n hx hb dX9_isFree_67 rfl (lv_at hl 0 rfl) ?_
    refine lv_aload_n hx hb dX9_isFree_68 rfl (lv_at hl 3 rfl) ?_
    obtain ⟨kk_1, hk_2⟩ := pl_at hpc.1.1 (x_pcF hI hpc)
    refine va_get (D := (dC, dI)) (ci := 7) (v := .int (nI Y9)) (C := RX8) (T := TX8) (N := 6) hx hb hts (by decide +kernel) hown hK hP kk_1 hk_2 rfl 3 (by decide) (hts (.fieldLink RX9 57 "PageOne$Piece" "line" "I") (by decide +kernel)) (fun _ h9 => h9) rfl dX9_isFree_69 ?_
    refine lv_aload_n hx hb dX9_isFree_72 rfl (lv_at hl 3 rfl) ?_
    obtain ⟨kk_3, hk_4⟩ := pl_at hpc.1.1 (x_pcF hI hpc)
    refine va_get (D := (dC, dI)) (ci := 7) (v := .int (nI N9)) (C := RX8) (T := TX8) (N := 6) hx hb hts (by decide +kernel) hown hK hP kk_3 hk_4 rfl 5 (by decide) (hts (.fieldLink RX9 47 "PageOne$Piece" "h" "I") (by decide +kernel)) (fun _ h9 => h9) rfl dX9_isFree_73 ?_
    refine lv_iadd hx hb dX9_isFree_76 ?_
    refine lv_icmp_ge (tgt := 99) hx hb dX9_isFree_77 (by decide) (fun c_5 => ?_) (fun c_5 => ?_)
    ·
      have hie : i = N9 := by have := lp_eq (nI_add Y9 N9) (by omega) (by omega) c_5; omega
      exact kx99 ls (lv_sub hl [1, 2, 3] rfl)
    ·
      have hlt : i < N9 := by have := lp_lt (nI_add Y9 N9) (by omega) (by omega) c_5; omega
      refine lv_aload_n hx hb dX9_isFree_80 rfl (lv_at hl 2 rfl) ?_
      refine lv_iload_n hx hb dX9_isFree_81 rfl (lv_at hl 1 rfl) ?_
      refine lv_iload_n hx hb dX9_isFree_82 rfl (lv_at hl 0 rfl) ?_
      obtain ⟨la_6, ca_7, m_8, dd_9, ii_10, hs_11, ht_12, ht_13⟩ := x_sh hI ha0
      obtain ⟨kk_14, hk_15⟩ := pl_at ha0.1 hs_11
      refine vp_callSi (va_runV (As := [.int c9, .int (nI (Y9 + i))]) (rest := []) ⟨hx, hb, hml, hown, hts⟩ (x_at l dC dI q h0 d k z f hI a0 c9 (nI (Y9 + i)) ha0) (cwV 2 hts gX9_isFree_X9_at rfl rfl rfl (by decide +kernel) ⟨Nat.le_trans (Nat.le_of_ble_eq_true rfl) hRf, Nat.le_trans (Nat.le_of_ble_eq_true rfl) hRl⟩) ⟨px_fb, va_recv hK hP (ci := 8) (q0 := kk_14) rfl hk_15, fun U hU hW => ⟨rfl, px_to hU hW hP hK hN hXN⟩⟩ rfl rfl hl.1 rfl (lv_room (Nat.le_of_ble_eq_true rfl)) dX9_isFree_83 ⟨hRc, hRs⟩).run (fun r hw => ?_)
      generalize r = zr_16 at hw ⊢
      have hzr_16 := hw
      refine lv_bipush (v := (-2)) hx hb dX9_isFree_86 (by decide) ?_
      refine lv_icmp_eq (tgt := 93) hx hb dX9_isFree_88 (by decide) (fun c_17 => ?_) (fun c_17 => ?_)
      ·
        refine lv_iinc (v := (nI (Y9 + i + 1))) (lv' := [(3, .int (nI (Y9 + i + 1))), (2, .int c9), (0, .ref a0), (1, .ref b0)]) hx hb dX9_isFree_93 hl (k := 0) rfl (nI_1 _) (by decide) rfl (fun ls hl => ?_)
        refine lv_goto (tgt := 67) hx hb dX9_isFree_96 (by decide) ?_
        exact ih (i + 1) ls (by omega) (by omega) (lv_sub hl [0, 1, 2, 3] rfl)
      ·
        exact kx91 ls (lv_sub hl [2, 3] rfl)
set_option maxHeartbeats 4000000 in
set_option maxRecDepth 100000 in
theorem x_free_out {p : Program} {l : Launch} {e : Env} {R : Room} {s : State} {m : MethodId} {args : Array Value} {below : List Frame} {meth : Method} {c : Code} {Q : State → Prop} {cells slots : Nat} {dC : Nat → ClassId} {dI : Nat → Nat → Nat} {q : Nat → ClassId} {h0 : Nat} {d : Nat → Nat} {k : Nat → Int32} {z : gS} {f : xF} {H : Heap} {locs : List Loc} (hI : xI q h0 d k z f) (hx : p.tables.exec = Jvm.exec) (hb : c.code = cX9_isFree) (hml : c.maxLocals = 4) (hts : ∀ w ∈ wsX9_isFree, w.before args s = true) (hown : s.vm.findClass RX9 = some m.cls) (hN : NN s) (hXN : XN s) (hK : va_K (dC, dI) vwCl (xT q) s) (hRf : 3 ≤ R.frames) (hRl : 64 ≤ R.locals) (hRc : cells ≤ R.cells) (hRs : slots ≤ R.slots) (hP : va_P (dC, dI) vwCl (va_pl z.1 f) H) {a0 : Nat} {b0 : Nat} {it : Option Nat} {P : Int32} {X9 Y9 D9 N9 : Nat} (ha0 : tg z a0 7) (hpc : pcS z b0 it P (nI X9) (nI Y9) (nI D9) (nI N9)) (hX9 : X9 ≤ 7) (hY9 : Y9 ≤ 60) (hD9 : D9 ≤ 8) (hN9 : N9 ≤ 60) (kx105 : ∀ (ls : Array Slot), lv_has ls 4 [(0, .ref a0), (1, .ref b0)] → W p l e R s m args below meth c H locs cells slots Q (F0 m 105 ls [])) (kx91 : ∀ (ls : Array Slot), lv_has ls 4 [(0, .ref a0), (1, .ref b0)] → W p l e R s m args below meth c H locs cells slots Q (F0 m 91 ls [])) : ∀ (kk i : Nat) (ls : Array Slot), i ≤ D9 → D9 - i < kk → lv_has ls 4 [(2, .int (nI (X9 + i))), (0, .ref a0), (1, .ref b0)] → W p l e R s m args below meth c H locs cells slots Q (F0 m 49 ls []) := by
  intro kk
  induction kk with
  | zero => intro i ls h1 h2; exact absurd h2 (Nat.not_lt_zero _)
  | succ kk ih =>
    intro i ls hi hkk hl
    refine lv_iload_n hx hb dX9_isFree_49 rfl (lv_at hl 0 rfl) ?_
    refine lv_aload_n hx hb dX9_isFree_50 rfl (lv_at hl 2 rfl) ?_
    obtain ⟨kk_1, hk_2⟩ := pl_at hpc.1.1 (x_pcF hI hpc)
    refine va_get (D := (dC, dI)) (ci := 7) (v := .int (nI X9)) (C := RX8) (T := TX8) (N := 6) hx hb hts (by decide +kernel) hown hK hP kk_1 hk_2 rfl 2 (by decide) (hts (.fieldLink RX9 54 "PageOne$Piece" "column" "I") (by decide +kernel)) (fun _ h9 => h9) rfl dX9_isFree_51 ?_
    refine lv_aload_n hx hb dX9_isFree_54 rfl (lv_at hl 2 rfl) ?_
    obtain ⟨kk_3, hk_4⟩ := pl_at hpc.1.1 (x_pcF hI hpc)
    refine va_get (D := (dC, dI)) (ci := 7) (v := .int (nI D9)) (C := RX8) (T := TX8) (N := 6) hx hb hts (by decide +kernel) hown hK hP kk_3 hk_4 rfl 4 (by decide) (hts (.fieldLink RX9 42 "PageOne$Piece" "w" "I") (by decide +kernel)) (fun _ h9 => h9) rfl dX9_isFree_55 ?_
    refine lv_iadd hx hb dX9_isFree_58 ?_
    refine lv_icmp_ge (tgt := 105) hx hb dX9_isFree_59 (by decide) (fun c_5 => ?_) (fun c_5 => ?_)
    ·
      have hie : i = D9 := by have := lp_eq (nI_add X9 D9) (by omega) (by omega) c_5; omega
      exact kx105 ls (lv_sub hl [1, 2] rfl)
    ·
      have hlt : i < D9 := by have := lp_lt (nI_add X9 D9) (by omega) (by omega) c_5; omega
      refine lv_aload_n hx hb dX9_isFree_62 rfl (lv_at hl 2 rfl) ?_
      obtain ⟨kk_6, hk_7⟩ := pl_at hpc.1.1 (x_pcF hI hpc)
      refine va_get (D := (dC, dI)) (ci := 7) (v := .int (nI Y9)) (C := RX8) (T := TX8) (N := 6) hx hb hts (by decide +kernel) hown hK hP kk_6 hk_7 rfl 3 (by decide) (hts (.fieldLink RX9 57 "PageOne$Piece" "line" "I") (by decide +kernel)) (fun _ h9 => h9) rfl dX9_isFree_63 ?_
      refine lv_istore_n (lv' := [(3, .int (nI Y9)), (2, .int (nI (X9 + i))), (0, .ref a0), (1, .ref b0)]) hx hb dX9_isFree_66 rfl hl (by decide) rfl (fun ls hl => ?_)
      refine x_free_in (c9 := nI (X9 + i)) hI hx hb hml hts hown hN hXN hK hRf hRl hRc hRs hP ha0 hpc hX9 hY9 hD9 hN9 (fun ls hl => ?_) (fun ls hl => kx91 ls hl) (N9 + 1) 0 ls (Nat.zero_le _) (by omega) (lv_sub hl [0, 1, 2, 3] rfl)
      refine lv_iinc (v := (nI (X9 + i + 1))) (lv' := [(2, .int (nI (X9 + i + 1))), (0, .ref a0), (1, .ref b0)]) hx hb dX9_isFree_99 hl (k := 0) rfl (nI_1 _) (by decide) rfl (fun ls hl => ?_)
      refine lv_goto (tgt := 49) hx hb dX9_isFree_102 (by decide) ?_
      exact ih (i + 1) ls (by omega) (by omega) (lv_sub hl [0, 1, 2] rfl)
theorem sq_lg {X Y D N : Int32} (h1 : (bw D 1 8 && bw N 1 60) = true) (h2 : bw X 0 7 = true) (h3 : bw Y 0 (60 - N) = true) : bw X 0 7 = true ∧ bw Y 0 60 = true ∧ bw D 0 8 = true ∧ bw N 0 60 = true := by
  obtain ⟨a, b⟩ := band h1
  have e60 : (60 : Int32).toInt = 60 := rfl
  have e8 : (8 : Int32).toInt = 8 := rfl
  have a1 := bw_iff.mp a
  have b1 := bw_iff.mp b
  have c1 := bw_iff.mp h3
  rw [i1, e8] at a1
  rw [i1, e60] at b1
  rw [i0, subI (by rw [e60]; omega) (by rw [e60]; omega), e60] at c1
  refine ⟨h2, ?_, ?_, ?_⟩
  · rw [bw_iff, i0, e60]; omega
  · rw [bw_iff, i0, e8]; omega
  · rw [bw_iff, i0, e60]; omega
set_option maxHeartbeats 4000000 in
set_option maxRecDepth 100000 in
theorem x_isFree (l : Launch) (dC : Nat → ClassId) (dI : Nat → Nat → Nat) (q : Nat → ClassId) (h0 : Nat) (d : Nat → Nat) (k : Nat → Int32) (z : gS) (f : xF) (hI : xI q h0 d k z f) (a0 : Nat) (ha0 : tg z a0 7) (b0 : Nat) (it : Option Nat) (P X Y D N : Int32) (hpc : pcS z b0 it P X Y D N) : Met l yX9_isFree wsX9_isFree ({ frames := 3, cells := 0, slots := 0, locals := 64 }) (va_Pc [.ref a0, .ref b0] (PX dC dI (va_pl z.1 f) (xT q))) (vp_Si (fun r => r = 0 ∨ (r = 1 ∧ bw X 0 7 = true ∧ bw Y 0 60 = true ∧ bw D 0 8 = true ∧ bw N 0 60 = true))) 0 0 (fun _ => False) := by
  refine Met.ofW (cc := cX9_isFree) (maxL := 4) (ret := (some .boolean)) (by decide) rfl ?_
  intro p e s m args below meth c s₁ B hml hv
  obtain ⟨rfl, ⟨hP, hK, hN⟩, hXN⟩ := hv
  have hx := B.exec
  have hb := B.bytes
  have hr := B.returns
  have hts := atoms_spec (ws := wsX9_isFree) B.pre
  have hown : s.vm.findClass RX9 = some m.cls := findClass_of_methodNamed B.named
  have hlocks := B.notSynchronized
  have hl := lv_entry ([.ref a0, .ref b0]) (n := 4) (Nat.le_of_ble_eq_true rfl)
  rw [lg_entry_eq]
  generalize (lg_sl ([.ref a0, .ref b0]) ++ List.replicate (4 - (lg_sl ([.ref a0, .ref b0])).length) Slot.unset).toArray = ls at hl ⊢
  have hl : lv_has ls 4 [(0, .ref a0), (1, .ref b0)] := hl
  refine lv_aload_n hx hb dX9_isFree_0 rfl (lv_at hl 1 rfl) ?_
  obtain ⟨kk_1, hk_2⟩ := pl_at hpc.1.1 (x_pcF hI hpc)
  refine va_get (D := (dC, dI)) (ci := 7) (v := .int D) (C := RX8) (T := TX8) (N := 6) hx hb hts (by decide +kernel) hown hK hP kk_1 hk_2 rfl 4 (by decide) (hts (.fieldLink RX9 42 "PageOne$Piece" "w" "I") (by decide +kernel)) (fun _ h9 => h9) rfl dX9_isFree_1 ?_
  refine lv_aload_n hx hb dX9_isFree_4 rfl (lv_at hl 1 rfl) ?_
  obtain ⟨kk_3, hk_4⟩ := pl_at hpc.1.1 (x_pcF hI hpc)
  refine va_get (D := (dC, dI)) (ci := 7) (v := .int N) (C := RX8) (T := TX8) (N := 6) hx hb hts (by decide +kernel) hown hK hP kk_3 hk_4 rfl 5 (by decide) (hts (.fieldLink RX9 47 "PageOne$Piece" "h" "I") (by decide +kernel)) (fun _ h9 => h9) rfl dX9_isFree_5 ?_
  refine vp_callSi (va_runSN (As := [.int D, .int N]) (rest := []) ⟨hx, hb, hml, hown, hts⟩ (x_isSquare l dC dI D N) ⟨va_cnB (host := "PageOne") 2 hts gX9_isFree_X11_isSquare_n50 rfl rfl rfl hN.n_RX9_50 (hts (.initialized RX11) (by decide +kernel)) (by decide +kernel) ⟨Nat.le_of_ble_eq_true rfl, Nat.le_of_ble_eq_true rfl⟩, hts (.static yX11_isSquare) (by decide +kernel), trivial⟩ ⟨pw_fb, fun U hU hW => ⟨rfl, pw_to hU hW (hP.sub (ws' := []) [] rfl) (hK.sub (tys' := []) [] rfl) hN⟩⟩ rfl rfl hl.1 rfl (lv_room (Nat.le_of_ble_eq_true rfl)) dX9_isFree_8 ⟨Nat.le_of_ble_eq_true rfl, Nat.le_of_ble_eq_true rfl⟩).run (fun r hw => ?_)
  rcases Bool.eq_false_or_eq_true ((bw D 1 8 && bw N 1 60)) with b_5 | b_5
  ·
    obtain rfl : r = 1 := b_t hw b_5
    refine lv_if_eq (tgt := 42) hx hb dX9_isFree_11 (by decide) (fun c_6 => absurd c_6 (by decide)) (fun c_6 => ?_)
    refine lv_aload_n hx hb dX9_isFree_14 rfl (lv_at hl 1 rfl) ?_
    obtain ⟨kk_7, hk_8⟩ := pl_at hpc.1.1 (x_pcF hI hpc)
    refine va_get (D := (dC, dI)) (ci := 7) (v := .int X) (C := RX8) (T := TX8) (N := 6) hx hb hts (by decide +kernel) hown hK hP kk_7 hk_8 rfl 2 (by decide) (hts (.fieldLink RX9 54 "PageOne$Piece" "column" "I") (by decide +kernel)) (fun _ h9 => h9) rfl dX9_isFree_15 ?_
    refine vp_callSi (va_runSN (As := [.int X]) (rest := []) ⟨hx, hb, hml, hown, hts⟩ (x_isColumn l dC dI X) ⟨va_cnB (host := "PageOne") 1 hts gX9_isFree_X11_isColumn_n34 rfl rfl rfl hN.n_RX9_34 (hts (.initialized RX11) (by decide +kernel)) (by decide +kernel) ⟨Nat.le_of_ble_eq_true rfl, Nat.le_of_ble_eq_true rfl⟩, hts (.static yX11_isColumn) (by decide +kernel), trivial⟩ ⟨pw_fb, fun U hU hW => ⟨rfl, pw_to hU hW (hP.sub (ws' := []) [] rfl) (hK.sub (tys' := []) [] rfl) hN⟩⟩ rfl rfl hl.1 rfl (lv_room (Nat.le_of_ble_eq_true rfl)) dX9_isFree_18 ⟨Nat.le_of_ble_eq_true rfl, Nat.le_of_ble_eq_true rfl⟩).run (fun r hw => ?_)
    rcases Bool.eq_false_or_eq_true (bw X 0 7) with b_9 | b_9
    ·
      obtain rfl : r = 1 := b_t hw b_9
      refine lv_if_eq (tgt := 42) hx hb dX9_isFree_21 (by decide) (fun c_10 => absurd c_10 (by decide)) (fun c_10 => ?_)
      refine lv_aload_n hx hb dX9_isFree_24 rfl (lv_at hl 1 rfl) ?_
      obtain ⟨kk_11, hk_12⟩ := pl_at hpc.1.1 (x_pcF hI hpc)
      refine va_get (D := (dC, dI)) (ci := 7) (v := .int Y) (C := RX8) (T := TX8) (N := 6) hx hb hts (by decide +kernel) hown hK hP kk_11 hk_12 rfl 3 (by decide) (hts (.fieldLink RX9 57 "PageOne$Piece" "line" "I") (by decide +kernel)) (fun _ h9 => h9) rfl dX9_isFree_25 ?_
      refine lv_iconst (v := 0) hx hb dX9_isFree_28 (by decide) ?_
      refine lv_bipush (v := 60) hx hb dX9_isFree_29 (by decide) ?_
      refine lv_aload_n hx hb dX9_isFree_31 rfl (lv_at hl 1 rfl) ?_
      obtain ⟨kk_13, hk_14⟩ := pl_at hpc.1.1 (x_pcF hI hpc)
      refine va_get (D := (dC, dI)) (ci := 7) (v := .int N) (C := RX8) (T := TX8) (N := 6) hx hb hts (by decide +kernel) hown hK hP kk_13 hk_14 rfl 5 (by decide) (hts (.fieldLink RX9 47 "PageOne$Piece" "h" "I") (by decide +kernel)) (fun _ h9 => h9) rfl dX9_isFree_32 ?_
      refine lv_isub hx hb dX9_isFree_35 ?_
      refine vp_callSi (va_runSN (As := [.int Y, .int 0, .int (60 - N)]) (rest := []) ⟨hx, hb, hml, hown, hts⟩ (x_isWithin l dC dI Y 0 (60 - N)) ⟨va_cnB (host := "PageOne") 3 hts gX9_isFree_X11_isWithin_n38 rfl rfl rfl hN.n_RX9_38 (hts (.initialized RX11) (by decide +kernel)) (by decide +kernel) ⟨Nat.le_of_ble_eq_true rfl, Nat.le_of_ble_eq_true rfl⟩, hts (.static yX11_isWithin) (by decide +kernel), trivial⟩ ⟨pw_fb, fun U hU hW => ⟨rfl, pw_to hU hW (hP.sub (ws' := []) [] rfl) (hK.sub (tys' := []) [] rfl) hN⟩⟩ rfl rfl hl.1 rfl (lv_room (Nat.le_of_ble_eq_true rfl)) dX9_isFree_36 ⟨Nat.le_of_ble_eq_true rfl, Nat.le_of_ble_eq_true rfl⟩).run (fun r hw => ?_)
      rcases Bool.eq_false_or_eq_true (bw Y 0 (60 - N)) with b_15 | b_15
      ·
        obtain rfl : r = 1 := b_t hw b_15
        refine lv_if_ne (tgt := 44) hx hb dX9_isFree_39 (by decide) (fun c_16 => ?_) (fun c_16 => absurd c_16 (by decide))
        refine lv_aload_n hx hb dX9_isFree_44 rfl (lv_at hl 1 rfl) ?_
        obtain ⟨kk_17, hk_18⟩ := pl_at hpc.1.1 (x_pcF hI hpc)
        refine va_get (D := (dC, dI)) (ci := 7) (v := .int X) (C := RX8) (T := TX8) (N := 6) hx hb hts (by decide +kernel) hown hK hP kk_17 hk_18 rfl 2 (by decide) (hts (.fieldLink RX9 54 "PageOne$Piece" "column" "I") (by decide +kernel)) (fun _ h9 => h9) rfl dX9_isFree_45 ?_
        refine lv_istore_n (lv' := [(2, .int X), (0, .ref a0), (1, .ref b0)]) hx hb dX9_isFree_48 rfl hl (by decide) rfl (fun ls hl => ?_)
        have hlg : bw X 0 7 = true ∧ bw Y 0 60 = true ∧ bw D 0 8 = true ∧ bw N 0 60 = true := sq_lg b_5 b_9 b_15
        have hlg2 := hlg
        obtain ⟨g1, g2, g3, g4⟩ := hlg2
        obtain ⟨X9, hX9, -, eX9⟩ := exN g1 (by decide)
        obtain ⟨Y9, hY9, -, eY9⟩ := exN g2 (by decide)
        obtain ⟨D9, hD9, -, eD9⟩ := exN g3 (by decide)
        obtain ⟨N9, hN9, -, eN9⟩ := exN g4 (by decide)
        have h7 : (7 : Int32).toInt = 7 := rfl
        have h8 : (8 : Int32).toInt = 8 := rfl
        have h60 : (60 : Int32).toInt = 60 := rfl
        subst eX9 eY9 eD9 eN9
        refine x_free_out (X9 := X9) (Y9 := Y9) (D9 := D9) (N9 := N9) hI hx hb hml hts hown hN hXN hK (Nat.le_of_ble_eq_true rfl) (Nat.le_of_ble_eq_true rfl) (Nat.le_of_ble_eq_true rfl) (Nat.le_of_ble_eq_true rfl) hP ha0 hpc (by omega) (by omega) (by omega) (by omega) (fun ls hl => ?_) (fun ls hl => ?_) (D9 + 1) 0 ls (Nat.zero_le _) (by omega) (lv_sub hl [0, 1, 2] rfl)
        ·
          refine lv_iconst (v := 1) hx hb dX9_isFree_105 (by decide) ?_
          exact W.zret (v := 1) hx hb hr (by decide) (fun t ht hW => ⟨_, rfl, (Or.inr ⟨rfl, hlg⟩), ht⟩) (fun q h => absurd h List.not_mem_nil) dX9_isFree_106
        ·
          refine lv_iconst (v := 0) hx hb dX9_isFree_91 (by decide) ?_
          exact W.zret (v := 0) hx hb hr (by decide) (fun t ht hW => ⟨_, rfl, (Or.inl rfl), ht⟩) (fun q h => absurd h List.not_mem_nil) dX9_isFree_92
      ·
        obtain rfl : r = 0 := b_f hw b_15
        refine lv_if_ne (tgt := 44) hx hb dX9_isFree_39 (by decide) (fun c_19 => absurd (by decide) c_19) (fun c_19 => ?_)
        refine lv_iconst (v := 0) hx hb dX9_isFree_42 (by decide) ?_
        exact W.zret (v := 0) hx hb hr (by decide) (fun t ht hW => ⟨_, rfl, (Or.inl rfl), ht⟩) (fun q h => absurd h List.not_mem_nil) dX9_isFree_43
    ·
      obtain rfl : r = 0 := b_f hw b_9
      refine lv_if_eq (tgt := 42) hx hb dX9_isFree_21 (by decide) (fun c_20 => ?_) (fun c_20 => absurd (by decide) c_20)
      refine lv_iconst (v := 0) hx hb dX9_isFree_42 (by decide) ?_
      exact W.zret (v := 0) hx hb hr (by decide) (fun t ht hW => ⟨_, rfl, (Or.inl rfl), ht⟩) (fun q h => absurd h List.not_mem_nil) dX9_isFree_43
  ·
    obtain rfl : r = 0 := b_f hw b_5
    refine lv_if_eq (tgt := 42) hx hb dX9_isFree_11 (by decide) (fun c_21 => ?_) (fun c_21 => absurd (by decide) c_21)
    refine lv_iconst (v := 0) hx hb dX9_isFree_42 (by decide) ?_
    exact W.zret (v := 0) hx hb hr (by decide) (fun t ht hW => ⟨_, rfl, (Or.inl rfl), ht⟩) (fun q h => absurd h List.not_mem_nil) dX9_isFree_43
set_option maxHeartbeats 4000000 in
set_option maxRecDepth 100000 in
theorem x_mark_in {p : Program} {l : Launch} {e : Env} {R : Room} {s : State} {m : MethodId} {args : Array Value} {below : List Frame} {meth : Method} {c : Code} {Q : State → Prop} {cells slots : Nat} {dC : Nat → ClassId} {dI : Nat → Nat → Nat} {q : Nat → ClassId} {h0 : Nat} {d : Nat → Nat} {k : Nat → Int32} {z : gS} {a0 : Nat} {c9 v9 : Int32} {b0 : Nat} {it : Option Nat} {P : Int32} {X9 Y9 D9 N9 : Nat} (ha0 : tg z a0 7) (hpc : pcS z b0 it P (nI X9) (nI Y9) (nI D9) (nI N9)) (hX9 : X9 ≤ 7) (hY9 : Y9 ≤ 60) (hD9 : D9 ≤ 8) (hN9 : N9 ≤ 60) {A : Nat → Prop} {H0 : Heap} (hx : p.tables.exec = Jvm.exec) (hb : c.code = cX9_mark) (hml : c.maxLocals = 5) (hts : ∀ w ∈ wsX9_mark, w.before args s = true) (hown : s.vm.findClass RX9 = some m.cls) (hN : NN s) (hXN : XN s) (hK : va_K (dC, dI) vwCl (xT q) s) (hRf : 3 ≤ R.frames) (hRl : 64 ≤ R.locals) (hRc : cells ≤ R.cells) (hRs : slots ≤ R.slots) (hA : ∀ q : Nat, H0.size ≤ q → A q) (kx68 : ∀ (f : xF) (H : Heap) (locs : List Loc) (ls : Array Slot), xI q h0 d k z f → va_P (dC, dI) vwCl (va_pl z.1 f) H → va_D A (va_pl z.1 f) → va_S A H0 H locs → lv_has ls 5 [(3, .int c9), (2, .int v9), (0, .ref a0), (1, .ref b0)] → W p l e R s m args below meth c H locs cells slots Q (F0 m 68 ls [])) : ∀ (kk i : Nat) (f : xF) (H : Heap) (locs : List Loc) (ls : Array Slot), i ≤ N9 → N9 - i < kk → xI q h0 d k z f → va_P (dC, dI) vwCl (va_pl z.1 f) H → va_D A (va_pl z.1 f) → va_S A H0 H locs → lv_has ls 5 [(4, .int (nI (Y9 + i))), (3, .int c9), (2, .int v9), (0, .ref a0), (1, .ref b0)] → W p l e R s m args below meth c H locs cells slots Q (F0 m 24 ls []) := by
  intro kk
  induction kk with
  | zero => intro i f H locs ls h1 h2; exact absurd h2 (Nat.not_lt_zero _)
  | succ kk ih =>
    intro i f H locs ls hi hkk hI hP hD hS hl
    refine lv_iload hx hb dX9_mark_24 (lv_at hl 0 rfl) ?_
    refine lv_aload_n hx hb dX9_mark_26 rfl (lv_at hl 4 rfl) ?_
    obtain ⟨kk_1, hk_2⟩ := pl_at hpc.1.1 (x_pcF hI hpc)
    refine va_get (D := (dC, dI)) (ci := 7) (v := .int (nI Y9)) (C := RX8) (T := TX8) (N := 6) hx hb hts (by decide +kernel) hown hK hP kk_1 hk_2 rfl 3 (by decide) (hts (.fieldLink RX9 57 "PageOne$Piece" "line" "I") (by decide +kernel)) (fun _ h9 => h9) rfl dX9_mark_27 ?_
    refine lv_aload_n hx hb dX9_mark_30 rfl (lv_at hl 4 rfl) ?_
    obtain ⟨kk_3, hk_4⟩ := pl_at hpc.1.1 (x_pcF hI hpc)
    refine va_get (D := (dC, dI)) (ci := 7) (v := .int (nI N9)) (C := RX8) (T := TX8) (N := 6) hx hb hts (by decide +kernel) hown hK hP kk_3 hk_4 rfl 5 (by decide) (hts (.fieldLink RX9 47 "PageOne$Piece" "h" "I") (by decide +kernel)) (fun _ h9 => h9) rfl dX9_mark_31 ?_
    refine lv_iadd hx hb dX9_mark_34 ?_
    refine lv_icmp_ge (tgt := 68) hx hb dX9_mark_35 (by decide) (fun c_5 => ?_) (fun c_5 => ?_)
    ·
      have hie : i = N9 := by have := lp_eq (nI_add Y9 N9) (by omega) (by omega) c_5; omega
      exact kx68 _ _ _ ls hI hP hD hS (lv_sub hl [1, 2, 3, 4] rfl)
    ·
      have hlt : i < N9 := by have := lp_lt (nI_add Y9 N9) (by omega) (by omega) c_5; omega
      refine lv_aload_n hx hb dX9_mark_38 rfl (lv_at hl 3 rfl) ?_
      refine lv_iload_n hx hb dX9_mark_39 rfl (lv_at hl 1 rfl) ?_
      refine lv_iload hx hb dX9_mark_40 (lv_at hl 0 rfl) ?_
      obtain ⟨la_6, ca_7, m_8, dd_9, ii_10, hs_11, ht_12, ht_13⟩ := x_sh hI ha0
      obtain ⟨kk_14, hk_15⟩ := pl_at ha0.1 hs_11
      refine vp_callSi (va_runV (As := [.int c9, .int (nI (Y9 + i))]) (rest := []) ⟨hx, hb, hml, hown, hts⟩ (x_at l dC dI q h0 d k z f hI a0 c9 (nI (Y9 + i)) ha0) (cwV 2 hts gX9_mark_X9_at rfl rfl rfl (by decide +kernel) ⟨Nat.le_trans (Nat.le_of_ble_eq_true rfl) hRf, Nat.le_trans (Nat.le_of_ble_eq_true rfl) hRl⟩) ⟨px_fb, va_recv hK hP (ci := 8) (q0 := kk_14) rfl hk_15, fun U hU hW => ⟨rfl, px_to hU hW hP hK hN hXN⟩⟩ rfl rfl hl.1 rfl (lv_room (Nat.le_of_ble_eq_true rfl)) dX9_mark_42 ⟨hRc, hRs⟩).run (fun r hw => ?_)
      generalize r = zr_16 at hw ⊢
      have hzr_16 := hw
      refine lv_iconst (v := (-1)) hx hb dX9_mark_45 (by decide) ?_
      refine lv_icmp_eq (tgt := 62) hx hb dX9_mark_46 (by decide) (fun c_17 => ?_) (fun c_17 => ?_)
      ·
        refine lv_iinc (v := (nI (Y9 + i + 1))) (lv' := [(4, .int (nI (Y9 + i + 1))), (3, .int c9), (2, .int v9), (0, .ref a0), (1, .ref b0)]) hx hb dX9_mark_62 hl (k := 0) rfl (nI_1 _) (by decide) rfl (fun ls hl => ?_)
        refine lv_goto (tgt := 24) hx hb dX9_mark_65 (by decide) ?_
        exact ih (i + 1) _ _ _ ls (by omega) (by omega) hI hP hD hS (lv_sub hl [0, 1, 2, 3, 4] rfl)
      ·
        refine lv_aload_n hx hb dX9_mark_49 rfl (lv_at hl 3 rfl) ?_
        obtain ⟨kk_18, hk_19⟩ := pl_at ha0.1 hs_11
        refine va_get (D := (dC, dI)) (ci := 8) (v := .ref ca_7) (C := RX9) (T := TX9) (N := 5) hx hb hts (by decide +kernel) hown hK hP kk_18 hk_19 rfl 1 (by decide) (hts (.fieldLink RX9 15 "PageOne$Sheet" "cells" "[I") (by decide +kernel)) (fun _ h9 => h9) rfl dX9_mark_50 ?_
        refine lv_iload_n hx hb dX9_mark_53 rfl (lv_at hl 1 rfl) ?_
        refine lv_bipush (v := 60) hx hb dX9_mark_54 (by decide) ?_
        refine lv_imul hx hb dX9_mark_56 ?_
        refine lv_iload hx hb dX9_mark_57 (lv_at hl 0 rfl) ?_
        refine lv_iadd hx hb dX9_mark_59 ?_
        refine lv_iload_n hx hb dX9_mark_60 rfl (lv_at hl 2 rfl) ?_
        obtain ⟨g_20, hs_21⟩ := x_ce hI ht_13
        obtain ⟨kk_22, hk_23⟩ := pl_at ht_13.1 hs_21
        have hD0 := hD
        refine va_iast hx hb hK hP hD hS kk_22 0 hk_23 rfl (hzr_16.elim (fun h => absurd h c_17) (fun h => vin59 h.1 h.2)) dX9_mark_61 (fun H locs hP hD hS => ?_)
        rw [pl_set hD0 ht_13.1 hs_21 hk_23] at hP hD
        obtain ⟨f_24, ef_24⟩ : ∃ y : xF, y = va_up f ca_7 (aI (q 0) 480 (upd g_20 (((c9 * 60) + (nI (Y9 + i))) : Int32).toNatClampNeg v9)) := ⟨_, rfl⟩
        have hI : xI q h0 d k z f_24 := by rw [ef_24]; exact x_up hI ht_13 (by decide) (cO_9 ht_13.2 ⟨_, rfl⟩)
        have hP : va_P (dC, dI) vwCl (va_pl z.1 f_24) H := by rw [ef_24]; exact hP
        have hD : va_D A (va_pl z.1 f_24) := by rw [ef_24]; exact hD
        refine lv_iinc (v := (nI (Y9 + i + 1))) (lv' := [(4, .int (nI (Y9 + i + 1))), (3, .int c9), (2, .int v9), (0, .ref a0), (1, .ref b0)]) hx hb dX9_mark_62 hl (k := 0) rfl (nI_1 _) (by decide) rfl (fun ls hl => ?_)
        refine lv_goto (tgt := 24) hx hb dX9_mark_65 (by decide) ?_
        exact ih (i + 1) _ _ _ ls (by omega) (by omega) hI hP hD hS (lv_sub hl [0, 1, 2, 3, 4] rfl)
set_option maxHeartbeats 4000000 in
set_option maxRecDepth 100000 in
theorem x_mark_out {p : Program} {l : Launch} {e : Env} {R : Room} {s : State} {m : MethodId} {args : Array Value} {below : List Frame} {meth : Method} {c : Code} {Q : State → Prop} {cells slots : Nat} {dC : Nat → ClassId} {dI : Nat → Nat → Nat} {q : Nat → ClassId} {h0 : Nat} {d : Nat → Nat} {k : Nat → Int32} {z : gS} {a0 : Nat} {v9 : Int32} {b0 : Nat} {it : Option Nat} {P : Int32} {X9 Y9 D9 N9 : Nat} (ha0 : tg z a0 7) (hpc : pcS z b0 it P (nI X9) (nI Y9) (nI D9) (nI N9)) (hX9 : X9 ≤ 7) (hY9 : Y9 ≤ 60) (hD9 : D9 ≤ 8) (hN9 : N9 ≤ 60) {A : Nat → Prop} {H0 : Heap} (hx : p.tables.exec = Jvm.exec) (hb : c.code = cX9_mark) (hml : c.maxLocals = 5) (hts : ∀ w ∈ wsX9_mark, w.before args s = true) (hown : s.vm.findClass RX9 = some m.cls) (hN : NN s) (hXN : XN s) (hK : va_K (dC, dI) vwCl (xT q) s) (hRf : 3 ≤ R.frames) (hRl : 64 ≤ R.locals) (hRc : cells ≤ R.cells) (hRs : slots ≤ R.slots) (hA : ∀ q : Nat, H0.size ≤ q → A q) (kx74 : ∀ (f : xF) (H : Heap) (locs : List Loc) (ls : Array Slot), xI q h0 d k z f → va_P (dC, dI) vwCl (va_pl z.1 f) H → va_D A (va_pl z.1 f) → va_S A H0 H locs → lv_has ls 5 [(0, .ref a0), (1, .ref b0)] → W p l e R s m args below meth c H locs cells slots Q (F0 m 74 ls [])) : ∀ (kk i : Nat) (f : xF) (H : Heap) (locs : List Loc) (ls : Array Slot), i ≤ D9 → D9 - i < kk → xI q h0 d k z f → va_P (dC, dI) vwCl (va_pl z.1 f) H → va_D A (va_pl z.1 f) → va_S A H0 H locs → lv_has ls 5 [(3, .int (nI (X9 + i))), (2, .int v9), (0, .ref a0), (1, .ref b0)] → W p l e R s m args below meth c H locs cells slots Q (F0 m 5 ls []) := by
  intro kk
  induction kk with
  | zero => intro i f H locs ls h1 h2; exact absurd h2 (Nat.not_lt_zero _)
  | succ kk ih =>
    intro i f H locs ls hi hkk hI hP hD hS hl
    refine lv_iload_n hx hb dX9_mark_5 rfl (lv_at hl 0 rfl) ?_
    refine lv_aload_n hx hb dX9_mark_6 rfl (lv_at hl 3 rfl) ?_
    obtain ⟨kk_1, hk_2⟩ := pl_at hpc.1.1 (x_pcF hI hpc)
    refine va_get (D := (dC, dI)) (ci := 7) (v := .int (nI X9)) (C := RX8) (T := TX8) (N := 6) hx hb hts (by decide +kernel) hown hK hP kk_1 hk_2 rfl 2 (by decide) (hts (.fieldLink RX9 54 "PageOne$Piece" "column" "I") (by decide +kernel)) (fun _ h9 => h9) rfl dX9_mark_7 ?_
    refine lv_aload_n hx hb dX9_mark_10 rfl (lv_at hl 3 rfl) ?_
    obtain ⟨kk_3, hk_4⟩ := pl_at hpc.1.1 (x_pcF hI hpc)
    refine va_get (D := (dC, dI)) (ci := 7) (v := .int (nI D9)) (C := RX8) (T := TX8) (N := 6) hx hb hts (by decide +kernel) hown hK hP kk_3 hk_4 rfl 4 (by decide) (hts (.fieldLink RX9 42 "PageOne$Piece" "w" "I") (by decide +kernel)) (fun _ h9 => h9) rfl dX9_mark_11 ?_
    refine lv_iadd hx hb dX9_mark_14 ?_
    refine lv_icmp_ge (tgt := 74) hx hb dX9_mark_15 (by decide) (fun c_5 => ?_) (fun c_5 => ?_)
    ·
      have hie : i = D9 := by have := lp_eq (nI_add X9 D9) (by omega) (by omega) c_5; omega
      exact kx74 _ _ _ ls hI hP hD hS (lv_sub hl [2, 3] rfl)
    ·
      have hlt : i < D9 := by have := lp_lt (nI_add X9 D9) (by omega) (by omega) c_5; omega
      refine lv_aload_n hx hb dX9_mark_18 rfl (lv_at hl 3 rfl) ?_
      obtain ⟨kk_6, hk_7⟩ := pl_at hpc.1.1 (x_pcF hI hpc)
      refine va_get (D := (dC, dI)) (ci := 7) (v := .int (nI Y9)) (C := RX8) (T := TX8) (N := 6) hx hb hts (by decide +kernel) hown hK hP kk_6 hk_7 rfl 3 (by decide) (hts (.fieldLink RX9 57 "PageOne$Piece" "line" "I") (by decide +kernel)) (fun _ h9 => h9) rfl dX9_mark_19 ?_
      refine lv_istore (lv' := [(4, .int (nI Y9)), (3, .int (nI (X9 + i))), (2, .int v9), (0, .ref a0), (1, .ref b0)]) hx hb dX9_mark_22 hl (by decide) rfl (fun ls hl => ?_)
      refine x_mark_in (c9 := nI (X9 + i)) (v9 := v9) ha0 hpc hX9 hY9 hD9 hN9 hx hb hml hts hown hN hXN hK hRf hRl hRc hRs hA (fun f H locs ls hI hP hD hS hl => ?_) (N9 + 1) 0 _ _ _ ls (Nat.zero_le _) (by omega) hI hP hD hS (lv_sub hl [0, 1, 2, 3, 4] rfl)
      refine lv_iinc (v := (nI (X9 + i + 1))) (lv' := [(3, .int (nI (X9 + i + 1))), (2, .int v9), (0, .ref a0), (1, .ref b0)]) hx hb dX9_mark_68 hl (k := 0) rfl (nI_1 _) (by decide) rfl (fun ls hl => ?_)
      refine lv_goto (tgt := 5) hx hb dX9_mark_71 (by decide) ?_
      exact ih (i + 1) _ _ _ ls (by omega) (by omega) hI hP hD hS (lv_sub hl [0, 1, 2, 3] rfl)
set_option maxHeartbeats 4000000 in
set_option maxRecDepth 100000 in
theorem x_mark (l : Launch) (dC : Nat → ClassId) (dI : Nat → Nat → Nat) (q : Nat → ClassId) (h0 : Nat) (d : Nat → Nat) (k : Nat → Int32) (z : gS) (f : xF) (hI : xI q h0 d k z f) (a0 : Nat) (p0 : Int32) (ha0 : tg z a0 7) (b0 : Nat) (it : Option Nat) (P X Y D N : Int32) (hpc : pcS z b0 it P X Y D N) (g1 : bw X 0 7 = true) (g2 : bw Y 0 60 = true) (g3 : bw D 0 8 = true) (g4 : bw N 0 60 = true) (sz : Nat) : Met l yX9_mark wsX9_mark ({ frames := 3, cells := 0, slots := 0, locals := 64 }) (va_Pc [.ref a0, .ref b0, .int p0] (fun U => U.heap.size = sz ∧ PX dC dI (va_pl z.1 f) (xT q) U ∧ va_D (fun _ => True) (va_pl z.1 f))) (va_Qv (fun (w : xU) => w.1 = k ∧ w.2.1 = z ∧ xI q h0 d k z w.2.2) (fun (w : xU) t => va_P (dC, dI) vwCl (va_pl w.2.1.1 w.2.2) t.heap ∧ va_D (va_A (va_pl z.1 f) sz) (va_pl w.2.1.1 w.2.2)) (va_A (va_pl z.1 f) sz)) 0 0 (va_A (va_pl z.1 f) sz) := by
  refine Met.ofW (cc := cX9_mark) (maxL := 5) (ret := none) (by decide) rfl ?_
  intro p e s m args below meth c s₁ B hml hv
  obtain ⟨rfl, hsz, ⟨⟨hP, hK, hN⟩, hXN⟩, hD0⟩ := hv
  have hx := B.exec
  have hb := B.bytes
  have hr := B.returns
  have hts := atoms_spec (ws := wsX9_mark) B.pre
  have hown : s.vm.findClass RX9 = some m.cls := findClass_of_methodNamed B.named
  have hlocks := B.notSynchronized
  subst hsz
  have hD := hD0.self (sz := s.heap.size)
  generalize hAe : va_A (va_pl z.1 f) s.heap.size = A at hD ⊢
  have hA : ∀ q : Nat, s.heap.size ≤ q → A q := fun q h => by rw [← hAe]; exact Or.inr h
  have hS : va_S A s.heap s.heap [] := va_S.rf
  have hl := lv_entry ([.ref a0, .ref b0, .int p0]) (n := 5) (Nat.le_of_ble_eq_true rfl)
  rw [lg_entry_eq]
  generalize (lg_sl ([.ref a0, .ref b0, .int p0]) ++ List.replicate (5 - (lg_sl ([.ref a0, .ref b0, .int p0])).length) Slot.unset).toArray = ls at hl ⊢
  have hl : lv_has ls 5 [(0, .ref a0), (1, .ref b0), (2, .int p0)] := hl
  refine lv_aload_n hx hb dX9_mark_0 rfl (lv_at hl 1 rfl) ?_
  obtain ⟨kk_1, hk_2⟩ := pl_at hpc.1.1 (x_pcF hI hpc)
  refine va_get (D := (dC, dI)) (ci := 7) (v := .int X) (C := RX8) (T := TX8) (N := 6) hx hb hts (by decide +kernel) hown hK hP kk_1 hk_2 rfl 2 (by decide) (hts (.fieldLink RX9 54 "PageOne$Piece" "column" "I") (by decide +kernel)) (fun _ h9 => h9) rfl dX9_mark_1 ?_
  refine lv_istore_n (lv' := [(3, .int X), (0, .ref a0), (1, .ref b0), (2, .int p0)]) hx hb dX9_mark_4 rfl hl (by decide) rfl (fun ls hl => ?_)
  obtain ⟨X9, hX9, -, eX9⟩ := exN g1 (by decide)
  obtain ⟨Y9, hY9, -, eY9⟩ := exN g2 (by decide)
  obtain ⟨D9, hD9, -, eD9⟩ := exN g3 (by decide)
  obtain ⟨N9, hN9, -, eN9⟩ := exN g4 (by decide)
  have h7 : (7 : Int32).toInt = 7 := rfl
  have h8 : (8 : Int32).toInt = 8 := rfl
  have h60 : (60 : Int32).toInt = 60 := rfl
  subst eX9 eY9 eD9 eN9
  refine x_mark_out (X9 := X9) (Y9 := Y9) (D9 := D9) (N9 := N9) ha0 hpc (by omega) (by omega) (by omega) (by omega) hx hb hml hts hown hN hXN hK (Nat.le_of_ble_eq_true rfl) (Nat.le_of_ble_eq_true rfl) (Nat.le_of_ble_eq_true rfl) (Nat.le_of_ble_eq_true rfl) hA (fun f H locs ls hI hP hD hS hl => ?_) (D9 + 1) 0 _ _ _ ls (Nat.zero_le _) (by omega) hI hP hD hS (lv_sub hl [0, 3, 1, 2] rfl)
  exact W.vret hx hb hr (fun t ht hW => ⟨⟨(k, z, f), rfl, ⟨rfl, rfl, hI⟩, by rw [ht]; exact hP, hD⟩, hS.F ht⟩) hS.2.2 dX9_mark_74
