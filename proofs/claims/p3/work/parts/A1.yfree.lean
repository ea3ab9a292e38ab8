theorem shAt_ok {gl gc : Nat → Int32} {c l : Nat} (hc : c < 8) (hb : bw (gl c) 0 60 = true) (hl : l < (gl c).toNatClampNeg) : shAt gl gc (nI c) (nI l) = gc (60 * c + l) := by
  obtain ⟨e1, e2, e3⟩ := nI_of_bw hb
  have h60 : (60 : Int32).toInt = 60 := rfl
  rw [h60] at e3
  unfold shAt
  rw [nI_clamp (by omega), if_pos (bw7 hc), if_pos (by rw [e1, dn_e (by omega)]; exact bwN (by rw [nI_toInt (by omega)]; omega) (by omega)), show (60 : Int32) = nI 60 from rfl, pk_mul, nI_add, nI_clamp (by omega), Nat.mul_comm]
theorem shAt_no {gl gc : Nat → Int32} {c l : Nat} (hc : c < 8) (hb : bw (gl c) 0 60 = true) (hl : ¬ l < (gl c).toNatClampNeg) (hl2 : l < 2 ^ 31) : shAt gl gc (nI c) (nI l) = (-1) := by
  obtain ⟨e1, e2, e3⟩ := nI_of_bw hb
  have h60 : (60 : Int32).toInt = 60 := rfl
  rw [h60] at e3
  unfold shAt
  rw [nI_clamp (by omega), if_pos (bw7 hc), if_neg]
  intro h
  have h1 := bw_iff.mp h
  rw [subI (by rw [i1]; omega) (by rw [i1]; omega), i1, nI_toInt hl2] at h1
  omega
theorem setC_up {g : Nat → Int32} {c Y i : Nat} {v : Int32} (hc : c < 8) (hy : Y + i < 60) : upd (setC g 0 c Y i v) (nI c * 60 + nI (Y + i)).toNatClampNeg v = setC g 0 c Y (i + 1) v := by
  rw [show (60 : Int32) = nI 60 from rfl, pk_mul, nI_add, nI_clamp (by omega)]
  funext j
  unfold upd setC
  by_cases e1 : j = c * 60 + (Y + i)
  · rw [if_pos e1, if_pos (by omega)]
  · rw [if_neg e1]
    by_cases e2 : 480 * 0 + 60 * c + Y ≤ j ∧ j < 480 * 0 + 60 * c + Y + i
    · rw [if_pos e2, if_pos (by omega)]
    · rw [if_neg e2, if_neg (by omega)]
theorem setC_ne {g : Nat → Int32} {P c Y n : Nat} {v : Int32} (h : ∀ j, j < 480 → ¬ g j = (-1)) (hv : ¬ v = (-1)) : ∀ j, j < 480 → ¬ setC g P c Y n v j = (-1) := by
  intro j hj
  unfold setC
  split
  · exact hv
  · exact h j hj
theorem setR_ne {g : Nat → Int32} {P X Y n : Nat} {v : Int32} (h : ∀ j, j < 480 → ¬ g j = (-1)) (hv : ¬ v = (-1)) : ∀ D j, j < 480 → ¬ setR g P X Y n v D j = (-1)
  | 0, j, hj => h j hj
  | D + 1, j, hj => setC_ne (setR_ne h hv D) hv j hj
theorem fr_1 {P : Nat → Prop} {i : Nat} (h : ∀ b, b < i → P b) (hi : P i) : ∀ b, b < i + 1 → P b := fun b hb => by
  by_cases e : b = i
  · rw [e]; exact hi
  · exact h b (by omega)
set_option maxHeartbeats 4000000 in
set_option maxRecDepth 100000 in
theorem y_free_in {p : Program} {l : Launch} {e : Env} {R : Room} {s : State} {m : MethodId} {args : Array Value} {below : List Frame} {meth : Method} {c : Code} {Q : State → Prop} {cells slots : Nat} {dC : Nat → ClassId} {dI : Nat → Nat → Nat} {q : Nat → ClassId} {h0 : Nat} {d : Nat → Nat} {k : Nat → Int32} {z : gS} {f : xF} {H : Heap} {locs : List Loc} (hI : xI q h0 d k z f) (hx : p.tables.exec = Jvm.exec) (hb : c.code = cX9_isFree) (hml : c.maxLocals = 4) (hts : ∀ w ∈ wsX9_isFree, w.before args s = true) (hown : s.vm.findClass RX9 = some m.cls) (hN : NN s) (hXN : XN s) (hK : va_K (dC, dI) vwCl (xT q) s) (hRf : 3 ≤ R.frames) (hRl : 64 ≤ R.locals) (hRc : cells ≤ R.cells) (hRs : slots ≤ R.slots) (hP : va_P (dC, dI) vwCl (va_pl z.1 f) H) {a0 la ca : Nat} {m9 d9 i9 : Int32} {gl gc : Nat → Int32} (ha0 : tg z a0 7) (hs9 : f a0 = .inr (8, [.ref la, .ref ca, .int m9, .int d9, .int i9])) (hla : tg z la 8) (hca : tg z ca 9) (hg9 : f la = aI (q 0) 8 gl) (hgb : ∀ j, j < 8 → bw (gl j) 0 60 = true) (hc9 : f ca = aI (q 0) 480 gc) {c9 : Int32} {b0 : Nat} {it : Option Nat} {P : Int32} {X9 Y9 D9 N9 : Nat} (hpc : pcS z b0 it P (nI X9) (nI Y9) (nI D9) (nI N9)) (hX9 : X9 ≤ 7) (hY9 : Y9 ≤ 60) (hD9 : D9 ≤ 8) (hN9 : N9 ≤ 60) (kx99 : ∀ (ls : Array Slot), (∀ b, b < N9 → shAt gl gc c9 (nI (Y9 + b)) = (-2)) → lv_has ls 4 [(2, .int c9), (0, .ref a0), (1, .ref b0)] → W p l e R s m args below meth c H locs cells slots Q (F0 m 99 ls [])) (kx91 : ∀ (ls : Array Slot), (∃ b, b < N9 ∧ ¬ shAt gl gc c9 (nI (Y9 + b)) = (-2)) → lv_has ls 4 [(0, .ref a0), (1, .ref b0)] → W p l e R s m args below meth c H locs cells slots Q (F0 m 91 ls [])) : ∀ (kk i : Nat) (ls : Array Slot), i ≤ N9 → N9 - i < kk → (∀ b, b < i → shAt gl gc c9 (nI (Y9 + b)) = (-2)) → lv_has ls 4 [(3, .int (nI (Y9 + i))), (2, .int c9), (0, .ref a0), (1, .ref b0)] → W p l e R s m args below meth c H locs cells slots Q (F0 m 67 ls []) := by
  intro kk
  induction kk with
  | zero => intro i ls h1 h2; exact absurd h2 (Nat.not_lt_zero _)
  | succ kk ih =>
    intro i ls hi hkk hg hl
    refine lv_iload_n hx hb dX9_isFree_67 rfl (lv_at hl 0 rfl) ?_
    refine lv_aload_n hx hb dX9_isFree_68 rfl (lv_at hl 3 rfl) ?_
    obtain ⟨kk_1, hk_2⟩ := pl_at hpc.1.1 (x_pcF hI hpc)
    refine va_get (D := (dC, dI)) (ci := 7) (v := .int (nI Y9)) (C := RX8) (T := TX8) (N := 6) hx hb hts (by decide +kernel) hown hK hP kk_1 hk_2 rfl 3 (by decide) (hts (.fieldLink RX9 57 "PageOne$Piece" "line" "I") (by decide +kernel)) (fun _ h9 => h9) rfl dX9_isFree_69 ?_
    refine lv_aload_n hx hb dX9_isFree_72 rfl (lv_at hl 3 rfl) ?_
    obtain ⟨kk_3, hk_4⟩ := pl_at hpc.1.1 (x_pcF hI hpc)
    refine va_get (D := (dC, dI)) (ci := 7) (v := .int (nI N9)) (C := RX8) (T := TX8) (N := 6) hx hb hts (by decide +kernel) hown hK hP kk_3 hk_4 rfl 5 (by decide) (hts (.fieldLink RX9 47 "PageOne$Piece" "h" "I") (by decide +kernel)) (fun _ h9 => h9) rfl dX9_isFree_73 ?_
    refine lv_iadd hx hb dX9_isFree_76 ?_
    refine lv_icmp_ge (tgt := 99) hx hb dX9_isFree_77 (by decide) (fun c_5 => ?_) (fun c_5 => ?_)
    ·
      have hie : i = N9 := by have := lp_eq (nI_add Y9 N9) (by omega) (by omega) c_5; omega
      exact kx99 ls (by rw [← hie]; exact hg) (lv_sub hl [1, 2, 3] rfl)
    ·
      have hlt : i < N9 := by have := lp_lt (nI_add Y9 N9) (by omega) (by omega) c_5; omega
      refine lv_aload_n hx hb dX9_isFree_80 rfl (lv_at hl 2 rfl) ?_
      refine lv_iload_n hx hb dX9_isFree_81 rfl (lv_at hl 1 rfl) ?_
      refine lv_iload_n hx hb dX9_isFree_82 rfl (lv_at hl 0 rfl) ?_
      obtain ⟨kk_6, hk_7⟩ := pl_at ha0.1 hs9
      refine vp_callSi (va_runV (As := [.int c9, .int (nI (Y9 + i))]) (rest := []) ⟨hx, hb, hml, hown, hts⟩ (y_at l dC dI q h0 d k z f hI a0 la ca m9 d9 i9 gl gc ha0 hs9 hla hca hg9 hgb hc9 c9 (nI (Y9 + i))) (cwV 2 hts gX9_isFree_X9_at rfl rfl rfl (by decide +kernel) ⟨Nat.le_trans (Nat.le_of_ble_eq_true rfl) hRf, Nat.le_trans (Nat.le_of_ble_eq_true rfl) hRl⟩) ⟨px_fb, va_recv hK hP (ci := 8) (q0 := kk_6) rfl hk_7, fun U hU hW => ⟨rfl, px_to hU hW hP hK hN hXN⟩⟩ rfl rfl hl.1 rfl (lv_room (Nat.le_of_ble_eq_true rfl)) dX9_isFree_83 ⟨hRc, hRs⟩).run (fun r hw => ?_)
      generalize r = zr_8 at hw ⊢
      have hzr_8 := hw
      refine lv_bipush (v := (-2)) hx hb dX9_isFree_86 (by decide) ?_
      refine lv_icmp_eq (tgt := 93) hx hb dX9_isFree_88 (by decide) (fun c_9 => ?_) (fun c_9 => ?_)
      ·
        refine lv_iinc (v := (nI (Y9 + i + 1))) (lv' := [(3, .int (nI (Y9 + i + 1))), (2, .int c9), (0, .ref a0), (1, .ref b0)]) hx hb dX9_isFree_93 hl (k := 0) rfl (nI_1 _) (by decide) rfl (fun ls hl => ?_)
        refine lv_goto (tgt := 67) hx hb dX9_isFree_96 (by decide) ?_
        exact ih (i + 1) ls (by omega) (by omega) (fr_1 hg (hzr_8.symm.trans c_9)) (lv_sub hl [0, 1, 2, 3] rfl)
      ·
        exact kx91 ls ⟨i, hlt, fun h => c_9 (hzr_8.trans h)⟩ (lv_sub hl [2, 3] rfl)
set_option maxHeartbeats 4000000 in
set_option maxRecDepth 100000 in
theorem y_free_out {p : Program} {l : Launch} {e : Env} {R : Room} {s : State} {m : MethodId} {args : Array Value} {below : List Frame} {meth : Method} {c : Code} {Q : State → Prop} {cells slots : Nat} {dC : Nat → ClassId} {dI : Nat → Nat → Nat} {q : Nat → ClassId} {h0 : Nat} {d : Nat → Nat} {k : Nat → Int32} {z : gS} {f : xF} {H : Heap} {locs : List Loc} (hI : xI q h0 d k z f) (hx : p.tables.exec = Jvm.exec) (hb : c.code = cX9_isFree) (hml : c.maxLocals = 4) (hts : ∀ w ∈ wsX9_isFree, w.before args s = true) (hown : s.vm.findClass RX9 = some m.cls) (hN : NN s) (hXN : XN s) (hK : va_K (dC, dI) vwCl (xT q) s) (hRf : 3 ≤ R.frames) (hRl : 64 ≤ R.locals) (hRc : cells ≤ R.cells) (hRs : slots ≤ R.slots) (hP : va_P (dC, dI) vwCl (va_pl z.1 f) H) {a0 la ca : Nat} {m9 d9 i9 : Int32} {gl gc : Nat → Int32} (ha0 : tg z a0 7) (hs9 : f a0 = .inr (8, [.ref la, .ref ca, .int m9, .int d9, .int i9])) (hla : tg z la 8) (hca : tg z ca 9) (hg9 : f la = aI (q 0) 8 gl) (hgb : ∀ j, j < 8 → bw (gl j) 0 60 = true) (hc9 : f ca = aI (q 0) 480 gc) {b0 : Nat} {it : Option Nat} {P : Int32} {X9 Y9 D9 N9 : Nat} (hpc : pcS z b0 it P (nI X9) (nI Y9) (nI D9) (nI N9)) (hX9 : X9 ≤ 7) (hY9 : Y9 ≤ 60) (hD9 : D9 ≤ 8) (hN9 : N9 ≤ 60) (kx105 : ∀ (ls : Array Slot), (∀ a, a < D9 → ∀ b, b < N9 → shAt gl gc (nI (X9 + a)) (nI (Y9 + b)) = (-2)) → lv_has ls 4 [(0, .ref a0), (1, .ref b0)] → W p l e R s m args below meth c H locs cells slots Q (F0 m 105 ls [])) (kx91 : ∀ (ls : Array Slot), (∃ a, a < D9 ∧ ∃ b, b < N9 ∧ ¬ shAt gl gc (nI (X9 + a)) (nI (Y9 + b)) = (-2)) → lv_has ls 4 [(0, .ref a0), (1, .ref b0)] → W p l e R s m args below meth c H locs cells slots Q (F0 m 91 ls [])) : ∀ (kk i : Nat) (ls : Array Slot), i ≤ D9 → D9 - i < kk → (∀ a, a < i → ∀ b, b < N9 → shAt gl gc (nI (X9 + a)) (nI (Y9 + b)) = (-2)) → lv_has ls 4 [(2, .int (nI (X9 + i))), (0, .ref a0), (1, .ref b0)] → W p l e R s m args below meth c H locs cells slots Q (F0 m 49 ls []) := by
  intro kk
  induction kk with
  | zero => intro i ls h1 h2; exact absurd h2 (Nat.not_lt_zero _)
  | succ kk ih =>
    intro i ls hi hkk hg hl
    refine lv_iload_n hx hb dX9_isFree_49 rfl (lv_at hl 0 rfl) ?_
    refine lv_aload_n hx hb dX9_isFree_50 rfl (lv_at hl 2 rfl) ?_
    obtain ⟨kk_1, hk_2⟩ := pl_at hpc.1.1 (x_pcF hI hpc)
    refine va_get (D := (dC, dI)) (ci := 7) (v := .int (nI X9)) (C := RX8) (T := TX8) (N := 6) hx hb hts (by decide +kernel) hown hK hP kk_1 hk_2 rfl 2 (by decide) (hts (.fieldLink RX9 54 "PageOne$Piece" "column" "I") (by decide +kernel)) (fun _ h9 => h9) rfl dX9_isFree_51 ?_
    refine lv_aload_n hx hb dX9_isFree_54 rfl (lv_at hl 2 rfl) ?_
    obtain ⟨kk_3, hk_4⟩ := pl_at hpc.1.1 (x_pcF hI hpc)
    refine va_get (D := (dC, dI)) (ci := 7) (v := .int (nI D9)) (C := RX8) (T := TX8) (N := 6) hx hb hts (by decide +kernel) hown hK hP kk_3 hk_4 rfl 4 (by decide) (hts (.fieldLink RX9 42 "PageOne$Piece" "w" "I") (by decide +kernel)) (fun _ h9 => h9) rfl dX9_isFree_55 ?_
    refine lv_iadd hx hb dX9_isFree_58 ?_
    refine lv_icmp_ge (tgt := 105) hx hb dX9_isFree_59 (by decide) (fun c_5 => ?_) (fun c_5 => ?_)
    ·
      have hie : i = D9 := by have := lp_eq (nI_add X9 D9) (by omega) (by omega) c_5; omega
      exact kx105 ls (by rw [← hie]; exact hg) (lv_sub hl [1, 2] rfl)
    ·
      have hlt : i < D9 := by have := lp_lt (nI_add X9 D9) (by omega) (by omega) c_5; omega
      refine lv_aload_n hx hb dX9_isFree_62 rfl (lv_at hl 2 rfl) ?_
      obtain ⟨kk_6, hk_7⟩ := pl_at hpc.1.1 (x_pcF hI hpc)
      refine va_get (D := (dC, dI)) (ci := 7) (v := .int (nI Y9)) (C := RX8) (T := TX8) (N := 6) hx hb hts (by decide +kernel) hown hK hP kk_6 hk_7 rfl 3 (by decide) (hts (.fieldLink RX9 57 "PageOne$Piece" "line" "I") (by decide +kernel)) (fun _ h9 => h9) rfl dX9_isFree_63 ?_
      refine lv_istore_n (lv' := [(3, .int (nI Y9)), (2, .int (nI (X9 + i))), (0, .ref a0), (1, .ref b0)]) hx hb dX9_isFree_66 rfl hl (by decide) rfl (fun ls hl => ?_)
      refine y_free_in (c9 := nI (X9 + i)) hI hx hb hml hts hown hN hXN hK hRf hRl hRc hRs hP ha0 hs9 hla hca hg9 hgb hc9 hpc hX9 hY9 hD9 hN9 (fun ls hg2 hl => ?_) (fun ls hh hl => kx91 ls ⟨i, hlt, hh⟩ hl) (N9 + 1) 0 ls (Nat.zero_le _) (by omega) (fun b hb => absurd hb (Nat.not_lt_zero _)) (lv_sub hl [0, 1, 2, 3] rfl)
      refine lv_iinc (v := (nI (X9 + i + 1))) (lv' := [(2, .int (nI (X9 + i + 1))), (0, .ref a0), (1, .ref b0)]) hx hb dX9_isFree_99 hl (k := 0) rfl (nI_1 _) (by decide) rfl (fun ls hl => ?_)
      refine lv_goto (tgt := 49) hx hb dX9_isFree_102 (by decide) ?_
      exact ih (i + 1) ls (by omega) (by omega) (fr_1 hg hg2) (lv_sub hl [0, 1, 2] rfl)
set_option maxHeartbeats 4000000 in
set_option maxRecDepth 100000 in
theorem y_isFree (l : Launch) (dC : Nat → ClassId) (dI : Nat → Nat → Nat) (q : Nat → ClassId) (h0 : Nat) (d : Nat → Nat) (k : Nat → Int32) (z : gS) (f : xF) (hI : xI q h0 d k z f) (a0 la ca : Nat) (m9 d9 i9 : Int32) (gl gc : Nat → Int32) (ha0 : tg z a0 7) (hs9 : f a0 = .inr (8, [.ref la, .ref ca, .int m9, .int d9, .int i9])) (hla : tg z la 8) (hca : tg z ca 9) (hg9 : f la = aI (q 0) 8 gl) (hgb : ∀ j, j < 8 → bw (gl j) 0 60 = true) (hc9 : f ca = aI (q 0) 480 gc) (b0 : Nat) (it : Option Nat) (P X Y D N : Int32) (hpc : pcS z b0 it P X Y D N) : Met l yX9_isFree wsX9_isFree ({ frames := 3, cells := 0, slots := 0, locals := 64 }) (va_Pc [.ref a0, .ref b0] (PX dC dI (va_pl z.1 f) (xT q))) (vp_Si (fun r => (r = 1 ∧ shFr gl gc X Y D N) ∨ (r = 0 ∧ ¬ shFr gl gc X Y D N))) 0 0 (fun _ => False) := by
  refine Met.ofW (cc := cX9_isFree) (maxL := 4) (ret := (some .boolean)) (by decide) rfl ?_
  intro p e s m args below meth c s₁ B hml hv
  obtain ⟨rfl, ⟨hP, hK, hN⟩, hXN⟩ := hv
  have hx := B.exec
  have hb := B.bytes
  have hr := B.returns
  have hts := atoms_spec (ws := wsX9_isFree) B.pre
  have hown : s.vm.findClass RX9 = some m.cls := findClass_of_methodNamed B.named
  have hlocks := B.notSynchronized
  have hl := lv_entry ([.ref a0, .ref b0]) (n := 4) (Nat.le_of_ble_eq_true rfl)
  rw [lg_entry_eq]
  generalize (lg_sl ([.ref a0, .ref b0]) ++ List.replicate (4 - (lg_sl ([.ref a0, .ref b0])).length) Slot.unset).toArray = ls at hl ⊢
  have hl : lv_has ls 4 [(0, .ref a0), (1, .ref b0)] := hl
  refine lv_aload_n hx hb dX9_isFree_0 rfl (lv_at hl 1 rfl) ?_
  obtain ⟨kk_1, hk_2⟩ := pl_at hpc.1.1 (x_pcF hI hpc)
  refine va_get (D := (dC, dI)) (ci := 7) (v := .int D) (C := RX8) (T := TX8) (N := 6) hx hb hts (by decide +kernel) hown hK hP kk_1 hk_2 rfl 4 (by decide) (hts (.fieldLink RX9 42 "PageOne$Piece" "w" "I") (by decide +kernel)) (fun _ h9 => h9) rfl dX9_isFree_1 ?_
  refine lv_aload_n hx hb dX9_isFree_4 rfl (lv_at hl 1 rfl) ?_
  obtain ⟨kk_3, hk_4⟩ := pl_at hpc.1.1 (x_pcF hI hpc)
  refine va_get (D := (dC, dI)) (ci := 7) (v := .int N) (C := RX8) (T := TX8) (N := 6) hx hb hts (by decide +kernel) hown hK hP kk_3 hk_4 rfl 5 (by decide) (hts (.fieldLink RX9 47 "PageOne$Piece" "h" "I") (by decide +kernel)) (fun _ h9 => h9) rfl dX9_isFree_5 ?_
  refine vp_callSi (va_runSN (As := [.int D, .int N]) (rest := []) ⟨hx, hb, hml, hown, hts⟩ (x_isSquare l dC dI D N) ⟨va_cnB (host := "PageOne") 2 hts gX9_isFree_X11_isSquare_n50 rfl rfl rfl hN.n_RX9_50 (hts (.initialized RX11) (by decide +kernel)) (by decide +kernel) ⟨Nat.le_of_ble_eq_true rfl, Nat.le_of_ble_eq_true rfl⟩, hts (.static yX11_isSquare) (by decide +kernel), trivial⟩ ⟨pw_fb, fun U hU hW => ⟨rfl, pw_to hU hW (hP.sub (ws' := []) [] rfl) (hK.sub (tys' := []) [] rfl) hN⟩⟩ rfl rfl hl.1 rfl (lv_room (Nat.le_of_ble_eq_true rfl)) dX9_isFree_8 ⟨Nat.le_of_ble_eq_true rfl, Nat.le_of_ble_eq_true rfl⟩).run (fun r hw => ?_)
  rcases Bool.eq_false_or_eq_true ((bw D 1 8 && bw N 1 60)) with b_5 | b_5
  ·
    obtain rfl : r = 1 := b_t hw b_5
    refine lv_if_eq (tgt := 42) hx hb dX9_isFree_11 (by decide) (fun c_6 => absurd c_6 (by decide)) (fun c_6 => ?_)
    refine lv_aload_n hx hb dX9_isFree_14 rfl (lv_at hl 1 rfl) ?_
    obtain ⟨kk_7, hk_8⟩ := pl_at hpc.1.1 (x_pcF hI hpc)
    refine va_get (D := (dC, dI)) (ci := 7) (v := .int X) (C := RX8) (T := TX8) (N := 6) hx hb hts (by decide +kernel) hown hK hP kk_7 hk_8 rfl 2 (by decide) (hts (.fieldLink RX9 54 "PageOne$Piece" "column" "I") (by decide +kernel)) (fun _ h9 => h9) rfl dX9_isFree_15 ?_
    refine vp_callSi (va_runSN (As := [.int X]) (rest := []) ⟨hx, hb, hml, hown, hts⟩ (x_isColumn l dC dI X) ⟨va_cnB (host := "PageOne") 1 hts gX9_isFree_X11_isColumn_n34 rfl rfl rfl hN.n_RX9_34 (hts (.initialized RX11) (by decide +kernel)) (by decide +kernel) ⟨Nat.le_of_ble_eq_true rfl, Nat.le_of_ble_eq_true rfl⟩, hts (.static yX11_isColumn) (by decide +kernel), trivial⟩ ⟨pw_fb, fun U hU hW => ⟨rfl, pw_to hU hW (hP.sub (ws' := []) [] rfl) (hK.sub (tys' := []) [] rfl) hN⟩⟩ rfl rfl hl.1 rfl (lv_room (Nat.le_of_ble_eq_true rfl)) dX9_isFree_18 ⟨Nat.le_of_ble_eq_true rfl, Nat.le_of_ble_eq_true rfl⟩).run (fun r hw => ?_)
    rcases Bool.eq_false_or_eq_true (bw X 0 7) with b_9 | b_9
    ·
      obtain rfl : r = 1 := b_t hw b_9
      refine lv_if_eq (tgt := 42) hx hb dX9_isFree_21 (by decide) (fun c_10 => absurd c_10 (by decide)) (fun c_10 => ?_)
      refine lv_aload_n hx hb dX9_isFree_24 rfl (lv_at hl 1 rfl) ?_
      obtain ⟨kk_11, hk_12⟩ := pl_at hpc.1.1 (x_pcF hI hpc)
      refine va_get (D := (dC, dI)) (ci := 7) (v := .int Y) (C := RX8) (T := TX8) (N := 6) hx hb hts (by decide +kernel) hown hK hP kk_11 hk_12 rfl 3 (by decide) (hts (.fieldLink RX9 57 "PageOne$Piece" "line" "I") (by decide +kernel)) (fun _ h9 => h9) rfl dX9_isFree_25 ?_
      refine lv_iconst (v := 0) hx hb dX9_isFree_28 (by decide) ?_
      refine lv_bipush (v := 60) hx hb dX9_isFree_29 (by decide) ?_
      refine lv_aload_n hx hb dX9_isFree_31 rfl (lv_at hl 1 rfl) ?_
      obtain ⟨kk_13, hk_14⟩ := pl_at hpc.1.1 (x_pcF hI hpc)
      refine va_get (D := (dC, dI)) (ci := 7) (v := .int N) (C := RX8) (T := TX8) (N := 6) hx hb hts (by decide +kernel) hown hK hP kk_13 hk_14 rfl 5 (by decide) (hts (.fieldLink RX9 47 "PageOne$Piece" "h" "I") (by decide +kernel)) (fun _ h9 => h9) rfl dX9_isFree_32 ?_
      refine lv_isub hx hb dX9_isFree_35 ?_
      refine vp_callSi (va_runSN (As := [.int Y, .int 0, .int (60 - N)]) (rest := []) ⟨hx, hb, hml, hown, hts⟩ (x_isWithin l dC dI Y 0 (60 - N)) ⟨va_cnB (host := "PageOne") 3 hts gX9_isFree_X11_isWithin_n38 rfl rfl rfl hN.n_RX9_38 (hts (.initialized RX11) (by decide +kernel)) (by decide +kernel) ⟨Nat.le_of_ble_eq_true rfl, Nat.le_of_ble_eq_true rfl⟩, hts (.static yX11_isWithin) (by decide +kernel), trivial⟩ ⟨pw_fb, fun U hU hW => ⟨rfl, pw_to hU hW (hP.sub (ws' := []) [] rfl) (hK.sub (tys' := []) [] rfl) hN⟩⟩ rfl rfl hl.1 rfl (lv_room (Nat.le_of_ble_eq_true rfl)) dX9_isFree_36 ⟨Nat.le_of_ble_eq_true rfl, Nat.le_of_ble_eq_true rfl⟩).run (fun r hw => ?_)
      rcases Bool.eq_false_or_eq_true (bw Y 0 (60 - N)) with b_15 | b_15
      ·
        obtain rfl : r = 1 := b_t hw b_15
        refine lv_if_ne (tgt := 44) hx hb dX9_isFree_39 (by decide) (fun c_16 => ?_) (fun c_16 => absurd c_16 (by decide))
        refine lv_aload_n hx hb dX9_isFree_44 rfl (lv_at hl 1 rfl) ?_
        obtain ⟨kk_17, hk_18⟩ := pl_at hpc.1.1 (x_pcF hI hpc)
        refine va_get (D := (dC, dI)) (ci := 7) (v := .int X) (C := RX8) (T := TX8) (N := 6) hx hb hts (by decide +kernel) hown hK hP kk_17 hk_18 rfl 2 (by decide) (hts (.fieldLink RX9 54 "PageOne$Piece" "column" "I") (by decide +kernel)) (fun _ h9 => h9) rfl dX9_isFree_45 ?_
        refine lv_istore_n (lv' := [(2, .int X), (0, .ref a0), (1, .ref b0)]) hx hb dX9_isFree_48 rfl hl (by decide) rfl (fun ls hl => ?_)
        have hlg := sq_lg b_5 b_9 b_15
        obtain ⟨g1, g2, g3, g4⟩ := hlg
        obtain ⟨X9, hX9, -, eX9⟩ := exN g1 (by decide)
        obtain ⟨Y9, hY9, -, eY9⟩ := exN g2 (by decide)
        obtain ⟨D9, hD9, -, eD9⟩ := exN g3 (by decide)
        obtain ⟨N9, hN9, -, eN9⟩ := exN g4 (by decide)
        have h7 : (7 : Int32).toInt = 7 := rfl
        have h8 : (8 : Int32).toInt = 8 := rfl
        have h60 : (60 : Int32).toInt = 60 := rfl
        subst eX9 eY9 eD9 eN9
        refine y_free_out (X9 := X9) (Y9 := Y9) (D9 := D9) (N9 := N9) hI hx hb hml hts hown hN hXN hK (Nat.le_of_ble_eq_true rfl) (Nat.le_of_ble_eq_true rfl) (Nat.le_of_ble_eq_true rfl) (Nat.le_of_ble_eq_true rfl) hP ha0 hs9 hla hca hg9 hgb hc9 hpc (by omega) (by omega) (by omega) (by omega) (fun ls hg2 hl => ?_) (fun ls hh hl => ?_) (D9 + 1) 0 ls (Nat.zero_le _) (by omega) (fun a ha => absurd ha (Nat.not_lt_zero _)) (lv_sub hl [0, 1, 2] rfl)
        ·
          refine lv_iconst (v := 1) hx hb dX9_isFree_105 (by decide) ?_
          exact W.zret (v := 1) hx hb hr (by decide) (fun t ht hW => ⟨_, rfl, (Or.inl ⟨rfl, b_5, b_9, b_15, fun a ha b hb => by rw [nI_add, nI_add]; rw [nI_clamp (by omega)] at ha hb; exact hg2 a ha b hb⟩), ht⟩) (fun q h => absurd h List.not_mem_nil) dX9_isFree_106
        ·
          refine lv_iconst (v := 0) hx hb dX9_isFree_91 (by decide) ?_
          exact W.zret (v := 0) hx hb hr (by decide) (fun t ht hW => ⟨_, rfl, (Or.inr ⟨rfl, fun h => by obtain ⟨a, ha, b, hb, hne⟩ := hh; have h9 := h.2.2.2 a (by rw [nI_clamp (by omega)]; exact ha) b (by rw [nI_clamp (by omega)]; exact hb); rw [nI_add, nI_add] at h9; exact hne h9⟩), ht⟩) (fun q h => absurd h List.not_mem_nil) dX9_isFree_92
      ·
        obtain rfl : r = 0 := b_f hw b_15
        refine lv_if_ne (tgt := 44) hx hb dX9_isFree_39 (by decide) (fun c_19 => absurd (by decide) c_19) (fun c_19 => ?_)
        refine lv_iconst (v := 0) hx hb dX9_isFree_42 (by decide) ?_
        exact W.zret (v := 0) hx hb hr (by decide) (fun t ht hW => ⟨_, rfl, (Or.inr ⟨rfl, fun h => bne b_15 h.2.2.1⟩), ht⟩) (fun q h => absurd h List.not_mem_nil) dX9_isFree_43
    ·
      obtain rfl : r = 0 := b_f hw b_9
      refine lv_if_eq (tgt := 42) hx hb dX9_isFree_21 (by decide) (fun c_20 => ?_) (fun c_20 => absurd (by decide) c_20)
      refine lv_iconst (v := 0) hx hb dX9_isFree_42 (by decide) ?_
      exact W.zret (v := 0) hx hb hr (by decide) (fun t ht hW => ⟨_, rfl, (Or.inr ⟨rfl, fun h => bne b_9 h.2.1⟩), ht⟩) (fun q h => absurd h List.not_mem_nil) dX9_isFree_43
  ·
    obtain rfl : r = 0 := b_f hw b_5
    refine lv_if_eq (tgt := 42) hx hb dX9_isFree_11 (by decide) (fun c_21 => ?_) (fun c_21 => absurd (by decide) c_21)
    refine lv_iconst (v := 0) hx hb dX9_isFree_42 (by decide) ?_
    exact W.zret (v := 0) hx hb hr (by decide) (fun t ht hW => ⟨_, rfl, (Or.inr ⟨rfl, fun h => bne b_5 h.1⟩), ht⟩) (fun q h => absurd h List.not_mem_nil) dX9_isFree_43
