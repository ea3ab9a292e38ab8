theorem cl60 {v : Int32} (h : bw v 0 60 = true) : v.toNatClampNeg ≤ 60 := by
  obtain ⟨e1, e2, e3⟩ := nI_of_bw h
  have h60 : (60 : Int32).toInt = 60 := rfl
  rw [h60] at e3; omega
theorem upF_id {f : xF} {a : Nat} {e : va_E} (h : f a = e) : va_up f a e = f := by
  funext b
  unfold va_up
  by_cases x : b = a
  · rw [if_pos x, x, h]
  · rw [if_neg x]
set_option maxHeartbeats 4000000 in
set_option maxRecDepth 100000 in
theorem y_mark_in {p : Program} {l : Launch} {e : Env} {R : Room} {s : State} {m : MethodId} {args : Array Value} {below : List Frame} {meth : Method} {c : Code} {Q : State → Prop} {cells slots : Nat} {dC : Nat → ClassId} {dI : Nat → Nat → Nat} {q : Nat → ClassId} {h0 : Nat} {d : Nat → Nat} {k : Nat → Int32} {z : gS} {a0 la ca : Nat} {m9 d9 i9 v9 : Int32} {gl g0 : Nat → Int32} {f0 : xF} (ha0 : tg z a0 7) (hla : tg z la 8) (hca : tg z ca 9) (hs0 : f0 a0 = .inr (8, [.ref la, .ref ca, .int m9, .int d9, .int i9])) (hl0 : f0 la = aI (q 0) 8 gl) (hgb : ∀ j, j < 8 → bw (gl j) 0 60 = true) (hn1 : ∀ j, j < 480 → ¬ g0 j = (-1)) (hv1 : ¬ v9 = (-1)) {b0 : Nat} {it : Option Nat} {P : Int32} {X9 Y9 D9 N9 : Nat} (hpc : pcS z b0 it P (nI X9) (nI Y9) (nI D9) (nI N9)) (hX9 : X9 ≤ 7) (hY9 : Y9 ≤ 60) (hD9 : D9 ≤ 8) (hN9 : N9 ≤ 60) (hex : X9 + D9 ≤ 8) (hexl : ∀ a, a < D9 → Y9 + N9 ≤ (gl (X9 + a)).toNatClampNeg) {c9 : Nat} (hc8 : c9 < 8) (hcl : Y9 + N9 ≤ (gl c9).toNatClampNeg) {A : Nat → Prop} {H0 : Heap} (hx : p.tables.exec = Jvm.exec) (hb : c.code = cX9_mark) (hml : c.maxLocals = 5) (hts : ∀ w ∈ wsX9_mark, w.before args s = true) (hown : s.vm.findClass RX9 = some m.cls) (hN : NN s) (hXN : XN s) (hK : va_K (dC, dI) vwCl (xT q) s) (hRf : 3 ≤ R.frames) (hRl : 64 ≤ R.locals) (hRc : cells ≤ R.cells) (hRs : slots ≤ R.slots) (hA : ∀ q : Nat, H0.size ≤ q → A q) (kx68 : ∀ (f : xF) (H : Heap) (locs : List Loc) (ls : Array Slot), f = va_up f0 ca (aI (q 0) 480 (setC g0 0 c9 Y9 N9 v9)) → xI q h0 d k z f → va_P (dC, dI) vwCl (va_pl z.1 f) H → va_D A (va_pl z.1 f) → va_S A H0 H locs → lv_has ls 5 [(3, .int (nI c9)), (2, .int v9), (0, .ref a0), (1, .ref b0)] → W p l e R s m args below meth c H locs cells slots Q (F0 m 68 ls [])) : ∀ (kk i : Nat) (f : xF) (H : Heap) (locs : List Loc) (ls : Array Slot), i ≤ N9 → N9 - i < kk → (f = va_up f0 ca (aI (q 0) 480 (setC g0 0 c9 Y9 i v9))) → xI q h0 d k z f → va_P (dC, dI) vwCl (va_pl z.1 f) H → va_D A (va_pl z.1 f) → va_S A H0 H locs → lv_has ls 5 [(4, .int (nI (Y9 + i))), (3, .int (nI c9)), (2, .int v9), (0, .ref a0), (1, .ref b0)] → W p l e R s m args below meth c H locs cells slots Q (F0 m 24 ls []) := by
  intro kk
  induction kk with
  | zero => intro i f H locs ls h1 h2; exact absurd h2 (Nat.not_lt_zero _)
  | succ kk ih =>
    intro i f H locs ls hi hkk hg hI hP hD hS hl
    have h60c := cl60 (hgb _ hc8)
    have hs9 : f a0 = .inr (8, [.ref la, .ref ca, .int m9, .int d9, .int i9]) := by rw [hg, up_o (tg_ne ha0 hca (by decide))]; exact hs0
    have hg9 : f la = aI (q 0) 8 gl := by rw [hg, up_o (tg_ne hla hca (by decide))]; exact hl0
    have hc9 : f ca = aI (q 0) 480 (setC g0 0 c9 Y9 i v9) := by rw [hg]; exact up_s
    refine lv_iload hx hb dX9_mark_24 (lv_at hl 0 rfl) ?_
    refine lv_aload_n hx hb dX9_mark_26 rfl (lv_at hl 4 rfl) ?_
    obtain ⟨kk_1, hk_2⟩ := pl_at hpc.1.1 (x_pcF hI hpc)
    refine va_get (D := (dC, dI)) (ci := 7) (v := .int (nI Y9)) (C := RX8) (T := TX8) (N := 6) hx hb hts (by decide +kernel) hown hK hP kk_1 hk_2 rfl 3 (by decide) (hts (.fieldLink RX9 57 "PageOne$Piece" "line" "I") (by decide +kernel)) (fun _ h9 => h9) rfl dX9_mark_27 ?_
    refine lv_aload_n hx hb dX9_mark_30 rfl (lv_at hl 4 rfl) ?_
    obtain ⟨kk_3, hk_4⟩ := pl_at hpc.1.1 (x_pcF hI hpc)
    refine va_get (D := (dC, dI)) (ci := 7) (v := .int (nI N9)) (C := RX8) (T := TX8) (N := 6) hx hb hts (by decide +kernel) hown hK hP kk_3 hk_4 rfl 5 (by decide) (hts (.fieldLink RX9 47 "PageOne$Piece" "h" "I") (by decide +kernel)) (fun _ h9 => h9) rfl dX9_mark_31 ?_
    refine lv_iadd hx hb dX9_mark_34 ?_
    refine lv_icmp_ge (tgt := 68) hx hb dX9_mark_35 (by decide) (fun c_5 => ?_) (fun c_5 => ?_)
    ·
      have hie : i = N9 := by have := lp_eq (nI_add Y9 N9) (by omega) (by omega) c_5; omega
      exact kx68 _ _ _ ls (by rw [← hie]; exact hg) hI hP hD hS (lv_sub hl [1, 2, 3, 4] rfl)
    ·
      have hlt : i < N9 := by have := lp_lt (nI_add Y9 N9) (by omega) (by omega) c_5; omega
      refine lv_aload_n hx hb dX9_mark_38 rfl (lv_at hl 3 rfl) ?_
      refine lv_iload_n hx hb dX9_mark_39 rfl (lv_at hl 1 rfl) ?_
      refine lv_iload hx hb dX9_mark_40 (lv_at hl 0 rfl) ?_
      obtain ⟨kk_6, hk_7⟩ := pl_at ha0.1 hs9
      refine vp_callSi (va_runV (As := [.int (nI c9), .int (nI (Y9 + i))]) (rest := []) ⟨hx, hb, hml, hown, hts⟩ (y_at l dC dI q h0 d k z f hI a0 la ca m9 d9 i9 gl (setC g0 0 c9 Y9 i v9) ha0 hs9 hla hca hg9 hgb hc9 (nI c9) (nI (Y9 + i))) (cwV 2 hts gX9_mark_X9_at rfl rfl rfl (by decide +kernel) ⟨Nat.le_trans (Nat.le_of_ble_eq_true rfl) hRf, Nat.le_trans (Nat.le_of_ble_eq_true rfl) hRl⟩) ⟨px_fb, va_recv hK hP (ci := 8) (q0 := kk_6) rfl hk_7, fun U hU hW => ⟨rfl, px_to hU hW hP hK hN hXN⟩⟩ rfl rfl hl.1 rfl (lv_room (Nat.le_of_ble_eq_true rfl)) dX9_mark_42 ⟨hRc, hRs⟩).run (fun r hw => ?_)
      generalize r = zr_8 at hw ⊢
      have hzr_8 := hw
      refine lv_iconst (v := (-1)) hx hb dX9_mark_45 (by decide) ?_
      refine lv_icmp_eq (tgt := 62) hx hb dX9_mark_46 (by decide) (fun c_9 => absurd c_9 (fun h9 => setC_ne hn1 hv1 (60 * c9 + (Y9 + i)) (by omega) ((shAt_ok hc8 (hgb _ hc8) (by omega)).symm.trans (hzr_8.symm.trans h9)))) (fun c_9 => ?_)
      refine lv_aload_n hx hb dX9_mark_49 rfl (lv_at hl 3 rfl) ?_
      obtain ⟨kk_10, hk_11⟩ := pl_at ha0.1 hs9
      refine va_get (D := (dC, dI)) (ci := 8) (v := .ref ca) (C := RX9) (T := TX9) (N := 5) hx hb hts (by decide +kernel) hown hK hP kk_10 hk_11 rfl 1 (by decide) (hts (.fieldLink RX9 15 "PageOne$Sheet" "cells" "[I") (by decide +kernel)) (fun _ h9 => h9) rfl dX9_mark_50 ?_
      refine lv_iload_n hx hb dX9_mark_53 rfl (lv_at hl 1 rfl) ?_
      refine lv_bipush (v := 60) hx hb dX9_mark_54 (by decide) ?_
      refine lv_imul hx hb dX9_mark_56 ?_
      refine lv_iload hx hb dX9_mark_57 (lv_at hl 0 rfl) ?_
      refine lv_iadd hx hb dX9_mark_59 ?_
      refine lv_iload_n hx hb dX9_mark_60 rfl (lv_at hl 2 rfl) ?_
      obtain ⟨kk_12, hk_13⟩ := pl_at hca.1 hc9
      have hD0 := hD
      refine va_iast hx hb hK hP hD hS kk_12 0 hk_13 rfl (by rw [show (60 : Int32) = nI 60 from rfl, pk_mul, nI_add]; exact vp_in_nI (by omega) (by decide)) dX9_mark_61 (fun H locs hP hD hS => ?_)
      rw [pl_set hD0 hca.1 hc9 hk_13] at hP hD
      obtain ⟨f_14, ef_14⟩ : ∃ y : xF, y = va_up f ca (aI (q 0) 480 (upd (setC g0 0 c9 Y9 i v9) ((((nI c9) * 60) + (nI (Y9 + i))) : Int32).toNatClampNeg v9)) := ⟨_, rfl⟩
      have hI : xI q h0 d k z f_14 := by rw [ef_14]; exact x_up hI hca (by decide) (cO_9 hca.2 ⟨_, rfl⟩)
      have hP : va_P (dC, dI) vwCl (va_pl z.1 f_14) H := by rw [ef_14]; exact hP
      have hD : va_D A (va_pl z.1 f_14) := by rw [ef_14]; exact hD
      refine lv_iinc (v := (nI (Y9 + i + 1))) (lv' := [(4, .int (nI (Y9 + i + 1))), (3, .int (nI c9)), (2, .int v9), (0, .ref a0), (1, .ref b0)]) hx hb dX9_mark_62 hl (k := 0) rfl (nI_1 _) (by decide) rfl (fun ls hl => ?_)
      refine lv_goto (tgt := 24) hx hb dX9_mark_65 (by decide) ?_
      exact ih (i + 1) _ _ _ ls (by omega) (by omega) (by rw [ef_14, hg, up_up, setC_up hc8 (by omega)]) hI hP hD hS (lv_sub hl [0, 1, 2, 3, 4] rfl)
set_option maxHeartbeats 4000000 in
set_option maxRecDepth 100000 in
theorem y_mark_out {p : Program} {l : Launch} {e : Env} {R : Room} {s : State} {m : MethodId} {args : Array Value} {below : List Frame} {meth : Method} {c : Code} {Q : State → Prop} {cells slots : Nat} {dC : Nat → ClassId} {dI : Nat → Nat → Nat} {q : Nat → ClassId} {h0 : Nat} {d : Nat → Nat} {k : Nat → Int32} {z : gS} {a0 la ca : Nat} {m9 d9 i9 v9 : Int32} {gl g0 : Nat → Int32} {f0 : xF} (ha0 : tg z a0 7) (hla : tg z la 8) (hca : tg z ca 9) (hs0 : f0 a0 = .inr (8, [.ref la, .ref ca, .int m9, .int d9, .int i9])) (hl0 : f0 la = aI (q 0) 8 gl) (hgb : ∀ j, j < 8 → bw (gl j) 0 60 = true) (hn1 : ∀ j, j < 480 → ¬ g0 j = (-1)) (hv1 : ¬ v9 = (-1)) {b0 : Nat} {it : Option Nat} {P : Int32} {X9 Y9 D9 N9 : Nat} (hpc : pcS z b0 it P (nI X9) (nI Y9) (nI D9) (nI N9)) (hX9 : X9 ≤ 7) (hY9 : Y9 ≤ 60) (hD9 : D9 ≤ 8) (hN9 : N9 ≤ 60) (hex : X9 + D9 ≤ 8) (hexl : ∀ a, a < D9 → Y9 + N9 ≤ (gl (X9 + a)).toNatClampNeg) {A : Nat → Prop} {H0 : Heap} (hx : p.tables.exec = Jvm.exec) (hb : c.code = cX9_mark) (hml : c.maxLocals = 5) (hts : ∀ w ∈ wsX9_mark, w.before args s = true) (hown : s.vm.findClass RX9 = some m.cls) (hN : NN s) (hXN : XN s) (hK : va_K (dC, dI) vwCl (xT q) s) (hRf : 3 ≤ R.frames) (hRl : 64 ≤ R.locals) (hRc : cells ≤ R.cells) (hRs : slots ≤ R.slots) (hA : ∀ q : Nat, H0.size ≤ q → A q) (kx74 : ∀ (f : xF) (H : Heap) (locs : List Loc) (ls : Array Slot), f = va_up f0 ca (aI (q 0) 480 (setR g0 0 X9 Y9 N9 v9 D9)) → xI q h0 d k z f → va_P (dC, dI) vwCl (va_pl z.1 f) H → va_D A (va_pl z.1 f) → va_S A H0 H locs → lv_has ls 5 [(0, .ref a0), (1, .ref b0)] → W p l e R s m args below meth c H locs cells slots Q (F0 m 74 ls [])) : ∀ (kk i : Nat) (f : xF) (H : Heap) (locs : List Loc) (ls : Array Slot), i ≤ D9 → D9 - i < kk → (f = va_up f0 ca (aI (q 0) 480 (setR g0 0 X9 Y9 N9 v9 i))) → xI q h0 d k z f → va_P (dC, dI) vwCl (va_pl z.1 f) H → va_D A (va_pl z.1 f) → va_S A H0 H locs → lv_has ls 5 [(3, .int (nI (X9 + i))), (2, .int v9), (0, .ref a0), (1, .ref b0)] → W p l e R s m args below meth c H locs cells slots Q (F0 m 5 ls []) := by
  intro kk
  induction kk with
  | zero => intro i f H locs ls h1 h2; exact absurd h2 (Nat.not_lt_zero _)
  | succ kk ih =>
    intro i f H locs ls hi hkk hg hI hP hD hS hl
    refine lv_iload_n hx hb dX9_mark_5 rfl (lv_at hl 0 rfl) ?_
    refine lv_aload_n hx hb dX9_mark_6 rfl (lv_at hl 3 rfl) ?_
    obtain ⟨kk_1, hk_2⟩ := pl_at hpc.1.1 (x_pcF hI hpc)
    refine va_get (D := (dC, dI)) (ci := 7) (v := .int (nI X9)) (C := RX8) (T := TX8) (N := 6) hx hb hts (by decide +kernel) hown hK hP kk_1 hk_2 rfl 2 (by decide) (hts (.fieldLink RX9 54 "PageOne$Piece" "column" "I") (by decide +kernel)) (fun _ h9 => h9) rfl dX9_mark_7 ?_
    refine lv_aload_n hx hb dX9_mark_10 rfl (lv_at hl 3 rfl) ?_
    obtain ⟨kk_3, hk_4⟩ := pl_at hpc.1.1 (x_pcF hI hpc)
    refine va_get (D := (dC, dI)) (ci := 7) (v := .int (nI D9)) (C := RX8) (T := TX8) (N := 6) hx hb hts (by decide +kernel) hown hK hP kk_3 hk_4 rfl 4 (by decide) (hts (.fieldLink RX9 42 "PageOne$Piece" "w" "I") (by decide +kernel)) (fun _ h9 => h9) rfl dX9_mark_11 ?_
    refine lv_iadd hx hb dX9_mark_14 ?_
    refine lv_icmp_ge (tgt := 74) hx hb dX9_mark_15 (by decide) (fun c_5 => ?_) (fun c_5 => ?_)
    ·
      have hie : i = D9 := by have := lp_eq (nI_add X9 D9) (by omega) (by omega) c_5; omega
      exact kx74 _ _ _ ls (by rw [← hie]; exact hg) hI hP hD hS (lv_sub hl [2, 3] rfl)
    ·
      have hlt : i < D9 := by have := lp_lt (nI_add X9 D9) (by omega) (by omega) c_5; omega
      refine lv_aload_n hx hb dX9_mark_18 rfl (lv_at hl 3 rfl) ?_
      obtain ⟨kk_6, hk_7⟩ := pl_at hpc.1.1 (x_pcF hI hpc)
      refine va_get (D := (dC, dI)) (ci := 7) (v := .int (nI Y9)) (C := RX8) (T := TX8) (N := 6) hx hb hts (by decide +kernel) hown hK hP kk_6 hk_7 rfl 3 (by decide) (hts (.fieldLink RX9 57 "PageOne$Piece" "line" "I") (by decide +kernel)) (fun _ h9 => h9) rfl dX9_mark_19 ?_
      refine lv_istore (lv' := [(4, .int (nI Y9)), (3, .int (nI (X9 + i))), (2, .int v9), (0, .ref a0), (1, .ref b0)]) hx hb dX9_mark_22 hl (by decide) rfl (fun ls hl => ?_)
      have hs1 : f a0 = .inr (8, [.ref la, .ref ca, .int m9, .int d9, .int i9]) := by rw [hg, up_o (tg_ne ha0 hca (by decide))]; exact hs0
      have hl1 : f la = aI (q 0) 8 gl := by rw [hg, up_o (tg_ne hla hca (by decide))]; exact hl0
      refine y_mark_in (f0 := f) (g0 := setR g0 0 X9 Y9 N9 v9 i) (v9 := v9) (c9 := X9 + i) ha0 hla hca hs1 hl1 hgb (setR_ne hn1 hv1 i) hv1 hpc hX9 hY9 hD9 hN9 hex hexl (by omega) (hexl i hlt) hx hb hml hts hown hN hXN hK hRf hRl hRc hRs hA (fun f2 H locs ls hg2 hI hP hD hS hl => ?_) (N9 + 1) 0 _ _ _ ls (Nat.zero_le _) (by omega) (by rw [setC_0, hg, up_up]) hI hP hD hS (lv_sub hl [0, 1, 2, 3, 4] rfl)
      refine lv_iinc (v := (nI (X9 + i + 1))) (lv' := [(3, .int (nI (X9 + i + 1))), (2, .int v9), (0, .ref a0), (1, .ref b0)]) hx hb dX9_mark_68 hl (k := 0) rfl (nI_1 _) (by decide) rfl (fun ls hl => ?_)
      refine lv_goto (tgt := 5) hx hb dX9_mark_71 (by decide) ?_
      exact ih (i + 1) _ _ _ ls (by omega) (by omega) (by rw [hg2, hg, up_up]; rfl) hI hP hD hS (lv_sub hl [0, 1, 2, 3] rfl)
set_option maxHeartbeats 4000000 in
set_option maxRecDepth 100000 in
theorem y_mark (l : Launch) (dC : Nat → ClassId) (dI : Nat → Nat → Nat) (q : Nat → ClassId) (h0 : Nat) (d : Nat → Nat) (k : Nat → Int32) (z : gS) (f : xF) (hI : xI q h0 d k z f) (a0 la ca : Nat) (m9 d9 i9 : Int32) (gl gc : Nat → Int32) (ha0 : tg z a0 7) (hs9 : f a0 = .inr (8, [.ref la, .ref ca, .int m9, .int d9, .int i9])) (hla : tg z la 8) (hca : tg z ca 9) (hg9 : f la = aI (q 0) 8 gl) (hgb : ∀ j, j < 8 → bw (gl j) 0 60 = true) (hc9 : f ca = aI (q 0) 480 gc) (p0 : Int32) (b0 : Nat) (it : Option Nat) (P : Int32) (X9 Y9 D9 N9 : Nat) (hpc : pcS z b0 it P (nI X9) (nI Y9) (nI D9) (nI N9)) (hX9 : X9 ≤ 7) (hY9 : Y9 ≤ 60) (hD9 : D9 ≤ 8) (hN9 : N9 ≤ 60) (hex : X9 + D9 ≤ 8) (hexl : ∀ a, a < D9 → Y9 + N9 ≤ (gl (X9 + a)).toNatClampNeg) (hn1 : ∀ j, j < 480 → ¬ gc j = (-1)) (hv1 : ¬ p0 = (-1)) (sz : Nat) : Met l yX9_mark wsX9_mark ({ frames := 3, cells := 0, slots := 0, locals := 64 }) (va_Pc [.ref a0, .ref b0, .int p0] (fun U => U.heap.size = sz ∧ PX dC dI (va_pl z.1 f) (xT q) U ∧ va_D (fun _ => True) (va_pl z.1 f))) (va_Qv (fun (w : xU) => w.1 = k ∧ w.2.1 = z ∧ xI q h0 d k z w.2.2 ∧ w.2.2 = va_up f ca (aI (q 0) 480 (setR gc 0 X9 Y9 N9 p0 D9))) (fun (w : xU) t => va_P (dC, dI) vwCl (va_pl w.2.1.1 w.2.2) t.heap ∧ va_D (va_A (va_pl z.1 f) sz) (va_pl w.2.1.1 w.2.2)) (va_A (va_pl z.1 f) sz)) 0 0 (va_A (va_pl z.1 f) sz) := by
  refine Met.ofW (cc := cX9_mark) (maxL := 5) (ret := none) (by decide) rfl ?_
  intro p e s m args below meth c s₁ B hml hv
  obtain ⟨rfl, hsz, ⟨⟨hP, hK, hN⟩, hXN⟩, hD0⟩ := hv
  have hx := B.exec
  have hb := B.bytes
  have hr := B.returns
  have hts := atoms_spec (ws := wsX9_mark) B.pre
  have hown : s.vm.findClass RX9 = some m.cls := findClass_of_methodNamed B.named
  have hlocks := B.notSynchronized
  subst hsz
  have hD := hD0.self (sz := s.heap.size)
  generalize hAe : va_A (va_pl z.1 f) s.heap.size = A at hD ⊢
  have hA : ∀ q : Nat, s.heap.size ≤ q → A q := fun q h => by rw [← hAe]; exact Or.inr h
  have hS : va_S A s.heap s.heap [] := va_S.rf
  have hl := lv_entry ([.ref a0, .ref b0, .int p0]) (n := 5) (Nat.le_of_ble_eq_true rfl)
  rw [lg_entry_eq]
  generalize (lg_sl ([.ref a0, .ref b0, .int p0]) ++ List.replicate (5 - (lg_sl ([.ref a0, .ref b0, .int p0])).length) Slot.unset).toArray = ls at hl ⊢
  have hl : lv_has ls 5 [(0, .ref a0), (1, .ref b0), (2, .int p0)] := hl
  refine lv_aload_n hx hb dX9_mark_0 rfl (lv_at hl 1 rfl) ?_
  obtain ⟨kk_1, hk_2⟩ := pl_at hpc.1.1 (x_pcF hI hpc)
  refine va_get (D := (dC, dI)) (ci := 7) (v := .int (nI X9)) (C := RX8) (T := TX8) (N := 6) hx hb hts (by decide +kernel) hown hK hP kk_1 hk_2 rfl 2 (by decide) (hts (.fieldLink RX9 54 "PageOne$Piece" "column" "I") (by decide +kernel)) (fun _ h9 => h9) rfl dX9_mark_1 ?_
  refine lv_istore_n (lv' := [(3, .int (nI X9)), (0, .ref a0), (1, .ref b0), (2, .int p0)]) hx hb dX9_mark_4 rfl hl (by decide) rfl (fun ls hl => ?_)
  refine y_mark_out (f0 := f) (g0 := gc) (v9 := p0) ha0 hla hca hs9 hg9 hgb hn1 hv1 hpc hX9 hY9 hD9 hN9 hex hexl hx hb hml hts hown hN hXN hK (Nat.le_of_ble_eq_true rfl) (Nat.le_of_ble_eq_true rfl) (Nat.le_of_ble_eq_true rfl) (Nat.le_of_ble_eq_true rfl) hA (fun f2 H locs ls hg2 hI hP hD hS hl => ?_) (D9 + 1) 0 _ _ _ ls (Nat.zero_le _) (by omega) (upF_id hc9).symm hI hP hD hS (lv_sub hl [0, 3, 1, 2] rfl)
  exact W.vret hx hb hr (fun t ht hW => ⟨⟨(k, z, f2), rfl, ⟨rfl, rfl, hI, hg2⟩, by rw [ht]; exact hP, hD⟩, hS.F ht⟩) hS.2.2 dX9_mark_74
