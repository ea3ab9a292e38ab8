def wq (u : mS) (i : Nat) (dd : Int32) (n : Nat) : Prop := ¬ u.2 48 (80 * dd.toNatClampNeg + i) = 0 ∨ (dd = u.1 38 ∧ ∃ p, p < n ∧ prC u (nI i) p = true)
theorem wq_0 {u : mS} {i : Nat} {dd : Int32} : ¬ u.2 48 (80 * dd.toNatClampNeg + i) = 0 ↔ wq u i dd 0 := ⟨Or.inl, fun h => by rcases h with h | ⟨-, p, hp, -⟩; exact h; exact absurd hp (Nat.not_lt_zero _)⟩
theorem wq_a {u : mS} {i n : Nat} {dd a : Int32} (hg : ¬ a = 0 ↔ wq u i dd n) (h : ¬ a = 0) : ¬ (1 : Int32) = 0 ↔ wq u i dd (n + 1) := ⟨fun _ => by rcases hg.mp h with h | ⟨h, p, hp, hc⟩; exact Or.inl h; exact Or.inr ⟨h, p, by omega, hc⟩, fun _ => by decide⟩
theorem wq_y {u : mS} {i n : Nat} {dd : Int32} (hd : dd = u.1 38) (hc : prC u (nI i) n = true) : ¬ (1 : Int32) = 0 ↔ wq u i dd (n + 1) := ⟨fun _ => Or.inr ⟨hd, n, by omega, hc⟩, fun _ => by decide⟩
theorem wq_n {u : mS} {i n : Nat} {dd a : Int32} (hg : ¬ a = 0 ↔ wq u i dd n) (h : a = 0) (hc : prC u (nI i) n = false) : ¬ (0 : Int32) = 0 ↔ wq u i dd (n + 1) := by
  refine ⟨fun h => absurd rfl h, fun h2 => ?_⟩
  have h3 : ¬ wq u i dd n := fun h4 => (hg.mpr h4) h
  rcases h2 with h2 | ⟨hd, p, hp, hq⟩
  · exact absurd (Or.inl h2) h3
  · by_cases e : p = n
    · rw [e, hc] at hq; exact absurd hq (by decide)
    · exact absurd (Or.inr ⟨hd, p, by omega, hq⟩) h3
theorem wq_e {u : mS} {i n : Nat} {dd a : Int32} (hg : ¬ a = 0 ↔ wq u i dd n) (hd : ¬ dd = u.1 38) : ¬ a = 0 ↔ wpP u i dd := ⟨fun h => by rcases hg.mp h with h | ⟨h, -⟩; exact Or.inl h; exact absurd h hd, fun h => hg.mpr (by rcases h with h | ⟨h, -⟩; exact Or.inl h; exact absurd h hd)⟩
theorem e48i {i : Nat} {dd : Int32} (hi : i < 80) (hd : bw dd 0 399 = true) : (80 * dd + nI i).toNatClampNeg = 80 * dd.toNatClampNeg + i := by
  obtain ⟨D, hD, -, e⟩ := exN hd (by decide)
  have h399 : (399 : Int32).toInt = 399 := rfl
  subst e
  rw [show (80 : Int32) = nI 80 from rfl, pk_mul, nI_add, nI_clamp (by omega), nI_clamp (n := D) (by omega)]
set_option maxHeartbeats 4000000 in
set_option maxRecDepth 100000 in
theorem n_bl_in {p : Program} {l : Launch} {e : Env} {R : Room} {s : State} {m : MethodId} {args : Array Value} {below : List Frame} {meth : Method} {c : Code} {Q : State → Prop} {cells slots : Nat} {dC : Nat → ClassId} {dI : Nat → Nat → Nat} {h0 : Nat} {v : Nat → Nat} {cI cZ : ClassId} {H : Heap} {locs : List Loc} {u : mS} (hx : p.tables.exec = Jvm.exec) (hb : c.code = cX12_bill) (hml : c.maxLocals = 7) (hts : ∀ w ∈ wsX12_bill, w.before args s = true) (hown : s.vm.findClass RX12 = some m.cls) (hN : NN s) (hK : va_K (dC, dI) vwCl [(cI, .int), (cZ, .boolean)] s) (hRf : 1 ≤ R.frames) (hRl : 21 ≤ R.locals) (hRc : cells ≤ R.cells) (hRs : slots ≤ R.slots) (hP : va_P (dC, dI) vwCl (mW h0 v cI cZ u) H) {p0 p1 b9 : Int32} {j9 : Nat} (hj9 : j9 < 80) (kx110 : ∀ (a9 : Int32) (ls : Array Slot), (¬ a9 = 0 ↔ wpP u j9 p1) → lv_has ls 7 [(5, .int a9), (4, .int (nI j9)), (3, .int b9), (0, .ref h0), (1, .int p0), (2, .int p1)] → W p l e R s m args below meth c H locs cells slots Q (F0 m 110 ls [])) : ∀ (k i : Nat) (a : Int32) (ls : Array Slot), i ≤ 12 → 12 - i < k → (¬ a = 0 ↔ wq u j9 p1 i) → lv_has ls 7 [(6, .int (nI i)), (5, .int a), (4, .int (nI j9)), (3, .int b9), (0, .ref h0), (1, .int p0), (2, .int p1)] → W p l e R s m args below meth c H locs cells slots Q (F0 m 52 ls []) := by
  intro k
  induction k with
  | zero => intro i a ls h1 h2; exact absurd h2 (Nat.not_lt_zero _)
  | succ k ih =>
    intro i a ls hi hk hg hl
    refine lv_iload hx hb dX12_bill_52 (lv_at hl 0 rfl) ?_
    refine lv_bipush (v := 12) hx hb dX12_bill_54 (by decide) ?_
    refine lv_icmp_ge (tgt := 110) hx hb dX12_bill_56 (by decide) (fun c_1 => ?_) (fun c_1 => ?_)
    ·
      have hie : i = 12 := lp_eq rfl (by decide) hi c_1
      exact kx110 _ ls (by rw [hie] at hg; exact hg) (lv_sub hl [1, 2, 3, 4, 5, 6] rfl)
    ·
      have hlt : i < 12 := lp_lt rfl (by decide) hi c_1
      refine lv_iload_n hx hb dX12_bill_59 rfl (lv_at hl 6 rfl) ?_
      refine lv_aload_n hx hb dX12_bill_60 rfl (lv_at hl 4 rfl) ?_
      refine va_get (D := (dC, dI)) (ci := 11) (v := .int (u.1 38)) (C := RX12) (T := TX12) (N := 52) hx hb hts (by decide +kernel) hown hK hP 0 rfl rfl 38 (by decide) (hts (.fieldLink RX12 206 "PageOneModel" "day" "I") (by decide +kernel)) (fun _ h9 => h9) rfl dX12_bill_61 ?_
      refine lv_icmp_ne (tgt := 110) hx hb dX12_bill_64 (by decide) (fun c_2 => ?_) (fun c_2 => ?_)
      ·
        exact kx110 _ ls (wq_e hg c_2) (lv_sub hl [1, 2, 3, 4, 5, 6] rfl)
      ·
        refine lv_iload hx hb dX12_bill_67 (lv_at hl 1 rfl) ?_
        refine lv_if_ne (tgt := 97) hx hb dX12_bill_69 (by decide) (fun c_3 => ?_) (fun c_3 => ?_)
        ·
          refine lv_iconst (v := 1) hx hb dX12_bill_97 (by decide) ?_
          refine lv_goto (tgt := 102) hx hb dX12_bill_98 (by decide) ?_
          refine lv_istore (lv' := [(5, .int 1), (6, .int (nI i)), (4, .int (nI j9)), (3, .int b9), (0, .ref h0), (1, .int p0), (2, .int p1)]) hx hb dX12_bill_102 hl (by decide) rfl (fun ls hl => ?_)
          refine lv_iinc (v := (nI (i + 1))) (lv' := [(6, .int (nI (i + 1))), (5, .int 1), (4, .int (nI j9)), (3, .int b9), (0, .ref h0), (1, .int p0), (2, .int p1)]) hx hb dX12_bill_104 hl (k := 1) rfl (nI_1 i) (by decide) rfl (fun ls hl => ?_)
          refine lv_goto (tgt := 52) hx hb dX12_bill_107 (by decide) ?_
          exact ih (i + 1) _ ls (by omega) (by omega) (wq_a hg c_3) (lv_sub hl [0, 1, 2, 3, 4, 5, 6] rfl)
        ·
          refine lv_aload_n hx hb dX12_bill_72 rfl (lv_at hl 4 rfl) ?_
          refine lv_iload hx hb dX12_bill_73 (lv_at hl 0 rfl) ?_
          refine vp_callSi (va_runV (As := [.int (nI i)]) (rest := []) ⟨hx, hb, hml, hown, hts⟩ (m_isNow l dC dI h0 v cI cZ u (nI i) (bw11 hlt)) (cwV 1 hts gX12_bill_X12_isNow rfl rfl rfl (by decide +kernel) ⟨Nat.le_trans (Nat.le_of_ble_eq_true rfl) hRf, Nat.le_trans (Nat.le_of_ble_eq_true rfl) hRl⟩) ⟨pw_fb, va_recv hK hP (ci := 11) (q0 := 0) rfl rfl, fun U hU hW => ⟨rfl, pw_to hU hW hP hK hN⟩⟩ rfl rfl hl.1 rfl (lv_room (Nat.le_of_ble_eq_true rfl)) dX12_bill_75 ⟨hRc, hRs⟩).run (fun r hw => ?_)
          rcases Bool.eq_false_or_eq_true (mNow u (nI i)) with b_4 | b_4
          ·
            obtain rfl : r = 1 := b_t hw b_4
            refine lv_if_eq (tgt := 101) hx hb dX12_bill_78 (by decide) (fun c_5 => absurd c_5 (by decide)) (fun c_5 => ?_)
            refine lv_aload_n hx hb dX12_bill_81 rfl (lv_at hl 4 rfl) ?_
            refine va_get (D := (dC, dI)) (ci := 11) (v := .ref (v 45)) (C := RX12) (T := TX12) (N := 52) hx hb hts (by decide +kernel) hown hK hP 0 rfl rfl 45 (by decide) (hts (.fieldLink RX12 131 "PageOneModel" "plateColumn" "[I") (by decide +kernel)) (fun _ h9 => h9) rfl dX12_bill_82 ?_
            refine lv_bipush (v := 80) hx hb dX12_bill_85 (by decide) ?_
            refine lv_iload hx hb dX12_bill_87 (lv_at hl 0 rfl) ?_
            refine lv_imul hx hb dX12_bill_89 ?_
            refine lv_iload hx hb dX12_bill_90 (lv_at hl 2 rfl) ?_
            refine lv_iadd hx hb dX12_bill_92 ?_
            refine va_iald hx hb hK hP 41 0 rfl rfl (vPl (bw79 hj9) hlt) dX12_bill_93 ?_
            refine lv_if_lt (tgt := 101) hx hb dX12_bill_94 (by decide) (fun c_6 => ?_) (fun c_6 => ?_)
            ·
              refine lv_iconst (v := 0) hx hb dX12_bill_101 (by decide) ?_
              refine lv_istore (lv' := [(5, .int 0), (6, .int (nI i)), (4, .int (nI j9)), (3, .int b9), (0, .ref h0), (1, .int p0), (2, .int p1)]) hx hb dX12_bill_102 hl (by decide) rfl (fun ls hl => ?_)
              refine lv_iinc (v := (nI (i + 1))) (lv' := [(6, .int (nI (i + 1))), (5, .int 0), (4, .int (nI j9)), (3, .int b9), (0, .ref h0), (1, .int p0), (2, .int p1)]) hx hb dX12_bill_104 hl (k := 1) rfl (nI_1 i) (by decide) rfl (fun ls hl => ?_)
              refine lv_goto (tgt := 52) hx hb dX12_bill_107 (by decide) ?_
              exact ih (i + 1) _ ls (by omega) (by omega) (wq_n hg c_3 (by unfold prC; rw [decide_eq_true c_6]; cases mNow u (nI i) <;> rfl)) (lv_sub hl [0, 1, 2, 3, 4, 5, 6] rfl)
            ·
              refine lv_iconst (v := 1) hx hb dX12_bill_97 (by decide) ?_
              refine lv_goto (tgt := 102) hx hb dX12_bill_98 (by decide) ?_
              refine lv_istore (lv' := [(5, .int 1), (6, .int (nI i)), (4, .int (nI j9)), (3, .int b9), (0, .ref h0), (1, .int p0), (2, .int p1)]) hx hb dX12_bill_102 hl (by decide) rfl (fun ls hl => ?_)
              refine lv_iinc (v := (nI (i + 1))) (lv' := [(6, .int (nI (i + 1))), (5, .int 1), (4, .int (nI j9)), (3, .int b9), (0, .ref h0), (1, .int p0), (2, .int p1)]) hx hb dX12_bill_104 hl (k := 1) rfl (nI_1 i) (by decide) rfl (fun ls hl => ?_)
              refine lv_goto (tgt := 52) hx hb dX12_bill_107 (by decide) ?_
              exact ih (i + 1) _ ls (by omega) (by omega) (wq_y c_2 (by unfold prC; rw [b_4, decide_eq_false c_6]; rfl)) (lv_sub hl [0, 1, 2, 3, 4, 5, 6] rfl)
          ·
            obtain rfl : r = 0 := b_f hw b_4
            refine lv_if_eq (tgt := 101) hx hb dX12_bill_78 (by decide) (fun c_7 => ?_) (fun c_7 => absurd (by decide) c_7)
            refine lv_iconst (v := 0) hx hb dX12_bill_101 (by decide) ?_
            refine lv_istore (lv' := [(5, .int 0), (6, .int (nI i)), (4, .int (nI j9)), (3, .int b9), (0, .ref h0), (1, .int p0), (2, .int p1)]) hx hb dX12_bill_102 hl (by decide) rfl (fun ls hl => ?_)
            refine lv_iinc (v := (nI (i + 1))) (lv' := [(6, .int (nI (i + 1))), (5, .int 0), (4, .int (nI j9)), (3, .int b9), (0, .ref h0), (1, .int p0), (2, .int p1)]) hx hb dX12_bill_104 hl (k := 1) rfl (nI_1 i) (by decide) rfl (fun ls hl => ?_)
            refine lv_goto (tgt := 52) hx hb dX12_bill_107 (by decide) ?_
            exact ih (i + 1) _ ls (by omega) (by omega) (wq_n hg c_3 (by unfold prC; rw [b_4]; rfl)) (lv_sub hl [0, 1, 2, 3, 4, 5, 6] rfl)
set_option maxHeartbeats 4000000 in
set_option maxRecDepth 100000 in
theorem n_bl_out {p : Program} {l : Launch} {e : Env} {R : Room} {s : State} {m : MethodId} {args : Array Value} {below : List Frame} {meth : Method} {c : Code} {Q : State → Prop} {cells slots : Nat} {dC : Nat → ClassId} {dI : Nat → Nat → Nat} {h0 : Nat} {v : Nat → Nat} {cI cZ : ClassId} {H : Heap} {locs : List Loc} {u : mS} (hx : p.tables.exec = Jvm.exec) (hb : c.code = cX12_bill) (hml : c.maxLocals = 7) (hts : ∀ w ∈ wsX12_bill, w.before args s = true) (hown : s.vm.findClass RX12 = some m.cls) (hN : NN s) (hK : va_K (dC, dI) vwCl [(cI, .int), (cZ, .boolean)] s) (hRf : 1 ≤ R.frames) (hRl : 21 ≤ R.locals) (hRc : cells ≤ R.cells) (hRs : slots ≤ R.slots) (hP : va_P (dC, dI) vwCl (mW h0 v cI cZ u) H) {p0 p1 : Int32} {M : Nat} (hM8 : M ≤ 80) (eM : u.1 3 = nI M) (hd9 : bw p1 0 399 = true) (kx : ∀ (a : Int32) (ls : Array Slot), a = blS u p0 p1 M → lv_has ls 7 [(4, .int (nI M)), (3, .int a), (0, .ref h0), (1, .int p0), (2, .int p1)] → W p l e R s m args below meth c H locs cells slots Q (F0 m 173 ls [])) : ∀ (k i : Nat) (a : Int32) (ls : Array Slot), i ≤ M → M - i < k → a = blS u p0 p1 i → lv_has ls 7 [(4, .int (nI i)), (3, .int a), (0, .ref h0), (1, .int p0), (2, .int p1)] → W p l e R s m args below meth c H locs cells slots Q (F0 m 26 ls []) := by
  intro k
  induction k with
  | zero => intro i a ls h1 h2; exact absurd h2 (Nat.not_lt_zero _)
  | succ k ih =>
    intro i a ls hi hk hg hl
    refine lv_iload hx hb dX12_bill_26 (lv_at hl 0 rfl) ?_
    refine lv_aload_n hx hb dX12_bill_28 rfl (lv_at hl 2 rfl) ?_
    refine va_get (D := (dC, dI)) (ci := 11) (v := .int (u.1 3)) (C := RX12) (T := TX12) (N := 52) hx hb hts (by decide +kernel) hown hK hP 0 rfl rfl 3 (by decide) (hts (.fieldLink RX12 147 "PageOneModel" "items" "I") (by decide +kernel)) (fun _ h9 => h9) rfl dX12_bill_29 ?_
    refine lv_topi (fun y_1 ey_1 => ?_)
    obtain rfl : y_1 = (nI M) := ey_1.trans (eM)
    refine lv_icmp_ge (tgt := 173) hx hb dX12_bill_32 (by decide) (fun c_2 => ?_) (fun c_2 => ?_)
    ·
      have hie : i = M := lp_eq rfl (by omega) hi c_2
      rw [hie] at hg hl
      exact kx _ ls hg (lv_sub hl [0, 1, 2, 3, 4] rfl)
    ·
      have hlt : i < M := lp_lt rfl (by omega) hi c_2
      refine lv_aload_n hx hb dX12_bill_35 rfl (lv_at hl 2 rfl) ?_
      refine va_get (D := (dC, dI)) (ci := 11) (v := .ref (v 48)) (C := RX12) (T := TX12) (N := 52) hx hb hts (by decide +kernel) hown hK hP 0 rfl rfl 48 (by decide) (hts (.fieldLink RX12 140 "PageOneModel" "isOn" "[Z") (by decide +kernel)) (fun _ h9 => h9) rfl dX12_bill_36 ?_
      refine lv_bipush (v := 80) hx hb dX12_bill_39 (by decide) ?_
      refine lv_iload_n hx hb dX12_bill_41 rfl (lv_at hl 4 rfl) ?_
      refine lv_imul hx hb dX12_bill_42 ?_
      refine lv_iload hx hb dX12_bill_43 (lv_at hl 0 rfl) ?_
      refine lv_iadd hx hb dX12_bill_45 ?_
      refine va_zald hx hb hK hP 44 1 rfl rfl (vOn (bw79 (by omega)) hd9) dX12_bill_46 ?_
      refine lv_topi (fun x_3 ex_3 => ?_)
      refine lv_istore (lv' := [(5, .int x_3), (4, .int (nI i)), (3, .int a), (0, .ref h0), (1, .int p0), (2, .int p1)]) hx hb dX12_bill_47 hl (by decide) rfl (fun ls hl => ?_)
      refine lv_iconst (v := 0) hx hb dX12_bill_49 (by decide) ?_
      refine lv_istore (lv' := [(6, .int 0), (5, .int x_3), (4, .int (nI i)), (3, .int a), (0, .ref h0), (1, .int p0), (2, .int p1)]) hx hb dX12_bill_50 hl (by decide) rfl (fun ls hl => ?_)
      refine n_bl_in (j9 := i) (b9 := a) hx hb hml hts hown hN hK hRf hRl hRc hRs hP (by omega) (fun a9 ls ha9 hl => ?_) 13 0 _ ls (by decide) (by decide) (by rw [ex_3]; rw [e48i (by omega) hd9]; exact wq_0) (lv_sub hl [0, 1, 2, 3, 4, 5, 6] rfl)
      refine lv_iload_n hx hb dX12_bill_110 rfl (lv_at hl 2 rfl) ?_
      refine lv_aload_n hx hb dX12_bill_111 rfl (lv_at hl 3 rfl) ?_
      refine va_get (D := (dC, dI)) (ci := 11) (v := .ref (v 4)) (C := RX12) (T := TX12) (N := 52) hx hb hts (by decide +kernel) hown hK hP 0 rfl rfl 4 (by decide) (hts (.fieldLink RX12 19 "PageOneModel" "kind" "[I") (by decide +kernel)) (fun _ h9 => h9) rfl dX12_bill_112 ?_
      refine lv_iload hx hb dX12_bill_115 (lv_at hl 1 rfl) ?_
      refine va_iald hx hb hK hP 4 0 rfl rfl (vp_in_nI (by omega) (by decide)) dX12_bill_117 ?_
      refine lv_iconst (v := 3) hx hb dX12_bill_118 (by decide) ?_
      refine lv_icmp_ne (tgt := 164) hx hb dX12_bill_119 (by decide) (fun c_4 => ?_) (fun c_4 => ?_)
      ·
        refine lv_iconst (v := 0) hx hb dX12_bill_164 (by decide) ?_
        refine lv_iadd hx hb dX12_bill_165 ?_
        refine lv_topi (fun x_5 ex_5 => ?_)
        refine lv_istore_n (lv' := [(3, .int x_5), (5, .int a9), (4, .int (nI i)), (0, .ref h0), (1, .int p0), (2, .int p1)]) hx hb dX12_bill_166 rfl hl (by decide) rfl (fun ls hl => ?_)
        refine lv_iinc (v := (nI (i + 1))) (lv' := [(4, .int (nI (i + 1))), (3, .int x_5), (5, .int a9), (0, .ref h0), (1, .int p0), (2, .int p1)]) hx hb dX12_bill_167 hl (k := 2) rfl (nI_1 i) (by decide) rfl (fun ls hl => ?_)
        refine lv_goto (tgt := 26) hx hb dX12_bill_170 (by decide) ?_
        exact ih (i + 1) _ ls (by omega) (by omega) (by rw [ex_5, hg]; have h9 := c_4; rw [nI_clamp (by omega)] at h9; rw [blS_0 (fun h8 => h9 h8.1)]; exact Int32.add_zero _) (lv_sub hl [0, 1, 3, 4, 5] rfl)
      ·
        refine lv_aload_n hx hb dX12_bill_122 rfl (lv_at hl 3 rfl) ?_
        refine va_get (D := (dC, dI)) (ci := 11) (v := .ref (v 10)) (C := RX12) (T := TX12) (N := 52) hx hb hts (by decide +kernel) hown hK hP 0 rfl rfl 10 (by decide) (hts (.fieldLink RX12 37 "PageOneModel" "buyer" "[I") (by decide +kernel)) (fun _ h9 => h9) rfl dX12_bill_123 ?_
        refine lv_iload hx hb dX12_bill_126 (lv_at hl 1 rfl) ?_
        refine va_iald hx hb hK hP 10 0 rfl rfl (vp_in_nI (by omega) (by decide)) dX12_bill_128 ?_
        refine lv_iload_n hx hb dX12_bill_129 rfl (lv_at hl 4 rfl) ?_
        refine lv_icmp_ne (tgt := 164) hx hb dX12_bill_130 (by decide) (fun c_6 => ?_) (fun c_6 => ?_)
        ·
          refine lv_iconst (v := 0) hx hb dX12_bill_164 (by decide) ?_
          refine lv_iadd hx hb dX12_bill_165 ?_
          refine lv_topi (fun x_7 ex_7 => ?_)
          refine lv_istore_n (lv' := [(3, .int x_7), (5, .int a9), (4, .int (nI i)), (0, .ref h0), (1, .int p0), (2, .int p1)]) hx hb dX12_bill_166 rfl hl (by decide) rfl (fun ls hl => ?_)
          refine lv_iinc (v := (nI (i + 1))) (lv' := [(4, .int (nI (i + 1))), (3, .int x_7), (5, .int a9), (0, .ref h0), (1, .int p0), (2, .int p1)]) hx hb dX12_bill_167 hl (k := 2) rfl (nI_1 i) (by decide) rfl (fun ls hl => ?_)
          refine lv_goto (tgt := 26) hx hb dX12_bill_170 (by decide) ?_
          exact ih (i + 1) _ ls (by omega) (by omega) (by rw [ex_7, hg]; have h9 := c_6; rw [nI_clamp (by omega)] at h9; rw [blS_0 (fun h8 => h9 h8.2.1)]; exact Int32.add_zero _) (lv_sub hl [0, 1, 3, 4, 5] rfl)
        ·
          refine lv_iload hx hb dX12_bill_133 (lv_at hl 0 rfl) ?_
          refine lv_if_eq (tgt := 164) hx hb dX12_bill_135 (by decide) (fun c_8 => ?_) (fun c_8 => ?_)
          ·
            refine lv_iconst (v := 0) hx hb dX12_bill_164 (by decide) ?_
            refine lv_iadd hx hb dX12_bill_165 ?_
            refine lv_topi (fun x_9 ex_9 => ?_)
            refine lv_istore_n (lv' := [(3, .int x_9), (5, .int a9), (4, .int (nI i)), (0, .ref h0), (1, .int p0), (2, .int p1)]) hx hb dX12_bill_166 rfl hl (by decide) rfl (fun ls hl => ?_)
            refine lv_iinc (v := (nI (i + 1))) (lv' := [(4, .int (nI (i + 1))), (3, .int x_9), (5, .int a9), (0, .ref h0), (1, .int p0), (2, .int p1)]) hx hb dX12_bill_167 hl (k := 2) rfl (nI_1 i) (by decide) rfl (fun ls hl => ?_)
            refine lv_goto (tgt := 26) hx hb dX12_bill_170 (by decide) ?_
            exact ih (i + 1) _ ls (by omega) (by omega) (by rw [ex_9, hg, blS_0 (fun h8 => ha9.mpr h8.2.2 c_8)]; exact Int32.add_zero _) (lv_sub hl [0, 1, 3, 4, 5] rfl)
          ·
            refine lv_aload_n hx hb dX12_bill_138 rfl (lv_at hl 3 rfl) ?_
            refine va_get (D := (dC, dI)) (ci := 11) (v := .ref (v 7)) (C := RX12) (T := TX12) (N := 52) hx hb hts (by decide +kernel) hown hK hP 0 rfl rfl 7 (by decide) (hts (.fieldLink RX12 28 "PageOneModel" "wide" "[I") (by decide +kernel)) (fun _ h9 => h9) rfl dX12_bill_139 ?_
            refine lv_iload hx hb dX12_bill_142 (lv_at hl 1 rfl) ?_
            refine va_iald hx hb hK hP 7 0 rfl rfl (vp_in_nI (by omega) (by decide)) dX12_bill_144 ?_
            refine lv_aload_n hx hb dX12_bill_145 rfl (lv_at hl 3 rfl) ?_
            refine va_get (D := (dC, dI)) (ci := 11) (v := .ref (v 8)) (C := RX12) (T := TX12) (N := 52) hx hb hts (by decide +kernel) hown hK hP 0 rfl rfl 8 (by decide) (hts (.fieldLink RX12 31 "PageOneModel" "high" "[I") (by decide +kernel)) (fun _ h9 => h9) rfl dX12_bill_146 ?_
            refine lv_iload hx hb dX12_bill_149 (lv_at hl 1 rfl) ?_
            refine va_iald hx hb hK hP 8 0 rfl rfl (vp_in_nI (by omega) (by decide)) dX12_bill_151 ?_
            refine lv_imul hx hb dX12_bill_152 ?_
            refine lv_aload_n hx hb dX12_bill_153 rfl (lv_at hl 3 rfl) ?_
            refine va_get (D := (dC, dI)) (ci := 11) (v := .ref (v 14)) (C := RX12) (T := TX12) (N := 52) hx hb hts (by decide +kernel) hown hK hP 0 rfl rfl 14 (by decide) (hts (.fieldLink RX12 49 "PageOneModel" "price" "[I") (by decide +kernel)) (fun _ h9 => h9) rfl dX12_bill_154 ?_
            refine lv_iload hx hb dX12_bill_157 (lv_at hl 1 rfl) ?_
            refine va_iald hx hb hK hP 14 0 rfl rfl (vp_in_nI (by omega) (by decide)) dX12_bill_159 ?_
            refine lv_imul hx hb dX12_bill_160 ?_
            refine lv_goto (tgt := 165) hx hb dX12_bill_161 (by decide) ?_
            refine lv_iadd hx hb dX12_bill_165 ?_
            refine lv_topi (fun x_10 ex_10 => ?_)
            refine lv_istore_n (lv' := [(3, .int x_10), (5, .int a9), (4, .int (nI i)), (0, .ref h0), (1, .int p0), (2, .int p1)]) hx hb dX12_bill_166 rfl hl (by decide) rfl (fun ls hl => ?_)
            refine lv_iinc (v := (nI (i + 1))) (lv' := [(4, .int (nI (i + 1))), (3, .int x_10), (5, .int a9), (0, .ref h0), (1, .int p0), (2, .int p1)]) hx hb dX12_bill_167 hl (k := 2) rfl (nI_1 i) (by decide) rfl (fun ls hl => ?_)
            refine lv_goto (tgt := 26) hx hb dX12_bill_170 (by decide) ?_
            exact ih (i + 1) _ ls (by omega) (by omega) (by rw [ex_10, hg]; have h9 := c_4; have h7 := c_6; rw [nI_clamp (by omega)] at h9 h7; rw [blS_1 ⟨h9, h7, ha9.mp c_8⟩, nI_clamp (by omega)]) (lv_sub hl [0, 1, 3, 4, 5] rfl)
set_option maxHeartbeats 4000000 in
set_option maxRecDepth 100000 in
theorem n_bill (l : Launch) (dC : Nat → ClassId) (dI : Nat → Nat → Nat) (h0 : Nat) (v : Nat → Nat) (cI cZ : ClassId) (u : mS) (p0 p1 : Int32) (hn : bw (u.1 3) 0 80 = true) (hd : bw (u.1 38) 0 399 = true) : Met l yX12_bill wsX12_bill ({ frames := 2, cells := 0, slots := 0, locals := 42 }) (va_Pc [.ref h0, .int p0, .int p1] (PW dC dI (mW h0 v cI cZ u) [(cI, .int), (cZ, .boolean)])) (vp_Si (fun r => r = mBillX u p0 p1)) 0 0 (fun _ => False) := by
  refine Met.ofW (cc := cX12_bill) (maxL := 7) (ret := (some .int)) (by decide) rfl ?_
  intro p e s m args below meth c s₁ B hml hv
  obtain ⟨rfl, hP, hK, hN⟩ := hv
  have hx := B.exec
  have hb := B.bytes
  have hr := B.returns
  have hts := atoms_spec (ws := wsX12_bill) B.pre
  have hown : s.vm.findClass RX12 = some m.cls := findClass_of_methodNamed B.named
  have hlocks := B.notSynchronized
  have hl := lv_entry ([.ref h0, .int p0, .int p1]) (n := 7) (Nat.le_of_ble_eq_true rfl)
  rw [lg_entry_eq]
  generalize (lg_sl ([.ref h0, .int p0, .int p1]) ++ List.replicate (7 - (lg_sl ([.ref h0, .int p0, .int p1])).length) Slot.unset).toArray = ls at hl ⊢
  have hl : lv_has ls 7 [(0, .ref h0), (1, .int p0), (2, .int p1)] := hl
  refine lv_iload_n hx hb dX12_bill_0 rfl (lv_at hl 1 rfl) ?_
  refine vp_callSi (va_runS (As := [.int p0]) (rest := []) ⟨hx, hb, hml, hown, hts⟩ (m_isBuyer l dC dI p0) (va_cwS 1 hts gX12_bill_X12_isBuyer rfl rfl rfl (by decide +kernel) ⟨Nat.le_of_ble_eq_true rfl, Nat.le_of_ble_eq_true rfl⟩) ⟨pw_fb, fun U hU hW => ⟨rfl, pw_to hU hW (hP.sub (ws' := []) [] rfl) (hK.sub (tys' := []) [] rfl) hN⟩⟩ rfl rfl hl.1 rfl (lv_room (Nat.le_of_ble_eq_true rfl)) dX12_bill_1 ⟨Nat.le_of_ble_eq_true rfl, Nat.le_of_ble_eq_true rfl⟩).run (fun r hw => ?_)
  rcases Bool.eq_false_or_eq_true (bw p0 0 9) with b_1 | b_1
  ·
    obtain rfl : r = 1 := b_t hw b_1
    refine lv_if_eq (tgt := 19) hx hb dX12_bill_4 (by decide) (fun c_2 => absurd c_2 (by decide)) (fun c_2 => ?_)
    refine lv_iload_n hx hb dX12_bill_7 rfl (lv_at hl 2 rfl) ?_
    refine lv_iconst (v := 0) hx hb dX12_bill_8 (by decide) ?_
    refine lv_aload_n hx hb dX12_bill_9 rfl (lv_at hl 0 rfl) ?_
    refine va_get (D := (dC, dI)) (ci := 11) (v := .int (u.1 38)) (C := RX12) (T := TX12) (N := 52) hx hb hts (by decide +kernel) hown hK hP 0 rfl rfl 38 (by decide) (hts (.fieldLink RX12 206 "PageOneModel" "day" "I") (by decide +kernel)) (fun _ h9 => h9) rfl dX12_bill_10 ?_
    refine vp_callSi (va_runS (As := [.int p1, .int 0, .int (u.1 38)]) (rest := []) ⟨hx, hb, hml, hown, hts⟩ (m_in l dC dI p1 0 (u.1 38)) (va_cwS 3 hts gX12_bill_X12_in rfl rfl rfl (by decide +kernel) ⟨Nat.le_of_ble_eq_true rfl, Nat.le_of_ble_eq_true rfl⟩) ⟨pw_fb, fun U hU hW => ⟨rfl, pw_to hU hW (hP.sub (ws' := []) [] rfl) (hK.sub (tys' := []) [] rfl) hN⟩⟩ rfl rfl hl.1 rfl (lv_room (Nat.le_of_ble_eq_true rfl)) dX12_bill_13 ⟨Nat.le_of_ble_eq_true rfl, Nat.le_of_ble_eq_true rfl⟩).run (fun r hw => ?_)
    rcases Bool.eq_false_or_eq_true (bw p1 0 (u.1 38)) with b_3 | b_3
    ·
      obtain rfl : r = 1 := b_t hw b_3
      refine lv_if_ne (tgt := 21) hx hb dX12_bill_16 (by decide) (fun c_4 => ?_) (fun c_4 => absurd c_4 (by decide))
      refine lv_iconst (v := 0) hx hb dX12_bill_21 (by decide) ?_
      refine lv_istore_n (lv' := [(3, .int 0), (0, .ref h0), (1, .int p0), (2, .int p1)]) hx hb dX12_bill_22 rfl hl (by decide) rfl (fun ls hl => ?_)
      refine lv_iconst (v := 0) hx hb dX12_bill_23 (by decide) ?_
      refine lv_istore (lv' := [(4, .int 0), (3, .int 0), (0, .ref h0), (1, .int p0), (2, .int p1)]) hx hb dX12_bill_24 hl (by decide) rfl (fun ls hl => ?_)
      obtain ⟨eK, eK2, eK3⟩ := nI_of_bw hn
      have h80 : (80 : Int32).toInt = 80 := rfl
      have hd9 : bw p1 0 399 = true := by have h1 := bw_iff.mp b_3; have h2 := bw_iff.mp hd; rw [bw_iff]; omega
      refine n_bl_out (M := (u.1 3).toNatClampNeg) hx hb hml hts hown hN hK (Nat.le_of_ble_eq_true rfl) (Nat.le_of_ble_eq_true rfl) (Nat.le_of_ble_eq_true rfl) (Nat.le_of_ble_eq_true rfl) hP (by omega) eK hd9 (fun a ls hg hl => ?_) _ 0 0 ls (Nat.zero_le _) (Nat.lt_succ_self _) rfl (lv_sub hl [0, 1, 2, 3, 4] rfl)
      refine lv_iload_n hx hb dX12_bill_173 rfl (lv_at hl 1 rfl) ?_
      exact W.iret (v := a) hx hb hr (fun t ht hW => ⟨_, rfl, (by unfold mBillX; rw [if_pos b_1, if_pos b_3]; exact hg), ht⟩) (fun q h => absurd h List.not_mem_nil) dX12_bill_174
    ·
      obtain rfl : r = 0 := b_f hw b_3
      refine lv_if_ne (tgt := 21) hx hb dX12_bill_16 (by decide) (fun c_5 => absurd (by decide) c_5) (fun c_5 => ?_)
      refine lv_iconst (v := (-1)) hx hb dX12_bill_19 (by decide) ?_
      exact W.iret (v := (-1)) hx hb hr (fun t ht hW => ⟨_, rfl, (by unfold mBillX; rw [if_neg (show ¬ bw p1 0 (u.1 38) = true from bne b_3)]; split <;> rfl), ht⟩) (fun q h => absurd h List.not_mem_nil) dX12_bill_20
  ·
    obtain rfl : r = 0 := b_f hw b_1
    refine lv_if_eq (tgt := 19) hx hb dX12_bill_4 (by decide) (fun c_6 => ?_) (fun c_6 => absurd (by decide) c_6)
    refine lv_iconst (v := (-1)) hx hb dX12_bill_19 (by decide) ?_
    exact W.iret (v := (-1)) hx hb hr (fun t ht hW => ⟨_, rfl, (by unfold mBillX; rw [if_neg (bne b_1)]), ht⟩) (fun q h => absurd h List.not_mem_nil) dX12_bill_20
