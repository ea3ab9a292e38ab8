/-- the item's column on a plate of the edition at hand -/
def prC (u : mS) (i : Int32) (q : Nat) : Bool := mNow u (nI q) && !decide (u.2 45 (80 * nI q + i).toNatClampNeg < 0)
def mPrV (u : mS) (i w p : Int32) : Int32 := if w = 0 then u.1 38 else if w = 1 then u.1 39 else if w = 2 then p else if w = 3 then u.2 45 (80 * p + i).toNatClampNeg else u.2 46 (80 * p + i).toNatClampNeg
/-- printed(i, w) answers r -/
def mPrR (u : mS) (i w r : Int32) : Prop := if bw i 0 (u.1 3 - 1) = true then (if bw w 0 4 = true then (if u.2 47 (5 * i).toNatClampNeg < 0 then ((∃ q, q < 12 ∧ prC u i q = true ∧ (∀ j, j < q → prC u i j = false) ∧ r = mPrV u i w (nI q)) ∨ ((∀ j, j < 12 → prC u i j = false) ∧ r = (-1))) else r = u.2 47 (5 * i + w).toNatClampNeg) else r = (-1)) else r = (-1)
theorem vPl {i : Int32} {q : Nat} (hi : bw i 0 79 = true) (hq : q < 12) : vp_in (80 * nI q + i) 960 := by
  have h79 : (79 : Int32).toInt = 79 := rfl
  have h1 := bw_iff.mp hi
  rw [i0, h79] at h1
  have e1 : (80 * nI q).toInt = 80 * q := by rw [show (80 : Int32) = nI 80 from rfl, pk_mul, nI_toInt (by omega)]; omega
  rw [vp_in_iff, addI (by rw [e1]; omega) (by rw [e1]; omega), e1]; omega
theorem v5 {i : Int32} (hi : bw i 0 79 = true) : vp_in (5 * i) 400 ∧ (5 * i).toInt = 5 * i.toInt ∧ 0 ≤ i.toInt ∧ i.toInt ≤ 79 := by
  have h79 : (79 : Int32).toInt = 79 := rfl
  have h5 : (5 : Int32).toInt = 5 := rfl
  have h1 := bw_iff.mp hi
  rw [i0, h79] at h1
  have e1 : (5 * i).toInt = 5 * i.toInt := by rw [mulI (by rw [h5]; omega) (by rw [h5]; omega), h5]
  exact ⟨by rw [vp_in_iff, e1]; omega, e1, h1.1, h1.2⟩
theorem v5w {i w : Int32} (hi : bw i 0 79 = true) (hw : bw w 0 4 = true) : vp_in (5 * i + w) 400 := by
  have h4 : (4 : Int32).toInt = 4 := rfl
  have h1 := v5 hi
  have h2 := bw_iff.mp hw
  rw [i0, h4] at h2
  rw [vp_in_iff, addI (by rw [h1.2.1]; omega) (by rw [h1.2.1]; omega), h1.2.1]; omega
set_option maxHeartbeats 4000000 in
set_option maxRecDepth 100000 in
theorem m_printed_loop {p : Program} {l : Launch} {e : Env} {R : Room} {s : State} {m : MethodId} {args : Array Value} {below : List Frame} {meth : Method} {c : Code} {Q : State → Prop} {cells slots : Nat} {dC : Nat → ClassId} {dI : Nat → Nat → Nat} {h0 : Nat} {v : Nat → Nat} {cI cZ : ClassId} {H : Heap} {locs : List Loc} {u : mS} (hx : p.tables.exec = Jvm.exec) (hb : c.code = cX12_printed) (hml : c.maxLocals = 4) (hts : ∀ w ∈ wsX12_printed, w.before args s = true) (hown : s.vm.findClass RX12 = some m.cls) (hN : NN s) (hK : va_K (dC, dI) vwCl [(cI, .int), (cZ, .boolean)] s) (hRf : 1 ≤ R.frames) (hRl : 21 ≤ R.locals) (hRc : cells ≤ R.cells) (hRs : slots ≤ R.slots) (hP : va_P (dC, dI) vwCl (mW h0 v cI cZ u) H) {p0 p1 : Int32} (hi0 : bw p0 0 79 = true) (kx71 : ∀ (i : Nat) (ls : Array Slot), i < 12 → prC u p0 i = true → (∀ j, j < i → prC u p0 j = false) → lv_has ls 4 [(3, .int (nI i)), (0, .ref h0), (1, .int p0), (2, .int p1)] → W p l e R s m args below meth c H locs cells slots Q (F0 m 71 ls [])) (kx : ∀ (ls : Array Slot), (∀ j, j < 12 → prC u p0 j = false) → lv_has ls 4 [(3, .int (nI 12)), (0, .ref h0), (1, .int p0), (2, .int p1)] → W p l e R s m args below meth c H locs cells slots Q (F0 m 140 ls [])) : ∀ (k i : Nat) (ls : Array Slot), i ≤ 12 → 12 - i < k → (∀ j, j < i → prC u p0 j = false) → lv_has ls 4 [(3, .int (nI i)), (0, .ref h0), (1, .int p0), (2, .int p1)] → W p l e R s m args below meth c H locs cells slots Q (F0 m 43 ls []) := by
  intro k
  induction k with
  | zero => intro i ls h1 h2; exact absurd h2 (Nat.not_lt_zero _)
  | succ k ih =>
    intro i ls hi hk hg hl
    refine lv_iload_n hx hb dX12_printed_43 rfl (lv_at hl 0 rfl) ?_
    refine lv_bipush (v := 12) hx hb dX12_printed_44 (by decide) ?_
    refine lv_icmp_ge (tgt := 140) hx hb dX12_printed_46 (by decide) (fun c_1 => ?_) (fun c_1 => ?_)
    ·
      have hie : i = 12 := lp_eq rfl (by decide) hi c_1
      subst hie
      exact kx ls hg (lv_sub hl [0, 1, 2, 3] rfl)
    ·
      have hlt : i < 12 := lp_lt rfl (by decide) hi c_1
      refine lv_aload_n hx hb dX12_printed_49 rfl (lv_at hl 1 rfl) ?_
      refine lv_iload_n hx hb dX12_printed_50 rfl (lv_at hl 0 rfl) ?_
      refine vp_callSi (va_runV (As := [.int (nI i)]) (rest := []) ⟨hx, hb, hml, hown, hts⟩ (m_isNow l dC dI h0 v cI cZ u (nI i) (bwN (by have h11 : (11 : Int32).toInt = 11 := rfl; rw [h11]; omega) (by omega))) (cwV 1 hts gX12_printed_X12_isNow rfl rfl rfl (by decide +kernel) ⟨hRf, hRl⟩) ⟨pw_fb, va_recv hK hP (ci := 11) (q0 := 0) rfl rfl, fun U hU hW => ⟨rfl, pw_to hU hW hP hK hN⟩⟩ rfl rfl hl.1 rfl (lv_room (Nat.le_of_ble_eq_true rfl)) dX12_printed_51 ⟨hRc, hRs⟩).run (fun r hw => ?_)
      rcases Bool.eq_false_or_eq_true (mNow u (nI i)) with b_2 | b_2
      ·
        obtain rfl : r = 1 := b_t hw b_2
        refine lv_if_eq (tgt := 134) hx hb dX12_printed_54 (by decide) (fun c_3 => absurd c_3 (by decide)) (fun c_3 => ?_)
        refine lv_aload_n hx hb dX12_printed_57 rfl (lv_at hl 1 rfl) ?_
        refine va_get (D := (dC, dI)) (ci := 11) (v := .ref (v 45)) (C := RX12) (T := TX12) (N := 52) hx hb hts (by decide +kernel) hown hK hP 0 rfl rfl 45 (by decide) (hts (.fieldLink RX12 131 "PageOneModel" "plateColumn" "[I") (by decide +kernel)) (fun _ h9 => h9) rfl dX12_printed_58 ?_
        refine lv_bipush (v := 80) hx hb dX12_printed_61 (by decide) ?_
        refine lv_iload_n hx hb dX12_printed_63 rfl (lv_at hl 0 rfl) ?_
        refine lv_imul hx hb dX12_printed_64 ?_
        refine lv_iload_n hx hb dX12_printed_65 rfl (lv_at hl 2 rfl) ?_
        refine lv_iadd hx hb dX12_printed_66 ?_
        refine va_iald hx hb hK hP 41 0 rfl rfl (vPl hi0 hlt) dX12_printed_67 ?_
        refine lv_if_lt (tgt := 134) hx hb dX12_printed_68 (by decide) (fun c_4 => ?_) (fun c_4 => ?_)
        ·
          refine lv_iinc (v := (nI (i + 1))) (lv' := [(3, .int (nI (i + 1))), (0, .ref h0), (1, .int p0), (2, .int p1)]) hx hb dX12_printed_134 hl (k := 0) rfl (nI_1 i) (by decide) rfl (fun ls hl => ?_)
          refine lv_goto (tgt := 43) hx hb dX12_printed_137 (by decide) ?_
          exact ih (i + 1) ls (by omega) (by omega) (lt_s hg (by unfold prC; rw [b_2]; simp [c_4])) (lv_sub hl [0, 1, 2, 3] rfl)
        ·
          exact kx71 i ls hlt (by unfold prC; rw [b_2]; simp [c_4]) hg (lv_sub hl [0, 1, 2, 3] rfl)
      ·
        obtain rfl : r = 0 := b_f hw b_2
        refine lv_if_eq (tgt := 134) hx hb dX12_printed_54 (by decide) (fun c_5 => ?_) (fun c_5 => absurd (by decide) c_5)
        refine lv_iinc (v := (nI (i + 1))) (lv' := [(3, .int (nI (i + 1))), (0, .ref h0), (1, .int p0), (2, .int p1)]) hx hb dX12_printed_134 hl (k := 0) rfl (nI_1 i) (by decide) rfl (fun ls hl => ?_)
        refine lv_goto (tgt := 43) hx hb dX12_printed_137 (by decide) ?_
        exact ih (i + 1) ls (by omega) (by omega) (lt_s hg (by unfold prC; rw [b_2]; rfl)) (lv_sub hl [0, 1, 2, 3] rfl)
set_option maxHeartbeats 4000000 in
set_option maxRecDepth 100000 in
theorem m_printed (l : Launch) (dC : Nat → ClassId) (dI : Nat → Nat → Nat) (h0 : Nat) (v : Nat → Nat) (cI cZ : ClassId) (u : mS) (p0 p1 : Int32) (hn : bw (u.1 3) 0 80 = true) : Met l yX12_printed wsX12_printed ({ frames := 2, cells := 0, slots := 0, locals := 43 }) (va_Pc [.ref h0, .int p0, .int p1] (PW dC dI (mW h0 v cI cZ u) [(cI, .int), (cZ, .boolean)])) (vp_Si (fun r => mPrR u p0 p1 r)) 0 0 (fun _ => False) := by
  refine Met.ofW (cc := cX12_printed) (maxL := 4) (ret := (some .int)) (by decide) rfl ?_
  intro p e s m args below meth c s₁ B hml hv
  obtain ⟨rfl, hP, hK, hN⟩ := hv
  have hx := B.exec
  have hb := B.bytes
  have hr := B.returns
  have hts := atoms_spec (ws := wsX12_printed) B.pre
  have hown : s.vm.findClass RX12 = some m.cls := findClass_of_methodNamed B.named
  have hlocks := B.notSynchronized
  have hl := lv_entry ([.ref h0, .int p0, .int p1]) (n := 4) (Nat.le_of_ble_eq_true rfl)
  rw [lg_entry_eq]
  generalize (lg_sl ([.ref h0, .int p0, .int p1]) ++ List.replicate (4 - (lg_sl ([.ref h0, .int p0, .int p1])).length) Slot.unset).toArray = ls at hl ⊢
  have hl : lv_has ls 4 [(0, .ref h0), (1, .int p0), (2, .int p1)] := hl
  refine lv_aload_n hx hb dX12_printed_0 rfl (lv_at hl 0 rfl) ?_
  refine lv_iload_n hx hb dX12_printed_1 rfl (lv_at hl 1 rfl) ?_
  refine vp_callSi (va_runV (As := [.int p0]) (rest := []) ⟨hx, hb, hml, hown, hts⟩ (m_isItem l dC dI h0 v cI cZ u p0) (cwV 1 hts gX12_printed_X12_isItem rfl rfl rfl (by decide +kernel) ⟨Nat.le_of_ble_eq_true rfl, Nat.le_of_ble_eq_true rfl⟩) ⟨pw_fb, va_recv hK hP (ci := 11) (q0 := 0) rfl rfl, fun U hU hW => ⟨rfl, pw_to hU hW hP hK hN⟩⟩ rfl rfl hl.1 rfl (lv_room (Nat.le_of_ble_eq_true rfl)) dX12_printed_2 ⟨Nat.le_of_ble_eq_true rfl, Nat.le_of_ble_eq_true rfl⟩).run (fun r hw => ?_)
  rcases Bool.eq_false_or_eq_true (bw p0 0 (u.1 3 - 1)) with b_1 | b_1
  ·
    obtain rfl : r = 1 := b_t hw b_1
    refine lv_if_eq (tgt := 17) hx hb dX12_printed_5 (by decide) (fun c_2 => absurd c_2 (by decide)) (fun c_2 => ?_)
    refine lv_iload_n hx hb dX12_printed_8 rfl (lv_at hl 2 rfl) ?_
    refine lv_iconst (v := 0) hx hb dX12_printed_9 (by decide) ?_
    refine lv_iconst (v := 4) hx hb dX12_printed_10 (by decide) ?_
    refine vp_callSi (va_runS (As := [.int p1, .int 0, .int 4]) (rest := []) ⟨hx, hb, hml, hown, hts⟩ (m_in l dC dI p1 0 4) (va_cwS 3 hts gX12_printed_X12_in rfl rfl rfl (by decide +kernel) ⟨Nat.le_of_ble_eq_true rfl, Nat.le_of_ble_eq_true rfl⟩) ⟨pw_fb, fun U hU hW => ⟨rfl, pw_to hU hW (hP.sub (ws' := []) [] rfl) (hK.sub (tys' := []) [] rfl) hN⟩⟩ rfl rfl hl.1 rfl (lv_room (Nat.le_of_ble_eq_true rfl)) dX12_printed_11 ⟨Nat.le_of_ble_eq_true rfl, Nat.le_of_ble_eq_true rfl⟩).run (fun r hw => ?_)
    rcases Bool.eq_false_or_eq_true (bw p1 0 4) with b_3 | b_3
    ·
      obtain rfl : r = 1 := b_t hw b_3
      refine lv_if_ne (tgt := 19) hx hb dX12_printed_14 (by decide) (fun c_4 => ?_) (fun c_4 => absurd c_4 (by decide))
      refine lv_aload_n hx hb dX12_printed_19 rfl (lv_at hl 0 rfl) ?_
      refine va_get (D := (dC, dI)) (ci := 11) (v := .ref (v 47)) (C := RX12) (T := TX12) (N := 52) hx hb hts (by decide +kernel) hown hK hP 0 rfl rfl 47 (by decide) (hts (.fieldLink RX12 137 "PageOneModel" "first" "[I") (by decide +kernel)) (fun _ h9 => h9) rfl dX12_printed_20 ?_
      refine lv_iconst (v := 5) hx hb dX12_printed_23 (by decide) ?_
      refine lv_iload_n hx hb dX12_printed_24 rfl (lv_at hl 1 rfl) ?_
      refine lv_imul hx hb dX12_printed_25 ?_
      refine va_iald hx hb hK hP 43 0 rfl rfl (v5 (it79 hn b_1)).1 dX12_printed_26 ?_
      refine lv_if_lt (tgt := 41) hx hb dX12_printed_27 (by decide) (fun c_5 => ?_) (fun c_5 => ?_)
      ·
        refine lv_iconst (v := 0) hx hb dX12_printed_41 (by decide) ?_
        refine lv_istore_n (lv' := [(3, .int 0), (0, .ref h0), (1, .int p0), (2, .int p1)]) hx hb dX12_printed_42 rfl hl (by decide) rfl (fun ls hl => ?_)
        have hi9 := it79 hn b_1
        refine m_printed_loop (p1 := p1) hx hb hml hts hown hN hK (Nat.le_of_ble_eq_true rfl) (Nat.le_of_ble_eq_true rfl) (Nat.le_of_ble_eq_true rfl) (Nat.le_of_ble_eq_true rfl) hP hi9 (fun i ls hlt hpr hg hl => ?_) (fun ls hg hl => ?_) 13 0 ls (by decide) (by decide) (fun j hj => absurd hj (Nat.not_lt_zero _)) (lv_sub hl [0, 1, 2, 3] rfl)
        ·
          refine lv_iload_n hx hb dX12_printed_71 rfl (lv_at hl 3 rfl) ?_
          refine lv_if_ne (tgt := 82) hx hb dX12_printed_72 (by decide) (fun c_6 => ?_) (fun c_6 => ?_)
          ·
            refine lv_iload_n hx hb dX12_printed_82 rfl (lv_at hl 3 rfl) ?_
            refine lv_iconst (v := 1) hx hb dX12_printed_83 (by decide) ?_
            refine lv_icmp_ne (tgt := 94) hx hb dX12_printed_84 (by decide) (fun c_7 => ?_) (fun c_7 => ?_)
            ·
              refine lv_iload_n hx hb dX12_printed_94 rfl (lv_at hl 3 rfl) ?_
              refine lv_iconst (v := 2) hx hb dX12_printed_95 (by decide) ?_
              refine lv_icmp_ne (tgt := 103) hx hb dX12_printed_96 (by decide) (fun c_8 => ?_) (fun c_8 => ?_)
              ·
                refine lv_iload_n hx hb dX12_printed_103 rfl (lv_at hl 3 rfl) ?_
                refine lv_iconst (v := 3) hx hb dX12_printed_104 (by decide) ?_
                refine lv_icmp_ne (tgt := 122) hx hb dX12_printed_105 (by decide) (fun c_9 => ?_) (fun c_9 => ?_)
                ·
                  refine lv_aload_n hx hb dX12_printed_122 rfl (lv_at hl 1 rfl) ?_
                  refine va_get (D := (dC, dI)) (ci := 11) (v := .ref (v 46)) (C := RX12) (T := TX12) (N := 52) hx hb hts (by decide +kernel) hown hK hP 0 rfl rfl 46 (by decide) (hts (.fieldLink RX12 134 "PageOneModel" "plateLine" "[I") (by decide +kernel)) (fun _ h9 => h9) rfl dX12_printed_123 ?_
                  refine lv_bipush (v := 80) hx hb dX12_printed_126 (by decide) ?_
                  refine lv_iload_n hx hb dX12_printed_128 rfl (lv_at hl 0 rfl) ?_
                  refine lv_imul hx hb dX12_printed_129 ?_
                  refine lv_iload_n hx hb dX12_printed_130 rfl (lv_at hl 2 rfl) ?_
                  refine lv_iadd hx hb dX12_printed_131 ?_
                  refine va_iald hx hb hK hP 42 0 rfl rfl (vPl hi9 hlt) dX12_printed_132 ?_
                  exact W.iret (v := (u.2 46 (((80 * (nI i)) + p0) : Int32).toNatClampNeg)) hx hb hr (fun t ht hW => ⟨_, rfl, (by show mPrR u p0 p1 _; unfold mPrR; rw [if_pos b_1, if_pos b_3, if_pos c_5]; exact Or.inl ⟨i, hlt, hpr, hg, by first | (unfold mPrV; rw [if_neg c_6, if_neg c_7, if_neg c_8, if_neg c_9]; done) | (unfold mPrV; rw [if_neg c_6, if_neg c_7, if_neg c_8, if_neg c_9]; rfl)⟩), ht⟩) (fun q h => absurd h List.not_mem_nil) dX12_printed_133
                ·
                  refine lv_aload_n hx hb dX12_printed_108 rfl (lv_at hl 1 rfl) ?_
                  refine va_get (D := (dC, dI)) (ci := 11) (v := .ref (v 45)) (C := RX12) (T := TX12) (N := 52) hx hb hts (by decide +kernel) hown hK hP 0 rfl rfl 45 (by decide) (hts (.fieldLink RX12 131 "PageOneModel" "plateColumn" "[I") (by decide +kernel)) (fun _ h9 => h9) rfl dX12_printed_109 ?_
                  refine lv_bipush (v := 80) hx hb dX12_printed_112 (by decide) ?_
                  refine lv_iload_n hx hb dX12_printed_114 rfl (lv_at hl 0 rfl) ?_
                  refine lv_imul hx hb dX12_printed_115 ?_
                  refine lv_iload_n hx hb dX12_printed_116 rfl (lv_at hl 2 rfl) ?_
                  refine lv_iadd hx hb dX12_printed_117 ?_
                  refine va_iald hx hb hK hP 41 0 rfl rfl (vPl hi9 hlt) dX12_printed_118 ?_
                  refine lv_goto (tgt := 133) hx hb dX12_printed_119 (by decide) ?_
                  exact W.iret (v := (u.2 45 (((80 * (nI i)) + p0) : Int32).toNatClampNeg)) hx hb hr (fun t ht hW => ⟨_, rfl, (by show mPrR u p0 p1 _; unfold mPrR; rw [if_pos b_1, if_pos b_3, if_pos c_5]; exact Or.inl ⟨i, hlt, hpr, hg, by first | (unfold mPrV; rw [if_neg c_6, if_neg c_7, if_neg c_8, if_pos c_9]; done) | (unfold mPrV; rw [if_neg c_6, if_neg c_7, if_neg c_8, if_pos c_9]; rfl)⟩), ht⟩) (fun q h => absurd h List.not_mem_nil) dX12_printed_133
              ·
                refine lv_iload_n hx hb dX12_printed_99 rfl (lv_at hl 0 rfl) ?_
                refine lv_goto (tgt := 133) hx hb dX12_printed_100 (by decide) ?_
                exact W.iret (v := (nI i)) hx hb hr (fun t ht hW => ⟨_, rfl, (by show mPrR u p0 p1 _; unfold mPrR; rw [if_pos b_1, if_pos b_3, if_pos c_5]; exact Or.inl ⟨i, hlt, hpr, hg, by first | (unfold mPrV; rw [if_neg c_6, if_neg c_7, if_pos c_8]; done) | (unfold mPrV; rw [if_neg c_6, if_neg c_7, if_pos c_8]; rfl)⟩), ht⟩) (fun q h => absurd h List.not_mem_nil) dX12_printed_133
            ·
              refine lv_aload_n hx hb dX12_printed_87 rfl (lv_at hl 1 rfl) ?_
              refine va_get (D := (dC, dI)) (ci := 11) (v := .int (u.1 39)) (C := RX12) (T := TX12) (N := 52) hx hb hts (by decide +kernel) hown hK hP 0 rfl rfl 39 (by decide) (hts (.fieldLink RX12 257 "PageOneModel" "edition" "I") (by decide +kernel)) (fun _ h9 => h9) rfl dX12_printed_88 ?_
              refine lv_goto (tgt := 133) hx hb dX12_printed_91 (by decide) ?_
              exact W.iret (v := (u.1 39)) hx hb hr (fun t ht hW => ⟨_, rfl, (by show mPrR u p0 p1 _; unfold mPrR; rw [if_pos b_1, if_pos b_3, if_pos c_5]; exact Or.inl ⟨i, hlt, hpr, hg, by first | (unfold mPrV; rw [if_neg c_6, if_pos c_7]; done) | (unfold mPrV; rw [if_neg c_6, if_pos c_7]; rfl)⟩), ht⟩) (fun q h => absurd h List.not_mem_nil) dX12_printed_133
          ·
            refine lv_aload_n hx hb dX12_printed_75 rfl (lv_at hl 1 rfl) ?_
            refine va_get (D := (dC, dI)) (ci := 11) (v := .int (u.1 38)) (C := RX12) (T := TX12) (N := 52) hx hb hts (by decide +kernel) hown hK hP 0 rfl rfl 38 (by decide) (hts (.fieldLink RX12 206 "PageOneModel" "day" "I") (by decide +kernel)) (fun _ h9 => h9) rfl dX12_printed_76 ?_
            refine lv_goto (tgt := 133) hx hb dX12_printed_79 (by decide) ?_
            exact W.iret (v := (u.1 38)) hx hb hr (fun t ht hW => ⟨_, rfl, (by show mPrR u p0 p1 _; unfold mPrR; rw [if_pos b_1, if_pos b_3, if_pos c_5]; exact Or.inl ⟨i, hlt, hpr, hg, by first | (unfold mPrV; rw [if_pos c_6]; done) | (unfold mPrV; rw [if_pos c_6]; rfl)⟩), ht⟩) (fun q h => absurd h List.not_mem_nil) dX12_printed_133
        ·
          refine lv_iconst (v := (-1)) hx hb dX12_printed_140 (by decide) ?_
          exact W.iret (v := (-1)) hx hb hr (fun t ht hW => ⟨_, rfl, (by show mPrR u p0 p1 _; unfold mPrR; rw [if_pos b_1, if_pos b_3, if_pos c_5]; exact Or.inr ⟨hg, rfl⟩), ht⟩) (fun q h => absurd h List.not_mem_nil) dX12_printed_141
      ·
        refine lv_aload_n hx hb dX12_printed_30 rfl (lv_at hl 0 rfl) ?_
        refine va_get (D := (dC, dI)) (ci := 11) (v := .ref (v 47)) (C := RX12) (T := TX12) (N := 52) hx hb hts (by decide +kernel) hown hK hP 0 rfl rfl 47 (by decide) (hts (.fieldLink RX12 137 "PageOneModel" "first" "[I") (by decide +kernel)) (fun _ h9 => h9) rfl dX12_printed_31 ?_
        refine lv_iconst (v := 5) hx hb dX12_printed_34 (by decide) ?_
        refine lv_iload_n hx hb dX12_printed_35 rfl (lv_at hl 1 rfl) ?_
        refine lv_imul hx hb dX12_printed_36 ?_
        refine lv_iload_n hx hb dX12_printed_37 rfl (lv_at hl 2 rfl) ?_
        refine lv_iadd hx hb dX12_printed_38 ?_
        refine va_iald hx hb hK hP 43 0 rfl rfl (v5w (it79 hn b_1) b_3) dX12_printed_39 ?_
        exact W.iret (v := (u.2 47 (((5 * p0) + p1) : Int32).toNatClampNeg)) hx hb hr (fun t ht hW => ⟨_, rfl, (by show mPrR u p0 p1 _; unfold mPrR; rw [if_pos b_1, if_pos b_3, if_neg c_5]), ht⟩) (fun q h => absurd h List.not_mem_nil) dX12_printed_40
    ·
      obtain rfl : r = 0 := b_f hw b_3
      refine lv_if_ne (tgt := 19) hx hb dX12_printed_14 (by decide) (fun c_10 => absurd (by decide) c_10) (fun c_10 => ?_)
      refine lv_iconst (v := (-1)) hx hb dX12_printed_17 (by decide) ?_
      exact W.iret (v := (-1)) hx hb hr (fun t ht hW => ⟨_, rfl, (by show mPrR u p0 p1 _; unfold mPrR; rw [if_pos b_1, if_neg (bne b_3)]), ht⟩) (fun q h => absurd h List.not_mem_nil) dX12_printed_18
  ·
    obtain rfl : r = 0 := b_f hw b_1
    refine lv_if_eq (tgt := 17) hx hb dX12_printed_5 (by decide) (fun c_11 => ?_) (fun c_11 => absurd (by decide) c_11)
    refine lv_iconst (v := (-1)) hx hb dX12_printed_17 (by decide) ?_
    exact W.iret (v := (-1)) hx hb hr (fun t ht hW => ⟨_, rfl, (by show mPrR u p0 p1 _; unfold mPrR; rw [if_neg (bne b_1)]), ht⟩) (fun q h => absurd h List.not_mem_nil) dX12_printed_18
