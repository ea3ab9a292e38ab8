theorem bP_or1 {P : Nat → Prop} {i : Nat} {a : Int32} (hg : a = bP (∃ j, j < i ∧ P j)) (h : ¬ a = 0) : (1 : Int32) = bP (∃ j, j < i + 1 ∧ P j) := by
  rw [hg] at h
  obtain ⟨j, hj, hp⟩ := bP_n h
  exact (bP_t ⟨j, by omega, hp⟩).symm
theorem bP_or2 {P : Nat → Prop} {i : Nat} (h : P i) : (1 : Int32) = bP (∃ j, j < i + 1 ∧ P j) := (bP_t ⟨i, Nat.lt_succ_self _, h⟩).symm
theorem bP_or3 {P : Nat → Prop} {i : Nat} {a : Int32} (hg : a = bP (∃ j, j < i ∧ P j)) (h : a = 0) (hn : ¬ P i) : (0 : Int32) = bP (∃ j, j < i + 1 ∧ P j) := by
  rw [hg] at h
  refine (bP_f (fun ⟨j, hj, hp⟩ => ?_)).symm
  by_cases e : j = i
  · rw [e] at hp; exact hn hp
  · exact bP_0 h ⟨j, by omega, hp⟩
theorem bP_z {P : Nat → Prop} : (0 : Int32) = bP (∃ j, j < 0 ∧ P j) := (bP_f (fun ⟨_, hj, _⟩ => absurd hj (Nat.not_lt_zero _))).symm
def hsC (u : mS) (p0 kk b : Int32) (c : Nat) : Prop := mCell u (u.2 23 kk.toNatClampNeg) (nI c) b = true ∧ u.2 2 (480 * u.2 23 kk.toNatClampNeg + 60 * nI c + b).toNatClampNeg = u.2 9 p0.toNatClampNeg
set_option maxHeartbeats 4000000 in
set_option maxRecDepth 100000 in
theorem n_hasS_loop {p : Program} {l : Launch} {e : Env} {R : Room} {s : State} {m : MethodId} {args : Array Value} {below : List Frame} {meth : Method} {c : Code} {Q : State → Prop} {cells slots : Nat} {dC : Nat → ClassId} {dI : Nat → Nat → Nat} {h0 : Nat} {v : Nat → Nat} {cI cZ : ClassId} {H : Heap} {locs : List Loc} {u : mS} (hx : p.tables.exec = Jvm.exec) (hb : c.code = cX12_hasStory) (hml : c.maxLocals = 6) (hts : ∀ w ∈ wsX12_hasStory, w.before args s = true) (hown : s.vm.findClass RX12 = some m.cls) (hN : NN s) (hK : va_K (dC, dI) vwCl [(cI, .int), (cZ, .boolean)] s) (hRf : 3 ≤ R.frames) (hRl : 65 ≤ R.locals) (hRc : cells ≤ R.cells) (hRs : slots ≤ R.slots) (hP : va_P (dC, dI) vwCl (mW h0 v cI cZ u) H) {p0 b kk : Int32} {X D : Nat} (hi0 : bw p0 0 79 = true) (hkk : vp_in kk 480) (hXW : X + D ≤ 8) (hln : ∀ j, j < 96 → bw (u.2 0 j) 0 60 = true) (e24 : u.2 24 kk.toNatClampNeg = nI X) (e26 : u.2 26 kk.toNatClampNeg = nI D) (kx : ∀ (a : Int32) (ls : Array Slot), (a = bP (∃ j, j < D ∧ hsC u p0 kk b (X + j))) → lv_has ls 6 [(5, .int (nI (X + D))), (4, .int a), (0, .ref h0), (1, .int p0), (2, .int kk), (3, .int b)] → W p l e R s m args below meth c H locs cells slots Q (F0 m 108 ls [])) : ∀ (k i : Nat) (a : Int32) (ls : Array Slot), i ≤ D → D - i < k → (a = bP (∃ j, j < i ∧ hsC u p0 kk b (X + j))) → lv_has ls 6 [(5, .int (nI (X + i))), (4, .int a), (0, .ref h0), (1, .int p0), (2, .int kk), (3, .int b)] → W p l e R s m args below meth c H locs cells slots Q (F0 m 30 ls []) := by
  intro k
  induction k with
  | zero => intro i a ls h1 h2; exact absurd h2 (Nat.not_lt_zero _)
  | succ k ih =>
    intro i a ls hi hk hg hl
    refine lv_iload hx hb dX12_hasStory_30 (lv_at hl 0 rfl) ?_
    refine lv_aload_n hx hb dX12_hasStory_32 rfl (lv_at hl 2 rfl) ?_
    refine va_get (D := (dC, dI)) (ci := 11) (v := .ref (v 24)) (C := RX12) (T := TX12) (N := 52) hx hb hts (by decide +kernel) hown hK hP 0 rfl rfl 24 (by decide) (hts (.fieldLink RX12 80 "PageOneModel" "pColumn" "[I") (by decide +kernel)) (fun _ h9 => h9) rfl dX12_hasStory_33 ?_
    refine lv_iload_n hx hb dX12_hasStory_36 rfl (lv_at hl 4 rfl) ?_
    refine va_iald hx hb hK hP 24 0 rfl rfl hkk dX12_hasStory_37 ?_
    refine lv_topi (fun y_1 ey_1 => ?_)
    obtain rfl : y_1 = (nI X) := ey_1.trans (e24)
    refine lv_aload_n hx hb dX12_hasStory_38 rfl (lv_at hl 2 rfl) ?_
    refine va_get (D := (dC, dI)) (ci := 11) (v := .ref (v 26)) (C := RX12) (T := TX12) (N := 52) hx hb hts (by decide +kernel) hown hK hP 0 rfl rfl 26 (by decide) (hts (.fieldLink RX12 86 "PageOneModel" "pWide" "[I") (by decide +kernel)) (fun _ h9 => h9) rfl dX12_hasStory_39 ?_
    refine lv_iload_n hx hb dX12_hasStory_42 rfl (lv_at hl 4 rfl) ?_
    refine va_iald hx hb hK hP 26 0 rfl rfl hkk dX12_hasStory_43 ?_
    refine lv_topi (fun y_2 ey_2 => ?_)
    obtain rfl : y_2 = (nI D) := ey_2.trans (e26)
    refine lv_iadd hx hb dX12_hasStory_44 ?_
    refine lv_icmp_ge (tgt := 108) hx hb dX12_hasStory_45 (by decide) (fun c_3 => ?_) (fun c_3 => ?_)
    ·
      have hie : i = D := by have := lp_eq (nI_add X D) (by omega) (by omega) c_3; omega
      rw [hie] at hg hl
      exact kx _ ls hg (lv_sub hl [0, 1, 2, 3, 4, 5] rfl)
    ·
      have hlt : i < D := by have := lp_lt (nI_add X D) (by omega) (by omega) c_3; omega
      refine lv_iload hx hb dX12_hasStory_48 (lv_at hl 1 rfl) ?_
      refine lv_if_ne (tgt := 95) hx hb dX12_hasStory_50 (by decide) (fun c_4 => ?_) (fun c_4 => ?_)
      ·
        refine lv_iconst (v := 1) hx hb dX12_hasStory_95 (by decide) ?_
        refine lv_goto (tgt := 100) hx hb dX12_hasStory_96 (by decide) ?_
        refine lv_istore (lv' := [(4, .int 1), (5, .int (nI (X + i))), (0, .ref h0), (1, .int p0), (2, .int kk), (3, .int b)]) hx hb dX12_hasStory_100 hl (by decide) rfl (fun ls hl => ?_)
        refine lv_iinc (v := (nI (X + i + 1))) (lv' := [(5, .int (nI (X + i + 1))), (4, .int 1), (0, .ref h0), (1, .int p0), (2, .int kk), (3, .int b)]) hx hb dX12_hasStory_102 hl (k := 1) rfl (nI_1 _) (by decide) rfl (fun ls hl => ?_)
        refine lv_goto (tgt := 30) hx hb dX12_hasStory_105 (by decide) ?_
        exact ih (i + 1) _ ls (by omega) (by omega) (bP_or1 (P := fun j => hsC u p0 kk b (X + j)) hg c_4) (lv_sub hl [0, 1, 2, 3, 4, 5] rfl)
      ·
        refine lv_aload_n hx hb dX12_hasStory_53 rfl (lv_at hl 2 rfl) ?_
        refine lv_aload_n hx hb dX12_hasStory_54 rfl (lv_at hl 2 rfl) ?_
        refine va_get (D := (dC, dI)) (ci := 11) (v := .ref (v 23)) (C := RX12) (T := TX12) (N := 52) hx hb hts (by decide +kernel) hown hK hP 0 rfl rfl 23 (by decide) (hts (.fieldLink RX12 77 "PageOneModel" "pPage" "[I") (by decide +kernel)) (fun _ h9 => h9) rfl dX12_hasStory_55 ?_
        refine lv_iload_n hx hb dX12_hasStory_58 rfl (lv_at hl 4 rfl) ?_
        refine va_iald hx hb hK hP 23 0 rfl rfl hkk dX12_hasStory_59 ?_
        refine lv_iload hx hb dX12_hasStory_60 (lv_at hl 0 rfl) ?_
        refine lv_iload_n hx hb dX12_hasStory_62 rfl (lv_at hl 5 rfl) ?_
        refine vp_callSi (va_runV (As := [.int (u.2 23 (kk : Int32).toNatClampNeg), .int (nI (X + i)), .int b]) (rest := []) ⟨hx, hb, hml, hown, hts⟩ (m_isCell l dC dI h0 v cI cZ u (u.2 23 (kk : Int32).toNatClampNeg) (nI (X + i)) b) (cwV 3 hts gX12_hasStory_X12_isCell rfl rfl rfl (by decide +kernel) ⟨Nat.le_trans (Nat.le_of_ble_eq_true rfl) hRf, Nat.le_trans (Nat.le_of_ble_eq_true rfl) hRl⟩) ⟨pw_fb, va_recv hK hP (ci := 11) (q0 := 0) rfl rfl, fun U hU hW => ⟨rfl, pw_to hU hW hP hK hN⟩⟩ rfl rfl hl.1 rfl (lv_room (Nat.le_of_ble_eq_true rfl)) dX12_hasStory_63 ⟨hRc, hRs⟩).run (fun r hw => ?_)
        rcases Bool.eq_false_or_eq_true (mCell u (u.2 23 (kk : Int32).toNatClampNeg) (nI (X + i)) b) with b_5 | b_5
        ·
          obtain rfl : r = 1 := b_t hw b_5
          refine lv_if_eq (tgt := 99) hx hb dX12_hasStory_66 (by decide) (fun c_6 => absurd c_6 (by decide)) (fun c_6 => ?_)
          refine lv_aload_n hx hb dX12_hasStory_69 rfl (lv_at hl 2 rfl) ?_
          refine va_get (D := (dC, dI)) (ci := 11) (v := .ref (v 2)) (C := RX12) (T := TX12) (N := 52) hx hb hts (by decide +kernel) hown hK hP 0 rfl rfl 2 (by decide) (hts (.fieldLink RX12 16 "PageOneModel" "cell" "[I") (by decide +kernel)) (fun _ h9 => h9) rfl dX12_hasStory_70 ?_
          refine lv_aload_n hx hb dX12_hasStory_73 rfl (lv_at hl 2 rfl) ?_
          refine va_get (D := (dC, dI)) (ci := 11) (v := .ref (v 23)) (C := RX12) (T := TX12) (N := 52) hx hb hts (by decide +kernel) hown hK hP 0 rfl rfl 23 (by decide) (hts (.fieldLink RX12 77 "PageOneModel" "pPage" "[I") (by decide +kernel)) (fun _ h9 => h9) rfl dX12_hasStory_74 ?_
          refine lv_iload_n hx hb dX12_hasStory_77 rfl (lv_at hl 4 rfl) ?_
          refine va_iald hx hb hK hP 23 0 rfl rfl hkk dX12_hasStory_78 ?_
          refine lv_iload hx hb dX12_hasStory_79 (lv_at hl 0 rfl) ?_
          refine lv_iload_n hx hb dX12_hasStory_81 rfl (lv_at hl 5 rfl) ?_
          refine vp_callSi (va_runS (As := [.int (u.2 23 (kk : Int32).toNatClampNeg), .int (nI (X + i)), .int b]) (rest := [.ref (v 2)]) ⟨hx, hb, hml, hown, hts⟩ (m_at l dC dI (u.2 23 (kk : Int32).toNatClampNeg) (nI (X + i)) b) (va_cwS 3 hts gX12_hasStory_X12_at rfl rfl rfl (by decide +kernel) ⟨Nat.le_trans (Nat.le_of_ble_eq_true rfl) hRf, Nat.le_trans (Nat.le_of_ble_eq_true rfl) hRl⟩) ⟨pw_fb, fun U hU hW => ⟨rfl, pw_to hU hW (hP.sub (ws' := []) [] rfl) (hK.sub (tys' := []) [] rfl) hN⟩⟩ rfl rfl hl.1 rfl (lv_room (Nat.le_of_ble_eq_true rfl)) dX12_hasStory_82 ⟨hRc, hRs⟩).run (fun r hw => ?_)
          obtain rfl : r = (480 * (u.2 23 (kk : Int32).toNatClampNeg) + 60 * (nI (X + i)) + b) := hw
          refine va_iald hx hb hK hP 3 0 rfl rfl (vCell hln b_5) dX12_hasStory_85 ?_
          refine lv_aload_n hx hb dX12_hasStory_86 rfl (lv_at hl 2 rfl) ?_
          refine va_get (D := (dC, dI)) (ci := 11) (v := .ref (v 9)) (C := RX12) (T := TX12) (N := 52) hx hb hts (by decide +kernel) hown hK hP 0 rfl rfl 9 (by decide) (hts (.fieldLink RX12 34 "PageOneModel" "of" "[I") (by decide +kernel)) (fun _ h9 => h9) rfl dX12_hasStory_87 ?_
          refine lv_iload_n hx hb dX12_hasStory_90 rfl (lv_at hl 3 rfl) ?_
          refine va_iald hx hb hK hP 9 0 rfl rfl (vin hi0 (by decide)) dX12_hasStory_91 ?_
          refine lv_icmp_ne (tgt := 99) hx hb dX12_hasStory_92 (by decide) (fun c_7 => ?_) (fun c_7 => ?_)
          ·
            refine lv_iconst (v := 0) hx hb dX12_hasStory_99 (by decide) ?_
            refine lv_istore (lv' := [(4, .int 0), (5, .int (nI (X + i))), (0, .ref h0), (1, .int p0), (2, .int kk), (3, .int b)]) hx hb dX12_hasStory_100 hl (by decide) rfl (fun ls hl => ?_)
            refine lv_iinc (v := (nI (X + i + 1))) (lv' := [(5, .int (nI (X + i + 1))), (4, .int 0), (0, .ref h0), (1, .int p0), (2, .int kk), (3, .int b)]) hx hb dX12_hasStory_102 hl (k := 1) rfl (nI_1 _) (by decide) rfl (fun ls hl => ?_)
            refine lv_goto (tgt := 30) hx hb dX12_hasStory_105 (by decide) ?_
            exact ih (i + 1) _ ls (by omega) (by omega) (bP_or3 (P := fun j => hsC u p0 kk b (X + j)) hg c_4 (fun h => c_7 h.2)) (lv_sub hl [0, 1, 2, 3, 4, 5] rfl)
          ·
            refine lv_iconst (v := 1) hx hb dX12_hasStory_95 (by decide) ?_
            refine lv_goto (tgt := 100) hx hb dX12_hasStory_96 (by decide) ?_
            refine lv_istore (lv' := [(4, .int 1), (5, .int (nI (X + i))), (0, .ref h0), (1, .int p0), (2, .int kk), (3, .int b)]) hx hb dX12_hasStory_100 hl (by decide) rfl (fun ls hl => ?_)
            refine lv_iinc (v := (nI (X + i + 1))) (lv' := [(5, .int (nI (X + i + 1))), (4, .int 1), (0, .ref h0), (1, .int p0), (2, .int kk), (3, .int b)]) hx hb dX12_hasStory_102 hl (k := 1) rfl (nI_1 _) (by decide) rfl (fun ls hl => ?_)
            refine lv_goto (tgt := 30) hx hb dX12_hasStory_105 (by decide) ?_
            exact ih (i + 1) _ ls (by omega) (by omega) (bP_or2 (P := fun j => hsC u p0 kk b (X + j)) ⟨b_5, c_7⟩) (lv_sub hl [0, 1, 2, 3, 4, 5] rfl)
        ·
          obtain rfl : r = 0 := b_f hw b_5
          refine lv_if_eq (tgt := 99) hx hb dX12_hasStory_66 (by decide) (fun c_8 => ?_) (fun c_8 => absurd (by decide) c_8)
          refine lv_iconst (v := 0) hx hb dX12_hasStory_99 (by decide) ?_
          refine lv_istore (lv' := [(4, .int 0), (5, .int (nI (X + i))), (0, .ref h0), (1, .int p0), (2, .int kk), (3, .int b)]) hx hb dX12_hasStory_100 hl (by decide) rfl (fun ls hl => ?_)
          refine lv_iinc (v := (nI (X + i + 1))) (lv' := [(5, .int (nI (X + i + 1))), (4, .int 0), (0, .ref h0), (1, .int p0), (2, .int kk), (3, .int b)]) hx hb dX12_hasStory_102 hl (k := 1) rfl (nI_1 _) (by decide) rfl (fun ls hl => ?_)
          refine lv_goto (tgt := 30) hx hb dX12_hasStory_105 (by decide) ?_
          exact ih (i + 1) _ ls (by omega) (by omega) (bP_or3 (P := fun j => hsC u p0 kk b (X + j)) hg c_4 (fun h => bne b_5 h.1)) (lv_sub hl [0, 1, 2, 3, 4, 5] rfl)
set_option maxHeartbeats 4000000 in
set_option maxRecDepth 100000 in
theorem n_hasStory (l : Launch) (dC : Nat → ClassId) (dI : Nat → Nat → Nat) (h0 : Nat) (v : Nat → Nat) (cI cZ : ClassId) (u : mS) (p0 : Int32) (X D : Nat) (hi : bw p0 0 79 = true) (hXW : X + D ≤ 8) (hln : ∀ j, j < 96 → bw (u.2 0 j) 0 60 = true) (e24 : u.2 24 (6 * p0).toNatClampNeg = nI X) (e26 : u.2 26 (6 * p0).toNatClampNeg = nI D) : Met l yX12_hasStory wsX12_hasStory ({ frames := 3, cells := 0, slots := 0, locals := 65 }) (va_Pc [.ref h0, .int p0] (PW dC dI (mW h0 v cI cZ u) [(cI, .int), (cZ, .boolean)])) (vp_Si (fun r => r = bP (∃ j, j < D ∧ hsC u p0 (6 * p0) (u.2 25 (6 * p0).toNatClampNeg + u.2 27 (6 * p0).toNatClampNeg) (X + j)))) 0 0 (fun _ => False) := by
  refine Met.ofW (cc := cX12_hasStory) (maxL := 6) (ret := (some .boolean)) (by decide) rfl ?_
  intro p e s m args below meth c s₁ B hml hv
  obtain ⟨rfl, hP, hK, hN⟩ := hv
  have hx := B.exec
  have hb := B.bytes
  have hr := B.returns
  have hts := atoms_spec (ws := wsX12_hasStory) B.pre
  have hown : s.vm.findClass RX12 = some m.cls := findClass_of_methodNamed B.named
  have hlocks := B.notSynchronized
  have hl := lv_entry ([.ref h0, .int p0]) (n := 6) (Nat.le_of_ble_eq_true rfl)
  rw [lg_entry_eq]
  generalize (lg_sl ([.ref h0, .int p0]) ++ List.replicate (6 - (lg_sl ([.ref h0, .int p0])).length) Slot.unset).toArray = ls at hl ⊢
  have hl : lv_has ls 6 [(0, .ref h0), (1, .int p0)] := hl
  refine lv_bipush (v := 6) hx hb dX12_hasStory_0 (by decide) ?_
  refine lv_iload_n hx hb dX12_hasStory_2 rfl (lv_at hl 1 rfl) ?_
  refine lv_imul hx hb dX12_hasStory_3 ?_
  refine lv_topi (fun x_1 ex_1 => ?_)
  refine lv_istore_n (lv' := [(2, .int x_1), (0, .ref h0), (1, .int p0)]) hx hb dX12_hasStory_4 rfl hl (by decide) rfl (fun ls hl => ?_)
  refine lv_aload_n hx hb dX12_hasStory_5 rfl (lv_at hl 1 rfl) ?_
  refine va_get (D := (dC, dI)) (ci := 11) (v := .ref (v 25)) (C := RX12) (T := TX12) (N := 52) hx hb hts (by decide +kernel) hown hK hP 0 rfl rfl 25 (by decide) (hts (.fieldLink RX12 83 "PageOneModel" "pLine" "[I") (by decide +kernel)) (fun _ h9 => h9) rfl dX12_hasStory_6 ?_
  refine lv_iload_n hx hb dX12_hasStory_9 rfl (lv_at hl 0 rfl) ?_
  refine va_iald hx hb hK hP 25 0 rfl rfl (v60 hi ex_1) dX12_hasStory_10 ?_
  refine lv_aload_n hx hb dX12_hasStory_11 rfl (lv_at hl 1 rfl) ?_
  refine va_get (D := (dC, dI)) (ci := 11) (v := .ref (v 27)) (C := RX12) (T := TX12) (N := 52) hx hb hts (by decide +kernel) hown hK hP 0 rfl rfl 27 (by decide) (hts (.fieldLink RX12 89 "PageOneModel" "pHigh" "[I") (by decide +kernel)) (fun _ h9 => h9) rfl dX12_hasStory_12 ?_
  refine lv_iload_n hx hb dX12_hasStory_15 rfl (lv_at hl 0 rfl) ?_
  refine va_iald hx hb hK hP 27 0 rfl rfl (v60 hi ex_1) dX12_hasStory_16 ?_
  refine lv_iadd hx hb dX12_hasStory_17 ?_
  refine lv_topi (fun x_2 ex_2 => ?_)
  refine lv_istore_n (lv' := [(3, .int x_2), (2, .int x_1), (0, .ref h0), (1, .int p0)]) hx hb dX12_hasStory_18 rfl hl (by decide) rfl (fun ls hl => ?_)
  refine lv_iconst (v := 0) hx hb dX12_hasStory_19 (by decide) ?_
  refine lv_istore (lv' := [(4, .int 0), (3, .int x_2), (2, .int x_1), (0, .ref h0), (1, .int p0)]) hx hb dX12_hasStory_20 hl (by decide) rfl (fun ls hl => ?_)
  refine lv_aload_n hx hb dX12_hasStory_22 rfl (lv_at hl 3 rfl) ?_
  refine va_get (D := (dC, dI)) (ci := 11) (v := .ref (v 24)) (C := RX12) (T := TX12) (N := 52) hx hb hts (by decide +kernel) hown hK hP 0 rfl rfl 24 (by decide) (hts (.fieldLink RX12 80 "PageOneModel" "pColumn" "[I") (by decide +kernel)) (fun _ h9 => h9) rfl dX12_hasStory_23 ?_
  refine lv_iload_n hx hb dX12_hasStory_26 rfl (lv_at hl 2 rfl) ?_
  refine va_iald hx hb hK hP 24 0 rfl rfl (v60 hi ex_1) dX12_hasStory_27 ?_
  refine lv_topi (fun y_3 ey_3 => ?_)
  obtain rfl : y_3 = (nI X) := ey_3.trans ((by rw [ex_1]; exact e24))
  refine lv_istore (lv' := [(5, .int (nI X)), (4, .int 0), (3, .int x_2), (2, .int x_1), (0, .ref h0), (1, .int p0)]) hx hb dX12_hasStory_28 hl (by decide) rfl (fun ls hl => ?_)
  refine n_hasS_loop (X := X) (D := D) hx hb hml hts hown hN hK (Nat.le_of_ble_eq_true rfl) (Nat.le_of_ble_eq_true rfl) (Nat.le_of_ble_eq_true rfl) (Nat.le_of_ble_eq_true rfl) hP hi (v60 hi ex_1) hXW hln (by rw [ex_1]; exact e24) (by rw [ex_1]; exact e26) (fun a ls hg hl => ?_) (D + 1) 0 0 ls (Nat.zero_le _) (by omega) bP_z (lv_sub hl [0, 1, 4, 5, 3, 2] rfl)
  refine lv_iload hx hb dX12_hasStory_108 (lv_at hl 1 rfl) ?_
  exact W.zret (v := a) hx hb hr (by rw [hg]; rcases bP_01 (∃ j, j < D ∧ hsC u p0 x_1 x_2 (X + j)) with h | h <;> rw [h] <;> decide) (fun t ht hW => ⟨_, rfl, (by rw [hg, ex_2, ex_1]), ht⟩) (fun q h => absurd h List.not_mem_nil) dX12_hasStory_110
