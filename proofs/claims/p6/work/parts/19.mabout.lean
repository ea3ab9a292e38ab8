/-- how many of the first pages have a plate of the edition at hand -/
def mCnt (u : mS) : Nat → Int32
  | 0 => 0
  | n + 1 => mCnt u n + (if mNow u (nI n) = true then 1 else 0)
def mAbout (u : mS) (w : Int32) : Int32 := if w = 0 then u.1 38 else if w = 1 then u.1 39 else if w = 2 then u.1 3 else if w = 3 then u.1 28 else if w = 4 then mCnt u 12 else (-1)
set_option maxHeartbeats 4000000 in
set_option maxRecDepth 100000 in
theorem m_about_loop {p : Program} {l : Launch} {e : Env} {R : Room} {s : State} {m : MethodId} {args : Array Value} {below : List Frame} {meth : Method} {c : Code} {Q : State → Prop} {cells slots : Nat} {dC : Nat → ClassId} {dI : Nat → Nat → Nat} {h0 : Nat} {v : Nat → Nat} {cI cZ : ClassId} {H : Heap} {locs : List Loc} {u : mS} (hx : p.tables.exec = Jvm.exec) (hb : c.code = cX12_about) (hml : c.maxLocals = 4) (hts : ∀ w ∈ wsX12_about, w.before args s = true) (hown : s.vm.findClass RX12 = some m.cls) (hN : NN s) (hK : va_K (dC, dI) vwCl [(cI, .int), (cZ, .boolean)] s) (hRf : 1 ≤ R.frames) (hRl : 21 ≤ R.locals) (hRc : cells ≤ R.cells) (hRs : slots ≤ R.slots) (hP : va_P (dC, dI) vwCl (mW h0 v cI cZ u) H) (kx : ∀ (a : Int32) (ls : Array Slot), a = mCnt u 12 → lv_has ls 4 [(3, .int (nI 12)), (2, .int a), (0, .ref h0)] → W p l e R s m args below meth c H locs cells slots Q (F0 m 88 ls [])) : ∀ (k i : Nat) (a : Int32) (ls : Array Slot), i ≤ 12 → 12 - i < k → a = mCnt u i → lv_has ls 4 [(3, .int (nI i)), (2, .int a), (0, .ref h0)] → W p l e R s m args below meth c H locs cells slots Q (F0 m 60 ls []) := by
  intro k
  induction k with
  | zero => intro i a ls h1 h2; exact absurd h2 (Nat.not_lt_zero _)
  | succ k ih =>
    intro i a ls hi hk hg hl
    refine lv_iload_n hx hb dX12_about_60 rfl (lv_at hl 0 rfl) ?_
    refine lv_bipush (v := 12) hx hb dX12_about_61 (by decide) ?_
    refine lv_icmp_ge (tgt := 88) hx hb dX12_about_63 (by decide) (fun c_1 => ?_) (fun c_1 => ?_)
    ·
      have hie : i = 12 := lp_eq rfl (by decide) hi c_1
      subst hie
      exact kx _ ls hg (lv_sub hl [0, 1, 2] rfl)
    ·
      have hlt : i < 12 := lp_lt rfl (by decide) hi c_1
      refine lv_iload_n hx hb dX12_about_66 rfl (lv_at hl 1 rfl) ?_
      refine lv_aload_n hx hb dX12_about_67 rfl (lv_at hl 2 rfl) ?_
      refine lv_iload_n hx hb dX12_about_68 rfl (lv_at hl 0 rfl) ?_
      refine vp_callSi (va_runV (As := [.int (nI i)]) (rest := [.int a]) ⟨hx, hb, hml, hown, hts⟩ (m_isNow l dC dI h0 v cI cZ u (nI i) (bwN (by have h11 : (11 : Int32).toInt = 11 := rfl; rw [h11]; omega) (by omega))) (cwV 1 hts gX12_about_X12_isNow rfl rfl rfl (by decide +kernel) ⟨hRf, hRl⟩) ⟨pw_fb, va_recv hK hP (ci := 11) (q0 := 0) rfl rfl, fun U hU hW => ⟨rfl, pw_to hU hW hP hK hN⟩⟩ rfl rfl hl.1 rfl (lv_room (Nat.le_of_ble_eq_true rfl)) dX12_about_69 ⟨hRc, hRs⟩).run (fun r hw => ?_)
      rcases Bool.eq_false_or_eq_true (mNow u (nI i)) with b_2 | b_2
      ·
        obtain rfl : r = 1 := b_t hw b_2
        refine lv_if_eq (tgt := 79) hx hb dX12_about_72 (by decide) (fun c_3 => absurd c_3 (by decide)) (fun c_3 => ?_)
        refine lv_iconst (v := 1) hx hb dX12_about_75 (by decide) ?_
        refine lv_goto (tgt := 80) hx hb dX12_about_76 (by decide) ?_
        refine lv_iadd hx hb dX12_about_80 ?_
        refine lv_topi (fun x_4 ex_4 => ?_)
        refine lv_istore_n (lv' := [(2, .int x_4), (3, .int (nI i)), (0, .ref h0)]) hx hb dX12_about_81 rfl hl (by decide) rfl (fun ls hl => ?_)
        refine lv_iinc (v := (nI (i + 1))) (lv' := [(3, .int (nI (i + 1))), (2, .int x_4), (0, .ref h0)]) hx hb dX12_about_82 hl (k := 1) rfl (nI_1 i) (by decide) rfl (fun ls hl => ?_)
        refine lv_goto (tgt := 60) hx hb dX12_about_85 (by decide) ?_
        exact ih (i + 1) _ ls (by omega) (by omega) (by subst_vars; rw [mCnt, if_pos b_2]) (lv_sub hl [0, 1, 2] rfl)
      ·
        obtain rfl : r = 0 := b_f hw b_2
        refine lv_if_eq (tgt := 79) hx hb dX12_about_72 (by decide) (fun c_5 => ?_) (fun c_5 => absurd (by decide) c_5)
        refine lv_iconst (v := 0) hx hb dX12_about_79 (by decide) ?_
        refine lv_iadd hx hb dX12_about_80 ?_
        refine lv_topi (fun x_6 ex_6 => ?_)
        refine lv_istore_n (lv' := [(2, .int x_6), (3, .int (nI i)), (0, .ref h0)]) hx hb dX12_about_81 rfl hl (by decide) rfl (fun ls hl => ?_)
        refine lv_iinc (v := (nI (i + 1))) (lv' := [(3, .int (nI (i + 1))), (2, .int x_6), (0, .ref h0)]) hx hb dX12_about_82 hl (k := 1) rfl (nI_1 i) (by decide) rfl (fun ls hl => ?_)
        refine lv_goto (tgt := 60) hx hb dX12_about_85 (by decide) ?_
        exact ih (i + 1) _ ls (by omega) (by omega) (by subst_vars; rw [mCnt, if_neg (bne b_2)]) (lv_sub hl [0, 1, 2] rfl)
set_option maxHeartbeats 4000000 in
set_option maxRecDepth 100000 in
theorem m_about (l : Launch) (dC : Nat → ClassId) (dI : Nat → Nat → Nat) (h0 : Nat) (v : Nat → Nat) (cI cZ : ClassId) (u : mS) (p0 : Int32) : Met l yX12_about wsX12_about ({ frames := 1, cells := 0, slots := 0, locals := 21 }) (va_Pc [.ref h0, .int p0] (PW dC dI (mW h0 v cI cZ u) [(cI, .int), (cZ, .boolean)])) (vp_Si (fun r => r = mAbout u p0)) 0 0 (fun _ => False) := by
  refine Met.ofW (cc := cX12_about) (maxL := 4) (ret := (some .int)) (by decide) rfl ?_
  intro p e s m args below meth c s₁ B hml hv
  obtain ⟨rfl, hP, hK, hN⟩ := hv
  have hx := B.exec
  have hb := B.bytes
  have hr := B.returns
  have hts := atoms_spec (ws := wsX12_about) B.pre
  have hown : s.vm.findClass RX12 = some m.cls := findClass_of_methodNamed B.named
  have hlocks := B.notSynchronized
  have hl := lv_entry ([.ref h0, .int p0]) (n := 4) (Nat.le_of_ble_eq_true rfl)
  rw [lg_entry_eq]
  generalize (lg_sl ([.ref h0, .int p0]) ++ List.replicate (4 - (lg_sl ([.ref h0, .int p0])).length) Slot.unset).toArray = ls at hl ⊢
  have hl : lv_has ls 4 [(0, .ref h0), (1, .int p0)] := hl
  refine lv_iload_n hx hb dX12_about_0 rfl (lv_at hl 1 rfl) ?_
  rcases Classical.em (p0 = 0) with s_1 | s_1
  ·
    subst s_1
    refine lv_tableIn (tgt := 36) (off := 35) hx hb dX12_about_1 (by decide) (by decide) (by decide) (by decide) ?_
    refine lv_aload_n hx hb dX12_about_36 rfl (lv_at hl 0 rfl) ?_
    refine va_get (D := (dC, dI)) (ci := 11) (v := .int (u.1 38)) (C := RX12) (T := TX12) (N := 52) hx hb hts (by decide +kernel) hown hK hP 0 rfl rfl 38 (by decide) (hts (.fieldLink RX12 206 "PageOneModel" "day" "I") (by decide +kernel)) (fun _ h9 => h9) rfl dX12_about_37 ?_
    exact W.iret (v := (u.1 38)) hx hb hr (fun t ht hW => ⟨_, rfl, (by simp [mAbout]), ht⟩) (fun q h => absurd h List.not_mem_nil) dX12_about_40
  ·
    rcases Classical.em (p0 = 1) with s_2 | s_2
    ·
      subst s_2
      refine lv_tableIn (tgt := 41) (off := 40) hx hb dX12_about_1 (by decide) (by decide) (by decide) (by decide) ?_
      refine lv_aload_n hx hb dX12_about_41 rfl (lv_at hl 0 rfl) ?_
      refine va_get (D := (dC, dI)) (ci := 11) (v := .int (u.1 39)) (C := RX12) (T := TX12) (N := 52) hx hb hts (by decide +kernel) hown hK hP 0 rfl rfl 39 (by decide) (hts (.fieldLink RX12 257 "PageOneModel" "edition" "I") (by decide +kernel)) (fun _ h9 => h9) rfl dX12_about_42 ?_
      exact W.iret (v := (u.1 39)) hx hb hr (fun t ht hW => ⟨_, rfl, (by simp [mAbout]), ht⟩) (fun q h => absurd h List.not_mem_nil) dX12_about_45
    ·
      rcases Classical.em (p0 = 2) with s_3 | s_3
      ·
        subst s_3
        refine lv_tableIn (tgt := 46) (off := 45) hx hb dX12_about_1 (by decide) (by decide) (by decide) (by decide) ?_
        refine lv_aload_n hx hb dX12_about_46 rfl (lv_at hl 0 rfl) ?_
        refine va_get (D := (dC, dI)) (ci := 11) (v := .int (u.1 3)) (C := RX12) (T := TX12) (N := 52) hx hb hts (by decide +kernel) hown hK hP 0 rfl rfl 3 (by decide) (hts (.fieldLink RX12 147 "PageOneModel" "items" "I") (by decide +kernel)) (fun _ h9 => h9) rfl dX12_about_47 ?_
        exact W.iret (v := (u.1 3)) hx hb hr (fun t ht hW => ⟨_, rfl, (by simp [mAbout]), ht⟩) (fun q h => absurd h List.not_mem_nil) dX12_about_50
      ·
        rcases Classical.em (p0 = 3) with s_4 | s_4
        ·
          subst s_4
          refine lv_tableIn (tgt := 51) (off := 50) hx hb dX12_about_1 (by decide) (by decide) (by decide) (by decide) ?_
          refine lv_aload_n hx hb dX12_about_51 rfl (lv_at hl 0 rfl) ?_
          refine va_get (D := (dC, dI)) (ci := 11) (v := .int (u.1 28)) (C := RX12) (T := TX12) (N := 52) hx hb hts (by decide +kernel) hown hK hP 0 rfl rfl 28 (by decide) (hts (.fieldLink RX12 158 "PageOneModel" "acts" "I") (by decide +kernel)) (fun _ h9 => h9) rfl dX12_about_52 ?_
          exact W.iret (v := (u.1 28)) hx hb hr (fun t ht hW => ⟨_, rfl, (by simp [mAbout]), ht⟩) (fun q h => absurd h List.not_mem_nil) dX12_about_55
        ·
          rcases Classical.em (p0 = 4) with s_5 | s_5
          ·
            subst s_5
            refine lv_tableIn (tgt := 56) (off := 55) hx hb dX12_about_1 (by decide) (by decide) (by decide) (by decide) ?_
            refine lv_iconst (v := 0) hx hb dX12_about_56 (by decide) ?_
            refine lv_istore_n (lv' := [(2, .int 0), (0, .ref h0), (1, .int 4)]) hx hb dX12_about_57 rfl hl (by decide) rfl (fun ls hl => ?_)
            refine lv_iconst (v := 0) hx hb dX12_about_58 (by decide) ?_
            refine lv_istore_n (lv' := [(3, .int 0), (2, .int 0), (0, .ref h0), (1, .int 4)]) hx hb dX12_about_59 rfl hl (by decide) rfl (fun ls hl => ?_)
            refine m_about_loop hx hb hml hts hown hN hK (Nat.le_of_ble_eq_true rfl) (Nat.le_of_ble_eq_true rfl) (Nat.le_of_ble_eq_true rfl) (Nat.le_of_ble_eq_true rfl) hP (fun a ls hg hl => ?_) 13 0 0 ls (by decide) (by decide) rfl (lv_sub hl [0, 1, 2] rfl)
            refine lv_iload_n hx hb dX12_about_88 rfl (lv_at hl 1 rfl) ?_
            exact W.iret (v := a) hx hb hr (fun t ht hW => ⟨_, rfl, (by rw [hg]; rfl), ht⟩) (fun q h => absurd h List.not_mem_nil) dX12_about_89
          ·
            refine lv_tableOut (tgt := 90) hx hb dX12_about_1 (sw_out4 s_1 s_2 s_3 s_4 s_5) (by decide) ?_
            refine lv_iconst (v := (-1)) hx hb dX12_about_90 (by decide) ?_
            exact W.iret (v := (-1)) hx hb hr (fun t ht hW => ⟨_, rfl, (by simp [mAbout, s_1, s_2, s_3, s_4, s_5]), ht⟩) (fun q h => absurd h List.not_mem_nil) dX12_about_91
/-- an empty cell of the page -/
def frB (u : mS) (p x y : Int32) : Bool := mCell u p x y && decide (u.2 2 (480 * p + 60 * x + y).toNatClampNeg = (-2))
def mFreeP (u : mS) (p c l w h : Int32) : Prop := mCell u p c l = true ∧ bw w 1 8 = true ∧ bw h 1 60 = true ∧ ∀ a, a < w.toNatClampNeg → ∀ b, b < h.toNatClampNeg → frB u p (c + nI a) (l + nI b) = true
theorem exN {x lo hi : Int32} (h : bw x lo hi = true) (hl : 0 ≤ lo.toInt) : ∃ X : Nat, (X : Int) ≤ hi.toInt ∧ lo.toInt ≤ (X : Int) ∧ x = nI X := by
  have h1 := bw_iff.mp h
  obtain ⟨j, hj, e⟩ := nI_of (x := x) (fun q => by rw [i32_lt, i0] at q; omega)
  subst e
  rw [nI_toInt hj] at h1
  exact ⟨j, h1.2, h1.1, rfl⟩
theorem mCell_c {u : mS} {p c l : Int32} (h : mCell u p c l = true) : bw p 0 11 = true ∧ bw c 0 7 = true ∧ bw l 0 (u.2 0 (8 * p + c).toNatClampNeg - 1) = true := by
  unfold mCell at h
  obtain ⟨h1, h3⟩ := band h
  obtain ⟨h1, h2⟩ := band h1
  exact ⟨h1, h2, h3⟩
theorem exL {u : mS} {p c l : Int32} (hln : ∀ j, j < 96 → bw (u.2 0 j) 0 60 = true) (h : mCell u p c l = true) : ∃ Y : Nat, Y < 60 ∧ l = nI Y := by
  obtain ⟨h1, h2, h3⟩ := mCell_c h
  have h60 : (60 : Int32).toInt = 60 := rfl
  have hl := bw_iff.mp (hln _ (vlt (vin8 h1 h2)))
  rw [i0, h60] at hl
  obtain ⟨Y, e1, -, e2⟩ := exN h3 (by rw [i0]; decide)
  rw [subI (by rw [i1]; omega) (by rw [i1]; omega), i1] at e1
  exact ⟨Y, by omega, e2⟩
set_option maxHeartbeats 4000000 in
set_option maxRecDepth 100000 in
theorem m_free_in {p : Program} {l : Launch} {e : Env} {R : Room} {s : State} {m : MethodId} {args : Array Value} {below : List Frame} {meth : Method} {c : Code} {Q : State → Prop} {cells slots : Nat} {dC : Nat → ClassId} {dI : Nat → Nat → Nat} {h0 : Nat} {v : Nat → Nat} {cI cZ : ClassId} {H : Heap} {locs : List Loc} {u : mS} (hx : p.tables.exec = Jvm.exec) (hb : c.code = cX12_isFree) (hml : c.maxLocals = 8) (hts : ∀ w ∈ wsX12_isFree, w.before args s = true) (hown : s.vm.findClass RX12 = some m.cls) (hN : NN s) (hK : va_K (dC, dI) vwCl [(cI, .int), (cZ, .boolean)] s) (hRf : 3 ≤ R.frames) (hRl : 66 ≤ R.locals) (hRc : cells ≤ R.cells) (hRs : slots ≤ R.slots) (hP : va_P (dC, dI) vwCl (mW h0 v cI cZ u) H) {p0 : Int32} {X Y D N : Nat} (hln : ∀ j, j < 96 → bw (u.2 0 j) 0 60 = true) (hX : X < 8) (hY : Y < 60) (hD : D ≤ 8) (hN6 : N ≤ 60) {x : Nat} (kx88 : ∀ (i : Nat) (ls : Array Slot), i < N → frB u p0 (nI x) (nI (Y + i)) = false → (∀ j, j < i → frB u p0 (nI x) (nI (Y + j)) = true) → lv_has ls 8 [(7, .int (nI (Y + i))), (6, .int (nI x)), (0, .ref h0), (1, .int p0), (2, .int (nI X)), (3, .int (nI Y)), (4, .int (nI D)), (5, .int (nI N))] → W p l e R s m args below meth c H locs cells slots Q (F0 m 88 ls [])) (kx : ∀ (ls : Array Slot), (∀ j, j < N → frB u p0 (nI x) (nI (Y + j)) = true) → lv_has ls 8 [(7, .int (nI (Y + N))), (6, .int (nI x)), (0, .ref h0), (1, .int p0), (2, .int (nI X)), (3, .int (nI Y)), (4, .int (nI D)), (5, .int (nI N))] → W p l e R s m args below meth c H locs cells slots Q (F0 m 96 ls [])) : ∀ (k i : Nat) (ls : Array Slot), i ≤ N → N - i < k → (∀ j, j < i → frB u p0 (nI x) (nI (Y + j)) = true) → lv_has ls 8 [(7, .int (nI (Y + i))), (6, .int (nI x)), (0, .ref h0), (1, .int p0), (2, .int (nI X)), (3, .int (nI Y)), (4, .int (nI D)), (5, .int (nI N))] → W p l e R s m args below meth c H locs cells slots Q (F0 m 49 ls []) := by
  intro k
  induction k with
  | zero => intro i ls h1 h2; exact absurd h2 (Nat.not_lt_zero _)
  | succ k ih =>
    intro i ls hi hk hg hl
    refine lv_iload hx hb dX12_isFree_49 (lv_at hl 0 rfl) ?_
    refine lv_iload_n hx hb dX12_isFree_51 rfl (lv_at hl 5 rfl) ?_
    refine lv_iload hx hb dX12_isFree_52 (lv_at hl 7 rfl) ?_
    refine lv_iadd hx hb dX12_isFree_54 ?_
    refine lv_icmp_ge (tgt := 96) hx hb dX12_isFree_55 (by decide) (fun c_1 => ?_) (fun c_1 => ?_)
    ·
      have hie : i = N := by have := lp_eq (nI_add Y N) (by omega) (by omega) c_1; omega
      rw [hie] at hg hl
      exact kx ls hg (lv_sub hl [0, 1, 2, 3, 4, 5, 6, 7] rfl)
    ·
      have hlt : i < N := by have := lp_lt (nI_add Y N) (by omega) (by omega) c_1; omega
      refine lv_aload_n hx hb dX12_isFree_58 rfl (lv_at hl 2 rfl) ?_
      refine lv_iload_n hx hb dX12_isFree_59 rfl (lv_at hl 3 rfl) ?_
      refine lv_iload hx hb dX12_isFree_60 (lv_at hl 1 rfl) ?_
      refine lv_iload hx hb dX12_isFree_62 (lv_at hl 0 rfl) ?_
      refine vp_callSi (va_runV (As := [.int p0, .int (nI x), .int (nI (Y + i))]) (rest := []) ⟨hx, hb, hml, hown, hts⟩ (m_isCell l dC dI h0 v cI cZ u p0 (nI x) (nI (Y + i))) (cwV 3 hts gX12_isFree_X12_isCell rfl rfl rfl (by decide +kernel) ⟨Nat.le_trans (Nat.le_of_ble_eq_true rfl) hRf, Nat.le_trans (Nat.le_of_ble_eq_true rfl) hRl⟩) ⟨pw_fb, va_recv hK hP (ci := 11) (q0 := 0) rfl rfl, fun U hU hW => ⟨rfl, pw_to hU hW hP hK hN⟩⟩ rfl rfl hl.1 rfl (lv_room (Nat.le_of_ble_eq_true rfl)) dX12_isFree_64 ⟨hRc, hRs⟩).run (fun r hw => ?_)
      rcases Bool.eq_false_or_eq_true (mCell u p0 (nI x) (nI (Y + i))) with b_2 | b_2
      ·
        obtain rfl : r = 1 := b_t hw b_2
        refine lv_if_eq (tgt := 88) hx hb dX12_isFree_67 (by decide) (fun c_3 => absurd c_3 (by decide)) (fun c_3 => ?_)
        refine lv_aload_n hx hb dX12_isFree_70 rfl (lv_at hl 2 rfl) ?_
        refine va_get (D := (dC, dI)) (ci := 11) (v := .ref (v 2)) (C := RX12) (T := TX12) (N := 52) hx hb hts (by decide +kernel) hown hK hP 0 rfl rfl 2 (by decide) (hts (.fieldLink RX12 16 "PageOneModel" "cell" "[I") (by decide +kernel)) (fun _ h9 => h9) rfl dX12_isFree_71 ?_
        refine lv_iload_n hx hb dX12_isFree_74 rfl (lv_at hl 3 rfl) ?_
        refine lv_iload hx hb dX12_isFree_75 (lv_at hl 1 rfl) ?_
        refine lv_iload hx hb dX12_isFree_77 (lv_at hl 0 rfl) ?_
        refine vp_callSi (va_runS (As := [.int p0, .int (nI x), .int (nI (Y + i))]) (rest := [.ref (v 2)]) ⟨hx, hb, hml, hown, hts⟩ (m_at l dC dI p0 (nI x) (nI (Y + i))) (va_cwS 3 hts gX12_isFree_X12_at rfl rfl rfl (by decide +kernel) ⟨Nat.le_trans (Nat.le_of_ble_eq_true rfl) hRf, Nat.le_trans (Nat.le_of_ble_eq_true rfl) hRl⟩) ⟨pw_fb, fun U hU hW => ⟨rfl, pw_to hU hW (hP.sub (ws' := []) [] rfl) (hK.sub (tys' := []) [] rfl) hN⟩⟩ rfl rfl hl.1 rfl (lv_room (Nat.le_of_ble_eq_true rfl)) dX12_isFree_79 ⟨hRc, hRs⟩).run (fun r hw => ?_)
        obtain rfl : r = (480 * p0 + 60 * (nI x) + (nI (Y + i))) := hw
        refine va_iald hx hb hK hP 3 0 rfl rfl (vCell hln b_2) dX12_isFree_82 ?_
        refine lv_bipush (v := (-2)) hx hb dX12_isFree_83 (by decide) ?_
        refine lv_icmp_eq (tgt := 90) hx hb dX12_isFree_85 (by decide) (fun c_4 => ?_) (fun c_4 => ?_)
        ·
          refine lv_iinc (v := (nI (Y + i + 1))) (lv' := [(7, .int (nI (Y + i + 1))), (6, .int (nI x)), (0, .ref h0), (1, .int p0), (2, .int (nI X)), (3, .int (nI Y)), (4, .int (nI D)), (5, .int (nI N))]) hx hb dX12_isFree_90 hl (k := 0) rfl (nI_1 _) (by decide) rfl (fun ls hl => ?_)
          refine lv_goto (tgt := 49) hx hb dX12_isFree_93 (by decide) ?_
          exact ih (i + 1) ls (by omega) (by omega) (lt_s hg (by unfold frB; rw [b_2]; simp [c_4])) (lv_sub hl [0, 1, 2, 3, 4, 5, 6, 7] rfl)
        ·
          exact kx88 i ls hlt (by unfold frB; rw [b_2]; simp [c_4]) hg (lv_sub hl [0, 1, 2, 3, 4, 5, 6, 7] rfl)
      ·
        obtain rfl : r = 0 := b_f hw b_2
        refine lv_if_eq (tgt := 88) hx hb dX12_isFree_67 (by decide) (fun c_5 => ?_) (fun c_5 => absurd (by decide) c_5)
        exact kx88 i ls hlt (by unfold frB; rw [b_2]; rfl) hg (lv_sub hl [0, 1, 2, 3, 4, 5, 6, 7] rfl)
set_option maxHeartbeats 4000000 in
set_option maxRecDepth 100000 in
theorem m_free_out {p : Program} {l : Launch} {e : Env} {R : Room} {s : State} {m : MethodId} {args : Array Value} {below : List Frame} {meth : Method} {c : Code} {Q : State → Prop} {cells slots : Nat} {dC : Nat → ClassId} {dI : Nat → Nat → Nat} {h0 : Nat} {v : Nat → Nat} {cI cZ : ClassId} {H : Heap} {locs : List Loc} {u : mS} (hx : p.tables.exec = Jvm.exec) (hb : c.code = cX12_isFree) (hml : c.maxLocals = 8) (hts : ∀ w ∈ wsX12_isFree, w.before args s = true) (hown : s.vm.findClass RX12 = some m.cls) (hN : NN s) (hK : va_K (dC, dI) vwCl [(cI, .int), (cZ, .boolean)] s) (hRf : 3 ≤ R.frames) (hRl : 66 ≤ R.locals) (hRc : cells ≤ R.cells) (hRs : slots ≤ R.slots) (hP : va_P (dC, dI) vwCl (mW h0 v cI cZ u) H) {p0 : Int32} {X Y D N : Nat} (hln : ∀ j, j < 96 → bw (u.2 0 j) 0 60 = true) (hX : X < 8) (hY : Y < 60) (hD : D ≤ 8) (hN6 : N ≤ 60) (kx88 : ∀ (i : Nat) (ls : Array Slot), i < D → (∃ b, b < N ∧ frB u p0 (nI (X + i)) (nI (Y + b)) = false) → (∀ a, a < i → ∀ b, b < N → frB u p0 (nI (X + a)) (nI (Y + b)) = true) → lv_has ls 8 [(6, .int (nI (X + i))), (0, .ref h0), (1, .int p0), (2, .int (nI X)), (3, .int (nI Y)), (4, .int (nI D)), (5, .int (nI N))] → W p l e R s m args below meth c H locs cells slots Q (F0 m 88 ls [])) (kx : ∀ (ls : Array Slot), (∀ a, a < D → ∀ b, b < N → frB u p0 (nI (X + a)) (nI (Y + b)) = true) → lv_has ls 8 [(6, .int (nI (X + D))), (0, .ref h0), (1, .int p0), (2, .int (nI X)), (3, .int (nI Y)), (4, .int (nI D)), (5, .int (nI N))] → W p l e R s m args below meth c H locs cells slots Q (F0 m 102 ls [])) : ∀ (k i : Nat) (ls : Array Slot), i ≤ D → D - i < k → (∀ a, a < i → ∀ b, b < N → frB u p0 (nI (X + a)) (nI (Y + b)) = true) → lv_has ls 8 [(6, .int (nI (X + i))), (0, .ref h0), (1, .int p0), (2, .int (nI X)), (3, .int (nI Y)), (4, .int (nI D)), (5, .int (nI N))] → W p l e R s m args below meth c H locs cells slots Q (F0 m 37 ls []) := by
  intro k
  induction k with
  | zero => intro i ls h1 h2; exact absurd h2 (Nat.not_lt_zero _)
  | succ k ih =>
    intro i ls hi hk hg hl
    refine lv_iload hx hb dX12_isFree_37 (lv_at hl 0 rfl) ?_
    refine lv_iload_n hx hb dX12_isFree_39 rfl (lv_at hl 3 rfl) ?_
    refine lv_iload hx hb dX12_isFree_40 (lv_at hl 5 rfl) ?_
    refine lv_iadd hx hb dX12_isFree_42 ?_
    refine lv_icmp_ge (tgt := 102) hx hb dX12_isFree_43 (by decide) (fun c_1 => ?_) (fun c_1 => ?_)
    ·
      have hie : i = D := by have := lp_eq (nI_add X D) (by omega) (by omega) c_1; omega
      rw [hie] at hg hl
      exact kx ls hg (lv_sub hl [0, 1, 2, 3, 4, 5, 6] rfl)
    ·
      have hlt : i < D := by have := lp_lt (nI_add X D) (by omega) (by omega) c_1; omega
      refine lv_iload_n hx hb dX12_isFree_46 rfl (lv_at hl 4 rfl) ?_
      refine lv_istore (lv' := [(7, .int (nI Y)), (6, .int (nI (X + i))), (0, .ref h0), (1, .int p0), (2, .int (nI X)), (3, .int (nI Y)), (4, .int (nI D)), (5, .int (nI N))]) hx hb dX12_isFree_47 hl (by decide) rfl (fun ls hl => ?_)
      refine m_free_in (x := X + i) hx hb hml hts hown hN hK hRf hRl hRc hRs hP hln hX hY hD hN6 (fun j ls hj hne hg2 hl => kx88 i ls hlt ⟨j, hj, hne⟩ hg (lv_sub hl [1, 2, 3, 4, 5, 6, 7] rfl)) (fun ls hg2 hl => ?_) (N + 1) 0 ls (Nat.zero_le _) (by omega) (fun j hj => absurd hj (Nat.not_lt_zero _)) (lv_sub hl [0, 1, 2, 3, 4, 5, 6, 7] rfl)
      refine lv_iinc (v := (nI (X + i + 1))) (lv' := [(6, .int (nI (X + i + 1))), (7, .int (nI (Y + N))), (0, .ref h0), (1, .int p0), (2, .int (nI X)), (3, .int (nI Y)), (4, .int (nI D)), (5, .int (nI N))]) hx hb dX12_isFree_96 hl (k := 1) rfl (nI_1 _) (by decide) rfl (fun ls hl => ?_)
      refine lv_goto (tgt := 37) hx hb dX12_isFree_99 (by decide) ?_
      exact ih (i + 1) ls (by omega) (by omega) (lt_s hg hg2) (lv_sub hl [0, 2, 3, 4, 5, 6, 7] rfl)
set_option maxHeartbeats 4000000 in
set_option maxRecDepth 100000 in
theorem m_isFree (l : Launch) (dC : Nat → ClassId) (dI : Nat → Nat → Nat) (h0 : Nat) (v : Nat → Nat) (cI cZ : ClassId) (u : mS) (p0 p1 p2 p3 p4 : Int32) (hln : ∀ j, j < 96 → bw (u.2 0 j) 0 60 = true) : Met l yX12_isFree wsX12_isFree ({ frames := 3, cells := 0, slots := 0, locals := 66 }) (va_Pc [.ref h0, .int p0, .int p1, .int p2, .int p3, .int p4] (PW dC dI (mW h0 v cI cZ u) [(cI, .int), (cZ, .boolean)])) (vp_Si (fun r => (r = 1 ∧ mFreeP u p0 p1 p2 p3 p4) ∨ (r = 0 ∧ ¬ mFreeP u p0 p1 p2 p3 p4))) 0 0 (fun _ => False) := by
  refine Met.ofW (cc := cX12_isFree) (maxL := 8) (ret := (some .boolean)) (by decide) rfl ?_
  intro p e s m args below meth c s₁ B hml hv
  obtain ⟨rfl, hP, hK, hN⟩ := hv
  have hx := B.exec
  have hb := B.bytes
  have hr := B.returns
  have hts := atoms_spec (ws := wsX12_isFree) B.pre
  have hown : s.vm.findClass RX12 = some m.cls := findClass_of_methodNamed B.named
  have hlocks := B.notSynchronized
  have hl := lv_entry ([.ref h0, .int p0, .int p1, .int p2, .int p3, .int p4]) (n := 8) (Nat.le_of_ble_eq_true rfl)
  rw [lg_entry_eq]
  generalize (lg_sl ([.ref h0, .int p0, .int p1, .int p2, .int p3, .int p4]) ++ List.replicate (8 - (lg_sl ([.ref h0, .int p0, .int p1, .int p2, .int p3, .int p4])).length) Slot.unset).toArray = ls at hl ⊢
  have hl : lv_has ls 8 [(0, .ref h0), (1, .int p0), (2, .int p1), (3, .int p2), (4, .int p3), (5, .int p4)] := hl
  refine lv_aload_n hx hb dX12_isFree_0 rfl (lv_at hl 0 rfl) ?_
  refine lv_iload_n hx hb dX12_isFree_1 rfl (lv_at hl 1 rfl) ?_
  refine lv_iload_n hx hb dX12_isFree_2 rfl (lv_at hl 2 rfl) ?_
  refine lv_iload_n hx hb dX12_isFree_3 rfl (lv_at hl 3 rfl) ?_
  refine vp_callSi (va_runV (As := [.int p0, .int p1, .int p2]) (rest := []) ⟨hx, hb, hml, hown, hts⟩ (m_isCell l dC dI h0 v cI cZ u p0 p1 p2) (cwV 3 hts gX12_isFree_X12_isCell rfl rfl rfl (by decide +kernel) ⟨Nat.le_of_ble_eq_true rfl, Nat.le_of_ble_eq_true rfl⟩) ⟨pw_fb, va_recv hK hP (ci := 11) (q0 := 0) rfl rfl, fun U hU hW => ⟨rfl, pw_to hU hW hP hK hN⟩⟩ rfl rfl hl.1 rfl (lv_room (Nat.le_of_ble_eq_true rfl)) dX12_isFree_4 ⟨Nat.le_of_ble_eq_true rfl, Nat.le_of_ble_eq_true rfl⟩).run (fun r hw => ?_)
  rcases Bool.eq_false_or_eq_true (mCell u p0 p1 p2) with b_1 | b_1
  ·
    obtain rfl : r = 1 := b_t hw b_1
    refine lv_if_eq (tgt := 32) hx hb dX12_isFree_7 (by decide) (fun c_2 => absurd c_2 (by decide)) (fun c_2 => ?_)
    refine lv_iload hx hb dX12_isFree_10 (lv_at hl 4 rfl) ?_
    refine lv_iconst (v := 1) hx hb dX12_isFree_12 (by decide) ?_
    refine lv_bipush (v := 8) hx hb dX12_isFree_13 (by decide) ?_
    refine vp_callSi (va_runS (As := [.int p3, .int 1, .int 8]) (rest := []) ⟨hx, hb, hml, hown, hts⟩ (m_in l dC dI p3 1 8) (va_cwS 3 hts gX12_isFree_X12_in rfl rfl rfl (by decide +kernel) ⟨Nat.le_of_ble_eq_true rfl, Nat.le_of_ble_eq_true rfl⟩) ⟨pw_fb, fun U hU hW => ⟨rfl, pw_to hU hW (hP.sub (ws' := []) [] rfl) (hK.sub (tys' := []) [] rfl) hN⟩⟩ rfl rfl hl.1 rfl (lv_room (Nat.le_of_ble_eq_true rfl)) dX12_isFree_15 ⟨Nat.le_of_ble_eq_true rfl, Nat.le_of_ble_eq_true rfl⟩).run (fun r hw => ?_)
    rcases Bool.eq_false_or_eq_true (bw p3 1 8) with b_3 | b_3
    ·
      obtain rfl : r = 1 := b_t hw b_3
      refine lv_if_eq (tgt := 32) hx hb dX12_isFree_18 (by decide) (fun c_4 => absurd c_4 (by decide)) (fun c_4 => ?_)
      refine lv_iload hx hb dX12_isFree_21 (lv_at hl 5 rfl) ?_
      refine lv_iconst (v := 1) hx hb dX12_isFree_23 (by decide) ?_
      refine lv_bipush (v := 60) hx hb dX12_isFree_24 (by decide) ?_
      refine vp_callSi (va_runS (As := [.int p4, .int 1, .int 60]) (rest := []) ⟨hx, hb, hml, hown, hts⟩ (m_in l dC dI p4 1 60) (va_cwS 3 hts gX12_isFree_X12_in rfl rfl rfl (by decide +kernel) ⟨Nat.le_of_ble_eq_true rfl, Nat.le_of_ble_eq_true rfl⟩) ⟨pw_fb, fun U hU hW => ⟨rfl, pw_to hU hW (hP.sub (ws' := []) [] rfl) (hK.sub (tys' := []) [] rfl) hN⟩⟩ rfl rfl hl.1 rfl (lv_room (Nat.le_of_ble_eq_true rfl)) dX12_isFree_26 ⟨Nat.le_of_ble_eq_true rfl, Nat.le_of_ble_eq_true rfl⟩).run (fun r hw => ?_)
      rcases Bool.eq_false_or_eq_true (bw p4 1 60) with b_5 | b_5
      ·
        obtain rfl : r = 1 := b_t hw b_5
        refine lv_if_ne (tgt := 34) hx hb dX12_isFree_29 (by decide) (fun c_6 => ?_) (fun c_6 => absurd c_6 (by decide))
        refine lv_iload_n hx hb dX12_isFree_34 rfl (lv_at hl 2 rfl) ?_
        refine lv_istore (lv' := [(6, .int p1), (0, .ref h0), (1, .int p0), (2, .int p1), (3, .int p2), (4, .int p3), (5, .int p4)]) hx hb dX12_isFree_35 hl (by decide) rfl (fun ls hl => ?_)
        have hfr : ¬ mFreeP u p0 p1 p2 p3 p4 ∨ True := Or.inr trivial
        obtain ⟨X, hX, -, eX⟩ := exN (mCell_c b_1).2.1 (by decide)
        obtain ⟨Y, hY, eY⟩ := exL hln b_1
        obtain ⟨D, hD8, hD1, eD⟩ := exN b_3 (by decide)
        obtain ⟨N, hN8, hN1, eN⟩ := exN b_5 (by decide)
        have h7 : (7 : Int32).toInt = 7 := rfl
        have h8 : (8 : Int32).toInt = 8 := rfl
        have h60 : (60 : Int32).toInt = 60 := rfl
        subst eX eY eD eN
        refine m_free_out (X := X) (Y := Y) (D := D) (N := N) hx hb hml hts hown hN hK (Nat.le_of_ble_eq_true rfl) (Nat.le_of_ble_eq_true rfl) (Nat.le_of_ble_eq_true rfl) (Nat.le_of_ble_eq_true rfl) hP hln (by omega) (by omega) (by omega) (by omega) (fun i ls hlt hne hg hl => ?_) (fun ls hg hl => ?_) (D + 1) 0 ls (Nat.zero_le _) (by omega) (fun j hj => absurd hj (Nat.not_lt_zero _)) (lv_sub hl [0, 1, 2, 3, 4, 5, 6] rfl)
        ·
          refine lv_iconst (v := 0) hx hb dX12_isFree_88 (by decide) ?_
          exact W.zret (v := 0) hx hb hr (by decide) (fun t ht hW => ⟨_, rfl, Or.inr ⟨rfl, fun q => by obtain ⟨b, hb1, hb2⟩ := hne; have h := q.2.2.2 i (by rw [nI_clamp (by omega)]; exact hlt) b (by rw [nI_clamp (by omega)]; exact hb1); rw [nI_add, nI_add, hb2] at h; exact absurd h (by decide)⟩, ht⟩) (fun q h => absurd h List.not_mem_nil) dX12_isFree_89
        ·
          refine lv_iconst (v := 1) hx hb dX12_isFree_102 (by decide) ?_
          exact W.zret (v := 1) hx hb hr (by decide) (fun t ht hW => ⟨_, rfl, Or.inl ⟨rfl, b_1, b_3, b_5, fun a ha b hb1 => by rw [nI_clamp (by omega)] at ha hb1; rw [nI_add, nI_add]; exact hg a ha b hb1⟩, ht⟩) (fun q h => absurd h List.not_mem_nil) dX12_isFree_103
      ·
        obtain rfl : r = 0 := b_f hw b_5
        refine lv_if_ne (tgt := 34) hx hb dX12_isFree_29 (by decide) (fun c_7 => absurd (by decide) c_7) (fun c_7 => ?_)
        refine lv_iconst (v := 0) hx hb dX12_isFree_32 (by decide) ?_
        exact W.zret (v := 0) hx hb hr (by decide) (fun t ht hW => ⟨_, rfl, Or.inr ⟨rfl, fun q => bne b_5 q.2.2.1⟩, ht⟩) (fun q h => absurd h List.not_mem_nil) dX12_isFree_33
    ·
      obtain rfl : r = 0 := b_f hw b_3
      refine lv_if_eq (tgt := 32) hx hb dX12_isFree_18 (by decide) (fun c_8 => ?_) (fun c_8 => absurd (by decide) c_8)
      refine lv_iconst (v := 0) hx hb dX12_isFree_32 (by decide) ?_
      exact W.zret (v := 0) hx hb hr (by decide) (fun t ht hW => ⟨_, rfl, Or.inr ⟨rfl, fun q => bne b_3 q.2.1⟩, ht⟩) (fun q h => absurd h List.not_mem_nil) dX12_isFree_33
  ·
    obtain rfl : r = 0 := b_f hw b_1
    refine lv_if_eq (tgt := 32) hx hb dX12_isFree_7 (by decide) (fun c_9 => ?_) (fun c_9 => absurd (by decide) c_9)
    refine lv_iconst (v := 0) hx hb dX12_isFree_32 (by decide) ?_
    exact W.zret (v := 0) hx hb hr (by decide) (fun t ht hW => ⟨_, rfl, Or.inr ⟨rfl, fun q => bne b_1 q.1⟩, ht⟩) (fun q h => absurd h List.not_mem_nil) dX12_isFree_33
/-- what the edition's end writes for one page and one item -/
def endI (u : mS) (p i : Int32) : mS := if 0 ≤ u.2 45 (80 * p + i).toNatClampNeg then
  let u1 := mst u 48 (80 * u.1 38 + i) (vp_nar .boolean 1)
  if 0 ≤ u1.2 47 (5 * i).toNatClampNeg then u1 else
    let u2 := mst u1 47 (5 * i) (u1.1 38)
    let u3 := mst u2 47 (5 * i + 1) (u2.1 39)
    let u4 := mst u3 47 (5 * i + 2) p
    let u5 := mst u4 47 (5 * i + 3) (u4.2 45 (80 * p + i).toNatClampNeg)
    mst u5 47 (5 * i + 4) (u5.2 46 (80 * p + i).toNatClampNeg)
  else u
def endL (u : mS) (p : Int32) : Nat → mS
  | 0 => u
  | n + 1 => endI (endL u p n) p (nI n)
def endP (u : mS) : Nat → mS
  | 0 => u
  | n + 1 => if mNow (endP u n) (nI n) = true then endL (endP u n) (nI n) ((u.1 3).toNatClampNeg) else endP u n
/-- ends writes the rows 47 and 48 alone -/
theorem endI_k (u : mS) (p i : Int32) : (endI u p i).1 = u.1 ∧ ∀ k, k ≠ 47 → k ≠ 48 → (endI u p i).2 k = u.2 k := by
  unfold endI
  split
  · dsimp only
    split
    · exact ⟨rfl, fun k h1 h2 => by rw [mst_other h2]⟩
    · exact ⟨rfl, fun k h1 h2 => by rw [mst_other h1, mst_other h1, mst_other h1, mst_other h1, mst_other h1, mst_other h2]⟩
  · exact ⟨rfl, fun k _ _ => rfl⟩
theorem endL_k (u : mS) (p : Int32) : ∀ n, (endL u p n).1 = u.1 ∧ ∀ k, k ≠ 47 → k ≠ 48 → (endL u p n).2 k = u.2 k
  | 0 => ⟨rfl, fun _ _ _ => rfl⟩
  | n + 1 => by
    have h1 := endL_k u p n
    have h2 := endI_k (endL u p n) p (nI n)
    exact ⟨h2.1.trans h1.1, fun k a b => (h2.2 k a b).trans (h1.2 k a b)⟩
theorem endP_k (u : mS) : ∀ n, (endP u n).1 = u.1 ∧ ∀ k, k ≠ 47 → k ≠ 48 → (endP u n).2 k = u.2 k
  | 0 => ⟨rfl, fun _ _ _ => rfl⟩
  | n + 1 => by
    have h1 := endP_k u n
    unfold endP
    split
    · have h2 := endL_k (endP u n) (nI n) ((u.1 3).toNatClampNeg)
      exact ⟨h2.1.trans h1.1, fun k a b => (h2.2 k a b).trans (h1.2 k a b)⟩
    · exact h1
theorem mNow_k {u u0 : mS} (h : u.1 = u0.1 ∧ ∀ k, k ≠ 47 → k ≠ 48 → u.2 k = u0.2 k) (p : Int32) : mNow u p = mNow u0 p := by
  unfold mNow
  rw [h.1, h.2 40 (by decide) (by decide), h.2 41 (by decide) (by decide), h.2 42 (by decide) (by decide)]
theorem vOn {i d : Int32} (hi : bw i 0 79 = true) (hd : bw d 0 399 = true) : vp_in (80 * d + i) 32000 := by
  obtain ⟨D, h1, -, e⟩ := exN hd (by decide)
  have h399 : (399 : Int32).toInt = 399 := rfl
  subst e
  exact vDay hi (by omega)
set_option maxHeartbeats 4000000 in
set_option maxRecDepth 100000 in
theorem m_ends_in {p : Program} {l : Launch} {e : Env} {R : Room} {s : State} {m : MethodId} {args : Array Value} {below : List Frame} {meth : Method} {c : Code} {Q : State → Prop} {cells slots : Nat} {dC : Nat → ClassId} {dI : Nat → Nat → Nat} {h0 : Nat} {v : Nat → Nat} {cI cZ : ClassId} {u0 : mS} {P K : Nat} (hPP : P < 12) (hK8 : K ≤ 80) (eK : u0.1 3 = nI K) (hd : bw (u0.1 38) 0 399 = true) (hnow : mNow u0 (nI P) = true) {A : Nat → Prop} {H0 : Heap} (hx : p.tables.exec = Jvm.exec) (hb : c.code = cX12_ends) (hml : c.maxLocals = 3) (hts : ∀ w ∈ wsX12_ends, w.before args s = true) (hown : s.vm.findClass RX12 = some m.cls) (hN : NN s) (hK : va_K (dC, dI) vwCl [(cI, .int), (cZ, .boolean)] s) (hRf : 1 ≤ R.frames) (hRl : 21 ≤ R.locals) (hRc : cells ≤ R.cells) (hRs : slots ≤ R.slots) (hA : ∀ q : Nat, H0.size ≤ q → A q) (kx : ∀ (u : mS) (H : Heap) (locs : List Loc) (ls : Array Slot), u = endL u0 (nI P) K → va_P (dC, dI) vwCl (mW h0 v cI cZ u) H → va_D A (mW h0 v cI cZ u) → va_S A H0 H locs → lv_has ls 3 [(2, .int (nI K)), (1, .int (nI P)), (0, .ref h0)] → W p l e R s m args below meth c H locs cells slots Q (F0 m 154 ls [])) : ∀ (k i : Nat) (u : mS) (H : Heap) (locs : List Loc) (ls : Array Slot), i ≤ K → K - i < k → u = endL u0 (nI P) i → va_P (dC, dI) vwCl (mW h0 v cI cZ u) H → va_D A (mW h0 v cI cZ u) → va_S A H0 H locs → lv_has ls 3 [(2, .int (nI i)), (1, .int (nI P)), (0, .ref h0)] → W p l e R s m args below meth c H locs cells slots Q (F0 m 10 ls []) := by
  intro k
  induction k with
  | zero => intro i u H locs ls h1 h2; exact absurd h2 (Nat.not_lt_zero _)
  | succ k ih =>
    intro i u H locs ls hi hk hg hP hD hS hl
    refine lv_iload_n hx hb dX12_ends_10 rfl (lv_at hl 0 rfl) ?_
    refine lv_aload_n hx hb dX12_ends_11 rfl (lv_at hl 2 rfl) ?_
    refine va_get (D := (dC, dI)) (ci := 11) (v := .int (u.1 3)) (C := RX12) (T := TX12) (N := 52) hx hb hts (by decide +kernel) hown hK hP 0 rfl rfl 3 (by decide) (hts (.fieldLink RX12 147 "PageOneModel" "items" "I") (by decide +kernel)) (fun _ h9 => h9) rfl dX12_ends_12 ?_
    refine lv_topi (fun y_1 ey_1 => ?_)
    obtain rfl : y_1 = (nI K) := ey_1.trans ((by rw [hg, (endL_k u0 (nI P) i).1]; exact eK))
    refine lv_icmp_ge (tgt := 154) hx hb dX12_ends_15 (by decide) (fun c_2 => ?_) (fun c_2 => ?_)
    ·
      have hie : i = K := lp_eq rfl (by omega) hi c_2
      rw [hie] at hg hl
      exact kx _ _ _ ls hg hP hD hS (lv_sub hl [0, 1, 2] rfl)
    ·
      have hlt : i < K := lp_lt rfl (by omega) hi c_2
      refine lv_aload_n hx hb dX12_ends_18 rfl (lv_at hl 2 rfl) ?_
      refine lv_iload_n hx hb dX12_ends_19 rfl (lv_at hl 1 rfl) ?_
      refine vp_callSi (va_runV (As := [.int (nI P)]) (rest := []) ⟨hx, hb, hml, hown, hts⟩ (m_isNow l dC dI h0 v cI cZ u (nI P) (bwN (by have h11 : (11 : Int32).toInt = 11 := rfl; rw [h11]; omega) (by omega))) (cwV 1 hts gX12_ends_X12_isNow rfl rfl rfl (by decide +kernel) ⟨hRf, hRl⟩) ⟨pw_fb, va_recv hK hP (ci := 11) (q0 := 0) rfl rfl, fun U hU hW => ⟨rfl, pw_to hU hW hP hK hN⟩⟩ rfl rfl hl.1 rfl (lv_room (Nat.le_of_ble_eq_true rfl)) dX12_ends_20 ⟨hRc, hRs⟩).run (fun r hw => ?_)
      obtain rfl : r = 1 := b_t hw ((by rw [hg]; exact mNow_k (endL_k u0 (nI P) i) _ : mNow u (nI P) = mNow u0 (nI P)).trans hnow)
      refine lv_if_eq (tgt := 154) hx hb dX12_ends_23 (by decide) (fun c_3 => absurd c_3 (by decide)) (fun c_3 => ?_)
      refine lv_aload_n hx hb dX12_ends_26 rfl (lv_at hl 2 rfl) ?_
      refine va_get (D := (dC, dI)) (ci := 11) (v := .ref (v 45)) (C := RX12) (T := TX12) (N := 52) hx hb hts (by decide +kernel) hown hK hP 0 rfl rfl 45 (by decide) (hts (.fieldLink RX12 131 "PageOneModel" "plateColumn" "[I") (by decide +kernel)) (fun _ h9 => h9) rfl dX12_ends_27 ?_
      refine lv_bipush (v := 80) hx hb dX12_ends_30 (by decide) ?_
      refine lv_iload_n hx hb dX12_ends_32 rfl (lv_at hl 1 rfl) ?_
      refine lv_imul hx hb dX12_ends_33 ?_
      refine lv_iload_n hx hb dX12_ends_34 rfl (lv_at hl 0 rfl) ?_
      refine lv_iadd hx hb dX12_ends_35 ?_
      refine va_iald hx hb hK hP 41 0 rfl rfl (vPl (bwN (by have h79 : (79 : Int32).toInt = 79 := rfl; rw [h79]; omega) (by omega)) hPP) dX12_ends_36 ?_
      refine lv_if_ge (tgt := 43) hx hb dX12_ends_37 (by decide) (fun c_4 => ?_) (fun c_4 => ?_)
      ·
        refine lv_aload_n hx hb dX12_ends_43 rfl (lv_at hl 2 rfl) ?_
        refine va_get (D := (dC, dI)) (ci := 11) (v := .ref (v 48)) (C := RX12) (T := TX12) (N := 52) hx hb hts (by decide +kernel) hown hK hP 0 rfl rfl 48 (by decide) (hts (.fieldLink RX12 140 "PageOneModel" "isOn" "[Z") (by decide +kernel)) (fun _ h9 => h9) rfl dX12_ends_44 ?_
        refine lv_bipush (v := 80) hx hb dX12_ends_47 (by decide) ?_
        refine lv_aload_n hx hb dX12_ends_49 rfl (lv_at hl 2 rfl) ?_
        refine va_get (D := (dC, dI)) (ci := 11) (v := .int (u.1 38)) (C := RX12) (T := TX12) (N := 52) hx hb hts (by decide +kernel) hown hK hP 0 rfl rfl 38 (by decide) (hts (.fieldLink RX12 206 "PageOneModel" "day" "I") (by decide +kernel)) (fun _ h9 => h9) rfl dX12_ends_50 ?_
        refine lv_imul hx hb dX12_ends_53 ?_
        refine lv_iload_n hx hb dX12_ends_54 rfl (lv_at hl 0 rfl) ?_
        refine lv_iadd hx hb dX12_ends_55 ?_
        refine lv_iconst (v := 1) hx hb dX12_ends_56 (by decide) ?_
        refine va_zast hx hb hK hP hD hS 44 1 rfl rfl (vOn (bwN (by have h79 : (79 : Int32).toInt = 79 := rfl; rw [h79]; omega) (by omega)) (by rw [hg, (endL_k u0 (nI P) i).1]; exact hd)) dX12_ends_57 (fun H locs hP hD hS => ?_)
        obtain ⟨u_5, eu_5⟩ : ∃ zz : mS, zz = mst u 48 ((80 * (u.1 38)) + (nI i)) (vp_nar .boolean 1) := ⟨_, rfl⟩
        have hP : va_P (dC, dI) vwCl (mW h0 v cI cZ u_5) H := by rw [eu_5]; exact hP
        have hD : va_D A (mW h0 v cI cZ u_5) := by rw [eu_5]; exact hD
        refine lv_aload_n hx hb dX12_ends_58 rfl (lv_at hl 2 rfl) ?_
        refine va_get (D := (dC, dI)) (ci := 11) (v := .ref (v 47)) (C := RX12) (T := TX12) (N := 52) hx hb hts (by decide +kernel) hown hK hP 0 rfl rfl 47 (by decide) (hts (.fieldLink RX12 137 "PageOneModel" "first" "[I") (by decide +kernel)) (fun _ h9 => h9) rfl dX12_ends_59 ?_
        refine lv_iconst (v := 5) hx hb dX12_ends_62 (by decide) ?_
        refine lv_iload_n hx hb dX12_ends_63 rfl (lv_at hl 0 rfl) ?_
        refine lv_imul hx hb dX12_ends_64 ?_
        refine va_iald hx hb hK hP 43 0 rfl rfl (v5 (bwN (by have h79 : (79 : Int32).toInt = 79 := rfl; rw [h79]; omega) (by omega))).1 dX12_ends_65 ?_
        refine lv_if_ge (tgt := 148) hx hb dX12_ends_66 (by decide) (fun c_6 => ?_) (fun c_6 => ?_)
        ·
          refine lv_iinc (v := (nI (i + 1))) (lv' := [(2, .int (nI (i + 1))), (1, .int (nI P)), (0, .ref h0)]) hx hb dX12_ends_148 hl (k := 0) rfl (nI_1 i) (by decide) rfl (fun ls hl => ?_)
          refine lv_goto (tgt := 10) hx hb dX12_ends_151 (by decide) ?_
          exact ih (i + 1) _ _ _ ls (by omega) (by omega) (by rw [endL, ← hg]; subst eu_5; unfold endI; simp only [if_pos c_4, if_pos c_6]) hP hD hS (lv_sub hl [0, 1, 2] rfl)
        ·
          refine lv_aload_n hx hb dX12_ends_69 rfl (lv_at hl 2 rfl) ?_
          refine va_get (D := (dC, dI)) (ci := 11) (v := .ref (v 47)) (C := RX12) (T := TX12) (N := 52) hx hb hts (by decide +kernel) hown hK hP 0 rfl rfl 47 (by decide) (hts (.fieldLink RX12 137 "PageOneModel" "first" "[I") (by decide +kernel)) (fun _ h9 => h9) rfl dX12_ends_70 ?_
          refine lv_iconst (v := 5) hx hb dX12_ends_73 (by decide) ?_
          refine lv_iload_n hx hb dX12_ends_74 rfl (lv_at hl 0 rfl) ?_
          refine lv_imul hx hb dX12_ends_75 ?_
          refine lv_aload_n hx hb dX12_ends_76 rfl (lv_at hl 2 rfl) ?_
          refine va_get (D := (dC, dI)) (ci := 11) (v := .int (u_5.1 38)) (C := RX12) (T := TX12) (N := 52) hx hb hts (by decide +kernel) hown hK hP 0 rfl rfl 38 (by decide) (hts (.fieldLink RX12 206 "PageOneModel" "day" "I") (by decide +kernel)) (fun _ h9 => h9) rfl dX12_ends_77 ?_
          refine va_iast hx hb hK hP hD hS 43 0 rfl rfl (v5 (bwN (by have h79 : (79 : Int32).toInt = 79 := rfl; rw [h79]; omega) (by omega))).1 dX12_ends_80 (fun H locs hP hD hS => ?_)
          obtain ⟨u_7, eu_7⟩ : ∃ zz : mS, zz = mst u_5 47 (5 * (nI i)) (u_5.1 38) := ⟨_, rfl⟩
          have hP : va_P (dC, dI) vwCl (mW h0 v cI cZ u_7) H := by rw [eu_7]; exact hP
          have hD : va_D A (mW h0 v cI cZ u_7) := by rw [eu_7]; exact hD
          refine lv_aload_n hx hb dX12_ends_81 rfl (lv_at hl 2 rfl) ?_
          refine va_get (D := (dC, dI)) (ci := 11) (v := .ref (v 47)) (C := RX12) (T := TX12) (N := 52) hx hb hts (by decide +kernel) hown hK hP 0 rfl rfl 47 (by decide) (hts (.fieldLink RX12 137 "PageOneModel" "first" "[I") (by decide +kernel)) (fun _ h9 => h9) rfl dX12_ends_82 ?_
          refine lv_iconst (v := 5) hx hb dX12_ends_85 (by decide) ?_
          refine lv_iload_n hx hb dX12_ends_86 rfl (lv_at hl 0 rfl) ?_
          refine lv_imul hx hb dX12_ends_87 ?_
          refine lv_iconst (v := 1) hx hb dX12_ends_88 (by decide) ?_
          refine lv_iadd hx hb dX12_ends_89 ?_
          refine lv_aload_n hx hb dX12_ends_90 rfl (lv_at hl 2 rfl) ?_
          refine va_get (D := (dC, dI)) (ci := 11) (v := .int (u_7.1 39)) (C := RX12) (T := TX12) (N := 52) hx hb hts (by decide +kernel) hown hK hP 0 rfl rfl 39 (by decide) (hts (.fieldLink RX12 257 "PageOneModel" "edition" "I") (by decide +kernel)) (fun _ h9 => h9) rfl dX12_ends_91 ?_
          refine va_iast hx hb hK hP hD hS 43 0 rfl rfl (v5w (bwN (by have h79 : (79 : Int32).toInt = 79 := rfl; rw [h79]; omega) (by omega)) (by decide)) dX12_ends_94 (fun H locs hP hD hS => ?_)
          obtain ⟨u_8, eu_8⟩ : ∃ zz : mS, zz = mst u_7 47 ((5 * (nI i)) + 1) (u_7.1 39) := ⟨_, rfl⟩
          have hP : va_P (dC, dI) vwCl (mW h0 v cI cZ u_8) H := by rw [eu_8]; exact hP
          have hD : va_D A (mW h0 v cI cZ u_8) := by rw [eu_8]; exact hD
          refine lv_aload_n hx hb dX12_ends_95 rfl (lv_at hl 2 rfl) ?_
          refine va_get (D := (dC, dI)) (ci := 11) (v := .ref (v 47)) (C := RX12) (T := TX12) (N := 52) hx hb hts (by decide +kernel) hown hK hP 0 rfl rfl 47 (by decide) (hts (.fieldLink RX12 137 "PageOneModel" "first" "[I") (by decide +kernel)) (fun _ h9 => h9) rfl dX12_ends_96 ?_
          refine lv_iconst (v := 5) hx hb dX12_ends_99 (by decide) ?_
          refine lv_iload_n hx hb dX12_ends_100 rfl (lv_at hl 0 rfl) ?_
          refine lv_imul hx hb dX12_ends_101 ?_
          refine lv_iconst (v := 2) hx hb dX12_ends_102 (by decide) ?_
          refine lv_iadd hx hb dX12_ends_103 ?_
          refine lv_iload_n hx hb dX12_ends_104 rfl (lv_at hl 1 rfl) ?_
          refine va_iast hx hb hK hP hD hS 43 0 rfl rfl (v5w (bwN (by have h79 : (79 : Int32).toInt = 79 := rfl; rw [h79]; omega) (by omega)) (by decide)) dX12_ends_105 (fun H locs hP hD hS => ?_)
          obtain ⟨u_9, eu_9⟩ : ∃ zz : mS, zz = mst u_8 47 ((5 * (nI i)) + 2) (nI P) := ⟨_, rfl⟩
          have hP : va_P (dC, dI) vwCl (mW h0 v cI cZ u_9) H := by rw [eu_9]; exact hP
          have hD : va_D A (mW h0 v cI cZ u_9) := by rw [eu_9]; exact hD
          refine lv_aload_n hx hb dX12_ends_106 rfl (lv_at hl 2 rfl) ?_
          refine va_get (D := (dC, dI)) (ci := 11) (v := .ref (v 47)) (C := RX12) (T := TX12) (N := 52) hx hb hts (by decide +kernel) hown hK hP 0 rfl rfl 47 (by decide) (hts (.fieldLink RX12 137 "PageOneModel" "first" "[I") (by decide +kernel)) (fun _ h9 => h9) rfl dX12_ends_107 ?_
          refine lv_iconst (v := 5) hx hb dX12_ends_110 (by decide) ?_
          refine lv_iload_n hx hb dX12_ends_111 rfl (lv_at hl 0 rfl) ?_
          refine lv_imul hx hb dX12_ends_112 ?_
          refine lv_iconst (v := 3) hx hb dX12_ends_113 (by decide) ?_
          refine lv_iadd hx hb dX12_ends_114 ?_
          refine lv_aload_n hx hb dX12_ends_115 rfl (lv_at hl 2 rfl) ?_
          refine va_get (D := (dC, dI)) (ci := 11) (v := .ref (v 45)) (C := RX12) (T := TX12) (N := 52) hx hb hts (by decide +kernel) hown hK hP 0 rfl rfl 45 (by decide) (hts (.fieldLink RX12 131 "PageOneModel" "plateColumn" "[I") (by decide +kernel)) (fun _ h9 => h9) rfl dX12_ends_116 ?_
          refine lv_bipush (v := 80) hx hb dX12_ends_119 (by decide) ?_
          refine lv_iload_n hx hb dX12_ends_121 rfl (lv_at hl 1 rfl) ?_
          refine lv_imul hx hb dX12_ends_122 ?_
          refine lv_iload_n hx hb dX12_ends_123 rfl (lv_at hl 0 rfl) ?_
          refine lv_iadd hx hb dX12_ends_124 ?_
          refine va_iald hx hb hK hP 41 0 rfl rfl (vPl (bwN (by have h79 : (79 : Int32).toInt = 79 := rfl; rw [h79]; omega) (by omega)) hPP) dX12_ends_125 ?_
          refine va_iast hx hb hK hP hD hS 43 0 rfl rfl (v5w (bwN (by have h79 : (79 : Int32).toInt = 79 := rfl; rw [h79]; omega) (by omega)) (by decide)) dX12_ends_126 (fun H locs hP hD hS => ?_)
          obtain ⟨u_10, eu_10⟩ : ∃ zz : mS, zz = mst u_9 47 ((5 * (nI i)) + 3) (u_9.2 45 (((80 * (nI P)) + (nI i)) : Int32).toNatClampNeg) := ⟨_, rfl⟩
          have hP : va_P (dC, dI) vwCl (mW h0 v cI cZ u_10) H := by rw [eu_10]; exact hP
          have hD : va_D A (mW h0 v cI cZ u_10) := by rw [eu_10]; exact hD
          refine lv_aload_n hx hb dX12_ends_127 rfl (lv_at hl 2 rfl) ?_
          refine va_get (D := (dC, dI)) (ci := 11) (v := .ref (v 47)) (C := RX12) (T := TX12) (N := 52) hx hb hts (by decide +kernel) hown hK hP 0 rfl rfl 47 (by decide) (hts (.fieldLink RX12 137 "PageOneModel" "first" "[I") (by decide +kernel)) (fun _ h9 => h9) rfl dX12_ends_128 ?_
          refine lv_iconst (v := 5) hx hb dX12_ends_131 (by decide) ?_
          refine lv_iload_n hx hb dX12_ends_132 rfl (lv_at hl 0 rfl) ?_
          refine lv_imul hx hb dX12_ends_133 ?_
          refine lv_iconst (v := 4) hx hb dX12_ends_134 (by decide) ?_
          refine lv_iadd hx hb dX12_ends_135 ?_
          refine lv_aload_n hx hb dX12_ends_136 rfl (lv_at hl 2 rfl) ?_
          refine va_get (D := (dC, dI)) (ci := 11) (v := .ref (v 46)) (C := RX12) (T := TX12) (N := 52) hx hb hts (by decide +kernel) hown hK hP 0 rfl rfl 46 (by decide) (hts (.fieldLink RX12 134 "PageOneModel" "plateLine" "[I") (by decide +kernel)) (fun _ h9 => h9) rfl dX12_ends_137 ?_
          refine lv_bipush (v := 80) hx hb dX12_ends_140 (by decide) ?_
          refine lv_iload_n hx hb dX12_ends_142 rfl (lv_at hl 1 rfl) ?_
          refine lv_imul hx hb dX12_ends_143 ?_
          refine lv_iload_n hx hb dX12_ends_144 rfl (lv_at hl 0 rfl) ?_
          refine lv_iadd hx hb dX12_ends_145 ?_
          refine va_iald hx hb hK hP 42 0 rfl rfl (vPl (bwN (by have h79 : (79 : Int32).toInt = 79 := rfl; rw [h79]; omega) (by omega)) hPP) dX12_ends_146 ?_
          refine va_iast hx hb hK hP hD hS 43 0 rfl rfl (v5w (bwN (by have h79 : (79 : Int32).toInt = 79 := rfl; rw [h79]; omega) (by omega)) (by decide)) dX12_ends_147 (fun H locs hP hD hS => ?_)
          obtain ⟨u_11, eu_11⟩ : ∃ zz : mS, zz = mst u_10 47 ((5 * (nI i)) + 4) (u_10.2 46 (((80 * (nI P)) + (nI i)) : Int32).toNatClampNeg) := ⟨_, rfl⟩
          have hP : va_P (dC, dI) vwCl (mW h0 v cI cZ u_11) H := by rw [eu_11]; exact hP
          have hD : va_D A (mW h0 v cI cZ u_11) := by rw [eu_11]; exact hD
          refine lv_iinc (v := (nI (i + 1))) (lv' := [(2, .int (nI (i + 1))), (1, .int (nI P)), (0, .ref h0)]) hx hb dX12_ends_148 hl (k := 0) rfl (nI_1 i) (by decide) rfl (fun ls hl => ?_)
          refine lv_goto (tgt := 10) hx hb dX12_ends_151 (by decide) ?_
          exact ih (i + 1) _ _ _ ls (by omega) (by omega) (by rw [endL, ← hg]; subst eu_5 eu_7 eu_8 eu_9 eu_10 eu_11; unfold endI; simp only [if_pos c_4, if_neg c_6]) hP hD hS (lv_sub hl [0, 1, 2] rfl)
      ·
        refine lv_goto (tgt := 148) hx hb dX12_ends_40 (by decide) ?_
        refine lv_iinc (v := (nI (i + 1))) (lv' := [(2, .int (nI (i + 1))), (1, .int (nI P)), (0, .ref h0)]) hx hb dX12_ends_148 hl (k := 0) rfl (nI_1 i) (by decide) rfl (fun ls hl => ?_)
        refine lv_goto (tgt := 10) hx hb dX12_ends_151 (by decide) ?_
        exact ih (i + 1) _ _ _ ls (by omega) (by omega) (by rw [endL, ← hg]; unfold endI; simp only [if_neg c_4]) hP hD hS (lv_sub hl [0, 1, 2] rfl)
set_option maxHeartbeats 4000000 in
set_option maxRecDepth 100000 in
theorem m_ends_out {p : Program} {l : Launch} {e : Env} {R : Room} {s : State} {m : MethodId} {args : Array Value} {below : List Frame} {meth : Method} {c : Code} {Q : State → Prop} {cells slots : Nat} {dC : Nat → ClassId} {dI : Nat → Nat → Nat} {h0 : Nat} {v : Nat → Nat} {cI cZ : ClassId} {u0 : mS} {K : Nat} (hK8 : K ≤ 80) (eK : u0.1 3 = nI K) (hd : bw (u0.1 38) 0 399 = true) {A : Nat → Prop} {H0 : Heap} (hx : p.tables.exec = Jvm.exec) (hb : c.code = cX12_ends) (hml : c.maxLocals = 3) (hts : ∀ w ∈ wsX12_ends, w.before args s = true) (hown : s.vm.findClass RX12 = some m.cls) (hN : NN s) (hK : va_K (dC, dI) vwCl [(cI, .int), (cZ, .boolean)] s) (hRf : 1 ≤ R.frames) (hRl : 21 ≤ R.locals) (hRc : cells ≤ R.cells) (hRs : slots ≤ R.slots) (hA : ∀ q : Nat, H0.size ≤ q → A q) (kx : ∀ (u : mS) (H : Heap) (locs : List Loc) (ls : Array Slot), u = endP u0 12 → va_P (dC, dI) vwCl (mW h0 v cI cZ u) H → va_D A (mW h0 v cI cZ u) → va_S A H0 H locs → lv_has ls 3 [(1, .int (nI 12)), (0, .ref h0)] → W p l e R s m args below meth c H locs cells slots Q (F0 m 160 ls [])) : ∀ (k i : Nat) (u : mS) (H : Heap) (locs : List Loc) (ls : Array Slot), i ≤ 12 → 12 - i < k → u = endP u0 i → va_P (dC, dI) vwCl (mW h0 v cI cZ u) H → va_D A (mW h0 v cI cZ u) → va_S A H0 H locs → lv_has ls 3 [(1, .int (nI i)), (0, .ref h0)] → W p l e R s m args below meth c H locs cells slots Q (F0 m 2 ls []) := by
  intro k
  induction k with
  | zero => intro i u H locs ls h1 h2; exact absurd h2 (Nat.not_lt_zero _)
  | succ k ih =>
    intro i u H locs ls hi hk hg hP hD hS hl
    refine lv_iload_n hx hb dX12_ends_2 rfl (lv_at hl 0 rfl) ?_
    refine lv_bipush (v := 12) hx hb dX12_ends_3 (by decide) ?_
    refine lv_icmp_ge (tgt := 160) hx hb dX12_ends_5 (by decide) (fun c_1 => ?_) (fun c_1 => ?_)
    ·
      have hie : i = 12 := lp_eq rfl (by decide) hi c_1
      subst hie
      exact kx _ _ _ ls hg hP hD hS (lv_sub hl [0, 1] rfl)
    ·
      have hlt : i < 12 := lp_lt rfl (by decide) hi c_1
      refine lv_iconst (v := 0) hx hb dX12_ends_8 (by decide) ?_
      refine lv_istore_n (lv' := [(2, .int 0), (1, .int (nI i)), (0, .ref h0)]) hx hb dX12_ends_9 rfl hl (by decide) rfl (fun ls hl => ?_)
      rcases Bool.eq_false_or_eq_true (mNow u (nI i)) with hb9 | hb9
      ·
        refine m_ends_in (u0 := u) (P := i) (K := K) hlt hK8 (by rw [hg, (endP_k u0 i).1]; exact eK) (by rw [hg, (endP_k u0 i).1]; exact hd) hb9 hx hb hml hts hown hN hK hRf hRl hRc hRs hA (fun u2 H locs ls hg2 hP hD hS hl => ?_) (K + 1) 0 u _ _ ls (Nat.zero_le _) (by omega) rfl hP hD hS (lv_sub hl [0, 1, 2] rfl)
        refine lv_iinc (v := (nI (i + 1))) (lv' := [(1, .int (nI (i + 1))), (2, .int (nI K)), (0, .ref h0)]) hx hb dX12_ends_154 hl (k := 1) rfl (nI_1 i) (by decide) rfl (fun ls hl => ?_)
        refine lv_goto (tgt := 2) hx hb dX12_ends_157 (by decide) ?_
        exact ih (i + 1) _ _ _ ls (by omega) (by omega) (by unfold endP; rw [← hg, if_pos hb9, eK, nI_clamp (by omega)]; exact hg2) hP hD hS (lv_sub hl [0, 2] rfl)
      ·
        refine lv_iload_n hx hb dX12_ends_10 rfl (lv_at hl 0 rfl) ?_
        refine lv_aload_n hx hb dX12_ends_11 rfl (lv_at hl 2 rfl) ?_
        refine va_get (D := (dC, dI)) (ci := 11) (v := .int (u.1 3)) (C := RX12) (T := TX12) (N := 52) hx hb hts (by decide +kernel) hown hK hP 0 rfl rfl 3 (by decide) (hts (.fieldLink RX12 147 "PageOneModel" "items" "I") (by decide +kernel)) (fun _ h9 => h9) rfl dX12_ends_12 ?_
        refine lv_icmp_ge (tgt := 154) hx hb dX12_ends_15 (by decide) (fun c_2 => ?_) (fun c_2 => ?_)
        ·
          refine lv_iinc (v := (nI (i + 1))) (lv' := [(1, .int (nI (i + 1))), (2, .int 0), (0, .ref h0)]) hx hb dX12_ends_154 hl (k := 1) rfl (nI_1 i) (by decide) rfl (fun ls hl => ?_)
          refine lv_goto (tgt := 2) hx hb dX12_ends_157 (by decide) ?_
          exact ih (i + 1) _ _ _ ls (by omega) (by omega) (by unfold endP; rw [← hg, if_neg (bne hb9)]) hP hD hS (lv_sub hl [0, 2] rfl)
        ·
          refine lv_aload_n hx hb dX12_ends_18 rfl (lv_at hl 2 rfl) ?_
          refine lv_iload_n hx hb dX12_ends_19 rfl (lv_at hl 1 rfl) ?_
          refine vp_callSi (va_runV (As := [.int (nI i)]) (rest := []) ⟨hx, hb, hml, hown, hts⟩ (m_isNow l dC dI h0 v cI cZ u (nI i) (bwN (by have h11 : (11 : Int32).toInt = 11 := rfl; rw [h11]; omega) (by omega))) (cwV 1 hts gX12_ends_X12_isNow rfl rfl rfl (by decide +kernel) ⟨hRf, hRl⟩) ⟨pw_fb, va_recv hK hP (ci := 11) (q0 := 0) rfl rfl, fun U hU hW => ⟨rfl, pw_to hU hW hP hK hN⟩⟩ rfl rfl hl.1 rfl (lv_room (Nat.le_of_ble_eq_true rfl)) dX12_ends_20 ⟨hRc, hRs⟩).run (fun r hw => ?_)
          obtain rfl : r = 0 := b_f hw hb9
          refine lv_if_eq (tgt := 154) hx hb dX12_ends_23 (by decide) (fun c_3 => ?_) (fun c_3 => absurd (by decide) c_3)
          refine lv_iinc (v := (nI (i + 1))) (lv' := [(1, .int (nI (i + 1))), (2, .int 0), (0, .ref h0)]) hx hb dX12_ends_154 hl (k := 1) rfl (nI_1 i) (by decide) rfl (fun ls hl => ?_)
          refine lv_goto (tgt := 2) hx hb dX12_ends_157 (by decide) ?_
          exact ih (i + 1) _ _ _ ls (by omega) (by omega) (by unfold endP; rw [← hg, if_neg (bne hb9)]) hP hD hS (lv_sub hl [0, 2] rfl)
set_option maxHeartbeats 4000000 in
set_option maxRecDepth 100000 in
theorem m_ends (l : Launch) (dC : Nat → ClassId) (dI : Nat → Nat → Nat) (h0 : Nat) (v : Nat → Nat) (cI cZ : ClassId) (u : mS) (hn : bw (u.1 3) 0 80 = true) (hd : bw (u.1 38) 0 399 = true) (sz : Nat) : Met l yX12_ends wsX12_ends ({ frames := 1, cells := 0, slots := 0, locals := 21 }) (va_Pc [.ref h0] (fun U => U.heap.size = sz ∧ PW dC dI (mW h0 v cI cZ u) [(cI, .int), (cZ, .boolean)] U ∧ va_D (fun _ => True) (mW h0 v cI cZ u))) (va_Qv (fun u9 : mS => u9 = endP u 12) (fun u9 t => va_P (dC, dI) vwCl (mW h0 v cI cZ u9) t.heap ∧ va_D (va_A (mW h0 v cI cZ u) sz) (mW h0 v cI cZ u9)) (va_A (mW h0 v cI cZ u) sz)) 0 0 (va_A (mW h0 v cI cZ u) sz) := by
  refine Met.ofW (cc := cX12_ends) (maxL := 3) (ret := none) (by decide) rfl ?_
  intro p e s m args below meth c s₁ B hml hv
  obtain ⟨rfl, hsz, ⟨hP, hK, hN⟩, hD0⟩ := hv
  have hx := B.exec
  have hb := B.bytes
  have hr := B.returns
  have hts := atoms_spec (ws := wsX12_ends) B.pre
  have hown : s.vm.findClass RX12 = some m.cls := findClass_of_methodNamed B.named
  have hlocks := B.notSynchronized
  subst hsz
  have hD := hD0.self (sz := s.heap.size)
  generalize hAe : va_A (mW h0 v cI cZ u) s.heap.size = A at hD ⊢
  have hA : ∀ q : Nat, s.heap.size ≤ q → A q := fun q h => by rw [← hAe]; exact Or.inr h
  have hS : va_S A s.heap s.heap [] := va_S.rf
  have hl := lv_entry ([.ref h0]) (n := 3) (Nat.le_of_ble_eq_true rfl)
  rw [lg_entry_eq]
  generalize (lg_sl ([.ref h0]) ++ List.replicate (3 - (lg_sl ([.ref h0])).length) Slot.unset).toArray = ls at hl ⊢
  have hl : lv_has ls 3 [(0, .ref h0)] := hl
  refine lv_iconst (v := 0) hx hb dX12_ends_0 (by decide) ?_
  refine lv_istore_n (lv' := [(1, .int 0), (0, .ref h0)]) hx hb dX12_ends_1 rfl hl (by decide) rfl (fun ls hl => ?_)
  obtain ⟨eK, eK2, eK3⟩ := nI_of_bw hn
  have h80 : (80 : Int32).toInt = 80 := rfl
  refine m_ends_out (u0 := u) (K := (u.1 3).toNatClampNeg) (by omega) eK hd hx hb hml hts hown hN hK (Nat.le_of_ble_eq_true rfl) (Nat.le_of_ble_eq_true rfl) (Nat.le_of_ble_eq_true rfl) (Nat.le_of_ble_eq_true rfl) hA (fun u2 H locs ls hg hP hD hS hl => ?_) 13 0 u _ _ ls (by decide) (by decide) rfl hP hD hS (lv_sub hl [0, 1] rfl)
  exact W.vret hx hb hr (fun t ht hW => ⟨⟨u2, rfl, hg, by rw [ht]; exact hP, hD⟩, hS.F ht⟩) hS.2.2 dX12_ends_160
/-- edition() -/
def mEdition (u : mS) : Int32 × mS := if u.1 39 = 7 then (-1, u) else
  let u2 := mset (endP u 12) 39 ((endP u 12).1 39 + 1)
  (u2.1 39, u2)
set_option maxHeartbeats 4000000 in
set_option maxRecDepth 100000 in
theorem m_edition (l : Launch) (dC : Nat → ClassId) (dI : Nat → Nat → Nat) (h0 : Nat) (v : Nat → Nat) (cI cZ : ClassId) (u : mS) (hn : bw (u.1 3) 0 80 = true) (hd : bw (u.1 38) 0 399 = true) (sz : Nat) : Met l yX12_edition wsX12_edition ({ frames := 2, cells := 0, slots := 0, locals := 43 }) (va_Pc [.ref h0] (fun U => U.heap.size = sz ∧ PW dC dI (mW h0 v cI cZ u) [(cI, .int), (cZ, .boolean)] U ∧ va_D (fun _ => True) (mW h0 v cI cZ u))) (va_Qi (fun (r : Int32) (u9 : mS) => (r, u9) = mEdition u) (fun u9 t => va_P (dC, dI) vwCl (mW h0 v cI cZ u9) t.heap ∧ va_D (va_A (mW h0 v cI cZ u) sz) (mW h0 v cI cZ u9)) (va_A (mW h0 v cI cZ u) sz)) 0 0 (va_A (mW h0 v cI cZ u) sz) := by
  refine Met.ofW (cc := cX12_edition) (maxL := 1) (ret := (some .int)) (by decide) rfl ?_
  intro p e s m args below meth c s₁ B hml hv
  obtain ⟨rfl, hsz, ⟨hP, hK, hN⟩, hD0⟩ := hv
  have hx := B.exec
  have hb := B.bytes
  have hr := B.returns
  have hts := atoms_spec (ws := wsX12_edition) B.pre
  have hown : s.vm.findClass RX12 = some m.cls := findClass_of_methodNamed B.named
  have hlocks := B.notSynchronized
  subst hsz
  have hD := hD0.self (sz := s.heap.size)
  generalize hAe : va_A (mW h0 v cI cZ u) s.heap.size = A at hD ⊢
  have hA : ∀ q : Nat, s.heap.size ≤ q → A q := fun q h => by rw [← hAe]; exact Or.inr h
  have hS : va_S A s.heap s.heap [] := va_S.rf
  have hl := lv_entry ([.ref h0]) (n := 1) (Nat.le_of_ble_eq_true rfl)
  rw [lg_entry_eq]
  generalize (lg_sl ([.ref h0]) ++ List.replicate (1 - (lg_sl ([.ref h0])).length) Slot.unset).toArray = ls at hl ⊢
  have hl : lv_has ls 1 [(0, .ref h0)] := hl
  refine lv_aload_n hx hb dX12_edition_0 rfl (lv_at hl 0 rfl) ?_
  refine va_get (D := (dC, dI)) (ci := 11) (v := .int (u.1 39)) (C := RX12) (T := TX12) (N := 52) hx hb hts (by decide +kernel) hown hK hP 0 rfl rfl 39 (by decide) (hts (.fieldLink RX12 257 "PageOneModel" "edition" "I") (by decide +kernel)) (fun _ h9 => h9) rfl dX12_edition_1 ?_
  refine lv_bipush (v := 7) hx hb dX12_edition_4 (by decide) ?_
  refine lv_icmp_ne (tgt := 11) hx hb dX12_edition_6 (by decide) (fun c_1 => ?_) (fun c_1 => ?_)
  ·
    refine lv_aload_n hx hb dX12_edition_11 rfl (lv_at hl 0 rfl) ?_
    have hFc := fr_all hD hS hA
    refine va_callv (va_runV (As := []) (rest := []) ⟨hx, hb, hml, hown, hts⟩ (m_ends l dC dI h0 v cI cZ u hn hd s.heap.size) (cwV 0 hts gX12_edition_X12_ends rfl rfl rfl (by decide +kernel) ⟨Nat.le_of_ble_eq_true rfl, Nat.le_of_ble_eq_true rfl⟩) ⟨gw_fb, va_recv hK hP (ci := 11) (q0 := 0) rfl rfl, fun U hU hW => ⟨rfl, by rw [hU], pw_to hU hW hP hK hN, hD.weaken (fun _ _ _ _ => trivial)⟩⟩ rfl rfl hl.1 rfl (lv_room (Nat.le_of_ble_eq_true rfl)) dX12_edition_12 ⟨Nat.le_of_ble_eq_true rfl, Nat.le_of_ble_eq_true rfl⟩) hS (fun q _ h => hFc q h) hFc (fun u_2 t H1 locs ht hvm hw hB hz1 hk1 hS => ?_)
    obtain ⟨hP, hD1⟩ := hB
    rw [ht] at hP
    have hD := hD1.weaken (fun _ q _ h => hFc q.1 h)
    generalize H1 = H at hP hS ⊢
    have eu_2 := hw
    refine lv_aload_n hx hb dX12_edition_15 rfl (lv_at hl 0 rfl) ?_
    refine lv_dup hx hb dX12_edition_16 rfl ?_
    refine va_get (D := (dC, dI)) (ci := 11) (v := .int (u_2.1 39)) (C := RX12) (T := TX12) (N := 52) hx hb hts (by decide +kernel) hown hK hP 0 rfl rfl 39 (by decide) (hts (.fieldLink RX12 257 "PageOneModel" "edition" "I") (by decide +kernel)) (fun _ h9 => h9) rfl dX12_edition_17 ?_
    refine lv_iconst (v := 1) hx hb dX12_edition_20 (by decide) ?_
    refine lv_iadd hx hb dX12_edition_21 ?_
    refine va_put (D := (dC, dI)) (ci := 11) (v := .int ((u_2.1 39) + 1)) (ty := .int) (C := RX12) (T := TX12) (N := 52) hx hb hts (by decide +kernel) tyX12 tyX12_ok nmX12 hown hK hP hD hS 0 rfl rfl 39 (by decide) (hts (.fieldLink RX12 257 "PageOneModel" "edition" "I") (by decide +kernel)) (fun _ h9 => h9) rfl (by decide +kernel) rfl rfl (Nat.le_of_ble_eq_true rfl) dX12_edition_22 (fun H locs hP hD hS => ?_)
    obtain ⟨u_3, eu_3⟩ : ∃ zz : mS, zz = mset u_2 39 ((u_2.1 39) + 1) := ⟨_, rfl⟩
    have hP : va_P (dC, dI) vwCl (mW h0 v cI cZ u_3) H := by rw [eu_3]; exact hP
    have hD : va_D A (mW h0 v cI cZ u_3) := by rw [eu_3]; exact hD
    refine lv_aload_n hx hb dX12_edition_25 rfl (lv_at hl 0 rfl) ?_
    refine va_get (D := (dC, dI)) (ci := 11) (v := .int (u_3.1 39)) (C := RX12) (T := TX12) (N := 52) hx hb hts (by decide +kernel) hown hK hP 0 rfl rfl 39 (by decide) (hts (.fieldLink RX12 257 "PageOneModel" "edition" "I") (by decide +kernel)) (fun _ h9 => h9) rfl dX12_edition_26 ?_
    exact W.iret (v := (u_3.1 39)) hx hb hr (fun t ht hW => ⟨⟨(u_3.1 39), u_3, rfl, (by show _ = mEdition u; unfold mEdition; rw [if_neg c_1, ← eu_2]; exact (by rw [eu_3] : (u_3.1 39, u_3) = _)), by rw [ht]; exact hP, hD⟩, hS.F ht⟩) hS.2.2 dX12_edition_29
  ·
    refine lv_iconst (v := (-1)) hx hb dX12_edition_9 (by decide) ?_
    exact W.iret (v := (-1)) hx hb hr (fun t ht hW => ⟨⟨(-1), u, rfl, (by show _ = mEdition u; unfold mEdition; rw [if_pos c_1]), by rw [ht]; exact hP, hD⟩, hS.F ht⟩) hS.2.2 dX12_edition_10
theorem w_cut {p : Program} {l : Launch} {e : Env} {R : Room} {s : State} {m : MethodId} {args : Array Value} {below : List Frame} {meth : Method} {c : Code} {H : Heap} {locs : List Loc} {cells slots : Nat} {Q : State → Prop} {g : JFrame} (X : Room → Nat → Nat → (State → Prop) → Array Value → Prop) (h1 : X R cells slots Q args) (h2 : X R cells slots Q args → W p l e R s m args below meth c H locs cells slots Q g) : W p l e R s m args below meth c H locs cells slots Q g := h2 h1
/-- a row whose first n places are z -/
def fillF (f : Nat → Int32) (n : Nat) (z : Int32) : Nat → Int32 := fun j => if j < n then z else f j
theorem fillF_0 (f : Nat → Int32) (z : Int32) : fillF f 0 z = f := by
  funext j; unfold fillF; rw [if_neg (Nat.not_lt_zero _)]
theorem mput_idk (u : mS) (k : Nat) : mput u k (u.2 k) = u := by
  refine Prod.ext rfl ?_
  funext j
  unfold mput
  dsimp only
  by_cases e : j = k
  · rw [if_pos e, e]
  · rw [if_neg e]
theorem fill_0 (u : mS) (k : Nat) (z : Int32) : u = mput u k (fillF (u.2 k) 0 z) := by rw [fillF_0, mput_idk]
theorem fill_step (u0 : mS) (k : Nat) (z : Int32) {i : Nat} (hi : i < 2 ^ 31) : mst (mput u0 k (fillF (u0.2 k) i z)) k (nI i) z = mput u0 k (fillF (u0.2 k) (i + 1) z) := by
  unfold mst
  rw [nI_clamp hi]
  unfold mput
  refine Prod.ext rfl ?_
  funext j
  dsimp only
  by_cases e : j = k
  · subst e
    rw [if_pos rfl, if_pos rfl, if_pos rfl]
    funext q
    unfold upd fillF
    by_cases e1 : q = i
    · rw [if_pos e1, if_pos (by omega)]
    · rw [if_neg e1]
      by_cases e2 : q < i
      · rw [if_pos e2, if_pos (by omega)]
      · rw [if_neg e2, if_neg (by omega)]
  · rw [if_neg e, if_neg e, if_neg e]
/-- the day's end, behind the edition's -/
def dayS (w : mS) (K : Nat) : mS := mForget (mput (mput (mset (mset w 38 (w.1 38 + 1)) 39 0) 2 (fillF (w.2 2) 5760 (-2))) 22 (fillF (w.2 22) K 0))
def mDay (u : mS) : Int32 × mS := if u.1 38 = 399 then (-1, u) else ((dayS (endP u 12) (u.1 3).toNatClampNeg).1 38, dayS (endP u 12) (u.1 3).toNatClampNeg)
set_option maxHeartbeats 4000000 in
set_option maxRecDepth 100000 in
theorem m_day_l1 {p : Program} {l : Launch} {e : Env} {R : Room} {s : State} {m : MethodId} {args : Array Value} {below : List Frame} {meth : Method} {c : Code} {Q : State → Prop} {cells slots : Nat} {dC : Nat → ClassId} {dI : Nat → Nat → Nat} {h0 : Nat} {v : Nat → Nat} {cI cZ : ClassId} {u0 : mS} {A : Nat → Prop} {H0 : Heap} (hx : p.tables.exec = Jvm.exec) (hb : c.code = cX12_day) (hml : c.maxLocals = 2) (hts : ∀ w ∈ wsX12_day, w.before args s = true) (hown : s.vm.findClass RX12 = some m.cls) (hN : NN s) (hK : va_K (dC, dI) vwCl [(cI, .int), (cZ, .boolean)] s) (hA : ∀ q : Nat, H0.size ≤ q → A q) (kx : ∀ (u : mS) (H : Heap) (locs : List Loc) (ls : Array Slot), u = mput u0 2 (fillF (u0.2 2) 5760 (-2)) → va_P (dC, dI) vwCl (mW h0 v cI cZ u) H → va_D A (mW h0 v cI cZ u) → va_S A H0 H locs → lv_has ls 2 [(1, .int (nI 5760)), (0, .ref h0)] → W p l e R s m args below meth c H locs cells slots Q (F0 m 54 ls [])) : ∀ (k i : Nat) (u : mS) (H : Heap) (locs : List Loc) (ls : Array Slot), i ≤ 5760 → 5760 - i < k → u = mput u0 2 (fillF (u0.2 2) i (-2)) → va_P (dC, dI) vwCl (mW h0 v cI cZ u) H → va_D A (mW h0 v cI cZ u) → va_S A H0 H locs → lv_has ls 2 [(1, .int (nI i)), (0, .ref h0)] → W p l e R s m args below meth c H locs cells slots Q (F0 m 33 ls []) := by
  intro k
  induction k with
  | zero => intro i u H locs ls h1 h2; exact absurd h2 (Nat.not_lt_zero _)
  | succ k ih =>
    intro i u H locs ls hi hk hg hP hD hS hl
    refine lv_iload_n hx hb dX12_day_33 rfl (lv_at hl 0 rfl) ?_
    refine lv_sipush (v := 5760) hx hb dX12_day_34 (by decide) ?_
    refine lv_icmp_ge (tgt := 54) hx hb dX12_day_37 (by decide) (fun c_1 => ?_) (fun c_1 => ?_)
    ·
      have hie : i = 5760 := lp_eq rfl (by decide) hi c_1
      subst hie
      exact kx _ _ _ ls hg hP hD hS (lv_sub hl [0, 1] rfl)
    ·
      have hlt : i < 5760 := lp_lt rfl (by decide) hi c_1
      refine lv_aload_n hx hb dX12_day_40 rfl (lv_at hl 1 rfl) ?_
      refine va_get (D := (dC, dI)) (ci := 11) (v := .ref (v 2)) (C := RX12) (T := TX12) (N := 52) hx hb hts (by decide +kernel) hown hK hP 0 rfl rfl 2 (by decide) (hts (.fieldLink RX12 16 "PageOneModel" "cell" "[I") (by decide +kernel)) (fun _ h9 => h9) rfl dX12_day_41 ?_
      refine lv_iload_n hx hb dX12_day_44 rfl (lv_at hl 0 rfl) ?_
      refine lv_bipush (v := (-2)) hx hb dX12_day_45 (by decide) ?_
      refine va_iast hx hb hK hP hD hS 3 0 rfl rfl (vp_in_nI hlt (by decide)) dX12_day_47 (fun H locs hP hD hS => ?_)
      obtain ⟨u_2, eu_2⟩ : ∃ zz : mS, zz = mst u 2 (nI i) (-2) := ⟨_, rfl⟩
      have hP : va_P (dC, dI) vwCl (mW h0 v cI cZ u_2) H := by rw [eu_2]; exact hP
      have hD : va_D A (mW h0 v cI cZ u_2) := by rw [eu_2]; exact hD
      refine lv_iinc (v := (nI (i + 1))) (lv' := [(1, .int (nI (i + 1))), (0, .ref h0)]) hx hb dX12_day_48 hl (k := 0) rfl (nI_1 i) (by decide) rfl (fun ls hl => ?_)
      refine lv_goto (tgt := 33) hx hb dX12_day_51 (by decide) ?_
      exact ih (i + 1) _ _ _ ls (by omega) (by omega) (by rw [eu_2, hg]; exact fill_step _ _ _ (by omega)) hP hD hS (lv_sub hl [0, 1] rfl)
set_option maxHeartbeats 4000000 in
set_option maxRecDepth 100000 in
theorem m_day_l2 {p : Program} {l : Launch} {e : Env} {R : Room} {s : State} {m : MethodId} {args : Array Value} {below : List Frame} {meth : Method} {c : Code} {Q : State → Prop} {cells slots : Nat} {dC : Nat → ClassId} {dI : Nat → Nat → Nat} {h0 : Nat} {v : Nat → Nat} {cI cZ : ClassId} {u0 : mS} {K : Nat} (hK8 : K ≤ 80) (eK : u0.1 3 = nI K) {A : Nat → Prop} {H0 : Heap} (hx : p.tables.exec = Jvm.exec) (hb : c.code = cX12_day) (hml : c.maxLocals = 2) (hts : ∀ w ∈ wsX12_day, w.before args s = true) (hown : s.vm.findClass RX12 = some m.cls) (hN : NN s) (hK : va_K (dC, dI) vwCl [(cI, .int), (cZ, .boolean)] s) (hA : ∀ q : Nat, H0.size ≤ q → A q) (kx : ∀ (u : mS) (H : Heap) (locs : List Loc) (ls : Array Slot), u = mput u0 22 (fillF (u0.2 22) K 0) → va_P (dC, dI) vwCl (mW h0 v cI cZ u) H → va_D A (mW h0 v cI cZ u) → va_S A H0 H locs → lv_has ls 2 [(1, .int (nI K)), (0, .ref h0)] → W p l e R s m args below meth c H locs cells slots Q (F0 m 77 ls [])) : ∀ (k i : Nat) (u : mS) (H : Heap) (locs : List Loc) (ls : Array Slot), i ≤ K → K - i < k → u = mput u0 22 (fillF (u0.2 22) i 0) → va_P (dC, dI) vwCl (mW h0 v cI cZ u) H → va_D A (mW h0 v cI cZ u) → va_S A H0 H locs → lv_has ls 2 [(1, .int (nI i)), (0, .ref h0)] → W p l e R s m args below meth c H locs cells slots Q (F0 m 56 ls []) := by
  intro k
  induction k with
  | zero => intro i u H locs ls h1 h2; exact absurd h2 (Nat.not_lt_zero _)
  | succ k ih =>
    intro i u H locs ls hi hk hg hP hD hS hl
    refine lv_iload_n hx hb dX12_day_56 rfl (lv_at hl 0 rfl) ?_
    refine lv_aload_n hx hb dX12_day_57 rfl (lv_at hl 1 rfl) ?_
    refine va_get (D := (dC, dI)) (ci := 11) (v := .int (u.1 3)) (C := RX12) (T := TX12) (N := 52) hx hb hts (by decide +kernel) hown hK hP 0 rfl rfl 3 (by decide) (hts (.fieldLink RX12 147 "PageOneModel" "items" "I") (by decide +kernel)) (fun _ h9 => h9) rfl dX12_day_58 ?_
    refine lv_topi (fun y_1 ey_1 => ?_)
    obtain rfl : y_1 = (nI K) := ey_1.trans ((by rw [hg]; exact eK))
    refine lv_icmp_ge (tgt := 77) hx hb dX12_day_61 (by decide) (fun c_2 => ?_) (fun c_2 => ?_)
    ·
      have hie : i = K := lp_eq rfl (by omega) hi c_2
      rw [hie] at hg hl
      exact kx _ _ _ ls hg hP hD hS (lv_sub hl [0, 1] rfl)
    ·
      have hlt : i < K := lp_lt rfl (by omega) hi c_2
      refine lv_aload_n hx hb dX12_day_64 rfl (lv_at hl 1 rfl) ?_
      refine va_get (D := (dC, dI)) (ci := 11) (v := .ref (v 22)) (C := RX12) (T := TX12) (N := 52) hx hb hts (by decide +kernel) hown hK hP 0 rfl rfl 22 (by decide) (hts (.fieldLink RX12 74 "PageOneModel" "pieces" "[I") (by decide +kernel)) (fun _ h9 => h9) rfl dX12_day_65 ?_
      refine lv_iload_n hx hb dX12_day_68 rfl (lv_at hl 0 rfl) ?_
      refine lv_iconst (v := 0) hx hb dX12_day_69 (by decide) ?_
      refine va_iast hx hb hK hP hD hS 22 0 rfl rfl (vp_in_nI (by omega) (by decide)) dX12_day_70 (fun H locs hP hD hS => ?_)
      obtain ⟨u_3, eu_3⟩ : ∃ zz : mS, zz = mst u 22 (nI i) 0 := ⟨_, rfl⟩
      have hP : va_P (dC, dI) vwCl (mW h0 v cI cZ u_3) H := by rw [eu_3]; exact hP
      have hD : va_D A (mW h0 v cI cZ u_3) := by rw [eu_3]; exact hD
      refine lv_iinc (v := (nI (i + 1))) (lv' := [(1, .int (nI (i + 1))), (0, .ref h0)]) hx hb dX12_day_71 hl (k := 0) rfl (nI_1 i) (by decide) rfl (fun ls hl => ?_)
      refine lv_goto (tgt := 56) hx hb dX12_day_74 (by decide) ?_
      exact ih (i + 1) _ _ _ ls (by omega) (by omega) (by rw [eu_3, hg]; exact fill_step _ _ _ (by omega)) hP hD hS (lv_sub hl [0, 1] rfl)
set_option maxHeartbeats 4000000 in
set_option maxRecDepth 100000 in
theorem m_day (l : Launch) (dC : Nat → ClassId) (dI : Nat → Nat → Nat) (h0 : Nat) (v : Nat → Nat) (cI cZ : ClassId) (u : mS) (hn : bw (u.1 3) 0 80 = true) (hd : bw (u.1 38) 0 399 = true) (sz : Nat) : Met l yX12_day wsX12_day ({ frames := 2, cells := 0, slots := 0, locals := 43 }) (va_Pc [.ref h0] (fun U => U.heap.size = sz ∧ PW dC dI (mW h0 v cI cZ u) [(cI, .int), (cZ, .boolean)] U ∧ va_D (fun _ => True) (mW h0 v cI cZ u))) (va_Qi (fun (r : Int32) (u9 : mS) => (r, u9) = mDay u) (fun u9 t => va_P (dC, dI) vwCl (mW h0 v cI cZ u9) t.heap ∧ va_D (va_A (mW h0 v cI cZ u) sz) (mW h0 v cI cZ u9)) (va_A (mW h0 v cI cZ u) sz)) 0 0 (va_A (mW h0 v cI cZ u) sz) := by
  refine Met.ofW (cc := cX12_day) (maxL := 2) (ret := (some .int)) (by decide) rfl ?_
  intro p e s m args below meth c s₁ B hml hv
  obtain ⟨rfl, hsz, ⟨hP, hK, hN⟩, hD0⟩ := hv
  have hx := B.exec
  have hb := B.bytes
  have hr := B.returns
  have hts := atoms_spec (ws := wsX12_day) B.pre
  have hown : s.vm.findClass RX12 = some m.cls := findClass_of_methodNamed B.named
  have hlocks := B.notSynchronized
  subst hsz
  have hD := hD0.self (sz := s.heap.size)
  generalize hAe : va_A (mW h0 v cI cZ u) s.heap.size = A at hD ⊢
  have hA : ∀ q : Nat, s.heap.size ≤ q → A q := fun q h => by rw [← hAe]; exact Or.inr h
  have hS : va_S A s.heap s.heap [] := va_S.rf
  have hl := lv_entry ([.ref h0]) (n := 2) (Nat.le_of_ble_eq_true rfl)
  rw [lg_entry_eq]
  generalize (lg_sl ([.ref h0]) ++ List.replicate (2 - (lg_sl ([.ref h0])).length) Slot.unset).toArray = ls at hl ⊢
  have hl : lv_has ls 2 [(0, .ref h0)] := hl
  refine lv_aload_n hx hb dX12_day_0 rfl (lv_at hl 0 rfl) ?_
  refine va_get (D := (dC, dI)) (ci := 11) (v := .int (u.1 38)) (C := RX12) (T := TX12) (N := 52) hx hb hts (by decide +kernel) hown hK hP 0 rfl rfl 38 (by decide) (hts (.fieldLink RX12 206 "PageOneModel" "day" "I") (by decide +kernel)) (fun _ h9 => h9) rfl dX12_day_1 ?_
  refine lv_sipush (v := 399) hx hb dX12_day_4 (by decide) ?_
  refine lv_icmp_ne (tgt := 12) hx hb dX12_day_7 (by decide) (fun c_1 => ?_) (fun c_1 => ?_)
  ·
    refine lv_aload_n hx hb dX12_day_12 rfl (lv_at hl 0 rfl) ?_
    have hFc := fr_all hD hS hA
    refine va_callv (va_runV (As := []) (rest := []) ⟨hx, hb, hml, hown, hts⟩ (m_ends l dC dI h0 v cI cZ u hn hd s.heap.size) (cwV 0 hts gX12_day_X12_ends rfl rfl rfl (by decide +kernel) ⟨Nat.le_of_ble_eq_true rfl, Nat.le_of_ble_eq_true rfl⟩) ⟨gw_fb, va_recv hK hP (ci := 11) (q0 := 0) rfl rfl, fun U hU hW => ⟨rfl, by rw [hU], pw_to hU hW hP hK hN, hD.weaken (fun _ _ _ _ => trivial)⟩⟩ rfl rfl hl.1 rfl (lv_room (Nat.le_of_ble_eq_true rfl)) dX12_day_13 ⟨Nat.le_of_ble_eq_true rfl, Nat.le_of_ble_eq_true rfl⟩) hS (fun q _ h => hFc q h) hFc (fun u_2 t H1 locs ht hvm hw hB hz1 hk1 hS => ?_)
    obtain ⟨hP, hD1⟩ := hB
    rw [ht] at hP
    have hD := hD1.weaken (fun _ q _ h => hFc q.1 h)
    generalize H1 = H at hP hS ⊢
    have eu_2 := hw
    refine lv_aload_n hx hb dX12_day_16 rfl (lv_at hl 0 rfl) ?_
    refine lv_dup hx hb dX12_day_17 rfl ?_
    refine va_get (D := (dC, dI)) (ci := 11) (v := .int (u_2.1 38)) (C := RX12) (T := TX12) (N := 52) hx hb hts (by decide +kernel) hown hK hP 0 rfl rfl 38 (by decide) (hts (.fieldLink RX12 206 "PageOneModel" "day" "I") (by decide +kernel)) (fun _ h9 => h9) rfl dX12_day_18 ?_
    refine lv_iconst (v := 1) hx hb dX12_day_21 (by decide) ?_
    refine lv_iadd hx hb dX12_day_22 ?_
    refine va_put (D := (dC, dI)) (ci := 11) (v := .int ((u_2.1 38) + 1)) (ty := .int) (C := RX12) (T := TX12) (N := 52) hx hb hts (by decide +kernel) tyX12 tyX12_ok nmX12 hown hK hP hD hS 0 rfl rfl 38 (by decide) (hts (.fieldLink RX12 206 "PageOneModel" "day" "I") (by decide +kernel)) (fun _ h9 => h9) rfl (by decide +kernel) rfl rfl (Nat.le_of_ble_eq_true rfl) dX12_day_23 (fun H locs hP hD hS => ?_)
    obtain ⟨u_3, eu_3⟩ : ∃ zz : mS, zz = mset u_2 38 ((u_2.1 38) + 1) := ⟨_, rfl⟩
    have hP : va_P (dC, dI) vwCl (mW h0 v cI cZ u_3) H := by rw [eu_3]; exact hP
    have hD : va_D A (mW h0 v cI cZ u_3) := by rw [eu_3]; exact hD
    refine lv_aload_n hx hb dX12_day_26 rfl (lv_at hl 0 rfl) ?_
    refine lv_iconst (v := 0) hx hb dX12_day_27 (by decide) ?_
    refine va_put (D := (dC, dI)) (ci := 11) (v := .int 0) (ty := .int) (C := RX12) (T := TX12) (N := 52) hx hb hts (by decide +kernel) tyX12 tyX12_ok nmX12 hown hK hP hD hS 0 rfl rfl 39 (by decide) (hts (.fieldLink RX12 257 "PageOneModel" "edition" "I") (by decide +kernel)) (fun _ h9 => h9) rfl (by decide +kernel) rfl rfl (Nat.le_of_ble_eq_true rfl) dX12_day_28 (fun H locs hP hD hS => ?_)
    obtain ⟨u_4, eu_4⟩ : ∃ zz : mS, zz = mset u_3 39 0 := ⟨_, rfl⟩
    have hP : va_P (dC, dI) vwCl (mW h0 v cI cZ u_4) H := by rw [eu_4]; exact hP
    have hD : va_D A (mW h0 v cI cZ u_4) := by rw [eu_4]; exact hD
    refine lv_iconst (v := 0) hx hb dX12_day_31 (by decide) ?_
    refine lv_istore_n (lv' := [(1, .int 0), (0, .ref h0)]) hx hb dX12_day_32 rfl hl (by decide) rfl (fun ls hl => ?_)
    refine m_day_l1 (u0 := u_4) hx hb hml hts hown hN hK hA (fun u4 H locs ls hg4 hP hD hS hl => ?_) 5761 0 u_4 _ _ ls (by decide) (by decide) (fill_0 _ _ _) hP hD hS (lv_sub hl [0, 1] rfl)
    refine lv_iconst (v := 0) hx hb dX12_day_54 (by decide) ?_
    refine lv_istore_n (lv' := [(1, .int 0), (0, .ref h0)]) hx hb dX12_day_55 rfl hl (by decide) rfl (fun ls hl => ?_)
    obtain ⟨eK, eK2, eK3⟩ := nI_of_bw hn
    have h80 : (80 : Int32).toInt = 80 := rfl
    refine m_day_l2 (u0 := u4) (K := (u.1 3).toNatClampNeg) (by omega) (by rw [hg4, eu_4, eu_3]; show u_2.1 3 = _; rw [eu_2, (endP_k u 12).1]; exact eK) hx hb hml hts hown hN hK hA (fun u5 H locs ls hg5 hP hD hS hl => ?_) _ 0 u4 _ _ ls (Nat.zero_le _) (Nat.lt_succ_self _) (fill_0 _ _ _) hP hD hS (lv_sub hl [0, 1] rfl)
    refine lv_aload_n hx hb dX12_day_77 rfl (lv_at hl 1 rfl) ?_
    have hFc := fr_all hD hS hA
    refine va_callv (va_runV (As := []) (rest := []) ⟨hx, hb, hml, hown, hts⟩ (m_forget l dC dI h0 v cI cZ u5 H.size) (cwV 0 hts gX12_day_X12_forget rfl rfl rfl (by decide +kernel) ⟨Nat.le_of_ble_eq_true rfl, Nat.le_of_ble_eq_true rfl⟩) ⟨gw_fb, va_recv hK hP (ci := 11) (q0 := 0) rfl rfl, fun U hU hW => ⟨rfl, by rw [hU], pw_to hU hW hP hK hN, hD.weaken (fun _ _ _ _ => trivial)⟩⟩ rfl rfl hl.1 rfl (lv_room (Nat.le_of_ble_eq_true rfl)) dX12_day_78 ⟨Nat.le_of_ble_eq_true rfl, Nat.le_of_ble_eq_true rfl⟩) hS (fun q _ h => hFc q h) hFc (fun u_5 t H1 locs ht hvm hw hB hz1 hk1 hS => ?_)
    obtain ⟨hP, hD1⟩ := hB
    rw [ht] at hP
    have hD := hD1.weaken (fun _ q _ h => hFc q.1 h)
    generalize H1 = H at hP hS ⊢
    have eu_5 := hw
    refine lv_aload_n hx hb dX12_day_81 rfl (lv_at hl 1 rfl) ?_
    refine va_get (D := (dC, dI)) (ci := 11) (v := .int (u_5.1 38)) (C := RX12) (T := TX12) (N := 52) hx hb hts (by decide +kernel) hown hK hP 0 rfl rfl 38 (by decide) (hts (.fieldLink RX12 206 "PageOneModel" "day" "I") (by decide +kernel)) (fun _ h9 => h9) rfl dX12_day_82 ?_
    exact W.iret (v := (u_5.1 38)) hx hb hr (fun t ht hW => ⟨⟨(u_5.1 38), u_5, rfl, (by show _ = mDay u; unfold mDay; rw [if_neg c_1, ← eu_2]; subst eu_3 eu_4 hg4 hg5 eu_5; rfl), by rw [ht]; exact hP, hD⟩, hS.F ht⟩) hS.2.2 dX12_day_85
  ·
    refine lv_iconst (v := (-1)) hx hb dX12_day_10 (by decide) ?_
    exact W.iret (v := (-1)) hx hb hr (fun t ht hW => ⟨⟨(-1), u, rfl, (by show _ = mDay u; unfold mDay; rw [if_pos c_1]), by rw [ht]; exact hP, hD⟩, hS.F ht⟩) hS.2.2 dX12_day_11
/-- the same but for the three wrongs -/
def mE (u w : mS) : Prop := w.2 = u.2 ∧ ∀ k, k ≠ 49 → k ≠ 50 → k ≠ 51 → w.1 k = u.1 k
theorem mE_rf (u : mS) : mE u u := ⟨rfl, fun _ _ _ _ => rfl⟩
theorem mE_tr {u v w : mS} (h1 : mE u v) (h2 : mE v w) : mE u w := ⟨h2.1.trans h1.1, fun k a b c => (h2.2 k a b c).trans (h1.2 k a b c)⟩
theorem mE_set {u w : mS} (h : mE u w) {k : Nat} (hk : k = 49 ∨ k = 50 ∨ k = 51) (x : Int32) : mE u (mset w k x) := by
  refine mE_tr h ⟨rfl, fun j a b c => ?_⟩
  unfold mset
  exact if_neg (by omega)
theorem mE_wr {u w w2 : mS} {k a b : Int32} (h : mE u w) (h2 : w2 = mWrongs w k a b) : mE u w2 := by
  have h3 : ∀ x y z : Int32, mE u (mset (mset (mset w 49 x) 50 y) 51 z) := fun x y z => mE_set (mE_set (mE_set h (Or.inl rfl) x) (Or.inr (Or.inl rfl)) y) (Or.inr (Or.inr rfl)) z
  rw [h2]
  unfold mWrongs
  dsimp only
  repeat' split
  all_goals first | exact h | exact h3 _ _ _
theorem mE_b {u w : mS} (h : mE u w) (hk : ∀ j, j < 80 → u.2 4 j = 3 → bw (u.2 10 j) 0 9 = true) {i : Int32} (hi : bw i 0 79 = true) (hc : w.2 4 i.toNatClampNeg = 3) : bw (w.2 10 i.toNatClampNeg) 0 9 = true := by
  rw [h.1] at hc ⊢
  exact hk _ (vlt (vin hi (by decide))) hc
theorem vNm {i b : Int32} (hi : bw i 0 79 = true) (hb : bw b 0 9 = true) : vp_in (10 * i + b) 800 := by
  have h10 : (10 : Int32).toInt = 10 := rfl
  have h79 : (79 : Int32).toInt = 79 := rfl
  have h9 : (9 : Int32).toInt = 9 := rfl
  have h1 := bw_iff.mp hi
  have h2 := bw_iff.mp hb
  rw [i0, h79] at h1
  rw [i0, h9] at h2
  have e1 : (10 * i).toInt = 10 * i.toInt := by rw [mulI (by rw [h10]; omega) (by rw [h10]; omega), h10]
  rw [vp_in_iff, addI (by rw [e1]; omega) (by rw [e1]; omega), e1]; omega
theorem v60 {i x : Int32} (hi : bw i 0 79 = true) (ex : x = 6 * i) : vp_in x 480 := by
  have h6 : (6 : Int32).toInt = 6 := rfl
  have h79 : (79 : Int32).toInt = 79 := rfl
  have h1 := bw_iff.mp hi
  rw [i0, h79] at h1
  rw [ex, vp_in_iff, mulI (by rw [h6]; omega) (by rw [h6]; omega), h6]; omega
theorem bw7 {c : Nat} (h : c < 8) : bw (nI c) 0 7 = true := bwN (by have h7 : (7 : Int32).toInt = 7 := rfl; rw [h7]; omega) (by omega)
theorem bw79 {c : Nat} (h : c < 80) : bw (nI c) 0 79 = true := bwN (by have h7 : (79 : Int32).toInt = 79 := rfl; rw [h7]; omega) (by omega)
theorem bw11 {c : Nat} (h : c < 12) : bw (nI c) 0 11 = true := bwN (by have h7 : (11 : Int32).toInt = 11 := rfl; rw [h7]; omega) (by omega)
theorem v6n {j i : Nat} (hj : j < 80) (hi : i < 6) : vp_in (6 * nI j + nI i) 480 := by
  rw [show (6 : Int32) = nI 6 from rfl, pk_mul, nI_add]; exact vp_in_nI (by omega) (by decide)
/-- the same but for the wrongs and the plates -/
def mPl (u w : mS) : Prop := (∀ k, k ≠ 49 → k ≠ 50 → k ≠ 51 → w.1 k = u.1 k) ∧ (∀ k, k < 40 ∨ 46 < k → w.2 k = u.2 k) ∧ ∀ j, j < 96 → bw (w.2 43 j) 0 60 = true
def mNotice (u : mS) (i h : Int32) : mS := mst (mst (mMade u 5) 9 (u.1 3) i) 8 (u.1 3) h
theorem addsub1 (q : Int32) : q + 1 - 1 = q := by rw [Int32.sub_eq_add_neg, Int32.add_assoc]; exact Int32.add_zero q
theorem mput_other {u : mS} {k j : Nat} {f : Nat → Int32} (h : j ≠ k) : (mput u k f).2 j = u.2 j := by
  unfold mput; dsimp only; rw [if_neg h]
theorem mStand_22 (u : mS) (i : Int32) (P X Y D N : Nat) : (mStand u i P X Y D N).2 22 i.toNatClampNeg = u.2 22 i.toNatClampNeg + 1 := by
  unfold mStand
  dsimp only
  rw [mput_other (by decide), mst_same, mst_other (by decide), mst_other (by decide), mst_other (by decide), mst_other (by decide), mst_other (by decide)]
theorem mStand_sl (u : mS) (i : Int32) (P X Y D N : Nat) : (mStand u i P X Y D N).2 23 (6 * i + ((mStand u i P X Y D N).2 22 i.toNatClampNeg - 1)).toNatClampNeg = nI P ∧ (mStand u i P X Y D N).2 24 (6 * i + ((mStand u i P X Y D N).2 22 i.toNatClampNeg - 1)).toNatClampNeg = nI X ∧ (mStand u i P X Y D N).2 25 (6 * i + ((mStand u i P X Y D N).2 22 i.toNatClampNeg - 1)).toNatClampNeg = nI Y ∧ (mStand u i P X Y D N).2 26 (6 * i + ((mStand u i P X Y D N).2 22 i.toNatClampNeg - 1)).toNatClampNeg = nI D ∧ (mStand u i P X Y D N).2 27 (6 * i + ((mStand u i P X Y D N).2 22 i.toNatClampNeg - 1)).toNatClampNeg = nI N := by
  rw [mStand_22, addsub1]
  refine ⟨?_, ?_, ?_, ?_, ?_⟩
  · show (mst u 23 (6 * i + u.2 22 i.toNatClampNeg) (nI P)).2 23 _ = _; exact mst_same _ _ _ _
  · show (mst _ 24 (6 * i + u.2 22 i.toNatClampNeg) (nI X)).2 24 _ = _; exact mst_same _ _ _ _
  · show (mst _ 25 (6 * i + u.2 22 i.toNatClampNeg) (nI Y)).2 25 _ = _; exact mst_same _ _ _ _
  · show (mst _ 26 (6 * i + u.2 22 i.toNatClampNeg) (nI D)).2 26 _ = _; exact mst_same _ _ _ _
  · show (mst _ 27 (6 * i + u.2 22 i.toNatClampNeg) (nI N)).2 27 _ = _; exact mst_same _ _ _ _
theorem q05 {q : Int32} (h : bw q 0 6 = true) (h6 : ¬ q = 6) : bw q 0 5 = true := by
  have e6 : (6 : Int32).toInt = 6 := rfl
  have e5 : (5 : Int32).toInt = 5 := rfl
  have h1 := bw_iff.mp h
  rw [i0, e6] at h1
  have h2 : ¬ q.toInt = 6 := fun e => h6 (sw_in e.symm e6)
  rw [bw_iff, i0, e5]; omega
theorem q16 {q : Int32} (h : bw q 0 5 = true) : bw (q + 1) 0 6 = true := by
  have e6 : (6 : Int32).toInt = 6 := rfl
  have e5 : (5 : Int32).toInt = 5 := rfl
  have h1 := bw_iff.mp h
  rw [i0, e5] at h1
  rw [bw_iff, i0, e6, addI (by rw [i1]; omega) (by rw [i1]; omega), i1]; omega
theorem qm1 {q : Int32} (h : bw q 0 5 = true) (h0 : ¬ q = 0) : bw (q - 1) 0 5 = true := by
  have e5 : (5 : Int32).toInt = 5 := rfl
  have h1 := bw_iff.mp h
  rw [i0, e5] at h1
  have h2 : ¬ q.toInt = 0 := fun e => h0 (sw_in e.symm i0)
  rw [bw_iff, i0, e5, subI (by rw [i1]; omega) (by rw [i1]; omega), i1]; omega
theorem vW {i : Int32} {n : Nat} (hi : bw i 0 79 = true) (hn : n < 80) : vp_in (80 * i + nI n) 6400 := by
  have h80 : (80 : Int32).toInt = 80 := rfl
  have h79 : (79 : Int32).toInt = 79 := rfl
  have h1 := bw_iff.mp hi
  rw [i0, h79] at h1
  have e1 : (80 * i).toInt = 80 * i.toInt := by rw [mulI (by rw [h80]; omega) (by rw [h80]; omega), h80]
  rw [vp_in_iff, addI (by rw [e1, nI_toInt (by omega)]; omega) (by rw [e1, nI_toInt (by omega)]; omega), e1, nI_toInt (by omega)]; omega
/-- what mayRun has found of the last piece and of the one ahead -/
def runG (w : mS) (i x : Int32) : Prop := ¬ mTakes w i x < 1 ∧ (x = 0 ∨ ¬ mTakes w i (x - 1) < 1)
theorem free_rect {u : mS} {p c l w h : Int32} (hln : ∀ j, j < 96 → bw (u.2 0 j) 0 60 = true) (hf : mFreeP u p c l w h) : ∃ P X Y D N : Nat, p = nI P ∧ c = nI X ∧ l = nI Y ∧ w = nI D ∧ h = nI N ∧ P < 12 ∧ X + D ≤ 8 ∧ Y + N ≤ 60 ∧ 1 ≤ D ∧ 1 ≤ N := by
  obtain ⟨h1, h2, h3, h4⟩ := hf
  have h11 : (11 : Int32).toInt = 11 := rfl
  have h7 : (7 : Int32).toInt = 7 := rfl
  have h8 : (8 : Int32).toInt = 8 := rfl
  have h60 : (60 : Int32).toInt = 60 := rfl
  obtain ⟨q1, q2, q3⟩ := mCell_c h1
  obtain ⟨P, hP, -, eP⟩ := exN q1 (by decide)
  obtain ⟨X, hX, -, eX⟩ := exN q2 (by decide)
  obtain ⟨Y, hY, eY⟩ := exL hln h1
  obtain ⟨D, hD, hD1, eD⟩ := exN h2 (by decide)
  obtain ⟨N, hN, hN1, eN⟩ := exN h3 (by decide)
  rw [h11] at hP
  rw [h7] at hX
  rw [h8] at hD
  rw [h60] at hN
  rw [i1] at hD1 hN1
  subst eP eX eY eD eN
  have hx := h4 (D - 1) (by rw [nI_clamp (by omega)]; omega) 0 (by rw [nI_clamp (by omega)]; omega)
  have hy := h4 0 (by rw [nI_clamp (by omega)]; omega) (N - 1) (by rw [nI_clamp (by omega)]; omega)
  unfold frB at hx hy
  obtain ⟨hx, -⟩ := band hx
  obtain ⟨hy, -⟩ := band hy
  obtain ⟨-, x2, -⟩ := mCell_c hx
  obtain ⟨Y2, hY2, eY2⟩ := exL hln hy
  have x3 := bw_iff.mp x2
  rw [nI_add, nI_toInt (by omega), i0, h7] at x3
  have y3 : (nI (Y + (N - 1))).toInt = (nI Y2).toInt := by rw [← eY2, nI_add]
  rw [nI_toInt (by omega), nI_toInt (by omega)] at y3
  exact ⟨P, X, Y, D, N, rfl, rfl, rfl, rfl, rfl, by omega, by omega, by omega, by omega, by omega⟩
theorem vSz {i k n : Int32} (hi : bw i 0 79 = true) (hn : bw n 0 4 = true) (hk : bw k 0 (n - 1) = true) : vp_in (4 * i + k) 320 := by
  have h4 : (4 : Int32).toInt = 4 := rfl
  have h79 : (79 : Int32).toInt = 79 := rfl
  have h1 := bw_iff.mp hi
  have h2 := bw_iff.mp hn
  have h3 := bw_iff.mp hk
  rw [i0, h79] at h1
  rw [i0, h4] at h2
  rw [i0, subI (by rw [i1]; omega) (by rw [i1]; omega), i1] at h3
  have e1 : (4 * i).toInt = 4 * i.toInt := by rw [mulI (by rw [h4]; omega) (by rw [h4]; omega), h4]
  rw [vp_in_iff, addI (by rw [e1]; omega) (by rw [e1]; omega), e1]; omega
/-- a piece comes and goes again: what mayRun leaves -/
def mTry (u : mS) (i : Int32) (P X Y N : Nat) : mS := mUnstand (mStand u i P X Y 1 N) i P X Y 1 N
theorem mTry_22 (u : mS) (i : Int32) (P X Y N : Nat) : (mTry u i P X Y N).2 22 i.toNatClampNeg = u.2 22 i.toNatClampNeg := by
  unfold mTry mUnstand
  dsimp only
  rw [mput_other (by decide), mst_same, mStand_22, addsub1]
theorem mTry_1 (u : mS) (i : Int32) (P X Y N : Nat) : (mTry u i P X Y N).1 = u.1 := rfl
theorem z05 {q : Int32} (h : q = 0) : bw q 0 5 = true := by rw [h]; decide
theorem bwS {q : Int32} (h : bw q 0 6 = true) (h0 : ¬ q = 0) : bw (q - 1) 0 (q - 1) = true := by
  have e6 : (6 : Int32).toInt = 6 := rfl
  have h1 := bw_iff.mp h
  rw [i0, e6] at h1
  have h2 : ¬ q.toInt = 0 := fun e => h0 (sw_in e.symm i0)
  rw [bw_iff, i0, subI (by rw [i1]; omega) (by rw [i1]; omega), i1]; omega
/-- a filler's coming: item, page, column, line, lines -/
abbrev fX : Type := Nat × Nat × Nat × Nat × Nat
def fStep (w : mS) (n : Nat) (x : fX) : mS := mst (mStand w (nI x.1) x.2.1 x.2.2.1 x.2.2.2.1 1 x.2.2.2.2) 37 (w.1 36 + nI n) (nI x.1)
def fillR (u : mS) : List fX → mS
  | [] => u
  | x :: xs => fStep (fillR u xs) xs.length x
def fGood (u : mS) : List fX → Prop
  | [] => True
  | x :: xs => fGood u xs ∧ x.1 < (u.1 3).toNatClampNeg ∧ u.2 4 x.1 = 4 ∧ (fillR u xs).2 22 x.1 = 0 ∧ x.2.1 < 12 ∧ x.2.2.1 + 1 ≤ 8 ∧ x.2.2.2.1 + x.2.2.2.2 ≤ 60 ∧ 1 ≤ x.2.2.2.2
def mFillE (u : mS) (xs : List fX) : mS := mset (mActs (fillR u xs) 3 (nI xs.length) 0 0 0 0 0) 36 ((mActs (fillR u xs) 3 (nI xs.length) 0 0 0 0 0).1 36 + nI xs.length)
def stR (k : Nat) : Prop := k = 2 ∨ k = 22 ∨ k = 23 ∨ k = 24 ∨ k = 25 ∨ k = 26 ∨ k = 27 ∨ k = 37
theorem mStand_k (u : mS) (i : Int32) (P X Y D N : Nat) {k : Nat} (hk : ¬ stR k) : (mStand u i P X Y D N).2 k = u.2 k := by
  unfold stR at hk
  unfold mStand
  dsimp only
  rw [mput_other (by omega), mst_other (by omega), mst_other (by omega), mst_other (by omega), mst_other (by omega), mst_other (by omega), mst_other (by omega)]
theorem fillR_k (u : mS) : ∀ xs, (fillR u xs).1 = u.1 ∧ ∀ k, ¬ stR k → (fillR u xs).2 k = u.2 k
  | [] => ⟨rfl, fun _ _ => rfl⟩
  | x :: xs => by
    have h := fillR_k u xs
    refine ⟨h.1, fun k hk => ?_⟩
    show (mst _ 37 _ _).2 k = _
    rw [mst_other (by unfold stR at hk; omega), mStand_k _ _ _ _ _ _ _ hk]
    exact h.2 k hk
theorem vFl {F : Int32} {n : Nat} (h0 : 0 ≤ F.toInt) (h : F.toInt + n < 700) : vp_in (F + nI n) 700 := by
  rw [vp_in_iff, addI (by rw [nI_toInt (by omega)]; omega) (by rw [nI_toInt (by omega)]; omega), nI_toInt (by omega)]; omega
theorem nIle {a b : Nat} (ha : a < 2 ^ 31) (hb : b < 2 ^ 31) (h : nI a ≤ nI b) : a ≤ b := by
  rw [i32_le, nI_toInt ha, nI_toInt hb] at h; omega
theorem nInle {a b : Nat} (ha : a < 2 ^ 31) (hb : b < 2 ^ 31) (h : ¬ nI a ≤ nI b) : b < a := by
  rw [i32_le, nI_toInt ha, nI_toInt hb] at h; omega
theorem nIpos {a : Nat} (ha : a < 2 ^ 31) : ¬ nI a < 0 := by
  rw [i32_lt, nI_toInt ha, i0]; omega
theorem nR {k : Nat} (h : (!(k == 2) && !(k == 22) && !(k == 23) && !(k == 24) && !(k == 25) && !(k == 26) && !(k == 27) && !(k == 37)) = true) : ¬ stR k := by
  unfold stR; simp at h; omega
theorem fl_nil {u : mS} {xs : List fX} (hfb : ∀ (x : fX) (xs : List fX), fGood u (x :: xs) → 0 ≤ (u.1 36).toInt ∧ (u.1 36).toInt + (xs.length : Int) < 700) (hg : fGood u xs) (h : nI xs.length = 0) : xs = [] := by
  cases xs with
  | nil => rfl
  | cons x ys =>
    exfalso
    have h1 := hfb x ys hg
    have h2 : (nI (x :: ys).length).toInt = 0 := by rw [h]; rfl
    rw [List.length_cons, nI_toInt (by omega)] at h2
    omega
theorem mset_same (u : mS) (k : Nat) (x : Int32) : (mset u k x).1 k = x := by
  unfold mset; exact if_pos rfl
def mBack (u : mS) : mS := mset u 28 (u.1 28 - 1)
def popS (u : mS) (x : fX) : mS := mUnstand (mset u 36 (u.1 36 - 1)) (nI x.1) x.2.1 x.2.2.1 x.2.2.2.1 1 x.2.2.2.2
def popAll (u : mS) : List fX → mS
  | [] => u
  | x :: xs => popAll (popS u x) xs
/-- what an unstand asks of the slot -/
def slR (u : mS) (i : Int32) (P X Y D N : Nat) : Prop := bw (u.2 22 i.toNatClampNeg - 1) 0 5 = true ∧ u.2 23 (6 * i + (u.2 22 i.toNatClampNeg - 1)).toNatClampNeg = nI P ∧ u.2 24 (6 * i + (u.2 22 i.toNatClampNeg - 1)).toNatClampNeg = nI X ∧ u.2 25 (6 * i + (u.2 22 i.toNatClampNeg - 1)).toNatClampNeg = nI Y ∧ u.2 26 (6 * i + (u.2 22 i.toNatClampNeg - 1)).toNatClampNeg = nI D ∧ u.2 27 (6 * i + (u.2 22 i.toNatClampNeg - 1)).toNatClampNeg = nI N
def popOK (u : mS) : List fX → Prop
  | [] => True
  | x :: xs => bw (u.1 36 - 1) 0 699 = true ∧ u.2 37 (u.1 36 - 1).toNatClampNeg = nI x.1 ∧ x.1 < 80 ∧ x.2.1 < 12 ∧ x.2.2.1 + 1 ≤ 8 ∧ x.2.2.2.1 + x.2.2.2.2 ≤ 60 ∧ slR u (nI x.1) x.2.1 x.2.2.1 x.2.2.2.1 1 x.2.2.2.2 ∧ popOK (popS u x) xs
set_option maxHeartbeats 4000000 in
set_option maxRecDepth 100000 in
theorem m_undoF_loop {p : Program} {l : Launch} {e : Env} {R : Room} {s : State} {m : MethodId} {args : Array Value} {below : List Frame} {meth : Method} {c : Code} {Q : State → Prop} {cells slots : Nat} {dC : Nat → ClassId} {dI : Nat → Nat → Nat} {h0 : Nat} {v : Nat → Nat} {cI cZ : ClassId} {w9 : mS} {K : Nat} (hK8 : K ≤ 1000) {A : Nat → Prop} {H0 : Heap} (hx : p.tables.exec = Jvm.exec) (hb : c.code = cX12_undo) (hml : c.maxLocals = 3) (hts : ∀ w ∈ wsX12_undo, w.before args s = true) (hown : s.vm.findClass RX12 = some m.cls) (hN : NN s) (hK : va_K (dC, dI) vwCl [(cI, .int), (cZ, .boolean)] s) (hRf : 3 ≤ R.frames) (hRl : 72 ≤ R.locals) (hRc : cells ≤ R.cells) (hRs : slots ≤ R.slots) (hA : ∀ q : Nat, H0.size ≤ q → A q) (kx : ∀ (u : mS) (H : Heap) (locs : List Loc) (ls : Array Slot), u = w9 → va_P (dC, dI) vwCl (mW h0 v cI cZ u) H → va_D A (mW h0 v cI cZ u) → va_S A H0 H locs → lv_has ls 3 [(2, .int (nI K)), (0, .ref h0), (1, .int (nI K))] → W p l e R s m args below meth c H locs cells slots Q (F0 m 193 ls [])) : ∀ (k i : Nat) (u : mS) (H : Heap) (locs : List Loc) (xs : List fX) (ls : Array Slot), i ≤ K → K - i < k → (popOK u xs ∧ popAll u xs = w9 ∧ xs.length = K - i) → va_P (dC, dI) vwCl (mW h0 v cI cZ u) H → va_D A (mW h0 v cI cZ u) → va_S A H0 H locs → lv_has ls 3 [(2, .int (nI i)), (0, .ref h0), (1, .int (nI K))] → W p l e R s m args below meth c H locs cells slots Q (F0 m 159 ls []) := by
  intro k
  induction k with
  | zero => intro i u H locs xs ls h1 h2; exact absurd h2 (Nat.not_lt_zero _)
  | succ k ih =>
    intro i u H locs xs ls hi hk hg hP hD hS hl
    refine lv_iload_n hx hb dX12_undo_159 rfl (lv_at hl 0 rfl) ?_
    refine lv_iload_n hx hb dX12_undo_160 rfl (lv_at hl 2 rfl) ?_
    refine lv_icmp_ge (tgt := 193) hx hb dX12_undo_161 (by decide) (fun c_1 => ?_) (fun c_1 => ?_)
    ·
      have hie : i = K := lp_eq rfl (by omega) hi c_1
      have hnil : xs = [] := List.length_eq_zero_iff.mp (by rw [hg.2.2]; omega)
      subst hnil
      rw [hie] at hl
      exact kx _ _ _ ls hg.2.1 hP hD hS (lv_sub hl [0, 1, 2] rfl)
    ·
      have hlt : i < K := lp_lt rfl (by omega) hi c_1
      obtain ⟨x, ys, rfl⟩ : ∃ x ys, xs = x :: ys := by
            cases xs with
            | nil => exact absurd hg.2.2 (by rw [List.length_nil]; omega)
            | cons x ys => exact ⟨x, ys, rfl⟩
      obtain ⟨⟨h36, h37, hx80, hPP, hXW, hYN, hsl, hpop⟩, hall, hlen⟩ := hg
      refine lv_aload_n hx hb dX12_undo_164 rfl (lv_at hl 1 rfl) ?_
      refine lv_dup hx hb dX12_undo_165 rfl ?_
      refine va_get (D := (dC, dI)) (ci := 11) (v := .int (u.1 36)) (C := RX12) (T := TX12) (N := 52) hx hb hts (by decide +kernel) hown hK hP 0 rfl rfl 36 (by decide) (hts (.fieldLink RX12 168 "PageOneModel" "filled" "I") (by decide +kernel)) (fun _ h9 => h9) rfl dX12_undo_166 ?_
      refine lv_iconst (v := 1) hx hb dX12_undo_169 (by decide) ?_
      refine lv_isub hx hb dX12_undo_170 ?_
      refine va_put (D := (dC, dI)) (ci := 11) (v := .int ((u.1 36) - 1)) (ty := .int) (C := RX12) (T := TX12) (N := 52) hx hb hts (by decide +kernel) tyX12 tyX12_ok nmX12 hown hK hP hD hS 0 rfl rfl 36 (by decide) (hts (.fieldLink RX12 168 "PageOneModel" "filled" "I") (by decide +kernel)) (fun _ h9 => h9) rfl (by decide +kernel) rfl rfl (Nat.le_of_ble_eq_true rfl) dX12_undo_171 (fun H locs hP hD hS => ?_)
      obtain ⟨u_2, eu_2⟩ : ∃ zz : mS, zz = mset u 36 ((u.1 36) - 1) := ⟨_, rfl⟩
      have hP : va_P (dC, dI) vwCl (mW h0 v cI cZ u_2) H := by rw [eu_2]; exact hP
      have hD : va_D A (mW h0 v cI cZ u_2) := by rw [eu_2]; exact hD
      refine lv_aload_n hx hb dX12_undo_174 rfl (lv_at hl 1 rfl) ?_
      refine lv_aload_n hx hb dX12_undo_175 rfl (lv_at hl 1 rfl) ?_
      refine va_get (D := (dC, dI)) (ci := 11) (v := .ref (v 37)) (C := RX12) (T := TX12) (N := 52) hx hb hts (by decide +kernel) hown hK hP 0 rfl rfl 37 (by decide) (hts (.fieldLink RX12 113 "PageOneModel" "filler" "[I") (by decide +kernel)) (fun _ h9 => h9) rfl dX12_undo_176 ?_
      refine lv_aload_n hx hb dX12_undo_179 rfl (lv_at hl 1 rfl) ?_
      refine va_get (D := (dC, dI)) (ci := 11) (v := .int (u_2.1 36)) (C := RX12) (T := TX12) (N := 52) hx hb hts (by decide +kernel) hown hK hP 0 rfl rfl 36 (by decide) (hts (.fieldLink RX12 168 "PageOneModel" "filled" "I") (by decide +kernel)) (fun _ h9 => h9) rfl dX12_undo_180 ?_
      refine va_iald hx hb hK hP 35 0 rfl rfl (by rw [eu_2, mset_same]; exact vin h36 (by decide)) dX12_undo_183 ?_
      refine lv_topi (fun y_3 ey_3 => ?_)
      obtain rfl : y_3 = (nI x.1) := ey_3.trans ((by rw [eu_2, mset_same]; exact h37))
      have hFc := fr_all hD hS hA
      refine va_callv (va_runV (As := [.int (nI x.1)]) (rest := []) ⟨hx, hb, hml, hown, hts⟩ (m_unstand l dC dI h0 v cI cZ u_2 (nI x.1) x.2.1 x.2.2.1 x.2.2.2.1 1 x.2.2.2.2 hPP hXW hYN (bw79 hx80) (by rw [eu_2]; exact hsl.1) (by rw [eu_2]; exact hsl.2.1) (by rw [eu_2]; exact hsl.2.2.1) (by rw [eu_2]; exact hsl.2.2.2.1) (by rw [eu_2]; exact hsl.2.2.2.2.1) (by rw [eu_2]; exact hsl.2.2.2.2.2) H.size) (cwV 1 hts gX12_undo_X12_unstand rfl rfl rfl (by decide +kernel) ⟨Nat.le_trans (Nat.le_of_ble_eq_true rfl) hRf, Nat.le_trans (Nat.le_of_ble_eq_true rfl) hRl⟩) ⟨gw_fb, va_recv hK hP (ci := 11) (q0 := 0) rfl rfl, fun U hU hW => ⟨rfl, by rw [hU], pw_to hU hW hP hK hN, hD.weaken (fun _ _ _ _ => trivial)⟩⟩ rfl rfl hl.1 rfl (lv_room (Nat.le_of_ble_eq_true rfl)) dX12_undo_184 ⟨hRc, hRs⟩) hS (fun q _ h => hFc q h) hFc (fun u_4 t H1 locs ht hvm hw hB hz1 hk1 hS => ?_)
      obtain ⟨hP, hD1⟩ := hB
      rw [ht] at hP
      have hD := hD1.weaken (fun _ q _ h => hFc q.1 h)
      generalize H1 = H at hP hS ⊢
      have eu_4 := hw
      refine lv_iinc (v := (nI (i + 1))) (lv' := [(2, .int (nI (i + 1))), (0, .ref h0), (1, .int (nI K))]) hx hb dX12_undo_187 hl (k := 0) rfl (nI_1 i) (by decide) rfl (fun ls hl => ?_)
      refine lv_goto (tgt := 159) hx hb dX12_undo_190 (by decide) ?_
      exact ih (i + 1) _ _ _ ys ls (by omega) (by omega) ⟨by rw [eu_4, eu_2]; exact hpop, by rw [eu_4, eu_2]; exact hall, by rw [List.length_cons] at hlen; omega⟩ hP hD hS (lv_sub hl [0, 1, 2] rfl)
/-- a piece: page, column, line, columns, lines; an item's pieces, the last one first -/
abbrev fR : Type := Nat × Nat × Nat × Nat × Nat
abbrev cfg : Type := Nat → List fR
def rOK (r : fR) : Prop := r.1 < 12 ∧ r.2.1 + r.2.2.2.1 ≤ 8 ∧ r.2.2.1 + r.2.2.2.2 ≤ 60 ∧ 1 ≤ r.2.2.2.1 ∧ 1 ≤ r.2.2.2.2
/-- whether two pages differ, as a number -/
def dfP (a b : Nat) : Int := if a = b then 0 else 1
def pvT (r : fR) : List fR → Int
  | [] => 0
  | q :: _ => dfP q.1 r.1
def nxT (r : fR) : Option Nat → Int
  | none => 0
  | some P => dfP P r.1
def tkL (nx : Option Nat) (r : fR) (l : List fR) : Int := (r.2.2.2.2 : Int) - pvT r l - nxT r nx
def lgT : Option Nat → List fR → Prop
  | _, [] => True
  | nx, r :: l => 1 ≤ tkL nx r l ∧ lgT (some r.1) l
def frL : Option Nat → List fR → Int
  | _, [] => 0
  | nx, r :: l => tkL nx r l + frL (some r.1) l
theorem dfP_b (a b : Nat) : 0 ≤ dfP a b ∧ dfP a b ≤ 1 := by
  unfold dfP; split <;> decide
theorem pvT_b (r : fR) (l : List fR) : 0 ≤ pvT r l ∧ pvT r l ≤ 1 := by
  cases l with
  | nil => exact ⟨Int.le_refl 0, (by decide : (0 : Int) ≤ 1)⟩
  | cons q l => exact dfP_b _ _
theorem nxT_b (r : fR) (nx : Option Nat) : 0 ≤ nxT r nx ∧ nxT r nx ≤ 1 := by
  cases nx with
  | none => exact ⟨Int.le_refl 0, (by decide : (0 : Int) ≤ 1)⟩
  | some q => exact dfP_b _ _
theorem tkL_b {r : fR} (hr : rOK r) (nx : Option Nat) (l : List fR) : -1 ≤ tkL nx r l ∧ tkL nx r l ≤ 60 := by
  have h1 := pvT_b r l
  have h2 := nxT_b r nx
  have h3 := hr.2.2
  unfold tkL; omega
theorem lgT_none {nx : Option Nat} {l : List fR} (h : lgT nx l) : lgT none l := by
  cases l with
  | nil => trivial
  | cons r l =>
    refine ⟨?_, h.2⟩
    have h1 := h.1
    have h2 := nxT_b r nx
    have h3 : nxT r none = 0 := rfl
    unfold tkL at h1 ⊢
    omega
theorem frL_w : ∀ (l : List fR) (nx : Option Nat), (∀ r ∈ l, rOK r) → -(60 * (l.length : Int)) ≤ frL nx l ∧ frL nx l ≤ 60 * (l.length : Int)
  | [], _, _ => ⟨(by decide : -(60 * ((0 : Nat) : Int)) ≤ 0), (by decide : (0 : Int) ≤ 60 * ((0 : Nat) : Int))⟩
  | r :: l, nx, h => by
    have h1 := frL_w l (some r.1) (fun q hq => h q (List.mem_cons_of_mem _ hq))
    have h2 := tkL_b (h r List.mem_cons_self) nx l
    have h3 : frL nx (r :: l) = tkL nx r l + frL (some r.1) l := rfl
    rw [h3, List.length_cons]
    omega
theorem frL_p : ∀ (l : List fR) (nx : Option Nat), lgT nx l → 0 ≤ frL nx l
  | [], _, _ => Int.le_refl 0
  | r :: l, nx, h => by
    have h1 := frL_p l (some r.1) h.2
    have h2 := h.1
    have h3 : frL nx (r :: l) = tkL nx r l + frL (some r.1) l := rfl
    omega
/-- the slot k holds the piece -/
def slE (u : mS) (k : Nat) (r : fR) : Prop := u.2 23 k = nI r.1 ∧ u.2 24 k = nI r.2.1 ∧ u.2 25 k = nI r.2.2.1 ∧ u.2 26 k = nI r.2.2.2.1 ∧ u.2 27 k = nI r.2.2.2.2
def slM (u : mS) (a : Nat) : List fR → Prop
  | [] => True
  | r :: l => slE u (6 * a + l.length) r ∧ slM u a l
theorem nI_inj {a b : Nat} (ha : a < 2 ^ 31) (hb : b < 2 ^ 31) : nI a = nI b ↔ a = b := by
  constructor
  · intro h
    have h2 : (nI a).toInt = (nI b).toInt := by rw [h]
    rw [nI_toInt ha, nI_toInt hb] at h2
    omega
  · intro h; rw [h]
def tk1 (u : mS) (i k : Int32) : Int32 := if k ≤ 0 then u.2 27 (6 * i + k).toNatClampNeg else if u.2 23 (6 * i + k - 1).toNatClampNeg = u.2 23 (6 * i + k).toNatClampNeg then u.2 27 (6 * i + k).toNatClampNeg else u.2 27 (6 * i + k).toNatClampNeg + (-1)
theorem mTakes_eq (u : mS) (i k : Int32) : mTakes u i k = if u.2 22 i.toNatClampNeg ≤ k + 1 then tk1 u i k else if u.2 23 (6 * i + k + 1).toNatClampNeg = u.2 23 (6 * i + k).toNatClampNeg then tk1 u i k else tk1 u i k + (-1) := rfl
theorem m1I {x : Int32} (h : -1000 ≤ x.toInt) (h2 : x.toInt ≤ 1000) : (x + (-1)).toInt = x.toInt - 1 := by
  have e : (-1 : Int32).toInt = -1 := rfl
  rw [addI (by rw [e]; omega) (by rw [e]; omega), e]; omega
theorem ix6 (a k : Nat) : 6 * nI a + nI k = nI (6 * a + k) := by
  rw [show (6 : Int32) = nI 6 from rfl, pk_mul, nI_add]
theorem tk1_v {u : mS} {a : Nat} (ha : a < 80) {r : fR} {l : List fR} (hl : l.length ≤ 5) (hr : rOK r) (hr2 : ∀ q ∈ l, rOK q) (h : slM u a (r :: l)) : (tk1 u (nI a) (nI l.length)).toInt = (r.2.2.2.2 : Int) - pvT r l := by
  obtain ⟨⟨h23, -, -, -, h27⟩, h2⟩ := h
  have hN := hr.2.2
  have hP := hr.1
  unfold tk1
  rw [ix6, nI_clamp (by omega), h27]
  cases l with
  | nil =>
    rw [if_pos (by decide), nI_toInt (by omega)]
    show _ = (r.2.2.2.2 : Int) - 0
    omega
  | cons q l2 =>
    have hq := (hr2 q List.mem_cons_self).1
    obtain ⟨⟨g23, -⟩, -⟩ := h2
    rw [List.length_cons] at hl h23 h27 ⊢
    rw [if_neg (by rw [i32_le, nI_toInt (by omega), i0]; omega), dn_e (by omega), nI_clamp (by omega), show 6 * a + (l2.length + 1) - 1 = 6 * a + l2.length from by omega, g23, h23]
    show _ = (r.2.2.2.2 : Int) - dfP q.1 r.1
    unfold dfP
    by_cases e : q.1 = r.1
    · rw [if_pos (by rw [e]), if_pos e, nI_toInt (by omega)]; omega
    · rw [if_neg (fun h => e ((nI_inj (by omega) (by omega)).mp h)), if_neg e, m1I (by rw [nI_toInt (by omega)]; omega) (by rw [nI_toInt (by omega)]; omega), nI_toInt (by omega)]
theorem mTk0 {u : mS} {a : Nat} (ha : a < 80) {r : fR} {l : List fR} (hl : l.length ≤ 5) (hr : rOK r) (hr2 : ∀ q ∈ l, rOK q) (h : slM u a (r :: l)) (hn : u.2 22 a = nI (l.length + 1)) : (mTakes u (nI a) (nI l.length)).toInt = tkL none r l := by
  rw [mTakes_eq, nI_clamp (by omega), hn, nI_1, if_pos (by rw [i32_le]; exact Int.le_refl _), tk1_v ha hl hr hr2 h]
  show _ = (r.2.2.2.2 : Int) - pvT r l - 0
  omega
theorem mTk1 {u : mS} {a : Nat} (ha : a < 80) {r : fR} {l : List fR} (hl : l.length ≤ 4) (hr : rOK r) (hr2 : ∀ q ∈ l, rOK q) (h : slM u a (r :: l)) {n P : Nat} (hn6 : n ≤ 6) (hn : u.2 22 a = nI n) (hln : l.length + 1 < n) (hP : P < 12) (hx : u.2 23 (6 * a + (l.length + 1)) = nI P) : (mTakes u (nI a) (nI l.length)).toInt = tkL (some P) r l := by
  have hv := tk1_v ha (by omega) hr hr2 h
  have hb := pvT_b r l
  have h23 := h.1.1
  have hN := hr.2.2
  have hP2 := hr.1
  rw [mTakes_eq, nI_clamp (by omega), hn, nI_1, if_neg (by rw [i32_le, nI_toInt (by omega), nI_toInt (by omega)]; omega), ix6, nI_1, nI_clamp (by omega), nI_clamp (by omega), h23, show 6 * a + l.length + 1 = 6 * a + (l.length + 1) from rfl, hx]
  show _ = (r.2.2.2.2 : Int) - pvT r l - dfP P r.1
  unfold dfP
  by_cases e : P = r.1
  · rw [if_pos (by rw [e]), if_pos e, hv]; omega
  · rw [if_neg (fun h => e ((nI_inj (by omega) (by omega)).mp h)), if_neg e, m1I (by rw [hv]; omega) (by rw [hv]; omega), hv]
theorem mFr {u : mS} {a n : Nat} (ha : a < 80) (hn6 : n ≤ 6) (hn : u.2 22 a = nI n) : ∀ (l : List fR) (P : Nat), (∀ q ∈ l, rOK q) → slM u a l → l.length < n → P < 12 → u.2 23 (6 * a + l.length) = nI P → (mFrom u (nI a) l.length).toInt = frL (some P) l
  | [], _, _, _, _, _, _ => rfl
  | r :: l, P, hr, h, hl, hP, hx => by
    rw [List.length_cons] at hl hx ⊢
    have hr2 : ∀ q ∈ l, rOK q := fun q hq => hr q (List.mem_cons_of_mem _ hq)
    have hr1 := hr r List.mem_cons_self
    have h1 := mFr ha hn6 hn l r.1 hr2 h.2 (by omega) hr1.1 h.1.1
    have h2 := mTk1 ha (by omega) hr1 hr2 h hn6 hn hl hP hx
    have h3 := frL_w l (some r.1) hr2
    have h4 := tkL_b hr1 (some P) l
    show (mFrom u (nI a) l.length + mTakes u (nI a) (nI l.length)).toInt = tkL (some P) r l + frL (some r.1) l
    rw [addI (by rw [h1, h2]; omega) (by rw [h1, h2]; omega), h1, h2]; omega
/-- what mayRun finds makes the longer row of pieces a good one -/
theorem runG_l {u : mS} {a : Nat} (ha : a < 80) {r : fR} {l : List fR} (hl : l.length ≤ 5) (hr : rOK r) (hr2 : ∀ q ∈ l, rOK q) (h : slM u a (r :: l)) (hn : u.2 22 a = nI (l.length + 1)) (hg : lgT none l) (hG : runG u (nI a) (nI l.length)) : lgT none (r :: l) := by
  obtain ⟨g1, g2⟩ := hG
  rw [i32_lt, mTk0 ha hl hr hr2 h hn, i1] at g1
  refine ⟨by omega, ?_⟩
  cases l with
  | nil => trivial
  | cons q l2 =>
    rw [List.length_cons] at hl g2 hn
    have hq1 := hr2 q List.mem_cons_self
    have hq2 : ∀ x ∈ l2, rOK x := fun x hx => hr2 x (List.mem_cons_of_mem _ hx)
    have g3 := g2.resolve_left (fun e => by
      have e2 : (nI (l2.length + 1)).toInt = 0 := by rw [e]; rfl
      rw [nI_toInt (by omega)] at e2; omega)
    rw [dn_e (by omega), Nat.add_sub_cancel, i32_lt, mTk1 ha (by omega) hq1 hq2 h.2 (n := l2.length + 1 + 1) (by omega) hn (by omega) hr.1 h.1.1, i1] at g3
    exact ⟨by omega, hg.2⟩
/-- and what mayRun asks of the lines ahead -/
theorem runG_f {u : mS} {a : Nat} (ha : a < 80) {r : fR} {l : List fR} (hl : l.length ≤ 5) (hr : rOK r) (hr2 : ∀ q ∈ l, rOK q) (h : slM u a (r :: l)) (hn : u.2 22 a = nI (l.length + 1)) (hg : lgT none l) (hG : runG u (nI a) (nI l.length)) : 0 ≤ (mFrom u (nI a) l.length).toInt ∧ (mFrom u (nI a) l.length).toInt ≤ 400 ∧ (mTakes u (nI a) (nI l.length)).toInt ≤ 60 := by
  have h1 := runG_l ha hl hr hr2 h hn hg hG
  rw [mFr ha (by omega) hn l r.1 hr2 h.2 (by omega) hr.1 h.1.1, mTk0 ha hl hr hr2 h hn]
  have h2 := frL_p l (some r.1) h1.2
  have h3 := frL_w l (some r.1) hr2
  have h4 := tkL_b hr none l
  omega
/-- the rows show the pieces -/
def cM (u : mS) (c : cfg) : Prop := ∀ a, a < 80 → u.2 22 a = nI (c a).length ∧ slM u a (c a)
def cPush (c : cfg) (a : Nat) (r : fR) : cfg := fun b => if b = a then r :: c b else c b
theorem cPush_a (c : cfg) (a : Nat) (r : fR) : cPush c a r a = r :: c a := if_pos rfl
theorem cPush_o {c : cfg} {a b : Nat} {r : fR} (h : b ≠ a) : cPush c a r b = c b := if_neg h
theorem slM_c {u w : mS} {a : Nat} : ∀ {l : List fR}, (∀ k, 6 * a ≤ k → k < 6 * a + l.length → w.2 23 k = u.2 23 k ∧ w.2 24 k = u.2 24 k ∧ w.2 25 k = u.2 25 k ∧ w.2 26 k = u.2 26 k ∧ w.2 27 k = u.2 27 k) → slM u a l → slM w a l
  | [], _, _ => trivial
  | r :: l, h, h2 => by
    obtain ⟨k1, k2, k3, k4, k5⟩ := h (6 * a + l.length) (by omega) (by rw [List.length_cons]; omega)
    obtain ⟨⟨e1, e2, e3, e4, e5⟩, h3⟩ := h2
    exact ⟨⟨k1.trans e1, k2.trans e2, k3.trans e3, k4.trans e4, k5.trans e5⟩, slM_c (fun k q1 q2 => h k q1 (by rw [List.length_cons]; omega)) h3⟩
theorem cM_rows {u w : mS} {c : cfg} (h : ∀ k, 22 ≤ k → k ≤ 27 → w.2 k = u.2 k) (hc : cM u c) : cM w c := fun a ha => ⟨by rw [h 22 (by decide) (by decide)]; exact (hc a ha).1, slM_c (fun k _ _ => ⟨by rw [h 23 (by decide) (by decide)], by rw [h 24 (by decide) (by decide)], by rw [h 25 (by decide) (by decide)], by rw [h 26 (by decide) (by decide)], by rw [h 27 (by decide) (by decide)]⟩) (hc a ha).2⟩
theorem mst_at (u : mS) (k : Nat) (i x : Int32) (j : Nat) : (mst u k i x).2 k j = if j = i.toNatClampNeg then x else u.2 k j := by
  unfold mst mput upd; dsimp only; rw [if_pos rfl]
theorem mStand_1 (u : mS) (i : Int32) (P X Y D N : Nat) : (mStand u i P X Y D N).1 = u.1 := rfl
theorem mStand_22o (u : mS) (i : Int32) (P X Y D N j : Nat) : (mStand u i P X Y D N).2 22 j = if j = i.toNatClampNeg then u.2 22 i.toNatClampNeg + 1 else u.2 22 j := by
  unfold mStand
  dsimp only
  rw [mput_other (by decide), mst_at, mst_other (by decide), mst_other (by decide), mst_other (by decide), mst_other (by decide), mst_other (by decide)]
theorem mStand_r (u : mS) (i : Int32) (P X Y D N j : Nat) : (mStand u i P X Y D N).2 23 j = (if j = (6 * i + u.2 22 i.toNatClampNeg).toNatClampNeg then nI P else u.2 23 j) ∧ (mStand u i P X Y D N).2 24 j = (if j = (6 * i + u.2 22 i.toNatClampNeg).toNatClampNeg then nI X else u.2 24 j) ∧ (mStand u i P X Y D N).2 25 j = (if j = (6 * i + u.2 22 i.toNatClampNeg).toNatClampNeg then nI Y else u.2 25 j) ∧ (mStand u i P X Y D N).2 26 j = (if j = (6 * i + u.2 22 i.toNatClampNeg).toNatClampNeg then nI D else u.2 26 j) ∧ (mStand u i P X Y D N).2 27 j = (if j = (6 * i + u.2 22 i.toNatClampNeg).toNatClampNeg then nI N else u.2 27 j) := by
  unfold mStand
  dsimp only
  refine ⟨?_, ?_, ?_, ?_, ?_⟩
  · rw [mput_other (by decide), mst_other (by decide), mst_other (by decide), mst_other (by decide), mst_other (by decide), mst_other (by decide), mst_at]
  · rw [mput_other (by decide), mst_other (by decide), mst_other (by decide), mst_other (by decide), mst_other (by decide), mst_at, mst_other (by decide)]
  · rw [mput_other (by decide), mst_other (by decide), mst_other (by decide), mst_other (by decide), mst_at, mst_other (by decide), mst_other (by decide)]
  · rw [mput_other (by decide), mst_other (by decide), mst_other (by decide), mst_at, mst_other (by decide), mst_other (by decide), mst_other (by decide)]
  · rw [mput_other (by decide), mst_other (by decide), mst_at, mst_other (by decide), mst_other (by decide), mst_other (by decide), mst_other (by decide)]
theorem mUnstand_1 (u : mS) (i : Int32) (P X Y D N : Nat) : (mUnstand u i P X Y D N).1 = u.1 := rfl
theorem mUnstand_k (u : mS) (i : Int32) (P X Y D N : Nat) {k : Nat} (h1 : k ≠ 2) (h2 : k ≠ 22) : (mUnstand u i P X Y D N).2 k = u.2 k := by
  unfold mUnstand
  dsimp only
  rw [mput_other h1, mst_other h2]
theorem mUnstand_22o (u : mS) (i : Int32) (P X Y D N j : Nat) : (mUnstand u i P X Y D N).2 22 j = if j = i.toNatClampNeg then u.2 22 i.toNatClampNeg - 1 else u.2 22 j := by
  unfold mUnstand
  dsimp only
  rw [mput_other (by decide), mst_at]
theorem cM_stand {u : mS} {c : cfg} {a : Nat} (ha : a < 80) (hl : (c a).length ≤ 5) (h6 : ∀ b, (c b).length ≤ 6) (hc : cM u c) (P X Y D N : Nat) : cM (mStand u (nI a) P X Y D N) (cPush c a (P, X, Y, D, N)) := by
  intro b hb
  have h1 := (hc a ha).1
  have hca : (nI a).toNatClampNeg = a := nI_clamp (by omega)
  have hk : (6 * nI a + u.2 22 (nI a).toNatClampNeg).toNatClampNeg = 6 * a + (c a).length := by rw [hca, h1, ix6, nI_clamp (by omega)]
  have hr := fun j => mStand_r u (nI a) P X Y D N j
  rw [hk] at hr
  have ho : ∀ k, k ≠ 6 * a + (c a).length → (mStand u (nI a) P X Y D N).2 23 k = u.2 23 k ∧ (mStand u (nI a) P X Y D N).2 24 k = u.2 24 k ∧ (mStand u (nI a) P X Y D N).2 25 k = u.2 25 k ∧ (mStand u (nI a) P X Y D N).2 26 k = u.2 26 k ∧ (mStand u (nI a) P X Y D N).2 27 k = u.2 27 k := by
    intro k hne
    obtain ⟨q1, q2, q3, q4, q5⟩ := hr k
    rw [if_neg hne] at q1 q2 q3 q4 q5
    exact ⟨q1, q2, q3, q4, q5⟩
  by_cases e : b = a
  · subst e
    rw [cPush_a]
    refine ⟨?_, ?_, ?_⟩
    · rw [mStand_22o, hca, if_pos rfl, h1, nI_1]; rfl
    · obtain ⟨q1, q2, q3, q4, q5⟩ := hr (6 * b + (c b).length)
      rw [if_pos rfl] at q1 q2 q3 q4 q5
      exact ⟨q1, q2, q3, q4, q5⟩
    · exact slM_c (fun k _ k2 => ho k (by omega)) (hc b hb).2
  · rw [cPush_o e]
    refine ⟨?_, ?_⟩
    · rw [mStand_22o, hca, if_neg e]; exact (hc b hb).1
    · exact slM_c (fun k k1 k2 => ho k (by have := h6 b; omega)) (hc b hb).2
theorem cM_unstand {u : mS} {c : cfg} {a : Nat} {r : fR} (ha : a < 80) (hl : (c a).length ≤ 5) (hc : cM u (cPush c a r)) (P X Y D N : Nat) : cM (mUnstand u (nI a) P X Y D N) c := by
  intro b hb
  have hca : (nI a).toNatClampNeg = a := nI_clamp (by omega)
  have h := hc b hb
  have hs : ∀ l, slM u b l → slM (mUnstand u (nI a) P X Y D N) b l := fun l => slM_c (fun k _ _ => ⟨by rw [mUnstand_k _ _ _ _ _ _ _ (by decide) (by decide)], by rw [mUnstand_k _ _ _ _ _ _ _ (by decide) (by decide)], by rw [mUnstand_k _ _ _ _ _ _ _ (by decide) (by decide)], by rw [mUnstand_k _ _ _ _ _ _ _ (by decide) (by decide)], by rw [mUnstand_k _ _ _ _ _ _ _ (by decide) (by decide)]⟩)
  by_cases e : b = a
  · subst e
    rw [cPush_a] at h
    refine ⟨?_, hs _ h.2.2⟩
    rw [mUnstand_22o, hca, if_pos rfl, h.1, List.length_cons, dn_e (by omega)]; rfl
  · rw [cPush_o e] at h
    refine ⟨?_, hs _ h.2⟩
    rw [mUnstand_22o, hca, if_neg e]; exact h.1
theorem cM_slR {u : mS} {c : cfg} {a P X Y D N : Nat} (ha : a < 80) (hl : (c a).length ≤ 5) (hc : cM u (cPush c a (P, X, Y, D, N))) : slR u (nI a) P X Y D N := by
  have hca : (nI a).toNatClampNeg = a := nI_clamp (by omega)
  have h := hc a ha
  rw [cPush_a] at h
  obtain ⟨h1, ⟨e1, e2, e3, e4, e5⟩, -⟩ := h
  unfold slR
  rw [hca, h1, List.length_cons, dn_e (by omega), Nat.add_sub_cancel, ix6, nI_clamp (by omega)]
  exact ⟨bwN (by have h5 : (5 : Int32).toInt = 5 := rfl; rw [h5]; omega) (by omega), e1, e2, e3, e4, e5⟩
/-- good pieces -/
def cOK (n : Nat) (kd : Nat → Int32) (c : cfg) : Prop := ∀ a, (n ≤ a → c a = []) ∧ (c a).length ≤ 6 ∧ (∀ r ∈ c a, rOK r) ∧ lgT none (c a) ∧ (kd a = 4 → (c a).length ≤ 1)
theorem cOK_nil (n : Nat) (kd : Nat → Int32) {c : cfg} (h : ∀ a, c a = []) : cOK n kd c := fun a => by
  rw [h a]
  exact ⟨fun _ => rfl, Nat.zero_le _, fun r hr => absurd hr List.not_mem_nil, trivial, fun _ => Nat.zero_le _⟩
theorem cOK_mono {n m : Nat} {kd kd2 : Nat → Int32} {c : cfg} (hm : n ≤ m) (hk : ∀ a, a < n → kd2 a = kd a) (h : cOK n kd c) : cOK m kd2 c := fun a => by
  obtain ⟨h1, h2, h3, h4, h5⟩ := h a
  refine ⟨fun q => h1 (by omega), h2, h3, h4, fun q => ?_⟩
  rcases Nat.lt_or_ge a n with e | e
  · exact h5 (by rw [← hk a e]; exact q)
  · rw [h1 e]; exact Nat.zero_le _
theorem cOK_push {n : Nat} {kd : Nat → Int32} {c : cfg} {a : Nat} {r : fR} (h : cOK n kd c) (ha : a < n) (hr : rOK r) (hl : (c a).length ≤ 5) (hg : lgT none (r :: c a)) (hk : kd a = 4 → c a = []) : cOK n kd (cPush c a r) := fun b => by
  by_cases e : b = a
  · subst e
    rw [cPush_a]
    refine ⟨fun q => absurd q (by omega), by rw [List.length_cons]; omega, ?_, hg, fun q => by rw [hk q]; exact Nat.le_refl 1⟩
    intro q hq
    rcases List.mem_cons.mp hq with e | e
    · rw [e]; exact hr
    · exact (h b).2.2.1 q e
  · rw [cPush_o e]; exact h b
theorem lg_one {r : fR} (hr : rOK r) : lgT none [r] := by
  refine ⟨?_, trivial⟩
  have h := hr.2.2
  show 1 ≤ (r.2.2.2.2 : Int) - 0 - 0
  omega
/-- a kept act: kind, item, piece or place, fillers -/
abbrev hE : Type := Nat × Nat × fR × List fX
def cFill (c : cfg) : List fX → cfg
  | [] => c
  | x :: xs => cPush (cFill c xs) x.1 (x.2.1, x.2.2.1, x.2.2.2.1, 1, x.2.2.2.2)
def xG (n : Nat) (kd : Nat → Int32) (c : cfg) : List fX → Prop
  | [] => True
  | x :: xs => xG n kd c xs ∧ x.1 < n ∧ kd x.1 = 4 ∧ cFill c xs x.1 = [] ∧ rOK (x.2.1, x.2.2.1, x.2.2.2.1, 1, x.2.2.2.2)
def eS (n : Nat) (kd : Nat → Int32) (e : hE) (c1 c : cfg) : Prop := (e.1 = 0 ∧ ∃ r, c = cPush c1 e.2.1 r) ∨ (e.1 = 1 ∧ c1 = cPush c e.2.1 e.2.2.1) ∨ (e.1 = 2 ∧ c = c1 ∧ e.2.2.1.1 < 12 ∧ e.2.2.1.2.1 < 8 ∧ e.2.2.1.2.2.1 < 60) ∨ (e.1 = 3 ∧ c = cFill c1 e.2.2.2 ∧ xG n kd c1 e.2.2.2)
def hOK (n : Nat) (kd : Nat → Int32) : List hE → cfg → Prop
  | [], c => ∀ a, c a = []
  | e :: es, c => cOK n kd c ∧ ∃ c1, hOK n kd es c1 ∧ eS n kd e c1 c
theorem hOK_c {n : Nat} {kd : Nat → Int32} {es : List hE} {c : cfg} (h : hOK n kd es c) : cOK n kd c := by
  cases es with
  | nil => exact cOK_nil n kd h
  | cons e es => exact h.1
theorem xG_mono {n m : Nat} {kd kd2 : Nat → Int32} {c : cfg} (hm : n ≤ m) (hk : ∀ a, a < n → kd2 a = kd a) : ∀ {xs : List fX}, xG n kd c xs → xG m kd2 c xs
  | [], _ => trivial
  | x :: xs, h => ⟨xG_mono hm hk h.1, by have := h.2.1; omega, (hk _ h.2.1).trans h.2.2.1, h.2.2.2.1, h.2.2.2.2⟩
theorem hOK_mono {n m : Nat} {kd kd2 : Nat → Int32} (hm : n ≤ m) (hk : ∀ a, a < n → kd2 a = kd a) : ∀ {es : List hE} {c : cfg}, hOK n kd es c → hOK m kd2 es c
  | [], _, h => h
  | e :: es, c, h => by
    obtain ⟨h1, c1, h2, h3⟩ := h
    refine ⟨cOK_mono hm hk h1, c1, hOK_mono hm hk h2, ?_⟩
    rcases h3 with q | q | q | ⟨q1, q2, q3⟩
    · exact Or.inl q
    · exact Or.inr (Or.inl q)
    · exact Or.inr (Or.inr (Or.inl q))
    · exact Or.inr (Or.inr (Or.inr ⟨q1, q2, xG_mono hm hk q3⟩))
/-- how many fillers are kept -/
def fil : List hE → Nat
  | [] => 0
  | e :: es => fil es + (if e.1 = 3 then e.2.2.2.length else 0)
def sumF (g : Nat → Nat) : Nat → Nat
  | 0 => 0
  | n + 1 => sumF g n + g n
theorem sumF_upd {g g2 : Nat → Nat} {a d : Nat} (h : ∀ b, b ≠ a → g2 b = g b) (h2 : g2 a = g a + d) : ∀ n, sumF g2 n = sumF g n + (if a < n then d else 0)
  | 0 => by show 0 = 0 + _; rw [if_neg (by omega)]
  | n + 1 => by
    have ih := sumF_upd h h2 n
    show sumF g2 n + g2 n = sumF g n + g n + _
    by_cases e : a = n
    · subst e
      rw [ih, if_neg (by omega), if_pos (by omega), h2]; omega
    · rw [ih, h n (fun q => e q.symm)]
      by_cases e2 : a < n
      · rw [if_pos e2, if_pos (by omega)]; omega
      · rw [if_neg e2, if_neg (by omega)]; omega
def stG (kd : Nat → Int32) (c : cfg) : Nat → Nat := fun a => if kd a = 4 then (c a).length else 0
theorem stF_push (n : Nat) (kd : Nat → Int32) (c : cfg) (a : Nat) (r : fR) : sumF (stG kd (cPush c a r)) n = sumF (stG kd c) n + (if a < n then (if kd a = 4 then 1 else 0) else 0) := by
  refine sumF_upd (fun b hb => ?_) ?_ n
  · unfold stG; rw [cPush_o hb]
  · unfold stG
    rw [cPush_a]
    split
    · rfl
    · rfl
theorem stF_fill {n : Nat} {kd : Nat → Int32} {c : cfg} : ∀ {xs : List fX}, xG n kd c xs → sumF (stG kd (cFill c xs)) n = sumF (stG kd c) n + xs.length
  | [], _ => rfl
  | x :: xs, h => by
    show sumF (stG kd (cPush (cFill c xs) _ _)) n = _
    rw [stF_push, stF_fill h.1, if_pos h.2.1, if_pos h.2.2.1, List.length_cons]; omega
theorem stF_le {kd : Nat → Int32} {c : cfg} (h : ∀ a, kd a = 4 → (c a).length ≤ 1) : ∀ n, sumF (stG kd c) n ≤ n
  | 0 => Nat.le_refl 0
  | n + 1 => by
    have ih := stF_le h n
    have h2 : stG kd c n ≤ 1 := by
      unfold stG
      split
      · rename_i q; exact h n q
      · exact Nat.zero_le 1
    show sumF (stG kd c) n + stG kd c n ≤ n + 1
    omega
theorem fil_b {n : Nat} {kd : Nat → Int32} : ∀ {es : List hE} {c : cfg}, hOK n kd es c → fil es ≤ sumF (stG kd c) n + es.length
  | [], _, _ => Nat.zero_le _
  | e :: es, c, h => by
    obtain ⟨-, c1, h2, h3⟩ := h
    have ih := fil_b h2
    show fil es + (if e.1 = 3 then e.2.2.2.length else 0) ≤ _
    rw [List.length_cons]
    rcases h3 with ⟨q, r, q2⟩ | ⟨q, q2⟩ | ⟨q, q2, -⟩ | ⟨q, q2, q3⟩
    · rw [if_neg (by omega), q2, stF_push]; omega
    · rw [if_neg (by omega)]
      rw [q2, stF_push] at ih
      have h9 : (if e.2.1 < n then (if kd e.2.1 = 4 then 1 else 0) else 0) ≤ 1 := by
        split
        · split
          · exact Nat.le_refl 1
          · exact Nat.zero_le 1
        · exact Nat.zero_le 1
      omega
    · rw [if_neg (by omega), q2]; omega
    · rw [if_pos q, q2, stF_fill q3]; omega
/-- good also behind a row of fillers -/
theorem cOK_fill {n : Nat} {kd : Nat → Int32} {c : cfg} (h : cOK n kd c) : ∀ {xs : List fX}, xG n kd c xs → cOK n kd (cFill c xs)
  | [], _ => h
  | x :: xs, hx => by
    have ih := cOK_fill h hx.1
    have he := hx.2.2.2.1
    refine cOK_push ih hx.2.1 hx.2.2.2.2 (by rw [he]; exact Nat.zero_le _) (by rw [he]; exact lg_one hx.2.2.2.2) (fun _ => he)
theorem fil_380 {n : Nat} {kd : Nat → Int32} {es : List hE} {c : cfg} (h : hOK n kd es c) {xs : List fX} (hx : xG n kd c xs) : fil es + xs.length ≤ n + es.length := by
  have h1 := fil_b h
  have h2 := stF_fill hx
  have h3 := stF_le (fun a => ((cOK_fill (hOK_c h) hx) a).2.2.2.2) n
  omega
/-- the rows of the acts show them -/
def fM (u : mS) (F : Nat) : List fX → Prop
  | [] => True
  | x :: xs => u.2 37 (F + xs.length) = nI x.1 ∧ fM u F xs
def eM (u : mS) (t F : Nat) (e : hE) : Prop := u.2 29 t = nI e.1 ∧ (e.1 = 0 → u.2 30 t = nI e.2.1) ∧ (e.1 = 1 → u.2 30 t = nI e.2.1 ∧ u.2 31 t = nI e.2.2.1.1 ∧ u.2 32 t = nI e.2.2.1.2.1 ∧ u.2 33 t = nI e.2.2.1.2.2.1 ∧ u.2 34 t = nI e.2.2.1.2.2.2.1 ∧ u.2 35 t = nI e.2.2.1.2.2.2.2) ∧ (e.1 = 2 → u.2 30 t = nI e.2.2.1.1 ∧ u.2 31 t = nI e.2.2.1.2.1 ∧ u.2 32 t = nI e.2.2.1.2.2.1) ∧ (e.1 = 3 → u.2 30 t = nI e.2.2.2.length ∧ fM u F e.2.2.2)
def aM (u : mS) : List hE → Prop
  | [] => True
  | e :: es => eM u es.length (fil es) e ∧ aM u es
theorem fM_c {u w : mS} {F : Nat} : ∀ {xs : List fX}, (∀ j, j < F + xs.length → w.2 37 j = u.2 37 j) → fM u F xs → fM w F xs
  | [], _, _ => trivial
  | x :: xs, h, h2 => ⟨(h _ (by rw [List.length_cons]; omega)).trans h2.1, fM_c (fun j hj => h j (by rw [List.length_cons]; omega)) h2.2⟩
theorem eM_c {u w : mS} {t F : Nat} {e : hE} (h : ∀ k, 29 ≤ k → k ≤ 35 → w.2 k t = u.2 k t) (h2 : e.1 = 3 → ∀ j, j < F + e.2.2.2.length → w.2 37 j = u.2 37 j) (he : eM u t F e) : eM w t F e := by
  unfold eM at he ⊢
  rw [h 29 (by decide) (by decide), h 30 (by decide) (by decide), h 31 (by decide) (by decide), h 32 (by decide) (by decide), h 33 (by decide) (by decide), h 34 (by decide) (by decide), h 35 (by decide) (by decide)]
  exact ⟨he.1, he.2.1, he.2.2.1, he.2.2.2.1, fun q => ⟨(he.2.2.2.2 q).1, fM_c (h2 q) (he.2.2.2.2 q).2⟩⟩
theorem aM_c {u w : mS} : ∀ {es : List hE}, (∀ k, 29 ≤ k → k ≤ 35 → ∀ t, t < es.length → w.2 k t = u.2 k t) → (∀ j, j < fil es → w.2 37 j = u.2 37 j) → aM u es → aM w es
  | [], _, _, _ => trivial
  | e :: es, h, h2, h3 => by
    have hf : fil (e :: es) = fil es + (if e.1 = 3 then e.2.2.2.length else 0) := rfl
    refine ⟨eM_c (fun k k1 k2 => h k k1 k2 es.length (by rw [List.length_cons]; omega)) (fun q j hj => h2 j (by rw [hf, if_pos q]; exact hj)) h3.1, aM_c (fun k k1 k2 t ht => h k k1 k2 t (by rw [List.length_cons]; omega)) (fun j hj => h2 j (by rw [hf]; omega)) h3.2⟩
theorem aM_rows {u w : mS} {es : List hE} (h : ∀ k, 29 ≤ k → k ≤ 37 → w.2 k = u.2 k) (h2 : aM u es) : aM w es := aM_c (fun k k1 k2 t _ => by rw [h k k1 (by omega)]) (fun j _ => by rw [h 37 (by decide) (by decide)]) h2
/-- what a kept act changes -/
theorem mActs_1 (u : mS) (k a b c d e f : Int32) (j : Nat) : (mActs u k a b c d e f).1 j = if j = 28 then u.1 28 + 1 else u.1 j := rfl
theorem mActs_k (u : mS) (k a b c d e f : Int32) {j : Nat} (h : j < 29 ∨ 35 < j) : (mActs u k a b c d e f).2 j = u.2 j := by
  unfold mActs
  dsimp only
  show (mst _ 35 _ _).2 j = _
  rw [mst_other (by omega), mst_other (by omega), mst_other (by omega), mst_other (by omega), mst_other (by omega), mst_other (by omega), mst_other (by omega)]
theorem mset_2 (u : mS) (k : Nat) (x : Int32) : (mset u k x).2 = u.2 := rfl
theorem mActs_r (u : mS) (k a b c d e f : Int32) (t : Nat) : (mActs u k a b c d e f).2 29 t = (if t = (u.1 28).toNatClampNeg then k else u.2 29 t) ∧ (mActs u k a b c d e f).2 30 t = (if t = (u.1 28).toNatClampNeg then a else u.2 30 t) ∧ (mActs u k a b c d e f).2 31 t = (if t = (u.1 28).toNatClampNeg then b else u.2 31 t) ∧ (mActs u k a b c d e f).2 32 t = (if t = (u.1 28).toNatClampNeg then c else u.2 32 t) ∧ (mActs u k a b c d e f).2 33 t = (if t = (u.1 28).toNatClampNeg then d else u.2 33 t) ∧ (mActs u k a b c d e f).2 34 t = (if t = (u.1 28).toNatClampNeg then e else u.2 34 t) ∧ (mActs u k a b c d e f).2 35 t = (if t = (u.1 28).toNatClampNeg then f else u.2 35 t) := by
  unfold mActs
  dsimp only
  refine ⟨?_, ?_, ?_, ?_, ?_, ?_, ?_⟩
  · rw [mset_2, mst_other (by decide), mst_other (by decide), mst_other (by decide), mst_other (by decide), mst_other (by decide), mst_other (by decide), mst_at]
  · rw [mset_2, mst_other (by decide), mst_other (by decide), mst_other (by decide), mst_other (by decide), mst_other (by decide), mst_at, mst_other (by decide)]; rfl
  · rw [mset_2, mst_other (by decide), mst_other (by decide), mst_other (by decide), mst_other (by decide), mst_at, mst_other (by decide), mst_other (by decide)]; rfl
  · rw [mset_2, mst_other (by decide), mst_other (by decide), mst_other (by decide), mst_at, mst_other (by decide), mst_other (by decide), mst_other (by decide)]; rfl
  · rw [mset_2, mst_other (by decide), mst_other (by decide), mst_at, mst_other (by decide), mst_other (by decide), mst_other (by decide), mst_other (by decide)]; rfl
  · rw [mset_2, mst_other (by decide), mst_at, mst_other (by decide), mst_other (by decide), mst_other (by decide), mst_other (by decide), mst_other (by decide)]; rfl
  · rw [mset_2, mst_at, mst_other (by decide), mst_other (by decide), mst_other (by decide), mst_other (by decide), mst_other (by decide), mst_other (by decide)]; rfl
/-- the history: the acts that are kept, the pieces that stand -/
def mH (u : mS) (es : List hE) (c : cfg) : Prop := es.length ≤ 300 ∧ u.1 28 = nI es.length ∧ u.1 36 = nI (fil es) ∧ hOK (u.1 3).toNatClampNeg (u.2 4) es c ∧ aM u es ∧ cM u c
/-- the rows' ranges -/
def rI (u : mS) : Prop := bw (u.1 3) 0 80 = true ∧ bw (u.1 38) 0 399 = true ∧ (∀ j, j < 96 → bw (u.2 0 j) 0 60 = true) ∧ (∀ j, j < 96 → bw (u.2 43 j) 0 60 = true) ∧ (∀ j, j < 80 → bw (u.2 15 j) 0 80 = true) ∧ (∀ j, j < 80 → bw (u.2 17 j) 0 4 = true) ∧ (∀ j, j < 5760 → mThing (u.2 2 j) = true → bw (u.2 2 j) 0 79 = true) ∧ (∀ j, j < 480 → ∃ X D : Nat, u.2 24 j = nI X ∧ u.2 26 j = nI D ∧ X + D ≤ 8)
def kB (u : mS) : Prop := ∀ j, j < 80 → u.2 4 j = 3 → bw (u.2 10 j) 0 9 = true
/-- the reference's invariant -/
def mInv (u : mS) : Prop := rI u ∧ kB u ∧ ∃ es c, mH u es c
/-- it is kept, and so are the two counters and the rivals -/
def mKp (u w : mS) : Prop := mInv w ∧ w.1 38 = u.1 38 ∧ w.1 39 = u.1 39 ∧ w.2 20 = u.2 20
theorem mKp_rf {u : mS} (h : mInv u) : mKp u u := ⟨h, rfl, rfl, rfl⟩
def kR (k : Nat) : Prop := k = 0 ∨ k = 2 ∨ k = 4 ∨ k = 10 ∨ k = 15 ∨ k = 17 ∨ (22 ≤ k ∧ k ≤ 37) ∨ k = 43
def kI (k : Nat) : Prop := k = 3 ∨ k = 28 ∨ k = 36 ∨ k = 38
theorem rI_c {u w : mS} (h : rI u) (h1 : ∀ k, kI k → w.1 k = u.1 k) (h2 : ∀ k, kR k → w.2 k = u.2 k) : rI w := by
  unfold rI at h ⊢
  rw [h1 3 (Or.inl rfl), h1 38 (Or.inr (Or.inr (Or.inr rfl))), h2 0 (by unfold kR; omega), h2 43 (by unfold kR; omega), h2 15 (by unfold kR; omega), h2 17 (by unfold kR; omega), h2 2 (by unfold kR; omega), h2 24 (by unfold kR; omega), h2 26 (by unfold kR; omega)]
  exact h
theorem kB_c {u w : mS} (h : kB u) (h4 : w.2 4 = u.2 4) (h10 : w.2 10 = u.2 10) : kB w := by
  unfold kB at h ⊢
  rw [h4, h10]; exact h
theorem mH_c {u w : mS} {es : List hE} {c : cfg} (h : mH u es c) (h3 : w.1 3 = u.1 3) (h28 : w.1 28 = u.1 28) (h36 : w.1 36 = u.1 36) (h4 : w.2 4 = u.2 4) (hr : ∀ k, 22 ≤ k → k ≤ 37 → w.2 k = u.2 k) : mH w es c := by
  obtain ⟨a1, a2, a3, a4, a5, a6⟩ := h
  refine ⟨a1, h28.trans a2, h36.trans a3, by rw [h3, h4]; exact a4, aM_rows (fun k k1 k2 => hr k (by omega) k2) a5, cM_rows (fun k k1 k2 => hr k k1 (by omega)) a6⟩
theorem mInv_c {u w : mS} (h : mInv u) (h1 : ∀ k, kI k → w.1 k = u.1 k) (h2 : ∀ k, kR k → w.2 k = u.2 k) : mInv w := by
  obtain ⟨a, b, es, c, d⟩ := h
  exact ⟨rI_c a h1 h2, kB_c b (h2 4 (by unfold kR; omega)) (h2 10 (by unfold kR; omega)), es, c, mH_c d (h1 3 (by unfold kI; omega)) (h1 28 (by unfold kI; omega)) (h1 36 (by unfold kI; omega)) (h2 4 (by unfold kR; omega)) (fun k k1 k2 => h2 k (by unfold kR; omega))⟩
theorem mKp_Pl {u w : mS} (h : mInv u) (he : mPl u w) : mKp u w := by
  obtain ⟨⟨r1, r2, r3, r4, r5, r6, r7, r8⟩, b, es, c, d⟩ := h
  have e1 := he.1
  have e2 := he.2.1
  refine ⟨⟨⟨?_, ?_, ?_, he.2.2, ?_, ?_, ?_, ?_⟩, kB_c b (e2 4 (by omega)) (e2 10 (by omega)), es, c, mH_c d (e1 3 (by decide) (by decide) (by decide)) (e1 28 (by decide) (by decide) (by decide)) (e1 36 (by decide) (by decide) (by decide)) (e2 4 (by omega)) (fun k k1 k2 => e2 k (by omega))⟩, e1 38 (by decide) (by decide) (by decide), e1 39 (by decide) (by decide) (by decide), e2 20 (by omega)⟩
  · rw [e1 3 (by decide) (by decide) (by decide)]; exact r1
  · rw [e1 38 (by decide) (by decide) (by decide)]; exact r2
  · rw [e2 0 (by omega)]; exact r3
  · rw [e2 15 (by omega)]; exact r5
  · rw [e2 17 (by omega)]; exact r6
  · rw [e2 2 (by omega)]; exact r7
  · rw [e2 24 (by omega), e2 26 (by omega)]; exact r8
/-- edition -/
theorem mInv_end {u : mS} (h : mInv u) (n : Nat) : mInv (endP u n) := mInv_c h (fun k _ => by rw [(endP_k u n).1]) (fun k hk => (endP_k u n).2 k (by unfold kR at hk; omega) (by unfold kR at hk; omega))
theorem ed_inv {u w : mS} {r : Int32} (h : mInv u) (he : (r, w) = mEdition u) : mInv w ∧ w.1 38 = u.1 38 ∧ w.2 20 = u.2 20 ∧ ((u.1 39 = 7 ∧ r = -1 ∧ w.1 39 = u.1 39) ∨ (¬ u.1 39 = 7 ∧ r = u.1 39 + 1 ∧ w.1 39 = u.1 39 + 1)) := by
  unfold mEdition at he
  split at he
  · rename_i q
    obtain ⟨e1, e2⟩ := Prod.mk.inj he
    subst e2
    exact ⟨h, rfl, rfl, Or.inl ⟨q, e1, rfl⟩⟩
  · rename_i q
    have hi := mInv_end h 12
    have hk := endP_k u 12
    generalize endP u 12 = z at he hi hk
    obtain ⟨e1, e2⟩ := Prod.mk.inj he
    subst e2
    refine ⟨mInv_c hi (fun k hk2 => ?_) (fun k _ => rfl), by rw [← hk.1]; rfl, hk.2 20 (by decide) (by decide), Or.inr ⟨q, ?_, ?_⟩⟩
    · unfold mset; exact if_neg (by unfold kI at hk2; omega)
    · rw [e1, mset_same, hk.1]
    · rw [mset_same, hk.1]
/-- day -/
theorem d399 {x : Int32} (h : bw x 0 399 = true) (h9 : ¬ x = 399) : bw (x + 1) 0 399 = true := by
  have e9 : (399 : Int32).toInt = 399 := rfl
  have h1 := bw_iff.mp h
  rw [i0, e9] at h1
  have h2 : ¬ x.toInt = 399 := fun e => h9 (sw_in e.symm e9)
  rw [bw_iff, i0, e9, addI (by rw [i1]; omega) (by rw [i1]; omega), i1]; omega
theorem dayS_k (w : mS) (K : Nat) {k : Nat} (h1 : k ≠ 2) (h2 : k ≠ 22) : (dayS w K).2 k = w.2 k := by
  unfold dayS mForget
  rw [mset_2, mset_2, mput_other h2, mput_other h1, mset_2, mset_2]
theorem dayS_2 (w : mS) (K : Nat) : (dayS w K).2 2 = fillF (w.2 2) 5760 (-2) := by
  unfold dayS mForget
  rw [mset_2, mset_2, mput_other (by decide), mput_at]
theorem dayS_22 (w : mS) (K : Nat) : (dayS w K).2 22 = fillF (w.2 22) K 0 := by
  unfold dayS mForget
  rw [mset_2, mset_2]
  unfold mput
  dsimp only
  rw [if_pos rfl]
theorem dayS_1 (w : mS) (K : Nat) : (dayS w K).1 28 = 0 ∧ (dayS w K).1 36 = 0 ∧ (dayS w K).1 38 = w.1 38 + 1 ∧ (dayS w K).1 39 = 0 ∧ (dayS w K).1 3 = w.1 3 := ⟨rfl, rfl, rfl, rfl, rfl⟩
theorem mInv_day {u : mS} (h : mInv u) (h9 : ¬ u.1 38 = 399) : mInv (dayS u (u.1 3).toNatClampNeg) := by
  obtain ⟨⟨r1, r2, r3, r4, r5, r6, r7, r8⟩, b, es, c, d⟩ := h
  obtain ⟨d1, d2, d3, d4, d5⟩ := dayS_1 u (u.1 3).toNatClampNeg
  obtain ⟨e1, e2, e3⟩ := nI_of_bw r1
  have h80 : (80 : Int32).toInt = 80 := rfl
  refine ⟨⟨?_, ?_, ?_, ?_, ?_, ?_, ?_, ?_⟩, kB_c b (dayS_k _ _ (by decide) (by decide)) (dayS_k _ _ (by decide) (by decide)), [], fun _ => [], ?_⟩
  · rw [d5]; exact r1
  · rw [d3]; exact d399 r2 h9
  · rw [dayS_k _ _ (by decide) (by decide)]; exact r3
  · rw [dayS_k _ _ (by decide) (by decide)]; exact r4
  · rw [dayS_k _ _ (by decide) (by decide)]; exact r5
  · rw [dayS_k _ _ (by decide) (by decide)]; exact r6
  · intro j hj
    rw [dayS_2]
    unfold fillF
    rw [if_pos hj]
    intro q
    exact absurd q (by decide)
  · rw [dayS_k _ _ (by decide) (by decide), dayS_k _ _ (by decide) (by decide)]; exact r8
  · refine ⟨Nat.zero_le _, d1, d2, fun _ => rfl, trivial, fun a ha => ⟨?_, trivial⟩⟩
    rw [dayS_22]
    unfold fillF
    split
    · rfl
    · rename_i q
      rw [(d.2.2.2.2.2 a ha).1, ((hOK_c d.2.2.2.1) a).1 (by omega)]
theorem day_inv {u w : mS} {r : Int32} (h : mInv u) (he : (r, w) = mDay u) : mInv w ∧ w.2 20 = u.2 20 ∧ ((u.1 38 = 399 ∧ r = -1 ∧ w.1 38 = u.1 38 ∧ w.1 39 = u.1 39) ∨ (¬ u.1 38 = 399 ∧ r = u.1 38 + 1 ∧ w.1 38 = u.1 38 + 1 ∧ w.1 39 = 0)) := by
  unfold mDay at he
  split at he
  · rename_i q
    obtain ⟨e1, e2⟩ := Prod.mk.inj he
    subst e2
    exact ⟨h, rfl, Or.inl ⟨q, e1, rfl, rfl⟩⟩
  · rename_i q
    have hi := mInv_end h 12
    have hk := endP_k u 12
    generalize endP u 12 = z at he hi hk
    obtain ⟨e1, e2⟩ := Prod.mk.inj he
    subst e2
    obtain ⟨d1, d2, d3, d4, d5⟩ := dayS_1 z (u.1 3).toNatClampNeg
    have hm := mInv_day hi (by rw [hk.1]; exact q)
    rw [hk.1] at hm
    refine ⟨hm, by rw [dayS_k _ _ (by decide) (by decide)]; exact hk.2 20 (by decide) (by decide), Or.inr ⟨q, ?_, ?_, d4⟩⟩
    · rw [e1, d3, hk.1]
    · rw [d3, hk.1]
/-- column, measure -/
theorem mKp_st {u : mS} (h : mInv u) {k : Nat} (hk : ¬ kR k) (h20 : k ≠ 20) (i x : Int32) : mKp u (mst u k i x) := ⟨mInv_c h (fun _ _ => rfl) (fun j hj => mst_other (fun e => hk (e ▸ hj))), rfl, rfl, mst_other (fun e => h20 e.symm)⟩
theorem mKp_tr {u v w : mS} (h1 : mKp u v) (h2 : mKp v w) : mKp u w := ⟨h2.1, h2.2.1.trans h1.2.1, h2.2.2.1.trans h1.2.2.1, h2.2.2.2.trans h1.2.2.2⟩
theorem rI_0 {u : mS} (h : rI u) {i x : Int32} (hx : bw x 0 60 = true) : rI (mst u 0 i x) := by
  obtain ⟨r1, r2, r3, r4, r5, r6, r7, r8⟩ := h
  refine ⟨r1, r2, fun j hj => ?_, ?_, ?_, ?_, ?_, ?_⟩
  · rw [mst_at]
    split
    · exact hx
    · exact r3 j hj
  · rw [mst_other (by decide)]; exact r4
  · rw [mst_other (by decide)]; exact r5
  · rw [mst_other (by decide)]; exact r6
  · rw [mst_other (by decide)]; exact r7
  · rw [mst_other (by decide), mst_other (by decide)]; exact r8
theorem mKp_0 {u : mS} (h : mInv u) {i x : Int32} (hx : bw x 0 60 = true) : mKp u (mst u 0 i x) := by
  obtain ⟨a, b, es, c, d⟩ := h
  exact ⟨⟨rI_0 a hx, kB_c b (mst_other (by decide)) (mst_other (by decide)), es, c, mH_c d rfl rfl rfl (mst_other (by decide)) (fun k k1 k2 => mst_other (by omega))⟩, rfl, rfl, mst_other (by decide)⟩
theorem col_inv {u w : mS} {r p c n : Int32} (h : mInv u) (he : (r, w) = mColumn u p c n) : mKp u w := by
  unfold mColumn at he
  repeat' split at he
  all_goals first
    | (obtain ⟨-, e2⟩ := Prod.mk.inj he; subst e2; exact mKp_rf h)
    | (obtain ⟨-, e2⟩ := Prod.mk.inj he; subst e2; exact mKp_0 h (by assumption))
theorem rI_15 {u : mS} (h : rI u) {i x : Int32} (hx : bw x 0 80 = true) : rI (mst u 15 i x) := by
  obtain ⟨r1, r2, r3, r4, r5, r6, r7, r8⟩ := h
  refine ⟨r1, r2, ?_, ?_, fun j hj => ?_, ?_, ?_, ?_⟩
  · rw [mst_other (by decide)]; exact r3
  · rw [mst_other (by decide)]; exact r4
  · rw [mst_at]
    split
    · exact hx
    · exact r5 j hj
  · rw [mst_other (by decide)]; exact r6
  · rw [mst_other (by decide)]; exact r7
  · rw [mst_other (by decide), mst_other (by decide)]; exact r8
theorem rI_17 {u : mS} (h : rI u) {i x : Int32} (hx : bw x 0 4 = true) : rI (mst u 17 i x) := by
  obtain ⟨r1, r2, r3, r4, r5, r6, r7, r8⟩ := h
  refine ⟨r1, r2, ?_, ?_, ?_, fun j hj => ?_, ?_, ?_⟩
  · rw [mst_other (by decide)]; exact r3
  · rw [mst_other (by decide)]; exact r4
  · rw [mst_other (by decide)]; exact r5
  · rw [mst_at]
    split
    · exact hx
    · exact r6 j hj
  · rw [mst_other (by decide)]; exact r7
  · rw [mst_other (by decide), mst_other (by decide)]; exact r8
theorem mKp_rk {u : mS} (h : mInv u) {k : Nat} (hk : k = 15 ∨ k = 17) {i x : Int32} (hx : rI (mst u k i x)) : mKp u (mst u k i x) := by
  obtain ⟨a, b, es, c, d⟩ := h
  exact ⟨⟨hx, kB_c b (mst_other (by omega)) (mst_other (by omega)), es, c, mH_c d rfl rfl rfl (mst_other (by omega)) (fun k k1 k2 => mst_other (by omega))⟩, rfl, rfl, mst_other (by omega)⟩
theorem bwp {x hi : Int32} (h : bw x 0 hi = true) (h2 : ¬ x = hi) (hh : hi.toInt < 1000) : bw (x + 1) 0 hi = true := by
  have h1 := bw_iff.mp h
  rw [i0] at h1
  have h3 : ¬ x.toInt = hi.toInt := fun e => h2 (Int32.toInt_inj.mp e)
  rw [bw_iff, i0, addI (by rw [i1]; omega) (by rw [i1]; omega), i1]; omega
theorem line_inv {u w : mS} {r i x : Int32} (h : mInv u) (he : (r, w) = mLine u i x) : mKp u w := by
  unfold mLine at he
  split at he
  · rename_i hk
    split at he
    · split at he
      · obtain ⟨-, e2⟩ := Prod.mk.inj he; subst e2; exact mKp_rf h
      · rename_i h80
        obtain ⟨-, e2⟩ := Prod.mk.inj he; subst e2
        have h1 := mKp_st h (k := 16) (by unfold kR; omega) (by decide) (80 * i + u.2 15 i.toNatClampNeg) x
        have hi := vlt (vIt h.1.1 (band hk).1)
        have hc : bw ((mst u 16 (80 * i + u.2 15 i.toNatClampNeg) x).2 15 i.toNatClampNeg + 1) 0 80 = true := by
          rw [mst_other (by decide)]
          exact bwp (h.1.2.2.2.2.1 _ hi) h80 (by decide)
        exact mKp_tr h1 (mKp_rk h1.1 (Or.inl rfl) (rI_15 h1.1.1 hc))
    · obtain ⟨-, e2⟩ := Prod.mk.inj he; subst e2; exact mKp_rf h
  · obtain ⟨-, e2⟩ := Prod.mk.inj he; subst e2; exact mKp_rf h
theorem size_inv {u w : mS} {r i x y : Int32} (h : mInv u) (he : (r, w) = mSize u i x y) : mKp u w := by
  unfold mSize at he
  split at he
  · rename_i hk
    split at he
    · split at he
      · split at he
        · obtain ⟨-, e2⟩ := Prod.mk.inj he; subst e2; exact mKp_rf h
        · rename_i h4
          dsimp only at he
          obtain ⟨-, e2⟩ := Prod.mk.inj he; subst e2
          have h1 := mKp_st h (k := 18) (by unfold kR; omega) (by decide) (4 * i + u.2 17 i.toNatClampNeg) x
          have h2 := mKp_st h1.1 (k := 19) (by unfold kR; omega) (by decide) (4 * i + (mst u 18 (4 * i + u.2 17 i.toNatClampNeg) x).2 17 i.toNatClampNeg) y
          have hi := vlt (vIt h.1.1 (band hk).1)
          refine mKp_tr h1 (mKp_tr h2 (mKp_rk h2.1 (Or.inr rfl) (rI_17 h2.1.1 ?_)))
          rw [mst_other (by decide), mst_other (by decide)]
          exact bwp (h.1.2.2.2.2.2.1 _ hi) h4 (by decide)
      · obtain ⟨-, e2⟩ := Prod.mk.inj he; subst e2; exact mKp_rf h
    · obtain ⟨-, e2⟩ := Prod.mk.inj he; subst e2; exact mKp_rf h
  · obtain ⟨-, e2⟩ := Prod.mk.inj he; subst e2; exact mKp_rf h
theorem names_inv {u w : mS} {r i x : Int32} (h : mInv u) (he : (r, w) = mNames u i x) : mKp u w := by
  unfold mNames at he
  repeat' split at he
  all_goals first
    | (obtain ⟨-, e2⟩ := Prod.mk.inj he; subst e2; exact mKp_rf h)
    | (obtain ⟨-, e2⟩ := Prod.mk.inj he; subst e2; exact mKp_st h (by unfold kR; omega) (by decide) _ _)
theorem riv_inv {u w : mS} {r a b : Int32} (h : mInv u) (he : (r, w) = mRival u a b) : mInv w ∧ w.1 38 = u.1 38 ∧ w.1 39 = u.1 39 := by
  unfold mRival at he
  repeat' split at he
  all_goals first
    | (obtain ⟨-, e2⟩ := Prod.mk.inj he; subst e2; exact ⟨h, rfl, rfl⟩)
    | (obtain ⟨-, e2⟩ := Prod.mk.inj he; subst e2; exact ⟨mInv_c h (fun _ _ => rfl) (fun j hj => by rw [mst_other (by unfold kR at hj; omega), mst_other (by unfold kR at hj; omega)]), rfl, rfl⟩)
/-- a new item -/
theorem made_1 (u : mS) (k : Int32) (j : Nat) : (mMade u k).1 j = if j = 3 then u.1 3 + 1 else u.1 j := rfl
theorem made_k (u : mS) (k : Int32) {j : Nat} (h : j ≠ 4 ∧ j ≠ 5 ∧ j ≠ 6 ∧ j ≠ 7 ∧ j ≠ 8 ∧ j ≠ 9 ∧ j ≠ 10 ∧ j ≠ 15 ∧ j ≠ 17 ∧ j ≠ 22) : (mMade u k).2 j = u.2 j := by
  unfold mMade
  dsimp only
  rw [mset_2, mst_other (by omega), mst_other (by omega), mst_other (by omega), mst_other (by omega), mst_other (by omega), mst_other (by omega), mst_other (by omega), mst_other (by omega), mst_other (by omega), mst_other (by omega)]
theorem made_4 (u : mS) (k : Int32) (j : Nat) : (mMade u k).2 4 j = if j = (u.1 3).toNatClampNeg then k else u.2 4 j := by
  unfold mMade
  dsimp only
  rw [mset_2, mst_other (by decide), mst_other (by decide), mst_other (by decide), mst_other (by decide), mst_other (by decide), mst_other (by decide), mst_other (by decide), mst_other (by decide), mst_other (by decide), mst_at]
theorem made_10 (u : mS) (k : Int32) (j : Nat) : (mMade u k).2 10 j = if j = (u.1 3).toNatClampNeg then (-1) else u.2 10 j := by
  unfold mMade
  dsimp only
  rw [mset_2, mst_other (by decide), mst_other (by decide), mst_other (by decide), mst_at, mst_other (by decide), mst_other (by decide), mst_other (by decide), mst_other (by decide), mst_other (by decide), mst_other (by decide)]
theorem made_15 (u : mS) (k : Int32) (j : Nat) : (mMade u k).2 15 j = if j = (u.1 3).toNatClampNeg then 0 else u.2 15 j := by
  unfold mMade
  dsimp only
  rw [mset_2, mst_other (by decide), mst_other (by decide), mst_at, mst_other (by decide), mst_other (by decide), mst_other (by decide), mst_other (by decide), mst_other (by decide), mst_other (by decide), mst_other (by decide)]
theorem made_17 (u : mS) (k : Int32) (j : Nat) : (mMade u k).2 17 j = if j = (u.1 3).toNatClampNeg then 0 else u.2 17 j := by
  unfold mMade
  dsimp only
  rw [mset_2, mst_other (by decide), mst_at, mst_other (by decide), mst_other (by decide), mst_other (by decide), mst_other (by decide), mst_other (by decide), mst_other (by decide), mst_other (by decide), mst_other (by decide)]
theorem made_22 (u : mS) (k : Int32) (j : Nat) : (mMade u k).2 22 j = if j = (u.1 3).toNatClampNeg then 0 else u.2 22 j := by
  unfold mMade
  dsimp only
  rw [mset_2, mst_at, mst_other (by decide), mst_other (by decide), mst_other (by decide), mst_other (by decide), mst_other (by decide), mst_other (by decide), mst_other (by decide), mst_other (by decide), mst_other (by decide)]
theorem made_rI {u : mS} (h : rI u) (h8 : ¬ u.1 3 = 80) (k : Int32) : rI (mMade u k) := by
  obtain ⟨r1, r2, r3, r4, r5, r6, r7, r8⟩ := h
  refine ⟨bwp r1 h8 (by decide), r2, ?_, ?_, fun j hj => ?_, fun j hj => ?_, ?_, ?_⟩
  · rw [made_k _ _ (by decide)]; exact r3
  · rw [made_k _ _ (by decide)]; exact r4
  · rw [made_15]
    split
    · decide
    · exact r5 j hj
  · rw [made_17]
    split
    · decide
    · exact r6 j hj
  · rw [made_k _ _ (by decide)]; exact r7
  · rw [made_k _ _ (by decide), made_k _ _ (by decide)]; exact r8
theorem made_H {u : mS} (h1 : rI u) (h8 : ¬ u.1 3 = 80) {es : List hE} {c : cfg} (h : mH u es c) (k : Int32) : mH (mMade u k) es c := by
  obtain ⟨a1, a2, a3, a4, a5, a6⟩ := h
  obtain ⟨e1, e2, e3⟩ := nI_of_bw h1.1
  have h80 : (80 : Int32).toInt = 80 := rfl
  have hn : ((mMade u k).1 3).toNatClampNeg = (u.1 3).toNatClampNeg + 1 := by
    show (u.1 3 + 1).toNatClampNeg = _
    rw [e1, nI_1, nI_clamp (by omega), nI_clamp (by omega)]
  refine ⟨a1, a2, a3, ?_, aM_rows (fun k k1 k2 => made_k _ _ (by omega)) a5, fun a ha => ⟨?_, ?_⟩⟩
  · rw [hn]
    exact hOK_mono (Nat.le_succ _) (fun a ha => by rw [made_4, if_neg (by omega)]) a4
  · rw [made_22]
    split
    · rename_i q
      rw [((hOK_c a4) a).1 (by omega)]; rfl
    · exact (a6 a ha).1
  · exact slM_c (fun k _ _ => ⟨by rw [made_k _ _ (by decide)], by rw [made_k _ _ (by decide)], by rw [made_k _ _ (by decide)], by rw [made_k _ _ (by decide)], by rw [made_k _ _ (by decide)]⟩) (a6 a ha).2
theorem made_kp {u : mS} (h : mInv u) (h8 : ¬ u.1 3 = 80) {k : Int32} (hk : ¬ k = 3) : mKp u (mMade u k) := by
  obtain ⟨a, b, es, c, d⟩ := h
  refine ⟨⟨made_rI a h8 k, fun j hj q => ?_, es, c, made_H a h8 d k⟩, rfl, rfl, made_k _ _ (by decide)⟩
  rw [made_4] at q
  rw [made_10]
  split at q
  · exact absurd q hk
  · rename_i e
    rw [if_neg e]; exact b j hj q
theorem story_inv {u w : mS} {r n : Int32} (h : mInv u) (he : (r, w) = mStory u n) : mKp u w := by
  unfold mStory at he
  split at he
  · obtain ⟨-, e2⟩ := Prod.mk.inj he; subst e2; exact mKp_rf h
  · rename_i h8
    split at he
    · obtain ⟨-, e2⟩ := Prod.mk.inj he; subst e2
      have h1 := made_kp h h8 (k := 0) (by decide)
      exact mKp_tr h1 (mKp_st h1.1 (by unfold kR; omega) (by decide) _ _)
    · obtain ⟨-, e2⟩ := Prod.mk.inj he; subst e2; exact mKp_rf h
theorem pic_inv {u w : mS} {r : Int32} (h : mInv u) (he : (r, w) = mPicture u) : mKp u w := by
  unfold mPicture at he
  split at he
  · obtain ⟨-, e2⟩ := Prod.mk.inj he; subst e2; exact mKp_rf h
  · rename_i h8
    obtain ⟨-, e2⟩ := Prod.mk.inj he; subst e2
    exact made_kp h h8 (k := 2) (by decide)
theorem head_inv {u w : mS} {r s x y : Int32} (h : mInv u) (he : (r, w) = mHead u s x y) : mKp u w := by
  unfold mHead at he
  split at he
  · obtain ⟨-, e2⟩ := Prod.mk.inj he; subst e2; exact mKp_rf h
  · rename_i h8
    have h1 := made_kp h h8 (k := 1) (by decide)
    repeat' split at he
    all_goals first
      | (obtain ⟨-, e2⟩ := Prod.mk.inj he; subst e2; exact mKp_rf h)
      | (obtain ⟨-, e2⟩ := Prod.mk.inj he; subst e2
         have h2 := mKp_st h1.1 (k := 9) (by unfold kR; omega) (by decide) (u.1 3) s
         have h3 := mKp_st h2.1 (k := 7) (by unfold kR; omega) (by decide) (u.1 3) x
         exact mKp_tr h1 (mKp_tr h2 (mKp_tr h3 (mKp_st h3.1 (by unfold kR; omega) (by decide) _ _))))
theorem fill_inv0 {u w : mS} {r x y : Int32} (h : mInv u) (he : (r, w) = mFiller u x y) : mKp u w := by
  unfold mFiller at he
  split at he
  · obtain ⟨-, e2⟩ := Prod.mk.inj he; subst e2; exact mKp_rf h
  · rename_i h8
    have h1 := made_kp h h8 (k := 4) (by decide)
    repeat' split at he
    all_goals first
      | (obtain ⟨-, e2⟩ := Prod.mk.inj he; subst e2; exact mKp_rf h)
      | (obtain ⟨-, e2⟩ := Prod.mk.inj he; subst e2
         have h2 := mKp_st h1.1 (k := 5) (by unfold kR; omega) (by decide) (u.1 3) x
         exact mKp_tr h1 (mKp_tr h2 (mKp_st h2.1 (by unfold kR; omega) (by decide) _ _)))
theorem not_inv {u w : mS} {i x : Int32} (h : mInv u) (he : w = u ∨ (¬ u.1 3 = 80 ∧ bw i 0 (u.1 3 - 1) = true ∧ w = mNotice u i x)) : mKp u w := by
  rcases he with e | ⟨h8, -, e⟩
  · rw [e]; exact mKp_rf h
  · rw [e]
    have h1 := made_kp h h8 (k := 5) (by decide)
    have h2 := mKp_st h1.1 (k := 9) (by unfold kR; omega) (by decide) (u.1 3) i
    exact mKp_tr h1 (mKp_tr h2 (mKp_st h2.1 (by unfold kR; omega) (by decide) _ _))
/-- a square that was sold -/
theorem paid_kp {u : mS} (h : mInv u) (h8 : ¬ u.1 3 = 80) {x : Int32} (hx : bw x 0 9 = true) : mKp u (mst (mMade u 3) 10 (u.1 3) x) := by
  obtain ⟨a, b, es, c, d⟩ := h
  have hr := made_rI a h8 3
  refine ⟨⟨?_, fun j hj q => ?_, es, c, mH_c (made_H a h8 d 3) rfl rfl rfl (mst_other (by decide)) (fun k k1 k2 => mst_other (by omega))⟩, rfl, rfl, ?_⟩
  · obtain ⟨r1, r2, r3, r4, r5, r6, r7, r8⟩ := hr
    refine ⟨r1, r2, ?_, ?_, ?_, ?_, ?_, ?_⟩
    · rw [mst_other (by decide)]; exact r3
    · rw [mst_other (by decide)]; exact r4
    · rw [mst_other (by decide)]; exact r5
    · rw [mst_other (by decide)]; exact r6
    · rw [mst_other (by decide)]; exact r7
    · rw [mst_other (by decide), mst_other (by decide)]; exact r8
  · rw [mst_other (by decide), made_4] at q
    rw [mst_at]
    split
    · exact hx
    · rename_i e
      rw [if_neg e] at q
      rw [made_10, if_neg e]; exact b j hj q
  · rw [mst_other (by decide)]; exact made_k _ _ (by decide)
theorem paid_inv {u w : mS} {r b p c l x y m : Int32} (h : mInv u) (he : (r, w) = mPaid u b p c l x y m) : mKp u w := by
  unfold mPaid at he
  split at he
  · obtain ⟨-, e2⟩ := Prod.mk.inj he; subst e2; exact mKp_rf h
  · rename_i h8
    split at he
    · rename_i q
      obtain ⟨-, e2⟩ := Prod.mk.inj he; subst e2
      have hb : bw b 0 9 = true := (band (band (band (band (band q).1).1).1).1).1
      have h1 := paid_kp h h8 hb
      have h2 := mKp_st h1.1 (k := 11) (by unfold kR; omega) (by decide) (u.1 3) p
      have h3 := mKp_st h2.1 (k := 12) (by unfold kR; omega) (by decide) (u.1 3) c
      have h4 := mKp_st h3.1 (k := 13) (by unfold kR; omega) (by decide) (u.1 3) l
      have h5 := mKp_st h4.1 (k := 7) (by unfold kR; omega) (by decide) (u.1 3) x
      have h6 := mKp_st h5.1 (k := 8) (by unfold kR; omega) (by decide) (u.1 3) y
      exact mKp_tr h1 (mKp_tr h2 (mKp_tr h3 (mKp_tr h4 (mKp_tr h5 (mKp_tr h6 (mKp_st h6.1 (by unfold kR; omega) (by decide) _ _))))))
    · obtain ⟨-, e2⟩ := Prod.mk.inj he; subst e2; exact mKp_rf h
