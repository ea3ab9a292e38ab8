/-- an empty cell of the page -/
def frB (u : mS) (p x y : Int32) : Bool := mCell u p x y && decide (u.2 2 (480 * p + 60 * x + y).toNatClampNeg = (-2))
def mFreeP (u : mS) (p c l w h : Int32) : Prop := mCell u p c l = true ∧ bw w 1 8 = true ∧ bw h 1 60 = true ∧ ∀ a, a < w.toNatClampNeg → ∀ b, b < h.toNatClampNeg → frB u p (c + nI a) (l + nI b) = true
theorem exN {x lo hi : Int32} (h : bw x lo hi = true) (hl : 0 ≤ lo.toInt) : ∃ X : Nat, (X : Int) ≤ hi.toInt ∧ lo.toInt ≤ (X : Int) ∧ x = nI X := by
  have h1 := bw_iff.mp h
  obtain ⟨j, hj, e⟩ := nI_of (x := x) (fun q => by rw [i32_lt, i0] at q; omega)
  subst e
  rw [nI_toInt hj] at h1
  exact ⟨j, h1.2, h1.1, rfl⟩
theorem mCell_c {u : mS} {p c l : Int32} (h : mCell u p c l = true) : bw p 0 11 = true ∧ bw c 0 7 = true ∧ bw l 0 (u.2 0 (8 * p + c).toNatClampNeg - 1) = true := by
  unfold mCell at h
  obtain ⟨h1, h3⟩ := band h
  obtain ⟨h1, h2⟩ := band h1
  exact ⟨h1, h2, h3⟩
theorem exL {u : mS} {p c l : Int32} (hln : ∀ j, j < 96 → bw (u.2 0 j) 0 60 = true) (h : mCell u p c l = true) : ∃ Y : Nat, Y < 60 ∧ l = nI Y := by
  obtain ⟨h1, h2, h3⟩ := mCell_c h
  have h60 : (60 : Int32).toInt = 60 := rfl
  have hl := bw_iff.mp (hln _ (vlt (vin8 h1 h2)))
  rw [i0, h60] at hl
  obtain ⟨Y, e1, -, e2⟩ := exN h3 (by rw [i0]; decide)
  rw [subI (by rw [i1]; omega) (by rw [i1]; omega), i1] at e1
  exact ⟨Y, by omega, e2⟩
set_option maxHeartbeats 4000000 in
set_option maxRecDepth 100000 in
theorem m_free_in {p : Program} {l : Launch} {e : Env} {R : Room} {s : State} {m : MethodId} {args : Array Value} {below : List Frame} {meth : Method} {c : Code} {Q : State → Prop} {cells slots : Nat} {dC : Nat → ClassId} {dI : Nat → Nat → Nat} {h0 : Nat} {v : Nat → Nat} {cI cZ : ClassId} {H : Heap} {locs : List Loc} {u : mS} (hx : p.tables.exec = Jvm.exec) (hb : c.code = cX12_isFree) (hml : c.maxLocals = 8) (hts : ∀ w ∈ wsX12_isFree, w.before args s = true) (hown : s.vm.findClass RX12 = some m.cls) (hN : NN s) (hK : va_K (dC, dI) vwCl [(cI, .int), (cZ, .boolean)] s) (hRf : 3 ≤ R.frames) (hRl : 66 ≤ R.locals) (hRc : cells ≤ R.cells) (hRs : slots ≤ R.slots) (hP : va_P (dC, dI) vwCl (mW h0 v cI cZ u) H) {p0 : Int32} {X Y D N : Nat} (hln : ∀ j, j < 96 → bw (u.2 0 j) 0 60 = true) (hX : X < 8) (hY : Y < 60) (hD : D ≤ 8) (hN6 : N ≤ 60) {x : Nat} (kx88 : ∀ (i : Nat) (ls : Array Slot), i < N → frB u p0 (nI x) (nI (Y + i)) = false → (∀ j, j < i → frB u p0 (nI x) (nI (Y + j)) = true) → lv_has ls 8 [(7, .int (nI (Y + i))), (6, .int (nI x)), (0, .ref h0), (1, .int p0), (2, .int (nI X)), (3, .int (nI Y)), (4, .int (nI D)), (5, .int (nI N))] → W p l e R s m args below meth c H locs cells slots Q (F0 m 88 ls [])) (kx : ∀ (ls : Array Slot), (∀ j, j < N → frB u p0 (nI x) (nI (Y + j)) = true) → lv_has ls 8 [(7, .int (nI (Y + N))), (6, .int (nI x)), (0, .ref h0), (1, .int p0), (2, .int (nI X)), (3, .int (nI Y)), (4, .int (nI D)), (5, .int (nI N))] → W p l e R s m args below meth c H locs cells slots Q (F0 m 96 ls [])) : ∀ (k i : Nat) (ls : Array Slot), i ≤ N → N - i < k → (∀ j, j < i → frB u p0 (nI x) (nI (Y + j)) = true) → lv_has ls 8 [(7, .int (nI (Y + i))), (6, .int (nI x)), (0, .ref h0), (1, .int p0), (2, .int (nI X)), (3, .int (nI Y)), (4, .int (nI D)), (5, .int (nI N))] → W p l e R s m args below meth c H locs cells slots Q (F0 m 49 ls []) := by
  intro k
  induction k with
  | zero => intro i ls h1 h2; exact absurd h2 (Nat.not_lt_zero _)
  | succ k ih =>
    intro i ls hi hk hg hl
    refine lv_iload hx hb dX12_isFree_49 (lv_at hl 0 rfl) ?_
    refine lv_iload_n hx hb dX12_isFree_51 rfl (lv_at hl 5 rfl) ?_
    refine lv_iload hx hb dX12_isFree_52 (lv_at hl 7 rfl) ?_
    refine lv_iadd hx hb dX12_isFree_54 ?_
    refine lv_icmp_ge (tgt := 96) hx hb dX12_isFree_55 (by decide) (fun c_1 => ?_) (fun c_1 => ?_)
    ·
      have hie : i = N := by have := lp_eq (nI_add Y N) (by omega) (by omega) c_1; omega
      rw [hie] at hg hl
      exact kx ls hg (lv_sub hl [0, 1, 2, 3, 4, 5, 6, 7] rfl)
    ·
      have hlt : i < N := by have := lp_lt (nI_add Y N) (by omega) (by omega) c_1; omega
      refine lv_aload_n hx hb dX12_isFree_58 rfl (lv_at hl 2 rfl) ?_
      refine lv_iload_n hx hb dX12_isFree_59 rfl (lv_at hl 3 rfl) ?_
      refine lv_iload hx hb dX12_isFree_60 (lv_at hl 1 rfl) ?_
      refine lv_iload hx hb dX12_isFree_62 (lv_at hl 0 rfl) ?_
      refine vp_callSi (va_runV (As := [.int p0, .int (nI x), .int (nI (Y + i))]) (rest := []) ⟨hx, hb, hml, hown, hts⟩ (m_isCell l dC dI h0 v cI cZ u p0 (nI x) (nI (Y + i))) (cwV 3 hts gX12_isFree_X12_isCell rfl rfl rfl (by decide +kernel) ⟨Nat.le_trans (Nat.le_of_ble_eq_true rfl) hRf, Nat.le_trans (Nat.le_of_ble_eq_true rfl) hRl⟩) ⟨pw_fb, va_recv hK hP (ci := 11) (q0 := 0) rfl rfl, fun U hU hW => ⟨rfl, pw_to hU hW hP hK hN⟩⟩ rfl rfl hl.1 rfl (lv_room (Nat.le_of_ble_eq_true rfl)) dX12_isFree_64 ⟨hRc, hRs⟩).run (fun r hw => ?_)
      rcases Bool.eq_false_or_eq_true (mCell u p0 (nI x) (nI (Y + i))) with b_2 | b_2
      ·
        obtain rfl : r = 1 := b_t hw b_2
        refine lv_if_eq (tgt := 88) hx hb dX12_isFree_67 (by decide) (fun c_3 => absurd c_3 (by decide)) (fun c_3 => ?_)
        refine lv_aload_n hx hb dX12_isFree_70 rfl (lv_at hl 2 rfl) ?_
        refine va_get (D := (dC, dI)) (ci := 11) (v := .ref (v 2)) (C := RX12) (T := TX12) (N := 52) hx hb hts (by decide +kernel) hown hK hP 0 rfl rfl 2 (by decide) (hts (.fieldLink RX12 16 "PageOneModel" "cell" "[I") (by decide +kernel)) (fun _ h9 => h9) rfl dX12_isFree_71 ?_
        refine lv_iload_n hx hb dX12_isFree_74 rfl (lv_at hl 3 rfl) ?_
        refine lv_iload hx hb dX12_isFree_75 (lv_at hl 1 rfl) ?_
        refine lv_iload hx hb dX12_isFree_77 (lv_at hl 0 rfl) ?_
        refine vp_callSi (va_runS (As := [.int p0, .int (nI x), .int (nI (Y + i))]) (rest := [.ref (v 2)]) ⟨hx, hb, hml, hown, hts⟩ (m_at l dC dI p0 (nI x) (nI (Y + i))) (va_cwS 3 hts gX12_isFree_X12_at rfl rfl rfl (by decide +kernel) ⟨Nat.le_trans (Nat.le_of_ble_eq_true rfl) hRf, Nat.le_trans (Nat.le_of_ble_eq_true rfl) hRl⟩) ⟨pw_fb, fun U hU hW => ⟨rfl, pw_to hU hW (hP.sub (ws' := []) [] rfl) (hK.sub (tys' := []) [] rfl) hN⟩⟩ rfl rfl hl.1 rfl (lv_room (Nat.le_of_ble_eq_true rfl)) dX12_isFree_79 ⟨hRc, hRs⟩).run (fun r hw => ?_)
        obtain rfl : r = (480 * p0 + 60 * (nI x) + (nI (Y + i))) := hw
        refine va_iald hx hb hK hP 3 0 rfl rfl (vCell hln b_2) dX12_isFree_82 ?_
        refine lv_bipush (v := (-2)) hx hb dX12_isFree_83 (by decide) ?_
        refine lv_icmp_eq (tgt := 90) hx hb dX12_isFree_85 (by decide) (fun c_4 => ?_) (fun c_4 => ?_)
        ·
          refine lv_iinc (v := (nI (Y + i + 1))) (lv' := [(7, .int (nI (Y + i + 1))), (6, .int (nI x)), (0, .ref h0), (1, .int p0), (2, .int (nI X)), (3, .int (nI Y)), (4, .int (nI D)), (5, .int (nI N))]) hx hb dX12_isFree_90 hl (k := 0) rfl (nI_1 _) (by decide) rfl (fun ls hl => ?_)
          refine lv_goto (tgt := 49) hx hb dX12_isFree_93 (by decide) ?_
          exact ih (i + 1) ls (by omega) (by omega) (lt_s hg (by unfold frB; rw [b_2]; simp [c_4])) (lv_sub hl [0, 1, 2, 3, 4, 5, 6, 7] rfl)
        ·
          exact kx88 i ls hlt (by unfold frB; rw [b_2]; simp [c_4]) hg (lv_sub hl [0, 1, 2, 3, 4, 5, 6, 7] rfl)
      ·
        obtain rfl : r = 0 := b_f hw b_2
        refine lv_if_eq (tgt := 88) hx hb dX12_isFree_67 (by decide) (fun c_5 => ?_) (fun c_5 => absurd (by decide) c_5)
        exact kx88 i ls hlt (by unfold frB; rw [b_2]; rfl) hg (lv_sub hl [0, 1, 2, 3, 4, 5, 6, 7] rfl)
set_option maxHeartbeats 4000000 in
set_option maxRecDepth 100000 in
theorem m_free_out {p : Program} {l : Launch} {e : Env} {R : Room} {s : State} {m : MethodId} {args : Array Value} {below : List Frame} {meth : Method} {c : Code} {Q : State → Prop} {cells slots : Nat} {dC : Nat → ClassId} {dI : Nat → Nat → Nat} {h0 : Nat} {v : Nat → Nat} {cI cZ : ClassId} {H : Heap} {locs : List Loc} {u : mS} (hx : p.tables.exec = Jvm.exec) (hb : c.code = cX12_isFree) (hml : c.maxLocals = 8) (hts : ∀ w ∈ wsX12_isFree, w.before args s = true) (hown : s.vm.findClass RX12 = some m.cls) (hN : NN s) (hK : va_K (dC, dI) vwCl [(cI, .int), (cZ, .boolean)] s) (hRf : 3 ≤ R.frames) (hRl : 66 ≤ R.locals) (hRc : cells ≤ R.cells) (hRs : slots ≤ R.slots) (hP : va_P (dC, dI) vwCl (mW h0 v cI cZ u) H) {p0 : Int32} {X Y D N : Nat} (hln : ∀ j, j < 96 → bw (u.2 0 j) 0 60 = true) (hX : X < 8) (hY : Y < 60) (hD : D ≤ 8) (hN6 : N ≤ 60) (kx88 : ∀ (i : Nat) (ls : Array Slot), i < D → (∃ b, b < N ∧ frB u p0 (nI (X + i)) (nI (Y + b)) = false) → (∀ a, a < i → ∀ b, b < N → frB u p0 (nI (X + a)) (nI (Y + b)) = true) → lv_has ls 8 [(6, .int (nI (X + i))), (0, .ref h0), (1, .int p0), (2, .int (nI X)), (3, .int (nI Y)), (4, .int (nI D)), (5, .int (nI N))] → W p l e R s m args below meth c H locs cells slots Q (F0 m 88 ls [])) (kx : ∀ (ls : Array Slot), (∀ a, a < D → ∀ b, b < N → frB u p0 (nI (X + a)) (nI (Y + b)) = true) → lv_has ls 8 [(6, .int (nI (X + D))), (0, .ref h0), (1, .int p0), (2, .int (nI X)), (3, .int (nI Y)), (4, .int (nI D)), (5, .int (nI N))] → W p l e R s m args below meth c H locs cells slots Q (F0 m 102 ls [])) : ∀ (k i : Nat) (ls : Array Slot), i ≤ D → D - i < k → (∀ a, a < i → ∀ b, b < N → frB u p0 (nI (X + a)) (nI (Y + b)) = true) → lv_has ls 8 [(6, .int (nI (X + i))), (0, .ref h0), (1, .int p0), (2, .int (nI X)), (3, .int (nI Y)), (4, .int (nI D)), (5, .int (nI N))] → W p l e R s m args below meth c H locs cells slots Q (F0 m 37 ls []) := by
  intro k
  induction k with
  | zero => intro i ls h1 h2; exact absurd h2 (Nat.not_lt_zero _)
  | succ k ih =>
    intro i ls hi hk hg hl
    refine lv_iload hx hb dX12_isFree_37 (lv_at hl 0 rfl) ?_
    refine lv_iload_n hx hb dX12_isFree_39 rfl (lv_at hl 3 rfl) ?_
    refine lv_iload hx hb dX12_isFree_40 (lv_at hl 5 rfl) ?_
    refine lv_iadd hx hb dX12_isFree_42 ?_
    refine lv_icmp_ge (tgt := 102) hx hb dX12_isFree_43 (by decide) (fun c_1 => ?_) (fun c_1 => ?_)
    ·
      have hie : i = D := by have := lp_eq (nI_add X D) (by omega) (by omega) c_1; omega
      rw [hie] at hg hl
      exact kx ls hg (lv_sub hl [0, 1, 2, 3, 4, 5, 6] rfl)
    ·
      have hlt : i < D := by have := lp_lt (nI_add X D) (by omega) (by omega) c_1; omega
      refine lv_iload_n hx hb dX12_isFree_46 rfl (lv_at hl 4 rfl) ?_
      refine lv_istore (lv' := [(7, .int (nI Y)), (6, .int (nI (X + i))), (0, .ref h0), (1, .int p0), (2, .int (nI X)), (3, .int (nI Y)), (4, .int (nI D)), (5, .int (nI N))]) hx hb dX12_isFree_47 hl (by decide) rfl (fun ls hl => ?_)
      refine m_free_in (x := X + i) hx hb hml hts hown hN hK hRf hRl hRc hRs hP hln hX hY hD hN6 (fun j ls hj hne hg2 hl => kx88 i ls hlt ⟨j, hj, hne⟩ hg (lv_sub hl [1, 2, 3, 4, 5, 6, 7] rfl)) (fun ls hg2 hl => ?_) (N + 1) 0 ls (Nat.zero_le _) (by omega) (fun j hj => absurd hj (Nat.not_lt_zero _)) (lv_sub hl [0, 1, 2, 3, 4, 5, 6, 7] rfl)
      refine lv_iinc (v := (nI (X + i + 1))) (lv' := [(6, .int (nI (X + i + 1))), (7, .int (nI (Y + N))), (0, .ref h0), (1, .int p0), (2, .int (nI X)), (3, .int (nI Y)), (4, .int (nI D)), (5, .int (nI N))]) hx hb dX12_isFree_96 hl (k := 1) rfl (nI_1 _) (by decide) rfl (fun ls hl => ?_)
      refine lv_goto (tgt := 37) hx hb dX12_isFree_99 (by decide) ?_
      exact ih (i + 1) ls (by omega) (by omega) (lt_s hg hg2) (lv_sub hl [0, 2, 3, 4, 5, 6, 7] rfl)
set_option maxHeartbeats 4000000 in
set_option maxRecDepth 100000 in
theorem m_isFree (l : Launch) (dC : Nat → ClassId) (dI : Nat → Nat → Nat) (h0 : Nat) (v : Nat → Nat) (cI cZ : ClassId) (u : mS) (p0 p1 p2 p3 p4 : Int32) (hln : ∀ j, j < 96 → bw (u.2 0 j) 0 60 = true) : Met l yX12_isFree wsX12_isFree ({ frames := 3, cells := 0, slots := 0, locals := 66 }) (va_Pc [.ref h0, .int p0, .int p1, .int p2, .int p3, .int p4] (PW dC dI (mW h0 v cI cZ u) [(cI, .int), (cZ, .boolean)])) (vp_Si (fun r => (r = 1 ∧ mFreeP u p0 p1 p2 p3 p4) ∨ (r = 0 ∧ ¬ mFreeP u p0 p1 p2 p3 p4))) 0 0 (fun _ => False) := by
  refine Met.ofW (cc := cX12_isFree) (maxL := 8) (ret := (some .boolean)) (by decide) rfl ?_
  intro p e s m args below meth c s₁ B hml hv
  obtain ⟨rfl, hP, hK, hN⟩ := hv
  have hx := B.exec
  have hb := B.bytes
  have hr := B.returns
  have hts := atoms_spec (ws := wsX12_isFree) B.pre
  have hown : s.vm.findClass RX12 = some m.cls := findClass_of_methodNamed B.named
  have hlocks := B.notSynchronized
  have hl := lv_entry ([.ref h0, .int p0, .int p1, .int p2, .int p3, .int p4]) (n := 8) (Nat.le_of_ble_eq_true rfl)
  rw [lg_entry_eq]
  generalize (lg_sl ([.ref h0, .int p0, .int p1, .int p2, .int p3, .int p4]) ++ List.replicate (8 - (lg_sl ([.ref h0, .int p0, .int p1, .int p2, .int p3, .int p4])).length) Slot.unset).toArray = ls at hl ⊢
  have hl : lv_has ls 8 [(0, .ref h0), (1, .int p0), (2, .int p1), (3, .int p2), (4, .int p3), (5, .int p4)] := hl
  refine lv_aload_n hx hb dX12_isFree_0 rfl (lv_at hl 0 rfl) ?_
  refine lv_iload_n hx hb dX12_isFree_1 rfl (lv_at hl 1 rfl) ?_
  refine lv_iload_n hx hb dX12_isFree_2 rfl (lv_at hl 2 rfl) ?_
  refine lv_iload_n hx hb dX12_isFree_3 rfl (lv_at hl 3 rfl) ?_
  refine vp_callSi (va_runV (As := [.int p0, .int p1, .int p2]) (rest := []) ⟨hx, hb, hml, hown, hts⟩ (m_isCell l dC dI h0 v cI cZ u p0 p1 p2) (cwV 3 hts gX12_isFree_X12_isCell rfl rfl rfl (by decide +kernel) ⟨Nat.le_of_ble_eq_true rfl, Nat.le_of_ble_eq_true rfl⟩) ⟨pw_fb, va_recv hK hP (ci := 11) (q0 := 0) rfl rfl, fun U hU hW => ⟨rfl, pw_to hU hW hP hK hN⟩⟩ rfl rfl hl.1 rfl (lv_room (Nat.le_of_ble_eq_true rfl)) dX12_isFree_4 ⟨Nat.le_of_ble_eq_true rfl, Nat.le_of_ble_eq_true rfl⟩).run (fun r hw => ?_)
  rcases Bool.eq_false_or_eq_true (mCell u p0 p1 p2) with b_1 | b_1
  ·
    obtain rfl : r = 1 := b_t hw b_1
    refine lv_if_eq (tgt := 32) hx hb dX12_isFree_7 (by decide) (fun c_2 => absurd c_2 (by decide)) (fun c_2 => ?_)
    refine lv_iload hx hb dX12_isFree_10 (lv_at hl 4 rfl) ?_
    refine lv_iconst (v := 1) hx hb dX12_isFree_12 (by decide) ?_
    refine lv_bipush (v := 8) hx hb dX12_isFree_13 (by decide) ?_
    refine vp_callSi (va_runS (As := [.int p3, .int 1, .int 8]) (rest := []) ⟨hx, hb, hml, hown, hts⟩ (m_in l dC dI p3 1 8) (va_cwS 3 hts gX12_isFree_X12_in rfl rfl rfl (by decide +kernel) ⟨Nat.le_of_ble_eq_true rfl, Nat.le_of_ble_eq_true rfl⟩) ⟨pw_fb, fun U hU hW => ⟨rfl, pw_to hU hW (hP.sub (ws' := []) [] rfl) (hK.sub (tys' := []) [] rfl) hN⟩⟩ rfl rfl hl.1 rfl (lv_room (Nat.le_of_ble_eq_true rfl)) dX12_isFree_15 ⟨Nat.le_of_ble_eq_true rfl, Nat.le_of_ble_eq_true rfl⟩).run (fun r hw => ?_)
    rcases Bool.eq_false_or_eq_true (bw p3 1 8) with b_3 | b_3
    ·
      obtain rfl : r = 1 := b_t hw b_3
      refine lv_if_eq (tgt := 32) hx hb dX12_isFree_18 (by decide) (fun c_4 => absurd c_4 (by decide)) (fun c_4 => ?_)
      refine lv_iload hx hb dX12_isFree_21 (lv_at hl 5 rfl) ?_
      refine lv_iconst (v := 1) hx hb dX12_isFree_23 (by decide) ?_
      refine lv_bipush (v := 60) hx hb dX12_isFree_24 (by decide) ?_
      refine vp_callSi (va_runS (As := [.int p4, .int 1, .int 60]) (rest := []) ⟨hx, hb, hml, hown, hts⟩ (m_in l dC dI p4 1 60) (va_cwS 3 hts gX12_isFree_X12_in rfl rfl rfl (by decide +kernel) ⟨Nat.le_of_ble_eq_true rfl, Nat.le_of_ble_eq_true rfl⟩) ⟨pw_fb, fun U hU hW => ⟨rfl, pw_to hU hW (hP.sub (ws' := []) [] rfl) (hK.sub (tys' := []) [] rfl) hN⟩⟩ rfl rfl hl.1 rfl (lv_room (Nat.le_of_ble_eq_true rfl)) dX12_isFree_26 ⟨Nat.le_of_ble_eq_true rfl, Nat.le_of_ble_eq_true rfl⟩).run (fun r hw => ?_)
      rcases Bool.eq_false_or_eq_true (bw p4 1 60) with b_5 | b_5
      ·
        obtain rfl : r = 1 := b_t hw b_5
        refine lv_if_ne (tgt := 34) hx hb dX12_isFree_29 (by decide) (fun c_6 => ?_) (fun c_6 => absurd c_6 (by decide))
        refine lv_iload_n hx hb dX12_isFree_34 rfl (lv_at hl 2 rfl) ?_
        refine lv_istore (lv' := [(6, .int p1), (0, .ref h0), (1, .int p0), (2, .int p1), (3, .int p2), (4, .int p3), (5, .int p4)]) hx hb dX12_isFree_35 hl (by decide) rfl (fun ls hl => ?_)
        have hfr : ¬ mFreeP u p0 p1 p2 p3 p4 ∨ True := Or.inr trivial
        obtain ⟨X, hX, -, eX⟩ := exN (mCell_c b_1).2.1 (by decide)
        obtain ⟨Y, hY, eY⟩ := exL hln b_1
        obtain ⟨D, hD8, hD1, eD⟩ := exN b_3 (by decide)
        obtain ⟨N, hN8, hN1, eN⟩ := exN b_5 (by decide)
        have h7 : (7 : Int32).toInt = 7 := rfl
        have h8 : (8 : Int32).toInt = 8 := rfl
        have h60 : (60 : Int32).toInt = 60 := rfl
        subst eX eY eD eN
        refine m_free_out (X := X) (Y := Y) (D := D) (N := N) hx hb hml hts hown hN hK (Nat.le_of_ble_eq_true rfl) (Nat.le_of_ble_eq_true rfl) (Nat.le_of_ble_eq_true rfl) (Nat.le_of_ble_eq_true rfl) hP hln (by omega) (by omega) (by omega) (by omega) (fun i ls hlt hne hg hl => ?_) (fun ls hg hl => ?_) (D + 1) 0 ls (Nat.zero_le _) (by omega) (fun j hj => absurd hj (Nat.not_lt_zero _)) (lv_sub hl [0, 1, 2, 3, 4, 5, 6] rfl)
        ·
          refine lv_iconst (v := 0) hx hb dX12_isFree_88 (by decide) ?_
          exact W.zret (v := 0) hx hb hr (by decide) (fun t ht hW => ⟨_, rfl, Or.inr ⟨rfl, fun q => by obtain ⟨b, hb1, hb2⟩ := hne; have h := q.2.2.2 i (by rw [nI_clamp (by omega)]; exact hlt) b (by rw [nI_clamp (by omega)]; exact hb1); rw [nI_add, nI_add, hb2] at h; exact absurd h (by decide)⟩, ht⟩) (fun q h => absurd h List.not_mem_nil) dX12_isFree_89
        ·
          refine lv_iconst (v := 1) hx hb dX12_isFree_102 (by decide) ?_
          exact W.zret (v := 1) hx hb hr (by decide) (fun t ht hW => ⟨_, rfl, Or.inl ⟨rfl, b_1, b_3, b_5, fun a ha b hb1 => by rw [nI_clamp (by omega)] at ha hb1; rw [nI_add, nI_add]; exact hg a ha b hb1⟩, ht⟩) (fun q h => absurd h List.not_mem_nil) dX12_isFree_103
      ·
        obtain rfl : r = 0 := b_f hw b_5
        refine lv_if_ne (tgt := 34) hx hb dX12_isFree_29 (by decide) (fun c_7 => absurd (by decide) c_7) (fun c_7 => ?_)
        refine lv_iconst (v := 0) hx hb dX12_isFree_32 (by decide) ?_
        exact W.zret (v := 0) hx hb hr (by decide) (fun t ht hW => ⟨_, rfl, Or.inr ⟨rfl, fun q => bne b_5 q.2.2.1⟩, ht⟩) (fun q h => absurd h List.not_mem_nil) dX12_isFree_33
    ·
      obtain rfl : r = 0 := b_f hw b_3
      refine lv_if_eq (tgt := 32) hx hb dX12_isFree_18 (by decide) (fun c_8 => ?_) (fun c_8 => absurd (by decide) c_8)
      refine lv_iconst (v := 0) hx hb dX12_isFree_32 (by decide) ?_
      exact W.zret (v := 0) hx hb hr (by decide) (fun t ht hW => ⟨_, rfl, Or.inr ⟨rfl, fun q => bne b_3 q.2.1⟩, ht⟩) (fun q h => absurd h List.not_mem_nil) dX12_isFree_33
  ·
    obtain rfl : r = 0 := b_f hw b_1
    refine lv_if_eq (tgt := 32) hx hb dX12_isFree_7 (by decide) (fun c_9 => ?_) (fun c_9 => absurd (by decide) c_9)
    refine lv_iconst (v := 0) hx hb dX12_isFree_32 (by decide) ?_
    exact W.zret (v := 0) hx hb hr (by decide) (fun t ht hW => ⟨_, rfl, Or.inr ⟨rfl, fun q => bne b_1 q.1⟩, ht⟩) (fun q h => absurd h List.not_mem_nil) dX12_isFree_33
