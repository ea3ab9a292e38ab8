/-- how many of a column's first cells are empty -/
def mEmp (f : Nat → Int32) (b : Int32) : Nat → Int32
  | 0 => 0
  | n + 1 => mEmp f b n + (if f (b + nI n).toNatClampNeg = (-2) then 1 else 0)
def mShort (u : mS) (p c : Int32) : Int32 := if bw p 0 11 = true then (if bw c 0 7 = true then mEmp (u.2 2) (480 * p + 60 * c) (u.2 0 (8 * p + c).toNatClampNeg).toNatClampNeg else (-1)) else (-1)
/-- whether a piece stands among a page's first cells -/
def mHas (f : Nat → Int32) (b : Int32) : Nat → Bool
  | 0 => false
  | n + 1 => mHas f b n || (!decide (f (b + nI n).toNatClampNeg < 0) && !decide (f (b + nI n).toNatClampNeg = 100))
def mMeasure (u : mS) (p x : Int32) : Int32 × mS := if bw p 0 11 = true then (if bw x 1 200 = true then (if 0 < u.1 28 then (0, u) else if mHas (u.2 2) (480 * p) 480 = true then (0, u) else (1, mst u 1 p x)) else (0, u)) else (0, u)
/-- a column without anything -/
def mBare (f : Nat → Int32) (b : Int32) : Bool := (List.range 60).all (fun l => decide (f (b + nI l).toNatClampNeg = (-2)))
def mColumn (u : mS) (p c n : Int32) : Int32 × mS := if bw p 0 11 = true then (if bw c 0 7 = true then (if bw n 0 60 = true then (if u.1 28 ≤ 0 then (if mBare (u.2 2) (480 * p + 60 * c) = true then (1, mst u 0 (8 * p + c) n) else (0, u)) else (0, u)) else (0, u)) else (0, u)) else (0, u)
theorem mBare_t {f : Nat → Int32} {b : Int32} (h : ∀ j, j < 60 → f (b + nI j).toNatClampNeg = (-2)) : mBare f b = true := by
  unfold mBare; rw [List.all_eq_true]; intro x hx; rw [decide_eq_true_iff]; exact h x (List.mem_range.mp hx)
theorem mBare_f {f : Nat → Int32} {b : Int32} {i : Nat} (hi : i < 60) (h : ¬ f (b + nI i).toNatClampNeg = (-2)) : mBare f b = false := by
  rw [← Bool.not_eq_true]; unfold mBare; rw [List.all_eq_true]
  intro q; exact h (decide_eq_true_iff.mp (q i (List.mem_range.mpr hi)))
theorem nz {b : Bool} {a : Int32} (h : a = bi b) (h2 : ¬ a = 0) : b = true := by
  cases b
  · exact absurd h h2
  · rfl
theorem zz0 {b : Bool} {a : Int32} (h : a = bi b) (h2 : a = 0) : b = false := by
  cases b
  · rfl
  · rw [h2] at h; exact absurd h (by decide)
theorem nI_of_bw {x hi : Int32} (h : bw x 0 hi = true) : x = nI x.toNatClampNeg ∧ (x.toNatClampNeg : Int) = x.toInt ∧ x.toInt ≤ hi.toInt := by
  have h1 := bw_iff.mp h
  rw [i0] at h1
  obtain ⟨j, hj, e⟩ := nI_of (x := x) (fun q => by rw [i32_lt, i0] at q; omega)
  subst e
  rw [nI_clamp hj, nI_toInt hj]
  rw [nI_toInt hj] at h1
  exact ⟨rfl, rfl, h1.2⟩
set_option maxHeartbeats 4000000 in
set_option maxRecDepth 100000 in
theorem m_shortOf_loop {p : Program} {l : Launch} {e : Env} {R : Room} {s : State} {m : MethodId} {args : Array Value} {below : List Frame} {meth : Method} {c : Code} {Q : State → Prop} {cells slots : Nat} {dC : Nat → ClassId} {dI : Nat → Nat → Nat} {h0 : Nat} {v : Nat → Nat} {cI cZ : ClassId} {H : Heap} {locs : List Loc} {u : mS} (hx : p.tables.exec = Jvm.exec) (hb : c.code = cX12_shortOf) (hml : c.maxLocals = 5) (hts : ∀ w ∈ wsX12_shortOf, w.before args s = true) (hown : s.vm.findClass RX12 = some m.cls) (hN : NN s) (hK : va_K (dC, dI) vwCl [(cI, .int), (cZ, .boolean)] s) (hRf : 1 ≤ R.frames) (hRl : 22 ≤ R.locals) (hRc : cells ≤ R.cells) (hRs : slots ≤ R.slots) (hP : va_P (dC, dI) vwCl (mW h0 v cI cZ u) H) {p0 p1 : Int32} {K : Nat} (hp : bw p0 0 11 = true) (hq : bw p1 0 7 = true) (hK60 : K ≤ 60) (eK : u.2 0 (8 * p0 + p1).toNatClampNeg = nI K) (kx : ∀ (a : Int32) (ls : Array Slot), a = mEmp (u.2 2) (480 * p0 + 60 * p1) K → lv_has ls 5 [(4, .int (nI K)), (3, .int a), (0, .ref h0), (1, .int p0), (2, .int p1)] → W p l e R s m args below meth c H locs cells slots Q (F0 m 71 ls [])) : ∀ (k i : Nat) (a : Int32) (ls : Array Slot), i ≤ K → K - i < k → a = mEmp (u.2 2) (480 * p0 + 60 * p1) i → lv_has ls 5 [(4, .int (nI i)), (3, .int a), (0, .ref h0), (1, .int p0), (2, .int p1)] → W p l e R s m args below meth c H locs cells slots Q (F0 m 24 ls []) := by
  intro k
  induction k with
  | zero => intro i a ls h1 h2; exact absurd h2 (Nat.not_lt_zero _)
  | succ k ih =>
    intro i a ls hi hk hg hl
    refine lv_iload hx hb dX12_shortOf_24 (lv_at hl 0 rfl) ?_
    refine lv_aload_n hx hb dX12_shortOf_26 rfl (lv_at hl 2 rfl) ?_
    refine va_get (D := (dC, dI)) (ci := 11) (v := .ref (v 0)) (C := RX12) (T := TX12) (N := 52) hx hb hts (by decide +kernel) hown hK hP 0 rfl rfl 0 (by decide) (hts (.fieldLink RX12 7 "PageOneModel" "lines" "[I") (by decide +kernel)) (fun _ h9 => h9) rfl dX12_shortOf_27 ?_
    refine lv_bipush (v := 8) hx hb dX12_shortOf_30 (by decide) ?_
    refine lv_iload_n hx hb dX12_shortOf_32 rfl (lv_at hl 3 rfl) ?_
    refine lv_imul hx hb dX12_shortOf_33 ?_
    refine lv_iload_n hx hb dX12_shortOf_34 rfl (lv_at hl 4 rfl) ?_
    refine lv_iadd hx hb dX12_shortOf_35 ?_
    refine va_iald hx hb hK hP 1 0 rfl rfl (vin8 hp hq) dX12_shortOf_36 ?_
    refine lv_topi (fun y_1 ey_1 => ?_)
    obtain rfl : y_1 = (nI K) := ey_1.trans (eK)
    refine lv_icmp_ge (tgt := 71) hx hb dX12_shortOf_37 (by decide) (fun c_2 => ?_) (fun c_2 => ?_)
    ·
      have hie : i = K := lp_eq rfl (by omega) hi c_2
      rw [hie] at hg hl
      exact kx _ ls hg (lv_sub hl [0, 1, 2, 3, 4] rfl)
    ·
      have hlt : i < K := lp_lt rfl (by omega) hi c_2
      refine lv_iload_n hx hb dX12_shortOf_40 rfl (lv_at hl 1 rfl) ?_
      refine lv_aload_n hx hb dX12_shortOf_41 rfl (lv_at hl 2 rfl) ?_
      refine va_get (D := (dC, dI)) (ci := 11) (v := .ref (v 2)) (C := RX12) (T := TX12) (N := 52) hx hb hts (by decide +kernel) hown hK hP 0 rfl rfl 2 (by decide) (hts (.fieldLink RX12 16 "PageOneModel" "cell" "[I") (by decide +kernel)) (fun _ h9 => h9) rfl dX12_shortOf_42 ?_
      refine lv_iload_n hx hb dX12_shortOf_45 rfl (lv_at hl 3 rfl) ?_
      refine lv_iload_n hx hb dX12_shortOf_46 rfl (lv_at hl 4 rfl) ?_
      refine lv_iload hx hb dX12_shortOf_47 (lv_at hl 0 rfl) ?_
      refine vp_callSi (va_runS (As := [.int p0, .int p1, .int (nI i)]) (rest := [.ref (v 2), .int a]) ⟨hx, hb, hml, hown, hts⟩ (m_at l dC dI p0 p1 (nI i)) (va_cwS 3 hts gX12_shortOf_X12_at rfl rfl rfl (by decide +kernel) ⟨hRf, hRl⟩) ⟨pw_fb, fun U hU hW => ⟨rfl, pw_to hU hW (hP.sub (ws' := []) [] rfl) (hK.sub (tys' := []) [] rfl) hN⟩⟩ rfl rfl hl.1 rfl (lv_room (Nat.le_of_ble_eq_true rfl)) dX12_shortOf_49 ⟨hRc, hRs⟩).run (fun r hw => ?_)
      obtain rfl : r = (480 * p0 + 60 * p1 + (nI i)) := hw
      refine va_iald hx hb hK hP 3 0 rfl rfl (vinC hp hq (by omega)) dX12_shortOf_52 ?_
      refine lv_bipush (v := (-2)) hx hb dX12_shortOf_53 (by decide) ?_
      refine lv_icmp_ne (tgt := 62) hx hb dX12_shortOf_55 (by decide) (fun c_3 => ?_) (fun c_3 => ?_)
      ·
        refine lv_iconst (v := 0) hx hb dX12_shortOf_62 (by decide) ?_
        refine lv_iadd hx hb dX12_shortOf_63 ?_
        refine lv_topi (fun x_4 ex_4 => ?_)
        refine lv_istore_n (lv' := [(3, .int x_4), (4, .int (nI i)), (0, .ref h0), (1, .int p0), (2, .int p1)]) hx hb dX12_shortOf_64 rfl hl (by decide) rfl (fun ls hl => ?_)
        refine lv_iinc (v := (nI (i + 1))) (lv' := [(4, .int (nI (i + 1))), (3, .int x_4), (0, .ref h0), (1, .int p0), (2, .int p1)]) hx hb dX12_shortOf_65 hl (k := 1) rfl (nI_1 i) (by decide) rfl (fun ls hl => ?_)
        refine lv_goto (tgt := 24) hx hb dX12_shortOf_68 (by decide) ?_
        exact ih (i + 1) _ ls (by omega) (by omega) (by subst_vars; simp [mEmp, c_3]) (lv_sub hl [0, 1, 2, 3, 4] rfl)
      ·
        refine lv_iconst (v := 1) hx hb dX12_shortOf_58 (by decide) ?_
        refine lv_goto (tgt := 63) hx hb dX12_shortOf_59 (by decide) ?_
        refine lv_iadd hx hb dX12_shortOf_63 ?_
        refine lv_topi (fun x_5 ex_5 => ?_)
        refine lv_istore_n (lv' := [(3, .int x_5), (4, .int (nI i)), (0, .ref h0), (1, .int p0), (2, .int p1)]) hx hb dX12_shortOf_64 rfl hl (by decide) rfl (fun ls hl => ?_)
        refine lv_iinc (v := (nI (i + 1))) (lv' := [(4, .int (nI (i + 1))), (3, .int x_5), (0, .ref h0), (1, .int p0), (2, .int p1)]) hx hb dX12_shortOf_65 hl (k := 1) rfl (nI_1 i) (by decide) rfl (fun ls hl => ?_)
        refine lv_goto (tgt := 24) hx hb dX12_shortOf_68 (by decide) ?_
        exact ih (i + 1) _ ls (by omega) (by omega) (by subst_vars; simp [mEmp, c_3]) (lv_sub hl [0, 1, 2, 3, 4] rfl)
set_option maxHeartbeats 4000000 in
set_option maxRecDepth 100000 in
theorem m_shortOf (l : Launch) (dC : Nat → ClassId) (dI : Nat → Nat → Nat) (h0 : Nat) (v : Nat → Nat) (cI cZ : ClassId) (u : mS) (p0 p1 : Int32) (hln : ∀ j, j < 96 → bw (u.2 0 j) 0 60 = true) : Met l yX12_shortOf wsX12_shortOf ({ frames := 2, cells := 0, slots := 0, locals := 42 }) (va_Pc [.ref h0, .int p0, .int p1] (PW dC dI (mW h0 v cI cZ u) [(cI, .int), (cZ, .boolean)])) (vp_Si (fun r => r = mShort u p0 p1)) 0 0 (fun _ => False) := by
  refine Met.ofW (cc := cX12_shortOf) (maxL := 5) (ret := (some .int)) (by decide) rfl ?_
  intro p e s m args below meth c s₁ B hml hv
  obtain ⟨rfl, hP, hK, hN⟩ := hv
  have hx := B.exec
  have hb := B.bytes
  have hr := B.returns
  have hts := atoms_spec (ws := wsX12_shortOf) B.pre
  have hown : s.vm.findClass RX12 = some m.cls := findClass_of_methodNamed B.named
  have hlocks := B.notSynchronized
  have hl := lv_entry ([.ref h0, .int p0, .int p1]) (n := 5) (Nat.le_of_ble_eq_true rfl)
  rw [lg_entry_eq]
  generalize (lg_sl ([.ref h0, .int p0, .int p1]) ++ List.replicate (5 - (lg_sl ([.ref h0, .int p0, .int p1])).length) Slot.unset).toArray = ls at hl ⊢
  have hl : lv_has ls 5 [(0, .ref h0), (1, .int p0), (2, .int p1)] := hl
  refine lv_iload_n hx hb dX12_shortOf_0 rfl (lv_at hl 1 rfl) ?_
  refine vp_callSi (va_runS (As := [.int p0]) (rest := []) ⟨hx, hb, hml, hown, hts⟩ (m_isPage l dC dI p0) (va_cwS 1 hts gX12_shortOf_X12_isPage rfl rfl rfl (by decide +kernel) ⟨Nat.le_of_ble_eq_true rfl, Nat.le_of_ble_eq_true rfl⟩) ⟨pw_fb, fun U hU hW => ⟨rfl, pw_to hU hW (hP.sub (ws' := []) [] rfl) (hK.sub (tys' := []) [] rfl) hN⟩⟩ rfl rfl hl.1 rfl (lv_room (Nat.le_of_ble_eq_true rfl)) dX12_shortOf_1 ⟨Nat.le_of_ble_eq_true rfl, Nat.le_of_ble_eq_true rfl⟩).run (fun r hw => ?_)
  rcases Bool.eq_false_or_eq_true (bw p0 0 11) with b_1 | b_1
  ·
    obtain rfl : r = 1 := b_t hw b_1
    refine lv_if_eq (tgt := 17) hx hb dX12_shortOf_4 (by decide) (fun c_2 => absurd c_2 (by decide)) (fun c_2 => ?_)
    refine lv_iload_n hx hb dX12_shortOf_7 rfl (lv_at hl 2 rfl) ?_
    refine lv_iconst (v := 0) hx hb dX12_shortOf_8 (by decide) ?_
    refine lv_bipush (v := 7) hx hb dX12_shortOf_9 (by decide) ?_
    refine vp_callSi (va_runS (As := [.int p1, .int 0, .int 7]) (rest := []) ⟨hx, hb, hml, hown, hts⟩ (m_in l dC dI p1 0 7) (va_cwS 3 hts gX12_shortOf_X12_in rfl rfl rfl (by decide +kernel) ⟨Nat.le_of_ble_eq_true rfl, Nat.le_of_ble_eq_true rfl⟩) ⟨pw_fb, fun U hU hW => ⟨rfl, pw_to hU hW (hP.sub (ws' := []) [] rfl) (hK.sub (tys' := []) [] rfl) hN⟩⟩ rfl rfl hl.1 rfl (lv_room (Nat.le_of_ble_eq_true rfl)) dX12_shortOf_11 ⟨Nat.le_of_ble_eq_true rfl, Nat.le_of_ble_eq_true rfl⟩).run (fun r hw => ?_)
    rcases Bool.eq_false_or_eq_true (bw p1 0 7) with b_3 | b_3
    ·
      obtain rfl : r = 1 := b_t hw b_3
      refine lv_if_ne (tgt := 19) hx hb dX12_shortOf_14 (by decide) (fun c_4 => ?_) (fun c_4 => absurd c_4 (by decide))
      refine lv_iconst (v := 0) hx hb dX12_shortOf_19 (by decide) ?_
      refine lv_istore_n (lv' := [(3, .int 0), (0, .ref h0), (1, .int p0), (2, .int p1)]) hx hb dX12_shortOf_20 rfl hl (by decide) rfl (fun ls hl => ?_)
      refine lv_iconst (v := 0) hx hb dX12_shortOf_21 (by decide) ?_
      refine lv_istore (lv' := [(4, .int 0), (3, .int 0), (0, .ref h0), (1, .int p0), (2, .int p1)]) hx hb dX12_shortOf_22 hl (by decide) rfl (fun ls hl => ?_)
      obtain ⟨eK, eK2, eK3⟩ := nI_of_bw (hln _ (vlt (vin8 b_1 b_3)))
      have h60 : (60 : Int32).toInt = 60 := rfl
      refine m_shortOf_loop (K := (u.2 0 (8 * p0 + p1).toNatClampNeg).toNatClampNeg) hx hb hml hts hown hN hK (Nat.le_of_ble_eq_true rfl) (Nat.le_of_ble_eq_true rfl) (Nat.le_of_ble_eq_true rfl) (Nat.le_of_ble_eq_true rfl) hP b_1 b_3 (by omega) eK (fun a ls hg hl => ?_) _ 0 0 ls (Nat.zero_le _) (Nat.lt_succ_self _) rfl (lv_sub hl [0, 1, 2, 3, 4] rfl)
      refine lv_iload_n hx hb dX12_shortOf_71 rfl (lv_at hl 1 rfl) ?_
      exact W.iret (v := a) hx hb hr (fun t ht hW => ⟨_, rfl, (by unfold mShort; rw [if_pos b_1, if_pos b_3]; exact hg), ht⟩) (fun q h => absurd h List.not_mem_nil) dX12_shortOf_72
    ·
      obtain rfl : r = 0 := b_f hw b_3
      refine lv_if_ne (tgt := 19) hx hb dX12_shortOf_14 (by decide) (fun c_5 => absurd (by decide) c_5) (fun c_5 => ?_)
      refine lv_iconst (v := (-1)) hx hb dX12_shortOf_17 (by decide) ?_
      exact W.iret (v := (-1)) hx hb hr (fun t ht hW => ⟨_, rfl, (by first | (unfold mShort; rw [if_pos b_1, if_neg (bne b_3)]; done) | (unfold mShort; rw [if_pos b_1, if_neg (bne b_3)]; rfl) | (simp [mShort, b_1, b_3]; done)), ht⟩) (fun q h => absurd h List.not_mem_nil) dX12_shortOf_18
  ·
    obtain rfl : r = 0 := b_f hw b_1
    refine lv_if_eq (tgt := 17) hx hb dX12_shortOf_4 (by decide) (fun c_6 => ?_) (fun c_6 => absurd (by decide) c_6)
    refine lv_iconst (v := (-1)) hx hb dX12_shortOf_17 (by decide) ?_
    exact W.iret (v := (-1)) hx hb hr (fun t ht hW => ⟨_, rfl, (by first | (unfold mShort; rw [if_neg (bne b_1)]; done) | (unfold mShort; rw [if_neg (bne b_1)]; rfl) | (simp [mShort, b_1]; done)), ht⟩) (fun q h => absurd h List.not_mem_nil) dX12_shortOf_18
set_option maxHeartbeats 4000000 in
set_option maxRecDepth 100000 in
theorem m_hasPiece_loop {p : Program} {l : Launch} {e : Env} {R : Room} {s : State} {m : MethodId} {args : Array Value} {below : List Frame} {meth : Method} {c : Code} {Q : State → Prop} {cells slots : Nat} {dC : Nat → ClassId} {dI : Nat → Nat → Nat} {h0 : Nat} {v : Nat → Nat} {cI cZ : ClassId} {H : Heap} {locs : List Loc} {u : mS} (hx : p.tables.exec = Jvm.exec) (hb : c.code = cX12_hasPiece) (hml : c.maxLocals = 4) (hts : ∀ w ∈ wsX12_hasPiece, w.before args s = true) (hown : s.vm.findClass RX12 = some m.cls) (hN : NN s) (hK : va_K (dC, dI) vwCl [(cI, .int), (cZ, .boolean)] s) (hP : va_P (dC, dI) vwCl (mW h0 v cI cZ u) H) {p0 : Int32} (hp : bw p0 0 11 = true) (kx : ∀ (a : Int32) (ls : Array Slot), a = bi (mHas (u.2 2) (480 * p0) 480) → lv_has ls 4 [(3, .int (nI 480)), (2, .int a), (0, .ref h0), (1, .int p0)] → W p l e R s m args below meth c H locs cells slots Q (F0 m 59 ls [])) : ∀ (k i : Nat) (a : Int32) (ls : Array Slot), i ≤ 480 → 480 - i < k → a = bi (mHas (u.2 2) (480 * p0) i) → lv_has ls 4 [(3, .int (nI i)), (2, .int a), (0, .ref h0), (1, .int p0)] → W p l e R s m args below meth c H locs cells slots Q (F0 m 4 ls []) := by
  intro k
  induction k with
  | zero => intro i a ls h1 h2; exact absurd h2 (Nat.not_lt_zero _)
  | succ k ih =>
    intro i a ls hi hk hg hl
    refine lv_iload_n hx hb dX12_hasPiece_4 rfl (lv_at hl 0 rfl) ?_
    refine lv_sipush (v := 480) hx hb dX12_hasPiece_5 (by decide) ?_
    refine lv_icmp_ge (tgt := 59) hx hb dX12_hasPiece_8 (by decide) (fun c_1 => ?_) (fun c_1 => ?_)
    ·
      have hie : i = 480 := lp_eq rfl (by decide) hi c_1
      subst hie
      exact kx _ ls hg (lv_sub hl [0, 1, 2, 3] rfl)
    ·
      have hlt : i < 480 := lp_lt rfl (by decide) hi c_1
      refine lv_iload_n hx hb dX12_hasPiece_11 rfl (lv_at hl 1 rfl) ?_
      refine lv_if_ne (tgt := 47) hx hb dX12_hasPiece_12 (by decide) (fun c_2 => ?_) (fun c_2 => ?_)
      ·
        refine lv_iconst (v := 1) hx hb dX12_hasPiece_47 (by decide) ?_
        refine lv_goto (tgt := 52) hx hb dX12_hasPiece_48 (by decide) ?_
        refine lv_istore_n (lv' := [(2, .int 1), (3, .int (nI i)), (0, .ref h0), (1, .int p0)]) hx hb dX12_hasPiece_52 rfl hl (by decide) rfl (fun ls hl => ?_)
        refine lv_iinc (v := (nI (i + 1))) (lv' := [(3, .int (nI (i + 1))), (2, .int 1), (0, .ref h0), (1, .int p0)]) hx hb dX12_hasPiece_53 hl (k := 1) rfl (nI_1 i) (by decide) rfl (fun ls hl => ?_)
        refine lv_goto (tgt := 4) hx hb dX12_hasPiece_56 (by decide) ?_
        exact ih (i + 1) _ ls (by omega) (by omega) (by rw [mHas, nz hg c_2]; rfl) (lv_sub hl [0, 1, 2, 3] rfl)
      ·
        refine lv_aload_n hx hb dX12_hasPiece_15 rfl (lv_at hl 2 rfl) ?_
        refine va_get (D := (dC, dI)) (ci := 11) (v := .ref (v 2)) (C := RX12) (T := TX12) (N := 52) hx hb hts (by decide +kernel) hown hK hP 0 rfl rfl 2 (by decide) (hts (.fieldLink RX12 16 "PageOneModel" "cell" "[I") (by decide +kernel)) (fun _ h9 => h9) rfl dX12_hasPiece_16 ?_
        refine lv_sipush (v := 480) hx hb dX12_hasPiece_19 (by decide) ?_
        refine lv_iload_n hx hb dX12_hasPiece_22 rfl (lv_at hl 3 rfl) ?_
        refine lv_imul hx hb dX12_hasPiece_23 ?_
        refine lv_iload_n hx hb dX12_hasPiece_24 rfl (lv_at hl 0 rfl) ?_
        refine lv_iadd hx hb dX12_hasPiece_25 ?_
        refine va_iald hx hb hK hP 3 0 rfl rfl (vinP hp hlt) dX12_hasPiece_26 ?_
        refine lv_if_lt (tgt := 51) hx hb dX12_hasPiece_27 (by decide) (fun c_3 => ?_) (fun c_3 => ?_)
        ·
          refine lv_iconst (v := 0) hx hb dX12_hasPiece_51 (by decide) ?_
          refine lv_istore_n (lv' := [(2, .int 0), (3, .int (nI i)), (0, .ref h0), (1, .int p0)]) hx hb dX12_hasPiece_52 rfl hl (by decide) rfl (fun ls hl => ?_)
          refine lv_iinc (v := (nI (i + 1))) (lv' := [(3, .int (nI (i + 1))), (2, .int 0), (0, .ref h0), (1, .int p0)]) hx hb dX12_hasPiece_53 hl (k := 1) rfl (nI_1 i) (by decide) rfl (fun ls hl => ?_)
          refine lv_goto (tgt := 4) hx hb dX12_hasPiece_56 (by decide) ?_
          exact ih (i + 1) _ ls (by omega) (by omega) (by rw [mHas, zz0 hg c_2]; simp [bi, c_3]) (lv_sub hl [0, 1, 2, 3] rfl)
        ·
          refine lv_aload_n hx hb dX12_hasPiece_30 rfl (lv_at hl 2 rfl) ?_
          refine va_get (D := (dC, dI)) (ci := 11) (v := .ref (v 2)) (C := RX12) (T := TX12) (N := 52) hx hb hts (by decide +kernel) hown hK hP 0 rfl rfl 2 (by decide) (hts (.fieldLink RX12 16 "PageOneModel" "cell" "[I") (by decide +kernel)) (fun _ h9 => h9) rfl dX12_hasPiece_31 ?_
          refine lv_sipush (v := 480) hx hb dX12_hasPiece_34 (by decide) ?_
          refine lv_iload_n hx hb dX12_hasPiece_37 rfl (lv_at hl 3 rfl) ?_
          refine lv_imul hx hb dX12_hasPiece_38 ?_
          refine lv_iload_n hx hb dX12_hasPiece_39 rfl (lv_at hl 0 rfl) ?_
          refine lv_iadd hx hb dX12_hasPiece_40 ?_
          refine va_iald hx hb hK hP 3 0 rfl rfl (vinP hp hlt) dX12_hasPiece_41 ?_
          refine lv_bipush (v := 100) hx hb dX12_hasPiece_42 (by decide) ?_
          refine lv_icmp_eq (tgt := 51) hx hb dX12_hasPiece_44 (by decide) (fun c_4 => ?_) (fun c_4 => ?_)
          ·
            refine lv_iconst (v := 0) hx hb dX12_hasPiece_51 (by decide) ?_
            refine lv_istore_n (lv' := [(2, .int 0), (3, .int (nI i)), (0, .ref h0), (1, .int p0)]) hx hb dX12_hasPiece_52 rfl hl (by decide) rfl (fun ls hl => ?_)
            refine lv_iinc (v := (nI (i + 1))) (lv' := [(3, .int (nI (i + 1))), (2, .int 0), (0, .ref h0), (1, .int p0)]) hx hb dX12_hasPiece_53 hl (k := 1) rfl (nI_1 i) (by decide) rfl (fun ls hl => ?_)
            refine lv_goto (tgt := 4) hx hb dX12_hasPiece_56 (by decide) ?_
            exact ih (i + 1) _ ls (by omega) (by omega) (by rw [mHas, zz0 hg c_2]; simp [bi, c_3, c_4]) (lv_sub hl [0, 1, 2, 3] rfl)
          ·
            refine lv_iconst (v := 1) hx hb dX12_hasPiece_47 (by decide) ?_
            refine lv_goto (tgt := 52) hx hb dX12_hasPiece_48 (by decide) ?_
            refine lv_istore_n (lv' := [(2, .int 1), (3, .int (nI i)), (0, .ref h0), (1, .int p0)]) hx hb dX12_hasPiece_52 rfl hl (by decide) rfl (fun ls hl => ?_)
            refine lv_iinc (v := (nI (i + 1))) (lv' := [(3, .int (nI (i + 1))), (2, .int 1), (0, .ref h0), (1, .int p0)]) hx hb dX12_hasPiece_53 hl (k := 1) rfl (nI_1 i) (by decide) rfl (fun ls hl => ?_)
            refine lv_goto (tgt := 4) hx hb dX12_hasPiece_56 (by decide) ?_
            exact ih (i + 1) _ ls (by omega) (by omega) (by rw [mHas, zz0 hg c_2]; simp [bi, c_3, c_4]) (lv_sub hl [0, 1, 2, 3] rfl)
set_option maxHeartbeats 4000000 in
set_option maxRecDepth 100000 in
theorem m_hasPiece (l : Launch) (dC : Nat → ClassId) (dI : Nat → Nat → Nat) (h0 : Nat) (v : Nat → Nat) (cI cZ : ClassId) (u : mS) (p0 : Int32) (hp : bw p0 0 11 = true) : Met l yX12_hasPiece wsX12_hasPiece ({ frames := 0, cells := 0, slots := 0, locals := 0 }) (va_Pc [.ref h0, .int p0] (PW dC dI (mW h0 v cI cZ u) [(cI, .int), (cZ, .boolean)])) (vp_Si (fun r => r = bi (mHas (u.2 2) (480 * p0) 480))) 0 0 (fun _ => False) := by
  refine Met.ofW (cc := cX12_hasPiece) (maxL := 4) (ret := (some .boolean)) (by decide) rfl ?_
  intro p e s m args below meth c s₁ B hml hv
  obtain ⟨rfl, hP, hK, hN⟩ := hv
  have hx := B.exec
  have hb := B.bytes
  have hr := B.returns
  have hts := atoms_spec (ws := wsX12_hasPiece) B.pre
  have hown : s.vm.findClass RX12 = some m.cls := findClass_of_methodNamed B.named
  have hlocks := B.notSynchronized
  have hl := lv_entry ([.ref h0, .int p0]) (n := 4) (Nat.le_of_ble_eq_true rfl)
  rw [lg_entry_eq]
  generalize (lg_sl ([.ref h0, .int p0]) ++ List.replicate (4 - (lg_sl ([.ref h0, .int p0])).length) Slot.unset).toArray = ls at hl ⊢
  have hl : lv_has ls 4 [(0, .ref h0), (1, .int p0)] := hl
  refine lv_iconst (v := 0) hx hb dX12_hasPiece_0 (by decide) ?_
  refine lv_istore_n (lv' := [(2, .int 0), (0, .ref h0), (1, .int p0)]) hx hb dX12_hasPiece_1 rfl hl (by decide) rfl (fun ls hl => ?_)
  refine lv_iconst (v := 0) hx hb dX12_hasPiece_2 (by decide) ?_
  refine lv_istore_n (lv' := [(3, .int 0), (2, .int 0), (0, .ref h0), (1, .int p0)]) hx hb dX12_hasPiece_3 rfl hl (by decide) rfl (fun ls hl => ?_)
  refine m_hasPiece_loop hx hb hml hts hown hN hK hP hp (fun a ls hg hl => ?_) 481 0 0 ls (by decide) (by decide) rfl (lv_sub hl [0, 1, 2, 3] rfl)
  refine lv_iload_n hx hb dX12_hasPiece_59 rfl (lv_at hl 1 rfl) ?_
  exact W.zret (v := a) hx hb hr (by rw [hg]; exact zb _) (fun t ht hW => ⟨_, rfl, hg, ht⟩) (fun q h => absurd h List.not_mem_nil) dX12_hasPiece_60
set_option maxHeartbeats 4000000 in
set_option maxRecDepth 100000 in
theorem m_measure (l : Launch) (dC : Nat → ClassId) (dI : Nat → Nat → Nat) (h0 : Nat) (v : Nat → Nat) (cI cZ : ClassId) (u : mS) (p0 p1 : Int32) (sz : Nat) : Met l yX12_measure wsX12_measure ({ frames := 2, cells := 0, slots := 0, locals := 42 }) (va_Pc [.ref h0, .int p0, .int p1] (fun U => U.heap.size = sz ∧ PW dC dI (mW h0 v cI cZ u) [(cI, .int), (cZ, .boolean)] U ∧ va_D (fun _ => True) (mW h0 v cI cZ u))) (va_Qi (fun (r : Int32) (u9 : mS) => (r, u9) = mMeasure u p0 p1) (fun u9 t => va_P (dC, dI) vwCl (mW h0 v cI cZ u9) t.heap ∧ va_D (va_A (mW h0 v cI cZ u) sz) (mW h0 v cI cZ u9)) (va_A (mW h0 v cI cZ u) sz)) 0 0 (va_A (mW h0 v cI cZ u) sz) := by
  refine Met.ofW (cc := cX12_measure) (maxL := 3) (ret := (some .boolean)) (by decide) rfl ?_
  intro p e s m args below meth c s₁ B hml hv
  obtain ⟨rfl, hsz, ⟨hP, hK, hN⟩, hD0⟩ := hv
  have hx := B.exec
  have hb := B.bytes
  have hr := B.returns
  have hts := atoms_spec (ws := wsX12_measure) B.pre
  have hown : s.vm.findClass RX12 = some m.cls := findClass_of_methodNamed B.named
  have hlocks := B.notSynchronized
  subst hsz
  have hD := hD0.self (sz := s.heap.size)
  generalize hAe : va_A (mW h0 v cI cZ u) s.heap.size = A at hD ⊢
  have hA : ∀ q : Nat, s.heap.size ≤ q → A q := fun q h => by rw [← hAe]; exact Or.inr h
  have hS : va_S A s.heap s.heap [] := va_S.rf
  have hl := lv_entry ([.ref h0, .int p0, .int p1]) (n := 3) (Nat.le_of_ble_eq_true rfl)
  rw [lg_entry_eq]
  generalize (lg_sl ([.ref h0, .int p0, .int p1]) ++ List.replicate (3 - (lg_sl ([.ref h0, .int p0, .int p1])).length) Slot.unset).toArray = ls at hl ⊢
  have hl : lv_has ls 3 [(0, .ref h0), (1, .int p0), (2, .int p1)] := hl
  refine lv_iload_n hx hb dX12_measure_0 rfl (lv_at hl 1 rfl) ?_
  refine vp_callSi (va_runS (As := [.int p0]) (rest := []) ⟨hx, hb, hml, hown, hts⟩ (m_isPage l dC dI p0) (va_cwS 1 hts gX12_measure_X12_isPage rfl rfl rfl (by decide +kernel) ⟨Nat.le_of_ble_eq_true rfl, Nat.le_of_ble_eq_true rfl⟩) ⟨pw_fb, fun U hU hW => ⟨rfl, pw_to hU hW (hP.sub (ws' := []) [] rfl) (hK.sub (tys' := []) [] rfl) hN⟩⟩ rfl rfl hl.1 rfl (lv_room (Nat.le_of_ble_eq_true rfl)) dX12_measure_1 ⟨Nat.le_of_ble_eq_true rfl, Nat.le_of_ble_eq_true rfl⟩).run (fun r hw => ?_)
  rcases Bool.eq_false_or_eq_true (bw p0 0 11) with b_1 | b_1
  ·
    obtain rfl : r = 1 := b_t hw b_1
    refine lv_if_eq (tgt := 33) hx hb dX12_measure_4 (by decide) (fun c_2 => absurd c_2 (by decide)) (fun c_2 => ?_)
    refine lv_iload_n hx hb dX12_measure_7 rfl (lv_at hl 2 rfl) ?_
    refine lv_iconst (v := 1) hx hb dX12_measure_8 (by decide) ?_
    refine lv_sipush (v := 200) hx hb dX12_measure_9 (by decide) ?_
    refine vp_callSi (va_runS (As := [.int p1, .int 1, .int 200]) (rest := []) ⟨hx, hb, hml, hown, hts⟩ (m_in l dC dI p1 1 200) (va_cwS 3 hts gX12_measure_X12_in rfl rfl rfl (by decide +kernel) ⟨Nat.le_of_ble_eq_true rfl, Nat.le_of_ble_eq_true rfl⟩) ⟨pw_fb, fun U hU hW => ⟨rfl, pw_to hU hW (hP.sub (ws' := []) [] rfl) (hK.sub (tys' := []) [] rfl) hN⟩⟩ rfl rfl hl.1 rfl (lv_room (Nat.le_of_ble_eq_true rfl)) dX12_measure_12 ⟨Nat.le_of_ble_eq_true rfl, Nat.le_of_ble_eq_true rfl⟩).run (fun r hw => ?_)
    rcases Bool.eq_false_or_eq_true (bw p1 1 200) with b_3 | b_3
    ·
      obtain rfl : r = 1 := b_t hw b_3
      refine lv_if_eq (tgt := 33) hx hb dX12_measure_15 (by decide) (fun c_4 => absurd c_4 (by decide)) (fun c_4 => ?_)
      refine lv_aload_n hx hb dX12_measure_18 rfl (lv_at hl 0 rfl) ?_
      refine va_get (D := (dC, dI)) (ci := 11) (v := .int (u.1 28)) (C := RX12) (T := TX12) (N := 52) hx hb hts (by decide +kernel) hown hK hP 0 rfl rfl 28 (by decide) (hts (.fieldLink RX12 158 "PageOneModel" "acts" "I") (by decide +kernel)) (fun _ h9 => h9) rfl dX12_measure_19 ?_
      refine lv_if_gt (tgt := 33) hx hb dX12_measure_22 (by decide) (fun c_5 => ?_) (fun c_5 => ?_)
      ·
        refine lv_iconst (v := 0) hx hb dX12_measure_33 (by decide) ?_
        exact W.zret (v := 0) hx hb hr (by decide) (fun t ht hW => ⟨⟨0, u, rfl, (by unfold mMeasure; rw [if_pos b_1, if_pos b_3, if_pos c_5]), by rw [ht]; exact hP, hD⟩, hS.F ht⟩) hS.2.2 dX12_measure_34
      ·
        refine lv_aload_n hx hb dX12_measure_25 rfl (lv_at hl 0 rfl) ?_
        refine lv_iload_n hx hb dX12_measure_26 rfl (lv_at hl 1 rfl) ?_
        refine vp_callSi (va_runV (As := [.int p0]) (rest := []) ⟨hx, hb, hml, hown, hts⟩ (m_hasPiece l dC dI h0 v cI cZ u p0 b_1) (cwV 1 hts gX12_measure_X12_hasPiece rfl rfl rfl (by decide +kernel) ⟨Nat.le_of_ble_eq_true rfl, Nat.le_of_ble_eq_true rfl⟩) ⟨pw_fb, va_recv hK hP (ci := 11) (q0 := 0) rfl rfl, fun U hU hW => ⟨rfl, pw_to hU hW hP hK hN⟩⟩ rfl rfl hl.1 rfl (lv_room (Nat.le_of_ble_eq_true rfl)) dX12_measure_27 ⟨Nat.le_of_ble_eq_true rfl, Nat.le_of_ble_eq_true rfl⟩).run (fun r hw => ?_)
        rcases Bool.eq_false_or_eq_true (mHas (u.2 2) (480 * p0) 480) with b_6 | b_6
        ·
          obtain rfl : r = 1 := b_t hw b_6
          refine lv_if_eq (tgt := 35) hx hb dX12_measure_30 (by decide) (fun c_7 => absurd c_7 (by decide)) (fun c_7 => ?_)
          refine lv_iconst (v := 0) hx hb dX12_measure_33 (by decide) ?_
          exact W.zret (v := 0) hx hb hr (by decide) (fun t ht hW => ⟨⟨0, u, rfl, (by unfold mMeasure; rw [if_pos b_1, if_pos b_3, if_neg c_5, if_pos b_6]), by rw [ht]; exact hP, hD⟩, hS.F ht⟩) hS.2.2 dX12_measure_34
        ·
          obtain rfl : r = 0 := b_f hw b_6
          refine lv_if_eq (tgt := 35) hx hb dX12_measure_30 (by decide) (fun c_8 => ?_) (fun c_8 => absurd (by decide) c_8)
          refine lv_aload_n hx hb dX12_measure_35 rfl (lv_at hl 0 rfl) ?_
          refine va_get (D := (dC, dI)) (ci := 11) (v := .ref (v 1)) (C := RX12) (T := TX12) (N := 52) hx hb hts (by decide +kernel) hown hK hP 0 rfl rfl 1 (by decide) (hts (.fieldLink RX12 13 "PageOneModel" "measure" "[I") (by decide +kernel)) (fun _ h9 => h9) rfl dX12_measure_36 ?_
          refine lv_iload_n hx hb dX12_measure_39 rfl (lv_at hl 1 rfl) ?_
          refine lv_iload_n hx hb dX12_measure_40 rfl (lv_at hl 2 rfl) ?_
          refine va_iast hx hb hK hP hD hS 2 0 rfl rfl (vin b_1 (by decide)) dX12_measure_41 (fun H locs hP hD hS => ?_)
          obtain ⟨u_9, eu_9⟩ : ∃ zz : mS, zz = mst u 1 p0 p1 := ⟨_, rfl⟩
          have hP : va_P (dC, dI) vwCl (mW h0 v cI cZ u_9) H := by rw [eu_9]; exact hP
          have hD : va_D A (mW h0 v cI cZ u_9) := by rw [eu_9]; exact hD
          refine lv_iconst (v := 1) hx hb dX12_measure_42 (by decide) ?_
          exact W.zret (v := 1) hx hb hr (by decide) (fun t ht hW => ⟨⟨1, u_9, rfl, (by rw [eu_9]; unfold mMeasure; rw [if_pos b_1, if_pos b_3, if_neg c_5, if_neg (bne b_6)]), by rw [ht]; exact hP, hD⟩, hS.F ht⟩) hS.2.2 dX12_measure_43
    ·
      obtain rfl : r = 0 := b_f hw b_3
      refine lv_if_eq (tgt := 33) hx hb dX12_measure_15 (by decide) (fun c_10 => ?_) (fun c_10 => absurd (by decide) c_10)
      refine lv_iconst (v := 0) hx hb dX12_measure_33 (by decide) ?_
      exact W.zret (v := 0) hx hb hr (by decide) (fun t ht hW => ⟨⟨0, u, rfl, (by unfold mMeasure; rw [if_pos b_1, if_neg (bne b_3)]), by rw [ht]; exact hP, hD⟩, hS.F ht⟩) hS.2.2 dX12_measure_34
  ·
    obtain rfl : r = 0 := b_f hw b_1
    refine lv_if_eq (tgt := 33) hx hb dX12_measure_4 (by decide) (fun c_11 => ?_) (fun c_11 => absurd (by decide) c_11)
    refine lv_iconst (v := 0) hx hb dX12_measure_33 (by decide) ?_
    exact W.zret (v := 0) hx hb hr (by decide) (fun t ht hW => ⟨⟨0, u, rfl, (by unfold mMeasure; rw [if_neg (bne b_1)]), by rw [ht]; exact hP, hD⟩, hS.F ht⟩) hS.2.2 dX12_measure_34
set_option maxHeartbeats 4000000 in
set_option maxRecDepth 100000 in
theorem m_column_loop {p : Program} {l : Launch} {e : Env} {R : Room} {s : State} {m : MethodId} {args : Array Value} {below : List Frame} {meth : Method} {c : Code} {Q : State → Prop} {cells slots : Nat} {dC : Nat → ClassId} {dI : Nat → Nat → Nat} {h0 : Nat} {v : Nat → Nat} {cI cZ : ClassId} {H : Heap} {locs : List Loc} {u : mS} (hx : p.tables.exec = Jvm.exec) (hb : c.code = cX12_column) (hml : c.maxLocals = 5) (hts : ∀ w ∈ wsX12_column, w.before args s = true) (hown : s.vm.findClass RX12 = some m.cls) (hN : NN s) (hK : va_K (dC, dI) vwCl [(cI, .int), (cZ, .boolean)] s) (hRf : 1 ≤ R.frames) (hRl : 22 ≤ R.locals) (hRc : cells ≤ R.cells) (hRs : slots ≤ R.slots) (hP : va_P (dC, dI) vwCl (mW h0 v cI cZ u) H) {p0 p1 p2 : Int32} (hp : bw p0 0 11 = true) (hq : bw p1 0 7 = true) (kx63 : ∀ (i : Nat) (ls : Array Slot), i < 60 → ¬ u.2 2 (480 * p0 + 60 * p1 + nI i).toNatClampNeg = (-2) → (∀ j, j < i → u.2 2 (480 * p0 + 60 * p1 + nI j).toNatClampNeg = (-2)) → lv_has ls 5 [(4, .int (nI i)), (0, .ref h0), (1, .int p0), (2, .int p1), (3, .int p2)] → W p l e R s m args below meth c H locs cells slots Q (F0 m 63 ls [])) (kx : ∀ (ls : Array Slot), (∀ j, j < 60 → u.2 2 (480 * p0 + 60 * p1 + nI j).toNatClampNeg = (-2)) → lv_has ls 5 [(4, .int (nI 60)), (0, .ref h0), (1, .int p0), (2, .int p1), (3, .int p2)] → W p l e R s m args below meth c H locs cells slots Q (F0 m 71 ls [])) : ∀ (k i : Nat) (ls : Array Slot), i ≤ 60 → 60 - i < k → (∀ j, j < i → u.2 2 (480 * p0 + 60 * p1 + nI j).toNatClampNeg = (-2)) → lv_has ls 5 [(4, .int (nI i)), (0, .ref h0), (1, .int p0), (2, .int p1), (3, .int p2)] → W p l e R s m args below meth c H locs cells slots Q (F0 m 39 ls []) := by
  intro k
  induction k with
  | zero => intro i ls h1 h2; exact absurd h2 (Nat.not_lt_zero _)
  | succ k ih =>
    intro i ls hi hk hg hl
    refine lv_iload hx hb dX12_column_39 (lv_at hl 0 rfl) ?_
    refine lv_bipush (v := 60) hx hb dX12_column_41 (by decide) ?_
    refine lv_icmp_ge (tgt := 71) hx hb dX12_column_43 (by decide) (fun c_1 => ?_) (fun c_1 => ?_)
    ·
      have hie : i = 60 := lp_eq rfl (by decide) hi c_1
      subst hie
      exact kx ls hg (lv_sub hl [0, 1, 2, 3, 4] rfl)
    ·
      have hlt : i < 60 := lp_lt rfl (by decide) hi c_1
      refine lv_aload_n hx hb dX12_column_46 rfl (lv_at hl 1 rfl) ?_
      refine va_get (D := (dC, dI)) (ci := 11) (v := .ref (v 2)) (C := RX12) (T := TX12) (N := 52) hx hb hts (by decide +kernel) hown hK hP 0 rfl rfl 2 (by decide) (hts (.fieldLink RX12 16 "PageOneModel" "cell" "[I") (by decide +kernel)) (fun _ h9 => h9) rfl dX12_column_47 ?_
      refine lv_iload_n hx hb dX12_column_50 rfl (lv_at hl 2 rfl) ?_
      refine lv_iload_n hx hb dX12_column_51 rfl (lv_at hl 3 rfl) ?_
      refine lv_iload hx hb dX12_column_52 (lv_at hl 0 rfl) ?_
      refine vp_callSi (va_runS (As := [.int p0, .int p1, .int (nI i)]) (rest := [.ref (v 2)]) ⟨hx, hb, hml, hown, hts⟩ (m_at l dC dI p0 p1 (nI i)) (va_cwS 3 hts gX12_column_X12_at rfl rfl rfl (by decide +kernel) ⟨hRf, hRl⟩) ⟨pw_fb, fun U hU hW => ⟨rfl, pw_to hU hW (hP.sub (ws' := []) [] rfl) (hK.sub (tys' := []) [] rfl) hN⟩⟩ rfl rfl hl.1 rfl (lv_room (Nat.le_of_ble_eq_true rfl)) dX12_column_54 ⟨hRc, hRs⟩).run (fun r hw => ?_)
      obtain rfl : r = (480 * p0 + 60 * p1 + (nI i)) := hw
      refine va_iald hx hb hK hP 3 0 rfl rfl (vinC hp hq hlt) dX12_column_57 ?_
      refine lv_bipush (v := (-2)) hx hb dX12_column_58 (by decide) ?_
      refine lv_icmp_eq (tgt := 65) hx hb dX12_column_60 (by decide) (fun c_2 => ?_) (fun c_2 => ?_)
      ·
        refine lv_iinc (v := (nI (i + 1))) (lv' := [(4, .int (nI (i + 1))), (0, .ref h0), (1, .int p0), (2, .int p1), (3, .int p2)]) hx hb dX12_column_65 hl (k := 0) rfl (nI_1 i) (by decide) rfl (fun ls hl => ?_)
        refine lv_goto (tgt := 39) hx hb dX12_column_68 (by decide) ?_
        exact ih (i + 1) ls (by omega) (by omega) (lt_s hg c_2) (lv_sub hl [0, 1, 2, 3, 4] rfl)
      ·
        exact kx63 i ls hlt c_2 hg (lv_sub hl [0, 1, 2, 3, 4] rfl)
set_option maxHeartbeats 4000000 in
set_option maxRecDepth 100000 in
theorem m_column (l : Launch) (dC : Nat → ClassId) (dI : Nat → Nat → Nat) (h0 : Nat) (v : Nat → Nat) (cI cZ : ClassId) (u : mS) (p0 p1 p2 : Int32) (sz : Nat) : Met l yX12_column wsX12_column ({ frames := 2, cells := 0, slots := 0, locals := 42 }) (va_Pc [.ref h0, .int p0, .int p1, .int p2] (fun U => U.heap.size = sz ∧ PW dC dI (mW h0 v cI cZ u) [(cI, .int), (cZ, .boolean)] U ∧ va_D (fun _ => True) (mW h0 v cI cZ u))) (va_Qi (fun (r : Int32) (u9 : mS) => (r, u9) = mColumn u p0 p1 p2) (fun u9 t => va_P (dC, dI) vwCl (mW h0 v cI cZ u9) t.heap ∧ va_D (va_A (mW h0 v cI cZ u) sz) (mW h0 v cI cZ u9)) (va_A (mW h0 v cI cZ u) sz)) 0 0 (va_A (mW h0 v cI cZ u) sz) := by
  refine Met.ofW (cc := cX12_column) (maxL := 5) (ret := (some .boolean)) (by decide) rfl ?_
  intro p e s m args below meth c s₁ B hml hv
  obtain ⟨rfl, hsz, ⟨hP, hK, hN⟩, hD0⟩ := hv
  have hx := B.exec
  have hb := B.bytes
  have hr := B.returns
  have hts := atoms_spec (ws := wsX12_column) B.pre
  have hown : s.vm.findClass RX12 = some m.cls := findClass_of_methodNamed B.named
  have hlocks := B.notSynchronized
  subst hsz
  have hD := hD0.self (sz := s.heap.size)
  generalize hAe : va_A (mW h0 v cI cZ u) s.heap.size = A at hD ⊢
  have hA : ∀ q : Nat, s.heap.size ≤ q → A q := fun q h => by rw [← hAe]; exact Or.inr h
  have hS : va_S A s.heap s.heap [] := va_S.rf
  have hl := lv_entry ([.ref h0, .int p0, .int p1, .int p2]) (n := 5) (Nat.le_of_ble_eq_true rfl)
  rw [lg_entry_eq]
  generalize (lg_sl ([.ref h0, .int p0, .int p1, .int p2]) ++ List.replicate (5 - (lg_sl ([.ref h0, .int p0, .int p1, .int p2])).length) Slot.unset).toArray = ls at hl ⊢
  have hl : lv_has ls 5 [(0, .ref h0), (1, .int p0), (2, .int p1), (3, .int p2)] := hl
  refine lv_iload_n hx hb dX12_column_0 rfl (lv_at hl 1 rfl) ?_
  refine vp_callSi (va_runS (As := [.int p0]) (rest := []) ⟨hx, hb, hml, hown, hts⟩ (m_isPage l dC dI p0) (va_cwS 1 hts gX12_column_X12_isPage rfl rfl rfl (by decide +kernel) ⟨Nat.le_of_ble_eq_true rfl, Nat.le_of_ble_eq_true rfl⟩) ⟨pw_fb, fun U hU hW => ⟨rfl, pw_to hU hW (hP.sub (ws' := []) [] rfl) (hK.sub (tys' := []) [] rfl) hN⟩⟩ rfl rfl hl.1 rfl (lv_room (Nat.le_of_ble_eq_true rfl)) dX12_column_1 ⟨Nat.le_of_ble_eq_true rfl, Nat.le_of_ble_eq_true rfl⟩).run (fun r hw => ?_)
  rcases Bool.eq_false_or_eq_true (bw p0 0 11) with b_1 | b_1
  ·
    obtain rfl : r = 1 := b_t hw b_1
    refine lv_if_eq (tgt := 34) hx hb dX12_column_4 (by decide) (fun c_2 => absurd c_2 (by decide)) (fun c_2 => ?_)
    refine lv_iload_n hx hb dX12_column_7 rfl (lv_at hl 2 rfl) ?_
    refine lv_iconst (v := 0) hx hb dX12_column_8 (by decide) ?_
    refine lv_bipush (v := 7) hx hb dX12_column_9 (by decide) ?_
    refine vp_callSi (va_runS (As := [.int p1, .int 0, .int 7]) (rest := []) ⟨hx, hb, hml, hown, hts⟩ (m_in l dC dI p1 0 7) (va_cwS 3 hts gX12_column_X12_in rfl rfl rfl (by decide +kernel) ⟨Nat.le_of_ble_eq_true rfl, Nat.le_of_ble_eq_true rfl⟩) ⟨pw_fb, fun U hU hW => ⟨rfl, pw_to hU hW (hP.sub (ws' := []) [] rfl) (hK.sub (tys' := []) [] rfl) hN⟩⟩ rfl rfl hl.1 rfl (lv_room (Nat.le_of_ble_eq_true rfl)) dX12_column_11 ⟨Nat.le_of_ble_eq_true rfl, Nat.le_of_ble_eq_true rfl⟩).run (fun r hw => ?_)
    rcases Bool.eq_false_or_eq_true (bw p1 0 7) with b_3 | b_3
    ·
      obtain rfl : r = 1 := b_t hw b_3
      refine lv_if_eq (tgt := 34) hx hb dX12_column_14 (by decide) (fun c_4 => absurd c_4 (by decide)) (fun c_4 => ?_)
      refine lv_iload_n hx hb dX12_column_17 rfl (lv_at hl 3 rfl) ?_
      refine lv_iconst (v := 0) hx hb dX12_column_18 (by decide) ?_
      refine lv_bipush (v := 60) hx hb dX12_column_19 (by decide) ?_
      refine vp_callSi (va_runS (As := [.int p2, .int 0, .int 60]) (rest := []) ⟨hx, hb, hml, hown, hts⟩ (m_in l dC dI p2 0 60) (va_cwS 3 hts gX12_column_X12_in rfl rfl rfl (by decide +kernel) ⟨Nat.le_of_ble_eq_true rfl, Nat.le_of_ble_eq_true rfl⟩) ⟨pw_fb, fun U hU hW => ⟨rfl, pw_to hU hW (hP.sub (ws' := []) [] rfl) (hK.sub (tys' := []) [] rfl) hN⟩⟩ rfl rfl hl.1 rfl (lv_room (Nat.le_of_ble_eq_true rfl)) dX12_column_21 ⟨Nat.le_of_ble_eq_true rfl, Nat.le_of_ble_eq_true rfl⟩).run (fun r hw => ?_)
      rcases Bool.eq_false_or_eq_true (bw p2 0 60) with b_5 | b_5
      ·
        obtain rfl : r = 1 := b_t hw b_5
        refine lv_if_eq (tgt := 34) hx hb dX12_column_24 (by decide) (fun c_6 => absurd c_6 (by decide)) (fun c_6 => ?_)
        refine lv_aload_n hx hb dX12_column_27 rfl (lv_at hl 0 rfl) ?_
        refine va_get (D := (dC, dI)) (ci := 11) (v := .int (u.1 28)) (C := RX12) (T := TX12) (N := 52) hx hb hts (by decide +kernel) hown hK hP 0 rfl rfl 28 (by decide) (hts (.fieldLink RX12 158 "PageOneModel" "acts" "I") (by decide +kernel)) (fun _ h9 => h9) rfl dX12_column_28 ?_
        refine lv_if_le (tgt := 36) hx hb dX12_column_31 (by decide) (fun c_7 => ?_) (fun c_7 => ?_)
        ·
          refine lv_iconst (v := 0) hx hb dX12_column_36 (by decide) ?_
          refine lv_istore (lv' := [(4, .int 0), (0, .ref h0), (1, .int p0), (2, .int p1), (3, .int p2)]) hx hb dX12_column_37 hl (by decide) rfl (fun ls hl => ?_)
          refine m_column_loop (p2 := p2) hx hb hml hts hown hN hK (Nat.le_of_ble_eq_true rfl) (Nat.le_of_ble_eq_true rfl) (Nat.le_of_ble_eq_true rfl) (Nat.le_of_ble_eq_true rfl) hP b_1 b_3 (fun i ls hlt hne hg hl => ?_) (fun ls hg hl => ?_) 61 0 ls (by decide) (by decide) (fun j hj => absurd hj (Nat.not_lt_zero _)) (lv_sub hl [0, 1, 2, 3, 4] rfl)
          ·
            refine lv_iconst (v := 0) hx hb dX12_column_63 (by decide) ?_
            exact W.zret (v := 0) hx hb hr (by decide) (fun t ht hW => ⟨⟨0, u, rfl, (by unfold mColumn; rw [if_pos b_1, if_pos b_3, if_pos b_5, if_pos c_7, if_neg (bne (mBare_f hlt hne))]), by rw [ht]; exact hP, hD⟩, hS.F ht⟩) hS.2.2 dX12_column_64
          ·
            refine lv_aload_n hx hb dX12_column_71 rfl (lv_at hl 1 rfl) ?_
            refine va_get (D := (dC, dI)) (ci := 11) (v := .ref (v 0)) (C := RX12) (T := TX12) (N := 52) hx hb hts (by decide +kernel) hown hK hP 0 rfl rfl 0 (by decide) (hts (.fieldLink RX12 7 "PageOneModel" "lines" "[I") (by decide +kernel)) (fun _ h9 => h9) rfl dX12_column_72 ?_
            refine lv_bipush (v := 8) hx hb dX12_column_75 (by decide) ?_
            refine lv_iload_n hx hb dX12_column_77 rfl (lv_at hl 2 rfl) ?_
            refine lv_imul hx hb dX12_column_78 ?_
            refine lv_iload_n hx hb dX12_column_79 rfl (lv_at hl 3 rfl) ?_
            refine lv_iadd hx hb dX12_column_80 ?_
            refine lv_iload_n hx hb dX12_column_81 rfl (lv_at hl 4 rfl) ?_
            refine va_iast hx hb hK hP hD hS 1 0 rfl rfl (vin8 b_1 b_3) dX12_column_82 (fun H locs hP hD hS => ?_)
            obtain ⟨u_8, eu_8⟩ : ∃ zz : mS, zz = mst u 0 ((8 * p0) + p1) p2 := ⟨_, rfl⟩
            have hP : va_P (dC, dI) vwCl (mW h0 v cI cZ u_8) H := by rw [eu_8]; exact hP
            have hD : va_D A (mW h0 v cI cZ u_8) := by rw [eu_8]; exact hD
            refine lv_iconst (v := 1) hx hb dX12_column_83 (by decide) ?_
            exact W.zret (v := 1) hx hb hr (by decide) (fun t ht hW => ⟨⟨1, u_8, rfl, (by rw [eu_8]; unfold mColumn; rw [if_pos b_1, if_pos b_3, if_pos b_5, if_pos c_7, if_pos (mBare_t hg)]), by rw [ht]; exact hP, hD⟩, hS.F ht⟩) hS.2.2 dX12_column_84
        ·
          refine lv_iconst (v := 0) hx hb dX12_column_34 (by decide) ?_
          exact W.zret (v := 0) hx hb hr (by decide) (fun t ht hW => ⟨⟨0, u, rfl, (by unfold mColumn; rw [if_pos b_1, if_pos b_3, if_pos b_5, if_neg c_7]), by rw [ht]; exact hP, hD⟩, hS.F ht⟩) hS.2.2 dX12_column_35
      ·
        obtain rfl : r = 0 := b_f hw b_5
        refine lv_if_eq (tgt := 34) hx hb dX12_column_24 (by decide) (fun c_9 => ?_) (fun c_9 => absurd (by decide) c_9)
        refine lv_iconst (v := 0) hx hb dX12_column_34 (by decide) ?_
        exact W.zret (v := 0) hx hb hr (by decide) (fun t ht hW => ⟨⟨0, u, rfl, (by unfold mColumn; rw [if_pos b_1, if_pos b_3, if_neg (bne b_5)]), by rw [ht]; exact hP, hD⟩, hS.F ht⟩) hS.2.2 dX12_column_35
    ·
      obtain rfl : r = 0 := b_f hw b_3
      refine lv_if_eq (tgt := 34) hx hb dX12_column_14 (by decide) (fun c_10 => ?_) (fun c_10 => absurd (by decide) c_10)
      refine lv_iconst (v := 0) hx hb dX12_column_34 (by decide) ?_
      exact W.zret (v := 0) hx hb hr (by decide) (fun t ht hW => ⟨⟨0, u, rfl, (by unfold mColumn; rw [if_pos b_1, if_neg (bne b_3)]), by rw [ht]; exact hP, hD⟩, hS.F ht⟩) hS.2.2 dX12_column_35
  ·
    obtain rfl : r = 0 := b_f hw b_1
    refine lv_if_eq (tgt := 34) hx hb dX12_column_4 (by decide) (fun c_11 => ?_) (fun c_11 => absurd (by decide) c_11)
    refine lv_iconst (v := 0) hx hb dX12_column_34 (by decide) ?_
    exact W.zret (v := 0) hx hb hr (by decide) (fun t ht hW => ⟨⟨0, u, rfl, (by unfold mColumn; rw [if_neg (bne b_1)]), by rw [ht]; exact hP, hD⟩, hS.F ht⟩) hS.2.2 dX12_column_35
