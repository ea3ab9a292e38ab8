/-- how many of a column's first cells are empty -/
def mEmp (f : Nat → Int32) (b : Int32) : Nat → Int32
  | 0 => 0
  | n + 1 => mEmp f b n + (if f (b + nI n).toNatClampNeg = (-2) then 1 else 0)
def mShort (u : mS) (p c : Int32) : Int32 := if bw p 0 11 = true then (if bw c 0 7 = true then mEmp (u.2 2) (480 * p + 60 * c) (u.2 0 (8 * p + c).toNatClampNeg).toNatClampNeg else (-1)) else (-1)
/-- whether a piece stands among a page's first cells -/
def mHas (f : Nat → Int32) (b : Int32) : Nat → Bool
  | 0 => false
  | n + 1 => mHas f b n || (!decide (f (b + nI n).toNatClampNeg < 0) && !decide (f (b + nI n).toNatClampNeg = 100))
def mMeasure (u : mS) (p x : Int32) : Int32 × mS := if bw p 0 11 = true then (if bw x 1 200 = true then (if 0 < u.1 28 then (0, u) else if mHas (u.2 2) (480 * p) 480 = true then (0, u) else (1, mst u 1 p x)) else (0, u)) else (0, u)
/-- a column without anything -/
def mBare (f : Nat → Int32) (b : Int32) : Bool := (List.range 60).all (fun l => decide (f (b + nI l).toNatClampNeg = (-2)))
def mColumn (u : mS) (p c n : Int32) : Int32 × mS := if bw p 0 11 = true then (if bw c 0 7 = true then (if bw n 0 60 = true then (if u.1 28 ≤ 0 then (if mBare (u.2 2) (480 * p + 60 * c) = true then (1, mst u 0 (8 * p + c) n) else (0, u)) else (0, u)) else (0, u)) else (0, u)) else (0, u)
theorem mBare_t {f : Nat → Int32} {b : Int32} (h : ∀ j, j < 60 → f (b + nI j).toNatClampNeg = (-2)) : mBare f b = true := by
  unfold mBare; rw [List.all_eq_true]; intro x hx; rw [decide_eq_true_iff]; exact h x (List.mem_range.mp hx)
theorem mBare_f {f : Nat → Int32} {b : Int32} {i : Nat} (hi : i < 60) (h : ¬ f (b + nI i).toNatClampNeg = (-2)) : mBare f b = false := by
  rw [← Bool.not_eq_true]; unfold mBare; rw [List.all_eq_true]
  intro q; exact h (decide_eq_true_iff.mp (q i (List.mem_range.mpr hi)))
theorem nz {b : Bool} {a : Int32} (h : a = bi b) (h2 : ¬ a = 0) : b = true := by
  cases b
  · exact absurd h h2
  · rfl
theorem zz0 {b : Bool} {a : Int32} (h : a = bi b) (h2 : a = 0) : b = false := by
  cases b
  · rfl
  · rw [h2] at h; exact absurd h (by decide)
theorem nI_of_bw {x hi : Int32} (h : bw x 0 hi = true) : x = nI x.toNatClampNeg ∧ (x.toNatClampNeg : Int) = x.toInt ∧ x.toInt ≤ hi.toInt := by
  have h1 := bw_iff.mp h
  rw [i0] at h1
  obtain ⟨j, hj, e⟩ := nI_of (x := x) (fun q => by rw [i32_lt, i0] at q; omega)
  subst e
  rw [nI_clamp hj, nI_toInt hj]
  rw [nI_toInt hj] at h1
  exact ⟨rfl, rfl, h1.2⟩
set_option maxHeartbeats 4000000 in
set_option maxRecDepth 100000 in
theorem m_shortOf_loop {p : Program} {l : Launch} {e : Env} {R : Room} {s : State} {m : MethodId} {args : Array Value} {below : List Frame} {meth : Method} {c : Code} {Q : State → Prop} {cells slots : Nat} {dC : Nat → ClassId} {dI : Nat → Nat → Nat} {h0 : Nat} {v : Nat → Nat} {cI cZ : ClassId} {H : Heap} {locs : List Loc} {u : mS} (hx : p.tables.exec = Jvm.exec) (hb : c.code = cX12_shortOf) (hml : c.maxLocals = 5) (hts : ∀ w ∈ wsX12_shortOf, w.before args s = true) (hown : s.vm.findClass RX12 = some m.cls) (hN : NN s) (hK : va_K (dC, dI) vwCl [(cI, .int), (cZ, .boolean)] s) (hRf : 1 ≤ R.frames) (hRl : 22 ≤ R.locals) (hRc : cells ≤ R.cells) (hRs : slots ≤ R.slots) (hP : va_P (dC, dI) vwCl (mW h0 v cI cZ u) H) {p0 p1 : Int32} {K : Nat} (hp : bw p0 0 11 = true) (hq : bw p1 0 7 = true) (hK60 : K ≤ 60) (eK : u.2 0 (8 * p0 + p1).toNatClampNeg = nI K) (kx : ∀ (a : Int32) (ls : Array Slot), a = mEmp (u.2 2) (480 * p0 + 60 * p1) K → lv_has ls 5 [(4, .int (nI K)), (3, .int a), (0, .ref h0), (1, .int p0), (2, .int p1)] → W p l e R s m args below meth c H locs cells slots Q (F0 m 71 ls [])) : ∀ (k i : Nat) (a : Int32) (ls : Array Slot), i ≤ K → K - i < k → a = mEmp (u.2 2) (480 * p0 + 60 * p1) i → lv_has ls 5 [(4, .int (nI i)), (3, .int a), (0, .ref h0), (1, .int p0), (2, .int p1)] → W p l e R s m args below meth c H locs cells slots Q (F0 m 24 ls []) := by
  intro k
  induction k with
  | zero => intro i a ls h1 h2; exact absurd h2 (Nat.not_lt_zero _)
  | succ k ih =>
    intro i a ls hi hk hg hl
    refine lv_iload hx hb dX12_shortOf_24 (lv_at hl 0 rfl) ?_
    refine lv_aload_n hx hb dX12_shortOf_26 rfl (lv_at hl 2 rfl) ?_
    refine va_get (D := (dC, dI)) (ci := 11) (v := .ref (v 0)) (C := RX12) (T := TX12) (N := 52) hx hb hts zl_X12_shortOf_X12 hown hK hP 0 rfl rfl 0 (by decide) (hts (.fieldLink RX12 7 "PageOneModel" "lines" "[I") (zat q_wsX12_shortOf k_wsX12_shortOf 882 rfl (by decide +kernel))) (fun _ h9 => h9) rfl dX12_shortOf_27 ?_
    refine lv_bipush (v := 8) hx hb dX12_shortOf_30 (by decide) ?_
    refine lv_iload_n hx hb dX12_shortOf_32 rfl (lv_at hl 3 rfl) ?_
    refine lv_imul hx hb dX12_shortOf_33 ?_
    refine lv_iload_n hx hb dX12_shortOf_34 rfl (lv_at hl 4 rfl) ?_
    refine lv_iadd hx hb dX12_shortOf_35 ?_
    refine va_iald hx hb hK hP 1 0 rfl rfl (vin8 hp hq) dX12_shortOf_36 ?_
    refine lv_topi (fun y_1 ey_1 => ?_)
    obtain rfl : y_1 = (nI K) := ey_1.trans (eK)
    refine lv_icmp_ge (tgt := 71) hx hb dX12_shortOf_37 (by decide) (fun c_2 => ?_) (fun c_2 => ?_)
    ·
      have hie : i = K := lp_eq rfl (by omega) hi c_2
      rw [hie] at hg hl
      exact kx _ ls hg (lv_sub hl [0, 1, 2, 3, 4] rfl)
    ·
      have hlt : i < K := lp_lt rfl (by omega) hi c_2
      refine lv_iload_n hx hb dX12_shortOf_40 rfl (lv_at hl 1 rfl) ?_
      refine lv_aload_n hx hb dX12_shortOf_41 rfl (lv_at hl 2 rfl) ?_
      refine va_get (D := (dC, dI)) (ci := 11) (v := .ref (v 2)) (C := RX12) (T := TX12) (N := 52) hx hb hts zl_X12_shortOf_X12 hown hK hP 0 rfl rfl 2 (by decide) (hts (.fieldLink RX12 16 "PageOneModel" "cell" "[I") (zat q_wsX12_shortOf k_wsX12_shortOf 884 rfl (by decide +kernel))) (fun _ h9 => h9) rfl dX12_shortOf_42 ?_
      refine lv_iload_n hx hb dX12_shortOf_45 rfl (lv_at hl 3 rfl) ?_
      refine lv_iload_n hx hb dX12_shortOf_46 rfl (lv_at hl 4 rfl) ?_
      refine lv_iload hx hb dX12_shortOf_47 (lv_at hl 0 rfl) ?_
      refine vp_callSi (va_runS (As := [.int p0, .int p1, .int (nI i)]) (rest := [.ref (v 2), .int a]) ⟨hx, hb, hml, hown, hts⟩ (m_at l dC dI p0 p1 (nI i)) (va_cwS 3 hts gX12_shortOf_X12_at rfl rfl rfl zh_X12_at_7 ⟨hRf, hRl⟩) ⟨pw_fb, fun U hU hW => ⟨rfl, pw_to hU hW (hP.sub (ws' := []) [] rfl) (hK.sub (tys' := []) [] rfl) hN⟩⟩ rfl rfl hl.1 rfl (lv_room (Nat.le_of_ble_eq_true rfl)) dX12_shortOf_49 ⟨hRc, hRs⟩).run (fun r hw => ?_)
      obtain rfl : r = (480 * p0 + 60 * p1 + (nI i)) := hw
      refine va_iald hx hb hK hP 3 0 rfl rfl (vinC hp hq (by omega)) dX12_shortOf_52 ?_
      refine lv_bipush (v := (-2)) hx hb dX12_shortOf_53 (by decide) ?_
      refine lv_icmp_ne (tgt := 62) hx hb dX12_shortOf_55 (by decide) (fun c_3 => ?_) (fun c_3 => ?_)
      ·
        refine lv_iconst (v := 0) hx hb dX12_shortOf_62 (by decide) ?_
        refine lv_iadd hx hb dX12_shortOf_63 ?_
        refine lv_topi (fun x_4 ex_4 => ?_)
        refine lv_istore_n (lv' := [(3, .int x_4), (4, .int (nI i)), (0, .ref h0), (1, .int p0), (2, .int p1)]) hx hb dX12_shortOf_64 rfl hl (by decide) rfl (fun ls hl => ?_)
        refine lv_iinc (v := (nI (i + 1))) (lv' := [(4, .int (nI (i + 1))), (3, .int x_4), (0, .ref h0), (1, .int p0), (2, .int p1)]) hx hb dX12_shortOf_65 hl (k := 1) rfl (nI_1 i) (by decide) rfl (fun ls hl => ?_)
        refine lv_goto (tgt := 24) hx hb dX12_shortOf_68 (by decide) ?_
        exact ih (i + 1) _ ls (by omega) (by omega) (by subst_vars; simp [mEmp, c_3]) (lv_sub hl [0, 1, 2, 3, 4] rfl)
      ·
        refine lv_iconst (v := 1) hx hb dX12_shortOf_58 (by decide) ?_
        refine lv_goto (tgt := 63) hx hb dX12_shortOf_59 (by decide) ?_
        refine lv_iadd hx hb dX12_shortOf_63 ?_
        refine lv_topi (fun x_5 ex_5 => ?_)
        refine lv_istore_n (lv' := [(3, .int x_5), (4, .int (nI i)), (0, .ref h0), (1, .int p0), (2, .int p1)]) hx hb dX12_shortOf_64 rfl hl (by decide) rfl (fun ls hl => ?_)
        refine lv_iinc (v := (nI (i + 1))) (lv' := [(4, .int (nI (i + 1))), (3, .int x_5), (0, .ref h0), (1, .int p0), (2, .int p1)]) hx hb dX12_shortOf_65 hl (k := 1) rfl (nI_1 i) (by decide) rfl (fun ls hl => ?_)
        refine lv_goto (tgt := 24) hx hb dX12_shortOf_68 (by decide) ?_
        exact ih (i + 1) _ ls (by omega) (by omega) (by subst_vars; simp [mEmp, c_3]) (lv_sub hl [0, 1, 2, 3, 4] rfl)
set_option maxHeartbeats 4000000 in
set_option maxRecDepth 100000 in
theorem m_shortOf (l : Launch) (dC : Nat → ClassId) (dI : Nat → Nat → Nat) (h0 : Nat) (v : Nat → Nat) (cI cZ : ClassId) (u : mS) (p0 p1 : Int32) (hln : ∀ j, j < 96 → bw (u.2 0 j) 0 60 = true) : Met l yX12_shortOf wsX12_shortOf ({ frames := 2, cells := 0, slots := 0, locals := 42 }) (va_Pc [.ref h0, .int p0, .int p1] (PW dC dI (mW h0 v cI cZ u) [(cI, .int), (cZ, .boolean)])) (vp_Si (fun r => r = mShort u p0 p1)) 0 0 (fun _ => False) := by
  refine Met.ofW (cc := cX12_shortOf) (maxL := 5) (ret := (some .int)) (by decide) rfl ?_
  intro p e s m args below meth c s₁ B hml hv
  obtain ⟨rfl, hP, hK, hN⟩ := hv
  have hx := B.exec
  have hb := B.bytes
  have hr := B.returns
  have hts := atoms_spec (ws := wsX12_shortOf) B.pre
  have hown : s.vm.findClass RX12 = some m.cls := findClass_of_methodNamed B.named
  have hlocks := B.notSynchronized
  have hl := lv_entry ([.ref h0, .int p0, .int p1]) (n := 5) (Nat.le_of_ble_eq_true rfl)
  rw [lg_entry_eq]
  generalize (lg_sl ([.ref h0, .int p0, .int p1]) ++ List.replicate (5 - (lg_sl ([.ref h0, .int p0, .int p1])).length) Slot.unset).toArray = ls at hl ⊢
  have hl : lv_has ls 5 [(0, .ref h0), (1, .int p0), (2, .int p1)] := hl
  refine lv_iload_n hx hb dX12_shortOf_0 rfl (lv_at hl 1 rfl) ?_
  refine vp_callSi (va_runS (As := [.int p0]) (rest := []) ⟨hx, hb, hml, hown, hts⟩ (m_isPage l dC dI p0) (va_cwS 1 hts gX12_shortOf_X12_isPage rfl rfl rfl zh_X12_isPage_4 ⟨Nat.le_of_ble_eq_true rfl, Nat.le_of_ble_eq_true rfl⟩) ⟨pw_fb, fun U hU hW => ⟨rfl, pw_to hU hW (hP.sub (ws' := []) [] rfl) (hK.sub (tys' := []) [] rfl) hN⟩⟩ rfl rfl hl.1 rfl (lv_room (Nat.le_of_ble_eq_true rfl)) dX12_shortOf_1 ⟨Nat.le_of_ble_eq_true rfl, Nat.le_of_ble_eq_true rfl⟩).run (fun r hw => ?_)
  rcases Bool.eq_false_or_eq_true (bw p0 0 11) with b_1 | b_1
  ·
    obtain rfl : r = 1 := b_t hw b_1
    refine lv_if_eq (tgt := 17) hx hb dX12_shortOf_4 (by decide) (fun c_2 => absurd c_2 (by decide)) (fun c_2 => ?_)
    refine lv_iload_n hx hb dX12_shortOf_7 rfl (lv_at hl 2 rfl) ?_
    refine lv_iconst (v := 0) hx hb dX12_shortOf_8 (by decide) ?_
    refine lv_bipush (v := 7) hx hb dX12_shortOf_9 (by decide) ?_
    refine vp_callSi (va_runS (As := [.int p1, .int 0, .int 7]) (rest := []) ⟨hx, hb, hml, hown, hts⟩ (m_in l dC dI p1 0 7) (va_cwS 3 hts gX12_shortOf_X12_in rfl rfl rfl zh_X12_in_0 ⟨Nat.le_of_ble_eq_true rfl, Nat.le_of_ble_eq_true rfl⟩) ⟨pw_fb, fun U hU hW => ⟨rfl, pw_to hU hW (hP.sub (ws' := []) [] rfl) (hK.sub (tys' := []) [] rfl) hN⟩⟩ rfl rfl hl.1 rfl (lv_room (Nat.le_of_ble_eq_true rfl)) dX12_shortOf_11 ⟨Nat.le_of_ble_eq_true rfl, Nat.le_of_ble_eq_true rfl⟩).run (fun r hw => ?_)
    rcases Bool.eq_false_or_eq_true (bw p1 0 7) with b_3 | b_3
    ·
      obtain rfl : r = 1 := b_t hw b_3
      refine lv_if_ne (tgt := 19) hx hb dX12_shortOf_14 (by decide) (fun c_4 => ?_) (fun c_4 => absurd c_4 (by decide))
      refine lv_iconst (v := 0) hx hb dX12_shortOf_19 (by decide) ?_
      refine lv_istore_n (lv' := [(3, .int 0), (0, .ref h0), (1, .int p0), (2, .int p1)]) hx hb dX12_shortOf_20 rfl hl (by decide) rfl (fun ls hl => ?_)
      refine lv_iconst (v := 0) hx hb dX12_shortOf_21 (by decide) ?_
      refine lv_istore (lv' := [(4, .int 0), (3, .int 0), (0, .ref h0), (1, .int p0), (2, .int p1)]) hx hb dX12_shortOf_22 hl (by decide) rfl (fun ls hl => ?_)
      obtain ⟨eK, eK2, eK3⟩ := nI_of_bw (hln _ (vlt (vin8 b_1 b_3)))
      have h60 : (60 : Int32).toInt = 60 := rfl
      refine m_shortOf_loop (K := (u.2 0 (8 * p0 + p1).toNatClampNeg).toNatClampNeg) hx hb hml hts hown hN hK (Nat.le_of_ble_eq_true rfl) (Nat.le_of_ble_eq_true rfl) (Nat.le_of_ble_eq_true rfl) (Nat.le_of_ble_eq_true rfl) hP b_1 b_3 (by omega) eK (fun a ls hg hl => ?_) _ 0 0 ls (Nat.zero_le _) (Nat.lt_succ_self _) rfl (lv_sub hl [0, 1, 2, 3, 4] rfl)
      refine lv_iload_n hx hb dX12_shortOf_71 rfl (lv_at hl 1 rfl) ?_
      exact W.iret (v := a) hx hb hr (fun t ht hW => ⟨_, rfl, (by unfold mShort; rw [if_pos b_1, if_pos b_3]; exact hg), ht⟩) (fun q h => absurd h List.not_mem_nil) dX12_shortOf_72
    ·
      obtain rfl : r = 0 := b_f hw b_3
      refine lv_if_ne (tgt := 19) hx hb dX12_shortOf_14 (by decide) (fun c_5 => absurd (by decide) c_5) (fun c_5 => ?_)
      refine lv_iconst (v := (-1)) hx hb dX12_shortOf_17 (by decide) ?_
      exact W.iret (v := (-1)) hx hb hr (fun t ht hW => ⟨_, rfl, (by first | (unfold mShort; rw [if_pos b_1, if_neg (bne b_3)]; done) | (unfold mShort; rw [if_pos b_1, if_neg (bne b_3)]; rfl) | (simp [mShort, b_1, b_3]; done)), ht⟩) (fun q h => absurd h List.not_mem_nil) dX12_shortOf_18
  ·
    obtain rfl : r = 0 := b_f hw b_1
    refine lv_if_eq (tgt := 17) hx hb dX12_shortOf_4 (by decide) (fun c_6 => ?_) (fun c_6 => absurd (by decide) c_6)
    refine lv_iconst (v := (-1)) hx hb dX12_shortOf_17 (by decide) ?_
    exact W.iret (v := (-1)) hx hb hr (fun t ht hW => ⟨_, rfl, (by first | (unfold mShort; rw [if_neg (bne b_1)]; done) | (unfold mShort; rw [if_neg (bne b_1)]; rfl) | (simp [mShort, b_1]; done)), ht⟩) (fun q h => absurd h List.not_mem_nil) dX12_shortOf_18
set_option maxHeartbeats 4000000 in
set_option maxRecDepth 100000 in
theorem m_hasPiece_loop {p : Program} {l : Launch} {e : Env} {R : Room} {s : State} {m : MethodId} {args : Array Value} {below : List Frame} {meth : Method} {c : Code} {Q : State → Prop} {cells slots : Nat} {dC : Nat → ClassId} {dI : Nat → Nat → Nat} {h0 : Nat} {v : Nat → Nat} {cI cZ : ClassId} {H : Heap} {locs : List Loc} {u : mS} (hx : p.tables.exec = Jvm.exec) (hb : c.code = cX12_hasPiece) (hml : c.maxLocals = 4) (hts : ∀ w ∈ wsX12_hasPiece, w.before args s = true) (hown : s.vm.findClass RX12 = some m.cls) (hN : NN s) (hK : va_K (dC, dI) vwCl [(cI, .int), (cZ, .boolean)] s) (hP : va_P (dC, dI) vwCl (mW h0 v cI cZ u) H) {p0 : Int32} (hp : bw p0 0 11 = true) (kx : ∀ (a : Int32) (ls : Array Slot), a = bi (mHas (u.2 2) (480 * p0) 480) → lv_has ls 4 [(3, .int (nI 480)), (2, .int a), (0, .ref h0), (1, .int p0)] → W p l e R s m args below meth c H locs cells slots Q (F0 m 59 ls [])) : ∀ (k i : Nat) (a : Int32) (ls : Array Slot), i ≤ 480 → 480 - i < k → a = bi (mHas (u.2 2) (480 * p0) i) → lv_has ls 4 [(3, .int (nI i)), (2, .int a), (0, .ref h0), (1, .int p0)] → W p l e R s m args below meth c H locs cells slots Q (F0 m 4 ls []) := by
  intro k
  induction k with
  | zero => intro i a ls h1 h2; exact absurd h2 (Nat.not_lt_zero _)
  | succ k ih =>
    intro i a ls hi hk hg hl
    refine lv_iload_n hx hb dX12_hasPiece_4 rfl (lv_at hl 0 rfl) ?_
    refine lv_sipush (v := 480) hx hb dX12_hasPiece_5 (by decide) ?_
    refine lv_icmp_ge (tgt := 59) hx hb dX12_hasPiece_8 (by decide) (fun c_1 => ?_) (fun c_1 => ?_)
    ·
      have hie : i = 480 := lp_eq rfl (by decide) hi c_1
      subst hie
      exact kx _ ls hg (lv_sub hl [0, 1, 2, 3] rfl)
    ·
      have hlt : i < 480 := lp_lt rfl (by decide) hi c_1
      refine lv_iload_n hx hb dX12_hasPiece_11 rfl (lv_at hl 1 rfl) ?_
      refine lv_if_ne (tgt := 47) hx hb dX12_hasPiece_12 (by decide) (fun c_2 => ?_) (fun c_2 => ?_)
      ·
        refine lv_iconst (v := 1) hx hb dX12_hasPiece_47 (by decide) ?_
        refine lv_goto (tgt := 52) hx hb dX12_hasPiece_48 (by decide) ?_
        refine lv_istore_n (lv' := [(2, .int 1), (3, .int (nI i)), (0, .ref h0), (1, .int p0)]) hx hb dX12_hasPiece_52 rfl hl (by decide) rfl (fun ls hl => ?_)
        refine lv_iinc (v := (nI (i + 1))) (lv' := [(3, .int (nI (i + 1))), (2, .int 1), (0, .ref h0), (1, .int p0)]) hx hb dX12_hasPiece_53 hl (k := 1) rfl (nI_1 i) (by decide) rfl (fun ls hl => ?_)
        refine lv_goto (tgt := 4) hx hb dX12_hasPiece_56 (by decide) ?_
        exact ih (i + 1) _ ls (by omega) (by omega) (by rw [mHas, nz hg c_2]; rfl) (lv_sub hl [0, 1, 2, 3] rfl)
      ·
        refine lv_aload_n hx hb dX12_hasPiece_15 rfl (lv_at hl 2 rfl) ?_
        refine va_get (D := (dC, dI)) (ci := 11) (v := .ref (v 2)) (C := RX12) (T := TX12) (N := 52) hx hb hts zl_X12_hasPiece_X12 hown hK hP 0 rfl rfl 2 (by decide) (hts (.fieldLink RX12 16 "PageOneModel" "cell" "[I") (zat q_wsX12_hasPiece k_wsX12_hasPiece 884 rfl (by decide +kernel))) (fun _ h9 => h9) rfl dX12_hasPiece_16 ?_
        refine lv_sipush (v := 480) hx hb dX12_hasPiece_19 (by decide) ?_
        refine lv_iload_n hx hb dX12_hasPiece_22 rfl (lv_at hl 3 rfl) ?_
        refine lv_imul hx hb dX12_hasPiece_23 ?_
        refine lv_iload_n hx hb dX12_hasPiece_24 rfl (lv_at hl 0 rfl) ?_
        refine lv_iadd hx hb dX12_hasPiece_25 ?_
        refine va_iald hx hb hK hP 3 0 rfl rfl (vinP hp hlt) dX12_hasPiece_26 ?_
        refine lv_if_lt (tgt := 51) hx hb dX12_hasPiece_27 (by decide) (fun c_3 => ?_) (fun c_3 => ?_)
        ·
          refine lv_iconst (v := 0) hx hb dX12_hasPiece_51 (by decide) ?_
          refine lv_istore_n (lv' := [(2, .int 0), (3, .int (nI i)), (0, .ref h0), (1, .int p0)]) hx hb dX12_hasPiece_52 rfl hl (by decide) rfl (fun ls hl => ?_)
          refine lv_iinc (v := (nI (i + 1))) (lv' := [(3, .int (nI (i + 1))), (2, .int 0), (0, .ref h0), (1, .int p0)]) hx hb dX12_hasPiece_53 hl (k := 1) rfl (nI_1 i) (by decide) rfl (fun ls hl => ?_)
          refine lv_goto (tgt := 4) hx hb dX12_hasPiece_56 (by decide) ?_
          exact ih (i + 1) _ ls (by omega) (by omega) (by rw [mHas, zz0 hg c_2]; simp [bi, c_3]) (lv_sub hl [0, 1, 2, 3] rfl)
        ·
          refine lv_aload_n hx hb dX12_hasPiece_30 rfl (lv_at hl 2 rfl) ?_
          refine va_get (D := (dC, dI)) (ci := 11) (v := .ref (v 2)) (C := RX12) (T := TX12) (N := 52) hx hb hts zl_X12_hasPiece_X12 hown hK hP 0 rfl rfl 2 (by decide) (hts (.fieldLink RX12 16 "PageOneModel" "cell" "[I") (zat q_wsX12_hasPiece k_wsX12_hasPiece 884 rfl (by decide +kernel))) (fun _ h9 => h9) rfl dX12_hasPiece_31 ?_
          refine lv_sipush (v := 480) hx hb dX12_hasPiece_34 (by decide) ?_
          refine lv_iload_n hx hb dX12_hasPiece_37 rfl (lv_at hl 3 rfl) ?_
          refine lv_imul hx hb dX12_hasPiece_38 ?_
          refine lv_iload_n hx hb dX12_hasPiece_39 rfl (lv_at hl 0 rfl) ?_
          refine lv_iadd hx hb dX12_hasPiece_40 ?_
          refine va_iald hx hb hK hP 3 0 rfl rfl (vinP hp hlt) dX12_hasPiece_41 ?_
          refine lv_bipush (v := 100) hx hb dX12_hasPiece_42 (by decide) ?_
          refine lv_icmp_eq (tgt := 51) hx hb dX12_hasPiece_44 (by decide) (fun c_4 => ?_) (fun c_4 => ?_)
          ·
            refine lv_iconst (v := 0) hx hb dX12_hasPiece_51 (by decide) ?_
            refine lv_istore_n (lv' := [(2, .int 0), (3, .int (nI i)), (0, .ref h0), (1, .int p0)]) hx hb dX12_hasPiece_52 rfl hl (by decide) rfl (fun ls hl => ?_)
            refine lv_iinc (v := (nI (i + 1))) (lv' := [(3, .int (nI (i + 1))), (2, .int 0), (0, .ref h0), (1, .int p0)]) hx hb dX12_hasPiece_53 hl (k := 1) rfl (nI_1 i) (by decide) rfl (fun ls hl => ?_)
            refine lv_goto (tgt := 4) hx hb dX12_hasPiece_56 (by decide) ?_
            exact ih (i + 1) _ ls (by omega) (by omega) (by rw [mHas, zz0 hg c_2]; simp [bi, c_3, c_4]) (lv_sub hl [0, 1, 2, 3] rfl)
          ·
            refine lv_iconst (v := 1) hx hb dX12_hasPiece_47 (by decide) ?_
            refine lv_goto (tgt := 52) hx hb dX12_hasPiece_48 (by decide) ?_
            refine lv_istore_n (lv' := [(2, .int 1), (3, .int (nI i)), (0, .ref h0), (1, .int p0)]) hx hb dX12_hasPiece_52 rfl hl (by decide) rfl (fun ls hl => ?_)
            refine lv_iinc (v := (nI (i + 1))) (lv' := [(3, .int (nI (i + 1))), (2, .int 1), (0, .ref h0), (1, .int p0)]) hx hb dX12_hasPiece_53 hl (k := 1) rfl (nI_1 i) (by decide) rfl (fun ls hl => ?_)
            refine lv_goto (tgt := 4) hx hb dX12_hasPiece_56 (by decide) ?_
            exact ih (i + 1) _ ls (by omega) (by omega) (by rw [mHas, zz0 hg c_2]; simp [bi, c_3, c_4]) (lv_sub hl [0, 1, 2, 3] rfl)
set_option maxHeartbeats 4000000 in
set_option maxRecDepth 100000 in
theorem m_hasPiece (l : Launch) (dC : Nat → ClassId) (dI : Nat → Nat → Nat) (h0 : Nat) (v : Nat → Nat) (cI cZ : ClassId) (u : mS) (p0 : Int32) (hp : bw p0 0 11 = true) : Met l yX12_hasPiece wsX12_hasPiece ({ frames := 0, cells := 0, slots := 0, locals := 0 }) (va_Pc [.ref h0, .int p0] (PW dC dI (mW h0 v cI cZ u) [(cI, .int), (cZ, .boolean)])) (vp_Si (fun r => r = bi (mHas (u.2 2) (480 * p0) 480))) 0 0 (fun _ => False) := by
  refine Met.ofW (cc := cX12_hasPiece) (maxL := 4) (ret := (some .boolean)) (by decide) rfl ?_
  intro p e s m args below meth c s₁ B hml hv
  obtain ⟨rfl, hP, hK, hN⟩ := hv
  have hx := B.exec
  have hb := B.bytes
  have hr := B.returns
  have hts := atoms_spec (ws := wsX12_hasPiece) B.pre
  have hown : s.vm.findClass RX12 = some m.cls := findClass_of_methodNamed B.named
  have hlocks := B.notSynchronized
  have hl := lv_entry ([.ref h0, .int p0]) (n := 4) (Nat.le_of_ble_eq_true rfl)
  rw [lg_entry_eq]
  generalize (lg_sl ([.ref h0, .int p0]) ++ List.replicate (4 - (lg_sl ([.ref h0, .int p0])).length) Slot.unset).toArray = ls at hl ⊢
  have hl : lv_has ls 4 [(0, .ref h0), (1, .int p0)] := hl
  refine lv_iconst (v := 0) hx hb dX12_hasPiece_0 (by decide) ?_
  refine lv_istore_n (lv' := [(2, .int 0), (0, .ref h0), (1, .int p0)]) hx hb dX12_hasPiece_1 rfl hl (by decide) rfl (fun ls hl => ?_)
  refine lv_iconst (v := 0) hx hb dX12_hasPiece_2 (by decide) ?_
  refine lv_istore_n (lv' := [(3, .int 0), (2, .int 0), (0, .ref h0), (1, .int p0)]) hx hb dX12_hasPiece_3 rfl hl (by decide) rfl (fun ls hl => ?_)
  refine m_hasPiece_loop hx hb hml hts hown hN hK hP hp (fun a ls hg hl => ?_) 481 0 0 ls (by decide) (by decide) rfl (lv_sub hl [0, 1, 2, 3] rfl)
  refine lv_iload_n hx hb dX12_hasPiece_59 rfl (lv_at hl 1 rfl) ?_
  exact W.zret (v := a) hx hb hr (by rw [hg]; exact zb _) (fun t ht hW => ⟨_, rfl, hg, ht⟩) (fun q h => absurd h List.not_mem_nil) dX12_hasPiece_60
set_option maxHeartbeats 4000000 in
set_option maxRecDepth 100000 in
theorem m_measure (l : Launch) (dC : Nat → ClassId) (dI : Nat → Nat → Nat) (h0 : Nat) (v : Nat → Nat) (cI cZ : ClassId) (u : mS) (p0 p1 : Int32) (sz : Nat) : Met l yX12_measure wsX12_measure ({ frames := 2, cells := 0, slots := 0, locals := 42 }) (va_Pc [.ref h0, .int p0, .int p1] (fun U => U.heap.size = sz ∧ PW dC dI (mW h0 v cI cZ u) [(cI, .int), (cZ, .boolean)] U ∧ va_D (fun _ => True) (mW h0 v cI cZ u))) (va_Qi (fun (r : Int32) (u9 : mS) => (r, u9) = mMeasure u p0 p1) (fun u9 t => va_P (dC, dI) vwCl (mW h0 v cI cZ u9) t.heap ∧ va_D (va_A (mW h0 v cI cZ u) sz) (mW h0 v cI cZ u9)) (va_A (mW h0 v cI cZ u) sz)) 0 0 (va_A (mW h0 v cI cZ u) sz) := by
  refine Met.ofW (cc := cX12_measure) (maxL := 3) (ret := (some .boolean)) (by decide) rfl ?_
  intro p e s m args below meth c s₁ B hml hv
  obtain ⟨rfl, hsz, ⟨hP, hK, hN⟩, hD0⟩ := hv
  have hx := B.exec
  have hb := B.bytes
  have hr := B.returns
  have hts := atoms_spec (ws := wsX12_measure) B.pre
  have hown : s.vm.findClass RX12 = some m.cls := findClass_of_methodNamed B.named
  have hlocks := B.notSynchronized
  subst hsz
  have hD := hD0.self (sz := s.heap.size)
  generalize hAe : va_A (mW h0 v cI cZ u) s.heap.size = A at hD ⊢
  have hA : ∀ q : Nat, s.heap.size ≤ q → A q := fun q h => by rw [← hAe]; exact Or.inr h
  have hS : va_S A s.heap s.heap [] := va_S.rf
  have hl := lv_entry ([.ref h0, .int p0, .int p1]) (n := 3) (Nat.le_of_ble_eq_true rfl)
  rw [lg_entry_eq]
  generalize (lg_sl ([.ref h0, .int p0, .int p1]) ++ List.replicate (3 - (lg_sl ([.ref h0, .int p0, .int p1])).length) Slot.unset).toArray = ls at hl ⊢
  have hl : lv_has ls 3 [(0, .ref h0), (1, .int p0), (2, .int p1)] := hl
  refine lv_iload_n hx hb dX12_measure_0 rfl (lv_at hl 1 rfl) ?_
  refine vp_callSi (va_runS (As := [.int p0]) (rest := []) ⟨hx, hb, hml, hown, hts⟩ (m_isPage l dC dI p0) (va_cwS 1 hts gX12_measure_X12_isPage rfl rfl rfl zh_X12_isPage_4 ⟨Nat.le_of_ble_eq_true rfl, Nat.le_of_ble_eq_true rfl⟩) ⟨pw_fb, fun U hU hW => ⟨rfl, pw_to hU hW (hP.sub (ws' := []) [] rfl) (hK.sub (tys' := []) [] rfl) hN⟩⟩ rfl rfl hl.1 rfl (lv_room (Nat.le_of_ble_eq_true rfl)) dX12_measure_1 ⟨Nat.le_of_ble_eq_true rfl, Nat.le_of_ble_eq_true rfl⟩).run (fun r hw => ?_)
  rcases Bool.eq_false_or_eq_true (bw p0 0 11) with b_1 | b_1
  ·
    obtain rfl : r = 1 := b_t hw b_1
    refine lv_if_eq (tgt := 33) hx hb dX12_measure_4 (by decide) (fun c_2 => absurd c_2 (by decide)) (fun c_2 => ?_)
    refine lv_iload_n hx hb dX12_measure_7 rfl (lv_at hl 2 rfl) ?_
    refine lv_iconst (v := 1) hx hb dX12_measure_8 (by decide) ?_
    refine lv_sipush (v := 200) hx hb dX12_measure_9 (by decide) ?_
    refine vp_callSi (va_runS (As := [.int p1, .int 1, .int 200]) (rest := []) ⟨hx, hb, hml, hown, hts⟩ (m_in l dC dI p1 1 200) (va_cwS 3 hts gX12_measure_X12_in rfl rfl rfl zh_X12_in_0 ⟨Nat.le_of_ble_eq_true rfl, Nat.le_of_ble_eq_true rfl⟩) ⟨pw_fb, fun U hU hW => ⟨rfl, pw_to hU hW (hP.sub (ws' := []) [] rfl) (hK.sub (tys' := []) [] rfl) hN⟩⟩ rfl rfl hl.1 rfl (lv_room (Nat.le_of_ble_eq_true rfl)) dX12_measure_12 ⟨Nat.le_of_ble_eq_true rfl, Nat.le_of_ble_eq_true rfl⟩).run (fun r hw => ?_)
    rcases Bool.eq_false_or_eq_true (bw p1 1 200) with b_3 | b_3
    ·
      obtain rfl : r = 1 := b_t hw b_3
      refine lv_if_eq (tgt := 33) hx hb dX12_measure_15 (by decide) (fun c_4 => absurd c_4 (by decide)) (fun c_4 => ?_)
      refine lv_aload_n hx hb dX12_measure_18 rfl (lv_at hl 0 rfl) ?_
      refine va_get (D := (dC, dI)) (ci := 11) (v := .int (u.1 28)) (C := RX12) (T := TX12) (N := 52) hx hb hts zl_X12_measure_X12 hown hK hP 0 rfl rfl 28 (by decide) (hts (.fieldLink RX12 158 "PageOneModel" "acts" "I") (zat q_wsX12_measure k_wsX12_measure 910 rfl (by decide +kernel))) (fun _ h9 => h9) rfl dX12_measure_19 ?_
      refine lv_if_gt (tgt := 33) hx hb dX12_measure_22 (by decide) (fun c_5 => ?_) (fun c_5 => ?_)
      ·
        refine lv_iconst (v := 0) hx hb dX12_measure_33 (by decide) ?_
        exact W.zret (v := 0) hx hb hr (by decide) (fun t ht hW => ⟨⟨0, u, rfl, (by unfold mMeasure; rw [if_pos b_1, if_pos b_3, if_pos c_5]), by rw [ht]; exact hP, hD⟩, hS.F ht⟩) hS.2.2 dX12_measure_34
      ·
        refine lv_aload_n hx hb dX12_measure_25 rfl (lv_at hl 0 rfl) ?_
        refine lv_iload_n hx hb dX12_measure_26 rfl (lv_at hl 1 rfl) ?_
        refine vp_callSi (va_runV (As := [.int p0]) (rest := []) ⟨hx, hb, hml, hown, hts⟩ (m_hasPiece l dC dI h0 v cI cZ u p0 b_1) (cwV 1 hts gX12_measure_X12_hasPiece rfl rfl rfl zh_X12_hasPiece_11 ⟨Nat.le_of_ble_eq_true rfl, Nat.le_of_ble_eq_true rfl⟩) ⟨pw_fb, va_recv hK hP (ci := 11) (q0 := 0) rfl rfl, fun U hU hW => ⟨rfl, pw_to hU hW hP hK hN⟩⟩ rfl rfl hl.1 rfl (lv_room (Nat.le_of_ble_eq_true rfl)) dX12_measure_27 ⟨Nat.le_of_ble_eq_true rfl, Nat.le_of_ble_eq_true rfl⟩).run (fun r hw => ?_)
        rcases Bool.eq_false_or_eq_true (mHas (u.2 2) (480 * p0) 480) with b_6 | b_6
        ·
          obtain rfl : r = 1 := b_t hw b_6
          refine lv_if_eq (tgt := 35) hx hb dX12_measure_30 (by decide) (fun c_7 => absurd c_7 (by decide)) (fun c_7 => ?_)
          refine lv_iconst (v := 0) hx hb dX12_measure_33 (by decide) ?_
          exact W.zret (v := 0) hx hb hr (by decide) (fun t ht hW => ⟨⟨0, u, rfl, (by unfold mMeasure; rw [if_pos b_1, if_pos b_3, if_neg c_5, if_pos b_6]), by rw [ht]; exact hP, hD⟩, hS.F ht⟩) hS.2.2 dX12_measure_34
        ·
          obtain rfl : r = 0 := b_f hw b_6
          refine lv_if_eq (tgt := 35) hx hb dX12_measure_30 (by decide) (fun c_8 => ?_) (fun c_8 => absurd (by decide) c_8)
          refine lv_aload_n hx hb dX12_measure_35 rfl (lv_at hl 0 rfl) ?_
          refine va_get (D := (dC, dI)) (ci := 11) (v := .ref (v 1)) (C := RX12) (T := TX12) (N := 52) hx hb hts zl_X12_measure_X12 hown hK hP 0 rfl rfl 1 (by decide) (hts (.fieldLink RX12 13 "PageOneModel" "measure" "[I") (zat q_wsX12_measure k_wsX12_measure 883 rfl (by decide +kernel))) (fun _ h9 => h9) rfl dX12_measure_36 ?_
          refine lv_iload_n hx hb dX12_measure_39 rfl (lv_at hl 1 rfl) ?_
          refine lv_iload_n hx hb dX12_measure_40 rfl (lv_at hl 2 rfl) ?_
          refine va_iast hx hb hK hP hD hS 2 0 rfl rfl (vin b_1 (by decide)) dX12_measure_41 (fun H locs hP hD hS => ?_)
          obtain ⟨u_9, eu_9⟩ : ∃ zz : mS, zz = mst u 1 p0 p1 := ⟨_, rfl⟩
          have hP : va_P (dC, dI) vwCl (mW h0 v cI cZ u_9) H := by rw [eu_9]; exact hP
          have hD : va_D A (mW h0 v cI cZ u_9) := by rw [eu_9]; exact hD
          refine lv_iconst (v := 1) hx hb dX12_measure_42 (by decide) ?_
          exact W.zret (v := 1) hx hb hr (by decide) (fun t ht hW => ⟨⟨1, u_9, rfl, (by rw [eu_9]; unfold mMeasure; rw [if_pos b_1, if_pos b_3, if_neg c_5, if_neg (bne b_6)]), by rw [ht]; exact hP, hD⟩, hS.F ht⟩) hS.2.2 dX12_measure_43
    ·
      obtain rfl : r = 0 := b_f hw b_3
      refine lv_if_eq (tgt := 33) hx hb dX12_measure_15 (by decide) (fun c_10 => ?_) (fun c_10 => absurd (by decide) c_10)
      refine lv_iconst (v := 0) hx hb dX12_measure_33 (by decide) ?_
      exact W.zret (v := 0) hx hb hr (by decide) (fun t ht hW => ⟨⟨0, u, rfl, (by unfold mMeasure; rw [if_pos b_1, if_neg (bne b_3)]), by rw [ht]; exact hP, hD⟩, hS.F ht⟩) hS.2.2 dX12_measure_34
  ·
    obtain rfl : r = 0 := b_f hw b_1
    refine lv_if_eq (tgt := 33) hx hb dX12_measure_4 (by decide) (fun c_11 => ?_) (fun c_11 => absurd (by decide) c_11)
    refine lv_iconst (v := 0) hx hb dX12_measure_33 (by decide) ?_
    exact W.zret (v := 0) hx hb hr (by decide) (fun t ht hW => ⟨⟨0, u, rfl, (by unfold mMeasure; rw [if_neg (bne b_1)]), by rw [ht]; exact hP, hD⟩, hS.F ht⟩) hS.2.2 dX12_measure_34
set_option maxHeartbeats 4000000 in
set_option maxRecDepth 100000 in
theorem m_column_loop {p : Program} {l : Launch} {e : Env} {R : Room} {s : State} {m : MethodId} {args : Array Value} {below : List Frame} {meth : Method} {c : Code} {Q : State → Prop} {cells slots : Nat} {dC : Nat → ClassId} {dI : Nat → Nat → Nat} {h0 : Nat} {v : Nat → Nat} {cI cZ : ClassId} {H : Heap} {locs : List Loc} {u : mS} (hx : p.tables.exec = Jvm.exec) (hb : c.code = cX12_column) (hml : c.maxLocals = 5) (hts : ∀ w ∈ wsX12_column, w.before args s = true) (hown : s.vm.findClass RX12 = some m.cls) (hN : NN s) (hK : va_K (dC, dI) vwCl [(cI, .int), (cZ, .boolean)] s) (hRf : 1 ≤ R.frames) (hRl : 22 ≤ R.locals) (hRc : cells ≤ R.cells) (hRs : slots ≤ R.slots) (hP : va_P (dC, dI) vwCl (mW h0 v cI cZ u) H) {p0 p1 p2 : Int32} (hp : bw p0 0 11 = true) (hq : bw p1 0 7 = true) (kx63 : ∀ (i : Nat) (ls : Array Slot), i < 60 → ¬ u.2 2 (480 * p0 + 60 * p1 + nI i).toNatClampNeg = (-2) → (∀ j, j < i → u.2 2 (480 * p0 + 60 * p1 + nI j).toNatClampNeg = (-2)) → lv_has ls 5 [(4, .int (nI i)), (0, .ref h0), (1, .int p0), (2, .int p1), (3, .int p2)] → W p l e R s m args below meth c H locs cells slots Q (F0 m 63 ls [])) (kx : ∀ (ls : Array Slot), (∀ j, j < 60 → u.2 2 (480 * p0 + 60 * p1 + nI j).toNatClampNeg = (-2)) → lv_has ls 5 [(4, .int (nI 60)), (0, .ref h0), (1, .int p0), (2, .int p1), (3, .int p2)] → W p l e R s m args below meth c H locs cells slots Q (F0 m 71 ls [])) : ∀ (k i : Nat) (ls : Array Slot), i ≤ 60 → 60 - i < k → (∀ j, j < i → u.2 2 (480 * p0 + 60 * p1 + nI j).toNatClampNeg = (-2)) → lv_has ls 5 [(4, .int (nI i)), (0, .ref h0), (1, .int p0), (2, .int p1), (3, .int p2)] → W p l e R s m args below meth c H locs cells slots Q (F0 m 39 ls []) := by
  intro k
  induction k with
  | zero => intro i ls h1 h2; exact absurd h2 (Nat.not_lt_zero _)
  | succ k ih =>
    intro i ls hi hk hg hl
    refine lv_iload hx hb dX12_column_39 (lv_at hl 0 rfl) ?_
    refine lv_bipush (v := 60) hx hb dX12_column_41 (by decide) ?_
    refine lv_icmp_ge (tgt := 71) hx hb dX12_column_43 (by decide) (fun c_1 => ?_) (fun c_1 => ?_)
    ·
      have hie : i = 60 := lp_eq rfl (by decide) hi c_1
      subst hie
      exact kx ls hg (lv_sub hl [0, 1, 2, 3, 4] rfl)
    ·
      have hlt : i < 60 := lp_lt rfl (by decide) hi c_1
      refine lv_aload_n hx hb dX12_column_46 rfl (lv_at hl 1 rfl) ?_
      refine va_get (D := (dC, dI)) (ci := 11) (v := .ref (v 2)) (C := RX12) (T := TX12) (N := 52) hx hb hts zl_X12_column_X12 hown hK hP 0 rfl rfl 2 (by decide) (hts (.fieldLink RX12 16 "PageOneModel" "cell" "[I") (zat q_wsX12_column k_wsX12_column 884 rfl (by decide +kernel))) (fun _ h9 => h9) rfl dX12_column_47 ?_
      refine lv_iload_n hx hb dX12_column_50 rfl (lv_at hl 2 rfl) ?_
      refine lv_iload_n hx hb dX12_column_51 rfl (lv_at hl 3 rfl) ?_
      refine lv_iload hx hb dX12_column_52 (lv_at hl 0 rfl) ?_
      refine vp_callSi (va_runS (As := [.int p0, .int p1, .int (nI i)]) (rest := [.ref (v 2)]) ⟨hx, hb, hml, hown, hts⟩ (m_at l dC dI p0 p1 (nI i)) (va_cwS 3 hts gX12_column_X12_at rfl rfl rfl zh_X12_at_7 ⟨hRf, hRl⟩) ⟨pw_fb, fun U hU hW => ⟨rfl, pw_to hU hW (hP.sub (ws' := []) [] rfl) (hK.sub (tys' := []) [] rfl) hN⟩⟩ rfl rfl hl.1 rfl (lv_room (Nat.le_of_ble_eq_true rfl)) dX12_column_54 ⟨hRc, hRs⟩).run (fun r hw => ?_)
      obtain rfl : r = (480 * p0 + 60 * p1 + (nI i)) := hw
      refine va_iald hx hb hK hP 3 0 rfl rfl (vinC hp hq hlt) dX12_column_57 ?_
      refine lv_bipush (v := (-2)) hx hb dX12_column_58 (by decide) ?_
      refine lv_icmp_eq (tgt := 65) hx hb dX12_column_60 (by decide) (fun c_2 => ?_) (fun c_2 => ?_)
      ·
        refine lv_iinc (v := (nI (i + 1))) (lv' := [(4, .int (nI (i + 1))), (0, .ref h0), (1, .int p0), (2, .int p1), (3, .int p2)]) hx hb dX12_column_65 hl (k := 0) rfl (nI_1 i) (by decide) rfl (fun ls hl => ?_)
        refine lv_goto (tgt := 39) hx hb dX12_column_68 (by decide) ?_
        exact ih (i + 1) ls (by omega) (by omega) (lt_s hg c_2) (lv_sub hl [0, 1, 2, 3, 4] rfl)
      ·
        exact kx63 i ls hlt c_2 hg (lv_sub hl [0, 1, 2, 3, 4] rfl)
set_option maxHeartbeats 4000000 in
set_option maxRecDepth 100000 in
theorem m_column (l : Launch) (dC : Nat → ClassId) (dI : Nat → Nat → Nat) (h0 : Nat) (v : Nat → Nat) (cI cZ : ClassId) (u : mS) (p0 p1 p2 : Int32) (sz : Nat) : Met l yX12_column wsX12_column ({ frames := 2, cells := 0, slots := 0, locals := 42 }) (va_Pc [.ref h0, .int p0, .int p1, .int p2] (fun U => U.heap.size = sz ∧ PW dC dI (mW h0 v cI cZ u) [(cI, .int), (cZ, .boolean)] U ∧ va_D (fun _ => True) (mW h0 v cI cZ u))) (va_Qi (fun (r : Int32) (u9 : mS) => (r, u9) = mColumn u p0 p1 p2) (fun u9 t => va_P (dC, dI) vwCl (mW h0 v cI cZ u9) t.heap ∧ va_D (va_A (mW h0 v cI cZ u) sz) (mW h0 v cI cZ u9)) (va_A (mW h0 v cI cZ u) sz)) 0 0 (va_A (mW h0 v cI cZ u) sz) := by
  refine Met.ofW (cc := cX12_column) (maxL := 5) (ret := (some .boolean)) (by decide) rfl ?_
  intro p e s m args below meth c s₁ B hml hv
  obtain ⟨rfl, hsz, ⟨hP, hK, hN⟩, hD0⟩ := hv
  have hx := B.exec
  have hb := B.bytes
  have hr := B.returns
  have hts := atoms_spec (ws := wsX12_column) B.pre
  have hown : s.vm.findClass RX12 = some m.cls := findClass_of_methodNamed B.named
  have hlocks := B.notSynchronized
  subst hsz
  have hD := hD0.self (sz := s.heap.size)
  generalize hAe : va_A (mW h0 v cI cZ u) s.heap.size = A at hD ⊢
  have hA : ∀ q : Nat, s.heap.size ≤ q → A q := fun q h => by rw [← hAe]; exact Or.inr h
  have hS : va_S A s.heap s.heap [] := va_S.rf
  have hl := lv_entry ([.ref h0, .int p0, .int p1, .int p2]) (n := 5) (Nat.le_of_ble_eq_true rfl)
  rw [lg_entry_eq]
  generalize (lg_sl ([.ref h0, .int p0, .int p1, .int p2]) ++ List.replicate (5 - (lg_sl ([.ref h0, .int p0, .int p1, .int p2])).length) Slot.unset).toArray = ls at hl ⊢
  have hl : lv_has ls 5 [(0, .ref h0), (1, .int p0), (2, .int p1), (3, .int p2)] := hl
  refine lv_iload_n hx hb dX12_column_0 rfl (lv_at hl 1 rfl) ?_
  refine vp_callSi (va_runS (As := [.int p0]) (rest := []) ⟨hx, hb, hml, hown, hts⟩ (m_isPage l dC dI p0) (va_cwS 1 hts gX12_column_X12_isPage rfl rfl rfl zh_X12_isPage_4 ⟨Nat.le_of_ble_eq_true rfl, Nat.le_of_ble_eq_true rfl⟩) ⟨pw_fb, fun U hU hW => ⟨rfl, pw_to hU hW (hP.sub (ws' := []) [] rfl) (hK.sub (tys' := []) [] rfl) hN⟩⟩ rfl rfl hl.1 rfl (lv_room (Nat.le_of_ble_eq_true rfl)) dX12_column_1 ⟨Nat.le_of_ble_eq_true rfl, Nat.le_of_ble_eq_true rfl⟩).run (fun r hw => ?_)
  rcases Bool.eq_false_or_eq_true (bw p0 0 11) with b_1 | b_1
  ·
    obtain rfl : r = 1 := b_t hw b_1
    refine lv_if_eq (tgt := 34) hx hb dX12_column_4 (by decide) (fun c_2 => absurd c_2 (by decide)) (fun c_2 => ?_)
    refine lv_iload_n hx hb dX12_column_7 rfl (lv_at hl 2 rfl) ?_
    refine lv_iconst (v := 0) hx hb dX12_column_8 (by decide) ?_
    refine lv_bipush (v := 7) hx hb dX12_column_9 (by decide) ?_
    refine vp_callSi (va_runS (As := [.int p1, .int 0, .int 7]) (rest := []) ⟨hx, hb, hml, hown, hts⟩ (m_in l dC dI p1 0 7) (va_cwS 3 hts gX12_column_X12_in rfl rfl rfl zh_X12_in_0 ⟨Nat.le_of_ble_eq_true rfl, Nat.le_of_ble_eq_true rfl⟩) ⟨pw_fb, fun U hU hW => ⟨rfl, pw_to hU hW (hP.sub (ws' := []) [] rfl) (hK.sub (tys' := []) [] rfl) hN⟩⟩ rfl rfl hl.1 rfl (lv_room (Nat.le_of_ble_eq_true rfl)) dX12_column_11 ⟨Nat.le_of_ble_eq_true rfl, Nat.le_of_ble_eq_true rfl⟩).run (fun r hw => ?_)
    rcases Bool.eq_false_or_eq_true (bw p1 0 7) with b_3 | b_3
    ·
      obtain rfl : r = 1 := b_t hw b_3
      refine lv_if_eq (tgt := 34) hx hb dX12_column_14 (by decide) (fun c_4 => absurd c_4 (by decide)) (fun c_4 => ?_)
      refine lv_iload_n hx hb dX12_column_17 rfl (lv_at hl 3 rfl) ?_
      refine lv_iconst (v := 0) hx hb dX12_column_18 (by decide) ?_
      refine lv_bipush (v := 60) hx hb dX12_column_19 (by decide) ?_
      refine vp_callSi (va_runS (As := [.int p2, .int 0, .int 60]) (rest := []) ⟨hx, hb, hml, hown, hts⟩ (m_in l dC dI p2 0 60) (va_cwS 3 hts gX12_column_X12_in rfl rfl rfl zh_X12_in_0 ⟨Nat.le_of_ble_eq_true rfl, Nat.le_of_ble_eq_true rfl⟩) ⟨pw_fb, fun U hU hW => ⟨rfl, pw_to hU hW (hP.sub (ws' := []) [] rfl) (hK.sub (tys' := []) [] rfl) hN⟩⟩ rfl rfl hl.1 rfl (lv_room (Nat.le_of_ble_eq_true rfl)) dX12_column_21 ⟨Nat.le_of_ble_eq_true rfl, Nat.le_of_ble_eq_true rfl⟩).run (fun r hw => ?_)
      rcases Bool.eq_false_or_eq_true (bw p2 0 60) with b_5 | b_5
      ·
        obtain rfl : r = 1 := b_t hw b_5
        refine lv_if_eq (tgt := 34) hx hb dX12_column_24 (by decide) (fun c_6 => absurd c_6 (by decide)) (fun c_6 => ?_)
        refine lv_aload_n hx hb dX12_column_27 rfl (lv_at hl 0 rfl) ?_
        refine va_get (D := (dC, dI)) (ci := 11) (v := .int (u.1 28)) (C := RX12) (T := TX12) (N := 52) hx hb hts zl_X12_column_X12 hown hK hP 0 rfl rfl 28 (by decide) (hts (.fieldLink RX12 158 "PageOneModel" "acts" "I") (zat q_wsX12_column k_wsX12_column 910 rfl (by decide +kernel))) (fun _ h9 => h9) rfl dX12_column_28 ?_
        refine lv_if_le (tgt := 36) hx hb dX12_column_31 (by decide) (fun c_7 => ?_) (fun c_7 => ?_)
        ·
          refine lv_iconst (v := 0) hx hb dX12_column_36 (by decide) ?_
          refine lv_istore (lv' := [(4, .int 0), (0, .ref h0), (1, .int p0), (2, .int p1), (3, .int p2)]) hx hb dX12_column_37 hl (by decide) rfl (fun ls hl => ?_)
          refine m_column_loop (p2 := p2) hx hb hml hts hown hN hK (Nat.le_of_ble_eq_true rfl) (Nat.le_of_ble_eq_true rfl) (Nat.le_of_ble_eq_true rfl) (Nat.le_of_ble_eq_true rfl) hP b_1 b_3 (fun i ls hlt hne hg hl => ?_) (fun ls hg hl => ?_) 61 0 ls (by decide) (by decide) (fun j hj => absurd hj (Nat.not_lt_zero _)) (lv_sub hl [0, 1, 2, 3, 4] rfl)
          ·
            refine lv_iconst (v := 0) hx hb dX12_column_63 (by decide) ?_
            exact W.zret (v := 0) hx hb hr (by decide) (fun t ht hW => ⟨⟨0, u, rfl, (by unfold mColumn; rw [if_pos b_1, if_pos b_3, if_pos b_5, if_pos c_7, if_neg (bne (mBare_f hlt hne))]), by rw [ht]; exact hP, hD⟩, hS.F ht⟩) hS.2.2 dX12_column_64
          ·
            refine lv_aload_n hx hb dX12_column_71 rfl (lv_at hl 1 rfl) ?_
            refine va_get (D := (dC, dI)) (ci := 11) (v := .ref (v 0)) (C := RX12) (T := TX12) (N := 52) hx hb hts zl_X12_column_X12 hown hK hP 0 rfl rfl 0 (by decide) (hts (.fieldLink RX12 7 "PageOneModel" "lines" "[I") (zat q_wsX12_column k_wsX12_column 882 rfl (by decide +kernel))) (fun _ h9 => h9) rfl dX12_column_72 ?_
            refine lv_bipush (v := 8) hx hb dX12_column_75 (by decide) ?_
            refine lv_iload_n hx hb dX12_column_77 rfl (lv_at hl 2 rfl) ?_
            refine lv_imul hx hb dX12_column_78 ?_
            refine lv_iload_n hx hb dX12_column_79 rfl (lv_at hl 3 rfl) ?_
            refine lv_iadd hx hb dX12_column_80 ?_
            refine lv_iload_n hx hb dX12_column_81 rfl (lv_at hl 4 rfl) ?_
            refine va_iast hx hb hK hP hD hS 1 0 rfl rfl (vin8 b_1 b_3) dX12_column_82 (fun H locs hP hD hS => ?_)
            obtain ⟨u_8, eu_8⟩ : ∃ zz : mS, zz = mst u 0 ((8 * p0) + p1) p2 := ⟨_, rfl⟩
            have hP : va_P (dC, dI) vwCl (mW h0 v cI cZ u_8) H := by rw [eu_8]; exact hP
            have hD : va_D A (mW h0 v cI cZ u_8) := by rw [eu_8]; exact hD
            refine lv_iconst (v := 1) hx hb dX12_column_83 (by decide) ?_
            exact W.zret (v := 1) hx hb hr (by decide) (fun t ht hW => ⟨⟨1, u_8, rfl, (by rw [eu_8]; unfold mColumn; rw [if_pos b_1, if_pos b_3, if_pos b_5, if_pos c_7, if_pos (mBare_t hg)]), by rw [ht]; exact hP, hD⟩, hS.F ht⟩) hS.2.2 dX12_column_84
        ·
          refine lv_iconst (v := 0) hx hb dX12_column_34 (by decide) ?_
          exact W.zret (v := 0) hx hb hr (by decide) (fun t ht hW => ⟨⟨0, u, rfl, (by unfold mColumn; rw [if_pos b_1, if_pos b_3, if_pos b_5, if_neg c_7]), by rw [ht]; exact hP, hD⟩, hS.F ht⟩) hS.2.2 dX12_column_35
      ·
        obtain rfl : r = 0 := b_f hw b_5
        refine lv_if_eq (tgt := 34) hx hb dX12_column_24 (by decide) (fun c_9 => ?_) (fun c_9 => absurd (by decide) c_9)
        refine lv_iconst (v := 0) hx hb dX12_column_34 (by decide) ?_
        exact W.zret (v := 0) hx hb hr (by decide) (fun t ht hW => ⟨⟨0, u, rfl, (by unfold mColumn; rw [if_pos b_1, if_pos b_3, if_neg (bne b_5)]), by rw [ht]; exact hP, hD⟩, hS.F ht⟩) hS.2.2 dX12_column_35
    ·
      obtain rfl : r = 0 := b_f hw b_3
      refine lv_if_eq (tgt := 34) hx hb dX12_column_14 (by decide) (fun c_10 => ?_) (fun c_10 => absurd (by decide) c_10)
      refine lv_iconst (v := 0) hx hb dX12_column_34 (by decide) ?_
      exact W.zret (v := 0) hx hb hr (by decide) (fun t ht hW => ⟨⟨0, u, rfl, (by unfold mColumn; rw [if_pos b_1, if_neg (bne b_3)]), by rw [ht]; exact hP, hD⟩, hS.F ht⟩) hS.2.2 dX12_column_35
  ·
    obtain rfl : r = 0 := b_f hw b_1
    refine lv_if_eq (tgt := 34) hx hb dX12_column_4 (by decide) (fun c_11 => ?_) (fun c_11 => absurd (by decide) c_11)
    refine lv_iconst (v := 0) hx hb dX12_column_34 (by decide) ?_
    exact W.zret (v := 0) hx hb hr (by decide) (fun t ht hW => ⟨⟨0, u, rfl, (by unfold mColumn; rw [if_neg (bne b_1)]), by rw [ht]; exact hP, hD⟩, hS.F ht⟩) hS.2.2 dX12_column_35
theorem sw_out5 {x : Int32} (h0 : ¬ x = 0) (h1 : ¬ x = 1) (h2 : ¬ x = 2) (h3 : ¬ x = 3) (h4 : ¬ x = 4) (h5 : ¬ x = 5) : x.toInt < 0 ∨ 5 < x.toInt := by
  rcases Int.lt_or_le x.toInt 0 with q | q
  · exact Or.inl q
  · rcases Int.lt_or_le 5 x.toInt with q2 | q2
    · exact Or.inr q2
    · exfalso
      have : x.toInt = 0 ∨ x.toInt = 1 ∨ x.toInt = 2 ∨ x.toInt = 3 ∨ x.toInt = 4 ∨ x.toInt = 5 := by omega
      rcases this with e | e | e | e | e | e
      · exact h0 (sw_in e.symm rfl)
      · exact h1 (sw_in e.symm rfl)
      · exact h2 (sw_in e.symm rfl)
      · exact h3 (sw_in e.symm rfl)
      · exact h4 (sw_in e.symm rfl)
      · exact h5 (sw_in e.symm rfl)
theorem sw_out6 {x : Int32} (h0 : ¬ x = 0) (h1 : ¬ x = 1) (h2 : ¬ x = 2) (h3 : ¬ x = 3) (h4 : ¬ x = 4) (h5 : ¬ x = 5) (h6 : ¬ x = 6) : x.toInt < 0 ∨ 6 < x.toInt := by
  rcases Int.lt_or_le x.toInt 0 with q | q
  · exact Or.inl q
  · rcases Int.lt_or_le 6 x.toInt with q2 | q2
    · exact Or.inr q2
    · exfalso
      have : x.toInt = 0 ∨ x.toInt = 1 ∨ x.toInt = 2 ∨ x.toInt = 3 ∨ x.toInt = 4 ∨ x.toInt = 5 ∨ x.toInt = 6 := by omega
      rcases this with e | e | e | e | e | e | e
      · exact h0 (sw_in e.symm rfl)
      · exact h1 (sw_in e.symm rfl)
      · exact h2 (sw_in e.symm rfl)
      · exact h3 (sw_in e.symm rfl)
      · exact h4 (sw_in e.symm rfl)
      · exact h5 (sw_in e.symm rfl)
      · exact h6 (sw_in e.symm rfl)
/-- from, of any number from 0 to 6 -/
theorem m_from2 (l : Launch) (dC : Nat → ClassId) (dI : Nat → Nat → Nat) (h0 : Nat) (v : Nat → Nat) (cI cZ : ClassId) (u : mS) (p0 p1 : Int32) (hi : bw p0 0 79 = true) (hk : bw p1 0 6 = true) (hc : bw (u.2 22 p0.toNatClampNeg) 0 6 = true) : Met l yX12_from wsX12_from ({ frames := 1, cells := 0, slots := 0, locals := 24 }) (va_Pc [.ref h0, .int p0, .int p1] (PW dC dI (mW h0 v cI cZ u) [(cI, .int), (cZ, .boolean)])) (vp_Si (fun r => r = mFrom u p0 p1.toNatClampNeg)) 0 0 (fun _ => False) := by
  obtain ⟨e1, e2, e3⟩ := nI_of_bw hk
  have h6 : (6 : Int32).toInt = 6 := rfl
  have h := m_from l dC dI h0 v cI cZ u p0 p1.toNatClampNeg hi (by omega) hc
  rw [← e1] at h
  exact h
def mStanding (u : mS) (i : Int32) : Int32 := mFrom u i (u.2 22 i.toNatClampNeg).toNatClampNeg
def mItem (u : mS) (i w : Int32) : Int32 := if bw i 0 (u.1 3 - 1) = true then (if w = 0 then u.2 4 i.toNatClampNeg else if w = 1 then u.2 22 i.toNatClampNeg else if w = 2 then u.2 15 i.toNatClampNeg else if w = 3 then (if u.2 4 i.toNatClampNeg = 0 then mStanding u i else 0) else if w = 4 then u.2 9 i.toNatClampNeg else if w = 5 then u.2 10 i.toNatClampNeg else (-1)) else (-1)
theorem it79 {n i : Int32} (hn : bw n 0 80 = true) (h : bw i 0 (n - 1) = true) : bw i 0 79 = true := by
  have h79 : (79 : Int32).toInt = 79 := rfl
  have h1 := vp_in_iff.mp (vIt hn h)
  rw [bw_iff, i0, h79]; omega
set_option maxHeartbeats 4000000 in
set_option maxRecDepth 100000 in
theorem m_standing (l : Launch) (dC : Nat → ClassId) (dI : Nat → Nat → Nat) (h0 : Nat) (v : Nat → Nat) (cI cZ : ClassId) (u : mS) (p0 : Int32) (hi : bw p0 0 79 = true) (hc : bw (u.2 22 p0.toNatClampNeg) 0 6 = true) : Met l yX12_standing wsX12_standing ({ frames := 2, cells := 0, slots := 0, locals := 48 }) (va_Pc [.ref h0, .int p0] (PW dC dI (mW h0 v cI cZ u) [(cI, .int), (cZ, .boolean)])) (vp_Si (fun r => r = mStanding u p0)) 0 0 (fun _ => False) := by
  refine Met.ofW (cc := cX12_standing) (maxL := 2) (ret := (some .int)) (by decide) rfl ?_
  intro p e s m args below meth c s₁ B hml hv
  obtain ⟨rfl, hP, hK, hN⟩ := hv
  have hx := B.exec
  have hb := B.bytes
  have hr := B.returns
  have hts := atoms_spec (ws := wsX12_standing) B.pre
  have hown : s.vm.findClass RX12 = some m.cls := findClass_of_methodNamed B.named
  have hlocks := B.notSynchronized
  have hl := lv_entry ([.ref h0, .int p0]) (n := 2) (Nat.le_of_ble_eq_true rfl)
  rw [lg_entry_eq]
  generalize (lg_sl ([.ref h0, .int p0]) ++ List.replicate (2 - (lg_sl ([.ref h0, .int p0])).length) Slot.unset).toArray = ls at hl ⊢
  have hl : lv_has ls 2 [(0, .ref h0), (1, .int p0)] := hl
  refine lv_aload_n hx hb dX12_standing_0 rfl (lv_at hl 0 rfl) ?_
  refine lv_iload_n hx hb dX12_standing_1 rfl (lv_at hl 1 rfl) ?_
  refine lv_aload_n hx hb dX12_standing_2 rfl (lv_at hl 0 rfl) ?_
  refine va_get (D := (dC, dI)) (ci := 11) (v := .ref (v 22)) (C := RX12) (T := TX12) (N := 52) hx hb hts zl_X12_standing_X12 hown hK hP 0 rfl rfl 22 (by decide) (hts (.fieldLink RX12 74 "PageOneModel" "pieces" "[I") (zat q_wsX12_standing k_wsX12_standing 904 rfl (by decide +kernel))) (fun _ h9 => h9) rfl dX12_standing_3 ?_
  refine lv_iload_n hx hb dX12_standing_6 rfl (lv_at hl 1 rfl) ?_
  refine va_iald hx hb hK hP 22 0 rfl rfl (vin hi (by decide)) dX12_standing_7 ?_
  refine vp_callSi (va_runV (As := [.int p0, .int (u.2 22 (p0 : Int32).toNatClampNeg)]) (rest := []) ⟨hx, hb, hml, hown, hts⟩ (m_from2 l dC dI h0 v cI cZ u p0 (u.2 22 (p0 : Int32).toNatClampNeg) hi hc hc) (cwV 2 hts gX12_standing_X12_from rfl rfl rfl zh_X12_from_12 ⟨Nat.le_of_ble_eq_true rfl, Nat.le_of_ble_eq_true rfl⟩) ⟨pw_fb, va_recv hK hP (ci := 11) (q0 := 0) rfl rfl, fun U hU hW => ⟨rfl, pw_to hU hW hP hK hN⟩⟩ rfl rfl hl.1 rfl (lv_room (Nat.le_of_ble_eq_true rfl)) dX12_standing_8 ⟨Nat.le_of_ble_eq_true rfl, Nat.le_of_ble_eq_true rfl⟩).run (fun r hw => ?_)
  obtain rfl : r = (mFrom u p0 ((u.2 22 (p0 : Int32).toNatClampNeg) : Int32).toNatClampNeg) := hw
  exact W.iret (v := (mFrom u p0 ((u.2 22 (p0 : Int32).toNatClampNeg) : Int32).toNatClampNeg)) hx hb hr (fun t ht hW => ⟨_, rfl, rfl, ht⟩) (fun q h => absurd h List.not_mem_nil) dX12_standing_11
set_option maxHeartbeats 4000000 in
set_option maxRecDepth 100000 in
theorem m_item (l : Launch) (dC : Nat → ClassId) (dI : Nat → Nat → Nat) (h0 : Nat) (v : Nat → Nat) (cI cZ : ClassId) (u : mS) (p0 p1 : Int32) (hn : bw (u.1 3) 0 80 = true) (hc : ∀ j, j < 80 → bw (u.2 22 j) 0 6 = true) : Met l yX12_item wsX12_item ({ frames := 3, cells := 0, slots := 0, locals := 69 }) (va_Pc [.ref h0, .int p0, .int p1] (PW dC dI (mW h0 v cI cZ u) [(cI, .int), (cZ, .boolean)])) (vp_Si (fun r => r = mItem u p0 p1)) 0 0 (fun _ => False) := by
  refine Met.ofW (cc := cX12_item) (maxL := 3) (ret := (some .int)) (by decide) rfl ?_
  intro p e s m args below meth c s₁ B hml hv
  obtain ⟨rfl, hP, hK, hN⟩ := hv
  have hx := B.exec
  have hb := B.bytes
  have hr := B.returns
  have hts := atoms_spec (ws := wsX12_item) B.pre
  have hown : s.vm.findClass RX12 = some m.cls := findClass_of_methodNamed B.named
  have hlocks := B.notSynchronized
  have hl := lv_entry ([.ref h0, .int p0, .int p1]) (n := 3) (Nat.le_of_ble_eq_true rfl)
  rw [lg_entry_eq]
  generalize (lg_sl ([.ref h0, .int p0, .int p1]) ++ List.replicate (3 - (lg_sl ([.ref h0, .int p0, .int p1])).length) Slot.unset).toArray = ls at hl ⊢
  have hl : lv_has ls 3 [(0, .ref h0), (1, .int p0), (2, .int p1)] := hl
  refine lv_aload_n hx hb dX12_item_0 rfl (lv_at hl 0 rfl) ?_
  refine lv_iload_n hx hb dX12_item_1 rfl (lv_at hl 1 rfl) ?_
  refine vp_callSi (va_runV (As := [.int p0]) (rest := []) ⟨hx, hb, hml, hown, hts⟩ (m_isItem l dC dI h0 v cI cZ u p0) (cwV 1 hts gX12_item_X12_isItem rfl rfl rfl zh_X12_isItem_1 ⟨Nat.le_of_ble_eq_true rfl, Nat.le_of_ble_eq_true rfl⟩) ⟨pw_fb, va_recv hK hP (ci := 11) (q0 := 0) rfl rfl, fun U hU hW => ⟨rfl, pw_to hU hW hP hK hN⟩⟩ rfl rfl hl.1 rfl (lv_room (Nat.le_of_ble_eq_true rfl)) dX12_item_2 ⟨Nat.le_of_ble_eq_true rfl, Nat.le_of_ble_eq_true rfl⟩).run (fun r hw => ?_)
  rcases Bool.eq_false_or_eq_true (bw p0 0 (u.1 3 - 1)) with b_1 | b_1
  ·
    obtain rfl : r = 1 := b_t hw b_1
    refine lv_if_ne (tgt := 10) hx hb dX12_item_5 (by decide) (fun c_2 => ?_) (fun c_2 => absurd c_2 (by decide))
    refine lv_iload_n hx hb dX12_item_10 rfl (lv_at hl 2 rfl) ?_
    rcases Classical.em (p1 = 0) with s_3 | s_3
    ·
      subst s_3
      refine lv_tableIn (tgt := 48) (off := 37) hx hb dX12_item_11 (by decide) (by decide) (by decide) (by decide) ?_
      refine lv_aload_n hx hb dX12_item_48 rfl (lv_at hl 0 rfl) ?_
      refine va_get (D := (dC, dI)) (ci := 11) (v := .ref (v 4)) (C := RX12) (T := TX12) (N := 52) hx hb hts zl_X12_item_X12 hown hK hP 0 rfl rfl 4 (by decide) (hts (.fieldLink RX12 19 "PageOneModel" "kind" "[I") (zat q_wsX12_item k_wsX12_item 886 rfl (by decide +kernel))) (fun _ h9 => h9) rfl dX12_item_49 ?_
      refine lv_iload_n hx hb dX12_item_52 rfl (lv_at hl 1 rfl) ?_
      refine va_iald hx hb hK hP 4 0 rfl rfl (vIt hn b_1) dX12_item_53 ?_
      exact W.iret (v := (u.2 4 (p0 : Int32).toNatClampNeg)) hx hb hr (fun t ht hW => ⟨_, rfl, (by simp [mItem, b_1]), ht⟩) (fun q h => absurd h List.not_mem_nil) dX12_item_54
    ·
      rcases Classical.em (p1 = 1) with s_4 | s_4
      ·
        subst s_4
        refine lv_tableIn (tgt := 55) (off := 44) hx hb dX12_item_11 (by decide) (by decide) (by decide) (by decide) ?_
        refine lv_aload_n hx hb dX12_item_55 rfl (lv_at hl 0 rfl) ?_
        refine va_get (D := (dC, dI)) (ci := 11) (v := .ref (v 22)) (C := RX12) (T := TX12) (N := 52) hx hb hts zl_X12_item_X12 hown hK hP 0 rfl rfl 22 (by decide) (hts (.fieldLink RX12 74 "PageOneModel" "pieces" "[I") (zat q_wsX12_item k_wsX12_item 904 rfl (by decide +kernel))) (fun _ h9 => h9) rfl dX12_item_56 ?_
        refine lv_iload_n hx hb dX12_item_59 rfl (lv_at hl 1 rfl) ?_
        refine va_iald hx hb hK hP 22 0 rfl rfl (vIt hn b_1) dX12_item_60 ?_
        exact W.iret (v := (u.2 22 (p0 : Int32).toNatClampNeg)) hx hb hr (fun t ht hW => ⟨_, rfl, (by simp [mItem, b_1]), ht⟩) (fun q h => absurd h List.not_mem_nil) dX12_item_61
      ·
        rcases Classical.em (p1 = 2) with s_5 | s_5
        ·
          subst s_5
          refine lv_tableIn (tgt := 62) (off := 51) hx hb dX12_item_11 (by decide) (by decide) (by decide) (by decide) ?_
          refine lv_aload_n hx hb dX12_item_62 rfl (lv_at hl 0 rfl) ?_
          refine va_get (D := (dC, dI)) (ci := 11) (v := .ref (v 15)) (C := RX12) (T := TX12) (N := 52) hx hb hts zl_X12_item_X12 hown hK hP 0 rfl rfl 15 (by decide) (hts (.fieldLink RX12 52 "PageOneModel" "come" "[I") (zat q_wsX12_item k_wsX12_item 897 rfl (by decide +kernel))) (fun _ h9 => h9) rfl dX12_item_63 ?_
          refine lv_iload_n hx hb dX12_item_66 rfl (lv_at hl 1 rfl) ?_
          refine va_iald hx hb hK hP 15 0 rfl rfl (vIt hn b_1) dX12_item_67 ?_
          exact W.iret (v := (u.2 15 (p0 : Int32).toNatClampNeg)) hx hb hr (fun t ht hW => ⟨_, rfl, (by simp [mItem, b_1]), ht⟩) (fun q h => absurd h List.not_mem_nil) dX12_item_68
        ·
          rcases Classical.em (p1 = 3) with s_6 | s_6
          ·
            subst s_6
            refine lv_tableIn (tgt := 69) (off := 58) hx hb dX12_item_11 (by decide) (by decide) (by decide) (by decide) ?_
            refine lv_aload_n hx hb dX12_item_69 rfl (lv_at hl 0 rfl) ?_
            refine va_get (D := (dC, dI)) (ci := 11) (v := .ref (v 4)) (C := RX12) (T := TX12) (N := 52) hx hb hts zl_X12_item_X12 hown hK hP 0 rfl rfl 4 (by decide) (hts (.fieldLink RX12 19 "PageOneModel" "kind" "[I") (zat q_wsX12_item k_wsX12_item 886 rfl (by decide +kernel))) (fun _ h9 => h9) rfl dX12_item_70 ?_
            refine lv_iload_n hx hb dX12_item_73 rfl (lv_at hl 1 rfl) ?_
            refine va_iald hx hb hK hP 4 0 rfl rfl (vIt hn b_1) dX12_item_74 ?_
            refine lv_if_ne (tgt := 86) hx hb dX12_item_75 (by decide) (fun c_7 => ?_) (fun c_7 => ?_)
            ·
              refine lv_iconst (v := 0) hx hb dX12_item_86 (by decide) ?_
              exact W.iret (v := 0) hx hb hr (fun t ht hW => ⟨_, rfl, (by simp [mItem, b_1, c_7]), ht⟩) (fun q h => absurd h List.not_mem_nil) dX12_item_87
            ·
              refine lv_aload_n hx hb dX12_item_78 rfl (lv_at hl 0 rfl) ?_
              refine lv_iload_n hx hb dX12_item_79 rfl (lv_at hl 1 rfl) ?_
              refine vp_callSi (va_runV (As := [.int p0]) (rest := []) ⟨hx, hb, hml, hown, hts⟩ (m_standing l dC dI h0 v cI cZ u p0 (it79 hn b_1) (hc _ (vlt (vIt hn b_1)))) (cwV 1 hts gX12_item_X12_standing rfl rfl rfl zh_X12_standing_13 ⟨Nat.le_of_ble_eq_true rfl, Nat.le_of_ble_eq_true rfl⟩) ⟨pw_fb, va_recv hK hP (ci := 11) (q0 := 0) rfl rfl, fun U hU hW => ⟨rfl, pw_to hU hW hP hK hN⟩⟩ rfl rfl hl.1 rfl (lv_room (Nat.le_of_ble_eq_true rfl)) dX12_item_80 ⟨Nat.le_of_ble_eq_true rfl, Nat.le_of_ble_eq_true rfl⟩).run (fun r hw => ?_)
              obtain rfl : r = (mStanding u p0) := hw
              refine lv_goto (tgt := 87) hx hb dX12_item_83 (by decide) ?_
              exact W.iret (v := (mStanding u p0)) hx hb hr (fun t ht hW => ⟨_, rfl, (by simp [mItem, b_1, c_7]), ht⟩) (fun q h => absurd h List.not_mem_nil) dX12_item_87
          ·
            rcases Classical.em (p1 = 4) with s_8 | s_8
            ·
              subst s_8
              refine lv_tableIn (tgt := 88) (off := 77) hx hb dX12_item_11 (by decide) (by decide) (by decide) (by decide) ?_
              refine lv_aload_n hx hb dX12_item_88 rfl (lv_at hl 0 rfl) ?_
              refine va_get (D := (dC, dI)) (ci := 11) (v := .ref (v 9)) (C := RX12) (T := TX12) (N := 52) hx hb hts zl_X12_item_X12 hown hK hP 0 rfl rfl 9 (by decide) (hts (.fieldLink RX12 34 "PageOneModel" "of" "[I") (zat q_wsX12_item k_wsX12_item 891 rfl (by decide +kernel))) (fun _ h9 => h9) rfl dX12_item_89 ?_
              refine lv_iload_n hx hb dX12_item_92 rfl (lv_at hl 1 rfl) ?_
              refine va_iald hx hb hK hP 9 0 rfl rfl (vIt hn b_1) dX12_item_93 ?_
              exact W.iret (v := (u.2 9 (p0 : Int32).toNatClampNeg)) hx hb hr (fun t ht hW => ⟨_, rfl, (by simp [mItem, b_1]), ht⟩) (fun q h => absurd h List.not_mem_nil) dX12_item_94
            ·
              rcases Classical.em (p1 = 5) with s_9 | s_9
              ·
                subst s_9
                refine lv_tableIn (tgt := 95) (off := 84) hx hb dX12_item_11 (by decide) (by decide) (by decide) (by decide) ?_
                refine lv_aload_n hx hb dX12_item_95 rfl (lv_at hl 0 rfl) ?_
                refine va_get (D := (dC, dI)) (ci := 11) (v := .ref (v 10)) (C := RX12) (T := TX12) (N := 52) hx hb hts zl_X12_item_X12 hown hK hP 0 rfl rfl 10 (by decide) (hts (.fieldLink RX12 37 "PageOneModel" "buyer" "[I") (zat q_wsX12_item k_wsX12_item 892 rfl (by decide +kernel))) (fun _ h9 => h9) rfl dX12_item_96 ?_
                refine lv_iload_n hx hb dX12_item_99 rfl (lv_at hl 1 rfl) ?_
                refine va_iald hx hb hK hP 10 0 rfl rfl (vIt hn b_1) dX12_item_100 ?_
                exact W.iret (v := (u.2 10 (p0 : Int32).toNatClampNeg)) hx hb hr (fun t ht hW => ⟨_, rfl, (by simp [mItem, b_1]), ht⟩) (fun q h => absurd h List.not_mem_nil) dX12_item_101
              ·
                refine lv_tableOut (tgt := 102) hx hb dX12_item_11 (sw_out5 s_3 s_4 s_5 s_6 s_8 s_9) (by decide) ?_
                refine lv_iconst (v := (-1)) hx hb dX12_item_102 (by decide) ?_
                exact W.iret (v := (-1)) hx hb hr (fun t ht hW => ⟨_, rfl, (by simp [mItem, b_1, s_3, s_4, s_5, s_6, s_8, s_9]), ht⟩) (fun q h => absurd h List.not_mem_nil) dX12_item_103
  ·
    obtain rfl : r = 0 := b_f hw b_1
    refine lv_if_ne (tgt := 10) hx hb dX12_item_5 (by decide) (fun c_10 => absurd (by decide) c_10) (fun c_10 => ?_)
    refine lv_iconst (v := (-1)) hx hb dX12_item_8 (by decide) ?_
    exact W.iret (v := (-1)) hx hb hr (fun t ht hW => ⟨_, rfl, (by simp [mItem, b_1]), ht⟩) (fun q h => absurd h List.not_mem_nil) dX12_item_9
theorem k5 {q k : Int32} (hq : bw q 0 6 = true) (h : bw k 0 (q - 1) = true) : bw k 0 5 = true := by
  have h6 : (6 : Int32).toInt = 6 := rfl
  have h5 : (5 : Int32).toInt = 5 := rfl
  have h1 := bw_iff.mp hq
  have h2 := bw_iff.mp h
  rw [i0, h6] at h1
  rw [i0, subI (by rw [i1]; omega) (by rw [i1]; omega), i1] at h2
  rw [bw_iff, i0, h5]; omega
theorem k56 {k : Int32} (h : bw k 0 5 = true) : bw k 0 6 = true := by
  have h6 : (6 : Int32).toInt = 6 := rfl
  have h5 : (5 : Int32).toInt = 5 := rfl
  have h1 := bw_iff.mp h
  rw [i0, h5] at h1
  rw [bw_iff, i0, h6]; omega
theorem vAt {p c l n : Int32} (h1 : bw p 0 11 = true) (h2 : bw c 0 7 = true) (hn : bw n 0 60 = true) (h3 : bw l 0 (n - 1) = true) : vp_in (480 * p + 60 * c + l) 5760 := by
  have h60 : (60 : Int32).toInt = 60 := rfl
  have h480 : (480 : Int32).toInt = 480 := rfl
  have h11 : (11 : Int32).toInt = 11 := rfl
  have h7 : (7 : Int32).toInt = 7 := rfl
  have hl := bw_iff.mp hn
  have g1 := bw_iff.mp h1
  have g2 := bw_iff.mp h2
  have g3 := bw_iff.mp h3
  rw [i0] at g1 g2 g3 hl
  rw [h11] at g1
  rw [h7] at g2
  rw [h60] at hl
  rw [subI (by rw [i1]; omega) (by rw [i1]; omega), i1] at g3
  have e1 : (480 * p).toInt = 480 * p.toInt := by rw [mulI (by rw [h480]; omega) (by rw [h480]; omega), h480]
  have e2 : (60 * c).toInt = 60 * c.toInt := by rw [mulI (by rw [h60]; omega) (by rw [h60]; omega), h60]
  have e3 : (480 * p + 60 * c).toInt = 480 * p.toInt + 60 * c.toInt := by rw [addI (by rw [e1, e2]; omega) (by rw [e1, e2]; omega), e1, e2]
  rw [vp_in_iff, addI (by rw [e3]; omega) (by rw [e3]; omega), e3]; omega
def mPiece (u : mS) (i k w : Int32) : Int32 := if bw i 0 (u.1 3 - 1) = true then (if bw k 0 (u.2 22 i.toNatClampNeg - 1) = true then (if w = 0 then u.2 23 (6 * i + k).toNatClampNeg else if w = 1 then u.2 24 (6 * i + k).toNatClampNeg else if w = 2 then u.2 25 (6 * i + k).toNatClampNeg else if w = 3 then u.2 26 (6 * i + k).toNatClampNeg else if w = 4 then u.2 27 (6 * i + k).toNatClampNeg else if w = 5 then (if u.2 4 i.toNatClampNeg = 0 then mFrom u i k.toNatClampNeg else 0) else if w = 6 then (if u.2 4 i.toNatClampNeg = 0 then mTakes u i k else 0) else (-1)) else (-1)) else (-1)
def mPlated (u : mS) (p c l : Int32) : Int32 := if bw p 0 11 = true then (if u.2 40 p.toNatClampNeg = 0 then (-1) else if bw c 0 7 = true then (if bw l 0 (u.2 43 (8 * p + c).toNatClampNeg - 1) = true then u.2 44 (480 * p + 60 * c + l).toNatClampNeg else (-1)) else (-1)) else (-1)
def mWrongs (u : mS) (k a b : Int32) : mS :=
  let lo := if b < 0 then a else if a ≤ b then a else b
  let ot := if b < 0 then b else if a ≤ b then b else a
  let w := mset (mset (mset u 49 k) 50 lo) 51 ot
  if u.1 49 = 0 then w else if k < u.1 49 then w else if k = u.1 49 then (if lo < u.1 50 then w else if lo = u.1 50 then (if u.1 51 ≤ ot then u else w) else u) else u
set_option maxHeartbeats 4000000 in
set_option maxRecDepth 100000 in
theorem m_piece (l : Launch) (dC : Nat → ClassId) (dI : Nat → Nat → Nat) (h0 : Nat) (v : Nat → Nat) (cI cZ : ClassId) (u : mS) (p0 p1 p2 : Int32) (hn : bw (u.1 3) 0 80 = true) (hc : ∀ j, j < 80 → bw (u.2 22 j) 0 6 = true) : Met l yX12_piece wsX12_piece ({ frames := 2, cells := 0, slots := 0, locals := 48 }) (va_Pc [.ref h0, .int p0, .int p1, .int p2] (PW dC dI (mW h0 v cI cZ u) [(cI, .int), (cZ, .boolean)])) (vp_Si (fun r => r = mPiece u p0 p1 p2)) 0 0 (fun _ => False) := by
  refine Met.ofW (cc := cX12_piece) (maxL := 5) (ret := (some .int)) (by decide) rfl ?_
  intro p e s m args below meth c s₁ B hml hv
  obtain ⟨rfl, hP, hK, hN⟩ := hv
  have hx := B.exec
  have hb := B.bytes
  have hr := B.returns
  have hts := atoms_spec (ws := wsX12_piece) B.pre
  have hown : s.vm.findClass RX12 = some m.cls := findClass_of_methodNamed B.named
  have hlocks := B.notSynchronized
  have hl := lv_entry ([.ref h0, .int p0, .int p1, .int p2]) (n := 5) (Nat.le_of_ble_eq_true rfl)
  rw [lg_entry_eq]
  generalize (lg_sl ([.ref h0, .int p0, .int p1, .int p2]) ++ List.replicate (5 - (lg_sl ([.ref h0, .int p0, .int p1, .int p2])).length) Slot.unset).toArray = ls at hl ⊢
  have hl : lv_has ls 5 [(0, .ref h0), (1, .int p0), (2, .int p1), (3, .int p2)] := hl
  refine lv_aload_n hx hb dX12_piece_0 rfl (lv_at hl 0 rfl) ?_
  refine lv_iload_n hx hb dX12_piece_1 rfl (lv_at hl 1 rfl) ?_
  refine vp_callSi (va_runV (As := [.int p0]) (rest := []) ⟨hx, hb, hml, hown, hts⟩ (m_isItem l dC dI h0 v cI cZ u p0) (cwV 1 hts gX12_piece_X12_isItem rfl rfl rfl zh_X12_isItem_1 ⟨Nat.le_of_ble_eq_true rfl, Nat.le_of_ble_eq_true rfl⟩) ⟨pw_fb, va_recv hK hP (ci := 11) (q0 := 0) rfl rfl, fun U hU hW => ⟨rfl, pw_to hU hW hP hK hN⟩⟩ rfl rfl hl.1 rfl (lv_room (Nat.le_of_ble_eq_true rfl)) dX12_piece_2 ⟨Nat.le_of_ble_eq_true rfl, Nat.le_of_ble_eq_true rfl⟩).run (fun r hw => ?_)
  rcases Bool.eq_false_or_eq_true (bw p0 0 (u.1 3 - 1)) with b_1 | b_1
  ·
    obtain rfl : r = 1 := b_t hw b_1
    refine lv_if_eq (tgt := 24) hx hb dX12_piece_5 (by decide) (fun c_2 => absurd c_2 (by decide)) (fun c_2 => ?_)
    refine lv_iload_n hx hb dX12_piece_8 rfl (lv_at hl 2 rfl) ?_
    refine lv_iconst (v := 0) hx hb dX12_piece_9 (by decide) ?_
    refine lv_aload_n hx hb dX12_piece_10 rfl (lv_at hl 0 rfl) ?_
    refine va_get (D := (dC, dI)) (ci := 11) (v := .ref (v 22)) (C := RX12) (T := TX12) (N := 52) hx hb hts zl_X12_piece_X12 hown hK hP 0 rfl rfl 22 (by decide) (hts (.fieldLink RX12 74 "PageOneModel" "pieces" "[I") (zat q_wsX12_piece k_wsX12_piece 904 rfl (by decide +kernel))) (fun _ h9 => h9) rfl dX12_piece_11 ?_
    refine lv_iload_n hx hb dX12_piece_14 rfl (lv_at hl 1 rfl) ?_
    refine va_iald hx hb hK hP 22 0 rfl rfl (vIt hn b_1) dX12_piece_15 ?_
    refine lv_iconst (v := 1) hx hb dX12_piece_16 (by decide) ?_
    refine lv_isub hx hb dX12_piece_17 ?_
    refine vp_callSi (va_runS (As := [.int p1, .int 0, .int ((u.2 22 (p0 : Int32).toNatClampNeg) - 1)]) (rest := []) ⟨hx, hb, hml, hown, hts⟩ (m_in l dC dI p1 0 ((u.2 22 (p0 : Int32).toNatClampNeg) - 1)) (va_cwS 3 hts gX12_piece_X12_in rfl rfl rfl zh_X12_in_0 ⟨Nat.le_of_ble_eq_true rfl, Nat.le_of_ble_eq_true rfl⟩) ⟨pw_fb, fun U hU hW => ⟨rfl, pw_to hU hW (hP.sub (ws' := []) [] rfl) (hK.sub (tys' := []) [] rfl) hN⟩⟩ rfl rfl hl.1 rfl (lv_room (Nat.le_of_ble_eq_true rfl)) dX12_piece_18 ⟨Nat.le_of_ble_eq_true rfl, Nat.le_of_ble_eq_true rfl⟩).run (fun r hw => ?_)
    rcases Bool.eq_false_or_eq_true (bw p1 0 ((u.2 22 (p0 : Int32).toNatClampNeg) - 1)) with b_3 | b_3
    ·
      obtain rfl : r = 1 := b_t hw b_3
      refine lv_if_ne (tgt := 26) hx hb dX12_piece_21 (by decide) (fun c_4 => ?_) (fun c_4 => absurd c_4 (by decide))
      refine lv_bipush (v := 6) hx hb dX12_piece_26 (by decide) ?_
      refine lv_iload_n hx hb dX12_piece_28 rfl (lv_at hl 1 rfl) ?_
      refine lv_imul hx hb dX12_piece_29 ?_
      refine lv_iload_n hx hb dX12_piece_30 rfl (lv_at hl 2 rfl) ?_
      refine lv_iadd hx hb dX12_piece_31 ?_
      refine lv_topi (fun x_5 ex_5 => ?_)
      refine lv_istore (lv' := [(4, .int x_5), (0, .ref h0), (1, .int p0), (2, .int p1), (3, .int p2)]) hx hb dX12_piece_32 hl (by decide) rfl (fun ls hl => ?_)
      refine lv_iload_n hx hb dX12_piece_34 rfl (lv_at hl 4 rfl) ?_
      rcases Classical.em (p2 = 0) with s_6 | s_6
      ·
        subst s_6
        refine lv_tableIn (tgt := 76) (off := 41) hx hb dX12_piece_35 (by decide) (by decide) (by decide) (by decide) ?_
        refine lv_aload_n hx hb dX12_piece_76 rfl (lv_at hl 1 rfl) ?_
        refine va_get (D := (dC, dI)) (ci := 11) (v := .ref (v 23)) (C := RX12) (T := TX12) (N := 52) hx hb hts zl_X12_piece_X12 hown hK hP 0 rfl rfl 23 (by decide) (hts (.fieldLink RX12 77 "PageOneModel" "pPage" "[I") (zat q_wsX12_piece k_wsX12_piece 905 rfl (by decide +kernel))) (fun _ h9 => h9) rfl dX12_piece_77 ?_
        refine lv_iload hx hb dX12_piece_80 (lv_at hl 0 rfl) ?_
        refine va_iald hx hb hK hP 23 0 rfl rfl (v6a (it79 hn b_1) (k5 (hc _ (vlt (vIt hn b_1))) b_3) ex_5) dX12_piece_82 ?_
        exact W.iret (v := (u.2 23 (x_5 : Int32).toNatClampNeg)) hx hb hr (fun t ht hW => ⟨_, rfl, (by subst_vars; simp [mPiece, b_1, b_3]), ht⟩) (fun q h => absurd h List.not_mem_nil) dX12_piece_83
      ·
        rcases Classical.em (p2 = 1) with s_7 | s_7
        ·
          subst s_7
          refine lv_tableIn (tgt := 84) (off := 49) hx hb dX12_piece_35 (by decide) (by decide) (by decide) (by decide) ?_
          refine lv_aload_n hx hb dX12_piece_84 rfl (lv_at hl 1 rfl) ?_
          refine va_get (D := (dC, dI)) (ci := 11) (v := .ref (v 24)) (C := RX12) (T := TX12) (N := 52) hx hb hts zl_X12_piece_X12 hown hK hP 0 rfl rfl 24 (by decide) (hts (.fieldLink RX12 80 "PageOneModel" "pColumn" "[I") (zat q_wsX12_piece k_wsX12_piece 906 rfl (by decide +kernel))) (fun _ h9 => h9) rfl dX12_piece_85 ?_
          refine lv_iload hx hb dX12_piece_88 (lv_at hl 0 rfl) ?_
          refine va_iald hx hb hK hP 24 0 rfl rfl (v6a (it79 hn b_1) (k5 (hc _ (vlt (vIt hn b_1))) b_3) ex_5) dX12_piece_90 ?_
          exact W.iret (v := (u.2 24 (x_5 : Int32).toNatClampNeg)) hx hb hr (fun t ht hW => ⟨_, rfl, (by subst_vars; simp [mPiece, b_1, b_3]), ht⟩) (fun q h => absurd h List.not_mem_nil) dX12_piece_91
        ·
          rcases Classical.em (p2 = 2) with s_8 | s_8
          ·
            subst s_8
            refine lv_tableIn (tgt := 92) (off := 57) hx hb dX12_piece_35 (by decide) (by decide) (by decide) (by decide) ?_
            refine lv_aload_n hx hb dX12_piece_92 rfl (lv_at hl 1 rfl) ?_
            refine va_get (D := (dC, dI)) (ci := 11) (v := .ref (v 25)) (C := RX12) (T := TX12) (N := 52) hx hb hts zl_X12_piece_X12 hown hK hP 0 rfl rfl 25 (by decide) (hts (.fieldLink RX12 83 "PageOneModel" "pLine" "[I") (zat q_wsX12_piece k_wsX12_piece 907 rfl (by decide +kernel))) (fun _ h9 => h9) rfl dX12_piece_93 ?_
            refine lv_iload hx hb dX12_piece_96 (lv_at hl 0 rfl) ?_
            refine va_iald hx hb hK hP 25 0 rfl rfl (v6a (it79 hn b_1) (k5 (hc _ (vlt (vIt hn b_1))) b_3) ex_5) dX12_piece_98 ?_
            exact W.iret (v := (u.2 25 (x_5 : Int32).toNatClampNeg)) hx hb hr (fun t ht hW => ⟨_, rfl, (by subst_vars; simp [mPiece, b_1, b_3]), ht⟩) (fun q h => absurd h List.not_mem_nil) dX12_piece_99
          ·
            rcases Classical.em (p2 = 3) with s_9 | s_9
            ·
              subst s_9
              refine lv_tableIn (tgt := 100) (off := 65) hx hb dX12_piece_35 (by decide) (by decide) (by decide) (by decide) ?_
              refine lv_aload_n hx hb dX12_piece_100 rfl (lv_at hl 1 rfl) ?_
              refine va_get (D := (dC, dI)) (ci := 11) (v := .ref (v 26)) (C := RX12) (T := TX12) (N := 52) hx hb hts zl_X12_piece_X12 hown hK hP 0 rfl rfl 26 (by decide) (hts (.fieldLink RX12 86 "PageOneModel" "pWide" "[I") (zat q_wsX12_piece k_wsX12_piece 908 rfl (by decide +kernel))) (fun _ h9 => h9) rfl dX12_piece_101 ?_
              refine lv_iload hx hb dX12_piece_104 (lv_at hl 0 rfl) ?_
              refine va_iald hx hb hK hP 26 0 rfl rfl (v6a (it79 hn b_1) (k5 (hc _ (vlt (vIt hn b_1))) b_3) ex_5) dX12_piece_106 ?_
              exact W.iret (v := (u.2 26 (x_5 : Int32).toNatClampNeg)) hx hb hr (fun t ht hW => ⟨_, rfl, (by subst_vars; simp [mPiece, b_1, b_3]), ht⟩) (fun q h => absurd h List.not_mem_nil) dX12_piece_107
            ·
              rcases Classical.em (p2 = 4) with s_10 | s_10
              ·
                subst s_10
                refine lv_tableIn (tgt := 108) (off := 73) hx hb dX12_piece_35 (by decide) (by decide) (by decide) (by decide) ?_
                refine lv_aload_n hx hb dX12_piece_108 rfl (lv_at hl 1 rfl) ?_
                refine va_get (D := (dC, dI)) (ci := 11) (v := .ref (v 27)) (C := RX12) (T := TX12) (N := 52) hx hb hts zl_X12_piece_X12 hown hK hP 0 rfl rfl 27 (by decide) (hts (.fieldLink RX12 89 "PageOneModel" "pHigh" "[I") (zat q_wsX12_piece k_wsX12_piece 909 rfl (by decide +kernel))) (fun _ h9 => h9) rfl dX12_piece_109 ?_
                refine lv_iload hx hb dX12_piece_112 (lv_at hl 0 rfl) ?_
                refine va_iald hx hb hK hP 27 0 rfl rfl (v6a (it79 hn b_1) (k5 (hc _ (vlt (vIt hn b_1))) b_3) ex_5) dX12_piece_114 ?_
                exact W.iret (v := (u.2 27 (x_5 : Int32).toNatClampNeg)) hx hb hr (fun t ht hW => ⟨_, rfl, (by subst_vars; simp [mPiece, b_1, b_3]), ht⟩) (fun q h => absurd h List.not_mem_nil) dX12_piece_115
              ·
                rcases Classical.em (p2 = 5) with s_11 | s_11
                ·
                  subst s_11
                  refine lv_tableIn (tgt := 116) (off := 81) hx hb dX12_piece_35 (by decide) (by decide) (by decide) (by decide) ?_
                  refine lv_aload_n hx hb dX12_piece_116 rfl (lv_at hl 1 rfl) ?_
                  refine va_get (D := (dC, dI)) (ci := 11) (v := .ref (v 4)) (C := RX12) (T := TX12) (N := 52) hx hb hts zl_X12_piece_X12 hown hK hP 0 rfl rfl 4 (by decide) (hts (.fieldLink RX12 19 "PageOneModel" "kind" "[I") (zat q_wsX12_piece k_wsX12_piece 886 rfl (by decide +kernel))) (fun _ h9 => h9) rfl dX12_piece_117 ?_
                  refine lv_iload_n hx hb dX12_piece_120 rfl (lv_at hl 2 rfl) ?_
                  refine va_iald hx hb hK hP 4 0 rfl rfl (vIt hn b_1) dX12_piece_121 ?_
                  refine lv_if_ne (tgt := 134) hx hb dX12_piece_122 (by decide) (fun c_12 => ?_) (fun c_12 => ?_)
                  ·
                    refine lv_iconst (v := 0) hx hb dX12_piece_134 (by decide) ?_
                    exact W.iret (v := 0) hx hb hr (fun t ht hW => ⟨_, rfl, (by subst_vars; simp [mPiece, b_1, b_3, c_12]), ht⟩) (fun q h => absurd h List.not_mem_nil) dX12_piece_135
                  ·
                    refine lv_aload_n hx hb dX12_piece_125 rfl (lv_at hl 1 rfl) ?_
                    refine lv_iload_n hx hb dX12_piece_126 rfl (lv_at hl 2 rfl) ?_
                    refine lv_iload_n hx hb dX12_piece_127 rfl (lv_at hl 3 rfl) ?_
                    refine vp_callSi (va_runV (As := [.int p0, .int p1]) (rest := []) ⟨hx, hb, hml, hown, hts⟩ (m_from2 l dC dI h0 v cI cZ u p0 p1 (it79 hn b_1) (k56 (k5 (hc _ (vlt (vIt hn b_1))) b_3)) (hc _ (vlt (vIt hn b_1)))) (cwV 2 hts gX12_piece_X12_from rfl rfl rfl zh_X12_from_12 ⟨Nat.le_of_ble_eq_true rfl, Nat.le_of_ble_eq_true rfl⟩) ⟨pw_fb, va_recv hK hP (ci := 11) (q0 := 0) rfl rfl, fun U hU hW => ⟨rfl, pw_to hU hW hP hK hN⟩⟩ rfl rfl hl.1 rfl (lv_room (Nat.le_of_ble_eq_true rfl)) dX12_piece_128 ⟨Nat.le_of_ble_eq_true rfl, Nat.le_of_ble_eq_true rfl⟩).run (fun r hw => ?_)
                    obtain rfl : r = (mFrom u p0 (p1 : Int32).toNatClampNeg) := hw
                    refine lv_goto (tgt := 135) hx hb dX12_piece_131 (by decide) ?_
                    exact W.iret (v := (mFrom u p0 (p1 : Int32).toNatClampNeg)) hx hb hr (fun t ht hW => ⟨_, rfl, (by subst_vars; simp [mPiece, b_1, b_3, c_12]), ht⟩) (fun q h => absurd h List.not_mem_nil) dX12_piece_135
                ·
                  rcases Classical.em (p2 = 6) with s_13 | s_13
                  ·
                    subst s_13
                    refine lv_tableIn (tgt := 136) (off := 101) hx hb dX12_piece_35 (by decide) (by decide) (by decide) (by decide) ?_
                    refine lv_aload_n hx hb dX12_piece_136 rfl (lv_at hl 1 rfl) ?_
                    refine va_get (D := (dC, dI)) (ci := 11) (v := .ref (v 4)) (C := RX12) (T := TX12) (N := 52) hx hb hts zl_X12_piece_X12 hown hK hP 0 rfl rfl 4 (by decide) (hts (.fieldLink RX12 19 "PageOneModel" "kind" "[I") (zat q_wsX12_piece k_wsX12_piece 886 rfl (by decide +kernel))) (fun _ h9 => h9) rfl dX12_piece_137 ?_
                    refine lv_iload_n hx hb dX12_piece_140 rfl (lv_at hl 2 rfl) ?_
                    refine va_iald hx hb hK hP 4 0 rfl rfl (vIt hn b_1) dX12_piece_141 ?_
                    refine lv_if_ne (tgt := 154) hx hb dX12_piece_142 (by decide) (fun c_14 => ?_) (fun c_14 => ?_)
                    ·
                      refine lv_iconst (v := 0) hx hb dX12_piece_154 (by decide) ?_
                      exact W.iret (v := 0) hx hb hr (fun t ht hW => ⟨_, rfl, (by subst_vars; simp [mPiece, b_1, b_3, c_14]), ht⟩) (fun q h => absurd h List.not_mem_nil) dX12_piece_155
                    ·
                      refine lv_aload_n hx hb dX12_piece_145 rfl (lv_at hl 1 rfl) ?_
                      refine lv_iload_n hx hb dX12_piece_146 rfl (lv_at hl 2 rfl) ?_
                      refine lv_iload_n hx hb dX12_piece_147 rfl (lv_at hl 3 rfl) ?_
                      refine vp_callSi (va_runV (As := [.int p0, .int p1]) (rest := []) ⟨hx, hb, hml, hown, hts⟩ (m_takes l dC dI h0 v cI cZ u p0 p1 (it79 hn b_1) (k5 (hc _ (vlt (vIt hn b_1))) b_3) (hc _ (vlt (vIt hn b_1)))) (cwV 2 hts gX12_piece_X12_takes rfl rfl rfl zh_X12_takes_6 ⟨Nat.le_of_ble_eq_true rfl, Nat.le_of_ble_eq_true rfl⟩) ⟨pw_fb, va_recv hK hP (ci := 11) (q0 := 0) rfl rfl, fun U hU hW => ⟨rfl, pw_to hU hW hP hK hN⟩⟩ rfl rfl hl.1 rfl (lv_room (Nat.le_of_ble_eq_true rfl)) dX12_piece_148 ⟨Nat.le_of_ble_eq_true rfl, Nat.le_of_ble_eq_true rfl⟩).run (fun r hw => ?_)
                      obtain rfl : r = (mTakes u p0 p1) := hw
                      refine lv_goto (tgt := 155) hx hb dX12_piece_151 (by decide) ?_
                      exact W.iret (v := (mTakes u p0 p1)) hx hb hr (fun t ht hW => ⟨_, rfl, (by subst_vars; simp [mPiece, b_1, b_3, c_14]), ht⟩) (fun q h => absurd h List.not_mem_nil) dX12_piece_155
                  ·
                    refine lv_tableOut (tgt := 156) hx hb dX12_piece_35 (sw_out6 s_6 s_7 s_8 s_9 s_10 s_11 s_13) (by decide) ?_
                    refine lv_iconst (v := (-1)) hx hb dX12_piece_156 (by decide) ?_
                    exact W.iret (v := (-1)) hx hb hr (fun t ht hW => ⟨_, rfl, (by subst_vars; simp [mPiece, b_1, b_3, s_6, s_7, s_8, s_9, s_10, s_11, s_13]), ht⟩) (fun q h => absurd h List.not_mem_nil) dX12_piece_157
    ·
      obtain rfl : r = 0 := b_f hw b_3
      refine lv_if_ne (tgt := 26) hx hb dX12_piece_21 (by decide) (fun c_15 => absurd (by decide) c_15) (fun c_15 => ?_)
      refine lv_iconst (v := (-1)) hx hb dX12_piece_24 (by decide) ?_
      exact W.iret (v := (-1)) hx hb hr (fun t ht hW => ⟨_, rfl, (by subst_vars; simp [mPiece, b_1, b_3]), ht⟩) (fun q h => absurd h List.not_mem_nil) dX12_piece_25
  ·
    obtain rfl : r = 0 := b_f hw b_1
    refine lv_if_eq (tgt := 24) hx hb dX12_piece_5 (by decide) (fun c_16 => ?_) (fun c_16 => absurd (by decide) c_16)
    refine lv_iconst (v := (-1)) hx hb dX12_piece_24 (by decide) ?_
    exact W.iret (v := (-1)) hx hb hr (fun t ht hW => ⟨_, rfl, (by subst_vars; simp [mPiece, b_1]), ht⟩) (fun q h => absurd h List.not_mem_nil) dX12_piece_25
set_option maxHeartbeats 4000000 in
set_option maxRecDepth 100000 in
theorem m_plated (l : Launch) (dC : Nat → ClassId) (dI : Nat → Nat → Nat) (h0 : Nat) (v : Nat → Nat) (cI cZ : ClassId) (u : mS) (p0 p1 p2 : Int32) (hpl : ∀ j, j < 96 → bw (u.2 43 j) 0 60 = true) : Met l yX12_plated wsX12_plated ({ frames := 2, cells := 0, slots := 0, locals := 42 }) (va_Pc [.ref h0, .int p0, .int p1, .int p2] (PW dC dI (mW h0 v cI cZ u) [(cI, .int), (cZ, .boolean)])) (vp_Si (fun r => r = mPlated u p0 p1 p2)) 0 0 (fun _ => False) := by
  refine Met.ofW (cc := cX12_plated) (maxL := 4) (ret := (some .int)) (by decide) rfl ?_
  intro p e s m args below meth c s₁ B hml hv
  obtain ⟨rfl, hP, hK, hN⟩ := hv
  have hx := B.exec
  have hb := B.bytes
  have hr := B.returns
  have hts := atoms_spec (ws := wsX12_plated) B.pre
  have hown : s.vm.findClass RX12 = some m.cls := findClass_of_methodNamed B.named
  have hlocks := B.notSynchronized
  have hl := lv_entry ([.ref h0, .int p0, .int p1, .int p2]) (n := 4) (Nat.le_of_ble_eq_true rfl)
  rw [lg_entry_eq]
  generalize (lg_sl ([.ref h0, .int p0, .int p1, .int p2]) ++ List.replicate (4 - (lg_sl ([.ref h0, .int p0, .int p1, .int p2])).length) Slot.unset).toArray = ls at hl ⊢
  have hl : lv_has ls 4 [(0, .ref h0), (1, .int p0), (2, .int p1), (3, .int p2)] := hl
  refine lv_iload_n hx hb dX12_plated_0 rfl (lv_at hl 1 rfl) ?_
  refine vp_callSi (va_runS (As := [.int p0]) (rest := []) ⟨hx, hb, hml, hown, hts⟩ (m_isPage l dC dI p0) (va_cwS 1 hts gX12_plated_X12_isPage rfl rfl rfl zh_X12_isPage_4 ⟨Nat.le_of_ble_eq_true rfl, Nat.le_of_ble_eq_true rfl⟩) ⟨pw_fb, fun U hU hW => ⟨rfl, pw_to hU hW (hP.sub (ws' := []) [] rfl) (hK.sub (tys' := []) [] rfl) hN⟩⟩ rfl rfl hl.1 rfl (lv_room (Nat.le_of_ble_eq_true rfl)) dX12_plated_1 ⟨Nat.le_of_ble_eq_true rfl, Nat.le_of_ble_eq_true rfl⟩).run (fun r hw => ?_)
  rcases Bool.eq_false_or_eq_true (bw p0 0 11) with b_1 | b_1
  ·
    obtain rfl : r = 1 := b_t hw b_1
    refine lv_if_eq (tgt := 61) hx hb dX12_plated_4 (by decide) (fun c_2 => absurd c_2 (by decide)) (fun c_2 => ?_)
    refine lv_aload_n hx hb dX12_plated_7 rfl (lv_at hl 0 rfl) ?_
    refine va_get (D := (dC, dI)) (ci := 11) (v := .ref (v 40)) (C := RX12) (T := TX12) (N := 52) hx hb hts zl_X12_plated_X12 hown hK hP 0 rfl rfl 40 (by decide) (hts (.fieldLink RX12 116 "PageOneModel" "isPlated" "[Z") (zat q_wsX12_plated k_wsX12_plated 922 rfl (by decide +kernel))) (fun _ h9 => h9) rfl dX12_plated_8 ?_
    refine lv_iload_n hx hb dX12_plated_11 rfl (lv_at hl 1 rfl) ?_
    refine va_zald hx hb hK hP 36 1 rfl rfl (vin b_1 (by decide)) dX12_plated_12 ?_
    refine lv_if_eq (tgt := 61) hx hb dX12_plated_13 (by decide) (fun c_3 => ?_) (fun c_3 => ?_)
    ·
      refine lv_iconst (v := (-1)) hx hb dX12_plated_61 (by decide) ?_
      exact W.iret (v := (-1)) hx hb hr (fun t ht hW => ⟨_, rfl, (by first | (unfold mPlated; rw [if_pos b_1, if_pos c_3]; done) | (unfold mPlated; rw [if_pos b_1, if_pos c_3]; rfl) | (simp [mPlated, b_1, c_3]; done)), ht⟩) (fun q h => absurd h List.not_mem_nil) dX12_plated_62
    ·
      refine lv_iload_n hx hb dX12_plated_16 rfl (lv_at hl 2 rfl) ?_
      refine lv_iconst (v := 0) hx hb dX12_plated_17 (by decide) ?_
      refine lv_bipush (v := 7) hx hb dX12_plated_18 (by decide) ?_
      refine vp_callSi (va_runS (As := [.int p1, .int 0, .int 7]) (rest := []) ⟨hx, hb, hml, hown, hts⟩ (m_in l dC dI p1 0 7) (va_cwS 3 hts gX12_plated_X12_in rfl rfl rfl zh_X12_in_0 ⟨Nat.le_of_ble_eq_true rfl, Nat.le_of_ble_eq_true rfl⟩) ⟨pw_fb, fun U hU hW => ⟨rfl, pw_to hU hW (hP.sub (ws' := []) [] rfl) (hK.sub (tys' := []) [] rfl) hN⟩⟩ rfl rfl hl.1 rfl (lv_room (Nat.le_of_ble_eq_true rfl)) dX12_plated_20 ⟨Nat.le_of_ble_eq_true rfl, Nat.le_of_ble_eq_true rfl⟩).run (fun r hw => ?_)
      rcases Bool.eq_false_or_eq_true (bw p1 0 7) with b_4 | b_4
      ·
        obtain rfl : r = 1 := b_t hw b_4
        refine lv_if_eq (tgt := 61) hx hb dX12_plated_23 (by decide) (fun c_5 => absurd c_5 (by decide)) (fun c_5 => ?_)
        refine lv_iload_n hx hb dX12_plated_26 rfl (lv_at hl 3 rfl) ?_
        refine lv_iconst (v := 0) hx hb dX12_plated_27 (by decide) ?_
        refine lv_aload_n hx hb dX12_plated_28 rfl (lv_at hl 0 rfl) ?_
        refine va_get (D := (dC, dI)) (ci := 11) (v := .ref (v 43)) (C := RX12) (T := TX12) (N := 52) hx hb hts zl_X12_plated_X12 hown hK hP 0 rfl rfl 43 (by decide) (hts (.fieldLink RX12 125 "PageOneModel" "plateLines" "[I") (zat q_wsX12_plated k_wsX12_plated 925 rfl (by decide +kernel))) (fun _ h9 => h9) rfl dX12_plated_29 ?_
        refine lv_bipush (v := 8) hx hb dX12_plated_32 (by decide) ?_
        refine lv_iload_n hx hb dX12_plated_34 rfl (lv_at hl 1 rfl) ?_
        refine lv_imul hx hb dX12_plated_35 ?_
        refine lv_iload_n hx hb dX12_plated_36 rfl (lv_at hl 2 rfl) ?_
        refine lv_iadd hx hb dX12_plated_37 ?_
        refine va_iald hx hb hK hP 39 0 rfl rfl (vin8 b_1 b_4) dX12_plated_38 ?_
        refine lv_iconst (v := 1) hx hb dX12_plated_39 (by decide) ?_
        refine lv_isub hx hb dX12_plated_40 ?_
        refine vp_callSi (va_runS (As := [.int p2, .int 0, .int ((u.2 43 (((8 * p0) + p1) : Int32).toNatClampNeg) - 1)]) (rest := []) ⟨hx, hb, hml, hown, hts⟩ (m_in l dC dI p2 0 ((u.2 43 (((8 * p0) + p1) : Int32).toNatClampNeg) - 1)) (va_cwS 3 hts gX12_plated_X12_in rfl rfl rfl zh_X12_in_0 ⟨Nat.le_of_ble_eq_true rfl, Nat.le_of_ble_eq_true rfl⟩) ⟨pw_fb, fun U hU hW => ⟨rfl, pw_to hU hW (hP.sub (ws' := []) [] rfl) (hK.sub (tys' := []) [] rfl) hN⟩⟩ rfl rfl hl.1 rfl (lv_room (Nat.le_of_ble_eq_true rfl)) dX12_plated_41 ⟨Nat.le_of_ble_eq_true rfl, Nat.le_of_ble_eq_true rfl⟩).run (fun r hw => ?_)
        rcases Bool.eq_false_or_eq_true (bw p2 0 ((u.2 43 (((8 * p0) + p1) : Int32).toNatClampNeg) - 1)) with b_6 | b_6
        ·
          obtain rfl : r = 1 := b_t hw b_6
          refine lv_if_eq (tgt := 61) hx hb dX12_plated_44 (by decide) (fun c_7 => absurd c_7 (by decide)) (fun c_7 => ?_)
          refine lv_aload_n hx hb dX12_plated_47 rfl (lv_at hl 0 rfl) ?_
          refine va_get (D := (dC, dI)) (ci := 11) (v := .ref (v 44)) (C := RX12) (T := TX12) (N := 52) hx hb hts zl_X12_plated_X12 hown hK hP 0 rfl rfl 44 (by decide) (hts (.fieldLink RX12 128 "PageOneModel" "plateCell" "[I") (zat q_wsX12_plated k_wsX12_plated 926 rfl (by decide +kernel))) (fun _ h9 => h9) rfl dX12_plated_48 ?_
          refine lv_iload_n hx hb dX12_plated_51 rfl (lv_at hl 1 rfl) ?_
          refine lv_iload_n hx hb dX12_plated_52 rfl (lv_at hl 2 rfl) ?_
          refine lv_iload_n hx hb dX12_plated_53 rfl (lv_at hl 3 rfl) ?_
          refine vp_callSi (va_runS (As := [.int p0, .int p1, .int p2]) (rest := [.ref (v 44)]) ⟨hx, hb, hml, hown, hts⟩ (m_at l dC dI p0 p1 p2) (va_cwS 3 hts gX12_plated_X12_at rfl rfl rfl zh_X12_at_7 ⟨Nat.le_of_ble_eq_true rfl, Nat.le_of_ble_eq_true rfl⟩) ⟨pw_fb, fun U hU hW => ⟨rfl, pw_to hU hW (hP.sub (ws' := []) [] rfl) (hK.sub (tys' := []) [] rfl) hN⟩⟩ rfl rfl hl.1 rfl (lv_room (Nat.le_of_ble_eq_true rfl)) dX12_plated_54 ⟨Nat.le_of_ble_eq_true rfl, Nat.le_of_ble_eq_true rfl⟩).run (fun r hw => ?_)
          obtain rfl : r = (480 * p0 + 60 * p1 + p2) := hw
          refine va_iald hx hb hK hP 40 0 rfl rfl (vAt b_1 b_4 (hpl _ (vlt (vin8 b_1 b_4))) b_6) dX12_plated_57 ?_
          refine lv_goto (tgt := 62) hx hb dX12_plated_58 (by decide) ?_
          exact W.iret (v := (u.2 44 ((480 * p0 + 60 * p1 + p2) : Int32).toNatClampNeg)) hx hb hr (fun t ht hW => ⟨_, rfl, (by first | (unfold mPlated; rw [if_pos b_1, if_neg c_3, if_pos b_4, if_pos b_6]; done) | (unfold mPlated; rw [if_pos b_1, if_neg c_3, if_pos b_4, if_pos b_6]; rfl) | (simp [mPlated, b_1, b_4, b_6, c_3]; done)), ht⟩) (fun q h => absurd h List.not_mem_nil) dX12_plated_62
        ·
          obtain rfl : r = 0 := b_f hw b_6
          refine lv_if_eq (tgt := 61) hx hb dX12_plated_44 (by decide) (fun c_8 => ?_) (fun c_8 => absurd (by decide) c_8)
          refine lv_iconst (v := (-1)) hx hb dX12_plated_61 (by decide) ?_
          exact W.iret (v := (-1)) hx hb hr (fun t ht hW => ⟨_, rfl, (by first | (unfold mPlated; rw [if_pos b_1, if_neg c_3, if_pos b_4, if_neg (bne b_6)]; done) | (unfold mPlated; rw [if_pos b_1, if_neg c_3, if_pos b_4, if_neg (bne b_6)]; rfl) | (simp [mPlated, b_1, b_4, b_6, c_3]; done)), ht⟩) (fun q h => absurd h List.not_mem_nil) dX12_plated_62
      ·
        obtain rfl : r = 0 := b_f hw b_4
        refine lv_if_eq (tgt := 61) hx hb dX12_plated_23 (by decide) (fun c_9 => ?_) (fun c_9 => absurd (by decide) c_9)
        refine lv_iconst (v := (-1)) hx hb dX12_plated_61 (by decide) ?_
        exact W.iret (v := (-1)) hx hb hr (fun t ht hW => ⟨_, rfl, (by first | (unfold mPlated; rw [if_pos b_1, if_neg c_3, if_neg (bne b_4)]; done) | (unfold mPlated; rw [if_pos b_1, if_neg c_3, if_neg (bne b_4)]; rfl) | (simp [mPlated, b_1, b_4, c_3]; done)), ht⟩) (fun q h => absurd h List.not_mem_nil) dX12_plated_62
  ·
    obtain rfl : r = 0 := b_f hw b_1
    refine lv_if_eq (tgt := 61) hx hb dX12_plated_4 (by decide) (fun c_10 => ?_) (fun c_10 => absurd (by decide) c_10)
    refine lv_iconst (v := (-1)) hx hb dX12_plated_61 (by decide) ?_
    exact W.iret (v := (-1)) hx hb hr (fun t ht hW => ⟨_, rfl, (by first | (unfold mPlated; rw [if_neg (bne b_1)]; done) | (unfold mPlated; rw [if_neg (bne b_1)]; rfl) | (simp [mPlated, b_1]; done)), ht⟩) (fun q h => absurd h List.not_mem_nil) dX12_plated_62
set_option maxHeartbeats 4000000 in
set_option maxRecDepth 100000 in
theorem m_wrongs (l : Launch) (dC : Nat → ClassId) (dI : Nat → Nat → Nat) (h0 : Nat) (v : Nat → Nat) (cI cZ : ClassId) (u : mS) (p0 p1 p2 : Int32) (sz : Nat) : Met l yX12_wrongs wsX12_wrongs ({ frames := 0, cells := 0, slots := 0, locals := 0 }) (va_Pc [.ref h0, .int p0, .int p1, .int p2] (fun U => U.heap.size = sz ∧ PW dC dI (mW h0 v cI cZ u) [(cI, .int), (cZ, .boolean)] U ∧ va_D (fun _ => True) (mW h0 v cI cZ u))) (va_Qv (fun u9 : mS => u9 = mWrongs u p0 p1 p2) (fun u9 t => va_P (dC, dI) vwCl (mW h0 v cI cZ u9) t.heap ∧ va_D (va_A (mW h0 v cI cZ u) sz) (mW h0 v cI cZ u9)) (va_A (mW h0 v cI cZ u) sz)) 0 0 (va_A (mW h0 v cI cZ u) sz) := by
  refine Met.ofW (cc := cX12_wrongs) (maxL := 6) (ret := none) (by decide) rfl ?_
  intro p e s m args below meth c s₁ B hml hv
  obtain ⟨rfl, hsz, ⟨hP, hK, hN⟩, hD0⟩ := hv
  have hx := B.exec
  have hb := B.bytes
  have hr := B.returns
  have hts := atoms_spec (ws := wsX12_wrongs) B.pre
  have hown : s.vm.findClass RX12 = some m.cls := findClass_of_methodNamed B.named
  have hlocks := B.notSynchronized
  subst hsz
  have hD := hD0.self (sz := s.heap.size)
  generalize hAe : va_A (mW h0 v cI cZ u) s.heap.size = A at hD ⊢
  have hA : ∀ q : Nat, s.heap.size ≤ q → A q := fun q h => by rw [← hAe]; exact Or.inr h
  have hS : va_S A s.heap s.heap [] := va_S.rf
  have hl := lv_entry ([.ref h0, .int p0, .int p1, .int p2]) (n := 6) (Nat.le_of_ble_eq_true rfl)
  rw [lg_entry_eq]
  generalize (lg_sl ([.ref h0, .int p0, .int p1, .int p2]) ++ List.replicate (6 - (lg_sl ([.ref h0, .int p0, .int p1, .int p2])).length) Slot.unset).toArray = ls at hl ⊢
  have hl : lv_has ls 6 [(0, .ref h0), (1, .int p0), (2, .int p1), (3, .int p2)] := hl
  refine lv_iload_n hx hb dX12_wrongs_0 rfl (lv_at hl 3 rfl) ?_
  refine lv_if_lt (tgt := 13) hx hb dX12_wrongs_1 (by decide) (fun c_1 => ?_) (fun c_1 => ?_)
  ·
    refine lv_iload_n hx hb dX12_wrongs_13 rfl (lv_at hl 2 rfl) ?_
    refine lv_istore (lv' := [(4, .int p1), (0, .ref h0), (1, .int p0), (2, .int p1), (3, .int p2)]) hx hb dX12_wrongs_14 hl (by decide) rfl (fun ls hl => ?_)
    refine lv_iload_n hx hb dX12_wrongs_16 rfl (lv_at hl 4 rfl) ?_
    refine lv_if_lt (tgt := 29) hx hb dX12_wrongs_17 (by decide) (fun c_2 => ?_) (fun c_2 => absurd (c_1) c_2)
    refine lv_iload_n hx hb dX12_wrongs_29 rfl (lv_at hl 4 rfl) ?_
    refine lv_istore (lv' := [(5, .int p2), (4, .int p1), (0, .ref h0), (1, .int p0), (2, .int p1), (3, .int p2)]) hx hb dX12_wrongs_30 hl (by decide) rfl (fun ls hl => ?_)
    refine lv_aload_n hx hb dX12_wrongs_32 rfl (lv_at hl 2 rfl) ?_
    refine va_get (D := (dC, dI)) (ci := 11) (v := .int (u.1 49)) (C := RX12) (T := TX12) (N := 52) hx hb hts zl_X12_wrongs_X12 hown hK hP 0 rfl rfl 49 (by decide) (hts (.fieldLink RX12 228 "PageOneModel" "wrong" "I") (zat q_wsX12_wrongs k_wsX12_wrongs 931 rfl (by decide +kernel))) (fun _ h9 => h9) rfl dX12_wrongs_33 ?_
    refine lv_if_eq (tgt := 82) hx hb dX12_wrongs_36 (by decide) (fun c_3 => ?_) (fun c_3 => ?_)
    ·
      refine lv_aload_n hx hb dX12_wrongs_82 rfl (lv_at hl 2 rfl) ?_
      refine lv_iload_n hx hb dX12_wrongs_83 rfl (lv_at hl 3 rfl) ?_
      refine va_put (D := (dC, dI)) (ci := 11) (v := .int p0) (ty := .int) (C := RX12) (T := TX12) (N := 52) hx hb hts zl_X12_wrongs_X12 tyX12 tyX12_ok nmX12 hown hK hP hD hS 0 rfl rfl 49 (by decide) (hts (.fieldLink RX12 228 "PageOneModel" "wrong" "I") (zat q_wsX12_wrongs k_wsX12_wrongs 931 rfl (by decide +kernel))) (fun _ h9 => h9) rfl (tyX12_ok 49 (by decide)) rfl rfl (Nat.le_of_ble_eq_true rfl) dX12_wrongs_84 (fun H locs hP hD hS => ?_)
      obtain ⟨u_4, eu_4⟩ : ∃ zz : mS, zz = mset u 49 p0 := ⟨_, rfl⟩
      have hP : va_P (dC, dI) vwCl (mW h0 v cI cZ u_4) H := by rw [eu_4]; exact hP
      have hD : va_D A (mW h0 v cI cZ u_4) := by rw [eu_4]; exact hD
      refine lv_aload_n hx hb dX12_wrongs_87 rfl (lv_at hl 2 rfl) ?_
      refine lv_iload hx hb dX12_wrongs_88 (lv_at hl 1 rfl) ?_
      refine va_put (D := (dC, dI)) (ci := 11) (v := .int p1) (ty := .int) (C := RX12) (T := TX12) (N := 52) hx hb hts zl_X12_wrongs_X12 tyX12 tyX12_ok nmX12 hown hK hP hD hS 0 rfl rfl 50 (by decide) (hts (.fieldLink RX12 231 "PageOneModel" "wrongOne" "I") (zat q_wsX12_wrongs k_wsX12_wrongs 932 rfl (by decide +kernel))) (fun _ h9 => h9) rfl (tyX12_ok 50 (by decide)) rfl rfl (Nat.le_of_ble_eq_true rfl) dX12_wrongs_90 (fun H locs hP hD hS => ?_)
      obtain ⟨u_5, eu_5⟩ : ∃ zz : mS, zz = mset u_4 50 p1 := ⟨_, rfl⟩
      have hP : va_P (dC, dI) vwCl (mW h0 v cI cZ u_5) H := by rw [eu_5]; exact hP
      have hD : va_D A (mW h0 v cI cZ u_5) := by rw [eu_5]; exact hD
      refine lv_aload_n hx hb dX12_wrongs_93 rfl (lv_at hl 2 rfl) ?_
      refine lv_iload hx hb dX12_wrongs_94 (lv_at hl 0 rfl) ?_
      refine va_put (D := (dC, dI)) (ci := 11) (v := .int p2) (ty := .int) (C := RX12) (T := TX12) (N := 52) hx hb hts zl_X12_wrongs_X12 tyX12 tyX12_ok nmX12 hown hK hP hD hS 0 rfl rfl 51 (by decide) (hts (.fieldLink RX12 234 "PageOneModel" "wrongTwo" "I") (zat q_wsX12_wrongs k_wsX12_wrongs 933 rfl (by decide +kernel))) (fun _ h9 => h9) rfl (tyX12_ok 51 (by decide)) rfl rfl (Nat.le_of_ble_eq_true rfl) dX12_wrongs_96 (fun H locs hP hD hS => ?_)
      obtain ⟨u_6, eu_6⟩ : ∃ zz : mS, zz = mset u_5 51 p2 := ⟨_, rfl⟩
      have hP : va_P (dC, dI) vwCl (mW h0 v cI cZ u_6) H := by rw [eu_6]; exact hP
      have hD : va_D A (mW h0 v cI cZ u_6) := by rw [eu_6]; exact hD
      exact W.vret hx hb hr (fun t ht hW => ⟨⟨u_6, rfl, (by subst eu_4 eu_5 eu_6; first | (simp only [mWrongs, if_pos c_1, if_pos c_3]; done) | (simp [mWrongs, c_1, c_3]; done)), by rw [ht]; exact hP, hD⟩, hS.F ht⟩) hS.2.2 dX12_wrongs_99
    ·
      refine lv_iload_n hx hb dX12_wrongs_39 rfl (lv_at hl 3 rfl) ?_
      refine lv_aload_n hx hb dX12_wrongs_40 rfl (lv_at hl 2 rfl) ?_
      refine va_get (D := (dC, dI)) (ci := 11) (v := .int (u.1 49)) (C := RX12) (T := TX12) (N := 52) hx hb hts zl_X12_wrongs_X12 hown hK hP 0 rfl rfl 49 (by decide) (hts (.fieldLink RX12 228 "PageOneModel" "wrong" "I") (zat q_wsX12_wrongs k_wsX12_wrongs 931 rfl (by decide +kernel))) (fun _ h9 => h9) rfl dX12_wrongs_41 ?_
      refine lv_icmp_lt (tgt := 82) hx hb dX12_wrongs_44 (by decide) (fun c_7 => ?_) (fun c_7 => ?_)
      ·
        refine lv_aload_n hx hb dX12_wrongs_82 rfl (lv_at hl 2 rfl) ?_
        refine lv_iload_n hx hb dX12_wrongs_83 rfl (lv_at hl 3 rfl) ?_
        refine va_put (D := (dC, dI)) (ci := 11) (v := .int p0) (ty := .int) (C := RX12) (T := TX12) (N := 52) hx hb hts zl_X12_wrongs_X12 tyX12 tyX12_ok nmX12 hown hK hP hD hS 0 rfl rfl 49 (by decide) (hts (.fieldLink RX12 228 "PageOneModel" "wrong" "I") (zat q_wsX12_wrongs k_wsX12_wrongs 931 rfl (by decide +kernel))) (fun _ h9 => h9) rfl (tyX12_ok 49 (by decide)) rfl rfl (Nat.le_of_ble_eq_true rfl) dX12_wrongs_84 (fun H locs hP hD hS => ?_)
        obtain ⟨u_8, eu_8⟩ : ∃ zz : mS, zz = mset u 49 p0 := ⟨_, rfl⟩
        have hP : va_P (dC, dI) vwCl (mW h0 v cI cZ u_8) H := by rw [eu_8]; exact hP
        have hD : va_D A (mW h0 v cI cZ u_8) := by rw [eu_8]; exact hD
        refine lv_aload_n hx hb dX12_wrongs_87 rfl (lv_at hl 2 rfl) ?_
        refine lv_iload hx hb dX12_wrongs_88 (lv_at hl 1 rfl) ?_
        refine va_put (D := (dC, dI)) (ci := 11) (v := .int p1) (ty := .int) (C := RX12) (T := TX12) (N := 52) hx hb hts zl_X12_wrongs_X12 tyX12 tyX12_ok nmX12 hown hK hP hD hS 0 rfl rfl 50 (by decide) (hts (.fieldLink RX12 231 "PageOneModel" "wrongOne" "I") (zat q_wsX12_wrongs k_wsX12_wrongs 932 rfl (by decide +kernel))) (fun _ h9 => h9) rfl (tyX12_ok 50 (by decide)) rfl rfl (Nat.le_of_ble_eq_true rfl) dX12_wrongs_90 (fun H locs hP hD hS => ?_)
        obtain ⟨u_9, eu_9⟩ : ∃ zz : mS, zz = mset u_8 50 p1 := ⟨_, rfl⟩
        have hP : va_P (dC, dI) vwCl (mW h0 v cI cZ u_9) H := by rw [eu_9]; exact hP
        have hD : va_D A (mW h0 v cI cZ u_9) := by rw [eu_9]; exact hD
        refine lv_aload_n hx hb dX12_wrongs_93 rfl (lv_at hl 2 rfl) ?_
        refine lv_iload hx hb dX12_wrongs_94 (lv_at hl 0 rfl) ?_
        refine va_put (D := (dC, dI)) (ci := 11) (v := .int p2) (ty := .int) (C := RX12) (T := TX12) (N := 52) hx hb hts zl_X12_wrongs_X12 tyX12 tyX12_ok nmX12 hown hK hP hD hS 0 rfl rfl 51 (by decide) (hts (.fieldLink RX12 234 "PageOneModel" "wrongTwo" "I") (zat q_wsX12_wrongs k_wsX12_wrongs 933 rfl (by decide +kernel))) (fun _ h9 => h9) rfl (tyX12_ok 51 (by decide)) rfl rfl (Nat.le_of_ble_eq_true rfl) dX12_wrongs_96 (fun H locs hP hD hS => ?_)
        obtain ⟨u_10, eu_10⟩ : ∃ zz : mS, zz = mset u_9 51 p2 := ⟨_, rfl⟩
        have hP : va_P (dC, dI) vwCl (mW h0 v cI cZ u_10) H := by rw [eu_10]; exact hP
        have hD : va_D A (mW h0 v cI cZ u_10) := by rw [eu_10]; exact hD
        exact W.vret hx hb hr (fun t ht hW => ⟨⟨u_10, rfl, (by subst eu_8 eu_9 eu_10; first | (simp only [mWrongs, if_pos c_1, if_neg c_3, if_pos c_7]; done) | (simp [mWrongs, c_1, c_3, c_7]; done)), by rw [ht]; exact hP, hD⟩, hS.F ht⟩) hS.2.2 dX12_wrongs_99
      ·
        refine lv_iload_n hx hb dX12_wrongs_47 rfl (lv_at hl 3 rfl) ?_
        refine lv_aload_n hx hb dX12_wrongs_48 rfl (lv_at hl 2 rfl) ?_
        refine va_get (D := (dC, dI)) (ci := 11) (v := .int (u.1 49)) (C := RX12) (T := TX12) (N := 52) hx hb hts zl_X12_wrongs_X12 hown hK hP 0 rfl rfl 49 (by decide) (hts (.fieldLink RX12 228 "PageOneModel" "wrong" "I") (zat q_wsX12_wrongs k_wsX12_wrongs 931 rfl (by decide +kernel))) (fun _ h9 => h9) rfl dX12_wrongs_49 ?_
        refine lv_icmp_ne (tgt := 99) hx hb dX12_wrongs_52 (by decide) (fun c_11 => ?_) (fun c_11 => ?_)
        ·
          exact W.vret hx hb hr (fun t ht hW => ⟨⟨u, rfl, (by first | (simp only [mWrongs, if_pos c_1, if_neg c_3, if_neg c_7, if_neg c_11]; done) | (simp [mWrongs, c_1, c_3, c_7, c_11]; done)), by rw [ht]; exact hP, hD⟩, hS.F ht⟩) hS.2.2 dX12_wrongs_99
        ·
          refine lv_iload hx hb dX12_wrongs_55 (lv_at hl 1 rfl) ?_
          refine lv_aload_n hx hb dX12_wrongs_57 rfl (lv_at hl 2 rfl) ?_
          refine va_get (D := (dC, dI)) (ci := 11) (v := .int (u.1 50)) (C := RX12) (T := TX12) (N := 52) hx hb hts zl_X12_wrongs_X12 hown hK hP 0 rfl rfl 50 (by decide) (hts (.fieldLink RX12 231 "PageOneModel" "wrongOne" "I") (zat q_wsX12_wrongs k_wsX12_wrongs 932 rfl (by decide +kernel))) (fun _ h9 => h9) rfl dX12_wrongs_58 ?_
          refine lv_icmp_lt (tgt := 82) hx hb dX12_wrongs_61 (by decide) (fun c_12 => ?_) (fun c_12 => ?_)
          ·
            refine lv_aload_n hx hb dX12_wrongs_82 rfl (lv_at hl 2 rfl) ?_
            refine lv_iload_n hx hb dX12_wrongs_83 rfl (lv_at hl 3 rfl) ?_
            refine va_put (D := (dC, dI)) (ci := 11) (v := .int p0) (ty := .int) (C := RX12) (T := TX12) (N := 52) hx hb hts zl_X12_wrongs_X12 tyX12 tyX12_ok nmX12 hown hK hP hD hS 0 rfl rfl 49 (by decide) (hts (.fieldLink RX12 228 "PageOneModel" "wrong" "I") (zat q_wsX12_wrongs k_wsX12_wrongs 931 rfl (by decide +kernel))) (fun _ h9 => h9) rfl (tyX12_ok 49 (by decide)) rfl rfl (Nat.le_of_ble_eq_true rfl) dX12_wrongs_84 (fun H locs hP hD hS => ?_)
            obtain ⟨u_13, eu_13⟩ : ∃ zz : mS, zz = mset u 49 p0 := ⟨_, rfl⟩
            have hP : va_P (dC, dI) vwCl (mW h0 v cI cZ u_13) H := by rw [eu_13]; exact hP
            have hD : va_D A (mW h0 v cI cZ u_13) := by rw [eu_13]; exact hD
            refine lv_aload_n hx hb dX12_wrongs_87 rfl (lv_at hl 2 rfl) ?_
            refine lv_iload hx hb dX12_wrongs_88 (lv_at hl 1 rfl) ?_
            refine va_put (D := (dC, dI)) (ci := 11) (v := .int p1) (ty := .int) (C := RX12) (T := TX12) (N := 52) hx hb hts zl_X12_wrongs_X12 tyX12 tyX12_ok nmX12 hown hK hP hD hS 0 rfl rfl 50 (by decide) (hts (.fieldLink RX12 231 "PageOneModel" "wrongOne" "I") (zat q_wsX12_wrongs k_wsX12_wrongs 932 rfl (by decide +kernel))) (fun _ h9 => h9) rfl (tyX12_ok 50 (by decide)) rfl rfl (Nat.le_of_ble_eq_true rfl) dX12_wrongs_90 (fun H locs hP hD hS => ?_)
            obtain ⟨u_14, eu_14⟩ : ∃ zz : mS, zz = mset u_13 50 p1 := ⟨_, rfl⟩
            have hP : va_P (dC, dI) vwCl (mW h0 v cI cZ u_14) H := by rw [eu_14]; exact hP
            have hD : va_D A (mW h0 v cI cZ u_14) := by rw [eu_14]; exact hD
            refine lv_aload_n hx hb dX12_wrongs_93 rfl (lv_at hl 2 rfl) ?_
            refine lv_iload hx hb dX12_wrongs_94 (lv_at hl 0 rfl) ?_
            refine va_put (D := (dC, dI)) (ci := 11) (v := .int p2) (ty := .int) (C := RX12) (T := TX12) (N := 52) hx hb hts zl_X12_wrongs_X12 tyX12 tyX12_ok nmX12 hown hK hP hD hS 0 rfl rfl 51 (by decide) (hts (.fieldLink RX12 234 "PageOneModel" "wrongTwo" "I") (zat q_wsX12_wrongs k_wsX12_wrongs 933 rfl (by decide +kernel))) (fun _ h9 => h9) rfl (tyX12_ok 51 (by decide)) rfl rfl (Nat.le_of_ble_eq_true rfl) dX12_wrongs_96 (fun H locs hP hD hS => ?_)
            obtain ⟨u_15, eu_15⟩ : ∃ zz : mS, zz = mset u_14 51 p2 := ⟨_, rfl⟩
            have hP : va_P (dC, dI) vwCl (mW h0 v cI cZ u_15) H := by rw [eu_15]; exact hP
            have hD : va_D A (mW h0 v cI cZ u_15) := by rw [eu_15]; exact hD
            exact W.vret hx hb hr (fun t ht hW => ⟨⟨u_15, rfl, (by subst eu_13 eu_14 eu_15; first | (simp only [mWrongs, if_pos c_1, if_neg c_3, if_neg c_7, if_pos c_11, if_pos c_12]; done) | (simp [mWrongs, c_1, c_3, c_7, c_11, c_12]; done)), by rw [ht]; exact hP, hD⟩, hS.F ht⟩) hS.2.2 dX12_wrongs_99
          ·
            refine lv_iload hx hb dX12_wrongs_64 (lv_at hl 1 rfl) ?_
            refine lv_aload_n hx hb dX12_wrongs_66 rfl (lv_at hl 2 rfl) ?_
            refine va_get (D := (dC, dI)) (ci := 11) (v := .int (u.1 50)) (C := RX12) (T := TX12) (N := 52) hx hb hts zl_X12_wrongs_X12 hown hK hP 0 rfl rfl 50 (by decide) (hts (.fieldLink RX12 231 "PageOneModel" "wrongOne" "I") (zat q_wsX12_wrongs k_wsX12_wrongs 932 rfl (by decide +kernel))) (fun _ h9 => h9) rfl dX12_wrongs_67 ?_
            refine lv_icmp_ne (tgt := 99) hx hb dX12_wrongs_70 (by decide) (fun c_16 => ?_) (fun c_16 => ?_)
            ·
              exact W.vret hx hb hr (fun t ht hW => ⟨⟨u, rfl, (by first | (simp only [mWrongs, if_pos c_1, if_neg c_3, if_neg c_7, if_pos c_11, if_neg c_12, if_neg c_16]; done) | (simp [mWrongs, c_1, c_3, c_7, c_11, c_12, c_16]; done)), by rw [ht]; exact hP, hD⟩, hS.F ht⟩) hS.2.2 dX12_wrongs_99
            ·
              refine lv_iload hx hb dX12_wrongs_73 (lv_at hl 0 rfl) ?_
              refine lv_aload_n hx hb dX12_wrongs_75 rfl (lv_at hl 2 rfl) ?_
              refine va_get (D := (dC, dI)) (ci := 11) (v := .int (u.1 51)) (C := RX12) (T := TX12) (N := 52) hx hb hts zl_X12_wrongs_X12 hown hK hP 0 rfl rfl 51 (by decide) (hts (.fieldLink RX12 234 "PageOneModel" "wrongTwo" "I") (zat q_wsX12_wrongs k_wsX12_wrongs 933 rfl (by decide +kernel))) (fun _ h9 => h9) rfl dX12_wrongs_76 ?_
              refine lv_icmp_ge (tgt := 99) hx hb dX12_wrongs_79 (by decide) (fun c_17 => ?_) (fun c_17 => ?_)
              ·
                exact W.vret hx hb hr (fun t ht hW => ⟨⟨u, rfl, (by first | (simp only [mWrongs, if_pos c_1, if_neg c_3, if_neg c_7, if_pos c_11, if_neg c_12, if_pos c_16, if_pos c_17]; done) | (simp [mWrongs, c_1, c_3, c_7, c_11, c_12, c_16, c_17]; done)), by rw [ht]; exact hP, hD⟩, hS.F ht⟩) hS.2.2 dX12_wrongs_99
              ·
                refine lv_aload_n hx hb dX12_wrongs_82 rfl (lv_at hl 2 rfl) ?_
                refine lv_iload_n hx hb dX12_wrongs_83 rfl (lv_at hl 3 rfl) ?_
                refine va_put (D := (dC, dI)) (ci := 11) (v := .int p0) (ty := .int) (C := RX12) (T := TX12) (N := 52) hx hb hts zl_X12_wrongs_X12 tyX12 tyX12_ok nmX12 hown hK hP hD hS 0 rfl rfl 49 (by decide) (hts (.fieldLink RX12 228 "PageOneModel" "wrong" "I") (zat q_wsX12_wrongs k_wsX12_wrongs 931 rfl (by decide +kernel))) (fun _ h9 => h9) rfl (tyX12_ok 49 (by decide)) rfl rfl (Nat.le_of_ble_eq_true rfl) dX12_wrongs_84 (fun H locs hP hD hS => ?_)
                obtain ⟨u_18, eu_18⟩ : ∃ zz : mS, zz = mset u 49 p0 := ⟨_, rfl⟩
                have hP : va_P (dC, dI) vwCl (mW h0 v cI cZ u_18) H := by rw [eu_18]; exact hP
                have hD : va_D A (mW h0 v cI cZ u_18) := by rw [eu_18]; exact hD
                refine lv_aload_n hx hb dX12_wrongs_87 rfl (lv_at hl 2 rfl) ?_
                refine lv_iload hx hb dX12_wrongs_88 (lv_at hl 1 rfl) ?_
                refine va_put (D := (dC, dI)) (ci := 11) (v := .int p1) (ty := .int) (C := RX12) (T := TX12) (N := 52) hx hb hts zl_X12_wrongs_X12 tyX12 tyX12_ok nmX12 hown hK hP hD hS 0 rfl rfl 50 (by decide) (hts (.fieldLink RX12 231 "PageOneModel" "wrongOne" "I") (zat q_wsX12_wrongs k_wsX12_wrongs 932 rfl (by decide +kernel))) (fun _ h9 => h9) rfl (tyX12_ok 50 (by decide)) rfl rfl (Nat.le_of_ble_eq_true rfl) dX12_wrongs_90 (fun H locs hP hD hS => ?_)
                obtain ⟨u_19, eu_19⟩ : ∃ zz : mS, zz = mset u_18 50 p1 := ⟨_, rfl⟩
                have hP : va_P (dC, dI) vwCl (mW h0 v cI cZ u_19) H := by rw [eu_19]; exact hP
                have hD : va_D A (mW h0 v cI cZ u_19) := by rw [eu_19]; exact hD
                refine lv_aload_n hx hb dX12_wrongs_93 rfl (lv_at hl 2 rfl) ?_
                refine lv_iload hx hb dX12_wrongs_94 (lv_at hl 0 rfl) ?_
                refine va_put (D := (dC, dI)) (ci := 11) (v := .int p2) (ty := .int) (C := RX12) (T := TX12) (N := 52) hx hb hts zl_X12_wrongs_X12 tyX12 tyX12_ok nmX12 hown hK hP hD hS 0 rfl rfl 51 (by decide) (hts (.fieldLink RX12 234 "PageOneModel" "wrongTwo" "I") (zat q_wsX12_wrongs k_wsX12_wrongs 933 rfl (by decide +kernel))) (fun _ h9 => h9) rfl (tyX12_ok 51 (by decide)) rfl rfl (Nat.le_of_ble_eq_true rfl) dX12_wrongs_96 (fun H locs hP hD hS => ?_)
                obtain ⟨u_20, eu_20⟩ : ∃ zz : mS, zz = mset u_19 51 p2 := ⟨_, rfl⟩
                have hP : va_P (dC, dI) vwCl (mW h0 v cI cZ u_20) H := by rw [eu_20]; exact hP
                have hD : va_D A (mW h0 v cI cZ u_20) := by rw [eu_20]; exact hD
                exact W.vret hx hb hr (fun t ht hW => ⟨⟨u_20, rfl, (by subst eu_18 eu_19 eu_20; first | (simp only [mWrongs, if_pos c_1, if_neg c_3, if_neg c_7, if_pos c_11, if_neg c_12, if_pos c_16, if_neg c_17]; done) | (simp [mWrongs, c_1, c_3, c_7, c_11, c_12, c_16, c_17]; done)), by rw [ht]; exact hP, hD⟩, hS.F ht⟩) hS.2.2 dX12_wrongs_99
  ·
    refine lv_iload_n hx hb dX12_wrongs_4 rfl (lv_at hl 3 rfl) ?_
    refine lv_iload_n hx hb dX12_wrongs_5 rfl (lv_at hl 2 rfl) ?_
    refine lv_icmp_ge (tgt := 13) hx hb dX12_wrongs_6 (by decide) (fun c_21 => ?_) (fun c_21 => ?_)
    ·
      refine lv_iload_n hx hb dX12_wrongs_13 rfl (lv_at hl 2 rfl) ?_
      refine lv_istore (lv' := [(4, .int p1), (0, .ref h0), (1, .int p0), (2, .int p1), (3, .int p2)]) hx hb dX12_wrongs_14 hl (by decide) rfl (fun ls hl => ?_)
      refine lv_iload_n hx hb dX12_wrongs_16 rfl (lv_at hl 4 rfl) ?_
      refine lv_if_lt (tgt := 29) hx hb dX12_wrongs_17 (by decide) (fun c_22 => absurd c_22 (c_1)) (fun c_22 => ?_)
      refine lv_iload_n hx hb dX12_wrongs_20 rfl (lv_at hl 4 rfl) ?_
      refine lv_iload_n hx hb dX12_wrongs_21 rfl (lv_at hl 3 rfl) ?_
      refine lv_icmp_ge (tgt := 29) hx hb dX12_wrongs_22 (by decide) (fun c_23 => ?_) (fun c_23 => absurd (c_21) c_23)
      refine lv_iload_n hx hb dX12_wrongs_29 rfl (lv_at hl 4 rfl) ?_
      refine lv_istore (lv' := [(5, .int p2), (4, .int p1), (0, .ref h0), (1, .int p0), (2, .int p1), (3, .int p2)]) hx hb dX12_wrongs_30 hl (by decide) rfl (fun ls hl => ?_)
      refine lv_aload_n hx hb dX12_wrongs_32 rfl (lv_at hl 2 rfl) ?_
      refine va_get (D := (dC, dI)) (ci := 11) (v := .int (u.1 49)) (C := RX12) (T := TX12) (N := 52) hx hb hts zl_X12_wrongs_X12 hown hK hP 0 rfl rfl 49 (by decide) (hts (.fieldLink RX12 228 "PageOneModel" "wrong" "I") (zat q_wsX12_wrongs k_wsX12_wrongs 931 rfl (by decide +kernel))) (fun _ h9 => h9) rfl dX12_wrongs_33 ?_
      refine lv_if_eq (tgt := 82) hx hb dX12_wrongs_36 (by decide) (fun c_24 => ?_) (fun c_24 => ?_)
      ·
        refine lv_aload_n hx hb dX12_wrongs_82 rfl (lv_at hl 2 rfl) ?_
        refine lv_iload_n hx hb dX12_wrongs_83 rfl (lv_at hl 3 rfl) ?_
        refine va_put (D := (dC, dI)) (ci := 11) (v := .int p0) (ty := .int) (C := RX12) (T := TX12) (N := 52) hx hb hts zl_X12_wrongs_X12 tyX12 tyX12_ok nmX12 hown hK hP hD hS 0 rfl rfl 49 (by decide) (hts (.fieldLink RX12 228 "PageOneModel" "wrong" "I") (zat q_wsX12_wrongs k_wsX12_wrongs 931 rfl (by decide +kernel))) (fun _ h9 => h9) rfl (tyX12_ok 49 (by decide)) rfl rfl (Nat.le_of_ble_eq_true rfl) dX12_wrongs_84 (fun H locs hP hD hS => ?_)
        obtain ⟨u_25, eu_25⟩ : ∃ zz : mS, zz = mset u 49 p0 := ⟨_, rfl⟩
        have hP : va_P (dC, dI) vwCl (mW h0 v cI cZ u_25) H := by rw [eu_25]; exact hP
        have hD : va_D A (mW h0 v cI cZ u_25) := by rw [eu_25]; exact hD
        refine lv_aload_n hx hb dX12_wrongs_87 rfl (lv_at hl 2 rfl) ?_
        refine lv_iload hx hb dX12_wrongs_88 (lv_at hl 1 rfl) ?_
        refine va_put (D := (dC, dI)) (ci := 11) (v := .int p1) (ty := .int) (C := RX12) (T := TX12) (N := 52) hx hb hts zl_X12_wrongs_X12 tyX12 tyX12_ok nmX12 hown hK hP hD hS 0 rfl rfl 50 (by decide) (hts (.fieldLink RX12 231 "PageOneModel" "wrongOne" "I") (zat q_wsX12_wrongs k_wsX12_wrongs 932 rfl (by decide +kernel))) (fun _ h9 => h9) rfl (tyX12_ok 50 (by decide)) rfl rfl (Nat.le_of_ble_eq_true rfl) dX12_wrongs_90 (fun H locs hP hD hS => ?_)
        obtain ⟨u_26, eu_26⟩ : ∃ zz : mS, zz = mset u_25 50 p1 := ⟨_, rfl⟩
        have hP : va_P (dC, dI) vwCl (mW h0 v cI cZ u_26) H := by rw [eu_26]; exact hP
        have hD : va_D A (mW h0 v cI cZ u_26) := by rw [eu_26]; exact hD
        refine lv_aload_n hx hb dX12_wrongs_93 rfl (lv_at hl 2 rfl) ?_
        refine lv_iload hx hb dX12_wrongs_94 (lv_at hl 0 rfl) ?_
        refine va_put (D := (dC, dI)) (ci := 11) (v := .int p2) (ty := .int) (C := RX12) (T := TX12) (N := 52) hx hb hts zl_X12_wrongs_X12 tyX12 tyX12_ok nmX12 hown hK hP hD hS 0 rfl rfl 51 (by decide) (hts (.fieldLink RX12 234 "PageOneModel" "wrongTwo" "I") (zat q_wsX12_wrongs k_wsX12_wrongs 933 rfl (by decide +kernel))) (fun _ h9 => h9) rfl (tyX12_ok 51 (by decide)) rfl rfl (Nat.le_of_ble_eq_true rfl) dX12_wrongs_96 (fun H locs hP hD hS => ?_)
        obtain ⟨u_27, eu_27⟩ : ∃ zz : mS, zz = mset u_26 51 p2 := ⟨_, rfl⟩
        have hP : va_P (dC, dI) vwCl (mW h0 v cI cZ u_27) H := by rw [eu_27]; exact hP
        have hD : va_D A (mW h0 v cI cZ u_27) := by rw [eu_27]; exact hD
        exact W.vret hx hb hr (fun t ht hW => ⟨⟨u_27, rfl, (by subst eu_25 eu_26 eu_27; first | (simp only [mWrongs, if_neg c_1, if_pos c_21, if_pos c_24]; done) | (simp [mWrongs, c_1, c_21, c_24]; done)), by rw [ht]; exact hP, hD⟩, hS.F ht⟩) hS.2.2 dX12_wrongs_99
      ·
        refine lv_iload_n hx hb dX12_wrongs_39 rfl (lv_at hl 3 rfl) ?_
        refine lv_aload_n hx hb dX12_wrongs_40 rfl (lv_at hl 2 rfl) ?_
        refine va_get (D := (dC, dI)) (ci := 11) (v := .int (u.1 49)) (C := RX12) (T := TX12) (N := 52) hx hb hts zl_X12_wrongs_X12 hown hK hP 0 rfl rfl 49 (by decide) (hts (.fieldLink RX12 228 "PageOneModel" "wrong" "I") (zat q_wsX12_wrongs k_wsX12_wrongs 931 rfl (by decide +kernel))) (fun _ h9 => h9) rfl dX12_wrongs_41 ?_
        refine lv_icmp_lt (tgt := 82) hx hb dX12_wrongs_44 (by decide) (fun c_28 => ?_) (fun c_28 => ?_)
        ·
          refine lv_aload_n hx hb dX12_wrongs_82 rfl (lv_at hl 2 rfl) ?_
          refine lv_iload_n hx hb dX12_wrongs_83 rfl (lv_at hl 3 rfl) ?_
          refine va_put (D := (dC, dI)) (ci := 11) (v := .int p0) (ty := .int) (C := RX12) (T := TX12) (N := 52) hx hb hts zl_X12_wrongs_X12 tyX12 tyX12_ok nmX12 hown hK hP hD hS 0 rfl rfl 49 (by decide) (hts (.fieldLink RX12 228 "PageOneModel" "wrong" "I") (zat q_wsX12_wrongs k_wsX12_wrongs 931 rfl (by decide +kernel))) (fun _ h9 => h9) rfl (tyX12_ok 49 (by decide)) rfl rfl (Nat.le_of_ble_eq_true rfl) dX12_wrongs_84 (fun H locs hP hD hS => ?_)
          obtain ⟨u_29, eu_29⟩ : ∃ zz : mS, zz = mset u 49 p0 := ⟨_, rfl⟩
          have hP : va_P (dC, dI) vwCl (mW h0 v cI cZ u_29) H := by rw [eu_29]; exact hP
          have hD : va_D A (mW h0 v cI cZ u_29) := by rw [eu_29]; exact hD
          refine lv_aload_n hx hb dX12_wrongs_87 rfl (lv_at hl 2 rfl) ?_
          refine lv_iload hx hb dX12_wrongs_88 (lv_at hl 1 rfl) ?_
          refine va_put (D := (dC, dI)) (ci := 11) (v := .int p1) (ty := .int) (C := RX12) (T := TX12) (N := 52) hx hb hts zl_X12_wrongs_X12 tyX12 tyX12_ok nmX12 hown hK hP hD hS 0 rfl rfl 50 (by decide) (hts (.fieldLink RX12 231 "PageOneModel" "wrongOne" "I") (zat q_wsX12_wrongs k_wsX12_wrongs 932 rfl (by decide +kernel))) (fun _ h9 => h9) rfl (tyX12_ok 50 (by decide)) rfl rfl (Nat.le_of_ble_eq_true rfl) dX12_wrongs_90 (fun H locs hP hD hS => ?_)
          obtain ⟨u_30, eu_30⟩ : ∃ zz : mS, zz = mset u_29 50 p1 := ⟨_, rfl⟩
          have hP : va_P (dC, dI) vwCl (mW h0 v cI cZ u_30) H := by rw [eu_30]; exact hP
          have hD : va_D A (mW h0 v cI cZ u_30) := by rw [eu_30]; exact hD
          refine lv_aload_n hx hb dX12_wrongs_93 rfl (lv_at hl 2 rfl) ?_
          refine lv_iload hx hb dX12_wrongs_94 (lv_at hl 0 rfl) ?_
          refine va_put (D := (dC, dI)) (ci := 11) (v := .int p2) (ty := .int) (C := RX12) (T := TX12) (N := 52) hx hb hts zl_X12_wrongs_X12 tyX12 tyX12_ok nmX12 hown hK hP hD hS 0 rfl rfl 51 (by decide) (hts (.fieldLink RX12 234 "PageOneModel" "wrongTwo" "I") (zat q_wsX12_wrongs k_wsX12_wrongs 933 rfl (by decide +kernel))) (fun _ h9 => h9) rfl (tyX12_ok 51 (by decide)) rfl rfl (Nat.le_of_ble_eq_true rfl) dX12_wrongs_96 (fun H locs hP hD hS => ?_)
          obtain ⟨u_31, eu_31⟩ : ∃ zz : mS, zz = mset u_30 51 p2 := ⟨_, rfl⟩
          have hP : va_P (dC, dI) vwCl (mW h0 v cI cZ u_31) H := by rw [eu_31]; exact hP
          have hD : va_D A (mW h0 v cI cZ u_31) := by rw [eu_31]; exact hD
          exact W.vret hx hb hr (fun t ht hW => ⟨⟨u_31, rfl, (by subst eu_29 eu_30 eu_31; first | (simp only [mWrongs, if_neg c_1, if_pos c_21, if_neg c_24, if_pos c_28]; done) | (simp [mWrongs, c_1, c_21, c_24, c_28]; done)), by rw [ht]; exact hP, hD⟩, hS.F ht⟩) hS.2.2 dX12_wrongs_99
        ·
          refine lv_iload_n hx hb dX12_wrongs_47 rfl (lv_at hl 3 rfl) ?_
          refine lv_aload_n hx hb dX12_wrongs_48 rfl (lv_at hl 2 rfl) ?_
          refine va_get (D := (dC, dI)) (ci := 11) (v := .int (u.1 49)) (C := RX12) (T := TX12) (N := 52) hx hb hts zl_X12_wrongs_X12 hown hK hP 0 rfl rfl 49 (by decide) (hts (.fieldLink RX12 228 "PageOneModel" "wrong" "I") (zat q_wsX12_wrongs k_wsX12_wrongs 931 rfl (by decide +kernel))) (fun _ h9 => h9) rfl dX12_wrongs_49 ?_
          refine lv_icmp_ne (tgt := 99) hx hb dX12_wrongs_52 (by decide) (fun c_32 => ?_) (fun c_32 => ?_)
          ·
            exact W.vret hx hb hr (fun t ht hW => ⟨⟨u, rfl, (by first | (simp only [mWrongs, if_neg c_1, if_pos c_21, if_neg c_24, if_neg c_28, if_neg c_32]; done) | (simp [mWrongs, c_1, c_21, c_24, c_28, c_32]; done)), by rw [ht]; exact hP, hD⟩, hS.F ht⟩) hS.2.2 dX12_wrongs_99
          ·
            refine lv_iload hx hb dX12_wrongs_55 (lv_at hl 1 rfl) ?_
            refine lv_aload_n hx hb dX12_wrongs_57 rfl (lv_at hl 2 rfl) ?_
            refine va_get (D := (dC, dI)) (ci := 11) (v := .int (u.1 50)) (C := RX12) (T := TX12) (N := 52) hx hb hts zl_X12_wrongs_X12 hown hK hP 0 rfl rfl 50 (by decide) (hts (.fieldLink RX12 231 "PageOneModel" "wrongOne" "I") (zat q_wsX12_wrongs k_wsX12_wrongs 932 rfl (by decide +kernel))) (fun _ h9 => h9) rfl dX12_wrongs_58 ?_
            refine lv_icmp_lt (tgt := 82) hx hb dX12_wrongs_61 (by decide) (fun c_33 => ?_) (fun c_33 => ?_)
            ·
              refine lv_aload_n hx hb dX12_wrongs_82 rfl (lv_at hl 2 rfl) ?_
              refine lv_iload_n hx hb dX12_wrongs_83 rfl (lv_at hl 3 rfl) ?_
              refine va_put (D := (dC, dI)) (ci := 11) (v := .int p0) (ty := .int) (C := RX12) (T := TX12) (N := 52) hx hb hts zl_X12_wrongs_X12 tyX12 tyX12_ok nmX12 hown hK hP hD hS 0 rfl rfl 49 (by decide) (hts (.fieldLink RX12 228 "PageOneModel" "wrong" "I") (zat q_wsX12_wrongs k_wsX12_wrongs 931 rfl (by decide +kernel))) (fun _ h9 => h9) rfl (tyX12_ok 49 (by decide)) rfl rfl (Nat.le_of_ble_eq_true rfl) dX12_wrongs_84 (fun H locs hP hD hS => ?_)
              obtain ⟨u_34, eu_34⟩ : ∃ zz : mS, zz = mset u 49 p0 := ⟨_, rfl⟩
              have hP : va_P (dC, dI) vwCl (mW h0 v cI cZ u_34) H := by rw [eu_34]; exact hP
              have hD : va_D A (mW h0 v cI cZ u_34) := by rw [eu_34]; exact hD
              refine lv_aload_n hx hb dX12_wrongs_87 rfl (lv_at hl 2 rfl) ?_
              refine lv_iload hx hb dX12_wrongs_88 (lv_at hl 1 rfl) ?_
              refine va_put (D := (dC, dI)) (ci := 11) (v := .int p1) (ty := .int) (C := RX12) (T := TX12) (N := 52) hx hb hts zl_X12_wrongs_X12 tyX12 tyX12_ok nmX12 hown hK hP hD hS 0 rfl rfl 50 (by decide) (hts (.fieldLink RX12 231 "PageOneModel" "wrongOne" "I") (zat q_wsX12_wrongs k_wsX12_wrongs 932 rfl (by decide +kernel))) (fun _ h9 => h9) rfl (tyX12_ok 50 (by decide)) rfl rfl (Nat.le_of_ble_eq_true rfl) dX12_wrongs_90 (fun H locs hP hD hS => ?_)
              obtain ⟨u_35, eu_35⟩ : ∃ zz : mS, zz = mset u_34 50 p1 := ⟨_, rfl⟩
              have hP : va_P (dC, dI) vwCl (mW h0 v cI cZ u_35) H := by rw [eu_35]; exact hP
              have hD : va_D A (mW h0 v cI cZ u_35) := by rw [eu_35]; exact hD
              refine lv_aload_n hx hb dX12_wrongs_93 rfl (lv_at hl 2 rfl) ?_
              refine lv_iload hx hb dX12_wrongs_94 (lv_at hl 0 rfl) ?_
              refine va_put (D := (dC, dI)) (ci := 11) (v := .int p2) (ty := .int) (C := RX12) (T := TX12) (N := 52) hx hb hts zl_X12_wrongs_X12 tyX12 tyX12_ok nmX12 hown hK hP hD hS 0 rfl rfl 51 (by decide) (hts (.fieldLink RX12 234 "PageOneModel" "wrongTwo" "I") (zat q_wsX12_wrongs k_wsX12_wrongs 933 rfl (by decide +kernel))) (fun _ h9 => h9) rfl (tyX12_ok 51 (by decide)) rfl rfl (Nat.le_of_ble_eq_true rfl) dX12_wrongs_96 (fun H locs hP hD hS => ?_)
              obtain ⟨u_36, eu_36⟩ : ∃ zz : mS, zz = mset u_35 51 p2 := ⟨_, rfl⟩
              have hP : va_P (dC, dI) vwCl (mW h0 v cI cZ u_36) H := by rw [eu_36]; exact hP
              have hD : va_D A (mW h0 v cI cZ u_36) := by rw [eu_36]; exact hD
              exact W.vret hx hb hr (fun t ht hW => ⟨⟨u_36, rfl, (by subst eu_34 eu_35 eu_36; first | (simp only [mWrongs, if_neg c_1, if_pos c_21, if_neg c_24, if_neg c_28, if_pos c_32, if_pos c_33]; done) | (simp [mWrongs, c_1, c_21, c_24, c_28, c_32, c_33]; done)), by rw [ht]; exact hP, hD⟩, hS.F ht⟩) hS.2.2 dX12_wrongs_99
            ·
              refine lv_iload hx hb dX12_wrongs_64 (lv_at hl 1 rfl) ?_
              refine lv_aload_n hx hb dX12_wrongs_66 rfl (lv_at hl 2 rfl) ?_
              refine va_get (D := (dC, dI)) (ci := 11) (v := .int (u.1 50)) (C := RX12) (T := TX12) (N := 52) hx hb hts zl_X12_wrongs_X12 hown hK hP 0 rfl rfl 50 (by decide) (hts (.fieldLink RX12 231 "PageOneModel" "wrongOne" "I") (zat q_wsX12_wrongs k_wsX12_wrongs 932 rfl (by decide +kernel))) (fun _ h9 => h9) rfl dX12_wrongs_67 ?_
              refine lv_icmp_ne (tgt := 99) hx hb dX12_wrongs_70 (by decide) (fun c_37 => ?_) (fun c_37 => ?_)
              ·
                exact W.vret hx hb hr (fun t ht hW => ⟨⟨u, rfl, (by first | (simp only [mWrongs, if_neg c_1, if_pos c_21, if_neg c_24, if_neg c_28, if_pos c_32, if_neg c_33, if_neg c_37]; done) | (simp [mWrongs, c_1, c_21, c_24, c_28, c_32, c_33, c_37]; done)), by rw [ht]; exact hP, hD⟩, hS.F ht⟩) hS.2.2 dX12_wrongs_99
              ·
                refine lv_iload hx hb dX12_wrongs_73 (lv_at hl 0 rfl) ?_
                refine lv_aload_n hx hb dX12_wrongs_75 rfl (lv_at hl 2 rfl) ?_
                refine va_get (D := (dC, dI)) (ci := 11) (v := .int (u.1 51)) (C := RX12) (T := TX12) (N := 52) hx hb hts zl_X12_wrongs_X12 hown hK hP 0 rfl rfl 51 (by decide) (hts (.fieldLink RX12 234 "PageOneModel" "wrongTwo" "I") (zat q_wsX12_wrongs k_wsX12_wrongs 933 rfl (by decide +kernel))) (fun _ h9 => h9) rfl dX12_wrongs_76 ?_
                refine lv_icmp_ge (tgt := 99) hx hb dX12_wrongs_79 (by decide) (fun c_38 => ?_) (fun c_38 => ?_)
                ·
                  exact W.vret hx hb hr (fun t ht hW => ⟨⟨u, rfl, (by first | (simp only [mWrongs, if_neg c_1, if_pos c_21, if_neg c_24, if_neg c_28, if_pos c_32, if_neg c_33, if_pos c_37, if_pos c_38]; done) | (simp [mWrongs, c_1, c_21, c_24, c_28, c_32, c_33, c_37, c_38]; done)), by rw [ht]; exact hP, hD⟩, hS.F ht⟩) hS.2.2 dX12_wrongs_99
                ·
                  refine lv_aload_n hx hb dX12_wrongs_82 rfl (lv_at hl 2 rfl) ?_
                  refine lv_iload_n hx hb dX12_wrongs_83 rfl (lv_at hl 3 rfl) ?_
                  refine va_put (D := (dC, dI)) (ci := 11) (v := .int p0) (ty := .int) (C := RX12) (T := TX12) (N := 52) hx hb hts zl_X12_wrongs_X12 tyX12 tyX12_ok nmX12 hown hK hP hD hS 0 rfl rfl 49 (by decide) (hts (.fieldLink RX12 228 "PageOneModel" "wrong" "I") (zat q_wsX12_wrongs k_wsX12_wrongs 931 rfl (by decide +kernel))) (fun _ h9 => h9) rfl (tyX12_ok 49 (by decide)) rfl rfl (Nat.le_of_ble_eq_true rfl) dX12_wrongs_84 (fun H locs hP hD hS => ?_)
                  obtain ⟨u_39, eu_39⟩ : ∃ zz : mS, zz = mset u 49 p0 := ⟨_, rfl⟩
                  have hP : va_P (dC, dI) vwCl (mW h0 v cI cZ u_39) H := by rw [eu_39]; exact hP
                  have hD : va_D A (mW h0 v cI cZ u_39) := by rw [eu_39]; exact hD
                  refine lv_aload_n hx hb dX12_wrongs_87 rfl (lv_at hl 2 rfl) ?_
                  refine lv_iload hx hb dX12_wrongs_88 (lv_at hl 1 rfl) ?_
                  refine va_put (D := (dC, dI)) (ci := 11) (v := .int p1) (ty := .int) (C := RX12) (T := TX12) (N := 52) hx hb hts zl_X12_wrongs_X12 tyX12 tyX12_ok nmX12 hown hK hP hD hS 0 rfl rfl 50 (by decide) (hts (.fieldLink RX12 231 "PageOneModel" "wrongOne" "I") (zat q_wsX12_wrongs k_wsX12_wrongs 932 rfl (by decide +kernel))) (fun _ h9 => h9) rfl (tyX12_ok 50 (by decide)) rfl rfl (Nat.le_of_ble_eq_true rfl) dX12_wrongs_90 (fun H locs hP hD hS => ?_)
                  obtain ⟨u_40, eu_40⟩ : ∃ zz : mS, zz = mset u_39 50 p1 := ⟨_, rfl⟩
                  have hP : va_P (dC, dI) vwCl (mW h0 v cI cZ u_40) H := by rw [eu_40]; exact hP
                  have hD : va_D A (mW h0 v cI cZ u_40) := by rw [eu_40]; exact hD
                  refine lv_aload_n hx hb dX12_wrongs_93 rfl (lv_at hl 2 rfl) ?_
                  refine lv_iload hx hb dX12_wrongs_94 (lv_at hl 0 rfl) ?_
                  refine va_put (D := (dC, dI)) (ci := 11) (v := .int p2) (ty := .int) (C := RX12) (T := TX12) (N := 52) hx hb hts zl_X12_wrongs_X12 tyX12 tyX12_ok nmX12 hown hK hP hD hS 0 rfl rfl 51 (by decide) (hts (.fieldLink RX12 234 "PageOneModel" "wrongTwo" "I") (zat q_wsX12_wrongs k_wsX12_wrongs 933 rfl (by decide +kernel))) (fun _ h9 => h9) rfl (tyX12_ok 51 (by decide)) rfl rfl (Nat.le_of_ble_eq_true rfl) dX12_wrongs_96 (fun H locs hP hD hS => ?_)
                  obtain ⟨u_41, eu_41⟩ : ∃ zz : mS, zz = mset u_40 51 p2 := ⟨_, rfl⟩
                  have hP : va_P (dC, dI) vwCl (mW h0 v cI cZ u_41) H := by rw [eu_41]; exact hP
                  have hD : va_D A (mW h0 v cI cZ u_41) := by rw [eu_41]; exact hD
                  exact W.vret hx hb hr (fun t ht hW => ⟨⟨u_41, rfl, (by subst eu_39 eu_40 eu_41; first | (simp only [mWrongs, if_neg c_1, if_pos c_21, if_neg c_24, if_neg c_28, if_pos c_32, if_neg c_33, if_pos c_37, if_neg c_38]; done) | (simp [mWrongs, c_1, c_21, c_24, c_28, c_32, c_33, c_37, c_38]; done)), by rw [ht]; exact hP, hD⟩, hS.F ht⟩) hS.2.2 dX12_wrongs_99
    ·
      refine lv_iload_n hx hb dX12_wrongs_9 rfl (lv_at hl 3 rfl) ?_
      refine lv_goto (tgt := 14) hx hb dX12_wrongs_10 (by decide) ?_
      refine lv_istore (lv' := [(4, .int p2), (0, .ref h0), (1, .int p0), (2, .int p1), (3, .int p2)]) hx hb dX12_wrongs_14 hl (by decide) rfl (fun ls hl => ?_)
      refine lv_iload_n hx hb dX12_wrongs_16 rfl (lv_at hl 4 rfl) ?_
      refine lv_if_lt (tgt := 29) hx hb dX12_wrongs_17 (by decide) (fun c_42 => absurd c_42 (c_1)) (fun c_42 => ?_)
      refine lv_iload_n hx hb dX12_wrongs_20 rfl (lv_at hl 4 rfl) ?_
      refine lv_iload_n hx hb dX12_wrongs_21 rfl (lv_at hl 3 rfl) ?_
      refine lv_icmp_ge (tgt := 29) hx hb dX12_wrongs_22 (by decide) (fun c_43 => absurd c_43 (c_21)) (fun c_43 => ?_)
      refine lv_iload_n hx hb dX12_wrongs_25 rfl (lv_at hl 3 rfl) ?_
      refine lv_goto (tgt := 30) hx hb dX12_wrongs_26 (by decide) ?_
      refine lv_istore (lv' := [(5, .int p1), (4, .int p2), (0, .ref h0), (1, .int p0), (2, .int p1), (3, .int p2)]) hx hb dX12_wrongs_30 hl (by decide) rfl (fun ls hl => ?_)
      refine lv_aload_n hx hb dX12_wrongs_32 rfl (lv_at hl 2 rfl) ?_
      refine va_get (D := (dC, dI)) (ci := 11) (v := .int (u.1 49)) (C := RX12) (T := TX12) (N := 52) hx hb hts zl_X12_wrongs_X12 hown hK hP 0 rfl rfl 49 (by decide) (hts (.fieldLink RX12 228 "PageOneModel" "wrong" "I") (zat q_wsX12_wrongs k_wsX12_wrongs 931 rfl (by decide +kernel))) (fun _ h9 => h9) rfl dX12_wrongs_33 ?_
      refine lv_if_eq (tgt := 82) hx hb dX12_wrongs_36 (by decide) (fun c_44 => ?_) (fun c_44 => ?_)
      ·
        refine lv_aload_n hx hb dX12_wrongs_82 rfl (lv_at hl 2 rfl) ?_
        refine lv_iload_n hx hb dX12_wrongs_83 rfl (lv_at hl 3 rfl) ?_
        refine va_put (D := (dC, dI)) (ci := 11) (v := .int p0) (ty := .int) (C := RX12) (T := TX12) (N := 52) hx hb hts zl_X12_wrongs_X12 tyX12 tyX12_ok nmX12 hown hK hP hD hS 0 rfl rfl 49 (by decide) (hts (.fieldLink RX12 228 "PageOneModel" "wrong" "I") (zat q_wsX12_wrongs k_wsX12_wrongs 931 rfl (by decide +kernel))) (fun _ h9 => h9) rfl (tyX12_ok 49 (by decide)) rfl rfl (Nat.le_of_ble_eq_true rfl) dX12_wrongs_84 (fun H locs hP hD hS => ?_)
        obtain ⟨u_45, eu_45⟩ : ∃ zz : mS, zz = mset u 49 p0 := ⟨_, rfl⟩
        have hP : va_P (dC, dI) vwCl (mW h0 v cI cZ u_45) H := by rw [eu_45]; exact hP
        have hD : va_D A (mW h0 v cI cZ u_45) := by rw [eu_45]; exact hD
        refine lv_aload_n hx hb dX12_wrongs_87 rfl (lv_at hl 2 rfl) ?_
        refine lv_iload hx hb dX12_wrongs_88 (lv_at hl 1 rfl) ?_
        refine va_put (D := (dC, dI)) (ci := 11) (v := .int p2) (ty := .int) (C := RX12) (T := TX12) (N := 52) hx hb hts zl_X12_wrongs_X12 tyX12 tyX12_ok nmX12 hown hK hP hD hS 0 rfl rfl 50 (by decide) (hts (.fieldLink RX12 231 "PageOneModel" "wrongOne" "I") (zat q_wsX12_wrongs k_wsX12_wrongs 932 rfl (by decide +kernel))) (fun _ h9 => h9) rfl (tyX12_ok 50 (by decide)) rfl rfl (Nat.le_of_ble_eq_true rfl) dX12_wrongs_90 (fun H locs hP hD hS => ?_)
        obtain ⟨u_46, eu_46⟩ : ∃ zz : mS, zz = mset u_45 50 p2 := ⟨_, rfl⟩
        have hP : va_P (dC, dI) vwCl (mW h0 v cI cZ u_46) H := by rw [eu_46]; exact hP
        have hD : va_D A (mW h0 v cI cZ u_46) := by rw [eu_46]; exact hD
        refine lv_aload_n hx hb dX12_wrongs_93 rfl (lv_at hl 2 rfl) ?_
        refine lv_iload hx hb dX12_wrongs_94 (lv_at hl 0 rfl) ?_
        refine va_put (D := (dC, dI)) (ci := 11) (v := .int p1) (ty := .int) (C := RX12) (T := TX12) (N := 52) hx hb hts zl_X12_wrongs_X12 tyX12 tyX12_ok nmX12 hown hK hP hD hS 0 rfl rfl 51 (by decide) (hts (.fieldLink RX12 234 "PageOneModel" "wrongTwo" "I") (zat q_wsX12_wrongs k_wsX12_wrongs 933 rfl (by decide +kernel))) (fun _ h9 => h9) rfl (tyX12_ok 51 (by decide)) rfl rfl (Nat.le_of_ble_eq_true rfl) dX12_wrongs_96 (fun H locs hP hD hS => ?_)
        obtain ⟨u_47, eu_47⟩ : ∃ zz : mS, zz = mset u_46 51 p1 := ⟨_, rfl⟩
        have hP : va_P (dC, dI) vwCl (mW h0 v cI cZ u_47) H := by rw [eu_47]; exact hP
        have hD : va_D A (mW h0 v cI cZ u_47) := by rw [eu_47]; exact hD
        exact W.vret hx hb hr (fun t ht hW => ⟨⟨u_47, rfl, (by subst eu_45 eu_46 eu_47; first | (simp only [mWrongs, if_neg c_1, if_neg c_21, if_pos c_44]; done) | (simp [mWrongs, c_1, c_21, c_44]; done)), by rw [ht]; exact hP, hD⟩, hS.F ht⟩) hS.2.2 dX12_wrongs_99
      ·
        refine lv_iload_n hx hb dX12_wrongs_39 rfl (lv_at hl 3 rfl) ?_
        refine lv_aload_n hx hb dX12_wrongs_40 rfl (lv_at hl 2 rfl) ?_
        refine va_get (D := (dC, dI)) (ci := 11) (v := .int (u.1 49)) (C := RX12) (T := TX12) (N := 52) hx hb hts zl_X12_wrongs_X12 hown hK hP 0 rfl rfl 49 (by decide) (hts (.fieldLink RX12 228 "PageOneModel" "wrong" "I") (zat q_wsX12_wrongs k_wsX12_wrongs 931 rfl (by decide +kernel))) (fun _ h9 => h9) rfl dX12_wrongs_41 ?_
        refine lv_icmp_lt (tgt := 82) hx hb dX12_wrongs_44 (by decide) (fun c_48 => ?_) (fun c_48 => ?_)
        ·
          refine lv_aload_n hx hb dX12_wrongs_82 rfl (lv_at hl 2 rfl) ?_
          refine lv_iload_n hx hb dX12_wrongs_83 rfl (lv_at hl 3 rfl) ?_
          refine va_put (D := (dC, dI)) (ci := 11) (v := .int p0) (ty := .int) (C := RX12) (T := TX12) (N := 52) hx hb hts zl_X12_wrongs_X12 tyX12 tyX12_ok nmX12 hown hK hP hD hS 0 rfl rfl 49 (by decide) (hts (.fieldLink RX12 228 "PageOneModel" "wrong" "I") (zat q_wsX12_wrongs k_wsX12_wrongs 931 rfl (by decide +kernel))) (fun _ h9 => h9) rfl (tyX12_ok 49 (by decide)) rfl rfl (Nat.le_of_ble_eq_true rfl) dX12_wrongs_84 (fun H locs hP hD hS => ?_)
          obtain ⟨u_49, eu_49⟩ : ∃ zz : mS, zz = mset u 49 p0 := ⟨_, rfl⟩
          have hP : va_P (dC, dI) vwCl (mW h0 v cI cZ u_49) H := by rw [eu_49]; exact hP
          have hD : va_D A (mW h0 v cI cZ u_49) := by rw [eu_49]; exact hD
          refine lv_aload_n hx hb dX12_wrongs_87 rfl (lv_at hl 2 rfl) ?_
          refine lv_iload hx hb dX12_wrongs_88 (lv_at hl 1 rfl) ?_
          refine va_put (D := (dC, dI)) (ci := 11) (v := .int p2) (ty := .int) (C := RX12) (T := TX12) (N := 52) hx hb hts zl_X12_wrongs_X12 tyX12 tyX12_ok nmX12 hown hK hP hD hS 0 rfl rfl 50 (by decide) (hts (.fieldLink RX12 231 "PageOneModel" "wrongOne" "I") (zat q_wsX12_wrongs k_wsX12_wrongs 932 rfl (by decide +kernel))) (fun _ h9 => h9) rfl (tyX12_ok 50 (by decide)) rfl rfl (Nat.le_of_ble_eq_true rfl) dX12_wrongs_90 (fun H locs hP hD hS => ?_)
          obtain ⟨u_50, eu_50⟩ : ∃ zz : mS, zz = mset u_49 50 p2 := ⟨_, rfl⟩
          have hP : va_P (dC, dI) vwCl (mW h0 v cI cZ u_50) H := by rw [eu_50]; exact hP
          have hD : va_D A (mW h0 v cI cZ u_50) := by rw [eu_50]; exact hD
          refine lv_aload_n hx hb dX12_wrongs_93 rfl (lv_at hl 2 rfl) ?_
          refine lv_iload hx hb dX12_wrongs_94 (lv_at hl 0 rfl) ?_
          refine va_put (D := (dC, dI)) (ci := 11) (v := .int p1) (ty := .int) (C := RX12) (T := TX12) (N := 52) hx hb hts zl_X12_wrongs_X12 tyX12 tyX12_ok nmX12 hown hK hP hD hS 0 rfl rfl 51 (by decide) (hts (.fieldLink RX12 234 "PageOneModel" "wrongTwo" "I") (zat q_wsX12_wrongs k_wsX12_wrongs 933 rfl (by decide +kernel))) (fun _ h9 => h9) rfl (tyX12_ok 51 (by decide)) rfl rfl (Nat.le_of_ble_eq_true rfl) dX12_wrongs_96 (fun H locs hP hD hS => ?_)
          obtain ⟨u_51, eu_51⟩ : ∃ zz : mS, zz = mset u_50 51 p1 := ⟨_, rfl⟩
          have hP : va_P (dC, dI) vwCl (mW h0 v cI cZ u_51) H := by rw [eu_51]; exact hP
          have hD : va_D A (mW h0 v cI cZ u_51) := by rw [eu_51]; exact hD
          exact W.vret hx hb hr (fun t ht hW => ⟨⟨u_51, rfl, (by subst eu_49 eu_50 eu_51; first | (simp only [mWrongs, if_neg c_1, if_neg c_21, if_neg c_44, if_pos c_48]; done) | (simp [mWrongs, c_1, c_21, c_44, c_48]; done)), by rw [ht]; exact hP, hD⟩, hS.F ht⟩) hS.2.2 dX12_wrongs_99
        ·
          refine lv_iload_n hx hb dX12_wrongs_47 rfl (lv_at hl 3 rfl) ?_
          refine lv_aload_n hx hb dX12_wrongs_48 rfl (lv_at hl 2 rfl) ?_
          refine va_get (D := (dC, dI)) (ci := 11) (v := .int (u.1 49)) (C := RX12) (T := TX12) (N := 52) hx hb hts zl_X12_wrongs_X12 hown hK hP 0 rfl rfl 49 (by decide) (hts (.fieldLink RX12 228 "PageOneModel" "wrong" "I") (zat q_wsX12_wrongs k_wsX12_wrongs 931 rfl (by decide +kernel))) (fun _ h9 => h9) rfl dX12_wrongs_49 ?_
          refine lv_icmp_ne (tgt := 99) hx hb dX12_wrongs_52 (by decide) (fun c_52 => ?_) (fun c_52 => ?_)
          ·
            exact W.vret hx hb hr (fun t ht hW => ⟨⟨u, rfl, (by first | (simp only [mWrongs, if_neg c_1, if_neg c_21, if_neg c_44, if_neg c_48, if_neg c_52]; done) | (simp [mWrongs, c_1, c_21, c_44, c_48, c_52]; done)), by rw [ht]; exact hP, hD⟩, hS.F ht⟩) hS.2.2 dX12_wrongs_99
          ·
            refine lv_iload hx hb dX12_wrongs_55 (lv_at hl 1 rfl) ?_
            refine lv_aload_n hx hb dX12_wrongs_57 rfl (lv_at hl 2 rfl) ?_
            refine va_get (D := (dC, dI)) (ci := 11) (v := .int (u.1 50)) (C := RX12) (T := TX12) (N := 52) hx hb hts zl_X12_wrongs_X12 hown hK hP 0 rfl rfl 50 (by decide) (hts (.fieldLink RX12 231 "PageOneModel" "wrongOne" "I") (zat q_wsX12_wrongs k_wsX12_wrongs 932 rfl (by decide +kernel))) (fun _ h9 => h9) rfl dX12_wrongs_58 ?_
            refine lv_icmp_lt (tgt := 82) hx hb dX12_wrongs_61 (by decide) (fun c_53 => ?_) (fun c_53 => ?_)
            ·
              refine lv_aload_n hx hb dX12_wrongs_82 rfl (lv_at hl 2 rfl) ?_
              refine lv_iload_n hx hb dX12_wrongs_83 rfl (lv_at hl 3 rfl) ?_
              refine va_put (D := (dC, dI)) (ci := 11) (v := .int p0) (ty := .int) (C := RX12) (T := TX12) (N := 52) hx hb hts zl_X12_wrongs_X12 tyX12 tyX12_ok nmX12 hown hK hP hD hS 0 rfl rfl 49 (by decide) (hts (.fieldLink RX12 228 "PageOneModel" "wrong" "I") (zat q_wsX12_wrongs k_wsX12_wrongs 931 rfl (by decide +kernel))) (fun _ h9 => h9) rfl (tyX12_ok 49 (by decide)) rfl rfl (Nat.le_of_ble_eq_true rfl) dX12_wrongs_84 (fun H locs hP hD hS => ?_)
              obtain ⟨u_54, eu_54⟩ : ∃ zz : mS, zz = mset u 49 p0 := ⟨_, rfl⟩
              have hP : va_P (dC, dI) vwCl (mW h0 v cI cZ u_54) H := by rw [eu_54]; exact hP
              have hD : va_D A (mW h0 v cI cZ u_54) := by rw [eu_54]; exact hD
              refine lv_aload_n hx hb dX12_wrongs_87 rfl (lv_at hl 2 rfl) ?_
              refine lv_iload hx hb dX12_wrongs_88 (lv_at hl 1 rfl) ?_
              refine va_put (D := (dC, dI)) (ci := 11) (v := .int p2) (ty := .int) (C := RX12) (T := TX12) (N := 52) hx hb hts zl_X12_wrongs_X12 tyX12 tyX12_ok nmX12 hown hK hP hD hS 0 rfl rfl 50 (by decide) (hts (.fieldLink RX12 231 "PageOneModel" "wrongOne" "I") (zat q_wsX12_wrongs k_wsX12_wrongs 932 rfl (by decide +kernel))) (fun _ h9 => h9) rfl (tyX12_ok 50 (by decide)) rfl rfl (Nat.le_of_ble_eq_true rfl) dX12_wrongs_90 (fun H locs hP hD hS => ?_)
              obtain ⟨u_55, eu_55⟩ : ∃ zz : mS, zz = mset u_54 50 p2 := ⟨_, rfl⟩
              have hP : va_P (dC, dI) vwCl (mW h0 v cI cZ u_55) H := by rw [eu_55]; exact hP
              have hD : va_D A (mW h0 v cI cZ u_55) := by rw [eu_55]; exact hD
              refine lv_aload_n hx hb dX12_wrongs_93 rfl (lv_at hl 2 rfl) ?_
              refine lv_iload hx hb dX12_wrongs_94 (lv_at hl 0 rfl) ?_
              refine va_put (D := (dC, dI)) (ci := 11) (v := .int p1) (ty := .int) (C := RX12) (T := TX12) (N := 52) hx hb hts zl_X12_wrongs_X12 tyX12 tyX12_ok nmX12 hown hK hP hD hS 0 rfl rfl 51 (by decide) (hts (.fieldLink RX12 234 "PageOneModel" "wrongTwo" "I") (zat q_wsX12_wrongs k_wsX12_wrongs 933 rfl (by decide +kernel))) (fun _ h9 => h9) rfl (tyX12_ok 51 (by decide)) rfl rfl (Nat.le_of_ble_eq_true rfl) dX12_wrongs_96 (fun H locs hP hD hS => ?_)
              obtain ⟨u_56, eu_56⟩ : ∃ zz : mS, zz = mset u_55 51 p1 := ⟨_, rfl⟩
              have hP : va_P (dC, dI) vwCl (mW h0 v cI cZ u_56) H := by rw [eu_56]; exact hP
              have hD : va_D A (mW h0 v cI cZ u_56) := by rw [eu_56]; exact hD
              exact W.vret hx hb hr (fun t ht hW => ⟨⟨u_56, rfl, (by subst eu_54 eu_55 eu_56; first | (simp only [mWrongs, if_neg c_1, if_neg c_21, if_neg c_44, if_neg c_48, if_pos c_52, if_pos c_53]; done) | (simp [mWrongs, c_1, c_21, c_44, c_48, c_52, c_53]; done)), by rw [ht]; exact hP, hD⟩, hS.F ht⟩) hS.2.2 dX12_wrongs_99
            ·
              refine lv_iload hx hb dX12_wrongs_64 (lv_at hl 1 rfl) ?_
              refine lv_aload_n hx hb dX12_wrongs_66 rfl (lv_at hl 2 rfl) ?_
              refine va_get (D := (dC, dI)) (ci := 11) (v := .int (u.1 50)) (C := RX12) (T := TX12) (N := 52) hx hb hts zl_X12_wrongs_X12 hown hK hP 0 rfl rfl 50 (by decide) (hts (.fieldLink RX12 231 "PageOneModel" "wrongOne" "I") (zat q_wsX12_wrongs k_wsX12_wrongs 932 rfl (by decide +kernel))) (fun _ h9 => h9) rfl dX12_wrongs_67 ?_
              refine lv_icmp_ne (tgt := 99) hx hb dX12_wrongs_70 (by decide) (fun c_57 => ?_) (fun c_57 => ?_)
              ·
                exact W.vret hx hb hr (fun t ht hW => ⟨⟨u, rfl, (by first | (simp only [mWrongs, if_neg c_1, if_neg c_21, if_neg c_44, if_neg c_48, if_pos c_52, if_neg c_53, if_neg c_57]; done) | (simp [mWrongs, c_1, c_21, c_44, c_48, c_52, c_53, c_57]; done)), by rw [ht]; exact hP, hD⟩, hS.F ht⟩) hS.2.2 dX12_wrongs_99
              ·
                refine lv_iload hx hb dX12_wrongs_73 (lv_at hl 0 rfl) ?_
                refine lv_aload_n hx hb dX12_wrongs_75 rfl (lv_at hl 2 rfl) ?_
                refine va_get (D := (dC, dI)) (ci := 11) (v := .int (u.1 51)) (C := RX12) (T := TX12) (N := 52) hx hb hts zl_X12_wrongs_X12 hown hK hP 0 rfl rfl 51 (by decide) (hts (.fieldLink RX12 234 "PageOneModel" "wrongTwo" "I") (zat q_wsX12_wrongs k_wsX12_wrongs 933 rfl (by decide +kernel))) (fun _ h9 => h9) rfl dX12_wrongs_76 ?_
                refine lv_icmp_ge (tgt := 99) hx hb dX12_wrongs_79 (by decide) (fun c_58 => ?_) (fun c_58 => ?_)
                ·
                  exact W.vret hx hb hr (fun t ht hW => ⟨⟨u, rfl, (by first | (simp only [mWrongs, if_neg c_1, if_neg c_21, if_neg c_44, if_neg c_48, if_pos c_52, if_neg c_53, if_pos c_57, if_pos c_58]; done) | (simp [mWrongs, c_1, c_21, c_44, c_48, c_52, c_53, c_57, c_58]; done)), by rw [ht]; exact hP, hD⟩, hS.F ht⟩) hS.2.2 dX12_wrongs_99
                ·
                  refine lv_aload_n hx hb dX12_wrongs_82 rfl (lv_at hl 2 rfl) ?_
                  refine lv_iload_n hx hb dX12_wrongs_83 rfl (lv_at hl 3 rfl) ?_
                  refine va_put (D := (dC, dI)) (ci := 11) (v := .int p0) (ty := .int) (C := RX12) (T := TX12) (N := 52) hx hb hts zl_X12_wrongs_X12 tyX12 tyX12_ok nmX12 hown hK hP hD hS 0 rfl rfl 49 (by decide) (hts (.fieldLink RX12 228 "PageOneModel" "wrong" "I") (zat q_wsX12_wrongs k_wsX12_wrongs 931 rfl (by decide +kernel))) (fun _ h9 => h9) rfl (tyX12_ok 49 (by decide)) rfl rfl (Nat.le_of_ble_eq_true rfl) dX12_wrongs_84 (fun H locs hP hD hS => ?_)
                  obtain ⟨u_59, eu_59⟩ : ∃ zz : mS, zz = mset u 49 p0 := ⟨_, rfl⟩
                  have hP : va_P (dC, dI) vwCl (mW h0 v cI cZ u_59) H := by rw [eu_59]; exact hP
                  have hD : va_D A (mW h0 v cI cZ u_59) := by rw [eu_59]; exact hD
                  refine lv_aload_n hx hb dX12_wrongs_87 rfl (lv_at hl 2 rfl) ?_
                  refine lv_iload hx hb dX12_wrongs_88 (lv_at hl 1 rfl) ?_
                  refine va_put (D := (dC, dI)) (ci := 11) (v := .int p2) (ty := .int) (C := RX12) (T := TX12) (N := 52) hx hb hts zl_X12_wrongs_X12 tyX12 tyX12_ok nmX12 hown hK hP hD hS 0 rfl rfl 50 (by decide) (hts (.fieldLink RX12 231 "PageOneModel" "wrongOne" "I") (zat q_wsX12_wrongs k_wsX12_wrongs 932 rfl (by decide +kernel))) (fun _ h9 => h9) rfl (tyX12_ok 50 (by decide)) rfl rfl (Nat.le_of_ble_eq_true rfl) dX12_wrongs_90 (fun H locs hP hD hS => ?_)
                  obtain ⟨u_60, eu_60⟩ : ∃ zz : mS, zz = mset u_59 50 p2 := ⟨_, rfl⟩
                  have hP : va_P (dC, dI) vwCl (mW h0 v cI cZ u_60) H := by rw [eu_60]; exact hP
                  have hD : va_D A (mW h0 v cI cZ u_60) := by rw [eu_60]; exact hD
                  refine lv_aload_n hx hb dX12_wrongs_93 rfl (lv_at hl 2 rfl) ?_
                  refine lv_iload hx hb dX12_wrongs_94 (lv_at hl 0 rfl) ?_
                  refine va_put (D := (dC, dI)) (ci := 11) (v := .int p1) (ty := .int) (C := RX12) (T := TX12) (N := 52) hx hb hts zl_X12_wrongs_X12 tyX12 tyX12_ok nmX12 hown hK hP hD hS 0 rfl rfl 51 (by decide) (hts (.fieldLink RX12 234 "PageOneModel" "wrongTwo" "I") (zat q_wsX12_wrongs k_wsX12_wrongs 933 rfl (by decide +kernel))) (fun _ h9 => h9) rfl (tyX12_ok 51 (by decide)) rfl rfl (Nat.le_of_ble_eq_true rfl) dX12_wrongs_96 (fun H locs hP hD hS => ?_)
                  obtain ⟨u_61, eu_61⟩ : ∃ zz : mS, zz = mset u_60 51 p1 := ⟨_, rfl⟩
                  have hP : va_P (dC, dI) vwCl (mW h0 v cI cZ u_61) H := by rw [eu_61]; exact hP
                  have hD : va_D A (mW h0 v cI cZ u_61) := by rw [eu_61]; exact hD
                  exact W.vret hx hb hr (fun t ht hW => ⟨⟨u_61, rfl, (by subst eu_59 eu_60 eu_61; first | (simp only [mWrongs, if_neg c_1, if_neg c_21, if_neg c_44, if_neg c_48, if_pos c_52, if_neg c_53, if_pos c_57, if_neg c_58]; done) | (simp [mWrongs, c_1, c_21, c_44, c_48, c_52, c_53, c_57, c_58]; done)), by rw [ht]; exact hP, hD⟩, hS.F ht⟩) hS.2.2 dX12_wrongs_99
/-- whether an item was printed on one of the first days -/
def mWas (u : mS) (i : Int32) : Nat → Bool
  | 0 => false
  | n + 1 => mWas u i n || !decide (u.2 48 (80 * nI n + i).toNatClampNeg = 0)
theorem vDay {i : Int32} {d : Nat} (hi : bw i 0 79 = true) (hd : d < 400) : vp_in (80 * nI d + i) 32000 := by
  have h79 : (79 : Int32).toInt = 79 := rfl
  have h1 := bw_iff.mp hi
  rw [i0, h79] at h1
  have e1 : (80 * nI d).toInt = 80 * d := by rw [show (80 : Int32) = nI 80 from rfl, pk_mul, nI_toInt (by omega)]; omega
  rw [vp_in_iff, addI (by rw [e1]; omega) (by rw [e1]; omega), e1]; omega
theorem add_sub1 (a b : Int32) : a + b - 1 = a + (b - 1) := by
  rw [Int32.sub_eq_add_neg, Int32.sub_eq_add_neg, Int32.add_assoc]
def mLift (u : mS) (i : Int32) (P X Y D N : Nat) : Int32 × mS := if bw i 0 (u.1 3 - 1) = true then (if u.2 22 i.toNatClampNeg = 0 then (-1, u) else if u.1 28 = 300 then (-1, u) else
  let k := 6 * i + u.2 22 i.toNatClampNeg - 1
  let u1 := mActs u 1 i (u.2 23 k.toNatClampNeg) (u.2 24 k.toNatClampNeg) (u.2 25 k.toNatClampNeg) (u.2 26 k.toNatClampNeg) (u.2 27 k.toNatClampNeg)
  let u2 := mUnstand u1 i P X Y D N
  (u2.2 22 i.toNatClampNeg, u2)) else (-1, u)
set_option maxHeartbeats 4000000 in
set_option maxRecDepth 100000 in
theorem m_was_loop {p : Program} {l : Launch} {e : Env} {R : Room} {s : State} {m : MethodId} {args : Array Value} {below : List Frame} {meth : Method} {c : Code} {Q : State → Prop} {cells slots : Nat} {dC : Nat → ClassId} {dI : Nat → Nat → Nat} {h0 : Nat} {v : Nat → Nat} {cI cZ : ClassId} {H : Heap} {locs : List Loc} {u : mS} (hx : p.tables.exec = Jvm.exec) (hb : c.code = cX12_wasPrintedAhead) (hml : c.maxLocals = 4) (hts : ∀ w ∈ wsX12_wasPrintedAhead, w.before args s = true) (hown : s.vm.findClass RX12 = some m.cls) (hN : NN s) (hK : va_K (dC, dI) vwCl [(cI, .int), (cZ, .boolean)] s) (hP : va_P (dC, dI) vwCl (mW h0 v cI cZ u) H) {p0 : Int32} {K : Nat} (hi0 : bw p0 0 79 = true) (hKd : K < 400) (eK : u.1 38 = nI K) (kx : ∀ (a : Int32) (ls : Array Slot), a = bi (mWas u p0 K) → lv_has ls 4 [(3, .int (nI K)), (2, .int a), (0, .ref h0), (1, .int p0)] → W p l e R s m args below meth c H locs cells slots Q (F0 m 42 ls [])) : ∀ (k i : Nat) (a : Int32) (ls : Array Slot), i ≤ K → K - i < k → a = bi (mWas u p0 i) → lv_has ls 4 [(3, .int (nI i)), (2, .int a), (0, .ref h0), (1, .int p0)] → W p l e R s m args below meth c H locs cells slots Q (F0 m 4 ls []) := by
  intro k
  induction k with
  | zero => intro i a ls h1 h2; exact absurd h2 (Nat.not_lt_zero _)
  | succ k ih =>
    intro i a ls hi hk hg hl
    refine lv_iload_n hx hb dX12_wasPrintedAhead_4 rfl (lv_at hl 0 rfl) ?_
    refine lv_aload_n hx hb dX12_wasPrintedAhead_5 rfl (lv_at hl 2 rfl) ?_
    refine va_get (D := (dC, dI)) (ci := 11) (v := .int (u.1 38)) (C := RX12) (T := TX12) (N := 52) hx hb hts zl_X12_wasPrintedAhead_X12 hown hK hP 0 rfl rfl 38 (by decide) (hts (.fieldLink RX12 206 "PageOneModel" "day" "I") (zat q_wsX12_wasPrintedAhead k_wsX12_wasPrintedAhead 920 rfl (by decide +kernel))) (fun _ h9 => h9) rfl dX12_wasPrintedAhead_6 ?_
    refine lv_topi (fun y_1 ey_1 => ?_)
    obtain rfl : y_1 = (nI K) := ey_1.trans (eK)
    refine lv_icmp_ge (tgt := 42) hx hb dX12_wasPrintedAhead_9 (by decide) (fun c_2 => ?_) (fun c_2 => ?_)
    ·
      have hie : i = K := lp_eq rfl (by omega) hi c_2
      rw [hie] at hg hl
      exact kx _ ls hg (lv_sub hl [0, 1, 2, 3] rfl)
    ·
      have hlt : i < K := lp_lt rfl (by omega) hi c_2
      refine lv_iload_n hx hb dX12_wasPrintedAhead_12 rfl (lv_at hl 1 rfl) ?_
      refine lv_if_ne (tgt := 30) hx hb dX12_wasPrintedAhead_13 (by decide) (fun c_3 => ?_) (fun c_3 => ?_)
      ·
        refine lv_iconst (v := 1) hx hb dX12_wasPrintedAhead_30 (by decide) ?_
        refine lv_goto (tgt := 35) hx hb dX12_wasPrintedAhead_31 (by decide) ?_
        refine lv_istore_n (lv' := [(2, .int 1), (3, .int (nI i)), (0, .ref h0), (1, .int p0)]) hx hb dX12_wasPrintedAhead_35 rfl hl (by decide) rfl (fun ls hl => ?_)
        refine lv_iinc (v := (nI (i + 1))) (lv' := [(3, .int (nI (i + 1))), (2, .int 1), (0, .ref h0), (1, .int p0)]) hx hb dX12_wasPrintedAhead_36 hl (k := 1) rfl (nI_1 i) (by decide) rfl (fun ls hl => ?_)
        refine lv_goto (tgt := 4) hx hb dX12_wasPrintedAhead_39 (by decide) ?_
        exact ih (i + 1) _ ls (by omega) (by omega) (by rw [mWas, nz hg c_3]; rfl) (lv_sub hl [0, 1, 2, 3] rfl)
      ·
        refine lv_aload_n hx hb dX12_wasPrintedAhead_16 rfl (lv_at hl 2 rfl) ?_
        refine va_get (D := (dC, dI)) (ci := 11) (v := .ref (v 48)) (C := RX12) (T := TX12) (N := 52) hx hb hts zl_X12_wasPrintedAhead_X12 hown hK hP 0 rfl rfl 48 (by decide) (hts (.fieldLink RX12 140 "PageOneModel" "isOn" "[Z") (zat q_wsX12_wasPrintedAhead k_wsX12_wasPrintedAhead 930 rfl (by decide +kernel))) (fun _ h9 => h9) rfl dX12_wasPrintedAhead_17 ?_
        refine lv_bipush (v := 80) hx hb dX12_wasPrintedAhead_20 (by decide) ?_
        refine lv_iload_n hx hb dX12_wasPrintedAhead_22 rfl (lv_at hl 0 rfl) ?_
        refine lv_imul hx hb dX12_wasPrintedAhead_23 ?_
        refine lv_iload_n hx hb dX12_wasPrintedAhead_24 rfl (lv_at hl 3 rfl) ?_
        refine lv_iadd hx hb dX12_wasPrintedAhead_25 ?_
        refine va_zald hx hb hK hP 44 1 rfl rfl (vDay hi0 (by omega)) dX12_wasPrintedAhead_26 ?_
        refine lv_if_eq (tgt := 34) hx hb dX12_wasPrintedAhead_27 (by decide) (fun c_4 => ?_) (fun c_4 => ?_)
        ·
          refine lv_iconst (v := 0) hx hb dX12_wasPrintedAhead_34 (by decide) ?_
          refine lv_istore_n (lv' := [(2, .int 0), (3, .int (nI i)), (0, .ref h0), (1, .int p0)]) hx hb dX12_wasPrintedAhead_35 rfl hl (by decide) rfl (fun ls hl => ?_)
          refine lv_iinc (v := (nI (i + 1))) (lv' := [(3, .int (nI (i + 1))), (2, .int 0), (0, .ref h0), (1, .int p0)]) hx hb dX12_wasPrintedAhead_36 hl (k := 1) rfl (nI_1 i) (by decide) rfl (fun ls hl => ?_)
          refine lv_goto (tgt := 4) hx hb dX12_wasPrintedAhead_39 (by decide) ?_
          exact ih (i + 1) _ ls (by omega) (by omega) (by rw [mWas, zz0 hg c_3]; simp [bi, c_4]) (lv_sub hl [0, 1, 2, 3] rfl)
        ·
          refine lv_iconst (v := 1) hx hb dX12_wasPrintedAhead_30 (by decide) ?_
          refine lv_goto (tgt := 35) hx hb dX12_wasPrintedAhead_31 (by decide) ?_
          refine lv_istore_n (lv' := [(2, .int 1), (3, .int (nI i)), (0, .ref h0), (1, .int p0)]) hx hb dX12_wasPrintedAhead_35 rfl hl (by decide) rfl (fun ls hl => ?_)
          refine lv_iinc (v := (nI (i + 1))) (lv' := [(3, .int (nI (i + 1))), (2, .int 1), (0, .ref h0), (1, .int p0)]) hx hb dX12_wasPrintedAhead_36 hl (k := 1) rfl (nI_1 i) (by decide) rfl (fun ls hl => ?_)
          refine lv_goto (tgt := 4) hx hb dX12_wasPrintedAhead_39 (by decide) ?_
          exact ih (i + 1) _ ls (by omega) (by omega) (by rw [mWas, zz0 hg c_3]; simp [bi, c_4]) (lv_sub hl [0, 1, 2, 3] rfl)
set_option maxHeartbeats 4000000 in
set_option maxRecDepth 100000 in
theorem m_wasPrintedAhead (l : Launch) (dC : Nat → ClassId) (dI : Nat → Nat → Nat) (h0 : Nat) (v : Nat → Nat) (cI cZ : ClassId) (u : mS) (p0 : Int32) (hi : bw p0 0 79 = true) (hd : bw (u.1 38) 0 399 = true) : Met l yX12_wasPrintedAhead wsX12_wasPrintedAhead ({ frames := 0, cells := 0, slots := 0, locals := 0 }) (va_Pc [.ref h0, .int p0] (PW dC dI (mW h0 v cI cZ u) [(cI, .int), (cZ, .boolean)])) (vp_Si (fun r => r = bi (mWas u p0 (u.1 38).toNatClampNeg))) 0 0 (fun _ => False) := by
  refine Met.ofW (cc := cX12_wasPrintedAhead) (maxL := 4) (ret := (some .boolean)) (by decide) rfl ?_
  intro p e s m args below meth c s₁ B hml hv
  obtain ⟨rfl, hP, hK, hN⟩ := hv
  have hx := B.exec
  have hb := B.bytes
  have hr := B.returns
  have hts := atoms_spec (ws := wsX12_wasPrintedAhead) B.pre
  have hown : s.vm.findClass RX12 = some m.cls := findClass_of_methodNamed B.named
  have hlocks := B.notSynchronized
  have hl := lv_entry ([.ref h0, .int p0]) (n := 4) (Nat.le_of_ble_eq_true rfl)
  rw [lg_entry_eq]
  generalize (lg_sl ([.ref h0, .int p0]) ++ List.replicate (4 - (lg_sl ([.ref h0, .int p0])).length) Slot.unset).toArray = ls at hl ⊢
  have hl : lv_has ls 4 [(0, .ref h0), (1, .int p0)] := hl
  refine lv_iconst (v := 0) hx hb dX12_wasPrintedAhead_0 (by decide) ?_
  refine lv_istore_n (lv' := [(2, .int 0), (0, .ref h0), (1, .int p0)]) hx hb dX12_wasPrintedAhead_1 rfl hl (by decide) rfl (fun ls hl => ?_)
  refine lv_iconst (v := 0) hx hb dX12_wasPrintedAhead_2 (by decide) ?_
  refine lv_istore_n (lv' := [(3, .int 0), (2, .int 0), (0, .ref h0), (1, .int p0)]) hx hb dX12_wasPrintedAhead_3 rfl hl (by decide) rfl (fun ls hl => ?_)
  obtain ⟨eK, eK2, eK3⟩ := nI_of_bw hd
  have h399 : (399 : Int32).toInt = 399 := rfl
  refine m_was_loop (K := (u.1 38).toNatClampNeg) hx hb hml hts hown hN hK hP hi (by omega) eK (fun a ls hg hl => ?_) _ 0 0 ls (Nat.zero_le _) (Nat.lt_succ_self _) rfl (lv_sub hl [0, 1, 2, 3] rfl)
  refine lv_iload_n hx hb dX12_wasPrintedAhead_42 rfl (lv_at hl 1 rfl) ?_
  exact W.zret (v := a) hx hb hr (by rw [hg]; exact zb _) (fun t ht hW => ⟨_, rfl, hg, ht⟩) (fun q h => absurd h List.not_mem_nil) dX12_wasPrintedAhead_43
set_option maxHeartbeats 4000000 in
set_option maxRecDepth 100000 in
theorem m_lift (l : Launch) (dC : Nat → ClassId) (dI : Nat → Nat → Nat) (h0 : Nat) (v : Nat → Nat) (cI cZ : ClassId) (u : mS) (p0 : Int32) (P X Y D N : Nat) (hPP : P < 12) (hXW : X + D ≤ 8) (hYN : Y + N ≤ 60) (hn : bw (u.1 3) 0 80 = true) (ha : bw (u.1 28) 0 300 = true) (hq : bw (u.2 22 p0.toNatClampNeg - 1) 0 5 = true) (e23 : u.2 23 (6 * p0 + (u.2 22 p0.toNatClampNeg - 1)).toNatClampNeg = nI P) (e24 : u.2 24 (6 * p0 + (u.2 22 p0.toNatClampNeg - 1)).toNatClampNeg = nI X) (e25 : u.2 25 (6 * p0 + (u.2 22 p0.toNatClampNeg - 1)).toNatClampNeg = nI Y) (e26 : u.2 26 (6 * p0 + (u.2 22 p0.toNatClampNeg - 1)).toNatClampNeg = nI D) (e27 : u.2 27 (6 * p0 + (u.2 22 p0.toNatClampNeg - 1)).toNatClampNeg = nI N) (sz : Nat) : Met l yX12_lift wsX12_lift ({ frames := 3, cells := 0, slots := 0, locals := 72 }) (va_Pc [.ref h0, .int p0] (fun U => U.heap.size = sz ∧ PW dC dI (mW h0 v cI cZ u) [(cI, .int), (cZ, .boolean)] U ∧ va_D (fun _ => True) (mW h0 v cI cZ u))) (va_Qi (fun (r : Int32) (u9 : mS) => (r, u9) = mLift u p0 P X Y D N) (fun u9 t => va_P (dC, dI) vwCl (mW h0 v cI cZ u9) t.heap ∧ va_D (va_A (mW h0 v cI cZ u) sz) (mW h0 v cI cZ u9)) (va_A (mW h0 v cI cZ u) sz)) 0 0 (va_A (mW h0 v cI cZ u) sz) := by
  refine Met.ofW (cc := cX12_lift) (maxL := 3) (ret := (some .int)) (by decide) rfl ?_
  intro p e s m args below meth c s₁ B hml hv
  obtain ⟨rfl, hsz, ⟨hP, hK, hN⟩, hD0⟩ := hv
  have hx := B.exec
  have hb := B.bytes
  have hr := B.returns
  have hts := atoms_spec (ws := wsX12_lift) B.pre
  have hown : s.vm.findClass RX12 = some m.cls := findClass_of_methodNamed B.named
  have hlocks := B.notSynchronized
  subst hsz
  have hD := hD0.self (sz := s.heap.size)
  generalize hAe : va_A (mW h0 v cI cZ u) s.heap.size = A at hD ⊢
  have hA : ∀ q : Nat, s.heap.size ≤ q → A q := fun q h => by rw [← hAe]; exact Or.inr h
  have hS : va_S A s.heap s.heap [] := va_S.rf
  have hl := lv_entry ([.ref h0, .int p0]) (n := 3) (Nat.le_of_ble_eq_true rfl)
  rw [lg_entry_eq]
  generalize (lg_sl ([.ref h0, .int p0]) ++ List.replicate (3 - (lg_sl ([.ref h0, .int p0])).length) Slot.unset).toArray = ls at hl ⊢
  have hl : lv_has ls 3 [(0, .ref h0), (1, .int p0)] := hl
  refine lv_aload_n hx hb dX12_lift_0 rfl (lv_at hl 0 rfl) ?_
  refine lv_iload_n hx hb dX12_lift_1 rfl (lv_at hl 1 rfl) ?_
  refine vp_callSi (va_runV (As := [.int p0]) (rest := []) ⟨hx, hb, hml, hown, hts⟩ (m_isItem l dC dI h0 v cI cZ u p0) (cwV 1 hts gX12_lift_X12_isItem rfl rfl rfl zh_X12_isItem_1 ⟨Nat.le_of_ble_eq_true rfl, Nat.le_of_ble_eq_true rfl⟩) ⟨pw_fb, va_recv hK hP (ci := 11) (q0 := 0) rfl rfl, fun U hU hW => ⟨rfl, pw_to hU hW hP hK hN⟩⟩ rfl rfl hl.1 rfl (lv_room (Nat.le_of_ble_eq_true rfl)) dX12_lift_2 ⟨Nat.le_of_ble_eq_true rfl, Nat.le_of_ble_eq_true rfl⟩).run (fun r hw => ?_)
  rcases Bool.eq_false_or_eq_true (bw p0 0 (u.1 3 - 1)) with b_1 | b_1
  ·
    obtain rfl : r = 1 := b_t hw b_1
    refine lv_if_eq (tgt := 27) hx hb dX12_lift_5 (by decide) (fun c_2 => absurd c_2 (by decide)) (fun c_2 => ?_)
    refine lv_aload_n hx hb dX12_lift_8 rfl (lv_at hl 0 rfl) ?_
    refine va_get (D := (dC, dI)) (ci := 11) (v := .ref (v 22)) (C := RX12) (T := TX12) (N := 52) hx hb hts zl_X12_lift_X12 hown hK hP 0 rfl rfl 22 (by decide) (hts (.fieldLink RX12 74 "PageOneModel" "pieces" "[I") (zat q_wsX12_lift k_wsX12_lift 904 rfl (by decide +kernel))) (fun _ h9 => h9) rfl dX12_lift_9 ?_
    refine lv_iload_n hx hb dX12_lift_12 rfl (lv_at hl 1 rfl) ?_
    refine va_iald hx hb hK hP 22 0 rfl rfl (vIt hn b_1) dX12_lift_13 ?_
    refine lv_if_eq (tgt := 27) hx hb dX12_lift_14 (by decide) (fun c_3 => ?_) (fun c_3 => ?_)
    ·
      refine lv_iconst (v := (-1)) hx hb dX12_lift_27 (by decide) ?_
      exact W.iret (v := (-1)) hx hb hr (fun t ht hW => ⟨⟨(-1), u, rfl, (by subst_vars; simp only [mLift, if_pos b_1, if_pos c_3]), by rw [ht]; exact hP, hD⟩, hS.F ht⟩) hS.2.2 dX12_lift_28
    ·
      refine lv_aload_n hx hb dX12_lift_17 rfl (lv_at hl 0 rfl) ?_
      refine va_get (D := (dC, dI)) (ci := 11) (v := .int (u.1 28)) (C := RX12) (T := TX12) (N := 52) hx hb hts zl_X12_lift_X12 hown hK hP 0 rfl rfl 28 (by decide) (hts (.fieldLink RX12 158 "PageOneModel" "acts" "I") (zat q_wsX12_lift k_wsX12_lift 910 rfl (by decide +kernel))) (fun _ h9 => h9) rfl dX12_lift_18 ?_
      refine lv_sipush (v := 300) hx hb dX12_lift_21 (by decide) ?_
      refine lv_icmp_ne (tgt := 29) hx hb dX12_lift_24 (by decide) (fun c_4 => ?_) (fun c_4 => ?_)
      ·
        refine lv_bipush (v := 6) hx hb dX12_lift_29 (by decide) ?_
        refine lv_iload_n hx hb dX12_lift_31 rfl (lv_at hl 1 rfl) ?_
        refine lv_imul hx hb dX12_lift_32 ?_
        refine lv_aload_n hx hb dX12_lift_33 rfl (lv_at hl 0 rfl) ?_
        refine va_get (D := (dC, dI)) (ci := 11) (v := .ref (v 22)) (C := RX12) (T := TX12) (N := 52) hx hb hts zl_X12_lift_X12 hown hK hP 0 rfl rfl 22 (by decide) (hts (.fieldLink RX12 74 "PageOneModel" "pieces" "[I") (zat q_wsX12_lift k_wsX12_lift 904 rfl (by decide +kernel))) (fun _ h9 => h9) rfl dX12_lift_34 ?_
        refine lv_iload_n hx hb dX12_lift_37 rfl (lv_at hl 1 rfl) ?_
        refine va_iald hx hb hK hP 22 0 rfl rfl (vIt hn b_1) dX12_lift_38 ?_
        refine lv_iadd hx hb dX12_lift_39 ?_
        refine lv_iconst (v := 1) hx hb dX12_lift_40 (by decide) ?_
        refine lv_isub hx hb dX12_lift_41 ?_
        refine lv_topi (fun x_5 ex_5 => ?_)
        refine lv_istore_n (lv' := [(2, .int x_5), (0, .ref h0), (1, .int p0)]) hx hb dX12_lift_42 rfl hl (by decide) rfl (fun ls hl => ?_)
        refine lv_aload_n hx hb dX12_lift_43 rfl (lv_at hl 1 rfl) ?_
        refine lv_iconst (v := 1) hx hb dX12_lift_44 (by decide) ?_
        refine lv_iload_n hx hb dX12_lift_45 rfl (lv_at hl 2 rfl) ?_
        refine lv_aload_n hx hb dX12_lift_46 rfl (lv_at hl 1 rfl) ?_
        refine va_get (D := (dC, dI)) (ci := 11) (v := .ref (v 23)) (C := RX12) (T := TX12) (N := 52) hx hb hts zl_X12_lift_X12 hown hK hP 0 rfl rfl 23 (by decide) (hts (.fieldLink RX12 77 "PageOneModel" "pPage" "[I") (zat q_wsX12_lift k_wsX12_lift 905 rfl (by decide +kernel))) (fun _ h9 => h9) rfl dX12_lift_47 ?_
        refine lv_iload_n hx hb dX12_lift_50 rfl (lv_at hl 0 rfl) ?_
        refine va_iald hx hb hK hP 23 0 rfl rfl (v6a (it79 hn b_1) hq (ex_5.trans (add_sub1 _ _))) dX12_lift_51 ?_
        refine lv_aload_n hx hb dX12_lift_52 rfl (lv_at hl 1 rfl) ?_
        refine va_get (D := (dC, dI)) (ci := 11) (v := .ref (v 24)) (C := RX12) (T := TX12) (N := 52) hx hb hts zl_X12_lift_X12 hown hK hP 0 rfl rfl 24 (by decide) (hts (.fieldLink RX12 80 "PageOneModel" "pColumn" "[I") (zat q_wsX12_lift k_wsX12_lift 906 rfl (by decide +kernel))) (fun _ h9 => h9) rfl dX12_lift_53 ?_
        refine lv_iload_n hx hb dX12_lift_56 rfl (lv_at hl 0 rfl) ?_
        refine va_iald hx hb hK hP 24 0 rfl rfl (v6a (it79 hn b_1) hq (ex_5.trans (add_sub1 _ _))) dX12_lift_57 ?_
        refine lv_aload_n hx hb dX12_lift_58 rfl (lv_at hl 1 rfl) ?_
        refine va_get (D := (dC, dI)) (ci := 11) (v := .ref (v 25)) (C := RX12) (T := TX12) (N := 52) hx hb hts zl_X12_lift_X12 hown hK hP 0 rfl rfl 25 (by decide) (hts (.fieldLink RX12 83 "PageOneModel" "pLine" "[I") (zat q_wsX12_lift k_wsX12_lift 907 rfl (by decide +kernel))) (fun _ h9 => h9) rfl dX12_lift_59 ?_
        refine lv_iload_n hx hb dX12_lift_62 rfl (lv_at hl 0 rfl) ?_
        refine va_iald hx hb hK hP 25 0 rfl rfl (v6a (it79 hn b_1) hq (ex_5.trans (add_sub1 _ _))) dX12_lift_63 ?_
        refine lv_aload_n hx hb dX12_lift_64 rfl (lv_at hl 1 rfl) ?_
        refine va_get (D := (dC, dI)) (ci := 11) (v := .ref (v 26)) (C := RX12) (T := TX12) (N := 52) hx hb hts zl_X12_lift_X12 hown hK hP 0 rfl rfl 26 (by decide) (hts (.fieldLink RX12 86 "PageOneModel" "pWide" "[I") (zat q_wsX12_lift k_wsX12_lift 908 rfl (by decide +kernel))) (fun _ h9 => h9) rfl dX12_lift_65 ?_
        refine lv_iload_n hx hb dX12_lift_68 rfl (lv_at hl 0 rfl) ?_
        refine va_iald hx hb hK hP 26 0 rfl rfl (v6a (it79 hn b_1) hq (ex_5.trans (add_sub1 _ _))) dX12_lift_69 ?_
        refine lv_aload_n hx hb dX12_lift_70 rfl (lv_at hl 1 rfl) ?_
        refine va_get (D := (dC, dI)) (ci := 11) (v := .ref (v 27)) (C := RX12) (T := TX12) (N := 52) hx hb hts zl_X12_lift_X12 hown hK hP 0 rfl rfl 27 (by decide) (hts (.fieldLink RX12 89 "PageOneModel" "pHigh" "[I") (zat q_wsX12_lift k_wsX12_lift 909 rfl (by decide +kernel))) (fun _ h9 => h9) rfl dX12_lift_71 ?_
        refine lv_iload_n hx hb dX12_lift_74 rfl (lv_at hl 0 rfl) ?_
        refine va_iald hx hb hK hP 27 0 rfl rfl (v6a (it79 hn b_1) hq (ex_5.trans (add_sub1 _ _))) dX12_lift_75 ?_
        have hFc := fr_all hD hS hA
        refine va_callv (va_runV (As := [.int 1, .int p0, .int (u.2 23 (x_5 : Int32).toNatClampNeg), .int (u.2 24 (x_5 : Int32).toNatClampNeg), .int (u.2 25 (x_5 : Int32).toNatClampNeg), .int (u.2 26 (x_5 : Int32).toNatClampNeg), .int (u.2 27 (x_5 : Int32).toNatClampNeg)]) (rest := []) ⟨hx, hb, hml, hown, hts⟩ (m_acts l dC dI h0 v cI cZ u 1 p0 (u.2 23 (x_5 : Int32).toNatClampNeg) (u.2 24 (x_5 : Int32).toNatClampNeg) (u.2 25 (x_5 : Int32).toNatClampNeg) (u.2 26 (x_5 : Int32).toNatClampNeg) (u.2 27 (x_5 : Int32).toNatClampNeg) (by subst_vars; exact v300 ha c_4) s.heap.size) (cwV 7 hts gX12_lift_X12_acts rfl rfl rfl zh_X12_acts_10 ⟨Nat.le_of_ble_eq_true rfl, Nat.le_of_ble_eq_true rfl⟩) ⟨gw_fb, va_recv hK hP (ci := 11) (q0 := 0) rfl rfl, fun U hU hW => ⟨rfl, by rw [hU], pw_to hU hW hP hK hN, hD.weaken (fun _ _ _ _ => trivial)⟩⟩ rfl rfl hl.1 rfl (lv_room (Nat.le_of_ble_eq_true rfl)) dX12_lift_76 ⟨Nat.le_of_ble_eq_true rfl, Nat.le_of_ble_eq_true rfl⟩) hS (fun q _ h => hFc q h) hFc (fun u_6 t H1 locs ht hvm hw hB hz1 hk1 hS => ?_)
        obtain ⟨hP, hD1⟩ := hB
        rw [ht] at hP
        have hD := hD1.weaken (fun _ q _ h => hFc q.1 h)
        generalize H1 = H at hP hS ⊢
        have eu_6 := hw
        refine lv_aload_n hx hb dX12_lift_79 rfl (lv_at hl 1 rfl) ?_
        refine lv_iload_n hx hb dX12_lift_80 rfl (lv_at hl 2 rfl) ?_
        have hFc := fr_all hD hS hA
        refine va_callv (va_runV (As := [.int p0]) (rest := []) ⟨hx, hb, hml, hown, hts⟩ (m_unstand l dC dI h0 v cI cZ u_6 p0 P X Y D N hPP hXW hYN (it79 hn b_1) (by rw [eu_6]; exact hq) (by rw [eu_6]; exact e23) (by rw [eu_6]; exact e24) (by rw [eu_6]; exact e25) (by rw [eu_6]; exact e26) (by rw [eu_6]; exact e27) H.size) (cwV 1 hts gX12_lift_X12_unstand rfl rfl rfl zh_X12_unstand_14 ⟨Nat.le_of_ble_eq_true rfl, Nat.le_of_ble_eq_true rfl⟩) ⟨gw_fb, va_recv hK hP (ci := 11) (q0 := 0) rfl rfl, fun U hU hW => ⟨rfl, by rw [hU], pw_to hU hW hP hK hN, hD.weaken (fun _ _ _ _ => trivial)⟩⟩ rfl rfl hl.1 rfl (lv_room (Nat.le_of_ble_eq_true rfl)) dX12_lift_81 ⟨Nat.le_of_ble_eq_true rfl, Nat.le_of_ble_eq_true rfl⟩) hS (fun q _ h => hFc q h) hFc (fun u_7 t H1 locs ht hvm hw hB hz1 hk1 hS => ?_)
        obtain ⟨hP, hD1⟩ := hB
        rw [ht] at hP
        have hD := hD1.weaken (fun _ q _ h => hFc q.1 h)
        generalize H1 = H at hP hS ⊢
        have eu_7 := hw
        refine lv_aload_n hx hb dX12_lift_84 rfl (lv_at hl 1 rfl) ?_
        refine va_get (D := (dC, dI)) (ci := 11) (v := .ref (v 22)) (C := RX12) (T := TX12) (N := 52) hx hb hts zl_X12_lift_X12 hown hK hP 0 rfl rfl 22 (by decide) (hts (.fieldLink RX12 74 "PageOneModel" "pieces" "[I") (zat q_wsX12_lift k_wsX12_lift 904 rfl (by decide +kernel))) (fun _ h9 => h9) rfl dX12_lift_85 ?_
        refine lv_iload_n hx hb dX12_lift_88 rfl (lv_at hl 2 rfl) ?_
        refine va_iald hx hb hK hP 22 0 rfl rfl (vIt hn b_1) dX12_lift_89 ?_
        exact W.iret (v := (u_7.2 22 (p0 : Int32).toNatClampNeg)) hx hb hr (fun t ht hW => ⟨⟨(u_7.2 22 (p0 : Int32).toNatClampNeg), u_7, rfl, (by subst_vars; simp only [mLift, if_pos b_1, if_neg c_3, if_neg c_4]), by rw [ht]; exact hP, hD⟩, hS.F ht⟩) hS.2.2 dX12_lift_90
      ·
        refine lv_iconst (v := (-1)) hx hb dX12_lift_27 (by decide) ?_
        exact W.iret (v := (-1)) hx hb hr (fun t ht hW => ⟨⟨(-1), u, rfl, (by subst_vars; simp only [mLift, if_pos b_1, if_neg c_3, if_pos c_4]), by rw [ht]; exact hP, hD⟩, hS.F ht⟩) hS.2.2 dX12_lift_28
  ·
    obtain rfl : r = 0 := b_f hw b_1
    refine lv_if_eq (tgt := 27) hx hb dX12_lift_5 (by decide) (fun c_8 => ?_) (fun c_8 => absurd (by decide) c_8)
    refine lv_iconst (v := (-1)) hx hb dX12_lift_27 (by decide) ?_
    exact W.iret (v := (-1)) hx hb hr (fun t ht hW => ⟨⟨(-1), u, rfl, (by subst_vars; simp only [mLift, if_neg (bne b_1)]), by rw [ht]; exact hP, hD⟩, hS.F ht⟩) hS.2.2 dX12_lift_28
/-- the filler that fits, of the last j items -/
def mFFr (u : mS) (n : Int32) (M : Nat) : Nat → Int32
  | 0 => (-1)
  | j + 1 => if (decide (u.2 4 (nI (M - j - 1)).toNatClampNeg = 4) && decide (u.2 22 (nI (M - j - 1)).toNatClampNeg = 0) && bw n (u.2 5 (nI (M - j - 1)).toNatClampNeg) (u.2 6 (nI (M - j - 1)).toNatClampNeg)) = true then nI (M - j - 1) else mFFr u n M j
theorem dn_z {m : Nat} (hm : m < 1000) (h : nI m - 1 < 0) : m = 0 := by
  rw [i32_lt, subI (by rw [nI_toInt (by omega), i1]; omega) (by rw [nI_toInt (by omega), i1]; omega), nI_toInt (by omega), i1, i0] at h; omega
theorem dn_p {m : Nat} (hm : m < 1000) (h : ¬ nI m - 1 < 0) : 0 < m := by
  rw [i32_lt, subI (by rw [nI_toInt (by omega), i1]; omega) (by rw [nI_toInt (by omega), i1]; omega), nI_toInt (by omega), i1, i0] at h; omega
theorem dn_e {m : Nat} (h : 0 < m) : nI m - 1 = nI (m - 1) := by
  rw [show (1 : Int32) = nI 1 from rfl]; exact pk_sub h
theorem dec1 (x : Int32) : x + Int32.ofInt (-1) = x - 1 := by rw [Int32.sub_eq_add_neg]; rfl
set_option maxHeartbeats 4000000 in
set_option maxRecDepth 100000 in
theorem m_fillerFor_loop {p : Program} {l : Launch} {e : Env} {R : Room} {s : State} {m : MethodId} {args : Array Value} {below : List Frame} {meth : Method} {c : Code} {Q : State → Prop} {cells slots : Nat} {dC : Nat → ClassId} {dI : Nat → Nat → Nat} {h0 : Nat} {v : Nat → Nat} {cI cZ : ClassId} {H : Heap} {locs : List Loc} {u : mS} (hx : p.tables.exec = Jvm.exec) (hb : c.code = cX12_fillerFor) (hml : c.maxLocals = 4) (hts : ∀ w ∈ wsX12_fillerFor, w.before args s = true) (hown : s.vm.findClass RX12 = some m.cls) (hN : NN s) (hK : va_K (dC, dI) vwCl [(cI, .int), (cZ, .boolean)] s) (hRf : 1 ≤ R.frames) (hRl : 22 ≤ R.locals) (hRc : cells ≤ R.cells) (hRs : slots ≤ R.slots) (hP : va_P (dC, dI) vwCl (mW h0 v cI cZ u) H) {p0 : Int32} {M : Nat} (hM : M ≤ 80) (kx : ∀ (a : Int32) (ls : Array Slot), a = mFFr u p0 M M → lv_has ls 4 [(3, .int (nI (M - M) - 1)), (2, .int a), (0, .ref h0), (1, .int p0)] → W p l e R s m args below meth c H locs cells slots Q (F0 m 63 ls [])) : ∀ (k i : Nat) (a : Int32) (ls : Array Slot), i ≤ M → M - i < k → a = mFFr u p0 M i → lv_has ls 4 [(3, .int (nI (M - i) - 1)), (2, .int a), (0, .ref h0), (1, .int p0)] → W p l e R s m args below meth c H locs cells slots Q (F0 m 9 ls []) := by
  intro k
  induction k with
  | zero => intro i a ls h1 h2; exact absurd h2 (Nat.not_lt_zero _)
  | succ k ih =>
    intro i a ls hi hk hg hl
    refine lv_iload_n hx hb dX12_fillerFor_9 rfl (lv_at hl 0 rfl) ?_
    refine lv_if_lt (tgt := 63) hx hb dX12_fillerFor_10 (by decide) (fun c_1 => ?_) (fun c_1 => ?_)
    ·
      have hie : i = M := by have := dn_z (m := M - i) (by omega) c_1; omega
      rw [hie] at hg hl
      exact kx _ ls hg (lv_sub hl [0, 1, 2, 3] rfl)
    ·
      have hlt : i < M := by have := dn_p (m := M - i) (by omega) c_1; omega
      rw [dn_e (m := M - i) (by omega)] at hl
      refine lv_aload_n hx hb dX12_fillerFor_13 rfl (lv_at hl 2 rfl) ?_
      refine va_get (D := (dC, dI)) (ci := 11) (v := .ref (v 4)) (C := RX12) (T := TX12) (N := 52) hx hb hts zl_X12_fillerFor_X12 hown hK hP 0 rfl rfl 4 (by decide) (hts (.fieldLink RX12 19 "PageOneModel" "kind" "[I") (zat q_wsX12_fillerFor k_wsX12_fillerFor 886 rfl (by decide +kernel))) (fun _ h9 => h9) rfl dX12_fillerFor_14 ?_
      refine lv_iload_n hx hb dX12_fillerFor_17 rfl (lv_at hl 0 rfl) ?_
      refine va_iald hx hb hK hP 4 0 rfl rfl (vp_in_nI (by omega) (by decide)) dX12_fillerFor_18 ?_
      refine lv_iconst (v := 4) hx hb dX12_fillerFor_19 (by decide) ?_
      refine lv_icmp_ne (tgt := 55) hx hb dX12_fillerFor_20 (by decide) (fun c_2 => ?_) (fun c_2 => ?_)
      ·
        refine lv_iload_n hx hb dX12_fillerFor_55 rfl (lv_at hl 1 rfl) ?_
        refine lv_istore_n (lv' := [(2, .int a), (3, .int (nI (M - i - 1))), (0, .ref h0), (1, .int p0)]) hx hb dX12_fillerFor_56 rfl hl (by decide) rfl (fun ls hl => ?_)
        refine lv_iinc (v := (nI (M - (i + 1)) - 1)) (lv' := [(3, .int (nI (M - (i + 1)) - 1)), (2, .int a), (0, .ref h0), (1, .int p0)]) hx hb dX12_fillerFor_57 hl (k := 1) rfl (by rw [dec1, Nat.sub_sub]) (by decide) rfl (fun ls hl => ?_)
        refine lv_goto (tgt := 9) hx hb dX12_fillerFor_60 (by decide) ?_
        exact ih (i + 1) _ ls (by omega) (by omega) (by rw [mFFr, if_neg (by simp [c_2])]; exact hg) (lv_sub hl [0, 1, 2, 3] rfl)
      ·
        refine lv_aload_n hx hb dX12_fillerFor_23 rfl (lv_at hl 2 rfl) ?_
        refine va_get (D := (dC, dI)) (ci := 11) (v := .ref (v 22)) (C := RX12) (T := TX12) (N := 52) hx hb hts zl_X12_fillerFor_X12 hown hK hP 0 rfl rfl 22 (by decide) (hts (.fieldLink RX12 74 "PageOneModel" "pieces" "[I") (zat q_wsX12_fillerFor k_wsX12_fillerFor 904 rfl (by decide +kernel))) (fun _ h9 => h9) rfl dX12_fillerFor_24 ?_
        refine lv_iload_n hx hb dX12_fillerFor_27 rfl (lv_at hl 0 rfl) ?_
        refine va_iald hx hb hK hP 22 0 rfl rfl (vp_in_nI (by omega) (by decide)) dX12_fillerFor_28 ?_
        refine lv_if_ne (tgt := 55) hx hb dX12_fillerFor_29 (by decide) (fun c_3 => ?_) (fun c_3 => ?_)
        ·
          refine lv_iload_n hx hb dX12_fillerFor_55 rfl (lv_at hl 1 rfl) ?_
          refine lv_istore_n (lv' := [(2, .int a), (3, .int (nI (M - i - 1))), (0, .ref h0), (1, .int p0)]) hx hb dX12_fillerFor_56 rfl hl (by decide) rfl (fun ls hl => ?_)
          refine lv_iinc (v := (nI (M - (i + 1)) - 1)) (lv' := [(3, .int (nI (M - (i + 1)) - 1)), (2, .int a), (0, .ref h0), (1, .int p0)]) hx hb dX12_fillerFor_57 hl (k := 1) rfl (by rw [dec1, Nat.sub_sub]) (by decide) rfl (fun ls hl => ?_)
          refine lv_goto (tgt := 9) hx hb dX12_fillerFor_60 (by decide) ?_
          exact ih (i + 1) _ ls (by omega) (by omega) (by rw [mFFr, if_neg (by simp [c_2, c_3])]; exact hg) (lv_sub hl [0, 1, 2, 3] rfl)
        ·
          refine lv_iload_n hx hb dX12_fillerFor_32 rfl (lv_at hl 3 rfl) ?_
          refine lv_aload_n hx hb dX12_fillerFor_33 rfl (lv_at hl 2 rfl) ?_
          refine va_get (D := (dC, dI)) (ci := 11) (v := .ref (v 5)) (C := RX12) (T := TX12) (N := 52) hx hb hts zl_X12_fillerFor_X12 hown hK hP 0 rfl rfl 5 (by decide) (hts (.fieldLink RX12 22 "PageOneModel" "least" "[I") (zat q_wsX12_fillerFor k_wsX12_fillerFor 887 rfl (by decide +kernel))) (fun _ h9 => h9) rfl dX12_fillerFor_34 ?_
          refine lv_iload_n hx hb dX12_fillerFor_37 rfl (lv_at hl 0 rfl) ?_
          refine va_iald hx hb hK hP 5 0 rfl rfl (vp_in_nI (by omega) (by decide)) dX12_fillerFor_38 ?_
          refine lv_aload_n hx hb dX12_fillerFor_39 rfl (lv_at hl 2 rfl) ?_
          refine va_get (D := (dC, dI)) (ci := 11) (v := .ref (v 6)) (C := RX12) (T := TX12) (N := 52) hx hb hts zl_X12_fillerFor_X12 hown hK hP 0 rfl rfl 6 (by decide) (hts (.fieldLink RX12 25 "PageOneModel" "most" "[I") (zat q_wsX12_fillerFor k_wsX12_fillerFor 888 rfl (by decide +kernel))) (fun _ h9 => h9) rfl dX12_fillerFor_40 ?_
          refine lv_iload_n hx hb dX12_fillerFor_43 rfl (lv_at hl 0 rfl) ?_
          refine va_iald hx hb hK hP 6 0 rfl rfl (vp_in_nI (by omega) (by decide)) dX12_fillerFor_44 ?_
          refine vp_callSi (va_runS (As := [.int p0, .int (u.2 5 ((nI (M - i - 1)) : Int32).toNatClampNeg), .int (u.2 6 ((nI (M - i - 1)) : Int32).toNatClampNeg)]) (rest := []) ⟨hx, hb, hml, hown, hts⟩ (m_in l dC dI p0 (u.2 5 ((nI (M - i - 1)) : Int32).toNatClampNeg) (u.2 6 ((nI (M - i - 1)) : Int32).toNatClampNeg)) (va_cwS 3 hts gX12_fillerFor_X12_in rfl rfl rfl zh_X12_in_0 ⟨hRf, hRl⟩) ⟨pw_fb, fun U hU hW => ⟨rfl, pw_to hU hW (hP.sub (ws' := []) [] rfl) (hK.sub (tys' := []) [] rfl) hN⟩⟩ rfl rfl hl.1 rfl (lv_room (Nat.le_of_ble_eq_true rfl)) dX12_fillerFor_45 ⟨hRc, hRs⟩).run (fun r hw => ?_)
          rcases Bool.eq_false_or_eq_true (bw p0 (u.2 5 ((nI (M - i - 1)) : Int32).toNatClampNeg) (u.2 6 ((nI (M - i - 1)) : Int32).toNatClampNeg)) with b_4 | b_4
          ·
            obtain rfl : r = 1 := b_t hw b_4
            refine lv_if_eq (tgt := 55) hx hb dX12_fillerFor_48 (by decide) (fun c_5 => absurd c_5 (by decide)) (fun c_5 => ?_)
            refine lv_iload_n hx hb dX12_fillerFor_51 rfl (lv_at hl 0 rfl) ?_
            refine lv_goto (tgt := 56) hx hb dX12_fillerFor_52 (by decide) ?_
            refine lv_topi (fun x_6 ex_6 => ?_)
            refine lv_istore_n (lv' := [(2, .int x_6), (3, .int (nI (M - i - 1))), (0, .ref h0), (1, .int p0)]) hx hb dX12_fillerFor_56 rfl hl (by decide) rfl (fun ls hl => ?_)
            refine lv_iinc (v := (nI (M - (i + 1)) - 1)) (lv' := [(3, .int (nI (M - (i + 1)) - 1)), (2, .int x_6), (0, .ref h0), (1, .int p0)]) hx hb dX12_fillerFor_57 hl (k := 1) rfl (by rw [dec1, Nat.sub_sub]) (by decide) rfl (fun ls hl => ?_)
            refine lv_goto (tgt := 9) hx hb dX12_fillerFor_60 (by decide) ?_
            exact ih (i + 1) _ ls (by omega) (by omega) (by rw [mFFr, if_pos (by simp [c_2, c_3, b_4])]; first | assumption | rfl) (lv_sub hl [0, 1, 2, 3] rfl)
          ·
            obtain rfl : r = 0 := b_f hw b_4
            refine lv_if_eq (tgt := 55) hx hb dX12_fillerFor_48 (by decide) (fun c_7 => ?_) (fun c_7 => absurd (by decide) c_7)
            refine lv_iload_n hx hb dX12_fillerFor_55 rfl (lv_at hl 1 rfl) ?_
            refine lv_istore_n (lv' := [(2, .int a), (3, .int (nI (M - i - 1))), (0, .ref h0), (1, .int p0)]) hx hb dX12_fillerFor_56 rfl hl (by decide) rfl (fun ls hl => ?_)
            refine lv_iinc (v := (nI (M - (i + 1)) - 1)) (lv' := [(3, .int (nI (M - (i + 1)) - 1)), (2, .int a), (0, .ref h0), (1, .int p0)]) hx hb dX12_fillerFor_57 hl (k := 1) rfl (by rw [dec1, Nat.sub_sub]) (by decide) rfl (fun ls hl => ?_)
            refine lv_goto (tgt := 9) hx hb dX12_fillerFor_60 (by decide) ?_
            exact ih (i + 1) _ ls (by omega) (by omega) (by rw [mFFr, if_neg (by simp [c_2, c_3, b_4])]; exact hg) (lv_sub hl [0, 1, 2, 3] rfl)
set_option maxHeartbeats 4000000 in
set_option maxRecDepth 100000 in
theorem m_fillerFor (l : Launch) (dC : Nat → ClassId) (dI : Nat → Nat → Nat) (h0 : Nat) (v : Nat → Nat) (cI cZ : ClassId) (u : mS) (p0 : Int32) (hn : bw (u.1 3) 0 80 = true) : Met l yX12_fillerFor wsX12_fillerFor ({ frames := 1, cells := 0, slots := 0, locals := 22 }) (va_Pc [.ref h0, .int p0] (PW dC dI (mW h0 v cI cZ u) [(cI, .int), (cZ, .boolean)])) (vp_Si (fun r => r = mFFr u p0 (u.1 3).toNatClampNeg (u.1 3).toNatClampNeg)) 0 0 (fun _ => False) := by
  refine Met.ofW (cc := cX12_fillerFor) (maxL := 4) (ret := (some .int)) (by decide) rfl ?_
  intro p e s m args below meth c s₁ B hml hv
  obtain ⟨rfl, hP, hK, hN⟩ := hv
  have hx := B.exec
  have hb := B.bytes
  have hr := B.returns
  have hts := atoms_spec (ws := wsX12_fillerFor) B.pre
  have hown : s.vm.findClass RX12 = some m.cls := findClass_of_methodNamed B.named
  have hlocks := B.notSynchronized
  have hl := lv_entry ([.ref h0, .int p0]) (n := 4) (Nat.le_of_ble_eq_true rfl)
  rw [lg_entry_eq]
  generalize (lg_sl ([.ref h0, .int p0]) ++ List.replicate (4 - (lg_sl ([.ref h0, .int p0])).length) Slot.unset).toArray = ls at hl ⊢
  have hl : lv_has ls 4 [(0, .ref h0), (1, .int p0)] := hl
  refine lv_iconst (v := (-1)) hx hb dX12_fillerFor_0 (by decide) ?_
  refine lv_istore_n (lv' := [(2, .int (-1)), (0, .ref h0), (1, .int p0)]) hx hb dX12_fillerFor_1 rfl hl (by decide) rfl (fun ls hl => ?_)
  refine lv_aload_n hx hb dX12_fillerFor_2 rfl (lv_at hl 1 rfl) ?_
  refine va_get (D := (dC, dI)) (ci := 11) (v := .int (u.1 3)) (C := RX12) (T := TX12) (N := 52) hx hb hts zl_X12_fillerFor_X12 hown hK hP 0 rfl rfl 3 (by decide) (hts (.fieldLink RX12 147 "PageOneModel" "items" "I") (zat q_wsX12_fillerFor k_wsX12_fillerFor 885 rfl (by decide +kernel))) (fun _ h9 => h9) rfl dX12_fillerFor_3 ?_
  refine lv_iconst (v := 1) hx hb dX12_fillerFor_6 (by decide) ?_
  refine lv_isub hx hb dX12_fillerFor_7 ?_
  refine lv_topi (fun x_1 ex_1 => ?_)
  refine lv_istore_n (lv' := [(3, .int x_1), (2, .int (-1)), (0, .ref h0), (1, .int p0)]) hx hb dX12_fillerFor_8 rfl hl (by decide) rfl (fun ls hl => ?_)
  obtain ⟨eM, eM2, eM3⟩ := nI_of_bw hn
  have h80 : (80 : Int32).toInt = 80 := rfl
  have ex9 : x_1 = nI ((u.1 3).toNatClampNeg - 0) - 1 := by rw [ex_1, Nat.sub_zero, ← eM]
  rw [ex9] at hl
  refine m_fillerFor_loop (M := (u.1 3).toNatClampNeg) hx hb hml hts hown hN hK (Nat.le_of_ble_eq_true rfl) (Nat.le_of_ble_eq_true rfl) (Nat.le_of_ble_eq_true rfl) (Nat.le_of_ble_eq_true rfl) hP (by omega) (fun a ls hg hl => ?_) _ 0 (-1) ls (Nat.zero_le _) (Nat.lt_succ_self _) rfl (lv_sub hl [0, 1, 2, 3] rfl)
  refine lv_iload_n hx hb dX12_fillerFor_63 rfl (lv_at hl 1 rfl) ?_
  exact W.iret (v := a) hx hb hr (fun t ht hW => ⟨_, rfl, hg, ht⟩) (fun q h => absurd h List.not_mem_nil) dX12_fillerFor_64
/-- the item's column on a plate of the edition at hand -/
def prC (u : mS) (i : Int32) (q : Nat) : Bool := mNow u (nI q) && !decide (u.2 45 (80 * nI q + i).toNatClampNeg < 0)
def mPrV (u : mS) (i w p : Int32) : Int32 := if w = 0 then u.1 38 else if w = 1 then u.1 39 else if w = 2 then p else if w = 3 then u.2 45 (80 * p + i).toNatClampNeg else u.2 46 (80 * p + i).toNatClampNeg
/-- printed(i, w) answers r -/
def mPrR (u : mS) (i w r : Int32) : Prop := if bw i 0 (u.1 3 - 1) = true then (if bw w 0 4 = true then (if u.2 47 (5 * i).toNatClampNeg < 0 then ((∃ q, q < 12 ∧ prC u i q = true ∧ (∀ j, j < q → prC u i j = false) ∧ r = mPrV u i w (nI q)) ∨ ((∀ j, j < 12 → prC u i j = false) ∧ r = (-1))) else r = u.2 47 (5 * i + w).toNatClampNeg) else r = (-1)) else r = (-1)
theorem vPl {i : Int32} {q : Nat} (hi : bw i 0 79 = true) (hq : q < 12) : vp_in (80 * nI q + i) 960 := by
  have h79 : (79 : Int32).toInt = 79 := rfl
  have h1 := bw_iff.mp hi
  rw [i0, h79] at h1
  have e1 : (80 * nI q).toInt = 80 * q := by rw [show (80 : Int32) = nI 80 from rfl, pk_mul, nI_toInt (by omega)]; omega
  rw [vp_in_iff, addI (by rw [e1]; omega) (by rw [e1]; omega), e1]; omega
theorem v5 {i : Int32} (hi : bw i 0 79 = true) : vp_in (5 * i) 400 ∧ (5 * i).toInt = 5 * i.toInt ∧ 0 ≤ i.toInt ∧ i.toInt ≤ 79 := by
  have h79 : (79 : Int32).toInt = 79 := rfl
  have h5 : (5 : Int32).toInt = 5 := rfl
  have h1 := bw_iff.mp hi
  rw [i0, h79] at h1
  have e1 : (5 * i).toInt = 5 * i.toInt := by rw [mulI (by rw [h5]; omega) (by rw [h5]; omega), h5]
  exact ⟨by rw [vp_in_iff, e1]; omega, e1, h1.1, h1.2⟩
theorem v5w {i w : Int32} (hi : bw i 0 79 = true) (hw : bw w 0 4 = true) : vp_in (5 * i + w) 400 := by
  have h4 : (4 : Int32).toInt = 4 := rfl
  have h1 := v5 hi
  have h2 := bw_iff.mp hw
  rw [i0, h4] at h2
  rw [vp_in_iff, addI (by rw [h1.2.1]; omega) (by rw [h1.2.1]; omega), h1.2.1]; omega
set_option maxHeartbeats 4000000 in
set_option maxRecDepth 100000 in
theorem m_printed_loop {p : Program} {l : Launch} {e : Env} {R : Room} {s : State} {m : MethodId} {args : Array Value} {below : List Frame} {meth : Method} {c : Code} {Q : State → Prop} {cells slots : Nat} {dC : Nat → ClassId} {dI : Nat → Nat → Nat} {h0 : Nat} {v : Nat → Nat} {cI cZ : ClassId} {H : Heap} {locs : List Loc} {u : mS} (hx : p.tables.exec = Jvm.exec) (hb : c.code = cX12_printed) (hml : c.maxLocals = 4) (hts : ∀ w ∈ wsX12_printed, w.before args s = true) (hown : s.vm.findClass RX12 = some m.cls) (hN : NN s) (hK : va_K (dC, dI) vwCl [(cI, .int), (cZ, .boolean)] s) (hRf : 1 ≤ R.frames) (hRl : 21 ≤ R.locals) (hRc : cells ≤ R.cells) (hRs : slots ≤ R.slots) (hP : va_P (dC, dI) vwCl (mW h0 v cI cZ u) H) {p0 p1 : Int32} (hi0 : bw p0 0 79 = true) (kx71 : ∀ (i : Nat) (ls : Array Slot), i < 12 → prC u p0 i = true → (∀ j, j < i → prC u p0 j = false) → lv_has ls 4 [(3, .int (nI i)), (0, .ref h0), (1, .int p0), (2, .int p1)] → W p l e R s m args below meth c H locs cells slots Q (F0 m 71 ls [])) (kx : ∀ (ls : Array Slot), (∀ j, j < 12 → prC u p0 j = false) → lv_has ls 4 [(3, .int (nI 12)), (0, .ref h0), (1, .int p0), (2, .int p1)] → W p l e R s m args below meth c H locs cells slots Q (F0 m 140 ls [])) : ∀ (k i : Nat) (ls : Array Slot), i ≤ 12 → 12 - i < k → (∀ j, j < i → prC u p0 j = false) → lv_has ls 4 [(3, .int (nI i)), (0, .ref h0), (1, .int p0), (2, .int p1)] → W p l e R s m args below meth c H locs cells slots Q (F0 m 43 ls []) := by
  intro k
  induction k with
  | zero => intro i ls h1 h2; exact absurd h2 (Nat.not_lt_zero _)
  | succ k ih =>
    intro i ls hi hk hg hl
    refine lv_iload_n hx hb dX12_printed_43 rfl (lv_at hl 0 rfl) ?_
    refine lv_bipush (v := 12) hx hb dX12_printed_44 (by decide) ?_
    refine lv_icmp_ge (tgt := 140) hx hb dX12_printed_46 (by decide) (fun c_1 => ?_) (fun c_1 => ?_)
    ·
      have hie : i = 12 := lp_eq rfl (by decide) hi c_1
      subst hie
      exact kx ls hg (lv_sub hl [0, 1, 2, 3] rfl)
    ·
      have hlt : i < 12 := lp_lt rfl (by decide) hi c_1
      refine lv_aload_n hx hb dX12_printed_49 rfl (lv_at hl 1 rfl) ?_
      refine lv_iload_n hx hb dX12_printed_50 rfl (lv_at hl 0 rfl) ?_
      refine vp_callSi (va_runV (As := [.int (nI i)]) (rest := []) ⟨hx, hb, hml, hown, hts⟩ (m_isNow l dC dI h0 v cI cZ u (nI i) (bwN (by have h11 : (11 : Int32).toInt = 11 := rfl; rw [h11]; omega) (by omega))) (cwV 1 hts gX12_printed_X12_isNow rfl rfl rfl zh_X12_isNow_15 ⟨hRf, hRl⟩) ⟨pw_fb, va_recv hK hP (ci := 11) (q0 := 0) rfl rfl, fun U hU hW => ⟨rfl, pw_to hU hW hP hK hN⟩⟩ rfl rfl hl.1 rfl (lv_room (Nat.le_of_ble_eq_true rfl)) dX12_printed_51 ⟨hRc, hRs⟩).run (fun r hw => ?_)
      rcases Bool.eq_false_or_eq_true (mNow u (nI i)) with b_2 | b_2
      ·
        obtain rfl : r = 1 := b_t hw b_2
        refine lv_if_eq (tgt := 134) hx hb dX12_printed_54 (by decide) (fun c_3 => absurd c_3 (by decide)) (fun c_3 => ?_)
        refine lv_aload_n hx hb dX12_printed_57 rfl (lv_at hl 1 rfl) ?_
        refine va_get (D := (dC, dI)) (ci := 11) (v := .ref (v 45)) (C := RX12) (T := TX12) (N := 52) hx hb hts zl_X12_printed_X12 hown hK hP 0 rfl rfl 45 (by decide) (hts (.fieldLink RX12 131 "PageOneModel" "plateColumn" "[I") (zat q_wsX12_printed k_wsX12_printed 927 rfl (by decide +kernel))) (fun _ h9 => h9) rfl dX12_printed_58 ?_
        refine lv_bipush (v := 80) hx hb dX12_printed_61 (by decide) ?_
        refine lv_iload_n hx hb dX12_printed_63 rfl (lv_at hl 0 rfl) ?_
        refine lv_imul hx hb dX12_printed_64 ?_
        refine lv_iload_n hx hb dX12_printed_65 rfl (lv_at hl 2 rfl) ?_
        refine lv_iadd hx hb dX12_printed_66 ?_
        refine va_iald hx hb hK hP 41 0 rfl rfl (vPl hi0 hlt) dX12_printed_67 ?_
        refine lv_if_lt (tgt := 134) hx hb dX12_printed_68 (by decide) (fun c_4 => ?_) (fun c_4 => ?_)
        ·
          refine lv_iinc (v := (nI (i + 1))) (lv' := [(3, .int (nI (i + 1))), (0, .ref h0), (1, .int p0), (2, .int p1)]) hx hb dX12_printed_134 hl (k := 0) rfl (nI_1 i) (by decide) rfl (fun ls hl => ?_)
          refine lv_goto (tgt := 43) hx hb dX12_printed_137 (by decide) ?_
          exact ih (i + 1) ls (by omega) (by omega) (lt_s hg (by unfold prC; rw [b_2]; simp [c_4])) (lv_sub hl [0, 1, 2, 3] rfl)
        ·
          exact kx71 i ls hlt (by unfold prC; rw [b_2]; simp [c_4]) hg (lv_sub hl [0, 1, 2, 3] rfl)
      ·
        obtain rfl : r = 0 := b_f hw b_2
        refine lv_if_eq (tgt := 134) hx hb dX12_printed_54 (by decide) (fun c_5 => ?_) (fun c_5 => absurd (by decide) c_5)
        refine lv_iinc (v := (nI (i + 1))) (lv' := [(3, .int (nI (i + 1))), (0, .ref h0), (1, .int p0), (2, .int p1)]) hx hb dX12_printed_134 hl (k := 0) rfl (nI_1 i) (by decide) rfl (fun ls hl => ?_)
        refine lv_goto (tgt := 43) hx hb dX12_printed_137 (by decide) ?_
        exact ih (i + 1) ls (by omega) (by omega) (lt_s hg (by unfold prC; rw [b_2]; rfl)) (lv_sub hl [0, 1, 2, 3] rfl)
set_option maxHeartbeats 4000000 in
set_option maxRecDepth 100000 in
theorem m_printed (l : Launch) (dC : Nat → ClassId) (dI : Nat → Nat → Nat) (h0 : Nat) (v : Nat → Nat) (cI cZ : ClassId) (u : mS) (p0 p1 : Int32) (hn : bw (u.1 3) 0 80 = true) : Met l yX12_printed wsX12_printed ({ frames := 2, cells := 0, slots := 0, locals := 43 }) (va_Pc [.ref h0, .int p0, .int p1] (PW dC dI (mW h0 v cI cZ u) [(cI, .int), (cZ, .boolean)])) (vp_Si (fun r => mPrR u p0 p1 r)) 0 0 (fun _ => False) := by
  refine Met.ofW (cc := cX12_printed) (maxL := 4) (ret := (some .int)) (by decide) rfl ?_
  intro p e s m args below meth c s₁ B hml hv
  obtain ⟨rfl, hP, hK, hN⟩ := hv
  have hx := B.exec
  have hb := B.bytes
  have hr := B.returns
  have hts := atoms_spec (ws := wsX12_printed) B.pre
  have hown : s.vm.findClass RX12 = some m.cls := findClass_of_methodNamed B.named
  have hlocks := B.notSynchronized
  have hl := lv_entry ([.ref h0, .int p0, .int p1]) (n := 4) (Nat.le_of_ble_eq_true rfl)
  rw [lg_entry_eq]
  generalize (lg_sl ([.ref h0, .int p0, .int p1]) ++ List.replicate (4 - (lg_sl ([.ref h0, .int p0, .int p1])).length) Slot.unset).toArray = ls at hl ⊢
  have hl : lv_has ls 4 [(0, .ref h0), (1, .int p0), (2, .int p1)] := hl
  refine lv_aload_n hx hb dX12_printed_0 rfl (lv_at hl 0 rfl) ?_
  refine lv_iload_n hx hb dX12_printed_1 rfl (lv_at hl 1 rfl) ?_
  refine vp_callSi (va_runV (As := [.int p0]) (rest := []) ⟨hx, hb, hml, hown, hts⟩ (m_isItem l dC dI h0 v cI cZ u p0) (cwV 1 hts gX12_printed_X12_isItem rfl rfl rfl zh_X12_isItem_1 ⟨Nat.le_of_ble_eq_true rfl, Nat.le_of_ble_eq_true rfl⟩) ⟨pw_fb, va_recv hK hP (ci := 11) (q0 := 0) rfl rfl, fun U hU hW => ⟨rfl, pw_to hU hW hP hK hN⟩⟩ rfl rfl hl.1 rfl (lv_room (Nat.le_of_ble_eq_true rfl)) dX12_printed_2 ⟨Nat.le_of_ble_eq_true rfl, Nat.le_of_ble_eq_true rfl⟩).run (fun r hw => ?_)
  rcases Bool.eq_false_or_eq_true (bw p0 0 (u.1 3 - 1)) with b_1 | b_1
  ·
    obtain rfl : r = 1 := b_t hw b_1
    refine lv_if_eq (tgt := 17) hx hb dX12_printed_5 (by decide) (fun c_2 => absurd c_2 (by decide)) (fun c_2 => ?_)
    refine lv_iload_n hx hb dX12_printed_8 rfl (lv_at hl 2 rfl) ?_
    refine lv_iconst (v := 0) hx hb dX12_printed_9 (by decide) ?_
    refine lv_iconst (v := 4) hx hb dX12_printed_10 (by decide) ?_
    refine vp_callSi (va_runS (As := [.int p1, .int 0, .int 4]) (rest := []) ⟨hx, hb, hml, hown, hts⟩ (m_in l dC dI p1 0 4) (va_cwS 3 hts gX12_printed_X12_in rfl rfl rfl zh_X12_in_0 ⟨Nat.le_of_ble_eq_true rfl, Nat.le_of_ble_eq_true rfl⟩) ⟨pw_fb, fun U hU hW => ⟨rfl, pw_to hU hW (hP.sub (ws' := []) [] rfl) (hK.sub (tys' := []) [] rfl) hN⟩⟩ rfl rfl hl.1 rfl (lv_room (Nat.le_of_ble_eq_true rfl)) dX12_printed_11 ⟨Nat.le_of_ble_eq_true rfl, Nat.le_of_ble_eq_true rfl⟩).run (fun r hw => ?_)
    rcases Bool.eq_false_or_eq_true (bw p1 0 4) with b_3 | b_3
    ·
      obtain rfl : r = 1 := b_t hw b_3
      refine lv_if_ne (tgt := 19) hx hb dX12_printed_14 (by decide) (fun c_4 => ?_) (fun c_4 => absurd c_4 (by decide))
      refine lv_aload_n hx hb dX12_printed_19 rfl (lv_at hl 0 rfl) ?_
      refine va_get (D := (dC, dI)) (ci := 11) (v := .ref (v 47)) (C := RX12) (T := TX12) (N := 52) hx hb hts zl_X12_printed_X12 hown hK hP 0 rfl rfl 47 (by decide) (hts (.fieldLink RX12 137 "PageOneModel" "first" "[I") (zat q_wsX12_printed k_wsX12_printed 929 rfl (by decide +kernel))) (fun _ h9 => h9) rfl dX12_printed_20 ?_
      refine lv_iconst (v := 5) hx hb dX12_printed_23 (by decide) ?_
      refine lv_iload_n hx hb dX12_printed_24 rfl (lv_at hl 1 rfl) ?_
      refine lv_imul hx hb dX12_printed_25 ?_
      refine va_iald hx hb hK hP 43 0 rfl rfl (v5 (it79 hn b_1)).1 dX12_printed_26 ?_
      refine lv_if_lt (tgt := 41) hx hb dX12_printed_27 (by decide) (fun c_5 => ?_) (fun c_5 => ?_)
      ·
        refine lv_iconst (v := 0) hx hb dX12_printed_41 (by decide) ?_
        refine lv_istore_n (lv' := [(3, .int 0), (0, .ref h0), (1, .int p0), (2, .int p1)]) hx hb dX12_printed_42 rfl hl (by decide) rfl (fun ls hl => ?_)
        have hi9 := it79 hn b_1
        refine m_printed_loop (p1 := p1) hx hb hml hts hown hN hK (Nat.le_of_ble_eq_true rfl) (Nat.le_of_ble_eq_true rfl) (Nat.le_of_ble_eq_true rfl) (Nat.le_of_ble_eq_true rfl) hP hi9 (fun i ls hlt hpr hg hl => ?_) (fun ls hg hl => ?_) 13 0 ls (by decide) (by decide) (fun j hj => absurd hj (Nat.not_lt_zero _)) (lv_sub hl [0, 1, 2, 3] rfl)
        ·
          refine lv_iload_n hx hb dX12_printed_71 rfl (lv_at hl 3 rfl) ?_
          refine lv_if_ne (tgt := 82) hx hb dX12_printed_72 (by decide) (fun c_6 => ?_) (fun c_6 => ?_)
          ·
            refine lv_iload_n hx hb dX12_printed_82 rfl (lv_at hl 3 rfl) ?_
            refine lv_iconst (v := 1) hx hb dX12_printed_83 (by decide) ?_
            refine lv_icmp_ne (tgt := 94) hx hb dX12_printed_84 (by decide) (fun c_7 => ?_) (fun c_7 => ?_)
            ·
              refine lv_iload_n hx hb dX12_printed_94 rfl (lv_at hl 3 rfl) ?_
              refine lv_iconst (v := 2) hx hb dX12_printed_95 (by decide) ?_
              refine lv_icmp_ne (tgt := 103) hx hb dX12_printed_96 (by decide) (fun c_8 => ?_) (fun c_8 => ?_)
              ·
                refine lv_iload_n hx hb dX12_printed_103 rfl (lv_at hl 3 rfl) ?_
                refine lv_iconst (v := 3) hx hb dX12_printed_104 (by decide) ?_
                refine lv_icmp_ne (tgt := 122) hx hb dX12_printed_105 (by decide) (fun c_9 => ?_) (fun c_9 => ?_)
                ·
                  refine lv_aload_n hx hb dX12_printed_122 rfl (lv_at hl 1 rfl) ?_
                  refine va_get (D := (dC, dI)) (ci := 11) (v := .ref (v 46)) (C := RX12) (T := TX12) (N := 52) hx hb hts zl_X12_printed_X12 hown hK hP 0 rfl rfl 46 (by decide) (hts (.fieldLink RX12 134 "PageOneModel" "plateLine" "[I") (zat q_wsX12_printed k_wsX12_printed 928 rfl (by decide +kernel))) (fun _ h9 => h9) rfl dX12_printed_123 ?_
                  refine lv_bipush (v := 80) hx hb dX12_printed_126 (by decide) ?_
                  refine lv_iload_n hx hb dX12_printed_128 rfl (lv_at hl 0 rfl) ?_
                  refine lv_imul hx hb dX12_printed_129 ?_
                  refine lv_iload_n hx hb dX12_printed_130 rfl (lv_at hl 2 rfl) ?_
                  refine lv_iadd hx hb dX12_printed_131 ?_
                  refine va_iald hx hb hK hP 42 0 rfl rfl (vPl hi9 hlt) dX12_printed_132 ?_
                  exact W.iret (v := (u.2 46 (((80 * (nI i)) + p0) : Int32).toNatClampNeg)) hx hb hr (fun t ht hW => ⟨_, rfl, (by show mPrR u p0 p1 _; unfold mPrR; rw [if_pos b_1, if_pos b_3, if_pos c_5]; exact Or.inl ⟨i, hlt, hpr, hg, by first | (unfold mPrV; rw [if_neg c_6, if_neg c_7, if_neg c_8, if_neg c_9]; done) | (unfold mPrV; rw [if_neg c_6, if_neg c_7, if_neg c_8, if_neg c_9]; rfl)⟩), ht⟩) (fun q h => absurd h List.not_mem_nil) dX12_printed_133
                ·
                  refine lv_aload_n hx hb dX12_printed_108 rfl (lv_at hl 1 rfl) ?_
                  refine va_get (D := (dC, dI)) (ci := 11) (v := .ref (v 45)) (C := RX12) (T := TX12) (N := 52) hx hb hts zl_X12_printed_X12 hown hK hP 0 rfl rfl 45 (by decide) (hts (.fieldLink RX12 131 "PageOneModel" "plateColumn" "[I") (zat q_wsX12_printed k_wsX12_printed 927 rfl (by decide +kernel))) (fun _ h9 => h9) rfl dX12_printed_109 ?_
                  refine lv_bipush (v := 80) hx hb dX12_printed_112 (by decide) ?_
                  refine lv_iload_n hx hb dX12_printed_114 rfl (lv_at hl 0 rfl) ?_
                  refine lv_imul hx hb dX12_printed_115 ?_
                  refine lv_iload_n hx hb dX12_printed_116 rfl (lv_at hl 2 rfl) ?_
                  refine lv_iadd hx hb dX12_printed_117 ?_
                  refine va_iald hx hb hK hP 41 0 rfl rfl (vPl hi9 hlt) dX12_printed_118 ?_
                  refine lv_goto (tgt := 133) hx hb dX12_printed_119 (by decide) ?_
                  exact W.iret (v := (u.2 45 (((80 * (nI i)) + p0) : Int32).toNatClampNeg)) hx hb hr (fun t ht hW => ⟨_, rfl, (by show mPrR u p0 p1 _; unfold mPrR; rw [if_pos b_1, if_pos b_3, if_pos c_5]; exact Or.inl ⟨i, hlt, hpr, hg, by first | (unfold mPrV; rw [if_neg c_6, if_neg c_7, if_neg c_8, if_pos c_9]; done) | (unfold mPrV; rw [if_neg c_6, if_neg c_7, if_neg c_8, if_pos c_9]; rfl)⟩), ht⟩) (fun q h => absurd h List.not_mem_nil) dX12_printed_133
              ·
                refine lv_iload_n hx hb dX12_printed_99 rfl (lv_at hl 0 rfl) ?_
                refine lv_goto (tgt := 133) hx hb dX12_printed_100 (by decide) ?_
                exact W.iret (v := (nI i)) hx hb hr (fun t ht hW => ⟨_, rfl, (by show mPrR u p0 p1 _; unfold mPrR; rw [if_pos b_1, if_pos b_3, if_pos c_5]; exact Or.inl ⟨i, hlt, hpr, hg, by first | (unfold mPrV; rw [if_neg c_6, if_neg c_7, if_pos c_8]; done) | (unfold mPrV; rw [if_neg c_6, if_neg c_7, if_pos c_8]; rfl)⟩), ht⟩) (fun q h => absurd h List.not_mem_nil) dX12_printed_133
            ·
              refine lv_aload_n hx hb dX12_printed_87 rfl (lv_at hl 1 rfl) ?_
              refine va_get (D := (dC, dI)) (ci := 11) (v := .int (u.1 39)) (C := RX12) (T := TX12) (N := 52) hx hb hts zl_X12_printed_X12 hown hK hP 0 rfl rfl 39 (by decide) (hts (.fieldLink RX12 257 "PageOneModel" "edition" "I") (zat q_wsX12_printed k_wsX12_printed 921 rfl (by decide +kernel))) (fun _ h9 => h9) rfl dX12_printed_88 ?_
              refine lv_goto (tgt := 133) hx hb dX12_printed_91 (by decide) ?_
              exact W.iret (v := (u.1 39)) hx hb hr (fun t ht hW => ⟨_, rfl, (by show mPrR u p0 p1 _; unfold mPrR; rw [if_pos b_1, if_pos b_3, if_pos c_5]; exact Or.inl ⟨i, hlt, hpr, hg, by first | (unfold mPrV; rw [if_neg c_6, if_pos c_7]; done) | (unfold mPrV; rw [if_neg c_6, if_pos c_7]; rfl)⟩), ht⟩) (fun q h => absurd h List.not_mem_nil) dX12_printed_133
          ·
            refine lv_aload_n hx hb dX12_printed_75 rfl (lv_at hl 1 rfl) ?_
            refine va_get (D := (dC, dI)) (ci := 11) (v := .int (u.1 38)) (C := RX12) (T := TX12) (N := 52) hx hb hts zl_X12_printed_X12 hown hK hP 0 rfl rfl 38 (by decide) (hts (.fieldLink RX12 206 "PageOneModel" "day" "I") (zat q_wsX12_printed k_wsX12_printed 920 rfl (by decide +kernel))) (fun _ h9 => h9) rfl dX12_printed_76 ?_
            refine lv_goto (tgt := 133) hx hb dX12_printed_79 (by decide) ?_
            exact W.iret (v := (u.1 38)) hx hb hr (fun t ht hW => ⟨_, rfl, (by show mPrR u p0 p1 _; unfold mPrR; rw [if_pos b_1, if_pos b_3, if_pos c_5]; exact Or.inl ⟨i, hlt, hpr, hg, by first | (unfold mPrV; rw [if_pos c_6]; done) | (unfold mPrV; rw [if_pos c_6]; rfl)⟩), ht⟩) (fun q h => absurd h List.not_mem_nil) dX12_printed_133
        ·
          refine lv_iconst (v := (-1)) hx hb dX12_printed_140 (by decide) ?_
          exact W.iret (v := (-1)) hx hb hr (fun t ht hW => ⟨_, rfl, (by show mPrR u p0 p1 _; unfold mPrR; rw [if_pos b_1, if_pos b_3, if_pos c_5]; exact Or.inr ⟨hg, rfl⟩), ht⟩) (fun q h => absurd h List.not_mem_nil) dX12_printed_141
      ·
        refine lv_aload_n hx hb dX12_printed_30 rfl (lv_at hl 0 rfl) ?_
        refine va_get (D := (dC, dI)) (ci := 11) (v := .ref (v 47)) (C := RX12) (T := TX12) (N := 52) hx hb hts zl_X12_printed_X12 hown hK hP 0 rfl rfl 47 (by decide) (hts (.fieldLink RX12 137 "PageOneModel" "first" "[I") (zat q_wsX12_printed k_wsX12_printed 929 rfl (by decide +kernel))) (fun _ h9 => h9) rfl dX12_printed_31 ?_
        refine lv_iconst (v := 5) hx hb dX12_printed_34 (by decide) ?_
        refine lv_iload_n hx hb dX12_printed_35 rfl (lv_at hl 1 rfl) ?_
        refine lv_imul hx hb dX12_printed_36 ?_
        refine lv_iload_n hx hb dX12_printed_37 rfl (lv_at hl 2 rfl) ?_
        refine lv_iadd hx hb dX12_printed_38 ?_
        refine va_iald hx hb hK hP 43 0 rfl rfl (v5w (it79 hn b_1) b_3) dX12_printed_39 ?_
        exact W.iret (v := (u.2 47 (((5 * p0) + p1) : Int32).toNatClampNeg)) hx hb hr (fun t ht hW => ⟨_, rfl, (by show mPrR u p0 p1 _; unfold mPrR; rw [if_pos b_1, if_pos b_3, if_neg c_5]), ht⟩) (fun q h => absurd h List.not_mem_nil) dX12_printed_40
    ·
      obtain rfl : r = 0 := b_f hw b_3
      refine lv_if_ne (tgt := 19) hx hb dX12_printed_14 (by decide) (fun c_10 => absurd (by decide) c_10) (fun c_10 => ?_)
      refine lv_iconst (v := (-1)) hx hb dX12_printed_17 (by decide) ?_
      exact W.iret (v := (-1)) hx hb hr (fun t ht hW => ⟨_, rfl, (by show mPrR u p0 p1 _; unfold mPrR; rw [if_pos b_1, if_neg (bne b_3)]), ht⟩) (fun q h => absurd h List.not_mem_nil) dX12_printed_18
  ·
    obtain rfl : r = 0 := b_f hw b_1
    refine lv_if_eq (tgt := 17) hx hb dX12_printed_5 (by decide) (fun c_11 => ?_) (fun c_11 => absurd (by decide) c_11)
    refine lv_iconst (v := (-1)) hx hb dX12_printed_17 (by decide) ?_
    exact W.iret (v := (-1)) hx hb hr (fun t ht hW => ⟨_, rfl, (by show mPrR u p0 p1 _; unfold mPrR; rw [if_neg (bne b_1)]), ht⟩) (fun q h => absurd h List.not_mem_nil) dX12_printed_18
/-- how many of the first pages have a plate of the edition at hand -/
def mCnt (u : mS) : Nat → Int32
  | 0 => 0
  | n + 1 => mCnt u n + (if mNow u (nI n) = true then 1 else 0)
def mAbout (u : mS) (w : Int32) : Int32 := if w = 0 then u.1 38 else if w = 1 then u.1 39 else if w = 2 then u.1 3 else if w = 3 then u.1 28 else if w = 4 then mCnt u 12 else (-1)
set_option maxHeartbeats 4000000 in
set_option maxRecDepth 100000 in
theorem m_about_loop {p : Program} {l : Launch} {e : Env} {R : Room} {s : State} {m : MethodId} {args : Array Value} {below : List Frame} {meth : Method} {c : Code} {Q : State → Prop} {cells slots : Nat} {dC : Nat → ClassId} {dI : Nat → Nat → Nat} {h0 : Nat} {v : Nat → Nat} {cI cZ : ClassId} {H : Heap} {locs : List Loc} {u : mS} (hx : p.tables.exec = Jvm.exec) (hb : c.code = cX12_about) (hml : c.maxLocals = 4) (hts : ∀ w ∈ wsX12_about, w.before args s = true) (hown : s.vm.findClass RX12 = some m.cls) (hN : NN s) (hK : va_K (dC, dI) vwCl [(cI, .int), (cZ, .boolean)] s) (hRf : 1 ≤ R.frames) (hRl : 21 ≤ R.locals) (hRc : cells ≤ R.cells) (hRs : slots ≤ R.slots) (hP : va_P (dC, dI) vwCl (mW h0 v cI cZ u) H) (kx : ∀ (a : Int32) (ls : Array Slot), a = mCnt u 12 → lv_has ls 4 [(3, .int (nI 12)), (2, .int a), (0, .ref h0)] → W p l e R s m args below meth c H locs cells slots Q (F0 m 88 ls [])) : ∀ (k i : Nat) (a : Int32) (ls : Array Slot), i ≤ 12 → 12 - i < k → a = mCnt u i → lv_has ls 4 [(3, .int (nI i)), (2, .int a), (0, .ref h0)] → W p l e R s m args below meth c H locs cells slots Q (F0 m 60 ls []) := by
  intro k
  induction k with
  | zero => intro i a ls h1 h2; exact absurd h2 (Nat.not_lt_zero _)
  | succ k ih =>
    intro i a ls hi hk hg hl
    refine lv_iload_n hx hb dX12_about_60 rfl (lv_at hl 0 rfl) ?_
    refine lv_bipush (v := 12) hx hb dX12_about_61 (by decide) ?_
    refine lv_icmp_ge (tgt := 88) hx hb dX12_about_63 (by decide) (fun c_1 => ?_) (fun c_1 => ?_)
    ·
      have hie : i = 12 := lp_eq rfl (by decide) hi c_1
      subst hie
      exact kx _ ls hg (lv_sub hl [0, 1, 2] rfl)
    ·
      have hlt : i < 12 := lp_lt rfl (by decide) hi c_1
      refine lv_iload_n hx hb dX12_about_66 rfl (lv_at hl 1 rfl) ?_
      refine lv_aload_n hx hb dX12_about_67 rfl (lv_at hl 2 rfl) ?_
      refine lv_iload_n hx hb dX12_about_68 rfl (lv_at hl 0 rfl) ?_
      refine vp_callSi (va_runV (As := [.int (nI i)]) (rest := [.int a]) ⟨hx, hb, hml, hown, hts⟩ (m_isNow l dC dI h0 v cI cZ u (nI i) (bwN (by have h11 : (11 : Int32).toInt = 11 := rfl; rw [h11]; omega) (by omega))) (cwV 1 hts gX12_about_X12_isNow rfl rfl rfl zh_X12_isNow_15 ⟨hRf, hRl⟩) ⟨pw_fb, va_recv hK hP (ci := 11) (q0 := 0) rfl rfl, fun U hU hW => ⟨rfl, pw_to hU hW hP hK hN⟩⟩ rfl rfl hl.1 rfl (lv_room (Nat.le_of_ble_eq_true rfl)) dX12_about_69 ⟨hRc, hRs⟩).run (fun r hw => ?_)
      rcases Bool.eq_false_or_eq_true (mNow u (nI i)) with b_2 | b_2
      ·
        obtain rfl : r = 1 := b_t hw b_2
        refine lv_if_eq (tgt := 79) hx hb dX12_about_72 (by decide) (fun c_3 => absurd c_3 (by decide)) (fun c_3 => ?_)
        refine lv_iconst (v := 1) hx hb dX12_about_75 (by decide) ?_
        refine lv_goto (tgt := 80) hx hb dX12_about_76 (by decide) ?_
        refine lv_iadd hx hb dX12_about_80 ?_
        refine lv_topi (fun x_4 ex_4 => ?_)
        refine lv_istore_n (lv' := [(2, .int x_4), (3, .int (nI i)), (0, .ref h0)]) hx hb dX12_about_81 rfl hl (by decide) rfl (fun ls hl => ?_)
        refine lv_iinc (v := (nI (i + 1))) (lv' := [(3, .int (nI (i + 1))), (2, .int x_4), (0, .ref h0)]) hx hb dX12_about_82 hl (k := 1) rfl (nI_1 i) (by decide) rfl (fun ls hl => ?_)
        refine lv_goto (tgt := 60) hx hb dX12_about_85 (by decide) ?_
        exact ih (i + 1) _ ls (by omega) (by omega) (by subst_vars; rw [mCnt, if_pos b_2]) (lv_sub hl [0, 1, 2] rfl)
      ·
        obtain rfl : r = 0 := b_f hw b_2
        refine lv_if_eq (tgt := 79) hx hb dX12_about_72 (by decide) (fun c_5 => ?_) (fun c_5 => absurd (by decide) c_5)
        refine lv_iconst (v := 0) hx hb dX12_about_79 (by decide) ?_
        refine lv_iadd hx hb dX12_about_80 ?_
        refine lv_topi (fun x_6 ex_6 => ?_)
        refine lv_istore_n (lv' := [(2, .int x_6), (3, .int (nI i)), (0, .ref h0)]) hx hb dX12_about_81 rfl hl (by decide) rfl (fun ls hl => ?_)
        refine lv_iinc (v := (nI (i + 1))) (lv' := [(3, .int (nI (i + 1))), (2, .int x_6), (0, .ref h0)]) hx hb dX12_about_82 hl (k := 1) rfl (nI_1 i) (by decide) rfl (fun ls hl => ?_)
        refine lv_goto (tgt := 60) hx hb dX12_about_85 (by decide) ?_
        exact ih (i + 1) _ ls (by omega) (by omega) (by subst_vars; rw [mCnt, if_neg (bne b_2)]) (lv_sub hl [0, 1, 2] rfl)
set_option maxHeartbeats 4000000 in
set_option maxRecDepth 100000 in
theorem m_about (l : Launch) (dC : Nat → ClassId) (dI : Nat → Nat → Nat) (h0 : Nat) (v : Nat → Nat) (cI cZ : ClassId) (u : mS) (p0 : Int32) : Met l yX12_about wsX12_about ({ frames := 1, cells := 0, slots := 0, locals := 21 }) (va_Pc [.ref h0, .int p0] (PW dC dI (mW h0 v cI cZ u) [(cI, .int), (cZ, .boolean)])) (vp_Si (fun r => r = mAbout u p0)) 0 0 (fun _ => False) := by
  refine Met.ofW (cc := cX12_about) (maxL := 4) (ret := (some .int)) (by decide) rfl ?_
  intro p e s m args below meth c s₁ B hml hv
  obtain ⟨rfl, hP, hK, hN⟩ := hv
  have hx := B.exec
  have hb := B.bytes
  have hr := B.returns
  have hts := atoms_spec (ws := wsX12_about) B.pre
  have hown : s.vm.findClass RX12 = some m.cls := findClass_of_methodNamed B.named
  have hlocks := B.notSynchronized
  have hl := lv_entry ([.ref h0, .int p0]) (n := 4) (Nat.le_of_ble_eq_true rfl)
  rw [lg_entry_eq]
  generalize (lg_sl ([.ref h0, .int p0]) ++ List.replicate (4 - (lg_sl ([.ref h0, .int p0])).length) Slot.unset).toArray = ls at hl ⊢
  have hl : lv_has ls 4 [(0, .ref h0), (1, .int p0)] := hl
  refine lv_iload_n hx hb dX12_about_0 rfl (lv_at hl 1 rfl) ?_
  rcases Classical.em (p0 = 0) with s_1 | s_1
  ·
    subst s_1
    refine lv_tableIn (tgt := 36) (off := 35) hx hb dX12_about_1 (by decide) (by decide) (by decide) (by decide) ?_
    refine lv_aload_n hx hb dX12_about_36 rfl (lv_at hl 0 rfl) ?_
    refine va_get (D := (dC, dI)) (ci := 11) (v := .int (u.1 38)) (C := RX12) (T := TX12) (N := 52) hx hb hts zl_X12_about_X12 hown hK hP 0 rfl rfl 38 (by decide) (hts (.fieldLink RX12 206 "PageOneModel" "day" "I") (zat q_wsX12_about k_wsX12_about 920 rfl (by decide +kernel))) (fun _ h9 => h9) rfl dX12_about_37 ?_
    exact W.iret (v := (u.1 38)) hx hb hr (fun t ht hW => ⟨_, rfl, (by simp [mAbout]), ht⟩) (fun q h => absurd h List.not_mem_nil) dX12_about_40
  ·
    rcases Classical.em (p0 = 1) with s_2 | s_2
    ·
      subst s_2
      refine lv_tableIn (tgt := 41) (off := 40) hx hb dX12_about_1 (by decide) (by decide) (by decide) (by decide) ?_
      refine lv_aload_n hx hb dX12_about_41 rfl (lv_at hl 0 rfl) ?_
      refine va_get (D := (dC, dI)) (ci := 11) (v := .int (u.1 39)) (C := RX12) (T := TX12) (N := 52) hx hb hts zl_X12_about_X12 hown hK hP 0 rfl rfl 39 (by decide) (hts (.fieldLink RX12 257 "PageOneModel" "edition" "I") (zat q_wsX12_about k_wsX12_about 921 rfl (by decide +kernel))) (fun _ h9 => h9) rfl dX12_about_42 ?_
      exact W.iret (v := (u.1 39)) hx hb hr (fun t ht hW => ⟨_, rfl, (by simp [mAbout]), ht⟩) (fun q h => absurd h List.not_mem_nil) dX12_about_45
    ·
      rcases Classical.em (p0 = 2) with s_3 | s_3
      ·
        subst s_3
        refine lv_tableIn (tgt := 46) (off := 45) hx hb dX12_about_1 (by decide) (by decide) (by decide) (by decide) ?_
        refine lv_aload_n hx hb dX12_about_46 rfl (lv_at hl 0 rfl) ?_
        refine va_get (D := (dC, dI)) (ci := 11) (v := .int (u.1 3)) (C := RX12) (T := TX12) (N := 52) hx hb hts zl_X12_about_X12 hown hK hP 0 rfl rfl 3 (by decide) (hts (.fieldLink RX12 147 "PageOneModel" "items" "I") (zat q_wsX12_about k_wsX12_about 885 rfl (by decide +kernel))) (fun _ h9 => h9) rfl dX12_about_47 ?_
        exact W.iret (v := (u.1 3)) hx hb hr (fun t ht hW => ⟨_, rfl, (by simp [mAbout]), ht⟩) (fun q h => absurd h List.not_mem_nil) dX12_about_50
      ·
        rcases Classical.em (p0 = 3) with s_4 | s_4
        ·
          subst s_4
          refine lv_tableIn (tgt := 51) (off := 50) hx hb dX12_about_1 (by decide) (by decide) (by decide) (by decide) ?_
          refine lv_aload_n hx hb dX12_about_51 rfl (lv_at hl 0 rfl) ?_
          refine va_get (D := (dC, dI)) (ci := 11) (v := .int (u.1 28)) (C := RX12) (T := TX12) (N := 52) hx hb hts zl_X12_about_X12 hown hK hP 0 rfl rfl 28 (by decide) (hts (.fieldLink RX12 158 "PageOneModel" "acts" "I") (zat q_wsX12_about k_wsX12_about 910 rfl (by decide +kernel))) (fun _ h9 => h9) rfl dX12_about_52 ?_
          exact W.iret (v := (u.1 28)) hx hb hr (fun t ht hW => ⟨_, rfl, (by simp [mAbout]), ht⟩) (fun q h => absurd h List.not_mem_nil) dX12_about_55
        ·
          rcases Classical.em (p0 = 4) with s_5 | s_5
          ·
            subst s_5
            refine lv_tableIn (tgt := 56) (off := 55) hx hb dX12_about_1 (by decide) (by decide) (by decide) (by decide) ?_
            refine lv_iconst (v := 0) hx hb dX12_about_56 (by decide) ?_
            refine lv_istore_n (lv' := [(2, .int 0), (0, .ref h0), (1, .int 4)]) hx hb dX12_about_57 rfl hl (by decide) rfl (fun ls hl => ?_)
            refine lv_iconst (v := 0) hx hb dX12_about_58 (by decide) ?_
            refine lv_istore_n (lv' := [(3, .int 0), (2, .int 0), (0, .ref h0), (1, .int 4)]) hx hb dX12_about_59 rfl hl (by decide) rfl (fun ls hl => ?_)
            refine m_about_loop hx hb hml hts hown hN hK (Nat.le_of_ble_eq_true rfl) (Nat.le_of_ble_eq_true rfl) (Nat.le_of_ble_eq_true rfl) (Nat.le_of_ble_eq_true rfl) hP (fun a ls hg hl => ?_) 13 0 0 ls (by decide) (by decide) rfl (lv_sub hl [0, 1, 2] rfl)
            refine lv_iload_n hx hb dX12_about_88 rfl (lv_at hl 1 rfl) ?_
            exact W.iret (v := a) hx hb hr (fun t ht hW => ⟨_, rfl, (by rw [hg]; rfl), ht⟩) (fun q h => absurd h List.not_mem_nil) dX12_about_89
          ·
            refine lv_tableOut (tgt := 90) hx hb dX12_about_1 (sw_out4 s_1 s_2 s_3 s_4 s_5) (by decide) ?_
            refine lv_iconst (v := (-1)) hx hb dX12_about_90 (by decide) ?_
            exact W.iret (v := (-1)) hx hb hr (fun t ht hW => ⟨_, rfl, (by simp [mAbout, s_1, s_2, s_3, s_4, s_5]), ht⟩) (fun q h => absurd h List.not_mem_nil) dX12_about_91
/-- an empty cell of the page -/
def frB (u : mS) (p x y : Int32) : Bool := mCell u p x y && decide (u.2 2 (480 * p + 60 * x + y).toNatClampNeg = (-2))
def mFreeP (u : mS) (p c l w h : Int32) : Prop := mCell u p c l = true ∧ bw w 1 8 = true ∧ bw h 1 60 = true ∧ ∀ a, a < w.toNatClampNeg → ∀ b, b < h.toNatClampNeg → frB u p (c + nI a) (l + nI b) = true
theorem exN {x lo hi : Int32} (h : bw x lo hi = true) (hl : 0 ≤ lo.toInt) : ∃ X : Nat, (X : Int) ≤ hi.toInt ∧ lo.toInt ≤ (X : Int) ∧ x = nI X := by
  have h1 := bw_iff.mp h
  obtain ⟨j, hj, e⟩ := nI_of (x := x) (fun q => by rw [i32_lt, i0] at q; omega)
  subst e
  rw [nI_toInt hj] at h1
  exact ⟨j, h1.2, h1.1, rfl⟩
theorem mCell_c {u : mS} {p c l : Int32} (h : mCell u p c l = true) : bw p 0 11 = true ∧ bw c 0 7 = true ∧ bw l 0 (u.2 0 (8 * p + c).toNatClampNeg - 1) = true := by
  unfold mCell at h
  obtain ⟨h1, h3⟩ := band h
  obtain ⟨h1, h2⟩ := band h1
  exact ⟨h1, h2, h3⟩
theorem exL {u : mS} {p c l : Int32} (hln : ∀ j, j < 96 → bw (u.2 0 j) 0 60 = true) (h : mCell u p c l = true) : ∃ Y : Nat, Y < 60 ∧ l = nI Y := by
  obtain ⟨h1, h2, h3⟩ := mCell_c h
  have h60 : (60 : Int32).toInt = 60 := rfl
  have hl := bw_iff.mp (hln _ (vlt (vin8 h1 h2)))
  rw [i0, h60] at hl
  obtain ⟨Y, e1, -, e2⟩ := exN h3 (by rw [i0]; decide)
  rw [subI (by rw [i1]; omega) (by rw [i1]; omega), i1] at e1
  exact ⟨Y, by omega, e2⟩
set_option maxHeartbeats 4000000 in
set_option maxRecDepth 100000 in
theorem m_free_in {p : Program} {l : Launch} {e : Env} {R : Room} {s : State} {m : MethodId} {args : Array Value} {below : List Frame} {meth : Method} {c : Code} {Q : State → Prop} {cells slots : Nat} {dC : Nat → ClassId} {dI : Nat → Nat → Nat} {h0 : Nat} {v : Nat → Nat} {cI cZ : ClassId} {H : Heap} {locs : List Loc} {u : mS} (hx : p.tables.exec = Jvm.exec) (hb : c.code = cX12_isFree) (hml : c.maxLocals = 8) (hts : ∀ w ∈ wsX12_isFree, w.before args s = true) (hown : s.vm.findClass RX12 = some m.cls) (hN : NN s) (hK : va_K (dC, dI) vwCl [(cI, .int), (cZ, .boolean)] s) (hRf : 3 ≤ R.frames) (hRl : 66 ≤ R.locals) (hRc : cells ≤ R.cells) (hRs : slots ≤ R.slots) (hP : va_P (dC, dI) vwCl (mW h0 v cI cZ u) H) {p0 : Int32} {X Y D N : Nat} (hln : ∀ j, j < 96 → bw (u.2 0 j) 0 60 = true) (hX : X < 8) (hY : Y < 60) (hD : D ≤ 8) (hN6 : N ≤ 60) {x : Nat} (kx88 : ∀ (i : Nat) (ls : Array Slot), i < N → frB u p0 (nI x) (nI (Y + i)) = false → (∀ j, j < i → frB u p0 (nI x) (nI (Y + j)) = true) → lv_has ls 8 [(7, .int (nI (Y + i))), (6, .int (nI x)), (0, .ref h0), (1, .int p0), (2, .int (nI X)), (3, .int (nI Y)), (4, .int (nI D)), (5, .int (nI N))] → W p l e R s m args below meth c H locs cells slots Q (F0 m 88 ls [])) (kx : ∀ (ls : Array Slot), (∀ j, j < N → frB u p0 (nI x) (nI (Y + j)) = true) → lv_has ls 8 [(7, .int (nI (Y + N))), (6, .int (nI x)), (0, .ref h0), (1, .int p0), (2, .int (nI X)), (3, .int (nI Y)), (4, .int (nI D)), (5, .int (nI N))] → W p l e R s m args below meth c H locs cells slots Q (F0 m 96 ls [])) : ∀ (k i : Nat) (ls : Array Slot), i ≤ N → N - i < k → (∀ j, j < i → frB u p0 (nI x) (nI (Y + j)) = true) → lv_has ls 8 [(7, .int (nI (Y + i))), (6, .int (nI x)), (0, .ref h0), (1, .int p0), (2, .int (nI X)), (3, .int (nI Y)), (4, .int (nI D)), (5, .int (nI N))] → W p l e R s m args below meth c H locs cells slots Q (F0 m 49 ls []) := by
  intro k
  induction k with
  | zero => intro i ls h1 h2; exact absurd h2 (Nat.not_lt_zero _)
  | succ k ih =>
    intro i ls hi hk hg hl
    refine lv_iload hx hb dX12_isFree_49 (lv_at hl 0 rfl) ?_
    refine lv_iload_n hx hb dX12_isFree_51 rfl (lv_at hl 5 rfl) ?_
    refine lv_iload hx hb dX12_isFree_52 (lv_at hl 7 rfl) ?_
    refine lv_iadd hx hb dX12_isFree_54 ?_
    refine lv_icmp_ge (tgt := 96) hx hb dX12_isFree_55 (by decide) (fun c_1 => ?_) (fun c_1 => ?_)
    ·
      have hie : i = N := by have := lp_eq (nI_add Y N) (by omega) (by omega) c_1; omega
      rw [hie] at hg hl
      exact kx ls hg (lv_sub hl [0, 1, 2, 3, 4, 5, 6, 7] rfl)
    ·
      have hlt : i < N := by have := lp_lt (nI_add Y N) (by omega) (by omega) c_1; omega
      refine lv_aload_n hx hb dX12_isFree_58 rfl (lv_at hl 2 rfl) ?_
      refine lv_iload_n hx hb dX12_isFree_59 rfl (lv_at hl 3 rfl) ?_
      refine lv_iload hx hb dX12_isFree_60 (lv_at hl 1 rfl) ?_
      refine lv_iload hx hb dX12_isFree_62 (lv_at hl 0 rfl) ?_
      refine vp_callSi (va_runV (As := [.int p0, .int (nI x), .int (nI (Y + i))]) (rest := []) ⟨hx, hb, hml, hown, hts⟩ (m_isCell l dC dI h0 v cI cZ u p0 (nI x) (nI (Y + i))) (cwV 3 hts gX12_isFree_X12_isCell rfl rfl rfl zh_X12_isCell_9 ⟨Nat.le_trans (Nat.le_of_ble_eq_true rfl) hRf, Nat.le_trans (Nat.le_of_ble_eq_true rfl) hRl⟩) ⟨pw_fb, va_recv hK hP (ci := 11) (q0 := 0) rfl rfl, fun U hU hW => ⟨rfl, pw_to hU hW hP hK hN⟩⟩ rfl rfl hl.1 rfl (lv_room (Nat.le_of_ble_eq_true rfl)) dX12_isFree_64 ⟨hRc, hRs⟩).run (fun r hw => ?_)
      rcases Bool.eq_false_or_eq_true (mCell u p0 (nI x) (nI (Y + i))) with b_2 | b_2
      ·
        obtain rfl : r = 1 := b_t hw b_2
        refine lv_if_eq (tgt := 88) hx hb dX12_isFree_67 (by decide) (fun c_3 => absurd c_3 (by decide)) (fun c_3 => ?_)
        refine lv_aload_n hx hb dX12_isFree_70 rfl (lv_at hl 2 rfl) ?_
        refine va_get (D := (dC, dI)) (ci := 11) (v := .ref (v 2)) (C := RX12) (T := TX12) (N := 52) hx hb hts zl_X12_isFree_X12 hown hK hP 0 rfl rfl 2 (by decide) (hts (.fieldLink RX12 16 "PageOneModel" "cell" "[I") (zat q_wsX12_isFree k_wsX12_isFree 884 rfl (by decide +kernel))) (fun _ h9 => h9) rfl dX12_isFree_71 ?_
        refine lv_iload_n hx hb dX12_isFree_74 rfl (lv_at hl 3 rfl) ?_
        refine lv_iload hx hb dX12_isFree_75 (lv_at hl 1 rfl) ?_
        refine lv_iload hx hb dX12_isFree_77 (lv_at hl 0 rfl) ?_
        refine vp_callSi (va_runS (As := [.int p0, .int (nI x), .int (nI (Y + i))]) (rest := [.ref (v 2)]) ⟨hx, hb, hml, hown, hts⟩ (m_at l dC dI p0 (nI x) (nI (Y + i))) (va_cwS 3 hts gX12_isFree_X12_at rfl rfl rfl zh_X12_at_7 ⟨Nat.le_trans (Nat.le_of_ble_eq_true rfl) hRf, Nat.le_trans (Nat.le_of_ble_eq_true rfl) hRl⟩) ⟨pw_fb, fun U hU hW => ⟨rfl, pw_to hU hW (hP.sub (ws' := []) [] rfl) (hK.sub (tys' := []) [] rfl) hN⟩⟩ rfl rfl hl.1 rfl (lv_room (Nat.le_of_ble_eq_true rfl)) dX12_isFree_79 ⟨hRc, hRs⟩).run (fun r hw => ?_)
        obtain rfl : r = (480 * p0 + 60 * (nI x) + (nI (Y + i))) := hw
        refine va_iald hx hb hK hP 3 0 rfl rfl (vCell hln b_2) dX12_isFree_82 ?_
        refine lv_bipush (v := (-2)) hx hb dX12_isFree_83 (by decide) ?_
        refine lv_icmp_eq (tgt := 90) hx hb dX12_isFree_85 (by decide) (fun c_4 => ?_) (fun c_4 => ?_)
        ·
          refine lv_iinc (v := (nI (Y + i + 1))) (lv' := [(7, .int (nI (Y + i + 1))), (6, .int (nI x)), (0, .ref h0), (1, .int p0), (2, .int (nI X)), (3, .int (nI Y)), (4, .int (nI D)), (5, .int (nI N))]) hx hb dX12_isFree_90 hl (k := 0) rfl (nI_1 _) (by decide) rfl (fun ls hl => ?_)
          refine lv_goto (tgt := 49) hx hb dX12_isFree_93 (by decide) ?_
          exact ih (i + 1) ls (by omega) (by omega) (lt_s hg (by unfold frB; rw [b_2]; simp [c_4])) (lv_sub hl [0, 1, 2, 3, 4, 5, 6, 7] rfl)
        ·
          exact kx88 i ls hlt (by unfold frB; rw [b_2]; simp [c_4]) hg (lv_sub hl [0, 1, 2, 3, 4, 5, 6, 7] rfl)
      ·
        obtain rfl : r = 0 := b_f hw b_2
        refine lv_if_eq (tgt := 88) hx hb dX12_isFree_67 (by decide) (fun c_5 => ?_) (fun c_5 => absurd (by decide) c_5)
        exact kx88 i ls hlt (by unfold frB; rw [b_2]; rfl) hg (lv_sub hl [0, 1, 2, 3, 4, 5, 6, 7] rfl)
set_option maxHeartbeats 4000000 in
set_option maxRecDepth 100000 in
theorem m_free_out {p : Program} {l : Launch} {e : Env} {R : Room} {s : State} {m : MethodId} {args : Array Value} {below : List Frame} {meth : Method} {c : Code} {Q : State → Prop} {cells slots : Nat} {dC : Nat → ClassId} {dI : Nat → Nat → Nat} {h0 : Nat} {v : Nat → Nat} {cI cZ : ClassId} {H : Heap} {locs : List Loc} {u : mS} (hx : p.tables.exec = Jvm.exec) (hb : c.code = cX12_isFree) (hml : c.maxLocals = 8) (hts : ∀ w ∈ wsX12_isFree, w.before args s = true) (hown : s.vm.findClass RX12 = some m.cls) (hN : NN s) (hK : va_K (dC, dI) vwCl [(cI, .int), (cZ, .boolean)] s) (hRf : 3 ≤ R.frames) (hRl : 66 ≤ R.locals) (hRc : cells ≤ R.cells) (hRs : slots ≤ R.slots) (hP : va_P (dC, dI) vwCl (mW h0 v cI cZ u) H) {p0 : Int32} {X Y D N : Nat} (hln : ∀ j, j < 96 → bw (u.2 0 j) 0 60 = true) (hX : X < 8) (hY : Y < 60) (hD : D ≤ 8) (hN6 : N ≤ 60) (kx88 : ∀ (i : Nat) (ls : Array Slot), i < D → (∃ b, b < N ∧ frB u p0 (nI (X + i)) (nI (Y + b)) = false) → (∀ a, a < i → ∀ b, b < N → frB u p0 (nI (X + a)) (nI (Y + b)) = true) → lv_has ls 8 [(6, .int (nI (X + i))), (0, .ref h0), (1, .int p0), (2, .int (nI X)), (3, .int (nI Y)), (4, .int (nI D)), (5, .int (nI N))] → W p l e R s m args below meth c H locs cells slots Q (F0 m 88 ls [])) (kx : ∀ (ls : Array Slot), (∀ a, a < D → ∀ b, b < N → frB u p0 (nI (X + a)) (nI (Y + b)) = true) → lv_has ls 8 [(6, .int (nI (X + D))), (0, .ref h0), (1, .int p0), (2, .int (nI X)), (3, .int (nI Y)), (4, .int (nI D)), (5, .int (nI N))] → W p l e R s m args below meth c H locs cells slots Q (F0 m 102 ls [])) : ∀ (k i : Nat) (ls : Array Slot), i ≤ D → D - i < k → (∀ a, a < i → ∀ b, b < N → frB u p0 (nI (X + a)) (nI (Y + b)) = true) → lv_has ls 8 [(6, .int (nI (X + i))), (0, .ref h0), (1, .int p0), (2, .int (nI X)), (3, .int (nI Y)), (4, .int (nI D)), (5, .int (nI N))] → W p l e R s m args below meth c H locs cells slots Q (F0 m 37 ls []) := by
  intro k
  induction k with
  | zero => intro i ls h1 h2; exact absurd h2 (Nat.not_lt_zero _)
  | succ k ih =>
    intro i ls hi hk hg hl
    refine lv_iload hx hb dX12_isFree_37 (lv_at hl 0 rfl) ?_
    refine lv_iload_n hx hb dX12_isFree_39 rfl (lv_at hl 3 rfl) ?_
    refine lv_iload hx hb dX12_isFree_40 (lv_at hl 5 rfl) ?_
    refine lv_iadd hx hb dX12_isFree_42 ?_
    refine lv_icmp_ge (tgt := 102) hx hb dX12_isFree_43 (by decide) (fun c_1 => ?_) (fun c_1 => ?_)
    ·
      have hie : i = D := by have := lp_eq (nI_add X D) (by omega) (by omega) c_1; omega
      rw [hie] at hg hl
      exact kx ls hg (lv_sub hl [0, 1, 2, 3, 4, 5, 6] rfl)
    ·
      have hlt : i < D := by have := lp_lt (nI_add X D) (by omega) (by omega) c_1; omega
      refine lv_iload_n hx hb dX12_isFree_46 rfl (lv_at hl 4 rfl) ?_
      refine lv_istore (lv' := [(7, .int (nI Y)), (6, .int (nI (X + i))), (0, .ref h0), (1, .int p0), (2, .int (nI X)), (3, .int (nI Y)), (4, .int (nI D)), (5, .int (nI N))]) hx hb dX12_isFree_47 hl (by decide) rfl (fun ls hl => ?_)
      refine m_free_in (x := X + i) hx hb hml hts hown hN hK hRf hRl hRc hRs hP hln hX hY hD hN6 (fun j ls hj hne hg2 hl => kx88 i ls hlt ⟨j, hj, hne⟩ hg (lv_sub hl [1, 2, 3, 4, 5, 6, 7] rfl)) (fun ls hg2 hl => ?_) (N + 1) 0 ls (Nat.zero_le _) (by omega) (fun j hj => absurd hj (Nat.not_lt_zero _)) (lv_sub hl [0, 1, 2, 3, 4, 5, 6, 7] rfl)
      refine lv_iinc (v := (nI (X + i + 1))) (lv' := [(6, .int (nI (X + i + 1))), (7, .int (nI (Y + N))), (0, .ref h0), (1, .int p0), (2, .int (nI X)), (3, .int (nI Y)), (4, .int (nI D)), (5, .int (nI N))]) hx hb dX12_isFree_96 hl (k := 1) rfl (nI_1 _) (by decide) rfl (fun ls hl => ?_)
      refine lv_goto (tgt := 37) hx hb dX12_isFree_99 (by decide) ?_
      exact ih (i + 1) ls (by omega) (by omega) (lt_s hg hg2) (lv_sub hl [0, 2, 3, 4, 5, 6, 7] rfl)
set_option maxHeartbeats 4000000 in
set_option maxRecDepth 100000 in
theorem m_isFree (l : Launch) (dC : Nat → ClassId) (dI : Nat → Nat → Nat) (h0 : Nat) (v : Nat → Nat) (cI cZ : ClassId) (u : mS) (p0 p1 p2 p3 p4 : Int32) (hln : ∀ j, j < 96 → bw (u.2 0 j) 0 60 = true) : Met l yX12_isFree wsX12_isFree ({ frames := 3, cells := 0, slots := 0, locals := 66 }) (va_Pc [.ref h0, .int p0, .int p1, .int p2, .int p3, .int p4] (PW dC dI (mW h0 v cI cZ u) [(cI, .int), (cZ, .boolean)])) (vp_Si (fun r => (r = 1 ∧ mFreeP u p0 p1 p2 p3 p4) ∨ (r = 0 ∧ ¬ mFreeP u p0 p1 p2 p3 p4))) 0 0 (fun _ => False) := by
  refine Met.ofW (cc := cX12_isFree) (maxL := 8) (ret := (some .boolean)) (by decide) rfl ?_
  intro p e s m args below meth c s₁ B hml hv
  obtain ⟨rfl, hP, hK, hN⟩ := hv
  have hx := B.exec
  have hb := B.bytes
  have hr := B.returns
  have hts := atoms_spec (ws := wsX12_isFree) B.pre
  have hown : s.vm.findClass RX12 = some m.cls := findClass_of_methodNamed B.named
  have hlocks := B.notSynchronized
  have hl := lv_entry ([.ref h0, .int p0, .int p1, .int p2, .int p3, .int p4]) (n := 8) (Nat.le_of_ble_eq_true rfl)
  rw [lg_entry_eq]
  generalize (lg_sl ([.ref h0, .int p0, .int p1, .int p2, .int p3, .int p4]) ++ List.replicate (8 - (lg_sl ([.ref h0, .int p0, .int p1, .int p2, .int p3, .int p4])).length) Slot.unset).toArray = ls at hl ⊢
  have hl : lv_has ls 8 [(0, .ref h0), (1, .int p0), (2, .int p1), (3, .int p2), (4, .int p3), (5, .int p4)] := hl
  refine lv_aload_n hx hb dX12_isFree_0 rfl (lv_at hl 0 rfl) ?_
  refine lv_iload_n hx hb dX12_isFree_1 rfl (lv_at hl 1 rfl) ?_
  refine lv_iload_n hx hb dX12_isFree_2 rfl (lv_at hl 2 rfl) ?_
  refine lv_iload_n hx hb dX12_isFree_3 rfl (lv_at hl 3 rfl) ?_
  refine vp_callSi (va_runV (As := [.int p0, .int p1, .int p2]) (rest := []) ⟨hx, hb, hml, hown, hts⟩ (m_isCell l dC dI h0 v cI cZ u p0 p1 p2) (cwV 3 hts gX12_isFree_X12_isCell rfl rfl rfl zh_X12_isCell_9 ⟨Nat.le_of_ble_eq_true rfl, Nat.le_of_ble_eq_true rfl⟩) ⟨pw_fb, va_recv hK hP (ci := 11) (q0 := 0) rfl rfl, fun U hU hW => ⟨rfl, pw_to hU hW hP hK hN⟩⟩ rfl rfl hl.1 rfl (lv_room (Nat.le_of_ble_eq_true rfl)) dX12_isFree_4 ⟨Nat.le_of_ble_eq_true rfl, Nat.le_of_ble_eq_true rfl⟩).run (fun r hw => ?_)
  rcases Bool.eq_false_or_eq_true (mCell u p0 p1 p2) with b_1 | b_1
  ·
    obtain rfl : r = 1 := b_t hw b_1
    refine lv_if_eq (tgt := 32) hx hb dX12_isFree_7 (by decide) (fun c_2 => absurd c_2 (by decide)) (fun c_2 => ?_)
    refine lv_iload hx hb dX12_isFree_10 (lv_at hl 4 rfl) ?_
    refine lv_iconst (v := 1) hx hb dX12_isFree_12 (by decide) ?_
    refine lv_bipush (v := 8) hx hb dX12_isFree_13 (by decide) ?_
    refine vp_callSi (va_runS (As := [.int p3, .int 1, .int 8]) (rest := []) ⟨hx, hb, hml, hown, hts⟩ (m_in l dC dI p3 1 8) (va_cwS 3 hts gX12_isFree_X12_in rfl rfl rfl zh_X12_in_0 ⟨Nat.le_of_ble_eq_true rfl, Nat.le_of_ble_eq_true rfl⟩) ⟨pw_fb, fun U hU hW => ⟨rfl, pw_to hU hW (hP.sub (ws' := []) [] rfl) (hK.sub (tys' := []) [] rfl) hN⟩⟩ rfl rfl hl.1 rfl (lv_room (Nat.le_of_ble_eq_true rfl)) dX12_isFree_15 ⟨Nat.le_of_ble_eq_true rfl, Nat.le_of_ble_eq_true rfl⟩).run (fun r hw => ?_)
    rcases Bool.eq_false_or_eq_true (bw p3 1 8) with b_3 | b_3
    ·
      obtain rfl : r = 1 := b_t hw b_3
      refine lv_if_eq (tgt := 32) hx hb dX12_isFree_18 (by decide) (fun c_4 => absurd c_4 (by decide)) (fun c_4 => ?_)
      refine lv_iload hx hb dX12_isFree_21 (lv_at hl 5 rfl) ?_
      refine lv_iconst (v := 1) hx hb dX12_isFree_23 (by decide) ?_
      refine lv_bipush (v := 60) hx hb dX12_isFree_24 (by decide) ?_
      refine vp_callSi (va_runS (As := [.int p4, .int 1, .int 60]) (rest := []) ⟨hx, hb, hml, hown, hts⟩ (m_in l dC dI p4 1 60) (va_cwS 3 hts gX12_isFree_X12_in rfl rfl rfl zh_X12_in_0 ⟨Nat.le_of_ble_eq_true rfl, Nat.le_of_ble_eq_true rfl⟩) ⟨pw_fb, fun U hU hW => ⟨rfl, pw_to hU hW (hP.sub (ws' := []) [] rfl) (hK.sub (tys' := []) [] rfl) hN⟩⟩ rfl rfl hl.1 rfl (lv_room (Nat.le_of_ble_eq_true rfl)) dX12_isFree_26 ⟨Nat.le_of_ble_eq_true rfl, Nat.le_of_ble_eq_true rfl⟩).run (fun r hw => ?_)
      rcases Bool.eq_false_or_eq_true (bw p4 1 60) with b_5 | b_5
      ·
        obtain rfl : r = 1 := b_t hw b_5
        refine lv_if_ne (tgt := 34) hx hb dX12_isFree_29 (by decide) (fun c_6 => ?_) (fun c_6 => absurd c_6 (by decide))
        refine lv_iload_n hx hb dX12_isFree_34 rfl (lv_at hl 2 rfl) ?_
        refine lv_istore (lv' := [(6, .int p1), (0, .ref h0), (1, .int p0), (2, .int p1), (3, .int p2), (4, .int p3), (5, .int p4)]) hx hb dX12_isFree_35 hl (by decide) rfl (fun ls hl => ?_)
        have hfr : ¬ mFreeP u p0 p1 p2 p3 p4 ∨ True := Or.inr trivial
        obtain ⟨X, hX, -, eX⟩ := exN (mCell_c b_1).2.1 (by decide)
        obtain ⟨Y, hY, eY⟩ := exL hln b_1
        obtain ⟨D, hD8, hD1, eD⟩ := exN b_3 (by decide)
        obtain ⟨N, hN8, hN1, eN⟩ := exN b_5 (by decide)
        have h7 : (7 : Int32).toInt = 7 := rfl
        have h8 : (8 : Int32).toInt = 8 := rfl
        have h60 : (60 : Int32).toInt = 60 := rfl
        subst eX eY eD eN
        refine m_free_out (X := X) (Y := Y) (D := D) (N := N) hx hb hml hts hown hN hK (Nat.le_of_ble_eq_true rfl) (Nat.le_of_ble_eq_true rfl) (Nat.le_of_ble_eq_true rfl) (Nat.le_of_ble_eq_true rfl) hP hln (by omega) (by omega) (by omega) (by omega) (fun i ls hlt hne hg hl => ?_) (fun ls hg hl => ?_) (D + 1) 0 ls (Nat.zero_le _) (by omega) (fun j hj => absurd hj (Nat.not_lt_zero _)) (lv_sub hl [0, 1, 2, 3, 4, 5, 6] rfl)
        ·
          refine lv_iconst (v := 0) hx hb dX12_isFree_88 (by decide) ?_
          exact W.zret (v := 0) hx hb hr (by decide) (fun t ht hW => ⟨_, rfl, Or.inr ⟨rfl, fun q => by obtain ⟨b, hb1, hb2⟩ := hne; have h := q.2.2.2 i (by rw [nI_clamp (by omega)]; exact hlt) b (by rw [nI_clamp (by omega)]; exact hb1); rw [nI_add, nI_add, hb2] at h; exact absurd h (by decide)⟩, ht⟩) (fun q h => absurd h List.not_mem_nil) dX12_isFree_89
        ·
          refine lv_iconst (v := 1) hx hb dX12_isFree_102 (by decide) ?_
          exact W.zret (v := 1) hx hb hr (by decide) (fun t ht hW => ⟨_, rfl, Or.inl ⟨rfl, b_1, b_3, b_5, fun a ha b hb1 => by rw [nI_clamp (by omega)] at ha hb1; rw [nI_add, nI_add]; exact hg a ha b hb1⟩, ht⟩) (fun q h => absurd h List.not_mem_nil) dX12_isFree_103
      ·
        obtain rfl : r = 0 := b_f hw b_5
        refine lv_if_ne (tgt := 34) hx hb dX12_isFree_29 (by decide) (fun c_7 => absurd (by decide) c_7) (fun c_7 => ?_)
        refine lv_iconst (v := 0) hx hb dX12_isFree_32 (by decide) ?_
        exact W.zret (v := 0) hx hb hr (by decide) (fun t ht hW => ⟨_, rfl, Or.inr ⟨rfl, fun q => bne b_5 q.2.2.1⟩, ht⟩) (fun q h => absurd h List.not_mem_nil) dX12_isFree_33
    ·
      obtain rfl : r = 0 := b_f hw b_3
      refine lv_if_eq (tgt := 32) hx hb dX12_isFree_18 (by decide) (fun c_8 => ?_) (fun c_8 => absurd (by decide) c_8)
      refine lv_iconst (v := 0) hx hb dX12_isFree_32 (by decide) ?_
      exact W.zret (v := 0) hx hb hr (by decide) (fun t ht hW => ⟨_, rfl, Or.inr ⟨rfl, fun q => bne b_3 q.2.1⟩, ht⟩) (fun q h => absurd h List.not_mem_nil) dX12_isFree_33
  ·
    obtain rfl : r = 0 := b_f hw b_1
    refine lv_if_eq (tgt := 32) hx hb dX12_isFree_7 (by decide) (fun c_9 => ?_) (fun c_9 => absurd (by decide) c_9)
    refine lv_iconst (v := 0) hx hb dX12_isFree_32 (by decide) ?_
    exact W.zret (v := 0) hx hb hr (by decide) (fun t ht hW => ⟨_, rfl, Or.inr ⟨rfl, fun q => bne b_1 q.1⟩, ht⟩) (fun q h => absurd h List.not_mem_nil) dX12_isFree_33
/-- what the edition's end writes for one page and one item -/
def endI (u : mS) (p i : Int32) : mS := if 0 ≤ u.2 45 (80 * p + i).toNatClampNeg then
  let u1 := mst u 48 (80 * u.1 38 + i) (vp_nar .boolean 1)
  if 0 ≤ u1.2 47 (5 * i).toNatClampNeg then u1 else
    let u2 := mst u1 47 (5 * i) (u1.1 38)
    let u3 := mst u2 47 (5 * i + 1) (u2.1 39)
    let u4 := mst u3 47 (5 * i + 2) p
    let u5 := mst u4 47 (5 * i + 3) (u4.2 45 (80 * p + i).toNatClampNeg)
    mst u5 47 (5 * i + 4) (u5.2 46 (80 * p + i).toNatClampNeg)
  else u
def endL (u : mS) (p : Int32) : Nat → mS
  | 0 => u
  | n + 1 => endI (endL u p n) p (nI n)
def endP (u : mS) : Nat → mS
  | 0 => u
  | n + 1 => if mNow (endP u n) (nI n) = true then endL (endP u n) (nI n) ((u.1 3).toNatClampNeg) else endP u n
/-- ends writes the rows 47 and 48 alone -/
theorem endI_k (u : mS) (p i : Int32) : (endI u p i).1 = u.1 ∧ ∀ k, k ≠ 47 → k ≠ 48 → (endI u p i).2 k = u.2 k := by
  unfold endI
  split
  · dsimp only
    split
    · exact ⟨rfl, fun k h1 h2 => by rw [mst_other h2]⟩
    · exact ⟨rfl, fun k h1 h2 => by rw [mst_other h1, mst_other h1, mst_other h1, mst_other h1, mst_other h1, mst_other h2]⟩
  · exact ⟨rfl, fun k _ _ => rfl⟩
theorem endL_k (u : mS) (p : Int32) : ∀ n, (endL u p n).1 = u.1 ∧ ∀ k, k ≠ 47 → k ≠ 48 → (endL u p n).2 k = u.2 k
  | 0 => ⟨rfl, fun _ _ _ => rfl⟩
  | n + 1 => by
    have h1 := endL_k u p n
    have h2 := endI_k (endL u p n) p (nI n)
    exact ⟨h2.1.trans h1.1, fun k a b => (h2.2 k a b).trans (h1.2 k a b)⟩
theorem endP_k (u : mS) : ∀ n, (endP u n).1 = u.1 ∧ ∀ k, k ≠ 47 → k ≠ 48 → (endP u n).2 k = u.2 k
  | 0 => ⟨rfl, fun _ _ _ => rfl⟩
  | n + 1 => by
    have h1 := endP_k u n
    unfold endP
    split
    · have h2 := endL_k (endP u n) (nI n) ((u.1 3).toNatClampNeg)
      exact ⟨h2.1.trans h1.1, fun k a b => (h2.2 k a b).trans (h1.2 k a b)⟩
    · exact h1
theorem mNow_k {u u0 : mS} (h : u.1 = u0.1 ∧ ∀ k, k ≠ 47 → k ≠ 48 → u.2 k = u0.2 k) (p : Int32) : mNow u p = mNow u0 p := by
  unfold mNow
  rw [h.1, h.2 40 (by decide) (by decide), h.2 41 (by decide) (by decide), h.2 42 (by decide) (by decide)]
theorem vOn {i d : Int32} (hi : bw i 0 79 = true) (hd : bw d 0 399 = true) : vp_in (80 * d + i) 32000 := by
  obtain ⟨D, h1, -, e⟩ := exN hd (by decide)
  have h399 : (399 : Int32).toInt = 399 := rfl
  subst e
  exact vDay hi (by omega)
set_option maxHeartbeats 4000000 in
set_option maxRecDepth 100000 in
theorem m_ends_in {p : Program} {l : Launch} {e : Env} {R : Room} {s : State} {m : MethodId} {args : Array Value} {below : List Frame} {meth : Method} {c : Code} {Q : State → Prop} {cells slots : Nat} {dC : Nat → ClassId} {dI : Nat → Nat → Nat} {h0 : Nat} {v : Nat → Nat} {cI cZ : ClassId} {u0 : mS} {P K : Nat} (hPP : P < 12) (hK8 : K ≤ 80) (eK : u0.1 3 = nI K) (hd : bw (u0.1 38) 0 399 = true) (hnow : mNow u0 (nI P) = true) {A : Nat → Prop} {H0 : Heap} (hx : p.tables.exec = Jvm.exec) (hb : c.code = cX12_ends) (hml : c.maxLocals = 3) (hts : ∀ w ∈ wsX12_ends, w.before args s = true) (hown : s.vm.findClass RX12 = some m.cls) (hN : NN s) (hK : va_K (dC, dI) vwCl [(cI, .int), (cZ, .boolean)] s) (hRf : 1 ≤ R.frames) (hRl : 21 ≤ R.locals) (hRc : cells ≤ R.cells) (hRs : slots ≤ R.slots) (hA : ∀ q : Nat, H0.size ≤ q → A q) (kx : ∀ (u : mS) (H : Heap) (locs : List Loc) (ls : Array Slot), u = endL u0 (nI P) K → va_P (dC, dI) vwCl (mW h0 v cI cZ u) H → va_D A (mW h0 v cI cZ u) → va_S A H0 H locs → lv_has ls 3 [(2, .int (nI K)), (1, .int (nI P)), (0, .ref h0)] → W p l e R s m args below meth c H locs cells slots Q (F0 m 154 ls [])) : ∀ (k i : Nat) (u : mS) (H : Heap) (locs : List Loc) (ls : Array Slot), i ≤ K → K - i < k → u = endL u0 (nI P) i → va_P (dC, dI) vwCl (mW h0 v cI cZ u) H → va_D A (mW h0 v cI cZ u) → va_S A H0 H locs → lv_has ls 3 [(2, .int (nI i)), (1, .int (nI P)), (0, .ref h0)] → W p l e R s m args below meth c H locs cells slots Q (F0 m 10 ls []) := by
  intro k
  induction k with
  | zero => intro i u H locs ls h1 h2; exact absurd h2 (Nat.not_lt_zero _)
  | succ k ih =>
    intro i u H locs ls hi hk hg hP hD hS hl
    refine lv_iload_n hx hb dX12_ends_10 rfl (lv_at hl 0 rfl) ?_
    refine lv_aload_n hx hb dX12_ends_11 rfl (lv_at hl 2 rfl) ?_
    refine va_get (D := (dC, dI)) (ci := 11) (v := .int (u.1 3)) (C := RX12) (T := TX12) (N := 52) hx hb hts zl_X12_ends_X12 hown hK hP 0 rfl rfl 3 (by decide) (hts (.fieldLink RX12 147 "PageOneModel" "items" "I") (zat q_wsX12_ends k_wsX12_ends 885 rfl (by decide +kernel))) (fun _ h9 => h9) rfl dX12_ends_12 ?_
    refine lv_topi (fun y_1 ey_1 => ?_)
    obtain rfl : y_1 = (nI K) := ey_1.trans ((by rw [hg, (endL_k u0 (nI P) i).1]; exact eK))
    refine lv_icmp_ge (tgt := 154) hx hb dX12_ends_15 (by decide) (fun c_2 => ?_) (fun c_2 => ?_)
    ·
      have hie : i = K := lp_eq rfl (by omega) hi c_2
      rw [hie] at hg hl
      exact kx _ _ _ ls hg hP hD hS (lv_sub hl [0, 1, 2] rfl)
    ·
      have hlt : i < K := lp_lt rfl (by omega) hi c_2
      refine lv_aload_n hx hb dX12_ends_18 rfl (lv_at hl 2 rfl) ?_
      refine lv_iload_n hx hb dX12_ends_19 rfl (lv_at hl 1 rfl) ?_
      refine vp_callSi (va_runV (As := [.int (nI P)]) (rest := []) ⟨hx, hb, hml, hown, hts⟩ (m_isNow l dC dI h0 v cI cZ u (nI P) (bwN (by have h11 : (11 : Int32).toInt = 11 := rfl; rw [h11]; omega) (by omega))) (cwV 1 hts gX12_ends_X12_isNow rfl rfl rfl zh_X12_isNow_15 ⟨hRf, hRl⟩) ⟨pw_fb, va_recv hK hP (ci := 11) (q0 := 0) rfl rfl, fun U hU hW => ⟨rfl, pw_to hU hW hP hK hN⟩⟩ rfl rfl hl.1 rfl (lv_room (Nat.le_of_ble_eq_true rfl)) dX12_ends_20 ⟨hRc, hRs⟩).run (fun r hw => ?_)
      obtain rfl : r = 1 := b_t hw ((by rw [hg]; exact mNow_k (endL_k u0 (nI P) i) _ : mNow u (nI P) = mNow u0 (nI P)).trans hnow)
      refine lv_if_eq (tgt := 154) hx hb dX12_ends_23 (by decide) (fun c_3 => absurd c_3 (by decide)) (fun c_3 => ?_)
      refine lv_aload_n hx hb dX12_ends_26 rfl (lv_at hl 2 rfl) ?_
      refine va_get (D := (dC, dI)) (ci := 11) (v := .ref (v 45)) (C := RX12) (T := TX12) (N := 52) hx hb hts zl_X12_ends_X12 hown hK hP 0 rfl rfl 45 (by decide) (hts (.fieldLink RX12 131 "PageOneModel" "plateColumn" "[I") (zat q_wsX12_ends k_wsX12_ends 927 rfl (by decide +kernel))) (fun _ h9 => h9) rfl dX12_ends_27 ?_
      refine lv_bipush (v := 80) hx hb dX12_ends_30 (by decide) ?_
      refine lv_iload_n hx hb dX12_ends_32 rfl (lv_at hl 1 rfl) ?_
      refine lv_imul hx hb dX12_ends_33 ?_
      refine lv_iload_n hx hb dX12_ends_34 rfl (lv_at hl 0 rfl) ?_
      refine lv_iadd hx hb dX12_ends_35 ?_
      refine va_iald hx hb hK hP 41 0 rfl rfl (vPl (bwN (by have h79 : (79 : Int32).toInt = 79 := rfl; rw [h79]; omega) (by omega)) hPP) dX12_ends_36 ?_
      refine lv_if_ge (tgt := 43) hx hb dX12_ends_37 (by decide) (fun c_4 => ?_) (fun c_4 => ?_)
      ·
        refine lv_aload_n hx hb dX12_ends_43 rfl (lv_at hl 2 rfl) ?_
        refine va_get (D := (dC, dI)) (ci := 11) (v := .ref (v 48)) (C := RX12) (T := TX12) (N := 52) hx hb hts zl_X12_ends_X12 hown hK hP 0 rfl rfl 48 (by decide) (hts (.fieldLink RX12 140 "PageOneModel" "isOn" "[Z") (zat q_wsX12_ends k_wsX12_ends 930 rfl (by decide +kernel))) (fun _ h9 => h9) rfl dX12_ends_44 ?_
        refine lv_bipush (v := 80) hx hb dX12_ends_47 (by decide) ?_
        refine lv_aload_n hx hb dX12_ends_49 rfl (lv_at hl 2 rfl) ?_
        refine va_get (D := (dC, dI)) (ci := 11) (v := .int (u.1 38)) (C := RX12) (T := TX12) (N := 52) hx hb hts zl_X12_ends_X12 hown hK hP 0 rfl rfl 38 (by decide) (hts (.fieldLink RX12 206 "PageOneModel" "day" "I") (zat q_wsX12_ends k_wsX12_ends 920 rfl (by decide +kernel))) (fun _ h9 => h9) rfl dX12_ends_50 ?_
        refine lv_imul hx hb dX12_ends_53 ?_
        refine lv_iload_n hx hb dX12_ends_54 rfl (lv_at hl 0 rfl) ?_
        refine lv_iadd hx hb dX12_ends_55 ?_
        refine lv_iconst (v := 1) hx hb dX12_ends_56 (by decide) ?_
        refine va_zast hx hb hK hP hD hS 44 1 rfl rfl (vOn (bwN (by have h79 : (79 : Int32).toInt = 79 := rfl; rw [h79]; omega) (by omega)) (by rw [hg, (endL_k u0 (nI P) i).1]; exact hd)) dX12_ends_57 (fun H locs hP hD hS => ?_)
        obtain ⟨u_5, eu_5⟩ : ∃ zz : mS, zz = mst u 48 ((80 * (u.1 38)) + (nI i)) (vp_nar .boolean 1) := ⟨_, rfl⟩
        have hP : va_P (dC, dI) vwCl (mW h0 v cI cZ u_5) H := by rw [eu_5]; exact hP
        have hD : va_D A (mW h0 v cI cZ u_5) := by rw [eu_5]; exact hD
        refine lv_aload_n hx hb dX12_ends_58 rfl (lv_at hl 2 rfl) ?_
        refine va_get (D := (dC, dI)) (ci := 11) (v := .ref (v 47)) (C := RX12) (T := TX12) (N := 52) hx hb hts zl_X12_ends_X12 hown hK hP 0 rfl rfl 47 (by decide) (hts (.fieldLink RX12 137 "PageOneModel" "first" "[I") (zat q_wsX12_ends k_wsX12_ends 929 rfl (by decide +kernel))) (fun _ h9 => h9) rfl dX12_ends_59 ?_
        refine lv_iconst (v := 5) hx hb dX12_ends_62 (by decide) ?_
        refine lv_iload_n hx hb dX12_ends_63 rfl (lv_at hl 0 rfl) ?_
        refine lv_imul hx hb dX12_ends_64 ?_
        refine va_iald hx hb hK hP 43 0 rfl rfl (v5 (bwN (by have h79 : (79 : Int32).toInt = 79 := rfl; rw [h79]; omega) (by omega))).1 dX12_ends_65 ?_
        refine lv_if_ge (tgt := 148) hx hb dX12_ends_66 (by decide) (fun c_6 => ?_) (fun c_6 => ?_)
        ·
          refine lv_iinc (v := (nI (i + 1))) (lv' := [(2, .int (nI (i + 1))), (1, .int (nI P)), (0, .ref h0)]) hx hb dX12_ends_148 hl (k := 0) rfl (nI_1 i) (by decide) rfl (fun ls hl => ?_)
          refine lv_goto (tgt := 10) hx hb dX12_ends_151 (by decide) ?_
          exact ih (i + 1) _ _ _ ls (by omega) (by omega) (by rw [endL, ← hg]; subst eu_5; unfold endI; simp only [if_pos c_4, if_pos c_6]) hP hD hS (lv_sub hl [0, 1, 2] rfl)
        ·
          refine lv_aload_n hx hb dX12_ends_69 rfl (lv_at hl 2 rfl) ?_
          refine va_get (D := (dC, dI)) (ci := 11) (v := .ref (v 47)) (C := RX12) (T := TX12) (N := 52) hx hb hts zl_X12_ends_X12 hown hK hP 0 rfl rfl 47 (by decide) (hts (.fieldLink RX12 137 "PageOneModel" "first" "[I") (zat q_wsX12_ends k_wsX12_ends 929 rfl (by decide +kernel))) (fun _ h9 => h9) rfl dX12_ends_70 ?_
          refine lv_iconst (v := 5) hx hb dX12_ends_73 (by decide) ?_
          refine lv_iload_n hx hb dX12_ends_74 rfl (lv_at hl 0 rfl) ?_
          refine lv_imul hx hb dX12_ends_75 ?_
          refine lv_aload_n hx hb dX12_ends_76 rfl (lv_at hl 2 rfl) ?_
          refine va_get (D := (dC, dI)) (ci := 11) (v := .int (u_5.1 38)) (C := RX12) (T := TX12) (N := 52) hx hb hts zl_X12_ends_X12 hown hK hP 0 rfl rfl 38 (by decide) (hts (.fieldLink RX12 206 "PageOneModel" "day" "I") (zat q_wsX12_ends k_wsX12_ends 920 rfl (by decide +kernel))) (fun _ h9 => h9) rfl dX12_ends_77 ?_
          refine va_iast hx hb hK hP hD hS 43 0 rfl rfl (v5 (bwN (by have h79 : (79 : Int32).toInt = 79 := rfl; rw [h79]; omega) (by omega))).1 dX12_ends_80 (fun H locs hP hD hS => ?_)
          obtain ⟨u_7, eu_7⟩ : ∃ zz : mS, zz = mst u_5 47 (5 * (nI i)) (u_5.1 38) := ⟨_, rfl⟩
          have hP : va_P (dC, dI) vwCl (mW h0 v cI cZ u_7) H := by rw [eu_7]; exact hP
          have hD : va_D A (mW h0 v cI cZ u_7) := by rw [eu_7]; exact hD
          refine lv_aload_n hx hb dX12_ends_81 rfl (lv_at hl 2 rfl) ?_
          refine va_get (D := (dC, dI)) (ci := 11) (v := .ref (v 47)) (C := RX12) (T := TX12) (N := 52) hx hb hts zl_X12_ends_X12 hown hK hP 0 rfl rfl 47 (by decide) (hts (.fieldLink RX12 137 "PageOneModel" "first" "[I") (zat q_wsX12_ends k_wsX12_ends 929 rfl (by decide +kernel))) (fun _ h9 => h9) rfl dX12_ends_82 ?_
          refine lv_iconst (v := 5) hx hb dX12_ends_85 (by decide) ?_
          refine lv_iload_n hx hb dX12_ends_86 rfl (lv_at hl 0 rfl) ?_
          refine lv_imul hx hb dX12_ends_87 ?_
          refine lv_iconst (v := 1) hx hb dX12_ends_88 (by decide) ?_
          refine lv_iadd hx hb dX12_ends_89 ?_
          refine lv_aload_n hx hb dX12_ends_90 rfl (lv_at hl 2 rfl) ?_
          refine va_get (D := (dC, dI)) (ci := 11) (v := .int (u_7.1 39)) (C := RX12) (T := TX12) (N := 52) hx hb hts zl_X12_ends_X12 hown hK hP 0 rfl rfl 39 (by decide) (hts (.fieldLink RX12 257 "PageOneModel" "edition" "I") (zat q_wsX12_ends k_wsX12_ends 921 rfl (by decide +kernel))) (fun _ h9 => h9) rfl dX12_ends_91 ?_
          refine va_iast hx hb hK hP hD hS 43 0 rfl rfl (v5w (bwN (by have h79 : (79 : Int32).toInt = 79 := rfl; rw [h79]; omega) (by omega)) (by decide)) dX12_ends_94 (fun H locs hP hD hS => ?_)
          obtain ⟨u_8, eu_8⟩ : ∃ zz : mS, zz = mst u_7 47 ((5 * (nI i)) + 1) (u_7.1 39) := ⟨_, rfl⟩
          have hP : va_P (dC, dI) vwCl (mW h0 v cI cZ u_8) H := by rw [eu_8]; exact hP
          have hD : va_D A (mW h0 v cI cZ u_8) := by rw [eu_8]; exact hD
          refine lv_aload_n hx hb dX12_ends_95 rfl (lv_at hl 2 rfl) ?_
          refine va_get (D := (dC, dI)) (ci := 11) (v := .ref (v 47)) (C := RX12) (T := TX12) (N := 52) hx hb hts zl_X12_ends_X12 hown hK hP 0 rfl rfl 47 (by decide) (hts (.fieldLink RX12 137 "PageOneModel" "first" "[I") (zat q_wsX12_ends k_wsX12_ends 929 rfl (by decide +kernel))) (fun _ h9 => h9) rfl dX12_ends_96 ?_
          refine lv_iconst (v := 5) hx hb dX12_ends_99 (by decide) ?_
          refine lv_iload_n hx hb dX12_ends_100 rfl (lv_at hl 0 rfl) ?_
          refine lv_imul hx hb dX12_ends_101 ?_
          refine lv_iconst (v := 2) hx hb dX12_ends_102 (by decide) ?_
          refine lv_iadd hx hb dX12_ends_103 ?_
          refine lv_iload_n hx hb dX12_ends_104 rfl (lv_at hl 1 rfl) ?_
          refine va_iast hx hb hK hP hD hS 43 0 rfl rfl (v5w (bwN (by have h79 : (79 : Int32).toInt = 79 := rfl; rw [h79]; omega) (by omega)) (by decide)) dX12_ends_105 (fun H locs hP hD hS => ?_)
          obtain ⟨u_9, eu_9⟩ : ∃ zz : mS, zz = mst u_8 47 ((5 * (nI i)) + 2) (nI P) := ⟨_, rfl⟩
          have hP : va_P (dC, dI) vwCl (mW h0 v cI cZ u_9) H := by rw [eu_9]; exact hP
          have hD : va_D A (mW h0 v cI cZ u_9) := by rw [eu_9]; exact hD
          refine lv_aload_n hx hb dX12_ends_106 rfl (lv_at hl 2 rfl) ?_
          refine va_get (D := (dC, dI)) (ci := 11) (v := .ref (v 47)) (C := RX12) (T := TX12) (N := 52) hx hb hts zl_X12_ends_X12 hown hK hP 0 rfl rfl 47 (by decide) (hts (.fieldLink RX12 137 "PageOneModel" "first" "[I") (zat q_wsX12_ends k_wsX12_ends 929 rfl (by decide +kernel))) (fun _ h9 => h9) rfl dX12_ends_107 ?_
          refine lv_iconst (v := 5) hx hb dX12_ends_110 (by decide) ?_
          refine lv_iload_n hx hb dX12_ends_111 rfl (lv_at hl 0 rfl) ?_
          refine lv_imul hx hb dX12_ends_112 ?_
          refine lv_iconst (v := 3) hx hb dX12_ends_113 (by decide) ?_
          refine lv_iadd hx hb dX12_ends_114 ?_
          refine lv_aload_n hx hb dX12_ends_115 rfl (lv_at hl 2 rfl) ?_
          refine va_get (D := (dC, dI)) (ci := 11) (v := .ref (v 45)) (C := RX12) (T := TX12) (N := 52) hx hb hts zl_X12_ends_X12 hown hK hP 0 rfl rfl 45 (by decide) (hts (.fieldLink RX12 131 "PageOneModel" "plateColumn" "[I") (zat q_wsX12_ends k_wsX12_ends 927 rfl (by decide +kernel))) (fun _ h9 => h9) rfl dX12_ends_116 ?_
          refine lv_bipush (v := 80) hx hb dX12_ends_119 (by decide) ?_
          refine lv_iload_n hx hb dX12_ends_121 rfl (lv_at hl 1 rfl) ?_
          refine lv_imul hx hb dX12_ends_122 ?_
          refine lv_iload_n hx hb dX12_ends_123 rfl (lv_at hl 0 rfl) ?_
          refine lv_iadd hx hb dX12_ends_124 ?_
          refine va_iald hx hb hK hP 41 0 rfl rfl (vPl (bwN (by have h79 : (79 : Int32).toInt = 79 := rfl; rw [h79]; omega) (by omega)) hPP) dX12_ends_125 ?_
          refine va_iast hx hb hK hP hD hS 43 0 rfl rfl (v5w (bwN (by have h79 : (79 : Int32).toInt = 79 := rfl; rw [h79]; omega) (by omega)) (by decide)) dX12_ends_126 (fun H locs hP hD hS => ?_)
          obtain ⟨u_10, eu_10⟩ : ∃ zz : mS, zz = mst u_9 47 ((5 * (nI i)) + 3) (u_9.2 45 (((80 * (nI P)) + (nI i)) : Int32).toNatClampNeg) := ⟨_, rfl⟩
          have hP : va_P (dC, dI) vwCl (mW h0 v cI cZ u_10) H := by rw [eu_10]; exact hP
          have hD : va_D A (mW h0 v cI cZ u_10) := by rw [eu_10]; exact hD
          refine lv_aload_n hx hb dX12_ends_127 rfl (lv_at hl 2 rfl) ?_
          refine va_get (D := (dC, dI)) (ci := 11) (v := .ref (v 47)) (C := RX12) (T := TX12) (N := 52) hx hb hts zl_X12_ends_X12 hown hK hP 0 rfl rfl 47 (by decide) (hts (.fieldLink RX12 137 "PageOneModel" "first" "[I") (zat q_wsX12_ends k_wsX12_ends 929 rfl (by decide +kernel))) (fun _ h9 => h9) rfl dX12_ends_128 ?_
          refine lv_iconst (v := 5) hx hb dX12_ends_131 (by decide) ?_
          refine lv_iload_n hx hb dX12_ends_132 rfl (lv_at hl 0 rfl) ?_
          refine lv_imul hx hb dX12_ends_133 ?_
          refine lv_iconst (v := 4) hx hb dX12_ends_134 (by decide) ?_
          refine lv_iadd hx hb dX12_ends_135 ?_
          refine lv_aload_n hx hb dX12_ends_136 rfl (lv_at hl 2 rfl) ?_
          refine va_get (D := (dC, dI)) (ci := 11) (v := .ref (v 46)) (C := RX12) (T := TX12) (N := 52) hx hb hts zl_X12_ends_X12 hown hK hP 0 rfl rfl 46 (by decide) (hts (.fieldLink RX12 134 "PageOneModel" "plateLine" "[I") (zat q_wsX12_ends k_wsX12_ends 928 rfl (by decide +kernel))) (fun _ h9 => h9) rfl dX12_ends_137 ?_
          refine lv_bipush (v := 80) hx hb dX12_ends_140 (by decide) ?_
          refine lv_iload_n hx hb dX12_ends_142 rfl (lv_at hl 1 rfl) ?_
          refine lv_imul hx hb dX12_ends_143 ?_
          refine lv_iload_n hx hb dX12_ends_144 rfl (lv_at hl 0 rfl) ?_
          refine lv_iadd hx hb dX12_ends_145 ?_
          refine va_iald hx hb hK hP 42 0 rfl rfl (vPl (bwN (by have h79 : (79 : Int32).toInt = 79 := rfl; rw [h79]; omega) (by omega)) hPP) dX12_ends_146 ?_
          refine va_iast hx hb hK hP hD hS 43 0 rfl rfl (v5w (bwN (by have h79 : (79 : Int32).toInt = 79 := rfl; rw [h79]; omega) (by omega)) (by decide)) dX12_ends_147 (fun H locs hP hD hS => ?_)
          obtain ⟨u_11, eu_11⟩ : ∃ zz : mS, zz = mst u_10 47 ((5 * (nI i)) + 4) (u_10.2 46 (((80 * (nI P)) + (nI i)) : Int32).toNatClampNeg) := ⟨_, rfl⟩
          have hP : va_P (dC, dI) vwCl (mW h0 v cI cZ u_11) H := by rw [eu_11]; exact hP
          have hD : va_D A (mW h0 v cI cZ u_11) := by rw [eu_11]; exact hD
          refine lv_iinc (v := (nI (i + 1))) (lv' := [(2, .int (nI (i + 1))), (1, .int (nI P)), (0, .ref h0)]) hx hb dX12_ends_148 hl (k := 0) rfl (nI_1 i) (by decide) rfl (fun ls hl => ?_)
          refine lv_goto (tgt := 10) hx hb dX12_ends_151 (by decide) ?_
          exact ih (i + 1) _ _ _ ls (by omega) (by omega) (by rw [endL, ← hg]; subst eu_5 eu_7 eu_8 eu_9 eu_10 eu_11; unfold endI; simp only [if_pos c_4, if_neg c_6]) hP hD hS (lv_sub hl [0, 1, 2] rfl)
      ·
        refine lv_goto (tgt := 148) hx hb dX12_ends_40 (by decide) ?_
        refine lv_iinc (v := (nI (i + 1))) (lv' := [(2, .int (nI (i + 1))), (1, .int (nI P)), (0, .ref h0)]) hx hb dX12_ends_148 hl (k := 0) rfl (nI_1 i) (by decide) rfl (fun ls hl => ?_)
        refine lv_goto (tgt := 10) hx hb dX12_ends_151 (by decide) ?_
        exact ih (i + 1) _ _ _ ls (by omega) (by omega) (by rw [endL, ← hg]; unfold endI; simp only [if_neg c_4]) hP hD hS (lv_sub hl [0, 1, 2] rfl)
set_option maxHeartbeats 4000000 in
set_option maxRecDepth 100000 in
theorem m_ends_out {p : Program} {l : Launch} {e : Env} {R : Room} {s : State} {m : MethodId} {args : Array Value} {below : List Frame} {meth : Method} {c : Code} {Q : State → Prop} {cells slots : Nat} {dC : Nat → ClassId} {dI : Nat → Nat → Nat} {h0 : Nat} {v : Nat → Nat} {cI cZ : ClassId} {u0 : mS} {K : Nat} (hK8 : K ≤ 80) (eK : u0.1 3 = nI K) (hd : bw (u0.1 38) 0 399 = true) {A : Nat → Prop} {H0 : Heap} (hx : p.tables.exec = Jvm.exec) (hb : c.code = cX12_ends) (hml : c.maxLocals = 3) (hts : ∀ w ∈ wsX12_ends, w.before args s = true) (hown : s.vm.findClass RX12 = some m.cls) (hN : NN s) (hK : va_K (dC, dI) vwCl [(cI, .int), (cZ, .boolean)] s) (hRf : 1 ≤ R.frames) (hRl : 21 ≤ R.locals) (hRc : cells ≤ R.cells) (hRs : slots ≤ R.slots) (hA : ∀ q : Nat, H0.size ≤ q → A q) (kx : ∀ (u : mS) (H : Heap) (locs : List Loc) (ls : Array Slot), u = endP u0 12 → va_P (dC, dI) vwCl (mW h0 v cI cZ u) H → va_D A (mW h0 v cI cZ u) → va_S A H0 H locs → lv_has ls 3 [(1, .int (nI 12)), (0, .ref h0)] → W p l e R s m args below meth c H locs cells slots Q (F0 m 160 ls [])) : ∀ (k i : Nat) (u : mS) (H : Heap) (locs : List Loc) (ls : Array Slot), i ≤ 12 → 12 - i < k → u = endP u0 i → va_P (dC, dI) vwCl (mW h0 v cI cZ u) H → va_D A (mW h0 v cI cZ u) → va_S A H0 H locs → lv_has ls 3 [(1, .int (nI i)), (0, .ref h0)] → W p l e R s m args below meth c H locs cells slots Q (F0 m 2 ls []) := by
  intro k
  induction k with
  | zero => intro i u H locs ls h1 h2; exact absurd h2 (Nat.not_lt_zero _)
  | succ k ih =>
    intro i u H locs ls hi hk hg hP hD hS hl
    refine lv_iload_n hx hb dX12_ends_2 rfl (lv_at hl 0 rfl) ?_
    refine lv_bipush (v := 12) hx hb dX12_ends_3 (by decide) ?_
    refine lv_icmp_ge (tgt := 160) hx hb dX12_ends_5 (by decide) (fun c_1 => ?_) (fun c_1 => ?_)
    ·
      have hie : i = 12 := lp_eq rfl (by decide) hi c_1
      subst hie
      exact kx _ _ _ ls hg hP hD hS (lv_sub hl [0, 1] rfl)
    ·
      have hlt : i < 12 := lp_lt rfl (by decide) hi c_1
      refine lv_iconst (v := 0) hx hb dX12_ends_8 (by decide) ?_
      refine lv_istore_n (lv' := [(2, .int 0), (1, .int (nI i)), (0, .ref h0)]) hx hb dX12_ends_9 rfl hl (by decide) rfl (fun ls hl => ?_)
      rcases Bool.eq_false_or_eq_true (mNow u (nI i)) with hb9 | hb9
      ·
        refine m_ends_in (u0 := u) (P := i) (K := K) hlt hK8 (by rw [hg, (endP_k u0 i).1]; exact eK) (by rw [hg, (endP_k u0 i).1]; exact hd) hb9 hx hb hml hts hown hN hK hRf hRl hRc hRs hA (fun u2 H locs ls hg2 hP hD hS hl => ?_) (K + 1) 0 u _ _ ls (Nat.zero_le _) (by omega) rfl hP hD hS (lv_sub hl [0, 1, 2] rfl)
        refine lv_iinc (v := (nI (i + 1))) (lv' := [(1, .int (nI (i + 1))), (2, .int (nI K)), (0, .ref h0)]) hx hb dX12_ends_154 hl (k := 1) rfl (nI_1 i) (by decide) rfl (fun ls hl => ?_)
        refine lv_goto (tgt := 2) hx hb dX12_ends_157 (by decide) ?_
        exact ih (i + 1) _ _ _ ls (by omega) (by omega) (by unfold endP; rw [← hg, if_pos hb9, eK, nI_clamp (by omega)]; exact hg2) hP hD hS (lv_sub hl [0, 2] rfl)
      ·
        refine lv_iload_n hx hb dX12_ends_10 rfl (lv_at hl 0 rfl) ?_
        refine lv_aload_n hx hb dX12_ends_11 rfl (lv_at hl 2 rfl) ?_
        refine va_get (D := (dC, dI)) (ci := 11) (v := .int (u.1 3)) (C := RX12) (T := TX12) (N := 52) hx hb hts zl_X12_ends_X12 hown hK hP 0 rfl rfl 3 (by decide) (hts (.fieldLink RX12 147 "PageOneModel" "items" "I") (zat q_wsX12_ends k_wsX12_ends 885 rfl (by decide +kernel))) (fun _ h9 => h9) rfl dX12_ends_12 ?_
        refine lv_icmp_ge (tgt := 154) hx hb dX12_ends_15 (by decide) (fun c_2 => ?_) (fun c_2 => ?_)
        ·
          refine lv_iinc (v := (nI (i + 1))) (lv' := [(1, .int (nI (i + 1))), (2, .int 0), (0, .ref h0)]) hx hb dX12_ends_154 hl (k := 1) rfl (nI_1 i) (by decide) rfl (fun ls hl => ?_)
          refine lv_goto (tgt := 2) hx hb dX12_ends_157 (by decide) ?_
          exact ih (i + 1) _ _ _ ls (by omega) (by omega) (by unfold endP; rw [← hg, if_neg (bne hb9)]) hP hD hS (lv_sub hl [0, 2] rfl)
        ·
          refine lv_aload_n hx hb dX12_ends_18 rfl (lv_at hl 2 rfl) ?_
          refine lv_iload_n hx hb dX12_ends_19 rfl (lv_at hl 1 rfl) ?_
          refine vp_callSi (va_runV (As := [.int (nI i)]) (rest := []) ⟨hx, hb, hml, hown, hts⟩ (m_isNow l dC dI h0 v cI cZ u (nI i) (bwN (by have h11 : (11 : Int32).toInt = 11 := rfl; rw [h11]; omega) (by omega))) (cwV 1 hts gX12_ends_X12_isNow rfl rfl rfl zh_X12_isNow_15 ⟨hRf, hRl⟩) ⟨pw_fb, va_recv hK hP (ci := 11) (q0 := 0) rfl rfl, fun U hU hW => ⟨rfl, pw_to hU hW hP hK hN⟩⟩ rfl rfl hl.1 rfl (lv_room (Nat.le_of_ble_eq_true rfl)) dX12_ends_20 ⟨hRc, hRs⟩).run (fun r hw => ?_)
          obtain rfl : r = 0 := b_f hw hb9
          refine lv_if_eq (tgt := 154) hx hb dX12_ends_23 (by decide) (fun c_3 => ?_) (fun c_3 => absurd (by decide) c_3)
          refine lv_iinc (v := (nI (i + 1))) (lv' := [(1, .int (nI (i + 1))), (2, .int 0), (0, .ref h0)]) hx hb dX12_ends_154 hl (k := 1) rfl (nI_1 i) (by decide) rfl (fun ls hl => ?_)
          refine lv_goto (tgt := 2) hx hb dX12_ends_157 (by decide) ?_
          exact ih (i + 1) _ _ _ ls (by omega) (by omega) (by unfold endP; rw [← hg, if_neg (bne hb9)]) hP hD hS (lv_sub hl [0, 2] rfl)
set_option maxHeartbeats 4000000 in
set_option maxRecDepth 100000 in
theorem m_ends (l : Launch) (dC : Nat → ClassId) (dI : Nat → Nat → Nat) (h0 : Nat) (v : Nat → Nat) (cI cZ : ClassId) (u : mS) (hn : bw (u.1 3) 0 80 = true) (hd : bw (u.1 38) 0 399 = true) (sz : Nat) : Met l yX12_ends wsX12_ends ({ frames := 1, cells := 0, slots := 0, locals := 21 }) (va_Pc [.ref h0] (fun U => U.heap.size = sz ∧ PW dC dI (mW h0 v cI cZ u) [(cI, .int), (cZ, .boolean)] U ∧ va_D (fun _ => True) (mW h0 v cI cZ u))) (va_Qv (fun u9 : mS => u9 = endP u 12) (fun u9 t => va_P (dC, dI) vwCl (mW h0 v cI cZ u9) t.heap ∧ va_D (va_A (mW h0 v cI cZ u) sz) (mW h0 v cI cZ u9)) (va_A (mW h0 v cI cZ u) sz)) 0 0 (va_A (mW h0 v cI cZ u) sz) := by
  refine Met.ofW (cc := cX12_ends) (maxL := 3) (ret := none) (by decide) rfl ?_
  intro p e s m args below meth c s₁ B hml hv
  obtain ⟨rfl, hsz, ⟨hP, hK, hN⟩, hD0⟩ := hv
  have hx := B.exec
  have hb := B.bytes
  have hr := B.returns
  have hts := atoms_spec (ws := wsX12_ends) B.pre
  have hown : s.vm.findClass RX12 = some m.cls := findClass_of_methodNamed B.named
  have hlocks := B.notSynchronized
  subst hsz
  have hD := hD0.self (sz := s.heap.size)
  generalize hAe : va_A (mW h0 v cI cZ u) s.heap.size = A at hD ⊢
  have hA : ∀ q : Nat, s.heap.size ≤ q → A q := fun q h => by rw [← hAe]; exact Or.inr h
  have hS : va_S A s.heap s.heap [] := va_S.rf
  have hl := lv_entry ([.ref h0]) (n := 3) (Nat.le_of_ble_eq_true rfl)
  rw [lg_entry_eq]
  generalize (lg_sl ([.ref h0]) ++ List.replicate (3 - (lg_sl ([.ref h0])).length) Slot.unset).toArray = ls at hl ⊢
  have hl : lv_has ls 3 [(0, .ref h0)] := hl
  refine lv_iconst (v := 0) hx hb dX12_ends_0 (by decide) ?_
  refine lv_istore_n (lv' := [(1, .int 0), (0, .ref h0)]) hx hb dX12_ends_1 rfl hl (by decide) rfl (fun ls hl => ?_)
  obtain ⟨eK, eK2, eK3⟩ := nI_of_bw hn
  have h80 : (80 : Int32).toInt = 80 := rfl
  refine m_ends_out (u0 := u) (K := (u.1 3).toNatClampNeg) (by omega) eK hd hx hb hml hts hown hN hK (Nat.le_of_ble_eq_true rfl) (Nat.le_of_ble_eq_true rfl) (Nat.le_of_ble_eq_true rfl) (Nat.le_of_ble_eq_true rfl) hA (fun u2 H locs ls hg hP hD hS hl => ?_) 13 0 u _ _ ls (by decide) (by decide) rfl hP hD hS (lv_sub hl [0, 1] rfl)
  exact W.vret hx hb hr (fun t ht hW => ⟨⟨u2, rfl, hg, by rw [ht]; exact hP, hD⟩, hS.F ht⟩) hS.2.2 dX12_ends_160
/-- edition() -/
def mEdition (u : mS) : Int32 × mS := if u.1 39 = 7 then (-1, u) else
  let u2 := mset (endP u 12) 39 ((endP u 12).1 39 + 1)
  (u2.1 39, u2)
set_option maxHeartbeats 4000000 in
set_option maxRecDepth 100000 in
theorem m_edition (l : Launch) (dC : Nat → ClassId) (dI : Nat → Nat → Nat) (h0 : Nat) (v : Nat → Nat) (cI cZ : ClassId) (u : mS) (hn : bw (u.1 3) 0 80 = true) (hd : bw (u.1 38) 0 399 = true) (sz : Nat) : Met l yX12_edition wsX12_edition ({ frames := 2, cells := 0, slots := 0, locals := 43 }) (va_Pc [.ref h0] (fun U => U.heap.size = sz ∧ PW dC dI (mW h0 v cI cZ u) [(cI, .int), (cZ, .boolean)] U ∧ va_D (fun _ => True) (mW h0 v cI cZ u))) (va_Qi (fun (r : Int32) (u9 : mS) => (r, u9) = mEdition u) (fun u9 t => va_P (dC, dI) vwCl (mW h0 v cI cZ u9) t.heap ∧ va_D (va_A (mW h0 v cI cZ u) sz) (mW h0 v cI cZ u9)) (va_A (mW h0 v cI cZ u) sz)) 0 0 (va_A (mW h0 v cI cZ u) sz) := by
  refine Met.ofW (cc := cX12_edition) (maxL := 1) (ret := (some .int)) (by decide) rfl ?_
  intro p e s m args below meth c s₁ B hml hv
  obtain ⟨rfl, hsz, ⟨hP, hK, hN⟩, hD0⟩ := hv
  have hx := B.exec
  have hb := B.bytes
  have hr := B.returns
  have hts := atoms_spec (ws := wsX12_edition) B.pre
  have hown : s.vm.findClass RX12 = some m.cls := findClass_of_methodNamed B.named
  have hlocks := B.notSynchronized
  subst hsz
  have hD := hD0.self (sz := s.heap.size)
  generalize hAe : va_A (mW h0 v cI cZ u) s.heap.size = A at hD ⊢
  have hA : ∀ q : Nat, s.heap.size ≤ q → A q := fun q h => by rw [← hAe]; exact Or.inr h
  have hS : va_S A s.heap s.heap [] := va_S.rf
  have hl := lv_entry ([.ref h0]) (n := 1) (Nat.le_of_ble_eq_true rfl)
  rw [lg_entry_eq]
  generalize (lg_sl ([.ref h0]) ++ List.replicate (1 - (lg_sl ([.ref h0])).length) Slot.unset).toArray = ls at hl ⊢
  have hl : lv_has ls 1 [(0, .ref h0)] := hl
  refine lv_aload_n hx hb dX12_edition_0 rfl (lv_at hl 0 rfl) ?_
  refine va_get (D := (dC, dI)) (ci := 11) (v := .int (u.1 39)) (C := RX12) (T := TX12) (N := 52) hx hb hts zl_X12_edition_X12 hown hK hP 0 rfl rfl 39 (by decide) (hts (.fieldLink RX12 257 "PageOneModel" "edition" "I") (zat q_wsX12_edition k_wsX12_edition 921 rfl (by decide +kernel))) (fun _ h9 => h9) rfl dX12_edition_1 ?_
  refine lv_bipush (v := 7) hx hb dX12_edition_4 (by decide) ?_
  refine lv_icmp_ne (tgt := 11) hx hb dX12_edition_6 (by decide) (fun c_1 => ?_) (fun c_1 => ?_)
  ·
    refine lv_aload_n hx hb dX12_edition_11 rfl (lv_at hl 0 rfl) ?_
    have hFc := fr_all hD hS hA
    refine va_callv (va_runV (As := []) (rest := []) ⟨hx, hb, hml, hown, hts⟩ (m_ends l dC dI h0 v cI cZ u hn hd s.heap.size) (cwV 0 hts gX12_edition_X12_ends rfl rfl rfl zh_X12_ends_16 ⟨Nat.le_of_ble_eq_true rfl, Nat.le_of_ble_eq_true rfl⟩) ⟨gw_fb, va_recv hK hP (ci := 11) (q0 := 0) rfl rfl, fun U hU hW => ⟨rfl, by rw [hU], pw_to hU hW hP hK hN, hD.weaken (fun _ _ _ _ => trivial)⟩⟩ rfl rfl hl.1 rfl (lv_room (Nat.le_of_ble_eq_true rfl)) dX12_edition_12 ⟨Nat.le_of_ble_eq_true rfl, Nat.le_of_ble_eq_true rfl⟩) hS (fun q _ h => hFc q h) hFc (fun u_2 t H1 locs ht hvm hw hB hz1 hk1 hS => ?_)
    obtain ⟨hP, hD1⟩ := hB
    rw [ht] at hP
    have hD := hD1.weaken (fun _ q _ h => hFc q.1 h)
    generalize H1 = H at hP hS ⊢
    have eu_2 := hw
    refine lv_aload_n hx hb dX12_edition_15 rfl (lv_at hl 0 rfl) ?_
    refine lv_dup hx hb dX12_edition_16 rfl ?_
    refine va_get (D := (dC, dI)) (ci := 11) (v := .int (u_2.1 39)) (C := RX12) (T := TX12) (N := 52) hx hb hts zl_X12_edition_X12 hown hK hP 0 rfl rfl 39 (by decide) (hts (.fieldLink RX12 257 "PageOneModel" "edition" "I") (zat q_wsX12_edition k_wsX12_edition 921 rfl (by decide +kernel))) (fun _ h9 => h9) rfl dX12_edition_17 ?_
    refine lv_iconst (v := 1) hx hb dX12_edition_20 (by decide) ?_
    refine lv_iadd hx hb dX12_edition_21 ?_
    refine va_put (D := (dC, dI)) (ci := 11) (v := .int ((u_2.1 39) + 1)) (ty := .int) (C := RX12) (T := TX12) (N := 52) hx hb hts zl_X12_edition_X12 tyX12 tyX12_ok nmX12 hown hK hP hD hS 0 rfl rfl 39 (by decide) (hts (.fieldLink RX12 257 "PageOneModel" "edition" "I") (zat q_wsX12_edition k_wsX12_edition 921 rfl (by decide +kernel))) (fun _ h9 => h9) rfl (tyX12_ok 39 (by decide)) rfl rfl (Nat.le_of_ble_eq_true rfl) dX12_edition_22 (fun H locs hP hD hS => ?_)
    obtain ⟨u_3, eu_3⟩ : ∃ zz : mS, zz = mset u_2 39 ((u_2.1 39) + 1) := ⟨_, rfl⟩
    have hP : va_P (dC, dI) vwCl (mW h0 v cI cZ u_3) H := by rw [eu_3]; exact hP
    have hD : va_D A (mW h0 v cI cZ u_3) := by rw [eu_3]; exact hD
    refine lv_aload_n hx hb dX12_edition_25 rfl (lv_at hl 0 rfl) ?_
    refine va_get (D := (dC, dI)) (ci := 11) (v := .int (u_3.1 39)) (C := RX12) (T := TX12) (N := 52) hx hb hts zl_X12_edition_X12 hown hK hP 0 rfl rfl 39 (by decide) (hts (.fieldLink RX12 257 "PageOneModel" "edition" "I") (zat q_wsX12_edition k_wsX12_edition 921 rfl (by decide +kernel))) (fun _ h9 => h9) rfl dX12_edition_26 ?_
    exact W.iret (v := (u_3.1 39)) hx hb hr (fun t ht hW => ⟨⟨(u_3.1 39), u_3, rfl, (by show _ = mEdition u; unfold mEdition; rw [if_neg c_1, ← eu_2]; exact (by rw [eu_3] : (u_3.1 39, u_3) = _)), by rw [ht]; exact hP, hD⟩, hS.F ht⟩) hS.2.2 dX12_edition_29
  ·
    refine lv_iconst (v := (-1)) hx hb dX12_edition_9 (by decide) ?_
    exact W.iret (v := (-1)) hx hb hr (fun t ht hW => ⟨⟨(-1), u, rfl, (by show _ = mEdition u; unfold mEdition; rw [if_pos c_1]), by rw [ht]; exact hP, hD⟩, hS.F ht⟩) hS.2.2 dX12_edition_10
theorem w_cut {p : Program} {l : Launch} {e : Env} {R : Room} {s : State} {m : MethodId} {args : Array Value} {below : List Frame} {meth : Method} {c : Code} {H : Heap} {locs : List Loc} {cells slots : Nat} {Q : State → Prop} {g : JFrame} (X : Room → Nat → Nat → (State → Prop) → Array Value → Prop) (h1 : X R cells slots Q args) (h2 : X R cells slots Q args → W p l e R s m args below meth c H locs cells slots Q g) : W p l e R s m args below meth c H locs cells slots Q g := h2 h1
/-- a row whose first n places are z -/
def fillF (f : Nat → Int32) (n : Nat) (z : Int32) : Nat → Int32 := fun j => if j < n then z else f j
theorem fillF_0 (f : Nat → Int32) (z : Int32) : fillF f 0 z = f := by
  funext j; unfold fillF; rw [if_neg (Nat.not_lt_zero _)]
theorem mput_idk (u : mS) (k : Nat) : mput u k (u.2 k) = u := by
  refine Prod.ext rfl ?_
  funext j
  unfold mput
  dsimp only
  by_cases e : j = k
  · rw [if_pos e, e]
  · rw [if_neg e]
theorem fill_0 (u : mS) (k : Nat) (z : Int32) : u = mput u k (fillF (u.2 k) 0 z) := by rw [fillF_0, mput_idk]
theorem fill_step (u0 : mS) (k : Nat) (z : Int32) {i : Nat} (hi : i < 2 ^ 31) : mst (mput u0 k (fillF (u0.2 k) i z)) k (nI i) z = mput u0 k (fillF (u0.2 k) (i + 1) z) := by
  unfold mst
  rw [nI_clamp hi]
  unfold mput
  refine Prod.ext rfl ?_
  funext j
  dsimp only
  by_cases e : j = k
  · subst e
    rw [if_pos rfl, if_pos rfl, if_pos rfl]
    funext q
    unfold upd fillF
    by_cases e1 : q = i
    · rw [if_pos e1, if_pos (by omega)]
    · rw [if_neg e1]
      by_cases e2 : q < i
      · rw [if_pos e2, if_pos (by omega)]
      · rw [if_neg e2, if_neg (by omega)]
  · rw [if_neg e, if_neg e, if_neg e]
/-- the day's end, behind the edition's -/
def dayS (w : mS) (K : Nat) : mS := mForget (mput (mput (mset (mset w 38 (w.1 38 + 1)) 39 0) 2 (fillF (w.2 2) 5760 (-2))) 22 (fillF (w.2 22) K 0))
def mDay (u : mS) : Int32 × mS := if u.1 38 = 399 then (-1, u) else ((dayS (endP u 12) (u.1 3).toNatClampNeg).1 38, dayS (endP u 12) (u.1 3).toNatClampNeg)
set_option maxHeartbeats 4000000 in
set_option maxRecDepth 100000 in
theorem m_day_l1 {p : Program} {l : Launch} {e : Env} {R : Room} {s : State} {m : MethodId} {args : Array Value} {below : List Frame} {meth : Method} {c : Code} {Q : State → Prop} {cells slots : Nat} {dC : Nat → ClassId} {dI : Nat → Nat → Nat} {h0 : Nat} {v : Nat → Nat} {cI cZ : ClassId} {u0 : mS} {A : Nat → Prop} {H0 : Heap} (hx : p.tables.exec = Jvm.exec) (hb : c.code = cX12_day) (hml : c.maxLocals = 2) (hts : ∀ w ∈ wsX12_day, w.before args s = true) (hown : s.vm.findClass RX12 = some m.cls) (hN : NN s) (hK : va_K (dC, dI) vwCl [(cI, .int), (cZ, .boolean)] s) (hA : ∀ q : Nat, H0.size ≤ q → A q) (kx : ∀ (u : mS) (H : Heap) (locs : List Loc) (ls : Array Slot), u = mput u0 2 (fillF (u0.2 2) 5760 (-2)) → va_P (dC, dI) vwCl (mW h0 v cI cZ u) H → va_D A (mW h0 v cI cZ u) → va_S A H0 H locs → lv_has ls 2 [(1, .int (nI 5760)), (0, .ref h0)] → W p l e R s m args below meth c H locs cells slots Q (F0 m 54 ls [])) : ∀ (k i : Nat) (u : mS) (H : Heap) (locs : List Loc) (ls : Array Slot), i ≤ 5760 → 5760 - i < k → u = mput u0 2 (fillF (u0.2 2) i (-2)) → va_P (dC, dI) vwCl (mW h0 v cI cZ u) H → va_D A (mW h0 v cI cZ u) → va_S A H0 H locs → lv_has ls 2 [(1, .int (nI i)), (0, .ref h0)] → W p l e R s m args below meth c H locs cells slots Q (F0 m 33 ls []) := by
  intro k
  induction k with
  | zero => intro i u H locs ls h1 h2; exact absurd h2 (Nat.not_lt_zero _)
  | succ k ih =>
    intro i u H locs ls hi hk hg hP hD hS hl
    refine lv_iload_n hx hb dX12_day_33 rfl (lv_at hl 0 rfl) ?_
    refine lv_sipush (v := 5760) hx hb dX12_day_34 (by decide) ?_
    refine lv_icmp_ge (tgt := 54) hx hb dX12_day_37 (by decide) (fun c_1 => ?_) (fun c_1 => ?_)
    ·
      have hie : i = 5760 := lp_eq rfl (by decide) hi c_1
      subst hie
      exact kx _ _ _ ls hg hP hD hS (lv_sub hl [0, 1] rfl)
    ·
      have hlt : i < 5760 := lp_lt rfl (by decide) hi c_1
      refine lv_aload_n hx hb dX12_day_40 rfl (lv_at hl 1 rfl) ?_
      refine va_get (D := (dC, dI)) (ci := 11) (v := .ref (v 2)) (C := RX12) (T := TX12) (N := 52) hx hb hts zl_X12_day_X12 hown hK hP 0 rfl rfl 2 (by decide) (hts (.fieldLink RX12 16 "PageOneModel" "cell" "[I") (zat q_wsX12_day k_wsX12_day 884 rfl (by decide +kernel))) (fun _ h9 => h9) rfl dX12_day_41 ?_
      refine lv_iload_n hx hb dX12_day_44 rfl (lv_at hl 0 rfl) ?_
      refine lv_bipush (v := (-2)) hx hb dX12_day_45 (by decide) ?_
      refine va_iast hx hb hK hP hD hS 3 0 rfl rfl (vp_in_nI hlt (by decide)) dX12_day_47 (fun H locs hP hD hS => ?_)
      obtain ⟨u_2, eu_2⟩ : ∃ zz : mS, zz = mst u 2 (nI i) (-2) := ⟨_, rfl⟩
      have hP : va_P (dC, dI) vwCl (mW h0 v cI cZ u_2) H := by rw [eu_2]; exact hP
      have hD : va_D A (mW h0 v cI cZ u_2) := by rw [eu_2]; exact hD
      refine lv_iinc (v := (nI (i + 1))) (lv' := [(1, .int (nI (i + 1))), (0, .ref h0)]) hx hb dX12_day_48 hl (k := 0) rfl (nI_1 i) (by decide) rfl (fun ls hl => ?_)
      refine lv_goto (tgt := 33) hx hb dX12_day_51 (by decide) ?_
      exact ih (i + 1) _ _ _ ls (by omega) (by omega) (by rw [eu_2, hg]; exact fill_step _ _ _ (by omega)) hP hD hS (lv_sub hl [0, 1] rfl)
set_option maxHeartbeats 4000000 in
set_option maxRecDepth 100000 in
theorem m_day_l2 {p : Program} {l : Launch} {e : Env} {R : Room} {s : State} {m : MethodId} {args : Array Value} {below : List Frame} {meth : Method} {c : Code} {Q : State → Prop} {cells slots : Nat} {dC : Nat → ClassId} {dI : Nat → Nat → Nat} {h0 : Nat} {v : Nat → Nat} {cI cZ : ClassId} {u0 : mS} {K : Nat} (hK8 : K ≤ 80) (eK : u0.1 3 = nI K) {A : Nat → Prop} {H0 : Heap} (hx : p.tables.exec = Jvm.exec) (hb : c.code = cX12_day) (hml : c.maxLocals = 2) (hts : ∀ w ∈ wsX12_day, w.before args s = true) (hown : s.vm.findClass RX12 = some m.cls) (hN : NN s) (hK : va_K (dC, dI) vwCl [(cI, .int), (cZ, .boolean)] s) (hA : ∀ q : Nat, H0.size ≤ q → A q) (kx : ∀ (u : mS) (H : Heap) (locs : List Loc) (ls : Array Slot), u = mput u0 22 (fillF (u0.2 22) K 0) → va_P (dC, dI) vwCl (mW h0 v cI cZ u) H → va_D A (mW h0 v cI cZ u) → va_S A H0 H locs → lv_has ls 2 [(1, .int (nI K)), (0, .ref h0)] → W p l e R s m args below meth c H locs cells slots Q (F0 m 77 ls [])) : ∀ (k i : Nat) (u : mS) (H : Heap) (locs : List Loc) (ls : Array Slot), i ≤ K → K - i < k → u = mput u0 22 (fillF (u0.2 22) i 0) → va_P (dC, dI) vwCl (mW h0 v cI cZ u) H → va_D A (mW h0 v cI cZ u) → va_S A H0 H locs → lv_has ls 2 [(1, .int (nI i)), (0, .ref h0)] → W p l e R s m args below meth c H locs cells slots Q (F0 m 56 ls []) := by
  intro k
  induction k with
  | zero => intro i u H locs ls h1 h2; exact absurd h2 (Nat.not_lt_zero _)
  | succ k ih =>
    intro i u H locs ls hi hk hg hP hD hS hl
    refine lv_iload_n hx hb dX12_day_56 rfl (lv_at hl 0 rfl) ?_
    refine lv_aload_n hx hb dX12_day_57 rfl (lv_at hl 1 rfl) ?_
    refine va_get (D := (dC, dI)) (ci := 11) (v := .int (u.1 3)) (C := RX12) (T := TX12) (N := 52) hx hb hts zl_X12_day_X12 hown hK hP 0 rfl rfl 3 (by decide) (hts (.fieldLink RX12 147 "PageOneModel" "items" "I") (zat q_wsX12_day k_wsX12_day 885 rfl (by decide +kernel))) (fun _ h9 => h9) rfl dX12_day_58 ?_
    refine lv_topi (fun y_1 ey_1 => ?_)
    obtain rfl : y_1 = (nI K) := ey_1.trans ((by rw [hg]; exact eK))
    refine lv_icmp_ge (tgt := 77) hx hb dX12_day_61 (by decide) (fun c_2 => ?_) (fun c_2 => ?_)
    ·
      have hie : i = K := lp_eq rfl (by omega) hi c_2
      rw [hie] at hg hl
      exact kx _ _ _ ls hg hP hD hS (lv_sub hl [0, 1] rfl)
    ·
      have hlt : i < K := lp_lt rfl (by omega) hi c_2
      refine lv_aload_n hx hb dX12_day_64 rfl (lv_at hl 1 rfl) ?_
      refine va_get (D := (dC, dI)) (ci := 11) (v := .ref (v 22)) (C := RX12) (T := TX12) (N := 52) hx hb hts zl_X12_day_X12 hown hK hP 0 rfl rfl 22 (by decide) (hts (.fieldLink RX12 74 "PageOneModel" "pieces" "[I") (zat q_wsX12_day k_wsX12_day 904 rfl (by decide +kernel))) (fun _ h9 => h9) rfl dX12_day_65 ?_
      refine lv_iload_n hx hb dX12_day_68 rfl (lv_at hl 0 rfl) ?_
      refine lv_iconst (v := 0) hx hb dX12_day_69 (by decide) ?_
      refine va_iast hx hb hK hP hD hS 22 0 rfl rfl (vp_in_nI (by omega) (by decide)) dX12_day_70 (fun H locs hP hD hS => ?_)
      obtain ⟨u_3, eu_3⟩ : ∃ zz : mS, zz = mst u 22 (nI i) 0 := ⟨_, rfl⟩
      have hP : va_P (dC, dI) vwCl (mW h0 v cI cZ u_3) H := by rw [eu_3]; exact hP
      have hD : va_D A (mW h0 v cI cZ u_3) := by rw [eu_3]; exact hD
      refine lv_iinc (v := (nI (i + 1))) (lv' := [(1, .int (nI (i + 1))), (0, .ref h0)]) hx hb dX12_day_71 hl (k := 0) rfl (nI_1 i) (by decide) rfl (fun ls hl => ?_)
      refine lv_goto (tgt := 56) hx hb dX12_day_74 (by decide) ?_
      exact ih (i + 1) _ _ _ ls (by omega) (by omega) (by rw [eu_3, hg]; exact fill_step _ _ _ (by omega)) hP hD hS (lv_sub hl [0, 1] rfl)
set_option maxHeartbeats 4000000 in
set_option maxRecDepth 100000 in
theorem m_day (l : Launch) (dC : Nat → ClassId) (dI : Nat → Nat → Nat) (h0 : Nat) (v : Nat → Nat) (cI cZ : ClassId) (u : mS) (hn : bw (u.1 3) 0 80 = true) (hd : bw (u.1 38) 0 399 = true) (sz : Nat) : Met l yX12_day wsX12_day ({ frames := 2, cells := 0, slots := 0, locals := 43 }) (va_Pc [.ref h0] (fun U => U.heap.size = sz ∧ PW dC dI (mW h0 v cI cZ u) [(cI, .int), (cZ, .boolean)] U ∧ va_D (fun _ => True) (mW h0 v cI cZ u))) (va_Qi (fun (r : Int32) (u9 : mS) => (r, u9) = mDay u) (fun u9 t => va_P (dC, dI) vwCl (mW h0 v cI cZ u9) t.heap ∧ va_D (va_A (mW h0 v cI cZ u) sz) (mW h0 v cI cZ u9)) (va_A (mW h0 v cI cZ u) sz)) 0 0 (va_A (mW h0 v cI cZ u) sz) := by
  refine Met.ofW (cc := cX12_day) (maxL := 2) (ret := (some .int)) (by decide) rfl ?_
  intro p e s m args below meth c s₁ B hml hv
  obtain ⟨rfl, hsz, ⟨hP, hK, hN⟩, hD0⟩ := hv
  have hx := B.exec
  have hb := B.bytes
  have hr := B.returns
  have hts := atoms_spec (ws := wsX12_day) B.pre
  have hown : s.vm.findClass RX12 = some m.cls := findClass_of_methodNamed B.named
  have hlocks := B.notSynchronized
  subst hsz
  have hD := hD0.self (sz := s.heap.size)
  generalize hAe : va_A (mW h0 v cI cZ u) s.heap.size = A at hD ⊢
  have hA : ∀ q : Nat, s.heap.size ≤ q → A q := fun q h => by rw [← hAe]; exact Or.inr h
  have hS : va_S A s.heap s.heap [] := va_S.rf
  have hl := lv_entry ([.ref h0]) (n := 2) (Nat.le_of_ble_eq_true rfl)
  rw [lg_entry_eq]
  generalize (lg_sl ([.ref h0]) ++ List.replicate (2 - (lg_sl ([.ref h0])).length) Slot.unset).toArray = ls at hl ⊢
  have hl : lv_has ls 2 [(0, .ref h0)] := hl
  refine lv_aload_n hx hb dX12_day_0 rfl (lv_at hl 0 rfl) ?_
  refine va_get (D := (dC, dI)) (ci := 11) (v := .int (u.1 38)) (C := RX12) (T := TX12) (N := 52) hx hb hts zl_X12_day_X12 hown hK hP 0 rfl rfl 38 (by decide) (hts (.fieldLink RX12 206 "PageOneModel" "day" "I") (zat q_wsX12_day k_wsX12_day 920 rfl (by decide +kernel))) (fun _ h9 => h9) rfl dX12_day_1 ?_
  refine lv_sipush (v := 399) hx hb dX12_day_4 (by decide) ?_
  refine lv_icmp_ne (tgt := 12) hx hb dX12_day_7 (by decide) (fun c_1 => ?_) (fun c_1 => ?_)
  ·
    refine lv_aload_n hx hb dX12_day_12 rfl (lv_at hl 0 rfl) ?_
    have hFc := fr_all hD hS hA
    refine va_callv (va_runV (As := []) (rest := []) ⟨hx, hb, hml, hown, hts⟩ (m_ends l dC dI h0 v cI cZ u hn hd s.heap.size) (cwV 0 hts gX12_day_X12_ends rfl rfl rfl zh_X12_ends_16 ⟨Nat.le_of_ble_eq_true rfl, Nat.le_of_ble_eq_true rfl⟩) ⟨gw_fb, va_recv hK hP (ci := 11) (q0 := 0) rfl rfl, fun U hU hW => ⟨rfl, by rw [hU], pw_to hU hW hP hK hN, hD.weaken (fun _ _ _ _ => trivial)⟩⟩ rfl rfl hl.1 rfl (lv_room (Nat.le_of_ble_eq_true rfl)) dX12_day_13 ⟨Nat.le_of_ble_eq_true rfl, Nat.le_of_ble_eq_true rfl⟩) hS (fun q _ h => hFc q h) hFc (fun u_2 t H1 locs ht hvm hw hB hz1 hk1 hS => ?_)
    obtain ⟨hP, hD1⟩ := hB
    rw [ht] at hP
    have hD := hD1.weaken (fun _ q _ h => hFc q.1 h)
    generalize H1 = H at hP hS ⊢
    have eu_2 := hw
    refine lv_aload_n hx hb dX12_day_16 rfl (lv_at hl 0 rfl) ?_
    refine lv_dup hx hb dX12_day_17 rfl ?_
    refine va_get (D := (dC, dI)) (ci := 11) (v := .int (u_2.1 38)) (C := RX12) (T := TX12) (N := 52) hx hb hts zl_X12_day_X12 hown hK hP 0 rfl rfl 38 (by decide) (hts (.fieldLink RX12 206 "PageOneModel" "day" "I") (zat q_wsX12_day k_wsX12_day 920 rfl (by decide +kernel))) (fun _ h9 => h9) rfl dX12_day_18 ?_
    refine lv_iconst (v := 1) hx hb dX12_day_21 (by decide) ?_
    refine lv_iadd hx hb dX12_day_22 ?_
    refine va_put (D := (dC, dI)) (ci := 11) (v := .int ((u_2.1 38) + 1)) (ty := .int) (C := RX12) (T := TX12) (N := 52) hx hb hts zl_X12_day_X12 tyX12 tyX12_ok nmX12 hown hK hP hD hS 0 rfl rfl 38 (by decide) (hts (.fieldLink RX12 206 "PageOneModel" "day" "I") (zat q_wsX12_day k_wsX12_day 920 rfl (by decide +kernel))) (fun _ h9 => h9) rfl (tyX12_ok 38 (by decide)) rfl rfl (Nat.le_of_ble_eq_true rfl) dX12_day_23 (fun H locs hP hD hS => ?_)
    obtain ⟨u_3, eu_3⟩ : ∃ zz : mS, zz = mset u_2 38 ((u_2.1 38) + 1) := ⟨_, rfl⟩
    have hP : va_P (dC, dI) vwCl (mW h0 v cI cZ u_3) H := by rw [eu_3]; exact hP
    have hD : va_D A (mW h0 v cI cZ u_3) := by rw [eu_3]; exact hD
    refine lv_aload_n hx hb dX12_day_26 rfl (lv_at hl 0 rfl) ?_
    refine lv_iconst (v := 0) hx hb dX12_day_27 (by decide) ?_
    refine va_put (D := (dC, dI)) (ci := 11) (v := .int 0) (ty := .int) (C := RX12) (T := TX12) (N := 52) hx hb hts zl_X12_day_X12 tyX12 tyX12_ok nmX12 hown hK hP hD hS 0 rfl rfl 39 (by decide) (hts (.fieldLink RX12 257 "PageOneModel" "edition" "I") (zat q_wsX12_day k_wsX12_day 921 rfl (by decide +kernel))) (fun _ h9 => h9) rfl (tyX12_ok 39 (by decide)) rfl rfl (Nat.le_of_ble_eq_true rfl) dX12_day_28 (fun H locs hP hD hS => ?_)
    obtain ⟨u_4, eu_4⟩ : ∃ zz : mS, zz = mset u_3 39 0 := ⟨_, rfl⟩
    have hP : va_P (dC, dI) vwCl (mW h0 v cI cZ u_4) H := by rw [eu_4]; exact hP
    have hD : va_D A (mW h0 v cI cZ u_4) := by rw [eu_4]; exact hD
    refine lv_iconst (v := 0) hx hb dX12_day_31 (by decide) ?_
    refine lv_istore_n (lv' := [(1, .int 0), (0, .ref h0)]) hx hb dX12_day_32 rfl hl (by decide) rfl (fun ls hl => ?_)
    refine m_day_l1 (u0 := u_4) hx hb hml hts hown hN hK hA (fun u4 H locs ls hg4 hP hD hS hl => ?_) 5761 0 u_4 _ _ ls (by decide) (by decide) (fill_0 _ _ _) hP hD hS (lv_sub hl [0, 1] rfl)
    refine lv_iconst (v := 0) hx hb dX12_day_54 (by decide) ?_
    refine lv_istore_n (lv' := [(1, .int 0), (0, .ref h0)]) hx hb dX12_day_55 rfl hl (by decide) rfl (fun ls hl => ?_)
    obtain ⟨eK, eK2, eK3⟩ := nI_of_bw hn
    have h80 : (80 : Int32).toInt = 80 := rfl
    refine m_day_l2 (u0 := u4) (K := (u.1 3).toNatClampNeg) (by omega) (by rw [hg4, eu_4, eu_3]; show u_2.1 3 = _; rw [eu_2, (endP_k u 12).1]; exact eK) hx hb hml hts hown hN hK hA (fun u5 H locs ls hg5 hP hD hS hl => ?_) _ 0 u4 _ _ ls (Nat.zero_le _) (Nat.lt_succ_self _) (fill_0 _ _ _) hP hD hS (lv_sub hl [0, 1] rfl)
    refine lv_aload_n hx hb dX12_day_77 rfl (lv_at hl 1 rfl) ?_
    have hFc := fr_all hD hS hA
    refine va_callv (va_runV (As := []) (rest := []) ⟨hx, hb, hml, hown, hts⟩ (m_forget l dC dI h0 v cI cZ u5 H.size) (cwV 0 hts gX12_day_X12_forget rfl rfl rfl zh_X12_forget_17 ⟨Nat.le_of_ble_eq_true rfl, Nat.le_of_ble_eq_true rfl⟩) ⟨gw_fb, va_recv hK hP (ci := 11) (q0 := 0) rfl rfl, fun U hU hW => ⟨rfl, by rw [hU], pw_to hU hW hP hK hN, hD.weaken (fun _ _ _ _ => trivial)⟩⟩ rfl rfl hl.1 rfl (lv_room (Nat.le_of_ble_eq_true rfl)) dX12_day_78 ⟨Nat.le_of_ble_eq_true rfl, Nat.le_of_ble_eq_true rfl⟩) hS (fun q _ h => hFc q h) hFc (fun u_5 t H1 locs ht hvm hw hB hz1 hk1 hS => ?_)
    obtain ⟨hP, hD1⟩ := hB
    rw [ht] at hP
    have hD := hD1.weaken (fun _ q _ h => hFc q.1 h)
    generalize H1 = H at hP hS ⊢
    have eu_5 := hw
    refine lv_aload_n hx hb dX12_day_81 rfl (lv_at hl 1 rfl) ?_
    refine va_get (D := (dC, dI)) (ci := 11) (v := .int (u_5.1 38)) (C := RX12) (T := TX12) (N := 52) hx hb hts zl_X12_day_X12 hown hK hP 0 rfl rfl 38 (by decide) (hts (.fieldLink RX12 206 "PageOneModel" "day" "I") (zat q_wsX12_day k_wsX12_day 920 rfl (by decide +kernel))) (fun _ h9 => h9) rfl dX12_day_82 ?_
    exact W.iret (v := (u_5.1 38)) hx hb hr (fun t ht hW => ⟨⟨(u_5.1 38), u_5, rfl, (by show _ = mDay u; unfold mDay; rw [if_neg c_1, ← eu_2]; subst eu_3 eu_4 hg4 hg5 eu_5; rfl), by rw [ht]; exact hP, hD⟩, hS.F ht⟩) hS.2.2 dX12_day_85
  ·
    refine lv_iconst (v := (-1)) hx hb dX12_day_10 (by decide) ?_
    exact W.iret (v := (-1)) hx hb hr (fun t ht hW => ⟨⟨(-1), u, rfl, (by show _ = mDay u; unfold mDay; rw [if_pos c_1]), by rw [ht]; exact hP, hD⟩, hS.F ht⟩) hS.2.2 dX12_day_11
/-- the same but for the three wrongs -/
def mE (u w : mS) : Prop := w.2 = u.2 ∧ ∀ k, k ≠ 49 → k ≠ 50 → k ≠ 51 → w.1 k = u.1 k
theorem mE_rf (u : mS) : mE u u := ⟨rfl, fun _ _ _ _ => rfl⟩
theorem mE_tr {u v w : mS} (h1 : mE u v) (h2 : mE v w) : mE u w := ⟨h2.1.trans h1.1, fun k a b c => (h2.2 k a b c).trans (h1.2 k a b c)⟩
theorem mE_set {u w : mS} (h : mE u w) {k : Nat} (hk : k = 49 ∨ k = 50 ∨ k = 51) (x : Int32) : mE u (mset w k x) := by
  refine mE_tr h ⟨rfl, fun j a b c => ?_⟩
  unfold mset
  exact if_neg (by omega)
theorem mE_wr {u w w2 : mS} {k a b : Int32} (h : mE u w) (h2 : w2 = mWrongs w k a b) : mE u w2 := by
  have h3 : ∀ x y z : Int32, mE u (mset (mset (mset w 49 x) 50 y) 51 z) := fun x y z => mE_set (mE_set (mE_set h (Or.inl rfl) x) (Or.inr (Or.inl rfl)) y) (Or.inr (Or.inr rfl)) z
  rw [h2]
  unfold mWrongs
  dsimp only
  repeat' split
  all_goals first | exact h | exact h3 _ _ _
theorem mE_b {u w : mS} (h : mE u w) (hk : ∀ j, j < 80 → u.2 4 j = 3 → bw (u.2 10 j) 0 9 = true) {i : Int32} (hi : bw i 0 79 = true) (hc : w.2 4 i.toNatClampNeg = 3) : bw (w.2 10 i.toNatClampNeg) 0 9 = true := by
  rw [h.1] at hc ⊢
  exact hk _ (vlt (vin hi (by decide))) hc
theorem vNm {i b : Int32} (hi : bw i 0 79 = true) (hb : bw b 0 9 = true) : vp_in (10 * i + b) 800 := by
  have h10 : (10 : Int32).toInt = 10 := rfl
  have h79 : (79 : Int32).toInt = 79 := rfl
  have h9 : (9 : Int32).toInt = 9 := rfl
  have h1 := bw_iff.mp hi
  have h2 := bw_iff.mp hb
  rw [i0, h79] at h1
  rw [i0, h9] at h2
  have e1 : (10 * i).toInt = 10 * i.toInt := by rw [mulI (by rw [h10]; omega) (by rw [h10]; omega), h10]
  rw [vp_in_iff, addI (by rw [e1]; omega) (by rw [e1]; omega), e1]; omega
theorem v60 {i x : Int32} (hi : bw i 0 79 = true) (ex : x = 6 * i) : vp_in x 480 := by
  have h6 : (6 : Int32).toInt = 6 := rfl
  have h79 : (79 : Int32).toInt = 79 := rfl
  have h1 := bw_iff.mp hi
  rw [i0, h79] at h1
  rw [ex, vp_in_iff, mulI (by rw [h6]; omega) (by rw [h6]; omega), h6]; omega
theorem bw7 {c : Nat} (h : c < 8) : bw (nI c) 0 7 = true := bwN (by have h7 : (7 : Int32).toInt = 7 := rfl; rw [h7]; omega) (by omega)
theorem bw79 {c : Nat} (h : c < 80) : bw (nI c) 0 79 = true := bwN (by have h7 : (79 : Int32).toInt = 79 := rfl; rw [h7]; omega) (by omega)
theorem bw11 {c : Nat} (h : c < 12) : bw (nI c) 0 11 = true := bwN (by have h7 : (11 : Int32).toInt = 11 := rfl; rw [h7]; omega) (by omega)
theorem v6n {j i : Nat} (hj : j < 80) (hi : i < 6) : vp_in (6 * nI j + nI i) 480 := by
  rw [show (6 : Int32) = nI 6 from rfl, pk_mul, nI_add]; exact vp_in_nI (by omega) (by decide)
/-- the same but for the wrongs and the plates -/
def mPl (u w : mS) : Prop := (∀ k, k ≠ 49 → k ≠ 50 → k ≠ 51 → w.1 k = u.1 k) ∧ (∀ k, k < 40 ∨ 46 < k → w.2 k = u.2 k) ∧ ∀ j, j < 96 → bw (w.2 43 j) 0 60 = true
def mNotice (u : mS) (i h : Int32) : mS := mst (mst (mMade u 5) 9 (u.1 3) i) 8 (u.1 3) h
theorem addsub1 (q : Int32) : q + 1 - 1 = q := by rw [Int32.sub_eq_add_neg, Int32.add_assoc]; exact Int32.add_zero q
theorem mput_other {u : mS} {k j : Nat} {f : Nat → Int32} (h : j ≠ k) : (mput u k f).2 j = u.2 j := by
  unfold mput; dsimp only; rw [if_neg h]
theorem mStand_22 (u : mS) (i : Int32) (P X Y D N : Nat) : (mStand u i P X Y D N).2 22 i.toNatClampNeg = u.2 22 i.toNatClampNeg + 1 := by
  unfold mStand
  dsimp only
  rw [mput_other (by decide), mst_same, mst_other (by decide), mst_other (by decide), mst_other (by decide), mst_other (by decide), mst_other (by decide)]
theorem mStand_sl (u : mS) (i : Int32) (P X Y D N : Nat) : (mStand u i P X Y D N).2 23 (6 * i + ((mStand u i P X Y D N).2 22 i.toNatClampNeg - 1)).toNatClampNeg = nI P ∧ (mStand u i P X Y D N).2 24 (6 * i + ((mStand u i P X Y D N).2 22 i.toNatClampNeg - 1)).toNatClampNeg = nI X ∧ (mStand u i P X Y D N).2 25 (6 * i + ((mStand u i P X Y D N).2 22 i.toNatClampNeg - 1)).toNatClampNeg = nI Y ∧ (mStand u i P X Y D N).2 26 (6 * i + ((mStand u i P X Y D N).2 22 i.toNatClampNeg - 1)).toNatClampNeg = nI D ∧ (mStand u i P X Y D N).2 27 (6 * i + ((mStand u i P X Y D N).2 22 i.toNatClampNeg - 1)).toNatClampNeg = nI N := by
  rw [mStand_22, addsub1]
  refine ⟨?_, ?_, ?_, ?_, ?_⟩
  · show (mst u 23 (6 * i + u.2 22 i.toNatClampNeg) (nI P)).2 23 _ = _; exact mst_same _ _ _ _
  · show (mst _ 24 (6 * i + u.2 22 i.toNatClampNeg) (nI X)).2 24 _ = _; exact mst_same _ _ _ _
  · show (mst _ 25 (6 * i + u.2 22 i.toNatClampNeg) (nI Y)).2 25 _ = _; exact mst_same _ _ _ _
  · show (mst _ 26 (6 * i + u.2 22 i.toNatClampNeg) (nI D)).2 26 _ = _; exact mst_same _ _ _ _
  · show (mst _ 27 (6 * i + u.2 22 i.toNatClampNeg) (nI N)).2 27 _ = _; exact mst_same _ _ _ _
theorem q05 {q : Int32} (h : bw q 0 6 = true) (h6 : ¬ q = 6) : bw q 0 5 = true := by
  have e6 : (6 : Int32).toInt = 6 := rfl
  have e5 : (5 : Int32).toInt = 5 := rfl
  have h1 := bw_iff.mp h
  rw [i0, e6] at h1
  have h2 : ¬ q.toInt = 6 := fun e => h6 (sw_in e.symm e6)
  rw [bw_iff, i0, e5]; omega
theorem q16 {q : Int32} (h : bw q 0 5 = true) : bw (q + 1) 0 6 = true := by
  have e6 : (6 : Int32).toInt = 6 := rfl
  have e5 : (5 : Int32).toInt = 5 := rfl
  have h1 := bw_iff.mp h
  rw [i0, e5] at h1
  rw [bw_iff, i0, e6, addI (by rw [i1]; omega) (by rw [i1]; omega), i1]; omega
theorem qm1 {q : Int32} (h : bw q 0 5 = true) (h0 : ¬ q = 0) : bw (q - 1) 0 5 = true := by
  have e5 : (5 : Int32).toInt = 5 := rfl
  have h1 := bw_iff.mp h
  rw [i0, e5] at h1
  have h2 : ¬ q.toInt = 0 := fun e => h0 (sw_in e.symm i0)
  rw [bw_iff, i0, e5, subI (by rw [i1]; omega) (by rw [i1]; omega), i1]; omega
theorem vW {i : Int32} {n : Nat} (hi : bw i 0 79 = true) (hn : n < 80) : vp_in (80 * i + nI n) 6400 := by
  have h80 : (80 : Int32).toInt = 80 := rfl
  have h79 : (79 : Int32).toInt = 79 := rfl
  have h1 := bw_iff.mp hi
  rw [i0, h79] at h1
  have e1 : (80 * i).toInt = 80 * i.toInt := by rw [mulI (by rw [h80]; omega) (by rw [h80]; omega), h80]
  rw [vp_in_iff, addI (by rw [e1, nI_toInt (by omega)]; omega) (by rw [e1, nI_toInt (by omega)]; omega), e1, nI_toInt (by omega)]; omega
/-- what mayRun has found of the last piece and of the one ahead -/
def runG (w : mS) (i x : Int32) : Prop := ¬ mTakes w i x < 1 ∧ (x = 0 ∨ ¬ mTakes w i (x - 1) < 1)
theorem free_rect {u : mS} {p c l w h : Int32} (hln : ∀ j, j < 96 → bw (u.2 0 j) 0 60 = true) (hf : mFreeP u p c l w h) : ∃ P X Y D N : Nat, p = nI P ∧ c = nI X ∧ l = nI Y ∧ w = nI D ∧ h = nI N ∧ P < 12 ∧ X + D ≤ 8 ∧ Y + N ≤ 60 ∧ 1 ≤ D ∧ 1 ≤ N := by
  obtain ⟨h1, h2, h3, h4⟩ := hf
  have h11 : (11 : Int32).toInt = 11 := rfl
  have h7 : (7 : Int32).toInt = 7 := rfl
  have h8 : (8 : Int32).toInt = 8 := rfl
  have h60 : (60 : Int32).toInt = 60 := rfl
  obtain ⟨q1, q2, q3⟩ := mCell_c h1
  obtain ⟨P, hP, -, eP⟩ := exN q1 (by decide)
  obtain ⟨X, hX, -, eX⟩ := exN q2 (by decide)
  obtain ⟨Y, hY, eY⟩ := exL hln h1
  obtain ⟨D, hD, hD1, eD⟩ := exN h2 (by decide)
  obtain ⟨N, hN, hN1, eN⟩ := exN h3 (by decide)
  rw [h11] at hP
  rw [h7] at hX
  rw [h8] at hD
  rw [h60] at hN
  rw [i1] at hD1 hN1
  subst eP eX eY eD eN
  have hx := h4 (D - 1) (by rw [nI_clamp (by omega)]; omega) 0 (by rw [nI_clamp (by omega)]; omega)
  have hy := h4 0 (by rw [nI_clamp (by omega)]; omega) (N - 1) (by rw [nI_clamp (by omega)]; omega)
  unfold frB at hx hy
  obtain ⟨hx, -⟩ := band hx
  obtain ⟨hy, -⟩ := band hy
  obtain ⟨-, x2, -⟩ := mCell_c hx
  obtain ⟨Y2, hY2, eY2⟩ := exL hln hy
  have x3 := bw_iff.mp x2
  rw [nI_add, nI_toInt (by omega), i0, h7] at x3
  have y3 : (nI (Y + (N - 1))).toInt = (nI Y2).toInt := by rw [← eY2, nI_add]
  rw [nI_toInt (by omega), nI_toInt (by omega)] at y3
  exact ⟨P, X, Y, D, N, rfl, rfl, rfl, rfl, rfl, by omega, by omega, by omega, by omega, by omega⟩
theorem vSz {i k n : Int32} (hi : bw i 0 79 = true) (hn : bw n 0 4 = true) (hk : bw k 0 (n - 1) = true) : vp_in (4 * i + k) 320 := by
  have h4 : (4 : Int32).toInt = 4 := rfl
  have h79 : (79 : Int32).toInt = 79 := rfl
  have h1 := bw_iff.mp hi
  have h2 := bw_iff.mp hn
  have h3 := bw_iff.mp hk
  rw [i0, h79] at h1
  rw [i0, h4] at h2
  rw [i0, subI (by rw [i1]; omega) (by rw [i1]; omega), i1] at h3
  have e1 : (4 * i).toInt = 4 * i.toInt := by rw [mulI (by rw [h4]; omega) (by rw [h4]; omega), h4]
  rw [vp_in_iff, addI (by rw [e1]; omega) (by rw [e1]; omega), e1]; omega
/-- a piece comes and goes again: what mayRun leaves -/
def mTry (u : mS) (i : Int32) (P X Y N : Nat) : mS := mUnstand (mStand u i P X Y 1 N) i P X Y 1 N
theorem mTry_22 (u : mS) (i : Int32) (P X Y N : Nat) : (mTry u i P X Y N).2 22 i.toNatClampNeg = u.2 22 i.toNatClampNeg := by
  unfold mTry mUnstand
  dsimp only
  rw [mput_other (by decide), mst_same, mStand_22, addsub1]
theorem mTry_1 (u : mS) (i : Int32) (P X Y N : Nat) : (mTry u i P X Y N).1 = u.1 := rfl
theorem z05 {q : Int32} (h : q = 0) : bw q 0 5 = true := by rw [h]; decide
theorem bwS {q : Int32} (h : bw q 0 6 = true) (h0 : ¬ q = 0) : bw (q - 1) 0 (q - 1) = true := by
  have e6 : (6 : Int32).toInt = 6 := rfl
  have h1 := bw_iff.mp h
  rw [i0, e6] at h1
  have h2 : ¬ q.toInt = 0 := fun e => h0 (sw_in e.symm i0)
  rw [bw_iff, i0, subI (by rw [i1]; omega) (by rw [i1]; omega), i1]; omega
/-- a filler's coming: item, page, column, line, lines -/
abbrev fX : Type := Nat × Nat × Nat × Nat × Nat
def fStep (w : mS) (n : Nat) (x : fX) : mS := mst (mStand w (nI x.1) x.2.1 x.2.2.1 x.2.2.2.1 1 x.2.2.2.2) 37 (w.1 36 + nI n) (nI x.1)
def fillR (u : mS) : List fX → mS
  | [] => u
  | x :: xs => fStep (fillR u xs) xs.length x
def fGood (u : mS) : List fX → Prop
  | [] => True
  | x :: xs => fGood u xs ∧ x.1 < (u.1 3).toNatClampNeg ∧ u.2 4 x.1 = 4 ∧ (fillR u xs).2 22 x.1 = 0 ∧ x.2.1 < 12 ∧ x.2.2.1 + 1 ≤ 8 ∧ x.2.2.2.1 + x.2.2.2.2 ≤ 60 ∧ 1 ≤ x.2.2.2.2
def mFillE (u : mS) (xs : List fX) : mS := mset (mActs (fillR u xs) 3 (nI xs.length) 0 0 0 0 0) 36 ((mActs (fillR u xs) 3 (nI xs.length) 0 0 0 0 0).1 36 + nI xs.length)
def stR (k : Nat) : Prop := k = 2 ∨ k = 22 ∨ k = 23 ∨ k = 24 ∨ k = 25 ∨ k = 26 ∨ k = 27 ∨ k = 37
theorem mStand_k (u : mS) (i : Int32) (P X Y D N : Nat) {k : Nat} (hk : ¬ stR k) : (mStand u i P X Y D N).2 k = u.2 k := by
  unfold stR at hk
  unfold mStand
  dsimp only
  rw [mput_other (by omega), mst_other (by omega), mst_other (by omega), mst_other (by omega), mst_other (by omega), mst_other (by omega), mst_other (by omega)]
theorem fillR_k (u : mS) : ∀ xs, (fillR u xs).1 = u.1 ∧ ∀ k, ¬ stR k → (fillR u xs).2 k = u.2 k
  | [] => ⟨rfl, fun _ _ => rfl⟩
  | x :: xs => by
    have h := fillR_k u xs
    refine ⟨h.1, fun k hk => ?_⟩
    show (mst _ 37 _ _).2 k = _
    rw [mst_other (by unfold stR at hk; omega), mStand_k _ _ _ _ _ _ _ hk]
    exact h.2 k hk
theorem vFl {F : Int32} {n : Nat} (h0 : 0 ≤ F.toInt) (h : F.toInt + n < 700) : vp_in (F + nI n) 700 := by
  rw [vp_in_iff, addI (by rw [nI_toInt (by omega)]; omega) (by rw [nI_toInt (by omega)]; omega), nI_toInt (by omega)]; omega
theorem nIle {a b : Nat} (ha : a < 2 ^ 31) (hb : b < 2 ^ 31) (h : nI a ≤ nI b) : a ≤ b := by
  rw [i32_le, nI_toInt ha, nI_toInt hb] at h; omega
theorem nInle {a b : Nat} (ha : a < 2 ^ 31) (hb : b < 2 ^ 31) (h : ¬ nI a ≤ nI b) : b < a := by
  rw [i32_le, nI_toInt ha, nI_toInt hb] at h; omega
theorem nIpos {a : Nat} (ha : a < 2 ^ 31) : ¬ nI a < 0 := by
  rw [i32_lt, nI_toInt ha, i0]; omega
theorem nR {k : Nat} (h : (!(k == 2) && !(k == 22) && !(k == 23) && !(k == 24) && !(k == 25) && !(k == 26) && !(k == 27) && !(k == 37)) = true) : ¬ stR k := by
  unfold stR; simp at h; omega
theorem fl_nil {u : mS} {xs : List fX} (hfb : ∀ (x : fX) (xs : List fX), fGood u (x :: xs) → 0 ≤ (u.1 36).toInt ∧ (u.1 36).toInt + (xs.length : Int) < 700) (hg : fGood u xs) (h : nI xs.length = 0) : xs = [] := by
  cases xs with
  | nil => rfl
  | cons x ys =>
    exfalso
    have h1 := hfb x ys hg
    have h2 : (nI (x :: ys).length).toInt = 0 := by rw [h]; rfl
    rw [List.length_cons, nI_toInt (by omega)] at h2
    omega
theorem mset_same (u : mS) (k : Nat) (x : Int32) : (mset u k x).1 k = x := by
  unfold mset; exact if_pos rfl
def mBack (u : mS) : mS := mset u 28 (u.1 28 - 1)
def popS (u : mS) (x : fX) : mS := mUnstand (mset u 36 (u.1 36 - 1)) (nI x.1) x.2.1 x.2.2.1 x.2.2.2.1 1 x.2.2.2.2
def popAll (u : mS) : List fX → mS
  | [] => u
  | x :: xs => popAll (popS u x) xs
/-- what an unstand asks of the slot -/
def slR (u : mS) (i : Int32) (P X Y D N : Nat) : Prop := bw (u.2 22 i.toNatClampNeg - 1) 0 5 = true ∧ u.2 23 (6 * i + (u.2 22 i.toNatClampNeg - 1)).toNatClampNeg = nI P ∧ u.2 24 (6 * i + (u.2 22 i.toNatClampNeg - 1)).toNatClampNeg = nI X ∧ u.2 25 (6 * i + (u.2 22 i.toNatClampNeg - 1)).toNatClampNeg = nI Y ∧ u.2 26 (6 * i + (u.2 22 i.toNatClampNeg - 1)).toNatClampNeg = nI D ∧ u.2 27 (6 * i + (u.2 22 i.toNatClampNeg - 1)).toNatClampNeg = nI N
def popOK (u : mS) : List fX → Prop
  | [] => True
  | x :: xs => bw (u.1 36 - 1) 0 699 = true ∧ u.2 37 (u.1 36 - 1).toNatClampNeg = nI x.1 ∧ x.1 < 80 ∧ x.2.1 < 12 ∧ x.2.2.1 + 1 ≤ 8 ∧ x.2.2.2.1 + x.2.2.2.2 ≤ 60 ∧ slR u (nI x.1) x.2.1 x.2.2.1 x.2.2.2.1 1 x.2.2.2.2 ∧ popOK (popS u x) xs
set_option maxHeartbeats 4000000 in
set_option maxRecDepth 100000 in
theorem m_undoF_loop {p : Program} {l : Launch} {e : Env} {R : Room} {s : State} {m : MethodId} {args : Array Value} {below : List Frame} {meth : Method} {c : Code} {Q : State → Prop} {cells slots : Nat} {dC : Nat → ClassId} {dI : Nat → Nat → Nat} {h0 : Nat} {v : Nat → Nat} {cI cZ : ClassId} {w9 : mS} {K : Nat} (hK8 : K ≤ 1000) {A : Nat → Prop} {H0 : Heap} (hx : p.tables.exec = Jvm.exec) (hb : c.code = cX12_undo) (hml : c.maxLocals = 3) (hts : ∀ w ∈ wsX12_undo, w.before args s = true) (hown : s.vm.findClass RX12 = some m.cls) (hN : NN s) (hK : va_K (dC, dI) vwCl [(cI, .int), (cZ, .boolean)] s) (hRf : 3 ≤ R.frames) (hRl : 72 ≤ R.locals) (hRc : cells ≤ R.cells) (hRs : slots ≤ R.slots) (hA : ∀ q : Nat, H0.size ≤ q → A q) (kx : ∀ (u : mS) (H : Heap) (locs : List Loc) (ls : Array Slot), u = w9 → va_P (dC, dI) vwCl (mW h0 v cI cZ u) H → va_D A (mW h0 v cI cZ u) → va_S A H0 H locs → lv_has ls 3 [(2, .int (nI K)), (0, .ref h0), (1, .int (nI K))] → W p l e R s m args below meth c H locs cells slots Q (F0 m 193 ls [])) : ∀ (k i : Nat) (u : mS) (H : Heap) (locs : List Loc) (xs : List fX) (ls : Array Slot), i ≤ K → K - i < k → (popOK u xs ∧ popAll u xs = w9 ∧ xs.length = K - i) → va_P (dC, dI) vwCl (mW h0 v cI cZ u) H → va_D A (mW h0 v cI cZ u) → va_S A H0 H locs → lv_has ls 3 [(2, .int (nI i)), (0, .ref h0), (1, .int (nI K))] → W p l e R s m args below meth c H locs cells slots Q (F0 m 159 ls []) := by
  intro k
  induction k with
  | zero => intro i u H locs xs ls h1 h2; exact absurd h2 (Nat.not_lt_zero _)
  | succ k ih =>
    intro i u H locs xs ls hi hk hg hP hD hS hl
    refine lv_iload_n hx hb dX12_undo_159 rfl (lv_at hl 0 rfl) ?_
    refine lv_iload_n hx hb dX12_undo_160 rfl (lv_at hl 2 rfl) ?_
    refine lv_icmp_ge (tgt := 193) hx hb dX12_undo_161 (by decide) (fun c_1 => ?_) (fun c_1 => ?_)
    ·
      have hie : i = K := lp_eq rfl (by omega) hi c_1
      have hnil : xs = [] := List.length_eq_zero_iff.mp (by rw [hg.2.2]; omega)
      subst hnil
      rw [hie] at hl
      exact kx _ _ _ ls hg.2.1 hP hD hS (lv_sub hl [0, 1, 2] rfl)
    ·
      have hlt : i < K := lp_lt rfl (by omega) hi c_1
      obtain ⟨x, ys, rfl⟩ : ∃ x ys, xs = x :: ys := by
            cases xs with
            | nil => exact absurd hg.2.2 (by rw [List.length_nil]; omega)
            | cons x ys => exact ⟨x, ys, rfl⟩
      obtain ⟨⟨h36, h37, hx80, hPP, hXW, hYN, hsl, hpop⟩, hall, hlen⟩ := hg
      refine lv_aload_n hx hb dX12_undo_164 rfl (lv_at hl 1 rfl) ?_
      refine lv_dup hx hb dX12_undo_165 rfl ?_
      refine va_get (D := (dC, dI)) (ci := 11) (v := .int (u.1 36)) (C := RX12) (T := TX12) (N := 52) hx hb hts zl_X12_undo_X12 hown hK hP 0 rfl rfl 36 (by decide) (hts (.fieldLink RX12 168 "PageOneModel" "filled" "I") (zat q_wsX12_undo k_wsX12_undo 918 rfl (by decide +kernel))) (fun _ h9 => h9) rfl dX12_undo_166 ?_
      refine lv_iconst (v := 1) hx hb dX12_undo_169 (by decide) ?_
      refine lv_isub hx hb dX12_undo_170 ?_
      refine va_put (D := (dC, dI)) (ci := 11) (v := .int ((u.1 36) - 1)) (ty := .int) (C := RX12) (T := TX12) (N := 52) hx hb hts zl_X12_undo_X12 tyX12 tyX12_ok nmX12 hown hK hP hD hS 0 rfl rfl 36 (by decide) (hts (.fieldLink RX12 168 "PageOneModel" "filled" "I") (zat q_wsX12_undo k_wsX12_undo 918 rfl (by decide +kernel))) (fun _ h9 => h9) rfl (tyX12_ok 36 (by decide)) rfl rfl (Nat.le_of_ble_eq_true rfl) dX12_undo_171 (fun H locs hP hD hS => ?_)
      obtain ⟨u_2, eu_2⟩ : ∃ zz : mS, zz = mset u 36 ((u.1 36) - 1) := ⟨_, rfl⟩
      have hP : va_P (dC, dI) vwCl (mW h0 v cI cZ u_2) H := by rw [eu_2]; exact hP
      have hD : va_D A (mW h0 v cI cZ u_2) := by rw [eu_2]; exact hD
      refine lv_aload_n hx hb dX12_undo_174 rfl (lv_at hl 1 rfl) ?_
      refine lv_aload_n hx hb dX12_undo_175 rfl (lv_at hl 1 rfl) ?_
      refine va_get (D := (dC, dI)) (ci := 11) (v := .ref (v 37)) (C := RX12) (T := TX12) (N := 52) hx hb hts zl_X12_undo_X12 hown hK hP 0 rfl rfl 37 (by decide) (hts (.fieldLink RX12 113 "PageOneModel" "filler" "[I") (zat q_wsX12_undo k_wsX12_undo 919 rfl (by decide +kernel))) (fun _ h9 => h9) rfl dX12_undo_176 ?_
      refine lv_aload_n hx hb dX12_undo_179 rfl (lv_at hl 1 rfl) ?_
      refine va_get (D := (dC, dI)) (ci := 11) (v := .int (u_2.1 36)) (C := RX12) (T := TX12) (N := 52) hx hb hts zl_X12_undo_X12 hown hK hP 0 rfl rfl 36 (by decide) (hts (.fieldLink RX12 168 "PageOneModel" "filled" "I") (zat q_wsX12_undo k_wsX12_undo 918 rfl (by decide +kernel))) (fun _ h9 => h9) rfl dX12_undo_180 ?_
      refine va_iald hx hb hK hP 35 0 rfl rfl (by rw [eu_2, mset_same]; exact vin h36 (by decide)) dX12_undo_183 ?_
      refine lv_topi (fun y_3 ey_3 => ?_)
      obtain rfl : y_3 = (nI x.1) := ey_3.trans ((by rw [eu_2, mset_same]; exact h37))
      have hFc := fr_all hD hS hA
      refine va_callv (va_runV (As := [.int (nI x.1)]) (rest := []) ⟨hx, hb, hml, hown, hts⟩ (m_unstand l dC dI h0 v cI cZ u_2 (nI x.1) x.2.1 x.2.2.1 x.2.2.2.1 1 x.2.2.2.2 hPP hXW hYN (bw79 hx80) (by rw [eu_2]; exact hsl.1) (by rw [eu_2]; exact hsl.2.1) (by rw [eu_2]; exact hsl.2.2.1) (by rw [eu_2]; exact hsl.2.2.2.1) (by rw [eu_2]; exact hsl.2.2.2.2.1) (by rw [eu_2]; exact hsl.2.2.2.2.2) H.size) (cwV 1 hts gX12_undo_X12_unstand rfl rfl rfl zh_X12_unstand_14 ⟨Nat.le_trans (Nat.le_of_ble_eq_true rfl) hRf, Nat.le_trans (Nat.le_of_ble_eq_true rfl) hRl⟩) ⟨gw_fb, va_recv hK hP (ci := 11) (q0 := 0) rfl rfl, fun U hU hW => ⟨rfl, by rw [hU], pw_to hU hW hP hK hN, hD.weaken (fun _ _ _ _ => trivial)⟩⟩ rfl rfl hl.1 rfl (lv_room (Nat.le_of_ble_eq_true rfl)) dX12_undo_184 ⟨hRc, hRs⟩) hS (fun q _ h => hFc q h) hFc (fun u_4 t H1 locs ht hvm hw hB hz1 hk1 hS => ?_)
      obtain ⟨hP, hD1⟩ := hB
      rw [ht] at hP
      have hD := hD1.weaken (fun _ q _ h => hFc q.1 h)
      generalize H1 = H at hP hS ⊢
      have eu_4 := hw
      refine lv_iinc (v := (nI (i + 1))) (lv' := [(2, .int (nI (i + 1))), (0, .ref h0), (1, .int (nI K))]) hx hb dX12_undo_187 hl (k := 0) rfl (nI_1 i) (by decide) rfl (fun ls hl => ?_)
      refine lv_goto (tgt := 159) hx hb dX12_undo_190 (by decide) ?_
      exact ih (i + 1) _ _ _ ys ls (by omega) (by omega) ⟨by rw [eu_4, eu_2]; exact hpop, by rw [eu_4, eu_2]; exact hall, by rw [List.length_cons] at hlen; omega⟩ hP hD hS (lv_sub hl [0, 1, 2] rfl)
