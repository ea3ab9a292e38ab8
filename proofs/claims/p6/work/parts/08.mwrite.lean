/-- made(k): a new item -/
def mMade (u : mS) (k : Int32) : mS :=
  let w := mst (mst (mst (mst (mst (mst (mst (mst (mst (mst u 4 (u.1 3) k) 5 (u.1 3) 0) 6 (u.1 3) 0) 7 (u.1 3) 0) 8 (u.1 3) 0) 9 (u.1 3) (-1)) 10 (u.1 3) (-1)) 15 (u.1 3) 0) 17 (u.1 3) 0) 22 (u.1 3) 0
  mset w 3 (w.1 3 + 1)
def mStory (u : mS) (n : Int32) : Int32 × mS := if u.1 3 = 80 then (-1, u) else if bw n 1 80 = true then (u.1 3, mst (mMade u 0) 5 (u.1 3) n) else (-1, u)
def mKind (u : mS) (i k : Int32) : Bool := bw i 0 (u.1 3 - 1) && decide (u.2 4 i.toNatClampNeg = k)
def mLine (u : mS) (i w : Int32) : Int32 × mS := if mKind u i 0 = true then (if bw w 1 200 = true then (if u.2 15 i.toNatClampNeg = 80 then (-1, u) else
  let u1 := mst u 16 (80 * i + u.2 15 i.toNatClampNeg) w
  let u2 := mst u1 15 i (u1.2 15 i.toNatClampNeg + 1)
  (u2.2 15 i.toNatClampNeg, u2)) else (-1, u)) else (-1, u)
def mHead (u : mS) (s w h : Int32) : Int32 × mS := if u.1 3 = 80 then (-1, u) else if mKind u s 0 = true then (if bw w 1 8 = true then (if bw h 1 9 = true then (u.1 3, mst (mst (mst (mMade u 1) 9 (u.1 3) s) 7 (u.1 3) w) 8 (u.1 3) h) else (-1, u)) else (-1, u)) else (-1, u)
def mPicture (u : mS) : Int32 × mS := if u.1 3 = 80 then (-1, u) else (u.1 3, mMade u 2)
def mSize (u : mS) (i w h : Int32) : Int32 × mS := if mKind u i 2 = true then (if bw w 1 8 = true then (if bw h 1 60 = true then (if u.2 17 i.toNatClampNeg = 4 then (-1, u) else
  let u1 := mst u 18 (4 * i + u.2 17 i.toNatClampNeg) w
  let u2 := mst u1 19 (4 * i + u1.2 17 i.toNatClampNeg) h
  let u3 := mst u2 17 i (u2.2 17 i.toNatClampNeg + 1)
  (u3.2 17 i.toNatClampNeg, u3)) else (-1, u)) else (-1, u)) else (-1, u)
def mFiller (u : mS) (a b : Int32) : Int32 × mS := if u.1 3 = 80 then (-1, u) else if bw a 1 60 = true then (if bw b a 60 = true then (u.1 3, mst (mst (mMade u 4) 5 (u.1 3) a) 6 (u.1 3) b) else (-1, u)) else (-1, u)
def mPaid (u : mS) (b p c l w h m : Int32) : Int32 × mS := if u.1 3 = 80 then (-1, u) else if (bw b 0 9 && (bw p 0 11 && bw c 0 7 && bw l 0 59) && (bw w 1 8 && bw h 1 60) && !decide (8 < c + w) && !decide (60 < l + h) && bw m 0 1000) = true then (u.1 3, mst (mst (mst (mst (mst (mst (mst (mMade u 3) 10 (u.1 3) b) 11 (u.1 3) p) 12 (u.1 3) c) 13 (u.1 3) l) 7 (u.1 3) w) 8 (u.1 3) h) 14 (u.1 3) m) else (-1, u)
def mRival (u : mS) (a b : Int32) : Int32 × mS := if bw a 0 9 = true then (if bw b 0 9 = true then (if a = b then (0, u) else if u.2 20 (10 * a + b).toNatClampNeg = 0 then (1, mst (mst u 20 (10 * a + b) (vp_nar .boolean 1)) 20 (10 * b + a) (vp_nar .boolean 1)) else (0, u)) else (0, u)) else (0, u)
def mNames (u : mS) (s b : Int32) : Int32 × mS := if mKind u s 0 = true then (if bw b 0 9 = true then (if u.2 21 (10 * s + b).toNatClampNeg = 0 then (1, mst u 21 (10 * s + b) (vp_nar .boolean 1)) else (0, u)) else (0, u)) else (0, u)
set_option maxHeartbeats 4000000 in
set_option maxRecDepth 100000 in
theorem m_made (l : Launch) (dC : Nat → ClassId) (dI : Nat → Nat → Nat) (h0 : Nat) (v : Nat → Nat) (cI cZ : ClassId) (u : mS) (p0 : Int32) (hn : bw (u.1 3) 0 80 = true) (h8 : ¬ u.1 3 = 80) (sz : Nat) : Met l yX12_made wsX12_made ({ frames := 0, cells := 0, slots := 0, locals := 0 }) (va_Pc [.ref h0, .int p0] (fun U => U.heap.size = sz ∧ PW dC dI (mW h0 v cI cZ u) [(cI, .int), (cZ, .boolean)] U ∧ va_D (fun _ => True) (mW h0 v cI cZ u))) (va_Qi (fun (r : Int32) (u9 : mS) => r = u.1 3 ∧ u9 = mMade u p0) (fun u9 t => va_P (dC, dI) vwCl (mW h0 v cI cZ u9) t.heap ∧ va_D (va_A (mW h0 v cI cZ u) sz) (mW h0 v cI cZ u9)) (va_A (mW h0 v cI cZ u) sz)) 0 0 (va_A (mW h0 v cI cZ u) sz) := by
  refine Met.ofW (cc := cX12_made) (maxL := 3) (ret := (some .int)) (by decide) rfl ?_
  intro p e s m args below meth c s₁ B hml hv
  obtain ⟨rfl, hsz, ⟨hP, hK, hN⟩, hD0⟩ := hv
  have hx := B.exec
  have hb := B.bytes
  have hr := B.returns
  have hts := atoms_spec (ws := wsX12_made) B.pre
  have hown : s.vm.findClass RX12 = some m.cls := findClass_of_methodNamed B.named
  have hlocks := B.notSynchronized
  subst hsz
  have hD := hD0.self (sz := s.heap.size)
  generalize hAe : va_A (mW h0 v cI cZ u) s.heap.size = A at hD ⊢
  have hA : ∀ q : Nat, s.heap.size ≤ q → A q := fun q h => by rw [← hAe]; exact Or.inr h
  have hS : va_S A s.heap s.heap [] := va_S.rf
  have hl := lv_entry ([.ref h0, .int p0]) (n := 3) (Nat.le_of_ble_eq_true rfl)
  rw [lg_entry_eq]
  generalize (lg_sl ([.ref h0, .int p0]) ++ List.replicate (3 - (lg_sl ([.ref h0, .int p0])).length) Slot.unset).toArray = ls at hl ⊢
  have hl : lv_has ls 3 [(0, .ref h0), (1, .int p0)] := hl
  refine lv_aload_n hx hb dX12_made_0 rfl (lv_at hl 0 rfl) ?_
  refine va_get (D := (dC, dI)) (ci := 11) (v := .int (u.1 3)) (C := RX12) (T := TX12) (N := 52) hx hb hts (by decide +kernel) hown hK hP 0 rfl rfl 3 (by decide) (hts (.fieldLink RX12 147 "PageOneModel" "items" "I") (by decide +kernel)) (fun _ h9 => h9) rfl dX12_made_1 ?_
  refine lv_istore_n (lv' := [(2, .int (u.1 3)), (0, .ref h0), (1, .int p0)]) hx hb dX12_made_4 rfl hl (by decide) rfl (fun ls hl => ?_)
  refine lv_aload_n hx hb dX12_made_5 rfl (lv_at hl 1 rfl) ?_
  refine va_get (D := (dC, dI)) (ci := 11) (v := .ref (v 4)) (C := RX12) (T := TX12) (N := 52) hx hb hts (by decide +kernel) hown hK hP 0 rfl rfl 4 (by decide) (hts (.fieldLink RX12 19 "PageOneModel" "kind" "[I") (by decide +kernel)) (fun _ h9 => h9) rfl dX12_made_6 ?_
  refine lv_iload_n hx hb dX12_made_9 rfl (lv_at hl 0 rfl) ?_
  refine lv_iload_n hx hb dX12_made_10 rfl (lv_at hl 2 rfl) ?_
  refine va_iast hx hb hK hP hD hS 4 0 rfl rfl (vNew hn h8) dX12_made_11 (fun H locs hP hD hS => ?_)
  obtain ⟨u_1, eu_1⟩ : ∃ zz : mS, zz = mst u 4 (u.1 3) p0 := ⟨_, rfl⟩
  have hP : va_P (dC, dI) vwCl (mW h0 v cI cZ u_1) H := by rw [eu_1]; exact hP
  have hD : va_D A (mW h0 v cI cZ u_1) := by rw [eu_1]; exact hD
  refine lv_aload_n hx hb dX12_made_12 rfl (lv_at hl 1 rfl) ?_
  refine va_get (D := (dC, dI)) (ci := 11) (v := .ref (v 5)) (C := RX12) (T := TX12) (N := 52) hx hb hts (by decide +kernel) hown hK hP 0 rfl rfl 5 (by decide) (hts (.fieldLink RX12 22 "PageOneModel" "least" "[I") (by decide +kernel)) (fun _ h9 => h9) rfl dX12_made_13 ?_
  refine lv_iload_n hx hb dX12_made_16 rfl (lv_at hl 0 rfl) ?_
  refine lv_iconst (v := 0) hx hb dX12_made_17 (by decide) ?_
  refine va_iast hx hb hK hP hD hS 5 0 rfl rfl (vNew hn h8) dX12_made_18 (fun H locs hP hD hS => ?_)
  obtain ⟨u_2, eu_2⟩ : ∃ zz : mS, zz = mst u_1 5 (u.1 3) 0 := ⟨_, rfl⟩
  have hP : va_P (dC, dI) vwCl (mW h0 v cI cZ u_2) H := by rw [eu_2]; exact hP
  have hD : va_D A (mW h0 v cI cZ u_2) := by rw [eu_2]; exact hD
  refine lv_aload_n hx hb dX12_made_19 rfl (lv_at hl 1 rfl) ?_
  refine va_get (D := (dC, dI)) (ci := 11) (v := .ref (v 6)) (C := RX12) (T := TX12) (N := 52) hx hb hts (by decide +kernel) hown hK hP 0 rfl rfl 6 (by decide) (hts (.fieldLink RX12 25 "PageOneModel" "most" "[I") (by decide +kernel)) (fun _ h9 => h9) rfl dX12_made_20 ?_
  refine lv_iload_n hx hb dX12_made_23 rfl (lv_at hl 0 rfl) ?_
  refine lv_iconst (v := 0) hx hb dX12_made_24 (by decide) ?_
  refine va_iast hx hb hK hP hD hS 6 0 rfl rfl (vNew hn h8) dX12_made_25 (fun H locs hP hD hS => ?_)
  obtain ⟨u_3, eu_3⟩ : ∃ zz : mS, zz = mst u_2 6 (u.1 3) 0 := ⟨_, rfl⟩
  have hP : va_P (dC, dI) vwCl (mW h0 v cI cZ u_3) H := by rw [eu_3]; exact hP
  have hD : va_D A (mW h0 v cI cZ u_3) := by rw [eu_3]; exact hD
  refine lv_aload_n hx hb dX12_made_26 rfl (lv_at hl 1 rfl) ?_
  refine va_get (D := (dC, dI)) (ci := 11) (v := .ref (v 7)) (C := RX12) (T := TX12) (N := 52) hx hb hts (by decide +kernel) hown hK hP 0 rfl rfl 7 (by decide) (hts (.fieldLink RX12 28 "PageOneModel" "wide" "[I") (by decide +kernel)) (fun _ h9 => h9) rfl dX12_made_27 ?_
  refine lv_iload_n hx hb dX12_made_30 rfl (lv_at hl 0 rfl) ?_
  refine lv_iconst (v := 0) hx hb dX12_made_31 (by decide) ?_
  refine va_iast hx hb hK hP hD hS 7 0 rfl rfl (vNew hn h8) dX12_made_32 (fun H locs hP hD hS => ?_)
  obtain ⟨u_4, eu_4⟩ : ∃ zz : mS, zz = mst u_3 7 (u.1 3) 0 := ⟨_, rfl⟩
  have hP : va_P (dC, dI) vwCl (mW h0 v cI cZ u_4) H := by rw [eu_4]; exact hP
  have hD : va_D A (mW h0 v cI cZ u_4) := by rw [eu_4]; exact hD
  refine lv_aload_n hx hb dX12_made_33 rfl (lv_at hl 1 rfl) ?_
  refine va_get (D := (dC, dI)) (ci := 11) (v := .ref (v 8)) (C := RX12) (T := TX12) (N := 52) hx hb hts (by decide +kernel) hown hK hP 0 rfl rfl 8 (by decide) (hts (.fieldLink RX12 31 "PageOneModel" "high" "[I") (by decide +kernel)) (fun _ h9 => h9) rfl dX12_made_34 ?_
  refine lv_iload_n hx hb dX12_made_37 rfl (lv_at hl 0 rfl) ?_
  refine lv_iconst (v := 0) hx hb dX12_made_38 (by decide) ?_
  refine va_iast hx hb hK hP hD hS 8 0 rfl rfl (vNew hn h8) dX12_made_39 (fun H locs hP hD hS => ?_)
  obtain ⟨u_5, eu_5⟩ : ∃ zz : mS, zz = mst u_4 8 (u.1 3) 0 := ⟨_, rfl⟩
  have hP : va_P (dC, dI) vwCl (mW h0 v cI cZ u_5) H := by rw [eu_5]; exact hP
  have hD : va_D A (mW h0 v cI cZ u_5) := by rw [eu_5]; exact hD
  refine lv_aload_n hx hb dX12_made_40 rfl (lv_at hl 1 rfl) ?_
  refine va_get (D := (dC, dI)) (ci := 11) (v := .ref (v 9)) (C := RX12) (T := TX12) (N := 52) hx hb hts (by decide +kernel) hown hK hP 0 rfl rfl 9 (by decide) (hts (.fieldLink RX12 34 "PageOneModel" "of" "[I") (by decide +kernel)) (fun _ h9 => h9) rfl dX12_made_41 ?_
  refine lv_iload_n hx hb dX12_made_44 rfl (lv_at hl 0 rfl) ?_
  refine lv_iconst (v := (-1)) hx hb dX12_made_45 (by decide) ?_
  refine va_iast hx hb hK hP hD hS 9 0 rfl rfl (vNew hn h8) dX12_made_46 (fun H locs hP hD hS => ?_)
  obtain ⟨u_6, eu_6⟩ : ∃ zz : mS, zz = mst u_5 9 (u.1 3) (-1) := ⟨_, rfl⟩
  have hP : va_P (dC, dI) vwCl (mW h0 v cI cZ u_6) H := by rw [eu_6]; exact hP
  have hD : va_D A (mW h0 v cI cZ u_6) := by rw [eu_6]; exact hD
  refine lv_aload_n hx hb dX12_made_47 rfl (lv_at hl 1 rfl) ?_
  refine va_get (D := (dC, dI)) (ci := 11) (v := .ref (v 10)) (C := RX12) (T := TX12) (N := 52) hx hb hts (by decide +kernel) hown hK hP 0 rfl rfl 10 (by decide) (hts (.fieldLink RX12 37 "PageOneModel" "buyer" "[I") (by decide +kernel)) (fun _ h9 => h9) rfl dX12_made_48 ?_
  refine lv_iload_n hx hb dX12_made_51 rfl (lv_at hl 0 rfl) ?_
  refine lv_iconst (v := (-1)) hx hb dX12_made_52 (by decide) ?_
  refine va_iast hx hb hK hP hD hS 10 0 rfl rfl (vNew hn h8) dX12_made_53 (fun H locs hP hD hS => ?_)
  obtain ⟨u_7, eu_7⟩ : ∃ zz : mS, zz = mst u_6 10 (u.1 3) (-1) := ⟨_, rfl⟩
  have hP : va_P (dC, dI) vwCl (mW h0 v cI cZ u_7) H := by rw [eu_7]; exact hP
  have hD : va_D A (mW h0 v cI cZ u_7) := by rw [eu_7]; exact hD
  refine lv_aload_n hx hb dX12_made_54 rfl (lv_at hl 1 rfl) ?_
  refine va_get (D := (dC, dI)) (ci := 11) (v := .ref (v 15)) (C := RX12) (T := TX12) (N := 52) hx hb hts (by decide +kernel) hown hK hP 0 rfl rfl 15 (by decide) (hts (.fieldLink RX12 52 "PageOneModel" "come" "[I") (by decide +kernel)) (fun _ h9 => h9) rfl dX12_made_55 ?_
  refine lv_iload_n hx hb dX12_made_58 rfl (lv_at hl 0 rfl) ?_
  refine lv_iconst (v := 0) hx hb dX12_made_59 (by decide) ?_
  refine va_iast hx hb hK hP hD hS 15 0 rfl rfl (vNew hn h8) dX12_made_60 (fun H locs hP hD hS => ?_)
  obtain ⟨u_8, eu_8⟩ : ∃ zz : mS, zz = mst u_7 15 (u.1 3) 0 := ⟨_, rfl⟩
  have hP : va_P (dC, dI) vwCl (mW h0 v cI cZ u_8) H := by rw [eu_8]; exact hP
  have hD : va_D A (mW h0 v cI cZ u_8) := by rw [eu_8]; exact hD
  refine lv_aload_n hx hb dX12_made_61 rfl (lv_at hl 1 rfl) ?_
  refine va_get (D := (dC, dI)) (ci := 11) (v := .ref (v 17)) (C := RX12) (T := TX12) (N := 52) hx hb hts (by decide +kernel) hown hK hP 0 rfl rfl 17 (by decide) (hts (.fieldLink RX12 58 "PageOneModel" "sizes" "[I") (by decide +kernel)) (fun _ h9 => h9) rfl dX12_made_62 ?_
  refine lv_iload_n hx hb dX12_made_65 rfl (lv_at hl 0 rfl) ?_
  refine lv_iconst (v := 0) hx hb dX12_made_66 (by decide) ?_
  refine va_iast hx hb hK hP hD hS 17 0 rfl rfl (vNew hn h8) dX12_made_67 (fun H locs hP hD hS => ?_)
  obtain ⟨u_9, eu_9⟩ : ∃ zz : mS, zz = mst u_8 17 (u.1 3) 0 := ⟨_, rfl⟩
  have hP : va_P (dC, dI) vwCl (mW h0 v cI cZ u_9) H := by rw [eu_9]; exact hP
  have hD : va_D A (mW h0 v cI cZ u_9) := by rw [eu_9]; exact hD
  refine lv_aload_n hx hb dX12_made_68 rfl (lv_at hl 1 rfl) ?_
  refine va_get (D := (dC, dI)) (ci := 11) (v := .ref (v 22)) (C := RX12) (T := TX12) (N := 52) hx hb hts (by decide +kernel) hown hK hP 0 rfl rfl 22 (by decide) (hts (.fieldLink RX12 74 "PageOneModel" "pieces" "[I") (by decide +kernel)) (fun _ h9 => h9) rfl dX12_made_69 ?_
  refine lv_iload_n hx hb dX12_made_72 rfl (lv_at hl 0 rfl) ?_
  refine lv_iconst (v := 0) hx hb dX12_made_73 (by decide) ?_
  refine va_iast hx hb hK hP hD hS 22 0 rfl rfl (vNew hn h8) dX12_made_74 (fun H locs hP hD hS => ?_)
  obtain ⟨u_10, eu_10⟩ : ∃ zz : mS, zz = mst u_9 22 (u.1 3) 0 := ⟨_, rfl⟩
  have hP : va_P (dC, dI) vwCl (mW h0 v cI cZ u_10) H := by rw [eu_10]; exact hP
  have hD : va_D A (mW h0 v cI cZ u_10) := by rw [eu_10]; exact hD
  refine lv_aload_n hx hb dX12_made_75 rfl (lv_at hl 1 rfl) ?_
  refine lv_dup hx hb dX12_made_76 rfl ?_
  refine va_get (D := (dC, dI)) (ci := 11) (v := .int (u_10.1 3)) (C := RX12) (T := TX12) (N := 52) hx hb hts (by decide +kernel) hown hK hP 0 rfl rfl 3 (by decide) (hts (.fieldLink RX12 147 "PageOneModel" "items" "I") (by decide +kernel)) (fun _ h9 => h9) rfl dX12_made_77 ?_
  refine lv_iconst (v := 1) hx hb dX12_made_80 (by decide) ?_
  refine lv_iadd hx hb dX12_made_81 ?_
  refine va_put (D := (dC, dI)) (ci := 11) (v := .int ((u_10.1 3) + 1)) (ty := .int) (C := RX12) (T := TX12) (N := 52) hx hb hts (by decide +kernel) tyX12 tyX12_ok nmX12 hown hK hP hD hS 0 rfl rfl 3 (by decide) (hts (.fieldLink RX12 147 "PageOneModel" "items" "I") (by decide +kernel)) (fun _ h9 => h9) rfl (by decide +kernel) rfl rfl (Nat.le_of_ble_eq_true rfl) dX12_made_82 (fun H locs hP hD hS => ?_)
  obtain ⟨u_11, eu_11⟩ : ∃ zz : mS, zz = mset u_10 3 ((u_10.1 3) + 1) := ⟨_, rfl⟩
  have hP : va_P (dC, dI) vwCl (mW h0 v cI cZ u_11) H := by rw [eu_11]; exact hP
  have hD : va_D A (mW h0 v cI cZ u_11) := by rw [eu_11]; exact hD
  refine lv_iload_n hx hb dX12_made_85 rfl (lv_at hl 0 rfl) ?_
  exact W.iret (v := (u.1 3)) hx hb hr (fun t ht hW => ⟨⟨(u.1 3), u_11, rfl, ⟨rfl, by subst eu_1 eu_2 eu_3 eu_4 eu_5 eu_6 eu_7 eu_8 eu_9 eu_10 eu_11; rfl⟩, by rw [ht]; exact hP, hD⟩, hS.F ht⟩) hS.2.2 dX12_made_86
set_option maxHeartbeats 4000000 in
set_option maxRecDepth 100000 in
theorem m_story (l : Launch) (dC : Nat → ClassId) (dI : Nat → Nat → Nat) (h0 : Nat) (v : Nat → Nat) (cI cZ : ClassId) (u : mS) (p0 : Int32) (hn : bw (u.1 3) 0 80 = true) (sz : Nat) : Met l yX12_story wsX12_story ({ frames := 1, cells := 0, slots := 0, locals := 22 }) (va_Pc [.ref h0, .int p0] (fun U => U.heap.size = sz ∧ PW dC dI (mW h0 v cI cZ u) [(cI, .int), (cZ, .boolean)] U ∧ va_D (fun _ => True) (mW h0 v cI cZ u))) (va_Qi (fun (r : Int32) (u9 : mS) => (r, u9) = mStory u p0) (fun u9 t => va_P (dC, dI) vwCl (mW h0 v cI cZ u9) t.heap ∧ va_D (va_A (mW h0 v cI cZ u) sz) (mW h0 v cI cZ u9)) (va_A (mW h0 v cI cZ u) sz)) 0 0 (va_A (mW h0 v cI cZ u) sz) := by
  refine Met.ofW (cc := cX12_story) (maxL := 3) (ret := (some .int)) (by decide) rfl ?_
  intro p e s m args below meth c s₁ B hml hv
  obtain ⟨rfl, hsz, ⟨hP, hK, hN⟩, hD0⟩ := hv
  have hx := B.exec
  have hb := B.bytes
  have hr := B.returns
  have hts := atoms_spec (ws := wsX12_story) B.pre
  have hown : s.vm.findClass RX12 = some m.cls := findClass_of_methodNamed B.named
  have hlocks := B.notSynchronized
  subst hsz
  have hD := hD0.self (sz := s.heap.size)
  generalize hAe : va_A (mW h0 v cI cZ u) s.heap.size = A at hD ⊢
  have hA : ∀ q : Nat, s.heap.size ≤ q → A q := fun q h => by rw [← hAe]; exact Or.inr h
  have hS : va_S A s.heap s.heap [] := va_S.rf
  have hl := lv_entry ([.ref h0, .int p0]) (n := 3) (Nat.le_of_ble_eq_true rfl)
  rw [lg_entry_eq]
  generalize (lg_sl ([.ref h0, .int p0]) ++ List.replicate (3 - (lg_sl ([.ref h0, .int p0])).length) Slot.unset).toArray = ls at hl ⊢
  have hl : lv_has ls 3 [(0, .ref h0), (1, .int p0)] := hl
  refine lv_aload_n hx hb dX12_story_0 rfl (lv_at hl 0 rfl) ?_
  refine va_get (D := (dC, dI)) (ci := 11) (v := .int (u.1 3)) (C := RX12) (T := TX12) (N := 52) hx hb hts (by decide +kernel) hown hK hP 0 rfl rfl 3 (by decide) (hts (.fieldLink RX12 147 "PageOneModel" "items" "I") (by decide +kernel)) (fun _ h9 => h9) rfl dX12_story_1 ?_
  refine lv_bipush (v := 80) hx hb dX12_story_4 (by decide) ?_
  refine lv_icmp_eq (tgt := 19) hx hb dX12_story_6 (by decide) (fun c_1 => ?_) (fun c_1 => ?_)
  ·
    refine lv_iconst (v := (-1)) hx hb dX12_story_19 (by decide) ?_
    exact W.iret (v := (-1)) hx hb hr (fun t ht hW => ⟨⟨(-1), u, rfl, (by first | (unfold mStory; rw [if_pos c_1]; done) | (unfold mStory; rw [if_pos c_1]; rfl) | (simp [mStory, c_1]; done)), by rw [ht]; exact hP, hD⟩, hS.F ht⟩) hS.2.2 dX12_story_20
  ·
    refine lv_iload_n hx hb dX12_story_9 rfl (lv_at hl 1 rfl) ?_
    refine lv_iconst (v := 1) hx hb dX12_story_10 (by decide) ?_
    refine lv_bipush (v := 80) hx hb dX12_story_11 (by decide) ?_
    refine vp_callSi (va_runS (As := [.int p0, .int 1, .int 80]) (rest := []) ⟨hx, hb, hml, hown, hts⟩ (m_in l dC dI p0 1 80) (va_cwS 3 hts gX12_story_X12_in rfl rfl rfl (by decide +kernel) ⟨Nat.le_of_ble_eq_true rfl, Nat.le_of_ble_eq_true rfl⟩) ⟨pw_fb, fun U hU hW => ⟨rfl, pw_to hU hW (hP.sub (ws' := []) [] rfl) (hK.sub (tys' := []) [] rfl) hN⟩⟩ rfl rfl hl.1 rfl (lv_room (Nat.le_of_ble_eq_true rfl)) dX12_story_13 ⟨Nat.le_of_ble_eq_true rfl, Nat.le_of_ble_eq_true rfl⟩).run (fun r hw => ?_)
    rcases Bool.eq_false_or_eq_true (bw p0 1 80) with b_2 | b_2
    ·
      obtain rfl : r = 1 := b_t hw b_2
      refine lv_if_ne (tgt := 21) hx hb dX12_story_16 (by decide) (fun c_3 => ?_) (fun c_3 => absurd c_3 (by decide))
      refine lv_aload_n hx hb dX12_story_21 rfl (lv_at hl 0 rfl) ?_
      refine lv_iconst (v := 0) hx hb dX12_story_22 (by decide) ?_
      have hFc := fr_all hD hS hA
      refine va_calli (va_runV (As := [.int 0]) (rest := []) ⟨hx, hb, hml, hown, hts⟩ (m_made l dC dI h0 v cI cZ u 0 hn c_1 s.heap.size) (cwV 1 hts gX12_story_X12_made rfl rfl rfl (by decide +kernel) ⟨Nat.le_of_ble_eq_true rfl, Nat.le_of_ble_eq_true rfl⟩) ⟨gw_fb, va_recv hK hP (ci := 11) (q0 := 0) rfl rfl, fun U hU hW => ⟨rfl, by rw [hU], pw_to hU hW hP hK hN, hD.weaken (fun _ _ _ _ => trivial)⟩⟩ rfl rfl hl.1 rfl (lv_room (Nat.le_of_ble_eq_true rfl)) dX12_story_23 ⟨Nat.le_of_ble_eq_true rfl, Nat.le_of_ble_eq_true rfl⟩) hS (fun q _ h => hFc q h) hFc (fun r u_4 t H1 locs ht hvm hw hB hz1 hk1 hS => ?_)
      obtain ⟨hP, hD1⟩ := hB
      rw [ht] at hP
      have hD := hD1.weaken (fun _ q _ h => hFc q.1 h)
      generalize H1 = H at hP hS ⊢
      obtain ⟨rfl, eu_4⟩ := hw
      refine lv_istore_n (lv' := [(2, .int (u.1 3)), (0, .ref h0), (1, .int p0)]) hx hb dX12_story_26 rfl hl (by decide) rfl (fun ls hl => ?_)
      refine lv_aload_n hx hb dX12_story_27 rfl (lv_at hl 1 rfl) ?_
      refine va_get (D := (dC, dI)) (ci := 11) (v := .ref (v 5)) (C := RX12) (T := TX12) (N := 52) hx hb hts (by decide +kernel) hown hK hP 0 rfl rfl 5 (by decide) (hts (.fieldLink RX12 22 "PageOneModel" "least" "[I") (by decide +kernel)) (fun _ h9 => h9) rfl dX12_story_28 ?_
      refine lv_iload_n hx hb dX12_story_31 rfl (lv_at hl 0 rfl) ?_
      refine lv_iload_n hx hb dX12_story_32 rfl (lv_at hl 2 rfl) ?_
      refine va_iast hx hb hK hP hD hS 5 0 rfl rfl (vNew hn c_1) dX12_story_33 (fun H locs hP hD hS => ?_)
      obtain ⟨u_5, eu_5⟩ : ∃ zz : mS, zz = mst u_4 5 (u.1 3) p0 := ⟨_, rfl⟩
      have hP : va_P (dC, dI) vwCl (mW h0 v cI cZ u_5) H := by rw [eu_5]; exact hP
      have hD : va_D A (mW h0 v cI cZ u_5) := by rw [eu_5]; exact hD
      refine lv_iload_n hx hb dX12_story_34 rfl (lv_at hl 0 rfl) ?_
      exact W.iret (v := (u.1 3)) hx hb hr (fun t ht hW => ⟨⟨(u.1 3), u_5, rfl, (by subst eu_4 eu_5; first | (unfold mStory; rw [if_neg c_1, if_pos b_2]; done) | (unfold mStory; rw [if_neg c_1, if_pos b_2]; rfl) | (simp [mStory, b_2, c_1]; done)), by rw [ht]; exact hP, hD⟩, hS.F ht⟩) hS.2.2 dX12_story_35
    ·
      obtain rfl : r = 0 := b_f hw b_2
      refine lv_if_ne (tgt := 21) hx hb dX12_story_16 (by decide) (fun c_6 => absurd (by decide) c_6) (fun c_6 => ?_)
      refine lv_iconst (v := (-1)) hx hb dX12_story_19 (by decide) ?_
      exact W.iret (v := (-1)) hx hb hr (fun t ht hW => ⟨⟨(-1), u, rfl, (by first | (unfold mStory; rw [if_neg c_1, if_neg (bne b_2)]; done) | (unfold mStory; rw [if_neg c_1, if_neg (bne b_2)]; rfl) | (simp [mStory, b_2, c_1]; done)), by rw [ht]; exact hP, hD⟩, hS.F ht⟩) hS.2.2 dX12_story_20
set_option maxHeartbeats 4000000 in
set_option maxRecDepth 100000 in
theorem m_picture (l : Launch) (dC : Nat → ClassId) (dI : Nat → Nat → Nat) (h0 : Nat) (v : Nat → Nat) (cI cZ : ClassId) (u : mS) (hn : bw (u.1 3) 0 80 = true) (sz : Nat) : Met l yX12_picture wsX12_picture ({ frames := 1, cells := 0, slots := 0, locals := 22 }) (va_Pc [.ref h0] (fun U => U.heap.size = sz ∧ PW dC dI (mW h0 v cI cZ u) [(cI, .int), (cZ, .boolean)] U ∧ va_D (fun _ => True) (mW h0 v cI cZ u))) (va_Qi (fun (r : Int32) (u9 : mS) => (r, u9) = mPicture u ) (fun u9 t => va_P (dC, dI) vwCl (mW h0 v cI cZ u9) t.heap ∧ va_D (va_A (mW h0 v cI cZ u) sz) (mW h0 v cI cZ u9)) (va_A (mW h0 v cI cZ u) sz)) 0 0 (va_A (mW h0 v cI cZ u) sz) := by
  refine Met.ofW (cc := cX12_picture) (maxL := 1) (ret := (some .int)) (by decide) rfl ?_
  intro p e s m args below meth c s₁ B hml hv
  obtain ⟨rfl, hsz, ⟨hP, hK, hN⟩, hD0⟩ := hv
  have hx := B.exec
  have hb := B.bytes
  have hr := B.returns
  have hts := atoms_spec (ws := wsX12_picture) B.pre
  have hown : s.vm.findClass RX12 = some m.cls := findClass_of_methodNamed B.named
  have hlocks := B.notSynchronized
  subst hsz
  have hD := hD0.self (sz := s.heap.size)
  generalize hAe : va_A (mW h0 v cI cZ u) s.heap.size = A at hD ⊢
  have hA : ∀ q : Nat, s.heap.size ≤ q → A q := fun q h => by rw [← hAe]; exact Or.inr h
  have hS : va_S A s.heap s.heap [] := va_S.rf
  have hl := lv_entry ([.ref h0]) (n := 1) (Nat.le_of_ble_eq_true rfl)
  rw [lg_entry_eq]
  generalize (lg_sl ([.ref h0]) ++ List.replicate (1 - (lg_sl ([.ref h0])).length) Slot.unset).toArray = ls at hl ⊢
  have hl : lv_has ls 1 [(0, .ref h0)] := hl
  refine lv_aload_n hx hb dX12_picture_0 rfl (lv_at hl 0 rfl) ?_
  refine va_get (D := (dC, dI)) (ci := 11) (v := .int (u.1 3)) (C := RX12) (T := TX12) (N := 52) hx hb hts (by decide +kernel) hown hK hP 0 rfl rfl 3 (by decide) (hts (.fieldLink RX12 147 "PageOneModel" "items" "I") (by decide +kernel)) (fun _ h9 => h9) rfl dX12_picture_1 ?_
  refine lv_bipush (v := 80) hx hb dX12_picture_4 (by decide) ?_
  refine lv_icmp_ne (tgt := 13) hx hb dX12_picture_6 (by decide) (fun c_1 => ?_) (fun c_1 => ?_)
  ·
    refine lv_aload_n hx hb dX12_picture_13 rfl (lv_at hl 0 rfl) ?_
    refine lv_iconst (v := 2) hx hb dX12_picture_14 (by decide) ?_
    have hFc := fr_all hD hS hA
    refine va_calli (va_runV (As := [.int 2]) (rest := []) ⟨hx, hb, hml, hown, hts⟩ (m_made l dC dI h0 v cI cZ u 2 hn c_1 s.heap.size) (cwV 1 hts gX12_picture_X12_made rfl rfl rfl (by decide +kernel) ⟨Nat.le_of_ble_eq_true rfl, Nat.le_of_ble_eq_true rfl⟩) ⟨gw_fb, va_recv hK hP (ci := 11) (q0 := 0) rfl rfl, fun U hU hW => ⟨rfl, by rw [hU], pw_to hU hW hP hK hN, hD.weaken (fun _ _ _ _ => trivial)⟩⟩ rfl rfl hl.1 rfl (lv_room (Nat.le_of_ble_eq_true rfl)) dX12_picture_15 ⟨Nat.le_of_ble_eq_true rfl, Nat.le_of_ble_eq_true rfl⟩) hS (fun q _ h => hFc q h) hFc (fun r u_2 t H1 locs ht hvm hw hB hz1 hk1 hS => ?_)
    obtain ⟨hP, hD1⟩ := hB
    rw [ht] at hP
    have hD := hD1.weaken (fun _ q _ h => hFc q.1 h)
    generalize H1 = H at hP hS ⊢
    obtain ⟨rfl, eu_2⟩ := hw
    exact W.iret (v := (u.1 3)) hx hb hr (fun t ht hW => ⟨⟨(u.1 3), u_2, rfl, (by subst eu_2; first | (unfold mPicture; rw [if_neg c_1]; done) | (unfold mPicture; rw [if_neg c_1]; rfl) | (simp [mPicture, c_1]; done)), by rw [ht]; exact hP, hD⟩, hS.F ht⟩) hS.2.2 dX12_picture_18
  ·
    refine lv_iconst (v := (-1)) hx hb dX12_picture_9 (by decide) ?_
    refine lv_goto (tgt := 18) hx hb dX12_picture_10 (by decide) ?_
    exact W.iret (v := (-1)) hx hb hr (fun t ht hW => ⟨⟨(-1), u, rfl, (by first | (unfold mPicture; rw [if_pos c_1]; done) | (unfold mPicture; rw [if_pos c_1]; rfl) | (simp [mPicture, c_1]; done)), by rw [ht]; exact hP, hD⟩, hS.F ht⟩) hS.2.2 dX12_picture_18
set_option maxHeartbeats 4000000 in
set_option maxRecDepth 100000 in
theorem m_head (l : Launch) (dC : Nat → ClassId) (dI : Nat → Nat → Nat) (h0 : Nat) (v : Nat → Nat) (cI cZ : ClassId) (u : mS) (p0 p1 p2 : Int32) (hn : bw (u.1 3) 0 80 = true) (sz : Nat) : Met l yX12_head wsX12_head ({ frames := 3, cells := 0, slots := 0, locals := 65 }) (va_Pc [.ref h0, .int p0, .int p1, .int p2] (fun U => U.heap.size = sz ∧ PW dC dI (mW h0 v cI cZ u) [(cI, .int), (cZ, .boolean)] U ∧ va_D (fun _ => True) (mW h0 v cI cZ u))) (va_Qi (fun (r : Int32) (u9 : mS) => (r, u9) = mHead u p0 p1 p2) (fun u9 t => va_P (dC, dI) vwCl (mW h0 v cI cZ u9) t.heap ∧ va_D (va_A (mW h0 v cI cZ u) sz) (mW h0 v cI cZ u9)) (va_A (mW h0 v cI cZ u) sz)) 0 0 (va_A (mW h0 v cI cZ u) sz) := by
  refine Met.ofW (cc := cX12_head) (maxL := 5) (ret := (some .int)) (by decide) rfl ?_
  intro p e s m args below meth c s₁ B hml hv
  obtain ⟨rfl, hsz, ⟨hP, hK, hN⟩, hD0⟩ := hv
  have hx := B.exec
  have hb := B.bytes
  have hr := B.returns
  have hts := atoms_spec (ws := wsX12_head) B.pre
  have hown : s.vm.findClass RX12 = some m.cls := findClass_of_methodNamed B.named
  have hlocks := B.notSynchronized
  subst hsz
  have hD := hD0.self (sz := s.heap.size)
  generalize hAe : va_A (mW h0 v cI cZ u) s.heap.size = A at hD ⊢
  have hA : ∀ q : Nat, s.heap.size ≤ q → A q := fun q h => by rw [← hAe]; exact Or.inr h
  have hS : va_S A s.heap s.heap [] := va_S.rf
  have hl := lv_entry ([.ref h0, .int p0, .int p1, .int p2]) (n := 5) (Nat.le_of_ble_eq_true rfl)
  rw [lg_entry_eq]
  generalize (lg_sl ([.ref h0, .int p0, .int p1, .int p2]) ++ List.replicate (5 - (lg_sl ([.ref h0, .int p0, .int p1, .int p2])).length) Slot.unset).toArray = ls at hl ⊢
  have hl : lv_has ls 5 [(0, .ref h0), (1, .int p0), (2, .int p1), (3, .int p2)] := hl
  refine lv_aload_n hx hb dX12_head_0 rfl (lv_at hl 0 rfl) ?_
  refine va_get (D := (dC, dI)) (ci := 11) (v := .int (u.1 3)) (C := RX12) (T := TX12) (N := 52) hx hb hts (by decide +kernel) hown hK hP 0 rfl rfl 3 (by decide) (hts (.fieldLink RX12 147 "PageOneModel" "items" "I") (by decide +kernel)) (fun _ h9 => h9) rfl dX12_head_1 ?_
  refine lv_bipush (v := 80) hx hb dX12_head_4 (by decide) ?_
  refine lv_icmp_eq (tgt := 38) hx hb dX12_head_6 (by decide) (fun c_1 => ?_) (fun c_1 => ?_)
  ·
    refine lv_iconst (v := (-1)) hx hb dX12_head_38 (by decide) ?_
    exact W.iret (v := (-1)) hx hb hr (fun t ht hW => ⟨⟨(-1), u, rfl, (by first | (unfold mHead; rw [if_pos c_1]; done) | (unfold mHead; rw [if_pos c_1]; rfl) | (simp [mHead, c_1]; done)), by rw [ht]; exact hP, hD⟩, hS.F ht⟩) hS.2.2 dX12_head_39
  ·
    refine lv_aload_n hx hb dX12_head_9 rfl (lv_at hl 0 rfl) ?_
    refine lv_iload_n hx hb dX12_head_10 rfl (lv_at hl 1 rfl) ?_
    refine lv_iconst (v := 0) hx hb dX12_head_11 (by decide) ?_
    refine vp_callSi (va_runV (As := [.int p0, .int 0]) (rest := []) ⟨hx, hb, hml, hown, hts⟩ (m_isKind l dC dI h0 v cI cZ u p0 0 hn) (cwV 2 hts gX12_head_X12_isKind rfl rfl rfl (by decide +kernel) ⟨Nat.le_of_ble_eq_true rfl, Nat.le_of_ble_eq_true rfl⟩) ⟨pw_fb, va_recv hK hP (ci := 11) (q0 := 0) rfl rfl, fun U hU hW => ⟨rfl, pw_to hU hW hP hK hN⟩⟩ rfl rfl hl.1 rfl (lv_room (Nat.le_of_ble_eq_true rfl)) dX12_head_12 ⟨Nat.le_of_ble_eq_true rfl, Nat.le_of_ble_eq_true rfl⟩).run (fun r hw => ?_)
    rcases Bool.eq_false_or_eq_true (mKind u p0 0) with b_2 | b_2
    ·
      obtain rfl : r = 1 := b_t hw b_2
      obtain ⟨b_3, d_4⟩ := band b_2
      refine lv_if_eq (tgt := 38) hx hb dX12_head_15 (by decide) (fun c_5 => absurd c_5 (by decide)) (fun c_5 => ?_)
      refine lv_iload_n hx hb dX12_head_18 rfl (lv_at hl 2 rfl) ?_
      refine lv_iconst (v := 1) hx hb dX12_head_19 (by decide) ?_
      refine lv_bipush (v := 8) hx hb dX12_head_20 (by decide) ?_
      refine vp_callSi (va_runS (As := [.int p1, .int 1, .int 8]) (rest := []) ⟨hx, hb, hml, hown, hts⟩ (m_in l dC dI p1 1 8) (va_cwS 3 hts gX12_head_X12_in rfl rfl rfl (by decide +kernel) ⟨Nat.le_of_ble_eq_true rfl, Nat.le_of_ble_eq_true rfl⟩) ⟨pw_fb, fun U hU hW => ⟨rfl, pw_to hU hW (hP.sub (ws' := []) [] rfl) (hK.sub (tys' := []) [] rfl) hN⟩⟩ rfl rfl hl.1 rfl (lv_room (Nat.le_of_ble_eq_true rfl)) dX12_head_22 ⟨Nat.le_of_ble_eq_true rfl, Nat.le_of_ble_eq_true rfl⟩).run (fun r hw => ?_)
      rcases Bool.eq_false_or_eq_true (bw p1 1 8) with b_6 | b_6
      ·
        obtain rfl : r = 1 := b_t hw b_6
        refine lv_if_eq (tgt := 38) hx hb dX12_head_25 (by decide) (fun c_7 => absurd c_7 (by decide)) (fun c_7 => ?_)
        refine lv_iload_n hx hb dX12_head_28 rfl (lv_at hl 3 rfl) ?_
        refine lv_iconst (v := 1) hx hb dX12_head_29 (by decide) ?_
        refine lv_bipush (v := 9) hx hb dX12_head_30 (by decide) ?_
        refine vp_callSi (va_runS (As := [.int p2, .int 1, .int 9]) (rest := []) ⟨hx, hb, hml, hown, hts⟩ (m_in l dC dI p2 1 9) (va_cwS 3 hts gX12_head_X12_in rfl rfl rfl (by decide +kernel) ⟨Nat.le_of_ble_eq_true rfl, Nat.le_of_ble_eq_true rfl⟩) ⟨pw_fb, fun U hU hW => ⟨rfl, pw_to hU hW (hP.sub (ws' := []) [] rfl) (hK.sub (tys' := []) [] rfl) hN⟩⟩ rfl rfl hl.1 rfl (lv_room (Nat.le_of_ble_eq_true rfl)) dX12_head_32 ⟨Nat.le_of_ble_eq_true rfl, Nat.le_of_ble_eq_true rfl⟩).run (fun r hw => ?_)
        rcases Bool.eq_false_or_eq_true (bw p2 1 9) with b_8 | b_8
        ·
          obtain rfl : r = 1 := b_t hw b_8
          refine lv_if_ne (tgt := 40) hx hb dX12_head_35 (by decide) (fun c_9 => ?_) (fun c_9 => absurd c_9 (by decide))
          refine lv_aload_n hx hb dX12_head_40 rfl (lv_at hl 0 rfl) ?_
          refine lv_iconst (v := 1) hx hb dX12_head_41 (by decide) ?_
          have hFc := fr_all hD hS hA
          refine va_calli (va_runV (As := [.int 1]) (rest := []) ⟨hx, hb, hml, hown, hts⟩ (m_made l dC dI h0 v cI cZ u 1 hn c_1 s.heap.size) (cwV 1 hts gX12_head_X12_made rfl rfl rfl (by decide +kernel) ⟨Nat.le_of_ble_eq_true rfl, Nat.le_of_ble_eq_true rfl⟩) ⟨gw_fb, va_recv hK hP (ci := 11) (q0 := 0) rfl rfl, fun U hU hW => ⟨rfl, by rw [hU], pw_to hU hW hP hK hN, hD.weaken (fun _ _ _ _ => trivial)⟩⟩ rfl rfl hl.1 rfl (lv_room (Nat.le_of_ble_eq_true rfl)) dX12_head_42 ⟨Nat.le_of_ble_eq_true rfl, Nat.le_of_ble_eq_true rfl⟩) hS (fun q _ h => hFc q h) hFc (fun r u_10 t H1 locs ht hvm hw hB hz1 hk1 hS => ?_)
          obtain ⟨hP, hD1⟩ := hB
          rw [ht] at hP
          have hD := hD1.weaken (fun _ q _ h => hFc q.1 h)
          generalize H1 = H at hP hS ⊢
          obtain ⟨rfl, eu_10⟩ := hw
          refine lv_istore (lv' := [(4, .int (u.1 3)), (0, .ref h0), (1, .int p0), (2, .int p1), (3, .int p2)]) hx hb dX12_head_45 hl (by decide) rfl (fun ls hl => ?_)
          refine lv_aload_n hx hb dX12_head_47 rfl (lv_at hl 1 rfl) ?_
          refine va_get (D := (dC, dI)) (ci := 11) (v := .ref (v 9)) (C := RX12) (T := TX12) (N := 52) hx hb hts (by decide +kernel) hown hK hP 0 rfl rfl 9 (by decide) (hts (.fieldLink RX12 34 "PageOneModel" "of" "[I") (by decide +kernel)) (fun _ h9 => h9) rfl dX12_head_48 ?_
          refine lv_iload hx hb dX12_head_51 (lv_at hl 0 rfl) ?_
          refine lv_iload_n hx hb dX12_head_53 rfl (lv_at hl 2 rfl) ?_
          refine va_iast hx hb hK hP hD hS 9 0 rfl rfl (vNew hn c_1) dX12_head_54 (fun H locs hP hD hS => ?_)
          obtain ⟨u_11, eu_11⟩ : ∃ zz : mS, zz = mst u_10 9 (u.1 3) p0 := ⟨_, rfl⟩
          have hP : va_P (dC, dI) vwCl (mW h0 v cI cZ u_11) H := by rw [eu_11]; exact hP
          have hD : va_D A (mW h0 v cI cZ u_11) := by rw [eu_11]; exact hD
          refine lv_aload_n hx hb dX12_head_55 rfl (lv_at hl 1 rfl) ?_
          refine va_get (D := (dC, dI)) (ci := 11) (v := .ref (v 7)) (C := RX12) (T := TX12) (N := 52) hx hb hts (by decide +kernel) hown hK hP 0 rfl rfl 7 (by decide) (hts (.fieldLink RX12 28 "PageOneModel" "wide" "[I") (by decide +kernel)) (fun _ h9 => h9) rfl dX12_head_56 ?_
          refine lv_iload hx hb dX12_head_59 (lv_at hl 0 rfl) ?_
          refine lv_iload_n hx hb dX12_head_61 rfl (lv_at hl 3 rfl) ?_
          refine va_iast hx hb hK hP hD hS 7 0 rfl rfl (vNew hn c_1) dX12_head_62 (fun H locs hP hD hS => ?_)
          obtain ⟨u_12, eu_12⟩ : ∃ zz : mS, zz = mst u_11 7 (u.1 3) p1 := ⟨_, rfl⟩
          have hP : va_P (dC, dI) vwCl (mW h0 v cI cZ u_12) H := by rw [eu_12]; exact hP
          have hD : va_D A (mW h0 v cI cZ u_12) := by rw [eu_12]; exact hD
          refine lv_aload_n hx hb dX12_head_63 rfl (lv_at hl 1 rfl) ?_
          refine va_get (D := (dC, dI)) (ci := 11) (v := .ref (v 8)) (C := RX12) (T := TX12) (N := 52) hx hb hts (by decide +kernel) hown hK hP 0 rfl rfl 8 (by decide) (hts (.fieldLink RX12 31 "PageOneModel" "high" "[I") (by decide +kernel)) (fun _ h9 => h9) rfl dX12_head_64 ?_
          refine lv_iload hx hb dX12_head_67 (lv_at hl 0 rfl) ?_
          refine lv_iload_n hx hb dX12_head_69 rfl (lv_at hl 4 rfl) ?_
          refine va_iast hx hb hK hP hD hS 8 0 rfl rfl (vNew hn c_1) dX12_head_70 (fun H locs hP hD hS => ?_)
          obtain ⟨u_13, eu_13⟩ : ∃ zz : mS, zz = mst u_12 8 (u.1 3) p2 := ⟨_, rfl⟩
          have hP : va_P (dC, dI) vwCl (mW h0 v cI cZ u_13) H := by rw [eu_13]; exact hP
          have hD : va_D A (mW h0 v cI cZ u_13) := by rw [eu_13]; exact hD
          refine lv_iload hx hb dX12_head_71 (lv_at hl 0 rfl) ?_
          exact W.iret (v := (u.1 3)) hx hb hr (fun t ht hW => ⟨⟨(u.1 3), u_13, rfl, (by subst eu_10 eu_11 eu_12 eu_13; first | (unfold mHead; rw [if_neg c_1, if_pos b_2, if_pos b_6, if_pos b_8]; done) | (unfold mHead; rw [if_neg c_1, if_pos b_2, if_pos b_6, if_pos b_8]; rfl) | (simp [mHead, b_2, b_3, b_6, b_8, c_1]; done)), by rw [ht]; exact hP, hD⟩, hS.F ht⟩) hS.2.2 dX12_head_73
        ·
          obtain rfl : r = 0 := b_f hw b_8
          refine lv_if_ne (tgt := 40) hx hb dX12_head_35 (by decide) (fun c_14 => absurd (by decide) c_14) (fun c_14 => ?_)
          refine lv_iconst (v := (-1)) hx hb dX12_head_38 (by decide) ?_
          exact W.iret (v := (-1)) hx hb hr (fun t ht hW => ⟨⟨(-1), u, rfl, (by first | (unfold mHead; rw [if_neg c_1, if_pos b_2, if_pos b_6, if_neg (bne b_8)]; done) | (unfold mHead; rw [if_neg c_1, if_pos b_2, if_pos b_6, if_neg (bne b_8)]; rfl) | (simp [mHead, b_2, b_3, b_6, b_8, c_1]; done)), by rw [ht]; exact hP, hD⟩, hS.F ht⟩) hS.2.2 dX12_head_39
      ·
        obtain rfl : r = 0 := b_f hw b_6
        refine lv_if_eq (tgt := 38) hx hb dX12_head_25 (by decide) (fun c_15 => ?_) (fun c_15 => absurd (by decide) c_15)
        refine lv_iconst (v := (-1)) hx hb dX12_head_38 (by decide) ?_
        exact W.iret (v := (-1)) hx hb hr (fun t ht hW => ⟨⟨(-1), u, rfl, (by first | (unfold mHead; rw [if_neg c_1, if_pos b_2, if_neg (bne b_6)]; done) | (unfold mHead; rw [if_neg c_1, if_pos b_2, if_neg (bne b_6)]; rfl) | (simp [mHead, b_2, b_3, b_6, c_1]; done)), by rw [ht]; exact hP, hD⟩, hS.F ht⟩) hS.2.2 dX12_head_39
    ·
      obtain rfl : r = 0 := b_f hw b_2
      refine lv_if_eq (tgt := 38) hx hb dX12_head_15 (by decide) (fun c_16 => ?_) (fun c_16 => absurd (by decide) c_16)
      refine lv_iconst (v := (-1)) hx hb dX12_head_38 (by decide) ?_
      exact W.iret (v := (-1)) hx hb hr (fun t ht hW => ⟨⟨(-1), u, rfl, (by first | (unfold mHead; rw [if_neg c_1, if_neg (bne b_2)]; done) | (unfold mHead; rw [if_neg c_1, if_neg (bne b_2)]; rfl) | (simp [mHead, b_2, c_1]; done)), by rw [ht]; exact hP, hD⟩, hS.F ht⟩) hS.2.2 dX12_head_39
set_option maxHeartbeats 4000000 in
set_option maxRecDepth 100000 in
theorem m_filler (l : Launch) (dC : Nat → ClassId) (dI : Nat → Nat → Nat) (h0 : Nat) (v : Nat → Nat) (cI cZ : ClassId) (u : mS) (p0 p1 : Int32) (hn : bw (u.1 3) 0 80 = true) (sz : Nat) : Met l yX12_filler wsX12_filler ({ frames := 1, cells := 0, slots := 0, locals := 22 }) (va_Pc [.ref h0, .int p0, .int p1] (fun U => U.heap.size = sz ∧ PW dC dI (mW h0 v cI cZ u) [(cI, .int), (cZ, .boolean)] U ∧ va_D (fun _ => True) (mW h0 v cI cZ u))) (va_Qi (fun (r : Int32) (u9 : mS) => (r, u9) = mFiller u p0 p1) (fun u9 t => va_P (dC, dI) vwCl (mW h0 v cI cZ u9) t.heap ∧ va_D (va_A (mW h0 v cI cZ u) sz) (mW h0 v cI cZ u9)) (va_A (mW h0 v cI cZ u) sz)) 0 0 (va_A (mW h0 v cI cZ u) sz) := by
  refine Met.ofW (cc := cX12_filler) (maxL := 4) (ret := (some .int)) (by decide) rfl ?_
  intro p e s m args below meth c s₁ B hml hv
  obtain ⟨rfl, hsz, ⟨hP, hK, hN⟩, hD0⟩ := hv
  have hx := B.exec
  have hb := B.bytes
  have hr := B.returns
  have hts := atoms_spec (ws := wsX12_filler) B.pre
  have hown : s.vm.findClass RX12 = some m.cls := findClass_of_methodNamed B.named
  have hlocks := B.notSynchronized
  subst hsz
  have hD := hD0.self (sz := s.heap.size)
  generalize hAe : va_A (mW h0 v cI cZ u) s.heap.size = A at hD ⊢
  have hA : ∀ q : Nat, s.heap.size ≤ q → A q := fun q h => by rw [← hAe]; exact Or.inr h
  have hS : va_S A s.heap s.heap [] := va_S.rf
  have hl := lv_entry ([.ref h0, .int p0, .int p1]) (n := 4) (Nat.le_of_ble_eq_true rfl)
  rw [lg_entry_eq]
  generalize (lg_sl ([.ref h0, .int p0, .int p1]) ++ List.replicate (4 - (lg_sl ([.ref h0, .int p0, .int p1])).length) Slot.unset).toArray = ls at hl ⊢
  have hl : lv_has ls 4 [(0, .ref h0), (1, .int p0), (2, .int p1)] := hl
  refine lv_aload_n hx hb dX12_filler_0 rfl (lv_at hl 0 rfl) ?_
  refine va_get (D := (dC, dI)) (ci := 11) (v := .int (u.1 3)) (C := RX12) (T := TX12) (N := 52) hx hb hts (by decide +kernel) hown hK hP 0 rfl rfl 3 (by decide) (hts (.fieldLink RX12 147 "PageOneModel" "items" "I") (by decide +kernel)) (fun _ h9 => h9) rfl dX12_filler_1 ?_
  refine lv_bipush (v := 80) hx hb dX12_filler_4 (by decide) ?_
  refine lv_icmp_eq (tgt := 29) hx hb dX12_filler_6 (by decide) (fun c_1 => ?_) (fun c_1 => ?_)
  ·
    refine lv_iconst (v := (-1)) hx hb dX12_filler_29 (by decide) ?_
    exact W.iret (v := (-1)) hx hb hr (fun t ht hW => ⟨⟨(-1), u, rfl, (by first | (unfold mFiller; rw [if_pos c_1]; done) | (unfold mFiller; rw [if_pos c_1]; rfl) | (simp [mFiller, c_1]; done)), by rw [ht]; exact hP, hD⟩, hS.F ht⟩) hS.2.2 dX12_filler_30
  ·
    refine lv_iload_n hx hb dX12_filler_9 rfl (lv_at hl 1 rfl) ?_
    refine lv_iconst (v := 1) hx hb dX12_filler_10 (by decide) ?_
    refine lv_bipush (v := 60) hx hb dX12_filler_11 (by decide) ?_
    refine vp_callSi (va_runS (As := [.int p0, .int 1, .int 60]) (rest := []) ⟨hx, hb, hml, hown, hts⟩ (m_in l dC dI p0 1 60) (va_cwS 3 hts gX12_filler_X12_in rfl rfl rfl (by decide +kernel) ⟨Nat.le_of_ble_eq_true rfl, Nat.le_of_ble_eq_true rfl⟩) ⟨pw_fb, fun U hU hW => ⟨rfl, pw_to hU hW (hP.sub (ws' := []) [] rfl) (hK.sub (tys' := []) [] rfl) hN⟩⟩ rfl rfl hl.1 rfl (lv_room (Nat.le_of_ble_eq_true rfl)) dX12_filler_13 ⟨Nat.le_of_ble_eq_true rfl, Nat.le_of_ble_eq_true rfl⟩).run (fun r hw => ?_)
    rcases Bool.eq_false_or_eq_true (bw p0 1 60) with b_2 | b_2
    ·
      obtain rfl : r = 1 := b_t hw b_2
      refine lv_if_eq (tgt := 29) hx hb dX12_filler_16 (by decide) (fun c_3 => absurd c_3 (by decide)) (fun c_3 => ?_)
      refine lv_iload_n hx hb dX12_filler_19 rfl (lv_at hl 2 rfl) ?_
      refine lv_iload_n hx hb dX12_filler_20 rfl (lv_at hl 1 rfl) ?_
      refine lv_bipush (v := 60) hx hb dX12_filler_21 (by decide) ?_
      refine vp_callSi (va_runS (As := [.int p1, .int p0, .int 60]) (rest := []) ⟨hx, hb, hml, hown, hts⟩ (m_in l dC dI p1 p0 60) (va_cwS 3 hts gX12_filler_X12_in rfl rfl rfl (by decide +kernel) ⟨Nat.le_of_ble_eq_true rfl, Nat.le_of_ble_eq_true rfl⟩) ⟨pw_fb, fun U hU hW => ⟨rfl, pw_to hU hW (hP.sub (ws' := []) [] rfl) (hK.sub (tys' := []) [] rfl) hN⟩⟩ rfl rfl hl.1 rfl (lv_room (Nat.le_of_ble_eq_true rfl)) dX12_filler_23 ⟨Nat.le_of_ble_eq_true rfl, Nat.le_of_ble_eq_true rfl⟩).run (fun r hw => ?_)
      rcases Bool.eq_false_or_eq_true (bw p1 p0 60) with b_4 | b_4
      ·
        obtain rfl : r = 1 := b_t hw b_4
        refine lv_if_ne (tgt := 31) hx hb dX12_filler_26 (by decide) (fun c_5 => ?_) (fun c_5 => absurd c_5 (by decide))
        refine lv_aload_n hx hb dX12_filler_31 rfl (lv_at hl 0 rfl) ?_
        refine lv_iconst (v := 4) hx hb dX12_filler_32 (by decide) ?_
        have hFc := fr_all hD hS hA
        refine va_calli (va_runV (As := [.int 4]) (rest := []) ⟨hx, hb, hml, hown, hts⟩ (m_made l dC dI h0 v cI cZ u 4 hn c_1 s.heap.size) (cwV 1 hts gX12_filler_X12_made rfl rfl rfl (by decide +kernel) ⟨Nat.le_of_ble_eq_true rfl, Nat.le_of_ble_eq_true rfl⟩) ⟨gw_fb, va_recv hK hP (ci := 11) (q0 := 0) rfl rfl, fun U hU hW => ⟨rfl, by rw [hU], pw_to hU hW hP hK hN, hD.weaken (fun _ _ _ _ => trivial)⟩⟩ rfl rfl hl.1 rfl (lv_room (Nat.le_of_ble_eq_true rfl)) dX12_filler_33 ⟨Nat.le_of_ble_eq_true rfl, Nat.le_of_ble_eq_true rfl⟩) hS (fun q _ h => hFc q h) hFc (fun r u_6 t H1 locs ht hvm hw hB hz1 hk1 hS => ?_)
        obtain ⟨hP, hD1⟩ := hB
        rw [ht] at hP
        have hD := hD1.weaken (fun _ q _ h => hFc q.1 h)
        generalize H1 = H at hP hS ⊢
        obtain ⟨rfl, eu_6⟩ := hw
        refine lv_istore_n (lv' := [(3, .int (u.1 3)), (0, .ref h0), (1, .int p0), (2, .int p1)]) hx hb dX12_filler_36 rfl hl (by decide) rfl (fun ls hl => ?_)
        refine lv_aload_n hx hb dX12_filler_37 rfl (lv_at hl 1 rfl) ?_
        refine va_get (D := (dC, dI)) (ci := 11) (v := .ref (v 5)) (C := RX12) (T := TX12) (N := 52) hx hb hts (by decide +kernel) hown hK hP 0 rfl rfl 5 (by decide) (hts (.fieldLink RX12 22 "PageOneModel" "least" "[I") (by decide +kernel)) (fun _ h9 => h9) rfl dX12_filler_38 ?_
        refine lv_iload_n hx hb dX12_filler_41 rfl (lv_at hl 0 rfl) ?_
        refine lv_iload_n hx hb dX12_filler_42 rfl (lv_at hl 2 rfl) ?_
        refine va_iast hx hb hK hP hD hS 5 0 rfl rfl (vNew hn c_1) dX12_filler_43 (fun H locs hP hD hS => ?_)
        obtain ⟨u_7, eu_7⟩ : ∃ zz : mS, zz = mst u_6 5 (u.1 3) p0 := ⟨_, rfl⟩
        have hP : va_P (dC, dI) vwCl (mW h0 v cI cZ u_7) H := by rw [eu_7]; exact hP
        have hD : va_D A (mW h0 v cI cZ u_7) := by rw [eu_7]; exact hD
        refine lv_aload_n hx hb dX12_filler_44 rfl (lv_at hl 1 rfl) ?_
        refine va_get (D := (dC, dI)) (ci := 11) (v := .ref (v 6)) (C := RX12) (T := TX12) (N := 52) hx hb hts (by decide +kernel) hown hK hP 0 rfl rfl 6 (by decide) (hts (.fieldLink RX12 25 "PageOneModel" "most" "[I") (by decide +kernel)) (fun _ h9 => h9) rfl dX12_filler_45 ?_
        refine lv_iload_n hx hb dX12_filler_48 rfl (lv_at hl 0 rfl) ?_
        refine lv_iload_n hx hb dX12_filler_49 rfl (lv_at hl 3 rfl) ?_
        refine va_iast hx hb hK hP hD hS 6 0 rfl rfl (vNew hn c_1) dX12_filler_50 (fun H locs hP hD hS => ?_)
        obtain ⟨u_8, eu_8⟩ : ∃ zz : mS, zz = mst u_7 6 (u.1 3) p1 := ⟨_, rfl⟩
        have hP : va_P (dC, dI) vwCl (mW h0 v cI cZ u_8) H := by rw [eu_8]; exact hP
        have hD : va_D A (mW h0 v cI cZ u_8) := by rw [eu_8]; exact hD
        refine lv_iload_n hx hb dX12_filler_51 rfl (lv_at hl 0 rfl) ?_
        exact W.iret (v := (u.1 3)) hx hb hr (fun t ht hW => ⟨⟨(u.1 3), u_8, rfl, (by subst eu_6 eu_7 eu_8; first | (unfold mFiller; rw [if_neg c_1, if_pos b_2, if_pos b_4]; done) | (unfold mFiller; rw [if_neg c_1, if_pos b_2, if_pos b_4]; rfl) | (simp [mFiller, b_2, b_4, c_1]; done)), by rw [ht]; exact hP, hD⟩, hS.F ht⟩) hS.2.2 dX12_filler_52
      ·
        obtain rfl : r = 0 := b_f hw b_4
        refine lv_if_ne (tgt := 31) hx hb dX12_filler_26 (by decide) (fun c_9 => absurd (by decide) c_9) (fun c_9 => ?_)
        refine lv_iconst (v := (-1)) hx hb dX12_filler_29 (by decide) ?_
        exact W.iret (v := (-1)) hx hb hr (fun t ht hW => ⟨⟨(-1), u, rfl, (by first | (unfold mFiller; rw [if_neg c_1, if_pos b_2, if_neg (bne b_4)]; done) | (unfold mFiller; rw [if_neg c_1, if_pos b_2, if_neg (bne b_4)]; rfl) | (simp [mFiller, b_2, b_4, c_1]; done)), by rw [ht]; exact hP, hD⟩, hS.F ht⟩) hS.2.2 dX12_filler_30
    ·
      obtain rfl : r = 0 := b_f hw b_2
      refine lv_if_eq (tgt := 29) hx hb dX12_filler_16 (by decide) (fun c_10 => ?_) (fun c_10 => absurd (by decide) c_10)
      refine lv_iconst (v := (-1)) hx hb dX12_filler_29 (by decide) ?_
      exact W.iret (v := (-1)) hx hb hr (fun t ht hW => ⟨⟨(-1), u, rfl, (by first | (unfold mFiller; rw [if_neg c_1, if_neg (bne b_2)]; done) | (unfold mFiller; rw [if_neg c_1, if_neg (bne b_2)]; rfl) | (simp [mFiller, b_2, c_1]; done)), by rw [ht]; exact hP, hD⟩, hS.F ht⟩) hS.2.2 dX12_filler_30
set_option maxHeartbeats 4000000 in
set_option maxRecDepth 100000 in
theorem m_paid (l : Launch) (dC : Nat → ClassId) (dI : Nat → Nat → Nat) (h0 : Nat) (v : Nat → Nat) (cI cZ : ClassId) (u : mS) (p0 p1 p2 p3 p4 p5 p6 : Int32) (hn : bw (u.1 3) 0 80 = true) (sz : Nat) : Met l yX12_paid wsX12_paid ({ frames := 2, cells := 0, slots := 0, locals := 42 }) (va_Pc [.ref h0, .int p0, .int p1, .int p2, .int p3, .int p4, .int p5, .int p6] (fun U => U.heap.size = sz ∧ PW dC dI (mW h0 v cI cZ u) [(cI, .int), (cZ, .boolean)] U ∧ va_D (fun _ => True) (mW h0 v cI cZ u))) (va_Qi (fun (r : Int32) (u9 : mS) => (r, u9) = mPaid u p0 p1 p2 p3 p4 p5 p6) (fun u9 t => va_P (dC, dI) vwCl (mW h0 v cI cZ u9) t.heap ∧ va_D (va_A (mW h0 v cI cZ u) sz) (mW h0 v cI cZ u9)) (va_A (mW h0 v cI cZ u) sz)) 0 0 (va_A (mW h0 v cI cZ u) sz) := by
  refine Met.ofW (cc := cX12_paid) (maxL := 11) (ret := (some .int)) (by decide) rfl ?_
  intro p e s m args below meth c s₁ B hml hv
  obtain ⟨rfl, hsz, ⟨hP, hK, hN⟩, hD0⟩ := hv
  have hx := B.exec
  have hb := B.bytes
  have hr := B.returns
  have hts := atoms_spec (ws := wsX12_paid) B.pre
  have hown : s.vm.findClass RX12 = some m.cls := findClass_of_methodNamed B.named
  have hlocks := B.notSynchronized
  subst hsz
  have hD := hD0.self (sz := s.heap.size)
  generalize hAe : va_A (mW h0 v cI cZ u) s.heap.size = A at hD ⊢
  have hA : ∀ q : Nat, s.heap.size ≤ q → A q := fun q h => by rw [← hAe]; exact Or.inr h
  have hS : va_S A s.heap s.heap [] := va_S.rf
  have hl := lv_entry ([.ref h0, .int p0, .int p1, .int p2, .int p3, .int p4, .int p5, .int p6]) (n := 11) (Nat.le_of_ble_eq_true rfl)
  rw [lg_entry_eq]
  generalize (lg_sl ([.ref h0, .int p0, .int p1, .int p2, .int p3, .int p4, .int p5, .int p6]) ++ List.replicate (11 - (lg_sl ([.ref h0, .int p0, .int p1, .int p2, .int p3, .int p4, .int p5, .int p6])).length) Slot.unset).toArray = ls at hl ⊢
  have hl : lv_has ls 11 [(0, .ref h0), (1, .int p0), (2, .int p1), (3, .int p2), (4, .int p3), (5, .int p4), (6, .int p5), (7, .int p6)] := hl
  refine lv_iload_n hx hb dX12_paid_0 rfl (lv_at hl 2 rfl) ?_
  refine vp_callSi (va_runS (As := [.int p1]) (rest := []) ⟨hx, hb, hml, hown, hts⟩ (m_isPage l dC dI p1) (va_cwS 1 hts gX12_paid_X12_isPage rfl rfl rfl (by decide +kernel) ⟨Nat.le_of_ble_eq_true rfl, Nat.le_of_ble_eq_true rfl⟩) ⟨pw_fb, fun U hU hW => ⟨rfl, pw_to hU hW (hP.sub (ws' := []) [] rfl) (hK.sub (tys' := []) [] rfl) hN⟩⟩ rfl rfl hl.1 rfl (lv_room (Nat.le_of_ble_eq_true rfl)) dX12_paid_1 ⟨Nat.le_of_ble_eq_true rfl, Nat.le_of_ble_eq_true rfl⟩).run (fun r hw => ?_)
  rcases Bool.eq_false_or_eq_true (bw p1 0 11) with b_1 | b_1
  ·
    obtain rfl : r = 1 := b_t hw b_1
    refine lv_if_eq (tgt := 32) hx hb dX12_paid_4 (by decide) (fun c_2 => absurd c_2 (by decide)) (fun c_2 => ?_)
    refine lv_iload_n hx hb dX12_paid_7 rfl (lv_at hl 3 rfl) ?_
    refine lv_iconst (v := 0) hx hb dX12_paid_8 (by decide) ?_
    refine lv_bipush (v := 7) hx hb dX12_paid_9 (by decide) ?_
    refine vp_callSi (va_runS (As := [.int p2, .int 0, .int 7]) (rest := []) ⟨hx, hb, hml, hown, hts⟩ (m_in l dC dI p2 0 7) (va_cwS 3 hts gX12_paid_X12_in rfl rfl rfl (by decide +kernel) ⟨Nat.le_of_ble_eq_true rfl, Nat.le_of_ble_eq_true rfl⟩) ⟨pw_fb, fun U hU hW => ⟨rfl, pw_to hU hW (hP.sub (ws' := []) [] rfl) (hK.sub (tys' := []) [] rfl) hN⟩⟩ rfl rfl hl.1 rfl (lv_room (Nat.le_of_ble_eq_true rfl)) dX12_paid_11 ⟨Nat.le_of_ble_eq_true rfl, Nat.le_of_ble_eq_true rfl⟩).run (fun r hw => ?_)
    rcases Bool.eq_false_or_eq_true (bw p2 0 7) with b_3 | b_3
    ·
      obtain rfl : r = 1 := b_t hw b_3
      refine lv_if_eq (tgt := 32) hx hb dX12_paid_14 (by decide) (fun c_4 => absurd c_4 (by decide)) (fun c_4 => ?_)
      refine lv_iload hx hb dX12_paid_17 (lv_at hl 4 rfl) ?_
      refine lv_iconst (v := 0) hx hb dX12_paid_19 (by decide) ?_
      refine lv_bipush (v := 59) hx hb dX12_paid_20 (by decide) ?_
      refine vp_callSi (va_runS (As := [.int p3, .int 0, .int 59]) (rest := []) ⟨hx, hb, hml, hown, hts⟩ (m_in l dC dI p3 0 59) (va_cwS 3 hts gX12_paid_X12_in rfl rfl rfl (by decide +kernel) ⟨Nat.le_of_ble_eq_true rfl, Nat.le_of_ble_eq_true rfl⟩) ⟨pw_fb, fun U hU hW => ⟨rfl, pw_to hU hW (hP.sub (ws' := []) [] rfl) (hK.sub (tys' := []) [] rfl) hN⟩⟩ rfl rfl hl.1 rfl (lv_room (Nat.le_of_ble_eq_true rfl)) dX12_paid_22 ⟨Nat.le_of_ble_eq_true rfl, Nat.le_of_ble_eq_true rfl⟩).run (fun r hw => ?_)
      rcases Bool.eq_false_or_eq_true (bw p3 0 59) with b_5 | b_5
      ·
        obtain rfl : r = 1 := b_t hw b_5
        refine lv_if_eq (tgt := 32) hx hb dX12_paid_25 (by decide) (fun c_6 => absurd c_6 (by decide)) (fun c_6 => ?_)
        refine lv_iconst (v := 1) hx hb dX12_paid_28 (by decide) ?_
        refine lv_goto (tgt := 33) hx hb dX12_paid_29 (by decide) ?_
        refine lv_istore (lv' := [(8, .int 1), (0, .ref h0), (1, .int p0), (2, .int p1), (3, .int p2), (4, .int p3), (5, .int p4), (6, .int p5), (7, .int p6)]) hx hb dX12_paid_33 hl (by decide) rfl (fun ls hl => ?_)
        refine lv_iload hx hb dX12_paid_35 (lv_at hl 6 rfl) ?_
        refine lv_iconst (v := 1) hx hb dX12_paid_37 (by decide) ?_
        refine lv_bipush (v := 8) hx hb dX12_paid_38 (by decide) ?_
        refine vp_callSi (va_runS (As := [.int p4, .int 1, .int 8]) (rest := []) ⟨hx, hb, hml, hown, hts⟩ (m_in l dC dI p4 1 8) (va_cwS 3 hts gX12_paid_X12_in rfl rfl rfl (by decide +kernel) ⟨Nat.le_of_ble_eq_true rfl, Nat.le_of_ble_eq_true rfl⟩) ⟨pw_fb, fun U hU hW => ⟨rfl, pw_to hU hW (hP.sub (ws' := []) [] rfl) (hK.sub (tys' := []) [] rfl) hN⟩⟩ rfl rfl hl.1 rfl (lv_room (Nat.le_of_ble_eq_true rfl)) dX12_paid_40 ⟨Nat.le_of_ble_eq_true rfl, Nat.le_of_ble_eq_true rfl⟩).run (fun r hw => ?_)
        rcases Bool.eq_false_or_eq_true (bw p4 1 8) with b_7 | b_7
        ·
          obtain rfl : r = 1 := b_t hw b_7
          refine lv_if_eq (tgt := 61) hx hb dX12_paid_43 (by decide) (fun c_8 => absurd c_8 (by decide)) (fun c_8 => ?_)
          refine lv_iload hx hb dX12_paid_46 (lv_at hl 7 rfl) ?_
          refine lv_iconst (v := 1) hx hb dX12_paid_48 (by decide) ?_
          refine lv_bipush (v := 60) hx hb dX12_paid_49 (by decide) ?_
          refine vp_callSi (va_runS (As := [.int p5, .int 1, .int 60]) (rest := []) ⟨hx, hb, hml, hown, hts⟩ (m_in l dC dI p5 1 60) (va_cwS 3 hts gX12_paid_X12_in rfl rfl rfl (by decide +kernel) ⟨Nat.le_of_ble_eq_true rfl, Nat.le_of_ble_eq_true rfl⟩) ⟨pw_fb, fun U hU hW => ⟨rfl, pw_to hU hW (hP.sub (ws' := []) [] rfl) (hK.sub (tys' := []) [] rfl) hN⟩⟩ rfl rfl hl.1 rfl (lv_room (Nat.le_of_ble_eq_true rfl)) dX12_paid_51 ⟨Nat.le_of_ble_eq_true rfl, Nat.le_of_ble_eq_true rfl⟩).run (fun r hw => ?_)
          rcases Bool.eq_false_or_eq_true (bw p5 1 60) with b_9 | b_9
          ·
            obtain rfl : r = 1 := b_t hw b_9
            refine lv_if_eq (tgt := 61) hx hb dX12_paid_54 (by decide) (fun c_10 => absurd c_10 (by decide)) (fun c_10 => ?_)
            refine lv_iconst (v := 1) hx hb dX12_paid_57 (by decide) ?_
            refine lv_goto (tgt := 62) hx hb dX12_paid_58 (by decide) ?_
            refine lv_istore (lv' := [(9, .int 1), (8, .int 1), (0, .ref h0), (1, .int p0), (2, .int p1), (3, .int p2), (4, .int p3), (5, .int p4), (6, .int p5), (7, .int p6)]) hx hb dX12_paid_62 hl (by decide) rfl (fun ls hl => ?_)
            refine lv_aload_n hx hb dX12_paid_64 rfl (lv_at hl 2 rfl) ?_
            refine va_get (D := (dC, dI)) (ci := 11) (v := .int (u.1 3)) (C := RX12) (T := TX12) (N := 52) hx hb hts (by decide +kernel) hown hK hP 0 rfl rfl 3 (by decide) (hts (.fieldLink RX12 147 "PageOneModel" "items" "I") (by decide +kernel)) (fun _ h9 => h9) rfl dX12_paid_65 ?_
            refine lv_bipush (v := 80) hx hb dX12_paid_68 (by decide) ?_
            refine lv_icmp_eq (tgt := 121) hx hb dX12_paid_70 (by decide) (fun c_11 => ?_) (fun c_11 => ?_)
            ·
              refine lv_iconst (v := (-1)) hx hb dX12_paid_121 (by decide) ?_
              exact W.iret (v := (-1)) hx hb hr (fun t ht hW => ⟨⟨(-1), u, rfl, (by first | (unfold mPaid; rw [if_pos b_1, if_pos b_3, if_pos b_5, if_pos b_7, if_pos b_9, if_pos c_11]; done) | (unfold mPaid; rw [if_pos b_1, if_pos b_3, if_pos b_5, if_pos b_7, if_pos b_9, if_pos c_11]; rfl) | (simp [mPaid, b_1, b_3, b_5, b_7, b_9, c_11]; done)), by rw [ht]; exact hP, hD⟩, hS.F ht⟩) hS.2.2 dX12_paid_122
            ·
              refine lv_iload_n hx hb dX12_paid_73 rfl (lv_at hl 3 rfl) ?_
              refine vp_callSi (va_runS (As := [.int p0]) (rest := []) ⟨hx, hb, hml, hown, hts⟩ (m_isBuyer l dC dI p0) (va_cwS 1 hts gX12_paid_X12_isBuyer rfl rfl rfl (by decide +kernel) ⟨Nat.le_of_ble_eq_true rfl, Nat.le_of_ble_eq_true rfl⟩) ⟨pw_fb, fun U hU hW => ⟨rfl, pw_to hU hW (hP.sub (ws' := []) [] rfl) (hK.sub (tys' := []) [] rfl) hN⟩⟩ rfl rfl hl.1 rfl (lv_room (Nat.le_of_ble_eq_true rfl)) dX12_paid_74 ⟨Nat.le_of_ble_eq_true rfl, Nat.le_of_ble_eq_true rfl⟩).run (fun r hw => ?_)
              rcases Bool.eq_false_or_eq_true (bw p0 0 9) with b_12 | b_12
              ·
                obtain rfl : r = 1 := b_t hw b_12
                refine lv_if_eq (tgt := 121) hx hb dX12_paid_77 (by decide) (fun c_13 => absurd c_13 (by decide)) (fun c_13 => ?_)
                refine lv_iload hx hb dX12_paid_80 (lv_at hl 1 rfl) ?_
                refine lv_if_eq (tgt := 121) hx hb dX12_paid_82 (by decide) (fun c_14 => absurd c_14 (by decide)) (fun c_14 => ?_)
                refine lv_iload hx hb dX12_paid_85 (lv_at hl 0 rfl) ?_
                refine lv_if_eq (tgt := 121) hx hb dX12_paid_87 (by decide) (fun c_15 => absurd c_15 (by decide)) (fun c_15 => ?_)
                refine lv_iload_n hx hb dX12_paid_90 rfl (lv_at hl 5 rfl) ?_
                refine lv_iload hx hb dX12_paid_91 (lv_at hl 7 rfl) ?_
                refine lv_iadd hx hb dX12_paid_93 ?_
                refine lv_bipush (v := 8) hx hb dX12_paid_94 (by decide) ?_
                refine lv_icmp_gt (tgt := 121) hx hb dX12_paid_96 (by decide) (fun c_16 => ?_) (fun c_16 => ?_)
                ·
                  refine lv_iconst (v := (-1)) hx hb dX12_paid_121 (by decide) ?_
                  exact W.iret (v := (-1)) hx hb hr (fun t ht hW => ⟨⟨(-1), u, rfl, (by first | (unfold mPaid; rw [if_pos b_1, if_pos b_3, if_pos b_5, if_pos b_7, if_pos b_9, if_neg c_11, if_pos b_12, if_pos c_16]; done) | (unfold mPaid; rw [if_pos b_1, if_pos b_3, if_pos b_5, if_pos b_7, if_pos b_9, if_neg c_11, if_pos b_12, if_pos c_16]; rfl) | (simp [mPaid, b_1, b_3, b_5, b_7, b_9, b_12, c_11, c_16]; done)), by rw [ht]; exact hP, hD⟩, hS.F ht⟩) hS.2.2 dX12_paid_122
                ·
                  refine lv_iload hx hb dX12_paid_99 (lv_at hl 6 rfl) ?_
                  refine lv_iload hx hb dX12_paid_101 (lv_at hl 8 rfl) ?_
                  refine lv_iadd hx hb dX12_paid_103 ?_
                  refine lv_bipush (v := 60) hx hb dX12_paid_104 (by decide) ?_
                  refine lv_icmp_gt (tgt := 121) hx hb dX12_paid_106 (by decide) (fun c_17 => ?_) (fun c_17 => ?_)
                  ·
                    refine lv_iconst (v := (-1)) hx hb dX12_paid_121 (by decide) ?_
                    exact W.iret (v := (-1)) hx hb hr (fun t ht hW => ⟨⟨(-1), u, rfl, (by first | (unfold mPaid; rw [if_pos b_1, if_pos b_3, if_pos b_5, if_pos b_7, if_pos b_9, if_neg c_11, if_pos b_12, if_neg c_16, if_pos c_17]; done) | (unfold mPaid; rw [if_pos b_1, if_pos b_3, if_pos b_5, if_pos b_7, if_pos b_9, if_neg c_11, if_pos b_12, if_neg c_16, if_pos c_17]; rfl) | (simp [mPaid, b_1, b_3, b_5, b_7, b_9, b_12, c_11, c_16, c_17]; done)), by rw [ht]; exact hP, hD⟩, hS.F ht⟩) hS.2.2 dX12_paid_122
                  ·
                    refine lv_iload hx hb dX12_paid_109 (lv_at hl 9 rfl) ?_
                    refine lv_iconst (v := 0) hx hb dX12_paid_111 (by decide) ?_
                    refine lv_sipush (v := 1000) hx hb dX12_paid_112 (by decide) ?_
                    refine vp_callSi (va_runS (As := [.int p6, .int 0, .int 1000]) (rest := []) ⟨hx, hb, hml, hown, hts⟩ (m_in l dC dI p6 0 1000) (va_cwS 3 hts gX12_paid_X12_in rfl rfl rfl (by decide +kernel) ⟨Nat.le_of_ble_eq_true rfl, Nat.le_of_ble_eq_true rfl⟩) ⟨pw_fb, fun U hU hW => ⟨rfl, pw_to hU hW (hP.sub (ws' := []) [] rfl) (hK.sub (tys' := []) [] rfl) hN⟩⟩ rfl rfl hl.1 rfl (lv_room (Nat.le_of_ble_eq_true rfl)) dX12_paid_115 ⟨Nat.le_of_ble_eq_true rfl, Nat.le_of_ble_eq_true rfl⟩).run (fun r hw => ?_)
                    rcases Bool.eq_false_or_eq_true (bw p6 0 1000) with b_18 | b_18
                    ·
                      obtain rfl : r = 1 := b_t hw b_18
                      refine lv_if_ne (tgt := 123) hx hb dX12_paid_118 (by decide) (fun c_19 => ?_) (fun c_19 => absurd c_19 (by decide))
                      refine lv_aload_n hx hb dX12_paid_123 rfl (lv_at hl 2 rfl) ?_
                      refine lv_iconst (v := 3) hx hb dX12_paid_124 (by decide) ?_
                      have hFc := fr_all hD hS hA
                      refine va_calli (va_runV (As := [.int 3]) (rest := []) ⟨hx, hb, hml, hown, hts⟩ (m_made l dC dI h0 v cI cZ u 3 hn c_11 s.heap.size) (cwV 1 hts gX12_paid_X12_made rfl rfl rfl (by decide +kernel) ⟨Nat.le_of_ble_eq_true rfl, Nat.le_of_ble_eq_true rfl⟩) ⟨gw_fb, va_recv hK hP (ci := 11) (q0 := 0) rfl rfl, fun U hU hW => ⟨rfl, by rw [hU], pw_to hU hW hP hK hN, hD.weaken (fun _ _ _ _ => trivial)⟩⟩ rfl rfl hl.1 rfl (lv_room (Nat.le_of_ble_eq_true rfl)) dX12_paid_125 ⟨Nat.le_of_ble_eq_true rfl, Nat.le_of_ble_eq_true rfl⟩) hS (fun q _ h => hFc q h) hFc (fun r u_20 t H1 locs ht hvm hw hB hz1 hk1 hS => ?_)
                      obtain ⟨hP, hD1⟩ := hB
                      rw [ht] at hP
                      have hD := hD1.weaken (fun _ q _ h => hFc q.1 h)
                      generalize H1 = H at hP hS ⊢
                      obtain ⟨rfl, eu_20⟩ := hw
                      refine lv_istore (lv' := [(10, .int (u.1 3)), (9, .int 1), (8, .int 1), (0, .ref h0), (1, .int p0), (2, .int p1), (3, .int p2), (4, .int p3), (5, .int p4), (6, .int p5), (7, .int p6)]) hx hb dX12_paid_128 hl (by decide) rfl (fun ls hl => ?_)
                      refine lv_aload_n hx hb dX12_paid_130 rfl (lv_at hl 3 rfl) ?_
                      refine va_get (D := (dC, dI)) (ci := 11) (v := .ref (v 10)) (C := RX12) (T := TX12) (N := 52) hx hb hts (by decide +kernel) hown hK hP 0 rfl rfl 10 (by decide) (hts (.fieldLink RX12 37 "PageOneModel" "buyer" "[I") (by decide +kernel)) (fun _ h9 => h9) rfl dX12_paid_131 ?_
                      refine lv_iload hx hb dX12_paid_134 (lv_at hl 0 rfl) ?_
                      refine lv_iload_n hx hb dX12_paid_136 rfl (lv_at hl 4 rfl) ?_
                      refine va_iast hx hb hK hP hD hS 10 0 rfl rfl (vNew hn c_11) dX12_paid_137 (fun H locs hP hD hS => ?_)
                      obtain ⟨u_21, eu_21⟩ : ∃ zz : mS, zz = mst u_20 10 (u.1 3) p0 := ⟨_, rfl⟩
                      have hP : va_P (dC, dI) vwCl (mW h0 v cI cZ u_21) H := by rw [eu_21]; exact hP
                      have hD : va_D A (mW h0 v cI cZ u_21) := by rw [eu_21]; exact hD
                      refine lv_aload_n hx hb dX12_paid_138 rfl (lv_at hl 3 rfl) ?_
                      refine va_get (D := (dC, dI)) (ci := 11) (v := .ref (v 11)) (C := RX12) (T := TX12) (N := 52) hx hb hts (by decide +kernel) hown hK hP 0 rfl rfl 11 (by decide) (hts (.fieldLink RX12 40 "PageOneModel" "soldPage" "[I") (by decide +kernel)) (fun _ h9 => h9) rfl dX12_paid_139 ?_
                      refine lv_iload hx hb dX12_paid_142 (lv_at hl 0 rfl) ?_
                      refine lv_iload_n hx hb dX12_paid_144 rfl (lv_at hl 5 rfl) ?_
                      refine va_iast hx hb hK hP hD hS 11 0 rfl rfl (vNew hn c_11) dX12_paid_145 (fun H locs hP hD hS => ?_)
                      obtain ⟨u_22, eu_22⟩ : ∃ zz : mS, zz = mst u_21 11 (u.1 3) p1 := ⟨_, rfl⟩
                      have hP : va_P (dC, dI) vwCl (mW h0 v cI cZ u_22) H := by rw [eu_22]; exact hP
                      have hD : va_D A (mW h0 v cI cZ u_22) := by rw [eu_22]; exact hD
                      refine lv_aload_n hx hb dX12_paid_146 rfl (lv_at hl 3 rfl) ?_
                      refine va_get (D := (dC, dI)) (ci := 11) (v := .ref (v 12)) (C := RX12) (T := TX12) (N := 52) hx hb hts (by decide +kernel) hown hK hP 0 rfl rfl 12 (by decide) (hts (.fieldLink RX12 43 "PageOneModel" "soldColumn" "[I") (by decide +kernel)) (fun _ h9 => h9) rfl dX12_paid_147 ?_
                      refine lv_iload hx hb dX12_paid_150 (lv_at hl 0 rfl) ?_
                      refine lv_iload_n hx hb dX12_paid_152 rfl (lv_at hl 6 rfl) ?_
                      refine va_iast hx hb hK hP hD hS 12 0 rfl rfl (vNew hn c_11) dX12_paid_153 (fun H locs hP hD hS => ?_)
                      obtain ⟨u_23, eu_23⟩ : ∃ zz : mS, zz = mst u_22 12 (u.1 3) p2 := ⟨_, rfl⟩
                      have hP : va_P (dC, dI) vwCl (mW h0 v cI cZ u_23) H := by rw [eu_23]; exact hP
                      have hD : va_D A (mW h0 v cI cZ u_23) := by rw [eu_23]; exact hD
                      refine lv_aload_n hx hb dX12_paid_154 rfl (lv_at hl 3 rfl) ?_
                      refine va_get (D := (dC, dI)) (ci := 11) (v := .ref (v 13)) (C := RX12) (T := TX12) (N := 52) hx hb hts (by decide +kernel) hown hK hP 0 rfl rfl 13 (by decide) (hts (.fieldLink RX12 46 "PageOneModel" "soldLine" "[I") (by decide +kernel)) (fun _ h9 => h9) rfl dX12_paid_155 ?_
                      refine lv_iload hx hb dX12_paid_158 (lv_at hl 0 rfl) ?_
                      refine lv_iload hx hb dX12_paid_160 (lv_at hl 7 rfl) ?_
                      refine va_iast hx hb hK hP hD hS 13 0 rfl rfl (vNew hn c_11) dX12_paid_162 (fun H locs hP hD hS => ?_)
                      obtain ⟨u_24, eu_24⟩ : ∃ zz : mS, zz = mst u_23 13 (u.1 3) p3 := ⟨_, rfl⟩
                      have hP : va_P (dC, dI) vwCl (mW h0 v cI cZ u_24) H := by rw [eu_24]; exact hP
                      have hD : va_D A (mW h0 v cI cZ u_24) := by rw [eu_24]; exact hD
                      refine lv_aload_n hx hb dX12_paid_163 rfl (lv_at hl 3 rfl) ?_
                      refine va_get (D := (dC, dI)) (ci := 11) (v := .ref (v 7)) (C := RX12) (T := TX12) (N := 52) hx hb hts (by decide +kernel) hown hK hP 0 rfl rfl 7 (by decide) (hts (.fieldLink RX12 28 "PageOneModel" "wide" "[I") (by decide +kernel)) (fun _ h9 => h9) rfl dX12_paid_164 ?_
                      refine lv_iload hx hb dX12_paid_167 (lv_at hl 0 rfl) ?_
                      refine lv_iload hx hb dX12_paid_169 (lv_at hl 8 rfl) ?_
                      refine va_iast hx hb hK hP hD hS 7 0 rfl rfl (vNew hn c_11) dX12_paid_171 (fun H locs hP hD hS => ?_)
                      obtain ⟨u_25, eu_25⟩ : ∃ zz : mS, zz = mst u_24 7 (u.1 3) p4 := ⟨_, rfl⟩
                      have hP : va_P (dC, dI) vwCl (mW h0 v cI cZ u_25) H := by rw [eu_25]; exact hP
                      have hD : va_D A (mW h0 v cI cZ u_25) := by rw [eu_25]; exact hD
                      refine lv_aload_n hx hb dX12_paid_172 rfl (lv_at hl 3 rfl) ?_
                      refine va_get (D := (dC, dI)) (ci := 11) (v := .ref (v 8)) (C := RX12) (T := TX12) (N := 52) hx hb hts (by decide +kernel) hown hK hP 0 rfl rfl 8 (by decide) (hts (.fieldLink RX12 31 "PageOneModel" "high" "[I") (by decide +kernel)) (fun _ h9 => h9) rfl dX12_paid_173 ?_
                      refine lv_iload hx hb dX12_paid_176 (lv_at hl 0 rfl) ?_
                      refine lv_iload hx hb dX12_paid_178 (lv_at hl 9 rfl) ?_
                      refine va_iast hx hb hK hP hD hS 8 0 rfl rfl (vNew hn c_11) dX12_paid_180 (fun H locs hP hD hS => ?_)
                      obtain ⟨u_26, eu_26⟩ : ∃ zz : mS, zz = mst u_25 8 (u.1 3) p5 := ⟨_, rfl⟩
                      have hP : va_P (dC, dI) vwCl (mW h0 v cI cZ u_26) H := by rw [eu_26]; exact hP
                      have hD : va_D A (mW h0 v cI cZ u_26) := by rw [eu_26]; exact hD
                      refine lv_aload_n hx hb dX12_paid_181 rfl (lv_at hl 3 rfl) ?_
                      refine va_get (D := (dC, dI)) (ci := 11) (v := .ref (v 14)) (C := RX12) (T := TX12) (N := 52) hx hb hts (by decide +kernel) hown hK hP 0 rfl rfl 14 (by decide) (hts (.fieldLink RX12 49 "PageOneModel" "price" "[I") (by decide +kernel)) (fun _ h9 => h9) rfl dX12_paid_182 ?_
                      refine lv_iload hx hb dX12_paid_185 (lv_at hl 0 rfl) ?_
                      refine lv_iload hx hb dX12_paid_187 (lv_at hl 10 rfl) ?_
                      refine va_iast hx hb hK hP hD hS 14 0 rfl rfl (vNew hn c_11) dX12_paid_189 (fun H locs hP hD hS => ?_)
                      obtain ⟨u_27, eu_27⟩ : ∃ zz : mS, zz = mst u_26 14 (u.1 3) p6 := ⟨_, rfl⟩
                      have hP : va_P (dC, dI) vwCl (mW h0 v cI cZ u_27) H := by rw [eu_27]; exact hP
                      have hD : va_D A (mW h0 v cI cZ u_27) := by rw [eu_27]; exact hD
                      refine lv_iload hx hb dX12_paid_190 (lv_at hl 0 rfl) ?_
                      exact W.iret (v := (u.1 3)) hx hb hr (fun t ht hW => ⟨⟨(u.1 3), u_27, rfl, (by subst eu_20 eu_21 eu_22 eu_23 eu_24 eu_25 eu_26 eu_27; first | (unfold mPaid; rw [if_pos b_1, if_pos b_3, if_pos b_5, if_pos b_7, if_pos b_9, if_neg c_11, if_pos b_12, if_neg c_16, if_neg c_17, if_pos b_18]; done) | (unfold mPaid; rw [if_pos b_1, if_pos b_3, if_pos b_5, if_pos b_7, if_pos b_9, if_neg c_11, if_pos b_12, if_neg c_16, if_neg c_17, if_pos b_18]; rfl) | (simp [mPaid, b_1, b_3, b_5, b_7, b_9, b_12, b_18, c_11, c_16, c_17]; done)), by rw [ht]; exact hP, hD⟩, hS.F ht⟩) hS.2.2 dX12_paid_192
                    ·
                      obtain rfl : r = 0 := b_f hw b_18
                      refine lv_if_ne (tgt := 123) hx hb dX12_paid_118 (by decide) (fun c_28 => absurd (by decide) c_28) (fun c_28 => ?_)
                      refine lv_iconst (v := (-1)) hx hb dX12_paid_121 (by decide) ?_
                      exact W.iret (v := (-1)) hx hb hr (fun t ht hW => ⟨⟨(-1), u, rfl, (by first | (unfold mPaid; rw [if_pos b_1, if_pos b_3, if_pos b_5, if_pos b_7, if_pos b_9, if_neg c_11, if_pos b_12, if_neg c_16, if_neg c_17, if_neg (bne b_18)]; done) | (unfold mPaid; rw [if_pos b_1, if_pos b_3, if_pos b_5, if_pos b_7, if_pos b_9, if_neg c_11, if_pos b_12, if_neg c_16, if_neg c_17, if_neg (bne b_18)]; rfl) | (simp [mPaid, b_1, b_3, b_5, b_7, b_9, b_12, b_18, c_11, c_16, c_17]; done)), by rw [ht]; exact hP, hD⟩, hS.F ht⟩) hS.2.2 dX12_paid_122
              ·
                obtain rfl : r = 0 := b_f hw b_12
                refine lv_if_eq (tgt := 121) hx hb dX12_paid_77 (by decide) (fun c_29 => ?_) (fun c_29 => absurd (by decide) c_29)
                refine lv_iconst (v := (-1)) hx hb dX12_paid_121 (by decide) ?_
                exact W.iret (v := (-1)) hx hb hr (fun t ht hW => ⟨⟨(-1), u, rfl, (by first | (unfold mPaid; rw [if_pos b_1, if_pos b_3, if_pos b_5, if_pos b_7, if_pos b_9, if_neg c_11, if_neg (bne b_12)]; done) | (unfold mPaid; rw [if_pos b_1, if_pos b_3, if_pos b_5, if_pos b_7, if_pos b_9, if_neg c_11, if_neg (bne b_12)]; rfl) | (simp [mPaid, b_1, b_3, b_5, b_7, b_9, b_12, c_11]; done)), by rw [ht]; exact hP, hD⟩, hS.F ht⟩) hS.2.2 dX12_paid_122
          ·
            obtain rfl : r = 0 := b_f hw b_9
            refine lv_if_eq (tgt := 61) hx hb dX12_paid_54 (by decide) (fun c_30 => ?_) (fun c_30 => absurd (by decide) c_30)
            refine lv_iconst (v := 0) hx hb dX12_paid_61 (by decide) ?_
            refine lv_istore (lv' := [(9, .int 0), (8, .int 1), (0, .ref h0), (1, .int p0), (2, .int p1), (3, .int p2), (4, .int p3), (5, .int p4), (6, .int p5), (7, .int p6)]) hx hb dX12_paid_62 hl (by decide) rfl (fun ls hl => ?_)
            refine lv_aload_n hx hb dX12_paid_64 rfl (lv_at hl 2 rfl) ?_
            refine va_get (D := (dC, dI)) (ci := 11) (v := .int (u.1 3)) (C := RX12) (T := TX12) (N := 52) hx hb hts (by decide +kernel) hown hK hP 0 rfl rfl 3 (by decide) (hts (.fieldLink RX12 147 "PageOneModel" "items" "I") (by decide +kernel)) (fun _ h9 => h9) rfl dX12_paid_65 ?_
            refine lv_bipush (v := 80) hx hb dX12_paid_68 (by decide) ?_
            refine lv_icmp_eq (tgt := 121) hx hb dX12_paid_70 (by decide) (fun c_31 => ?_) (fun c_31 => ?_)
            ·
              refine lv_iconst (v := (-1)) hx hb dX12_paid_121 (by decide) ?_
              exact W.iret (v := (-1)) hx hb hr (fun t ht hW => ⟨⟨(-1), u, rfl, (by first | (unfold mPaid; rw [if_pos b_1, if_pos b_3, if_pos b_5, if_pos b_7, if_neg (bne b_9), if_pos c_31]; done) | (unfold mPaid; rw [if_pos b_1, if_pos b_3, if_pos b_5, if_pos b_7, if_neg (bne b_9), if_pos c_31]; rfl) | (simp [mPaid, b_1, b_3, b_5, b_7, b_9, c_31]; done)), by rw [ht]; exact hP, hD⟩, hS.F ht⟩) hS.2.2 dX12_paid_122
            ·
              refine lv_iload_n hx hb dX12_paid_73 rfl (lv_at hl 3 rfl) ?_
              refine vp_callSi (va_runS (As := [.int p0]) (rest := []) ⟨hx, hb, hml, hown, hts⟩ (m_isBuyer l dC dI p0) (va_cwS 1 hts gX12_paid_X12_isBuyer rfl rfl rfl (by decide +kernel) ⟨Nat.le_of_ble_eq_true rfl, Nat.le_of_ble_eq_true rfl⟩) ⟨pw_fb, fun U hU hW => ⟨rfl, pw_to hU hW (hP.sub (ws' := []) [] rfl) (hK.sub (tys' := []) [] rfl) hN⟩⟩ rfl rfl hl.1 rfl (lv_room (Nat.le_of_ble_eq_true rfl)) dX12_paid_74 ⟨Nat.le_of_ble_eq_true rfl, Nat.le_of_ble_eq_true rfl⟩).run (fun r hw => ?_)
              rcases Bool.eq_false_or_eq_true (bw p0 0 9) with b_32 | b_32
              ·
                obtain rfl : r = 1 := b_t hw b_32
                refine lv_if_eq (tgt := 121) hx hb dX12_paid_77 (by decide) (fun c_33 => absurd c_33 (by decide)) (fun c_33 => ?_)
                refine lv_iload hx hb dX12_paid_80 (lv_at hl 1 rfl) ?_
                refine lv_if_eq (tgt := 121) hx hb dX12_paid_82 (by decide) (fun c_34 => absurd c_34 (by decide)) (fun c_34 => ?_)
                refine lv_iload hx hb dX12_paid_85 (lv_at hl 0 rfl) ?_
                refine lv_if_eq (tgt := 121) hx hb dX12_paid_87 (by decide) (fun c_35 => ?_) (fun c_35 => absurd (by decide) c_35)
                refine lv_iconst (v := (-1)) hx hb dX12_paid_121 (by decide) ?_
                exact W.iret (v := (-1)) hx hb hr (fun t ht hW => ⟨⟨(-1), u, rfl, (by first | (unfold mPaid; rw [if_pos b_1, if_pos b_3, if_pos b_5, if_pos b_7, if_neg (bne b_9), if_neg c_31, if_pos b_32]; done) | (unfold mPaid; rw [if_pos b_1, if_pos b_3, if_pos b_5, if_pos b_7, if_neg (bne b_9), if_neg c_31, if_pos b_32]; rfl) | (simp [mPaid, b_1, b_3, b_5, b_7, b_9, b_32, c_31]; done)), by rw [ht]; exact hP, hD⟩, hS.F ht⟩) hS.2.2 dX12_paid_122
              ·
                obtain rfl : r = 0 := b_f hw b_32
                refine lv_if_eq (tgt := 121) hx hb dX12_paid_77 (by decide) (fun c_36 => ?_) (fun c_36 => absurd (by decide) c_36)
                refine lv_iconst (v := (-1)) hx hb dX12_paid_121 (by decide) ?_
                exact W.iret (v := (-1)) hx hb hr (fun t ht hW => ⟨⟨(-1), u, rfl, (by first | (unfold mPaid; rw [if_pos b_1, if_pos b_3, if_pos b_5, if_pos b_7, if_neg (bne b_9), if_neg c_31, if_neg (bne b_32)]; done) | (unfold mPaid; rw [if_pos b_1, if_pos b_3, if_pos b_5, if_pos b_7, if_neg (bne b_9), if_neg c_31, if_neg (bne b_32)]; rfl) | (simp [mPaid, b_1, b_3, b_5, b_7, b_9, b_32, c_31]; done)), by rw [ht]; exact hP, hD⟩, hS.F ht⟩) hS.2.2 dX12_paid_122
        ·
          obtain rfl : r = 0 := b_f hw b_7
          refine lv_if_eq (tgt := 61) hx hb dX12_paid_43 (by decide) (fun c_37 => ?_) (fun c_37 => absurd (by decide) c_37)
          refine lv_iconst (v := 0) hx hb dX12_paid_61 (by decide) ?_
          refine lv_istore (lv' := [(9, .int 0), (8, .int 1), (0, .ref h0), (1, .int p0), (2, .int p1), (3, .int p2), (4, .int p3), (5, .int p4), (6, .int p5), (7, .int p6)]) hx hb dX12_paid_62 hl (by decide) rfl (fun ls hl => ?_)
          refine lv_aload_n hx hb dX12_paid_64 rfl (lv_at hl 2 rfl) ?_
          refine va_get (D := (dC, dI)) (ci := 11) (v := .int (u.1 3)) (C := RX12) (T := TX12) (N := 52) hx hb hts (by decide +kernel) hown hK hP 0 rfl rfl 3 (by decide) (hts (.fieldLink RX12 147 "PageOneModel" "items" "I") (by decide +kernel)) (fun _ h9 => h9) rfl dX12_paid_65 ?_
          refine lv_bipush (v := 80) hx hb dX12_paid_68 (by decide) ?_
          refine lv_icmp_eq (tgt := 121) hx hb dX12_paid_70 (by decide) (fun c_38 => ?_) (fun c_38 => ?_)
          ·
            refine lv_iconst (v := (-1)) hx hb dX12_paid_121 (by decide) ?_
            exact W.iret (v := (-1)) hx hb hr (fun t ht hW => ⟨⟨(-1), u, rfl, (by first | (unfold mPaid; rw [if_pos b_1, if_pos b_3, if_pos b_5, if_neg (bne b_7), if_pos c_38]; done) | (unfold mPaid; rw [if_pos b_1, if_pos b_3, if_pos b_5, if_neg (bne b_7), if_pos c_38]; rfl) | (simp [mPaid, b_1, b_3, b_5, b_7, c_38]; done)), by rw [ht]; exact hP, hD⟩, hS.F ht⟩) hS.2.2 dX12_paid_122
          ·
            refine lv_iload_n hx hb dX12_paid_73 rfl (lv_at hl 3 rfl) ?_
            refine vp_callSi (va_runS (As := [.int p0]) (rest := []) ⟨hx, hb, hml, hown, hts⟩ (m_isBuyer l dC dI p0) (va_cwS 1 hts gX12_paid_X12_isBuyer rfl rfl rfl (by decide +kernel) ⟨Nat.le_of_ble_eq_true rfl, Nat.le_of_ble_eq_true rfl⟩) ⟨pw_fb, fun U hU hW => ⟨rfl, pw_to hU hW (hP.sub (ws' := []) [] rfl) (hK.sub (tys' := []) [] rfl) hN⟩⟩ rfl rfl hl.1 rfl (lv_room (Nat.le_of_ble_eq_true rfl)) dX12_paid_74 ⟨Nat.le_of_ble_eq_true rfl, Nat.le_of_ble_eq_true rfl⟩).run (fun r hw => ?_)
            rcases Bool.eq_false_or_eq_true (bw p0 0 9) with b_39 | b_39
            ·
              obtain rfl : r = 1 := b_t hw b_39
              refine lv_if_eq (tgt := 121) hx hb dX12_paid_77 (by decide) (fun c_40 => absurd c_40 (by decide)) (fun c_40 => ?_)
              refine lv_iload hx hb dX12_paid_80 (lv_at hl 1 rfl) ?_
              refine lv_if_eq (tgt := 121) hx hb dX12_paid_82 (by decide) (fun c_41 => absurd c_41 (by decide)) (fun c_41 => ?_)
              refine lv_iload hx hb dX12_paid_85 (lv_at hl 0 rfl) ?_
              refine lv_if_eq (tgt := 121) hx hb dX12_paid_87 (by decide) (fun c_42 => ?_) (fun c_42 => absurd (by decide) c_42)
              refine lv_iconst (v := (-1)) hx hb dX12_paid_121 (by decide) ?_
              exact W.iret (v := (-1)) hx hb hr (fun t ht hW => ⟨⟨(-1), u, rfl, (by first | (unfold mPaid; rw [if_pos b_1, if_pos b_3, if_pos b_5, if_neg (bne b_7), if_neg c_38, if_pos b_39]; done) | (unfold mPaid; rw [if_pos b_1, if_pos b_3, if_pos b_5, if_neg (bne b_7), if_neg c_38, if_pos b_39]; rfl) | (simp [mPaid, b_1, b_3, b_5, b_7, b_39, c_38]; done)), by rw [ht]; exact hP, hD⟩, hS.F ht⟩) hS.2.2 dX12_paid_122
            ·
              obtain rfl : r = 0 := b_f hw b_39
              refine lv_if_eq (tgt := 121) hx hb dX12_paid_77 (by decide) (fun c_43 => ?_) (fun c_43 => absurd (by decide) c_43)
              refine lv_iconst (v := (-1)) hx hb dX12_paid_121 (by decide) ?_
              exact W.iret (v := (-1)) hx hb hr (fun t ht hW => ⟨⟨(-1), u, rfl, (by first | (unfold mPaid; rw [if_pos b_1, if_pos b_3, if_pos b_5, if_neg (bne b_7), if_neg c_38, if_neg (bne b_39)]; done) | (unfold mPaid; rw [if_pos b_1, if_pos b_3, if_pos b_5, if_neg (bne b_7), if_neg c_38, if_neg (bne b_39)]; rfl) | (simp [mPaid, b_1, b_3, b_5, b_7, b_39, c_38]; done)), by rw [ht]; exact hP, hD⟩, hS.F ht⟩) hS.2.2 dX12_paid_122
      ·
        obtain rfl : r = 0 := b_f hw b_5
        refine lv_if_eq (tgt := 32) hx hb dX12_paid_25 (by decide) (fun c_44 => ?_) (fun c_44 => absurd (by decide) c_44)
        refine lv_iconst (v := 0) hx hb dX12_paid_32 (by decide) ?_
        refine lv_istore (lv' := [(8, .int 0), (0, .ref h0), (1, .int p0), (2, .int p1), (3, .int p2), (4, .int p3), (5, .int p4), (6, .int p5), (7, .int p6)]) hx hb dX12_paid_33 hl (by decide) rfl (fun ls hl => ?_)
        refine lv_iload hx hb dX12_paid_35 (lv_at hl 6 rfl) ?_
        refine lv_iconst (v := 1) hx hb dX12_paid_37 (by decide) ?_
        refine lv_bipush (v := 8) hx hb dX12_paid_38 (by decide) ?_
        refine vp_callSi (va_runS (As := [.int p4, .int 1, .int 8]) (rest := []) ⟨hx, hb, hml, hown, hts⟩ (m_in l dC dI p4 1 8) (va_cwS 3 hts gX12_paid_X12_in rfl rfl rfl (by decide +kernel) ⟨Nat.le_of_ble_eq_true rfl, Nat.le_of_ble_eq_true rfl⟩) ⟨pw_fb, fun U hU hW => ⟨rfl, pw_to hU hW (hP.sub (ws' := []) [] rfl) (hK.sub (tys' := []) [] rfl) hN⟩⟩ rfl rfl hl.1 rfl (lv_room (Nat.le_of_ble_eq_true rfl)) dX12_paid_40 ⟨Nat.le_of_ble_eq_true rfl, Nat.le_of_ble_eq_true rfl⟩).run (fun r hw => ?_)
        rcases Bool.eq_false_or_eq_true (bw p4 1 8) with b_45 | b_45
        ·
          obtain rfl : r = 1 := b_t hw b_45
          refine lv_if_eq (tgt := 61) hx hb dX12_paid_43 (by decide) (fun c_46 => absurd c_46 (by decide)) (fun c_46 => ?_)
          refine lv_iload hx hb dX12_paid_46 (lv_at hl 7 rfl) ?_
          refine lv_iconst (v := 1) hx hb dX12_paid_48 (by decide) ?_
          refine lv_bipush (v := 60) hx hb dX12_paid_49 (by decide) ?_
          refine vp_callSi (va_runS (As := [.int p5, .int 1, .int 60]) (rest := []) ⟨hx, hb, hml, hown, hts⟩ (m_in l dC dI p5 1 60) (va_cwS 3 hts gX12_paid_X12_in rfl rfl rfl (by decide +kernel) ⟨Nat.le_of_ble_eq_true rfl, Nat.le_of_ble_eq_true rfl⟩) ⟨pw_fb, fun U hU hW => ⟨rfl, pw_to hU hW (hP.sub (ws' := []) [] rfl) (hK.sub (tys' := []) [] rfl) hN⟩⟩ rfl rfl hl.1 rfl (lv_room (Nat.le_of_ble_eq_true rfl)) dX12_paid_51 ⟨Nat.le_of_ble_eq_true rfl, Nat.le_of_ble_eq_true rfl⟩).run (fun r hw => ?_)
          rcases Bool.eq_false_or_eq_true (bw p5 1 60) with b_47 | b_47
          ·
            obtain rfl : r = 1 := b_t hw b_47
            refine lv_if_eq (tgt := 61) hx hb dX12_paid_54 (by decide) (fun c_48 => absurd c_48 (by decide)) (fun c_48 => ?_)
            refine lv_iconst (v := 1) hx hb dX12_paid_57 (by decide) ?_
            refine lv_goto (tgt := 62) hx hb dX12_paid_58 (by decide) ?_
            refine lv_istore (lv' := [(9, .int 1), (8, .int 0), (0, .ref h0), (1, .int p0), (2, .int p1), (3, .int p2), (4, .int p3), (5, .int p4), (6, .int p5), (7, .int p6)]) hx hb dX12_paid_62 hl (by decide) rfl (fun ls hl => ?_)
            refine lv_aload_n hx hb dX12_paid_64 rfl (lv_at hl 2 rfl) ?_
            refine va_get (D := (dC, dI)) (ci := 11) (v := .int (u.1 3)) (C := RX12) (T := TX12) (N := 52) hx hb hts (by decide +kernel) hown hK hP 0 rfl rfl 3 (by decide) (hts (.fieldLink RX12 147 "PageOneModel" "items" "I") (by decide +kernel)) (fun _ h9 => h9) rfl dX12_paid_65 ?_
            refine lv_bipush (v := 80) hx hb dX12_paid_68 (by decide) ?_
            refine lv_icmp_eq (tgt := 121) hx hb dX12_paid_70 (by decide) (fun c_49 => ?_) (fun c_49 => ?_)
            ·
              refine lv_iconst (v := (-1)) hx hb dX12_paid_121 (by decide) ?_
              exact W.iret (v := (-1)) hx hb hr (fun t ht hW => ⟨⟨(-1), u, rfl, (by first | (unfold mPaid; rw [if_pos b_1, if_pos b_3, if_neg (bne b_5), if_pos b_45, if_pos b_47, if_pos c_49]; done) | (unfold mPaid; rw [if_pos b_1, if_pos b_3, if_neg (bne b_5), if_pos b_45, if_pos b_47, if_pos c_49]; rfl) | (simp [mPaid, b_1, b_3, b_5, b_45, b_47, c_49]; done)), by rw [ht]; exact hP, hD⟩, hS.F ht⟩) hS.2.2 dX12_paid_122
            ·
              refine lv_iload_n hx hb dX12_paid_73 rfl (lv_at hl 3 rfl) ?_
              refine vp_callSi (va_runS (As := [.int p0]) (rest := []) ⟨hx, hb, hml, hown, hts⟩ (m_isBuyer l dC dI p0) (va_cwS 1 hts gX12_paid_X12_isBuyer rfl rfl rfl (by decide +kernel) ⟨Nat.le_of_ble_eq_true rfl, Nat.le_of_ble_eq_true rfl⟩) ⟨pw_fb, fun U hU hW => ⟨rfl, pw_to hU hW (hP.sub (ws' := []) [] rfl) (hK.sub (tys' := []) [] rfl) hN⟩⟩ rfl rfl hl.1 rfl (lv_room (Nat.le_of_ble_eq_true rfl)) dX12_paid_74 ⟨Nat.le_of_ble_eq_true rfl, Nat.le_of_ble_eq_true rfl⟩).run (fun r hw => ?_)
              rcases Bool.eq_false_or_eq_true (bw p0 0 9) with b_50 | b_50
              ·
                obtain rfl : r = 1 := b_t hw b_50
                refine lv_if_eq (tgt := 121) hx hb dX12_paid_77 (by decide) (fun c_51 => absurd c_51 (by decide)) (fun c_51 => ?_)
                refine lv_iload hx hb dX12_paid_80 (lv_at hl 1 rfl) ?_
                refine lv_if_eq (tgt := 121) hx hb dX12_paid_82 (by decide) (fun c_52 => ?_) (fun c_52 => absurd (by decide) c_52)
                refine lv_iconst (v := (-1)) hx hb dX12_paid_121 (by decide) ?_
                exact W.iret (v := (-1)) hx hb hr (fun t ht hW => ⟨⟨(-1), u, rfl, (by first | (unfold mPaid; rw [if_pos b_1, if_pos b_3, if_neg (bne b_5), if_pos b_45, if_pos b_47, if_neg c_49, if_pos b_50]; done) | (unfold mPaid; rw [if_pos b_1, if_pos b_3, if_neg (bne b_5), if_pos b_45, if_pos b_47, if_neg c_49, if_pos b_50]; rfl) | (simp [mPaid, b_1, b_3, b_5, b_45, b_47, b_50, c_49]; done)), by rw [ht]; exact hP, hD⟩, hS.F ht⟩) hS.2.2 dX12_paid_122
              ·
                obtain rfl : r = 0 := b_f hw b_50
                refine lv_if_eq (tgt := 121) hx hb dX12_paid_77 (by decide) (fun c_53 => ?_) (fun c_53 => absurd (by decide) c_53)
                refine lv_iconst (v := (-1)) hx hb dX12_paid_121 (by decide) ?_
                exact W.iret (v := (-1)) hx hb hr (fun t ht hW => ⟨⟨(-1), u, rfl, (by first | (unfold mPaid; rw [if_pos b_1, if_pos b_3, if_neg (bne b_5), if_pos b_45, if_pos b_47, if_neg c_49, if_neg (bne b_50)]; done) | (unfold mPaid; rw [if_pos b_1, if_pos b_3, if_neg (bne b_5), if_pos b_45, if_pos b_47, if_neg c_49, if_neg (bne b_50)]; rfl) | (simp [mPaid, b_1, b_3, b_5, b_45, b_47, b_50, c_49]; done)), by rw [ht]; exact hP, hD⟩, hS.F ht⟩) hS.2.2 dX12_paid_122
          ·
            obtain rfl : r = 0 := b_f hw b_47
            refine lv_if_eq (tgt := 61) hx hb dX12_paid_54 (by decide) (fun c_54 => ?_) (fun c_54 => absurd (by decide) c_54)
            refine lv_iconst (v := 0) hx hb dX12_paid_61 (by decide) ?_
            refine lv_istore (lv' := [(9, .int 0), (8, .int 0), (0, .ref h0), (1, .int p0), (2, .int p1), (3, .int p2), (4, .int p3), (5, .int p4), (6, .int p5), (7, .int p6)]) hx hb dX12_paid_62 hl (by decide) rfl (fun ls hl => ?_)
            refine lv_aload_n hx hb dX12_paid_64 rfl (lv_at hl 2 rfl) ?_
            refine va_get (D := (dC, dI)) (ci := 11) (v := .int (u.1 3)) (C := RX12) (T := TX12) (N := 52) hx hb hts (by decide +kernel) hown hK hP 0 rfl rfl 3 (by decide) (hts (.fieldLink RX12 147 "PageOneModel" "items" "I") (by decide +kernel)) (fun _ h9 => h9) rfl dX12_paid_65 ?_
            refine lv_bipush (v := 80) hx hb dX12_paid_68 (by decide) ?_
            refine lv_icmp_eq (tgt := 121) hx hb dX12_paid_70 (by decide) (fun c_55 => ?_) (fun c_55 => ?_)
            ·
              refine lv_iconst (v := (-1)) hx hb dX12_paid_121 (by decide) ?_
              exact W.iret (v := (-1)) hx hb hr (fun t ht hW => ⟨⟨(-1), u, rfl, (by first | (unfold mPaid; rw [if_pos b_1, if_pos b_3, if_neg (bne b_5), if_pos b_45, if_neg (bne b_47), if_pos c_55]; done) | (unfold mPaid; rw [if_pos b_1, if_pos b_3, if_neg (bne b_5), if_pos b_45, if_neg (bne b_47), if_pos c_55]; rfl) | (simp [mPaid, b_1, b_3, b_5, b_45, b_47, c_55]; done)), by rw [ht]; exact hP, hD⟩, hS.F ht⟩) hS.2.2 dX12_paid_122
            ·
              refine lv_iload_n hx hb dX12_paid_73 rfl (lv_at hl 3 rfl) ?_
              refine vp_callSi (va_runS (As := [.int p0]) (rest := []) ⟨hx, hb, hml, hown, hts⟩ (m_isBuyer l dC dI p0) (va_cwS 1 hts gX12_paid_X12_isBuyer rfl rfl rfl (by decide +kernel) ⟨Nat.le_of_ble_eq_true rfl, Nat.le_of_ble_eq_true rfl⟩) ⟨pw_fb, fun U hU hW => ⟨rfl, pw_to hU hW (hP.sub (ws' := []) [] rfl) (hK.sub (tys' := []) [] rfl) hN⟩⟩ rfl rfl hl.1 rfl (lv_room (Nat.le_of_ble_eq_true rfl)) dX12_paid_74 ⟨Nat.le_of_ble_eq_true rfl, Nat.le_of_ble_eq_true rfl⟩).run (fun r hw => ?_)
              rcases Bool.eq_false_or_eq_true (bw p0 0 9) with b_56 | b_56
              ·
                obtain rfl : r = 1 := b_t hw b_56
                refine lv_if_eq (tgt := 121) hx hb dX12_paid_77 (by decide) (fun c_57 => absurd c_57 (by decide)) (fun c_57 => ?_)
                refine lv_iload hx hb dX12_paid_80 (lv_at hl 1 rfl) ?_
                refine lv_if_eq (tgt := 121) hx hb dX12_paid_82 (by decide) (fun c_58 => ?_) (fun c_58 => absurd (by decide) c_58)
                refine lv_iconst (v := (-1)) hx hb dX12_paid_121 (by decide) ?_
                exact W.iret (v := (-1)) hx hb hr (fun t ht hW => ⟨⟨(-1), u, rfl, (by first | (unfold mPaid; rw [if_pos b_1, if_pos b_3, if_neg (bne b_5), if_pos b_45, if_neg (bne b_47), if_neg c_55, if_pos b_56]; done) | (unfold mPaid; rw [if_pos b_1, if_pos b_3, if_neg (bne b_5), if_pos b_45, if_neg (bne b_47), if_neg c_55, if_pos b_56]; rfl) | (simp [mPaid, b_1, b_3, b_5, b_45, b_47, b_56, c_55]; done)), by rw [ht]; exact hP, hD⟩, hS.F ht⟩) hS.2.2 dX12_paid_122
              ·
                obtain rfl : r = 0 := b_f hw b_56
                refine lv_if_eq (tgt := 121) hx hb dX12_paid_77 (by decide) (fun c_59 => ?_) (fun c_59 => absurd (by decide) c_59)
                refine lv_iconst (v := (-1)) hx hb dX12_paid_121 (by decide) ?_
                exact W.iret (v := (-1)) hx hb hr (fun t ht hW => ⟨⟨(-1), u, rfl, (by first | (unfold mPaid; rw [if_pos b_1, if_pos b_3, if_neg (bne b_5), if_pos b_45, if_neg (bne b_47), if_neg c_55, if_neg (bne b_56)]; done) | (unfold mPaid; rw [if_pos b_1, if_pos b_3, if_neg (bne b_5), if_pos b_45, if_neg (bne b_47), if_neg c_55, if_neg (bne b_56)]; rfl) | (simp [mPaid, b_1, b_3, b_5, b_45, b_47, b_56, c_55]; done)), by rw [ht]; exact hP, hD⟩, hS.F ht⟩) hS.2.2 dX12_paid_122
        ·
          obtain rfl : r = 0 := b_f hw b_45
          refine lv_if_eq (tgt := 61) hx hb dX12_paid_43 (by decide) (fun c_60 => ?_) (fun c_60 => absurd (by decide) c_60)
          refine lv_iconst (v := 0) hx hb dX12_paid_61 (by decide) ?_
          refine lv_istore (lv' := [(9, .int 0), (8, .int 0), (0, .ref h0), (1, .int p0), (2, .int p1), (3, .int p2), (4, .int p3), (5, .int p4), (6, .int p5), (7, .int p6)]) hx hb dX12_paid_62 hl (by decide) rfl (fun ls hl => ?_)
          refine lv_aload_n hx hb dX12_paid_64 rfl (lv_at hl 2 rfl) ?_
          refine va_get (D := (dC, dI)) (ci := 11) (v := .int (u.1 3)) (C := RX12) (T := TX12) (N := 52) hx hb hts (by decide +kernel) hown hK hP 0 rfl rfl 3 (by decide) (hts (.fieldLink RX12 147 "PageOneModel" "items" "I") (by decide +kernel)) (fun _ h9 => h9) rfl dX12_paid_65 ?_
          refine lv_bipush (v := 80) hx hb dX12_paid_68 (by decide) ?_
          refine lv_icmp_eq (tgt := 121) hx hb dX12_paid_70 (by decide) (fun c_61 => ?_) (fun c_61 => ?_)
          ·
            refine lv_iconst (v := (-1)) hx hb dX12_paid_121 (by decide) ?_
            exact W.iret (v := (-1)) hx hb hr (fun t ht hW => ⟨⟨(-1), u, rfl, (by first | (unfold mPaid; rw [if_pos b_1, if_pos b_3, if_neg (bne b_5), if_neg (bne b_45), if_pos c_61]; done) | (unfold mPaid; rw [if_pos b_1, if_pos b_3, if_neg (bne b_5), if_neg (bne b_45), if_pos c_61]; rfl) | (simp [mPaid, b_1, b_3, b_5, b_45, c_61]; done)), by rw [ht]; exact hP, hD⟩, hS.F ht⟩) hS.2.2 dX12_paid_122
          ·
            refine lv_iload_n hx hb dX12_paid_73 rfl (lv_at hl 3 rfl) ?_
            refine vp_callSi (va_runS (As := [.int p0]) (rest := []) ⟨hx, hb, hml, hown, hts⟩ (m_isBuyer l dC dI p0) (va_cwS 1 hts gX12_paid_X12_isBuyer rfl rfl rfl (by decide +kernel) ⟨Nat.le_of_ble_eq_true rfl, Nat.le_of_ble_eq_true rfl⟩) ⟨pw_fb, fun U hU hW => ⟨rfl, pw_to hU hW (hP.sub (ws' := []) [] rfl) (hK.sub (tys' := []) [] rfl) hN⟩⟩ rfl rfl hl.1 rfl (lv_room (Nat.le_of_ble_eq_true rfl)) dX12_paid_74 ⟨Nat.le_of_ble_eq_true rfl, Nat.le_of_ble_eq_true rfl⟩).run (fun r hw => ?_)
            rcases Bool.eq_false_or_eq_true (bw p0 0 9) with b_62 | b_62
            ·
              obtain rfl : r = 1 := b_t hw b_62
              refine lv_if_eq (tgt := 121) hx hb dX12_paid_77 (by decide) (fun c_63 => absurd c_63 (by decide)) (fun c_63 => ?_)
              refine lv_iload hx hb dX12_paid_80 (lv_at hl 1 rfl) ?_
              refine lv_if_eq (tgt := 121) hx hb dX12_paid_82 (by decide) (fun c_64 => ?_) (fun c_64 => absurd (by decide) c_64)
              refine lv_iconst (v := (-1)) hx hb dX12_paid_121 (by decide) ?_
              exact W.iret (v := (-1)) hx hb hr (fun t ht hW => ⟨⟨(-1), u, rfl, (by first | (unfold mPaid; rw [if_pos b_1, if_pos b_3, if_neg (bne b_5), if_neg (bne b_45), if_neg c_61, if_pos b_62]; done) | (unfold mPaid; rw [if_pos b_1, if_pos b_3, if_neg (bne b_5), if_neg (bne b_45), if_neg c_61, if_pos b_62]; rfl) | (simp [mPaid, b_1, b_3, b_5, b_45, b_62, c_61]; done)), by rw [ht]; exact hP, hD⟩, hS.F ht⟩) hS.2.2 dX12_paid_122
            ·
              obtain rfl : r = 0 := b_f hw b_62
              refine lv_if_eq (tgt := 121) hx hb dX12_paid_77 (by decide) (fun c_65 => ?_) (fun c_65 => absurd (by decide) c_65)
              refine lv_iconst (v := (-1)) hx hb dX12_paid_121 (by decide) ?_
              exact W.iret (v := (-1)) hx hb hr (fun t ht hW => ⟨⟨(-1), u, rfl, (by first | (unfold mPaid; rw [if_pos b_1, if_pos b_3, if_neg (bne b_5), if_neg (bne b_45), if_neg c_61, if_neg (bne b_62)]; done) | (unfold mPaid; rw [if_pos b_1, if_pos b_3, if_neg (bne b_5), if_neg (bne b_45), if_neg c_61, if_neg (bne b_62)]; rfl) | (simp [mPaid, b_1, b_3, b_5, b_45, b_62, c_61]; done)), by rw [ht]; exact hP, hD⟩, hS.F ht⟩) hS.2.2 dX12_paid_122
    ·
      obtain rfl : r = 0 := b_f hw b_3
      refine lv_if_eq (tgt := 32) hx hb dX12_paid_14 (by decide) (fun c_66 => ?_) (fun c_66 => absurd (by decide) c_66)
      refine lv_iconst (v := 0) hx hb dX12_paid_32 (by decide) ?_
      refine lv_istore (lv' := [(8, .int 0), (0, .ref h0), (1, .int p0), (2, .int p1), (3, .int p2), (4, .int p3), (5, .int p4), (6, .int p5), (7, .int p6)]) hx hb dX12_paid_33 hl (by decide) rfl (fun ls hl => ?_)
      refine lv_iload hx hb dX12_paid_35 (lv_at hl 6 rfl) ?_
      refine lv_iconst (v := 1) hx hb dX12_paid_37 (by decide) ?_
      refine lv_bipush (v := 8) hx hb dX12_paid_38 (by decide) ?_
      refine vp_callSi (va_runS (As := [.int p4, .int 1, .int 8]) (rest := []) ⟨hx, hb, hml, hown, hts⟩ (m_in l dC dI p4 1 8) (va_cwS 3 hts gX12_paid_X12_in rfl rfl rfl (by decide +kernel) ⟨Nat.le_of_ble_eq_true rfl, Nat.le_of_ble_eq_true rfl⟩) ⟨pw_fb, fun U hU hW => ⟨rfl, pw_to hU hW (hP.sub (ws' := []) [] rfl) (hK.sub (tys' := []) [] rfl) hN⟩⟩ rfl rfl hl.1 rfl (lv_room (Nat.le_of_ble_eq_true rfl)) dX12_paid_40 ⟨Nat.le_of_ble_eq_true rfl, Nat.le_of_ble_eq_true rfl⟩).run (fun r hw => ?_)
      rcases Bool.eq_false_or_eq_true (bw p4 1 8) with b_67 | b_67
      ·
        obtain rfl : r = 1 := b_t hw b_67
        refine lv_if_eq (tgt := 61) hx hb dX12_paid_43 (by decide) (fun c_68 => absurd c_68 (by decide)) (fun c_68 => ?_)
        refine lv_iload hx hb dX12_paid_46 (lv_at hl 7 rfl) ?_
        refine lv_iconst (v := 1) hx hb dX12_paid_48 (by decide) ?_
        refine lv_bipush (v := 60) hx hb dX12_paid_49 (by decide) ?_
        refine vp_callSi (va_runS (As := [.int p5, .int 1, .int 60]) (rest := []) ⟨hx, hb, hml, hown, hts⟩ (m_in l dC dI p5 1 60) (va_cwS 3 hts gX12_paid_X12_in rfl rfl rfl (by decide +kernel) ⟨Nat.le_of_ble_eq_true rfl, Nat.le_of_ble_eq_true rfl⟩) ⟨pw_fb, fun U hU hW => ⟨rfl, pw_to hU hW (hP.sub (ws' := []) [] rfl) (hK.sub (tys' := []) [] rfl) hN⟩⟩ rfl rfl hl.1 rfl (lv_room (Nat.le_of_ble_eq_true rfl)) dX12_paid_51 ⟨Nat.le_of_ble_eq_true rfl, Nat.le_of_ble_eq_true rfl⟩).run (fun r hw => ?_)
        rcases Bool.eq_false_or_eq_true (bw p5 1 60) with b_69 | b_69
        ·
          obtain rfl : r = 1 := b_t hw b_69
          refine lv_if_eq (tgt := 61) hx hb dX12_paid_54 (by decide) (fun c_70 => absurd c_70 (by decide)) (fun c_70 => ?_)
          refine lv_iconst (v := 1) hx hb dX12_paid_57 (by decide) ?_
          refine lv_goto (tgt := 62) hx hb dX12_paid_58 (by decide) ?_
          refine lv_istore (lv' := [(9, .int 1), (8, .int 0), (0, .ref h0), (1, .int p0), (2, .int p1), (3, .int p2), (4, .int p3), (5, .int p4), (6, .int p5), (7, .int p6)]) hx hb dX12_paid_62 hl (by decide) rfl (fun ls hl => ?_)
          refine lv_aload_n hx hb dX12_paid_64 rfl (lv_at hl 2 rfl) ?_
          refine va_get (D := (dC, dI)) (ci := 11) (v := .int (u.1 3)) (C := RX12) (T := TX12) (N := 52) hx hb hts (by decide +kernel) hown hK hP 0 rfl rfl 3 (by decide) (hts (.fieldLink RX12 147 "PageOneModel" "items" "I") (by decide +kernel)) (fun _ h9 => h9) rfl dX12_paid_65 ?_
          refine lv_bipush (v := 80) hx hb dX12_paid_68 (by decide) ?_
          refine lv_icmp_eq (tgt := 121) hx hb dX12_paid_70 (by decide) (fun c_71 => ?_) (fun c_71 => ?_)
          ·
            refine lv_iconst (v := (-1)) hx hb dX12_paid_121 (by decide) ?_
            exact W.iret (v := (-1)) hx hb hr (fun t ht hW => ⟨⟨(-1), u, rfl, (by first | (unfold mPaid; rw [if_pos b_1, if_neg (bne b_3), if_pos b_67, if_pos b_69, if_pos c_71]; done) | (unfold mPaid; rw [if_pos b_1, if_neg (bne b_3), if_pos b_67, if_pos b_69, if_pos c_71]; rfl) | (simp [mPaid, b_1, b_3, b_67, b_69, c_71]; done)), by rw [ht]; exact hP, hD⟩, hS.F ht⟩) hS.2.2 dX12_paid_122
          ·
            refine lv_iload_n hx hb dX12_paid_73 rfl (lv_at hl 3 rfl) ?_
            refine vp_callSi (va_runS (As := [.int p0]) (rest := []) ⟨hx, hb, hml, hown, hts⟩ (m_isBuyer l dC dI p0) (va_cwS 1 hts gX12_paid_X12_isBuyer rfl rfl rfl (by decide +kernel) ⟨Nat.le_of_ble_eq_true rfl, Nat.le_of_ble_eq_true rfl⟩) ⟨pw_fb, fun U hU hW => ⟨rfl, pw_to hU hW (hP.sub (ws' := []) [] rfl) (hK.sub (tys' := []) [] rfl) hN⟩⟩ rfl rfl hl.1 rfl (lv_room (Nat.le_of_ble_eq_true rfl)) dX12_paid_74 ⟨Nat.le_of_ble_eq_true rfl, Nat.le_of_ble_eq_true rfl⟩).run (fun r hw => ?_)
            rcases Bool.eq_false_or_eq_true (bw p0 0 9) with b_72 | b_72
            ·
              obtain rfl : r = 1 := b_t hw b_72
              refine lv_if_eq (tgt := 121) hx hb dX12_paid_77 (by decide) (fun c_73 => absurd c_73 (by decide)) (fun c_73 => ?_)
              refine lv_iload hx hb dX12_paid_80 (lv_at hl 1 rfl) ?_
              refine lv_if_eq (tgt := 121) hx hb dX12_paid_82 (by decide) (fun c_74 => ?_) (fun c_74 => absurd (by decide) c_74)
              refine lv_iconst (v := (-1)) hx hb dX12_paid_121 (by decide) ?_
              exact W.iret (v := (-1)) hx hb hr (fun t ht hW => ⟨⟨(-1), u, rfl, (by first | (unfold mPaid; rw [if_pos b_1, if_neg (bne b_3), if_pos b_67, if_pos b_69, if_neg c_71, if_pos b_72]; done) | (unfold mPaid; rw [if_pos b_1, if_neg (bne b_3), if_pos b_67, if_pos b_69, if_neg c_71, if_pos b_72]; rfl) | (simp [mPaid, b_1, b_3, b_67, b_69, b_72, c_71]; done)), by rw [ht]; exact hP, hD⟩, hS.F ht⟩) hS.2.2 dX12_paid_122
            ·
              obtain rfl : r = 0 := b_f hw b_72
              refine lv_if_eq (tgt := 121) hx hb dX12_paid_77 (by decide) (fun c_75 => ?_) (fun c_75 => absurd (by decide) c_75)
              refine lv_iconst (v := (-1)) hx hb dX12_paid_121 (by decide) ?_
              exact W.iret (v := (-1)) hx hb hr (fun t ht hW => ⟨⟨(-1), u, rfl, (by first | (unfold mPaid; rw [if_pos b_1, if_neg (bne b_3), if_pos b_67, if_pos b_69, if_neg c_71, if_neg (bne b_72)]; done) | (unfold mPaid; rw [if_pos b_1, if_neg (bne b_3), if_pos b_67, if_pos b_69, if_neg c_71, if_neg (bne b_72)]; rfl) | (simp [mPaid, b_1, b_3, b_67, b_69, b_72, c_71]; done)), by rw [ht]; exact hP, hD⟩, hS.F ht⟩) hS.2.2 dX12_paid_122
        ·
          obtain rfl : r = 0 := b_f hw b_69
          refine lv_if_eq (tgt := 61) hx hb dX12_paid_54 (by decide) (fun c_76 => ?_) (fun c_76 => absurd (by decide) c_76)
          refine lv_iconst (v := 0) hx hb dX12_paid_61 (by decide) ?_
          refine lv_istore (lv' := [(9, .int 0), (8, .int 0), (0, .ref h0), (1, .int p0), (2, .int p1), (3, .int p2), (4, .int p3), (5, .int p4), (6, .int p5), (7, .int p6)]) hx hb dX12_paid_62 hl (by decide) rfl (fun ls hl => ?_)
          refine lv_aload_n hx hb dX12_paid_64 rfl (lv_at hl 2 rfl) ?_
          refine va_get (D := (dC, dI)) (ci := 11) (v := .int (u.1 3)) (C := RX12) (T := TX12) (N := 52) hx hb hts (by decide +kernel) hown hK hP 0 rfl rfl 3 (by decide) (hts (.fieldLink RX12 147 "PageOneModel" "items" "I") (by decide +kernel)) (fun _ h9 => h9) rfl dX12_paid_65 ?_
          refine lv_bipush (v := 80) hx hb dX12_paid_68 (by decide) ?_
          refine lv_icmp_eq (tgt := 121) hx hb dX12_paid_70 (by decide) (fun c_77 => ?_) (fun c_77 => ?_)
          ·
            refine lv_iconst (v := (-1)) hx hb dX12_paid_121 (by decide) ?_
            exact W.iret (v := (-1)) hx hb hr (fun t ht hW => ⟨⟨(-1), u, rfl, (by first | (unfold mPaid; rw [if_pos b_1, if_neg (bne b_3), if_pos b_67, if_neg (bne b_69), if_pos c_77]; done) | (unfold mPaid; rw [if_pos b_1, if_neg (bne b_3), if_pos b_67, if_neg (bne b_69), if_pos c_77]; rfl) | (simp [mPaid, b_1, b_3, b_67, b_69, c_77]; done)), by rw [ht]; exact hP, hD⟩, hS.F ht⟩) hS.2.2 dX12_paid_122
          ·
            refine lv_iload_n hx hb dX12_paid_73 rfl (lv_at hl 3 rfl) ?_
            refine vp_callSi (va_runS (As := [.int p0]) (rest := []) ⟨hx, hb, hml, hown, hts⟩ (m_isBuyer l dC dI p0) (va_cwS 1 hts gX12_paid_X12_isBuyer rfl rfl rfl (by decide +kernel) ⟨Nat.le_of_ble_eq_true rfl, Nat.le_of_ble_eq_true rfl⟩) ⟨pw_fb, fun U hU hW => ⟨rfl, pw_to hU hW (hP.sub (ws' := []) [] rfl) (hK.sub (tys' := []) [] rfl) hN⟩⟩ rfl rfl hl.1 rfl (lv_room (Nat.le_of_ble_eq_true rfl)) dX12_paid_74 ⟨Nat.le_of_ble_eq_true rfl, Nat.le_of_ble_eq_true rfl⟩).run (fun r hw => ?_)
            rcases Bool.eq_false_or_eq_true (bw p0 0 9) with b_78 | b_78
            ·
              obtain rfl : r = 1 := b_t hw b_78
              refine lv_if_eq (tgt := 121) hx hb dX12_paid_77 (by decide) (fun c_79 => absurd c_79 (by decide)) (fun c_79 => ?_)
              refine lv_iload hx hb dX12_paid_80 (lv_at hl 1 rfl) ?_
              refine lv_if_eq (tgt := 121) hx hb dX12_paid_82 (by decide) (fun c_80 => ?_) (fun c_80 => absurd (by decide) c_80)
              refine lv_iconst (v := (-1)) hx hb dX12_paid_121 (by decide) ?_
              exact W.iret (v := (-1)) hx hb hr (fun t ht hW => ⟨⟨(-1), u, rfl, (by first | (unfold mPaid; rw [if_pos b_1, if_neg (bne b_3), if_pos b_67, if_neg (bne b_69), if_neg c_77, if_pos b_78]; done) | (unfold mPaid; rw [if_pos b_1, if_neg (bne b_3), if_pos b_67, if_neg (bne b_69), if_neg c_77, if_pos b_78]; rfl) | (simp [mPaid, b_1, b_3, b_67, b_69, b_78, c_77]; done)), by rw [ht]; exact hP, hD⟩, hS.F ht⟩) hS.2.2 dX12_paid_122
            ·
              obtain rfl : r = 0 := b_f hw b_78
              refine lv_if_eq (tgt := 121) hx hb dX12_paid_77 (by decide) (fun c_81 => ?_) (fun c_81 => absurd (by decide) c_81)
              refine lv_iconst (v := (-1)) hx hb dX12_paid_121 (by decide) ?_
              exact W.iret (v := (-1)) hx hb hr (fun t ht hW => ⟨⟨(-1), u, rfl, (by first | (unfold mPaid; rw [if_pos b_1, if_neg (bne b_3), if_pos b_67, if_neg (bne b_69), if_neg c_77, if_neg (bne b_78)]; done) | (unfold mPaid; rw [if_pos b_1, if_neg (bne b_3), if_pos b_67, if_neg (bne b_69), if_neg c_77, if_neg (bne b_78)]; rfl) | (simp [mPaid, b_1, b_3, b_67, b_69, b_78, c_77]; done)), by rw [ht]; exact hP, hD⟩, hS.F ht⟩) hS.2.2 dX12_paid_122
      ·
        obtain rfl : r = 0 := b_f hw b_67
        refine lv_if_eq (tgt := 61) hx hb dX12_paid_43 (by decide) (fun c_82 => ?_) (fun c_82 => absurd (by decide) c_82)
        refine lv_iconst (v := 0) hx hb dX12_paid_61 (by decide) ?_
        refine lv_istore (lv' := [(9, .int 0), (8, .int 0), (0, .ref h0), (1, .int p0), (2, .int p1), (3, .int p2), (4, .int p3), (5, .int p4), (6, .int p5), (7, .int p6)]) hx hb dX12_paid_62 hl (by decide) rfl (fun ls hl => ?_)
        refine lv_aload_n hx hb dX12_paid_64 rfl (lv_at hl 2 rfl) ?_
        refine va_get (D := (dC, dI)) (ci := 11) (v := .int (u.1 3)) (C := RX12) (T := TX12) (N := 52) hx hb hts (by decide +kernel) hown hK hP 0 rfl rfl 3 (by decide) (hts (.fieldLink RX12 147 "PageOneModel" "items" "I") (by decide +kernel)) (fun _ h9 => h9) rfl dX12_paid_65 ?_
        refine lv_bipush (v := 80) hx hb dX12_paid_68 (by decide) ?_
        refine lv_icmp_eq (tgt := 121) hx hb dX12_paid_70 (by decide) (fun c_83 => ?_) (fun c_83 => ?_)
        ·
          refine lv_iconst (v := (-1)) hx hb dX12_paid_121 (by decide) ?_
          exact W.iret (v := (-1)) hx hb hr (fun t ht hW => ⟨⟨(-1), u, rfl, (by first | (unfold mPaid; rw [if_pos b_1, if_neg (bne b_3), if_neg (bne b_67), if_pos c_83]; done) | (unfold mPaid; rw [if_pos b_1, if_neg (bne b_3), if_neg (bne b_67), if_pos c_83]; rfl) | (simp [mPaid, b_1, b_3, b_67, c_83]; done)), by rw [ht]; exact hP, hD⟩, hS.F ht⟩) hS.2.2 dX12_paid_122
        ·
          refine lv_iload_n hx hb dX12_paid_73 rfl (lv_at hl 3 rfl) ?_
          refine vp_callSi (va_runS (As := [.int p0]) (rest := []) ⟨hx, hb, hml, hown, hts⟩ (m_isBuyer l dC dI p0) (va_cwS 1 hts gX12_paid_X12_isBuyer rfl rfl rfl (by decide +kernel) ⟨Nat.le_of_ble_eq_true rfl, Nat.le_of_ble_eq_true rfl⟩) ⟨pw_fb, fun U hU hW => ⟨rfl, pw_to hU hW (hP.sub (ws' := []) [] rfl) (hK.sub (tys' := []) [] rfl) hN⟩⟩ rfl rfl hl.1 rfl (lv_room (Nat.le_of_ble_eq_true rfl)) dX12_paid_74 ⟨Nat.le_of_ble_eq_true rfl, Nat.le_of_ble_eq_true rfl⟩).run (fun r hw => ?_)
          rcases Bool.eq_false_or_eq_true (bw p0 0 9) with b_84 | b_84
          ·
            obtain rfl : r = 1 := b_t hw b_84
            refine lv_if_eq (tgt := 121) hx hb dX12_paid_77 (by decide) (fun c_85 => absurd c_85 (by decide)) (fun c_85 => ?_)
            refine lv_iload hx hb dX12_paid_80 (lv_at hl 1 rfl) ?_
            refine lv_if_eq (tgt := 121) hx hb dX12_paid_82 (by decide) (fun c_86 => ?_) (fun c_86 => absurd (by decide) c_86)
            refine lv_iconst (v := (-1)) hx hb dX12_paid_121 (by decide) ?_
            exact W.iret (v := (-1)) hx hb hr (fun t ht hW => ⟨⟨(-1), u, rfl, (by first | (unfold mPaid; rw [if_pos b_1, if_neg (bne b_3), if_neg (bne b_67), if_neg c_83, if_pos b_84]; done) | (unfold mPaid; rw [if_pos b_1, if_neg (bne b_3), if_neg (bne b_67), if_neg c_83, if_pos b_84]; rfl) | (simp [mPaid, b_1, b_3, b_67, b_84, c_83]; done)), by rw [ht]; exact hP, hD⟩, hS.F ht⟩) hS.2.2 dX12_paid_122
          ·
            obtain rfl : r = 0 := b_f hw b_84
            refine lv_if_eq (tgt := 121) hx hb dX12_paid_77 (by decide) (fun c_87 => ?_) (fun c_87 => absurd (by decide) c_87)
            refine lv_iconst (v := (-1)) hx hb dX12_paid_121 (by decide) ?_
            exact W.iret (v := (-1)) hx hb hr (fun t ht hW => ⟨⟨(-1), u, rfl, (by first | (unfold mPaid; rw [if_pos b_1, if_neg (bne b_3), if_neg (bne b_67), if_neg c_83, if_neg (bne b_84)]; done) | (unfold mPaid; rw [if_pos b_1, if_neg (bne b_3), if_neg (bne b_67), if_neg c_83, if_neg (bne b_84)]; rfl) | (simp [mPaid, b_1, b_3, b_67, b_84, c_83]; done)), by rw [ht]; exact hP, hD⟩, hS.F ht⟩) hS.2.2 dX12_paid_122
  ·
    obtain rfl : r = 0 := b_f hw b_1
    refine lv_if_eq (tgt := 32) hx hb dX12_paid_4 (by decide) (fun c_88 => ?_) (fun c_88 => absurd (by decide) c_88)
    refine lv_iconst (v := 0) hx hb dX12_paid_32 (by decide) ?_
    refine lv_istore (lv' := [(8, .int 0), (0, .ref h0), (1, .int p0), (2, .int p1), (3, .int p2), (4, .int p3), (5, .int p4), (6, .int p5), (7, .int p6)]) hx hb dX12_paid_33 hl (by decide) rfl (fun ls hl => ?_)
    refine lv_iload hx hb dX12_paid_35 (lv_at hl 6 rfl) ?_
    refine lv_iconst (v := 1) hx hb dX12_paid_37 (by decide) ?_
    refine lv_bipush (v := 8) hx hb dX12_paid_38 (by decide) ?_
    refine vp_callSi (va_runS (As := [.int p4, .int 1, .int 8]) (rest := []) ⟨hx, hb, hml, hown, hts⟩ (m_in l dC dI p4 1 8) (va_cwS 3 hts gX12_paid_X12_in rfl rfl rfl (by decide +kernel) ⟨Nat.le_of_ble_eq_true rfl, Nat.le_of_ble_eq_true rfl⟩) ⟨pw_fb, fun U hU hW => ⟨rfl, pw_to hU hW (hP.sub (ws' := []) [] rfl) (hK.sub (tys' := []) [] rfl) hN⟩⟩ rfl rfl hl.1 rfl (lv_room (Nat.le_of_ble_eq_true rfl)) dX12_paid_40 ⟨Nat.le_of_ble_eq_true rfl, Nat.le_of_ble_eq_true rfl⟩).run (fun r hw => ?_)
    rcases Bool.eq_false_or_eq_true (bw p4 1 8) with b_89 | b_89
    ·
      obtain rfl : r = 1 := b_t hw b_89
      refine lv_if_eq (tgt := 61) hx hb dX12_paid_43 (by decide) (fun c_90 => absurd c_90 (by decide)) (fun c_90 => ?_)
      refine lv_iload hx hb dX12_paid_46 (lv_at hl 7 rfl) ?_
      refine lv_iconst (v := 1) hx hb dX12_paid_48 (by decide) ?_
      refine lv_bipush (v := 60) hx hb dX12_paid_49 (by decide) ?_
      refine vp_callSi (va_runS (As := [.int p5, .int 1, .int 60]) (rest := []) ⟨hx, hb, hml, hown, hts⟩ (m_in l dC dI p5 1 60) (va_cwS 3 hts gX12_paid_X12_in rfl rfl rfl (by decide +kernel) ⟨Nat.le_of_ble_eq_true rfl, Nat.le_of_ble_eq_true rfl⟩) ⟨pw_fb, fun U hU hW => ⟨rfl, pw_to hU hW (hP.sub (ws' := []) [] rfl) (hK.sub (tys' := []) [] rfl) hN⟩⟩ rfl rfl hl.1 rfl (lv_room (Nat.le_of_ble_eq_true rfl)) dX12_paid_51 ⟨Nat.le_of_ble_eq_true rfl, Nat.le_of_ble_eq_true rfl⟩).run (fun r hw => ?_)
      rcases Bool.eq_false_or_eq_true (bw p5 1 60) with b_91 | b_91
      ·
        obtain rfl : r = 1 := b_t hw b_91
        refine lv_if_eq (tgt := 61) hx hb dX12_paid_54 (by decide) (fun c_92 => absurd c_92 (by decide)) (fun c_92 => ?_)
        refine lv_iconst (v := 1) hx hb dX12_paid_57 (by decide) ?_
        refine lv_goto (tgt := 62) hx hb dX12_paid_58 (by decide) ?_
        refine lv_istore (lv' := [(9, .int 1), (8, .int 0), (0, .ref h0), (1, .int p0), (2, .int p1), (3, .int p2), (4, .int p3), (5, .int p4), (6, .int p5), (7, .int p6)]) hx hb dX12_paid_62 hl (by decide) rfl (fun ls hl => ?_)
        refine lv_aload_n hx hb dX12_paid_64 rfl (lv_at hl 2 rfl) ?_
        refine va_get (D := (dC, dI)) (ci := 11) (v := .int (u.1 3)) (C := RX12) (T := TX12) (N := 52) hx hb hts (by decide +kernel) hown hK hP 0 rfl rfl 3 (by decide) (hts (.fieldLink RX12 147 "PageOneModel" "items" "I") (by decide +kernel)) (fun _ h9 => h9) rfl dX12_paid_65 ?_
        refine lv_bipush (v := 80) hx hb dX12_paid_68 (by decide) ?_
        refine lv_icmp_eq (tgt := 121) hx hb dX12_paid_70 (by decide) (fun c_93 => ?_) (fun c_93 => ?_)
        ·
          refine lv_iconst (v := (-1)) hx hb dX12_paid_121 (by decide) ?_
          exact W.iret (v := (-1)) hx hb hr (fun t ht hW => ⟨⟨(-1), u, rfl, (by first | (unfold mPaid; rw [if_neg (bne b_1), if_pos b_89, if_pos b_91, if_pos c_93]; done) | (unfold mPaid; rw [if_neg (bne b_1), if_pos b_89, if_pos b_91, if_pos c_93]; rfl) | (simp [mPaid, b_1, b_89, b_91, c_93]; done)), by rw [ht]; exact hP, hD⟩, hS.F ht⟩) hS.2.2 dX12_paid_122
        ·
          refine lv_iload_n hx hb dX12_paid_73 rfl (lv_at hl 3 rfl) ?_
          refine vp_callSi (va_runS (As := [.int p0]) (rest := []) ⟨hx, hb, hml, hown, hts⟩ (m_isBuyer l dC dI p0) (va_cwS 1 hts gX12_paid_X12_isBuyer rfl rfl rfl (by decide +kernel) ⟨Nat.le_of_ble_eq_true rfl, Nat.le_of_ble_eq_true rfl⟩) ⟨pw_fb, fun U hU hW => ⟨rfl, pw_to hU hW (hP.sub (ws' := []) [] rfl) (hK.sub (tys' := []) [] rfl) hN⟩⟩ rfl rfl hl.1 rfl (lv_room (Nat.le_of_ble_eq_true rfl)) dX12_paid_74 ⟨Nat.le_of_ble_eq_true rfl, Nat.le_of_ble_eq_true rfl⟩).run (fun r hw => ?_)
          rcases Bool.eq_false_or_eq_true (bw p0 0 9) with b_94 | b_94
          ·
            obtain rfl : r = 1 := b_t hw b_94
            refine lv_if_eq (tgt := 121) hx hb dX12_paid_77 (by decide) (fun c_95 => absurd c_95 (by decide)) (fun c_95 => ?_)
            refine lv_iload hx hb dX12_paid_80 (lv_at hl 1 rfl) ?_
            refine lv_if_eq (tgt := 121) hx hb dX12_paid_82 (by decide) (fun c_96 => ?_) (fun c_96 => absurd (by decide) c_96)
            refine lv_iconst (v := (-1)) hx hb dX12_paid_121 (by decide) ?_
            exact W.iret (v := (-1)) hx hb hr (fun t ht hW => ⟨⟨(-1), u, rfl, (by first | (unfold mPaid; rw [if_neg (bne b_1), if_pos b_89, if_pos b_91, if_neg c_93, if_pos b_94]; done) | (unfold mPaid; rw [if_neg (bne b_1), if_pos b_89, if_pos b_91, if_neg c_93, if_pos b_94]; rfl) | (simp [mPaid, b_1, b_89, b_91, b_94, c_93]; done)), by rw [ht]; exact hP, hD⟩, hS.F ht⟩) hS.2.2 dX12_paid_122
          ·
            obtain rfl : r = 0 := b_f hw b_94
            refine lv_if_eq (tgt := 121) hx hb dX12_paid_77 (by decide) (fun c_97 => ?_) (fun c_97 => absurd (by decide) c_97)
            refine lv_iconst (v := (-1)) hx hb dX12_paid_121 (by decide) ?_
            exact W.iret (v := (-1)) hx hb hr (fun t ht hW => ⟨⟨(-1), u, rfl, (by first | (unfold mPaid; rw [if_neg (bne b_1), if_pos b_89, if_pos b_91, if_neg c_93, if_neg (bne b_94)]; done) | (unfold mPaid; rw [if_neg (bne b_1), if_pos b_89, if_pos b_91, if_neg c_93, if_neg (bne b_94)]; rfl) | (simp [mPaid, b_1, b_89, b_91, b_94, c_93]; done)), by rw [ht]; exact hP, hD⟩, hS.F ht⟩) hS.2.2 dX12_paid_122
      ·
        obtain rfl : r = 0 := b_f hw b_91
        refine lv_if_eq (tgt := 61) hx hb dX12_paid_54 (by decide) (fun c_98 => ?_) (fun c_98 => absurd (by decide) c_98)
        refine lv_iconst (v := 0) hx hb dX12_paid_61 (by decide) ?_
        refine lv_istore (lv' := [(9, .int 0), (8, .int 0), (0, .ref h0), (1, .int p0), (2, .int p1), (3, .int p2), (4, .int p3), (5, .int p4), (6, .int p5), (7, .int p6)]) hx hb dX12_paid_62 hl (by decide) rfl (fun ls hl => ?_)
        refine lv_aload_n hx hb dX12_paid_64 rfl (lv_at hl 2 rfl) ?_
        refine va_get (D := (dC, dI)) (ci := 11) (v := .int (u.1 3)) (C := RX12) (T := TX12) (N := 52) hx hb hts (by decide +kernel) hown hK hP 0 rfl rfl 3 (by decide) (hts (.fieldLink RX12 147 "PageOneModel" "items" "I") (by decide +kernel)) (fun _ h9 => h9) rfl dX12_paid_65 ?_
        refine lv_bipush (v := 80) hx hb dX12_paid_68 (by decide) ?_
        refine lv_icmp_eq (tgt := 121) hx hb dX12_paid_70 (by decide) (fun c_99 => ?_) (fun c_99 => ?_)
        ·
          refine lv_iconst (v := (-1)) hx hb dX12_paid_121 (by decide) ?_
          exact W.iret (v := (-1)) hx hb hr (fun t ht hW => ⟨⟨(-1), u, rfl, (by first | (unfold mPaid; rw [if_neg (bne b_1), if_pos b_89, if_neg (bne b_91), if_pos c_99]; done) | (unfold mPaid; rw [if_neg (bne b_1), if_pos b_89, if_neg (bne b_91), if_pos c_99]; rfl) | (simp [mPaid, b_1, b_89, b_91, c_99]; done)), by rw [ht]; exact hP, hD⟩, hS.F ht⟩) hS.2.2 dX12_paid_122
        ·
          refine lv_iload_n hx hb dX12_paid_73 rfl (lv_at hl 3 rfl) ?_
          refine vp_callSi (va_runS (As := [.int p0]) (rest := []) ⟨hx, hb, hml, hown, hts⟩ (m_isBuyer l dC dI p0) (va_cwS 1 hts gX12_paid_X12_isBuyer rfl rfl rfl (by decide +kernel) ⟨Nat.le_of_ble_eq_true rfl, Nat.le_of_ble_eq_true rfl⟩) ⟨pw_fb, fun U hU hW => ⟨rfl, pw_to hU hW (hP.sub (ws' := []) [] rfl) (hK.sub (tys' := []) [] rfl) hN⟩⟩ rfl rfl hl.1 rfl (lv_room (Nat.le_of_ble_eq_true rfl)) dX12_paid_74 ⟨Nat.le_of_ble_eq_true rfl, Nat.le_of_ble_eq_true rfl⟩).run (fun r hw => ?_)
          rcases Bool.eq_false_or_eq_true (bw p0 0 9) with b_100 | b_100
          ·
            obtain rfl : r = 1 := b_t hw b_100
            refine lv_if_eq (tgt := 121) hx hb dX12_paid_77 (by decide) (fun c_101 => absurd c_101 (by decide)) (fun c_101 => ?_)
            refine lv_iload hx hb dX12_paid_80 (lv_at hl 1 rfl) ?_
            refine lv_if_eq (tgt := 121) hx hb dX12_paid_82 (by decide) (fun c_102 => ?_) (fun c_102 => absurd (by decide) c_102)
            refine lv_iconst (v := (-1)) hx hb dX12_paid_121 (by decide) ?_
            exact W.iret (v := (-1)) hx hb hr (fun t ht hW => ⟨⟨(-1), u, rfl, (by first | (unfold mPaid; rw [if_neg (bne b_1), if_pos b_89, if_neg (bne b_91), if_neg c_99, if_pos b_100]; done) | (unfold mPaid; rw [if_neg (bne b_1), if_pos b_89, if_neg (bne b_91), if_neg c_99, if_pos b_100]; rfl) | (simp [mPaid, b_1, b_89, b_91, b_100, c_99]; done)), by rw [ht]; exact hP, hD⟩, hS.F ht⟩) hS.2.2 dX12_paid_122
          ·
            obtain rfl : r = 0 := b_f hw b_100
            refine lv_if_eq (tgt := 121) hx hb dX12_paid_77 (by decide) (fun c_103 => ?_) (fun c_103 => absurd (by decide) c_103)
            refine lv_iconst (v := (-1)) hx hb dX12_paid_121 (by decide) ?_
            exact W.iret (v := (-1)) hx hb hr (fun t ht hW => ⟨⟨(-1), u, rfl, (by first | (unfold mPaid; rw [if_neg (bne b_1), if_pos b_89, if_neg (bne b_91), if_neg c_99, if_neg (bne b_100)]; done) | (unfold mPaid; rw [if_neg (bne b_1), if_pos b_89, if_neg (bne b_91), if_neg c_99, if_neg (bne b_100)]; rfl) | (simp [mPaid, b_1, b_89, b_91, b_100, c_99]; done)), by rw [ht]; exact hP, hD⟩, hS.F ht⟩) hS.2.2 dX12_paid_122
    ·
      obtain rfl : r = 0 := b_f hw b_89
      refine lv_if_eq (tgt := 61) hx hb dX12_paid_43 (by decide) (fun c_104 => ?_) (fun c_104 => absurd (by decide) c_104)
      refine lv_iconst (v := 0) hx hb dX12_paid_61 (by decide) ?_
      refine lv_istore (lv' := [(9, .int 0), (8, .int 0), (0, .ref h0), (1, .int p0), (2, .int p1), (3, .int p2), (4, .int p3), (5, .int p4), (6, .int p5), (7, .int p6)]) hx hb dX12_paid_62 hl (by decide) rfl (fun ls hl => ?_)
      refine lv_aload_n hx hb dX12_paid_64 rfl (lv_at hl 2 rfl) ?_
      refine va_get (D := (dC, dI)) (ci := 11) (v := .int (u.1 3)) (C := RX12) (T := TX12) (N := 52) hx hb hts (by decide +kernel) hown hK hP 0 rfl rfl 3 (by decide) (hts (.fieldLink RX12 147 "PageOneModel" "items" "I") (by decide +kernel)) (fun _ h9 => h9) rfl dX12_paid_65 ?_
      refine lv_bipush (v := 80) hx hb dX12_paid_68 (by decide) ?_
      refine lv_icmp_eq (tgt := 121) hx hb dX12_paid_70 (by decide) (fun c_105 => ?_) (fun c_105 => ?_)
      ·
        refine lv_iconst (v := (-1)) hx hb dX12_paid_121 (by decide) ?_
        exact W.iret (v := (-1)) hx hb hr (fun t ht hW => ⟨⟨(-1), u, rfl, (by first | (unfold mPaid; rw [if_neg (bne b_1), if_neg (bne b_89), if_pos c_105]; done) | (unfold mPaid; rw [if_neg (bne b_1), if_neg (bne b_89), if_pos c_105]; rfl) | (simp [mPaid, b_1, b_89, c_105]; done)), by rw [ht]; exact hP, hD⟩, hS.F ht⟩) hS.2.2 dX12_paid_122
      ·
        refine lv_iload_n hx hb dX12_paid_73 rfl (lv_at hl 3 rfl) ?_
        refine vp_callSi (va_runS (As := [.int p0]) (rest := []) ⟨hx, hb, hml, hown, hts⟩ (m_isBuyer l dC dI p0) (va_cwS 1 hts gX12_paid_X12_isBuyer rfl rfl rfl (by decide +kernel) ⟨Nat.le_of_ble_eq_true rfl, Nat.le_of_ble_eq_true rfl⟩) ⟨pw_fb, fun U hU hW => ⟨rfl, pw_to hU hW (hP.sub (ws' := []) [] rfl) (hK.sub (tys' := []) [] rfl) hN⟩⟩ rfl rfl hl.1 rfl (lv_room (Nat.le_of_ble_eq_true rfl)) dX12_paid_74 ⟨Nat.le_of_ble_eq_true rfl, Nat.le_of_ble_eq_true rfl⟩).run (fun r hw => ?_)
        rcases Bool.eq_false_or_eq_true (bw p0 0 9) with b_106 | b_106
        ·
          obtain rfl : r = 1 := b_t hw b_106
          refine lv_if_eq (tgt := 121) hx hb dX12_paid_77 (by decide) (fun c_107 => absurd c_107 (by decide)) (fun c_107 => ?_)
          refine lv_iload hx hb dX12_paid_80 (lv_at hl 1 rfl) ?_
          refine lv_if_eq (tgt := 121) hx hb dX12_paid_82 (by decide) (fun c_108 => ?_) (fun c_108 => absurd (by decide) c_108)
          refine lv_iconst (v := (-1)) hx hb dX12_paid_121 (by decide) ?_
          exact W.iret (v := (-1)) hx hb hr (fun t ht hW => ⟨⟨(-1), u, rfl, (by first | (unfold mPaid; rw [if_neg (bne b_1), if_neg (bne b_89), if_neg c_105, if_pos b_106]; done) | (unfold mPaid; rw [if_neg (bne b_1), if_neg (bne b_89), if_neg c_105, if_pos b_106]; rfl) | (simp [mPaid, b_1, b_89, b_106, c_105]; done)), by rw [ht]; exact hP, hD⟩, hS.F ht⟩) hS.2.2 dX12_paid_122
        ·
          obtain rfl : r = 0 := b_f hw b_106
          refine lv_if_eq (tgt := 121) hx hb dX12_paid_77 (by decide) (fun c_109 => ?_) (fun c_109 => absurd (by decide) c_109)
          refine lv_iconst (v := (-1)) hx hb dX12_paid_121 (by decide) ?_
          exact W.iret (v := (-1)) hx hb hr (fun t ht hW => ⟨⟨(-1), u, rfl, (by first | (unfold mPaid; rw [if_neg (bne b_1), if_neg (bne b_89), if_neg c_105, if_neg (bne b_106)]; done) | (unfold mPaid; rw [if_neg (bne b_1), if_neg (bne b_89), if_neg c_105, if_neg (bne b_106)]; rfl) | (simp [mPaid, b_1, b_89, b_106, c_105]; done)), by rw [ht]; exact hP, hD⟩, hS.F ht⟩) hS.2.2 dX12_paid_122
set_option maxHeartbeats 4000000 in
set_option maxRecDepth 100000 in
theorem m_line (l : Launch) (dC : Nat → ClassId) (dI : Nat → Nat → Nat) (h0 : Nat) (v : Nat → Nat) (cI cZ : ClassId) (u : mS) (p0 p1 : Int32) (hn : bw (u.1 3) 0 80 = true) (hc : ∀ j, j < 80 → bw (u.2 15 j) 0 80 = true) (sz : Nat) : Met l yX12_line wsX12_line ({ frames := 3, cells := 0, slots := 0, locals := 65 }) (va_Pc [.ref h0, .int p0, .int p1] (fun U => U.heap.size = sz ∧ PW dC dI (mW h0 v cI cZ u) [(cI, .int), (cZ, .boolean)] U ∧ va_D (fun _ => True) (mW h0 v cI cZ u))) (va_Qi (fun (r : Int32) (u9 : mS) => (r, u9) = mLine u p0 p1) (fun u9 t => va_P (dC, dI) vwCl (mW h0 v cI cZ u9) t.heap ∧ va_D (va_A (mW h0 v cI cZ u) sz) (mW h0 v cI cZ u9)) (va_A (mW h0 v cI cZ u) sz)) 0 0 (va_A (mW h0 v cI cZ u) sz) := by
  refine Met.ofW (cc := cX12_line) (maxL := 3) (ret := (some .int)) (by decide) rfl ?_
  intro p e s m args below meth c s₁ B hml hv
  obtain ⟨rfl, hsz, ⟨hP, hK, hN⟩, hD0⟩ := hv
  have hx := B.exec
  have hb := B.bytes
  have hr := B.returns
  have hts := atoms_spec (ws := wsX12_line) B.pre
  have hown : s.vm.findClass RX12 = some m.cls := findClass_of_methodNamed B.named
  have hlocks := B.notSynchronized
  subst hsz
  have hD := hD0.self (sz := s.heap.size)
  generalize hAe : va_A (mW h0 v cI cZ u) s.heap.size = A at hD ⊢
  have hA : ∀ q : Nat, s.heap.size ≤ q → A q := fun q h => by rw [← hAe]; exact Or.inr h
  have hS : va_S A s.heap s.heap [] := va_S.rf
  have hl := lv_entry ([.ref h0, .int p0, .int p1]) (n := 3) (Nat.le_of_ble_eq_true rfl)
  rw [lg_entry_eq]
  generalize (lg_sl ([.ref h0, .int p0, .int p1]) ++ List.replicate (3 - (lg_sl ([.ref h0, .int p0, .int p1])).length) Slot.unset).toArray = ls at hl ⊢
  have hl : lv_has ls 3 [(0, .ref h0), (1, .int p0), (2, .int p1)] := hl
  refine lv_aload_n hx hb dX12_line_0 rfl (lv_at hl 0 rfl) ?_
  refine lv_iload_n hx hb dX12_line_1 rfl (lv_at hl 1 rfl) ?_
  refine lv_iconst (v := 0) hx hb dX12_line_2 (by decide) ?_
  refine vp_callSi (va_runV (As := [.int p0, .int 0]) (rest := []) ⟨hx, hb, hml, hown, hts⟩ (m_isKind l dC dI h0 v cI cZ u p0 0 hn) (cwV 2 hts gX12_line_X12_isKind rfl rfl rfl (by decide +kernel) ⟨Nat.le_of_ble_eq_true rfl, Nat.le_of_ble_eq_true rfl⟩) ⟨pw_fb, va_recv hK hP (ci := 11) (q0 := 0) rfl rfl, fun U hU hW => ⟨rfl, pw_to hU hW hP hK hN⟩⟩ rfl rfl hl.1 rfl (lv_room (Nat.le_of_ble_eq_true rfl)) dX12_line_3 ⟨Nat.le_of_ble_eq_true rfl, Nat.le_of_ble_eq_true rfl⟩).run (fun r hw => ?_)
  rcases Bool.eq_false_or_eq_true (mKind u p0 0) with b_1 | b_1
  ·
    obtain rfl : r = 1 := b_t hw b_1
    obtain ⟨b_2, d_3⟩ := band b_1
    refine lv_if_eq (tgt := 31) hx hb dX12_line_6 (by decide) (fun c_4 => absurd c_4 (by decide)) (fun c_4 => ?_)
    refine lv_iload_n hx hb dX12_line_9 rfl (lv_at hl 2 rfl) ?_
    refine lv_iconst (v := 1) hx hb dX12_line_10 (by decide) ?_
    refine lv_sipush (v := 200) hx hb dX12_line_11 (by decide) ?_
    refine vp_callSi (va_runS (As := [.int p1, .int 1, .int 200]) (rest := []) ⟨hx, hb, hml, hown, hts⟩ (m_in l dC dI p1 1 200) (va_cwS 3 hts gX12_line_X12_in rfl rfl rfl (by decide +kernel) ⟨Nat.le_of_ble_eq_true rfl, Nat.le_of_ble_eq_true rfl⟩) ⟨pw_fb, fun U hU hW => ⟨rfl, pw_to hU hW (hP.sub (ws' := []) [] rfl) (hK.sub (tys' := []) [] rfl) hN⟩⟩ rfl rfl hl.1 rfl (lv_room (Nat.le_of_ble_eq_true rfl)) dX12_line_14 ⟨Nat.le_of_ble_eq_true rfl, Nat.le_of_ble_eq_true rfl⟩).run (fun r hw => ?_)
    rcases Bool.eq_false_or_eq_true (bw p1 1 200) with b_5 | b_5
    ·
      obtain rfl : r = 1 := b_t hw b_5
      refine lv_if_eq (tgt := 31) hx hb dX12_line_17 (by decide) (fun c_6 => absurd c_6 (by decide)) (fun c_6 => ?_)
      refine lv_aload_n hx hb dX12_line_20 rfl (lv_at hl 0 rfl) ?_
      refine va_get (D := (dC, dI)) (ci := 11) (v := .ref (v 15)) (C := RX12) (T := TX12) (N := 52) hx hb hts (by decide +kernel) hown hK hP 0 rfl rfl 15 (by decide) (hts (.fieldLink RX12 52 "PageOneModel" "come" "[I") (by decide +kernel)) (fun _ h9 => h9) rfl dX12_line_21 ?_
      refine lv_iload_n hx hb dX12_line_24 rfl (lv_at hl 1 rfl) ?_
      refine va_iald hx hb hK hP 15 0 rfl rfl (vIt hn b_2) dX12_line_25 ?_
      refine lv_bipush (v := 80) hx hb dX12_line_26 (by decide) ?_
      refine lv_icmp_ne (tgt := 33) hx hb dX12_line_28 (by decide) (fun c_7 => ?_) (fun c_7 => ?_)
      ·
        refine lv_aload_n hx hb dX12_line_33 rfl (lv_at hl 0 rfl) ?_
        refine va_get (D := (dC, dI)) (ci := 11) (v := .ref (v 16)) (C := RX12) (T := TX12) (N := 52) hx hb hts (by decide +kernel) hown hK hP 0 rfl rfl 16 (by decide) (hts (.fieldLink RX12 55 "PageOneModel" "width" "[I") (by decide +kernel)) (fun _ h9 => h9) rfl dX12_line_34 ?_
        refine lv_bipush (v := 80) hx hb dX12_line_37 (by decide) ?_
        refine lv_iload_n hx hb dX12_line_39 rfl (lv_at hl 1 rfl) ?_
        refine lv_imul hx hb dX12_line_40 ?_
        refine lv_aload_n hx hb dX12_line_41 rfl (lv_at hl 0 rfl) ?_
        refine va_get (D := (dC, dI)) (ci := 11) (v := .ref (v 15)) (C := RX12) (T := TX12) (N := 52) hx hb hts (by decide +kernel) hown hK hP 0 rfl rfl 15 (by decide) (hts (.fieldLink RX12 52 "PageOneModel" "come" "[I") (by decide +kernel)) (fun _ h9 => h9) rfl dX12_line_42 ?_
        refine lv_iload_n hx hb dX12_line_45 rfl (lv_at hl 1 rfl) ?_
        refine va_iald hx hb hK hP 15 0 rfl rfl (vIt hn b_2) dX12_line_46 ?_
        refine lv_iadd hx hb dX12_line_47 ?_
        refine lv_iload_n hx hb dX12_line_48 rfl (lv_at hl 2 rfl) ?_
        refine va_iast hx hb hK hP hD hS 16 0 rfl rfl (vLine hn b_2 (hc p0.toNatClampNeg (vlt (vIt hn b_2))) c_7) dX12_line_49 (fun H locs hP hD hS => ?_)
        obtain ⟨u_8, eu_8⟩ : ∃ zz : mS, zz = mst u 16 ((80 * p0) + (u.2 15 (p0 : Int32).toNatClampNeg)) p1 := ⟨_, rfl⟩
        have hP : va_P (dC, dI) vwCl (mW h0 v cI cZ u_8) H := by rw [eu_8]; exact hP
        have hD : va_D A (mW h0 v cI cZ u_8) := by rw [eu_8]; exact hD
        refine lv_aload_n hx hb dX12_line_50 rfl (lv_at hl 0 rfl) ?_
        refine va_get (D := (dC, dI)) (ci := 11) (v := .ref (v 15)) (C := RX12) (T := TX12) (N := 52) hx hb hts (by decide +kernel) hown hK hP 0 rfl rfl 15 (by decide) (hts (.fieldLink RX12 52 "PageOneModel" "come" "[I") (by decide +kernel)) (fun _ h9 => h9) rfl dX12_line_51 ?_
        refine lv_iload_n hx hb dX12_line_54 rfl (lv_at hl 1 rfl) ?_
        refine lv_dup2_11 hx hb dX12_line_55 rfl rfl ?_
        refine va_iald hx hb hK hP 15 0 rfl rfl (vIt hn b_2) dX12_line_56 ?_
        refine lv_iconst (v := 1) hx hb dX12_line_57 (by decide) ?_
        refine lv_iadd hx hb dX12_line_58 ?_
        refine va_iast hx hb hK hP hD hS 15 0 rfl rfl (vIt hn b_2) dX12_line_59 (fun H locs hP hD hS => ?_)
        obtain ⟨u_9, eu_9⟩ : ∃ zz : mS, zz = mst u_8 15 p0 ((u_8.2 15 (p0 : Int32).toNatClampNeg) + 1) := ⟨_, rfl⟩
        have hP : va_P (dC, dI) vwCl (mW h0 v cI cZ u_9) H := by rw [eu_9]; exact hP
        have hD : va_D A (mW h0 v cI cZ u_9) := by rw [eu_9]; exact hD
        refine lv_aload_n hx hb dX12_line_60 rfl (lv_at hl 0 rfl) ?_
        refine va_get (D := (dC, dI)) (ci := 11) (v := .ref (v 15)) (C := RX12) (T := TX12) (N := 52) hx hb hts (by decide +kernel) hown hK hP 0 rfl rfl 15 (by decide) (hts (.fieldLink RX12 52 "PageOneModel" "come" "[I") (by decide +kernel)) (fun _ h9 => h9) rfl dX12_line_61 ?_
        refine lv_iload_n hx hb dX12_line_64 rfl (lv_at hl 1 rfl) ?_
        refine va_iald hx hb hK hP 15 0 rfl rfl (vIt hn b_2) dX12_line_65 ?_
        exact W.iret (v := (u_9.2 15 (p0 : Int32).toNatClampNeg)) hx hb hr (fun t ht hW => ⟨⟨(u_9.2 15 (p0 : Int32).toNatClampNeg), u_9, rfl, (by subst eu_8 eu_9; first | (unfold mLine; rw [if_pos b_1, if_pos b_5, if_neg c_7]; done) | (unfold mLine; rw [if_pos b_1, if_pos b_5, if_neg c_7]; rfl) | (simp [mLine, b_1, b_2, b_5, c_7]; done)), by rw [ht]; exact hP, hD⟩, hS.F ht⟩) hS.2.2 dX12_line_66
      ·
        refine lv_iconst (v := (-1)) hx hb dX12_line_31 (by decide) ?_
        exact W.iret (v := (-1)) hx hb hr (fun t ht hW => ⟨⟨(-1), u, rfl, (by first | (unfold mLine; rw [if_pos b_1, if_pos b_5, if_pos c_7]; done) | (unfold mLine; rw [if_pos b_1, if_pos b_5, if_pos c_7]; rfl) | (simp [mLine, b_1, b_2, b_5, c_7]; done)), by rw [ht]; exact hP, hD⟩, hS.F ht⟩) hS.2.2 dX12_line_32
    ·
      obtain rfl : r = 0 := b_f hw b_5
      refine lv_if_eq (tgt := 31) hx hb dX12_line_17 (by decide) (fun c_10 => ?_) (fun c_10 => absurd (by decide) c_10)
      refine lv_iconst (v := (-1)) hx hb dX12_line_31 (by decide) ?_
      exact W.iret (v := (-1)) hx hb hr (fun t ht hW => ⟨⟨(-1), u, rfl, (by first | (unfold mLine; rw [if_pos b_1, if_neg (bne b_5)]; done) | (unfold mLine; rw [if_pos b_1, if_neg (bne b_5)]; rfl) | (simp [mLine, b_1, b_2, b_5]; done)), by rw [ht]; exact hP, hD⟩, hS.F ht⟩) hS.2.2 dX12_line_32
  ·
    obtain rfl : r = 0 := b_f hw b_1
    refine lv_if_eq (tgt := 31) hx hb dX12_line_6 (by decide) (fun c_11 => ?_) (fun c_11 => absurd (by decide) c_11)
    refine lv_iconst (v := (-1)) hx hb dX12_line_31 (by decide) ?_
    exact W.iret (v := (-1)) hx hb hr (fun t ht hW => ⟨⟨(-1), u, rfl, (by first | (unfold mLine; rw [if_neg (bne b_1)]; done) | (unfold mLine; rw [if_neg (bne b_1)]; rfl) | (simp [mLine, b_1]; done)), by rw [ht]; exact hP, hD⟩, hS.F ht⟩) hS.2.2 dX12_line_32
set_option maxHeartbeats 4000000 in
set_option maxRecDepth 100000 in
theorem m_size (l : Launch) (dC : Nat → ClassId) (dI : Nat → Nat → Nat) (h0 : Nat) (v : Nat → Nat) (cI cZ : ClassId) (u : mS) (p0 p1 p2 : Int32) (hn : bw (u.1 3) 0 80 = true) (hc : ∀ j, j < 80 → bw (u.2 17 j) 0 4 = true) (sz : Nat) : Met l yX12_size wsX12_size ({ frames := 3, cells := 0, slots := 0, locals := 65 }) (va_Pc [.ref h0, .int p0, .int p1, .int p2] (fun U => U.heap.size = sz ∧ PW dC dI (mW h0 v cI cZ u) [(cI, .int), (cZ, .boolean)] U ∧ va_D (fun _ => True) (mW h0 v cI cZ u))) (va_Qi (fun (r : Int32) (u9 : mS) => (r, u9) = mSize u p0 p1 p2) (fun u9 t => va_P (dC, dI) vwCl (mW h0 v cI cZ u9) t.heap ∧ va_D (va_A (mW h0 v cI cZ u) sz) (mW h0 v cI cZ u9)) (va_A (mW h0 v cI cZ u) sz)) 0 0 (va_A (mW h0 v cI cZ u) sz) := by
  refine Met.ofW (cc := cX12_size) (maxL := 4) (ret := (some .int)) (by decide) rfl ?_
  intro p e s m args below meth c s₁ B hml hv
  obtain ⟨rfl, hsz, ⟨hP, hK, hN⟩, hD0⟩ := hv
  have hx := B.exec
  have hb := B.bytes
  have hr := B.returns
  have hts := atoms_spec (ws := wsX12_size) B.pre
  have hown : s.vm.findClass RX12 = some m.cls := findClass_of_methodNamed B.named
  have hlocks := B.notSynchronized
  subst hsz
  have hD := hD0.self (sz := s.heap.size)
  generalize hAe : va_A (mW h0 v cI cZ u) s.heap.size = A at hD ⊢
  have hA : ∀ q : Nat, s.heap.size ≤ q → A q := fun q h => by rw [← hAe]; exact Or.inr h
  have hS : va_S A s.heap s.heap [] := va_S.rf
  have hl := lv_entry ([.ref h0, .int p0, .int p1, .int p2]) (n := 4) (Nat.le_of_ble_eq_true rfl)
  rw [lg_entry_eq]
  generalize (lg_sl ([.ref h0, .int p0, .int p1, .int p2]) ++ List.replicate (4 - (lg_sl ([.ref h0, .int p0, .int p1, .int p2])).length) Slot.unset).toArray = ls at hl ⊢
  have hl : lv_has ls 4 [(0, .ref h0), (1, .int p0), (2, .int p1), (3, .int p2)] := hl
  refine lv_aload_n hx hb dX12_size_0 rfl (lv_at hl 0 rfl) ?_
  refine lv_iload_n hx hb dX12_size_1 rfl (lv_at hl 1 rfl) ?_
  refine lv_iconst (v := 2) hx hb dX12_size_2 (by decide) ?_
  refine vp_callSi (va_runV (As := [.int p0, .int 2]) (rest := []) ⟨hx, hb, hml, hown, hts⟩ (m_isKind l dC dI h0 v cI cZ u p0 2 hn) (cwV 2 hts gX12_size_X12_isKind rfl rfl rfl (by decide +kernel) ⟨Nat.le_of_ble_eq_true rfl, Nat.le_of_ble_eq_true rfl⟩) ⟨pw_fb, va_recv hK hP (ci := 11) (q0 := 0) rfl rfl, fun U hU hW => ⟨rfl, pw_to hU hW hP hK hN⟩⟩ rfl rfl hl.1 rfl (lv_room (Nat.le_of_ble_eq_true rfl)) dX12_size_3 ⟨Nat.le_of_ble_eq_true rfl, Nat.le_of_ble_eq_true rfl⟩).run (fun r hw => ?_)
  rcases Bool.eq_false_or_eq_true (mKind u p0 2) with b_1 | b_1
  ·
    obtain rfl : r = 1 := b_t hw b_1
    obtain ⟨b_2, d_3⟩ := band b_1
    refine lv_if_eq (tgt := 39) hx hb dX12_size_6 (by decide) (fun c_4 => absurd c_4 (by decide)) (fun c_4 => ?_)
    refine lv_iload_n hx hb dX12_size_9 rfl (lv_at hl 2 rfl) ?_
    refine lv_iconst (v := 1) hx hb dX12_size_10 (by decide) ?_
    refine lv_bipush (v := 8) hx hb dX12_size_11 (by decide) ?_
    refine vp_callSi (va_runS (As := [.int p1, .int 1, .int 8]) (rest := []) ⟨hx, hb, hml, hown, hts⟩ (m_in l dC dI p1 1 8) (va_cwS 3 hts gX12_size_X12_in rfl rfl rfl (by decide +kernel) ⟨Nat.le_of_ble_eq_true rfl, Nat.le_of_ble_eq_true rfl⟩) ⟨pw_fb, fun U hU hW => ⟨rfl, pw_to hU hW (hP.sub (ws' := []) [] rfl) (hK.sub (tys' := []) [] rfl) hN⟩⟩ rfl rfl hl.1 rfl (lv_room (Nat.le_of_ble_eq_true rfl)) dX12_size_13 ⟨Nat.le_of_ble_eq_true rfl, Nat.le_of_ble_eq_true rfl⟩).run (fun r hw => ?_)
    rcases Bool.eq_false_or_eq_true (bw p1 1 8) with b_5 | b_5
    ·
      obtain rfl : r = 1 := b_t hw b_5
      refine lv_if_eq (tgt := 39) hx hb dX12_size_16 (by decide) (fun c_6 => absurd c_6 (by decide)) (fun c_6 => ?_)
      refine lv_iload_n hx hb dX12_size_19 rfl (lv_at hl 3 rfl) ?_
      refine lv_iconst (v := 1) hx hb dX12_size_20 (by decide) ?_
      refine lv_bipush (v := 60) hx hb dX12_size_21 (by decide) ?_
      refine vp_callSi (va_runS (As := [.int p2, .int 1, .int 60]) (rest := []) ⟨hx, hb, hml, hown, hts⟩ (m_in l dC dI p2 1 60) (va_cwS 3 hts gX12_size_X12_in rfl rfl rfl (by decide +kernel) ⟨Nat.le_of_ble_eq_true rfl, Nat.le_of_ble_eq_true rfl⟩) ⟨pw_fb, fun U hU hW => ⟨rfl, pw_to hU hW (hP.sub (ws' := []) [] rfl) (hK.sub (tys' := []) [] rfl) hN⟩⟩ rfl rfl hl.1 rfl (lv_room (Nat.le_of_ble_eq_true rfl)) dX12_size_23 ⟨Nat.le_of_ble_eq_true rfl, Nat.le_of_ble_eq_true rfl⟩).run (fun r hw => ?_)
      rcases Bool.eq_false_or_eq_true (bw p2 1 60) with b_7 | b_7
      ·
        obtain rfl : r = 1 := b_t hw b_7
        refine lv_if_eq (tgt := 39) hx hb dX12_size_26 (by decide) (fun c_8 => absurd c_8 (by decide)) (fun c_8 => ?_)
        refine lv_aload_n hx hb dX12_size_29 rfl (lv_at hl 0 rfl) ?_
        refine va_get (D := (dC, dI)) (ci := 11) (v := .ref (v 17)) (C := RX12) (T := TX12) (N := 52) hx hb hts (by decide +kernel) hown hK hP 0 rfl rfl 17 (by decide) (hts (.fieldLink RX12 58 "PageOneModel" "sizes" "[I") (by decide +kernel)) (fun _ h9 => h9) rfl dX12_size_30 ?_
        refine lv_iload_n hx hb dX12_size_33 rfl (lv_at hl 1 rfl) ?_
        refine va_iald hx hb hK hP 17 0 rfl rfl (vIt hn b_2) dX12_size_34 ?_
        refine lv_iconst (v := 4) hx hb dX12_size_35 (by decide) ?_
        refine lv_icmp_ne (tgt := 41) hx hb dX12_size_36 (by decide) (fun c_9 => ?_) (fun c_9 => ?_)
        ·
          refine lv_aload_n hx hb dX12_size_41 rfl (lv_at hl 0 rfl) ?_
          refine va_get (D := (dC, dI)) (ci := 11) (v := .ref (v 18)) (C := RX12) (T := TX12) (N := 52) hx hb hts (by decide +kernel) hown hK hP 0 rfl rfl 18 (by decide) (hts (.fieldLink RX12 61 "PageOneModel" "sizeW" "[I") (by decide +kernel)) (fun _ h9 => h9) rfl dX12_size_42 ?_
          refine lv_iconst (v := 4) hx hb dX12_size_45 (by decide) ?_
          refine lv_iload_n hx hb dX12_size_46 rfl (lv_at hl 1 rfl) ?_
          refine lv_imul hx hb dX12_size_47 ?_
          refine lv_aload_n hx hb dX12_size_48 rfl (lv_at hl 0 rfl) ?_
          refine va_get (D := (dC, dI)) (ci := 11) (v := .ref (v 17)) (C := RX12) (T := TX12) (N := 52) hx hb hts (by decide +kernel) hown hK hP 0 rfl rfl 17 (by decide) (hts (.fieldLink RX12 58 "PageOneModel" "sizes" "[I") (by decide +kernel)) (fun _ h9 => h9) rfl dX12_size_49 ?_
          refine lv_iload_n hx hb dX12_size_52 rfl (lv_at hl 1 rfl) ?_
          refine va_iald hx hb hK hP 17 0 rfl rfl (vIt hn b_2) dX12_size_53 ?_
          refine lv_iadd hx hb dX12_size_54 ?_
          refine lv_iload_n hx hb dX12_size_55 rfl (lv_at hl 2 rfl) ?_
          refine va_iast hx hb hK hP hD hS 18 0 rfl rfl (vSize hn b_2 (hc p0.toNatClampNeg (vlt (vIt hn b_2))) c_9) dX12_size_56 (fun H locs hP hD hS => ?_)
          obtain ⟨u_10, eu_10⟩ : ∃ zz : mS, zz = mst u 18 ((4 * p0) + (u.2 17 (p0 : Int32).toNatClampNeg)) p1 := ⟨_, rfl⟩
          have hP : va_P (dC, dI) vwCl (mW h0 v cI cZ u_10) H := by rw [eu_10]; exact hP
          have hD : va_D A (mW h0 v cI cZ u_10) := by rw [eu_10]; exact hD
          refine lv_aload_n hx hb dX12_size_57 rfl (lv_at hl 0 rfl) ?_
          refine va_get (D := (dC, dI)) (ci := 11) (v := .ref (v 19)) (C := RX12) (T := TX12) (N := 52) hx hb hts (by decide +kernel) hown hK hP 0 rfl rfl 19 (by decide) (hts (.fieldLink RX12 64 "PageOneModel" "sizeH" "[I") (by decide +kernel)) (fun _ h9 => h9) rfl dX12_size_58 ?_
          refine lv_iconst (v := 4) hx hb dX12_size_61 (by decide) ?_
          refine lv_iload_n hx hb dX12_size_62 rfl (lv_at hl 1 rfl) ?_
          refine lv_imul hx hb dX12_size_63 ?_
          refine lv_aload_n hx hb dX12_size_64 rfl (lv_at hl 0 rfl) ?_
          refine va_get (D := (dC, dI)) (ci := 11) (v := .ref (v 17)) (C := RX12) (T := TX12) (N := 52) hx hb hts (by decide +kernel) hown hK hP 0 rfl rfl 17 (by decide) (hts (.fieldLink RX12 58 "PageOneModel" "sizes" "[I") (by decide +kernel)) (fun _ h9 => h9) rfl dX12_size_65 ?_
          refine lv_iload_n hx hb dX12_size_68 rfl (lv_at hl 1 rfl) ?_
          refine va_iald hx hb hK hP 17 0 rfl rfl (vIt hn b_2) dX12_size_69 ?_
          refine lv_iadd hx hb dX12_size_70 ?_
          refine lv_iload_n hx hb dX12_size_71 rfl (lv_at hl 3 rfl) ?_
          refine va_iast hx hb hK hP hD hS 19 0 rfl rfl (by have h := (vSize hn b_2 (hc p0.toNatClampNeg (vlt (vIt hn b_2))) c_9); rw [show (u_10.2 17 (p0 : Int32).toNatClampNeg) = u.2 17 p0.toNatClampNeg from by rw [eu_10]; rfl]; exact h) dX12_size_72 (fun H locs hP hD hS => ?_)
          obtain ⟨u_11, eu_11⟩ : ∃ zz : mS, zz = mst u_10 19 ((4 * p0) + (u_10.2 17 (p0 : Int32).toNatClampNeg)) p2 := ⟨_, rfl⟩
          have hP : va_P (dC, dI) vwCl (mW h0 v cI cZ u_11) H := by rw [eu_11]; exact hP
          have hD : va_D A (mW h0 v cI cZ u_11) := by rw [eu_11]; exact hD
          refine lv_aload_n hx hb dX12_size_73 rfl (lv_at hl 0 rfl) ?_
          refine va_get (D := (dC, dI)) (ci := 11) (v := .ref (v 17)) (C := RX12) (T := TX12) (N := 52) hx hb hts (by decide +kernel) hown hK hP 0 rfl rfl 17 (by decide) (hts (.fieldLink RX12 58 "PageOneModel" "sizes" "[I") (by decide +kernel)) (fun _ h9 => h9) rfl dX12_size_74 ?_
          refine lv_iload_n hx hb dX12_size_77 rfl (lv_at hl 1 rfl) ?_
          refine lv_dup2_11 hx hb dX12_size_78 rfl rfl ?_
          refine va_iald hx hb hK hP 17 0 rfl rfl (vIt hn b_2) dX12_size_79 ?_
          refine lv_iconst (v := 1) hx hb dX12_size_80 (by decide) ?_
          refine lv_iadd hx hb dX12_size_81 ?_
          refine va_iast hx hb hK hP hD hS 17 0 rfl rfl (vIt hn b_2) dX12_size_82 (fun H locs hP hD hS => ?_)
          obtain ⟨u_12, eu_12⟩ : ∃ zz : mS, zz = mst u_11 17 p0 ((u_11.2 17 (p0 : Int32).toNatClampNeg) + 1) := ⟨_, rfl⟩
          have hP : va_P (dC, dI) vwCl (mW h0 v cI cZ u_12) H := by rw [eu_12]; exact hP
          have hD : va_D A (mW h0 v cI cZ u_12) := by rw [eu_12]; exact hD
          refine lv_aload_n hx hb dX12_size_83 rfl (lv_at hl 0 rfl) ?_
          refine va_get (D := (dC, dI)) (ci := 11) (v := .ref (v 17)) (C := RX12) (T := TX12) (N := 52) hx hb hts (by decide +kernel) hown hK hP 0 rfl rfl 17 (by decide) (hts (.fieldLink RX12 58 "PageOneModel" "sizes" "[I") (by decide +kernel)) (fun _ h9 => h9) rfl dX12_size_84 ?_
          refine lv_iload_n hx hb dX12_size_87 rfl (lv_at hl 1 rfl) ?_
          refine va_iald hx hb hK hP 17 0 rfl rfl (vIt hn b_2) dX12_size_88 ?_
          exact W.iret (v := (u_12.2 17 (p0 : Int32).toNatClampNeg)) hx hb hr (fun t ht hW => ⟨⟨(u_12.2 17 (p0 : Int32).toNatClampNeg), u_12, rfl, (by subst eu_10 eu_11 eu_12; first | (unfold mSize; rw [if_pos b_1, if_pos b_5, if_pos b_7, if_neg c_9]; done) | (unfold mSize; rw [if_pos b_1, if_pos b_5, if_pos b_7, if_neg c_9]; rfl) | (simp [mSize, b_1, b_2, b_5, b_7, c_9]; done)), by rw [ht]; exact hP, hD⟩, hS.F ht⟩) hS.2.2 dX12_size_89
        ·
          refine lv_iconst (v := (-1)) hx hb dX12_size_39 (by decide) ?_
          exact W.iret (v := (-1)) hx hb hr (fun t ht hW => ⟨⟨(-1), u, rfl, (by first | (unfold mSize; rw [if_pos b_1, if_pos b_5, if_pos b_7, if_pos c_9]; done) | (unfold mSize; rw [if_pos b_1, if_pos b_5, if_pos b_7, if_pos c_9]; rfl) | (simp [mSize, b_1, b_2, b_5, b_7, c_9]; done)), by rw [ht]; exact hP, hD⟩, hS.F ht⟩) hS.2.2 dX12_size_40
      ·
        obtain rfl : r = 0 := b_f hw b_7
        refine lv_if_eq (tgt := 39) hx hb dX12_size_26 (by decide) (fun c_13 => ?_) (fun c_13 => absurd (by decide) c_13)
        refine lv_iconst (v := (-1)) hx hb dX12_size_39 (by decide) ?_
        exact W.iret (v := (-1)) hx hb hr (fun t ht hW => ⟨⟨(-1), u, rfl, (by first | (unfold mSize; rw [if_pos b_1, if_pos b_5, if_neg (bne b_7)]; done) | (unfold mSize; rw [if_pos b_1, if_pos b_5, if_neg (bne b_7)]; rfl) | (simp [mSize, b_1, b_2, b_5, b_7]; done)), by rw [ht]; exact hP, hD⟩, hS.F ht⟩) hS.2.2 dX12_size_40
    ·
      obtain rfl : r = 0 := b_f hw b_5
      refine lv_if_eq (tgt := 39) hx hb dX12_size_16 (by decide) (fun c_14 => ?_) (fun c_14 => absurd (by decide) c_14)
      refine lv_iconst (v := (-1)) hx hb dX12_size_39 (by decide) ?_
      exact W.iret (v := (-1)) hx hb hr (fun t ht hW => ⟨⟨(-1), u, rfl, (by first | (unfold mSize; rw [if_pos b_1, if_neg (bne b_5)]; done) | (unfold mSize; rw [if_pos b_1, if_neg (bne b_5)]; rfl) | (simp [mSize, b_1, b_2, b_5]; done)), by rw [ht]; exact hP, hD⟩, hS.F ht⟩) hS.2.2 dX12_size_40
  ·
    obtain rfl : r = 0 := b_f hw b_1
    refine lv_if_eq (tgt := 39) hx hb dX12_size_6 (by decide) (fun c_15 => ?_) (fun c_15 => absurd (by decide) c_15)
    refine lv_iconst (v := (-1)) hx hb dX12_size_39 (by decide) ?_
    exact W.iret (v := (-1)) hx hb hr (fun t ht hW => ⟨⟨(-1), u, rfl, (by first | (unfold mSize; rw [if_neg (bne b_1)]; done) | (unfold mSize; rw [if_neg (bne b_1)]; rfl) | (simp [mSize, b_1]; done)), by rw [ht]; exact hP, hD⟩, hS.F ht⟩) hS.2.2 dX12_size_40
set_option maxHeartbeats 4000000 in
set_option maxRecDepth 100000 in
theorem m_rival (l : Launch) (dC : Nat → ClassId) (dI : Nat → Nat → Nat) (h0 : Nat) (v : Nat → Nat) (cI cZ : ClassId) (u : mS) (p0 p1 : Int32) (hn : bw (u.1 3) 0 80 = true) (sz : Nat) : Met l yX12_rival wsX12_rival ({ frames := 2, cells := 0, slots := 0, locals := 42 }) (va_Pc [.ref h0, .int p0, .int p1] (fun U => U.heap.size = sz ∧ PW dC dI (mW h0 v cI cZ u) [(cI, .int), (cZ, .boolean)] U ∧ va_D (fun _ => True) (mW h0 v cI cZ u))) (va_Qi (fun (r : Int32) (u9 : mS) => (r, u9) = mRival u p0 p1) (fun u9 t => va_P (dC, dI) vwCl (mW h0 v cI cZ u9) t.heap ∧ va_D (va_A (mW h0 v cI cZ u) sz) (mW h0 v cI cZ u9)) (va_A (mW h0 v cI cZ u) sz)) 0 0 (va_A (mW h0 v cI cZ u) sz) := by
  refine Met.ofW (cc := cX12_rival) (maxL := 3) (ret := (some .boolean)) (by decide) rfl ?_
  intro p e s m args below meth c s₁ B hml hv
  obtain ⟨rfl, hsz, ⟨hP, hK, hN⟩, hD0⟩ := hv
  have hx := B.exec
  have hb := B.bytes
  have hr := B.returns
  have hts := atoms_spec (ws := wsX12_rival) B.pre
  have hown : s.vm.findClass RX12 = some m.cls := findClass_of_methodNamed B.named
  have hlocks := B.notSynchronized
  subst hsz
  have hD := hD0.self (sz := s.heap.size)
  generalize hAe : va_A (mW h0 v cI cZ u) s.heap.size = A at hD ⊢
  have hA : ∀ q : Nat, s.heap.size ≤ q → A q := fun q h => by rw [← hAe]; exact Or.inr h
  have hS : va_S A s.heap s.heap [] := va_S.rf
  have hl := lv_entry ([.ref h0, .int p0, .int p1]) (n := 3) (Nat.le_of_ble_eq_true rfl)
  rw [lg_entry_eq]
  generalize (lg_sl ([.ref h0, .int p0, .int p1]) ++ List.replicate (3 - (lg_sl ([.ref h0, .int p0, .int p1])).length) Slot.unset).toArray = ls at hl ⊢
  have hl : lv_has ls 3 [(0, .ref h0), (1, .int p0), (2, .int p1)] := hl
  refine lv_iload_n hx hb dX12_rival_0 rfl (lv_at hl 1 rfl) ?_
  refine vp_callSi (va_runS (As := [.int p0]) (rest := []) ⟨hx, hb, hml, hown, hts⟩ (m_isBuyer l dC dI p0) (va_cwS 1 hts gX12_rival_X12_isBuyer rfl rfl rfl (by decide +kernel) ⟨Nat.le_of_ble_eq_true rfl, Nat.le_of_ble_eq_true rfl⟩) ⟨pw_fb, fun U hU hW => ⟨rfl, pw_to hU hW (hP.sub (ws' := []) [] rfl) (hK.sub (tys' := []) [] rfl) hN⟩⟩ rfl rfl hl.1 rfl (lv_room (Nat.le_of_ble_eq_true rfl)) dX12_rival_1 ⟨Nat.le_of_ble_eq_true rfl, Nat.le_of_ble_eq_true rfl⟩).run (fun r hw => ?_)
  rcases Bool.eq_false_or_eq_true (bw p0 0 9) with b_1 | b_1
  ·
    obtain rfl : r = 1 := b_t hw b_1
    refine lv_if_eq (tgt := 33) hx hb dX12_rival_4 (by decide) (fun c_2 => absurd c_2 (by decide)) (fun c_2 => ?_)
    refine lv_iload_n hx hb dX12_rival_7 rfl (lv_at hl 2 rfl) ?_
    refine vp_callSi (va_runS (As := [.int p1]) (rest := []) ⟨hx, hb, hml, hown, hts⟩ (m_isBuyer l dC dI p1) (va_cwS 1 hts gX12_rival_X12_isBuyer rfl rfl rfl (by decide +kernel) ⟨Nat.le_of_ble_eq_true rfl, Nat.le_of_ble_eq_true rfl⟩) ⟨pw_fb, fun U hU hW => ⟨rfl, pw_to hU hW (hP.sub (ws' := []) [] rfl) (hK.sub (tys' := []) [] rfl) hN⟩⟩ rfl rfl hl.1 rfl (lv_room (Nat.le_of_ble_eq_true rfl)) dX12_rival_8 ⟨Nat.le_of_ble_eq_true rfl, Nat.le_of_ble_eq_true rfl⟩).run (fun r hw => ?_)
    rcases Bool.eq_false_or_eq_true (bw p1 0 9) with b_3 | b_3
    ·
      obtain rfl : r = 1 := b_t hw b_3
      refine lv_if_eq (tgt := 33) hx hb dX12_rival_11 (by decide) (fun c_4 => absurd c_4 (by decide)) (fun c_4 => ?_)
      refine lv_iload_n hx hb dX12_rival_14 rfl (lv_at hl 1 rfl) ?_
      refine lv_iload_n hx hb dX12_rival_15 rfl (lv_at hl 2 rfl) ?_
      refine lv_icmp_eq (tgt := 33) hx hb dX12_rival_16 (by decide) (fun c_5 => ?_) (fun c_5 => ?_)
      ·
        refine lv_iconst (v := 0) hx hb dX12_rival_33 (by decide) ?_
        exact W.zret (v := 0) hx hb hr (by decide) (fun t ht hW => ⟨⟨0, u, rfl, (by first | (unfold mRival; rw [if_pos b_1, if_pos b_3, if_pos c_5]; done) | (unfold mRival; rw [if_pos b_1, if_pos b_3, if_pos c_5]; rfl) | (simp [mRival, b_1, b_3, c_5]; done)), by rw [ht]; exact hP, hD⟩, hS.F ht⟩) hS.2.2 dX12_rival_34
      ·
        refine lv_aload_n hx hb dX12_rival_19 rfl (lv_at hl 0 rfl) ?_
        refine va_get (D := (dC, dI)) (ci := 11) (v := .ref (v 20)) (C := RX12) (T := TX12) (N := 52) hx hb hts (by decide +kernel) hown hK hP 0 rfl rfl 20 (by decide) (hts (.fieldLink RX12 67 "PageOneModel" "isRival" "[Z") (by decide +kernel)) (fun _ h9 => h9) rfl dX12_rival_20 ?_
        refine lv_bipush (v := 10) hx hb dX12_rival_23 (by decide) ?_
        refine lv_iload_n hx hb dX12_rival_25 rfl (lv_at hl 1 rfl) ?_
        refine lv_imul hx hb dX12_rival_26 ?_
        refine lv_iload_n hx hb dX12_rival_27 rfl (lv_at hl 2 rfl) ?_
        refine lv_iadd hx hb dX12_rival_28 ?_
        refine va_zald hx hb hK hP 20 1 rfl rfl (vin10 b_1 b_3) dX12_rival_29 ?_
        refine lv_if_eq (tgt := 35) hx hb dX12_rival_30 (by decide) (fun c_6 => ?_) (fun c_6 => ?_)
        ·
          refine lv_aload_n hx hb dX12_rival_35 rfl (lv_at hl 0 rfl) ?_
          refine va_get (D := (dC, dI)) (ci := 11) (v := .ref (v 20)) (C := RX12) (T := TX12) (N := 52) hx hb hts (by decide +kernel) hown hK hP 0 rfl rfl 20 (by decide) (hts (.fieldLink RX12 67 "PageOneModel" "isRival" "[Z") (by decide +kernel)) (fun _ h9 => h9) rfl dX12_rival_36 ?_
          refine lv_bipush (v := 10) hx hb dX12_rival_39 (by decide) ?_
          refine lv_iload_n hx hb dX12_rival_41 rfl (lv_at hl 1 rfl) ?_
          refine lv_imul hx hb dX12_rival_42 ?_
          refine lv_iload_n hx hb dX12_rival_43 rfl (lv_at hl 2 rfl) ?_
          refine lv_iadd hx hb dX12_rival_44 ?_
          refine lv_iconst (v := 1) hx hb dX12_rival_45 (by decide) ?_
          refine va_zast hx hb hK hP hD hS 20 1 rfl rfl (vin10 b_1 b_3) dX12_rival_46 (fun H locs hP hD hS => ?_)
          obtain ⟨u_7, eu_7⟩ : ∃ zz : mS, zz = mst u 20 ((10 * p0) + p1) (vp_nar .boolean 1) := ⟨_, rfl⟩
          have hP : va_P (dC, dI) vwCl (mW h0 v cI cZ u_7) H := by rw [eu_7]; exact hP
          have hD : va_D A (mW h0 v cI cZ u_7) := by rw [eu_7]; exact hD
          refine lv_aload_n hx hb dX12_rival_47 rfl (lv_at hl 0 rfl) ?_
          refine va_get (D := (dC, dI)) (ci := 11) (v := .ref (v 20)) (C := RX12) (T := TX12) (N := 52) hx hb hts (by decide +kernel) hown hK hP 0 rfl rfl 20 (by decide) (hts (.fieldLink RX12 67 "PageOneModel" "isRival" "[Z") (by decide +kernel)) (fun _ h9 => h9) rfl dX12_rival_48 ?_
          refine lv_bipush (v := 10) hx hb dX12_rival_51 (by decide) ?_
          refine lv_iload_n hx hb dX12_rival_53 rfl (lv_at hl 2 rfl) ?_
          refine lv_imul hx hb dX12_rival_54 ?_
          refine lv_iload_n hx hb dX12_rival_55 rfl (lv_at hl 1 rfl) ?_
          refine lv_iadd hx hb dX12_rival_56 ?_
          refine lv_iconst (v := 1) hx hb dX12_rival_57 (by decide) ?_
          refine va_zast hx hb hK hP hD hS 20 1 rfl rfl (vin10 b_3 b_1) dX12_rival_58 (fun H locs hP hD hS => ?_)
          obtain ⟨u_8, eu_8⟩ : ∃ zz : mS, zz = mst u_7 20 ((10 * p1) + p0) (vp_nar .boolean 1) := ⟨_, rfl⟩
          have hP : va_P (dC, dI) vwCl (mW h0 v cI cZ u_8) H := by rw [eu_8]; exact hP
          have hD : va_D A (mW h0 v cI cZ u_8) := by rw [eu_8]; exact hD
          refine lv_iconst (v := 1) hx hb dX12_rival_59 (by decide) ?_
          exact W.zret (v := 1) hx hb hr (by decide) (fun t ht hW => ⟨⟨1, u_8, rfl, (by subst eu_7 eu_8; first | (unfold mRival; rw [if_pos b_1, if_pos b_3, if_neg c_5, if_pos c_6]; done) | (unfold mRival; rw [if_pos b_1, if_pos b_3, if_neg c_5, if_pos c_6]; rfl) | (simp [mRival, b_1, b_3, c_5, c_6]; done)), by rw [ht]; exact hP, hD⟩, hS.F ht⟩) hS.2.2 dX12_rival_60
        ·
          refine lv_iconst (v := 0) hx hb dX12_rival_33 (by decide) ?_
          exact W.zret (v := 0) hx hb hr (by decide) (fun t ht hW => ⟨⟨0, u, rfl, (by first | (unfold mRival; rw [if_pos b_1, if_pos b_3, if_neg c_5, if_neg c_6]; done) | (unfold mRival; rw [if_pos b_1, if_pos b_3, if_neg c_5, if_neg c_6]; rfl) | (simp [mRival, b_1, b_3, c_5, c_6]; done)), by rw [ht]; exact hP, hD⟩, hS.F ht⟩) hS.2.2 dX12_rival_34
    ·
      obtain rfl : r = 0 := b_f hw b_3
      refine lv_if_eq (tgt := 33) hx hb dX12_rival_11 (by decide) (fun c_9 => ?_) (fun c_9 => absurd (by decide) c_9)
      refine lv_iconst (v := 0) hx hb dX12_rival_33 (by decide) ?_
      exact W.zret (v := 0) hx hb hr (by decide) (fun t ht hW => ⟨⟨0, u, rfl, (by first | (unfold mRival; rw [if_pos b_1, if_neg (bne b_3)]; done) | (unfold mRival; rw [if_pos b_1, if_neg (bne b_3)]; rfl) | (simp [mRival, b_1, b_3]; done)), by rw [ht]; exact hP, hD⟩, hS.F ht⟩) hS.2.2 dX12_rival_34
  ·
    obtain rfl : r = 0 := b_f hw b_1
    refine lv_if_eq (tgt := 33) hx hb dX12_rival_4 (by decide) (fun c_10 => ?_) (fun c_10 => absurd (by decide) c_10)
    refine lv_iconst (v := 0) hx hb dX12_rival_33 (by decide) ?_
    exact W.zret (v := 0) hx hb hr (by decide) (fun t ht hW => ⟨⟨0, u, rfl, (by first | (unfold mRival; rw [if_neg (bne b_1)]; done) | (unfold mRival; rw [if_neg (bne b_1)]; rfl) | (simp [mRival, b_1]; done)), by rw [ht]; exact hP, hD⟩, hS.F ht⟩) hS.2.2 dX12_rival_34
set_option maxHeartbeats 4000000 in
set_option maxRecDepth 100000 in
theorem m_names (l : Launch) (dC : Nat → ClassId) (dI : Nat → Nat → Nat) (h0 : Nat) (v : Nat → Nat) (cI cZ : ClassId) (u : mS) (p0 p1 : Int32) (hn : bw (u.1 3) 0 80 = true) (sz : Nat) : Met l yX12_names wsX12_names ({ frames := 3, cells := 0, slots := 0, locals := 65 }) (va_Pc [.ref h0, .int p0, .int p1] (fun U => U.heap.size = sz ∧ PW dC dI (mW h0 v cI cZ u) [(cI, .int), (cZ, .boolean)] U ∧ va_D (fun _ => True) (mW h0 v cI cZ u))) (va_Qi (fun (r : Int32) (u9 : mS) => (r, u9) = mNames u p0 p1) (fun u9 t => va_P (dC, dI) vwCl (mW h0 v cI cZ u9) t.heap ∧ va_D (va_A (mW h0 v cI cZ u) sz) (mW h0 v cI cZ u9)) (va_A (mW h0 v cI cZ u) sz)) 0 0 (va_A (mW h0 v cI cZ u) sz) := by
  refine Met.ofW (cc := cX12_names) (maxL := 3) (ret := (some .boolean)) (by decide) rfl ?_
  intro p e s m args below meth c s₁ B hml hv
  obtain ⟨rfl, hsz, ⟨hP, hK, hN⟩, hD0⟩ := hv
  have hx := B.exec
  have hb := B.bytes
  have hr := B.returns
  have hts := atoms_spec (ws := wsX12_names) B.pre
  have hown : s.vm.findClass RX12 = some m.cls := findClass_of_methodNamed B.named
  have hlocks := B.notSynchronized
  subst hsz
  have hD := hD0.self (sz := s.heap.size)
  generalize hAe : va_A (mW h0 v cI cZ u) s.heap.size = A at hD ⊢
  have hA : ∀ q : Nat, s.heap.size ≤ q → A q := fun q h => by rw [← hAe]; exact Or.inr h
  have hS : va_S A s.heap s.heap [] := va_S.rf
  have hl := lv_entry ([.ref h0, .int p0, .int p1]) (n := 3) (Nat.le_of_ble_eq_true rfl)
  rw [lg_entry_eq]
  generalize (lg_sl ([.ref h0, .int p0, .int p1]) ++ List.replicate (3 - (lg_sl ([.ref h0, .int p0, .int p1])).length) Slot.unset).toArray = ls at hl ⊢
  have hl : lv_has ls 3 [(0, .ref h0), (1, .int p0), (2, .int p1)] := hl
  refine lv_aload_n hx hb dX12_names_0 rfl (lv_at hl 0 rfl) ?_
  refine lv_iload_n hx hb dX12_names_1 rfl (lv_at hl 1 rfl) ?_
  refine lv_iconst (v := 0) hx hb dX12_names_2 (by decide) ?_
  refine vp_callSi (va_runV (As := [.int p0, .int 0]) (rest := []) ⟨hx, hb, hml, hown, hts⟩ (m_isKind l dC dI h0 v cI cZ u p0 0 hn) (cwV 2 hts gX12_names_X12_isKind rfl rfl rfl (by decide +kernel) ⟨Nat.le_of_ble_eq_true rfl, Nat.le_of_ble_eq_true rfl⟩) ⟨pw_fb, va_recv hK hP (ci := 11) (q0 := 0) rfl rfl, fun U hU hW => ⟨rfl, pw_to hU hW hP hK hN⟩⟩ rfl rfl hl.1 rfl (lv_room (Nat.le_of_ble_eq_true rfl)) dX12_names_3 ⟨Nat.le_of_ble_eq_true rfl, Nat.le_of_ble_eq_true rfl⟩).run (fun r hw => ?_)
  rcases Bool.eq_false_or_eq_true (mKind u p0 0) with b_1 | b_1
  ·
    obtain rfl : r = 1 := b_t hw b_1
    obtain ⟨b_2, d_3⟩ := band b_1
    refine lv_if_eq (tgt := 30) hx hb dX12_names_6 (by decide) (fun c_4 => absurd c_4 (by decide)) (fun c_4 => ?_)
    refine lv_iload_n hx hb dX12_names_9 rfl (lv_at hl 2 rfl) ?_
    refine vp_callSi (va_runS (As := [.int p1]) (rest := []) ⟨hx, hb, hml, hown, hts⟩ (m_isBuyer l dC dI p1) (va_cwS 1 hts gX12_names_X12_isBuyer rfl rfl rfl (by decide +kernel) ⟨Nat.le_of_ble_eq_true rfl, Nat.le_of_ble_eq_true rfl⟩) ⟨pw_fb, fun U hU hW => ⟨rfl, pw_to hU hW (hP.sub (ws' := []) [] rfl) (hK.sub (tys' := []) [] rfl) hN⟩⟩ rfl rfl hl.1 rfl (lv_room (Nat.le_of_ble_eq_true rfl)) dX12_names_10 ⟨Nat.le_of_ble_eq_true rfl, Nat.le_of_ble_eq_true rfl⟩).run (fun r hw => ?_)
    rcases Bool.eq_false_or_eq_true (bw p1 0 9) with b_5 | b_5
    ·
      obtain rfl : r = 1 := b_t hw b_5
      refine lv_if_eq (tgt := 30) hx hb dX12_names_13 (by decide) (fun c_6 => absurd c_6 (by decide)) (fun c_6 => ?_)
      refine lv_aload_n hx hb dX12_names_16 rfl (lv_at hl 0 rfl) ?_
      refine va_get (D := (dC, dI)) (ci := 11) (v := .ref (v 21)) (C := RX12) (T := TX12) (N := 52) hx hb hts (by decide +kernel) hown hK hP 0 rfl rfl 21 (by decide) (hts (.fieldLink RX12 71 "PageOneModel" "isNamed" "[Z") (by decide +kernel)) (fun _ h9 => h9) rfl dX12_names_17 ?_
      refine lv_bipush (v := 10) hx hb dX12_names_20 (by decide) ?_
      refine lv_iload_n hx hb dX12_names_22 rfl (lv_at hl 1 rfl) ?_
      refine lv_imul hx hb dX12_names_23 ?_
      refine lv_iload_n hx hb dX12_names_24 rfl (lv_at hl 2 rfl) ?_
      refine lv_iadd hx hb dX12_names_25 ?_
      refine va_zald hx hb hK hP 21 1 rfl rfl (vName hn b_2 b_5) dX12_names_26 ?_
      refine lv_if_eq (tgt := 32) hx hb dX12_names_27 (by decide) (fun c_7 => ?_) (fun c_7 => ?_)
      ·
        refine lv_aload_n hx hb dX12_names_32 rfl (lv_at hl 0 rfl) ?_
        refine va_get (D := (dC, dI)) (ci := 11) (v := .ref (v 21)) (C := RX12) (T := TX12) (N := 52) hx hb hts (by decide +kernel) hown hK hP 0 rfl rfl 21 (by decide) (hts (.fieldLink RX12 71 "PageOneModel" "isNamed" "[Z") (by decide +kernel)) (fun _ h9 => h9) rfl dX12_names_33 ?_
        refine lv_bipush (v := 10) hx hb dX12_names_36 (by decide) ?_
        refine lv_iload_n hx hb dX12_names_38 rfl (lv_at hl 1 rfl) ?_
        refine lv_imul hx hb dX12_names_39 ?_
        refine lv_iload_n hx hb dX12_names_40 rfl (lv_at hl 2 rfl) ?_
        refine lv_iadd hx hb dX12_names_41 ?_
        refine lv_iconst (v := 1) hx hb dX12_names_42 (by decide) ?_
        refine va_zast hx hb hK hP hD hS 21 1 rfl rfl (vName hn b_2 b_5) dX12_names_43 (fun H locs hP hD hS => ?_)
        obtain ⟨u_8, eu_8⟩ : ∃ zz : mS, zz = mst u 21 ((10 * p0) + p1) (vp_nar .boolean 1) := ⟨_, rfl⟩
        have hP : va_P (dC, dI) vwCl (mW h0 v cI cZ u_8) H := by rw [eu_8]; exact hP
        have hD : va_D A (mW h0 v cI cZ u_8) := by rw [eu_8]; exact hD
        refine lv_iconst (v := 1) hx hb dX12_names_44 (by decide) ?_
        exact W.zret (v := 1) hx hb hr (by decide) (fun t ht hW => ⟨⟨1, u_8, rfl, (by subst eu_8; first | (unfold mNames; rw [if_pos b_1, if_pos b_5, if_pos c_7]; done) | (unfold mNames; rw [if_pos b_1, if_pos b_5, if_pos c_7]; rfl) | (simp [mNames, b_1, b_2, b_5, c_7]; done)), by rw [ht]; exact hP, hD⟩, hS.F ht⟩) hS.2.2 dX12_names_45
      ·
        refine lv_iconst (v := 0) hx hb dX12_names_30 (by decide) ?_
        exact W.zret (v := 0) hx hb hr (by decide) (fun t ht hW => ⟨⟨0, u, rfl, (by first | (unfold mNames; rw [if_pos b_1, if_pos b_5, if_neg c_7]; done) | (unfold mNames; rw [if_pos b_1, if_pos b_5, if_neg c_7]; rfl) | (simp [mNames, b_1, b_2, b_5, c_7]; done)), by rw [ht]; exact hP, hD⟩, hS.F ht⟩) hS.2.2 dX12_names_31
    ·
      obtain rfl : r = 0 := b_f hw b_5
      refine lv_if_eq (tgt := 30) hx hb dX12_names_13 (by decide) (fun c_9 => ?_) (fun c_9 => absurd (by decide) c_9)
      refine lv_iconst (v := 0) hx hb dX12_names_30 (by decide) ?_
      exact W.zret (v := 0) hx hb hr (by decide) (fun t ht hW => ⟨⟨0, u, rfl, (by first | (unfold mNames; rw [if_pos b_1, if_neg (bne b_5)]; done) | (unfold mNames; rw [if_pos b_1, if_neg (bne b_5)]; rfl) | (simp [mNames, b_1, b_2, b_5]; done)), by rw [ht]; exact hP, hD⟩, hS.F ht⟩) hS.2.2 dX12_names_31
  ·
    obtain rfl : r = 0 := b_f hw b_1
    refine lv_if_eq (tgt := 30) hx hb dX12_names_6 (by decide) (fun c_10 => ?_) (fun c_10 => absurd (by decide) c_10)
    refine lv_iconst (v := 0) hx hb dX12_names_30 (by decide) ?_
    exact W.zret (v := 0) hx hb hr (by decide) (fun t ht hW => ⟨⟨0, u, rfl, (by first | (unfold mNames; rw [if_neg (bne b_1)]; done) | (unfold mNames; rw [if_neg (bne b_1)]; rfl) | (simp [mNames, b_1]; done)), by rw [ht]; exact hP, hD⟩, hS.F ht⟩) hS.2.2 dX12_names_31
