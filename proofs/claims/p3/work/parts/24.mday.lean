theorem w_cut {p : Program} {l : Launch} {e : Env} {R : Room} {s : State} {m : MethodId} {args : Array Value} {below : List Frame} {meth : Method} {c : Code} {H : Heap} {locs : List Loc} {cells slots : Nat} {Q : State → Prop} {g : JFrame} (X : Room → Nat → Nat → (State → Prop) → Array Value → Prop) (h1 : X R cells slots Q args) (h2 : X R cells slots Q args → W p l e R s m args below meth c H locs cells slots Q g) : W p l e R s m args below meth c H locs cells slots Q g := h2 h1
/-- a row whose first n places are z -/
def fillF (f : Nat → Int32) (n : Nat) (z : Int32) : Nat → Int32 := fun j => if j < n then z else f j
theorem fillF_0 (f : Nat → Int32) (z : Int32) : fillF f 0 z = f := by
  funext j; unfold fillF; rw [if_neg (Nat.not_lt_zero _)]
theorem mput_idk (u : mS) (k : Nat) : mput u k (u.2 k) = u := by
  refine Prod.ext rfl ?_
  funext j
  unfold mput
  dsimp only
  by_cases e : j = k
  · rw [if_pos e, e]
  · rw [if_neg e]
theorem fill_0 (u : mS) (k : Nat) (z : Int32) : u = mput u k (fillF (u.2 k) 0 z) := by rw [fillF_0, mput_idk]
theorem fill_step (u0 : mS) (k : Nat) (z : Int32) {i : Nat} (hi : i < 2 ^ 31) : mst (mput u0 k (fillF (u0.2 k) i z)) k (nI i) z = mput u0 k (fillF (u0.2 k) (i + 1) z) := by
  unfold mst
  rw [nI_clamp hi]
  unfold mput
  refine Prod.ext rfl ?_
  funext j
  dsimp only
  by_cases e : j = k
  · subst e
    rw [if_pos rfl, if_pos rfl, if_pos rfl]
    funext q
    unfold upd fillF
    by_cases e1 : q = i
    · rw [if_pos e1, if_pos (by omega)]
    · rw [if_neg e1]
      by_cases e2 : q < i
      · rw [if_pos e2, if_pos (by omega)]
      · rw [if_neg e2, if_neg (by omega)]
  · rw [if_neg e, if_neg e, if_neg e]
/-- the day's end, behind the edition's -/
def dayS (w : mS) (K : Nat) : mS := mForget (mput (mput (mset (mset w 38 (w.1 38 + 1)) 39 0) 2 (fillF (w.2 2) 5760 (-2))) 22 (fillF (w.2 22) K 0))
def mDay (u : mS) : Int32 × mS := if u.1 38 = 399 then (-1, u) else ((dayS (endP u 12) (u.1 3).toNatClampNeg).1 38, dayS (endP u 12) (u.1 3).toNatClampNeg)
set_option maxHeartbeats 4000000 in
set_option maxRecDepth 100000 in
theorem m_day_l1 {p : Program} {l : Launch} {e : Env} {R : Room} {s : State} {m : MethodId} {args : Array Value} {below : List Frame} {meth : Method} {c : Code} {Q : State → Prop} {cells slots : Nat} {dC : Nat → ClassId} {dI : Nat → Nat → Nat} {h0 : Nat} {v : Nat → Nat} {cI cZ : ClassId} {u0 : mS} {A : Nat → Prop} {H0 : Heap} (hx : p.tables.exec = Jvm.exec) (hb : c.code = cX12_day) (hml : c.maxLocals = 2) (hts : ∀ w ∈ wsX12_day, w.before args s = true) (hown : s.vm.findClass RX12 = some m.cls) (hN : NN s) (hK : va_K (dC, dI) vwCl [(cI, .int), (cZ, .boolean)] s) (hA : ∀ q : Nat, H0.size ≤ q → A q) (kx : ∀ (u : mS) (H : Heap) (locs : List Loc) (ls : Array Slot), u = mput u0 2 (fillF (u0.2 2) 5760 (-2)) → va_P (dC, dI) vwCl (mW h0 v cI cZ u) H → va_D A (mW h0 v cI cZ u) → va_S A H0 H locs → lv_has ls 2 [(1, .int (nI 5760)), (0, .ref h0)] → W p l e R s m args below meth c H locs cells slots Q (F0 m 54 ls [])) : ∀ (k i : Nat) (u : mS) (H : Heap) (locs : List Loc) (ls : Array Slot), i ≤ 5760 → 5760 - i < k → u = mput u0 2 (fillF (u0.2 2) i (-2)) → va_P (dC, dI) vwCl (mW h0 v cI cZ u) H → va_D A (mW h0 v cI cZ u) → va_S A H0 H locs → lv_has ls 2 [(1, .int (nI i)), (0, .ref h0)] → W p l e R s m args below meth c H locs cells slots Q (F0 m 33 ls []) := by
  intro k
  induction k with
  | zero => intro i u H locs ls h1 h2; exact absurd h2 (Nat.not_lt_zero _)
  | succ k ih =>
    intro i u H locs ls hi hk hg hP hD hS hl
    refine lv_iload_n hx hb dX12_day_33 rfl (lv_at hl 0 rfl) ?_
    refine lv_sipush (v := 5760) hx hb dX12_day_34 (by decide) ?_
    refine lv_icmp_ge (tgt := 54) hx hb dX12_day_37 (by decide) (fun c_1 => ?_) (fun c_1 => ?_)
    ·
      have hie : i = 5760 := lp_eq rfl (by decide) hi c_1
      subst hie
      exact kx _ _ _ ls hg hP hD hS (lv_sub hl [0, 1] rfl)
    ·
      have hlt : i < 5760 := lp_lt rfl (by decide) hi c_1
      refine lv_aload_n hx hb dX12_day_40 rfl (lv_at hl 1 rfl) ?_
      refine va_get (D := (dC, dI)) (ci := 11) (v := .ref (v 2)) (C := RX12) (T := TX12) (N := 52) hx hb hts (by decide +kernel) hown hK hP 0 rfl rfl 2 (by decide) (hts (.fieldLink RX12 16 "PageOneModel" "cell" "[I") (by decide +kernel)) (fun _ h9 => h9) rfl dX12_day_41 ?_
      refine lv_iload_n hx hb dX12_day_44 rfl (lv_at hl 0 rfl) ?_
      refine lv_bipush (v := (-2)) hx hb dX12_day_45 (by decide) ?_
      refine va_iast hx hb hK hP hD hS 3 0 rfl rfl (vp_in_nI hlt (by decide)) dX12_day_47 (fun H locs hP hD hS => ?_)
      obtain ⟨u_2, eu_2⟩ : ∃ zz : mS, zz = mst u 2 (nI i) (-2) := ⟨_, rfl⟩
      have hP : va_P (dC, dI) vwCl (mW h0 v cI cZ u_2) H := by rw [eu_2]; exact hP
      have hD : va_D A (mW h0 v cI cZ u_2) := by rw [eu_2]; exact hD
      refine lv_iinc (v := (nI (i + 1))) (lv' := [(1, .int (nI (i + 1))), (0, .ref h0)]) hx hb dX12_day_48 hl (k := 0) rfl (nI_1 i) (by decide) rfl (fun ls hl => ?_)
      refine lv_goto (tgt := 33) hx hb dX12_day_51 (by decide) ?_
      exact ih (i + 1) _ _ _ ls (by omega) (by omega) (by rw [eu_2, hg]; exact fill_step _ _ _ (by omega)) hP hD hS (lv_sub hl [0, 1] rfl)
set_option maxHeartbeats 4000000 in
set_option maxRecDepth 100000 in
theorem m_day_l2 {p : Program} {l : Launch} {e : Env} {R : Room} {s : State} {m : MethodId} {args : Array Value} {below : List Frame} {meth : Method} {c : Code} {Q : State → Prop} {cells slots : Nat} {dC : Nat → ClassId} {dI : Nat → Nat → Nat} {h0 : Nat} {v : Nat → Nat} {cI cZ : ClassId} {u0 : mS} {K : Nat} (hK8 : K ≤ 80) (eK : u0.1 3 = nI K) {A : Nat → Prop} {H0 : Heap} (hx : p.tables.exec = Jvm.exec) (hb : c.code = cX12_day) (hml : c.maxLocals = 2) (hts : ∀ w ∈ wsX12_day, w.before args s = true) (hown : s.vm.findClass RX12 = some m.cls) (hN : NN s) (hK : va_K (dC, dI) vwCl [(cI, .int), (cZ, .boolean)] s) (hA : ∀ q : Nat, H0.size ≤ q → A q) (kx : ∀ (u : mS) (H : Heap) (locs : List Loc) (ls : Array Slot), u = mput u0 22 (fillF (u0.2 22) K 0) → va_P (dC, dI) vwCl (mW h0 v cI cZ u) H → va_D A (mW h0 v cI cZ u) → va_S A H0 H locs → lv_has ls 2 [(1, .int (nI K)), (0, .ref h0)] → W p l e R s m args below meth c H locs cells slots Q (F0 m 77 ls [])) : ∀ (k i : Nat) (u : mS) (H : Heap) (locs : List Loc) (ls : Array Slot), i ≤ K → K - i < k → u = mput u0 22 (fillF (u0.2 22) i 0) → va_P (dC, dI) vwCl (mW h0 v cI cZ u) H → va_D A (mW h0 v cI cZ u) → va_S A H0 H locs → lv_has ls 2 [(1, .int (nI i)), (0, .ref h0)] → W p l e R s m args below meth c H locs cells slots Q (F0 m 56 ls []) := by
  intro k
  induction k with
  | zero => intro i u H locs ls h1 h2; exact absurd h2 (Nat.not_lt_zero _)
  | succ k ih =>
    intro i u H locs ls hi hk hg hP hD hS hl
    refine lv_iload_n hx hb dX12_day_56 rfl (lv_at hl 0 rfl) ?_
    refine lv_aload_n hx hb dX12_day_57 rfl (lv_at hl 1 rfl) ?_
    refine va_get (D := (dC, dI)) (ci := 11) (v := .int (u.1 3)) (C := RX12) (T := TX12) (N := 52) hx hb hts (by decide +kernel) hown hK hP 0 rfl rfl 3 (by decide) (hts (.fieldLink RX12 147 "PageOneModel" "items" "I") (by decide +kernel)) (fun _ h9 => h9) rfl dX12_day_58 ?_
    refine lv_topi (fun y_1 ey_1 => ?_)
    obtain rfl : y_1 = (nI K) := ey_1.trans ((by rw [hg]; exact eK))
    refine lv_icmp_ge (tgt := 77) hx hb dX12_day_61 (by decide) (fun c_2 => ?_) (fun c_2 => ?_)
    ·
      have hie : i = K := lp_eq rfl (by omega) hi c_2
      rw [hie] at hg hl
      exact kx _ _ _ ls hg hP hD hS (lv_sub hl [0, 1] rfl)
    ·
      have hlt : i < K := lp_lt rfl (by omega) hi c_2
      refine lv_aload_n hx hb dX12_day_64 rfl (lv_at hl 1 rfl) ?_
      refine va_get (D := (dC, dI)) (ci := 11) (v := .ref (v 22)) (C := RX12) (T := TX12) (N := 52) hx hb hts (by decide +kernel) hown hK hP 0 rfl rfl 22 (by decide) (hts (.fieldLink RX12 74 "PageOneModel" "pieces" "[I") (by decide +kernel)) (fun _ h9 => h9) rfl dX12_day_65 ?_
      refine lv_iload_n hx hb dX12_day_68 rfl (lv_at hl 0 rfl) ?_
      refine lv_iconst (v := 0) hx hb dX12_day_69 (by decide) ?_
      refine va_iast hx hb hK hP hD hS 22 0 rfl rfl (vp_in_nI (by omega) (by decide)) dX12_day_70 (fun H locs hP hD hS => ?_)
      obtain ⟨u_3, eu_3⟩ : ∃ zz : mS, zz = mst u 22 (nI i) 0 := ⟨_, rfl⟩
      have hP : va_P (dC, dI) vwCl (mW h0 v cI cZ u_3) H := by rw [eu_3]; exact hP
      have hD : va_D A (mW h0 v cI cZ u_3) := by rw [eu_3]; exact hD
      refine lv_iinc (v := (nI (i + 1))) (lv' := [(1, .int (nI (i + 1))), (0, .ref h0)]) hx hb dX12_day_71 hl (k := 0) rfl (nI_1 i) (by decide) rfl (fun ls hl => ?_)
      refine lv_goto (tgt := 56) hx hb dX12_day_74 (by decide) ?_
      exact ih (i + 1) _ _ _ ls (by omega) (by omega) (by rw [eu_3, hg]; exact fill_step _ _ _ (by omega)) hP hD hS (lv_sub hl [0, 1] rfl)
set_option maxHeartbeats 4000000 in
set_option maxRecDepth 100000 in
theorem m_day (l : Launch) (dC : Nat → ClassId) (dI : Nat → Nat → Nat) (h0 : Nat) (v : Nat → Nat) (cI cZ : ClassId) (u : mS) (hn : bw (u.1 3) 0 80 = true) (hd : bw (u.1 38) 0 399 = true) (sz : Nat) : Met l yX12_day wsX12_day ({ frames := 2, cells := 0, slots := 0, locals := 43 }) (va_Pc [.ref h0] (fun U => U.heap.size = sz ∧ PW dC dI (mW h0 v cI cZ u) [(cI, .int), (cZ, .boolean)] U ∧ va_D (fun _ => True) (mW h0 v cI cZ u))) (va_Qi (fun (r : Int32) (u9 : mS) => (r, u9) = mDay u) (fun u9 t => va_P (dC, dI) vwCl (mW h0 v cI cZ u9) t.heap ∧ va_D (va_A (mW h0 v cI cZ u) sz) (mW h0 v cI cZ u9)) (va_A (mW h0 v cI cZ u) sz)) 0 0 (va_A (mW h0 v cI cZ u) sz) := by
  refine Met.ofW (cc := cX12_day) (maxL := 2) (ret := (some .int)) (by decide) rfl ?_
  intro p e s m args below meth c s₁ B hml hv
  obtain ⟨rfl, hsz, ⟨hP, hK, hN⟩, hD0⟩ := hv
  have hx := B.exec
  have hb := B.bytes
  have hr := B.returns
  have hts := atoms_spec (ws := wsX12_day) B.pre
  have hown : s.vm.findClass RX12 = some m.cls := findClass_of_methodNamed B.named
  have hlocks := B.notSynchronized
  subst hsz
  have hD := hD0.self (sz := s.heap.size)
  generalize hAe : va_A (mW h0 v cI cZ u) s.heap.size = A at hD ⊢
  have hA : ∀ q : Nat, s.heap.size ≤ q → A q := fun q h => by rw [← hAe]; exact Or.inr h
  have hS : va_S A s.heap s.heap [] := va_S.rf
  have hl := lv_entry ([.ref h0]) (n := 2) (Nat.le_of_ble_eq_true rfl)
  rw [lg_entry_eq]
  generalize (lg_sl ([.ref h0]) ++ List.replicate (2 - (lg_sl ([.ref h0])).length) Slot.unset).toArray = ls at hl ⊢
  have hl : lv_has ls 2 [(0, .ref h0)] := hl
  refine lv_aload_n hx hb dX12_day_0 rfl (lv_at hl 0 rfl) ?_
  refine va_get (D := (dC, dI)) (ci := 11) (v := .int (u.1 38)) (C := RX12) (T := TX12) (N := 52) hx hb hts (by decide +kernel) hown hK hP 0 rfl rfl 38 (by decide) (hts (.fieldLink RX12 206 "PageOneModel" "day" "I") (by decide +kernel)) (fun _ h9 => h9) rfl dX12_day_1 ?_
  refine lv_sipush (v := 399) hx hb dX12_day_4 (by decide) ?_
  refine lv_icmp_ne (tgt := 12) hx hb dX12_day_7 (by decide) (fun c_1 => ?_) (fun c_1 => ?_)
  ·
    refine lv_aload_n hx hb dX12_day_12 rfl (lv_at hl 0 rfl) ?_
    have hFc := fr_all hD hS hA
    refine va_callv (va_runV (As := []) (rest := []) ⟨hx, hb, hml, hown, hts⟩ (m_ends l dC dI h0 v cI cZ u hn hd s.heap.size) (cwV 0 hts gX12_day_X12_ends rfl rfl rfl (by decide +kernel) ⟨Nat.le_of_ble_eq_true rfl, Nat.le_of_ble_eq_true rfl⟩) ⟨gw_fb, va_recv hK hP (ci := 11) (q0 := 0) rfl rfl, fun U hU hW => ⟨rfl, by rw [hU], pw_to hU hW hP hK hN, hD.weaken (fun _ _ _ _ => trivial)⟩⟩ rfl rfl hl.1 rfl (lv_room (Nat.le_of_ble_eq_true rfl)) dX12_day_13 ⟨Nat.le_of_ble_eq_true rfl, Nat.le_of_ble_eq_true rfl⟩) hS (fun q _ h => hFc q h) hFc (fun u_2 t H1 locs ht hvm hw hB hz1 hk1 hS => ?_)
    obtain ⟨hP, hD1⟩ := hB
    rw [ht] at hP
    have hD := hD1.weaken (fun _ q _ h => hFc q.1 h)
    generalize H1 = H at hP hS ⊢
    have eu_2 := hw
    refine lv_aload_n hx hb dX12_day_16 rfl (lv_at hl 0 rfl) ?_
    refine lv_dup hx hb dX12_day_17 rfl ?_
    refine va_get (D := (dC, dI)) (ci := 11) (v := .int (u_2.1 38)) (C := RX12) (T := TX12) (N := 52) hx hb hts (by decide +kernel) hown hK hP 0 rfl rfl 38 (by decide) (hts (.fieldLink RX12 206 "PageOneModel" "day" "I") (by decide +kernel)) (fun _ h9 => h9) rfl dX12_day_18 ?_
    refine lv_iconst (v := 1) hx hb dX12_day_21 (by decide) ?_
    refine lv_iadd hx hb dX12_day_22 ?_
    refine va_put (D := (dC, dI)) (ci := 11) (v := .int ((u_2.1 38) + 1)) (ty := .int) (C := RX12) (T := TX12) (N := 52) hx hb hts (by decide +kernel) tyX12 tyX12_ok nmX12 hown hK hP hD hS 0 rfl rfl 38 (by decide) (hts (.fieldLink RX12 206 "PageOneModel" "day" "I") (by decide +kernel)) (fun _ h9 => h9) rfl (by decide +kernel) rfl rfl (Nat.le_of_ble_eq_true rfl) dX12_day_23 (fun H locs hP hD hS => ?_)
    obtain ⟨u_3, eu_3⟩ : ∃ zz : mS, zz = mset u_2 38 ((u_2.1 38) + 1) := ⟨_, rfl⟩
    have hP : va_P (dC, dI) vwCl (mW h0 v cI cZ u_3) H := by rw [eu_3]; exact hP
    have hD : va_D A (mW h0 v cI cZ u_3) := by rw [eu_3]; exact hD
    refine lv_aload_n hx hb dX12_day_26 rfl (lv_at hl 0 rfl) ?_
    refine lv_iconst (v := 0) hx hb dX12_day_27 (by decide) ?_
    refine va_put (D := (dC, dI)) (ci := 11) (v := .int 0) (ty := .int) (C := RX12) (T := TX12) (N := 52) hx hb hts (by decide +kernel) tyX12 tyX12_ok nmX12 hown hK hP hD hS 0 rfl rfl 39 (by decide) (hts (.fieldLink RX12 257 "PageOneModel" "edition" "I") (by decide +kernel)) (fun _ h9 => h9) rfl (by decide +kernel) rfl rfl (Nat.le_of_ble_eq_true rfl) dX12_day_28 (fun H locs hP hD hS => ?_)
    obtain ⟨u_4, eu_4⟩ : ∃ zz : mS, zz = mset u_3 39 0 := ⟨_, rfl⟩
    have hP : va_P (dC, dI) vwCl (mW h0 v cI cZ u_4) H := by rw [eu_4]; exact hP
    have hD : va_D A (mW h0 v cI cZ u_4) := by rw [eu_4]; exact hD
    refine lv_iconst (v := 0) hx hb dX12_day_31 (by decide) ?_
    refine lv_istore_n (lv' := [(1, .int 0), (0, .ref h0)]) hx hb dX12_day_32 rfl hl (by decide) rfl (fun ls hl => ?_)
    refine m_day_l1 (u0 := u_4) hx hb hml hts hown hN hK hA (fun u4 H locs ls hg4 hP hD hS hl => ?_) 5761 0 u_4 _ _ ls (by decide) (by decide) (fill_0 _ _ _) hP hD hS (lv_sub hl [0, 1] rfl)
    refine lv_iconst (v := 0) hx hb dX12_day_54 (by decide) ?_
    refine lv_istore_n (lv' := [(1, .int 0), (0, .ref h0)]) hx hb dX12_day_55 rfl hl (by decide) rfl (fun ls hl => ?_)
    obtain ⟨eK, eK2, eK3⟩ := nI_of_bw hn
    have h80 : (80 : Int32).toInt = 80 := rfl
    refine m_day_l2 (u0 := u4) (K := (u.1 3).toNatClampNeg) (by omega) (by rw [hg4, eu_4, eu_3]; show u_2.1 3 = _; rw [eu_2, (endP_k u 12).1]; exact eK) hx hb hml hts hown hN hK hA (fun u5 H locs ls hg5 hP hD hS hl => ?_) _ 0 u4 _ _ ls (Nat.zero_le _) (Nat.lt_succ_self _) (fill_0 _ _ _) hP hD hS (lv_sub hl [0, 1] rfl)
    refine lv_aload_n hx hb dX12_day_77 rfl (lv_at hl 1 rfl) ?_
    have hFc := fr_all hD hS hA
    refine va_callv (va_runV (As := []) (rest := []) ⟨hx, hb, hml, hown, hts⟩ (m_forget l dC dI h0 v cI cZ u5 H.size) (cwV 0 hts gX12_day_X12_forget rfl rfl rfl (by decide +kernel) ⟨Nat.le_of_ble_eq_true rfl, Nat.le_of_ble_eq_true rfl⟩) ⟨gw_fb, va_recv hK hP (ci := 11) (q0 := 0) rfl rfl, fun U hU hW => ⟨rfl, by rw [hU], pw_to hU hW hP hK hN, hD.weaken (fun _ _ _ _ => trivial)⟩⟩ rfl rfl hl.1 rfl (lv_room (Nat.le_of_ble_eq_true rfl)) dX12_day_78 ⟨Nat.le_of_ble_eq_true rfl, Nat.le_of_ble_eq_true rfl⟩) hS (fun q _ h => hFc q h) hFc (fun u_5 t H1 locs ht hvm hw hB hz1 hk1 hS => ?_)
    obtain ⟨hP, hD1⟩ := hB
    rw [ht] at hP
    have hD := hD1.weaken (fun _ q _ h => hFc q.1 h)
    generalize H1 = H at hP hS ⊢
    have eu_5 := hw
    refine lv_aload_n hx hb dX12_day_81 rfl (lv_at hl 1 rfl) ?_
    refine va_get (D := (dC, dI)) (ci := 11) (v := .int (u_5.1 38)) (C := RX12) (T := TX12) (N := 52) hx hb hts (by decide +kernel) hown hK hP 0 rfl rfl 38 (by decide) (hts (.fieldLink RX12 206 "PageOneModel" "day" "I") (by decide +kernel)) (fun _ h9 => h9) rfl dX12_day_82 ?_
    exact W.iret (v := (u_5.1 38)) hx hb hr (fun t ht hW => ⟨⟨(u_5.1 38), u_5, rfl, (by show _ = mDay u; unfold mDay; rw [if_neg c_1, ← eu_2]; subst eu_3 eu_4 hg4 hg5 eu_5; rfl), by rw [ht]; exact hP, hD⟩, hS.F ht⟩) hS.2.2 dX12_day_85
  ·
    refine lv_iconst (v := (-1)) hx hb dX12_day_10 (by decide) ?_
    exact W.iret (v := (-1)) hx hb hr (fun t ht hW => ⟨⟨(-1), u, rfl, (by show _ = mDay u; unfold mDay; rw [if_pos c_1]), by rw [ht]; exact hP, hD⟩, hS.F ht⟩) hS.2.2 dX12_day_11
