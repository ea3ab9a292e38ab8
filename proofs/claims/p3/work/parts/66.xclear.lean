theorem cpy_b {f g : Nat → Int32} (hf : ∀ j, j < 8 → bw (f j) 0 60 = true) (hg : ∀ j, j < 8 → bw (g j) 0 60 = true) : ∀ j, j < 8 → bw (va_cpy f g (0 : Int32).toNatClampNeg (0 : Int32).toNatClampNeg (8 : Int32).toNatClampNeg j) 0 60 = true := by
  intro j hj
  unfold va_cpy
  split
  · exact hf _ (by have h0 : (0 : Int32).toNatClampNeg = 0 := rfl; rw [h0]; omega)
  · exact hg j hj
set_option maxHeartbeats 4000000 in
set_option maxRecDepth 100000 in
theorem x_fill9_l {p : Program} {l : Launch} {e : Env} {R : Room} {s : State} {m : MethodId} {args : Array Value} {below : List Frame} {meth : Method} {c : Code} {Q : State → Prop} {cells slots : Nat} {dC : Nat → ClassId} {dI : Nat → Nat → Nat} {q : Nat → ClassId} {h0 : Nat} {d : Nat → Nat} {k : Nat → Int32} {z : gS} {a0 : Nat} {p0 : Int32} (ha0 : tg z a0 9) {A : Nat → Prop} {H0 : Heap} (hx : p.tables.exec = Jvm.exec) (hb : c.code = cJ7_fill_53178) (hml : c.maxLocals = 4) (hts : ∀ w ∈ wsJ7_fill_53178, w.before args s = true) (hown : s.vm.findClass RJ7 = some m.cls) (hN : NN s) (hXN : XN s) (hK : va_K (dC, dI) vwCl (xT q) s) (hA : ∀ q : Nat, H0.size ≤ q → A q) (kx20 : ∀ (f : xF) (H : Heap) (locs : List Loc) (ls : Array Slot), xI q h0 d k z f → va_P (dC, dI) vwCl (va_pl z.1 f) H → va_D A (va_pl z.1 f) → va_S A H0 H locs → lv_has ls 4 [(0, .ref a0)] → W p l e R s m args below meth c H locs cells slots Q (F0 m 20 ls [])) : ∀ (kk i : Nat) (f : xF) (H : Heap) (locs : List Loc) (ls : Array Slot), i ≤ 480 → 480 - i < kk → xI q h0 d k z f → va_P (dC, dI) vwCl (va_pl z.1 f) H → va_D A (va_pl z.1 f) → va_S A H0 H locs → lv_has ls 4 [(2, .int (nI i)), (0, .ref a0), (1, .int p0), (3, .int (nI 480))] → W p l e R s m args below meth c H locs cells slots Q (F0 m 5 ls []) := by
  intro kk
  induction kk with
  | zero => intro i f H locs ls h1 h2; exact absurd h2 (Nat.not_lt_zero _)
  | succ kk ih =>
    intro i f H locs ls hi hkk hI hP hD hS hl
    refine lv_iload_n hx hb dJ7_fill_53178_5 rfl (lv_at hl 0 rfl) ?_
    refine lv_iload_n hx hb dJ7_fill_53178_6 rfl (lv_at hl 3 rfl) ?_
    refine lv_icmp_ge (tgt := 20) hx hb dJ7_fill_53178_7 (by decide) (fun c_1 => ?_) (fun c_1 => ?_)
    ·
      have hie : i = 480 := lp_eq rfl (by decide) hi c_1
      exact kx20 _ _ _ ls hI hP hD hS (lv_sub hl [1] rfl)
    ·
      have hlt : i < 480 := lp_lt rfl (by decide) hi c_1
      refine lv_aload_n hx hb dJ7_fill_53178_10 rfl (lv_at hl 1 rfl) ?_
      refine lv_iload_n hx hb dJ7_fill_53178_11 rfl (lv_at hl 0 rfl) ?_
      refine lv_iload_n hx hb dJ7_fill_53178_12 rfl (lv_at hl 2 rfl) ?_
      obtain ⟨g_2, hs_3⟩ := x_ce hI ha0
      obtain ⟨kk_4, hk_5⟩ := pl_at ha0.1 hs_3
      have hD0 := hD
      refine va_iast hx hb hK hP hD hS kk_4 0 hk_5 rfl (vp_in_nI hlt (by decide)) dJ7_fill_53178_13 (fun H locs hP hD hS => ?_)
      rw [pl_set hD0 ha0.1 hs_3 hk_5] at hP hD
      obtain ⟨f_6, ef_6⟩ : ∃ y : xF, y = va_up f a0 (aI (q 0) 480 (upd g_2 ((nI i) : Int32).toNatClampNeg p0)) := ⟨_, rfl⟩
      have hI : xI q h0 d k z f_6 := by rw [ef_6]; exact x_up hI ha0 (by decide) (cO_9 ha0.2 ⟨_, rfl⟩)
      have hP : va_P (dC, dI) vwCl (va_pl z.1 f_6) H := by rw [ef_6]; exact hP
      have hD : va_D A (va_pl z.1 f_6) := by rw [ef_6]; exact hD
      refine lv_iinc (v := (nI (i + 1))) (lv' := [(2, .int (nI (i + 1))), (0, .ref a0), (1, .int p0), (3, .int (nI 480))]) hx hb dJ7_fill_53178_14 hl (k := 0) rfl (nI_1 i) (by decide) rfl (fun ls hl => ?_)
      refine lv_goto (tgt := 5) hx hb dJ7_fill_53178_17 (by decide) ?_
      exact ih (i + 1) _ _ _ ls (by omega) (by omega) hI hP hD hS (lv_sub hl [0, 1, 2, 3] rfl)
set_option maxHeartbeats 4000000 in
set_option maxRecDepth 100000 in
theorem x_fill9 (l : Launch) (dC : Nat → ClassId) (dI : Nat → Nat → Nat) (q : Nat → ClassId) (h0 : Nat) (d : Nat → Nat) (k : Nat → Int32) (z : gS) (f : xF) (hI : xI q h0 d k z f) (a0 : Nat) (p0 : Int32) (ha0 : tg z a0 9) (sz : Nat) : Met l yJ7_fill_53178 wsJ7_fill_53178 ({ frames := 0, cells := 0, slots := 0, locals := 0 }) (va_Pc [.ref a0, .int p0] (fun U => U.heap.size = sz ∧ PX dC dI (va_pl z.1 f) (xT q) U ∧ va_D (fun _ => True) (va_pl z.1 f))) (va_Qv (fun (w : xU) => w.1 = k ∧ w.2.1 = z ∧ xI q h0 d k z w.2.2) (fun (w : xU) t => va_P (dC, dI) vwCl (va_pl w.2.1.1 w.2.2) t.heap ∧ va_D (va_A (va_pl z.1 f) sz) (va_pl w.2.1.1 w.2.2)) (va_A (va_pl z.1 f) sz)) 0 0 (va_A (va_pl z.1 f) sz) := by
  refine Met.ofW (cc := cJ7_fill_53178) (maxL := 4) (ret := none) (by decide) rfl ?_
  intro p e s m args below meth c s₁ B hml hv
  obtain ⟨rfl, hsz, ⟨⟨hP, hK, hN⟩, hXN⟩, hD0⟩ := hv
  have hx := B.exec
  have hb := B.bytes
  have hr := B.returns
  have hts := atoms_spec (ws := wsJ7_fill_53178) B.pre
  have hown : s.vm.findClass RJ7 = some m.cls := findClass_of_methodNamed B.named
  have hlocks := B.notSynchronized
  subst hsz
  have hD := hD0.self (sz := s.heap.size)
  generalize hAe : va_A (va_pl z.1 f) s.heap.size = A at hD ⊢
  have hA : ∀ q : Nat, s.heap.size ≤ q → A q := fun q h => by rw [← hAe]; exact Or.inr h
  have hS : va_S A s.heap s.heap [] := va_S.rf
  have hl := lv_entry ([.ref a0, .int p0]) (n := 4) (Nat.le_of_ble_eq_true rfl)
  rw [lg_entry_eq]
  generalize (lg_sl ([.ref a0, .int p0]) ++ List.replicate (4 - (lg_sl ([.ref a0, .int p0])).length) Slot.unset).toArray = ls at hl ⊢
  have hl : lv_has ls 4 [(0, .ref a0), (1, .int p0)] := hl
  refine lv_iconst (v := 0) hx hb dJ7_fill_53178_0 (by decide) ?_
  refine lv_istore_n (lv' := [(2, .int 0), (0, .ref a0), (1, .int p0)]) hx hb dJ7_fill_53178_1 rfl hl (by decide) rfl (fun ls hl => ?_)
  refine lv_aload_n hx hb dJ7_fill_53178_2 rfl (lv_at hl 1 rfl) ?_
  obtain ⟨g_1, hs_2⟩ := x_ce hI ha0
  obtain ⟨kk_3, hk_4⟩ := pl_at ha0.1 hs_2
  refine va_alen hx hb hK hP kk_3 0 hk_4 rfl (v := nI 480) rfl dJ7_fill_53178_3 ?_
  refine lv_istore_n (lv' := [(3, .int (nI 480)), (2, .int 0), (0, .ref a0), (1, .int p0)]) hx hb dJ7_fill_53178_4 rfl hl (by decide) rfl (fun ls hl => ?_)
  refine x_fill9_l ha0 hx hb hml hts hown hN hXN hK hA (fun f H locs ls hI hP hD hS hl => ?_) 481 0 _ _ _ ls (by decide) (by decide) hI hP hD hS (lv_sub hl [1, 2, 3, 0] rfl)
  exact W.vret hx hb hr (fun t ht hW => ⟨⟨(k, z, f), rfl, ⟨rfl, rfl, hI⟩, by rw [ht]; exact hP, hD⟩, hS.F ht⟩) hS.2.2 dJ7_fill_53178_20
set_option maxHeartbeats 4000000 in
set_option maxRecDepth 100000 in
theorem x_clear (l : Launch) (dC : Nat → ClassId) (dI : Nat → Nat → Nat) (q : Nat → ClassId) (h0 : Nat) (d : Nat → Nat) (k : Nat → Int32) (z : gS) (f : xF) (hI : xI q h0 d k z f) (a0 : Nat) (ha0 : tg z a0 7) (sz : Nat) : Met l yX9_clear wsX9_clear ({ frames := 1, cells := 0, slots := 0, locals := 23 }) (va_Pc [.ref a0] (fun U => U.heap.size = sz ∧ PX dC dI (va_pl z.1 f) (xT q) U ∧ va_D (fun _ => True) (va_pl z.1 f))) (va_Qv (fun (w : xU) => w.1 = k ∧ w.2.1 = z ∧ xI q h0 d k z w.2.2) (fun (w : xU) t => va_P (dC, dI) vwCl (va_pl w.2.1.1 w.2.2) t.heap ∧ va_D (va_A (va_pl z.1 f) sz) (va_pl w.2.1.1 w.2.2)) (va_A (va_pl z.1 f) sz)) 0 0 (va_A (va_pl z.1 f) sz) := by
  refine Met.ofW (cc := cX9_clear) (maxL := 1) (ret := none) (by decide) rfl ?_
  intro p e s m args below meth c s₁ B hml hv
  obtain ⟨rfl, hsz, ⟨⟨hP, hK, hN⟩, hXN⟩, hD0⟩ := hv
  have hx := B.exec
  have hb := B.bytes
  have hr := B.returns
  have hts := atoms_spec (ws := wsX9_clear) B.pre
  have hown : s.vm.findClass RX9 = some m.cls := findClass_of_methodNamed B.named
  have hlocks := B.notSynchronized
  subst hsz
  have hD := hD0.self (sz := s.heap.size)
  generalize hAe : va_A (va_pl z.1 f) s.heap.size = A at hD ⊢
  have hA : ∀ q : Nat, s.heap.size ≤ q → A q := fun q h => by rw [← hAe]; exact Or.inr h
  have hS : va_S A s.heap s.heap [] := va_S.rf
  have hl := lv_entry ([.ref a0]) (n := 1) (Nat.le_of_ble_eq_true rfl)
  rw [lg_entry_eq]
  generalize (lg_sl ([.ref a0]) ++ List.replicate (1 - (lg_sl ([.ref a0])).length) Slot.unset).toArray = ls at hl ⊢
  have hl : lv_has ls 1 [(0, .ref a0)] := hl
  refine lv_aload_n hx hb dX9_clear_0 rfl (lv_at hl 0 rfl) ?_
  obtain ⟨la_1, ca_2, m_3, dd_4, ii_5, hs_6, ht_7, ht_8⟩ := x_sh hI ha0
  obtain ⟨kk_9, hk_10⟩ := pl_at ha0.1 hs_6
  refine va_get (D := (dC, dI)) (ci := 8) (v := .ref ca_2) (C := RX9) (T := TX9) (N := 5) hx hb hts (by decide +kernel) hown hK hP kk_9 hk_10 rfl 1 (by decide) (hts (.fieldLink RX9 15 "PageOne$Sheet" "cells" "[I") (by decide +kernel)) (fun _ h9 => h9) rfl dX9_clear_1 ?_
  refine lv_bipush (v := (-2)) hx hb dX9_clear_4 (by decide) ?_
  have hFc := fr_all hD hS hA
  refine va_callv (va_runS (As := [.ref ca_2, .int (-2)]) (rest := []) ⟨hx, hb, hml, hown, hts⟩ (x_fill9 l dC dI q h0 d k z f hI ca_2 (-2) ht_8 s.heap.size) (va_cwS 2 hts gX9_clear_J7_fill_53178 rfl rfl rfl (by decide +kernel) ⟨Nat.le_of_ble_eq_true rfl, Nat.le_of_ble_eq_true rfl⟩) ⟨gx_fb, fun U hU hW => ⟨rfl, by rw [hU], px_to hU hW hP hK hN hXN, hD.weaken (fun _ _ _ _ => trivial)⟩⟩ rfl rfl hl.1 rfl (lv_room (Nat.le_of_ble_eq_true rfl)) dX9_clear_6 ⟨Nat.le_of_ble_eq_true rfl, Nat.le_of_ble_eq_true rfl⟩) hS (fun q _ h => hFc q h) hFc (fun w_11 t H1 locs ht hvm hw hB hz1 hk1 hS => ?_)
  obtain ⟨hP, hD1⟩ := hB
  rw [ht] at hP
  rw [hw.2.1] at hP hD1
  have hD := hD1.weaken (fun _ q _ h => hFc q.1 h)
  have hI := hw.2.2
  have hw0 := hw
  generalize w_11.2.2 = f_12 at hP hD hI hw0
  generalize H1 = H at hP hS ⊢
  exact W.vret hx hb hr (fun t ht hW => ⟨⟨(k, z, f_12), rfl, ⟨rfl, rfl, hI⟩, by rw [ht]; exact hP, hD⟩, hS.F ht⟩) hS.2.2 dX9_clear_9
set_option maxHeartbeats 4000000 in
set_option maxRecDepth 100000 in
theorem x_copyFrom (l : Launch) (dC : Nat → ClassId) (dI : Nat → Nat → Nat) (q : Nat → ClassId) (h0 : Nat) (d : Nat → Nat) (k : Nat → Int32) (z : gS) (f : xF) (hI : xI q h0 d k z f) (a0 b0 : Nat) (ha0 : tg z a0 7) (hb0 : tg z b0 7) (sz : Nat) : Met l yX9_copyFrom wsX9_copyFrom ({ frames := 1, cells := 0, slots := 0, locals := 40 }) (va_Pc [.ref a0, .ref b0] (fun U => U.heap.size = sz ∧ PX dC dI (va_pl z.1 f) (xT q) U ∧ va_D (fun _ => True) (va_pl z.1 f))) (va_Qv (fun (w : xU) => w.1 = k ∧ w.2.1 = z ∧ xI q h0 d k z w.2.2) (fun (w : xU) t => va_P (dC, dI) vwCl (va_pl w.2.1.1 w.2.2) t.heap ∧ va_D (va_A (va_pl z.1 f) sz) (va_pl w.2.1.1 w.2.2)) (va_A (va_pl z.1 f) sz)) 0 0 (va_A (va_pl z.1 f) sz) := by
  refine Met.ofW (cc := cX9_copyFrom) (maxL := 2) (ret := none) (by decide) rfl ?_
  intro p e s m args below meth c s₁ B hml hv
  obtain ⟨rfl, hsz, ⟨⟨hP, hK, hN⟩, hXN⟩, hD0⟩ := hv
  have hx := B.exec
  have hb := B.bytes
  have hr := B.returns
  have hts := atoms_spec (ws := wsX9_copyFrom) B.pre
  have hown : s.vm.findClass RX9 = some m.cls := findClass_of_methodNamed B.named
  have hlocks := B.notSynchronized
  subst hsz
  have hD := hD0.self (sz := s.heap.size)
  generalize hAe : va_A (va_pl z.1 f) s.heap.size = A at hD ⊢
  have hA : ∀ q : Nat, s.heap.size ≤ q → A q := fun q h => by rw [← hAe]; exact Or.inr h
  have hS : va_S A s.heap s.heap [] := va_S.rf
  have hl := lv_entry ([.ref a0, .ref b0]) (n := 2) (Nat.le_of_ble_eq_true rfl)
  rw [lg_entry_eq]
  generalize (lg_sl ([.ref a0, .ref b0]) ++ List.replicate (2 - (lg_sl ([.ref a0, .ref b0])).length) Slot.unset).toArray = ls at hl ⊢
  have hl : lv_has ls 2 [(0, .ref a0), (1, .ref b0)] := hl
  refine lv_aload_n hx hb dX9_copyFrom_0 rfl (lv_at hl 1 rfl) ?_
  obtain ⟨la_1, ca_2, m_3, dd_4, ii_5, hs_6, ht_7, ht_8⟩ := x_sh hI hb0
  obtain ⟨kk_9, hk_10⟩ := pl_at hb0.1 hs_6
  refine va_get (D := (dC, dI)) (ci := 8) (v := .ref la_1) (C := RX9) (T := TX9) (N := 5) hx hb hts (by decide +kernel) hown hK hP kk_9 hk_10 rfl 0 (by decide) (hts (.fieldLink RX9 9 "PageOne$Sheet" "lines" "[I") (by decide +kernel)) (fun _ h9 => h9) rfl dX9_copyFrom_1 ?_
  refine lv_iconst (v := 0) hx hb dX9_copyFrom_4 (by decide) ?_
  refine lv_aload_n hx hb dX9_copyFrom_5 rfl (lv_at hl 0 rfl) ?_
  obtain ⟨la_11, ca_12, m_13, dd_14, ii_15, hs_16, ht_17, ht_18⟩ := x_sh hI ha0
  obtain ⟨kk_19, hk_20⟩ := pl_at ha0.1 hs_16
  refine va_get (D := (dC, dI)) (ci := 8) (v := .ref la_11) (C := RX9) (T := TX9) (N := 5) hx hb hts (by decide +kernel) hown hK hP kk_19 hk_20 rfl 0 (by decide) (hts (.fieldLink RX9 9 "PageOne$Sheet" "lines" "[I") (by decide +kernel)) (fun _ h9 => h9) rfl dX9_copyFrom_6 ?_
  refine lv_iconst (v := 0) hx hb dX9_copyFrom_9 (by decide) ?_
  refine lv_bipush (v := 8) hx hb dX9_copyFrom_10 (by decide) ?_
  obtain ⟨g_21, hs_22, hg_23⟩ := x_ln hI ht_7
  obtain ⟨g_24, hs_25, hg_26⟩ := x_ln hI ht_17
  obtain ⟨kk_27, hk_28⟩ := pl_at ht_7.1 hs_22
  obtain ⟨kk_29, hk_30⟩ := pl_at ht_17.1 hs_25
  have hD0 := hD
  refine va_copyi hx hb (by rw [hml]; exact hl.1.symm) hown (hts (.methodLink RX9 68 arraycopyName) (by decide +kernel)) (hts (.native arraycopyName) (by decide +kernel)) (hts (.static arraycopyName) (by decide +kernel)) (hts (.initialized "java/lang/System") (by decide +kernel)) hK hP hD hS kk_27 kk_29 0 0 hk_28 hk_30 rfl rfl rfl (sp := 0) (dp := 0) (n := 8) (by decide) (by decide) (by decide) (by decide) (by decide) (fun _ _ => rfl) (Nat.le_of_ble_eq_true rfl) (Nat.le_of_ble_eq_true rfl) dX9_copyFrom_12 (fun H locs hP hD hS => ?_)
  rw [pl_set hD0 ht_17.1 hs_25 hk_30] at hP hD
  obtain ⟨f_31, ef_31⟩ : ∃ y : xF, y = va_up f la_11 (aI (q 0) 8 (va_cpy g_21 g_24 (0 : Int32).toNatClampNeg (0 : Int32).toNatClampNeg (8 : Int32).toNatClampNeg)) := ⟨_, rfl⟩
  have hI : xI q h0 d k z f_31 := by rw [ef_31]; exact x_up hI ht_17 (by decide) (cO_8 ht_17.2 ⟨_, rfl, cpy_b hg_23 hg_26⟩)
  have hP : va_P (dC, dI) vwCl (va_pl z.1 f_31) H := by rw [ef_31]; exact hP
  have hD : va_D A (va_pl z.1 f_31) := by rw [ef_31]; exact hD
  refine lv_aload_n hx hb dX9_copyFrom_15 rfl (lv_at hl 1 rfl) ?_
  obtain ⟨la_32, ca_33, m_34, dd_35, ii_36, hs_37, ht_38, ht_39⟩ := x_sh hI hb0
  obtain ⟨kk_40, hk_41⟩ := pl_at hb0.1 hs_37
  refine va_get (D := (dC, dI)) (ci := 8) (v := .ref ca_33) (C := RX9) (T := TX9) (N := 5) hx hb hts (by decide +kernel) hown hK hP kk_40 hk_41 rfl 1 (by decide) (hts (.fieldLink RX9 15 "PageOne$Sheet" "cells" "[I") (by decide +kernel)) (fun _ h9 => h9) rfl dX9_copyFrom_16 ?_
  refine lv_iconst (v := 0) hx hb dX9_copyFrom_19 (by decide) ?_
  refine lv_aload_n hx hb dX9_copyFrom_20 rfl (lv_at hl 0 rfl) ?_
  obtain ⟨la_42, ca_43, m_44, dd_45, ii_46, hs_47, ht_48, ht_49⟩ := x_sh hI ha0
  obtain ⟨kk_50, hk_51⟩ := pl_at ha0.1 hs_47
  refine va_get (D := (dC, dI)) (ci := 8) (v := .ref ca_43) (C := RX9) (T := TX9) (N := 5) hx hb hts (by decide +kernel) hown hK hP kk_50 hk_51 rfl 1 (by decide) (hts (.fieldLink RX9 15 "PageOne$Sheet" "cells" "[I") (by decide +kernel)) (fun _ h9 => h9) rfl dX9_copyFrom_21 ?_
  refine lv_iconst (v := 0) hx hb dX9_copyFrom_24 (by decide) ?_
  refine lv_sipush (v := 480) hx hb dX9_copyFrom_25 (by decide) ?_
  obtain ⟨g_52, hs_53⟩ := x_ce hI ht_39
  obtain ⟨g_54, hs_55⟩ := x_ce hI ht_49
  obtain ⟨kk_56, hk_57⟩ := pl_at ht_39.1 hs_53
  obtain ⟨kk_58, hk_59⟩ := pl_at ht_49.1 hs_55
  have hD0 := hD
  refine va_copyi hx hb (by rw [hml]; exact hl.1.symm) hown (hts (.methodLink RX9 68 arraycopyName) (by decide +kernel)) (hts (.native arraycopyName) (by decide +kernel)) (hts (.static arraycopyName) (by decide +kernel)) (hts (.initialized "java/lang/System") (by decide +kernel)) hK hP hD hS kk_56 kk_58 0 0 hk_57 hk_59 rfl rfl rfl (sp := 0) (dp := 0) (n := 480) (by decide) (by decide) (by decide) (by decide) (by decide) (fun _ _ => rfl) (Nat.le_of_ble_eq_true rfl) (Nat.le_of_ble_eq_true rfl) dX9_copyFrom_28 (fun H locs hP hD hS => ?_)
  rw [pl_set hD0 ht_49.1 hs_55 hk_59] at hP hD
  obtain ⟨f_60, ef_60⟩ : ∃ y : xF, y = va_up f_31 ca_43 (aI (q 0) 480 (va_cpy g_52 g_54 (0 : Int32).toNatClampNeg (0 : Int32).toNatClampNeg (480 : Int32).toNatClampNeg)) := ⟨_, rfl⟩
  have hI : xI q h0 d k z f_60 := by rw [ef_60]; exact x_up hI ht_49 (by decide) (cO_9 ht_49.2 ⟨_, rfl⟩)
  have hP : va_P (dC, dI) vwCl (va_pl z.1 f_60) H := by rw [ef_60]; exact hP
  have hD : va_D A (va_pl z.1 f_60) := by rw [ef_60]; exact hD
  exact W.vret hx hb hr (fun t ht hW => ⟨⟨(k, z, f_60), rfl, ⟨rfl, rfl, hI⟩, by rw [ht]; exact hP, hD⟩, hS.F ht⟩) hS.2.2 dX9_copyFrom_31
