set_option maxHeartbeats 4000000 in
set_option maxRecDepth 100000 in
theorem y_fill9_l {p : Program} {l : Launch} {e : Env} {R : Room} {s : State} {m : MethodId} {args : Array Value} {below : List Frame} {meth : Method} {c : Code} {Q : State → Prop} {cells slots : Nat} {dC : Nat → ClassId} {dI : Nat → Nat → Nat} {q : Nat → ClassId} {h0 : Nat} {d : Nat → Nat} {k : Nat → Int32} {z : gS} {a0 : Nat} {p0 : Int32} {f0 : xF} (ha0 : tg z a0 9) {A : Nat → Prop} {H0 : Heap} (hx : p.tables.exec = Jvm.exec) (hb : c.code = cJ7_fill_53178) (hml : c.maxLocals = 4) (hts : ∀ w ∈ wsJ7_fill_53178, w.before args s = true) (hown : s.vm.findClass RJ7 = some m.cls) (hN : NN s) (hXN : XN s) (hK : va_K (dC, dI) vwCl (xT q) s) (hA : ∀ q : Nat, H0.size ≤ q → A q) (kx20 : ∀ (f : xF) (H : Heap) (locs : List Loc) (g : Nat → Int32) (ls : Array Slot), (f = va_up f0 a0 (aI (q 0) 480 g) ∧ ∀ j, j < 480 → g j = p0) → xI q h0 d k z f → va_P (dC, dI) vwCl (va_pl z.1 f) H → va_D A (va_pl z.1 f) → va_S A H0 H locs → lv_has ls 4 [(0, .ref a0)] → W p l e R s m args below meth c H locs cells slots Q (F0 m 20 ls [])) : ∀ (kk i : Nat) (f : xF) (H : Heap) (locs : List Loc) (g : Nat → Int32) (ls : Array Slot), i ≤ 480 → 480 - i < kk → (f = va_up f0 a0 (aI (q 0) 480 g) ∧ ∀ j, j < i → g j = p0) → xI q h0 d k z f → va_P (dC, dI) vwCl (va_pl z.1 f) H → va_D A (va_pl z.1 f) → va_S A H0 H locs → lv_has ls 4 [(2, .int (nI i)), (0, .ref a0), (1, .int p0), (3, .int (nI 480))] → W p l e R s m args below meth c H locs cells slots Q (F0 m 5 ls []) := by
  intro kk
  induction kk with
  | zero => intro i f H locs g ls h1 h2; exact absurd h2 (Nat.not_lt_zero _)
  | succ kk ih =>
    intro i f H locs g ls hi hkk hg hI hP hD hS hl
    have hc9 : f a0 = aI (q 0) 480 g := by rw [hg.1]; exact up_s
    refine lv_iload_n hx hb dJ7_fill_53178_5 rfl (lv_at hl 0 rfl) ?_
    refine lv_iload_n hx hb dJ7_fill_53178_6 rfl (lv_at hl 3 rfl) ?_
    refine lv_icmp_ge (tgt := 20) hx hb dJ7_fill_53178_7 (by decide) (fun c_1 => ?_) (fun c_1 => ?_)
    ·
      have hie : i = 480 := lp_eq rfl (by decide) hi c_1
      exact kx20 _ _ _ _ ls ⟨hg.1, fun j hj => hg.2 j (by rw [hie]; exact hj)⟩ hI hP hD hS (lv_sub hl [1] rfl)
    ·
      have hlt : i < 480 := lp_lt rfl (by decide) hi c_1
      refine lv_aload_n hx hb dJ7_fill_53178_10 rfl (lv_at hl 1 rfl) ?_
      refine lv_iload_n hx hb dJ7_fill_53178_11 rfl (lv_at hl 0 rfl) ?_
      refine lv_iload_n hx hb dJ7_fill_53178_12 rfl (lv_at hl 2 rfl) ?_
      obtain ⟨kk_2, hk_3⟩ := pl_at ha0.1 hc9
      have hD0 := hD
      refine va_iast hx hb hK hP hD hS kk_2 0 hk_3 rfl (vp_in_nI hlt (by decide)) dJ7_fill_53178_13 (fun H locs hP hD hS => ?_)
      rw [pl_set hD0 ha0.1 hc9 hk_3] at hP hD
      obtain ⟨f_4, ef_4⟩ : ∃ y : xF, y = va_up f a0 (aI (q 0) 480 (upd g ((nI i) : Int32).toNatClampNeg p0)) := ⟨_, rfl⟩
      have hI : xI q h0 d k z f_4 := by rw [ef_4]; exact x_up hI ha0 (by decide) (cO_9 ha0.2 ⟨_, rfl⟩)
      have hP : va_P (dC, dI) vwCl (va_pl z.1 f_4) H := by rw [ef_4]; exact hP
      have hD : va_D A (va_pl z.1 f_4) := by rw [ef_4]; exact hD
      refine lv_iinc (v := (nI (i + 1))) (lv' := [(2, .int (nI (i + 1))), (0, .ref a0), (1, .int p0), (3, .int (nI 480))]) hx hb dJ7_fill_53178_14 hl (k := 0) rfl (nI_1 i) (by decide) rfl (fun ls hl => ?_)
      refine lv_goto (tgt := 5) hx hb dJ7_fill_53178_17 (by decide) ?_
      exact ih (i + 1) _ _ _ _ ls (by omega) (by omega) ⟨by rw [ef_4, hg.1, up_up], upd_step (by omega) hg.2⟩ hI hP hD hS (lv_sub hl [0, 1, 2, 3] rfl)
set_option maxHeartbeats 4000000 in
set_option maxRecDepth 100000 in
theorem y_fill9 (l : Launch) (dC : Nat → ClassId) (dI : Nat → Nat → Nat) (q : Nat → ClassId) (h0 : Nat) (d : Nat → Nat) (k : Nat → Int32) (z : gS) (f : xF) (hI : xI q h0 d k z f) (a0 : Nat) (p0 : Int32) (g : Nat → Int32) (ha0 : tg z a0 9) (hc9 : f a0 = aI (q 0) 480 g) (sz : Nat) : Met l yJ7_fill_53178 wsJ7_fill_53178 ({ frames := 0, cells := 0, slots := 0, locals := 0 }) (va_Pc [.ref a0, .int p0] (fun U => U.heap.size = sz ∧ PX dC dI (va_pl z.1 f) (xT q) U ∧ va_D (fun _ => True) (va_pl z.1 f))) (va_Qv (fun (w : xU) => w.1 = k ∧ w.2.1 = z ∧ xI q h0 d k z w.2.2 ∧ ∃ g2, w.2.2 = va_up f a0 (aI (q 0) 480 g2) ∧ ∀ j, j < 480 → g2 j = p0) (fun (w : xU) t => va_P (dC, dI) vwCl (va_pl w.2.1.1 w.2.2) t.heap ∧ va_D (va_A (va_pl z.1 f) sz) (va_pl w.2.1.1 w.2.2)) (va_A (va_pl z.1 f) sz)) 0 0 (va_A (va_pl z.1 f) sz) := by
  refine Met.ofW (cc := cJ7_fill_53178) (maxL := 4) (ret := none) (by decide) rfl ?_
  intro p e s m args below meth c s₁ B hml hv
  obtain ⟨rfl, hsz, ⟨⟨hP, hK, hN⟩, hXN⟩, hD0⟩ := hv
  have hx := B.exec
  have hb := B.bytes
  have hr := B.returns
  have hts := atoms_spec (ws := wsJ7_fill_53178) B.pre
  have hown : s.vm.findClass RJ7 = some m.cls := findClass_of_methodNamed B.named
  have hlocks := B.notSynchronized
  subst hsz
  have hD := hD0.self (sz := s.heap.size)
  generalize hAe : va_A (va_pl z.1 f) s.heap.size = A at hD ⊢
  have hA : ∀ q : Nat, s.heap.size ≤ q → A q := fun q h => by rw [← hAe]; exact Or.inr h
  have hS : va_S A s.heap s.heap [] := va_S.rf
  have hl := lv_entry ([.ref a0, .int p0]) (n := 4) (Nat.le_of_ble_eq_true rfl)
  rw [lg_entry_eq]
  generalize (lg_sl ([.ref a0, .int p0]) ++ List.replicate (4 - (lg_sl ([.ref a0, .int p0])).length) Slot.unset).toArray = ls at hl ⊢
  have hl : lv_has ls 4 [(0, .ref a0), (1, .int p0)] := hl
  refine lv_iconst (v := 0) hx hb dJ7_fill_53178_0 (by decide) ?_
  refine lv_istore_n (lv' := [(2, .int 0), (0, .ref a0), (1, .int p0)]) hx hb dJ7_fill_53178_1 rfl hl (by decide) rfl (fun ls hl => ?_)
  refine lv_aload_n hx hb dJ7_fill_53178_2 rfl (lv_at hl 1 rfl) ?_
  obtain ⟨kk_1, hk_2⟩ := pl_at ha0.1 hc9
  refine va_alen hx hb hK hP kk_1 0 hk_2 rfl (v := nI 480) rfl dJ7_fill_53178_3 ?_
  refine lv_istore_n (lv' := [(3, .int (nI 480)), (2, .int 0), (0, .ref a0), (1, .int p0)]) hx hb dJ7_fill_53178_4 rfl hl (by decide) rfl (fun ls hl => ?_)
  refine y_fill9_l (f0 := f) ha0 hx hb hml hts hown hN hXN hK hA (fun f2 H locs g2 ls hg2 hI hP hD hS hl => ?_) 481 0 _ _ _ g ls (by decide) (by decide) ⟨(upF_id hc9).symm, fun j hj => absurd hj (Nat.not_lt_zero _)⟩ hI hP hD hS (lv_sub hl [1, 2, 3, 0] rfl)
  exact W.vret hx hb hr (fun t ht hW => ⟨⟨(k, z, f2), rfl, ⟨rfl, rfl, hI, g2, hg2.1, hg2.2⟩, by rw [ht]; exact hP, hD⟩, hS.F ht⟩) hS.2.2 dJ7_fill_53178_20
set_option maxHeartbeats 4000000 in
set_option maxRecDepth 100000 in
theorem y_clear (l : Launch) (dC : Nat → ClassId) (dI : Nat → Nat → Nat) (q : Nat → ClassId) (h0 : Nat) (d : Nat → Nat) (k : Nat → Int32) (z : gS) (f : xF) (hI : xI q h0 d k z f) (a0 la ca : Nat) (m9 d9 i9 : Int32) (gl gc : Nat → Int32) (ha0 : tg z a0 7) (hs9 : f a0 = .inr (8, [.ref la, .ref ca, .int m9, .int d9, .int i9])) (hla : tg z la 8) (hca : tg z ca 9) (hg9 : f la = aI (q 0) 8 gl) (hgb : ∀ j, j < 8 → bw (gl j) 0 60 = true) (hc9 : f ca = aI (q 0) 480 gc) (sz : Nat) : Met l yX9_clear wsX9_clear ({ frames := 1, cells := 0, slots := 0, locals := 23 }) (va_Pc [.ref a0] (fun U => U.heap.size = sz ∧ PX dC dI (va_pl z.1 f) (xT q) U ∧ va_D (fun _ => True) (va_pl z.1 f))) (va_Qv (fun (w : xU) => w.1 = k ∧ w.2.1 = z ∧ xI q h0 d k z w.2.2 ∧ ∃ g2, w.2.2 = va_up f ca (aI (q 0) 480 g2) ∧ ∀ j, j < 480 → g2 j = (-2)) (fun (w : xU) t => va_P (dC, dI) vwCl (va_pl w.2.1.1 w.2.2) t.heap ∧ va_D (va_A (va_pl z.1 f) sz) (va_pl w.2.1.1 w.2.2)) (va_A (va_pl z.1 f) sz)) 0 0 (va_A (va_pl z.1 f) sz) := by
  refine Met.ofW (cc := cX9_clear) (maxL := 1) (ret := none) (by decide) rfl ?_
  intro p e s m args below meth c s₁ B hml hv
  obtain ⟨rfl, hsz, ⟨⟨hP, hK, hN⟩, hXN⟩, hD0⟩ := hv
  have hx := B.exec
  have hb := B.bytes
  have hr := B.returns
  have hts := atoms_spec (ws := wsX9_clear) B.pre
  have hown : s.vm.findClass RX9 = some m.cls := findClass_of_methodNamed B.named
  have hlocks := B.notSynchronized
  subst hsz
  have hD := hD0.self (sz := s.heap.size)
  generalize hAe : va_A (va_pl z.1 f) s.heap.size = A at hD ⊢
  have hA : ∀ q : Nat, s.heap.size ≤ q → A q := fun q h => by rw [← hAe]; exact Or.inr h
  have hS : va_S A s.heap s.heap [] := va_S.rf
  have hl := lv_entry ([.ref a0]) (n := 1) (Nat.le_of_ble_eq_true rfl)
  rw [lg_entry_eq]
  generalize (lg_sl ([.ref a0]) ++ List.replicate (1 - (lg_sl ([.ref a0])).length) Slot.unset).toArray = ls at hl ⊢
  have hl : lv_has ls 1 [(0, .ref a0)] := hl
  refine lv_aload_n hx hb dX9_clear_0 rfl (lv_at hl 0 rfl) ?_
  obtain ⟨kk_1, hk_2⟩ := pl_at ha0.1 hs9
  refine va_get (D := (dC, dI)) (ci := 8) (v := .ref ca) (C := RX9) (T := TX9) (N := 5) hx hb hts (by decide +kernel) hown hK hP kk_1 hk_2 rfl 1 (by decide) (hts (.fieldLink RX9 15 "PageOne$Sheet" "cells" "[I") (by decide +kernel)) (fun _ h9 => h9) rfl dX9_clear_1 ?_
  refine lv_bipush (v := (-2)) hx hb dX9_clear_4 (by decide) ?_
  have hFc := fr_all hD hS hA
  refine va_callv (va_runS (As := [.ref ca, .int (-2)]) (rest := []) ⟨hx, hb, hml, hown, hts⟩ (y_fill9 l dC dI q h0 d k z f hI ca (-2) gc hca hc9 s.heap.size) (va_cwS 2 hts gX9_clear_J7_fill_53178 rfl rfl rfl (by decide +kernel) ⟨Nat.le_of_ble_eq_true rfl, Nat.le_of_ble_eq_true rfl⟩) ⟨gx_fb, fun U hU hW => ⟨rfl, by rw [hU], px_to hU hW hP hK hN hXN, hD.weaken (fun _ _ _ _ => trivial)⟩⟩ rfl rfl hl.1 rfl (lv_room (Nat.le_of_ble_eq_true rfl)) dX9_clear_6 ⟨Nat.le_of_ble_eq_true rfl, Nat.le_of_ble_eq_true rfl⟩) hS (fun q _ h => hFc q h) hFc (fun w_3 t H1 locs ht hvm hw hB hz1 hk1 hS => ?_)
  obtain ⟨hP, hD1⟩ := hB
  rw [ht] at hP
  rw [hw.2.1] at hP hD1
  have hD := hD1.weaken (fun _ q _ h => hFc q.1 h)
  have hI := hw.2.2.1
  have hw0 := hw
  generalize w_3.2.2 = f_4 at hP hD hI hw0
  generalize H1 = H at hP hS ⊢
  exact W.vret hx hb hr (fun t ht hW => ⟨⟨(k, z, f_4), rfl, ⟨rfl, rfl, hI, hw0.2.2.2⟩, by rw [ht]; exact hP, hD⟩, hS.F ht⟩) hS.2.2 dX9_clear_9
noncomputable def s_copy_f (q : Nat → ClassId) (f : xF) (la ca : Nat) (gl gc ll cc : Nat → Int32) : xF := (va_up (va_up f la (aI (q 0) 8 (va_cpy ll gl (0 : Int32).toNatClampNeg (0 : Int32).toNatClampNeg (8 : Int32).toNatClampNeg))) ca (aI (q 0) 480 (va_cpy cc gc (0 : Int32).toNatClampNeg (0 : Int32).toNatClampNeg (480 : Int32).toNatClampNeg)))
set_option maxHeartbeats 4000000 in
set_option maxRecDepth 100000 in
theorem y_copyFrom (l : Launch) (dC : Nat → ClassId) (dI : Nat → Nat → Nat) (q : Nat → ClassId) (h0 : Nat) (d : Nat → Nat) (k : Nat → Int32) (z : gS) (f : xF) (hI : xI q h0 d k z f) (a0 la ca : Nat) (m9 d9 i9 : Int32) (gl gc : Nat → Int32) (ha0 : tg z a0 7) (hs9 : f a0 = .inr (8, [.ref la, .ref ca, .int m9, .int d9, .int i9])) (hla : tg z la 8) (hca : tg z ca 9) (hg9 : f la = aI (q 0) 8 gl) (hgb : ∀ j, j < 8 → bw (gl j) 0 60 = true) (hc9 : f ca = aI (q 0) 480 gc) (b0 lb cb : Nat) (m2 d2 i2 : Int32) (ll cc : Nat → Int32) (hb0 : tg z b0 7) (hs2 : f b0 = .inr (8, [.ref lb, .ref cb, .int m2, .int d2, .int i2])) (hlb : tg z lb 8) (hcb : tg z cb 9) (hg2 : f lb = aI (q 0) 8 ll) (hgb2 : ∀ j, j < 8 → bw (ll j) 0 60 = true) (hc2 : f cb = aI (q 0) 480 cc) (sz : Nat) : Met l yX9_copyFrom wsX9_copyFrom ({ frames := 1, cells := 0, slots := 0, locals := 40 }) (va_Pc [.ref a0, .ref b0] (fun U => U.heap.size = sz ∧ PX dC dI (va_pl z.1 f) (xT q) U ∧ va_D (fun _ => True) (va_pl z.1 f))) (va_Qv (fun (w : xU) => w.1 = k ∧ w.2.1 = z ∧ xI q h0 d k z w.2.2 ∧ w.2.2 = s_copy_f q f la ca gl gc ll cc) (fun (w : xU) t => va_P (dC, dI) vwCl (va_pl w.2.1.1 w.2.2) t.heap ∧ va_D (va_A (va_pl z.1 f) sz) (va_pl w.2.1.1 w.2.2)) (va_A (va_pl z.1 f) sz)) 0 0 (va_A (va_pl z.1 f) sz) := by
  refine Met.ofW (cc := cX9_copyFrom) (maxL := 2) (ret := none) (by decide) rfl ?_
  intro p e s m args below meth c s₁ B hml hv
  obtain ⟨rfl, hsz, ⟨⟨hP, hK, hN⟩, hXN⟩, hD0⟩ := hv
  have hx := B.exec
  have hb := B.bytes
  have hr := B.returns
  have hts := atoms_spec (ws := wsX9_copyFrom) B.pre
  have hown : s.vm.findClass RX9 = some m.cls := findClass_of_methodNamed B.named
  have hlocks := B.notSynchronized
  subst hsz
  have hD := hD0.self (sz := s.heap.size)
  generalize hAe : va_A (va_pl z.1 f) s.heap.size = A at hD ⊢
  have hA : ∀ q : Nat, s.heap.size ≤ q → A q := fun q h => by rw [← hAe]; exact Or.inr h
  have hS : va_S A s.heap s.heap [] := va_S.rf
  have hl := lv_entry ([.ref a0, .ref b0]) (n := 2) (Nat.le_of_ble_eq_true rfl)
  rw [lg_entry_eq]
  generalize (lg_sl ([.ref a0, .ref b0]) ++ List.replicate (2 - (lg_sl ([.ref a0, .ref b0])).length) Slot.unset).toArray = ls at hl ⊢
  have hl : lv_has ls 2 [(0, .ref a0), (1, .ref b0)] := hl
  refine lv_aload_n hx hb dX9_copyFrom_0 rfl (lv_at hl 1 rfl) ?_
  obtain ⟨kk_1, hk_2⟩ := pl_at hb0.1 hs2
  refine va_get (D := (dC, dI)) (ci := 8) (v := .ref lb) (C := RX9) (T := TX9) (N := 5) hx hb hts (by decide +kernel) hown hK hP kk_1 hk_2 rfl 0 (by decide) (hts (.fieldLink RX9 9 "PageOne$Sheet" "lines" "[I") (by decide +kernel)) (fun _ h9 => h9) rfl dX9_copyFrom_1 ?_
  refine lv_iconst (v := 0) hx hb dX9_copyFrom_4 (by decide) ?_
  refine lv_aload_n hx hb dX9_copyFrom_5 rfl (lv_at hl 0 rfl) ?_
  obtain ⟨kk_3, hk_4⟩ := pl_at ha0.1 hs9
  refine va_get (D := (dC, dI)) (ci := 8) (v := .ref la) (C := RX9) (T := TX9) (N := 5) hx hb hts (by decide +kernel) hown hK hP kk_3 hk_4 rfl 0 (by decide) (hts (.fieldLink RX9 9 "PageOne$Sheet" "lines" "[I") (by decide +kernel)) (fun _ h9 => h9) rfl dX9_copyFrom_6 ?_
  refine lv_iconst (v := 0) hx hb dX9_copyFrom_9 (by decide) ?_
  refine lv_bipush (v := 8) hx hb dX9_copyFrom_10 (by decide) ?_
  obtain ⟨kk_5, hk_6⟩ := pl_at hlb.1 hg2
  obtain ⟨kk_7, hk_8⟩ := pl_at hla.1 hg9
  have hD0 := hD
  refine va_copyi hx hb (by rw [hml]; exact hl.1.symm) hown (hts (.methodLink RX9 68 arraycopyName) (by decide +kernel)) (hts (.native arraycopyName) (by decide +kernel)) (hts (.static arraycopyName) (by decide +kernel)) (hts (.initialized "java/lang/System") (by decide +kernel)) hK hP hD hS kk_5 kk_7 0 0 hk_6 hk_8 rfl rfl rfl (sp := 0) (dp := 0) (n := 8) (by decide) (by decide) (by decide) (by decide) (by decide) (fun _ _ => rfl) (Nat.le_of_ble_eq_true rfl) (Nat.le_of_ble_eq_true rfl) dX9_copyFrom_12 (fun H locs hP hD hS => ?_)
  rw [pl_set hD0 hla.1 hg9 hk_8] at hP hD
  obtain ⟨f_9, ef_9⟩ : ∃ y : xF, y = va_up f la (aI (q 0) 8 (va_cpy ll gl (0 : Int32).toNatClampNeg (0 : Int32).toNatClampNeg (8 : Int32).toNatClampNeg)) := ⟨_, rfl⟩
  have hI : xI q h0 d k z f_9 := by rw [ef_9]; exact x_up hI hla (by decide) (cO_8 hla.2 ⟨_, rfl, cpy_b hgb2 hgb⟩)
  have hP : va_P (dC, dI) vwCl (va_pl z.1 f_9) H := by rw [ef_9]; exact hP
  have hD : va_D A (va_pl z.1 f_9) := by rw [ef_9]; exact hD
  have hs_10 : f_9 a0 = .inr (8, [.ref la, .ref ca, .int m9, .int d9, .int i9]) := by rw [ef_9, up_o (tg_ne ha0 hla (by decide))]; exact hs9
  have hs_11 : f_9 b0 = .inr (8, [.ref lb, .ref cb, .int m2, .int d2, .int i2]) := by rw [ef_9, up_o (tg_ne hb0 hla (by decide))]; exact hs2
  have hs_12 : f_9 ca = aI (q 0) 480 gc := by rw [ef_9, up_o (tg_ne hca hla (by decide))]; exact hc9
  have hs_13 : f_9 cb = aI (q 0) 480 cc := by rw [ef_9, up_o (tg_ne hcb hla (by decide))]; exact hc2
  refine lv_aload_n hx hb dX9_copyFrom_15 rfl (lv_at hl 1 rfl) ?_
  obtain ⟨kk_14, hk_15⟩ := pl_at hb0.1 hs_11
  refine va_get (D := (dC, dI)) (ci := 8) (v := .ref cb) (C := RX9) (T := TX9) (N := 5) hx hb hts (by decide +kernel) hown hK hP kk_14 hk_15 rfl 1 (by decide) (hts (.fieldLink RX9 15 "PageOne$Sheet" "cells" "[I") (by decide +kernel)) (fun _ h9 => h9) rfl dX9_copyFrom_16 ?_
  refine lv_iconst (v := 0) hx hb dX9_copyFrom_19 (by decide) ?_
  refine lv_aload_n hx hb dX9_copyFrom_20 rfl (lv_at hl 0 rfl) ?_
  obtain ⟨kk_16, hk_17⟩ := pl_at ha0.1 hs_10
  refine va_get (D := (dC, dI)) (ci := 8) (v := .ref ca) (C := RX9) (T := TX9) (N := 5) hx hb hts (by decide +kernel) hown hK hP kk_16 hk_17 rfl 1 (by decide) (hts (.fieldLink RX9 15 "PageOne$Sheet" "cells" "[I") (by decide +kernel)) (fun _ h9 => h9) rfl dX9_copyFrom_21 ?_
  refine lv_iconst (v := 0) hx hb dX9_copyFrom_24 (by decide) ?_
  refine lv_sipush (v := 480) hx hb dX9_copyFrom_25 (by decide) ?_
  obtain ⟨kk_18, hk_19⟩ := pl_at hcb.1 hs_13
  obtain ⟨kk_20, hk_21⟩ := pl_at hca.1 hs_12
  have hD0 := hD
  refine va_copyi hx hb (by rw [hml]; exact hl.1.symm) hown (hts (.methodLink RX9 68 arraycopyName) (by decide +kernel)) (hts (.native arraycopyName) (by decide +kernel)) (hts (.static arraycopyName) (by decide +kernel)) (hts (.initialized "java/lang/System") (by decide +kernel)) hK hP hD hS kk_18 kk_20 0 0 hk_19 hk_21 rfl rfl rfl (sp := 0) (dp := 0) (n := 480) (by decide) (by decide) (by decide) (by decide) (by decide) (fun _ _ => rfl) (Nat.le_of_ble_eq_true rfl) (Nat.le_of_ble_eq_true rfl) dX9_copyFrom_28 (fun H locs hP hD hS => ?_)
  rw [pl_set hD0 hca.1 hs_12 hk_21] at hP hD
  obtain ⟨f_22, ef_22⟩ : ∃ y : xF, y = va_up f_9 ca (aI (q 0) 480 (va_cpy cc gc (0 : Int32).toNatClampNeg (0 : Int32).toNatClampNeg (480 : Int32).toNatClampNeg)) := ⟨_, rfl⟩
  have hI : xI q h0 d k z f_22 := by rw [ef_22]; exact x_up hI hca (by decide) (cO_9 hca.2 ⟨_, rfl⟩)
  have hP : va_P (dC, dI) vwCl (va_pl z.1 f_22) H := by rw [ef_22]; exact hP
  have hD : va_D A (va_pl z.1 f_22) := by rw [ef_22]; exact hD
  have hs_23 : f_22 a0 = .inr (8, [.ref la, .ref ca, .int m9, .int d9, .int i9]) := by rw [ef_22, up_o (tg_ne ha0 hca (by decide))]; exact hs_10
  have hs_24 : f_22 b0 = .inr (8, [.ref lb, .ref cb, .int m2, .int d2, .int i2]) := by rw [ef_22, up_o (tg_ne hb0 hca (by decide))]; exact hs_11
  exact W.vret hx hb hr (fun t ht hW => ⟨⟨(k, z, f_22), rfl, ⟨rfl, rfl, hI, (by show f_22 = _; rw [ef_22, ef_9]; unfold s_copy_f; rfl)⟩, by rw [ht]; exact hP, hD⟩, hS.F ht⟩) hS.2.2 dX9_copyFrom_31
