theorem up_idy {f : xF} {a : Nat} {e : va_E} (h : f a = e) : va_up f a e = f := by
  funext b
  unfold va_up
  by_cases x : b = a
  · rw [if_pos x, x, h]
  · rw [if_neg x]
set_option maxHeartbeats 4000000 in
set_option maxRecDepth 100000 in
theorem y_loseAll_l {p : Program} {l : Launch} {e : Env} {R : Room} {s : State} {m : MethodId} {args : Array Value} {below : List Frame} {meth : Method} {c : Code} {Q : State → Prop} {cells slots : Nat} {dC : Nat → ClassId} {dI : Nat → Nat → Nat} {q : Nat → ClassId} {h0 : Nat} {d : Nat → Nat} {k : Nat → Int32} {z : gS} {f0 : xF} {a0 : Nat} {nu kd cn : Int32} {pa fa n : Nat} {rs : List Value} (ha0 : itm z a0) (hpa : tg z pa 16) (hne : pa ≠ a0) (hn1 : 1 ≤ n) (hn6 : n ≤ 6) {A : Nat → Prop} {H0 : Heap} (hx : p.tables.exec = Jvm.exec) (hb : c.code = cX4_loseAll) (hml : c.maxLocals = 2) (hts : ∀ w ∈ wsX4_loseAll, w.before args s = true) (hown : s.vm.findClass RX4 = some m.cls) (hN : NN s) (hXN : XN s) (hK : va_K (dC, dI) vwCl (xT q) s) (hA : ∀ q : Nat, H0.size ≤ q → A q) (kx24 : ∀ (f : xF) (H : Heap) (locs : List Loc) (g : Nat → Option Nat) (ls : Array Slot), (f a0 = .inr (ciT (z.2 a0).1, itF nu kd pa cn fa rs) ∧ f pa = aR (q 5) n g ∧ (∀ j, j < n → ∀ b, g j = some b → lgP z b) ∧ f = va_up f0 pa (aR (q 5) n g)) → xI q h0 d k z (va_up f a0 (.inr (ciT (z.2 a0).1, itF nu kd pa 0 fa rs))) → va_P (dC, dI) vwCl (va_pl z.1 f) H → va_D A (va_pl z.1 f) → va_S A H0 H locs → lv_has ls 2 [(0, .ref a0)] → W p l e R s m args below meth c H locs cells slots Q (F0 m 24 ls [])) : ∀ (kk i : Nat) (f : xF) (H : Heap) (locs : List Loc) (g : Nat → Option Nat) (ls : Array Slot), i ≤ n → n - i < kk → (f a0 = .inr (ciT (z.2 a0).1, itF nu kd pa cn fa rs) ∧ f pa = aR (q 5) n g ∧ (∀ j, j < n → ∀ b, g j = some b → lgP z b) ∧ f = va_up f0 pa (aR (q 5) n g)) → xI q h0 d k z (va_up f a0 (.inr (ciT (z.2 a0).1, itF nu kd pa 0 fa rs))) → va_P (dC, dI) vwCl (va_pl z.1 f) H → va_D A (va_pl z.1 f) → va_S A H0 H locs → lv_has ls 2 [(1, .int (nI i)), (0, .ref a0)] → W p l e R s m args below meth c H locs cells slots Q (F0 m 2 ls []) := by
  intro kk
  induction kk with
  | zero => intro i f H locs g ls h1 h2; exact absurd h2 (Nat.not_lt_zero _)
  | succ kk ih =>
    intro i f H locs g ls hi hkk hg hI hP hD hS hl
    refine lv_iload_n hx hb dX4_loseAll_2 rfl (lv_at hl 0 rfl) ?_
    refine lv_aload_n hx hb dX4_loseAll_3 rfl (lv_at hl 1 rfl) ?_
    obtain ⟨kk_1, hk_2⟩ := pl_at ha0.1 hg.1
    refine w_then (F0 m 7 ls [.ref pa, .int (nI i)]) (fun hgo => ?_) ?_
    ·
      rcases x_tag ha0 with ht9 | ht9 | ht9 | ht9 | ht9 | ht9
      ·
        rw [ht9.2] at hk_2
        exact va_get (D := (dC, dI)) (ci := 2) (v := .ref pa) (C := RX2) (T := TX2) (N := 7) hx hb hts (by decide +kernel) hown hK hP kk_1 hk_2 rfl 2 (by decide) (hts (.fieldLink RX4 31 "PageOne$Item" "pieces" "[LPageOne$Piece;") (by decide +kernel)) (fun _ h9 => h9) rfl dX4_loseAll_4 hgo
      ·
        rw [ht9.2] at hk_2
        exact va_get (D := (dC, dI)) (ci := 3) (v := .ref pa) (C := RX3) (T := TX3) (N := 8) hx hb hts (by decide +kernel) hown hK hP kk_1 hk_2 rfl 2 (by decide) (hts (.fieldLink RX4 31 "PageOne$Item" "pieces" "[LPageOne$Piece;") (by decide +kernel)) (fun _ h9 => h9) rfl dX4_loseAll_4 hgo
      ·
        rw [ht9.2] at hk_2
        exact va_get (D := (dC, dI)) (ci := 4) (v := .ref pa) (C := RX5) (T := TX5) (N := 7) hx hb hts (by decide +kernel) hown hK hP kk_1 hk_2 rfl 2 (by decide) (hts (.fieldLink RX4 31 "PageOne$Item" "pieces" "[LPageOne$Piece;") (by decide +kernel)) (fun _ h9 => h9) rfl dX4_loseAll_4 hgo
      ·
        rw [ht9.2] at hk_2
        exact va_get (D := (dC, dI)) (ci := 5) (v := .ref pa) (C := RX6) (T := TX6) (N := 9) hx hb hts (by decide +kernel) hown hK hP kk_1 hk_2 rfl 2 (by decide) (hts (.fieldLink RX4 31 "PageOne$Item" "pieces" "[LPageOne$Piece;") (by decide +kernel)) (fun _ h9 => h9) rfl dX4_loseAll_4 hgo
      ·
        rw [ht9.2] at hk_2
        exact va_get (D := (dC, dI)) (ci := 6) (v := .ref pa) (C := RX7) (T := TX7) (N := 8) hx hb hts (by decide +kernel) hown hK hP kk_1 hk_2 rfl 2 (by decide) (hts (.fieldLink RX4 31 "PageOne$Item" "pieces" "[LPageOne$Piece;") (by decide +kernel)) (fun _ h9 => h9) rfl dX4_loseAll_4 hgo
      ·
        rw [ht9.2] at hk_2
        exact va_get (D := (dC, dI)) (ci := 9) (v := .ref pa) (C := RX10) (T := TX10) (N := 9) hx hb hts (by decide +kernel) hown hK hP kk_1 hk_2 rfl 2 (by decide) (hts (.fieldLink RX4 31 "PageOne$Item" "pieces" "[LPageOne$Piece;") (by decide +kernel)) (fun _ h9 => h9) rfl dX4_loseAll_4 hgo
    ·
      obtain ⟨kk_3, hk_4⟩ := pl_at hpa.1 hg.2.1
      refine va_alen hx hb hK hP kk_3 5 hk_4 rfl (v := nI n) rfl dX4_loseAll_7 ?_
      refine lv_icmp_ge (tgt := 24) hx hb dX4_loseAll_8 (by decide) (fun c_5 => ?_) (fun c_5 => ?_)
      ·
        have hie : i = n := lp_eq rfl (by omega) hi c_5
        exact kx24 _ _ _ _ ls hg hI hP hD hS (lv_sub hl [1] rfl)
      ·
        have hlt : i < n := lp_lt rfl (by omega) hi c_5
        refine lv_aload_n hx hb dX4_loseAll_11 rfl (lv_at hl 1 rfl) ?_
        obtain ⟨kk_6, hk_7⟩ := pl_at ha0.1 hg.1
        refine w_then (F0 m 15 ls [.ref pa]) (fun hgo => ?_) ?_
        ·
          rcases x_tag ha0 with ht9 | ht9 | ht9 | ht9 | ht9 | ht9
          ·
            rw [ht9.2] at hk_7
            exact va_get (D := (dC, dI)) (ci := 2) (v := .ref pa) (C := RX2) (T := TX2) (N := 7) hx hb hts (by decide +kernel) hown hK hP kk_6 hk_7 rfl 2 (by decide) (hts (.fieldLink RX4 31 "PageOne$Item" "pieces" "[LPageOne$Piece;") (by decide +kernel)) (fun _ h9 => h9) rfl dX4_loseAll_12 hgo
          ·
            rw [ht9.2] at hk_7
            exact va_get (D := (dC, dI)) (ci := 3) (v := .ref pa) (C := RX3) (T := TX3) (N := 8) hx hb hts (by decide +kernel) hown hK hP kk_6 hk_7 rfl 2 (by decide) (hts (.fieldLink RX4 31 "PageOne$Item" "pieces" "[LPageOne$Piece;") (by decide +kernel)) (fun _ h9 => h9) rfl dX4_loseAll_12 hgo
          ·
            rw [ht9.2] at hk_7
            exact va_get (D := (dC, dI)) (ci := 4) (v := .ref pa) (C := RX5) (T := TX5) (N := 7) hx hb hts (by decide +kernel) hown hK hP kk_6 hk_7 rfl 2 (by decide) (hts (.fieldLink RX4 31 "PageOne$Item" "pieces" "[LPageOne$Piece;") (by decide +kernel)) (fun _ h9 => h9) rfl dX4_loseAll_12 hgo
          ·
            rw [ht9.2] at hk_7
            exact va_get (D := (dC, dI)) (ci := 5) (v := .ref pa) (C := RX6) (T := TX6) (N := 9) hx hb hts (by decide +kernel) hown hK hP kk_6 hk_7 rfl 2 (by decide) (hts (.fieldLink RX4 31 "PageOne$Item" "pieces" "[LPageOne$Piece;") (by decide +kernel)) (fun _ h9 => h9) rfl dX4_loseAll_12 hgo
          ·
            rw [ht9.2] at hk_7
            exact va_get (D := (dC, dI)) (ci := 6) (v := .ref pa) (C := RX7) (T := TX7) (N := 8) hx hb hts (by decide +kernel) hown hK hP kk_6 hk_7 rfl 2 (by decide) (hts (.fieldLink RX4 31 "PageOne$Item" "pieces" "[LPageOne$Piece;") (by decide +kernel)) (fun _ h9 => h9) rfl dX4_loseAll_12 hgo
          ·
            rw [ht9.2] at hk_7
            exact va_get (D := (dC, dI)) (ci := 9) (v := .ref pa) (C := RX10) (T := TX10) (N := 9) hx hb hts (by decide +kernel) hown hK hP kk_6 hk_7 rfl 2 (by decide) (hts (.fieldLink RX4 31 "PageOne$Item" "pieces" "[LPageOne$Piece;") (by decide +kernel)) (fun _ h9 => h9) rfl dX4_loseAll_12 hgo
        ·
          refine lv_iload_n hx hb dX4_loseAll_15 rfl (lv_at hl 0 rfl) ?_
          refine lv_null hx hb dX4_loseAll_16 ?_
          obtain ⟨kk_8, hk_9⟩ := pl_at hpa.1 hg.2.1
          have hD0 := hD
          refine va_astqN hx hb hK hP hD hS kk_8 5 hk_9 rfl (vp_in_nI hlt (by omega)) dX4_loseAll_17 (fun H locs hP hD hS => ?_)
          rw [pl_set hD0 hpa.1 hg.2.1 hk_9] at hP hD
          obtain ⟨f_10, ef_10⟩ : ∃ y : xF, y = va_up f pa (aR (q 5) n (va_up g ((nI i) : Int32).toNatClampNeg none)) := ⟨_, rfl⟩
          have hI : xI q h0 d k z (va_up f_10 a0 (.inr (ciT (z.2 a0).1, itF nu kd pa 0 fa rs))) := by rw [ef_10]; exact la_step hI ha0 hne hg.2.1 hn1 hn6 hg.2.2.1 _
          have hP : va_P (dC, dI) vwCl (va_pl z.1 f_10) H := by rw [ef_10]; exact hP
          have hD : va_D A (va_pl z.1 f_10) := by rw [ef_10]; exact hD
          have hs_11 : f_10 pa = aR (q 5) n (va_up g ((nI i) : Int32).toNatClampNeg none) := by rw [ef_10]; exact up_s
          have hs_12 : f_10 a0 = .inr (ciT (z.2 a0).1, itF nu kd pa cn fa rs) := by rw [ef_10, up_o (fun e => (hne) e.symm)]; exact hg.1
          refine lv_iinc (v := (nI (i + 1))) (lv' := [(1, .int (nI (i + 1))), (0, .ref a0)]) hx hb dX4_loseAll_18 hl (k := 0) rfl (nI_1 i) (by decide) rfl (fun ls hl => ?_)
          refine lv_goto (tgt := 2) hx hb dX4_loseAll_21 (by decide) ?_
          exact ih (i + 1) _ _ _ _ ls (by omega) (by omega) ⟨hs_12, hs_11, ty_up hg.2.2.1 ty_n, by rw [ef_10, hg.2.2.2, up_up]⟩ hI hP hD hS (lv_sub hl [0, 1] rfl)
set_option maxHeartbeats 4000000 in
set_option maxRecDepth 100000 in
theorem y_loseAll (l : Launch) (dC : Nat → ClassId) (dI : Nat → Nat → Nat) (q : Nat → ClassId) (h0 : Nat) (d : Nat → Nat) (k : Nat → Int32) (z : gS) (f : xF) (hI : xI q h0 d k z f) (a0 : Nat) (ha0 : itm z a0) (nu kd cn : Int32) (pa fa : Nat) (rs : List Value) (hs : f a0 = .inr (ciT (z.2 a0).1, itF nu kd pa cn fa rs)) (n : Nat) (g : Nat → Option Nat) (hpa : tg z pa 16) (hps : f pa = aR (q 5) n g) (h1 : 1 ≤ n) (h6 : n ≤ 6) (hcb : bw cn 0 (nI n) = true) (hnn : ∀ j, j < cn.toNatClampNeg → ∃ b, g j = some b) (hlg : ∀ j, j < n → ∀ b, g j = some b → lgP z b) (sz : Nat) : Met l yX4_loseAll wsX4_loseAll ({ frames := 0, cells := 0, slots := 0, locals := 0 }) (va_Pc [.ref a0] (fun U => U.heap.size = sz ∧ PX dC dI (va_pl z.1 f) (xT q) U ∧ va_D (fun _ => True) (va_pl z.1 f))) (va_Qv (fun (w : xU) => w.1 = k ∧ w.2.1 = z ∧ xI q h0 d k z w.2.2 ∧ ∃ g2, w.2.2 = va_up (va_up f pa (aR (q 5) n g2)) a0 (.inr (ciT (z.2 a0).1, itF nu kd pa 0 fa rs))) (fun (w : xU) t => va_P (dC, dI) vwCl (va_pl w.2.1.1 w.2.2) t.heap ∧ va_D (va_A (va_pl z.1 f) sz) (va_pl w.2.1.1 w.2.2)) (va_A (va_pl z.1 f) sz)) 0 0 (va_A (va_pl z.1 f) sz) := by
  refine Met.ofW (cc := cX4_loseAll) (maxL := 2) (ret := none) (by decide) rfl ?_
  intro p e s m args below meth c s₁ B hml hv
  obtain ⟨rfl, hsz, ⟨⟨hP, hK, hN⟩, hXN⟩, hD0⟩ := hv
  have hx := B.exec
  have hb := B.bytes
  have hr := B.returns
  have hts := atoms_spec (ws := wsX4_loseAll) B.pre
  have hown : s.vm.findClass RX4 = some m.cls := findClass_of_methodNamed B.named
  have hlocks := B.notSynchronized
  subst hsz
  have hD := hD0.self (sz := s.heap.size)
  generalize hAe : va_A (va_pl z.1 f) s.heap.size = A at hD ⊢
  have hA : ∀ q : Nat, s.heap.size ≤ q → A q := fun q h => by rw [← hAe]; exact Or.inr h
  have hS : va_S A s.heap s.heap [] := va_S.rf
  have hl := lv_entry ([.ref a0]) (n := 2) (Nat.le_of_ble_eq_true rfl)
  rw [lg_entry_eq]
  generalize (lg_sl ([.ref a0]) ++ List.replicate (2 - (lg_sl ([.ref a0])).length) Slot.unset).toArray = ls at hl ⊢
  have hl : lv_has ls 2 [(0, .ref a0)] := hl
  refine lv_iconst (v := 0) hx hb dX4_loseAll_0 (by decide) ?_
  refine lv_istore_n (lv' := [(1, .int 0), (0, .ref a0)]) hx hb dX4_loseAll_1 rfl hl (by decide) rfl (fun ls hl => ?_)
  have hne := x_pan hI ha0 hpa
  have hI0 := x_upC hI ha0 hs hps (cn2 := 0) (bwN (n := 0) (by rw [nI_toInt (by omega)]; omega) (by omega)) (fun j hj => absurd hj (Nat.not_lt_zero _)) hlg
  refine y_loseAll_l (f0 := f) (nu := nu) (kd := kd) (cn := cn) (fa := fa) (rs := rs) ha0 hpa hne h1 h6 hx hb hml hts hown hN hXN hK hA (fun f2 H locs g2 ls hg hI hP hD hS hl => ?_) (n + 1) 0 _ _ _ g ls (Nat.zero_le _) (by omega) ⟨hs, hps, hlg, (up_idy hps).symm⟩ hI0 hP hD hS (lv_sub hl [0, 1] rfl)
  refine lv_aload_n hx hb dX4_loseAll_24 rfl (lv_at hl 0 rfl) ?_
  refine lv_iconst (v := 0) hx hb dX4_loseAll_25 (by decide) ?_
  obtain ⟨kk_1, hk_2⟩ := pl_at ha0.1 hg.1
  have hD0 := hD
  refine w_cut (X := fun R cells slots Q args => ∀ (H : Heap) (locs : List Loc), va_P (dC, dI) vwCl (va_pl z.1 (va_up f2 a0 (.inr (ciT (z.2 a0).1, itF nu kd pa 0 fa rs)))) H → va_D A (va_pl z.1 (va_up f2 a0 (.inr (ciT (z.2 a0).1, itF nu kd pa 0 fa rs)))) → va_S A s.heap H locs → W p l e R s m args below meth c H locs cells slots Q (F0 m 29 ls [])) ?_ (fun kC => ?_)
  ·
    intro H locs hP hD hS
    obtain ⟨f_3, ef_3⟩ : ∃ y : xF, y = va_up f2 a0 (.inr (ciT (z.2 a0).1, itF nu kd pa 0 fa rs)) := ⟨_, rfl⟩
    have hI : xI q h0 d k z f_3 := by rw [ef_3]; exact hI
    have hP : va_P (dC, dI) vwCl (va_pl z.1 f_3) H := by rw [ef_3]; exact hP
    have hD : va_D A (va_pl z.1 f_3) := by rw [ef_3]; exact hD
    have hff_3 : f_3 a0 = .inr (ciT (z.2 a0).1, itF nu kd pa 0 fa rs) := by rw [ef_3]; exact up_s
    exact W.vret hx hb hr (fun t ht hW => ⟨⟨(k, z, f_3), rfl, ⟨rfl, rfl, hI, g2, by show f_3 = _; rw [ef_3, hg.2.2.2]⟩, by rw [ht]; exact hP, hD⟩, hS.F ht⟩) hS.2.2 dX4_loseAll_29
  ·
    have hk8 := hk_2
    rcases x_tag ha0 with ht9 | ht9 | ht9 | ht9 | ht9 | ht9
    ·
      rw [ht9.2] at hk_2
      refine va_put (D := (dC, dI)) (ci := 2) (v := .int 0) (ty := .int) (C := RX2) (T := TX2) (N := 7) hx hb hts (by decide +kernel) tyX2 tyX2_ok nmX2 hown hK hP hD hS kk_1 hk_2 rfl 3 (by decide) (hts (.fieldLink RX4 9 "PageOne$Item" "count" "I") (by decide +kernel)) (fun _ h9 => h9) rfl (by decide +kernel) rfl rfl (by unfold itF; simp only [List.length_cons]; omega) dX4_loseAll_26 (fun H locs hP hD hS => kC H locs ?_ ?_ hS)
      · rw [← pl_set (e := .inr (ciT (z.2 a0).1, itF nu kd pa 0 fa rs)) hD0 ha0.1 hg.1 hk8, ht9.2]; exact hP
      · rw [← pl_set (e := .inr (ciT (z.2 a0).1, itF nu kd pa 0 fa rs)) hD0 ha0.1 hg.1 hk8, ht9.2]; exact hD
    ·
      rw [ht9.2] at hk_2
      refine va_put (D := (dC, dI)) (ci := 3) (v := .int 0) (ty := .int) (C := RX3) (T := TX3) (N := 8) hx hb hts (by decide +kernel) tyX3 tyX3_ok nmX3 hown hK hP hD hS kk_1 hk_2 rfl 3 (by decide) (hts (.fieldLink RX4 9 "PageOne$Item" "count" "I") (by decide +kernel)) (fun _ h9 => h9) rfl (by decide +kernel) rfl rfl (by unfold itF; simp only [List.length_cons]; omega) dX4_loseAll_26 (fun H locs hP hD hS => kC H locs ?_ ?_ hS)
      · rw [← pl_set (e := .inr (ciT (z.2 a0).1, itF nu kd pa 0 fa rs)) hD0 ha0.1 hg.1 hk8, ht9.2]; exact hP
      · rw [← pl_set (e := .inr (ciT (z.2 a0).1, itF nu kd pa 0 fa rs)) hD0 ha0.1 hg.1 hk8, ht9.2]; exact hD
    ·
      rw [ht9.2] at hk_2
      refine va_put (D := (dC, dI)) (ci := 4) (v := .int 0) (ty := .int) (C := RX5) (T := TX5) (N := 7) hx hb hts (by decide +kernel) tyX5 tyX5_ok nmX5 hown hK hP hD hS kk_1 hk_2 rfl 3 (by decide) (hts (.fieldLink RX4 9 "PageOne$Item" "count" "I") (by decide +kernel)) (fun _ h9 => h9) rfl (by decide +kernel) rfl rfl (by unfold itF; simp only [List.length_cons]; omega) dX4_loseAll_26 (fun H locs hP hD hS => kC H locs ?_ ?_ hS)
      · rw [← pl_set (e := .inr (ciT (z.2 a0).1, itF nu kd pa 0 fa rs)) hD0 ha0.1 hg.1 hk8, ht9.2]; exact hP
      · rw [← pl_set (e := .inr (ciT (z.2 a0).1, itF nu kd pa 0 fa rs)) hD0 ha0.1 hg.1 hk8, ht9.2]; exact hD
    ·
      rw [ht9.2] at hk_2
      refine va_put (D := (dC, dI)) (ci := 5) (v := .int 0) (ty := .int) (C := RX6) (T := TX6) (N := 9) hx hb hts (by decide +kernel) tyX6 tyX6_ok nmX6 hown hK hP hD hS kk_1 hk_2 rfl 3 (by decide) (hts (.fieldLink RX4 9 "PageOne$Item" "count" "I") (by decide +kernel)) (fun _ h9 => h9) rfl (by decide +kernel) rfl rfl (by unfold itF; simp only [List.length_cons]; omega) dX4_loseAll_26 (fun H locs hP hD hS => kC H locs ?_ ?_ hS)
      · rw [← pl_set (e := .inr (ciT (z.2 a0).1, itF nu kd pa 0 fa rs)) hD0 ha0.1 hg.1 hk8, ht9.2]; exact hP
      · rw [← pl_set (e := .inr (ciT (z.2 a0).1, itF nu kd pa 0 fa rs)) hD0 ha0.1 hg.1 hk8, ht9.2]; exact hD
    ·
      rw [ht9.2] at hk_2
      refine va_put (D := (dC, dI)) (ci := 6) (v := .int 0) (ty := .int) (C := RX7) (T := TX7) (N := 8) hx hb hts (by decide +kernel) tyX7 tyX7_ok nmX7 hown hK hP hD hS kk_1 hk_2 rfl 3 (by decide) (hts (.fieldLink RX4 9 "PageOne$Item" "count" "I") (by decide +kernel)) (fun _ h9 => h9) rfl (by decide +kernel) rfl rfl (by unfold itF; simp only [List.length_cons]; omega) dX4_loseAll_26 (fun H locs hP hD hS => kC H locs ?_ ?_ hS)
      · rw [← pl_set (e := .inr (ciT (z.2 a0).1, itF nu kd pa 0 fa rs)) hD0 ha0.1 hg.1 hk8, ht9.2]; exact hP
      · rw [← pl_set (e := .inr (ciT (z.2 a0).1, itF nu kd pa 0 fa rs)) hD0 ha0.1 hg.1 hk8, ht9.2]; exact hD
    ·
      rw [ht9.2] at hk_2
      refine va_put (D := (dC, dI)) (ci := 9) (v := .int 0) (ty := .int) (C := RX10) (T := TX10) (N := 9) hx hb hts (by decide +kernel) tyX10 tyX10_ok nmX10 hown hK hP hD hS kk_1 hk_2 rfl 3 (by decide) (hts (.fieldLink RX4 9 "PageOne$Item" "count" "I") (by decide +kernel)) (fun _ h9 => h9) rfl (by decide +kernel) rfl rfl (by unfold itF; simp only [List.length_cons]; omega) dX4_loseAll_26 (fun H locs hP hD hS => kC H locs ?_ ?_ hS)
      · rw [← pl_set (e := .inr (ciT (z.2 a0).1, itF nu kd pa 0 fa rs)) hD0 ha0.1 hg.1 hk8, ht9.2]; exact hP
      · rw [← pl_set (e := .inr (ciT (z.2 a0).1, itF nu kd pa 0 fa rs)) hD0 ha0.1 hg.1 hk8, ht9.2]; exact hD
/-- loseAll: what is written keeps rep -/
theorem rep_all {q h0 d k u z f} {i n : Nat} {g g2 : Nat → Option Nat} {rs : List Value} (hI : xI q h0 d k z f) (h : rep q d u z f) (hn : bw (u.1 3) 0 80 = true) (hi : i < (u.1 3).toNatClampNeg) (hnn : n = if u.2 4 i = 0 then 6 else 1) (hs : f (d (2000 + i)) = .inr (ciT (z.2 (d (2000 + i))).1, itF (nI i) (u.2 4 i) (d (3000 + i)) (u.2 22 i) (d (4000 + i)) rs)) (hps : f (d (3000 + i)) = aR (q 5) n g) : rep q d (mst u 22 (nI i) 0) z (va_up (va_up f (d (3000 + i)) (aR (q 5) n g2)) (d (2000 + i)) (.inr (ciT (z.2 (d (2000 + i))).1, itF (nI i) (u.2 4 i) (d (3000 + i)) 0 (d (4000 + i)) rs))) := by
  have hi8 := (bw_it hn hi).2
  obtain ⟨n1, n2, n3, hkd, rs2, g3, fg, hsl, hps2, hpcs, hfs, hfe, hrs⟩ := h.2.2.1.2 i hi
  have ne : d (3000 + i) ≠ d (2000 + i) := fun e => by
    have h1 := n2.1.2
    rw [e, n1.1.2] at h1
    have := kT_r (u.2 4 i)
    omega
  have eI : (nI i).toNatClampNeg = i := nI_clamp (by omega)
  have w22 : (mst u 22 (nI i) 0).2 22 i = 0 := by rw [mst_at, eI, if_pos rfl]
  refine rep_pcs (n := n) (g2 := g2) h hn hi hnn hs ?_ ?_ ?_ (fun j hj e => d3_inj hI h.2.2.1 hj hi e) ?_ rfl (fun r hr => mst_other (by omega)) (fun j hj => by rw [mst_at, eI, if_neg hj]) (fun r r1 r2 j hj hji t ht => by rw [mst_other (by omega)])
  · rw [up_s, w22]
  · rw [up_o ne, up_s]
  · exact fK_up (fK_3 (fK_rf d z f _) n2.1 (fun j hj9 hj e => hj (Or.inr ⟨by omega, by omega, e⟩))) n1 (fun e => by have := kT_r (u.2 4 i); omega) (Or.inl rfl)
  · intro t ht
    rw [w22, show (0 : Int32).toNatClampNeg = 0 from rfl] at ht
    exact absurd ht (Nat.not_lt_zero t)
theorem rep_clear {q d u z f} {p : Nat} {g2 : Nat → Int32} (h : rep q d u z f) (hp : p < 12) (hg : ∀ j, j < 480 → g2 j = (-2)) : rep q d (mput u 2 (fun j => if 480 * p ≤ j ∧ j < 480 * p + 480 then (-2) else u.2 2 j)) z (va_up f (d (50 + p)) (aI (q 0) 480 g2)) := by
  obtain ⟨m1, m2, m3, dd, ii, s1, ⟨gl, s2, s3⟩, gc2, s4, s5⟩ := h.1.2 p hp
  generalize hw9 : mput u 2 (fun j => if 480 * p ≤ j ∧ j < 480 * p + 480 then (-2) else u.2 2 j) = w
  have w2 : ∀ r, r ≠ 2 → w.2 r = u.2 r := fun r r1 => by rw [← hw9, mput_other r1]
  have w0 : ∀ j, w.2 2 j = if 480 * p ≤ j ∧ j < 480 * p + 480 then (-2) else u.2 2 j := fun j => by rw [← hw9]; rfl
  have w1 : w.1 = u.1 := by rw [← hw9]; rfl
  have hf : fK d z f (va_up f (d (50 + p)) (aI (q 0) 480 g2)) (fun x => x = 50 + p) := fK_up (fK_rf d z f _) m3 (by decide) rfl
  refine rep_pg (p := p) h hf (fun x hx => by omega) hp w1 (fun r r1 => w2 r (by omega)) (fun j hj hjp => ⟨by rw [w2 1 (by omega)], fun t ht => by rw [w2 0 (by omega)], fun t ht => by rw [w0, if_neg (by omega)]⟩) ⟨dd, ii, ?_, ⟨gl, ?_, ?_⟩, _, up_s, fun t ht => ?_⟩
  · rw [hf.1 _ _ m1 (by omega), w2 1 (by omega)]; exact s1
  · rw [hf.1 _ _ m2 (by omega)]; exact s2
  · rw [w2 0 (by omega)]; exact s3
  · rw [w0, if_pos (by omega)]; exact hg t ht
theorem rep_h0 {q h0 d k u z f} {e : va_E} (h : rep q d u z f) (hI : xI q h0 d k z f) (hz0 : (z.2 h0).2.1 = 0) : rep q d u z (va_up f h0 e) := rep_3 h (fK_h0 (fK_rf d z f _) h.2.2.2.2.1 hI.2.1.1 hz0)
/-- the desk cleared -/
def cd1 (u : mS) (n : Nat) : mS := mput u 22 (fun j => if j < n then 0 else u.2 22 j)
def cd2 (u : mS) (p : Nat) : mS := mput u 2 (fun j => if j < 480 * p then (-2) else u.2 2 j)
theorem cd1_s (u : mS) {n : Nat} (h : n < 1000) : mst (cd1 u n) 22 (nI n) 0 = cd1 u (n + 1) := by
  unfold mst cd1
  refine Prod.ext rfl ?_
  funext r
  show (if r = 22 then upd _ _ _ else (if r = 22 then _ else u.2 r)) = (if r = 22 then _ else u.2 r)
  by_cases e : r = 22
  · rw [if_pos e, if_pos e]
    funext j
    unfold upd
    rw [nI_clamp (by omega)]
    show (if j = n then 0 else (if 22 = 22 then (fun j => if j < n then 0 else u.2 22 j) else u.2 22) j) = _
    rw [if_pos rfl]
    by_cases e2 : j = n
    · rw [if_pos e2, if_pos (by omega)]
    · rw [if_neg e2]
      by_cases e3 : j < n
      · rw [if_pos e3, if_pos (by omega)]
      · rw [if_neg e3, if_neg (by omega)]
  · rw [if_neg e, if_neg e, if_neg e]
theorem cd2_s (u : mS) (p : Nat) : mput (cd2 u p) 2 (fun j => if 480 * p ≤ j ∧ j < 480 * p + 480 then (-2) else (cd2 u p).2 2 j) = cd2 u (p + 1) := by
  unfold cd2
  refine Prod.ext rfl ?_
  funext r
  show (if r = 2 then _ else (if r = 2 then _ else u.2 r)) = (if r = 2 then _ else u.2 r)
  by_cases e : r = 2
  · rw [if_pos e, if_pos e]
    funext j
    show (if 480 * p ≤ j ∧ j < 480 * p + 480 then (-2 : Int32) else (if j < 480 * p then (-2) else u.2 2 j)) = if j < 480 * (p + 1) then (-2) else u.2 2 j
    by_cases e2 : 480 * p ≤ j ∧ j < 480 * p + 480
    · rw [if_pos e2, if_pos (by omega)]
    · rw [if_neg e2]
      by_cases e3 : j < 480 * p
      · rw [if_pos e3, if_pos (by omega)]
      · rw [if_neg e3, if_neg (by omega)]
  · rw [if_neg e, if_neg e, if_neg e]
theorem cd1_0 (u : mS) : cd1 u 0 = u := by
  unfold cd1 mput
  refine Prod.ext rfl ?_
  funext r
  show (if r = 22 then _ else u.2 r) = u.2 r
  by_cases e : r = 22
  · rw [if_pos e, e]; rfl
  · rw [if_neg e]
theorem cd2_0 (u : mS) : cd2 u 0 = u := by
  unfold cd2 mput
  refine Prod.ext rfl ?_
  funext r
  show (if r = 2 then _ else u.2 r) = u.2 r
  by_cases e : r = 2
  · rw [if_pos e, e]; rfl
  · rw [if_neg e]
