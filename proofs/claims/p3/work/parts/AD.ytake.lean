noncomputable def s_lose_f (q : Nat → ClassId) (z : gS) (f : xF) (a0 pa fa n : Nat) (nu kd cn : Int32) (rs : List Value) (g : Nat → Option Nat) : xF := if cn ≤ 0 then f else (va_up (va_up f a0 (.inr (ciT (z.2 a0).1, itF nu kd pa (cn - 1) fa rs))) pa (aR (q 5) n (va_up g ((cn - 1) : Int32).toNatClampNeg none)))
set_option maxHeartbeats 4000000 in
set_option maxRecDepth 100000 in
theorem y_loseLast (l : Launch) (dC : Nat → ClassId) (dI : Nat → Nat → Nat) (q : Nat → ClassId) (h0 : Nat) (d : Nat → Nat) (k : Nat → Int32) (z : gS) (f : xF) (hI : xI q h0 d k z f) (a0 : Nat) (ha0 : itm z a0) (nu kd cn : Int32) (pa fa : Nat) (rs : List Value) (hs : f a0 = .inr (ciT (z.2 a0).1, itF nu kd pa cn fa rs)) (n : Nat) (g : Nat → Option Nat) (hpa : tg z pa 16) (hps : f pa = aR (q 5) n g) (h1 : 1 ≤ n) (h6 : n ≤ 6) (hcb : bw cn 0 (nI n) = true) (hnn : ∀ j, j < cn.toNatClampNeg → ∃ b, g j = some b) (hlg : ∀ j, j < n → ∀ b, g j = some b → lgP z b) (sz : Nat) : Met l yX4_loseLast wsX4_loseLast ({ frames := 0, cells := 0, slots := 0, locals := 0 }) (va_Pc [.ref a0] (fun U => U.heap.size = sz ∧ PX dC dI (va_pl z.1 f) (xT q) U ∧ va_D (fun _ => True) (va_pl z.1 f))) (va_Qv (fun (w : xU) => w.1 = k ∧ w.2.1 = z ∧ xI q h0 d k z w.2.2 ∧ w.2.2 = s_lose_f q z f a0 pa fa n nu kd cn rs g) (fun (w : xU) t => va_P (dC, dI) vwCl (va_pl w.2.1.1 w.2.2) t.heap ∧ va_D (va_A (va_pl z.1 f) sz) (va_pl w.2.1.1 w.2.2)) (va_A (va_pl z.1 f) sz)) 0 0 (va_A (va_pl z.1 f) sz) := by
  refine Met.ofW (cc := cX4_loseLast) (maxL := 1) (ret := none) (by decide) rfl ?_
  intro p e s m args below meth c s₁ B hml hv
  obtain ⟨rfl, hsz, ⟨⟨hP, hK, hN⟩, hXN⟩, hD0⟩ := hv
  have hx := B.exec
  have hb := B.bytes
  have hr := B.returns
  have hts := atoms_spec (ws := wsX4_loseLast) B.pre
  have hown : s.vm.findClass RX4 = some m.cls := findClass_of_methodNamed B.named
  have hlocks := B.notSynchronized
  subst hsz
  have hD := hD0.self (sz := s.heap.size)
  generalize hAe : va_A (va_pl z.1 f) s.heap.size = A at hD ⊢
  have hA : ∀ q : Nat, s.heap.size ≤ q → A q := fun q h => by rw [← hAe]; exact Or.inr h
  have hS : va_S A s.heap s.heap [] := va_S.rf
  have hl := lv_entry ([.ref a0]) (n := 1) (Nat.le_of_ble_eq_true rfl)
  rw [lg_entry_eq]
  generalize (lg_sl ([.ref a0]) ++ List.replicate (1 - (lg_sl ([.ref a0])).length) Slot.unset).toArray = ls at hl ⊢
  have hl : lv_has ls 1 [(0, .ref a0)] := hl
  refine lv_aload_n hx hb dX4_loseLast_0 rfl (lv_at hl 0 rfl) ?_
  obtain ⟨kk_1, hk_2⟩ := pl_at ha0.1 hs
  refine w_then (F0 m 4 ls [.int cn]) (fun hgo => ?_) ?_
  ·
    rcases x_tag ha0 with ht9 | ht9 | ht9 | ht9 | ht9 | ht9
    ·
      rw [ht9.2] at hk_2
      exact va_get (D := (dC, dI)) (ci := 2) (v := .int cn) (C := RX2) (T := TX2) (N := 7) hx hb hts (by decide +kernel) hown hK hP kk_1 hk_2 rfl 3 (by decide) (hts (.fieldLink RX4 9 "PageOne$Item" "count" "I") (by decide +kernel)) (fun _ h9 => h9) rfl dX4_loseLast_1 hgo
    ·
      rw [ht9.2] at hk_2
      exact va_get (D := (dC, dI)) (ci := 3) (v := .int cn) (C := RX3) (T := TX3) (N := 8) hx hb hts (by decide +kernel) hown hK hP kk_1 hk_2 rfl 3 (by decide) (hts (.fieldLink RX4 9 "PageOne$Item" "count" "I") (by decide +kernel)) (fun _ h9 => h9) rfl dX4_loseLast_1 hgo
    ·
      rw [ht9.2] at hk_2
      exact va_get (D := (dC, dI)) (ci := 4) (v := .int cn) (C := RX5) (T := TX5) (N := 7) hx hb hts (by decide +kernel) hown hK hP kk_1 hk_2 rfl 3 (by decide) (hts (.fieldLink RX4 9 "PageOne$Item" "count" "I") (by decide +kernel)) (fun _ h9 => h9) rfl dX4_loseLast_1 hgo
    ·
      rw [ht9.2] at hk_2
      exact va_get (D := (dC, dI)) (ci := 5) (v := .int cn) (C := RX6) (T := TX6) (N := 9) hx hb hts (by decide +kernel) hown hK hP kk_1 hk_2 rfl 3 (by decide) (hts (.fieldLink RX4 9 "PageOne$Item" "count" "I") (by decide +kernel)) (fun _ h9 => h9) rfl dX4_loseLast_1 hgo
    ·
      rw [ht9.2] at hk_2
      exact va_get (D := (dC, dI)) (ci := 6) (v := .int cn) (C := RX7) (T := TX7) (N := 8) hx hb hts (by decide +kernel) hown hK hP kk_1 hk_2 rfl 3 (by decide) (hts (.fieldLink RX4 9 "PageOne$Item" "count" "I") (by decide +kernel)) (fun _ h9 => h9) rfl dX4_loseLast_1 hgo
    ·
      rw [ht9.2] at hk_2
      exact va_get (D := (dC, dI)) (ci := 9) (v := .int cn) (C := RX10) (T := TX10) (N := 9) hx hb hts (by decide +kernel) hown hK hP kk_1 hk_2 rfl 3 (by decide) (hts (.fieldLink RX4 9 "PageOne$Item" "count" "I") (by decide +kernel)) (fun _ h9 => h9) rfl dX4_loseLast_1 hgo
  ·
    refine lv_if_le (tgt := 27) hx hb dX4_loseLast_4 (by decide) (fun c_3 => ?_) (fun c_3 => ?_)
    ·
      exact W.vret hx hb hr (fun t ht hW => ⟨⟨(k, z, f), rfl, ⟨rfl, rfl, hI, (by show f = _; unfold s_lose_f; rw [if_pos c_3])⟩, by rw [ht]; exact hP, hD⟩, hS.F ht⟩) hS.2.2 dX4_loseLast_27
    ·
      refine lv_aload_n hx hb dX4_loseLast_7 rfl (lv_at hl 0 rfl) ?_
      refine lv_dup hx hb dX4_loseLast_8 rfl ?_
      obtain ⟨kk_4, hk_5⟩ := pl_at ha0.1 hs
      refine w_then (F0 m 12 ls [.int cn, .ref a0]) (fun hgo => ?_) ?_
      ·
        rcases x_tag ha0 with ht9 | ht9 | ht9 | ht9 | ht9 | ht9
        ·
          rw [ht9.2] at hk_5
          exact va_get (D := (dC, dI)) (ci := 2) (v := .int cn) (C := RX2) (T := TX2) (N := 7) hx hb hts (by decide +kernel) hown hK hP kk_4 hk_5 rfl 3 (by decide) (hts (.fieldLink RX4 9 "PageOne$Item" "count" "I") (by decide +kernel)) (fun _ h9 => h9) rfl dX4_loseLast_9 hgo
        ·
          rw [ht9.2] at hk_5
          exact va_get (D := (dC, dI)) (ci := 3) (v := .int cn) (C := RX3) (T := TX3) (N := 8) hx hb hts (by decide +kernel) hown hK hP kk_4 hk_5 rfl 3 (by decide) (hts (.fieldLink RX4 9 "PageOne$Item" "count" "I") (by decide +kernel)) (fun _ h9 => h9) rfl dX4_loseLast_9 hgo
        ·
          rw [ht9.2] at hk_5
          exact va_get (D := (dC, dI)) (ci := 4) (v := .int cn) (C := RX5) (T := TX5) (N := 7) hx hb hts (by decide +kernel) hown hK hP kk_4 hk_5 rfl 3 (by decide) (hts (.fieldLink RX4 9 "PageOne$Item" "count" "I") (by decide +kernel)) (fun _ h9 => h9) rfl dX4_loseLast_9 hgo
        ·
          rw [ht9.2] at hk_5
          exact va_get (D := (dC, dI)) (ci := 5) (v := .int cn) (C := RX6) (T := TX6) (N := 9) hx hb hts (by decide +kernel) hown hK hP kk_4 hk_5 rfl 3 (by decide) (hts (.fieldLink RX4 9 "PageOne$Item" "count" "I") (by decide +kernel)) (fun _ h9 => h9) rfl dX4_loseLast_9 hgo
        ·
          rw [ht9.2] at hk_5
          exact va_get (D := (dC, dI)) (ci := 6) (v := .int cn) (C := RX7) (T := TX7) (N := 8) hx hb hts (by decide +kernel) hown hK hP kk_4 hk_5 rfl 3 (by decide) (hts (.fieldLink RX4 9 "PageOne$Item" "count" "I") (by decide +kernel)) (fun _ h9 => h9) rfl dX4_loseLast_9 hgo
        ·
          rw [ht9.2] at hk_5
          exact va_get (D := (dC, dI)) (ci := 9) (v := .int cn) (C := RX10) (T := TX10) (N := 9) hx hb hts (by decide +kernel) hown hK hP kk_4 hk_5 rfl 3 (by decide) (hts (.fieldLink RX4 9 "PageOne$Item" "count" "I") (by decide +kernel)) (fun _ h9 => h9) rfl dX4_loseLast_9 hgo
      ·
        refine lv_iconst (v := 1) hx hb dX4_loseLast_12 (by decide) ?_
        refine lv_isub hx hb dX4_loseLast_13 ?_
        refine lv_topi (fun x_6 ex_6 => ?_)
        obtain ⟨kk_7, hk_8⟩ := pl_at ha0.1 hs
        have hD0 := hD
        refine w_cut (X := fun R cells slots Q args => ∀ (H : Heap) (locs : List Loc), va_P (dC, dI) vwCl (va_pl z.1 (va_up f a0 (.inr (ciT (z.2 a0).1, itF nu kd pa x_6 fa rs)))) H → va_D A (va_pl z.1 (va_up f a0 (.inr (ciT (z.2 a0).1, itF nu kd pa x_6 fa rs)))) → va_S A s.heap H locs → W p l e R s m args below meth c H locs cells slots Q (F0 m 17 ls [])) ?_ (fun kC => ?_)
        ·
          intro H locs hP hD hS
          obtain ⟨f_9, ef_9⟩ : ∃ y : xF, y = va_up f a0 (.inr (ciT (z.2 a0).1, itF nu kd pa x_6 fa rs)) := ⟨_, rfl⟩
          have hI : xI q h0 d k z f_9 := by rw [ef_9]; exact x_upC hI ha0 hs hps (bcm1 h6 hcb c_3 ex_6).1 (fun j hj => hnn j (by have := (bcm1 h6 hcb c_3 ex_6).2.1; omega)) hlg
          have hP : va_P (dC, dI) vwCl (va_pl z.1 f_9) H := by rw [ef_9]; exact hP
          have hD : va_D A (va_pl z.1 f_9) := by rw [ef_9]; exact hD
          have hff_9 : f_9 a0 = .inr (ciT (z.2 a0).1, itF nu kd pa x_6 fa rs) := by rw [ef_9]; exact up_s
          have hs_10 : f_9 pa = aR (q 5) n g := by rw [ef_9, up_o (x_pan hI ha0 hpa)]; exact hps
          refine lv_aload_n hx hb dX4_loseLast_17 rfl (lv_at hl 0 rfl) ?_
          obtain ⟨kk_11, hk_12⟩ := pl_at ha0.1 hff_9
          refine w_then (F0 m 21 ls [.ref pa]) (fun hgo => ?_) ?_
          ·
            rcases x_tag ha0 with ht9 | ht9 | ht9 | ht9 | ht9 | ht9
            ·
              rw [ht9.2] at hk_12
              exact va_get (D := (dC, dI)) (ci := 2) (v := .ref pa) (C := RX2) (T := TX2) (N := 7) hx hb hts (by decide +kernel) hown hK hP kk_11 hk_12 rfl 2 (by decide) (hts (.fieldLink RX4 31 "PageOne$Item" "pieces" "[LPageOne$Piece;") (by decide +kernel)) (fun _ h9 => h9) rfl dX4_loseLast_18 hgo
            ·
              rw [ht9.2] at hk_12
              exact va_get (D := (dC, dI)) (ci := 3) (v := .ref pa) (C := RX3) (T := TX3) (N := 8) hx hb hts (by decide +kernel) hown hK hP kk_11 hk_12 rfl 2 (by decide) (hts (.fieldLink RX4 31 "PageOne$Item" "pieces" "[LPageOne$Piece;") (by decide +kernel)) (fun _ h9 => h9) rfl dX4_loseLast_18 hgo
            ·
              rw [ht9.2] at hk_12
              exact va_get (D := (dC, dI)) (ci := 4) (v := .ref pa) (C := RX5) (T := TX5) (N := 7) hx hb hts (by decide +kernel) hown hK hP kk_11 hk_12 rfl 2 (by decide) (hts (.fieldLink RX4 31 "PageOne$Item" "pieces" "[LPageOne$Piece;") (by decide +kernel)) (fun _ h9 => h9) rfl dX4_loseLast_18 hgo
            ·
              rw [ht9.2] at hk_12
              exact va_get (D := (dC, dI)) (ci := 5) (v := .ref pa) (C := RX6) (T := TX6) (N := 9) hx hb hts (by decide +kernel) hown hK hP kk_11 hk_12 rfl 2 (by decide) (hts (.fieldLink RX4 31 "PageOne$Item" "pieces" "[LPageOne$Piece;") (by decide +kernel)) (fun _ h9 => h9) rfl dX4_loseLast_18 hgo
            ·
              rw [ht9.2] at hk_12
              exact va_get (D := (dC, dI)) (ci := 6) (v := .ref pa) (C := RX7) (T := TX7) (N := 8) hx hb hts (by decide +kernel) hown hK hP kk_11 hk_12 rfl 2 (by decide) (hts (.fieldLink RX4 31 "PageOne$Item" "pieces" "[LPageOne$Piece;") (by decide +kernel)) (fun _ h9 => h9) rfl dX4_loseLast_18 hgo
            ·
              rw [ht9.2] at hk_12
              exact va_get (D := (dC, dI)) (ci := 9) (v := .ref pa) (C := RX10) (T := TX10) (N := 9) hx hb hts (by decide +kernel) hown hK hP kk_11 hk_12 rfl 2 (by decide) (hts (.fieldLink RX4 31 "PageOne$Item" "pieces" "[LPageOne$Piece;") (by decide +kernel)) (fun _ h9 => h9) rfl dX4_loseLast_18 hgo
          ·
            refine lv_aload_n hx hb dX4_loseLast_21 rfl (lv_at hl 0 rfl) ?_
            obtain ⟨kk_13, hk_14⟩ := pl_at ha0.1 hff_9
            refine w_then (F0 m 25 ls [.int x_6, .ref pa]) (fun hgo => ?_) ?_
            ·
              rcases x_tag ha0 with ht9 | ht9 | ht9 | ht9 | ht9 | ht9
              ·
                rw [ht9.2] at hk_14
                exact va_get (D := (dC, dI)) (ci := 2) (v := .int x_6) (C := RX2) (T := TX2) (N := 7) hx hb hts (by decide +kernel) hown hK hP kk_13 hk_14 rfl 3 (by decide) (hts (.fieldLink RX4 9 "PageOne$Item" "count" "I") (by decide +kernel)) (fun _ h9 => h9) rfl dX4_loseLast_22 hgo
              ·
                rw [ht9.2] at hk_14
                exact va_get (D := (dC, dI)) (ci := 3) (v := .int x_6) (C := RX3) (T := TX3) (N := 8) hx hb hts (by decide +kernel) hown hK hP kk_13 hk_14 rfl 3 (by decide) (hts (.fieldLink RX4 9 "PageOne$Item" "count" "I") (by decide +kernel)) (fun _ h9 => h9) rfl dX4_loseLast_22 hgo
              ·
                rw [ht9.2] at hk_14
                exact va_get (D := (dC, dI)) (ci := 4) (v := .int x_6) (C := RX5) (T := TX5) (N := 7) hx hb hts (by decide +kernel) hown hK hP kk_13 hk_14 rfl 3 (by decide) (hts (.fieldLink RX4 9 "PageOne$Item" "count" "I") (by decide +kernel)) (fun _ h9 => h9) rfl dX4_loseLast_22 hgo
              ·
                rw [ht9.2] at hk_14
                exact va_get (D := (dC, dI)) (ci := 5) (v := .int x_6) (C := RX6) (T := TX6) (N := 9) hx hb hts (by decide +kernel) hown hK hP kk_13 hk_14 rfl 3 (by decide) (hts (.fieldLink RX4 9 "PageOne$Item" "count" "I") (by decide +kernel)) (fun _ h9 => h9) rfl dX4_loseLast_22 hgo
              ·
                rw [ht9.2] at hk_14
                exact va_get (D := (dC, dI)) (ci := 6) (v := .int x_6) (C := RX7) (T := TX7) (N := 8) hx hb hts (by decide +kernel) hown hK hP kk_13 hk_14 rfl 3 (by decide) (hts (.fieldLink RX4 9 "PageOne$Item" "count" "I") (by decide +kernel)) (fun _ h9 => h9) rfl dX4_loseLast_22 hgo
              ·
                rw [ht9.2] at hk_14
                exact va_get (D := (dC, dI)) (ci := 9) (v := .int x_6) (C := RX10) (T := TX10) (N := 9) hx hb hts (by decide +kernel) hown hK hP kk_13 hk_14 rfl 3 (by decide) (hts (.fieldLink RX4 9 "PageOne$Item" "count" "I") (by decide +kernel)) (fun _ h9 => h9) rfl dX4_loseLast_22 hgo
            ·
              refine lv_null hx hb dX4_loseLast_25 ?_
              obtain ⟨kk_15, hk_16⟩ := pl_at hpa.1 hs_10
              have hD0 := hD
              refine va_astqN hx hb hK hP hD hS kk_15 5 hk_16 rfl (bcm1 h6 hcb c_3 ex_6).2.2 dX4_loseLast_26 (fun H locs hP hD hS => ?_)
              rw [pl_set hD0 hpa.1 hs_10 hk_16] at hP hD
              obtain ⟨f_17, ef_17⟩ : ∃ y : xF, y = va_up f_9 pa (aR (q 5) n (va_up g (x_6 : Int32).toNatClampNeg none)) := ⟨_, rfl⟩
              have hI : xI q h0 d k z f_17 := by rw [ef_17]; exact x_upP hI ha0 hff_9 hs_10 (x_pan hI ha0 hpa) (bcm1 h6 hcb c_3 ex_6).1 (nn_up (fun j hj => hnn j (by have := (bcm1 h6 hcb c_3 ex_6).2.1; omega)) (Nat.le_refl _)) (ty_up hlg ty_n)
              have hP : va_P (dC, dI) vwCl (va_pl z.1 f_17) H := by rw [ef_17]; exact hP
              have hD : va_D A (va_pl z.1 f_17) := by rw [ef_17]; exact hD
              have hs_18 : f_17 a0 = .inr (ciT (z.2 a0).1, itF nu kd pa x_6 fa rs) := by rw [ef_17, up_o (itm_ne ha0 hpa (by decide))]; exact hff_9
              have hs_19 : f_17 pa = aR (q 5) n (va_up g (x_6 : Int32).toNatClampNeg none) := by rw [ef_17]; exact up_s
              have hs_20 : f_17 a0 = .inr (ciT (z.2 a0).1, itF nu kd pa x_6 fa rs) := by rw [ef_17, up_o (fun e => (x_pan hI ha0 hpa) e.symm)]; exact hff_9
              exact W.vret hx hb hr (fun t ht hW => ⟨⟨(k, z, f_17), rfl, ⟨rfl, rfl, hI, (by show f_17 = _; rw [ef_17, ef_9, ex_6]; unfold s_lose_f; rw [if_neg c_3])⟩, by rw [ht]; exact hP, hD⟩, hS.F ht⟩) hS.2.2 dX4_loseLast_27
        ·
          have hk8 := hk_8
          rcases x_tag ha0 with ht9 | ht9 | ht9 | ht9 | ht9 | ht9
          ·
            rw [ht9.2] at hk_8
            refine va_put (D := (dC, dI)) (ci := 2) (v := .int x_6) (ty := .int) (C := RX2) (T := TX2) (N := 7) hx hb hts (by decide +kernel) tyX2 tyX2_ok nmX2 hown hK hP hD hS kk_7 hk_8 rfl 3 (by decide) (hts (.fieldLink RX4 9 "PageOne$Item" "count" "I") (by decide +kernel)) (fun _ h9 => h9) rfl (by decide +kernel) rfl rfl (by unfold itF; simp only [List.length_cons]; omega) dX4_loseLast_14 (fun H locs hP hD hS => kC H locs ?_ ?_ hS)
            · rw [← pl_set (e := .inr (ciT (z.2 a0).1, itF nu kd pa x_6 fa rs)) hD0 ha0.1 hs hk8, ht9.2]; exact hP
            · rw [← pl_set (e := .inr (ciT (z.2 a0).1, itF nu kd pa x_6 fa rs)) hD0 ha0.1 hs hk8, ht9.2]; exact hD
          ·
            rw [ht9.2] at hk_8
            refine va_put (D := (dC, dI)) (ci := 3) (v := .int x_6) (ty := .int) (C := RX3) (T := TX3) (N := 8) hx hb hts (by decide +kernel) tyX3 tyX3_ok nmX3 hown hK hP hD hS kk_7 hk_8 rfl 3 (by decide) (hts (.fieldLink RX4 9 "PageOne$Item" "count" "I") (by decide +kernel)) (fun _ h9 => h9) rfl (by decide +kernel) rfl rfl (by unfold itF; simp only [List.length_cons]; omega) dX4_loseLast_14 (fun H locs hP hD hS => kC H locs ?_ ?_ hS)
            · rw [← pl_set (e := .inr (ciT (z.2 a0).1, itF nu kd pa x_6 fa rs)) hD0 ha0.1 hs hk8, ht9.2]; exact hP
            · rw [← pl_set (e := .inr (ciT (z.2 a0).1, itF nu kd pa x_6 fa rs)) hD0 ha0.1 hs hk8, ht9.2]; exact hD
          ·
            rw [ht9.2] at hk_8
            refine va_put (D := (dC, dI)) (ci := 4) (v := .int x_6) (ty := .int) (C := RX5) (T := TX5) (N := 7) hx hb hts (by decide +kernel) tyX5 tyX5_ok nmX5 hown hK hP hD hS kk_7 hk_8 rfl 3 (by decide) (hts (.fieldLink RX4 9 "PageOne$Item" "count" "I") (by decide +kernel)) (fun _ h9 => h9) rfl (by decide +kernel) rfl rfl (by unfold itF; simp only [List.length_cons]; omega) dX4_loseLast_14 (fun H locs hP hD hS => kC H locs ?_ ?_ hS)
            · rw [← pl_set (e := .inr (ciT (z.2 a0).1, itF nu kd pa x_6 fa rs)) hD0 ha0.1 hs hk8, ht9.2]; exact hP
            · rw [← pl_set (e := .inr (ciT (z.2 a0).1, itF nu kd pa x_6 fa rs)) hD0 ha0.1 hs hk8, ht9.2]; exact hD
          ·
            rw [ht9.2] at hk_8
            refine va_put (D := (dC, dI)) (ci := 5) (v := .int x_6) (ty := .int) (C := RX6) (T := TX6) (N := 9) hx hb hts (by decide +kernel) tyX6 tyX6_ok nmX6 hown hK hP hD hS kk_7 hk_8 rfl 3 (by decide) (hts (.fieldLink RX4 9 "PageOne$Item" "count" "I") (by decide +kernel)) (fun _ h9 => h9) rfl (by decide +kernel) rfl rfl (by unfold itF; simp only [List.length_cons]; omega) dX4_loseLast_14 (fun H locs hP hD hS => kC H locs ?_ ?_ hS)
            · rw [← pl_set (e := .inr (ciT (z.2 a0).1, itF nu kd pa x_6 fa rs)) hD0 ha0.1 hs hk8, ht9.2]; exact hP
            · rw [← pl_set (e := .inr (ciT (z.2 a0).1, itF nu kd pa x_6 fa rs)) hD0 ha0.1 hs hk8, ht9.2]; exact hD
          ·
            rw [ht9.2] at hk_8
            refine va_put (D := (dC, dI)) (ci := 6) (v := .int x_6) (ty := .int) (C := RX7) (T := TX7) (N := 8) hx hb hts (by decide +kernel) tyX7 tyX7_ok nmX7 hown hK hP hD hS kk_7 hk_8 rfl 3 (by decide) (hts (.fieldLink RX4 9 "PageOne$Item" "count" "I") (by decide +kernel)) (fun _ h9 => h9) rfl (by decide +kernel) rfl rfl (by unfold itF; simp only [List.length_cons]; omega) dX4_loseLast_14 (fun H locs hP hD hS => kC H locs ?_ ?_ hS)
            · rw [← pl_set (e := .inr (ciT (z.2 a0).1, itF nu kd pa x_6 fa rs)) hD0 ha0.1 hs hk8, ht9.2]; exact hP
            · rw [← pl_set (e := .inr (ciT (z.2 a0).1, itF nu kd pa x_6 fa rs)) hD0 ha0.1 hs hk8, ht9.2]; exact hD
          ·
            rw [ht9.2] at hk_8
            refine va_put (D := (dC, dI)) (ci := 9) (v := .int x_6) (ty := .int) (C := RX10) (T := TX10) (N := 9) hx hb hts (by decide +kernel) tyX10 tyX10_ok nmX10 hown hK hP hD hS kk_7 hk_8 rfl 3 (by decide) (hts (.fieldLink RX4 9 "PageOne$Item" "count" "I") (by decide +kernel)) (fun _ h9 => h9) rfl (by decide +kernel) rfl rfl (by unfold itF; simp only [List.length_cons]; omega) dX4_loseLast_14 (fun H locs hP hD hS => kC H locs ?_ ?_ hS)
            · rw [← pl_set (e := .inr (ciT (z.2 a0).1, itF nu kd pa x_6 fa rs)) hD0 ha0.1 hs hk8, ht9.2]; exact hP
            · rw [← pl_set (e := .inr (ciT (z.2 a0).1, itF nu kd pa x_6 fa rs)) hD0 ha0.1 hs hk8, ht9.2]; exact hD
noncomputable def s_takeIn (p0 co : Int32) : Int32 := if co < 80 then (co + 1) else (-1)
noncomputable def s_takeIn_f (q : Nat → ClassId) (f : xF) (a0 pa fa wd nm : Nat) (p0 nu kd cn lz co : Int32) (gw : Nat → Int32) : xF := if co < 80 then (va_up (va_up f wd (aI (q 0) 80 (upd gw (co : Int32).toNatClampNeg p0))) a0 (.inr (9, [.int nu, .int kd, .ref pa, .int cn, .ref fa, .int lz, .ref wd, .int (co + 1), .ref nm]))) else f
set_option maxHeartbeats 4000000 in
set_option maxRecDepth 100000 in
theorem y_takeIn (l : Launch) (dC : Nat → ClassId) (dI : Nat → Nat → Nat) (q : Nat → ClassId) (h0 : Nat) (d : Nat → Nat) (k : Nat → Int32) (z : gS) (f : xF) (hI : xI q h0 d k z f) (a0 pa fa wd nm : Nat) (nu kd cn lz co : Int32) (ha0 : tg z a0 15) (hs : f a0 = .inr (9, [.int nu, .int kd, .ref pa, .int cn, .ref fa, .int lz, .ref wd, .int co, .ref nm])) (p0 : Int32) (gw : Nat → Int32) (hwd : tg z wd 18) (hwg : f wd = aI (q 0) 80 gw) (hnm : tg z nm 19) (hpa : tg z pa 16) (hfa : tg z fa 17) (hco : bw co 0 80 = true) (sz : Nat) : Met l yX10_takeIn wsX10_takeIn ({ frames := 0, cells := 0, slots := 0, locals := 0 }) (va_Pc [.ref a0, .int p0] (fun U => U.heap.size = sz ∧ PX dC dI (va_pl z.1 f) (xT q) U ∧ va_D (fun _ => True) (va_pl z.1 f))) (va_Qi (fun (r : Int32) (w : xU) => w.1 = k ∧ w.2.1 = z ∧ xI q h0 d k z w.2.2 ∧ r = s_takeIn p0 co ∧ w.2.2 = s_takeIn_f q f a0 pa fa wd nm p0 nu kd cn lz co gw) (fun (w : xU) t => va_P (dC, dI) vwCl (va_pl w.2.1.1 w.2.2) t.heap ∧ va_D (va_A (va_pl z.1 f) sz) (va_pl w.2.1.1 w.2.2)) (va_A (va_pl z.1 f) sz)) 0 0 (va_A (va_pl z.1 f) sz) := by
  refine Met.ofW (cc := cX10_takeIn) (maxL := 2) (ret := (some .int)) (by decide) rfl ?_
  intro p e s m args below meth c s₁ B hml hv
  obtain ⟨rfl, hsz, ⟨⟨hP, hK, hN⟩, hXN⟩, hD0⟩ := hv
  have hx := B.exec
  have hb := B.bytes
  have hr := B.returns
  have hts := atoms_spec (ws := wsX10_takeIn) B.pre
  have hown : s.vm.findClass RX10 = some m.cls := findClass_of_methodNamed B.named
  have hlocks := B.notSynchronized
  subst hsz
  have hD := hD0.self (sz := s.heap.size)
  generalize hAe : va_A (va_pl z.1 f) s.heap.size = A at hD ⊢
  have hA : ∀ q : Nat, s.heap.size ≤ q → A q := fun q h => by rw [← hAe]; exact Or.inr h
  have hS : va_S A s.heap s.heap [] := va_S.rf
  have hl := lv_entry ([.ref a0, .int p0]) (n := 2) (Nat.le_of_ble_eq_true rfl)
  rw [lg_entry_eq]
  generalize (lg_sl ([.ref a0, .int p0]) ++ List.replicate (2 - (lg_sl ([.ref a0, .int p0])).length) Slot.unset).toArray = ls at hl ⊢
  have hl : lv_has ls 2 [(0, .ref a0), (1, .int p0)] := hl
  refine lv_aload_n hx hb dX10_takeIn_0 rfl (lv_at hl 0 rfl) ?_
  obtain ⟨kk_1, hk_2⟩ := pl_at ha0.1 hs
  refine va_get (D := (dC, dI)) (ci := 9) (v := .int co) (C := RX10) (T := TX10) (N := 9) hx hb hts (by decide +kernel) hown hK hP kk_1 hk_2 rfl 7 (by decide) (hts (.fieldLink RX10 15 "PageOne$Story" "come" "I") (by decide +kernel)) (fun _ h9 => h9) rfl dX10_takeIn_1 ?_
  refine lv_bipush (v := 80) hx hb dX10_takeIn_4 (by decide) ?_
  refine lv_icmp_lt (tgt := 11) hx hb dX10_takeIn_6 (by decide) (fun c_3 => ?_) (fun c_3 => ?_)
  ·
    refine lv_aload_n hx hb dX10_takeIn_11 rfl (lv_at hl 0 rfl) ?_
    obtain ⟨kk_4, hk_5⟩ := pl_at ha0.1 hs
    refine va_get (D := (dC, dI)) (ci := 9) (v := .ref wd) (C := RX10) (T := TX10) (N := 9) hx hb hts (by decide +kernel) hown hK hP kk_4 hk_5 rfl 6 (by decide) (hts (.fieldLink RX10 9 "PageOne$Story" "widths" "[I") (by decide +kernel)) (fun _ h9 => h9) rfl dX10_takeIn_12 ?_
    refine lv_aload_n hx hb dX10_takeIn_15 rfl (lv_at hl 0 rfl) ?_
    obtain ⟨kk_6, hk_7⟩ := pl_at ha0.1 hs
    refine va_get (D := (dC, dI)) (ci := 9) (v := .int co) (C := RX10) (T := TX10) (N := 9) hx hb hts (by decide +kernel) hown hK hP kk_6 hk_7 rfl 7 (by decide) (hts (.fieldLink RX10 15 "PageOne$Story" "come" "I") (by decide +kernel)) (fun _ h9 => h9) rfl dX10_takeIn_16 ?_
    refine lv_iload_n hx hb dX10_takeIn_19 rfl (lv_at hl 1 rfl) ?_
    obtain ⟨kk_8, hk_9⟩ := pl_at hwd.1 hwg
    have hD0 := hD
    refine va_iast hx hb hK hP hD hS kk_8 0 hk_9 rfl (vltn (n := 80) hco c_3 rfl (by decide)).1 dX10_takeIn_20 (fun H locs hP hD hS => ?_)
    rw [pl_set hD0 hwd.1 hwg hk_9] at hP hD
    obtain ⟨f_10, ef_10⟩ : ∃ y : xF, y = va_up f wd (aI (q 0) 80 (upd gw (co : Int32).toNatClampNeg p0)) := ⟨_, rfl⟩
    have hI : xI q h0 d k z f_10 := by rw [ef_10]; exact x_up hI hwd (by decide) (cO_18 hwd.2 ⟨_, rfl⟩)
    have hP : va_P (dC, dI) vwCl (va_pl z.1 f_10) H := by rw [ef_10]; exact hP
    have hD : va_D A (va_pl z.1 f_10) := by rw [ef_10]; exact hD
    have hs_11 : f_10 a0 = .inr (9, [.int nu, .int kd, .ref pa, .int cn, .ref fa, .int lz, .ref wd, .int co, .ref nm]) := by rw [ef_10, up_o (tg_ne ha0 hwd (by decide))]; exact hs
    have hs_12 : f_10 a0 = .inr (9, [.int nu, .int kd, .ref pa, .int cn, .ref fa, .int lz, .ref wd, .int co, .ref nm]) := by rw [ef_10, up_o (tg_ne ha0 hwd (by decide))]; exact hs
    refine lv_aload_n hx hb dX10_takeIn_21 rfl (lv_at hl 0 rfl) ?_
    refine lv_dup hx hb dX10_takeIn_22 rfl ?_
    obtain ⟨kk_13, hk_14⟩ := pl_at ha0.1 hs_12
    refine va_get (D := (dC, dI)) (ci := 9) (v := .int co) (C := RX10) (T := TX10) (N := 9) hx hb hts (by decide +kernel) hown hK hP kk_13 hk_14 rfl 7 (by decide) (hts (.fieldLink RX10 15 "PageOne$Story" "come" "I") (by decide +kernel)) (fun _ h9 => h9) rfl dX10_takeIn_23 ?_
    refine lv_iconst (v := 1) hx hb dX10_takeIn_26 (by decide) ?_
    refine lv_iadd hx hb dX10_takeIn_27 ?_
    refine lv_topi (fun x_15 ex_15 => ?_)
    obtain ⟨kk_16, hk_17⟩ := pl_at ha0.1 hs_12
    have hD0 := hD
    refine va_put (D := (dC, dI)) (ci := 9) (v := .int x_15) (ty := .int) (C := RX10) (T := TX10) (N := 9) hx hb hts (by decide +kernel) tyX10 tyX10_ok nmX10 hown hK hP hD hS kk_16 hk_17 rfl 7 (by decide) (hts (.fieldLink RX10 15 "PageOne$Story" "come" "I") (by decide +kernel)) (fun _ h9 => h9) rfl (by decide +kernel) rfl rfl (Nat.le_of_ble_eq_true rfl) dX10_takeIn_28 (fun H locs hP hD hS => ?_)
    rw [pl_set hD0 ha0.1 hs_12 hk_17] at hP hD
    obtain ⟨f_18, ef_18⟩ : ∃ y : xF, y = va_up f_10 a0 (.inr (9, [.int nu, .int kd, .ref pa, .int cn, .ref fa, .int lz, .ref wd, .int x_15, .ref nm])) := ⟨_, rfl⟩
    have hI : xI q h0 d k z f_18 := by rw [ef_18]; exact x_upStory hI ha0 hs_12 hwd hnm (by rw [ex_15]; exact (vltn (n := 80) hco c_3 rfl (by decide)).2)
    have hP : va_P (dC, dI) vwCl (va_pl z.1 f_18) H := by rw [ef_18]; exact hP
    have hD : va_D A (va_pl z.1 f_18) := by rw [ef_18]; exact hD
    have hs_19 : f_18 a0 = .inr (9, [.int nu, .int kd, .ref pa, .int cn, .ref fa, .int lz, .ref wd, .int x_15, .ref nm]) := by rw [ef_18]; exact up_s
    refine lv_aload_n hx hb dX10_takeIn_31 rfl (lv_at hl 0 rfl) ?_
    obtain ⟨kk_20, hk_21⟩ := pl_at ha0.1 hs_19
    refine va_get (D := (dC, dI)) (ci := 9) (v := .int x_15) (C := RX10) (T := TX10) (N := 9) hx hb hts (by decide +kernel) hown hK hP kk_20 hk_21 rfl 7 (by decide) (hts (.fieldLink RX10 15 "PageOne$Story" "come" "I") (by decide +kernel)) (fun _ h9 => h9) rfl dX10_takeIn_32 ?_
    exact W.iret (v := x_15) hx hb hr (fun t ht hW => ⟨⟨x_15, (k, z, f_18), rfl, ⟨rfl, rfl, hI, (by rw [ex_15]; unfold s_takeIn; rw [if_pos c_3]), (by show f_18 = _; rw [ef_18, ef_10, ex_15]; unfold s_takeIn_f; rw [if_pos c_3])⟩, by rw [ht]; exact hP, hD⟩, hS.F ht⟩) hS.2.2 dX10_takeIn_35
  ·
    refine lv_iconst (v := (-1)) hx hb dX10_takeIn_9 (by decide) ?_
    exact W.iret (v := (-1)) hx hb hr (fun t ht hW => ⟨⟨(-1), (k, z, f), rfl, ⟨rfl, rfl, hI, (by unfold s_takeIn; rw [if_neg c_3]), (by show f = _; unfold s_takeIn_f; rw [if_neg c_3])⟩, by rw [ht]; exact hP, hD⟩, hS.F ht⟩) hS.2.2 dX10_takeIn_10
noncomputable def s_takeSize (p0 p1 sn : Int32) : Int32 := if sn < 4 then (sn + 1) else (-1)
noncomputable def s_takeSize_f (q : Nat → ClassId) (f : xF) (a0 pa fa ww hh : Nat) (p0 p1 nu kd cn sn : Int32) (gw gh : Nat → Int32) : xF := if sn < 4 then (va_up (va_up (va_up f ww (aI (q 0) 4 (upd gw (sn : Int32).toNatClampNeg p0))) hh (aI (q 0) 4 (upd gh (sn : Int32).toNatClampNeg p1))) a0 (.inr (6, [.int nu, .int kd, .ref pa, .int cn, .ref fa, .ref ww, .ref hh, .int (sn + 1)]))) else f
set_option maxHeartbeats 4000000 in
set_option maxRecDepth 100000 in
theorem y_takeSize (l : Launch) (dC : Nat → ClassId) (dI : Nat → Nat → Nat) (q : Nat → ClassId) (h0 : Nat) (d : Nat → Nat) (k : Nat → Int32) (z : gS) (f : xF) (hI : xI q h0 d k z f) (a0 pa fa ww hh : Nat) (nu kd cn sn : Int32) (ha0 : tg z a0 14) (hs : f a0 = .inr (6, [.int nu, .int kd, .ref pa, .int cn, .ref fa, .ref ww, .ref hh, .int sn])) (p0 p1 : Int32) (gw gh : Nat → Int32) (hww : tg z ww 20) (hwg : f ww = aI (q 0) 4 gw) (hhh : tg z hh 20) (hhg : f hh = aI (q 0) 4 gh) (hpa : tg z pa 16) (hfa : tg z fa 17) (hz4 : bw sn 0 4 = true) (hwh : ww ≠ hh) (sz : Nat) : Met l yX7_takeSize wsX7_takeSize ({ frames := 0, cells := 0, slots := 0, locals := 0 }) (va_Pc [.ref a0, .int p0, .int p1] (fun U => U.heap.size = sz ∧ PX dC dI (va_pl z.1 f) (xT q) U ∧ va_D (fun _ => True) (va_pl z.1 f))) (va_Qi (fun (r : Int32) (w : xU) => w.1 = k ∧ w.2.1 = z ∧ xI q h0 d k z w.2.2 ∧ r = s_takeSize p0 p1 sn ∧ w.2.2 = s_takeSize_f q f a0 pa fa ww hh p0 p1 nu kd cn sn gw gh) (fun (w : xU) t => va_P (dC, dI) vwCl (va_pl w.2.1.1 w.2.2) t.heap ∧ va_D (va_A (va_pl z.1 f) sz) (va_pl w.2.1.1 w.2.2)) (va_A (va_pl z.1 f) sz)) 0 0 (va_A (va_pl z.1 f) sz) := by
  refine Met.ofW (cc := cX7_takeSize) (maxL := 3) (ret := (some .int)) (by decide) rfl ?_
  intro p e s m args below meth c s₁ B hml hv
  obtain ⟨rfl, hsz, ⟨⟨hP, hK, hN⟩, hXN⟩, hD0⟩ := hv
  have hx := B.exec
  have hb := B.bytes
  have hr := B.returns
  have hts := atoms_spec (ws := wsX7_takeSize) B.pre
  have hown : s.vm.findClass RX7 = some m.cls := findClass_of_methodNamed B.named
  have hlocks := B.notSynchronized
  subst hsz
  have hD := hD0.self (sz := s.heap.size)
  generalize hAe : va_A (va_pl z.1 f) s.heap.size = A at hD ⊢
  have hA : ∀ q : Nat, s.heap.size ≤ q → A q := fun q h => by rw [← hAe]; exact Or.inr h
  have hS : va_S A s.heap s.heap [] := va_S.rf
  have hl := lv_entry ([.ref a0, .int p0, .int p1]) (n := 3) (Nat.le_of_ble_eq_true rfl)
  rw [lg_entry_eq]
  generalize (lg_sl ([.ref a0, .int p0, .int p1]) ++ List.replicate (3 - (lg_sl ([.ref a0, .int p0, .int p1])).length) Slot.unset).toArray = ls at hl ⊢
  have hl : lv_has ls 3 [(0, .ref a0), (1, .int p0), (2, .int p1)] := hl
  refine lv_aload_n hx hb dX7_takeSize_0 rfl (lv_at hl 0 rfl) ?_
  obtain ⟨kk_1, hk_2⟩ := pl_at ha0.1 hs
  refine va_get (D := (dC, dI)) (ci := 6) (v := .int sn) (C := RX7) (T := TX7) (N := 8) hx hb hts (by decide +kernel) hown hK hP kk_1 hk_2 rfl 7 (by decide) (hts (.fieldLink RX7 18 "PageOne$Picture" "sizes" "I") (by decide +kernel)) (fun _ h9 => h9) rfl dX7_takeSize_1 ?_
  refine lv_iconst (v := 4) hx hb dX7_takeSize_4 (by decide) ?_
  refine lv_icmp_lt (tgt := 10) hx hb dX7_takeSize_5 (by decide) (fun c_3 => ?_) (fun c_3 => ?_)
  ·
    refine lv_aload_n hx hb dX7_takeSize_10 rfl (lv_at hl 0 rfl) ?_
    obtain ⟨kk_4, hk_5⟩ := pl_at ha0.1 hs
    refine va_get (D := (dC, dI)) (ci := 6) (v := .ref ww) (C := RX7) (T := TX7) (N := 8) hx hb hts (by decide +kernel) hown hK hP kk_4 hk_5 rfl 5 (by decide) (hts (.fieldLink RX7 9 "PageOne$Picture" "widths" "[I") (by decide +kernel)) (fun _ h9 => h9) rfl dX7_takeSize_11 ?_
    refine lv_aload_n hx hb dX7_takeSize_14 rfl (lv_at hl 0 rfl) ?_
    obtain ⟨kk_6, hk_7⟩ := pl_at ha0.1 hs
    refine va_get (D := (dC, dI)) (ci := 6) (v := .int sn) (C := RX7) (T := TX7) (N := 8) hx hb hts (by decide +kernel) hown hK hP kk_6 hk_7 rfl 7 (by decide) (hts (.fieldLink RX7 18 "PageOne$Picture" "sizes" "I") (by decide +kernel)) (fun _ h9 => h9) rfl dX7_takeSize_15 ?_
    refine lv_iload_n hx hb dX7_takeSize_18 rfl (lv_at hl 1 rfl) ?_
    obtain ⟨kk_8, hk_9⟩ := pl_at hww.1 hwg
    have hD0 := hD
    refine va_iast hx hb hK hP hD hS kk_8 0 hk_9 rfl (vltn (n := 4) hz4 c_3 rfl (by decide)).1 dX7_takeSize_19 (fun H locs hP hD hS => ?_)
    rw [pl_set hD0 hww.1 hwg hk_9] at hP hD
    obtain ⟨f_10, ef_10⟩ : ∃ y : xF, y = va_up f ww (aI (q 0) 4 (upd gw (sn : Int32).toNatClampNeg p0)) := ⟨_, rfl⟩
    have hI : xI q h0 d k z f_10 := by rw [ef_10]; exact x_up hI hww (by decide) (cO_20 hww.2 ⟨_, rfl⟩)
    have hP : va_P (dC, dI) vwCl (va_pl z.1 f_10) H := by rw [ef_10]; exact hP
    have hD : va_D A (va_pl z.1 f_10) := by rw [ef_10]; exact hD
    have hs_11 : f_10 a0 = .inr (6, [.int nu, .int kd, .ref pa, .int cn, .ref fa, .ref ww, .ref hh, .int sn]) := by rw [ef_10, up_o (tg_ne ha0 hww (by decide))]; exact hs
    have hs_12 : f_10 a0 = .inr (6, [.int nu, .int kd, .ref pa, .int cn, .ref fa, .ref ww, .ref hh, .int sn]) := by rw [ef_10, up_o (tg_ne ha0 hww (by decide))]; exact hs
    have hs_13 : f_10 hh = aI (q 0) 4 gh := by rw [ef_10, up_o (fun e => hwh e.symm)]; exact hhg
    refine lv_aload_n hx hb dX7_takeSize_20 rfl (lv_at hl 0 rfl) ?_
    obtain ⟨kk_14, hk_15⟩ := pl_at ha0.1 hs_12
    refine va_get (D := (dC, dI)) (ci := 6) (v := .ref hh) (C := RX7) (T := TX7) (N := 8) hx hb hts (by decide +kernel) hown hK hP kk_14 hk_15 rfl 6 (by decide) (hts (.fieldLink RX7 15 "PageOne$Picture" "heights" "[I") (by decide +kernel)) (fun _ h9 => h9) rfl dX7_takeSize_21 ?_
    refine lv_aload_n hx hb dX7_takeSize_24 rfl (lv_at hl 0 rfl) ?_
    obtain ⟨kk_16, hk_17⟩ := pl_at ha0.1 hs_12
    refine va_get (D := (dC, dI)) (ci := 6) (v := .int sn) (C := RX7) (T := TX7) (N := 8) hx hb hts (by decide +kernel) hown hK hP kk_16 hk_17 rfl 7 (by decide) (hts (.fieldLink RX7 18 "PageOne$Picture" "sizes" "I") (by decide +kernel)) (fun _ h9 => h9) rfl dX7_takeSize_25 ?_
    refine lv_iload_n hx hb dX7_takeSize_28 rfl (lv_at hl 2 rfl) ?_
    obtain ⟨kk_18, hk_19⟩ := pl_at hhh.1 hs_13
    have hD0 := hD
    refine va_iast hx hb hK hP hD hS kk_18 0 hk_19 rfl (vltn (n := 4) hz4 c_3 rfl (by decide)).1 dX7_takeSize_29 (fun H locs hP hD hS => ?_)
    rw [pl_set hD0 hhh.1 hs_13 hk_19] at hP hD
    obtain ⟨f_20, ef_20⟩ : ∃ y : xF, y = va_up f_10 hh (aI (q 0) 4 (upd gh (sn : Int32).toNatClampNeg p1)) := ⟨_, rfl⟩
    have hI : xI q h0 d k z f_20 := by rw [ef_20]; exact x_up hI hhh (by decide) (cO_20 hhh.2 ⟨_, rfl⟩)
    have hP : va_P (dC, dI) vwCl (va_pl z.1 f_20) H := by rw [ef_20]; exact hP
    have hD : va_D A (va_pl z.1 f_20) := by rw [ef_20]; exact hD
    have hs_21 : f_20 a0 = .inr (6, [.int nu, .int kd, .ref pa, .int cn, .ref fa, .ref ww, .ref hh, .int sn]) := by rw [ef_20, up_o (tg_ne ha0 hhh (by decide))]; exact hs_12
    have hs_22 : f_20 a0 = .inr (6, [.int nu, .int kd, .ref pa, .int cn, .ref fa, .ref ww, .ref hh, .int sn]) := by rw [ef_20, up_o (tg_ne ha0 hhh (by decide))]; exact hs_12
    refine lv_aload_n hx hb dX7_takeSize_30 rfl (lv_at hl 0 rfl) ?_
    refine lv_dup hx hb dX7_takeSize_31 rfl ?_
    obtain ⟨kk_23, hk_24⟩ := pl_at ha0.1 hs_22
    refine va_get (D := (dC, dI)) (ci := 6) (v := .int sn) (C := RX7) (T := TX7) (N := 8) hx hb hts (by decide +kernel) hown hK hP kk_23 hk_24 rfl 7 (by decide) (hts (.fieldLink RX7 18 "PageOne$Picture" "sizes" "I") (by decide +kernel)) (fun _ h9 => h9) rfl dX7_takeSize_32 ?_
    refine lv_iconst (v := 1) hx hb dX7_takeSize_35 (by decide) ?_
    refine lv_iadd hx hb dX7_takeSize_36 ?_
    refine lv_topi (fun x_25 ex_25 => ?_)
    obtain ⟨kk_26, hk_27⟩ := pl_at ha0.1 hs_22
    have hD0 := hD
    refine va_put (D := (dC, dI)) (ci := 6) (v := .int x_25) (ty := .int) (C := RX7) (T := TX7) (N := 8) hx hb hts (by decide +kernel) tyX7 tyX7_ok nmX7 hown hK hP hD hS kk_26 hk_27 rfl 7 (by decide) (hts (.fieldLink RX7 18 "PageOne$Picture" "sizes" "I") (by decide +kernel)) (fun _ h9 => h9) rfl (by decide +kernel) rfl rfl (Nat.le_of_ble_eq_true rfl) dX7_takeSize_37 (fun H locs hP hD hS => ?_)
    rw [pl_set hD0 ha0.1 hs_22 hk_27] at hP hD
    obtain ⟨f_28, ef_28⟩ : ∃ y : xF, y = va_up f_20 a0 (.inr (6, [.int nu, .int kd, .ref pa, .int cn, .ref fa, .ref ww, .ref hh, .int x_25])) := ⟨_, rfl⟩
    have hI : xI q h0 d k z f_28 := by rw [ef_28]; exact x_upPict hI ha0 hs_22 hww hhh (by rw [ex_25]; exact (vltn (n := 4) hz4 c_3 rfl (by decide)).2)
    have hP : va_P (dC, dI) vwCl (va_pl z.1 f_28) H := by rw [ef_28]; exact hP
    have hD : va_D A (va_pl z.1 f_28) := by rw [ef_28]; exact hD
    have hs_29 : f_28 a0 = .inr (6, [.int nu, .int kd, .ref pa, .int cn, .ref fa, .ref ww, .ref hh, .int x_25]) := by rw [ef_28]; exact up_s
    refine lv_aload_n hx hb dX7_takeSize_40 rfl (lv_at hl 0 rfl) ?_
    obtain ⟨kk_30, hk_31⟩ := pl_at ha0.1 hs_29
    refine va_get (D := (dC, dI)) (ci := 6) (v := .int x_25) (C := RX7) (T := TX7) (N := 8) hx hb hts (by decide +kernel) hown hK hP kk_30 hk_31 rfl 7 (by decide) (hts (.fieldLink RX7 18 "PageOne$Picture" "sizes" "I") (by decide +kernel)) (fun _ h9 => h9) rfl dX7_takeSize_41 ?_
    exact W.iret (v := x_25) hx hb hr (fun t ht hW => ⟨⟨x_25, (k, z, f_28), rfl, ⟨rfl, rfl, hI, (by rw [ex_25]; unfold s_takeSize; rw [if_pos c_3]), (by show f_28 = _; rw [ef_28, ef_20, ef_10, ex_25]; unfold s_takeSize_f; rw [if_pos c_3])⟩, by rw [ht]; exact hP, hD⟩, hS.F ht⟩) hS.2.2 dX7_takeSize_44
  ·
    refine lv_iconst (v := (-1)) hx hb dX7_takeSize_8 (by decide) ?_
    exact W.iret (v := (-1)) hx hb hr (fun t ht hW => ⟨⟨(-1), (k, z, f), rfl, ⟨rfl, rfl, hI, (by unfold s_takeSize; rw [if_neg c_3]), (by show f = _; unfold s_takeSize_f; rw [if_neg c_3])⟩, by rw [ht]; exact hP, hD⟩, hS.F ht⟩) hS.2.2 dX7_takeSize_9
