theorem itm_ne {z : gS} {a b t : Nat} (ha : itm z a) (hb : tg z b t) (h : ¬ (10 ≤ t ∧ t ≤ 15)) : a ≠ b := fun e => by have := ha.2; rw [e, hb.2] at this; exact h this
theorem bP_n {P : Prop} (h : ¬ bP P = 0) : P := Classical.byContradiction (fun hn => h (bP_f hn))
theorem roomN {cn : Int32} {n : Nat} (h : cn < nI n) : ¬ nI n ≤ cn := fun h2 => by rw [i32_le] at h2; rw [i32_lt] at h; omega
noncomputable def s_gain_f (q : Nat → ClassId) (z : gS) (f : xF) (a0 pa fa b0 n : Nat) (nu kd cn : Int32) (rs : List Value) (g : Nat → Option Nat) : xF := if (bP (cn < nI n)) = 0 then f else (va_up (va_up f pa (aR (q 5) n (va_up g (cn : Int32).toNatClampNeg (some b0)))) a0 (.inr (ciT (z.2 a0).1, itF nu kd pa (cn + 1) fa rs)))
set_option maxHeartbeats 4000000 in
set_option maxRecDepth 100000 in
theorem y_gain (l : Launch) (dC : Nat → ClassId) (dI : Nat → Nat → Nat) (q : Nat → ClassId) (h0 : Nat) (d : Nat → Nat) (k : Nat → Int32) (z : gS) (f : xF) (hI : xI q h0 d k z f) (a0 : Nat) (ha0 : itm z a0) (nu kd cn : Int32) (pa fa : Nat) (rs : List Value) (hs : f a0 = .inr (ciT (z.2 a0).1, itF nu kd pa cn fa rs)) (n : Nat) (g : Nat → Option Nat) (hpa : tg z pa 16) (hps : f pa = aR (q 5) n g) (h1 : 1 ≤ n) (h6 : n ≤ 6) (hcb : bw cn 0 (nI n) = true) (hnn : ∀ j, j < cn.toNatClampNeg → ∃ b, g j = some b) (hlg : ∀ j, j < n → ∀ b, g j = some b → lgP z b) (b0 : Nat) (hb0 : lgP z b0) (sz : Nat) : Met l yX4_gain wsX4_gain ({ frames := 1, cells := 0, slots := 0, locals := 20 }) (va_Pc [.ref a0, .ref b0] (fun U => U.heap.size = sz ∧ PX dC dI (va_pl z.1 f) (xT q) U ∧ va_D (fun _ => True) (va_pl z.1 f))) (va_Qv (fun (w : xU) => w.1 = k ∧ w.2.1 = z ∧ xI q h0 d k z w.2.2 ∧ w.2.2 = s_gain_f q z f a0 pa fa b0 n nu kd cn rs g) (fun (w : xU) t => va_P (dC, dI) vwCl (va_pl w.2.1.1 w.2.2) t.heap ∧ va_D (va_A (va_pl z.1 f) sz) (va_pl w.2.1.1 w.2.2)) (va_A (va_pl z.1 f) sz)) 0 0 (va_A (va_pl z.1 f) sz) := by
  refine Met.ofW (cc := cX4_gain) (maxL := 2) (ret := none) (by decide) rfl ?_
  intro p e s m args below meth c s₁ B hml hv
  obtain ⟨rfl, hsz, ⟨⟨hP, hK, hN⟩, hXN⟩, hD0⟩ := hv
  have hx := B.exec
  have hb := B.bytes
  have hr := B.returns
  have hts := atoms_spec (ws := wsX4_gain) B.pre
  have hown : s.vm.findClass RX4 = some m.cls := findClass_of_methodNamed B.named
  have hlocks := B.notSynchronized
  subst hsz
  have hD := hD0.self (sz := s.heap.size)
  generalize hAe : va_A (va_pl z.1 f) s.heap.size = A at hD ⊢
  have hA : ∀ q : Nat, s.heap.size ≤ q → A q := fun q h => by rw [← hAe]; exact Or.inr h
  have hS : va_S A s.heap s.heap [] := va_S.rf
  have hl := lv_entry ([.ref a0, .ref b0]) (n := 2) (Nat.le_of_ble_eq_true rfl)
  rw [lg_entry_eq]
  generalize (lg_sl ([.ref a0, .ref b0]) ++ List.replicate (2 - (lg_sl ([.ref a0, .ref b0])).length) Slot.unset).toArray = ls at hl ⊢
  have hl : lv_has ls 2 [(0, .ref a0), (1, .ref b0)] := hl
  refine lv_aload_n hx hb dX4_gain_0 rfl (lv_at hl 0 rfl) ?_
  refine w_cut (X := fun R cells slots Q args => ∀ r : Int32, (r = (bP (cn < nI n))) → W p l e R s m args below meth c s.heap [] cells slots Q (F0 m 4 ls (.int r :: []))) ?_ (fun kC => ?_)
  ·
    intro r hw
    obtain rfl : r = (bP (cn < nI n)) := hw
    refine lv_if_eq (tgt := 27) hx hb dX4_gain_4 (by decide) (fun c_96 => ?_) (fun c_96 => ?_)
    ·
      exact W.vret hx hb hr (fun t ht hW => ⟨⟨(k, z, f), rfl, ⟨rfl, rfl, hI, (by show f = _; unfold s_gain_f; rw [if_pos c_96])⟩, by rw [ht]; exact hP, hD⟩, hS.F ht⟩) hS.2.2 dX4_gain_27
    ·
      refine lv_aload_n hx hb dX4_gain_7 rfl (lv_at hl 0 rfl) ?_
      obtain ⟨kk_97, hk_98⟩ := pl_at ha0.1 hs
      refine w_then (F0 m 11 ls [.ref pa]) (fun hgo => ?_) ?_
      ·
        rcases x_tag ha0 with ht9 | ht9 | ht9 | ht9 | ht9 | ht9
        ·
          rw [ht9.2] at hk_98
          exact va_get (D := (dC, dI)) (ci := 2) (v := .ref pa) (C := RX2) (T := TX2) (N := 7) hx hb hts (by decide +kernel) hown hK hP kk_97 hk_98 rfl 2 (by decide) (hts (.fieldLink RX4 31 "PageOne$Item" "pieces" "[LPageOne$Piece;") (by decide +kernel)) (fun _ h9 => h9) rfl dX4_gain_8 hgo
        ·
          rw [ht9.2] at hk_98
          exact va_get (D := (dC, dI)) (ci := 3) (v := .ref pa) (C := RX3) (T := TX3) (N := 8) hx hb hts (by decide +kernel) hown hK hP kk_97 hk_98 rfl 2 (by decide) (hts (.fieldLink RX4 31 "PageOne$Item" "pieces" "[LPageOne$Piece;") (by decide +kernel)) (fun _ h9 => h9) rfl dX4_gain_8 hgo
        ·
          rw [ht9.2] at hk_98
          exact va_get (D := (dC, dI)) (ci := 4) (v := .ref pa) (C := RX5) (T := TX5) (N := 7) hx hb hts (by decide +kernel) hown hK hP kk_97 hk_98 rfl 2 (by decide) (hts (.fieldLink RX4 31 "PageOne$Item" "pieces" "[LPageOne$Piece;") (by decide +kernel)) (fun _ h9 => h9) rfl dX4_gain_8 hgo
        ·
          rw [ht9.2] at hk_98
          exact va_get (D := (dC, dI)) (ci := 5) (v := .ref pa) (C := RX6) (T := TX6) (N := 9) hx hb hts (by decide +kernel) hown hK hP kk_97 hk_98 rfl 2 (by decide) (hts (.fieldLink RX4 31 "PageOne$Item" "pieces" "[LPageOne$Piece;") (by decide +kernel)) (fun _ h9 => h9) rfl dX4_gain_8 hgo
        ·
          rw [ht9.2] at hk_98
          exact va_get (D := (dC, dI)) (ci := 6) (v := .ref pa) (C := RX7) (T := TX7) (N := 8) hx hb hts (by decide +kernel) hown hK hP kk_97 hk_98 rfl 2 (by decide) (hts (.fieldLink RX4 31 "PageOne$Item" "pieces" "[LPageOne$Piece;") (by decide +kernel)) (fun _ h9 => h9) rfl dX4_gain_8 hgo
        ·
          rw [ht9.2] at hk_98
          exact va_get (D := (dC, dI)) (ci := 9) (v := .ref pa) (C := RX10) (T := TX10) (N := 9) hx hb hts (by decide +kernel) hown hK hP kk_97 hk_98 rfl 2 (by decide) (hts (.fieldLink RX4 31 "PageOne$Item" "pieces" "[LPageOne$Piece;") (by decide +kernel)) (fun _ h9 => h9) rfl dX4_gain_8 hgo
      ·
        refine lv_aload_n hx hb dX4_gain_11 rfl (lv_at hl 0 rfl) ?_
        obtain ⟨kk_99, hk_100⟩ := pl_at ha0.1 hs
        refine w_then (F0 m 15 ls [.int cn, .ref pa]) (fun hgo => ?_) ?_
        ·
          rcases x_tag ha0 with ht9 | ht9 | ht9 | ht9 | ht9 | ht9
          ·
            rw [ht9.2] at hk_100
            exact va_get (D := (dC, dI)) (ci := 2) (v := .int cn) (C := RX2) (T := TX2) (N := 7) hx hb hts (by decide +kernel) hown hK hP kk_99 hk_100 rfl 3 (by decide) (hts (.fieldLink RX4 9 "PageOne$Item" "count" "I") (by decide +kernel)) (fun _ h9 => h9) rfl dX4_gain_12 hgo
          ·
            rw [ht9.2] at hk_100
            exact va_get (D := (dC, dI)) (ci := 3) (v := .int cn) (C := RX3) (T := TX3) (N := 8) hx hb hts (by decide +kernel) hown hK hP kk_99 hk_100 rfl 3 (by decide) (hts (.fieldLink RX4 9 "PageOne$Item" "count" "I") (by decide +kernel)) (fun _ h9 => h9) rfl dX4_gain_12 hgo
          ·
            rw [ht9.2] at hk_100
            exact va_get (D := (dC, dI)) (ci := 4) (v := .int cn) (C := RX5) (T := TX5) (N := 7) hx hb hts (by decide +kernel) hown hK hP kk_99 hk_100 rfl 3 (by decide) (hts (.fieldLink RX4 9 "PageOne$Item" "count" "I") (by decide +kernel)) (fun _ h9 => h9) rfl dX4_gain_12 hgo
          ·
            rw [ht9.2] at hk_100
            exact va_get (D := (dC, dI)) (ci := 5) (v := .int cn) (C := RX6) (T := TX6) (N := 9) hx hb hts (by decide +kernel) hown hK hP kk_99 hk_100 rfl 3 (by decide) (hts (.fieldLink RX4 9 "PageOne$Item" "count" "I") (by decide +kernel)) (fun _ h9 => h9) rfl dX4_gain_12 hgo
          ·
            rw [ht9.2] at hk_100
            exact va_get (D := (dC, dI)) (ci := 6) (v := .int cn) (C := RX7) (T := TX7) (N := 8) hx hb hts (by decide +kernel) hown hK hP kk_99 hk_100 rfl 3 (by decide) (hts (.fieldLink RX4 9 "PageOne$Item" "count" "I") (by decide +kernel)) (fun _ h9 => h9) rfl dX4_gain_12 hgo
          ·
            rw [ht9.2] at hk_100
            exact va_get (D := (dC, dI)) (ci := 9) (v := .int cn) (C := RX10) (T := TX10) (N := 9) hx hb hts (by decide +kernel) hown hK hP kk_99 hk_100 rfl 3 (by decide) (hts (.fieldLink RX4 9 "PageOne$Item" "count" "I") (by decide +kernel)) (fun _ h9 => h9) rfl dX4_gain_12 hgo
        ·
          refine lv_aload_n hx hb dX4_gain_15 rfl (lv_at hl 1 rfl) ?_
          obtain ⟨kk_101, hk_102⟩ := pl_at hpa.1 hps
          have hcp := hb0
          obtain ⟨it_103, P_104, X_105, Y_106, D_107, N_108, hp_109, hb_110, hb_111, hb_112, hb_113⟩ := hcp
          obtain ⟨kk_114, hk_115⟩ := pl_at hp_109.1.1 (x_pcF hI hp_109)
          have hD0 := hD
          refine va_astq hx hb hK hP hD hS kk_101 5 kk_114 7 hk_102 rfl hk_115 rfl (vcn h6 hcb (roomN (bP_n c_96))) dX4_gain_16 (fun H locs hP hD hS => ?_)
          rw [pl_set hD0 hpa.1 hps hk_102] at hP hD
          obtain ⟨f_116, ef_116⟩ : ∃ y : xF, y = va_up f pa (aR (q 5) n (va_up g (cn : Int32).toNatClampNeg (some b0))) := ⟨_, rfl⟩
          have hI : xI q h0 d k z f_116 := by rw [ef_116]; exact x_upP hI ha0 hs hps (x_pan hI ha0 hpa) hcb (nn_up hnn (Nat.le_refl _)) (ty_up hlg (ty_s hb0))
          have hP : va_P (dC, dI) vwCl (va_pl z.1 f_116) H := by rw [ef_116]; exact hP
          have hD : va_D A (va_pl z.1 f_116) := by rw [ef_116]; exact hD
          have hs_117 : f_116 a0 = .inr (ciT (z.2 a0).1, itF nu kd pa cn fa rs) := by rw [ef_116, up_o (itm_ne ha0 hpa (by decide))]; exact hs
          have hs_118 : f_116 pa = aR (q 5) n (va_up g (cn : Int32).toNatClampNeg (some b0)) := by rw [ef_116]; exact up_s
          have hs_119 : f_116 a0 = .inr (ciT (z.2 a0).1, itF nu kd pa cn fa rs) := by rw [ef_116, up_o (fun e => (x_pan hI ha0 hpa) e.symm)]; exact hs
          refine lv_aload_n hx hb dX4_gain_17 rfl (lv_at hl 0 rfl) ?_
          refine lv_dup hx hb dX4_gain_18 rfl ?_
          obtain ⟨kk_120, hk_121⟩ := pl_at ha0.1 hs_119
          refine w_then (F0 m 22 ls [.int cn, .ref a0]) (fun hgo => ?_) ?_
          ·
            rcases x_tag ha0 with ht9 | ht9 | ht9 | ht9 | ht9 | ht9
            ·
              rw [ht9.2] at hk_121
              exact va_get (D := (dC, dI)) (ci := 2) (v := .int cn) (C := RX2) (T := TX2) (N := 7) hx hb hts (by decide +kernel) hown hK hP kk_120 hk_121 rfl 3 (by decide) (hts (.fieldLink RX4 9 "PageOne$Item" "count" "I") (by decide +kernel)) (fun _ h9 => h9) rfl dX4_gain_19 hgo
            ·
              rw [ht9.2] at hk_121
              exact va_get (D := (dC, dI)) (ci := 3) (v := .int cn) (C := RX3) (T := TX3) (N := 8) hx hb hts (by decide +kernel) hown hK hP kk_120 hk_121 rfl 3 (by decide) (hts (.fieldLink RX4 9 "PageOne$Item" "count" "I") (by decide +kernel)) (fun _ h9 => h9) rfl dX4_gain_19 hgo
            ·
              rw [ht9.2] at hk_121
              exact va_get (D := (dC, dI)) (ci := 4) (v := .int cn) (C := RX5) (T := TX5) (N := 7) hx hb hts (by decide +kernel) hown hK hP kk_120 hk_121 rfl 3 (by decide) (hts (.fieldLink RX4 9 "PageOne$Item" "count" "I") (by decide +kernel)) (fun _ h9 => h9) rfl dX4_gain_19 hgo
            ·
              rw [ht9.2] at hk_121
              exact va_get (D := (dC, dI)) (ci := 5) (v := .int cn) (C := RX6) (T := TX6) (N := 9) hx hb hts (by decide +kernel) hown hK hP kk_120 hk_121 rfl 3 (by decide) (hts (.fieldLink RX4 9 "PageOne$Item" "count" "I") (by decide +kernel)) (fun _ h9 => h9) rfl dX4_gain_19 hgo
            ·
              rw [ht9.2] at hk_121
              exact va_get (D := (dC, dI)) (ci := 6) (v := .int cn) (C := RX7) (T := TX7) (N := 8) hx hb hts (by decide +kernel) hown hK hP kk_120 hk_121 rfl 3 (by decide) (hts (.fieldLink RX4 9 "PageOne$Item" "count" "I") (by decide +kernel)) (fun _ h9 => h9) rfl dX4_gain_19 hgo
            ·
              rw [ht9.2] at hk_121
              exact va_get (D := (dC, dI)) (ci := 9) (v := .int cn) (C := RX10) (T := TX10) (N := 9) hx hb hts (by decide +kernel) hown hK hP kk_120 hk_121 rfl 3 (by decide) (hts (.fieldLink RX4 9 "PageOne$Item" "count" "I") (by decide +kernel)) (fun _ h9 => h9) rfl dX4_gain_19 hgo
          ·
            refine lv_iconst (v := 1) hx hb dX4_gain_22 (by decide) ?_
            refine lv_iadd hx hb dX4_gain_23 ?_
            refine lv_topi (fun x_122 ex_122 => ?_)
            obtain ⟨kk_123, hk_124⟩ := pl_at ha0.1 hs_119
            have hD0 := hD
            refine w_cut (X := fun R cells slots Q args => ∀ (H : Heap) (locs : List Loc), va_P (dC, dI) vwCl (va_pl z.1 (va_up f_116 a0 (.inr (ciT (z.2 a0).1, itF nu kd pa x_122 fa rs)))) H → va_D A (va_pl z.1 (va_up f_116 a0 (.inr (ciT (z.2 a0).1, itF nu kd pa x_122 fa rs)))) → va_S A s.heap H locs → W p l e R s m args below meth c H locs cells slots Q (F0 m 27 ls [])) ?_ (fun kC => ?_)
            ·
              intro H locs hP hD hS
              obtain ⟨f_125, ef_125⟩ : ∃ y : xF, y = va_up f_116 a0 (.inr (ciT (z.2 a0).1, itF nu kd pa x_122 fa rs)) := ⟨_, rfl⟩
              have hI : xI q h0 d k z f_125 := by rw [ef_125]; exact x_upC hI ha0 hs_119 hs_118 (bcn1 h6 hcb (roomN (bP_n c_96)) ex_122).1 (by rw [(bcn1 h6 hcb (roomN (bP_n c_96)) ex_122).2]; exact nn_up1 hnn) (ty_up hlg (ty_s hb0))
              have hP : va_P (dC, dI) vwCl (va_pl z.1 f_125) H := by rw [ef_125]; exact hP
              have hD : va_D A (va_pl z.1 f_125) := by rw [ef_125]; exact hD
              have hff_125 : f_125 a0 = .inr (ciT (z.2 a0).1, itF nu kd pa x_122 fa rs) := by rw [ef_125]; exact up_s
              have hs_126 : f_125 pa = aR (q 5) n (va_up g (cn : Int32).toNatClampNeg (some b0)) := by rw [ef_125, up_o (x_pan hI ha0 hpa)]; exact hs_118
              exact W.vret hx hb hr (fun t ht hW => ⟨⟨(k, z, f_125), rfl, ⟨rfl, rfl, hI, (by show f_125 = _; rw [ef_125, ef_116, ex_122]; unfold s_gain_f; rw [if_neg c_96])⟩, by rw [ht]; exact hP, hD⟩, hS.F ht⟩) hS.2.2 dX4_gain_27
            ·
              have hk8 := hk_124
              rcases x_tag ha0 with ht9 | ht9 | ht9 | ht9 | ht9 | ht9
              ·
                rw [ht9.2] at hk_124
                refine va_put (D := (dC, dI)) (ci := 2) (v := .int x_122) (ty := .int) (C := RX2) (T := TX2) (N := 7) hx hb hts (by decide +kernel) tyX2 tyX2_ok nmX2 hown hK hP hD hS kk_123 hk_124 rfl 3 (by decide) (hts (.fieldLink RX4 9 "PageOne$Item" "count" "I") (by decide +kernel)) (fun _ h9 => h9) rfl (by decide +kernel) rfl rfl (by unfold itF; simp only [List.length_cons]; omega) dX4_gain_24 (fun H locs hP hD hS => kC H locs ?_ ?_ hS)
                · rw [← pl_set (e := .inr (ciT (z.2 a0).1, itF nu kd pa x_122 fa rs)) hD0 ha0.1 hs_119 hk8, ht9.2]; exact hP
                · rw [← pl_set (e := .inr (ciT (z.2 a0).1, itF nu kd pa x_122 fa rs)) hD0 ha0.1 hs_119 hk8, ht9.2]; exact hD
              ·
                rw [ht9.2] at hk_124
                refine va_put (D := (dC, dI)) (ci := 3) (v := .int x_122) (ty := .int) (C := RX3) (T := TX3) (N := 8) hx hb hts (by decide +kernel) tyX3 tyX3_ok nmX3 hown hK hP hD hS kk_123 hk_124 rfl 3 (by decide) (hts (.fieldLink RX4 9 "PageOne$Item" "count" "I") (by decide +kernel)) (fun _ h9 => h9) rfl (by decide +kernel) rfl rfl (by unfold itF; simp only [List.length_cons]; omega) dX4_gain_24 (fun H locs hP hD hS => kC H locs ?_ ?_ hS)
                · rw [← pl_set (e := .inr (ciT (z.2 a0).1, itF nu kd pa x_122 fa rs)) hD0 ha0.1 hs_119 hk8, ht9.2]; exact hP
                · rw [← pl_set (e := .inr (ciT (z.2 a0).1, itF nu kd pa x_122 fa rs)) hD0 ha0.1 hs_119 hk8, ht9.2]; exact hD
              ·
                rw [ht9.2] at hk_124
                refine va_put (D := (dC, dI)) (ci := 4) (v := .int x_122) (ty := .int) (C := RX5) (T := TX5) (N := 7) hx hb hts (by decide +kernel) tyX5 tyX5_ok nmX5 hown hK hP hD hS kk_123 hk_124 rfl 3 (by decide) (hts (.fieldLink RX4 9 "PageOne$Item" "count" "I") (by decide +kernel)) (fun _ h9 => h9) rfl (by decide +kernel) rfl rfl (by unfold itF; simp only [List.length_cons]; omega) dX4_gain_24 (fun H locs hP hD hS => kC H locs ?_ ?_ hS)
                · rw [← pl_set (e := .inr (ciT (z.2 a0).1, itF nu kd pa x_122 fa rs)) hD0 ha0.1 hs_119 hk8, ht9.2]; exact hP
                · rw [← pl_set (e := .inr (ciT (z.2 a0).1, itF nu kd pa x_122 fa rs)) hD0 ha0.1 hs_119 hk8, ht9.2]; exact hD
              ·
                rw [ht9.2] at hk_124
                refine va_put (D := (dC, dI)) (ci := 5) (v := .int x_122) (ty := .int) (C := RX6) (T := TX6) (N := 9) hx hb hts (by decide +kernel) tyX6 tyX6_ok nmX6 hown hK hP hD hS kk_123 hk_124 rfl 3 (by decide) (hts (.fieldLink RX4 9 "PageOne$Item" "count" "I") (by decide +kernel)) (fun _ h9 => h9) rfl (by decide +kernel) rfl rfl (by unfold itF; simp only [List.length_cons]; omega) dX4_gain_24 (fun H locs hP hD hS => kC H locs ?_ ?_ hS)
                · rw [← pl_set (e := .inr (ciT (z.2 a0).1, itF nu kd pa x_122 fa rs)) hD0 ha0.1 hs_119 hk8, ht9.2]; exact hP
                · rw [← pl_set (e := .inr (ciT (z.2 a0).1, itF nu kd pa x_122 fa rs)) hD0 ha0.1 hs_119 hk8, ht9.2]; exact hD
              ·
                rw [ht9.2] at hk_124
                refine va_put (D := (dC, dI)) (ci := 6) (v := .int x_122) (ty := .int) (C := RX7) (T := TX7) (N := 8) hx hb hts (by decide +kernel) tyX7 tyX7_ok nmX7 hown hK hP hD hS kk_123 hk_124 rfl 3 (by decide) (hts (.fieldLink RX4 9 "PageOne$Item" "count" "I") (by decide +kernel)) (fun _ h9 => h9) rfl (by decide +kernel) rfl rfl (by unfold itF; simp only [List.length_cons]; omega) dX4_gain_24 (fun H locs hP hD hS => kC H locs ?_ ?_ hS)
                · rw [← pl_set (e := .inr (ciT (z.2 a0).1, itF nu kd pa x_122 fa rs)) hD0 ha0.1 hs_119 hk8, ht9.2]; exact hP
                · rw [← pl_set (e := .inr (ciT (z.2 a0).1, itF nu kd pa x_122 fa rs)) hD0 ha0.1 hs_119 hk8, ht9.2]; exact hD
              ·
                rw [ht9.2] at hk_124
                refine va_put (D := (dC, dI)) (ci := 9) (v := .int x_122) (ty := .int) (C := RX10) (T := TX10) (N := 9) hx hb hts (by decide +kernel) tyX10 tyX10_ok nmX10 hown hK hP hD hS kk_123 hk_124 rfl 3 (by decide) (hts (.fieldLink RX4 9 "PageOne$Item" "count" "I") (by decide +kernel)) (fun _ h9 => h9) rfl (by decide +kernel) rfl rfl (by unfold itF; simp only [List.length_cons]; omega) dX4_gain_24 (fun H locs hP hD hS => kC H locs ?_ ?_ hS)
                · rw [← pl_set (e := .inr (ciT (z.2 a0).1, itF nu kd pa x_122 fa rs)) hD0 ha0.1 hs_119 hk8, ht9.2]; exact hP
                · rw [← pl_set (e := .inr (ciT (z.2 a0).1, itF nu kd pa x_122 fa rs)) hD0 ha0.1 hs_119 hk8, ht9.2]; exact hD
  ·
    rcases x_tag ha0 with ht9 | ht9 | ht9 | ht9 | ht9 | ht9
    ·
      obtain ⟨nu_1, kd_2, cn_3, pa_4, fa_5, l_6, m_7, hs_8, hs_9, hs_10, hs_11⟩ := x_ifl hI ht9
      obtain ⟨kk_12, hk_13⟩ := pl_at ht9.1 hs_8
      exact vp_callSi (va_runU (As := []) (rest := []) ⟨hx, hb, hml, hown, hts⟩ (y_hasRoom l dC dI q h0 d k z f hI a0 ha0 nu kd cn pa fa rs hs n g hps hpa) (va_cwU 0 hts gX4_gain_X4_hasRoom_u41X2 rfl rfl rfl rfl (by decide +kernel) ⟨Nat.le_of_ble_eq_true rfl, Nat.le_of_ble_eq_true rfl⟩) ⟨px_fb, va_recv hK hP (ci := 2) (q0 := kk_12) rfl hk_13, fun U hU hW => ⟨rfl, px_to hU hW hP hK hN hXN⟩⟩ rfl rfl hl.1 rfl (lv_room (Nat.le_of_ble_eq_true rfl)) dX4_gain_1 ⟨Nat.le_of_ble_eq_true rfl, Nat.le_of_ble_eq_true rfl⟩).run (fun r hw => kC r hw)
    ·
      obtain ⟨nu_14, kd_15, cn_16, pa_17, fa_18, o_19, w_20, y_21, hs_22, hs_23, hs_24, hs_25, hq_26⟩ := x_ihd hI ht9
      obtain ⟨kk_27, hk_28⟩ := pl_at ht9.1 hs_22
      exact vp_callSi (va_runU (As := []) (rest := []) ⟨hx, hb, hml, hown, hts⟩ (y_hasRoom l dC dI q h0 d k z f hI a0 ha0 nu kd cn pa fa rs hs n g hps hpa) (va_cwU 0 hts gX4_gain_X4_hasRoom_u41X3 rfl rfl rfl rfl (by decide +kernel) ⟨Nat.le_of_ble_eq_true rfl, Nat.le_of_ble_eq_true rfl⟩) ⟨px_fb, va_recv hK hP (ci := 3) (q0 := kk_27) rfl hk_28, fun U hU hW => ⟨rfl, px_to hU hW hP hK hN hXN⟩⟩ rfl rfl hl.1 rfl (lv_room (Nat.le_of_ble_eq_true rfl)) dX4_gain_1 ⟨Nat.le_of_ble_eq_true rfl, Nat.le_of_ble_eq_true rfl⟩).run (fun r hw => kC r hw)
    ·
      obtain ⟨nu_29, kd_30, cn_31, pa_32, fa_33, o_34, y_35, hs_36, hs_37, hs_38, hs_39, hq_40⟩ := x_ino hI ht9
      obtain ⟨kk_41, hk_42⟩ := pl_at ht9.1 hs_36
      exact vp_callSi (va_runU (As := []) (rest := []) ⟨hx, hb, hml, hown, hts⟩ (y_hasRoom l dC dI q h0 d k z f hI a0 ha0 nu kd cn pa fa rs hs n g hps hpa) (va_cwU 0 hts gX4_gain_X4_hasRoom_u41X5 rfl rfl rfl rfl (by decide +kernel) ⟨Nat.le_of_ble_eq_true rfl, Nat.le_of_ble_eq_true rfl⟩) ⟨px_fb, va_recv hK hP (ci := 4) (q0 := kk_41) rfl hk_42, fun U hU hW => ⟨rfl, px_to hU hW hP hK hN hXN⟩⟩ rfl rfl hl.1 rfl (lv_room (Nat.le_of_ble_eq_true rfl)) dX4_gain_1 ⟨Nat.le_of_ble_eq_true rfl, Nat.le_of_ble_eq_true rfl⟩).run (fun r hw => kC r hw)
    ·
      obtain ⟨nu_43, kd_44, cn_45, pa_46, fa_47, b_48, pr_49, sp_50, dy_51, hs_52, hs_53, hs_54, hs_55, hq_56, hq_57, hq_58⟩ := x_ipd hI ht9
      obtain ⟨kk_59, hk_60⟩ := pl_at ht9.1 hs_52
      exact vp_callSi (va_runU (As := []) (rest := []) ⟨hx, hb, hml, hown, hts⟩ (y_hasRoom l dC dI q h0 d k z f hI a0 ha0 nu kd cn pa fa rs hs n g hps hpa) (va_cwU 0 hts gX4_gain_X4_hasRoom_u41X6 rfl rfl rfl rfl (by decide +kernel) ⟨Nat.le_of_ble_eq_true rfl, Nat.le_of_ble_eq_true rfl⟩) ⟨px_fb, va_recv hK hP (ci := 5) (q0 := kk_59) rfl hk_60, fun U hU hW => ⟨rfl, px_to hU hW hP hK hN hXN⟩⟩ rfl rfl hl.1 rfl (lv_room (Nat.le_of_ble_eq_true rfl)) dX4_gain_1 ⟨Nat.le_of_ble_eq_true rfl, Nat.le_of_ble_eq_true rfl⟩).run (fun r hw => kC r hw)
    ·
      obtain ⟨nu_61, kd_62, cn_63, pa_64, fa_65, ww_66, hh_67, sz_68, hs_69, hs_70, hs_71, hs_72, hq_73, hq_74, hq_75⟩ := x_ipi hI ht9
      obtain ⟨kk_76, hk_77⟩ := pl_at ht9.1 hs_69
      exact vp_callSi (va_runU (As := []) (rest := []) ⟨hx, hb, hml, hown, hts⟩ (y_hasRoom l dC dI q h0 d k z f hI a0 ha0 nu kd cn pa fa rs hs n g hps hpa) (va_cwU 0 hts gX4_gain_X4_hasRoom_u41X7 rfl rfl rfl rfl (by decide +kernel) ⟨Nat.le_of_ble_eq_true rfl, Nat.le_of_ble_eq_true rfl⟩) ⟨px_fb, va_recv hK hP (ci := 6) (q0 := kk_76) rfl hk_77, fun U hU hW => ⟨rfl, px_to hU hW hP hK hN hXN⟩⟩ rfl rfl hl.1 rfl (lv_room (Nat.le_of_ble_eq_true rfl)) dX4_gain_1 ⟨Nat.le_of_ble_eq_true rfl, Nat.le_of_ble_eq_true rfl⟩).run (fun r hw => kC r hw)
    ·
      obtain ⟨nu_78, kd_79, cn_80, pa_81, fa_82, l_83, co_84, wd_85, nm_86, hs_87, hs_88, hs_89, hs_90, hq_91, hq_92, hq_93⟩ := x_ist hI ht9
      obtain ⟨kk_94, hk_95⟩ := pl_at ht9.1 hs_87
      exact vp_callSi (va_runU (As := []) (rest := []) ⟨hx, hb, hml, hown, hts⟩ (y_hasRoom l dC dI q h0 d k z f hI a0 ha0 nu kd cn pa fa rs hs n g hps hpa) (va_cwU 0 hts gX4_gain_X4_hasRoom_u41X10 rfl rfl rfl rfl (by decide +kernel) ⟨Nat.le_of_ble_eq_true rfl, Nat.le_of_ble_eq_true rfl⟩) ⟨px_fb, va_recv hK hP (ci := 9) (q0 := kk_94) rfl hk_95, fun U hU hW => ⟨rfl, px_to hU hW hP hK hN hXN⟩⟩ rfl rfl hl.1 rfl (lv_room (Nat.le_of_ble_eq_true rfl)) dX4_gain_1 ⟨Nat.le_of_ble_eq_true rfl, Nat.le_of_ble_eq_true rfl⟩).run (fun r hw => kC r hw)
