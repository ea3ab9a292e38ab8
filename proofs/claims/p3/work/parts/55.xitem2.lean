theorem la_step {q h0 d k z f} {a0 : Nat} {nu kd : Int32} {pa fa n : Nat} {rs : List Value} {g : Nat → Option Nat} (hI : xI q h0 d k z (va_up f a0 (.inr (ciT (z.2 a0).1, itF nu kd pa 0 fa rs)))) (ha0 : itm z a0) (hne : pa ≠ a0) (hp : f pa = aR (q 5) n g) (hn1 : 1 ≤ n) (hn6 : n ≤ 6) (hg : ∀ j, j < n → ∀ b, g j = some b → lgP z b) (i : Nat) : xI q h0 d k z (va_up (va_up f pa (aR (q 5) n (va_up g i none))) a0 (.inr (ciT (z.2 a0).1, itF nu kd pa 0 fa rs))) := by
  rw [up_comm hne]
  exact x_upP hI ha0 up_s (by rw [up_o hne]; exact hp) hne (bwN (n := 0) (by rw [nI_toInt (by omega)]; omega) (by omega)) (fun j hj => absurd hj (Nat.not_lt_zero _)) (ty_up hg ty_n)
set_option maxHeartbeats 4000000 in
set_option maxRecDepth 100000 in
theorem x_loseAll_l {p : Program} {l : Launch} {e : Env} {R : Room} {s : State} {m : MethodId} {args : Array Value} {below : List Frame} {meth : Method} {c : Code} {Q : State → Prop} {cells slots : Nat} {dC : Nat → ClassId} {dI : Nat → Nat → Nat} {q : Nat → ClassId} {h0 : Nat} {d : Nat → Nat} {k : Nat → Int32} {z : gS} {a0 : Nat} {nu kd cn : Int32} {pa fa n : Nat} {rs : List Value} (ha0 : itm z a0) (hpa : tg z pa 16) (hne : pa ≠ a0) (hn1 : 1 ≤ n) (hn6 : n ≤ 6) {A : Nat → Prop} {H0 : Heap} (hx : p.tables.exec = Jvm.exec) (hb : c.code = cX4_loseAll) (hml : c.maxLocals = 2) (hts : ∀ w ∈ wsX4_loseAll, w.before args s = true) (hown : s.vm.findClass RX4 = some m.cls) (hN : NN s) (hXN : XN s) (hK : va_K (dC, dI) vwCl (xT q) s) (hA : ∀ q : Nat, H0.size ≤ q → A q) (kx24 : ∀ (f : xF) (H : Heap) (locs : List Loc) (g : Nat → Option Nat) (ls : Array Slot), (f a0 = .inr (ciT (z.2 a0).1, itF nu kd pa cn fa rs) ∧ f pa = aR (q 5) n g ∧ ∀ j, j < n → ∀ b, g j = some b → lgP z b) → xI q h0 d k z (va_up f a0 (.inr (ciT (z.2 a0).1, itF nu kd pa 0 fa rs))) → va_P (dC, dI) vwCl (va_pl z.1 f) H → va_D A (va_pl z.1 f) → va_S A H0 H locs → lv_has ls 2 [(0, .ref a0)] → W p l e R s m args below meth c H locs cells slots Q (F0 m 24 ls [])) : ∀ (kk i : Nat) (f : xF) (H : Heap) (locs : List Loc) (g : Nat → Option Nat) (ls : Array Slot), i ≤ n → n - i < kk → (f a0 = .inr (ciT (z.2 a0).1, itF nu kd pa cn fa rs) ∧ f pa = aR (q 5) n g ∧ ∀ j, j < n → ∀ b, g j = some b → lgP z b) → xI q h0 d k z (va_up f a0 (.inr (ciT (z.2 a0).1, itF nu kd pa 0 fa rs))) → va_P (dC, dI) vwCl (va_pl z.1 f) H → va_D A (va_pl z.1 f) → va_S A H0 H locs → lv_has ls 2 [(1, .int (nI i)), (0, .ref a0)] → W p l e R s m args below meth c H locs cells slots Q (F0 m 2 ls []) := by
  intro kk
  induction kk with
  | zero => intro i f H locs g ls h1 h2; exact absurd h2 (Nat.not_lt_zero _)
  | succ kk ih =>
    intro i f H locs g ls hi hkk hg hI hP hD hS hl
    refine lv_iload_n hx hb dX4_loseAll_2 rfl (lv_at hl 0 rfl) ?_
    refine lv_aload_n hx hb dX4_loseAll_3 rfl (lv_at hl 1 rfl) ?_
    obtain ⟨kk_1, hk_2⟩ := pl_at ha0.1 hg.1
    refine w_then (F0 m 7 ls [.ref pa, .int (nI i)]) (fun hgo => ?_) ?_
    ·
      rcases x_tag ha0 with ht9 | ht9 | ht9 | ht9 | ht9 | ht9
      ·
        rw [ht9.2] at hk_2
        exact va_get (D := (dC, dI)) (ci := 2) (v := .ref pa) (C := RX2) (T := TX2) (N := 7) hx hb hts (by decide +kernel) hown hK hP kk_1 hk_2 rfl 2 (by decide) (hts (.fieldLink RX4 31 "PageOne$Item" "pieces" "[LPageOne$Piece;") (by decide +kernel)) (fun _ h9 => h9) rfl dX4_loseAll_4 hgo
      ·
        rw [ht9.2] at hk_2
        exact va_get (D := (dC, dI)) (ci := 3) (v := .ref pa) (C := RX3) (T := TX3) (N := 8) hx hb hts (by decide +kernel) hown hK hP kk_1 hk_2 rfl 2 (by decide) (hts (.fieldLink RX4 31 "PageOne$Item" "pieces" "[LPageOne$Piece;") (by decide +kernel)) (fun _ h9 => h9) rfl dX4_loseAll_4 hgo
      ·
        rw [ht9.2] at hk_2
        exact va_get (D := (dC, dI)) (ci := 4) (v := .ref pa) (C := RX5) (T := TX5) (N := 7) hx hb hts (by decide +kernel) hown hK hP kk_1 hk_2 rfl 2 (by decide) (hts (.fieldLink RX4 31 "PageOne$Item" "pieces" "[LPageOne$Piece;") (by decide +kernel)) (fun _ h9 => h9) rfl dX4_loseAll_4 hgo
      ·
        rw [ht9.2] at hk_2
        exact va_get (D := (dC, dI)) (ci := 5) (v := .ref pa) (C := RX6) (T := TX6) (N := 9) hx hb hts (by decide +kernel) hown hK hP kk_1 hk_2 rfl 2 (by decide) (hts (.fieldLink RX4 31 "PageOne$Item" "pieces" "[LPageOne$Piece;") (by decide +kernel)) (fun _ h9 => h9) rfl dX4_loseAll_4 hgo
      ·
        rw [ht9.2] at hk_2
        exact va_get (D := (dC, dI)) (ci := 6) (v := .ref pa) (C := RX7) (T := TX7) (N := 8) hx hb hts (by decide +kernel) hown hK hP kk_1 hk_2 rfl 2 (by decide) (hts (.fieldLink RX4 31 "PageOne$Item" "pieces" "[LPageOne$Piece;") (by decide +kernel)) (fun _ h9 => h9) rfl dX4_loseAll_4 hgo
      ·
        rw [ht9.2] at hk_2
        exact va_get (D := (dC, dI)) (ci := 9) (v := .ref pa) (C := RX10) (T := TX10) (N := 9) hx hb hts (by decide +kernel) hown hK hP kk_1 hk_2 rfl 2 (by decide) (hts (.fieldLink RX4 31 "PageOne$Item" "pieces" "[LPageOne$Piece;") (by decide +kernel)) (fun _ h9 => h9) rfl dX4_loseAll_4 hgo
    ·
      obtain ⟨kk_3, hk_4⟩ := pl_at hpa.1 hg.2.1
      refine va_alen hx hb hK hP kk_3 5 hk_4 rfl (v := nI n) rfl dX4_loseAll_7 ?_
      refine lv_icmp_ge (tgt := 24) hx hb dX4_loseAll_8 (by decide) (fun c_5 => ?_) (fun c_5 => ?_)
      ·
        have hie : i = n := lp_eq rfl (by omega) hi c_5
        exact kx24 _ _ _ _ ls hg hI hP hD hS (lv_sub hl [1] rfl)
      ·
        have hlt : i < n := lp_lt rfl (by omega) hi c_5
        refine lv_aload_n hx hb dX4_loseAll_11 rfl (lv_at hl 1 rfl) ?_
        obtain ⟨kk_6, hk_7⟩ := pl_at ha0.1 hg.1
        refine w_then (F0 m 15 ls [.ref pa]) (fun hgo => ?_) ?_
        ·
          rcases x_tag ha0 with ht9 | ht9 | ht9 | ht9 | ht9 | ht9
          ·
            rw [ht9.2] at hk_7
            exact va_get (D := (dC, dI)) (ci := 2) (v := .ref pa) (C := RX2) (T := TX2) (N := 7) hx hb hts (by decide +kernel) hown hK hP kk_6 hk_7 rfl 2 (by decide) (hts (.fieldLink RX4 31 "PageOne$Item" "pieces" "[LPageOne$Piece;") (by decide +kernel)) (fun _ h9 => h9) rfl dX4_loseAll_12 hgo
          ·
            rw [ht9.2] at hk_7
            exact va_get (D := (dC, dI)) (ci := 3) (v := .ref pa) (C := RX3) (T := TX3) (N := 8) hx hb hts (by decide +kernel) hown hK hP kk_6 hk_7 rfl 2 (by decide) (hts (.fieldLink RX4 31 "PageOne$Item" "pieces" "[LPageOne$Piece;") (by decide +kernel)) (fun _ h9 => h9) rfl dX4_loseAll_12 hgo
          ·
            rw [ht9.2] at hk_7
            exact va_get (D := (dC, dI)) (ci := 4) (v := .ref pa) (C := RX5) (T := TX5) (N := 7) hx hb hts (by decide +kernel) hown hK hP kk_6 hk_7 rfl 2 (by decide) (hts (.fieldLink RX4 31 "PageOne$Item" "pieces" "[LPageOne$Piece;") (by decide +kernel)) (fun _ h9 => h9) rfl dX4_loseAll_12 hgo
          ·
            rw [ht9.2] at hk_7
            exact va_get (D := (dC, dI)) (ci := 5) (v := .ref pa) (C := RX6) (T := TX6) (N := 9) hx hb hts (by decide +kernel) hown hK hP kk_6 hk_7 rfl 2 (by decide) (hts (.fieldLink RX4 31 "PageOne$Item" "pieces" "[LPageOne$Piece;") (by decide +kernel)) (fun _ h9 => h9) rfl dX4_loseAll_12 hgo
          ·
            rw [ht9.2] at hk_7
            exact va_get (D := (dC, dI)) (ci := 6) (v := .ref pa) (C := RX7) (T := TX7) (N := 8) hx hb hts (by decide +kernel) hown hK hP kk_6 hk_7 rfl 2 (by decide) (hts (.fieldLink RX4 31 "PageOne$Item" "pieces" "[LPageOne$Piece;") (by decide +kernel)) (fun _ h9 => h9) rfl dX4_loseAll_12 hgo
          ·
            rw [ht9.2] at hk_7
            exact va_get (D := (dC, dI)) (ci := 9) (v := .ref pa) (C := RX10) (T := TX10) (N := 9) hx hb hts (by decide +kernel) hown hK hP kk_6 hk_7 rfl 2 (by decide) (hts (.fieldLink RX4 31 "PageOne$Item" "pieces" "[LPageOne$Piece;") (by decide +kernel)) (fun _ h9 => h9) rfl dX4_loseAll_12 hgo
        ·
          refine lv_iload_n hx hb dX4_loseAll_15 rfl (lv_at hl 0 rfl) ?_
          refine lv_null hx hb dX4_loseAll_16 ?_
          obtain ⟨kk_8, hk_9⟩ := pl_at hpa.1 hg.2.1
          have hD0 := hD
          refine va_astqN hx hb hK hP hD hS kk_8 5 hk_9 rfl (vp_in_nI hlt (by omega)) dX4_loseAll_17 (fun H locs hP hD hS => ?_)
          rw [pl_set hD0 hpa.1 hg.2.1 hk_9] at hP hD
          obtain ⟨f_10, ef_10⟩ : ∃ y : xF, y = va_up f pa (aR (q 5) n (va_up g ((nI i) : Int32).toNatClampNeg none)) := ⟨_, rfl⟩
          have hI : xI q h0 d k z (va_up f_10 a0 (.inr (ciT (z.2 a0).1, itF nu kd pa 0 fa rs))) := by rw [ef_10]; exact la_step hI ha0 hne hg.2.1 hn1 hn6 hg.2.2 _
          have hP : va_P (dC, dI) vwCl (va_pl z.1 f_10) H := by rw [ef_10]; exact hP
          have hD : va_D A (va_pl z.1 f_10) := by rw [ef_10]; exact hD
          have hs_11 : f_10 pa = aR (q 5) n (va_up g ((nI i) : Int32).toNatClampNeg none) := by rw [ef_10]; exact up_s
          have hs_12 : f_10 a0 = .inr (ciT (z.2 a0).1, itF nu kd pa cn fa rs) := by rw [ef_10, up_o (fun e => (hne) e.symm)]; exact hg.1
          refine lv_iinc (v := (nI (i + 1))) (lv' := [(1, .int (nI (i + 1))), (0, .ref a0)]) hx hb dX4_loseAll_18 hl (k := 0) rfl (nI_1 i) (by decide) rfl (fun ls hl => ?_)
          refine lv_goto (tgt := 2) hx hb dX4_loseAll_21 (by decide) ?_
          exact ih (i + 1) _ _ _ _ ls (by omega) (by omega) ⟨hs_12, hs_11, ty_up hg.2.2 ty_n⟩ hI hP hD hS (lv_sub hl [0, 1] rfl)
set_option maxHeartbeats 4000000 in
set_option maxRecDepth 100000 in
theorem x_loseAll (l : Launch) (dC : Nat → ClassId) (dI : Nat → Nat → Nat) (q : Nat → ClassId) (h0 : Nat) (d : Nat → Nat) (k : Nat → Int32) (z : gS) (f : xF) (hI : xI q h0 d k z f) (a0 : Nat) (ha0 : itm z a0) (sz : Nat) : Met l yX4_loseAll wsX4_loseAll ({ frames := 0, cells := 0, slots := 0, locals := 0 }) (va_Pc [.ref a0] (fun U => U.heap.size = sz ∧ PX dC dI (va_pl z.1 f) (xT q) U ∧ va_D (fun _ => True) (va_pl z.1 f))) (va_Qv (fun (w : xU) => w.1 = k ∧ w.2.1 = z ∧ xI q h0 d k z w.2.2) (fun (w : xU) t => va_P (dC, dI) vwCl (va_pl w.2.1.1 w.2.2) t.heap ∧ va_D (va_A (va_pl z.1 f) sz) (va_pl w.2.1.1 w.2.2)) (va_A (va_pl z.1 f) sz)) 0 0 (va_A (va_pl z.1 f) sz) := by
  refine Met.ofW (cc := cX4_loseAll) (maxL := 2) (ret := none) (by decide) rfl ?_
  intro p e s m args below meth c s₁ B hml hv
  obtain ⟨rfl, hsz, ⟨⟨hP, hK, hN⟩, hXN⟩, hD0⟩ := hv
  have hx := B.exec
  have hb := B.bytes
  have hr := B.returns
  have hts := atoms_spec (ws := wsX4_loseAll) B.pre
  have hown : s.vm.findClass RX4 = some m.cls := findClass_of_methodNamed B.named
  have hlocks := B.notSynchronized
  subst hsz
  have hD := hD0.self (sz := s.heap.size)
  generalize hAe : va_A (va_pl z.1 f) s.heap.size = A at hD ⊢
  have hA : ∀ q : Nat, s.heap.size ≤ q → A q := fun q h => by rw [← hAe]; exact Or.inr h
  have hS : va_S A s.heap s.heap [] := va_S.rf
  have hl := lv_entry ([.ref a0]) (n := 2) (Nat.le_of_ble_eq_true rfl)
  rw [lg_entry_eq]
  generalize (lg_sl ([.ref a0]) ++ List.replicate (2 - (lg_sl ([.ref a0])).length) Slot.unset).toArray = ls at hl ⊢
  have hl : lv_has ls 2 [(0, .ref a0)] := hl
  refine lv_iconst (v := 0) hx hb dX4_loseAll_0 (by decide) ?_
  refine lv_istore_n (lv' := [(1, .int 0), (0, .ref a0)]) hx hb dX4_loseAll_1 rfl hl (by decide) rfl (fun ls hl => ?_)
  obtain ⟨nu_1, kd_2, cn_3, pa_4, fa_5, rs_6, hs_7, hs_8, hs_9, hs_10, hs_11⟩ := x_im hI ha0
  obtain ⟨n_12, g_13, hs_14, h1_15, h6_16, hc_17, hn_18, hg_19⟩ := x_pcs hI ha0 rfl hs_7
  have hne := x_pan hI ha0 hs_8
  have hI0 := x_upC hI ha0 hs_7 hs_14 (cn2 := 0) (bwN (n := 0) (by rw [nI_toInt (by omega)]; omega) (by omega)) (fun j hj => absurd hj (Nat.not_lt_zero _)) hg_19
  refine x_loseAll_l ha0 hs_8 hne h1_15 h6_16 hx hb hml hts hown hN hXN hK hA (fun f2 H locs g2 ls hg hI hP hD hS hl => ?_) (n_12 + 1) 0 _ _ _ g_13 ls (Nat.zero_le _) (by omega) ⟨hs_7, hs_14, hg_19⟩ hI0 hP hD hS (lv_sub hl [0, 1] rfl)
  refine lv_aload_n hx hb dX4_loseAll_24 rfl (lv_at hl 0 rfl) ?_
  refine lv_iconst (v := 0) hx hb dX4_loseAll_25 (by decide) ?_
  obtain ⟨kk_20, hk_21⟩ := pl_at ha0.1 hg.1
  have hD0 := hD
  refine w_cut (X := fun R cells slots Q args => ∀ (H : Heap) (locs : List Loc), va_P (dC, dI) vwCl (va_pl z.1 (va_up f2 a0 (.inr (ciT (z.2 a0).1, itF nu_1 kd_2 pa_4 0 fa_5 rs_6)))) H → va_D A (va_pl z.1 (va_up f2 a0 (.inr (ciT (z.2 a0).1, itF nu_1 kd_2 pa_4 0 fa_5 rs_6)))) → va_S A s.heap H locs → W p l e R s m args below meth c H locs cells slots Q (F0 m 29 ls [])) ?_ (fun kC => ?_)
  ·
    intro H locs hP hD hS
    obtain ⟨f_22, ef_22⟩ : ∃ y : xF, y = va_up f2 a0 (.inr (ciT (z.2 a0).1, itF nu_1 kd_2 pa_4 0 fa_5 rs_6)) := ⟨_, rfl⟩
    have hI : xI q h0 d k z f_22 := by rw [ef_22]; exact hI
    have hP : va_P (dC, dI) vwCl (va_pl z.1 f_22) H := by rw [ef_22]; exact hP
    have hD : va_D A (va_pl z.1 f_22) := by rw [ef_22]; exact hD
    have hff_22 : f_22 a0 = .inr (ciT (z.2 a0).1, itF nu_1 kd_2 pa_4 0 fa_5 rs_6) := by rw [ef_22]; exact up_s
    exact W.vret hx hb hr (fun t ht hW => ⟨⟨(k, z, f_22), rfl, ⟨rfl, rfl, hI⟩, by rw [ht]; exact hP, hD⟩, hS.F ht⟩) hS.2.2 dX4_loseAll_29
  ·
    have hk8 := hk_21
    rcases x_tag ha0 with ht9 | ht9 | ht9 | ht9 | ht9 | ht9
    ·
      rw [ht9.2] at hk_21
      refine va_put (D := (dC, dI)) (ci := 2) (v := .int 0) (ty := .int) (C := RX2) (T := TX2) (N := 7) hx hb hts (by decide +kernel) tyX2 tyX2_ok nmX2 hown hK hP hD hS kk_20 hk_21 rfl 3 (by decide) (hts (.fieldLink RX4 9 "PageOne$Item" "count" "I") (by decide +kernel)) (fun _ h9 => h9) rfl (by decide +kernel) rfl rfl (by unfold itF; simp only [List.length_cons]; omega) dX4_loseAll_26 (fun H locs hP hD hS => kC H locs ?_ ?_ hS)
      · rw [← pl_set (e := .inr (ciT (z.2 a0).1, itF nu_1 kd_2 pa_4 0 fa_5 rs_6)) hD0 ha0.1 hg.1 hk8, ht9.2]; exact hP
      · rw [← pl_set (e := .inr (ciT (z.2 a0).1, itF nu_1 kd_2 pa_4 0 fa_5 rs_6)) hD0 ha0.1 hg.1 hk8, ht9.2]; exact hD
    ·
      rw [ht9.2] at hk_21
      refine va_put (D := (dC, dI)) (ci := 3) (v := .int 0) (ty := .int) (C := RX3) (T := TX3) (N := 8) hx hb hts (by decide +kernel) tyX3 tyX3_ok nmX3 hown hK hP hD hS kk_20 hk_21 rfl 3 (by decide) (hts (.fieldLink RX4 9 "PageOne$Item" "count" "I") (by decide +kernel)) (fun _ h9 => h9) rfl (by decide +kernel) rfl rfl (by unfold itF; simp only [List.length_cons]; omega) dX4_loseAll_26 (fun H locs hP hD hS => kC H locs ?_ ?_ hS)
      · rw [← pl_set (e := .inr (ciT (z.2 a0).1, itF nu_1 kd_2 pa_4 0 fa_5 rs_6)) hD0 ha0.1 hg.1 hk8, ht9.2]; exact hP
      · rw [← pl_set (e := .inr (ciT (z.2 a0).1, itF nu_1 kd_2 pa_4 0 fa_5 rs_6)) hD0 ha0.1 hg.1 hk8, ht9.2]; exact hD
    ·
      rw [ht9.2] at hk_21
      refine va_put (D := (dC, dI)) (ci := 4) (v := .int 0) (ty := .int) (C := RX5) (T := TX5) (N := 7) hx hb hts (by decide +kernel) tyX5 tyX5_ok nmX5 hown hK hP hD hS kk_20 hk_21 rfl 3 (by decide) (hts (.fieldLink RX4 9 "PageOne$Item" "count" "I") (by decide +kernel)) (fun _ h9 => h9) rfl (by decide +kernel) rfl rfl (by unfold itF; simp only [List.length_cons]; omega) dX4_loseAll_26 (fun H locs hP hD hS => kC H locs ?_ ?_ hS)
      · rw [← pl_set (e := .inr (ciT (z.2 a0).1, itF nu_1 kd_2 pa_4 0 fa_5 rs_6)) hD0 ha0.1 hg.1 hk8, ht9.2]; exact hP
      · rw [← pl_set (e := .inr (ciT (z.2 a0).1, itF nu_1 kd_2 pa_4 0 fa_5 rs_6)) hD0 ha0.1 hg.1 hk8, ht9.2]; exact hD
    ·
      rw [ht9.2] at hk_21
      refine va_put (D := (dC, dI)) (ci := 5) (v := .int 0) (ty := .int) (C := RX6) (T := TX6) (N := 9) hx hb hts (by decide +kernel) tyX6 tyX6_ok nmX6 hown hK hP hD hS kk_20 hk_21 rfl 3 (by decide) (hts (.fieldLink RX4 9 "PageOne$Item" "count" "I") (by decide +kernel)) (fun _ h9 => h9) rfl (by decide +kernel) rfl rfl (by unfold itF; simp only [List.length_cons]; omega) dX4_loseAll_26 (fun H locs hP hD hS => kC H locs ?_ ?_ hS)
      · rw [← pl_set (e := .inr (ciT (z.2 a0).1, itF nu_1 kd_2 pa_4 0 fa_5 rs_6)) hD0 ha0.1 hg.1 hk8, ht9.2]; exact hP
      · rw [← pl_set (e := .inr (ciT (z.2 a0).1, itF nu_1 kd_2 pa_4 0 fa_5 rs_6)) hD0 ha0.1 hg.1 hk8, ht9.2]; exact hD
    ·
      rw [ht9.2] at hk_21
      refine va_put (D := (dC, dI)) (ci := 6) (v := .int 0) (ty := .int) (C := RX7) (T := TX7) (N := 8) hx hb hts (by decide +kernel) tyX7 tyX7_ok nmX7 hown hK hP hD hS kk_20 hk_21 rfl 3 (by decide) (hts (.fieldLink RX4 9 "PageOne$Item" "count" "I") (by decide +kernel)) (fun _ h9 => h9) rfl (by decide +kernel) rfl rfl (by unfold itF; simp only [List.length_cons]; omega) dX4_loseAll_26 (fun H locs hP hD hS => kC H locs ?_ ?_ hS)
      · rw [← pl_set (e := .inr (ciT (z.2 a0).1, itF nu_1 kd_2 pa_4 0 fa_5 rs_6)) hD0 ha0.1 hg.1 hk8, ht9.2]; exact hP
      · rw [← pl_set (e := .inr (ciT (z.2 a0).1, itF nu_1 kd_2 pa_4 0 fa_5 rs_6)) hD0 ha0.1 hg.1 hk8, ht9.2]; exact hD
    ·
      rw [ht9.2] at hk_21
      refine va_put (D := (dC, dI)) (ci := 9) (v := .int 0) (ty := .int) (C := RX10) (T := TX10) (N := 9) hx hb hts (by decide +kernel) tyX10 tyX10_ok nmX10 hown hK hP hD hS kk_20 hk_21 rfl 3 (by decide) (hts (.fieldLink RX4 9 "PageOne$Item" "count" "I") (by decide +kernel)) (fun _ h9 => h9) rfl (by decide +kernel) rfl rfl (by unfold itF; simp only [List.length_cons]; omega) dX4_loseAll_26 (fun H locs hP hD hS => kC H locs ?_ ?_ hS)
      · rw [← pl_set (e := .inr (ciT (z.2 a0).1, itF nu_1 kd_2 pa_4 0 fa_5 rs_6)) hD0 ha0.1 hg.1 hk8, ht9.2]; exact hP
      · rw [← pl_set (e := .inr (ciT (z.2 a0).1, itF nu_1 kd_2 pa_4 0 fa_5 rs_6)) hD0 ha0.1 hg.1 hk8, ht9.2]; exact hD
set_option maxHeartbeats 4000000 in
set_option maxRecDepth 100000 in
theorem x_lastPiece (l : Launch) (dC : Nat → ClassId) (dI : Nat → Nat → Nat) (q : Nat → ClassId) (h0 : Nat) (d : Nat → Nat) (k : Nat → Int32) (z : gS) (f : xF) (hI : xI q h0 d k z f) (a0 : Nat) (ha0 : itm z a0) : Met l yX4_lastPiece wsX4_lastPiece ({ frames := 0, cells := 0, slots := 0, locals := 0 }) (va_Pc [.ref a0] (PX dC dI (va_pl z.1 f) (xT q))) (va_Sq (fun r => ∀ b, r = some b → lgP z b)) 0 0 (fun _ => False) := by
  refine Met.ofW (cc := cX4_lastPiece) (maxL := 1) (ret := (some (.object "PageOne$Piece"))) (by decide) rfl ?_
  intro p e s m args below meth c s₁ B hml hv
  obtain ⟨rfl, ⟨hP, hK, hN⟩, hXN⟩ := hv
  have hx := B.exec
  have hb := B.bytes
  have hr := B.returns
  have hts := atoms_spec (ws := wsX4_lastPiece) B.pre
  have hown : s.vm.findClass RX4 = some m.cls := findClass_of_methodNamed B.named
  have hlocks := B.notSynchronized
  have hl := lv_entry ([.ref a0]) (n := 1) (Nat.le_of_ble_eq_true rfl)
  rw [lg_entry_eq]
  generalize (lg_sl ([.ref a0]) ++ List.replicate (1 - (lg_sl ([.ref a0])).length) Slot.unset).toArray = ls at hl ⊢
  have hl : lv_has ls 1 [(0, .ref a0)] := hl
  refine lv_aload_n hx hb dX4_lastPiece_0 rfl (lv_at hl 0 rfl) ?_
  obtain ⟨nu_1, kd_2, cn_3, pa_4, fa_5, rs_6, hs_7, hs_8, hs_9, hs_10, hs_11⟩ := x_im hI ha0
  obtain ⟨kk_12, hk_13⟩ := pl_at ha0.1 hs_7
  refine w_then (F0 m 4 ls [.int cn_3]) (fun hgo => ?_) ?_
  ·
    rcases x_tag ha0 with ht9 | ht9 | ht9 | ht9 | ht9 | ht9
    ·
      rw [ht9.2] at hk_13
      exact va_get (D := (dC, dI)) (ci := 2) (v := .int cn_3) (C := RX2) (T := TX2) (N := 7) hx hb hts (by decide +kernel) hown hK hP kk_12 hk_13 rfl 3 (by decide) (hts (.fieldLink RX4 9 "PageOne$Item" "count" "I") (by decide +kernel)) (fun _ h9 => h9) rfl dX4_lastPiece_1 hgo
    ·
      rw [ht9.2] at hk_13
      exact va_get (D := (dC, dI)) (ci := 3) (v := .int cn_3) (C := RX3) (T := TX3) (N := 8) hx hb hts (by decide +kernel) hown hK hP kk_12 hk_13 rfl 3 (by decide) (hts (.fieldLink RX4 9 "PageOne$Item" "count" "I") (by decide +kernel)) (fun _ h9 => h9) rfl dX4_lastPiece_1 hgo
    ·
      rw [ht9.2] at hk_13
      exact va_get (D := (dC, dI)) (ci := 4) (v := .int cn_3) (C := RX5) (T := TX5) (N := 7) hx hb hts (by decide +kernel) hown hK hP kk_12 hk_13 rfl 3 (by decide) (hts (.fieldLink RX4 9 "PageOne$Item" "count" "I") (by decide +kernel)) (fun _ h9 => h9) rfl dX4_lastPiece_1 hgo
    ·
      rw [ht9.2] at hk_13
      exact va_get (D := (dC, dI)) (ci := 5) (v := .int cn_3) (C := RX6) (T := TX6) (N := 9) hx hb hts (by decide +kernel) hown hK hP kk_12 hk_13 rfl 3 (by decide) (hts (.fieldLink RX4 9 "PageOne$Item" "count" "I") (by decide +kernel)) (fun _ h9 => h9) rfl dX4_lastPiece_1 hgo
    ·
      rw [ht9.2] at hk_13
      exact va_get (D := (dC, dI)) (ci := 6) (v := .int cn_3) (C := RX7) (T := TX7) (N := 8) hx hb hts (by decide +kernel) hown hK hP kk_12 hk_13 rfl 3 (by decide) (hts (.fieldLink RX4 9 "PageOne$Item" "count" "I") (by decide +kernel)) (fun _ h9 => h9) rfl dX4_lastPiece_1 hgo
    ·
      rw [ht9.2] at hk_13
      exact va_get (D := (dC, dI)) (ci := 9) (v := .int cn_3) (C := RX10) (T := TX10) (N := 9) hx hb hts (by decide +kernel) hown hK hP kk_12 hk_13 rfl 3 (by decide) (hts (.fieldLink RX4 9 "PageOne$Item" "count" "I") (by decide +kernel)) (fun _ h9 => h9) rfl dX4_lastPiece_1 hgo
  ·
    refine lv_if_le (tgt := 21) hx hb dX4_lastPiece_4 (by decide) (fun c_14 => ?_) (fun c_14 => ?_)
    ·
      refine lv_null hx hb dX4_lastPiece_21 ?_
      exact W.aret (v := .null) hx hb hr (Or.inl ⟨_, rfl⟩) (Or.inl rfl) (fun t ht hW => ⟨none, rfl, ty_n, ht⟩) (fun q h => absurd h List.not_mem_nil) dX4_lastPiece_22
    ·
      refine lv_aload_n hx hb dX4_lastPiece_7 rfl (lv_at hl 0 rfl) ?_
      obtain ⟨kk_15, hk_16⟩ := pl_at ha0.1 hs_7
      refine w_then (F0 m 11 ls [.ref pa_4]) (fun hgo => ?_) ?_
      ·
        rcases x_tag ha0 with ht9 | ht9 | ht9 | ht9 | ht9 | ht9
        ·
          rw [ht9.2] at hk_16
          exact va_get (D := (dC, dI)) (ci := 2) (v := .ref pa_4) (C := RX2) (T := TX2) (N := 7) hx hb hts (by decide +kernel) hown hK hP kk_15 hk_16 rfl 2 (by decide) (hts (.fieldLink RX4 31 "PageOne$Item" "pieces" "[LPageOne$Piece;") (by decide +kernel)) (fun _ h9 => h9) rfl dX4_lastPiece_8 hgo
        ·
          rw [ht9.2] at hk_16
          exact va_get (D := (dC, dI)) (ci := 3) (v := .ref pa_4) (C := RX3) (T := TX3) (N := 8) hx hb hts (by decide +kernel) hown hK hP kk_15 hk_16 rfl 2 (by decide) (hts (.fieldLink RX4 31 "PageOne$Item" "pieces" "[LPageOne$Piece;") (by decide +kernel)) (fun _ h9 => h9) rfl dX4_lastPiece_8 hgo
        ·
          rw [ht9.2] at hk_16
          exact va_get (D := (dC, dI)) (ci := 4) (v := .ref pa_4) (C := RX5) (T := TX5) (N := 7) hx hb hts (by decide +kernel) hown hK hP kk_15 hk_16 rfl 2 (by decide) (hts (.fieldLink RX4 31 "PageOne$Item" "pieces" "[LPageOne$Piece;") (by decide +kernel)) (fun _ h9 => h9) rfl dX4_lastPiece_8 hgo
        ·
          rw [ht9.2] at hk_16
          exact va_get (D := (dC, dI)) (ci := 5) (v := .ref pa_4) (C := RX6) (T := TX6) (N := 9) hx hb hts (by decide +kernel) hown hK hP kk_15 hk_16 rfl 2 (by decide) (hts (.fieldLink RX4 31 "PageOne$Item" "pieces" "[LPageOne$Piece;") (by decide +kernel)) (fun _ h9 => h9) rfl dX4_lastPiece_8 hgo
        ·
          rw [ht9.2] at hk_16
          exact va_get (D := (dC, dI)) (ci := 6) (v := .ref pa_4) (C := RX7) (T := TX7) (N := 8) hx hb hts (by decide +kernel) hown hK hP kk_15 hk_16 rfl 2 (by decide) (hts (.fieldLink RX4 31 "PageOne$Item" "pieces" "[LPageOne$Piece;") (by decide +kernel)) (fun _ h9 => h9) rfl dX4_lastPiece_8 hgo
        ·
          rw [ht9.2] at hk_16
          exact va_get (D := (dC, dI)) (ci := 9) (v := .ref pa_4) (C := RX10) (T := TX10) (N := 9) hx hb hts (by decide +kernel) hown hK hP kk_15 hk_16 rfl 2 (by decide) (hts (.fieldLink RX4 31 "PageOne$Item" "pieces" "[LPageOne$Piece;") (by decide +kernel)) (fun _ h9 => h9) rfl dX4_lastPiece_8 hgo
      ·
        refine lv_aload_n hx hb dX4_lastPiece_11 rfl (lv_at hl 0 rfl) ?_
        obtain ⟨kk_17, hk_18⟩ := pl_at ha0.1 hs_7
        refine w_then (F0 m 15 ls [.int cn_3, .ref pa_4]) (fun hgo => ?_) ?_
        ·
          rcases x_tag ha0 with ht9 | ht9 | ht9 | ht9 | ht9 | ht9
          ·
            rw [ht9.2] at hk_18
            exact va_get (D := (dC, dI)) (ci := 2) (v := .int cn_3) (C := RX2) (T := TX2) (N := 7) hx hb hts (by decide +kernel) hown hK hP kk_17 hk_18 rfl 3 (by decide) (hts (.fieldLink RX4 9 "PageOne$Item" "count" "I") (by decide +kernel)) (fun _ h9 => h9) rfl dX4_lastPiece_12 hgo
          ·
            rw [ht9.2] at hk_18
            exact va_get (D := (dC, dI)) (ci := 3) (v := .int cn_3) (C := RX3) (T := TX3) (N := 8) hx hb hts (by decide +kernel) hown hK hP kk_17 hk_18 rfl 3 (by decide) (hts (.fieldLink RX4 9 "PageOne$Item" "count" "I") (by decide +kernel)) (fun _ h9 => h9) rfl dX4_lastPiece_12 hgo
          ·
            rw [ht9.2] at hk_18
            exact va_get (D := (dC, dI)) (ci := 4) (v := .int cn_3) (C := RX5) (T := TX5) (N := 7) hx hb hts (by decide +kernel) hown hK hP kk_17 hk_18 rfl 3 (by decide) (hts (.fieldLink RX4 9 "PageOne$Item" "count" "I") (by decide +kernel)) (fun _ h9 => h9) rfl dX4_lastPiece_12 hgo
          ·
            rw [ht9.2] at hk_18
            exact va_get (D := (dC, dI)) (ci := 5) (v := .int cn_3) (C := RX6) (T := TX6) (N := 9) hx hb hts (by decide +kernel) hown hK hP kk_17 hk_18 rfl 3 (by decide) (hts (.fieldLink RX4 9 "PageOne$Item" "count" "I") (by decide +kernel)) (fun _ h9 => h9) rfl dX4_lastPiece_12 hgo
          ·
            rw [ht9.2] at hk_18
            exact va_get (D := (dC, dI)) (ci := 6) (v := .int cn_3) (C := RX7) (T := TX7) (N := 8) hx hb hts (by decide +kernel) hown hK hP kk_17 hk_18 rfl 3 (by decide) (hts (.fieldLink RX4 9 "PageOne$Item" "count" "I") (by decide +kernel)) (fun _ h9 => h9) rfl dX4_lastPiece_12 hgo
          ·
            rw [ht9.2] at hk_18
            exact va_get (D := (dC, dI)) (ci := 9) (v := .int cn_3) (C := RX10) (T := TX10) (N := 9) hx hb hts (by decide +kernel) hown hK hP kk_17 hk_18 rfl 3 (by decide) (hts (.fieldLink RX4 9 "PageOne$Item" "count" "I") (by decide +kernel)) (fun _ h9 => h9) rfl dX4_lastPiece_12 hgo
        ·
          refine lv_iconst (v := 1) hx hb dX4_lastPiece_15 (by decide) ?_
          refine lv_isub hx hb dX4_lastPiece_16 ?_
          obtain ⟨n_19, g_20, hs_21, h1_22, h6_23, hc_24, hn_25, hg_26⟩ := x_pcs hI ha0 rfl hs_7
          obtain ⟨kk_27, hk_28⟩ := pl_at hs_8.1 hs_21
          refine va_aldq hx hb hK hP kk_27 5 hk_28 rfl (bcm1 h6_23 hc_24 c_14 rfl).2.2 dX4_lastPiece_17 ?_
          rcases hg_30 : (g_20 ((cn_3 - 1) : Int32).toNatClampNeg) with _ | b_29
          ·
            refine W.eq (g2 := F0 m 18 ls [.null]) rfl ?_
            refine lv_goto (tgt := 22) hx hb dX4_lastPiece_18 (by decide) ?_
            exact W.aret (v := .null) hx hb hr (Or.inl ⟨_, rfl⟩) (Or.inl rfl) (fun t ht hW => ⟨none, rfl, ty_n, ht⟩) (fun q h => absurd h List.not_mem_nil) dX4_lastPiece_22
          ·
            have ht_31 := hg_26 ((cn_3 - 1) : Int32).toNatClampNeg (vlt (bcm1 h6_23 hc_24 c_14 rfl).2.2) b_29 hg_30
            refine W.eq (g2 := F0 m 18 ls [.ref b_29]) rfl ?_
            refine lv_goto (tgt := 22) hx hb dX4_lastPiece_18 (by decide) ?_
            exact W.aret (v := .ref b_29) hx hb hr (Or.inl ⟨_, rfl⟩) (Or.inr ⟨_, rfl⟩) (fun t ht hW => ⟨some b_29, rfl, (ty_s ht_31), ht⟩) (fun q h => absurd h List.not_mem_nil) dX4_lastPiece_22
set_option maxHeartbeats 4000000 in
set_option maxRecDepth 100000 in
theorem x_isOn_l {p : Program} {l : Launch} {e : Env} {R : Room} {s : State} {m : MethodId} {args : Array Value} {below : List Frame} {meth : Method} {c : Code} {Q : State → Prop} {cells slots : Nat} {dC : Nat → ClassId} {dI : Nat → Nat → Nat} {q : Nat → ClassId} {h0 : Nat} {d : Nat → Nat} {k : Nat → Int32} {z : gS} {f : xF} {H : Heap} {locs : List Loc} (hI : xI q h0 d k z f) (hx : p.tables.exec = Jvm.exec) (hb : c.code = cX4_isOn) (hml : c.maxLocals = 3) (hts : ∀ w ∈ wsX4_isOn, w.before args s = true) (hown : s.vm.findClass RX4 = some m.cls) (hN : NN s) (hXN : XN s) (hK : va_K (dC, dI) vwCl (xT q) s) (hP : va_P (dC, dI) vwCl (va_pl z.1 f) H) {a0 : Nat} {nu kd : Int32} {pa fa n K : Nat} {rs : List Value} {g : Nat → Option Nat} (ha0 : itm z a0) (hs : f a0 = .inr (ciT (z.2 a0).1, itF nu kd pa (nI K) fa rs)) (hpa : tg z pa 16) (hps : f pa = aR (q 5) n g) (hKn : K ≤ n) (hn6 : n ≤ 6) (hnn : ∀ j, j < (nI K).toNatClampNeg → ∃ b, g j = some b) (hlg : ∀ j, j < n → ∀ b, g j = some b → lgP z b) {p0 : Int32} (kx31 : ∀ (ls : Array Slot), lv_has ls 3 [(0, .ref a0), (1, .int p0)] → W p l e R s m args below meth c H locs cells slots Q (F0 m 31 ls [])) (kx23 : ∀ (ls : Array Slot), lv_has ls 3 [(0, .ref a0), (1, .int p0)] → W p l e R s m args below meth c H locs cells slots Q (F0 m 23 ls [])) : ∀ (kk i : Nat) (ls : Array Slot), i ≤ K → K - i < kk → lv_has ls 3 [(2, .int (nI i)), (0, .ref a0), (1, .int p0)] → W p l e R s m args below meth c H locs cells slots Q (F0 m 2 ls []) := by
  intro kk
  induction kk with
  | zero => intro i ls h1 h2; exact absurd h2 (Nat.not_lt_zero _)
  | succ kk ih =>
    intro i ls hi hkk hl
    refine lv_iload_n hx hb dX4_isOn_2 rfl (lv_at hl 0 rfl) ?_
    refine lv_aload_n hx hb dX4_isOn_3 rfl (lv_at hl 1 rfl) ?_
    obtain ⟨kk_1, hk_2⟩ := pl_at ha0.1 hs
    refine w_then (F0 m 7 ls [.int (nI K), .int (nI i)]) (fun hgo => ?_) ?_
    ·
      rcases x_tag ha0 with ht9 | ht9 | ht9 | ht9 | ht9 | ht9
      ·
        rw [ht9.2] at hk_2
        exact va_get (D := (dC, dI)) (ci := 2) (v := .int (nI K)) (C := RX2) (T := TX2) (N := 7) hx hb hts (by decide +kernel) hown hK hP kk_1 hk_2 rfl 3 (by decide) (hts (.fieldLink RX4 9 "PageOne$Item" "count" "I") (by decide +kernel)) (fun _ h9 => h9) rfl dX4_isOn_4 hgo
      ·
        rw [ht9.2] at hk_2
        exact va_get (D := (dC, dI)) (ci := 3) (v := .int (nI K)) (C := RX3) (T := TX3) (N := 8) hx hb hts (by decide +kernel) hown hK hP kk_1 hk_2 rfl 3 (by decide) (hts (.fieldLink RX4 9 "PageOne$Item" "count" "I") (by decide +kernel)) (fun _ h9 => h9) rfl dX4_isOn_4 hgo
      ·
        rw [ht9.2] at hk_2
        exact va_get (D := (dC, dI)) (ci := 4) (v := .int (nI K)) (C := RX5) (T := TX5) (N := 7) hx hb hts (by decide +kernel) hown hK hP kk_1 hk_2 rfl 3 (by decide) (hts (.fieldLink RX4 9 "PageOne$Item" "count" "I") (by decide +kernel)) (fun _ h9 => h9) rfl dX4_isOn_4 hgo
      ·
        rw [ht9.2] at hk_2
        exact va_get (D := (dC, dI)) (ci := 5) (v := .int (nI K)) (C := RX6) (T := TX6) (N := 9) hx hb hts (by decide +kernel) hown hK hP kk_1 hk_2 rfl 3 (by decide) (hts (.fieldLink RX4 9 "PageOne$Item" "count" "I") (by decide +kernel)) (fun _ h9 => h9) rfl dX4_isOn_4 hgo
      ·
        rw [ht9.2] at hk_2
        exact va_get (D := (dC, dI)) (ci := 6) (v := .int (nI K)) (C := RX7) (T := TX7) (N := 8) hx hb hts (by decide +kernel) hown hK hP kk_1 hk_2 rfl 3 (by decide) (hts (.fieldLink RX4 9 "PageOne$Item" "count" "I") (by decide +kernel)) (fun _ h9 => h9) rfl dX4_isOn_4 hgo
      ·
        rw [ht9.2] at hk_2
        exact va_get (D := (dC, dI)) (ci := 9) (v := .int (nI K)) (C := RX10) (T := TX10) (N := 9) hx hb hts (by decide +kernel) hown hK hP kk_1 hk_2 rfl 3 (by decide) (hts (.fieldLink RX4 9 "PageOne$Item" "count" "I") (by decide +kernel)) (fun _ h9 => h9) rfl dX4_isOn_4 hgo
    ·
      refine lv_icmp_ge (tgt := 31) hx hb dX4_isOn_7 (by decide) (fun c_3 => ?_) (fun c_3 => ?_)
      ·
        have hie : i = K := lp_eq rfl (by omega) hi c_3
        exact kx31 ls (lv_sub hl [1, 2] rfl)
      ·
        have hlt : i < K := lp_lt rfl (by omega) hi c_3
        refine lv_aload_n hx hb dX4_isOn_10 rfl (lv_at hl 1 rfl) ?_
        obtain ⟨kk_4, hk_5⟩ := pl_at ha0.1 hs
        refine w_then (F0 m 14 ls [.ref pa]) (fun hgo => ?_) ?_
        ·
          rcases x_tag ha0 with ht9 | ht9 | ht9 | ht9 | ht9 | ht9
          ·
            rw [ht9.2] at hk_5
            exact va_get (D := (dC, dI)) (ci := 2) (v := .ref pa) (C := RX2) (T := TX2) (N := 7) hx hb hts (by decide +kernel) hown hK hP kk_4 hk_5 rfl 2 (by decide) (hts (.fieldLink RX4 31 "PageOne$Item" "pieces" "[LPageOne$Piece;") (by decide +kernel)) (fun _ h9 => h9) rfl dX4_isOn_11 hgo
          ·
            rw [ht9.2] at hk_5
            exact va_get (D := (dC, dI)) (ci := 3) (v := .ref pa) (C := RX3) (T := TX3) (N := 8) hx hb hts (by decide +kernel) hown hK hP kk_4 hk_5 rfl 2 (by decide) (hts (.fieldLink RX4 31 "PageOne$Item" "pieces" "[LPageOne$Piece;") (by decide +kernel)) (fun _ h9 => h9) rfl dX4_isOn_11 hgo
          ·
            rw [ht9.2] at hk_5
            exact va_get (D := (dC, dI)) (ci := 4) (v := .ref pa) (C := RX5) (T := TX5) (N := 7) hx hb hts (by decide +kernel) hown hK hP kk_4 hk_5 rfl 2 (by decide) (hts (.fieldLink RX4 31 "PageOne$Item" "pieces" "[LPageOne$Piece;") (by decide +kernel)) (fun _ h9 => h9) rfl dX4_isOn_11 hgo
          ·
            rw [ht9.2] at hk_5
            exact va_get (D := (dC, dI)) (ci := 5) (v := .ref pa) (C := RX6) (T := TX6) (N := 9) hx hb hts (by decide +kernel) hown hK hP kk_4 hk_5 rfl 2 (by decide) (hts (.fieldLink RX4 31 "PageOne$Item" "pieces" "[LPageOne$Piece;") (by decide +kernel)) (fun _ h9 => h9) rfl dX4_isOn_11 hgo
          ·
            rw [ht9.2] at hk_5
            exact va_get (D := (dC, dI)) (ci := 6) (v := .ref pa) (C := RX7) (T := TX7) (N := 8) hx hb hts (by decide +kernel) hown hK hP kk_4 hk_5 rfl 2 (by decide) (hts (.fieldLink RX4 31 "PageOne$Item" "pieces" "[LPageOne$Piece;") (by decide +kernel)) (fun _ h9 => h9) rfl dX4_isOn_11 hgo
          ·
            rw [ht9.2] at hk_5
            exact va_get (D := (dC, dI)) (ci := 9) (v := .ref pa) (C := RX10) (T := TX10) (N := 9) hx hb hts (by decide +kernel) hown hK hP kk_4 hk_5 rfl 2 (by decide) (hts (.fieldLink RX4 31 "PageOne$Item" "pieces" "[LPageOne$Piece;") (by decide +kernel)) (fun _ h9 => h9) rfl dX4_isOn_11 hgo
        ·
          refine lv_iload_n hx hb dX4_isOn_14 rfl (lv_at hl 0 rfl) ?_
          obtain ⟨kk_6, hk_7⟩ := pl_at hpa.1 hps
          refine va_aldq hx hb hK hP kk_6 5 hk_7 rfl (vp_in_nI (by omega) (by omega)) dX4_isOn_15 ?_
          obtain ⟨b_8, hg_9⟩ := hnn ((nI i) : Int32).toNatClampNeg (by rw [nI_clamp (by omega), nI_clamp (by omega)]; exact hlt)
          have ht_10 := hlg ((nI i) : Int32).toNatClampNeg (vlt (vp_in_nI (by omega) (by omega))) b_8 hg_9
          rw [hg_9]
          refine W.eq (g2 := F0 m 16 ls [.ref b_8]) rfl ?_
          have hcp := ht_10
          obtain ⟨it_11, P_12, X_13, Y_14, D_15, N_16, hp_17, hb_18, hb_19, hb_20, hb_21⟩ := hcp
          obtain ⟨kk_22, hk_23⟩ := pl_at hp_17.1.1 (x_pcF hI hp_17)
          refine va_get (D := (dC, dI)) (ci := 7) (v := .int P_12) (C := RX8) (T := TX8) (N := 6) hx hb hts (by decide +kernel) hown hK hP kk_22 hk_23 rfl 1 (by decide) (hts (.fieldLink RX4 45 "PageOne$Piece" "page" "I") (by decide +kernel)) (fun _ h9 => h9) rfl dX4_isOn_16 ?_
          refine lv_iload_n hx hb dX4_isOn_19 rfl (lv_at hl 2 rfl) ?_
          refine lv_icmp_ne (tgt := 25) hx hb dX4_isOn_20 (by decide) (fun c_24 => ?_) (fun c_24 => ?_)
          ·
            refine lv_iinc (v := (nI (i + 1))) (lv' := [(2, .int (nI (i + 1))), (0, .ref a0), (1, .int p0)]) hx hb dX4_isOn_25 hl (k := 0) rfl (nI_1 i) (by decide) rfl (fun ls hl => ?_)
            refine lv_goto (tgt := 2) hx hb dX4_isOn_28 (by decide) ?_
            exact ih (i + 1) ls (by omega) (by omega) (lv_sub hl [0, 1, 2] rfl)
          ·
            exact kx23 ls (lv_sub hl [1, 2] rfl)
set_option maxHeartbeats 4000000 in
set_option maxRecDepth 100000 in
theorem x_isOn (l : Launch) (dC : Nat → ClassId) (dI : Nat → Nat → Nat) (q : Nat → ClassId) (h0 : Nat) (d : Nat → Nat) (k : Nat → Int32) (z : gS) (f : xF) (hI : xI q h0 d k z f) (a0 : Nat) (p0 : Int32) (ha0 : itm z a0) : Met l yX4_isOn wsX4_isOn ({ frames := 0, cells := 0, slots := 0, locals := 0 }) (va_Pc [.ref a0, .int p0] (PX dC dI (va_pl z.1 f) (xT q))) (vp_Si (fun r => r = 0 ∨ r = 1)) 0 0 (fun _ => False) := by
  refine Met.ofW (cc := cX4_isOn) (maxL := 3) (ret := (some .boolean)) (by decide) rfl ?_
  intro p e s m args below meth c s₁ B hml hv
  obtain ⟨rfl, ⟨hP, hK, hN⟩, hXN⟩ := hv
  have hx := B.exec
  have hb := B.bytes
  have hr := B.returns
  have hts := atoms_spec (ws := wsX4_isOn) B.pre
  have hown : s.vm.findClass RX4 = some m.cls := findClass_of_methodNamed B.named
  have hlocks := B.notSynchronized
  have hl := lv_entry ([.ref a0, .int p0]) (n := 3) (Nat.le_of_ble_eq_true rfl)
  rw [lg_entry_eq]
  generalize (lg_sl ([.ref a0, .int p0]) ++ List.replicate (3 - (lg_sl ([.ref a0, .int p0])).length) Slot.unset).toArray = ls at hl ⊢
  have hl : lv_has ls 3 [(0, .ref a0), (1, .int p0)] := hl
  refine lv_iconst (v := 0) hx hb dX4_isOn_0 (by decide) ?_
  refine lv_istore_n (lv' := [(2, .int 0), (0, .ref a0), (1, .int p0)]) hx hb dX4_isOn_1 rfl hl (by decide) rfl (fun ls hl => ?_)
  obtain ⟨nu_1, kd_2, cn_3, pa_4, fa_5, rs_6, hs_7, hs_8, hs_9, hs_10, hs_11⟩ := x_im hI ha0
  obtain ⟨n_12, g_13, hs_14, h1_15, h6_16, hc_17, hn_18, hg_19⟩ := x_pcs hI ha0 rfl hs_7
  obtain ⟨K, hK1, -, eK⟩ := exN hc_17 (by decide)
  rw [nI_toInt (by omega)] at hK1
  subst eK
  refine x_isOn_l hI hx hb hml hts hown hN hXN hK hP ha0 hs_7 hs_8 hs_14 (by omega) h6_16 hn_18 hg_19 (fun ls hl => ?_) (fun ls hl => ?_) (K + 1) 0 ls (Nat.zero_le _) (by omega) (lv_sub hl [0, 1, 2] rfl)
  ·
    refine lv_iconst (v := 0) hx hb dX4_isOn_31 (by decide) ?_
    exact W.zret (v := 0) hx hb hr (by decide) (fun t ht hW => ⟨_, rfl, (by decide), ht⟩) (fun q h => absurd h List.not_mem_nil) dX4_isOn_32
  ·
    refine lv_iconst (v := 1) hx hb dX4_isOn_23 (by decide) ?_
    exact W.zret (v := 1) hx hb hr (by decide) (fun t ht hW => ⟨_, rfl, (by decide), ht⟩) (fun q h => absurd h List.not_mem_nil) dX4_isOn_24
set_option maxHeartbeats 4000000 in
set_option maxRecDepth 100000 in
theorem x_touches_l {p : Program} {l : Launch} {e : Env} {R : Room} {s : State} {m : MethodId} {args : Array Value} {below : List Frame} {meth : Method} {c : Code} {Q : State → Prop} {cells slots : Nat} {dC : Nat → ClassId} {dI : Nat → Nat → Nat} {q : Nat → ClassId} {h0 : Nat} {d : Nat → Nat} {k : Nat → Int32} {z : gS} {f : xF} {H : Heap} {locs : List Loc} (hI : xI q h0 d k z f) (hx : p.tables.exec = Jvm.exec) (hb : c.code = cX4_touches) (hml : c.maxLocals = 4) (hts : ∀ w ∈ wsX4_touches, w.before args s = true) (hown : s.vm.findClass RX4 = some m.cls) (hN : NN s) (hXN : XN s) (hK : va_K (dC, dI) vwCl (xT q) s) (hRf : 1 ≤ R.frames) (hRl : 22 ≤ R.locals) (hRc : cells ≤ R.cells) (hRs : slots ≤ R.slots) (hP : va_P (dC, dI) vwCl (va_pl z.1 f) H) {a0 : Nat} {nu kd : Int32} {pa fa n K : Nat} {rs : List Value} {g : Nat → Option Nat} (ha0 : itm z a0) (hs : f a0 = .inr (ciT (z.2 a0).1, itF nu kd pa (nI K) fa rs)) (hpa : tg z pa 16) (hps : f pa = aR (q 5) n g) (hKn : K ≤ n) (hn6 : n ≤ 6) (hnn : ∀ j, j < (nI K).toNatClampNeg → ∃ b, g j = some b) (hlg : ∀ j, j < n → ∀ b, g j = some b → lgP z b) {b0 : Nat} {p0 : Int32} (hb0 : tg z b0 22) (kx48 : ∀ (ls : Array Slot), lv_has ls 4 [(0, .ref a0), (1, .ref b0), (2, .int p0)] → W p l e R s m args below meth c H locs cells slots Q (F0 m 48 ls [])) (kx40 : ∀ (ls : Array Slot), lv_has ls 4 [(0, .ref a0), (1, .ref b0), (2, .int p0)] → W p l e R s m args below meth c H locs cells slots Q (F0 m 40 ls [])) : ∀ (kk i : Nat) (ls : Array Slot), i ≤ K → K - i < kk → lv_has ls 4 [(3, .int (nI i)), (0, .ref a0), (1, .ref b0), (2, .int p0)] → W p l e R s m args below meth c H locs cells slots Q (F0 m 2 ls []) := by
  intro kk
  induction kk with
  | zero => intro i ls h1 h2; exact absurd h2 (Nat.not_lt_zero _)
  | succ kk ih =>
    intro i ls hi hkk hl
    refine lv_iload_n hx hb dX4_touches_2 rfl (lv_at hl 0 rfl) ?_
    refine lv_aload_n hx hb dX4_touches_3 rfl (lv_at hl 1 rfl) ?_
    obtain ⟨kk_1, hk_2⟩ := pl_at ha0.1 hs
    refine w_then (F0 m 7 ls [.int (nI K), .int (nI i)]) (fun hgo => ?_) ?_
    ·
      rcases x_tag ha0 with ht9 | ht9 | ht9 | ht9 | ht9 | ht9
      ·
        rw [ht9.2] at hk_2
        exact va_get (D := (dC, dI)) (ci := 2) (v := .int (nI K)) (C := RX2) (T := TX2) (N := 7) hx hb hts (by decide +kernel) hown hK hP kk_1 hk_2 rfl 3 (by decide) (hts (.fieldLink RX4 9 "PageOne$Item" "count" "I") (by decide +kernel)) (fun _ h9 => h9) rfl dX4_touches_4 hgo
      ·
        rw [ht9.2] at hk_2
        exact va_get (D := (dC, dI)) (ci := 3) (v := .int (nI K)) (C := RX3) (T := TX3) (N := 8) hx hb hts (by decide +kernel) hown hK hP kk_1 hk_2 rfl 3 (by decide) (hts (.fieldLink RX4 9 "PageOne$Item" "count" "I") (by decide +kernel)) (fun _ h9 => h9) rfl dX4_touches_4 hgo
      ·
        rw [ht9.2] at hk_2
        exact va_get (D := (dC, dI)) (ci := 4) (v := .int (nI K)) (C := RX5) (T := TX5) (N := 7) hx hb hts (by decide +kernel) hown hK hP kk_1 hk_2 rfl 3 (by decide) (hts (.fieldLink RX4 9 "PageOne$Item" "count" "I") (by decide +kernel)) (fun _ h9 => h9) rfl dX4_touches_4 hgo
      ·
        rw [ht9.2] at hk_2
        exact va_get (D := (dC, dI)) (ci := 5) (v := .int (nI K)) (C := RX6) (T := TX6) (N := 9) hx hb hts (by decide +kernel) hown hK hP kk_1 hk_2 rfl 3 (by decide) (hts (.fieldLink RX4 9 "PageOne$Item" "count" "I") (by decide +kernel)) (fun _ h9 => h9) rfl dX4_touches_4 hgo
      ·
        rw [ht9.2] at hk_2
        exact va_get (D := (dC, dI)) (ci := 6) (v := .int (nI K)) (C := RX7) (T := TX7) (N := 8) hx hb hts (by decide +kernel) hown hK hP kk_1 hk_2 rfl 3 (by decide) (hts (.fieldLink RX4 9 "PageOne$Item" "count" "I") (by decide +kernel)) (fun _ h9 => h9) rfl dX4_touches_4 hgo
      ·
        rw [ht9.2] at hk_2
        exact va_get (D := (dC, dI)) (ci := 9) (v := .int (nI K)) (C := RX10) (T := TX10) (N := 9) hx hb hts (by decide +kernel) hown hK hP kk_1 hk_2 rfl 3 (by decide) (hts (.fieldLink RX4 9 "PageOne$Item" "count" "I") (by decide +kernel)) (fun _ h9 => h9) rfl dX4_touches_4 hgo
    ·
      refine lv_icmp_ge (tgt := 48) hx hb dX4_touches_7 (by decide) (fun c_3 => ?_) (fun c_3 => ?_)
      ·
        have hie : i = K := lp_eq rfl (by omega) hi c_3
        exact kx48 ls (lv_sub hl [1, 2, 3] rfl)
      ·
        have hlt : i < K := lp_lt rfl (by omega) hi c_3
        refine lv_aload_n hx hb dX4_touches_10 rfl (lv_at hl 1 rfl) ?_
        obtain ⟨kk_4, hk_5⟩ := pl_at ha0.1 hs
        refine w_then (F0 m 14 ls [.ref pa]) (fun hgo => ?_) ?_
        ·
          rcases x_tag ha0 with ht9 | ht9 | ht9 | ht9 | ht9 | ht9
          ·
            rw [ht9.2] at hk_5
            exact va_get (D := (dC, dI)) (ci := 2) (v := .ref pa) (C := RX2) (T := TX2) (N := 7) hx hb hts (by decide +kernel) hown hK hP kk_4 hk_5 rfl 2 (by decide) (hts (.fieldLink RX4 31 "PageOne$Item" "pieces" "[LPageOne$Piece;") (by decide +kernel)) (fun _ h9 => h9) rfl dX4_touches_11 hgo
          ·
            rw [ht9.2] at hk_5
            exact va_get (D := (dC, dI)) (ci := 3) (v := .ref pa) (C := RX3) (T := TX3) (N := 8) hx hb hts (by decide +kernel) hown hK hP kk_4 hk_5 rfl 2 (by decide) (hts (.fieldLink RX4 31 "PageOne$Item" "pieces" "[LPageOne$Piece;") (by decide +kernel)) (fun _ h9 => h9) rfl dX4_touches_11 hgo
          ·
            rw [ht9.2] at hk_5
            exact va_get (D := (dC, dI)) (ci := 4) (v := .ref pa) (C := RX5) (T := TX5) (N := 7) hx hb hts (by decide +kernel) hown hK hP kk_4 hk_5 rfl 2 (by decide) (hts (.fieldLink RX4 31 "PageOne$Item" "pieces" "[LPageOne$Piece;") (by decide +kernel)) (fun _ h9 => h9) rfl dX4_touches_11 hgo
          ·
            rw [ht9.2] at hk_5
            exact va_get (D := (dC, dI)) (ci := 5) (v := .ref pa) (C := RX6) (T := TX6) (N := 9) hx hb hts (by decide +kernel) hown hK hP kk_4 hk_5 rfl 2 (by decide) (hts (.fieldLink RX4 31 "PageOne$Item" "pieces" "[LPageOne$Piece;") (by decide +kernel)) (fun _ h9 => h9) rfl dX4_touches_11 hgo
          ·
            rw [ht9.2] at hk_5
            exact va_get (D := (dC, dI)) (ci := 6) (v := .ref pa) (C := RX7) (T := TX7) (N := 8) hx hb hts (by decide +kernel) hown hK hP kk_4 hk_5 rfl 2 (by decide) (hts (.fieldLink RX4 31 "PageOne$Item" "pieces" "[LPageOne$Piece;") (by decide +kernel)) (fun _ h9 => h9) rfl dX4_touches_11 hgo
          ·
            rw [ht9.2] at hk_5
            exact va_get (D := (dC, dI)) (ci := 9) (v := .ref pa) (C := RX10) (T := TX10) (N := 9) hx hb hts (by decide +kernel) hown hK hP kk_4 hk_5 rfl 2 (by decide) (hts (.fieldLink RX4 31 "PageOne$Item" "pieces" "[LPageOne$Piece;") (by decide +kernel)) (fun _ h9 => h9) rfl dX4_touches_11 hgo
        ·
          refine lv_iload_n hx hb dX4_touches_14 rfl (lv_at hl 0 rfl) ?_
          obtain ⟨kk_6, hk_7⟩ := pl_at hpa.1 hps
          refine va_aldq hx hb hK hP kk_6 5 hk_7 rfl (vp_in_nI (by omega) (by omega)) dX4_touches_15 ?_
          obtain ⟨b_8, hg_9⟩ := hnn ((nI i) : Int32).toNatClampNeg (by rw [nI_clamp (by omega), nI_clamp (by omega)]; exact hlt)
          have ht_10 := hlg ((nI i) : Int32).toNatClampNeg (vlt (vp_in_nI (by omega) (by omega))) b_8 hg_9
          rw [hg_9]
          refine W.eq (g2 := F0 m 16 ls [.ref b_8]) rfl ?_
          refine lv_aload_n hx hb dX4_touches_16 rfl (lv_at hl 2 rfl) ?_
          have hcp := ht_10
          obtain ⟨it_11, P_12, X_13, Y_14, D_15, N_16, hp_17, hb_18, hb_19, hb_20, hb_21⟩ := hcp
          obtain ⟨kk_22, hk_23⟩ := pl_at hp_17.1.1 (x_pcF hI hp_17)
          refine vp_callSi (va_runV (As := [.ref b0]) (rest := []) ⟨hx, hb, hml, hown, hts⟩ (x_isBeside l dC dI q h0 d k z f hI b_8 b0 hp_17.1 hb0) (cwV 1 hts gX4_touches_X8_isBeside rfl rfl rfl (by decide +kernel) ⟨Nat.le_trans (Nat.le_of_ble_eq_true rfl) hRf, Nat.le_trans (Nat.le_of_ble_eq_true rfl) hRl⟩) ⟨px_fb, va_recv hK hP (ci := 7) (q0 := kk_22) rfl hk_23, fun U hU hW => ⟨rfl, px_to hU hW hP hK hN hXN⟩⟩ rfl rfl hl.1 rfl (lv_room (Nat.le_of_ble_eq_true rfl)) dX4_touches_17 ⟨hRc, hRs⟩).run (fun r hw => ?_)
          rcases hw with hw | hw
          ·
            subst hw
            refine lv_if_ne (tgt := 40) hx hb dX4_touches_20 (by decide) (fun c_24 => absurd (by decide) c_24) (fun c_24 => ?_)
            refine lv_iload_n hx hb dX4_touches_23 rfl (lv_at hl 3 rfl) ?_
            refine lv_if_ne (tgt := 42) hx hb dX4_touches_24 (by decide) (fun c_25 => ?_) (fun c_25 => ?_)
            ·
              refine lv_iinc (v := (nI (i + 1))) (lv' := [(3, .int (nI (i + 1))), (0, .ref a0), (1, .ref b0), (2, .int p0)]) hx hb dX4_touches_42 hl (k := 0) rfl (nI_1 i) (by decide) rfl (fun ls hl => ?_)
              refine lv_goto (tgt := 2) hx hb dX4_touches_45 (by decide) ?_
              exact ih (i + 1) ls (by omega) (by omega) (lv_sub hl [0, 1, 2, 3] rfl)
            ·
              refine lv_aload_n hx hb dX4_touches_27 rfl (lv_at hl 1 rfl) ?_
              obtain ⟨kk_26, hk_27⟩ := pl_at ha0.1 hs
              refine w_then (F0 m 31 ls [.ref pa]) (fun hgo => ?_) ?_
              ·
                rcases x_tag ha0 with ht9 | ht9 | ht9 | ht9 | ht9 | ht9
                ·
                  rw [ht9.2] at hk_27
                  exact va_get (D := (dC, dI)) (ci := 2) (v := .ref pa) (C := RX2) (T := TX2) (N := 7) hx hb hts (by decide +kernel) hown hK hP kk_26 hk_27 rfl 2 (by decide) (hts (.fieldLink RX4 31 "PageOne$Item" "pieces" "[LPageOne$Piece;") (by decide +kernel)) (fun _ h9 => h9) rfl dX4_touches_28 hgo
                ·
                  rw [ht9.2] at hk_27
                  exact va_get (D := (dC, dI)) (ci := 3) (v := .ref pa) (C := RX3) (T := TX3) (N := 8) hx hb hts (by decide +kernel) hown hK hP kk_26 hk_27 rfl 2 (by decide) (hts (.fieldLink RX4 31 "PageOne$Item" "pieces" "[LPageOne$Piece;") (by decide +kernel)) (fun _ h9 => h9) rfl dX4_touches_28 hgo
                ·
                  rw [ht9.2] at hk_27
                  exact va_get (D := (dC, dI)) (ci := 4) (v := .ref pa) (C := RX5) (T := TX5) (N := 7) hx hb hts (by decide +kernel) hown hK hP kk_26 hk_27 rfl 2 (by decide) (hts (.fieldLink RX4 31 "PageOne$Item" "pieces" "[LPageOne$Piece;") (by decide +kernel)) (fun _ h9 => h9) rfl dX4_touches_28 hgo
                ·
                  rw [ht9.2] at hk_27
                  exact va_get (D := (dC, dI)) (ci := 5) (v := .ref pa) (C := RX6) (T := TX6) (N := 9) hx hb hts (by decide +kernel) hown hK hP kk_26 hk_27 rfl 2 (by decide) (hts (.fieldLink RX4 31 "PageOne$Item" "pieces" "[LPageOne$Piece;") (by decide +kernel)) (fun _ h9 => h9) rfl dX4_touches_28 hgo
                ·
                  rw [ht9.2] at hk_27
                  exact va_get (D := (dC, dI)) (ci := 6) (v := .ref pa) (C := RX7) (T := TX7) (N := 8) hx hb hts (by decide +kernel) hown hK hP kk_26 hk_27 rfl 2 (by decide) (hts (.fieldLink RX4 31 "PageOne$Item" "pieces" "[LPageOne$Piece;") (by decide +kernel)) (fun _ h9 => h9) rfl dX4_touches_28 hgo
                ·
                  rw [ht9.2] at hk_27
                  exact va_get (D := (dC, dI)) (ci := 9) (v := .ref pa) (C := RX10) (T := TX10) (N := 9) hx hb hts (by decide +kernel) hown hK hP kk_26 hk_27 rfl 2 (by decide) (hts (.fieldLink RX4 31 "PageOne$Item" "pieces" "[LPageOne$Piece;") (by decide +kernel)) (fun _ h9 => h9) rfl dX4_touches_28 hgo
              ·
                refine lv_iload_n hx hb dX4_touches_31 rfl (lv_at hl 0 rfl) ?_
                obtain ⟨kk_28, hk_29⟩ := pl_at hpa.1 hps
                refine va_aldq hx hb hK hP kk_28 5 hk_29 rfl (vp_in_nI (by omega) (by omega)) dX4_touches_32 ?_
                obtain ⟨b_30, hg_31⟩ := hnn ((nI i) : Int32).toNatClampNeg (by rw [nI_clamp (by omega), nI_clamp (by omega)]; exact hlt)
                have ht_32 := hlg ((nI i) : Int32).toNatClampNeg (vlt (vp_in_nI (by omega) (by omega))) b_30 hg_31
                rw [hg_31]
                refine W.eq (g2 := F0 m 33 ls [.ref b_30]) rfl ?_
                refine lv_aload_n hx hb dX4_touches_33 rfl (lv_at hl 2 rfl) ?_
                have hcp := ht_32
                obtain ⟨it_33, P_34, X_35, Y_36, D_37, N_38, hp_39, hb_40, hb_41, hb_42, hb_43⟩ := hcp
                obtain ⟨kk_44, hk_45⟩ := pl_at hp_39.1.1 (x_pcF hI hp_39)
                refine vp_callSi (va_runV (As := [.ref b0]) (rest := []) ⟨hx, hb, hml, hown, hts⟩ (x_isOverOrUnder l dC dI q h0 d k z f hI b_30 b0 hp_39.1 hb0) (cwV 1 hts gX4_touches_X8_isOverOrUnder rfl rfl rfl (by decide +kernel) ⟨Nat.le_trans (Nat.le_of_ble_eq_true rfl) hRf, Nat.le_trans (Nat.le_of_ble_eq_true rfl) hRl⟩) ⟨px_fb, va_recv hK hP (ci := 7) (q0 := kk_44) rfl hk_45, fun U hU hW => ⟨rfl, px_to hU hW hP hK hN hXN⟩⟩ rfl rfl hl.1 rfl (lv_room (Nat.le_of_ble_eq_true rfl)) dX4_touches_34 ⟨hRc, hRs⟩).run (fun r hw => ?_)
                rcases hw with hw | hw
                ·
                  subst hw
                  refine lv_if_eq (tgt := 42) hx hb dX4_touches_37 (by decide) (fun c_46 => ?_) (fun c_46 => absurd (by decide) c_46)
                  refine lv_iinc (v := (nI (i + 1))) (lv' := [(3, .int (nI (i + 1))), (0, .ref a0), (1, .ref b0), (2, .int p0)]) hx hb dX4_touches_42 hl (k := 0) rfl (nI_1 i) (by decide) rfl (fun ls hl => ?_)
                  refine lv_goto (tgt := 2) hx hb dX4_touches_45 (by decide) ?_
                  exact ih (i + 1) ls (by omega) (by omega) (lv_sub hl [0, 1, 2, 3] rfl)
                ·
                  subst hw
                  refine lv_if_eq (tgt := 42) hx hb dX4_touches_37 (by decide) (fun c_47 => absurd c_47 (by decide)) (fun c_47 => ?_)
                  exact kx40 ls (lv_sub hl [1, 2, 3] rfl)
          ·
            subst hw
            refine lv_if_ne (tgt := 40) hx hb dX4_touches_20 (by decide) (fun c_48 => ?_) (fun c_48 => absurd c_48 (by decide))
            exact kx40 ls (lv_sub hl [1, 2, 3] rfl)
set_option maxHeartbeats 4000000 in
set_option maxRecDepth 100000 in
theorem x_touches (l : Launch) (dC : Nat → ClassId) (dI : Nat → Nat → Nat) (q : Nat → ClassId) (h0 : Nat) (d : Nat → Nat) (k : Nat → Int32) (z : gS) (f : xF) (hI : xI q h0 d k z f) (a0 b0 : Nat) (p0 : Int32) (ha0 : itm z a0) (hb0 : tg z b0 22) : Met l yX4_touches wsX4_touches ({ frames := 1, cells := 0, slots := 0, locals := 22 }) (va_Pc [.ref a0, .ref b0, .int p0] (PX dC dI (va_pl z.1 f) (xT q))) (vp_Si (fun r => r = 0 ∨ r = 1)) 0 0 (fun _ => False) := by
  refine Met.ofW (cc := cX4_touches) (maxL := 4) (ret := (some .boolean)) (by decide) rfl ?_
  intro p e s m args below meth c s₁ B hml hv
  obtain ⟨rfl, ⟨hP, hK, hN⟩, hXN⟩ := hv
  have hx := B.exec
  have hb := B.bytes
  have hr := B.returns
  have hts := atoms_spec (ws := wsX4_touches) B.pre
  have hown : s.vm.findClass RX4 = some m.cls := findClass_of_methodNamed B.named
  have hlocks := B.notSynchronized
  have hl := lv_entry ([.ref a0, .ref b0, .int p0]) (n := 4) (Nat.le_of_ble_eq_true rfl)
  rw [lg_entry_eq]
  generalize (lg_sl ([.ref a0, .ref b0, .int p0]) ++ List.replicate (4 - (lg_sl ([.ref a0, .ref b0, .int p0])).length) Slot.unset).toArray = ls at hl ⊢
  have hl : lv_has ls 4 [(0, .ref a0), (1, .ref b0), (2, .int p0)] := hl
  refine lv_iconst (v := 0) hx hb dX4_touches_0 (by decide) ?_
  refine lv_istore_n (lv' := [(3, .int 0), (0, .ref a0), (1, .ref b0), (2, .int p0)]) hx hb dX4_touches_1 rfl hl (by decide) rfl (fun ls hl => ?_)
  obtain ⟨nu_1, kd_2, cn_3, pa_4, fa_5, rs_6, hs_7, hs_8, hs_9, hs_10, hs_11⟩ := x_im hI ha0
  obtain ⟨n_12, g_13, hs_14, h1_15, h6_16, hc_17, hn_18, hg_19⟩ := x_pcs hI ha0 rfl hs_7
  obtain ⟨K, hK1, -, eK⟩ := exN hc_17 (by decide)
  rw [nI_toInt (by omega)] at hK1
  subst eK
  refine x_touches_l hI hx hb hml hts hown hN hXN hK (Nat.le_of_ble_eq_true rfl) (Nat.le_of_ble_eq_true rfl) (Nat.le_of_ble_eq_true rfl) (Nat.le_of_ble_eq_true rfl) hP ha0 hs_7 hs_8 hs_14 (by omega) h6_16 hn_18 hg_19 hb0 (fun ls hl => ?_) (fun ls hl => ?_) (K + 1) 0 ls (Nat.zero_le _) (by omega) (lv_sub hl [0, 1, 2, 3] rfl)
  ·
    refine lv_iconst (v := 0) hx hb dX4_touches_48 (by decide) ?_
    exact W.zret (v := 0) hx hb hr (by decide) (fun t ht hW => ⟨_, rfl, (by decide), ht⟩) (fun q h => absurd h List.not_mem_nil) dX4_touches_49
  ·
    refine lv_iconst (v := 1) hx hb dX4_touches_40 (by decide) ?_
    exact W.zret (v := 1) hx hb hr (by decide) (fun t ht hW => ⟨_, rfl, (by decide), ht⟩) (fun q h => absurd h List.not_mem_nil) dX4_touches_41
set_option maxHeartbeats 4000000 in
set_option maxRecDepth 100000 in
theorem x_meets_l {p : Program} {l : Launch} {e : Env} {R : Room} {s : State} {m : MethodId} {args : Array Value} {below : List Frame} {meth : Method} {c : Code} {Q : State → Prop} {cells slots : Nat} {dC : Nat → ClassId} {dI : Nat → Nat → Nat} {q : Nat → ClassId} {h0 : Nat} {d : Nat → Nat} {k : Nat → Int32} {z : gS} {f : xF} {H : Heap} {locs : List Loc} (hI : xI q h0 d k z f) (hx : p.tables.exec = Jvm.exec) (hb : c.code = cX4_meets) (hml : c.maxLocals = 5) (hts : ∀ w ∈ wsX4_meets, w.before args s = true) (hown : s.vm.findClass RX4 = some m.cls) (hN : NN s) (hXN : XN s) (hK : va_K (dC, dI) vwCl (xT q) s) (hRf : 2 ≤ R.frames) (hRl : 45 ≤ R.locals) (hRc : cells ≤ R.cells) (hRs : slots ≤ R.slots) (hP : va_P (dC, dI) vwCl (va_pl z.1 f) H) {a0 : Nat} {nu kd : Int32} {pa fa n K : Nat} {rs : List Value} {g : Nat → Option Nat} (ha0 : itm z a0) (hs : f a0 = .inr (ciT (z.2 a0).1, itF nu kd pa (nI K) fa rs)) (hpa : tg z pa 16) (hps : f pa = aR (q 5) n g) (hKn : K ≤ n) (hn6 : n ≤ 6) (hnn : ∀ j, j < (nI K).toNatClampNeg → ∃ b, g j = some b) (hlg : ∀ j, j < n → ∀ b, g j = some b → lgP z b) {c0 : Nat} {p0 p1 : Int32} (hc0 : itm z c0) (kx49 : ∀ (ls : Array Slot), lv_has ls 5 [(0, .ref a0), (1, .ref c0), (2, .int p0), (3, .int p1)] → W p l e R s m args below meth c H locs cells slots Q (F0 m 49 ls [])) (kx41 : ∀ (ls : Array Slot), lv_has ls 5 [(0, .ref a0), (1, .ref c0), (2, .int p0), (3, .int p1)] → W p l e R s m args below meth c H locs cells slots Q (F0 m 41 ls [])) : ∀ (kk i : Nat) (ls : Array Slot), i ≤ K → K - i < kk → lv_has ls 5 [(4, .int (nI i)), (0, .ref a0), (1, .ref c0), (2, .int p0), (3, .int p1)] → W p l e R s m args below meth c H locs cells slots Q (F0 m 3 ls []) := by
  intro kk
  induction kk with
  | zero => intro i ls h1 h2; exact absurd h2 (Nat.not_lt_zero _)
  | succ kk ih =>
    intro i ls hi hkk hl
    refine lv_iload hx hb dX4_meets_3 (lv_at hl 0 rfl) ?_
    refine lv_aload_n hx hb dX4_meets_5 rfl (lv_at hl 1 rfl) ?_
    obtain ⟨kk_1, hk_2⟩ := pl_at ha0.1 hs
    refine w_then (F0 m 9 ls [.int (nI K), .int (nI i)]) (fun hgo => ?_) ?_
    ·
      rcases x_tag ha0 with ht9 | ht9 | ht9 | ht9 | ht9 | ht9
      ·
        rw [ht9.2] at hk_2
        exact va_get (D := (dC, dI)) (ci := 2) (v := .int (nI K)) (C := RX2) (T := TX2) (N := 7) hx hb hts (by decide +kernel) hown hK hP kk_1 hk_2 rfl 3 (by decide) (hts (.fieldLink RX4 9 "PageOne$Item" "count" "I") (by decide +kernel)) (fun _ h9 => h9) rfl dX4_meets_6 hgo
      ·
        rw [ht9.2] at hk_2
        exact va_get (D := (dC, dI)) (ci := 3) (v := .int (nI K)) (C := RX3) (T := TX3) (N := 8) hx hb hts (by decide +kernel) hown hK hP kk_1 hk_2 rfl 3 (by decide) (hts (.fieldLink RX4 9 "PageOne$Item" "count" "I") (by decide +kernel)) (fun _ h9 => h9) rfl dX4_meets_6 hgo
      ·
        rw [ht9.2] at hk_2
        exact va_get (D := (dC, dI)) (ci := 4) (v := .int (nI K)) (C := RX5) (T := TX5) (N := 7) hx hb hts (by decide +kernel) hown hK hP kk_1 hk_2 rfl 3 (by decide) (hts (.fieldLink RX4 9 "PageOne$Item" "count" "I") (by decide +kernel)) (fun _ h9 => h9) rfl dX4_meets_6 hgo
      ·
        rw [ht9.2] at hk_2
        exact va_get (D := (dC, dI)) (ci := 5) (v := .int (nI K)) (C := RX6) (T := TX6) (N := 9) hx hb hts (by decide +kernel) hown hK hP kk_1 hk_2 rfl 3 (by decide) (hts (.fieldLink RX4 9 "PageOne$Item" "count" "I") (by decide +kernel)) (fun _ h9 => h9) rfl dX4_meets_6 hgo
      ·
        rw [ht9.2] at hk_2
        exact va_get (D := (dC, dI)) (ci := 6) (v := .int (nI K)) (C := RX7) (T := TX7) (N := 8) hx hb hts (by decide +kernel) hown hK hP kk_1 hk_2 rfl 3 (by decide) (hts (.fieldLink RX4 9 "PageOne$Item" "count" "I") (by decide +kernel)) (fun _ h9 => h9) rfl dX4_meets_6 hgo
      ·
        rw [ht9.2] at hk_2
        exact va_get (D := (dC, dI)) (ci := 9) (v := .int (nI K)) (C := RX10) (T := TX10) (N := 9) hx hb hts (by decide +kernel) hown hK hP kk_1 hk_2 rfl 3 (by decide) (hts (.fieldLink RX4 9 "PageOne$Item" "count" "I") (by decide +kernel)) (fun _ h9 => h9) rfl dX4_meets_6 hgo
    ·
      refine lv_icmp_ge (tgt := 49) hx hb dX4_meets_9 (by decide) (fun c_3 => ?_) (fun c_3 => ?_)
      ·
        have hie : i = K := lp_eq rfl (by omega) hi c_3
        exact kx49 ls (lv_sub hl [1, 2, 3, 4] rfl)
      ·
        have hlt : i < K := lp_lt rfl (by omega) hi c_3
        refine lv_aload_n hx hb dX4_meets_12 rfl (lv_at hl 1 rfl) ?_
        obtain ⟨kk_4, hk_5⟩ := pl_at ha0.1 hs
        refine w_then (F0 m 16 ls [.ref pa]) (fun hgo => ?_) ?_
        ·
          rcases x_tag ha0 with ht9 | ht9 | ht9 | ht9 | ht9 | ht9
          ·
            rw [ht9.2] at hk_5
            exact va_get (D := (dC, dI)) (ci := 2) (v := .ref pa) (C := RX2) (T := TX2) (N := 7) hx hb hts (by decide +kernel) hown hK hP kk_4 hk_5 rfl 2 (by decide) (hts (.fieldLink RX4 31 "PageOne$Item" "pieces" "[LPageOne$Piece;") (by decide +kernel)) (fun _ h9 => h9) rfl dX4_meets_13 hgo
          ·
            rw [ht9.2] at hk_5
            exact va_get (D := (dC, dI)) (ci := 3) (v := .ref pa) (C := RX3) (T := TX3) (N := 8) hx hb hts (by decide +kernel) hown hK hP kk_4 hk_5 rfl 2 (by decide) (hts (.fieldLink RX4 31 "PageOne$Item" "pieces" "[LPageOne$Piece;") (by decide +kernel)) (fun _ h9 => h9) rfl dX4_meets_13 hgo
          ·
            rw [ht9.2] at hk_5
            exact va_get (D := (dC, dI)) (ci := 4) (v := .ref pa) (C := RX5) (T := TX5) (N := 7) hx hb hts (by decide +kernel) hown hK hP kk_4 hk_5 rfl 2 (by decide) (hts (.fieldLink RX4 31 "PageOne$Item" "pieces" "[LPageOne$Piece;") (by decide +kernel)) (fun _ h9 => h9) rfl dX4_meets_13 hgo
          ·
            rw [ht9.2] at hk_5
            exact va_get (D := (dC, dI)) (ci := 5) (v := .ref pa) (C := RX6) (T := TX6) (N := 9) hx hb hts (by decide +kernel) hown hK hP kk_4 hk_5 rfl 2 (by decide) (hts (.fieldLink RX4 31 "PageOne$Item" "pieces" "[LPageOne$Piece;") (by decide +kernel)) (fun _ h9 => h9) rfl dX4_meets_13 hgo
          ·
            rw [ht9.2] at hk_5
            exact va_get (D := (dC, dI)) (ci := 6) (v := .ref pa) (C := RX7) (T := TX7) (N := 8) hx hb hts (by decide +kernel) hown hK hP kk_4 hk_5 rfl 2 (by decide) (hts (.fieldLink RX4 31 "PageOne$Item" "pieces" "[LPageOne$Piece;") (by decide +kernel)) (fun _ h9 => h9) rfl dX4_meets_13 hgo
          ·
            rw [ht9.2] at hk_5
            exact va_get (D := (dC, dI)) (ci := 9) (v := .ref pa) (C := RX10) (T := TX10) (N := 9) hx hb hts (by decide +kernel) hown hK hP kk_4 hk_5 rfl 2 (by decide) (hts (.fieldLink RX4 31 "PageOne$Item" "pieces" "[LPageOne$Piece;") (by decide +kernel)) (fun _ h9 => h9) rfl dX4_meets_13 hgo
        ·
          refine lv_iload hx hb dX4_meets_16 (lv_at hl 0 rfl) ?_
          obtain ⟨kk_6, hk_7⟩ := pl_at hpa.1 hps
          refine va_aldq hx hb hK hP kk_6 5 hk_7 rfl (vp_in_nI (by omega) (by omega)) dX4_meets_18 ?_
          obtain ⟨b_8, hg_9⟩ := hnn ((nI i) : Int32).toNatClampNeg (by rw [nI_clamp (by omega), nI_clamp (by omega)]; exact hlt)
          have ht_10 := hlg ((nI i) : Int32).toNatClampNeg (vlt (vp_in_nI (by omega) (by omega))) b_8 hg_9
          rw [hg_9]
          refine W.eq (g2 := F0 m 19 ls [.ref b_8]) rfl ?_
          have hcp := ht_10
          obtain ⟨it_11, P_12, X_13, Y_14, D_15, N_16, hp_17, hb_18, hb_19, hb_20, hb_21⟩ := hcp
          obtain ⟨kk_22, hk_23⟩ := pl_at hp_17.1.1 (x_pcF hI hp_17)
          refine va_get (D := (dC, dI)) (ci := 7) (v := .int P_12) (C := RX8) (T := TX8) (N := 6) hx hb hts (by decide +kernel) hown hK hP kk_22 hk_23 rfl 1 (by decide) (hts (.fieldLink RX4 45 "PageOne$Piece" "page" "I") (by decide +kernel)) (fun _ h9 => h9) rfl dX4_meets_19 ?_
          refine lv_iload_n hx hb dX4_meets_22 rfl (lv_at hl 3 rfl) ?_
          refine lv_icmp_ne (tgt := 43) hx hb dX4_meets_23 (by decide) (fun c_24 => ?_) (fun c_24 => ?_)
          ·
            refine lv_iinc (v := (nI (i + 1))) (lv' := [(4, .int (nI (i + 1))), (0, .ref a0), (1, .ref c0), (2, .int p0), (3, .int p1)]) hx hb dX4_meets_43 hl (k := 0) rfl (nI_1 i) (by decide) rfl (fun ls hl => ?_)
            refine lv_goto (tgt := 3) hx hb dX4_meets_46 (by decide) ?_
            exact ih (i + 1) ls (by omega) (by omega) (lv_sub hl [0, 1, 2, 3, 4] rfl)
          ·
            refine lv_aload_n hx hb dX4_meets_26 rfl (lv_at hl 2 rfl) ?_
            refine lv_aload_n hx hb dX4_meets_27 rfl (lv_at hl 1 rfl) ?_
            obtain ⟨kk_25, hk_26⟩ := pl_at ha0.1 hs
            refine w_then (F0 m 31 ls [.ref pa, .ref c0]) (fun hgo => ?_) ?_
            ·
              rcases x_tag ha0 with ht9 | ht9 | ht9 | ht9 | ht9 | ht9
              ·
                rw [ht9.2] at hk_26
                exact va_get (D := (dC, dI)) (ci := 2) (v := .ref pa) (C := RX2) (T := TX2) (N := 7) hx hb hts (by decide +kernel) hown hK hP kk_25 hk_26 rfl 2 (by decide) (hts (.fieldLink RX4 31 "PageOne$Item" "pieces" "[LPageOne$Piece;") (by decide +kernel)) (fun _ h9 => h9) rfl dX4_meets_28 hgo
              ·
                rw [ht9.2] at hk_26
                exact va_get (D := (dC, dI)) (ci := 3) (v := .ref pa) (C := RX3) (T := TX3) (N := 8) hx hb hts (by decide +kernel) hown hK hP kk_25 hk_26 rfl 2 (by decide) (hts (.fieldLink RX4 31 "PageOne$Item" "pieces" "[LPageOne$Piece;") (by decide +kernel)) (fun _ h9 => h9) rfl dX4_meets_28 hgo
              ·
                rw [ht9.2] at hk_26
                exact va_get (D := (dC, dI)) (ci := 4) (v := .ref pa) (C := RX5) (T := TX5) (N := 7) hx hb hts (by decide +kernel) hown hK hP kk_25 hk_26 rfl 2 (by decide) (hts (.fieldLink RX4 31 "PageOne$Item" "pieces" "[LPageOne$Piece;") (by decide +kernel)) (fun _ h9 => h9) rfl dX4_meets_28 hgo
              ·
                rw [ht9.2] at hk_26
                exact va_get (D := (dC, dI)) (ci := 5) (v := .ref pa) (C := RX6) (T := TX6) (N := 9) hx hb hts (by decide +kernel) hown hK hP kk_25 hk_26 rfl 2 (by decide) (hts (.fieldLink RX4 31 "PageOne$Item" "pieces" "[LPageOne$Piece;") (by decide +kernel)) (fun _ h9 => h9) rfl dX4_meets_28 hgo
              ·
                rw [ht9.2] at hk_26
                exact va_get (D := (dC, dI)) (ci := 6) (v := .ref pa) (C := RX7) (T := TX7) (N := 8) hx hb hts (by decide +kernel) hown hK hP kk_25 hk_26 rfl 2 (by decide) (hts (.fieldLink RX4 31 "PageOne$Item" "pieces" "[LPageOne$Piece;") (by decide +kernel)) (fun _ h9 => h9) rfl dX4_meets_28 hgo
              ·
                rw [ht9.2] at hk_26
                exact va_get (D := (dC, dI)) (ci := 9) (v := .ref pa) (C := RX10) (T := TX10) (N := 9) hx hb hts (by decide +kernel) hown hK hP kk_25 hk_26 rfl 2 (by decide) (hts (.fieldLink RX4 31 "PageOne$Item" "pieces" "[LPageOne$Piece;") (by decide +kernel)) (fun _ h9 => h9) rfl dX4_meets_28 hgo
            ·
              refine lv_iload hx hb dX4_meets_31 (lv_at hl 0 rfl) ?_
              obtain ⟨kk_27, hk_28⟩ := pl_at hpa.1 hps
              refine va_aldq hx hb hK hP kk_27 5 hk_28 rfl (vp_in_nI (by omega) (by omega)) dX4_meets_33 ?_
              obtain ⟨b_29, hg_30⟩ := hnn ((nI i) : Int32).toNatClampNeg (by rw [nI_clamp (by omega), nI_clamp (by omega)]; exact hlt)
              have ht_31 := hlg ((nI i) : Int32).toNatClampNeg (vlt (vp_in_nI (by omega) (by omega))) b_29 hg_30
              rw [hg_30]
              refine W.eq (g2 := F0 m 34 ls [.ref b_29, .ref c0]) rfl ?_
              refine lv_iload_n hx hb dX4_meets_34 rfl (lv_at hl 4 rfl) ?_
              have hcp := ht_31
              obtain ⟨it_32, P_33, X_34, Y_35, D_36, N_37, hp_38, hb_39, hb_40, hb_41, hb_42⟩ := hcp
              refine w_cut (X := fun R cells slots Q args => ∀ r : Int32, (r = 0 ∨ r = 1) → W p l e R s m args below meth c H locs cells slots Q (F0 m 38 ls (.int r :: []))) ?_ (fun kC => ?_)
              ·
                intro r hw
                rcases hw with hw | hw
                ·
                  subst hw
                  refine lv_if_eq (tgt := 43) hx hb dX4_meets_38 (by decide) (fun c_138 => ?_) (fun c_138 => absurd (by decide) c_138)
                  refine lv_iinc (v := (nI (i + 1))) (lv' := [(4, .int (nI (i + 1))), (0, .ref a0), (1, .ref c0), (2, .int p0), (3, .int p1)]) hx hb dX4_meets_43 hl (k := 0) rfl (nI_1 i) (by decide) rfl (fun ls hl => ?_)
                  refine lv_goto (tgt := 3) hx hb dX4_meets_46 (by decide) ?_
                  exact ih (i + 1) ls (by omega) (by omega) (lv_sub hl [0, 1, 2, 3, 4] rfl)
                ·
                  subst hw
                  refine lv_if_eq (tgt := 43) hx hb dX4_meets_38 (by decide) (fun c_139 => absurd c_139 (by decide)) (fun c_139 => ?_)
                  exact kx41 ls (lv_sub hl [1, 2, 3, 4] rfl)
              ·
                rcases x_tag hc0 with ht9 | ht9 | ht9 | ht9 | ht9 | ht9
                ·
                  obtain ⟨nu_43, kd_44, cn_45, pa_46, fa_47, l_48, m_49, hs_50, hs_51, hs_52, hs_53⟩ := x_ifl hI ht9
                  obtain ⟨kk_54, hk_55⟩ := pl_at ht9.1 hs_50
                  exact vp_callSi (va_runU (As := [.ref b_29, .int p1]) (rest := []) ⟨hx, hb, hml, hown, hts⟩ (x_touches l dC dI q h0 d k z f hI c0 b_29 p1 hc0 hp_38.1) (va_cwU 2 hts gX4_meets_X4_touches_u48X2 rfl rfl rfl rfl (by decide +kernel) ⟨Nat.le_trans (Nat.le_of_ble_eq_true rfl) hRf, Nat.le_trans (Nat.le_of_ble_eq_true rfl) hRl⟩) ⟨px_fb, va_recv hK hP (ci := 2) (q0 := kk_54) rfl hk_55, fun U hU hW => ⟨rfl, px_to hU hW hP hK hN hXN⟩⟩ rfl rfl hl.1 rfl (lv_room (Nat.le_of_ble_eq_true rfl)) dX4_meets_35 ⟨hRc, hRs⟩).run (fun r hw => kC r hw)
                ·
                  obtain ⟨nu_56, kd_57, cn_58, pa_59, fa_60, o_61, w_62, y_63, hs_64, hs_65, hs_66, hs_67, hq_68⟩ := x_ihd hI ht9
                  obtain ⟨kk_69, hk_70⟩ := pl_at ht9.1 hs_64
                  exact vp_callSi (va_runU (As := [.ref b_29, .int p1]) (rest := []) ⟨hx, hb, hml, hown, hts⟩ (x_touches l dC dI q h0 d k z f hI c0 b_29 p1 hc0 hp_38.1) (va_cwU 2 hts gX4_meets_X4_touches_u48X3 rfl rfl rfl rfl (by decide +kernel) ⟨Nat.le_trans (Nat.le_of_ble_eq_true rfl) hRf, Nat.le_trans (Nat.le_of_ble_eq_true rfl) hRl⟩) ⟨px_fb, va_recv hK hP (ci := 3) (q0 := kk_69) rfl hk_70, fun U hU hW => ⟨rfl, px_to hU hW hP hK hN hXN⟩⟩ rfl rfl hl.1 rfl (lv_room (Nat.le_of_ble_eq_true rfl)) dX4_meets_35 ⟨hRc, hRs⟩).run (fun r hw => kC r hw)
                ·
                  obtain ⟨nu_71, kd_72, cn_73, pa_74, fa_75, o_76, y_77, hs_78, hs_79, hs_80, hs_81, hq_82⟩ := x_ino hI ht9
                  obtain ⟨kk_83, hk_84⟩ := pl_at ht9.1 hs_78
                  exact vp_callSi (va_runU (As := [.ref b_29, .int p1]) (rest := []) ⟨hx, hb, hml, hown, hts⟩ (x_touches l dC dI q h0 d k z f hI c0 b_29 p1 hc0 hp_38.1) (va_cwU 2 hts gX4_meets_X4_touches_u48X5 rfl rfl rfl rfl (by decide +kernel) ⟨Nat.le_trans (Nat.le_of_ble_eq_true rfl) hRf, Nat.le_trans (Nat.le_of_ble_eq_true rfl) hRl⟩) ⟨px_fb, va_recv hK hP (ci := 4) (q0 := kk_83) rfl hk_84, fun U hU hW => ⟨rfl, px_to hU hW hP hK hN hXN⟩⟩ rfl rfl hl.1 rfl (lv_room (Nat.le_of_ble_eq_true rfl)) dX4_meets_35 ⟨hRc, hRs⟩).run (fun r hw => kC r hw)
                ·
                  obtain ⟨nu_85, kd_86, cn_87, pa_88, fa_89, b_90, pr_91, sp_92, dy_93, hs_94, hs_95, hs_96, hs_97, hq_98, hq_99, hq_100⟩ := x_ipd hI ht9
                  obtain ⟨kk_101, hk_102⟩ := pl_at ht9.1 hs_94
                  exact vp_callSi (va_runU (As := [.ref b_29, .int p1]) (rest := []) ⟨hx, hb, hml, hown, hts⟩ (x_touches l dC dI q h0 d k z f hI c0 b_29 p1 hc0 hp_38.1) (va_cwU 2 hts gX4_meets_X4_touches_u48X6 rfl rfl rfl rfl (by decide +kernel) ⟨Nat.le_trans (Nat.le_of_ble_eq_true rfl) hRf, Nat.le_trans (Nat.le_of_ble_eq_true rfl) hRl⟩) ⟨px_fb, va_recv hK hP (ci := 5) (q0 := kk_101) rfl hk_102, fun U hU hW => ⟨rfl, px_to hU hW hP hK hN hXN⟩⟩ rfl rfl hl.1 rfl (lv_room (Nat.le_of_ble_eq_true rfl)) dX4_meets_35 ⟨hRc, hRs⟩).run (fun r hw => kC r hw)
                ·
                  obtain ⟨nu_103, kd_104, cn_105, pa_106, fa_107, ww_108, hh_109, sz_110, hs_111, hs_112, hs_113, hs_114, hq_115, hq_116, hq_117⟩ := x_ipi hI ht9
                  obtain ⟨kk_118, hk_119⟩ := pl_at ht9.1 hs_111
                  exact vp_callSi (va_runU (As := [.ref b_29, .int p1]) (rest := []) ⟨hx, hb, hml, hown, hts⟩ (x_touches l dC dI q h0 d k z f hI c0 b_29 p1 hc0 hp_38.1) (va_cwU 2 hts gX4_meets_X4_touches_u48X7 rfl rfl rfl rfl (by decide +kernel) ⟨Nat.le_trans (Nat.le_of_ble_eq_true rfl) hRf, Nat.le_trans (Nat.le_of_ble_eq_true rfl) hRl⟩) ⟨px_fb, va_recv hK hP (ci := 6) (q0 := kk_118) rfl hk_119, fun U hU hW => ⟨rfl, px_to hU hW hP hK hN hXN⟩⟩ rfl rfl hl.1 rfl (lv_room (Nat.le_of_ble_eq_true rfl)) dX4_meets_35 ⟨hRc, hRs⟩).run (fun r hw => kC r hw)
                ·
                  obtain ⟨nu_120, kd_121, cn_122, pa_123, fa_124, l_125, co_126, wd_127, nm_128, hs_129, hs_130, hs_131, hs_132, hq_133, hq_134, hq_135⟩ := x_ist hI ht9
                  obtain ⟨kk_136, hk_137⟩ := pl_at ht9.1 hs_129
                  exact vp_callSi (va_runU (As := [.ref b_29, .int p1]) (rest := []) ⟨hx, hb, hml, hown, hts⟩ (x_touches l dC dI q h0 d k z f hI c0 b_29 p1 hc0 hp_38.1) (va_cwU 2 hts gX4_meets_X4_touches_u48X10 rfl rfl rfl rfl (by decide +kernel) ⟨Nat.le_trans (Nat.le_of_ble_eq_true rfl) hRf, Nat.le_trans (Nat.le_of_ble_eq_true rfl) hRl⟩) ⟨px_fb, va_recv hK hP (ci := 9) (q0 := kk_136) rfl hk_137, fun U hU hW => ⟨rfl, px_to hU hW hP hK hN hXN⟩⟩ rfl rfl hl.1 rfl (lv_room (Nat.le_of_ble_eq_true rfl)) dX4_meets_35 ⟨hRc, hRs⟩).run (fun r hw => kC r hw)
set_option maxHeartbeats 4000000 in
set_option maxRecDepth 100000 in
theorem x_meets (l : Launch) (dC : Nat → ClassId) (dI : Nat → Nat → Nat) (q : Nat → ClassId) (h0 : Nat) (d : Nat → Nat) (k : Nat → Int32) (z : gS) (f : xF) (hI : xI q h0 d k z f) (a0 c0 : Nat) (p0 p1 : Int32) (ha0 : itm z a0) (hc0 : itm z c0) : Met l yX4_meets wsX4_meets ({ frames := 2, cells := 0, slots := 0, locals := 45 }) (va_Pc [.ref a0, .ref c0, .int p0, .int p1] (PX dC dI (va_pl z.1 f) (xT q))) (vp_Si (fun r => r = 0 ∨ r = 1)) 0 0 (fun _ => False) := by
  refine Met.ofW (cc := cX4_meets) (maxL := 5) (ret := (some .boolean)) (by decide) rfl ?_
  intro p e s m args below meth c s₁ B hml hv
  obtain ⟨rfl, ⟨hP, hK, hN⟩, hXN⟩ := hv
  have hx := B.exec
  have hb := B.bytes
  have hr := B.returns
  have hts := atoms_spec (ws := wsX4_meets) B.pre
  have hown : s.vm.findClass RX4 = some m.cls := findClass_of_methodNamed B.named
  have hlocks := B.notSynchronized
  have hl := lv_entry ([.ref a0, .ref c0, .int p0, .int p1]) (n := 5) (Nat.le_of_ble_eq_true rfl)
  rw [lg_entry_eq]
  generalize (lg_sl ([.ref a0, .ref c0, .int p0, .int p1]) ++ List.replicate (5 - (lg_sl ([.ref a0, .ref c0, .int p0, .int p1])).length) Slot.unset).toArray = ls at hl ⊢
  have hl : lv_has ls 5 [(0, .ref a0), (1, .ref c0), (2, .int p0), (3, .int p1)] := hl
  refine lv_iconst (v := 0) hx hb dX4_meets_0 (by decide) ?_
  refine lv_istore (lv' := [(4, .int 0), (0, .ref a0), (1, .ref c0), (2, .int p0), (3, .int p1)]) hx hb dX4_meets_1 hl (by decide) rfl (fun ls hl => ?_)
  obtain ⟨nu_1, kd_2, cn_3, pa_4, fa_5, rs_6, hs_7, hs_8, hs_9, hs_10, hs_11⟩ := x_im hI ha0
  obtain ⟨n_12, g_13, hs_14, h1_15, h6_16, hc_17, hn_18, hg_19⟩ := x_pcs hI ha0 rfl hs_7
  obtain ⟨K, hK1, -, eK⟩ := exN hc_17 (by decide)
  rw [nI_toInt (by omega)] at hK1
  subst eK
  refine x_meets_l hI hx hb hml hts hown hN hXN hK (Nat.le_of_ble_eq_true rfl) (Nat.le_of_ble_eq_true rfl) (Nat.le_of_ble_eq_true rfl) (Nat.le_of_ble_eq_true rfl) hP ha0 hs_7 hs_8 hs_14 (by omega) h6_16 hn_18 hg_19 hc0 (fun ls hl => ?_) (fun ls hl => ?_) (K + 1) 0 ls (Nat.zero_le _) (by omega) (lv_sub hl [0, 1, 2, 3, 4] rfl)
  ·
    refine lv_iconst (v := 0) hx hb dX4_meets_49 (by decide) ?_
    exact W.zret (v := 0) hx hb hr (by decide) (fun t ht hW => ⟨_, rfl, (by decide), ht⟩) (fun q h => absurd h List.not_mem_nil) dX4_meets_50
  ·
    refine lv_iconst (v := 1) hx hb dX4_meets_41 (by decide) ?_
    exact W.zret (v := 1) hx hb hr (by decide) (fun t ht hW => ⟨_, rfl, (by decide), ht⟩) (fun q h => absurd h List.not_mem_nil) dX4_meets_42
