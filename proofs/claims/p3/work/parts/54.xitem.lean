theorem nn_up {g : Nat → Option Nat} {m i : Nat} {v : Option Nat} (h : ∀ j, j < m → ∃ b, g j = some b) (hi : m ≤ i) : ∀ j, j < m → ∃ x, va_up g i v j = some x := by
  intro j hj; unfold va_up; rw [if_neg (by omega)]; exact h j hj
theorem nn_up1 {g : Nat → Option Nat} {m b : Nat} (h : ∀ j, j < m → ∃ b, g j = some b) : ∀ j, j < m + 1 → ∃ x, va_up g m (some b) j = some x := by
  intro j hj
  unfold va_up
  by_cases e : j = m
  · exact ⟨b, if_pos e⟩
  · rw [if_neg e]; exact h j (by omega)
theorem ty_up {P : Nat → Prop} {g : Nat → Option Nat} {n i : Nat} {v : Option Nat} (h : ∀ j, j < n → ∀ b, g j = some b → P b) (hv : ∀ b, v = some b → P b) : ∀ j, j < n → ∀ b, va_up g i v j = some b → P b := by
  intro j hj b hb
  unfold va_up at hb
  split at hb
  · exact hv b hb
  · exact h j hj b hb
theorem ty_s {P : Nat → Prop} {a : Nat} (h : P a) : ∀ b, some a = some b → P b := fun b e => by rw [← Option.some.inj e]; exact h
theorem ty_n {P : Nat → Prop} : ∀ b : Nat, (none : Option Nat) = some b → P b := fun b e => by cases e
theorem vcn {cn : Int32} {n : Nat} (hn : n ≤ 6) (h : bw cn 0 (nI n) = true) (h2 : ¬ nI n ≤ cn) : vp_in cn n := by
  have h1 := bw_iff.mp h
  rw [i0, nI_toInt (by omega)] at h1
  rw [i32_le, nI_toInt (by omega)] at h2
  rw [vp_in_iff]; omega
theorem bcn1 {cn x : Int32} {n : Nat} (hn : n ≤ 6) (h : bw cn 0 (nI n) = true) (h2 : ¬ nI n ≤ cn) (hx : x = cn + 1) : bw x 0 (nI n) = true ∧ x.toNatClampNeg = cn.toNatClampNeg + 1 := by
  have h1 := bw_iff.mp h
  rw [i0, nI_toInt (by omega)] at h1
  rw [i32_le, nI_toInt (by omega)] at h2
  obtain ⟨j, j1, j2, e⟩ := exN h (by decide)
  rw [nI_toInt (by omega)] at j1
  subst e
  rw [nI_toInt (by omega)] at h2 h1
  rw [hx, nI_1, nI_clamp (by omega), nI_clamp (by omega)]
  exact ⟨bwN (by rw [nI_toInt (by omega)]; omega) (by omega), rfl⟩
theorem bcm1 {cn x : Int32} {n : Nat} (hn : n ≤ 6) (h : bw cn 0 (nI n) = true) (h2 : ¬ cn ≤ 0) (hx : x = cn - 1) : bw x 0 (nI n) = true ∧ x.toNatClampNeg + 1 = cn.toNatClampNeg ∧ vp_in x n := by
  have h1 := bw_iff.mp h
  rw [i0, nI_toInt (by omega)] at h1
  rw [i32_le, i0] at h2
  obtain ⟨j, j1, j2, e⟩ := exN h (by decide)
  rw [nI_toInt (by omega)] at j1
  subst e
  rw [nI_toInt (by omega)] at h2 h1
  rw [hx, dn_e (by omega), nI_clamp (by omega), nI_clamp (by omega)]
  exact ⟨bwN (by rw [nI_toInt (by omega)]; omega) (by omega), by omega, vp_in_nI (by omega) (by omega)⟩
theorem up_comm {f : xF} {a b : Nat} {x y : va_E} (h : a ≠ b) : va_up (va_up f a x) b y = va_up (va_up f b y) a x := by
  funext c
  unfold va_up
  by_cases e1 : c = b
  · rw [if_pos e1, if_neg (fun e => h (by rw [← e, e1])), if_pos e1]
  · rw [if_neg e1]
    by_cases e2 : c = a
    · rw [if_pos e2, if_pos e2]
    · rw [if_neg e2, if_neg e2, if_neg e1]
set_option maxHeartbeats 4000000 in
set_option maxRecDepth 100000 in
theorem x_hasRoom (l : Launch) (dC : Nat → ClassId) (dI : Nat → Nat → Nat) (q : Nat → ClassId) (h0 : Nat) (d : Nat → Nat) (k : Nat → Int32) (z : gS) (f : xF) (hI : xI q h0 d k z f) (a0 : Nat) (ha0 : itm z a0) (nu kd cn : Int32) (pa fa : Nat) (rs : List Value) (hs : f a0 = .inr (ciT (z.2 a0).1, itF nu kd pa cn fa rs)) (n : Nat) (g : Nat → Option Nat) (hps : f pa = aR (q 5) n g) (hpa : tg z pa 16) : Met l yX4_hasRoom wsX4_hasRoom ({ frames := 0, cells := 0, slots := 0, locals := 0 }) (va_Pc [.ref a0] (PX dC dI (va_pl z.1 f) (xT q))) (vp_Si (fun r => r = 0 ∨ (r = 1 ∧ ¬ nI n ≤ cn))) 0 0 (fun _ => False) := by
  refine Met.ofW (cc := cX4_hasRoom) (maxL := 1) (ret := (some .boolean)) (by decide) rfl ?_
  intro p e s m args below meth c s₁ B hml hv
  obtain ⟨rfl, ⟨hP, hK, hN⟩, hXN⟩ := hv
  have hx := B.exec
  have hb := B.bytes
  have hr := B.returns
  have hts := atoms_spec (ws := wsX4_hasRoom) B.pre
  have hown : s.vm.findClass RX4 = some m.cls := findClass_of_methodNamed B.named
  have hlocks := B.notSynchronized
  have hl := lv_entry ([.ref a0]) (n := 1) (Nat.le_of_ble_eq_true rfl)
  rw [lg_entry_eq]
  generalize (lg_sl ([.ref a0]) ++ List.replicate (1 - (lg_sl ([.ref a0])).length) Slot.unset).toArray = ls at hl ⊢
  have hl : lv_has ls 1 [(0, .ref a0)] := hl
  refine lv_aload_n hx hb dX4_hasRoom_0 rfl (lv_at hl 0 rfl) ?_
  obtain ⟨kk_1, hk_2⟩ := pl_at ha0.1 hs
  refine w_then (F0 m 4 ls [.int cn]) (fun hgo => ?_) ?_
  ·
    rcases x_tag ha0 with ht9 | ht9 | ht9 | ht9 | ht9 | ht9
    ·
      rw [ht9.2] at hk_2
      exact va_get (D := (dC, dI)) (ci := 2) (v := .int cn) (C := RX2) (T := TX2) (N := 7) hx hb hts (by decide +kernel) hown hK hP kk_1 hk_2 rfl 3 (by decide) (hts (.fieldLink RX4 9 "PageOne$Item" "count" "I") (by decide +kernel)) (fun _ h9 => h9) rfl dX4_hasRoom_1 hgo
    ·
      rw [ht9.2] at hk_2
      exact va_get (D := (dC, dI)) (ci := 3) (v := .int cn) (C := RX3) (T := TX3) (N := 8) hx hb hts (by decide +kernel) hown hK hP kk_1 hk_2 rfl 3 (by decide) (hts (.fieldLink RX4 9 "PageOne$Item" "count" "I") (by decide +kernel)) (fun _ h9 => h9) rfl dX4_hasRoom_1 hgo
    ·
      rw [ht9.2] at hk_2
      exact va_get (D := (dC, dI)) (ci := 4) (v := .int cn) (C := RX5) (T := TX5) (N := 7) hx hb hts (by decide +kernel) hown hK hP kk_1 hk_2 rfl 3 (by decide) (hts (.fieldLink RX4 9 "PageOne$Item" "count" "I") (by decide +kernel)) (fun _ h9 => h9) rfl dX4_hasRoom_1 hgo
    ·
      rw [ht9.2] at hk_2
      exact va_get (D := (dC, dI)) (ci := 5) (v := .int cn) (C := RX6) (T := TX6) (N := 9) hx hb hts (by decide +kernel) hown hK hP kk_1 hk_2 rfl 3 (by decide) (hts (.fieldLink RX4 9 "PageOne$Item" "count" "I") (by decide +kernel)) (fun _ h9 => h9) rfl dX4_hasRoom_1 hgo
    ·
      rw [ht9.2] at hk_2
      exact va_get (D := (dC, dI)) (ci := 6) (v := .int cn) (C := RX7) (T := TX7) (N := 8) hx hb hts (by decide +kernel) hown hK hP kk_1 hk_2 rfl 3 (by decide) (hts (.fieldLink RX4 9 "PageOne$Item" "count" "I") (by decide +kernel)) (fun _ h9 => h9) rfl dX4_hasRoom_1 hgo
    ·
      rw [ht9.2] at hk_2
      exact va_get (D := (dC, dI)) (ci := 9) (v := .int cn) (C := RX10) (T := TX10) (N := 9) hx hb hts (by decide +kernel) hown hK hP kk_1 hk_2 rfl 3 (by decide) (hts (.fieldLink RX4 9 "PageOne$Item" "count" "I") (by decide +kernel)) (fun _ h9 => h9) rfl dX4_hasRoom_1 hgo
  ·
    refine lv_aload_n hx hb dX4_hasRoom_4 rfl (lv_at hl 0 rfl) ?_
    obtain ⟨kk_3, hk_4⟩ := pl_at ha0.1 hs
    refine w_then (F0 m 8 ls [.ref pa, .int cn]) (fun hgo => ?_) ?_
    ·
      rcases x_tag ha0 with ht9 | ht9 | ht9 | ht9 | ht9 | ht9
      ·
        rw [ht9.2] at hk_4
        exact va_get (D := (dC, dI)) (ci := 2) (v := .ref pa) (C := RX2) (T := TX2) (N := 7) hx hb hts (by decide +kernel) hown hK hP kk_3 hk_4 rfl 2 (by decide) (hts (.fieldLink RX4 31 "PageOne$Item" "pieces" "[LPageOne$Piece;") (by decide +kernel)) (fun _ h9 => h9) rfl dX4_hasRoom_5 hgo
      ·
        rw [ht9.2] at hk_4
        exact va_get (D := (dC, dI)) (ci := 3) (v := .ref pa) (C := RX3) (T := TX3) (N := 8) hx hb hts (by decide +kernel) hown hK hP kk_3 hk_4 rfl 2 (by decide) (hts (.fieldLink RX4 31 "PageOne$Item" "pieces" "[LPageOne$Piece;") (by decide +kernel)) (fun _ h9 => h9) rfl dX4_hasRoom_5 hgo
      ·
        rw [ht9.2] at hk_4
        exact va_get (D := (dC, dI)) (ci := 4) (v := .ref pa) (C := RX5) (T := TX5) (N := 7) hx hb hts (by decide +kernel) hown hK hP kk_3 hk_4 rfl 2 (by decide) (hts (.fieldLink RX4 31 "PageOne$Item" "pieces" "[LPageOne$Piece;") (by decide +kernel)) (fun _ h9 => h9) rfl dX4_hasRoom_5 hgo
      ·
        rw [ht9.2] at hk_4
        exact va_get (D := (dC, dI)) (ci := 5) (v := .ref pa) (C := RX6) (T := TX6) (N := 9) hx hb hts (by decide +kernel) hown hK hP kk_3 hk_4 rfl 2 (by decide) (hts (.fieldLink RX4 31 "PageOne$Item" "pieces" "[LPageOne$Piece;") (by decide +kernel)) (fun _ h9 => h9) rfl dX4_hasRoom_5 hgo
      ·
        rw [ht9.2] at hk_4
        exact va_get (D := (dC, dI)) (ci := 6) (v := .ref pa) (C := RX7) (T := TX7) (N := 8) hx hb hts (by decide +kernel) hown hK hP kk_3 hk_4 rfl 2 (by decide) (hts (.fieldLink RX4 31 "PageOne$Item" "pieces" "[LPageOne$Piece;") (by decide +kernel)) (fun _ h9 => h9) rfl dX4_hasRoom_5 hgo
      ·
        rw [ht9.2] at hk_4
        exact va_get (D := (dC, dI)) (ci := 9) (v := .ref pa) (C := RX10) (T := TX10) (N := 9) hx hb hts (by decide +kernel) hown hK hP kk_3 hk_4 rfl 2 (by decide) (hts (.fieldLink RX4 31 "PageOne$Item" "pieces" "[LPageOne$Piece;") (by decide +kernel)) (fun _ h9 => h9) rfl dX4_hasRoom_5 hgo
    ·
      obtain ⟨kk_5, hk_6⟩ := pl_at hpa.1 hps
      refine va_alen hx hb hK hP kk_5 5 hk_6 rfl (v := nI n) rfl dX4_hasRoom_8 ?_
      refine lv_icmp_ge (tgt := 16) hx hb dX4_hasRoom_9 (by decide) (fun c_7 => ?_) (fun c_7 => ?_)
      ·
        refine lv_iconst (v := 0) hx hb dX4_hasRoom_16 (by decide) ?_
        exact W.zret (v := 0) hx hb hr (by decide) (fun t ht hW => ⟨_, rfl, (Or.inl rfl), ht⟩) (fun q h => absurd h List.not_mem_nil) dX4_hasRoom_17
      ·
        refine lv_iconst (v := 1) hx hb dX4_hasRoom_12 (by decide) ?_
        refine lv_goto (tgt := 17) hx hb dX4_hasRoom_13 (by decide) ?_
        exact W.zret (v := 1) hx hb hr (by decide) (fun t ht hW => ⟨_, rfl, (Or.inr ⟨rfl, c_7⟩), ht⟩) (fun q h => absurd h List.not_mem_nil) dX4_hasRoom_17
set_option maxHeartbeats 4000000 in
set_option maxRecDepth 100000 in
theorem x_gain (l : Launch) (dC : Nat → ClassId) (dI : Nat → Nat → Nat) (q : Nat → ClassId) (h0 : Nat) (d : Nat → Nat) (k : Nat → Int32) (z : gS) (f : xF) (hI : xI q h0 d k z f) (a0 : Nat) (ha0 : itm z a0) (b0 : Nat) (hb0 : lgP z b0) (sz : Nat) : Met l yX4_gain wsX4_gain ({ frames := 1, cells := 0, slots := 0, locals := 20 }) (va_Pc [.ref a0, .ref b0] (fun U => U.heap.size = sz ∧ PX dC dI (va_pl z.1 f) (xT q) U ∧ va_D (fun _ => True) (va_pl z.1 f))) (va_Qv (fun (w : xU) => w.1 = k ∧ w.2.1 = z ∧ xI q h0 d k z w.2.2) (fun (w : xU) t => va_P (dC, dI) vwCl (va_pl w.2.1.1 w.2.2) t.heap ∧ va_D (va_A (va_pl z.1 f) sz) (va_pl w.2.1.1 w.2.2)) (va_A (va_pl z.1 f) sz)) 0 0 (va_A (va_pl z.1 f) sz) := by
  refine Met.ofW (cc := cX4_gain) (maxL := 2) (ret := none) (by decide) rfl ?_
  intro p e s m args below meth c s₁ B hml hv
  obtain ⟨rfl, hsz, ⟨⟨hP, hK, hN⟩, hXN⟩, hD0⟩ := hv
  have hx := B.exec
  have hb := B.bytes
  have hr := B.returns
  have hts := atoms_spec (ws := wsX4_gain) B.pre
  have hown : s.vm.findClass RX4 = some m.cls := findClass_of_methodNamed B.named
  have hlocks := B.notSynchronized
  subst hsz
  have hD := hD0.self (sz := s.heap.size)
  generalize hAe : va_A (va_pl z.1 f) s.heap.size = A at hD ⊢
  have hA : ∀ q : Nat, s.heap.size ≤ q → A q := fun q h => by rw [← hAe]; exact Or.inr h
  have hS : va_S A s.heap s.heap [] := va_S.rf
  have hl := lv_entry ([.ref a0, .ref b0]) (n := 2) (Nat.le_of_ble_eq_true rfl)
  rw [lg_entry_eq]
  generalize (lg_sl ([.ref a0, .ref b0]) ++ List.replicate (2 - (lg_sl ([.ref a0, .ref b0])).length) Slot.unset).toArray = ls at hl ⊢
  have hl : lv_has ls 2 [(0, .ref a0), (1, .ref b0)] := hl
  refine lv_aload_n hx hb dX4_gain_0 rfl (lv_at hl 0 rfl) ?_
  obtain ⟨nu_1, kd_2, cn_3, pa_4, fa_5, rs_6, hs_7, hs_8, hs_9, hs_10, hs_11⟩ := x_im hI ha0
  obtain ⟨n_12, g_13, hs_14, h1_15, h6_16, hc_17, hn_18, hg_19⟩ := x_pcs hI ha0 rfl hs_7
  refine w_cut (X := fun R cells slots Q args => ∀ r : Int32, (r = 0 ∨ (r = 1 ∧ ¬ nI n_12 ≤ cn_3)) → W p l e R s m args below meth c s.heap [] cells slots Q (F0 m 4 ls (.int r :: []))) ?_ (fun kC => ?_)
  ·
    intro r hw
    rcases hw with hw | ⟨hw, hroom⟩
    ·
      subst hw
      refine lv_if_eq (tgt := 27) hx hb dX4_gain_4 (by decide) (fun c_115 => ?_) (fun c_115 => absurd (by decide) c_115)
      exact W.vret hx hb hr (fun t ht hW => ⟨⟨(k, z, f), rfl, ⟨rfl, rfl, hI⟩, by rw [ht]; exact hP, hD⟩, hS.F ht⟩) hS.2.2 dX4_gain_27
    ·
      subst hw
      refine lv_if_eq (tgt := 27) hx hb dX4_gain_4 (by decide) (fun c_116 => absurd c_116 (by decide)) (fun c_116 => ?_)
      refine lv_aload_n hx hb dX4_gain_7 rfl (lv_at hl 0 rfl) ?_
      obtain ⟨kk_117, hk_118⟩ := pl_at ha0.1 hs_7
      refine w_then (F0 m 11 ls [.ref pa_4]) (fun hgo => ?_) ?_
      ·
        rcases x_tag ha0 with ht9 | ht9 | ht9 | ht9 | ht9 | ht9
        ·
          rw [ht9.2] at hk_118
          exact va_get (D := (dC, dI)) (ci := 2) (v := .ref pa_4) (C := RX2) (T := TX2) (N := 7) hx hb hts (by decide +kernel) hown hK hP kk_117 hk_118 rfl 2 (by decide) (hts (.fieldLink RX4 31 "PageOne$Item" "pieces" "[LPageOne$Piece;") (by decide +kernel)) (fun _ h9 => h9) rfl dX4_gain_8 hgo
        ·
          rw [ht9.2] at hk_118
          exact va_get (D := (dC, dI)) (ci := 3) (v := .ref pa_4) (C := RX3) (T := TX3) (N := 8) hx hb hts (by decide +kernel) hown hK hP kk_117 hk_118 rfl 2 (by decide) (hts (.fieldLink RX4 31 "PageOne$Item" "pieces" "[LPageOne$Piece;") (by decide +kernel)) (fun _ h9 => h9) rfl dX4_gain_8 hgo
        ·
          rw [ht9.2] at hk_118
          exact va_get (D := (dC, dI)) (ci := 4) (v := .ref pa_4) (C := RX5) (T := TX5) (N := 7) hx hb hts (by decide +kernel) hown hK hP kk_117 hk_118 rfl 2 (by decide) (hts (.fieldLink RX4 31 "PageOne$Item" "pieces" "[LPageOne$Piece;") (by decide +kernel)) (fun _ h9 => h9) rfl dX4_gain_8 hgo
        ·
          rw [ht9.2] at hk_118
          exact va_get (D := (dC, dI)) (ci := 5) (v := .ref pa_4) (C := RX6) (T := TX6) (N := 9) hx hb hts (by decide +kernel) hown hK hP kk_117 hk_118 rfl 2 (by decide) (hts (.fieldLink RX4 31 "PageOne$Item" "pieces" "[LPageOne$Piece;") (by decide +kernel)) (fun _ h9 => h9) rfl dX4_gain_8 hgo
        ·
          rw [ht9.2] at hk_118
          exact va_get (D := (dC, dI)) (ci := 6) (v := .ref pa_4) (C := RX7) (T := TX7) (N := 8) hx hb hts (by decide +kernel) hown hK hP kk_117 hk_118 rfl 2 (by decide) (hts (.fieldLink RX4 31 "PageOne$Item" "pieces" "[LPageOne$Piece;") (by decide +kernel)) (fun _ h9 => h9) rfl dX4_gain_8 hgo
        ·
          rw [ht9.2] at hk_118
          exact va_get (D := (dC, dI)) (ci := 9) (v := .ref pa_4) (C := RX10) (T := TX10) (N := 9) hx hb hts (by decide +kernel) hown hK hP kk_117 hk_118 rfl 2 (by decide) (hts (.fieldLink RX4 31 "PageOne$Item" "pieces" "[LPageOne$Piece;") (by decide +kernel)) (fun _ h9 => h9) rfl dX4_gain_8 hgo
      ·
        refine lv_aload_n hx hb dX4_gain_11 rfl (lv_at hl 0 rfl) ?_
        obtain ⟨kk_119, hk_120⟩ := pl_at ha0.1 hs_7
        refine w_then (F0 m 15 ls [.int cn_3, .ref pa_4]) (fun hgo => ?_) ?_
        ·
          rcases x_tag ha0 with ht9 | ht9 | ht9 | ht9 | ht9 | ht9
          ·
            rw [ht9.2] at hk_120
            exact va_get (D := (dC, dI)) (ci := 2) (v := .int cn_3) (C := RX2) (T := TX2) (N := 7) hx hb hts (by decide +kernel) hown hK hP kk_119 hk_120 rfl 3 (by decide) (hts (.fieldLink RX4 9 "PageOne$Item" "count" "I") (by decide +kernel)) (fun _ h9 => h9) rfl dX4_gain_12 hgo
          ·
            rw [ht9.2] at hk_120
            exact va_get (D := (dC, dI)) (ci := 3) (v := .int cn_3) (C := RX3) (T := TX3) (N := 8) hx hb hts (by decide +kernel) hown hK hP kk_119 hk_120 rfl 3 (by decide) (hts (.fieldLink RX4 9 "PageOne$Item" "count" "I") (by decide +kernel)) (fun _ h9 => h9) rfl dX4_gain_12 hgo
          ·
            rw [ht9.2] at hk_120
            exact va_get (D := (dC, dI)) (ci := 4) (v := .int cn_3) (C := RX5) (T := TX5) (N := 7) hx hb hts (by decide +kernel) hown hK hP kk_119 hk_120 rfl 3 (by decide) (hts (.fieldLink RX4 9 "PageOne$Item" "count" "I") (by decide +kernel)) (fun _ h9 => h9) rfl dX4_gain_12 hgo
          ·
            rw [ht9.2] at hk_120
            exact va_get (D := (dC, dI)) (ci := 5) (v := .int cn_3) (C := RX6) (T := TX6) (N := 9) hx hb hts (by decide +kernel) hown hK hP kk_119 hk_120 rfl 3 (by decide) (hts (.fieldLink RX4 9 "PageOne$Item" "count" "I") (by decide +kernel)) (fun _ h9 => h9) rfl dX4_gain_12 hgo
          ·
            rw [ht9.2] at hk_120
            exact va_get (D := (dC, dI)) (ci := 6) (v := .int cn_3) (C := RX7) (T := TX7) (N := 8) hx hb hts (by decide +kernel) hown hK hP kk_119 hk_120 rfl 3 (by decide) (hts (.fieldLink RX4 9 "PageOne$Item" "count" "I") (by decide +kernel)) (fun _ h9 => h9) rfl dX4_gain_12 hgo
          ·
            rw [ht9.2] at hk_120
            exact va_get (D := (dC, dI)) (ci := 9) (v := .int cn_3) (C := RX10) (T := TX10) (N := 9) hx hb hts (by decide +kernel) hown hK hP kk_119 hk_120 rfl 3 (by decide) (hts (.fieldLink RX4 9 "PageOne$Item" "count" "I") (by decide +kernel)) (fun _ h9 => h9) rfl dX4_gain_12 hgo
        ·
          refine lv_aload_n hx hb dX4_gain_15 rfl (lv_at hl 1 rfl) ?_
          obtain ⟨kk_121, hk_122⟩ := pl_at hs_8.1 hs_14
          have hcp := hb0
          obtain ⟨it_123, P_124, X_125, Y_126, D_127, N_128, hp_129, hb_130, hb_131, hb_132, hb_133⟩ := hcp
          obtain ⟨kk_134, hk_135⟩ := pl_at hp_129.1.1 (x_pcF hI hp_129)
          have hD0 := hD
          refine va_astq hx hb hK hP hD hS kk_121 5 kk_134 7 hk_122 rfl hk_135 rfl (vcn h6_16 hc_17 hroom) dX4_gain_16 (fun H locs hP hD hS => ?_)
          rw [pl_set hD0 hs_8.1 hs_14 hk_122] at hP hD
          obtain ⟨f_136, ef_136⟩ : ∃ y : xF, y = va_up f pa_4 (aR (q 5) n_12 (va_up g_13 (cn_3 : Int32).toNatClampNeg (some b0))) := ⟨_, rfl⟩
          have hI : xI q h0 d k z f_136 := by rw [ef_136]; exact x_upP hI ha0 hs_7 hs_14 (x_pan hI ha0 hs_8) hc_17 (nn_up hn_18 (Nat.le_refl _)) (ty_up hg_19 (ty_s hb0))
          have hP : va_P (dC, dI) vwCl (va_pl z.1 f_136) H := by rw [ef_136]; exact hP
          have hD : va_D A (va_pl z.1 f_136) := by rw [ef_136]; exact hD
          have hs_137 : f_136 pa_4 = aR (q 5) n_12 (va_up g_13 (cn_3 : Int32).toNatClampNeg (some b0)) := by rw [ef_136]; exact up_s
          have hs_138 : f_136 a0 = .inr (ciT (z.2 a0).1, itF nu_1 kd_2 pa_4 cn_3 fa_5 rs_6) := by rw [ef_136, up_o (fun e => (x_pan hI ha0 hs_8) e.symm)]; exact hs_7
          refine lv_aload_n hx hb dX4_gain_17 rfl (lv_at hl 0 rfl) ?_
          refine lv_dup hx hb dX4_gain_18 rfl ?_
          obtain ⟨kk_139, hk_140⟩ := pl_at ha0.1 hs_138
          refine w_then (F0 m 22 ls [.int cn_3, .ref a0]) (fun hgo => ?_) ?_
          ·
            rcases x_tag ha0 with ht9 | ht9 | ht9 | ht9 | ht9 | ht9
            ·
              rw [ht9.2] at hk_140
              exact va_get (D := (dC, dI)) (ci := 2) (v := .int cn_3) (C := RX2) (T := TX2) (N := 7) hx hb hts (by decide +kernel) hown hK hP kk_139 hk_140 rfl 3 (by decide) (hts (.fieldLink RX4 9 "PageOne$Item" "count" "I") (by decide +kernel)) (fun _ h9 => h9) rfl dX4_gain_19 hgo
            ·
              rw [ht9.2] at hk_140
              exact va_get (D := (dC, dI)) (ci := 3) (v := .int cn_3) (C := RX3) (T := TX3) (N := 8) hx hb hts (by decide +kernel) hown hK hP kk_139 hk_140 rfl 3 (by decide) (hts (.fieldLink RX4 9 "PageOne$Item" "count" "I") (by decide +kernel)) (fun _ h9 => h9) rfl dX4_gain_19 hgo
            ·
              rw [ht9.2] at hk_140
              exact va_get (D := (dC, dI)) (ci := 4) (v := .int cn_3) (C := RX5) (T := TX5) (N := 7) hx hb hts (by decide +kernel) hown hK hP kk_139 hk_140 rfl 3 (by decide) (hts (.fieldLink RX4 9 "PageOne$Item" "count" "I") (by decide +kernel)) (fun _ h9 => h9) rfl dX4_gain_19 hgo
            ·
              rw [ht9.2] at hk_140
              exact va_get (D := (dC, dI)) (ci := 5) (v := .int cn_3) (C := RX6) (T := TX6) (N := 9) hx hb hts (by decide +kernel) hown hK hP kk_139 hk_140 rfl 3 (by decide) (hts (.fieldLink RX4 9 "PageOne$Item" "count" "I") (by decide +kernel)) (fun _ h9 => h9) rfl dX4_gain_19 hgo
            ·
              rw [ht9.2] at hk_140
              exact va_get (D := (dC, dI)) (ci := 6) (v := .int cn_3) (C := RX7) (T := TX7) (N := 8) hx hb hts (by decide +kernel) hown hK hP kk_139 hk_140 rfl 3 (by decide) (hts (.fieldLink RX4 9 "PageOne$Item" "count" "I") (by decide +kernel)) (fun _ h9 => h9) rfl dX4_gain_19 hgo
            ·
              rw [ht9.2] at hk_140
              exact va_get (D := (dC, dI)) (ci := 9) (v := .int cn_3) (C := RX10) (T := TX10) (N := 9) hx hb hts (by decide +kernel) hown hK hP kk_139 hk_140 rfl 3 (by decide) (hts (.fieldLink RX4 9 "PageOne$Item" "count" "I") (by decide +kernel)) (fun _ h9 => h9) rfl dX4_gain_19 hgo
          ·
            refine lv_iconst (v := 1) hx hb dX4_gain_22 (by decide) ?_
            refine lv_iadd hx hb dX4_gain_23 ?_
            refine lv_topi (fun x_141 ex_141 => ?_)
            obtain ⟨kk_142, hk_143⟩ := pl_at ha0.1 hs_138
            have hD0 := hD
            refine w_cut (X := fun R cells slots Q args => ∀ (H : Heap) (locs : List Loc), va_P (dC, dI) vwCl (va_pl z.1 (va_up f_136 a0 (.inr (ciT (z.2 a0).1, itF nu_1 kd_2 pa_4 x_141 fa_5 rs_6)))) H → va_D A (va_pl z.1 (va_up f_136 a0 (.inr (ciT (z.2 a0).1, itF nu_1 kd_2 pa_4 x_141 fa_5 rs_6)))) → va_S A s.heap H locs → W p l e R s m args below meth c H locs cells slots Q (F0 m 27 ls [])) ?_ (fun kC => ?_)
            ·
              intro H locs hP hD hS
              obtain ⟨f_144, ef_144⟩ : ∃ y : xF, y = va_up f_136 a0 (.inr (ciT (z.2 a0).1, itF nu_1 kd_2 pa_4 x_141 fa_5 rs_6)) := ⟨_, rfl⟩
              have hI : xI q h0 d k z f_144 := by rw [ef_144]; exact x_upC hI ha0 hs_138 hs_137 (bcn1 h6_16 hc_17 hroom ex_141).1 (by rw [(bcn1 h6_16 hc_17 hroom ex_141).2]; exact nn_up1 hn_18) (ty_up hg_19 (ty_s hb0))
              have hP : va_P (dC, dI) vwCl (va_pl z.1 f_144) H := by rw [ef_144]; exact hP
              have hD : va_D A (va_pl z.1 f_144) := by rw [ef_144]; exact hD
              have hff_144 : f_144 a0 = .inr (ciT (z.2 a0).1, itF nu_1 kd_2 pa_4 x_141 fa_5 rs_6) := by rw [ef_144]; exact up_s
              have hs_145 : f_144 pa_4 = aR (q 5) n_12 (va_up g_13 (cn_3 : Int32).toNatClampNeg (some b0)) := by rw [ef_144, up_o (x_pan hI ha0 hs_8)]; exact hs_137
              exact W.vret hx hb hr (fun t ht hW => ⟨⟨(k, z, f_144), rfl, ⟨rfl, rfl, hI⟩, by rw [ht]; exact hP, hD⟩, hS.F ht⟩) hS.2.2 dX4_gain_27
            ·
              have hk8 := hk_143
              rcases x_tag ha0 with ht9 | ht9 | ht9 | ht9 | ht9 | ht9
              ·
                rw [ht9.2] at hk_143
                refine va_put (D := (dC, dI)) (ci := 2) (v := .int x_141) (ty := .int) (C := RX2) (T := TX2) (N := 7) hx hb hts (by decide +kernel) tyX2 tyX2_ok nmX2 hown hK hP hD hS kk_142 hk_143 rfl 3 (by decide) (hts (.fieldLink RX4 9 "PageOne$Item" "count" "I") (by decide +kernel)) (fun _ h9 => h9) rfl (by decide +kernel) rfl rfl (by unfold itF; simp only [List.length_cons]; omega) dX4_gain_24 (fun H locs hP hD hS => kC H locs ?_ ?_ hS)
                · rw [← pl_set (e := .inr (ciT (z.2 a0).1, itF nu_1 kd_2 pa_4 x_141 fa_5 rs_6)) hD0 ha0.1 hs_138 hk8, ht9.2]; exact hP
                · rw [← pl_set (e := .inr (ciT (z.2 a0).1, itF nu_1 kd_2 pa_4 x_141 fa_5 rs_6)) hD0 ha0.1 hs_138 hk8, ht9.2]; exact hD
              ·
                rw [ht9.2] at hk_143
                refine va_put (D := (dC, dI)) (ci := 3) (v := .int x_141) (ty := .int) (C := RX3) (T := TX3) (N := 8) hx hb hts (by decide +kernel) tyX3 tyX3_ok nmX3 hown hK hP hD hS kk_142 hk_143 rfl 3 (by decide) (hts (.fieldLink RX4 9 "PageOne$Item" "count" "I") (by decide +kernel)) (fun _ h9 => h9) rfl (by decide +kernel) rfl rfl (by unfold itF; simp only [List.length_cons]; omega) dX4_gain_24 (fun H locs hP hD hS => kC H locs ?_ ?_ hS)
                · rw [← pl_set (e := .inr (ciT (z.2 a0).1, itF nu_1 kd_2 pa_4 x_141 fa_5 rs_6)) hD0 ha0.1 hs_138 hk8, ht9.2]; exact hP
                · rw [← pl_set (e := .inr (ciT (z.2 a0).1, itF nu_1 kd_2 pa_4 x_141 fa_5 rs_6)) hD0 ha0.1 hs_138 hk8, ht9.2]; exact hD
              ·
                rw [ht9.2] at hk_143
                refine va_put (D := (dC, dI)) (ci := 4) (v := .int x_141) (ty := .int) (C := RX5) (T := TX5) (N := 7) hx hb hts (by decide +kernel) tyX5 tyX5_ok nmX5 hown hK hP hD hS kk_142 hk_143 rfl 3 (by decide) (hts (.fieldLink RX4 9 "PageOne$Item" "count" "I") (by decide +kernel)) (fun _ h9 => h9) rfl (by decide +kernel) rfl rfl (by unfold itF; simp only [List.length_cons]; omega) dX4_gain_24 (fun H locs hP hD hS => kC H locs ?_ ?_ hS)
                · rw [← pl_set (e := .inr (ciT (z.2 a0).1, itF nu_1 kd_2 pa_4 x_141 fa_5 rs_6)) hD0 ha0.1 hs_138 hk8, ht9.2]; exact hP
                · rw [← pl_set (e := .inr (ciT (z.2 a0).1, itF nu_1 kd_2 pa_4 x_141 fa_5 rs_6)) hD0 ha0.1 hs_138 hk8, ht9.2]; exact hD
              ·
                rw [ht9.2] at hk_143
                refine va_put (D := (dC, dI)) (ci := 5) (v := .int x_141) (ty := .int) (C := RX6) (T := TX6) (N := 9) hx hb hts (by decide +kernel) tyX6 tyX6_ok nmX6 hown hK hP hD hS kk_142 hk_143 rfl 3 (by decide) (hts (.fieldLink RX4 9 "PageOne$Item" "count" "I") (by decide +kernel)) (fun _ h9 => h9) rfl (by decide +kernel) rfl rfl (by unfold itF; simp only [List.length_cons]; omega) dX4_gain_24 (fun H locs hP hD hS => kC H locs ?_ ?_ hS)
                · rw [← pl_set (e := .inr (ciT (z.2 a0).1, itF nu_1 kd_2 pa_4 x_141 fa_5 rs_6)) hD0 ha0.1 hs_138 hk8, ht9.2]; exact hP
                · rw [← pl_set (e := .inr (ciT (z.2 a0).1, itF nu_1 kd_2 pa_4 x_141 fa_5 rs_6)) hD0 ha0.1 hs_138 hk8, ht9.2]; exact hD
              ·
                rw [ht9.2] at hk_143
                refine va_put (D := (dC, dI)) (ci := 6) (v := .int x_141) (ty := .int) (C := RX7) (T := TX7) (N := 8) hx hb hts (by decide +kernel) tyX7 tyX7_ok nmX7 hown hK hP hD hS kk_142 hk_143 rfl 3 (by decide) (hts (.fieldLink RX4 9 "PageOne$Item" "count" "I") (by decide +kernel)) (fun _ h9 => h9) rfl (by decide +kernel) rfl rfl (by unfold itF; simp only [List.length_cons]; omega) dX4_gain_24 (fun H locs hP hD hS => kC H locs ?_ ?_ hS)
                · rw [← pl_set (e := .inr (ciT (z.2 a0).1, itF nu_1 kd_2 pa_4 x_141 fa_5 rs_6)) hD0 ha0.1 hs_138 hk8, ht9.2]; exact hP
                · rw [← pl_set (e := .inr (ciT (z.2 a0).1, itF nu_1 kd_2 pa_4 x_141 fa_5 rs_6)) hD0 ha0.1 hs_138 hk8, ht9.2]; exact hD
              ·
                rw [ht9.2] at hk_143
                refine va_put (D := (dC, dI)) (ci := 9) (v := .int x_141) (ty := .int) (C := RX10) (T := TX10) (N := 9) hx hb hts (by decide +kernel) tyX10 tyX10_ok nmX10 hown hK hP hD hS kk_142 hk_143 rfl 3 (by decide) (hts (.fieldLink RX4 9 "PageOne$Item" "count" "I") (by decide +kernel)) (fun _ h9 => h9) rfl (by decide +kernel) rfl rfl (by unfold itF; simp only [List.length_cons]; omega) dX4_gain_24 (fun H locs hP hD hS => kC H locs ?_ ?_ hS)
                · rw [← pl_set (e := .inr (ciT (z.2 a0).1, itF nu_1 kd_2 pa_4 x_141 fa_5 rs_6)) hD0 ha0.1 hs_138 hk8, ht9.2]; exact hP
                · rw [← pl_set (e := .inr (ciT (z.2 a0).1, itF nu_1 kd_2 pa_4 x_141 fa_5 rs_6)) hD0 ha0.1 hs_138 hk8, ht9.2]; exact hD
  ·
    rcases x_tag ha0 with ht9 | ht9 | ht9 | ht9 | ht9 | ht9
    ·
      obtain ⟨nu_20, kd_21, cn_22, pa_23, fa_24, l_25, m_26, hs_27, hs_28, hs_29, hs_30⟩ := x_ifl hI ht9
      obtain ⟨kk_31, hk_32⟩ := pl_at ht9.1 hs_27
      exact vp_callSi (va_runU (As := []) (rest := []) ⟨hx, hb, hml, hown, hts⟩ (x_hasRoom l dC dI q h0 d k z f hI a0 ha0 nu_1 kd_2 cn_3 pa_4 fa_5 rs_6 hs_7 n_12 g_13 hs_14 hs_8 ) (va_cwU 0 hts gX4_gain_X4_hasRoom_u41X2 rfl rfl rfl rfl (by decide +kernel) ⟨Nat.le_of_ble_eq_true rfl, Nat.le_of_ble_eq_true rfl⟩) ⟨px_fb, va_recv hK hP (ci := 2) (q0 := kk_31) rfl hk_32, fun U hU hW => ⟨rfl, px_to hU hW hP hK hN hXN⟩⟩ rfl rfl hl.1 rfl (lv_room (Nat.le_of_ble_eq_true rfl)) dX4_gain_1 ⟨Nat.le_of_ble_eq_true rfl, Nat.le_of_ble_eq_true rfl⟩).run (fun r hw => kC r hw)
    ·
      obtain ⟨nu_33, kd_34, cn_35, pa_36, fa_37, o_38, w_39, y_40, hs_41, hs_42, hs_43, hs_44, hq_45⟩ := x_ihd hI ht9
      obtain ⟨kk_46, hk_47⟩ := pl_at ht9.1 hs_41
      exact vp_callSi (va_runU (As := []) (rest := []) ⟨hx, hb, hml, hown, hts⟩ (x_hasRoom l dC dI q h0 d k z f hI a0 ha0 nu_1 kd_2 cn_3 pa_4 fa_5 rs_6 hs_7 n_12 g_13 hs_14 hs_8 ) (va_cwU 0 hts gX4_gain_X4_hasRoom_u41X3 rfl rfl rfl rfl (by decide +kernel) ⟨Nat.le_of_ble_eq_true rfl, Nat.le_of_ble_eq_true rfl⟩) ⟨px_fb, va_recv hK hP (ci := 3) (q0 := kk_46) rfl hk_47, fun U hU hW => ⟨rfl, px_to hU hW hP hK hN hXN⟩⟩ rfl rfl hl.1 rfl (lv_room (Nat.le_of_ble_eq_true rfl)) dX4_gain_1 ⟨Nat.le_of_ble_eq_true rfl, Nat.le_of_ble_eq_true rfl⟩).run (fun r hw => kC r hw)
    ·
      obtain ⟨nu_48, kd_49, cn_50, pa_51, fa_52, o_53, y_54, hs_55, hs_56, hs_57, hs_58, hq_59⟩ := x_ino hI ht9
      obtain ⟨kk_60, hk_61⟩ := pl_at ht9.1 hs_55
      exact vp_callSi (va_runU (As := []) (rest := []) ⟨hx, hb, hml, hown, hts⟩ (x_hasRoom l dC dI q h0 d k z f hI a0 ha0 nu_1 kd_2 cn_3 pa_4 fa_5 rs_6 hs_7 n_12 g_13 hs_14 hs_8 ) (va_cwU 0 hts gX4_gain_X4_hasRoom_u41X5 rfl rfl rfl rfl (by decide +kernel) ⟨Nat.le_of_ble_eq_true rfl, Nat.le_of_ble_eq_true rfl⟩) ⟨px_fb, va_recv hK hP (ci := 4) (q0 := kk_60) rfl hk_61, fun U hU hW => ⟨rfl, px_to hU hW hP hK hN hXN⟩⟩ rfl rfl hl.1 rfl (lv_room (Nat.le_of_ble_eq_true rfl)) dX4_gain_1 ⟨Nat.le_of_ble_eq_true rfl, Nat.le_of_ble_eq_true rfl⟩).run (fun r hw => kC r hw)
    ·
      obtain ⟨nu_62, kd_63, cn_64, pa_65, fa_66, b_67, pr_68, sp_69, dy_70, hs_71, hs_72, hs_73, hs_74, hq_75, hq_76, hq_77⟩ := x_ipd hI ht9
      obtain ⟨kk_78, hk_79⟩ := pl_at ht9.1 hs_71
      exact vp_callSi (va_runU (As := []) (rest := []) ⟨hx, hb, hml, hown, hts⟩ (x_hasRoom l dC dI q h0 d k z f hI a0 ha0 nu_1 kd_2 cn_3 pa_4 fa_5 rs_6 hs_7 n_12 g_13 hs_14 hs_8 ) (va_cwU 0 hts gX4_gain_X4_hasRoom_u41X6 rfl rfl rfl rfl (by decide +kernel) ⟨Nat.le_of_ble_eq_true rfl, Nat.le_of_ble_eq_true rfl⟩) ⟨px_fb, va_recv hK hP (ci := 5) (q0 := kk_78) rfl hk_79, fun U hU hW => ⟨rfl, px_to hU hW hP hK hN hXN⟩⟩ rfl rfl hl.1 rfl (lv_room (Nat.le_of_ble_eq_true rfl)) dX4_gain_1 ⟨Nat.le_of_ble_eq_true rfl, Nat.le_of_ble_eq_true rfl⟩).run (fun r hw => kC r hw)
    ·
      obtain ⟨nu_80, kd_81, cn_82, pa_83, fa_84, ww_85, hh_86, sz_87, hs_88, hs_89, hs_90, hs_91, hq_92, hq_93, hq_94⟩ := x_ipi hI ht9
      obtain ⟨kk_95, hk_96⟩ := pl_at ht9.1 hs_88
      exact vp_callSi (va_runU (As := []) (rest := []) ⟨hx, hb, hml, hown, hts⟩ (x_hasRoom l dC dI q h0 d k z f hI a0 ha0 nu_1 kd_2 cn_3 pa_4 fa_5 rs_6 hs_7 n_12 g_13 hs_14 hs_8 ) (va_cwU 0 hts gX4_gain_X4_hasRoom_u41X7 rfl rfl rfl rfl (by decide +kernel) ⟨Nat.le_of_ble_eq_true rfl, Nat.le_of_ble_eq_true rfl⟩) ⟨px_fb, va_recv hK hP (ci := 6) (q0 := kk_95) rfl hk_96, fun U hU hW => ⟨rfl, px_to hU hW hP hK hN hXN⟩⟩ rfl rfl hl.1 rfl (lv_room (Nat.le_of_ble_eq_true rfl)) dX4_gain_1 ⟨Nat.le_of_ble_eq_true rfl, Nat.le_of_ble_eq_true rfl⟩).run (fun r hw => kC r hw)
    ·
      obtain ⟨nu_97, kd_98, cn_99, pa_100, fa_101, l_102, co_103, wd_104, nm_105, hs_106, hs_107, hs_108, hs_109, hq_110, hq_111, hq_112⟩ := x_ist hI ht9
      obtain ⟨kk_113, hk_114⟩ := pl_at ht9.1 hs_106
      exact vp_callSi (va_runU (As := []) (rest := []) ⟨hx, hb, hml, hown, hts⟩ (x_hasRoom l dC dI q h0 d k z f hI a0 ha0 nu_1 kd_2 cn_3 pa_4 fa_5 rs_6 hs_7 n_12 g_13 hs_14 hs_8 ) (va_cwU 0 hts gX4_gain_X4_hasRoom_u41X10 rfl rfl rfl rfl (by decide +kernel) ⟨Nat.le_of_ble_eq_true rfl, Nat.le_of_ble_eq_true rfl⟩) ⟨px_fb, va_recv hK hP (ci := 9) (q0 := kk_113) rfl hk_114, fun U hU hW => ⟨rfl, px_to hU hW hP hK hN hXN⟩⟩ rfl rfl hl.1 rfl (lv_room (Nat.le_of_ble_eq_true rfl)) dX4_gain_1 ⟨Nat.le_of_ble_eq_true rfl, Nat.le_of_ble_eq_true rfl⟩).run (fun r hw => kC r hw)
set_option maxHeartbeats 4000000 in
set_option maxRecDepth 100000 in
theorem x_loseLast (l : Launch) (dC : Nat → ClassId) (dI : Nat → Nat → Nat) (q : Nat → ClassId) (h0 : Nat) (d : Nat → Nat) (k : Nat → Int32) (z : gS) (f : xF) (hI : xI q h0 d k z f) (a0 : Nat) (ha0 : itm z a0) (sz : Nat) : Met l yX4_loseLast wsX4_loseLast ({ frames := 0, cells := 0, slots := 0, locals := 0 }) (va_Pc [.ref a0] (fun U => U.heap.size = sz ∧ PX dC dI (va_pl z.1 f) (xT q) U ∧ va_D (fun _ => True) (va_pl z.1 f))) (va_Qv (fun (w : xU) => w.1 = k ∧ w.2.1 = z ∧ xI q h0 d k z w.2.2) (fun (w : xU) t => va_P (dC, dI) vwCl (va_pl w.2.1.1 w.2.2) t.heap ∧ va_D (va_A (va_pl z.1 f) sz) (va_pl w.2.1.1 w.2.2)) (va_A (va_pl z.1 f) sz)) 0 0 (va_A (va_pl z.1 f) sz) := by
  refine Met.ofW (cc := cX4_loseLast) (maxL := 1) (ret := none) (by decide) rfl ?_
  intro p e s m args below meth c s₁ B hml hv
  obtain ⟨rfl, hsz, ⟨⟨hP, hK, hN⟩, hXN⟩, hD0⟩ := hv
  have hx := B.exec
  have hb := B.bytes
  have hr := B.returns
  have hts := atoms_spec (ws := wsX4_loseLast) B.pre
  have hown : s.vm.findClass RX4 = some m.cls := findClass_of_methodNamed B.named
  have hlocks := B.notSynchronized
  subst hsz
  have hD := hD0.self (sz := s.heap.size)
  generalize hAe : va_A (va_pl z.1 f) s.heap.size = A at hD ⊢
  have hA : ∀ q : Nat, s.heap.size ≤ q → A q := fun q h => by rw [← hAe]; exact Or.inr h
  have hS : va_S A s.heap s.heap [] := va_S.rf
  have hl := lv_entry ([.ref a0]) (n := 1) (Nat.le_of_ble_eq_true rfl)
  rw [lg_entry_eq]
  generalize (lg_sl ([.ref a0]) ++ List.replicate (1 - (lg_sl ([.ref a0])).length) Slot.unset).toArray = ls at hl ⊢
  have hl : lv_has ls 1 [(0, .ref a0)] := hl
  refine lv_aload_n hx hb dX4_loseLast_0 rfl (lv_at hl 0 rfl) ?_
  obtain ⟨nu_1, kd_2, cn_3, pa_4, fa_5, rs_6, hs_7, hs_8, hs_9, hs_10, hs_11⟩ := x_im hI ha0
  obtain ⟨kk_12, hk_13⟩ := pl_at ha0.1 hs_7
  refine w_then (F0 m 4 ls [.int cn_3]) (fun hgo => ?_) ?_
  ·
    rcases x_tag ha0 with ht9 | ht9 | ht9 | ht9 | ht9 | ht9
    ·
      rw [ht9.2] at hk_13
      exact va_get (D := (dC, dI)) (ci := 2) (v := .int cn_3) (C := RX2) (T := TX2) (N := 7) hx hb hts (by decide +kernel) hown hK hP kk_12 hk_13 rfl 3 (by decide) (hts (.fieldLink RX4 9 "PageOne$Item" "count" "I") (by decide +kernel)) (fun _ h9 => h9) rfl dX4_loseLast_1 hgo
    ·
      rw [ht9.2] at hk_13
      exact va_get (D := (dC, dI)) (ci := 3) (v := .int cn_3) (C := RX3) (T := TX3) (N := 8) hx hb hts (by decide +kernel) hown hK hP kk_12 hk_13 rfl 3 (by decide) (hts (.fieldLink RX4 9 "PageOne$Item" "count" "I") (by decide +kernel)) (fun _ h9 => h9) rfl dX4_loseLast_1 hgo
    ·
      rw [ht9.2] at hk_13
      exact va_get (D := (dC, dI)) (ci := 4) (v := .int cn_3) (C := RX5) (T := TX5) (N := 7) hx hb hts (by decide +kernel) hown hK hP kk_12 hk_13 rfl 3 (by decide) (hts (.fieldLink RX4 9 "PageOne$Item" "count" "I") (by decide +kernel)) (fun _ h9 => h9) rfl dX4_loseLast_1 hgo
    ·
      rw [ht9.2] at hk_13
      exact va_get (D := (dC, dI)) (ci := 5) (v := .int cn_3) (C := RX6) (T := TX6) (N := 9) hx hb hts (by decide +kernel) hown hK hP kk_12 hk_13 rfl 3 (by decide) (hts (.fieldLink RX4 9 "PageOne$Item" "count" "I") (by decide +kernel)) (fun _ h9 => h9) rfl dX4_loseLast_1 hgo
    ·
      rw [ht9.2] at hk_13
      exact va_get (D := (dC, dI)) (ci := 6) (v := .int cn_3) (C := RX7) (T := TX7) (N := 8) hx hb hts (by decide +kernel) hown hK hP kk_12 hk_13 rfl 3 (by decide) (hts (.fieldLink RX4 9 "PageOne$Item" "count" "I") (by decide +kernel)) (fun _ h9 => h9) rfl dX4_loseLast_1 hgo
    ·
      rw [ht9.2] at hk_13
      exact va_get (D := (dC, dI)) (ci := 9) (v := .int cn_3) (C := RX10) (T := TX10) (N := 9) hx hb hts (by decide +kernel) hown hK hP kk_12 hk_13 rfl 3 (by decide) (hts (.fieldLink RX4 9 "PageOne$Item" "count" "I") (by decide +kernel)) (fun _ h9 => h9) rfl dX4_loseLast_1 hgo
  ·
    refine lv_if_le (tgt := 27) hx hb dX4_loseLast_4 (by decide) (fun c_14 => ?_) (fun c_14 => ?_)
    ·
      exact W.vret hx hb hr (fun t ht hW => ⟨⟨(k, z, f), rfl, ⟨rfl, rfl, hI⟩, by rw [ht]; exact hP, hD⟩, hS.F ht⟩) hS.2.2 dX4_loseLast_27
    ·
      obtain ⟨n_15, g_16, hs_17, h1_18, h6_19, hc_20, hn_21, hg_22⟩ := x_pcs hI ha0 rfl hs_7
      refine lv_aload_n hx hb dX4_loseLast_7 rfl (lv_at hl 0 rfl) ?_
      refine lv_dup hx hb dX4_loseLast_8 rfl ?_
      obtain ⟨kk_23, hk_24⟩ := pl_at ha0.1 hs_7
      refine w_then (F0 m 12 ls [.int cn_3, .ref a0]) (fun hgo => ?_) ?_
      ·
        rcases x_tag ha0 with ht9 | ht9 | ht9 | ht9 | ht9 | ht9
        ·
          rw [ht9.2] at hk_24
          exact va_get (D := (dC, dI)) (ci := 2) (v := .int cn_3) (C := RX2) (T := TX2) (N := 7) hx hb hts (by decide +kernel) hown hK hP kk_23 hk_24 rfl 3 (by decide) (hts (.fieldLink RX4 9 "PageOne$Item" "count" "I") (by decide +kernel)) (fun _ h9 => h9) rfl dX4_loseLast_9 hgo
        ·
          rw [ht9.2] at hk_24
          exact va_get (D := (dC, dI)) (ci := 3) (v := .int cn_3) (C := RX3) (T := TX3) (N := 8) hx hb hts (by decide +kernel) hown hK hP kk_23 hk_24 rfl 3 (by decide) (hts (.fieldLink RX4 9 "PageOne$Item" "count" "I") (by decide +kernel)) (fun _ h9 => h9) rfl dX4_loseLast_9 hgo
        ·
          rw [ht9.2] at hk_24
          exact va_get (D := (dC, dI)) (ci := 4) (v := .int cn_3) (C := RX5) (T := TX5) (N := 7) hx hb hts (by decide +kernel) hown hK hP kk_23 hk_24 rfl 3 (by decide) (hts (.fieldLink RX4 9 "PageOne$Item" "count" "I") (by decide +kernel)) (fun _ h9 => h9) rfl dX4_loseLast_9 hgo
        ·
          rw [ht9.2] at hk_24
          exact va_get (D := (dC, dI)) (ci := 5) (v := .int cn_3) (C := RX6) (T := TX6) (N := 9) hx hb hts (by decide +kernel) hown hK hP kk_23 hk_24 rfl 3 (by decide) (hts (.fieldLink RX4 9 "PageOne$Item" "count" "I") (by decide +kernel)) (fun _ h9 => h9) rfl dX4_loseLast_9 hgo
        ·
          rw [ht9.2] at hk_24
          exact va_get (D := (dC, dI)) (ci := 6) (v := .int cn_3) (C := RX7) (T := TX7) (N := 8) hx hb hts (by decide +kernel) hown hK hP kk_23 hk_24 rfl 3 (by decide) (hts (.fieldLink RX4 9 "PageOne$Item" "count" "I") (by decide +kernel)) (fun _ h9 => h9) rfl dX4_loseLast_9 hgo
        ·
          rw [ht9.2] at hk_24
          exact va_get (D := (dC, dI)) (ci := 9) (v := .int cn_3) (C := RX10) (T := TX10) (N := 9) hx hb hts (by decide +kernel) hown hK hP kk_23 hk_24 rfl 3 (by decide) (hts (.fieldLink RX4 9 "PageOne$Item" "count" "I") (by decide +kernel)) (fun _ h9 => h9) rfl dX4_loseLast_9 hgo
      ·
        refine lv_iconst (v := 1) hx hb dX4_loseLast_12 (by decide) ?_
        refine lv_isub hx hb dX4_loseLast_13 ?_
        refine lv_topi (fun x_25 ex_25 => ?_)
        obtain ⟨kk_26, hk_27⟩ := pl_at ha0.1 hs_7
        have hD0 := hD
        refine w_cut (X := fun R cells slots Q args => ∀ (H : Heap) (locs : List Loc), va_P (dC, dI) vwCl (va_pl z.1 (va_up f a0 (.inr (ciT (z.2 a0).1, itF nu_1 kd_2 pa_4 x_25 fa_5 rs_6)))) H → va_D A (va_pl z.1 (va_up f a0 (.inr (ciT (z.2 a0).1, itF nu_1 kd_2 pa_4 x_25 fa_5 rs_6)))) → va_S A s.heap H locs → W p l e R s m args below meth c H locs cells slots Q (F0 m 17 ls [])) ?_ (fun kC => ?_)
        ·
          intro H locs hP hD hS
          obtain ⟨f_28, ef_28⟩ : ∃ y : xF, y = va_up f a0 (.inr (ciT (z.2 a0).1, itF nu_1 kd_2 pa_4 x_25 fa_5 rs_6)) := ⟨_, rfl⟩
          have hI : xI q h0 d k z f_28 := by rw [ef_28]; exact x_upC hI ha0 hs_7 hs_17 (bcm1 h6_19 hc_20 c_14 ex_25).1 (fun j hj => hn_21 j (by have := (bcm1 h6_19 hc_20 c_14 ex_25).2.1; omega)) hg_22
          have hP : va_P (dC, dI) vwCl (va_pl z.1 f_28) H := by rw [ef_28]; exact hP
          have hD : va_D A (va_pl z.1 f_28) := by rw [ef_28]; exact hD
          have hff_28 : f_28 a0 = .inr (ciT (z.2 a0).1, itF nu_1 kd_2 pa_4 x_25 fa_5 rs_6) := by rw [ef_28]; exact up_s
          have hs_29 : f_28 pa_4 = aR (q 5) n_15 g_16 := by rw [ef_28, up_o (x_pan hI ha0 hs_8)]; exact hs_17
          refine lv_aload_n hx hb dX4_loseLast_17 rfl (lv_at hl 0 rfl) ?_
          obtain ⟨kk_30, hk_31⟩ := pl_at ha0.1 hff_28
          refine w_then (F0 m 21 ls [.ref pa_4]) (fun hgo => ?_) ?_
          ·
            rcases x_tag ha0 with ht9 | ht9 | ht9 | ht9 | ht9 | ht9
            ·
              rw [ht9.2] at hk_31
              exact va_get (D := (dC, dI)) (ci := 2) (v := .ref pa_4) (C := RX2) (T := TX2) (N := 7) hx hb hts (by decide +kernel) hown hK hP kk_30 hk_31 rfl 2 (by decide) (hts (.fieldLink RX4 31 "PageOne$Item" "pieces" "[LPageOne$Piece;") (by decide +kernel)) (fun _ h9 => h9) rfl dX4_loseLast_18 hgo
            ·
              rw [ht9.2] at hk_31
              exact va_get (D := (dC, dI)) (ci := 3) (v := .ref pa_4) (C := RX3) (T := TX3) (N := 8) hx hb hts (by decide +kernel) hown hK hP kk_30 hk_31 rfl 2 (by decide) (hts (.fieldLink RX4 31 "PageOne$Item" "pieces" "[LPageOne$Piece;") (by decide +kernel)) (fun _ h9 => h9) rfl dX4_loseLast_18 hgo
            ·
              rw [ht9.2] at hk_31
              exact va_get (D := (dC, dI)) (ci := 4) (v := .ref pa_4) (C := RX5) (T := TX5) (N := 7) hx hb hts (by decide +kernel) hown hK hP kk_30 hk_31 rfl 2 (by decide) (hts (.fieldLink RX4 31 "PageOne$Item" "pieces" "[LPageOne$Piece;") (by decide +kernel)) (fun _ h9 => h9) rfl dX4_loseLast_18 hgo
            ·
              rw [ht9.2] at hk_31
              exact va_get (D := (dC, dI)) (ci := 5) (v := .ref pa_4) (C := RX6) (T := TX6) (N := 9) hx hb hts (by decide +kernel) hown hK hP kk_30 hk_31 rfl 2 (by decide) (hts (.fieldLink RX4 31 "PageOne$Item" "pieces" "[LPageOne$Piece;") (by decide +kernel)) (fun _ h9 => h9) rfl dX4_loseLast_18 hgo
            ·
              rw [ht9.2] at hk_31
              exact va_get (D := (dC, dI)) (ci := 6) (v := .ref pa_4) (C := RX7) (T := TX7) (N := 8) hx hb hts (by decide +kernel) hown hK hP kk_30 hk_31 rfl 2 (by decide) (hts (.fieldLink RX4 31 "PageOne$Item" "pieces" "[LPageOne$Piece;") (by decide +kernel)) (fun _ h9 => h9) rfl dX4_loseLast_18 hgo
            ·
              rw [ht9.2] at hk_31
              exact va_get (D := (dC, dI)) (ci := 9) (v := .ref pa_4) (C := RX10) (T := TX10) (N := 9) hx hb hts (by decide +kernel) hown hK hP kk_30 hk_31 rfl 2 (by decide) (hts (.fieldLink RX4 31 "PageOne$Item" "pieces" "[LPageOne$Piece;") (by decide +kernel)) (fun _ h9 => h9) rfl dX4_loseLast_18 hgo
          ·
            refine lv_aload_n hx hb dX4_loseLast_21 rfl (lv_at hl 0 rfl) ?_
            obtain ⟨kk_32, hk_33⟩ := pl_at ha0.1 hff_28
            refine w_then (F0 m 25 ls [.int x_25, .ref pa_4]) (fun hgo => ?_) ?_
            ·
              rcases x_tag ha0 with ht9 | ht9 | ht9 | ht9 | ht9 | ht9
              ·
                rw [ht9.2] at hk_33
                exact va_get (D := (dC, dI)) (ci := 2) (v := .int x_25) (C := RX2) (T := TX2) (N := 7) hx hb hts (by decide +kernel) hown hK hP kk_32 hk_33 rfl 3 (by decide) (hts (.fieldLink RX4 9 "PageOne$Item" "count" "I") (by decide +kernel)) (fun _ h9 => h9) rfl dX4_loseLast_22 hgo
              ·
                rw [ht9.2] at hk_33
                exact va_get (D := (dC, dI)) (ci := 3) (v := .int x_25) (C := RX3) (T := TX3) (N := 8) hx hb hts (by decide +kernel) hown hK hP kk_32 hk_33 rfl 3 (by decide) (hts (.fieldLink RX4 9 "PageOne$Item" "count" "I") (by decide +kernel)) (fun _ h9 => h9) rfl dX4_loseLast_22 hgo
              ·
                rw [ht9.2] at hk_33
                exact va_get (D := (dC, dI)) (ci := 4) (v := .int x_25) (C := RX5) (T := TX5) (N := 7) hx hb hts (by decide +kernel) hown hK hP kk_32 hk_33 rfl 3 (by decide) (hts (.fieldLink RX4 9 "PageOne$Item" "count" "I") (by decide +kernel)) (fun _ h9 => h9) rfl dX4_loseLast_22 hgo
              ·
                rw [ht9.2] at hk_33
                exact va_get (D := (dC, dI)) (ci := 5) (v := .int x_25) (C := RX6) (T := TX6) (N := 9) hx hb hts (by decide +kernel) hown hK hP kk_32 hk_33 rfl 3 (by decide) (hts (.fieldLink RX4 9 "PageOne$Item" "count" "I") (by decide +kernel)) (fun _ h9 => h9) rfl dX4_loseLast_22 hgo
              ·
                rw [ht9.2] at hk_33
                exact va_get (D := (dC, dI)) (ci := 6) (v := .int x_25) (C := RX7) (T := TX7) (N := 8) hx hb hts (by decide +kernel) hown hK hP kk_32 hk_33 rfl 3 (by decide) (hts (.fieldLink RX4 9 "PageOne$Item" "count" "I") (by decide +kernel)) (fun _ h9 => h9) rfl dX4_loseLast_22 hgo
              ·
                rw [ht9.2] at hk_33
                exact va_get (D := (dC, dI)) (ci := 9) (v := .int x_25) (C := RX10) (T := TX10) (N := 9) hx hb hts (by decide +kernel) hown hK hP kk_32 hk_33 rfl 3 (by decide) (hts (.fieldLink RX4 9 "PageOne$Item" "count" "I") (by decide +kernel)) (fun _ h9 => h9) rfl dX4_loseLast_22 hgo
            ·
              refine lv_null hx hb dX4_loseLast_25 ?_
              obtain ⟨kk_34, hk_35⟩ := pl_at hs_8.1 hs_29
              have hD0 := hD
              refine va_astqN hx hb hK hP hD hS kk_34 5 hk_35 rfl (bcm1 h6_19 hc_20 c_14 ex_25).2.2 dX4_loseLast_26 (fun H locs hP hD hS => ?_)
              rw [pl_set hD0 hs_8.1 hs_29 hk_35] at hP hD
              obtain ⟨f_36, ef_36⟩ : ∃ y : xF, y = va_up f_28 pa_4 (aR (q 5) n_15 (va_up g_16 (x_25 : Int32).toNatClampNeg none)) := ⟨_, rfl⟩
              have hI : xI q h0 d k z f_36 := by rw [ef_36]; exact x_upP hI ha0 hff_28 hs_29 (x_pan hI ha0 hs_8) (bcm1 h6_19 hc_20 c_14 ex_25).1 (nn_up (fun j hj => hn_21 j (by have := (bcm1 h6_19 hc_20 c_14 ex_25).2.1; omega)) (Nat.le_refl _)) (ty_up hg_22 ty_n)
              have hP : va_P (dC, dI) vwCl (va_pl z.1 f_36) H := by rw [ef_36]; exact hP
              have hD : va_D A (va_pl z.1 f_36) := by rw [ef_36]; exact hD
              have hs_37 : f_36 pa_4 = aR (q 5) n_15 (va_up g_16 (x_25 : Int32).toNatClampNeg none) := by rw [ef_36]; exact up_s
              have hs_38 : f_36 a0 = .inr (ciT (z.2 a0).1, itF nu_1 kd_2 pa_4 x_25 fa_5 rs_6) := by rw [ef_36, up_o (fun e => (x_pan hI ha0 hs_8) e.symm)]; exact hff_28
              exact W.vret hx hb hr (fun t ht hW => ⟨⟨(k, z, f_36), rfl, ⟨rfl, rfl, hI⟩, by rw [ht]; exact hP, hD⟩, hS.F ht⟩) hS.2.2 dX4_loseLast_27
        ·
          have hk8 := hk_27
          rcases x_tag ha0 with ht9 | ht9 | ht9 | ht9 | ht9 | ht9
          ·
            rw [ht9.2] at hk_27
            refine va_put (D := (dC, dI)) (ci := 2) (v := .int x_25) (ty := .int) (C := RX2) (T := TX2) (N := 7) hx hb hts (by decide +kernel) tyX2 tyX2_ok nmX2 hown hK hP hD hS kk_26 hk_27 rfl 3 (by decide) (hts (.fieldLink RX4 9 "PageOne$Item" "count" "I") (by decide +kernel)) (fun _ h9 => h9) rfl (by decide +kernel) rfl rfl (by unfold itF; simp only [List.length_cons]; omega) dX4_loseLast_14 (fun H locs hP hD hS => kC H locs ?_ ?_ hS)
            · rw [← pl_set (e := .inr (ciT (z.2 a0).1, itF nu_1 kd_2 pa_4 x_25 fa_5 rs_6)) hD0 ha0.1 hs_7 hk8, ht9.2]; exact hP
            · rw [← pl_set (e := .inr (ciT (z.2 a0).1, itF nu_1 kd_2 pa_4 x_25 fa_5 rs_6)) hD0 ha0.1 hs_7 hk8, ht9.2]; exact hD
          ·
            rw [ht9.2] at hk_27
            refine va_put (D := (dC, dI)) (ci := 3) (v := .int x_25) (ty := .int) (C := RX3) (T := TX3) (N := 8) hx hb hts (by decide +kernel) tyX3 tyX3_ok nmX3 hown hK hP hD hS kk_26 hk_27 rfl 3 (by decide) (hts (.fieldLink RX4 9 "PageOne$Item" "count" "I") (by decide +kernel)) (fun _ h9 => h9) rfl (by decide +kernel) rfl rfl (by unfold itF; simp only [List.length_cons]; omega) dX4_loseLast_14 (fun H locs hP hD hS => kC H locs ?_ ?_ hS)
            · rw [← pl_set (e := .inr (ciT (z.2 a0).1, itF nu_1 kd_2 pa_4 x_25 fa_5 rs_6)) hD0 ha0.1 hs_7 hk8, ht9.2]; exact hP
            · rw [← pl_set (e := .inr (ciT (z.2 a0).1, itF nu_1 kd_2 pa_4 x_25 fa_5 rs_6)) hD0 ha0.1 hs_7 hk8, ht9.2]; exact hD
          ·
            rw [ht9.2] at hk_27
            refine va_put (D := (dC, dI)) (ci := 4) (v := .int x_25) (ty := .int) (C := RX5) (T := TX5) (N := 7) hx hb hts (by decide +kernel) tyX5 tyX5_ok nmX5 hown hK hP hD hS kk_26 hk_27 rfl 3 (by decide) (hts (.fieldLink RX4 9 "PageOne$Item" "count" "I") (by decide +kernel)) (fun _ h9 => h9) rfl (by decide +kernel) rfl rfl (by unfold itF; simp only [List.length_cons]; omega) dX4_loseLast_14 (fun H locs hP hD hS => kC H locs ?_ ?_ hS)
            · rw [← pl_set (e := .inr (ciT (z.2 a0).1, itF nu_1 kd_2 pa_4 x_25 fa_5 rs_6)) hD0 ha0.1 hs_7 hk8, ht9.2]; exact hP
            · rw [← pl_set (e := .inr (ciT (z.2 a0).1, itF nu_1 kd_2 pa_4 x_25 fa_5 rs_6)) hD0 ha0.1 hs_7 hk8, ht9.2]; exact hD
          ·
            rw [ht9.2] at hk_27
            refine va_put (D := (dC, dI)) (ci := 5) (v := .int x_25) (ty := .int) (C := RX6) (T := TX6) (N := 9) hx hb hts (by decide +kernel) tyX6 tyX6_ok nmX6 hown hK hP hD hS kk_26 hk_27 rfl 3 (by decide) (hts (.fieldLink RX4 9 "PageOne$Item" "count" "I") (by decide +kernel)) (fun _ h9 => h9) rfl (by decide +kernel) rfl rfl (by unfold itF; simp only [List.length_cons]; omega) dX4_loseLast_14 (fun H locs hP hD hS => kC H locs ?_ ?_ hS)
            · rw [← pl_set (e := .inr (ciT (z.2 a0).1, itF nu_1 kd_2 pa_4 x_25 fa_5 rs_6)) hD0 ha0.1 hs_7 hk8, ht9.2]; exact hP
            · rw [← pl_set (e := .inr (ciT (z.2 a0).1, itF nu_1 kd_2 pa_4 x_25 fa_5 rs_6)) hD0 ha0.1 hs_7 hk8, ht9.2]; exact hD
          ·
            rw [ht9.2] at hk_27
            refine va_put (D := (dC, dI)) (ci := 6) (v := .int x_25) (ty := .int) (C := RX7) (T := TX7) (N := 8) hx hb hts (by decide +kernel) tyX7 tyX7_ok nmX7 hown hK hP hD hS kk_26 hk_27 rfl 3 (by decide) (hts (.fieldLink RX4 9 "PageOne$Item" "count" "I") (by decide +kernel)) (fun _ h9 => h9) rfl (by decide +kernel) rfl rfl (by unfold itF; simp only [List.length_cons]; omega) dX4_loseLast_14 (fun H locs hP hD hS => kC H locs ?_ ?_ hS)
            · rw [← pl_set (e := .inr (ciT (z.2 a0).1, itF nu_1 kd_2 pa_4 x_25 fa_5 rs_6)) hD0 ha0.1 hs_7 hk8, ht9.2]; exact hP
            · rw [← pl_set (e := .inr (ciT (z.2 a0).1, itF nu_1 kd_2 pa_4 x_25 fa_5 rs_6)) hD0 ha0.1 hs_7 hk8, ht9.2]; exact hD
          ·
            rw [ht9.2] at hk_27
            refine va_put (D := (dC, dI)) (ci := 9) (v := .int x_25) (ty := .int) (C := RX10) (T := TX10) (N := 9) hx hb hts (by decide +kernel) tyX10 tyX10_ok nmX10 hown hK hP hD hS kk_26 hk_27 rfl 3 (by decide) (hts (.fieldLink RX4 9 "PageOne$Item" "count" "I") (by decide +kernel)) (fun _ h9 => h9) rfl (by decide +kernel) rfl rfl (by unfold itF; simp only [List.length_cons]; omega) dX4_loseLast_14 (fun H locs hP hD hS => kC H locs ?_ ?_ hS)
            · rw [← pl_set (e := .inr (ciT (z.2 a0).1, itF nu_1 kd_2 pa_4 x_25 fa_5 rs_6)) hD0 ha0.1 hs_7 hk8, ht9.2]; exact hP
            · rw [← pl_set (e := .inr (ciT (z.2 a0).1, itF nu_1 kd_2 pa_4 x_25 fa_5 rs_6)) hD0 ha0.1 hs_7 hk8, ht9.2]; exact hD
