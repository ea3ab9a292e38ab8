set_option maxHeartbeats 4000000 in
set_option maxRecDepth 100000 in
theorem x_canAct (l : Launch) (dC : Nat → ClassId) (dI : Nat → Nat → Nat) (q : Nat → ClassId) (h0 : Nat) (d : Nat → Nat) (k : Nat → Int32) (z : gS) (f : xF) (hI : xI q h0 d k z f) : Met l yX11_canAct wsX11_canAct ({ frames := 0, cells := 0, slots := 0, locals := 0 }) (va_Pc [.ref h0] (PX dC dI (va_pl z.1 f) (xT q))) (vp_Si (fun r => r = 0 ∨ (r = 1 ∧ ¬ 300 ≤ k 1))) 0 0 (fun _ => False) := by
  refine Met.ofW (cc := cX11_canAct) (maxL := 1) (ret := (some .boolean)) (by decide) rfl ?_
  intro p e s m args below meth c s₁ B hml hv
  obtain ⟨rfl, ⟨hP, hK, hN⟩, hXN⟩ := hv
  have hx := B.exec
  have hb := B.bytes
  have hr := B.returns
  have hts := atoms_spec (ws := wsX11_canAct) B.pre
  have hown : s.vm.findClass RX11 = some m.cls := findClass_of_methodNamed B.named
  have hlocks := B.notSynchronized
  have hl := lv_entry ([.ref h0]) (n := 1) (Nat.le_of_ble_eq_true rfl)
  rw [lg_entry_eq]
  generalize (lg_sl ([.ref h0]) ++ List.replicate (1 - (lg_sl ([.ref h0])).length) Slot.unset).toArray = ls at hl ⊢
  have hl : lv_has ls 1 [(0, .ref h0)] := hl
  refine lv_aload_n hx hb dX11_canAct_0 rfl (lv_at hl 0 rfl) ?_
  obtain ⟨kk_1, hk_2⟩ := pl_at hI.2.1.1.1 hI.2.2.2.1.1
  refine va_get (D := (dC, dI)) (ci := 10) (v := .int (k 1)) (C := RX11) (T := TX11) (N := 9) hx hb hts (by decide +kernel) hown hK hP kk_1 hk_2 rfl 5 (by decide) (hts (.fieldLink RX11 34 "PageOne" "actCount" "I") (by decide +kernel)) (fun _ h9 => h9) rfl dX11_canAct_1 ?_
  refine lv_sipush (v := 300) hx hb dX11_canAct_4 (by decide) ?_
  refine lv_icmp_ge (tgt := 14) hx hb dX11_canAct_7 (by decide) (fun c_3 => ?_) (fun c_3 => ?_)
  ·
    refine lv_iconst (v := 0) hx hb dX11_canAct_14 (by decide) ?_
    exact W.zret (v := 0) hx hb hr (by decide) (fun t ht hW => ⟨_, rfl, (Or.inl rfl), ht⟩) (fun q h => absurd h List.not_mem_nil) dX11_canAct_15
  ·
    refine lv_iconst (v := 1) hx hb dX11_canAct_10 (by decide) ?_
    refine lv_goto (tgt := 15) hx hb dX11_canAct_11 (by decide) ?_
    exact W.zret (v := 1) hx hb hr (by decide) (fun t ht hW => ⟨_, rfl, (Or.inr ⟨rfl, c_3⟩), ht⟩) (fun q h => absurd h List.not_mem_nil) dX11_canAct_15
set_option maxHeartbeats 4000000 in
set_option maxRecDepth 100000 in
theorem x_hasPlate (l : Launch) (dC : Nat → ClassId) (dI : Nat → Nat → Nat) (q : Nat → ClassId) (h0 : Nat) (d : Nat → Nat) (k : Nat → Int32) (z : gS) (f : xF) (hI : xI q h0 d k z f) (p0 : Int32) : Met l yX11_hasPlate wsX11_hasPlate ({ frames := 2, cells := 0, slots := 0, locals := 42 }) (va_Pc [.ref h0, .int p0] (PX dC dI (va_pl z.1 f) (xT q))) (vp_Si (fun r => r = 0 ∨ (r = 1 ∧ xPl q d z f p0))) 0 0 (fun _ => False) := by
  refine Met.ofW (cc := cX11_hasPlate) (maxL := 2) (ret := (some .boolean)) (by decide) rfl ?_
  intro p e s m args below meth c s₁ B hml hv
  obtain ⟨rfl, ⟨hP, hK, hN⟩, hXN⟩ := hv
  have hx := B.exec
  have hb := B.bytes
  have hr := B.returns
  have hts := atoms_spec (ws := wsX11_hasPlate) B.pre
  have hown : s.vm.findClass RX11 = some m.cls := findClass_of_methodNamed B.named
  have hlocks := B.notSynchronized
  have hl := lv_entry ([.ref h0, .int p0]) (n := 2) (Nat.le_of_ble_eq_true rfl)
  rw [lg_entry_eq]
  generalize (lg_sl ([.ref h0, .int p0]) ++ List.replicate (2 - (lg_sl ([.ref h0, .int p0])).length) Slot.unset).toArray = ls at hl ⊢
  have hl : lv_has ls 2 [(0, .ref h0), (1, .int p0)] := hl
  refine lv_iload_n hx hb dX11_hasPlate_0 rfl (lv_at hl 1 rfl) ?_
  refine vp_callSi (va_runS (As := [.int p0]) (rest := []) ⟨hx, hb, hml, hown, hts⟩ (x_isPage l dC dI p0) (va_cwS 1 hts gX11_hasPlate_X11_isPage rfl rfl rfl (by decide +kernel) ⟨Nat.le_of_ble_eq_true rfl, Nat.le_of_ble_eq_true rfl⟩) ⟨pw_fb, fun U hU hW => ⟨rfl, pw_to hU hW (hP.sub (ws' := []) [] rfl) (hK.sub (tys' := []) [] rfl) hN⟩⟩ rfl rfl hl.1 rfl (lv_room (Nat.le_of_ble_eq_true rfl)) dX11_hasPlate_1 ⟨Nat.le_of_ble_eq_true rfl, Nat.le_of_ble_eq_true rfl⟩).run (fun r hw => ?_)
  rcases Bool.eq_false_or_eq_true (bw p0 0 11) with b_1 | b_1
  ·
    obtain rfl : r = 1 := b_t hw b_1
    refine lv_if_eq (tgt := 20) hx hb dX11_hasPlate_4 (by decide) (fun c_2 => absurd c_2 (by decide)) (fun c_2 => ?_)
    refine lv_aload_n hx hb dX11_hasPlate_7 rfl (lv_at hl 0 rfl) ?_
    obtain ⟨kk_3, hk_4⟩ := pl_at hI.2.1.1.1 hI.2.2.2.1.1
    refine va_get (D := (dC, dI)) (ci := 10) (v := .ref (d 1)) (C := RX11) (T := TX11) (N := 9) hx hb hts (by decide +kernel) hown hK hP kk_3 hk_4 rfl 1 (by decide) (hts (.fieldLink RX11 15 "PageOne" "plates" "[LPageOne$Sheet;") (by decide +kernel)) (fun _ h9 => h9) rfl dX11_hasPlate_8 ?_
    refine lv_iload_n hx hb dX11_hasPlate_11 rfl (lv_at hl 1 rfl) ?_
    obtain ⟨g_5, hs_6, hg_7⟩ := x_pl hI hI.2.1.2.2.1
    obtain ⟨kk_8, hk_9⟩ := pl_at hI.2.1.2.2.1.1 hs_6
    refine va_aldq hx hb hK hP kk_8 2 hk_9 rfl (vin b_1 (by decide)) dX11_hasPlate_12 ?_
    rcases hg_11 : (g_5 (p0 : Int32).toNatClampNeg) with _ | b_10
    ·
      refine W.eq (g2 := F0 m 13 ls [.null]) rfl ?_
      refine lv_ifnullN (tgt := 20) hx hb dX11_hasPlate_13 (by decide) ?_
      refine lv_iconst (v := 0) hx hb dX11_hasPlate_20 (by decide) ?_
      exact W.zret (v := 0) hx hb hr (by decide) (fun t ht hW => ⟨_, rfl, (Or.inl rfl), ht⟩) (fun q h => absurd h List.not_mem_nil) dX11_hasPlate_21
    ·
      have ht_12 := hg_7 (p0 : Int32).toNatClampNeg (vlt (vin b_1 (by decide))) b_10 hg_11
      refine W.eq (g2 := F0 m 13 ls [.ref b_10]) rfl ?_
      refine lv_ifnull hx hb dX11_hasPlate_13 ?_
      refine lv_iconst (v := 1) hx hb dX11_hasPlate_16 (by decide) ?_
      refine lv_goto (tgt := 21) hx hb dX11_hasPlate_17 (by decide) ?_
      exact W.zret (v := 1) hx hb hr (by decide) (fun t ht hW => ⟨_, rfl, (Or.inr ⟨rfl, b_1, g_5, b_10, hs_6, hg_11, ht_12⟩), ht⟩) (fun q h => absurd h List.not_mem_nil) dX11_hasPlate_21
  ·
    obtain rfl : r = 0 := b_f hw b_1
    refine lv_if_eq (tgt := 20) hx hb dX11_hasPlate_4 (by decide) (fun c_13 => ?_) (fun c_13 => absurd (by decide) c_13)
    refine lv_iconst (v := 0) hx hb dX11_hasPlate_20 (by decide) ?_
    exact W.zret (v := 0) hx hb hr (by decide) (fun t ht hW => ⟨_, rfl, (Or.inl rfl), ht⟩) (fun q h => absurd h List.not_mem_nil) dX11_hasPlate_21
set_option maxHeartbeats 4000000 in
set_option maxRecDepth 100000 in
theorem x_isFresh (l : Launch) (dC : Nat → ClassId) (dI : Nat → Nat → Nat) (q : Nat → ClassId) (h0 : Nat) (d : Nat → Nat) (k : Nat → Int32) (z : gS) (f : xF) (hI : xI q h0 d k z f) (p0 : Int32) : Met l yX11_isFresh wsX11_isFresh ({ frames := 3, cells := 0, slots := 0, locals := 63 }) (va_Pc [.ref h0, .int p0] (PX dC dI (va_pl z.1 f) (xT q))) (vp_Si (fun r => r = 0 ∨ (r = 1 ∧ xPl q d z f p0))) 0 0 (fun _ => False) := by
  refine Met.ofW (cc := cX11_isFresh) (maxL := 2) (ret := (some .boolean)) (by decide) rfl ?_
  intro p e s m args below meth c s₁ B hml hv
  obtain ⟨rfl, ⟨hP, hK, hN⟩, hXN⟩ := hv
  have hx := B.exec
  have hb := B.bytes
  have hr := B.returns
  have hts := atoms_spec (ws := wsX11_isFresh) B.pre
  have hown : s.vm.findClass RX11 = some m.cls := findClass_of_methodNamed B.named
  have hlocks := B.notSynchronized
  have hl := lv_entry ([.ref h0, .int p0]) (n := 2) (Nat.le_of_ble_eq_true rfl)
  rw [lg_entry_eq]
  generalize (lg_sl ([.ref h0, .int p0]) ++ List.replicate (2 - (lg_sl ([.ref h0, .int p0])).length) Slot.unset).toArray = ls at hl ⊢
  have hl : lv_has ls 2 [(0, .ref h0), (1, .int p0)] := hl
  refine lv_aload_n hx hb dX11_isFresh_0 rfl (lv_at hl 0 rfl) ?_
  refine lv_iload_n hx hb dX11_isFresh_1 rfl (lv_at hl 1 rfl) ?_
  obtain ⟨kk_1, hk_2⟩ := pl_at hI.2.1.1.1 hI.2.2.2.1.1
  refine vp_callSi (va_runV (As := [.int p0]) (rest := []) ⟨hx, hb, hml, hown, hts⟩ (x_hasPlate l dC dI q h0 d k z f hI p0) (cwV 1 hts gX11_isFresh_X11_hasPlate rfl rfl rfl (by decide +kernel) ⟨Nat.le_of_ble_eq_true rfl, Nat.le_of_ble_eq_true rfl⟩) ⟨px_fb, va_recv hK hP (ci := 10) (q0 := kk_1) rfl hk_2, fun U hU hW => ⟨rfl, px_to hU hW hP hK hN hXN⟩⟩ rfl rfl hl.1 rfl (lv_room (Nat.le_of_ble_eq_true rfl)) dX11_isFresh_2 ⟨Nat.le_of_ble_eq_true rfl, Nat.le_of_ble_eq_true rfl⟩).run (fun r hw => ?_)
  rcases hw with hw | ⟨hw, hbw_8, gp_3, bp_4, hp_5, hp_6, hp_7⟩
  ·
    subst hw
    refine lv_if_eq (tgt := 44) hx hb dX11_isFresh_5 (by decide) (fun c_9 => ?_) (fun c_9 => absurd (by decide) c_9)
    refine lv_iconst (v := 0) hx hb dX11_isFresh_44 (by decide) ?_
    exact W.zret (v := 0) hx hb hr (by decide) (fun t ht hW => ⟨_, rfl, (Or.inl rfl), ht⟩) (fun q h => absurd h List.not_mem_nil) dX11_isFresh_45
  ·
    subst hw
    refine lv_if_eq (tgt := 44) hx hb dX11_isFresh_5 (by decide) (fun c_10 => absurd c_10 (by decide)) (fun c_10 => ?_)
    refine lv_aload_n hx hb dX11_isFresh_8 rfl (lv_at hl 0 rfl) ?_
    obtain ⟨kk_11, hk_12⟩ := pl_at hI.2.1.1.1 hI.2.2.2.1.1
    refine va_get (D := (dC, dI)) (ci := 10) (v := .ref (d 1)) (C := RX11) (T := TX11) (N := 9) hx hb hts (by decide +kernel) hown hK hP kk_11 hk_12 rfl 1 (by decide) (hts (.fieldLink RX11 15 "PageOne" "plates" "[LPageOne$Sheet;") (by decide +kernel)) (fun _ h9 => h9) rfl dX11_isFresh_9 ?_
    refine lv_iload_n hx hb dX11_isFresh_12 rfl (lv_at hl 1 rfl) ?_
    obtain ⟨kk_13, hk_14⟩ := pl_at hI.2.1.2.2.1.1 hp_5
    refine va_aldq hx hb hK hP kk_13 2 hk_14 rfl (vin hbw_8 (by decide)) dX11_isFresh_13 ?_
    rw [hp_6]
    refine W.eq (g2 := F0 m 14 ls [.ref bp_4]) rfl ?_
    obtain ⟨la_15, ca_16, m_17, dd_18, ii_19, hs_20, ht_21, ht_22⟩ := x_sh hI hp_7
    obtain ⟨kk_23, hk_24⟩ := pl_at hp_7.1 hs_20
    refine va_get (D := (dC, dI)) (ci := 8) (v := .int dd_18) (C := RX9) (T := TX9) (N := 5) hx hb hts (by decide +kernel) hown hK hP kk_23 hk_24 rfl 3 (by decide) (hts (.fieldLink RX11 210 "PageOne$Sheet" "day" "I") (by decide +kernel)) (fun _ h9 => h9) rfl dX11_isFresh_14 ?_
    refine lv_aload_n hx hb dX11_isFresh_17 rfl (lv_at hl 0 rfl) ?_
    obtain ⟨kk_25, hk_26⟩ := pl_at hI.2.1.1.1 hI.2.2.2.1.1
    refine va_get (D := (dC, dI)) (ci := 10) (v := .int (k 2)) (C := RX11) (T := TX11) (N := 9) hx hb hts (by decide +kernel) hown hK hP kk_25 hk_26 rfl 7 (by decide) (hts (.fieldLink RX11 41 "PageOne" "today" "I") (by decide +kernel)) (fun _ h9 => h9) rfl dX11_isFresh_18 ?_
    refine lv_icmp_ne (tgt := 44) hx hb dX11_isFresh_21 (by decide) (fun c_27 => ?_) (fun c_27 => ?_)
    ·
      refine lv_iconst (v := 0) hx hb dX11_isFresh_44 (by decide) ?_
      exact W.zret (v := 0) hx hb hr (by decide) (fun t ht hW => ⟨_, rfl, (Or.inl rfl), ht⟩) (fun q h => absurd h List.not_mem_nil) dX11_isFresh_45
    ·
      refine lv_aload_n hx hb dX11_isFresh_24 rfl (lv_at hl 0 rfl) ?_
      obtain ⟨kk_28, hk_29⟩ := pl_at hI.2.1.1.1 hI.2.2.2.1.1
      refine va_get (D := (dC, dI)) (ci := 10) (v := .ref (d 1)) (C := RX11) (T := TX11) (N := 9) hx hb hts (by decide +kernel) hown hK hP kk_28 hk_29 rfl 1 (by decide) (hts (.fieldLink RX11 15 "PageOne" "plates" "[LPageOne$Sheet;") (by decide +kernel)) (fun _ h9 => h9) rfl dX11_isFresh_25 ?_
      refine lv_iload_n hx hb dX11_isFresh_28 rfl (lv_at hl 1 rfl) ?_
      obtain ⟨kk_30, hk_31⟩ := pl_at hI.2.1.2.2.1.1 hp_5
      refine va_aldq hx hb hK hP kk_30 2 hk_31 rfl (vin hbw_8 (by decide)) dX11_isFresh_29 ?_
      rw [hp_6]
      refine W.eq (g2 := F0 m 30 ls [.ref bp_4]) rfl ?_
      obtain ⟨kk_32, hk_33⟩ := pl_at hp_7.1 hs_20
      refine va_get (D := (dC, dI)) (ci := 8) (v := .int ii_19) (C := RX9) (T := TX9) (N := 5) hx hb hts (by decide +kernel) hown hK hP kk_32 hk_33 rfl 4 (by decide) (hts (.fieldLink RX11 213 "PageOne$Sheet" "edition" "I") (by decide +kernel)) (fun _ h9 => h9) rfl dX11_isFresh_30 ?_
      refine lv_aload_n hx hb dX11_isFresh_33 rfl (lv_at hl 0 rfl) ?_
      obtain ⟨kk_34, hk_35⟩ := pl_at hI.2.1.1.1 hI.2.2.2.1.1
      refine va_get (D := (dC, dI)) (ci := 10) (v := .int (k 3)) (C := RX11) (T := TX11) (N := 9) hx hb hts (by decide +kernel) hown hK hP kk_34 hk_35 rfl 8 (by decide) (hts (.fieldLink RX11 44 "PageOne" "editionNow" "I") (by decide +kernel)) (fun _ h9 => h9) rfl dX11_isFresh_34 ?_
      refine lv_icmp_ne (tgt := 44) hx hb dX11_isFresh_37 (by decide) (fun c_36 => ?_) (fun c_36 => ?_)
      ·
        refine lv_iconst (v := 0) hx hb dX11_isFresh_44 (by decide) ?_
        exact W.zret (v := 0) hx hb hr (by decide) (fun t ht hW => ⟨_, rfl, (Or.inl rfl), ht⟩) (fun q h => absurd h List.not_mem_nil) dX11_isFresh_45
      ·
        refine lv_iconst (v := 1) hx hb dX11_isFresh_40 (by decide) ?_
        refine lv_goto (tgt := 45) hx hb dX11_isFresh_41 (by decide) ?_
        exact W.zret (v := 1) hx hb hr (by decide) (fun t ht hW => ⟨_, rfl, (Or.inr ⟨rfl, ⟨hbw_8, gp_3, bp_4, hp_5, hp_6, hp_7⟩⟩), ht⟩) (fun q h => absurd h List.not_mem_nil) dX11_isFresh_45
set_option maxHeartbeats 4000000 in
set_option maxRecDepth 100000 in
theorem x_freshPlates_l {p : Program} {l : Launch} {e : Env} {R : Room} {s : State} {m : MethodId} {args : Array Value} {below : List Frame} {meth : Method} {c : Code} {Q : State → Prop} {cells slots : Nat} {dC : Nat → ClassId} {dI : Nat → Nat → Nat} {q : Nat → ClassId} {h0 : Nat} {d : Nat → Nat} {k : Nat → Int32} {z : gS} {f : xF} {H : Heap} {locs : List Loc} (hI : xI q h0 d k z f) (hx : p.tables.exec = Jvm.exec) (hb : c.code = cX11_freshPlates) (hml : c.maxLocals = 3) (hts : ∀ w ∈ wsX11_freshPlates, w.before args s = true) (hown : s.vm.findClass RX11 = some m.cls) (hN : NN s) (hXN : XN s) (hK : va_K (dC, dI) vwCl (xT q) s) (hRf : 4 ≤ R.frames) (hRl : 84 ≤ R.locals) (hRc : cells ≤ R.cells) (hRs : slots ≤ R.slots) (hP : va_P (dC, dI) vwCl (va_pl z.1 f) H) (kx27 : ∀ (a9 : Int32) (ls : Array Slot), lv_has ls 3 [(1, .int a9), (0, .ref h0)] → W p l e R s m args below meth c H locs cells slots Q (F0 m 27 ls [])) : ∀ (kk i : Nat) (a : Int32) (ls : Array Slot), i ≤ 12 → 12 - i < kk → lv_has ls 3 [(2, .int (nI i)), (1, .int a), (0, .ref h0)] → W p l e R s m args below meth c H locs cells slots Q (F0 m 4 ls []) := by
  intro kk
  induction kk with
  | zero => intro i a ls h1 h2; exact absurd h2 (Nat.not_lt_zero _)
  | succ kk ih =>
    intro i a ls hi hkk hl
    refine lv_iload_n hx hb dX11_freshPlates_4 rfl (lv_at hl 0 rfl) ?_
    refine lv_bipush (v := 12) hx hb dX11_freshPlates_5 (by decide) ?_
    refine lv_icmp_ge (tgt := 27) hx hb dX11_freshPlates_7 (by decide) (fun c_1 => ?_) (fun c_1 => ?_)
    ·
      have hie : i = 12 := lp_eq rfl (by decide) hi c_1
      exact kx27 _ ls (lv_sub hl [1, 2] rfl)
    ·
      have hlt : i < 12 := lp_lt rfl (by decide) hi c_1
      refine lv_aload_n hx hb dX11_freshPlates_10 rfl (lv_at hl 2 rfl) ?_
      refine lv_iload_n hx hb dX11_freshPlates_11 rfl (lv_at hl 0 rfl) ?_
      obtain ⟨kk_2, hk_3⟩ := pl_at hI.2.1.1.1 hI.2.2.2.1.1
      refine vp_callSi (va_runV (As := [.int (nI i)]) (rest := []) ⟨hx, hb, hml, hown, hts⟩ (x_isFresh l dC dI q h0 d k z f hI (nI i)) (cwV 1 hts gX11_freshPlates_X11_isFresh rfl rfl rfl (by decide +kernel) ⟨Nat.le_trans (Nat.le_of_ble_eq_true rfl) hRf, Nat.le_trans (Nat.le_of_ble_eq_true rfl) hRl⟩) ⟨px_fb, va_recv hK hP (ci := 10) (q0 := kk_2) rfl hk_3, fun U hU hW => ⟨rfl, px_to hU hW hP hK hN hXN⟩⟩ rfl rfl hl.1 rfl (lv_room (Nat.le_of_ble_eq_true rfl)) dX11_freshPlates_12 ⟨hRc, hRs⟩).run (fun r hw => ?_)
      rcases hw with hw | ⟨hw, hbw_9, gp_4, bp_5, hp_6, hp_7, hp_8⟩
      ·
        subst hw
        refine lv_if_eq (tgt := 21) hx hb dX11_freshPlates_15 (by decide) (fun c_10 => ?_) (fun c_10 => absurd (by decide) c_10)
        refine lv_iinc (v := (nI (i + 1))) (lv' := [(2, .int (nI (i + 1))), (1, .int a), (0, .ref h0)]) hx hb dX11_freshPlates_21 hl (k := 0) rfl (nI_1 i) (by decide) rfl (fun ls hl => ?_)
        refine lv_goto (tgt := 4) hx hb dX11_freshPlates_24 (by decide) ?_
        exact ih (i + 1) _ ls (by omega) (by omega) (lv_sub hl [0, 1, 2] rfl)
      ·
        subst hw
        refine lv_if_eq (tgt := 21) hx hb dX11_freshPlates_15 (by decide) (fun c_11 => absurd c_11 (by decide)) (fun c_11 => ?_)
        obtain ⟨x_12, ex_12⟩ : ∃ y : Int32, y = a + 1 := ⟨_, rfl⟩
        refine lv_iinc (v := x_12) (lv' := [(1, .int x_12), (2, .int (nI i)), (0, .ref h0)]) hx hb dX11_freshPlates_18 hl (k := 1) rfl (by rw [ex_12]; rfl) (by decide) rfl (fun ls hl => ?_)
        refine lv_iinc (v := (nI (i + 1))) (lv' := [(2, .int (nI (i + 1))), (1, .int x_12), (0, .ref h0)]) hx hb dX11_freshPlates_21 hl (k := 1) rfl (nI_1 i) (by decide) rfl (fun ls hl => ?_)
        refine lv_goto (tgt := 4) hx hb dX11_freshPlates_24 (by decide) ?_
        exact ih (i + 1) _ ls (by omega) (by omega) (lv_sub hl [0, 1, 2] rfl)
set_option maxHeartbeats 4000000 in
set_option maxRecDepth 100000 in
theorem x_freshPlates (l : Launch) (dC : Nat → ClassId) (dI : Nat → Nat → Nat) (q : Nat → ClassId) (h0 : Nat) (d : Nat → Nat) (k : Nat → Int32) (z : gS) (f : xF) (hI : xI q h0 d k z f) : Met l yX11_freshPlates wsX11_freshPlates ({ frames := 4, cells := 0, slots := 0, locals := 84 }) (va_Pc [.ref h0] (PX dC dI (va_pl z.1 f) (xT q))) (vp_Si (fun r => True)) 0 0 (fun _ => False) := by
  refine Met.ofW (cc := cX11_freshPlates) (maxL := 3) (ret := (some .int)) (by decide) rfl ?_
  intro p e s m args below meth c s₁ B hml hv
  obtain ⟨rfl, ⟨hP, hK, hN⟩, hXN⟩ := hv
  have hx := B.exec
  have hb := B.bytes
  have hr := B.returns
  have hts := atoms_spec (ws := wsX11_freshPlates) B.pre
  have hown : s.vm.findClass RX11 = some m.cls := findClass_of_methodNamed B.named
  have hlocks := B.notSynchronized
  have hl := lv_entry ([.ref h0]) (n := 3) (Nat.le_of_ble_eq_true rfl)
  rw [lg_entry_eq]
  generalize (lg_sl ([.ref h0]) ++ List.replicate (3 - (lg_sl ([.ref h0])).length) Slot.unset).toArray = ls at hl ⊢
  have hl : lv_has ls 3 [(0, .ref h0)] := hl
  refine lv_iconst (v := 0) hx hb dX11_freshPlates_0 (by decide) ?_
  refine lv_istore_n (lv' := [(1, .int 0), (0, .ref h0)]) hx hb dX11_freshPlates_1 rfl hl (by decide) rfl (fun ls hl => ?_)
  refine lv_iconst (v := 0) hx hb dX11_freshPlates_2 (by decide) ?_
  refine lv_istore_n (lv' := [(2, .int 0), (1, .int 0), (0, .ref h0)]) hx hb dX11_freshPlates_3 rfl hl (by decide) rfl (fun ls hl => ?_)
  refine x_freshPlates_l hI hx hb hml hts hown hN hXN hK (Nat.le_of_ble_eq_true rfl) (Nat.le_of_ble_eq_true rfl) (Nat.le_of_ble_eq_true rfl) (Nat.le_of_ble_eq_true rfl) hP (fun a9 ls hl => ?_) 13 0 0 ls (by decide) (by decide) (lv_sub hl [0, 1, 2] rfl)
  refine lv_iload_n hx hb dX11_freshPlates_27 rfl (lv_at hl 0 rfl) ?_
  exact W.iret (v := a9) hx hb hr (fun t ht hW => ⟨_, rfl, trivial, ht⟩) (fun q h => absurd h List.not_mem_nil) dX11_freshPlates_28
set_option maxHeartbeats 4000000 in
set_option maxRecDepth 100000 in
theorem x_plateFact (l : Launch) (dC : Nat → ClassId) (dI : Nat → Nat → Nat) (q : Nat → ClassId) (h0 : Nat) (d : Nat → Nat) (k : Nat → Int32) (z : gS) (f : xF) (hI : xI q h0 d k z f) (p0 p1 p2 : Int32) (hpl : xPl q d z f p0) : Met l yX11_plateFact wsX11_plateFact ({ frames := 0, cells := 0, slots := 0, locals := 0 }) (va_Pc [.ref h0, .int p0, .int p1, .int p2] (PX dC dI (va_pl z.1 f) (xT q))) (vp_Si (fun r => True)) 0 0 (fun _ => False) := by
  refine Met.ofW (cc := cX11_plateFact) (maxL := 4) (ret := (some .int)) (by decide) rfl ?_
  intro p e s m args below meth c s₁ B hml hv
  obtain ⟨rfl, ⟨hP, hK, hN⟩, hXN⟩ := hv
  have hx := B.exec
  have hb := B.bytes
  have hr := B.returns
  have hts := atoms_spec (ws := wsX11_plateFact) B.pre
  have hown : s.vm.findClass RX11 = some m.cls := findClass_of_methodNamed B.named
  have hlocks := B.notSynchronized
  have hl := lv_entry ([.ref h0, .int p0, .int p1, .int p2]) (n := 4) (Nat.le_of_ble_eq_true rfl)
  rw [lg_entry_eq]
  generalize (lg_sl ([.ref h0, .int p0, .int p1, .int p2]) ++ List.replicate (4 - (lg_sl ([.ref h0, .int p0, .int p1, .int p2])).length) Slot.unset).toArray = ls at hl ⊢
  have hl : lv_has ls 4 [(0, .ref h0), (1, .int p0), (2, .int p1), (3, .int p2)] := hl
  obtain ⟨hbw0, gp0, bp0, hp01, hp02, hp03⟩ := hpl
  refine lv_iload_n hx hb dX11_plateFact_0 rfl (lv_at hl 3 rfl) ?_
  rcases Classical.em (p2 = 0) with s_1 | s_1
  ·
    subst s_1
    refine lv_tableIn (tgt := 36) (off := 35) hx hb dX11_plateFact_1 (by decide) (by decide) (by decide) (by decide) ?_
    refine lv_aload_n hx hb dX11_plateFact_36 rfl (lv_at hl 0 rfl) ?_
    obtain ⟨kk_2, hk_3⟩ := pl_at hI.2.1.1.1 hI.2.2.2.1.1
    refine va_get (D := (dC, dI)) (ci := 10) (v := .ref (d 1)) (C := RX11) (T := TX11) (N := 9) hx hb hts (by decide +kernel) hown hK hP kk_2 hk_3 rfl 1 (by decide) (hts (.fieldLink RX11 15 "PageOne" "plates" "[LPageOne$Sheet;") (by decide +kernel)) (fun _ h9 => h9) rfl dX11_plateFact_37 ?_
    refine lv_iload_n hx hb dX11_plateFact_40 rfl (lv_at hl 1 rfl) ?_
    obtain ⟨kk_4, hk_5⟩ := pl_at hI.2.1.2.2.1.1 hp01
    refine va_aldq hx hb hK hP kk_4 2 hk_5 rfl (vin hbw0 (by decide)) dX11_plateFact_41 ?_
    rw [hp02]
    refine W.eq (g2 := F0 m 42 ls [.ref bp0]) rfl ?_
    obtain ⟨la_6, ca_7, m_8, dd_9, ii_10, hs_11, ht_12, ht_13⟩ := x_sh hI hp03
    obtain ⟨kk_14, hk_15⟩ := pl_at hp03.1 hs_11
    refine va_get (D := (dC, dI)) (ci := 8) (v := .int dd_9) (C := RX9) (T := TX9) (N := 5) hx hb hts (by decide +kernel) hown hK hP kk_14 hk_15 rfl 3 (by decide) (hts (.fieldLink RX11 210 "PageOne$Sheet" "day" "I") (by decide +kernel)) (fun _ h9 => h9) rfl dX11_plateFact_42 ?_
    exact W.iret (v := dd_9) hx hb hr (fun t ht hW => ⟨_, rfl, trivial, ht⟩) (fun q h => absurd h List.not_mem_nil) dX11_plateFact_45
  ·
    rcases Classical.em (p2 = 1) with s_16 | s_16
    ·
      subst s_16
      refine lv_tableIn (tgt := 46) (off := 45) hx hb dX11_plateFact_1 (by decide) (by decide) (by decide) (by decide) ?_
      refine lv_aload_n hx hb dX11_plateFact_46 rfl (lv_at hl 0 rfl) ?_
      obtain ⟨kk_17, hk_18⟩ := pl_at hI.2.1.1.1 hI.2.2.2.1.1
      refine va_get (D := (dC, dI)) (ci := 10) (v := .ref (d 1)) (C := RX11) (T := TX11) (N := 9) hx hb hts (by decide +kernel) hown hK hP kk_17 hk_18 rfl 1 (by decide) (hts (.fieldLink RX11 15 "PageOne" "plates" "[LPageOne$Sheet;") (by decide +kernel)) (fun _ h9 => h9) rfl dX11_plateFact_47 ?_
      refine lv_iload_n hx hb dX11_plateFact_50 rfl (lv_at hl 1 rfl) ?_
      obtain ⟨kk_19, hk_20⟩ := pl_at hI.2.1.2.2.1.1 hp01
      refine va_aldq hx hb hK hP kk_19 2 hk_20 rfl (vin hbw0 (by decide)) dX11_plateFact_51 ?_
      rw [hp02]
      refine W.eq (g2 := F0 m 52 ls [.ref bp0]) rfl ?_
      obtain ⟨la_21, ca_22, m_23, dd_24, ii_25, hs_26, ht_27, ht_28⟩ := x_sh hI hp03
      obtain ⟨kk_29, hk_30⟩ := pl_at hp03.1 hs_26
      refine va_get (D := (dC, dI)) (ci := 8) (v := .int ii_25) (C := RX9) (T := TX9) (N := 5) hx hb hts (by decide +kernel) hown hK hP kk_29 hk_30 rfl 4 (by decide) (hts (.fieldLink RX11 213 "PageOne$Sheet" "edition" "I") (by decide +kernel)) (fun _ h9 => h9) rfl dX11_plateFact_52 ?_
      exact W.iret (v := ii_25) hx hb hr (fun t ht hW => ⟨_, rfl, trivial, ht⟩) (fun q h => absurd h List.not_mem_nil) dX11_plateFact_55
    ·
      rcases Classical.em (p2 = 2) with s_31 | s_31
      ·
        subst s_31
        refine lv_tableIn (tgt := 56) (off := 55) hx hb dX11_plateFact_1 (by decide) (by decide) (by decide) (by decide) ?_
        refine lv_iload_n hx hb dX11_plateFact_56 rfl (lv_at hl 1 rfl) ?_
        exact W.iret (v := p0) hx hb hr (fun t ht hW => ⟨_, rfl, trivial, ht⟩) (fun q h => absurd h List.not_mem_nil) dX11_plateFact_57
      ·
        rcases Classical.em (p2 = 3) with s_32 | s_32
        ·
          subst s_32
          refine lv_tableIn (tgt := 58) (off := 57) hx hb dX11_plateFact_1 (by decide) (by decide) (by decide) (by decide) ?_
          refine lv_iload_n hx hb dX11_plateFact_58 rfl (lv_at hl 2 rfl) ?_
          refine lv_bipush (v := 60) hx hb dX11_plateFact_59 (by decide) ?_
          refine lv_idiv hx hb dX11_plateFact_61 (by decide) ?_
          refine lv_topi (fun zr_33 ezr_33 => ?_)
          exact W.iret (v := zr_33) hx hb hr (fun t ht hW => ⟨_, rfl, trivial, ht⟩) (fun q h => absurd h List.not_mem_nil) dX11_plateFact_62
        ·
          rcases Classical.em (p2 = 4) with s_34 | s_34
          ·
            subst s_34
            refine lv_tableIn (tgt := 63) (off := 62) hx hb dX11_plateFact_1 (by decide) (by decide) (by decide) (by decide) ?_
            refine lv_iload_n hx hb dX11_plateFact_63 rfl (lv_at hl 2 rfl) ?_
            refine lv_bipush (v := 60) hx hb dX11_plateFact_64 (by decide) ?_
            refine lv_irem hx hb dX11_plateFact_66 (by decide) ?_
            refine lv_topi (fun zr_35 ezr_35 => ?_)
            exact W.iret (v := zr_35) hx hb hr (fun t ht hW => ⟨_, rfl, trivial, ht⟩) (fun q h => absurd h List.not_mem_nil) dX11_plateFact_67
          ·
            refine lv_tableOut (tgt := 68) hx hb dX11_plateFact_1 (sw_out4 s_1 s_16 s_31 s_32 s_34) (by decide) ?_
            refine lv_iconst (v := (-1)) hx hb dX11_plateFact_68 (by decide) ?_
            exact W.iret (v := (-1)) hx hb hr (fun t ht hW => ⟨_, rfl, trivial, ht⟩) (fun q h => absurd h List.not_mem_nil) dX11_plateFact_69
set_option maxHeartbeats 4000000 in
set_option maxRecDepth 100000 in
theorem x_cell (l : Launch) (dC : Nat → ClassId) (dI : Nat → Nat → Nat) (q : Nat → ClassId) (h0 : Nat) (d : Nat → Nat) (k : Nat → Int32) (z : gS) (f : xF) (hI : xI q h0 d k z f) (p0 p1 p2 : Int32) : Met l yX11_cell wsX11_cell ({ frames := 3, cells := 0, slots := 0, locals := 64 }) (va_Pc [.ref h0, .int p0, .int p1, .int p2] (PX dC dI (va_pl z.1 f) (xT q))) (vp_Si (fun r => True)) 0 0 (fun _ => False) := by
  refine Met.ofW (cc := cX11_cell) (maxL := 4) (ret := (some .int)) (by decide) rfl ?_
  intro p e s m args below meth c s₁ B hml hv
  obtain ⟨rfl, ⟨hP, hK, hN⟩, hXN⟩ := hv
  have hx := B.exec
  have hb := B.bytes
  have hr := B.returns
  have hts := atoms_spec (ws := wsX11_cell) B.pre
  have hown : s.vm.findClass RX11 = some m.cls := findClass_of_methodNamed B.named
  have hlocks := B.notSynchronized
  have hl := lv_entry ([.ref h0, .int p0, .int p1, .int p2]) (n := 4) (Nat.le_of_ble_eq_true rfl)
  rw [lg_entry_eq]
  generalize (lg_sl ([.ref h0, .int p0, .int p1, .int p2]) ++ List.replicate (4 - (lg_sl ([.ref h0, .int p0, .int p1, .int p2])).length) Slot.unset).toArray = ls at hl ⊢
  have hl : lv_has ls 4 [(0, .ref h0), (1, .int p0), (2, .int p1), (3, .int p2)] := hl
  refine lv_iload_n hx hb dX11_cell_0 rfl (lv_at hl 1 rfl) ?_
  refine vp_callSi (va_runS (As := [.int p0]) (rest := []) ⟨hx, hb, hml, hown, hts⟩ (x_isPage l dC dI p0) (va_cwS 1 hts gX11_cell_X11_isPage rfl rfl rfl (by decide +kernel) ⟨Nat.le_of_ble_eq_true rfl, Nat.le_of_ble_eq_true rfl⟩) ⟨pw_fb, fun U hU hW => ⟨rfl, pw_to hU hW (hP.sub (ws' := []) [] rfl) (hK.sub (tys' := []) [] rfl) hN⟩⟩ rfl rfl hl.1 rfl (lv_room (Nat.le_of_ble_eq_true rfl)) dX11_cell_1 ⟨Nat.le_of_ble_eq_true rfl, Nat.le_of_ble_eq_true rfl⟩).run (fun r hw => ?_)
  rcases Bool.eq_false_or_eq_true (bw p0 0 11) with b_1 | b_1
  ·
    obtain rfl : r = 1 := b_t hw b_1
    refine lv_if_eq (tgt := 21) hx hb dX11_cell_4 (by decide) (fun c_2 => absurd c_2 (by decide)) (fun c_2 => ?_)
    refine lv_aload_n hx hb dX11_cell_7 rfl (lv_at hl 0 rfl) ?_
    obtain ⟨kk_3, hk_4⟩ := pl_at hI.2.1.1.1 hI.2.2.2.1.1
    refine va_get (D := (dC, dI)) (ci := 10) (v := .ref (d 0)) (C := RX11) (T := TX11) (N := 9) hx hb hts (by decide +kernel) hown hK hP kk_3 hk_4 rfl 0 (by decide) (hts (.fieldLink RX11 11 "PageOne" "pages" "[LPageOne$Sheet;") (by decide +kernel)) (fun _ h9 => h9) rfl dX11_cell_8 ?_
    refine lv_iload_n hx hb dX11_cell_11 rfl (lv_at hl 1 rfl) ?_
    obtain ⟨g_5, hs_6, hg_7⟩ := x_pg hI hI.2.1.2.1
    obtain ⟨kk_8, hk_9⟩ := pl_at hI.2.1.2.1.1 hs_6
    refine va_aldq hx hb hK hP kk_8 2 hk_9 rfl (vin b_1 (by decide)) dX11_cell_12 ?_
    obtain ⟨b_10, hg_11, ht_12⟩ := hg_7 _ (vlt (vin b_1 (by decide)))
    rw [hg_11]
    refine W.eq (g2 := F0 m 13 ls [.ref b_10]) rfl ?_
    refine lv_iload_n hx hb dX11_cell_13 rfl (lv_at hl 2 rfl) ?_
    refine lv_iload_n hx hb dX11_cell_14 rfl (lv_at hl 3 rfl) ?_
    obtain ⟨la_13, ca_14, m_15, dd_16, ii_17, hs_18, ht_19, ht_20⟩ := x_sh hI ht_12
    obtain ⟨kk_21, hk_22⟩ := pl_at ht_12.1 hs_18
    refine vp_callSi (va_runV (As := [.int p1, .int p2]) (rest := []) ⟨hx, hb, hml, hown, hts⟩ (x_at l dC dI q h0 d k z f hI b_10 p1 p2 ht_12) (cwV 2 hts gX11_cell_X9_at rfl rfl rfl (by decide +kernel) ⟨Nat.le_of_ble_eq_true rfl, Nat.le_of_ble_eq_true rfl⟩) ⟨px_fb, va_recv hK hP (ci := 8) (q0 := kk_21) rfl hk_22, fun U hU hW => ⟨rfl, px_to hU hW hP hK hN hXN⟩⟩ rfl rfl hl.1 rfl (lv_room (Nat.le_of_ble_eq_true rfl)) dX11_cell_15 ⟨Nat.le_of_ble_eq_true rfl, Nat.le_of_ble_eq_true rfl⟩).run (fun r hw => ?_)
    generalize r = zr_23 at hw ⊢
    have hzr_23 := hw
    refine lv_goto (tgt := 22) hx hb dX11_cell_18 (by decide) ?_
    exact W.iret (v := zr_23) hx hb hr (fun t ht hW => ⟨_, rfl, trivial, ht⟩) (fun q h => absurd h List.not_mem_nil) dX11_cell_22
  ·
    obtain rfl : r = 0 := b_f hw b_1
    refine lv_if_eq (tgt := 21) hx hb dX11_cell_4 (by decide) (fun c_24 => ?_) (fun c_24 => absurd (by decide) c_24)
    refine lv_iconst (v := (-1)) hx hb dX11_cell_21 (by decide) ?_
    exact W.iret (v := (-1)) hx hb hr (fun t ht hW => ⟨_, rfl, trivial, ht⟩) (fun q h => absurd h List.not_mem_nil) dX11_cell_22
set_option maxHeartbeats 4000000 in
set_option maxRecDepth 100000 in
theorem x_plated (l : Launch) (dC : Nat → ClassId) (dI : Nat → Nat → Nat) (q : Nat → ClassId) (h0 : Nat) (d : Nat → Nat) (k : Nat → Int32) (z : gS) (f : xF) (hI : xI q h0 d k z f) (p0 p1 p2 : Int32) : Met l yX11_plated wsX11_plated ({ frames := 3, cells := 0, slots := 0, locals := 64 }) (va_Pc [.ref h0, .int p0, .int p1, .int p2] (PX dC dI (va_pl z.1 f) (xT q))) (vp_Si (fun r => True)) 0 0 (fun _ => False) := by
  refine Met.ofW (cc := cX11_plated) (maxL := 4) (ret := (some .int)) (by decide) rfl ?_
  intro p e s m args below meth c s₁ B hml hv
  obtain ⟨rfl, ⟨hP, hK, hN⟩, hXN⟩ := hv
  have hx := B.exec
  have hb := B.bytes
  have hr := B.returns
  have hts := atoms_spec (ws := wsX11_plated) B.pre
  have hown : s.vm.findClass RX11 = some m.cls := findClass_of_methodNamed B.named
  have hlocks := B.notSynchronized
  have hl := lv_entry ([.ref h0, .int p0, .int p1, .int p2]) (n := 4) (Nat.le_of_ble_eq_true rfl)
  rw [lg_entry_eq]
  generalize (lg_sl ([.ref h0, .int p0, .int p1, .int p2]) ++ List.replicate (4 - (lg_sl ([.ref h0, .int p0, .int p1, .int p2])).length) Slot.unset).toArray = ls at hl ⊢
  have hl : lv_has ls 4 [(0, .ref h0), (1, .int p0), (2, .int p1), (3, .int p2)] := hl
  refine lv_aload_n hx hb dX11_plated_0 rfl (lv_at hl 0 rfl) ?_
  refine lv_iload_n hx hb dX11_plated_1 rfl (lv_at hl 1 rfl) ?_
  obtain ⟨kk_1, hk_2⟩ := pl_at hI.2.1.1.1 hI.2.2.2.1.1
  refine vp_callSi (va_runV (As := [.int p0]) (rest := []) ⟨hx, hb, hml, hown, hts⟩ (x_hasPlate l dC dI q h0 d k z f hI p0) (cwV 1 hts gX11_plated_X11_hasPlate rfl rfl rfl (by decide +kernel) ⟨Nat.le_of_ble_eq_true rfl, Nat.le_of_ble_eq_true rfl⟩) ⟨px_fb, va_recv hK hP (ci := 10) (q0 := kk_1) rfl hk_2, fun U hU hW => ⟨rfl, px_to hU hW hP hK hN hXN⟩⟩ rfl rfl hl.1 rfl (lv_room (Nat.le_of_ble_eq_true rfl)) dX11_plated_2 ⟨Nat.le_of_ble_eq_true rfl, Nat.le_of_ble_eq_true rfl⟩).run (fun r hw => ?_)
  rcases hw with hw | ⟨hw, hbw_8, gp_3, bp_4, hp_5, hp_6, hp_7⟩
  ·
    subst hw
    refine lv_if_eq (tgt := 22) hx hb dX11_plated_5 (by decide) (fun c_9 => ?_) (fun c_9 => absurd (by decide) c_9)
    refine lv_iconst (v := (-1)) hx hb dX11_plated_22 (by decide) ?_
    exact W.iret (v := (-1)) hx hb hr (fun t ht hW => ⟨_, rfl, trivial, ht⟩) (fun q h => absurd h List.not_mem_nil) dX11_plated_23
  ·
    subst hw
    refine lv_if_eq (tgt := 22) hx hb dX11_plated_5 (by decide) (fun c_10 => absurd c_10 (by decide)) (fun c_10 => ?_)
    refine lv_aload_n hx hb dX11_plated_8 rfl (lv_at hl 0 rfl) ?_
    obtain ⟨kk_11, hk_12⟩ := pl_at hI.2.1.1.1 hI.2.2.2.1.1
    refine va_get (D := (dC, dI)) (ci := 10) (v := .ref (d 1)) (C := RX11) (T := TX11) (N := 9) hx hb hts (by decide +kernel) hown hK hP kk_11 hk_12 rfl 1 (by decide) (hts (.fieldLink RX11 15 "PageOne" "plates" "[LPageOne$Sheet;") (by decide +kernel)) (fun _ h9 => h9) rfl dX11_plated_9 ?_
    refine lv_iload_n hx hb dX11_plated_12 rfl (lv_at hl 1 rfl) ?_
    obtain ⟨kk_13, hk_14⟩ := pl_at hI.2.1.2.2.1.1 hp_5
    refine va_aldq hx hb hK hP kk_13 2 hk_14 rfl (vin hbw_8 (by decide)) dX11_plated_13 ?_
    rw [hp_6]
    refine W.eq (g2 := F0 m 14 ls [.ref bp_4]) rfl ?_
    refine lv_iload_n hx hb dX11_plated_14 rfl (lv_at hl 2 rfl) ?_
    refine lv_iload_n hx hb dX11_plated_15 rfl (lv_at hl 3 rfl) ?_
    obtain ⟨la_15, ca_16, m_17, dd_18, ii_19, hs_20, ht_21, ht_22⟩ := x_sh hI hp_7
    obtain ⟨kk_23, hk_24⟩ := pl_at hp_7.1 hs_20
    refine vp_callSi (va_runV (As := [.int p1, .int p2]) (rest := []) ⟨hx, hb, hml, hown, hts⟩ (x_at l dC dI q h0 d k z f hI bp_4 p1 p2 hp_7) (cwV 2 hts gX11_plated_X9_at rfl rfl rfl (by decide +kernel) ⟨Nat.le_of_ble_eq_true rfl, Nat.le_of_ble_eq_true rfl⟩) ⟨px_fb, va_recv hK hP (ci := 8) (q0 := kk_23) rfl hk_24, fun U hU hW => ⟨rfl, px_to hU hW hP hK hN hXN⟩⟩ rfl rfl hl.1 rfl (lv_room (Nat.le_of_ble_eq_true rfl)) dX11_plated_16 ⟨Nat.le_of_ble_eq_true rfl, Nat.le_of_ble_eq_true rfl⟩).run (fun r hw => ?_)
    generalize r = zr_25 at hw ⊢
    have hzr_25 := hw
    refine lv_goto (tgt := 23) hx hb dX11_plated_19 (by decide) ?_
    exact W.iret (v := zr_25) hx hb hr (fun t ht hW => ⟨_, rfl, trivial, ht⟩) (fun q h => absurd h List.not_mem_nil) dX11_plated_23
set_option maxHeartbeats 4000000 in
set_option maxRecDepth 100000 in
theorem x_shortOf (l : Launch) (dC : Nat → ClassId) (dI : Nat → Nat → Nat) (q : Nat → ClassId) (h0 : Nat) (d : Nat → Nat) (k : Nat → Int32) (z : gS) (f : xF) (hI : xI q h0 d k z f) (p0 p1 : Int32) : Met l yX11_shortOf wsX11_shortOf ({ frames := 4, cells := 0, slots := 0, locals := 87 }) (va_Pc [.ref h0, .int p0, .int p1] (PX dC dI (va_pl z.1 f) (xT q))) (vp_Si (fun r => True)) 0 0 (fun _ => False) := by
  refine Met.ofW (cc := cX11_shortOf) (maxL := 3) (ret := (some .int)) (by decide) rfl ?_
  intro p e s m args below meth c s₁ B hml hv
  obtain ⟨rfl, ⟨hP, hK, hN⟩, hXN⟩ := hv
  have hx := B.exec
  have hb := B.bytes
  have hr := B.returns
  have hts := atoms_spec (ws := wsX11_shortOf) B.pre
  have hown : s.vm.findClass RX11 = some m.cls := findClass_of_methodNamed B.named
  have hlocks := B.notSynchronized
  have hl := lv_entry ([.ref h0, .int p0, .int p1]) (n := 3) (Nat.le_of_ble_eq_true rfl)
  rw [lg_entry_eq]
  generalize (lg_sl ([.ref h0, .int p0, .int p1]) ++ List.replicate (3 - (lg_sl ([.ref h0, .int p0, .int p1])).length) Slot.unset).toArray = ls at hl ⊢
  have hl : lv_has ls 3 [(0, .ref h0), (1, .int p0), (2, .int p1)] := hl
  refine lv_iload_n hx hb dX11_shortOf_0 rfl (lv_at hl 1 rfl) ?_
  refine vp_callSi (va_runS (As := [.int p0]) (rest := []) ⟨hx, hb, hml, hown, hts⟩ (x_isPage l dC dI p0) (va_cwS 1 hts gX11_shortOf_X11_isPage rfl rfl rfl (by decide +kernel) ⟨Nat.le_of_ble_eq_true rfl, Nat.le_of_ble_eq_true rfl⟩) ⟨pw_fb, fun U hU hW => ⟨rfl, pw_to hU hW (hP.sub (ws' := []) [] rfl) (hK.sub (tys' := []) [] rfl) hN⟩⟩ rfl rfl hl.1 rfl (lv_room (Nat.le_of_ble_eq_true rfl)) dX11_shortOf_1 ⟨Nat.le_of_ble_eq_true rfl, Nat.le_of_ble_eq_true rfl⟩).run (fun r hw => ?_)
  rcases Bool.eq_false_or_eq_true (bw p0 0 11) with b_1 | b_1
  ·
    obtain rfl : r = 1 := b_t hw b_1
    refine lv_if_eq (tgt := 27) hx hb dX11_shortOf_4 (by decide) (fun c_2 => absurd c_2 (by decide)) (fun c_2 => ?_)
    refine lv_iload_n hx hb dX11_shortOf_7 rfl (lv_at hl 2 rfl) ?_
    refine vp_callSi (va_runS (As := [.int p1]) (rest := []) ⟨hx, hb, hml, hown, hts⟩ (x_isColumn l dC dI p1) (va_cwS 1 hts gX11_shortOf_X11_isColumn rfl rfl rfl (by decide +kernel) ⟨Nat.le_of_ble_eq_true rfl, Nat.le_of_ble_eq_true rfl⟩) ⟨pw_fb, fun U hU hW => ⟨rfl, pw_to hU hW (hP.sub (ws' := []) [] rfl) (hK.sub (tys' := []) [] rfl) hN⟩⟩ rfl rfl hl.1 rfl (lv_room (Nat.le_of_ble_eq_true rfl)) dX11_shortOf_8 ⟨Nat.le_of_ble_eq_true rfl, Nat.le_of_ble_eq_true rfl⟩).run (fun r hw => ?_)
    rcases Bool.eq_false_or_eq_true (bw p1 0 7) with b_3 | b_3
    ·
      obtain rfl : r = 1 := b_t hw b_3
      refine lv_if_eq (tgt := 27) hx hb dX11_shortOf_11 (by decide) (fun c_4 => absurd c_4 (by decide)) (fun c_4 => ?_)
      refine lv_aload_n hx hb dX11_shortOf_14 rfl (lv_at hl 0 rfl) ?_
      obtain ⟨kk_5, hk_6⟩ := pl_at hI.2.1.1.1 hI.2.2.2.1.1
      refine va_get (D := (dC, dI)) (ci := 10) (v := .ref (d 0)) (C := RX11) (T := TX11) (N := 9) hx hb hts (by decide +kernel) hown hK hP kk_5 hk_6 rfl 0 (by decide) (hts (.fieldLink RX11 11 "PageOne" "pages" "[LPageOne$Sheet;") (by decide +kernel)) (fun _ h9 => h9) rfl dX11_shortOf_15 ?_
      refine lv_iload_n hx hb dX11_shortOf_18 rfl (lv_at hl 1 rfl) ?_
      obtain ⟨g_7, hs_8, hg_9⟩ := x_pg hI hI.2.1.2.1
      obtain ⟨kk_10, hk_11⟩ := pl_at hI.2.1.2.1.1 hs_8
      refine va_aldq hx hb hK hP kk_10 2 hk_11 rfl (vin b_1 (by decide)) dX11_shortOf_19 ?_
      obtain ⟨b_12, hg_13, ht_14⟩ := hg_9 _ (vlt (vin b_1 (by decide)))
      rw [hg_13]
      refine W.eq (g2 := F0 m 20 ls [.ref b_12]) rfl ?_
      refine lv_iload_n hx hb dX11_shortOf_20 rfl (lv_at hl 2 rfl) ?_
      obtain ⟨la_15, ca_16, m_17, dd_18, ii_19, hs_20, ht_21, ht_22⟩ := x_sh hI ht_14
      obtain ⟨kk_23, hk_24⟩ := pl_at ht_14.1 hs_20
      refine vp_callSi (va_runV (As := [.int p1]) (rest := []) ⟨hx, hb, hml, hown, hts⟩ (x_emptyIn l dC dI q h0 d k z f hI b_12 p1 ht_14 b_3) (cwV 1 hts gX11_shortOf_X9_emptyIn rfl rfl rfl (by decide +kernel) ⟨Nat.le_of_ble_eq_true rfl, Nat.le_of_ble_eq_true rfl⟩) ⟨px_fb, va_recv hK hP (ci := 8) (q0 := kk_23) rfl hk_24, fun U hU hW => ⟨rfl, px_to hU hW hP hK hN hXN⟩⟩ rfl rfl hl.1 rfl (lv_room (Nat.le_of_ble_eq_true rfl)) dX11_shortOf_21 ⟨Nat.le_of_ble_eq_true rfl, Nat.le_of_ble_eq_true rfl⟩).run (fun r hw => ?_)
      generalize r = zr_25 at hw ⊢
      have hzr_25 := hw
      refine lv_goto (tgt := 28) hx hb dX11_shortOf_24 (by decide) ?_
      exact W.iret (v := zr_25) hx hb hr (fun t ht hW => ⟨_, rfl, trivial, ht⟩) (fun q h => absurd h List.not_mem_nil) dX11_shortOf_28
    ·
      obtain rfl : r = 0 := b_f hw b_3
      refine lv_if_eq (tgt := 27) hx hb dX11_shortOf_11 (by decide) (fun c_26 => ?_) (fun c_26 => absurd (by decide) c_26)
      refine lv_iconst (v := (-1)) hx hb dX11_shortOf_27 (by decide) ?_
      exact W.iret (v := (-1)) hx hb hr (fun t ht hW => ⟨_, rfl, trivial, ht⟩) (fun q h => absurd h List.not_mem_nil) dX11_shortOf_28
  ·
    obtain rfl : r = 0 := b_f hw b_1
    refine lv_if_eq (tgt := 27) hx hb dX11_shortOf_4 (by decide) (fun c_27 => ?_) (fun c_27 => absurd (by decide) c_27)
    refine lv_iconst (v := (-1)) hx hb dX11_shortOf_27 (by decide) ?_
    exact W.iret (v := (-1)) hx hb hr (fun t ht hW => ⟨_, rfl, trivial, ht⟩) (fun q h => absurd h List.not_mem_nil) dX11_shortOf_28
set_option maxHeartbeats 4000000 in
set_option maxRecDepth 100000 in
theorem x_about (l : Launch) (dC : Nat → ClassId) (dI : Nat → Nat → Nat) (q : Nat → ClassId) (h0 : Nat) (d : Nat → Nat) (k : Nat → Int32) (z : gS) (f : xF) (hI : xI q h0 d k z f) (p0 : Int32) : Met l yX11_about wsX11_about ({ frames := 5, cells := 0, slots := 0, locals := 106 }) (va_Pc [.ref h0, .int p0] (PX dC dI (va_pl z.1 f) (xT q))) (vp_Si (fun r => True)) 0 0 (fun _ => False) := by
  refine Met.ofW (cc := cX11_about) (maxL := 2) (ret := (some .int)) (by decide) rfl ?_
  intro p e s m args below meth c s₁ B hml hv
  obtain ⟨rfl, ⟨hP, hK, hN⟩, hXN⟩ := hv
  have hx := B.exec
  have hb := B.bytes
  have hr := B.returns
  have hts := atoms_spec (ws := wsX11_about) B.pre
  have hown : s.vm.findClass RX11 = some m.cls := findClass_of_methodNamed B.named
  have hlocks := B.notSynchronized
  have hl := lv_entry ([.ref h0, .int p0]) (n := 2) (Nat.le_of_ble_eq_true rfl)
  rw [lg_entry_eq]
  generalize (lg_sl ([.ref h0, .int p0]) ++ List.replicate (2 - (lg_sl ([.ref h0, .int p0])).length) Slot.unset).toArray = ls at hl ⊢
  have hl : lv_has ls 2 [(0, .ref h0), (1, .int p0)] := hl
  refine lv_iload_n hx hb dX11_about_0 rfl (lv_at hl 1 rfl) ?_
  rcases Classical.em (p0 = 0) with s_1 | s_1
  ·
    subst s_1
    refine lv_tableIn (tgt := 36) (off := 35) hx hb dX11_about_1 (by decide) (by decide) (by decide) (by decide) ?_
    refine lv_aload_n hx hb dX11_about_36 rfl (lv_at hl 0 rfl) ?_
    obtain ⟨kk_2, hk_3⟩ := pl_at hI.2.1.1.1 hI.2.2.2.1.1
    refine va_get (D := (dC, dI)) (ci := 10) (v := .int (k 2)) (C := RX11) (T := TX11) (N := 9) hx hb hts (by decide +kernel) hown hK hP kk_2 hk_3 rfl 7 (by decide) (hts (.fieldLink RX11 41 "PageOne" "today" "I") (by decide +kernel)) (fun _ h9 => h9) rfl dX11_about_37 ?_
    exact W.iret (v := (k 2)) hx hb hr (fun t ht hW => ⟨_, rfl, trivial, ht⟩) (fun q h => absurd h List.not_mem_nil) dX11_about_40
  ·
    rcases Classical.em (p0 = 1) with s_4 | s_4
    ·
      subst s_4
      refine lv_tableIn (tgt := 41) (off := 40) hx hb dX11_about_1 (by decide) (by decide) (by decide) (by decide) ?_
      refine lv_aload_n hx hb dX11_about_41 rfl (lv_at hl 0 rfl) ?_
      obtain ⟨kk_5, hk_6⟩ := pl_at hI.2.1.1.1 hI.2.2.2.1.1
      refine va_get (D := (dC, dI)) (ci := 10) (v := .int (k 3)) (C := RX11) (T := TX11) (N := 9) hx hb hts (by decide +kernel) hown hK hP kk_5 hk_6 rfl 8 (by decide) (hts (.fieldLink RX11 44 "PageOne" "editionNow" "I") (by decide +kernel)) (fun _ h9 => h9) rfl dX11_about_42 ?_
      exact W.iret (v := (k 3)) hx hb hr (fun t ht hW => ⟨_, rfl, trivial, ht⟩) (fun q h => absurd h List.not_mem_nil) dX11_about_45
    ·
      rcases Classical.em (p0 = 2) with s_7 | s_7
      ·
        subst s_7
        refine lv_tableIn (tgt := 46) (off := 45) hx hb dX11_about_1 (by decide) (by decide) (by decide) (by decide) ?_
        refine lv_aload_n hx hb dX11_about_46 rfl (lv_at hl 0 rfl) ?_
        obtain ⟨kk_8, hk_9⟩ := pl_at hI.2.1.1.1 hI.2.2.2.1.1
        refine va_get (D := (dC, dI)) (ci := 10) (v := .int (k 0)) (C := RX11) (T := TX11) (N := 9) hx hb hts (by decide +kernel) hown hK hP kk_8 hk_9 rfl 3 (by decide) (hts (.fieldLink RX11 24 "PageOne" "itemCount" "I") (by decide +kernel)) (fun _ h9 => h9) rfl dX11_about_47 ?_
        exact W.iret (v := (k 0)) hx hb hr (fun t ht hW => ⟨_, rfl, trivial, ht⟩) (fun q h => absurd h List.not_mem_nil) dX11_about_50
      ·
        rcases Classical.em (p0 = 3) with s_10 | s_10
        ·
          subst s_10
          refine lv_tableIn (tgt := 51) (off := 50) hx hb dX11_about_1 (by decide) (by decide) (by decide) (by decide) ?_
          refine lv_aload_n hx hb dX11_about_51 rfl (lv_at hl 0 rfl) ?_
          obtain ⟨kk_11, hk_12⟩ := pl_at hI.2.1.1.1 hI.2.2.2.1.1
          refine va_get (D := (dC, dI)) (ci := 10) (v := .int (k 1)) (C := RX11) (T := TX11) (N := 9) hx hb hts (by decide +kernel) hown hK hP kk_11 hk_12 rfl 5 (by decide) (hts (.fieldLink RX11 34 "PageOne" "actCount" "I") (by decide +kernel)) (fun _ h9 => h9) rfl dX11_about_52 ?_
          exact W.iret (v := (k 1)) hx hb hr (fun t ht hW => ⟨_, rfl, trivial, ht⟩) (fun q h => absurd h List.not_mem_nil) dX11_about_55
        ·
          rcases Classical.em (p0 = 4) with s_13 | s_13
          ·
            subst s_13
            refine lv_tableIn (tgt := 56) (off := 55) hx hb dX11_about_1 (by decide) (by decide) (by decide) (by decide) ?_
            refine lv_aload_n hx hb dX11_about_56 rfl (lv_at hl 0 rfl) ?_
            obtain ⟨kk_14, hk_15⟩ := pl_at hI.2.1.1.1 hI.2.2.2.1.1
            refine vp_callSi (va_runV (As := []) (rest := []) ⟨hx, hb, hml, hown, hts⟩ (x_freshPlates l dC dI q h0 d k z f hI) (cwV 0 hts gX11_about_X11_freshPlates rfl rfl rfl (by decide +kernel) ⟨Nat.le_of_ble_eq_true rfl, Nat.le_of_ble_eq_true rfl⟩) ⟨px_fb, va_recv hK hP (ci := 10) (q0 := kk_14) rfl hk_15, fun U hU hW => ⟨rfl, px_to hU hW hP hK hN hXN⟩⟩ rfl rfl hl.1 rfl (lv_room (Nat.le_of_ble_eq_true rfl)) dX11_about_57 ⟨Nat.le_of_ble_eq_true rfl, Nat.le_of_ble_eq_true rfl⟩).run (fun r hw => ?_)
            generalize r = zr_16 at hw ⊢
            have hzr_16 := hw
            exact W.iret (v := zr_16) hx hb hr (fun t ht hW => ⟨_, rfl, trivial, ht⟩) (fun q h => absurd h List.not_mem_nil) dX11_about_60
          ·
            refine lv_tableOut (tgt := 61) hx hb dX11_about_1 (sw_out4 s_1 s_4 s_7 s_10 s_13) (by decide) ?_
            refine lv_iconst (v := (-1)) hx hb dX11_about_61 (by decide) ?_
            exact W.iret (v := (-1)) hx hb hr (fun t ht hW => ⟨_, rfl, trivial, ht⟩) (fun q h => absurd h List.not_mem_nil) dX11_about_62
