set_option maxHeartbeats 4000000 in
set_option maxRecDepth 100000 in
theorem x_first_l {p : Program} {l : Launch} {e : Env} {R : Room} {s : State} {m : MethodId} {args : Array Value} {below : List Frame} {meth : Method} {c : Code} {Q : State → Prop} {cells slots : Nat} {dC : Nat → ClassId} {dI : Nat → Nat → Nat} {q : Nat → ClassId} {h0 : Nat} {d : Nat → Nat} {k : Nat → Int32} {z : gS} {f : xF} {H : Heap} {locs : List Loc} (hI : xI q h0 d k z f) (hx : p.tables.exec = Jvm.exec) (hb : c.code = cX11_firstPrinting) (hml : c.maxLocals = 5) (hts : ∀ w ∈ wsX11_firstPrinting, w.before args s = true) (hown : s.vm.findClass RX11 = some m.cls) (hN : NN s) (hXN : XN s) (hK : va_K (dC, dI) vwCl (xT q) s) (hRf : 4 ≤ R.frames) (hRl : 87 ≤ R.locals) (hRc : cells ≤ R.cells) (hRs : slots ≤ R.slots) (hP : va_P (dC, dI) vwCl (va_pl z.1 f) H) {c0 : Nat} {p0 : Int32} (hc0 : itm z c0) (kx84 : ∀ (ls : Array Slot), lv_has ls 5 [(0, .ref h0), (1, .ref c0), (2, .int p0)] → W p l e R s m args below meth c H locs cells slots Q (F0 m 84 ls [])) (kx69 : ∀ (i9 : Nat) (s9 : Int32) (ls : Array Slot), xPl q d z f (nI i9) → lv_has ls 5 [(3, .int (nI i9)), (4, .int s9), (0, .ref h0), (1, .ref c0), (2, .int p0)] → W p l e R s m args below meth c H locs cells slots Q (F0 m 69 ls [])) : ∀ (kk i : Nat) (ls : Array Slot), i ≤ 12 → 12 - i < kk → lv_has ls 5 [(3, .int (nI i)), (0, .ref h0), (1, .ref c0), (2, .int p0)] → W p l e R s m args below meth c H locs cells slots Q (F0 m 30 ls []) := by
  intro kk
  induction kk with
  | zero => intro i ls h1 h2; exact absurd h2 (Nat.not_lt_zero _)
  | succ kk ih =>
    intro i ls hi hkk hl
    refine lv_iload_n hx hb dX11_firstPrinting_30 rfl (lv_at hl 0 rfl) ?_
    refine lv_bipush (v := 12) hx hb dX11_firstPrinting_31 (by decide) ?_
    refine lv_icmp_ge (tgt := 84) hx hb dX11_firstPrinting_33 (by decide) (fun c_1 => ?_) (fun c_1 => ?_)
    ·
      have hie : i = 12 := lp_eq rfl (by decide) hi c_1
      exact kx84 ls (lv_sub hl [1, 2, 3] rfl)
    ·
      have hlt : i < 12 := lp_lt rfl (by decide) hi c_1
      refine lv_aload_n hx hb dX11_firstPrinting_36 rfl (lv_at hl 1 rfl) ?_
      refine lv_iload_n hx hb dX11_firstPrinting_37 rfl (lv_at hl 0 rfl) ?_
      obtain ⟨kk_2, hk_3⟩ := pl_at hI.2.1.1.1 hI.2.2.2.1.1
      refine vp_callSi (va_runV (As := [.int (nI i)]) (rest := []) ⟨hx, hb, hml, hown, hts⟩ (x_isFresh l dC dI q h0 d k z f hI (nI i)) (cwV 1 hts gX11_firstPrinting_X11_isFresh rfl rfl rfl (by decide +kernel) ⟨Nat.le_trans (Nat.le_of_ble_eq_true rfl) hRf, Nat.le_trans (Nat.le_of_ble_eq_true rfl) hRl⟩) ⟨px_fb, va_recv hK hP (ci := 10) (q0 := kk_2) rfl hk_3, fun U hU hW => ⟨rfl, px_to hU hW hP hK hN hXN⟩⟩ rfl rfl hl.1 rfl (lv_room (Nat.le_of_ble_eq_true rfl)) dX11_firstPrinting_38 ⟨hRc, hRs⟩).run (fun r hw => ?_)
      rcases hw with hw | ⟨hw, hbw_9, gp_4, bp_5, hp_6, hp_7, hp_8⟩
      ·
        subst hw
        refine lv_if_eq (tgt := 60) hx hb dX11_firstPrinting_41 (by decide) (fun c_10 => ?_) (fun c_10 => absurd (by decide) c_10)
        refine lv_iconst (v := (-1)) hx hb dX11_firstPrinting_60 (by decide) ?_
        refine lv_istore (lv' := [(4, .int (-1)), (3, .int (nI i)), (0, .ref h0), (1, .ref c0), (2, .int p0)]) hx hb dX11_firstPrinting_61 hl (by decide) rfl (fun ls hl => ?_)
        refine lv_iload hx hb dX11_firstPrinting_63 (lv_at hl 0 rfl) ?_
        refine lv_iconst (v := (-1)) hx hb dX11_firstPrinting_65 (by decide) ?_
        refine lv_icmp_eq (tgt := 78) hx hb dX11_firstPrinting_66 (by decide) (fun c_11 => ?_) (fun c_11 => absurd (by decide) c_11)
        refine lv_iinc (v := (nI (i + 1))) (lv' := [(3, .int (nI (i + 1))), (4, .int (-1)), (0, .ref h0), (1, .ref c0), (2, .int p0)]) hx hb dX11_firstPrinting_78 hl (k := 1) rfl (nI_1 i) (by decide) rfl (fun ls hl => ?_)
        refine lv_goto (tgt := 30) hx hb dX11_firstPrinting_81 (by decide) ?_
        exact ih (i + 1) ls (by omega) (by omega) (lv_sub hl [0, 2, 3, 4] rfl)
      ·
        subst hw
        refine lv_if_eq (tgt := 60) hx hb dX11_firstPrinting_41 (by decide) (fun c_12 => absurd c_12 (by decide)) (fun c_12 => ?_)
        refine lv_aload_n hx hb dX11_firstPrinting_44 rfl (lv_at hl 1 rfl) ?_
        obtain ⟨kk_13, hk_14⟩ := pl_at hI.2.1.1.1 hI.2.2.2.1.1
        refine va_get (D := (dC, dI)) (ci := 10) (v := .ref (d 1)) (C := RX11) (T := TX11) (N := 9) hx hb hts (by decide +kernel) hown hK hP kk_13 hk_14 rfl 1 (by decide) (hts (.fieldLink RX11 15 "PageOne" "plates" "[LPageOne$Sheet;") (by decide +kernel)) (fun _ h9 => h9) rfl dX11_firstPrinting_45 ?_
        refine lv_iload_n hx hb dX11_firstPrinting_48 rfl (lv_at hl 0 rfl) ?_
        obtain ⟨kk_15, hk_16⟩ := pl_at hI.2.1.2.2.1.1 hp_6
        refine va_aldq hx hb hK hP kk_15 2 hk_16 rfl (vin hbw_9 (by decide)) dX11_firstPrinting_49 ?_
        rw [hp_7]
        refine W.eq (g2 := F0 m 50 ls [.ref bp_5]) rfl ?_
        refine lv_aload_n hx hb dX11_firstPrinting_50 rfl (lv_at hl 2 rfl) ?_
        obtain ⟨nu_17, kd_18, cn_19, pa_20, fa_21, rs_22, hs_23, hs_24, hs_25, hs_26, hs_27⟩ := x_im hI hc0
        obtain ⟨kk_28, hk_29⟩ := pl_at hc0.1 hs_23
        refine w_then (F0 m 54 ls [.int nu_17, .ref bp_5]) (fun hgo => ?_) ?_
        ·
          rcases x_tag hc0 with ht9 | ht9 | ht9 | ht9 | ht9 | ht9
          ·
            rw [ht9.2] at hk_29
            exact va_get (D := (dC, dI)) (ci := 2) (v := .int nu_17) (C := RX2) (T := TX2) (N := 7) hx hb hts (by decide +kernel) hown hK hP kk_28 hk_29 rfl 0 (by decide) (hts (.fieldLink RX11 285 "PageOne$Item" "number" "I") (by decide +kernel)) (fun _ h9 => h9) rfl dX11_firstPrinting_51 hgo
          ·
            rw [ht9.2] at hk_29
            exact va_get (D := (dC, dI)) (ci := 3) (v := .int nu_17) (C := RX3) (T := TX3) (N := 8) hx hb hts (by decide +kernel) hown hK hP kk_28 hk_29 rfl 0 (by decide) (hts (.fieldLink RX11 285 "PageOne$Item" "number" "I") (by decide +kernel)) (fun _ h9 => h9) rfl dX11_firstPrinting_51 hgo
          ·
            rw [ht9.2] at hk_29
            exact va_get (D := (dC, dI)) (ci := 4) (v := .int nu_17) (C := RX5) (T := TX5) (N := 7) hx hb hts (by decide +kernel) hown hK hP kk_28 hk_29 rfl 0 (by decide) (hts (.fieldLink RX11 285 "PageOne$Item" "number" "I") (by decide +kernel)) (fun _ h9 => h9) rfl dX11_firstPrinting_51 hgo
          ·
            rw [ht9.2] at hk_29
            exact va_get (D := (dC, dI)) (ci := 5) (v := .int nu_17) (C := RX6) (T := TX6) (N := 9) hx hb hts (by decide +kernel) hown hK hP kk_28 hk_29 rfl 0 (by decide) (hts (.fieldLink RX11 285 "PageOne$Item" "number" "I") (by decide +kernel)) (fun _ h9 => h9) rfl dX11_firstPrinting_51 hgo
          ·
            rw [ht9.2] at hk_29
            exact va_get (D := (dC, dI)) (ci := 6) (v := .int nu_17) (C := RX7) (T := TX7) (N := 8) hx hb hts (by decide +kernel) hown hK hP kk_28 hk_29 rfl 0 (by decide) (hts (.fieldLink RX11 285 "PageOne$Item" "number" "I") (by decide +kernel)) (fun _ h9 => h9) rfl dX11_firstPrinting_51 hgo
          ·
            rw [ht9.2] at hk_29
            exact va_get (D := (dC, dI)) (ci := 9) (v := .int nu_17) (C := RX10) (T := TX10) (N := 9) hx hb hts (by decide +kernel) hown hK hP kk_28 hk_29 rfl 0 (by decide) (hts (.fieldLink RX11 285 "PageOne$Item" "number" "I") (by decide +kernel)) (fun _ h9 => h9) rfl dX11_firstPrinting_51 hgo
        ·
          obtain ⟨la_30, ca_31, m_32, dd_33, ii_34, hs_35, ht_36, ht_37⟩ := x_sh hI hp_8
          obtain ⟨kk_38, hk_39⟩ := pl_at hp_8.1 hs_35
          refine vp_callSi (va_runV (As := [.int nu_17]) (rest := []) ⟨hx, hb, hml, hown, hts⟩ (x_spotOf l dC dI q h0 d k z f hI bp_5 nu_17 hp_8) (cwV 1 hts gX11_firstPrinting_X9_spotOf rfl rfl rfl (by decide +kernel) ⟨Nat.le_trans (Nat.le_of_ble_eq_true rfl) hRf, Nat.le_trans (Nat.le_of_ble_eq_true rfl) hRl⟩) ⟨px_fb, va_recv hK hP (ci := 8) (q0 := kk_38) rfl hk_39, fun U hU hW => ⟨rfl, px_to hU hW hP hK hN hXN⟩⟩ rfl rfl hl.1 rfl (lv_room (Nat.le_of_ble_eq_true rfl)) dX11_firstPrinting_54 ⟨hRc, hRs⟩).run (fun r hw => ?_)
          generalize r = zr_40 at hw ⊢
          have hzr_40 := hw
          refine lv_goto (tgt := 61) hx hb dX11_firstPrinting_57 (by decide) ?_
          refine lv_istore (lv' := [(4, .int zr_40), (3, .int (nI i)), (0, .ref h0), (1, .ref c0), (2, .int p0)]) hx hb dX11_firstPrinting_61 hl (by decide) rfl (fun ls hl => ?_)
          refine lv_iload hx hb dX11_firstPrinting_63 (lv_at hl 0 rfl) ?_
          refine lv_iconst (v := (-1)) hx hb dX11_firstPrinting_65 (by decide) ?_
          refine lv_icmp_eq (tgt := 78) hx hb dX11_firstPrinting_66 (by decide) (fun c_41 => ?_) (fun c_41 => ?_)
          ·
            refine lv_iinc (v := (nI (i + 1))) (lv' := [(3, .int (nI (i + 1))), (4, .int zr_40), (0, .ref h0), (1, .ref c0), (2, .int p0)]) hx hb dX11_firstPrinting_78 hl (k := 1) rfl (nI_1 i) (by decide) rfl (fun ls hl => ?_)
            refine lv_goto (tgt := 30) hx hb dX11_firstPrinting_81 (by decide) ?_
            exact ih (i + 1) ls (by omega) (by omega) (lv_sub hl [0, 2, 3, 4] rfl)
          ·
            exact kx69 _ _ ls ⟨hbw_9, gp_4, bp_5, hp_6, hp_7, hp_8⟩ (lv_sub hl [1, 0, 2, 3, 4] rfl)
set_option maxHeartbeats 4000000 in
set_option maxRecDepth 100000 in
theorem x_firstPrinting (l : Launch) (dC : Nat → ClassId) (dI : Nat → Nat → Nat) (q : Nat → ClassId) (h0 : Nat) (d : Nat → Nat) (k : Nat → Int32) (z : gS) (f : xF) (hI : xI q h0 d k z f) (c0 : Nat) (p0 : Int32) (hc0 : itm z c0) : Met l yX11_firstPrinting wsX11_firstPrinting ({ frames := 4, cells := 0, slots := 0, locals := 87 }) (va_Pc [.ref h0, .ref c0, .int p0] (PX dC dI (va_pl z.1 f) (xT q))) (vp_Si (fun r => True)) 0 0 (fun _ => False) := by
  refine Met.ofW (cc := cX11_firstPrinting) (maxL := 5) (ret := (some .int)) (by decide) rfl ?_
  intro p e s m args below meth c s₁ B hml hv
  obtain ⟨rfl, ⟨hP, hK, hN⟩, hXN⟩ := hv
  have hx := B.exec
  have hb := B.bytes
  have hr := B.returns
  have hts := atoms_spec (ws := wsX11_firstPrinting) B.pre
  have hown : s.vm.findClass RX11 = some m.cls := findClass_of_methodNamed B.named
  have hlocks := B.notSynchronized
  have hl := lv_entry ([.ref h0, .ref c0, .int p0]) (n := 5) (Nat.le_of_ble_eq_true rfl)
  rw [lg_entry_eq]
  generalize (lg_sl ([.ref h0, .ref c0, .int p0]) ++ List.replicate (5 - (lg_sl ([.ref h0, .ref c0, .int p0])).length) Slot.unset).toArray = ls at hl ⊢
  have hl : lv_has ls 5 [(0, .ref h0), (1, .ref c0), (2, .int p0)] := hl
  refine lv_iload_n hx hb dX11_firstPrinting_0 rfl (lv_at hl 2 rfl) ?_
  refine lv_iconst (v := 0) hx hb dX11_firstPrinting_1 (by decide) ?_
  refine lv_iconst (v := 4) hx hb dX11_firstPrinting_2 (by decide) ?_
  refine vp_callSi (va_runS (As := [.int p0, .int 0, .int 4]) (rest := []) ⟨hx, hb, hml, hown, hts⟩ (x_isWithin l dC dI p0 0 4) (va_cwS 3 hts gX11_firstPrinting_X11_isWithin rfl rfl rfl (by decide +kernel) ⟨Nat.le_of_ble_eq_true rfl, Nat.le_of_ble_eq_true rfl⟩) ⟨pw_fb, fun U hU hW => ⟨rfl, pw_to hU hW (hP.sub (ws' := []) [] rfl) (hK.sub (tys' := []) [] rfl) hN⟩⟩ rfl rfl hl.1 rfl (lv_room (Nat.le_of_ble_eq_true rfl)) dX11_firstPrinting_3 ⟨Nat.le_of_ble_eq_true rfl, Nat.le_of_ble_eq_true rfl⟩).run (fun r hw => ?_)
  rcases Bool.eq_false_or_eq_true (bw p0 0 4) with b_1 | b_1
  ·
    obtain rfl : r = 1 := b_t hw b_1
    refine lv_if_ne (tgt := 11) hx hb dX11_firstPrinting_6 (by decide) (fun c_2 => ?_) (fun c_2 => absurd c_2 (by decide))
    refine lv_aload_n hx hb dX11_firstPrinting_11 rfl (lv_at hl 1 rfl) ?_
    obtain ⟨nu_3, kd_4, cn_5, pa_6, fa_7, rs_8, hs_9, hs_10, hs_11, hs_12, hs_13⟩ := x_im hI hc0
    obtain ⟨kk_14, hk_15⟩ := pl_at hc0.1 hs_9
    refine w_then (F0 m 15 ls [.ref fa_7]) (fun hgo => ?_) ?_
    ·
      rcases x_tag hc0 with ht9 | ht9 | ht9 | ht9 | ht9 | ht9
      ·
        rw [ht9.2] at hk_15
        exact va_get (D := (dC, dI)) (ci := 2) (v := .ref fa_7) (C := RX2) (T := TX2) (N := 7) hx hb hts (by decide +kernel) hown hK hP kk_14 hk_15 rfl 4 (by decide) (hts (.fieldLink RX11 382 "PageOne$Item" "first" "[I") (by decide +kernel)) (fun _ h9 => h9) rfl dX11_firstPrinting_12 hgo
      ·
        rw [ht9.2] at hk_15
        exact va_get (D := (dC, dI)) (ci := 3) (v := .ref fa_7) (C := RX3) (T := TX3) (N := 8) hx hb hts (by decide +kernel) hown hK hP kk_14 hk_15 rfl 4 (by decide) (hts (.fieldLink RX11 382 "PageOne$Item" "first" "[I") (by decide +kernel)) (fun _ h9 => h9) rfl dX11_firstPrinting_12 hgo
      ·
        rw [ht9.2] at hk_15
        exact va_get (D := (dC, dI)) (ci := 4) (v := .ref fa_7) (C := RX5) (T := TX5) (N := 7) hx hb hts (by decide +kernel) hown hK hP kk_14 hk_15 rfl 4 (by decide) (hts (.fieldLink RX11 382 "PageOne$Item" "first" "[I") (by decide +kernel)) (fun _ h9 => h9) rfl dX11_firstPrinting_12 hgo
      ·
        rw [ht9.2] at hk_15
        exact va_get (D := (dC, dI)) (ci := 5) (v := .ref fa_7) (C := RX6) (T := TX6) (N := 9) hx hb hts (by decide +kernel) hown hK hP kk_14 hk_15 rfl 4 (by decide) (hts (.fieldLink RX11 382 "PageOne$Item" "first" "[I") (by decide +kernel)) (fun _ h9 => h9) rfl dX11_firstPrinting_12 hgo
      ·
        rw [ht9.2] at hk_15
        exact va_get (D := (dC, dI)) (ci := 6) (v := .ref fa_7) (C := RX7) (T := TX7) (N := 8) hx hb hts (by decide +kernel) hown hK hP kk_14 hk_15 rfl 4 (by decide) (hts (.fieldLink RX11 382 "PageOne$Item" "first" "[I") (by decide +kernel)) (fun _ h9 => h9) rfl dX11_firstPrinting_12 hgo
      ·
        rw [ht9.2] at hk_15
        exact va_get (D := (dC, dI)) (ci := 9) (v := .ref fa_7) (C := RX10) (T := TX10) (N := 9) hx hb hts (by decide +kernel) hown hK hP kk_14 hk_15 rfl 4 (by decide) (hts (.fieldLink RX11 382 "PageOne$Item" "first" "[I") (by decide +kernel)) (fun _ h9 => h9) rfl dX11_firstPrinting_12 hgo
    ·
      refine lv_iconst (v := 0) hx hb dX11_firstPrinting_15 (by decide) ?_
      obtain ⟨g_16, hs_17⟩ := x_17 hI hs_12
      obtain ⟨kk_18, hk_19⟩ := pl_at hs_12.1 hs_17
      refine va_iald hx hb hK hP kk_18 0 hk_19 rfl (by unfold vp_in; decide) dX11_firstPrinting_16 ?_
      refine lv_iconst (v := (-1)) hx hb dX11_firstPrinting_17 (by decide) ?_
      refine lv_icmp_eq (tgt := 28) hx hb dX11_firstPrinting_18 (by decide) (fun c_20 => ?_) (fun c_20 => ?_)
      ·
        refine lv_iconst (v := 0) hx hb dX11_firstPrinting_28 (by decide) ?_
        refine lv_istore_n (lv' := [(3, .int 0), (0, .ref h0), (1, .ref c0), (2, .int p0)]) hx hb dX11_firstPrinting_29 rfl hl (by decide) rfl (fun ls hl => ?_)
        refine x_first_l hI hx hb hml hts hown hN hXN hK (Nat.le_of_ble_eq_true rfl) (Nat.le_of_ble_eq_true rfl) (Nat.le_of_ble_eq_true rfl) (Nat.le_of_ble_eq_true rfl) hP hc0 (fun ls hl => ?_) (fun i9 s9 ls hpl hl => ?_) 13 0 ls (by decide) (by decide) (lv_sub hl [0, 1, 2, 3] rfl)
        ·
          refine lv_iconst (v := (-1)) hx hb dX11_firstPrinting_84 (by decide) ?_
          exact W.iret (v := (-1)) hx hb hr (fun t ht hW => ⟨_, rfl, trivial, ht⟩) (fun q h => absurd h List.not_mem_nil) dX11_firstPrinting_85
        ·
          obtain ⟨hbw0, gp0, bp0, hp01, hp02, hp03⟩ := hpl
          refine lv_aload_n hx hb dX11_firstPrinting_69 rfl (lv_at hl 2 rfl) ?_
          refine lv_iload_n hx hb dX11_firstPrinting_70 rfl (lv_at hl 0 rfl) ?_
          refine lv_iload hx hb dX11_firstPrinting_71 (lv_at hl 1 rfl) ?_
          refine lv_iload_n hx hb dX11_firstPrinting_73 rfl (lv_at hl 4 rfl) ?_
          obtain ⟨kk_21, hk_22⟩ := pl_at hI.2.1.1.1 hI.2.2.2.1.1
          refine vp_callSi (va_runV (As := [.int (nI i9), .int s9, .int p0]) (rest := []) ⟨hx, hb, hml, hown, hts⟩ (x_plateFact l dC dI q h0 d k z f hI (nI i9) s9 p0 ⟨hbw0, gp0, bp0, hp01, hp02, hp03⟩) (cwV 3 hts gX11_firstPrinting_X11_plateFact rfl rfl rfl (by decide +kernel) ⟨Nat.le_of_ble_eq_true rfl, Nat.le_of_ble_eq_true rfl⟩) ⟨px_fb, va_recv hK hP (ci := 10) (q0 := kk_21) rfl hk_22, fun U hU hW => ⟨rfl, px_to hU hW hP hK hN hXN⟩⟩ rfl rfl hl.1 rfl (lv_room (Nat.le_of_ble_eq_true rfl)) dX11_firstPrinting_74 ⟨Nat.le_of_ble_eq_true rfl, Nat.le_of_ble_eq_true rfl⟩).run (fun r hw => ?_)
          generalize r = zr_23 at hw ⊢
          have hzr_23 := hw
          exact W.iret (v := zr_23) hx hb hr (fun t ht hW => ⟨_, rfl, trivial, ht⟩) (fun q h => absurd h List.not_mem_nil) dX11_firstPrinting_77
      ·
        refine lv_aload_n hx hb dX11_firstPrinting_21 rfl (lv_at hl 1 rfl) ?_
        obtain ⟨kk_24, hk_25⟩ := pl_at hc0.1 hs_9
        refine w_then (F0 m 25 ls [.ref fa_7]) (fun hgo => ?_) ?_
        ·
          rcases x_tag hc0 with ht9 | ht9 | ht9 | ht9 | ht9 | ht9
          ·
            rw [ht9.2] at hk_25
            exact va_get (D := (dC, dI)) (ci := 2) (v := .ref fa_7) (C := RX2) (T := TX2) (N := 7) hx hb hts (by decide +kernel) hown hK hP kk_24 hk_25 rfl 4 (by decide) (hts (.fieldLink RX11 382 "PageOne$Item" "first" "[I") (by decide +kernel)) (fun _ h9 => h9) rfl dX11_firstPrinting_22 hgo
          ·
            rw [ht9.2] at hk_25
            exact va_get (D := (dC, dI)) (ci := 3) (v := .ref fa_7) (C := RX3) (T := TX3) (N := 8) hx hb hts (by decide +kernel) hown hK hP kk_24 hk_25 rfl 4 (by decide) (hts (.fieldLink RX11 382 "PageOne$Item" "first" "[I") (by decide +kernel)) (fun _ h9 => h9) rfl dX11_firstPrinting_22 hgo
          ·
            rw [ht9.2] at hk_25
            exact va_get (D := (dC, dI)) (ci := 4) (v := .ref fa_7) (C := RX5) (T := TX5) (N := 7) hx hb hts (by decide +kernel) hown hK hP kk_24 hk_25 rfl 4 (by decide) (hts (.fieldLink RX11 382 "PageOne$Item" "first" "[I") (by decide +kernel)) (fun _ h9 => h9) rfl dX11_firstPrinting_22 hgo
          ·
            rw [ht9.2] at hk_25
            exact va_get (D := (dC, dI)) (ci := 5) (v := .ref fa_7) (C := RX6) (T := TX6) (N := 9) hx hb hts (by decide +kernel) hown hK hP kk_24 hk_25 rfl 4 (by decide) (hts (.fieldLink RX11 382 "PageOne$Item" "first" "[I") (by decide +kernel)) (fun _ h9 => h9) rfl dX11_firstPrinting_22 hgo
          ·
            rw [ht9.2] at hk_25
            exact va_get (D := (dC, dI)) (ci := 6) (v := .ref fa_7) (C := RX7) (T := TX7) (N := 8) hx hb hts (by decide +kernel) hown hK hP kk_24 hk_25 rfl 4 (by decide) (hts (.fieldLink RX11 382 "PageOne$Item" "first" "[I") (by decide +kernel)) (fun _ h9 => h9) rfl dX11_firstPrinting_22 hgo
          ·
            rw [ht9.2] at hk_25
            exact va_get (D := (dC, dI)) (ci := 9) (v := .ref fa_7) (C := RX10) (T := TX10) (N := 9) hx hb hts (by decide +kernel) hown hK hP kk_24 hk_25 rfl 4 (by decide) (hts (.fieldLink RX11 382 "PageOne$Item" "first" "[I") (by decide +kernel)) (fun _ h9 => h9) rfl dX11_firstPrinting_22 hgo
        ·
          refine lv_iload_n hx hb dX11_firstPrinting_25 rfl (lv_at hl 2 rfl) ?_
          obtain ⟨kk_26, hk_27⟩ := pl_at hs_12.1 hs_17
          refine va_iald hx hb hK hP kk_26 0 hk_27 rfl (vin b_1 (by decide)) dX11_firstPrinting_26 ?_
          exact W.iret (v := (g_16 (p0 : Int32).toNatClampNeg)) hx hb hr (fun t ht hW => ⟨_, rfl, trivial, ht⟩) (fun q h => absurd h List.not_mem_nil) dX11_firstPrinting_27
  ·
    obtain rfl : r = 0 := b_f hw b_1
    refine lv_if_ne (tgt := 11) hx hb dX11_firstPrinting_6 (by decide) (fun c_28 => absurd (by decide) c_28) (fun c_28 => ?_)
    refine lv_iconst (v := (-1)) hx hb dX11_firstPrinting_9 (by decide) ?_
    exact W.iret (v := (-1)) hx hb hr (fun t ht hW => ⟨_, rfl, trivial, ht⟩) (fun q h => absurd h List.not_mem_nil) dX11_firstPrinting_10
set_option maxHeartbeats 4000000 in
set_option maxRecDepth 100000 in
theorem x_printed (l : Launch) (dC : Nat → ClassId) (dI : Nat → Nat → Nat) (q : Nat → ClassId) (h0 : Nat) (d : Nat → Nat) (k : Nat → Int32) (z : gS) (f : xF) (hI : xI q h0 d k z f) (p0 p1 : Int32) : Met l yX11_printed wsX11_printed ({ frames := 5, cells := 0, slots := 0, locals := 111 }) (va_Pc [.ref h0, .int p0, .int p1] (PX dC dI (va_pl z.1 f) (xT q))) (vp_Si (fun r => True)) 0 0 (fun _ => False) := by
  refine Met.ofW (cc := cX11_printed) (maxL := 4) (ret := (some .int)) (by decide) rfl ?_
  intro p e s m args below meth c s₁ B hml hv
  obtain ⟨rfl, ⟨hP, hK, hN⟩, hXN⟩ := hv
  have hx := B.exec
  have hb := B.bytes
  have hr := B.returns
  have hts := atoms_spec (ws := wsX11_printed) B.pre
  have hown : s.vm.findClass RX11 = some m.cls := findClass_of_methodNamed B.named
  have hlocks := B.notSynchronized
  have hl := lv_entry ([.ref h0, .int p0, .int p1]) (n := 4) (Nat.le_of_ble_eq_true rfl)
  rw [lg_entry_eq]
  generalize (lg_sl ([.ref h0, .int p0, .int p1]) ++ List.replicate (4 - (lg_sl ([.ref h0, .int p0, .int p1])).length) Slot.unset).toArray = ls at hl ⊢
  have hl : lv_has ls 4 [(0, .ref h0), (1, .int p0), (2, .int p1)] := hl
  refine lv_aload_n hx hb dX11_printed_0 rfl (lv_at hl 0 rfl) ?_
  refine lv_iload_n hx hb dX11_printed_1 rfl (lv_at hl 1 rfl) ?_
  obtain ⟨kk_1, hk_2⟩ := pl_at hI.2.1.1.1 hI.2.2.2.1.1
  refine va_csq (va_runV (As := [.int p0]) (rest := []) ⟨hx, hb, hml, hown, hts⟩ (x_itemOf l dC dI q h0 d k z f hI p0) (cwV 1 hts gX11_printed_X11_itemOf rfl rfl rfl (by decide +kernel) ⟨Nat.le_of_ble_eq_true rfl, Nat.le_of_ble_eq_true rfl⟩) ⟨px_fb, va_recv hK hP (ci := 10) (q0 := kk_1) rfl hk_2, fun U hU hW => ⟨rfl, px_to hU hW hP hK hN hXN⟩⟩ rfl rfl hl.1 rfl (lv_room (Nat.le_of_ble_eq_true rfl)) dX11_printed_2 ⟨Nat.le_of_ble_eq_true rfl, Nat.le_of_ble_eq_true rfl⟩).run (fun r hw => ?_)
  rcases r with _ | b_3
  ·
    refine W.eq (g2 := F0 m 5 ls [.null]) rfl ?_
    refine lv_astore_nN (lv' := [(3, .null), (0, .ref h0), (1, .int p0), (2, .int p1)]) hx hb dX11_printed_5 rfl hl (by decide) rfl (fun ls hl => ?_)
    refine lv_aload_nN hx hb dX11_printed_6 rfl (lv_at hl 0 rfl) ?_
    refine lv_ifnonnullN hx hb dX11_printed_7 ?_
    refine lv_iconst (v := (-1)) hx hb dX11_printed_10 (by decide) ?_
    refine lv_goto (tgt := 20) hx hb dX11_printed_11 (by decide) ?_
    exact W.iret (v := (-1)) hx hb hr (fun t ht hW => ⟨_, rfl, trivial, ht⟩) (fun q h => absurd h List.not_mem_nil) dX11_printed_20
  ·
    have ht_4 := hw b_3 rfl
    refine W.eq (g2 := F0 m 5 ls [.ref b_3]) rfl ?_
    refine lv_astore_n (lv' := [(3, .ref b_3), (0, .ref h0), (1, .int p0), (2, .int p1)]) hx hb dX11_printed_5 rfl hl (by decide) rfl (fun ls hl => ?_)
    refine lv_aload_n hx hb dX11_printed_6 rfl (lv_at hl 0 rfl) ?_
    refine lv_ifnonnull (tgt := 14) hx hb dX11_printed_7 (by decide) ?_
    refine lv_aload_n hx hb dX11_printed_14 rfl (lv_at hl 1 rfl) ?_
    refine lv_aload_n hx hb dX11_printed_15 rfl (lv_at hl 0 rfl) ?_
    refine lv_iload_n hx hb dX11_printed_16 rfl (lv_at hl 3 rfl) ?_
    obtain ⟨kk_5, hk_6⟩ := pl_at hI.2.1.1.1 hI.2.2.2.1.1
    refine vp_callSi (va_runV (As := [.ref b_3, .int p1]) (rest := []) ⟨hx, hb, hml, hown, hts⟩ (x_firstPrinting l dC dI q h0 d k z f hI b_3 p1 ht_4) (cwV 2 hts gX11_printed_X11_firstPrinting rfl rfl rfl (by decide +kernel) ⟨Nat.le_of_ble_eq_true rfl, Nat.le_of_ble_eq_true rfl⟩) ⟨px_fb, va_recv hK hP (ci := 10) (q0 := kk_5) rfl hk_6, fun U hU hW => ⟨rfl, px_to hU hW hP hK hN hXN⟩⟩ rfl rfl hl.1 rfl (lv_room (Nat.le_of_ble_eq_true rfl)) dX11_printed_17 ⟨Nat.le_of_ble_eq_true rfl, Nat.le_of_ble_eq_true rfl⟩).run (fun r hw => ?_)
    generalize r = zr_7 at hw ⊢
    have hzr_7 := hw
    exact W.iret (v := zr_7) hx hb hr (fun t ht hW => ⟨_, rfl, trivial, ht⟩) (fun q h => absurd h List.not_mem_nil) dX11_printed_20
set_option maxHeartbeats 4000000 in
set_option maxRecDepth 100000 in
theorem x_item (l : Launch) (dC : Nat → ClassId) (dI : Nat → Nat → Nat) (q : Nat → ClassId) (h0 : Nat) (d : Nat → Nat) (k : Nat → Int32) (z : gS) (f : xF) (hI : xI q h0 d k z f) (p0 p1 : Int32) : Met l yX11_item wsX11_item ({ frames := 4, cells := 0, slots := 0, locals := 87 }) (va_Pc [.ref h0, .int p0, .int p1] (PX dC dI (va_pl z.1 f) (xT q))) (vp_Si (fun r => True)) 0 0 (fun _ => False) := by
  refine Met.ofW (cc := cX11_item) (maxL := 5) (ret := (some .int)) (by decide) rfl ?_
  intro p e s m args below meth c s₁ B hml hv
  obtain ⟨rfl, ⟨hP, hK, hN⟩, hXN⟩ := hv
  have hx := B.exec
  have hb := B.bytes
  have hr := B.returns
  have hts := atoms_spec (ws := wsX11_item) B.pre
  have hown : s.vm.findClass RX11 = some m.cls := findClass_of_methodNamed B.named
  have hlocks := B.notSynchronized
  have hl := lv_entry ([.ref h0, .int p0, .int p1]) (n := 5) (Nat.le_of_ble_eq_true rfl)
  rw [lg_entry_eq]
  generalize (lg_sl ([.ref h0, .int p0, .int p1]) ++ List.replicate (5 - (lg_sl ([.ref h0, .int p0, .int p1])).length) Slot.unset).toArray = ls at hl ⊢
  have hl : lv_has ls 5 [(0, .ref h0), (1, .int p0), (2, .int p1)] := hl
  refine lv_aload_n hx hb dX11_item_0 rfl (lv_at hl 0 rfl) ?_
  refine lv_iload_n hx hb dX11_item_1 rfl (lv_at hl 1 rfl) ?_
  obtain ⟨kk_1, hk_2⟩ := pl_at hI.2.1.1.1 hI.2.2.2.1.1
  refine va_csq (va_runV (As := [.int p0]) (rest := []) ⟨hx, hb, hml, hown, hts⟩ (x_itemOf l dC dI q h0 d k z f hI p0) (cwV 1 hts gX11_item_X11_itemOf rfl rfl rfl (by decide +kernel) ⟨Nat.le_of_ble_eq_true rfl, Nat.le_of_ble_eq_true rfl⟩) ⟨px_fb, va_recv hK hP (ci := 10) (q0 := kk_1) rfl hk_2, fun U hU hW => ⟨rfl, px_to hU hW hP hK hN hXN⟩⟩ rfl rfl hl.1 rfl (lv_room (Nat.le_of_ble_eq_true rfl)) dX11_item_2 ⟨Nat.le_of_ble_eq_true rfl, Nat.le_of_ble_eq_true rfl⟩).run (fun r hw => ?_)
  rcases r with _ | b_3
  ·
    refine W.eq (g2 := F0 m 5 ls [.null]) rfl ?_
    refine lv_astore_nN (lv' := [(3, .null), (0, .ref h0), (1, .int p0), (2, .int p1)]) hx hb dX11_item_5 rfl hl (by decide) rfl (fun ls hl => ?_)
    refine lv_aload_nN hx hb dX11_item_6 rfl (lv_at hl 0 rfl) ?_
    refine lv_ifnonnullN hx hb dX11_item_7 ?_
    refine lv_iconst (v := (-1)) hx hb dX11_item_10 (by decide) ?_
    exact W.iret (v := (-1)) hx hb hr (fun t ht hW => ⟨_, rfl, trivial, ht⟩) (fun q h => absurd h List.not_mem_nil) dX11_item_11
  ·
    have ht_4 := hw b_3 rfl
    refine W.eq (g2 := F0 m 5 ls [.ref b_3]) rfl ?_
    refine lv_astore_n (lv' := [(3, .ref b_3), (0, .ref h0), (1, .int p0), (2, .int p1)]) hx hb dX11_item_5 rfl hl (by decide) rfl (fun ls hl => ?_)
    refine lv_aload_n hx hb dX11_item_6 rfl (lv_at hl 0 rfl) ?_
    refine lv_ifnonnull (tgt := 12) hx hb dX11_item_7 (by decide) ?_
    refine lv_iload_n hx hb dX11_item_12 rfl (lv_at hl 3 rfl) ?_
    rcases Classical.em (p1 = 0) with s_5 | s_5
    ·
      subst s_5
      refine lv_tableIn (tgt := 52) (off := 39) hx hb dX11_item_13 (by decide) (by decide) (by decide) (by decide) ?_
      refine lv_aload_n hx hb dX11_item_52 rfl (lv_at hl 0 rfl) ?_
      obtain ⟨nu_6, kd_7, cn_8, pa_9, fa_10, rs_11, hs_12, hs_13, hs_14, hs_15, hs_16⟩ := x_im hI ht_4
      obtain ⟨kk_17, hk_18⟩ := pl_at ht_4.1 hs_12
      refine w_then (F0 m 56 ls [.int kd_7]) (fun hgo => ?_) ?_
      ·
        rcases x_tag ht_4 with ht9 | ht9 | ht9 | ht9 | ht9 | ht9
        ·
          rw [ht9.2] at hk_18
          exact va_get (D := (dC, dI)) (ci := 2) (v := .int kd_7) (C := RX2) (T := TX2) (N := 7) hx hb hts (by decide +kernel) hown hK hP kk_17 hk_18 rfl 1 (by decide) (hts (.fieldLink RX11 250 "PageOne$Item" "kind" "I") (by decide +kernel)) (fun _ h9 => h9) rfl dX11_item_53 hgo
        ·
          rw [ht9.2] at hk_18
          exact va_get (D := (dC, dI)) (ci := 3) (v := .int kd_7) (C := RX3) (T := TX3) (N := 8) hx hb hts (by decide +kernel) hown hK hP kk_17 hk_18 rfl 1 (by decide) (hts (.fieldLink RX11 250 "PageOne$Item" "kind" "I") (by decide +kernel)) (fun _ h9 => h9) rfl dX11_item_53 hgo
        ·
          rw [ht9.2] at hk_18
          exact va_get (D := (dC, dI)) (ci := 4) (v := .int kd_7) (C := RX5) (T := TX5) (N := 7) hx hb hts (by decide +kernel) hown hK hP kk_17 hk_18 rfl 1 (by decide) (hts (.fieldLink RX11 250 "PageOne$Item" "kind" "I") (by decide +kernel)) (fun _ h9 => h9) rfl dX11_item_53 hgo
        ·
          rw [ht9.2] at hk_18
          exact va_get (D := (dC, dI)) (ci := 5) (v := .int kd_7) (C := RX6) (T := TX6) (N := 9) hx hb hts (by decide +kernel) hown hK hP kk_17 hk_18 rfl 1 (by decide) (hts (.fieldLink RX11 250 "PageOne$Item" "kind" "I") (by decide +kernel)) (fun _ h9 => h9) rfl dX11_item_53 hgo
        ·
          rw [ht9.2] at hk_18
          exact va_get (D := (dC, dI)) (ci := 6) (v := .int kd_7) (C := RX7) (T := TX7) (N := 8) hx hb hts (by decide +kernel) hown hK hP kk_17 hk_18 rfl 1 (by decide) (hts (.fieldLink RX11 250 "PageOne$Item" "kind" "I") (by decide +kernel)) (fun _ h9 => h9) rfl dX11_item_53 hgo
        ·
          rw [ht9.2] at hk_18
          exact va_get (D := (dC, dI)) (ci := 9) (v := .int kd_7) (C := RX10) (T := TX10) (N := 9) hx hb hts (by decide +kernel) hown hK hP kk_17 hk_18 rfl 1 (by decide) (hts (.fieldLink RX11 250 "PageOne$Item" "kind" "I") (by decide +kernel)) (fun _ h9 => h9) rfl dX11_item_53 hgo
      ·
        exact W.iret (v := kd_7) hx hb hr (fun t ht hW => ⟨_, rfl, trivial, ht⟩) (fun q h => absurd h List.not_mem_nil) dX11_item_56
    ·
      rcases Classical.em (p1 = 1) with s_19 | s_19
      ·
        subst s_19
        refine lv_tableIn (tgt := 57) (off := 44) hx hb dX11_item_13 (by decide) (by decide) (by decide) (by decide) ?_
        refine lv_aload_n hx hb dX11_item_57 rfl (lv_at hl 0 rfl) ?_
        obtain ⟨nu_20, kd_21, cn_22, pa_23, fa_24, rs_25, hs_26, hs_27, hs_28, hs_29, hs_30⟩ := x_im hI ht_4
        obtain ⟨kk_31, hk_32⟩ := pl_at ht_4.1 hs_26
        refine w_then (F0 m 61 ls [.int cn_22]) (fun hgo => ?_) ?_
        ·
          rcases x_tag ht_4 with ht9 | ht9 | ht9 | ht9 | ht9 | ht9
          ·
            rw [ht9.2] at hk_32
            exact va_get (D := (dC, dI)) (ci := 2) (v := .int cn_22) (C := RX2) (T := TX2) (N := 7) hx hb hts (by decide +kernel) hown hK hP kk_31 hk_32 rfl 3 (by decide) (hts (.fieldLink RX11 170 "PageOne$Item" "count" "I") (by decide +kernel)) (fun _ h9 => h9) rfl dX11_item_58 hgo
          ·
            rw [ht9.2] at hk_32
            exact va_get (D := (dC, dI)) (ci := 3) (v := .int cn_22) (C := RX3) (T := TX3) (N := 8) hx hb hts (by decide +kernel) hown hK hP kk_31 hk_32 rfl 3 (by decide) (hts (.fieldLink RX11 170 "PageOne$Item" "count" "I") (by decide +kernel)) (fun _ h9 => h9) rfl dX11_item_58 hgo
          ·
            rw [ht9.2] at hk_32
            exact va_get (D := (dC, dI)) (ci := 4) (v := .int cn_22) (C := RX5) (T := TX5) (N := 7) hx hb hts (by decide +kernel) hown hK hP kk_31 hk_32 rfl 3 (by decide) (hts (.fieldLink RX11 170 "PageOne$Item" "count" "I") (by decide +kernel)) (fun _ h9 => h9) rfl dX11_item_58 hgo
          ·
            rw [ht9.2] at hk_32
            exact va_get (D := (dC, dI)) (ci := 5) (v := .int cn_22) (C := RX6) (T := TX6) (N := 9) hx hb hts (by decide +kernel) hown hK hP kk_31 hk_32 rfl 3 (by decide) (hts (.fieldLink RX11 170 "PageOne$Item" "count" "I") (by decide +kernel)) (fun _ h9 => h9) rfl dX11_item_58 hgo
          ·
            rw [ht9.2] at hk_32
            exact va_get (D := (dC, dI)) (ci := 6) (v := .int cn_22) (C := RX7) (T := TX7) (N := 8) hx hb hts (by decide +kernel) hown hK hP kk_31 hk_32 rfl 3 (by decide) (hts (.fieldLink RX11 170 "PageOne$Item" "count" "I") (by decide +kernel)) (fun _ h9 => h9) rfl dX11_item_58 hgo
          ·
            rw [ht9.2] at hk_32
            exact va_get (D := (dC, dI)) (ci := 9) (v := .int cn_22) (C := RX10) (T := TX10) (N := 9) hx hb hts (by decide +kernel) hown hK hP kk_31 hk_32 rfl 3 (by decide) (hts (.fieldLink RX11 170 "PageOne$Item" "count" "I") (by decide +kernel)) (fun _ h9 => h9) rfl dX11_item_58 hgo
        ·
          exact W.iret (v := cn_22) hx hb hr (fun t ht hW => ⟨_, rfl, trivial, ht⟩) (fun q h => absurd h List.not_mem_nil) dX11_item_61
      ·
        rcases Classical.em (p1 = 2) with s_33 | s_33
        ·
          subst s_33
          refine lv_tableIn (tgt := 62) (off := 49) hx hb dX11_item_13 (by decide) (by decide) (by decide) (by decide) ?_
          refine lv_aload_n hx hb dX11_item_62 rfl (lv_at hl 0 rfl) ?_
          rcases Classical.em (tg z b_3 15) with ht9 | ht9
          ·
            have ht_34 := ht9
            obtain ⟨nu_36, kd_37, cn_38, pa_39, fa_40, l_41, co_42, wd_43, nm_44, hs_45, hs_46, hs_47, hs_48, hq_49, hq_50, hq_51⟩ := x_ist hI ht_34
            obtain ⟨kk_52, hk_53⟩ := pl_at ht_34.1 hs_45
            refine va_instS hx hb hown (hts (.classLink RX11 66 "PageOne$Story") (by decide +kernel)) (hK.1 9 (RX10, TX10, 9) rfl).2 (va_recv hK hP (ci := 9) (q0 := kk_52) rfl hk_53) dX11_item_63 ?_
            refine lv_if_eq (tgt := 83) hx hb dX11_item_66 (by decide) (fun c_54 => absurd c_54 (by decide)) (fun c_54 => ?_)
            refine lv_aload_n hx hb dX11_item_69 rfl (lv_at hl 0 rfl) ?_
            obtain ⟨kk_55, hk_56⟩ := pl_at ht_34.1 hs_45
            refine va_castS hx hb hown (hts (.classLink RX11 66 "PageOne$Story") (by decide +kernel)) (hK.1 9 (RX10, TX10, 9) rfl).2 (va_recv hK hP (ci := 9) (q0 := kk_55) rfl hk_56) dX11_item_70 ?_
            refine lv_astore (lv' := [(4, .ref b_3), (3, .ref b_3), (0, .ref h0), (1, .int p0), (2, .int 2)]) hx hb dX11_item_73 hl (by decide) rfl (fun ls hl => ?_)
            refine lv_aload hx hb dX11_item_75 (lv_at hl 0 rfl) ?_
            obtain ⟨kk_57, hk_58⟩ := pl_at ht_34.1 hs_45
            refine va_get (D := (dC, dI)) (ci := 9) (v := .int co_42) (C := RX10) (T := TX10) (N := 9) hx hb hts (by decide +kernel) hown hK hP kk_57 hk_58 rfl 7 (by decide) (hts (.fieldLink RX11 251 "PageOne$Story" "come" "I") (by decide +kernel)) (fun _ h9 => h9) rfl dX11_item_77 ?_
            refine lv_goto (tgt := 84) hx hb dX11_item_80 (by decide) ?_
            exact W.iret (v := co_42) hx hb hr (fun t ht hW => ⟨_, rfl, trivial, ht⟩) (fun q h => absurd h List.not_mem_nil) dX11_item_84
          ·
            have hn_35 := ht9
            refine w_then (F0 m 66 ls [.int 0]) (fun hgo => ?_) ?_
            ·
              rcases x_tag ht_4 with ht8 | ht8 | ht8 | ht8 | ht8 | ht8
              ·
                obtain ⟨nu_59, kd_60, cn_61, pa_62, fa_63, l_64, m_65, hs_66, hs_67, hs_68, hs_69⟩ := x_ifl hI ht8
                obtain ⟨kk_70, hk_71⟩ := pl_at ht8.1 hs_66
                exact va_instNo hx hb hown (hts (.classLink RX11 66 "PageOne$Story") (by decide +kernel)) hXN.n_X2_X10 (va_recv hK hP (ci := 2) (q0 := kk_70) rfl hk_71) dX11_item_63 hgo
              ·
                obtain ⟨nu_72, kd_73, cn_74, pa_75, fa_76, o_77, w_78, y_79, hs_80, hs_81, hs_82, hs_83, hq_84⟩ := x_ihd hI ht8
                obtain ⟨kk_85, hk_86⟩ := pl_at ht8.1 hs_80
                exact va_instNo hx hb hown (hts (.classLink RX11 66 "PageOne$Story") (by decide +kernel)) hXN.n_X3_X10 (va_recv hK hP (ci := 3) (q0 := kk_85) rfl hk_86) dX11_item_63 hgo
              ·
                obtain ⟨nu_87, kd_88, cn_89, pa_90, fa_91, o_92, y_93, hs_94, hs_95, hs_96, hs_97, hq_98⟩ := x_ino hI ht8
                obtain ⟨kk_99, hk_100⟩ := pl_at ht8.1 hs_94
                exact va_instNo hx hb hown (hts (.classLink RX11 66 "PageOne$Story") (by decide +kernel)) hXN.n_X5_X10 (va_recv hK hP (ci := 4) (q0 := kk_99) rfl hk_100) dX11_item_63 hgo
              ·
                obtain ⟨nu_101, kd_102, cn_103, pa_104, fa_105, b_106, pr_107, sp_108, dy_109, hs_110, hs_111, hs_112, hs_113, hq_114, hq_115, hq_116⟩ := x_ipd hI ht8
                obtain ⟨kk_117, hk_118⟩ := pl_at ht8.1 hs_110
                exact va_instNo hx hb hown (hts (.classLink RX11 66 "PageOne$Story") (by decide +kernel)) hXN.n_X6_X10 (va_recv hK hP (ci := 5) (q0 := kk_117) rfl hk_118) dX11_item_63 hgo
              ·
                obtain ⟨nu_119, kd_120, cn_121, pa_122, fa_123, ww_124, hh_125, sz_126, hs_127, hs_128, hs_129, hs_130, hq_131, hq_132, hq_133⟩ := x_ipi hI ht8
                obtain ⟨kk_134, hk_135⟩ := pl_at ht8.1 hs_127
                exact va_instNo hx hb hown (hts (.classLink RX11 66 "PageOne$Story") (by decide +kernel)) hXN.n_X7_X10 (va_recv hK hP (ci := 6) (q0 := kk_134) rfl hk_135) dX11_item_63 hgo
              ·
                exact absurd ht8 ht9
            ·
              refine lv_if_eq (tgt := 83) hx hb dX11_item_66 (by decide) (fun c_136 => ?_) (fun c_136 => absurd (by decide) c_136)
              refine lv_iconst (v := (-1)) hx hb dX11_item_83 (by decide) ?_
              exact W.iret (v := (-1)) hx hb hr (fun t ht hW => ⟨_, rfl, trivial, ht⟩) (fun q h => absurd h List.not_mem_nil) dX11_item_84
        ·
          rcases Classical.em (p1 = 3) with s_137 | s_137
          ·
            subst s_137
            refine lv_tableIn (tgt := 85) (off := 72) hx hb dX11_item_13 (by decide) (by decide) (by decide) (by decide) ?_
            refine lv_aload_n hx hb dX11_item_85 rfl (lv_at hl 0 rfl) ?_
            rcases Classical.em (tg z b_3 15) with ht9 | ht9
            ·
              have ht_138 := ht9
              obtain ⟨nu_140, kd_141, cn_142, pa_143, fa_144, l_145, co_146, wd_147, nm_148, hs_149, hs_150, hs_151, hs_152, hq_153, hq_154, hq_155⟩ := x_ist hI ht_138
              obtain ⟨kk_156, hk_157⟩ := pl_at ht_138.1 hs_149
              refine va_instS hx hb hown (hts (.classLink RX11 66 "PageOne$Story") (by decide +kernel)) (hK.1 9 (RX10, TX10, 9) rfl).2 (va_recv hK hP (ci := 9) (q0 := kk_156) rfl hk_157) dX11_item_86 ?_
              refine lv_if_eq (tgt := 106) hx hb dX11_item_89 (by decide) (fun c_158 => absurd c_158 (by decide)) (fun c_158 => ?_)
              refine lv_aload_n hx hb dX11_item_92 rfl (lv_at hl 0 rfl) ?_
              obtain ⟨kk_159, hk_160⟩ := pl_at ht_138.1 hs_149
              refine va_castS hx hb hown (hts (.classLink RX11 66 "PageOne$Story") (by decide +kernel)) (hK.1 9 (RX10, TX10, 9) rfl).2 (va_recv hK hP (ci := 9) (q0 := kk_159) rfl hk_160) dX11_item_93 ?_
              refine lv_astore (lv' := [(4, .ref b_3), (3, .ref b_3), (0, .ref h0), (1, .int p0), (2, .int 3)]) hx hb dX11_item_96 hl (by decide) rfl (fun ls hl => ?_)
              refine lv_aload hx hb dX11_item_98 (lv_at hl 0 rfl) ?_
              obtain ⟨kk_161, hk_162⟩ := pl_at ht_138.1 hs_149
              refine vp_callSi (va_runV (As := []) (rest := []) ⟨hx, hb, hml, hown, hts⟩ (x_standing l dC dI q h0 d k z f hI b_3 ht_138) (cwV 0 hts gX11_item_X10_standing rfl rfl rfl (by decide +kernel) ⟨Nat.le_of_ble_eq_true rfl, Nat.le_of_ble_eq_true rfl⟩) ⟨px_fb, va_recv hK hP (ci := 9) (q0 := kk_161) rfl hk_162, fun U hU hW => ⟨rfl, px_to hU hW hP hK hN hXN⟩⟩ rfl rfl hl.1 rfl (lv_room (Nat.le_of_ble_eq_true rfl)) dX11_item_100 ⟨Nat.le_of_ble_eq_true rfl, Nat.le_of_ble_eq_true rfl⟩).run (fun r hw => ?_)
              generalize r = zr_163 at hw ⊢
              have hzr_163 := hw
              refine lv_goto (tgt := 107) hx hb dX11_item_103 (by decide) ?_
              exact W.iret (v := zr_163) hx hb hr (fun t ht hW => ⟨_, rfl, trivial, ht⟩) (fun q h => absurd h List.not_mem_nil) dX11_item_107
            ·
              have hn_139 := ht9
              refine w_then (F0 m 89 ls [.int 0]) (fun hgo => ?_) ?_
              ·
                rcases x_tag ht_4 with ht8 | ht8 | ht8 | ht8 | ht8 | ht8
                ·
                  obtain ⟨nu_164, kd_165, cn_166, pa_167, fa_168, l_169, m_170, hs_171, hs_172, hs_173, hs_174⟩ := x_ifl hI ht8
                  obtain ⟨kk_175, hk_176⟩ := pl_at ht8.1 hs_171
                  exact va_instNo hx hb hown (hts (.classLink RX11 66 "PageOne$Story") (by decide +kernel)) hXN.n_X2_X10 (va_recv hK hP (ci := 2) (q0 := kk_175) rfl hk_176) dX11_item_86 hgo
                ·
                  obtain ⟨nu_177, kd_178, cn_179, pa_180, fa_181, o_182, w_183, y_184, hs_185, hs_186, hs_187, hs_188, hq_189⟩ := x_ihd hI ht8
                  obtain ⟨kk_190, hk_191⟩ := pl_at ht8.1 hs_185
                  exact va_instNo hx hb hown (hts (.classLink RX11 66 "PageOne$Story") (by decide +kernel)) hXN.n_X3_X10 (va_recv hK hP (ci := 3) (q0 := kk_190) rfl hk_191) dX11_item_86 hgo
                ·
                  obtain ⟨nu_192, kd_193, cn_194, pa_195, fa_196, o_197, y_198, hs_199, hs_200, hs_201, hs_202, hq_203⟩ := x_ino hI ht8
                  obtain ⟨kk_204, hk_205⟩ := pl_at ht8.1 hs_199
                  exact va_instNo hx hb hown (hts (.classLink RX11 66 "PageOne$Story") (by decide +kernel)) hXN.n_X5_X10 (va_recv hK hP (ci := 4) (q0 := kk_204) rfl hk_205) dX11_item_86 hgo
                ·
                  obtain ⟨nu_206, kd_207, cn_208, pa_209, fa_210, b_211, pr_212, sp_213, dy_214, hs_215, hs_216, hs_217, hs_218, hq_219, hq_220, hq_221⟩ := x_ipd hI ht8
                  obtain ⟨kk_222, hk_223⟩ := pl_at ht8.1 hs_215
                  exact va_instNo hx hb hown (hts (.classLink RX11 66 "PageOne$Story") (by decide +kernel)) hXN.n_X6_X10 (va_recv hK hP (ci := 5) (q0 := kk_222) rfl hk_223) dX11_item_86 hgo
                ·
                  obtain ⟨nu_224, kd_225, cn_226, pa_227, fa_228, ww_229, hh_230, sz_231, hs_232, hs_233, hs_234, hs_235, hq_236, hq_237, hq_238⟩ := x_ipi hI ht8
                  obtain ⟨kk_239, hk_240⟩ := pl_at ht8.1 hs_232
                  exact va_instNo hx hb hown (hts (.classLink RX11 66 "PageOne$Story") (by decide +kernel)) hXN.n_X7_X10 (va_recv hK hP (ci := 6) (q0 := kk_239) rfl hk_240) dX11_item_86 hgo
                ·
                  exact absurd ht8 ht9
              ·
                refine lv_if_eq (tgt := 106) hx hb dX11_item_89 (by decide) (fun c_241 => ?_) (fun c_241 => absurd (by decide) c_241)
                refine lv_iconst (v := (-1)) hx hb dX11_item_106 (by decide) ?_
                exact W.iret (v := (-1)) hx hb hr (fun t ht hW => ⟨_, rfl, trivial, ht⟩) (fun q h => absurd h List.not_mem_nil) dX11_item_107
          ·
            rcases Classical.em (p1 = 4) with s_242 | s_242
            ·
              subst s_242
              refine lv_tableIn (tgt := 108) (off := 95) hx hb dX11_item_13 (by decide) (by decide) (by decide) (by decide) ?_
              refine lv_aload_n hx hb dX11_item_108 rfl (lv_at hl 1 rfl) ?_
              refine lv_aload_n hx hb dX11_item_109 rfl (lv_at hl 0 rfl) ?_
              obtain ⟨kk_243, hk_244⟩ := pl_at hI.2.1.1.1 hI.2.2.2.1.1
              refine vp_callSi (va_runV (As := [.ref b_3]) (rest := []) ⟨hx, hb, hml, hown, hts⟩ (x_ownerOf l dC dI q h0 d k z f hI b_3 ht_4) (cwV 1 hts gX11_item_X11_ownerOf rfl rfl rfl (by decide +kernel) ⟨Nat.le_of_ble_eq_true rfl, Nat.le_of_ble_eq_true rfl⟩) ⟨px_fb, va_recv hK hP (ci := 10) (q0 := kk_243) rfl hk_244, fun U hU hW => ⟨rfl, px_to hU hW hP hK hN hXN⟩⟩ rfl rfl hl.1 rfl (lv_room (Nat.le_of_ble_eq_true rfl)) dX11_item_110 ⟨Nat.le_of_ble_eq_true rfl, Nat.le_of_ble_eq_true rfl⟩).run (fun r hw => ?_)
              generalize r = zr_245 at hw ⊢
              have hzr_245 := hw
              exact W.iret (v := zr_245) hx hb hr (fun t ht hW => ⟨_, rfl, trivial, ht⟩) (fun q h => absurd h List.not_mem_nil) dX11_item_113
            ·
              rcases Classical.em (p1 = 5) with s_246 | s_246
              ·
                subst s_246
                refine lv_tableIn (tgt := 114) (off := 101) hx hb dX11_item_13 (by decide) (by decide) (by decide) (by decide) ?_
                refine lv_aload_n hx hb dX11_item_114 rfl (lv_at hl 0 rfl) ?_
                rcases Classical.em (tg z b_3 13) with ht9 | ht9
                ·
                  have ht_247 := ht9
                  obtain ⟨nu_249, kd_250, cn_251, pa_252, fa_253, b_254, pr_255, sp_256, dy_257, hs_258, hs_259, hs_260, hs_261, hq_262, hq_263, hq_264⟩ := x_ipd hI ht_247
                  obtain ⟨kk_265, hk_266⟩ := pl_at ht_247.1 hs_258
                  refine va_instS hx hb hown (hts (.classLink RX11 104 "PageOne$Paid") (by decide +kernel)) (hK.1 5 (RX6, TX6, 9) rfl).2 (va_recv hK hP (ci := 5) (q0 := kk_265) rfl hk_266) dX11_item_115 ?_
                  refine lv_if_eq (tgt := 135) hx hb dX11_item_118 (by decide) (fun c_267 => absurd c_267 (by decide)) (fun c_267 => ?_)
                  refine lv_aload_n hx hb dX11_item_121 rfl (lv_at hl 0 rfl) ?_
                  obtain ⟨kk_268, hk_269⟩ := pl_at ht_247.1 hs_258
                  refine va_castS hx hb hown (hts (.classLink RX11 104 "PageOne$Paid") (by decide +kernel)) (hK.1 5 (RX6, TX6, 9) rfl).2 (va_recv hK hP (ci := 5) (q0 := kk_268) rfl hk_269) dX11_item_122 ?_
                  refine lv_astore (lv' := [(4, .ref b_3), (3, .ref b_3), (0, .ref h0), (1, .int p0), (2, .int 5)]) hx hb dX11_item_125 hl (by decide) rfl (fun ls hl => ?_)
                  refine lv_aload hx hb dX11_item_127 (lv_at hl 0 rfl) ?_
                  obtain ⟨kk_270, hk_271⟩ := pl_at ht_247.1 hs_258
                  refine va_get (D := (dC, dI)) (ci := 5) (v := .int b_254) (C := RX6) (T := TX6) (N := 9) hx hb hts (by decide +kernel) hown hK hP kk_270 hk_271 rfl 5 (by decide) (hts (.fieldLink RX11 260 "PageOne$Paid" "buyer" "I") (by decide +kernel)) (fun _ h9 => h9) rfl dX11_item_129 ?_
                  refine lv_goto (tgt := 136) hx hb dX11_item_132 (by decide) ?_
                  exact W.iret (v := b_254) hx hb hr (fun t ht hW => ⟨_, rfl, trivial, ht⟩) (fun q h => absurd h List.not_mem_nil) dX11_item_136
                ·
                  have hn_248 := ht9
                  refine w_then (F0 m 118 ls [.int 0]) (fun hgo => ?_) ?_
                  ·
                    rcases x_tag ht_4 with ht8 | ht8 | ht8 | ht8 | ht8 | ht8
                    ·
                      obtain ⟨nu_272, kd_273, cn_274, pa_275, fa_276, l_277, m_278, hs_279, hs_280, hs_281, hs_282⟩ := x_ifl hI ht8
                      obtain ⟨kk_283, hk_284⟩ := pl_at ht8.1 hs_279
                      exact va_instNo hx hb hown (hts (.classLink RX11 104 "PageOne$Paid") (by decide +kernel)) hXN.n_X2_X6 (va_recv hK hP (ci := 2) (q0 := kk_283) rfl hk_284) dX11_item_115 hgo
                    ·
                      obtain ⟨nu_285, kd_286, cn_287, pa_288, fa_289, o_290, w_291, y_292, hs_293, hs_294, hs_295, hs_296, hq_297⟩ := x_ihd hI ht8
                      obtain ⟨kk_298, hk_299⟩ := pl_at ht8.1 hs_293
                      exact va_instNo hx hb hown (hts (.classLink RX11 104 "PageOne$Paid") (by decide +kernel)) hXN.n_X3_X6 (va_recv hK hP (ci := 3) (q0 := kk_298) rfl hk_299) dX11_item_115 hgo
                    ·
                      obtain ⟨nu_300, kd_301, cn_302, pa_303, fa_304, o_305, y_306, hs_307, hs_308, hs_309, hs_310, hq_311⟩ := x_ino hI ht8
                      obtain ⟨kk_312, hk_313⟩ := pl_at ht8.1 hs_307
                      exact va_instNo hx hb hown (hts (.classLink RX11 104 "PageOne$Paid") (by decide +kernel)) hXN.n_X5_X6 (va_recv hK hP (ci := 4) (q0 := kk_312) rfl hk_313) dX11_item_115 hgo
                    ·
                      exact absurd ht8 ht9
                    ·
                      obtain ⟨nu_314, kd_315, cn_316, pa_317, fa_318, ww_319, hh_320, sz_321, hs_322, hs_323, hs_324, hs_325, hq_326, hq_327, hq_328⟩ := x_ipi hI ht8
                      obtain ⟨kk_329, hk_330⟩ := pl_at ht8.1 hs_322
                      exact va_instNo hx hb hown (hts (.classLink RX11 104 "PageOne$Paid") (by decide +kernel)) hXN.n_X7_X6 (va_recv hK hP (ci := 6) (q0 := kk_329) rfl hk_330) dX11_item_115 hgo
                    ·
                      obtain ⟨nu_331, kd_332, cn_333, pa_334, fa_335, l_336, co_337, wd_338, nm_339, hs_340, hs_341, hs_342, hs_343, hq_344, hq_345, hq_346⟩ := x_ist hI ht8
                      obtain ⟨kk_347, hk_348⟩ := pl_at ht8.1 hs_340
                      exact va_instNo hx hb hown (hts (.classLink RX11 104 "PageOne$Paid") (by decide +kernel)) hXN.n_X10_X6 (va_recv hK hP (ci := 9) (q0 := kk_347) rfl hk_348) dX11_item_115 hgo
                  ·
                    refine lv_if_eq (tgt := 135) hx hb dX11_item_118 (by decide) (fun c_349 => ?_) (fun c_349 => absurd (by decide) c_349)
                    refine lv_iconst (v := (-1)) hx hb dX11_item_135 (by decide) ?_
                    exact W.iret (v := (-1)) hx hb hr (fun t ht hW => ⟨_, rfl, trivial, ht⟩) (fun q h => absurd h List.not_mem_nil) dX11_item_136
              ·
                refine lv_tableOut (tgt := 137) hx hb dX11_item_13 (sw_out5 s_5 s_19 s_33 s_137 s_242 s_246) (by decide) ?_
                refine lv_iconst (v := (-1)) hx hb dX11_item_137 (by decide) ?_
                exact W.iret (v := (-1)) hx hb hr (fun t ht hW => ⟨_, rfl, trivial, ht⟩) (fun q h => absurd h List.not_mem_nil) dX11_item_138
set_option maxHeartbeats 4000000 in
set_option maxRecDepth 100000 in
theorem x_piece (l : Launch) (dC : Nat → ClassId) (dI : Nat → Nat → Nat) (q : Nat → ClassId) (h0 : Nat) (d : Nat → Nat) (k : Nat → Int32) (z : gS) (f : xF) (hI : xI q h0 d k z f) (p0 p1 p2 : Int32) : Met l yX11_piece wsX11_piece ({ frames := 3, cells := 0, slots := 0, locals := 67 }) (va_Pc [.ref h0, .int p0, .int p1, .int p2] (PX dC dI (va_pl z.1 f) (xT q))) (vp_Si (fun r => True)) 0 0 (fun _ => False) := by
  refine Met.ofW (cc := cX11_piece) (maxL := 7) (ret := (some .int)) (by decide) rfl ?_
  intro p e s m args below meth c s₁ B hml hv
  obtain ⟨rfl, ⟨hP, hK, hN⟩, hXN⟩ := hv
  have hx := B.exec
  have hb := B.bytes
  have hr := B.returns
  have hts := atoms_spec (ws := wsX11_piece) B.pre
  have hown : s.vm.findClass RX11 = some m.cls := findClass_of_methodNamed B.named
  have hlocks := B.notSynchronized
  have hl := lv_entry ([.ref h0, .int p0, .int p1, .int p2]) (n := 7) (Nat.le_of_ble_eq_true rfl)
  rw [lg_entry_eq]
  generalize (lg_sl ([.ref h0, .int p0, .int p1, .int p2]) ++ List.replicate (7 - (lg_sl ([.ref h0, .int p0, .int p1, .int p2])).length) Slot.unset).toArray = ls at hl ⊢
  have hl : lv_has ls 7 [(0, .ref h0), (1, .int p0), (2, .int p1), (3, .int p2)] := hl
  refine lv_aload_n hx hb dX11_piece_0 rfl (lv_at hl 0 rfl) ?_
  refine lv_iload_n hx hb dX11_piece_1 rfl (lv_at hl 1 rfl) ?_
  obtain ⟨kk_1, hk_2⟩ := pl_at hI.2.1.1.1 hI.2.2.2.1.1
  refine va_csq (va_runV (As := [.int p0]) (rest := []) ⟨hx, hb, hml, hown, hts⟩ (x_itemOf l dC dI q h0 d k z f hI p0) (cwV 1 hts gX11_piece_X11_itemOf rfl rfl rfl (by decide +kernel) ⟨Nat.le_of_ble_eq_true rfl, Nat.le_of_ble_eq_true rfl⟩) ⟨px_fb, va_recv hK hP (ci := 10) (q0 := kk_1) rfl hk_2, fun U hU hW => ⟨rfl, px_to hU hW hP hK hN hXN⟩⟩ rfl rfl hl.1 rfl (lv_room (Nat.le_of_ble_eq_true rfl)) dX11_piece_2 ⟨Nat.le_of_ble_eq_true rfl, Nat.le_of_ble_eq_true rfl⟩).run (fun r hw => ?_)
  rcases r with _ | b_3
  ·
    refine W.eq (g2 := F0 m 5 ls [.null]) rfl ?_
    refine lv_astoreN (lv' := [(4, .null), (0, .ref h0), (1, .int p0), (2, .int p1), (3, .int p2)]) hx hb dX11_piece_5 hl (by decide) rfl (fun ls hl => ?_)
    refine lv_aloadN hx hb dX11_piece_7 (lv_at hl 0 rfl) ?_
    refine lv_ifnullN (tgt := 27) hx hb dX11_piece_9 (by decide) ?_
    refine lv_iconst (v := (-1)) hx hb dX11_piece_27 (by decide) ?_
    exact W.iret (v := (-1)) hx hb hr (fun t ht hW => ⟨_, rfl, trivial, ht⟩) (fun q h => absurd h List.not_mem_nil) dX11_piece_28
  ·
    have ht_4 := hw b_3 rfl
    refine W.eq (g2 := F0 m 5 ls [.ref b_3]) rfl ?_
    refine lv_astore (lv' := [(4, .ref b_3), (0, .ref h0), (1, .int p0), (2, .int p1), (3, .int p2)]) hx hb dX11_piece_5 hl (by decide) rfl (fun ls hl => ?_)
    refine lv_aload hx hb dX11_piece_7 (lv_at hl 0 rfl) ?_
    refine lv_ifnull hx hb dX11_piece_9 ?_
    refine lv_iload_n hx hb dX11_piece_12 rfl (lv_at hl 3 rfl) ?_
    refine lv_iconst (v := 0) hx hb dX11_piece_13 (by decide) ?_
    refine lv_aload hx hb dX11_piece_14 (lv_at hl 0 rfl) ?_
    obtain ⟨nu_5, kd_6, cn_7, pa_8, fa_9, rs_10, hs_11, hs_12, hs_13, hs_14, hs_15⟩ := x_im hI ht_4
    obtain ⟨kk_16, hk_17⟩ := pl_at ht_4.1 hs_11
    refine w_then (F0 m 19 ls [.int cn_7, .int 0, .int p1]) (fun hgo => ?_) ?_
    ·
      rcases x_tag ht_4 with ht9 | ht9 | ht9 | ht9 | ht9 | ht9
      ·
        rw [ht9.2] at hk_17
        exact va_get (D := (dC, dI)) (ci := 2) (v := .int cn_7) (C := RX2) (T := TX2) (N := 7) hx hb hts (by decide +kernel) hown hK hP kk_16 hk_17 rfl 3 (by decide) (hts (.fieldLink RX11 170 "PageOne$Item" "count" "I") (by decide +kernel)) (fun _ h9 => h9) rfl dX11_piece_16 hgo
      ·
        rw [ht9.2] at hk_17
        exact va_get (D := (dC, dI)) (ci := 3) (v := .int cn_7) (C := RX3) (T := TX3) (N := 8) hx hb hts (by decide +kernel) hown hK hP kk_16 hk_17 rfl 3 (by decide) (hts (.fieldLink RX11 170 "PageOne$Item" "count" "I") (by decide +kernel)) (fun _ h9 => h9) rfl dX11_piece_16 hgo
      ·
        rw [ht9.2] at hk_17
        exact va_get (D := (dC, dI)) (ci := 4) (v := .int cn_7) (C := RX5) (T := TX5) (N := 7) hx hb hts (by decide +kernel) hown hK hP kk_16 hk_17 rfl 3 (by decide) (hts (.fieldLink RX11 170 "PageOne$Item" "count" "I") (by decide +kernel)) (fun _ h9 => h9) rfl dX11_piece_16 hgo
      ·
        rw [ht9.2] at hk_17
        exact va_get (D := (dC, dI)) (ci := 5) (v := .int cn_7) (C := RX6) (T := TX6) (N := 9) hx hb hts (by decide +kernel) hown hK hP kk_16 hk_17 rfl 3 (by decide) (hts (.fieldLink RX11 170 "PageOne$Item" "count" "I") (by decide +kernel)) (fun _ h9 => h9) rfl dX11_piece_16 hgo
      ·
        rw [ht9.2] at hk_17
        exact va_get (D := (dC, dI)) (ci := 6) (v := .int cn_7) (C := RX7) (T := TX7) (N := 8) hx hb hts (by decide +kernel) hown hK hP kk_16 hk_17 rfl 3 (by decide) (hts (.fieldLink RX11 170 "PageOne$Item" "count" "I") (by decide +kernel)) (fun _ h9 => h9) rfl dX11_piece_16 hgo
      ·
        rw [ht9.2] at hk_17
        exact va_get (D := (dC, dI)) (ci := 9) (v := .int cn_7) (C := RX10) (T := TX10) (N := 9) hx hb hts (by decide +kernel) hown hK hP kk_16 hk_17 rfl 3 (by decide) (hts (.fieldLink RX11 170 "PageOne$Item" "count" "I") (by decide +kernel)) (fun _ h9 => h9) rfl dX11_piece_16 hgo
    ·
      refine lv_iconst (v := 1) hx hb dX11_piece_19 (by decide) ?_
      refine lv_isub hx hb dX11_piece_20 ?_
      refine vp_callSi (va_runS (As := [.int p1, .int 0, .int (cn_7 - 1)]) (rest := []) ⟨hx, hb, hml, hown, hts⟩ (x_isWithin l dC dI p1 0 (cn_7 - 1)) (va_cwS 3 hts gX11_piece_X11_isWithin rfl rfl rfl (by decide +kernel) ⟨Nat.le_of_ble_eq_true rfl, Nat.le_of_ble_eq_true rfl⟩) ⟨pw_fb, fun U hU hW => ⟨rfl, pw_to hU hW (hP.sub (ws' := []) [] rfl) (hK.sub (tys' := []) [] rfl) hN⟩⟩ rfl rfl hl.1 rfl (lv_room (Nat.le_of_ble_eq_true rfl)) dX11_piece_21 ⟨Nat.le_of_ble_eq_true rfl, Nat.le_of_ble_eq_true rfl⟩).run (fun r hw => ?_)
      rcases Bool.eq_false_or_eq_true (bw p1 0 (cn_7 - 1)) with b_18 | b_18
      ·
        obtain rfl : r = 1 := b_t hw b_18
        refine lv_if_ne (tgt := 29) hx hb dX11_piece_24 (by decide) (fun c_19 => ?_) (fun c_19 => absurd c_19 (by decide))
        refine lv_aload hx hb dX11_piece_29 (lv_at hl 0 rfl) ?_
        obtain ⟨kk_20, hk_21⟩ := pl_at ht_4.1 hs_11
        refine w_then (F0 m 34 ls [.ref pa_8]) (fun hgo => ?_) ?_
        ·
          rcases x_tag ht_4 with ht9 | ht9 | ht9 | ht9 | ht9 | ht9
          ·
            rw [ht9.2] at hk_21
            exact va_get (D := (dC, dI)) (ci := 2) (v := .ref pa_8) (C := RX2) (T := TX2) (N := 7) hx hb hts (by decide +kernel) hown hK hP kk_20 hk_21 rfl 2 (by decide) (hts (.fieldLink RX11 225 "PageOne$Item" "pieces" "[LPageOne$Piece;") (by decide +kernel)) (fun _ h9 => h9) rfl dX11_piece_31 hgo
          ·
            rw [ht9.2] at hk_21
            exact va_get (D := (dC, dI)) (ci := 3) (v := .ref pa_8) (C := RX3) (T := TX3) (N := 8) hx hb hts (by decide +kernel) hown hK hP kk_20 hk_21 rfl 2 (by decide) (hts (.fieldLink RX11 225 "PageOne$Item" "pieces" "[LPageOne$Piece;") (by decide +kernel)) (fun _ h9 => h9) rfl dX11_piece_31 hgo
          ·
            rw [ht9.2] at hk_21
            exact va_get (D := (dC, dI)) (ci := 4) (v := .ref pa_8) (C := RX5) (T := TX5) (N := 7) hx hb hts (by decide +kernel) hown hK hP kk_20 hk_21 rfl 2 (by decide) (hts (.fieldLink RX11 225 "PageOne$Item" "pieces" "[LPageOne$Piece;") (by decide +kernel)) (fun _ h9 => h9) rfl dX11_piece_31 hgo
          ·
            rw [ht9.2] at hk_21
            exact va_get (D := (dC, dI)) (ci := 5) (v := .ref pa_8) (C := RX6) (T := TX6) (N := 9) hx hb hts (by decide +kernel) hown hK hP kk_20 hk_21 rfl 2 (by decide) (hts (.fieldLink RX11 225 "PageOne$Item" "pieces" "[LPageOne$Piece;") (by decide +kernel)) (fun _ h9 => h9) rfl dX11_piece_31 hgo
          ·
            rw [ht9.2] at hk_21
            exact va_get (D := (dC, dI)) (ci := 6) (v := .ref pa_8) (C := RX7) (T := TX7) (N := 8) hx hb hts (by decide +kernel) hown hK hP kk_20 hk_21 rfl 2 (by decide) (hts (.fieldLink RX11 225 "PageOne$Item" "pieces" "[LPageOne$Piece;") (by decide +kernel)) (fun _ h9 => h9) rfl dX11_piece_31 hgo
          ·
            rw [ht9.2] at hk_21
            exact va_get (D := (dC, dI)) (ci := 9) (v := .ref pa_8) (C := RX10) (T := TX10) (N := 9) hx hb hts (by decide +kernel) hown hK hP kk_20 hk_21 rfl 2 (by decide) (hts (.fieldLink RX11 225 "PageOne$Item" "pieces" "[LPageOne$Piece;") (by decide +kernel)) (fun _ h9 => h9) rfl dX11_piece_31 hgo
        ·
          refine lv_iload_n hx hb dX11_piece_34 rfl (lv_at hl 3 rfl) ?_
          obtain ⟨n_22, g_23, hs_24, h1_25, h6_26, hc_27, hn_28, hg_29⟩ := x_pcs hI ht_4 rfl hs_11
          obtain ⟨kk_30, hk_31⟩ := pl_at hs_12.1 hs_24
          refine va_aldq hx hb hK hP kk_30 5 hk_31 rfl (vkn h6_26 hc_27 b_18).1 dX11_piece_35 ?_
          obtain ⟨b_32, hg_33⟩ := hn_28 (p1 : Int32).toNatClampNeg (vkn h6_26 hc_27 b_18).2
          have ht_34 := hg_29 (p1 : Int32).toNatClampNeg (vlt (vkn h6_26 hc_27 b_18).1) b_32 hg_33
          rw [hg_33]
          refine W.eq (g2 := F0 m 36 ls [.ref b_32]) rfl ?_
          refine lv_astore (lv' := [(5, .ref b_32), (4, .ref b_3), (0, .ref h0), (1, .int p0), (2, .int p1), (3, .int p2)]) hx hb dX11_piece_36 hl (by decide) rfl (fun ls hl => ?_)
          refine lv_iload_n hx hb dX11_piece_38 rfl (lv_at hl 5 rfl) ?_
          rcases Classical.em (p2 = 0) with s_35 | s_35
          ·
            subst s_35
            refine lv_tableIn (tgt := 80) (off := 41) hx hb dX11_piece_39 (by decide) (by decide) (by decide) (by decide) ?_
            refine lv_aload hx hb dX11_piece_80 (lv_at hl 0 rfl) ?_
            have hcp := ht_34
            obtain ⟨it_36, P_37, X_38, Y_39, D_40, N_41, hp_42, hb_43, hb_44, hb_45, hb_46⟩ := hcp
            obtain ⟨kk_47, hk_48⟩ := pl_at hp_42.1.1 (x_pcF hI hp_42)
            refine va_get (D := (dC, dI)) (ci := 7) (v := .int P_37) (C := RX8) (T := TX8) (N := 6) hx hb hts (by decide +kernel) hown hK hP kk_47 hk_48 rfl 1 (by decide) (hts (.fieldLink RX11 229 "PageOne$Piece" "page" "I") (by decide +kernel)) (fun _ h9 => h9) rfl dX11_piece_82 ?_
            exact W.iret (v := P_37) hx hb hr (fun t ht hW => ⟨_, rfl, trivial, ht⟩) (fun q h => absurd h List.not_mem_nil) dX11_piece_85
          ·
            rcases Classical.em (p2 = 1) with s_49 | s_49
            ·
              subst s_49
              refine lv_tableIn (tgt := 86) (off := 47) hx hb dX11_piece_39 (by decide) (by decide) (by decide) (by decide) ?_
              refine lv_aload hx hb dX11_piece_86 (lv_at hl 0 rfl) ?_
              have hcp := ht_34
              obtain ⟨it_50, P_51, X_52, Y_53, D_54, N_55, hp_56, hb_57, hb_58, hb_59, hb_60⟩ := hcp
              obtain ⟨kk_61, hk_62⟩ := pl_at hp_56.1.1 (x_pcF hI hp_56)
              refine va_get (D := (dC, dI)) (ci := 7) (v := .int X_52) (C := RX8) (T := TX8) (N := 6) hx hb hts (by decide +kernel) hown hK hP kk_61 hk_62 rfl 2 (by decide) (hts (.fieldLink RX11 232 "PageOne$Piece" "column" "I") (by decide +kernel)) (fun _ h9 => h9) rfl dX11_piece_88 ?_
              exact W.iret (v := X_52) hx hb hr (fun t ht hW => ⟨_, rfl, trivial, ht⟩) (fun q h => absurd h List.not_mem_nil) dX11_piece_91
            ·
              rcases Classical.em (p2 = 2) with s_63 | s_63
              ·
                subst s_63
                refine lv_tableIn (tgt := 92) (off := 53) hx hb dX11_piece_39 (by decide) (by decide) (by decide) (by decide) ?_
                refine lv_aload hx hb dX11_piece_92 (lv_at hl 0 rfl) ?_
                have hcp := ht_34
                obtain ⟨it_64, P_65, X_66, Y_67, D_68, N_69, hp_70, hb_71, hb_72, hb_73, hb_74⟩ := hcp
                obtain ⟨kk_75, hk_76⟩ := pl_at hp_70.1.1 (x_pcF hI hp_70)
                refine va_get (D := (dC, dI)) (ci := 7) (v := .int Y_67) (C := RX8) (T := TX8) (N := 6) hx hb hts (by decide +kernel) hown hK hP kk_75 hk_76 rfl 3 (by decide) (hts (.fieldLink RX11 235 "PageOne$Piece" "line" "I") (by decide +kernel)) (fun _ h9 => h9) rfl dX11_piece_94 ?_
                exact W.iret (v := Y_67) hx hb hr (fun t ht hW => ⟨_, rfl, trivial, ht⟩) (fun q h => absurd h List.not_mem_nil) dX11_piece_97
              ·
                rcases Classical.em (p2 = 3) with s_77 | s_77
                ·
                  subst s_77
                  refine lv_tableIn (tgt := 98) (off := 59) hx hb dX11_piece_39 (by decide) (by decide) (by decide) (by decide) ?_
                  refine lv_aload hx hb dX11_piece_98 (lv_at hl 0 rfl) ?_
                  have hcp := ht_34
                  obtain ⟨it_78, P_79, X_80, Y_81, D_82, N_83, hp_84, hb_85, hb_86, hb_87, hb_88⟩ := hcp
                  obtain ⟨kk_89, hk_90⟩ := pl_at hp_84.1.1 (x_pcF hI hp_84)
                  refine va_get (D := (dC, dI)) (ci := 7) (v := .int D_82) (C := RX8) (T := TX8) (N := 6) hx hb hts (by decide +kernel) hown hK hP kk_89 hk_90 rfl 4 (by decide) (hts (.fieldLink RX11 238 "PageOne$Piece" "w" "I") (by decide +kernel)) (fun _ h9 => h9) rfl dX11_piece_100 ?_
                  exact W.iret (v := D_82) hx hb hr (fun t ht hW => ⟨_, rfl, trivial, ht⟩) (fun q h => absurd h List.not_mem_nil) dX11_piece_103
                ·
                  rcases Classical.em (p2 = 4) with s_91 | s_91
                  ·
                    subst s_91
                    refine lv_tableIn (tgt := 104) (off := 65) hx hb dX11_piece_39 (by decide) (by decide) (by decide) (by decide) ?_
                    refine lv_aload hx hb dX11_piece_104 (lv_at hl 0 rfl) ?_
                    have hcp := ht_34
                    obtain ⟨it_92, P_93, X_94, Y_95, D_96, N_97, hp_98, hb_99, hb_100, hb_101, hb_102⟩ := hcp
                    obtain ⟨kk_103, hk_104⟩ := pl_at hp_98.1.1 (x_pcF hI hp_98)
                    refine va_get (D := (dC, dI)) (ci := 7) (v := .int N_97) (C := RX8) (T := TX8) (N := 6) hx hb hts (by decide +kernel) hown hK hP kk_103 hk_104 rfl 5 (by decide) (hts (.fieldLink RX11 241 "PageOne$Piece" "h" "I") (by decide +kernel)) (fun _ h9 => h9) rfl dX11_piece_106 ?_
                    exact W.iret (v := N_97) hx hb hr (fun t ht hW => ⟨_, rfl, trivial, ht⟩) (fun q h => absurd h List.not_mem_nil) dX11_piece_109
                  ·
                    rcases Classical.em (p2 = 5) with s_105 | s_105
                    ·
                      subst s_105
                      refine lv_tableIn (tgt := 110) (off := 71) hx hb dX11_piece_39 (by decide) (by decide) (by decide) (by decide) ?_
                      refine lv_aload hx hb dX11_piece_110 (lv_at hl 1 rfl) ?_
                      rcases Classical.em (tg z b_3 15) with ht9 | ht9
                      ·
                        have ht_106 := ht9
                        obtain ⟨nu_108, kd_109, cn_110, pa_111, fa_112, l_113, co_114, wd_115, nm_116, hs_117, hs_118, hs_119, hs_120, hq_121, hq_122, hq_123⟩ := x_ist hI ht_106
                        obtain ⟨kk_124, hk_125⟩ := pl_at ht_106.1 hs_117
                        refine va_instS hx hb hown (hts (.classLink RX11 66 "PageOne$Story") (by decide +kernel)) (hK.1 9 (RX10, TX10, 9) rfl).2 (va_recv hK hP (ci := 9) (q0 := kk_124) rfl hk_125) dX11_piece_112 ?_
                        refine lv_if_eq (tgt := 134) hx hb dX11_piece_115 (by decide) (fun c_126 => absurd c_126 (by decide)) (fun c_126 => ?_)
                        refine lv_aload hx hb dX11_piece_118 (lv_at hl 1 rfl) ?_
                        obtain ⟨kk_127, hk_128⟩ := pl_at ht_106.1 hs_117
                        refine va_castS hx hb hown (hts (.classLink RX11 66 "PageOne$Story") (by decide +kernel)) (hK.1 9 (RX10, TX10, 9) rfl).2 (va_recv hK hP (ci := 9) (q0 := kk_127) rfl hk_128) dX11_piece_120 ?_
                        refine lv_astore (lv' := [(6, .ref b_3), (5, .ref b_32), (4, .ref b_3), (0, .ref h0), (1, .int p0), (2, .int p1), (3, .int 5)]) hx hb dX11_piece_123 hl (by decide) rfl (fun ls hl => ?_)
                        refine lv_aload hx hb dX11_piece_125 (lv_at hl 0 rfl) ?_
                        refine lv_iload_n hx hb dX11_piece_127 rfl (lv_at hl 5 rfl) ?_
                        obtain ⟨kk_129, hk_130⟩ := pl_at ht_106.1 hs_117
                        refine vp_callSi (va_runV (As := [.int p1]) (rest := []) ⟨hx, hb, hml, hown, hts⟩ (x_takenBefore l dC dI q h0 d k z f hI b_3 p1 ht_106) (cwV 1 hts gX11_piece_X10_takenBefore rfl rfl rfl (by decide +kernel) ⟨Nat.le_of_ble_eq_true rfl, Nat.le_of_ble_eq_true rfl⟩) ⟨px_fb, va_recv hK hP (ci := 9) (q0 := kk_129) rfl hk_130, fun U hU hW => ⟨rfl, px_to hU hW hP hK hN hXN⟩⟩ rfl rfl hl.1 rfl (lv_room (Nat.le_of_ble_eq_true rfl)) dX11_piece_128 ⟨Nat.le_of_ble_eq_true rfl, Nat.le_of_ble_eq_true rfl⟩).run (fun r hw => ?_)
                        generalize r = zr_131 at hw ⊢
                        have hzr_131 := hw
                        refine lv_goto (tgt := 135) hx hb dX11_piece_131 (by decide) ?_
                        exact W.iret (v := zr_131) hx hb hr (fun t ht hW => ⟨_, rfl, trivial, ht⟩) (fun q h => absurd h List.not_mem_nil) dX11_piece_135
                      ·
                        have hn_107 := ht9
                        refine w_then (F0 m 115 ls [.int 0]) (fun hgo => ?_) ?_
                        ·
                          rcases x_tag ht_4 with ht8 | ht8 | ht8 | ht8 | ht8 | ht8
                          ·
                            obtain ⟨nu_132, kd_133, cn_134, pa_135, fa_136, l_137, m_138, hs_139, hs_140, hs_141, hs_142⟩ := x_ifl hI ht8
                            obtain ⟨kk_143, hk_144⟩ := pl_at ht8.1 hs_139
                            exact va_instNo hx hb hown (hts (.classLink RX11 66 "PageOne$Story") (by decide +kernel)) hXN.n_X2_X10 (va_recv hK hP (ci := 2) (q0 := kk_143) rfl hk_144) dX11_piece_112 hgo
                          ·
                            obtain ⟨nu_145, kd_146, cn_147, pa_148, fa_149, o_150, w_151, y_152, hs_153, hs_154, hs_155, hs_156, hq_157⟩ := x_ihd hI ht8
                            obtain ⟨kk_158, hk_159⟩ := pl_at ht8.1 hs_153
                            exact va_instNo hx hb hown (hts (.classLink RX11 66 "PageOne$Story") (by decide +kernel)) hXN.n_X3_X10 (va_recv hK hP (ci := 3) (q0 := kk_158) rfl hk_159) dX11_piece_112 hgo
                          ·
                            obtain ⟨nu_160, kd_161, cn_162, pa_163, fa_164, o_165, y_166, hs_167, hs_168, hs_169, hs_170, hq_171⟩ := x_ino hI ht8
                            obtain ⟨kk_172, hk_173⟩ := pl_at ht8.1 hs_167
                            exact va_instNo hx hb hown (hts (.classLink RX11 66 "PageOne$Story") (by decide +kernel)) hXN.n_X5_X10 (va_recv hK hP (ci := 4) (q0 := kk_172) rfl hk_173) dX11_piece_112 hgo
                          ·
                            obtain ⟨nu_174, kd_175, cn_176, pa_177, fa_178, b_179, pr_180, sp_181, dy_182, hs_183, hs_184, hs_185, hs_186, hq_187, hq_188, hq_189⟩ := x_ipd hI ht8
                            obtain ⟨kk_190, hk_191⟩ := pl_at ht8.1 hs_183
                            exact va_instNo hx hb hown (hts (.classLink RX11 66 "PageOne$Story") (by decide +kernel)) hXN.n_X6_X10 (va_recv hK hP (ci := 5) (q0 := kk_190) rfl hk_191) dX11_piece_112 hgo
                          ·
                            obtain ⟨nu_192, kd_193, cn_194, pa_195, fa_196, ww_197, hh_198, sz_199, hs_200, hs_201, hs_202, hs_203, hq_204, hq_205, hq_206⟩ := x_ipi hI ht8
                            obtain ⟨kk_207, hk_208⟩ := pl_at ht8.1 hs_200
                            exact va_instNo hx hb hown (hts (.classLink RX11 66 "PageOne$Story") (by decide +kernel)) hXN.n_X7_X10 (va_recv hK hP (ci := 6) (q0 := kk_207) rfl hk_208) dX11_piece_112 hgo
                          ·
                            exact absurd ht8 ht9
                        ·
                          refine lv_if_eq (tgt := 134) hx hb dX11_piece_115 (by decide) (fun c_209 => ?_) (fun c_209 => absurd (by decide) c_209)
                          refine lv_iconst (v := 0) hx hb dX11_piece_134 (by decide) ?_
                          exact W.iret (v := 0) hx hb hr (fun t ht hW => ⟨_, rfl, trivial, ht⟩) (fun q h => absurd h List.not_mem_nil) dX11_piece_135
                    ·
                      rcases Classical.em (p2 = 6) with s_210 | s_210
                      ·
                        subst s_210
                        refine lv_tableIn (tgt := 136) (off := 97) hx hb dX11_piece_39 (by decide) (by decide) (by decide) (by decide) ?_
                        refine lv_aload hx hb dX11_piece_136 (lv_at hl 1 rfl) ?_
                        rcases Classical.em (tg z b_3 15) with ht9 | ht9
                        ·
                          have ht_211 := ht9
                          obtain ⟨nu_213, kd_214, cn_215, pa_216, fa_217, l_218, co_219, wd_220, nm_221, hs_222, hs_223, hs_224, hs_225, hq_226, hq_227, hq_228⟩ := x_ist hI ht_211
                          obtain ⟨kk_229, hk_230⟩ := pl_at ht_211.1 hs_222
                          refine va_instS hx hb hown (hts (.classLink RX11 66 "PageOne$Story") (by decide +kernel)) (hK.1 9 (RX10, TX10, 9) rfl).2 (va_recv hK hP (ci := 9) (q0 := kk_229) rfl hk_230) dX11_piece_138 ?_
                          refine lv_if_eq (tgt := 160) hx hb dX11_piece_141 (by decide) (fun c_231 => absurd c_231 (by decide)) (fun c_231 => ?_)
                          refine lv_aload hx hb dX11_piece_144 (lv_at hl 1 rfl) ?_
                          obtain ⟨kk_232, hk_233⟩ := pl_at ht_211.1 hs_222
                          refine va_castS hx hb hown (hts (.classLink RX11 66 "PageOne$Story") (by decide +kernel)) (hK.1 9 (RX10, TX10, 9) rfl).2 (va_recv hK hP (ci := 9) (q0 := kk_232) rfl hk_233) dX11_piece_146 ?_
                          refine lv_astore (lv' := [(6, .ref b_3), (5, .ref b_32), (4, .ref b_3), (0, .ref h0), (1, .int p0), (2, .int p1), (3, .int 6)]) hx hb dX11_piece_149 hl (by decide) rfl (fun ls hl => ?_)
                          refine lv_aload hx hb dX11_piece_151 (lv_at hl 0 rfl) ?_
                          refine lv_iload_n hx hb dX11_piece_153 rfl (lv_at hl 5 rfl) ?_
                          obtain ⟨kk_234, hk_235⟩ := pl_at ht_211.1 hs_222
                          refine vp_callSi (va_runV (As := [.int p1]) (rest := []) ⟨hx, hb, hml, hown, hts⟩ (x_takenBy l dC dI q h0 d k z f hI b_3 p1 ht_211) (cwV 1 hts gX11_piece_X10_takenBy rfl rfl rfl (by decide +kernel) ⟨Nat.le_of_ble_eq_true rfl, Nat.le_of_ble_eq_true rfl⟩) ⟨px_fb, va_recv hK hP (ci := 9) (q0 := kk_234) rfl hk_235, fun U hU hW => ⟨rfl, px_to hU hW hP hK hN hXN⟩⟩ rfl rfl hl.1 rfl (lv_room (Nat.le_of_ble_eq_true rfl)) dX11_piece_154 ⟨Nat.le_of_ble_eq_true rfl, Nat.le_of_ble_eq_true rfl⟩).run (fun r hw => ?_)
                          generalize r = zr_236 at hw ⊢
                          have hzr_236 := hw
                          refine lv_goto (tgt := 161) hx hb dX11_piece_157 (by decide) ?_
                          exact W.iret (v := zr_236) hx hb hr (fun t ht hW => ⟨_, rfl, trivial, ht⟩) (fun q h => absurd h List.not_mem_nil) dX11_piece_161
                        ·
                          have hn_212 := ht9
                          refine w_then (F0 m 141 ls [.int 0]) (fun hgo => ?_) ?_
                          ·
                            rcases x_tag ht_4 with ht8 | ht8 | ht8 | ht8 | ht8 | ht8
                            ·
                              obtain ⟨nu_237, kd_238, cn_239, pa_240, fa_241, l_242, m_243, hs_244, hs_245, hs_246, hs_247⟩ := x_ifl hI ht8
                              obtain ⟨kk_248, hk_249⟩ := pl_at ht8.1 hs_244
                              exact va_instNo hx hb hown (hts (.classLink RX11 66 "PageOne$Story") (by decide +kernel)) hXN.n_X2_X10 (va_recv hK hP (ci := 2) (q0 := kk_248) rfl hk_249) dX11_piece_138 hgo
                            ·
                              obtain ⟨nu_250, kd_251, cn_252, pa_253, fa_254, o_255, w_256, y_257, hs_258, hs_259, hs_260, hs_261, hq_262⟩ := x_ihd hI ht8
                              obtain ⟨kk_263, hk_264⟩ := pl_at ht8.1 hs_258
                              exact va_instNo hx hb hown (hts (.classLink RX11 66 "PageOne$Story") (by decide +kernel)) hXN.n_X3_X10 (va_recv hK hP (ci := 3) (q0 := kk_263) rfl hk_264) dX11_piece_138 hgo
                            ·
                              obtain ⟨nu_265, kd_266, cn_267, pa_268, fa_269, o_270, y_271, hs_272, hs_273, hs_274, hs_275, hq_276⟩ := x_ino hI ht8
                              obtain ⟨kk_277, hk_278⟩ := pl_at ht8.1 hs_272
                              exact va_instNo hx hb hown (hts (.classLink RX11 66 "PageOne$Story") (by decide +kernel)) hXN.n_X5_X10 (va_recv hK hP (ci := 4) (q0 := kk_277) rfl hk_278) dX11_piece_138 hgo
                            ·
                              obtain ⟨nu_279, kd_280, cn_281, pa_282, fa_283, b_284, pr_285, sp_286, dy_287, hs_288, hs_289, hs_290, hs_291, hq_292, hq_293, hq_294⟩ := x_ipd hI ht8
                              obtain ⟨kk_295, hk_296⟩ := pl_at ht8.1 hs_288
                              exact va_instNo hx hb hown (hts (.classLink RX11 66 "PageOne$Story") (by decide +kernel)) hXN.n_X6_X10 (va_recv hK hP (ci := 5) (q0 := kk_295) rfl hk_296) dX11_piece_138 hgo
                            ·
                              obtain ⟨nu_297, kd_298, cn_299, pa_300, fa_301, ww_302, hh_303, sz_304, hs_305, hs_306, hs_307, hs_308, hq_309, hq_310, hq_311⟩ := x_ipi hI ht8
                              obtain ⟨kk_312, hk_313⟩ := pl_at ht8.1 hs_305
                              exact va_instNo hx hb hown (hts (.classLink RX11 66 "PageOne$Story") (by decide +kernel)) hXN.n_X7_X10 (va_recv hK hP (ci := 6) (q0 := kk_312) rfl hk_313) dX11_piece_138 hgo
                            ·
                              exact absurd ht8 ht9
                          ·
                            refine lv_if_eq (tgt := 160) hx hb dX11_piece_141 (by decide) (fun c_314 => ?_) (fun c_314 => absurd (by decide) c_314)
                            refine lv_iconst (v := 0) hx hb dX11_piece_160 (by decide) ?_
                            exact W.iret (v := 0) hx hb hr (fun t ht hW => ⟨_, rfl, trivial, ht⟩) (fun q h => absurd h List.not_mem_nil) dX11_piece_161
                      ·
                        refine lv_tableOut (tgt := 162) hx hb dX11_piece_39 (sw_out6 s_35 s_49 s_63 s_77 s_91 s_105 s_210) (by decide) ?_
                        refine lv_iconst (v := (-1)) hx hb dX11_piece_162 (by decide) ?_
                        exact W.iret (v := (-1)) hx hb hr (fun t ht hW => ⟨_, rfl, trivial, ht⟩) (fun q h => absurd h List.not_mem_nil) dX11_piece_163
      ·
        obtain rfl : r = 0 := b_f hw b_18
        refine lv_if_ne (tgt := 29) hx hb dX11_piece_24 (by decide) (fun c_315 => absurd (by decide) c_315) (fun c_315 => ?_)
        refine lv_iconst (v := (-1)) hx hb dX11_piece_27 (by decide) ?_
        exact W.iret (v := (-1)) hx hb hr (fun t ht hW => ⟨_, rfl, trivial, ht⟩) (fun q h => absurd h List.not_mem_nil) dX11_piece_28
