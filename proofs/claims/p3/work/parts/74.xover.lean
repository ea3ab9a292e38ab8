set_option maxHeartbeats 4000000 in
set_option maxRecDepth 100000 in
theorem x_over_l {p : Program} {l : Launch} {e : Env} {R : Room} {s : State} {m : MethodId} {args : Array Value} {below : List Frame} {meth : Method} {c : Code} {Q : State → Prop} {cells slots : Nat} {dC : Nat → ClassId} {dI : Nat → Nat → Nat} {q : Nat → ClassId} {h0 : Nat} {d : Nat → Nat} {k : Nat → Int32} {z : gS} {f : xF} {H : Heap} {locs : List Loc} (hI : xI q h0 d k z f) (hx : p.tables.exec = Jvm.exec) (hb : c.code = cX11_standsOverStory) (hml : c.maxLocals = 4) (hts : ∀ w ∈ wsX11_standsOverStory, w.before args s = true) (hown : s.vm.findClass RX11 = some m.cls) (hN : NN s) (hXN : XN s) (hK : va_K (dC, dI) vwCl (xT q) s) (hRf : 3 ≤ R.frames) (hRl : 64 ≤ R.locals) (hRc : cells ≤ R.cells) (hRs : slots ≤ R.slots) (hP : va_P (dC, dI) vwCl (va_pl z.1 f) H) {c0 b0 : Nat} {it : Option Nat} {P : Int32} {X9 Y9 D9 N9 : Nat} (hc0 : tg z c0 11) (hpc : pcS z b0 it P (nI X9) (nI Y9) (nI D9) (nI N9)) (hX9 : X9 ≤ 7) (hD9 : D9 ≤ 8) (kx69 : ∀ (ls : Array Slot), lv_has ls 4 [(0, .ref h0), (1, .ref c0), (2, .ref b0)] → W p l e R s m args below meth c H locs cells slots Q (F0 m 69 ls [])) (kx61 : ∀ (ls : Array Slot), lv_has ls 4 [(0, .ref h0), (1, .ref c0), (2, .ref b0)] → W p l e R s m args below meth c H locs cells slots Q (F0 m 61 ls [])) : ∀ (kk i : Nat) (ls : Array Slot), i ≤ D9 → D9 - i < kk → lv_has ls 4 [(3, .int (nI (X9 + i))), (0, .ref h0), (1, .ref c0), (2, .ref b0)] → W p l e R s m args below meth c H locs cells slots Q (F0 m 16 ls []) := by
  intro kk
  induction kk with
  | zero => intro i ls h1 h2; exact absurd h2 (Nat.not_lt_zero _)
  | succ kk ih =>
    intro i ls hi hkk hl
    refine lv_iload_n hx hb dX11_standsOverStory_16 rfl (lv_at hl 0 rfl) ?_
    refine lv_aload_n hx hb dX11_standsOverStory_17 rfl (lv_at hl 3 rfl) ?_
    obtain ⟨kk_1, hk_2⟩ := pl_at hpc.1.1 (x_pcF hI hpc)
    refine va_get (D := (dC, dI)) (ci := 7) (v := .int (nI X9)) (C := RX8) (T := TX8) (N := 6) hx hb hts (by decide +kernel) hown hK hP kk_1 hk_2 rfl 2 (by decide) (hts (.fieldLink RX11 232 "PageOne$Piece" "column" "I") (by decide +kernel)) (fun _ h9 => h9) rfl dX11_standsOverStory_18 ?_
    refine lv_aload_n hx hb dX11_standsOverStory_21 rfl (lv_at hl 3 rfl) ?_
    obtain ⟨kk_3, hk_4⟩ := pl_at hpc.1.1 (x_pcF hI hpc)
    refine va_get (D := (dC, dI)) (ci := 7) (v := .int (nI D9)) (C := RX8) (T := TX8) (N := 6) hx hb hts (by decide +kernel) hown hK hP kk_3 hk_4 rfl 4 (by decide) (hts (.fieldLink RX11 238 "PageOne$Piece" "w" "I") (by decide +kernel)) (fun _ h9 => h9) rfl dX11_standsOverStory_22 ?_
    refine lv_iadd hx hb dX11_standsOverStory_25 ?_
    refine lv_icmp_ge (tgt := 69) hx hb dX11_standsOverStory_26 (by decide) (fun c_5 => ?_) (fun c_5 => ?_)
    ·
      have hie : i = D9 := by have := lp_eq (nI_add X9 D9) (by omega) (by omega) c_5; omega
      exact kx69 ls (lv_sub hl [1, 2, 3] rfl)
    ·
      have hlt : i < D9 := by have := lp_lt (nI_add X9 D9) (by omega) (by omega) c_5; omega
      refine lv_aload_n hx hb dX11_standsOverStory_29 rfl (lv_at hl 1 rfl) ?_
      obtain ⟨kk_6, hk_7⟩ := pl_at hI.2.1.1.1 hI.2.2.2.1.1
      refine va_get (D := (dC, dI)) (ci := 10) (v := .ref (d 0)) (C := RX11) (T := TX11) (N := 9) hx hb hts (by decide +kernel) hown hK hP kk_6 hk_7 rfl 0 (by decide) (hts (.fieldLink RX11 11 "PageOne" "pages" "[LPageOne$Sheet;") (by decide +kernel)) (fun _ h9 => h9) rfl dX11_standsOverStory_30 ?_
      refine lv_aload_n hx hb dX11_standsOverStory_33 rfl (lv_at hl 3 rfl) ?_
      obtain ⟨kk_8, hk_9⟩ := pl_at hpc.1.1 (x_pcF hI hpc)
      refine va_get (D := (dC, dI)) (ci := 7) (v := .int P) (C := RX8) (T := TX8) (N := 6) hx hb hts (by decide +kernel) hown hK hP kk_8 hk_9 rfl 1 (by decide) (hts (.fieldLink RX11 229 "PageOne$Piece" "page" "I") (by decide +kernel)) (fun _ h9 => h9) rfl dX11_standsOverStory_34 ?_
      obtain ⟨g_10, hs_11, hg_12⟩ := x_pg hI hI.2.1.2.1
      obtain ⟨kk_13, hk_14⟩ := pl_at hI.2.1.2.1.1 hs_11
      refine va_aldq hx hb hK hP kk_13 2 hk_14 rfl (vin (x_pcB hI hpc).1 (by decide)) dX11_standsOverStory_37 ?_
      obtain ⟨b_15, hg_16, ht_17⟩ := hg_12 _ (vlt (vin (x_pcB hI hpc).1 (by decide)))
      rw [hg_16]
      refine W.eq (g2 := F0 m 38 ls [.ref b_15]) rfl ?_
      refine lv_iload_n hx hb dX11_standsOverStory_38 rfl (lv_at hl 0 rfl) ?_
      refine lv_aload_n hx hb dX11_standsOverStory_39 rfl (lv_at hl 3 rfl) ?_
      obtain ⟨kk_18, hk_19⟩ := pl_at hpc.1.1 (x_pcF hI hpc)
      refine va_get (D := (dC, dI)) (ci := 7) (v := .int (nI Y9)) (C := RX8) (T := TX8) (N := 6) hx hb hts (by decide +kernel) hown hK hP kk_18 hk_19 rfl 3 (by decide) (hts (.fieldLink RX11 235 "PageOne$Piece" "line" "I") (by decide +kernel)) (fun _ h9 => h9) rfl dX11_standsOverStory_40 ?_
      refine lv_aload_n hx hb dX11_standsOverStory_43 rfl (lv_at hl 3 rfl) ?_
      obtain ⟨kk_20, hk_21⟩ := pl_at hpc.1.1 (x_pcF hI hpc)
      refine va_get (D := (dC, dI)) (ci := 7) (v := .int (nI N9)) (C := RX8) (T := TX8) (N := 6) hx hb hts (by decide +kernel) hown hK hP kk_20 hk_21 rfl 5 (by decide) (hts (.fieldLink RX11 241 "PageOne$Piece" "h" "I") (by decide +kernel)) (fun _ h9 => h9) rfl dX11_standsOverStory_44 ?_
      refine lv_iadd hx hb dX11_standsOverStory_47 ?_
      obtain ⟨la_22, ca_23, m_24, dd_25, ii_26, hs_27, ht_28, ht_29⟩ := x_sh hI ht_17
      obtain ⟨kk_30, hk_31⟩ := pl_at ht_17.1 hs_27
      refine vp_callSi (va_runV (As := [.int (nI (X9 + i)), .int ((nI Y9) + (nI N9))]) (rest := []) ⟨hx, hb, hml, hown, hts⟩ (x_at l dC dI q h0 d k z f hI b_15 (nI (X9 + i)) ((nI Y9) + (nI N9)) ht_17) (cwV 2 hts gX11_standsOverStory_X9_at rfl rfl rfl (by decide +kernel) ⟨Nat.le_trans (Nat.le_of_ble_eq_true rfl) hRf, Nat.le_trans (Nat.le_of_ble_eq_true rfl) hRl⟩) ⟨px_fb, va_recv hK hP (ci := 8) (q0 := kk_30) rfl hk_31, fun U hU hW => ⟨rfl, px_to hU hW hP hK hN hXN⟩⟩ rfl rfl hl.1 rfl (lv_room (Nat.le_of_ble_eq_true rfl)) dX11_standsOverStory_48 ⟨hRc, hRs⟩).run (fun r hw => ?_)
      generalize r = zr_32 at hw ⊢
      have hzr_32 := hw
      refine lv_aload_n hx hb dX11_standsOverStory_51 rfl (lv_at hl 2 rfl) ?_
      obtain ⟨nu_33, kd_34, cn_35, pa_36, fa_37, o_38, w_39, y_40, hs_41, hs_42, hs_43, hs_44, hq_45⟩ := x_ihd hI hc0
      obtain ⟨kk_46, hk_47⟩ := pl_at hc0.1 hs_41
      refine va_get (D := (dC, dI)) (ci := 3) (v := .ref o_38) (C := RX3) (T := TX3) (N := 8) hx hb hts (by decide +kernel) hown hK hP kk_46 hk_47 rfl 5 (by decide) (hts (.fieldLink RX11 292 "PageOne$Head" "owner" "LPageOne$Story;") (by decide +kernel)) (fun _ h9 => h9) rfl dX11_standsOverStory_52 ?_
      obtain ⟨nu_48, kd_49, cn_50, pa_51, fa_52, l_53, co_54, wd_55, nm_56, hs_57, hs_58, hs_59, hs_60, hq_61, hq_62, hq_63⟩ := x_ist hI hq_45
      obtain ⟨kk_64, hk_65⟩ := pl_at hq_45.1 hs_57
      refine va_get (D := (dC, dI)) (ci := 9) (v := .int nu_48) (C := RX10) (T := TX10) (N := 9) hx hb hts (by decide +kernel) hown hK hP kk_64 hk_65 rfl 0 (by decide) (hts (.fieldLink RX11 296 "PageOne$Story" "number" "I") (by decide +kernel)) (fun x9 h9 => u_same (hts (.sameField "PageOne$Story" "PageOne$Item" "number" "I") (by decide +kernel)) x9 h9) rfl dX11_standsOverStory_55 ?_
      refine lv_icmp_ne (tgt := 63) hx hb dX11_standsOverStory_58 (by decide) (fun c_66 => ?_) (fun c_66 => ?_)
      ·
        refine lv_iinc (v := (nI (X9 + i + 1))) (lv' := [(3, .int (nI (X9 + i + 1))), (0, .ref h0), (1, .ref c0), (2, .ref b0)]) hx hb dX11_standsOverStory_63 hl (k := 0) rfl (nI_1 _) (by decide) rfl (fun ls hl => ?_)
        refine lv_goto (tgt := 16) hx hb dX11_standsOverStory_66 (by decide) ?_
        exact ih (i + 1) ls (by omega) (by omega) (lv_sub hl [0, 1, 2, 3] rfl)
      ·
        exact kx61 ls (lv_sub hl [1, 2, 3] rfl)
set_option maxHeartbeats 4000000 in
set_option maxRecDepth 100000 in
theorem x_standsOverStory (l : Launch) (dC : Nat → ClassId) (dI : Nat → Nat → Nat) (q : Nat → ClassId) (h0 : Nat) (d : Nat → Nat) (k : Nat → Int32) (z : gS) (f : xF) (hI : xI q h0 d k z f) (c0 : Nat) (hc0 : tg z c0 11) : Met l yX11_standsOverStory wsX11_standsOverStory ({ frames := 3, cells := 0, slots := 0, locals := 64 }) (va_Pc [.ref h0, .ref c0] (PX dC dI (va_pl z.1 f) (xT q))) (vp_Si (fun r => r = 0 ∨ r = 1)) 0 0 (fun _ => False) := by
  refine Met.ofW (cc := cX11_standsOverStory) (maxL := 4) (ret := (some .boolean)) (by decide) rfl ?_
  intro p e s m args below meth c s₁ B hml hv
  obtain ⟨rfl, ⟨hP, hK, hN⟩, hXN⟩ := hv
  have hx := B.exec
  have hb := B.bytes
  have hr := B.returns
  have hts := atoms_spec (ws := wsX11_standsOverStory) B.pre
  have hown : s.vm.findClass RX11 = some m.cls := findClass_of_methodNamed B.named
  have hlocks := B.notSynchronized
  have hl := lv_entry ([.ref h0, .ref c0]) (n := 4) (Nat.le_of_ble_eq_true rfl)
  rw [lg_entry_eq]
  generalize (lg_sl ([.ref h0, .ref c0]) ++ List.replicate (4 - (lg_sl ([.ref h0, .ref c0])).length) Slot.unset).toArray = ls at hl ⊢
  have hl : lv_has ls 4 [(0, .ref h0), (1, .ref c0)] := hl
  refine lv_aload_n hx hb dX11_standsOverStory_0 rfl (lv_at hl 1 rfl) ?_
  obtain ⟨nu_1, kd_2, cn_3, pa_4, fa_5, o_6, w_7, y_8, hs_9, hs_10, hs_11, hs_12, hq_13⟩ := x_ihd hI hc0
  obtain ⟨kk_14, hk_15⟩ := pl_at hc0.1 hs_9
  refine va_csq (va_runU (As := []) (rest := []) ⟨hx, hb, hml, hown, hts⟩ (x_lastPiece l dC dI q h0 d k z f hI c0 (tg_itm hc0 (by decide))) (va_cwU 0 hts gX11_standsOverStory_X4_lastPiece_u371X3 rfl rfl rfl rfl (by decide +kernel) ⟨Nat.le_of_ble_eq_true rfl, Nat.le_of_ble_eq_true rfl⟩) ⟨px_fb, va_recv hK hP (ci := 3) (q0 := kk_14) rfl hk_15, fun U hU hW => ⟨rfl, px_to hU hW hP hK hN hXN⟩⟩ rfl rfl hl.1 rfl (lv_room (Nat.le_of_ble_eq_true rfl)) dX11_standsOverStory_1 ⟨Nat.le_of_ble_eq_true rfl, Nat.le_of_ble_eq_true rfl⟩).run (fun r hw => ?_)
  rcases r with _ | b_16
  ·
    refine W.eq (g2 := F0 m 4 ls [.null]) rfl ?_
    refine lv_astore_nN (lv' := [(2, .null), (0, .ref h0), (1, .ref c0)]) hx hb dX11_standsOverStory_4 rfl hl (by decide) rfl (fun ls hl => ?_)
    refine lv_aload_nN hx hb dX11_standsOverStory_5 rfl (lv_at hl 0 rfl) ?_
    refine lv_ifnonnullN hx hb dX11_standsOverStory_6 ?_
    refine lv_iconst (v := 0) hx hb dX11_standsOverStory_9 (by decide) ?_
    exact W.zret (v := 0) hx hb hr (by decide) (fun t ht hW => ⟨_, rfl, (by decide), ht⟩) (fun q h => absurd h List.not_mem_nil) dX11_standsOverStory_10
  ·
    have ht_17 := hw b_16 rfl
    refine W.eq (g2 := F0 m 4 ls [.ref b_16]) rfl ?_
    refine lv_astore_n (lv' := [(2, .ref b_16), (0, .ref h0), (1, .ref c0)]) hx hb dX11_standsOverStory_4 rfl hl (by decide) rfl (fun ls hl => ?_)
    refine lv_aload_n hx hb dX11_standsOverStory_5 rfl (lv_at hl 0 rfl) ?_
    refine lv_ifnonnull (tgt := 11) hx hb dX11_standsOverStory_6 (by decide) ?_
    refine lv_aload_n hx hb dX11_standsOverStory_11 rfl (lv_at hl 0 rfl) ?_
    have hcp := ht_17
    obtain ⟨it_18, P_19, X_20, Y_21, D_22, N_23, hp_24, hb_25, hb_26, hb_27, hb_28⟩ := hcp
    obtain ⟨kk_29, hk_30⟩ := pl_at hp_24.1.1 (x_pcF hI hp_24)
    refine va_get (D := (dC, dI)) (ci := 7) (v := .int X_20) (C := RX8) (T := TX8) (N := 6) hx hb hts (by decide +kernel) hown hK hP kk_29 hk_30 rfl 2 (by decide) (hts (.fieldLink RX11 232 "PageOne$Piece" "column" "I") (by decide +kernel)) (fun _ h9 => h9) rfl dX11_standsOverStory_12 ?_
    refine lv_istore_n (lv' := [(3, .int X_20), (2, .ref b_16), (0, .ref h0), (1, .ref c0)]) hx hb dX11_standsOverStory_15 rfl hl (by decide) rfl (fun ls hl => ?_)
    obtain ⟨X9, hX9, -, eX9⟩ := exN hb_25 (by decide)
    subst eX9
    obtain ⟨Y9, hY9, -, eY9⟩ := exN hb_26 (by decide)
    subst eY9
    obtain ⟨D9, hD9, -, eD9⟩ := exN hb_27 (by decide)
    subst eD9
    obtain ⟨N9, hN9, -, eN9⟩ := exN hb_28 (by decide)
    subst eN9
    have h7 : (7 : Int32).toInt = 7 := rfl
    have h8 : (8 : Int32).toInt = 8 := rfl
    refine x_over_l (X9 := X9) (Y9 := Y9) (D9 := D9) (N9 := N9) hI hx hb hml hts hown hN hXN hK (Nat.le_of_ble_eq_true rfl) (Nat.le_of_ble_eq_true rfl) (Nat.le_of_ble_eq_true rfl) (Nat.le_of_ble_eq_true rfl) hP hc0 hp_24 (by omega) (by omega) (fun ls hl => ?_) (fun ls hl => ?_) (D9 + 1) 0 ls (Nat.zero_le _) (by omega) (lv_sub hl [0, 2, 3, 1] rfl)
    ·
      refine lv_iconst (v := 0) hx hb dX11_standsOverStory_69 (by decide) ?_
      exact W.zret (v := 0) hx hb hr (by decide) (fun t ht hW => ⟨_, rfl, (by decide), ht⟩) (fun q h => absurd h List.not_mem_nil) dX11_standsOverStory_70
    ·
      refine lv_iconst (v := 1) hx hb dX11_standsOverStory_61 (by decide) ?_
      exact W.zret (v := 1) hx hb hr (by decide) (fun t ht hW => ⟨_, rfl, (by decide), ht⟩) (fun q h => absurd h List.not_mem_nil) dX11_standsOverStory_62
set_option maxHeartbeats 4000000 in
set_option maxRecDepth 100000 in
theorem x_failsAlone (l : Launch) (dC : Nat → ClassId) (dI : Nat → Nat → Nat) (q : Nat → ClassId) (h0 : Nat) (d : Nat → Nat) (k : Nat → Int32) (z : gS) (f : xF) (hI : xI q h0 d k z f) (c0 : Nat) (p0 : Int32) (hc0 : itm z c0) : Met l yX11_failsAlone wsX11_failsAlone ({ frames := 4, cells := 0, slots := 0, locals := 87 }) (va_Pc [.ref h0, .ref c0, .int p0] (PX dC dI (va_pl z.1 f) (xT q))) (vp_Si (fun r => r = 0 ∨ r = 1)) 0 0 (fun _ => False) := by
  refine Met.ofW (cc := cX11_failsAlone) (maxL := 4) (ret := (some .boolean)) (by decide) rfl ?_
  intro p e s m args below meth c s₁ B hml hv
  obtain ⟨rfl, ⟨hP, hK, hN⟩, hXN⟩ := hv
  have hx := B.exec
  have hb := B.bytes
  have hr := B.returns
  have hts := atoms_spec (ws := wsX11_failsAlone) B.pre
  have hown : s.vm.findClass RX11 = some m.cls := findClass_of_methodNamed B.named
  have hlocks := B.notSynchronized
  have hl := lv_entry ([.ref h0, .ref c0, .int p0]) (n := 4) (Nat.le_of_ble_eq_true rfl)
  rw [lg_entry_eq]
  generalize (lg_sl ([.ref h0, .ref c0, .int p0]) ++ List.replicate (4 - (lg_sl ([.ref h0, .ref c0, .int p0])).length) Slot.unset).toArray = ls at hl ⊢
  have hl : lv_has ls 4 [(0, .ref h0), (1, .ref c0), (2, .int p0)] := hl
  refine lv_iload_n hx hb dX11_failsAlone_0 rfl (lv_at hl 2 rfl) ?_
  refine lv_iconst (v := 4) hx hb dX11_failsAlone_1 (by decide) ?_
  refine lv_icmp_ne (tgt := 34) hx hb dX11_failsAlone_2 (by decide) (fun c_1 => ?_) (fun c_1 => ?_)
  ·
    refine lv_aload_n hx hb dX11_failsAlone_34 rfl (lv_at hl 1 rfl) ?_
    rcases Classical.em (tg z c0 11) with ht9 | ht9
    ·
      have ht_2 := ht9
      obtain ⟨nu_4, kd_5, cn_6, pa_7, fa_8, o_9, w_10, y_11, hs_12, hs_13, hs_14, hs_15, hq_16⟩ := x_ihd hI ht_2
      obtain ⟨kk_17, hk_18⟩ := pl_at ht_2.1 hs_12
      refine va_instS hx hb hown (hts (.classLink RX11 83 "PageOne$Head") (by decide +kernel)) (hK.1 3 (RX3, TX3, 8) rfl).2 (va_recv hK hP (ci := 3) (q0 := kk_17) rfl hk_18) dX11_failsAlone_35 ?_
      refine lv_if_eq (tgt := 58) hx hb dX11_failsAlone_38 (by decide) (fun c_19 => absurd c_19 (by decide)) (fun c_19 => ?_)
      refine lv_aload_n hx hb dX11_failsAlone_41 rfl (lv_at hl 1 rfl) ?_
      obtain ⟨kk_20, hk_21⟩ := pl_at ht_2.1 hs_12
      refine va_castS hx hb hown (hts (.classLink RX11 83 "PageOne$Head") (by decide +kernel)) (hK.1 3 (RX3, TX3, 8) rfl).2 (va_recv hK hP (ci := 3) (q0 := kk_20) rfl hk_21) dX11_failsAlone_42 ?_
      refine lv_astore_n (lv' := [(3, .ref c0), (0, .ref h0), (1, .ref c0), (2, .int p0)]) hx hb dX11_failsAlone_45 rfl hl (by decide) rfl (fun ls hl => ?_)
      refine lv_aload_n hx hb dX11_failsAlone_46 rfl (lv_at hl 1 rfl) ?_
      refine lv_aload_n hx hb dX11_failsAlone_47 rfl (lv_at hl 0 rfl) ?_
      obtain ⟨kk_22, hk_23⟩ := pl_at hI.2.1.1.1 hI.2.2.2.1.1
      refine vp_callSi (va_runV (As := [.ref c0]) (rest := []) ⟨hx, hb, hml, hown, hts⟩ (x_standsOverStory l dC dI q h0 d k z f hI c0 ht_2) (cwV 1 hts gX11_failsAlone_X11_standsOverStory rfl rfl rfl (by decide +kernel) ⟨Nat.le_of_ble_eq_true rfl, Nat.le_of_ble_eq_true rfl⟩) ⟨px_fb, va_recv hK hP (ci := 10) (q0 := kk_22) rfl hk_23, fun U hU hW => ⟨rfl, px_to hU hW hP hK hN hXN⟩⟩ rfl rfl hl.1 rfl (lv_room (Nat.le_of_ble_eq_true rfl)) dX11_failsAlone_48 ⟨Nat.le_of_ble_eq_true rfl, Nat.le_of_ble_eq_true rfl⟩).run (fun r hw => ?_)
      rcases hw with hw | hw
      ·
        subst hw
        refine lv_if_ne (tgt := 58) hx hb dX11_failsAlone_51 (by decide) (fun c_24 => absurd (by decide) c_24) (fun c_24 => ?_)
        refine lv_iconst (v := 1) hx hb dX11_failsAlone_54 (by decide) ?_
        refine lv_goto (tgt := 59) hx hb dX11_failsAlone_55 (by decide) ?_
        exact W.zret (v := 1) hx hb hr (by decide) (fun t ht hW => ⟨_, rfl, (by decide), ht⟩) (fun q h => absurd h List.not_mem_nil) dX11_failsAlone_59
      ·
        subst hw
        refine lv_if_ne (tgt := 58) hx hb dX11_failsAlone_51 (by decide) (fun c_25 => ?_) (fun c_25 => absurd c_25 (by decide))
        refine lv_iconst (v := 0) hx hb dX11_failsAlone_58 (by decide) ?_
        exact W.zret (v := 0) hx hb hr (by decide) (fun t ht hW => ⟨_, rfl, (by decide), ht⟩) (fun q h => absurd h List.not_mem_nil) dX11_failsAlone_59
    ·
      have hn_3 := ht9
      refine w_then (F0 m 38 ls [.int 0]) (fun hgo => ?_) ?_
      ·
        rcases x_tag hc0 with ht8 | ht8 | ht8 | ht8 | ht8 | ht8
        ·
          obtain ⟨nu_26, kd_27, cn_28, pa_29, fa_30, l_31, m_32, hs_33, hs_34, hs_35, hs_36⟩ := x_ifl hI ht8
          obtain ⟨kk_37, hk_38⟩ := pl_at ht8.1 hs_33
          exact va_instNo hx hb hown (hts (.classLink RX11 83 "PageOne$Head") (by decide +kernel)) hXN.n_X2_X3 (va_recv hK hP (ci := 2) (q0 := kk_37) rfl hk_38) dX11_failsAlone_35 hgo
        ·
          exact absurd ht8 ht9
        ·
          obtain ⟨nu_39, kd_40, cn_41, pa_42, fa_43, o_44, y_45, hs_46, hs_47, hs_48, hs_49, hq_50⟩ := x_ino hI ht8
          obtain ⟨kk_51, hk_52⟩ := pl_at ht8.1 hs_46
          exact va_instNo hx hb hown (hts (.classLink RX11 83 "PageOne$Head") (by decide +kernel)) hXN.n_X5_X3 (va_recv hK hP (ci := 4) (q0 := kk_51) rfl hk_52) dX11_failsAlone_35 hgo
        ·
          obtain ⟨nu_53, kd_54, cn_55, pa_56, fa_57, b_58, pr_59, sp_60, dy_61, hs_62, hs_63, hs_64, hs_65, hq_66, hq_67, hq_68⟩ := x_ipd hI ht8
          obtain ⟨kk_69, hk_70⟩ := pl_at ht8.1 hs_62
          exact va_instNo hx hb hown (hts (.classLink RX11 83 "PageOne$Head") (by decide +kernel)) hXN.n_X6_X3 (va_recv hK hP (ci := 5) (q0 := kk_69) rfl hk_70) dX11_failsAlone_35 hgo
        ·
          obtain ⟨nu_71, kd_72, cn_73, pa_74, fa_75, ww_76, hh_77, sz_78, hs_79, hs_80, hs_81, hs_82, hq_83, hq_84, hq_85⟩ := x_ipi hI ht8
          obtain ⟨kk_86, hk_87⟩ := pl_at ht8.1 hs_79
          exact va_instNo hx hb hown (hts (.classLink RX11 83 "PageOne$Head") (by decide +kernel)) hXN.n_X7_X3 (va_recv hK hP (ci := 6) (q0 := kk_86) rfl hk_87) dX11_failsAlone_35 hgo
        ·
          obtain ⟨nu_88, kd_89, cn_90, pa_91, fa_92, l_93, co_94, wd_95, nm_96, hs_97, hs_98, hs_99, hs_100, hq_101, hq_102, hq_103⟩ := x_ist hI ht8
          obtain ⟨kk_104, hk_105⟩ := pl_at ht8.1 hs_97
          exact va_instNo hx hb hown (hts (.classLink RX11 83 "PageOne$Head") (by decide +kernel)) hXN.n_X10_X3 (va_recv hK hP (ci := 9) (q0 := kk_104) rfl hk_105) dX11_failsAlone_35 hgo
      ·
        refine lv_if_eq (tgt := 58) hx hb dX11_failsAlone_38 (by decide) (fun c_106 => ?_) (fun c_106 => absurd (by decide) c_106)
        refine lv_iconst (v := 0) hx hb dX11_failsAlone_58 (by decide) ?_
        exact W.zret (v := 0) hx hb hr (by decide) (fun t ht hW => ⟨_, rfl, (by decide), ht⟩) (fun q h => absurd h List.not_mem_nil) dX11_failsAlone_59
  ·
    refine lv_aload_n hx hb dX11_failsAlone_5 rfl (lv_at hl 1 rfl) ?_
    rcases Classical.em (tg z c0 15) with ht9 | ht9
    ·
      have ht_107 := ht9
      obtain ⟨nu_109, kd_110, cn_111, pa_112, fa_113, l_114, co_115, wd_116, nm_117, hs_118, hs_119, hs_120, hs_121, hq_122, hq_123, hq_124⟩ := x_ist hI ht_107
      obtain ⟨kk_125, hk_126⟩ := pl_at ht_107.1 hs_118
      refine va_instS hx hb hown (hts (.classLink RX11 66 "PageOne$Story") (by decide +kernel)) (hK.1 9 (RX10, TX10, 9) rfl).2 (va_recv hK hP (ci := 9) (q0 := kk_125) rfl hk_126) dX11_failsAlone_6 ?_
      refine lv_if_eq (tgt := 32) hx hb dX11_failsAlone_9 (by decide) (fun c_127 => absurd c_127 (by decide)) (fun c_127 => ?_)
      refine lv_aload_n hx hb dX11_failsAlone_12 rfl (lv_at hl 1 rfl) ?_
      obtain ⟨kk_128, hk_129⟩ := pl_at ht_107.1 hs_118
      refine va_castS hx hb hown (hts (.classLink RX11 66 "PageOne$Story") (by decide +kernel)) (hK.1 9 (RX10, TX10, 9) rfl).2 (va_recv hK hP (ci := 9) (q0 := kk_128) rfl hk_129) dX11_failsAlone_13 ?_
      refine lv_astore_n (lv' := [(3, .ref c0), (0, .ref h0), (1, .ref c0), (2, .int p0)]) hx hb dX11_failsAlone_16 rfl hl (by decide) rfl (fun ls hl => ?_)
      refine lv_aload_n hx hb dX11_failsAlone_17 rfl (lv_at hl 0 rfl) ?_
      obtain ⟨kk_130, hk_131⟩ := pl_at ht_107.1 hs_118
      refine vp_callSi (va_runV (As := []) (rest := []) ⟨hx, hb, hml, hown, hts⟩ (x_standing l dC dI q h0 d k z f hI c0 ht_107) (cwV 0 hts gX11_failsAlone_X10_standing rfl rfl rfl (by decide +kernel) ⟨Nat.le_of_ble_eq_true rfl, Nat.le_of_ble_eq_true rfl⟩) ⟨px_fb, va_recv hK hP (ci := 9) (q0 := kk_130) rfl hk_131, fun U hU hW => ⟨rfl, px_to hU hW hP hK hN hXN⟩⟩ rfl rfl hl.1 rfl (lv_room (Nat.le_of_ble_eq_true rfl)) dX11_failsAlone_18 ⟨Nat.le_of_ble_eq_true rfl, Nat.le_of_ble_eq_true rfl⟩).run (fun r hw => ?_)
      generalize r = zr_132 at hw ⊢
      have hzr_132 := hw
      refine lv_aload_n hx hb dX11_failsAlone_21 rfl (lv_at hl 0 rfl) ?_
      obtain ⟨kk_133, hk_134⟩ := pl_at ht_107.1 hs_118
      refine va_get (D := (dC, dI)) (ci := 9) (v := .int l_114) (C := RX10) (T := TX10) (N := 9) hx hb hts (by decide +kernel) hown hK hP kk_133 hk_134 rfl 5 (by decide) (hts (.fieldLink RX11 366 "PageOne$Story" "least" "I") (by decide +kernel)) (fun _ h9 => h9) rfl dX11_failsAlone_22 ?_
      refine lv_icmp_ge (tgt := 32) hx hb dX11_failsAlone_25 (by decide) (fun c_135 => ?_) (fun c_135 => ?_)
      ·
        refine lv_iconst (v := 0) hx hb dX11_failsAlone_32 (by decide) ?_
        exact W.zret (v := 0) hx hb hr (by decide) (fun t ht hW => ⟨_, rfl, (by decide), ht⟩) (fun q h => absurd h List.not_mem_nil) dX11_failsAlone_33
      ·
        refine lv_iconst (v := 1) hx hb dX11_failsAlone_28 (by decide) ?_
        refine lv_goto (tgt := 33) hx hb dX11_failsAlone_29 (by decide) ?_
        exact W.zret (v := 1) hx hb hr (by decide) (fun t ht hW => ⟨_, rfl, (by decide), ht⟩) (fun q h => absurd h List.not_mem_nil) dX11_failsAlone_33
    ·
      have hn_108 := ht9
      refine w_then (F0 m 9 ls [.int 0]) (fun hgo => ?_) ?_
      ·
        rcases x_tag hc0 with ht8 | ht8 | ht8 | ht8 | ht8 | ht8
        ·
          obtain ⟨nu_136, kd_137, cn_138, pa_139, fa_140, l_141, m_142, hs_143, hs_144, hs_145, hs_146⟩ := x_ifl hI ht8
          obtain ⟨kk_147, hk_148⟩ := pl_at ht8.1 hs_143
          exact va_instNo hx hb hown (hts (.classLink RX11 66 "PageOne$Story") (by decide +kernel)) hXN.n_X2_X10 (va_recv hK hP (ci := 2) (q0 := kk_147) rfl hk_148) dX11_failsAlone_6 hgo
        ·
          obtain ⟨nu_149, kd_150, cn_151, pa_152, fa_153, o_154, w_155, y_156, hs_157, hs_158, hs_159, hs_160, hq_161⟩ := x_ihd hI ht8
          obtain ⟨kk_162, hk_163⟩ := pl_at ht8.1 hs_157
          exact va_instNo hx hb hown (hts (.classLink RX11 66 "PageOne$Story") (by decide +kernel)) hXN.n_X3_X10 (va_recv hK hP (ci := 3) (q0 := kk_162) rfl hk_163) dX11_failsAlone_6 hgo
        ·
          obtain ⟨nu_164, kd_165, cn_166, pa_167, fa_168, o_169, y_170, hs_171, hs_172, hs_173, hs_174, hq_175⟩ := x_ino hI ht8
          obtain ⟨kk_176, hk_177⟩ := pl_at ht8.1 hs_171
          exact va_instNo hx hb hown (hts (.classLink RX11 66 "PageOne$Story") (by decide +kernel)) hXN.n_X5_X10 (va_recv hK hP (ci := 4) (q0 := kk_176) rfl hk_177) dX11_failsAlone_6 hgo
        ·
          obtain ⟨nu_178, kd_179, cn_180, pa_181, fa_182, b_183, pr_184, sp_185, dy_186, hs_187, hs_188, hs_189, hs_190, hq_191, hq_192, hq_193⟩ := x_ipd hI ht8
          obtain ⟨kk_194, hk_195⟩ := pl_at ht8.1 hs_187
          exact va_instNo hx hb hown (hts (.classLink RX11 66 "PageOne$Story") (by decide +kernel)) hXN.n_X6_X10 (va_recv hK hP (ci := 5) (q0 := kk_194) rfl hk_195) dX11_failsAlone_6 hgo
        ·
          obtain ⟨nu_196, kd_197, cn_198, pa_199, fa_200, ww_201, hh_202, sz_203, hs_204, hs_205, hs_206, hs_207, hq_208, hq_209, hq_210⟩ := x_ipi hI ht8
          obtain ⟨kk_211, hk_212⟩ := pl_at ht8.1 hs_204
          exact va_instNo hx hb hown (hts (.classLink RX11 66 "PageOne$Story") (by decide +kernel)) hXN.n_X7_X10 (va_recv hK hP (ci := 6) (q0 := kk_211) rfl hk_212) dX11_failsAlone_6 hgo
        ·
          exact absurd ht8 ht9
      ·
        refine lv_if_eq (tgt := 32) hx hb dX11_failsAlone_9 (by decide) (fun c_213 => ?_) (fun c_213 => absurd (by decide) c_213)
        refine lv_iconst (v := 0) hx hb dX11_failsAlone_32 (by decide) ?_
        exact W.zret (v := 0) hx hb hr (by decide) (fun t ht hW => ⟨_, rfl, (by decide), ht⟩) (fun q h => absurd h List.not_mem_nil) dX11_failsAlone_33
