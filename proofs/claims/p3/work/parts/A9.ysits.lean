def s_last (cn : Int32) (g : Nat → Option Nat) : Option Nat := if cn ≤ 0 then none else g (cn - 1).toNatClampNeg
theorem clt1 {cn : Int32} {n : Nat} (hn : n ≤ 6) (h : bw cn 0 (nI n) = true) (h2 : ¬ cn ≤ 0) : vp_in (cn - 1) n ∧ (cn - 1).toNatClampNeg < cn.toNatClampNeg := ⟨(bcm1 hn h h2 rfl).2.2, by have := (bcm1 hn h h2 rfl).2.1; omega⟩
set_option maxHeartbeats 4000000 in
set_option maxRecDepth 100000 in
theorem y_lastPiece (l : Launch) (dC : Nat → ClassId) (dI : Nat → Nat → Nat) (q : Nat → ClassId) (h0 : Nat) (d : Nat → Nat) (k : Nat → Int32) (z : gS) (f : xF) (hI : xI q h0 d k z f) (a0 : Nat) (ha0 : itm z a0) (nu kd cn : Int32) (pa fa : Nat) (rs : List Value) (hs : f a0 = .inr (ciT (z.2 a0).1, itF nu kd pa cn fa rs)) (n : Nat) (g : Nat → Option Nat) (Rm : Nat → Nat → Int32) (hpa : tg z pa 16) (hps : f pa = aR (q 5) n g) (h1 : 1 ≤ n) (h6 : n ≤ 6) (hcb : bw cn 0 (nI n) = true) (hpl : pcL z g cn.toNatClampNeg Rm) : Met l yX4_lastPiece wsX4_lastPiece ({ frames := 0, cells := 0, slots := 0, locals := 0 }) (va_Pc [.ref a0] (PX dC dI (va_pl z.1 f) (xT q))) (va_Sq (fun r => r = s_last cn g)) 0 0 (fun _ => False) := by
  refine Met.ofW (cc := cX4_lastPiece) (maxL := 1) (ret := (some (.object "PageOne$Piece"))) (by decide) rfl ?_
  intro p e s m args below meth c s₁ B hml hv
  obtain ⟨rfl, ⟨hP, hK, hN⟩, hXN⟩ := hv
  have hx := B.exec
  have hb := B.bytes
  have hr := B.returns
  have hts := atoms_spec (ws := wsX4_lastPiece) B.pre
  have hown : s.vm.findClass RX4 = some m.cls := findClass_of_methodNamed B.named
  have hlocks := B.notSynchronized
  have hl := lv_entry ([.ref a0]) (n := 1) (Nat.le_of_ble_eq_true rfl)
  rw [lg_entry_eq]
  generalize (lg_sl ([.ref a0]) ++ List.replicate (1 - (lg_sl ([.ref a0])).length) Slot.unset).toArray = ls at hl ⊢
  have hl : lv_has ls 1 [(0, .ref a0)] := hl
  refine lv_aload_n hx hb dX4_lastPiece_0 rfl (lv_at hl 0 rfl) ?_
  obtain ⟨kk_1, hk_2⟩ := pl_at ha0.1 hs
  refine w_then (F0 m 4 ls [.int cn]) (fun hgo => ?_) ?_
  ·
    rcases x_tag ha0 with ht9 | ht9 | ht9 | ht9 | ht9 | ht9
    ·
      rw [ht9.2] at hk_2
      exact va_get (D := (dC, dI)) (ci := 2) (v := .int cn) (C := RX2) (T := TX2) (N := 7) hx hb hts (by decide +kernel) hown hK hP kk_1 hk_2 rfl 3 (by decide) (hts (.fieldLink RX4 9 "PageOne$Item" "count" "I") (by decide +kernel)) (fun _ h9 => h9) rfl dX4_lastPiece_1 hgo
    ·
      rw [ht9.2] at hk_2
      exact va_get (D := (dC, dI)) (ci := 3) (v := .int cn) (C := RX3) (T := TX3) (N := 8) hx hb hts (by decide +kernel) hown hK hP kk_1 hk_2 rfl 3 (by decide) (hts (.fieldLink RX4 9 "PageOne$Item" "count" "I") (by decide +kernel)) (fun _ h9 => h9) rfl dX4_lastPiece_1 hgo
    ·
      rw [ht9.2] at hk_2
      exact va_get (D := (dC, dI)) (ci := 4) (v := .int cn) (C := RX5) (T := TX5) (N := 7) hx hb hts (by decide +kernel) hown hK hP kk_1 hk_2 rfl 3 (by decide) (hts (.fieldLink RX4 9 "PageOne$Item" "count" "I") (by decide +kernel)) (fun _ h9 => h9) rfl dX4_lastPiece_1 hgo
    ·
      rw [ht9.2] at hk_2
      exact va_get (D := (dC, dI)) (ci := 5) (v := .int cn) (C := RX6) (T := TX6) (N := 9) hx hb hts (by decide +kernel) hown hK hP kk_1 hk_2 rfl 3 (by decide) (hts (.fieldLink RX4 9 "PageOne$Item" "count" "I") (by decide +kernel)) (fun _ h9 => h9) rfl dX4_lastPiece_1 hgo
    ·
      rw [ht9.2] at hk_2
      exact va_get (D := (dC, dI)) (ci := 6) (v := .int cn) (C := RX7) (T := TX7) (N := 8) hx hb hts (by decide +kernel) hown hK hP kk_1 hk_2 rfl 3 (by decide) (hts (.fieldLink RX4 9 "PageOne$Item" "count" "I") (by decide +kernel)) (fun _ h9 => h9) rfl dX4_lastPiece_1 hgo
    ·
      rw [ht9.2] at hk_2
      exact va_get (D := (dC, dI)) (ci := 9) (v := .int cn) (C := RX10) (T := TX10) (N := 9) hx hb hts (by decide +kernel) hown hK hP kk_1 hk_2 rfl 3 (by decide) (hts (.fieldLink RX4 9 "PageOne$Item" "count" "I") (by decide +kernel)) (fun _ h9 => h9) rfl dX4_lastPiece_1 hgo
  ·
    refine lv_if_le (tgt := 21) hx hb dX4_lastPiece_4 (by decide) (fun c_3 => ?_) (fun c_3 => ?_)
    ·
      refine lv_null hx hb dX4_lastPiece_21 ?_
      exact W.aret (v := .null) hx hb hr (Or.inl ⟨_, rfl⟩) (Or.inl rfl) (fun t ht hW => ⟨none, rfl, (by unfold s_last; rw [if_pos c_3]), ht⟩) (fun q h => absurd h List.not_mem_nil) dX4_lastPiece_22
    ·
      refine lv_aload_n hx hb dX4_lastPiece_7 rfl (lv_at hl 0 rfl) ?_
      obtain ⟨kk_4, hk_5⟩ := pl_at ha0.1 hs
      refine w_then (F0 m 11 ls [.ref pa]) (fun hgo => ?_) ?_
      ·
        rcases x_tag ha0 with ht9 | ht9 | ht9 | ht9 | ht9 | ht9
        ·
          rw [ht9.2] at hk_5
          exact va_get (D := (dC, dI)) (ci := 2) (v := .ref pa) (C := RX2) (T := TX2) (N := 7) hx hb hts (by decide +kernel) hown hK hP kk_4 hk_5 rfl 2 (by decide) (hts (.fieldLink RX4 31 "PageOne$Item" "pieces" "[LPageOne$Piece;") (by decide +kernel)) (fun _ h9 => h9) rfl dX4_lastPiece_8 hgo
        ·
          rw [ht9.2] at hk_5
          exact va_get (D := (dC, dI)) (ci := 3) (v := .ref pa) (C := RX3) (T := TX3) (N := 8) hx hb hts (by decide +kernel) hown hK hP kk_4 hk_5 rfl 2 (by decide) (hts (.fieldLink RX4 31 "PageOne$Item" "pieces" "[LPageOne$Piece;") (by decide +kernel)) (fun _ h9 => h9) rfl dX4_lastPiece_8 hgo
        ·
          rw [ht9.2] at hk_5
          exact va_get (D := (dC, dI)) (ci := 4) (v := .ref pa) (C := RX5) (T := TX5) (N := 7) hx hb hts (by decide +kernel) hown hK hP kk_4 hk_5 rfl 2 (by decide) (hts (.fieldLink RX4 31 "PageOne$Item" "pieces" "[LPageOne$Piece;") (by decide +kernel)) (fun _ h9 => h9) rfl dX4_lastPiece_8 hgo
        ·
          rw [ht9.2] at hk_5
          exact va_get (D := (dC, dI)) (ci := 5) (v := .ref pa) (C := RX6) (T := TX6) (N := 9) hx hb hts (by decide +kernel) hown hK hP kk_4 hk_5 rfl 2 (by decide) (hts (.fieldLink RX4 31 "PageOne$Item" "pieces" "[LPageOne$Piece;") (by decide +kernel)) (fun _ h9 => h9) rfl dX4_lastPiece_8 hgo
        ·
          rw [ht9.2] at hk_5
          exact va_get (D := (dC, dI)) (ci := 6) (v := .ref pa) (C := RX7) (T := TX7) (N := 8) hx hb hts (by decide +kernel) hown hK hP kk_4 hk_5 rfl 2 (by decide) (hts (.fieldLink RX4 31 "PageOne$Item" "pieces" "[LPageOne$Piece;") (by decide +kernel)) (fun _ h9 => h9) rfl dX4_lastPiece_8 hgo
        ·
          rw [ht9.2] at hk_5
          exact va_get (D := (dC, dI)) (ci := 9) (v := .ref pa) (C := RX10) (T := TX10) (N := 9) hx hb hts (by decide +kernel) hown hK hP kk_4 hk_5 rfl 2 (by decide) (hts (.fieldLink RX4 31 "PageOne$Item" "pieces" "[LPageOne$Piece;") (by decide +kernel)) (fun _ h9 => h9) rfl dX4_lastPiece_8 hgo
      ·
        refine lv_aload_n hx hb dX4_lastPiece_11 rfl (lv_at hl 0 rfl) ?_
        obtain ⟨kk_6, hk_7⟩ := pl_at ha0.1 hs
        refine w_then (F0 m 15 ls [.int cn, .ref pa]) (fun hgo => ?_) ?_
        ·
          rcases x_tag ha0 with ht9 | ht9 | ht9 | ht9 | ht9 | ht9
          ·
            rw [ht9.2] at hk_7
            exact va_get (D := (dC, dI)) (ci := 2) (v := .int cn) (C := RX2) (T := TX2) (N := 7) hx hb hts (by decide +kernel) hown hK hP kk_6 hk_7 rfl 3 (by decide) (hts (.fieldLink RX4 9 "PageOne$Item" "count" "I") (by decide +kernel)) (fun _ h9 => h9) rfl dX4_lastPiece_12 hgo
          ·
            rw [ht9.2] at hk_7
            exact va_get (D := (dC, dI)) (ci := 3) (v := .int cn) (C := RX3) (T := TX3) (N := 8) hx hb hts (by decide +kernel) hown hK hP kk_6 hk_7 rfl 3 (by decide) (hts (.fieldLink RX4 9 "PageOne$Item" "count" "I") (by decide +kernel)) (fun _ h9 => h9) rfl dX4_lastPiece_12 hgo
          ·
            rw [ht9.2] at hk_7
            exact va_get (D := (dC, dI)) (ci := 4) (v := .int cn) (C := RX5) (T := TX5) (N := 7) hx hb hts (by decide +kernel) hown hK hP kk_6 hk_7 rfl 3 (by decide) (hts (.fieldLink RX4 9 "PageOne$Item" "count" "I") (by decide +kernel)) (fun _ h9 => h9) rfl dX4_lastPiece_12 hgo
          ·
            rw [ht9.2] at hk_7
            exact va_get (D := (dC, dI)) (ci := 5) (v := .int cn) (C := RX6) (T := TX6) (N := 9) hx hb hts (by decide +kernel) hown hK hP kk_6 hk_7 rfl 3 (by decide) (hts (.fieldLink RX4 9 "PageOne$Item" "count" "I") (by decide +kernel)) (fun _ h9 => h9) rfl dX4_lastPiece_12 hgo
          ·
            rw [ht9.2] at hk_7
            exact va_get (D := (dC, dI)) (ci := 6) (v := .int cn) (C := RX7) (T := TX7) (N := 8) hx hb hts (by decide +kernel) hown hK hP kk_6 hk_7 rfl 3 (by decide) (hts (.fieldLink RX4 9 "PageOne$Item" "count" "I") (by decide +kernel)) (fun _ h9 => h9) rfl dX4_lastPiece_12 hgo
          ·
            rw [ht9.2] at hk_7
            exact va_get (D := (dC, dI)) (ci := 9) (v := .int cn) (C := RX10) (T := TX10) (N := 9) hx hb hts (by decide +kernel) hown hK hP kk_6 hk_7 rfl 3 (by decide) (hts (.fieldLink RX4 9 "PageOne$Item" "count" "I") (by decide +kernel)) (fun _ h9 => h9) rfl dX4_lastPiece_12 hgo
        ·
          refine lv_iconst (v := 1) hx hb dX4_lastPiece_15 (by decide) ?_
          refine lv_isub hx hb dX4_lastPiece_16 ?_
          obtain ⟨kk_8, hk_9⟩ := pl_at hpa.1 hps
          refine va_aldq hx hb hK hP kk_8 5 hk_9 rfl (clt1 h6 hcb c_3).1 dX4_lastPiece_17 ?_
          obtain ⟨b_10, it_11, hg_12, hp_13, hlg_14⟩ := hpl ((cn - 1) : Int32).toNatClampNeg (clt1 h6 hcb c_3).2
          rw [hg_12]
          refine W.eq (g2 := F0 m 18 ls [.ref b_10]) rfl ?_
          refine lv_goto (tgt := 22) hx hb dX4_lastPiece_18 (by decide) ?_
          exact W.aret (v := .ref b_10) hx hb hr (Or.inl ⟨_, rfl⟩) (Or.inr ⟨_, rfl⟩) (fun t ht hW => ⟨some b_10, rfl, (by unfold s_last; rw [if_neg c_3]; exact hg_12.symm), ht⟩) (fun q h => absurd h List.not_mem_nil) dX4_lastPiece_22
noncomputable def s_sitS (P2 X2 Y2 D2 N2 p0 cn co : Int32) (Rm : Nat → Nat → Int32) (gw : Nat → Int32) : Int32 := if cn ≤ 0 then (bP (s_canT 0 N2 p0 co gw)) else (if P2 = (Rm (cn - 1 : Int32).toNatClampNeg 0) then (if (s_isBehind P2 X2 Y2 D2 N2 (Rm (cn - 1 : Int32).toNatClampNeg 0) (Rm (cn - 1 : Int32).toNatClampNeg 1) (Rm (cn - 1 : Int32).toNatClampNeg 2) (Rm (cn - 1 : Int32).toNatClampNeg 3) (Rm (cn - 1 : Int32).toNatClampNeg 4)) = 0 then 0 else (if 1 ≤ ((s_taken (cn - 1) cn Rm) - 0) then (bP (s_canT ((s_standing cn Rm) - 0) (N2 - 0) p0 co gw)) else 0)) else (if (s_isBehind P2 X2 Y2 D2 N2 (Rm (cn - 1 : Int32).toNatClampNeg 0) (Rm (cn - 1 : Int32).toNatClampNeg 1) (Rm (cn - 1 : Int32).toNatClampNeg 2) (Rm (cn - 1 : Int32).toNatClampNeg 3) (Rm (cn - 1 : Int32).toNatClampNeg 4)) = 0 then 0 else (if 1 ≤ ((s_taken (cn - 1) cn Rm) - 1) then (bP (s_canT ((s_standing cn Rm) - 1) (N2 - 1) p0 co gw)) else 0)))
set_option maxHeartbeats 4000000 in
set_option maxRecDepth 100000 in
theorem y_X10_maySit (l : Launch) (dC : Nat → ClassId) (dI : Nat → Nat → Nat) (q : Nat → ClassId) (h0 : Nat) (d : Nat → Nat) (k : Nat → Int32) (z : gS) (f : xF) (hI : xI q h0 d k z f) (a0 pa fa wd nm : Nat) (nu kd cn lz co : Int32) (ha0 : tg z a0 15) (hs : f a0 = .inr (9, [.int nu, .int kd, .ref pa, .int cn, .ref fa, .int lz, .ref wd, .int co, .ref nm])) (p0 p1 : Int32) (b0 : Nat) (iu : Option Nat) (P2 X2 Y2 D2 N2 : Int32) (hpb : pcS z b0 iu P2 X2 Y2 D2 N2) (n : Nat) (g : Nat → Option Nat) (Rm : Nat → Nat → Int32) (hpa : tg z pa 16) (hps : f pa = aR (q 5) n g) (h1 : 1 ≤ n) (h6 : n ≤ 6) (hcb : bw cn 0 (nI n) = true) (hpl : pcL z g cn.toNatClampNeg Rm) (gw : Nat → Int32) (hwd : tg z wd 18) (hwg : f wd = aI (q 0) 80 gw) (hco : bw co 0 80 = true) : Met l yX10_maySit wsX10_maySit ({ frames := 4, cells := 0, slots := 0, locals := 87 }) (va_Pc [.ref a0, .ref b0, .int p0, .int p1] (PX dC dI (va_pl z.1 f) (xT q))) (vp_Si (fun r => r = s_sitS P2 X2 Y2 D2 N2 p0 cn co Rm gw)) 0 0 (fun _ => False) := by
  refine Met.ofW (cc := cX10_maySit) (maxL := 6) (ret := (some .boolean)) (by decide) rfl ?_
  intro p e s m args below meth c s₁ B hml hv
  obtain ⟨rfl, ⟨hP, hK, hN⟩, hXN⟩ := hv
  have hx := B.exec
  have hb := B.bytes
  have hr := B.returns
  have hts := atoms_spec (ws := wsX10_maySit) B.pre
  have hown : s.vm.findClass RX10 = some m.cls := findClass_of_methodNamed B.named
  have hlocks := B.notSynchronized
  have hl := lv_entry ([.ref a0, .ref b0, .int p0, .int p1]) (n := 6) (Nat.le_of_ble_eq_true rfl)
  rw [lg_entry_eq]
  generalize (lg_sl ([.ref a0, .ref b0, .int p0, .int p1]) ++ List.replicate (6 - (lg_sl ([.ref a0, .ref b0, .int p0, .int p1])).length) Slot.unset).toArray = ls at hl ⊢
  have hl : lv_has ls 6 [(0, .ref a0), (1, .ref b0), (2, .int p0), (3, .int p1)] := hl
  refine lv_aload_n hx hb dX10_maySit_0 rfl (lv_at hl 0 rfl) ?_
  obtain ⟨kk_7, hk_8⟩ := pl_at ha0.1 hs
  refine va_csq (va_runU (As := []) (rest := []) ⟨hx, hb, hml, hown, hts⟩ (y_lastPiece l dC dI q h0 d k z f hI a0 (tg_itm ha0 (by decide)) nu kd cn pa fa [.int lz, .ref wd, .int co, .ref nm] (by rw [hs, ha0.2]; rfl) n g Rm hpa hps h1 h6 hcb hpl) (va_cwU 0 hts gX10_maySit_X4_lastPiece_u30X10 rfl rfl rfl rfl (by decide +kernel) ⟨Nat.le_of_ble_eq_true rfl, Nat.le_of_ble_eq_true rfl⟩) ⟨px_fb, va_recv hK hP (ci := 9) (q0 := kk_7) rfl hk_8, fun U hU hW => ⟨rfl, px_to hU hW hP hK hN hXN⟩⟩ rfl rfl hl.1 rfl (lv_room (Nat.le_of_ble_eq_true rfl)) dX10_maySit_1 ⟨Nat.le_of_ble_eq_true rfl, Nat.le_of_ble_eq_true rfl⟩).run (fun r hw => ?_)
  rcases Classical.em (cn ≤ 0) with hcz_1 | hcz_1
  ·
    obtain rfl : r = none := hw.trans (by unfold s_last; rw [if_pos hcz_1])
    refine W.eq (g2 := F0 m 4 ls [.null]) rfl ?_
    refine lv_astoreN (lv' := [(4, .null), (0, .ref a0), (1, .ref b0), (2, .int p0), (3, .int p1)]) hx hb dX10_maySit_4 hl (by decide) rfl (fun ls hl => ?_)
    refine lv_aloadN hx hb dX10_maySit_6 (lv_at hl 0 rfl) ?_
    refine lv_ifnonnullN hx hb dX10_maySit_8 ?_
    refine lv_aload_n hx hb dX10_maySit_11 rfl (lv_at hl 1 rfl) ?_
    refine lv_iconst (v := 0) hx hb dX10_maySit_12 (by decide) ?_
    refine lv_aload_n hx hb dX10_maySit_13 rfl (lv_at hl 2 rfl) ?_
    obtain ⟨kk_9, hk_10⟩ := pl_at hpb.1.1 (x_pcF hI hpb)
    refine va_get (D := (dC, dI)) (ci := 7) (v := .int N2) (C := RX8) (T := TX8) (N := 6) hx hb hts (by decide +kernel) hown hK hP kk_9 hk_10 rfl 5 (by decide) (hts (.fieldLink RX10 34 "PageOne$Piece" "h" "I") (by decide +kernel)) (fun _ h9 => h9) rfl dX10_maySit_14 ?_
    refine lv_iload_n hx hb dX10_maySit_17 rfl (lv_at hl 3 rfl) ?_
    obtain ⟨kk_11, hk_12⟩ := pl_at ha0.1 hs
    refine vp_callSi (va_runV (As := [.int 0, .int N2, .int p0]) (rest := []) ⟨hx, hb, hml, hown, hts⟩ (y_canTake l dC dI q h0 d k z f hI a0 pa fa wd nm nu kd cn lz co ha0 hs 0 N2 p0 gw hwd hwg hco) (cwV 3 hts gX10_maySit_X10_canTake rfl rfl rfl (by decide +kernel) ⟨Nat.le_of_ble_eq_true rfl, Nat.le_of_ble_eq_true rfl⟩) ⟨px_fb, va_recv hK hP (ci := 9) (q0 := kk_11) rfl hk_12, fun U hU hW => ⟨rfl, px_to hU hW hP hK hN hXN⟩⟩ rfl rfl hl.1 rfl (lv_room (Nat.le_of_ble_eq_true rfl)) dX10_maySit_18 ⟨Nat.le_of_ble_eq_true rfl, Nat.le_of_ble_eq_true rfl⟩).run (fun r hw => ?_)
    obtain rfl : r = (bP (s_canT 0 N2 p0 co gw)) := hw
    exact W.zret (v := (bP (s_canT 0 N2 p0 co gw))) hx hb hr (by first | decide | (rcases bP_01 _ with h | h <;> rw [h] <;> decide)) (fun t ht hW => ⟨_, rfl, (by unfold s_sitS; rw [if_pos hcz_1]), ht⟩) (fun q h => absurd h List.not_mem_nil) dX10_maySit_21
  ·
    obtain ⟨b_2, it_3, hg_4, hp_5, hlg_6⟩ := hpl (cn - 1 : Int32).toNatClampNeg (clt1 h6 hcb hcz_1).2
    obtain rfl : r = some b_2 := hw.trans (by unfold s_last; rw [if_neg hcz_1]; exact hg_4)
    refine W.eq (g2 := F0 m 4 ls [.ref b_2]) rfl ?_
    refine lv_astore (lv' := [(4, .ref b_2), (0, .ref a0), (1, .ref b0), (2, .int p0), (3, .int p1)]) hx hb dX10_maySit_4 hl (by decide) rfl (fun ls hl => ?_)
    refine lv_aload hx hb dX10_maySit_6 (lv_at hl 0 rfl) ?_
    refine lv_ifnonnull (tgt := 22) hx hb dX10_maySit_8 (by decide) ?_
    refine lv_aload_n hx hb dX10_maySit_22 rfl (lv_at hl 2 rfl) ?_
    obtain ⟨kk_13, hk_14⟩ := pl_at hpb.1.1 (x_pcF hI hpb)
    refine va_get (D := (dC, dI)) (ci := 7) (v := .int P2) (C := RX8) (T := TX8) (N := 6) hx hb hts (by decide +kernel) hown hK hP kk_13 hk_14 rfl 1 (by decide) (hts (.fieldLink RX10 42 "PageOne$Piece" "page" "I") (by decide +kernel)) (fun _ h9 => h9) rfl dX10_maySit_23 ?_
    refine lv_aload hx hb dX10_maySit_26 (lv_at hl 0 rfl) ?_
    obtain ⟨kk_15, hk_16⟩ := pl_at hp_5.1.1 (x_pcF hI hp_5)
    refine va_get (D := (dC, dI)) (ci := 7) (v := .int (Rm (cn - 1 : Int32).toNatClampNeg 0)) (C := RX8) (T := TX8) (N := 6) hx hb hts (by decide +kernel) hown hK hP kk_15 hk_16 rfl 1 (by decide) (hts (.fieldLink RX10 42 "PageOne$Piece" "page" "I") (by decide +kernel)) (fun _ h9 => h9) rfl dX10_maySit_28 ?_
    refine lv_icmp_ne (tgt := 38) hx hb dX10_maySit_31 (by decide) (fun c_17 => ?_) (fun c_17 => ?_)
    ·
      refine lv_iconst (v := 1) hx hb dX10_maySit_38 (by decide) ?_
      refine lv_istore (lv' := [(5, .int 1), (4, .ref b_2), (0, .ref a0), (1, .ref b0), (2, .int p0), (3, .int p1)]) hx hb dX10_maySit_39 hl (by decide) rfl (fun ls hl => ?_)
      refine lv_aload_n hx hb dX10_maySit_41 rfl (lv_at hl 3 rfl) ?_
      refine lv_aload hx hb dX10_maySit_42 (lv_at hl 1 rfl) ?_
      obtain ⟨kk_18, hk_19⟩ := pl_at hpb.1.1 (x_pcF hI hpb)
      refine vp_callSi (va_runV (As := [.ref b_2]) (rest := []) ⟨hx, hb, hml, hown, hts⟩ (y_isBehind l dC dI q h0 d k z f hI b0 iu P2 X2 Y2 D2 N2 hpb b_2 it_3 (Rm (cn - 1 : Int32).toNatClampNeg 0) (Rm (cn - 1 : Int32).toNatClampNeg 1) (Rm (cn - 1 : Int32).toNatClampNeg 2) (Rm (cn - 1 : Int32).toNatClampNeg 3) (Rm (cn - 1 : Int32).toNatClampNeg 4) hp_5) (cwV 1 hts gX10_maySit_X8_isBehind rfl rfl rfl (by decide +kernel) ⟨Nat.le_of_ble_eq_true rfl, Nat.le_of_ble_eq_true rfl⟩) ⟨px_fb, va_recv hK hP (ci := 7) (q0 := kk_18) rfl hk_19, fun U hU hW => ⟨rfl, px_to hU hW hP hK hN hXN⟩⟩ rfl rfl hl.1 rfl (lv_room (Nat.le_of_ble_eq_true rfl)) dX10_maySit_44 ⟨Nat.le_of_ble_eq_true rfl, Nat.le_of_ble_eq_true rfl⟩).run (fun r hw => ?_)
      obtain rfl : r = (s_isBehind P2 X2 Y2 D2 N2 (Rm (cn - 1 : Int32).toNatClampNeg 0) (Rm (cn - 1 : Int32).toNatClampNeg 1) (Rm (cn - 1 : Int32).toNatClampNeg 2) (Rm (cn - 1 : Int32).toNatClampNeg 3) (Rm (cn - 1 : Int32).toNatClampNeg 4)) := hw
      refine lv_if_eq (tgt := 67) hx hb dX10_maySit_47 (by decide) (fun c_20 => ?_) (fun c_20 => ?_)
      ·
        refine lv_iconst (v := 0) hx hb dX10_maySit_67 (by decide) ?_
        exact W.zret (v := 0) hx hb hr (by decide) (fun t ht hW => ⟨_, rfl, (by unfold s_sitS; rw [if_neg hcz_1, if_neg c_17, if_pos c_20]), ht⟩) (fun q h => absurd h List.not_mem_nil) dX10_maySit_68
      ·
        refine lv_aload_n hx hb dX10_maySit_50 rfl (lv_at hl 2 rfl) ?_
        refine lv_aload_n hx hb dX10_maySit_51 rfl (lv_at hl 2 rfl) ?_
        obtain ⟨kk_21, hk_22⟩ := pl_at ha0.1 hs
        refine va_get (D := (dC, dI)) (ci := 9) (v := .int cn) (C := RX10) (T := TX10) (N := 9) hx hb hts (by decide +kernel) hown hK hP kk_21 hk_22 rfl 3 (by decide) (hts (.fieldLink RX10 49 "PageOne$Story" "count" "I") (by decide +kernel)) (fun x9 h9 => u_same (hts (.sameField "PageOne$Story" "PageOne$Item" "count" "I") (by decide +kernel)) x9 h9) rfl dX10_maySit_52 ?_
        refine lv_iconst (v := 1) hx hb dX10_maySit_55 (by decide) ?_
        refine lv_isub hx hb dX10_maySit_56 ?_
        obtain ⟨kk_23, hk_24⟩ := pl_at ha0.1 hs
        refine vp_callSi (va_runV (As := [.int (cn - 1)]) (rest := []) ⟨hx, hb, hml, hown, hts⟩ (y_takenBy l dC dI q h0 d k z f hI a0 pa fa wd nm nu kd cn lz co ha0 hs (cn - 1) n g Rm hpa hps h1 h6 hcb hpl) (cwV 1 hts gX10_maySit_X10_takenBy rfl rfl rfl (by decide +kernel) ⟨Nat.le_of_ble_eq_true rfl, Nat.le_of_ble_eq_true rfl⟩) ⟨px_fb, va_recv hK hP (ci := 9) (q0 := kk_23) rfl hk_24, fun U hU hW => ⟨rfl, px_to hU hW hP hK hN hXN⟩⟩ rfl rfl hl.1 rfl (lv_room (Nat.le_of_ble_eq_true rfl)) dX10_maySit_57 ⟨Nat.le_of_ble_eq_true rfl, Nat.le_of_ble_eq_true rfl⟩).run (fun r hw => ?_)
        obtain rfl : r = (s_taken (cn - 1) cn Rm) := hw
        refine lv_iload hx hb dX10_maySit_60 (lv_at hl 0 rfl) ?_
        refine lv_isub hx hb dX10_maySit_62 ?_
        refine lv_iconst (v := 1) hx hb dX10_maySit_63 (by decide) ?_
        refine lv_icmp_ge (tgt := 69) hx hb dX10_maySit_64 (by decide) (fun c_25 => ?_) (fun c_25 => ?_)
        ·
          refine lv_aload_n hx hb dX10_maySit_69 rfl (lv_at hl 2 rfl) ?_
          refine lv_aload_n hx hb dX10_maySit_70 rfl (lv_at hl 2 rfl) ?_
          obtain ⟨kk_26, hk_27⟩ := pl_at ha0.1 hs
          refine vp_callSi (va_runV (As := []) (rest := [.ref a0]) ⟨hx, hb, hml, hown, hts⟩ (y_standing l dC dI q h0 d k z f hI a0 pa fa wd nm nu kd cn lz co ha0 hs n g Rm hpa hps h1 h6 hcb hpl) (cwV 0 hts gX10_maySit_X10_standing rfl rfl rfl (by decide +kernel) ⟨Nat.le_of_ble_eq_true rfl, Nat.le_of_ble_eq_true rfl⟩) ⟨px_fb, va_recv hK hP (ci := 9) (q0 := kk_26) rfl hk_27, fun U hU hW => ⟨rfl, px_to hU hW hP hK hN hXN⟩⟩ rfl rfl hl.1 rfl (lv_room (Nat.le_of_ble_eq_true rfl)) dX10_maySit_71 ⟨Nat.le_of_ble_eq_true rfl, Nat.le_of_ble_eq_true rfl⟩).run (fun r hw => ?_)
          obtain rfl : r = (s_standing cn Rm) := hw
          refine lv_iload hx hb dX10_maySit_74 (lv_at hl 0 rfl) ?_
          refine lv_isub hx hb dX10_maySit_76 ?_
          refine lv_aload_n hx hb dX10_maySit_77 rfl (lv_at hl 3 rfl) ?_
          obtain ⟨kk_28, hk_29⟩ := pl_at hpb.1.1 (x_pcF hI hpb)
          refine va_get (D := (dC, dI)) (ci := 7) (v := .int N2) (C := RX8) (T := TX8) (N := 6) hx hb hts (by decide +kernel) hown hK hP kk_28 hk_29 rfl 5 (by decide) (hts (.fieldLink RX10 34 "PageOne$Piece" "h" "I") (by decide +kernel)) (fun _ h9 => h9) rfl dX10_maySit_78 ?_
          refine lv_iload hx hb dX10_maySit_81 (lv_at hl 0 rfl) ?_
          refine lv_isub hx hb dX10_maySit_83 ?_
          refine lv_iload_n hx hb dX10_maySit_84 rfl (lv_at hl 4 rfl) ?_
          obtain ⟨kk_30, hk_31⟩ := pl_at ha0.1 hs
          refine vp_callSi (va_runV (As := [.int ((s_standing cn Rm) - 1), .int (N2 - 1), .int p0]) (rest := []) ⟨hx, hb, hml, hown, hts⟩ (y_canTake l dC dI q h0 d k z f hI a0 pa fa wd nm nu kd cn lz co ha0 hs ((s_standing cn Rm) - 1) (N2 - 1) p0 gw hwd hwg hco) (cwV 3 hts gX10_maySit_X10_canTake rfl rfl rfl (by decide +kernel) ⟨Nat.le_of_ble_eq_true rfl, Nat.le_of_ble_eq_true rfl⟩) ⟨px_fb, va_recv hK hP (ci := 9) (q0 := kk_30) rfl hk_31, fun U hU hW => ⟨rfl, px_to hU hW hP hK hN hXN⟩⟩ rfl rfl hl.1 rfl (lv_room (Nat.le_of_ble_eq_true rfl)) dX10_maySit_85 ⟨Nat.le_of_ble_eq_true rfl, Nat.le_of_ble_eq_true rfl⟩).run (fun r hw => ?_)
          obtain rfl : r = (bP (s_canT ((s_standing cn Rm) - 1) (N2 - 1) p0 co gw)) := hw
          exact W.zret (v := (bP (s_canT ((s_standing cn Rm) - 1) (N2 - 1) p0 co gw))) hx hb hr (by first | decide | (rcases bP_01 _ with h | h <;> rw [h] <;> decide)) (fun t ht hW => ⟨_, rfl, (by unfold s_sitS; rw [if_neg hcz_1, if_neg c_17, if_neg c_20, if_pos c_25]), ht⟩) (fun q h => absurd h List.not_mem_nil) dX10_maySit_88
        ·
          refine lv_iconst (v := 0) hx hb dX10_maySit_67 (by decide) ?_
          exact W.zret (v := 0) hx hb hr (by decide) (fun t ht hW => ⟨_, rfl, (by unfold s_sitS; rw [if_neg hcz_1, if_neg c_17, if_neg c_20, if_neg c_25]), ht⟩) (fun q h => absurd h List.not_mem_nil) dX10_maySit_68
    ·
      refine lv_iconst (v := 0) hx hb dX10_maySit_34 (by decide) ?_
      refine lv_goto (tgt := 39) hx hb dX10_maySit_35 (by decide) ?_
      refine lv_istore (lv' := [(5, .int 0), (4, .ref b_2), (0, .ref a0), (1, .ref b0), (2, .int p0), (3, .int p1)]) hx hb dX10_maySit_39 hl (by decide) rfl (fun ls hl => ?_)
      refine lv_aload_n hx hb dX10_maySit_41 rfl (lv_at hl 3 rfl) ?_
      refine lv_aload hx hb dX10_maySit_42 (lv_at hl 1 rfl) ?_
      obtain ⟨kk_32, hk_33⟩ := pl_at hpb.1.1 (x_pcF hI hpb)
      refine vp_callSi (va_runV (As := [.ref b_2]) (rest := []) ⟨hx, hb, hml, hown, hts⟩ (y_isBehind l dC dI q h0 d k z f hI b0 iu P2 X2 Y2 D2 N2 hpb b_2 it_3 (Rm (cn - 1 : Int32).toNatClampNeg 0) (Rm (cn - 1 : Int32).toNatClampNeg 1) (Rm (cn - 1 : Int32).toNatClampNeg 2) (Rm (cn - 1 : Int32).toNatClampNeg 3) (Rm (cn - 1 : Int32).toNatClampNeg 4) hp_5) (cwV 1 hts gX10_maySit_X8_isBehind rfl rfl rfl (by decide +kernel) ⟨Nat.le_of_ble_eq_true rfl, Nat.le_of_ble_eq_true rfl⟩) ⟨px_fb, va_recv hK hP (ci := 7) (q0 := kk_32) rfl hk_33, fun U hU hW => ⟨rfl, px_to hU hW hP hK hN hXN⟩⟩ rfl rfl hl.1 rfl (lv_room (Nat.le_of_ble_eq_true rfl)) dX10_maySit_44 ⟨Nat.le_of_ble_eq_true rfl, Nat.le_of_ble_eq_true rfl⟩).run (fun r hw => ?_)
      obtain rfl : r = (s_isBehind P2 X2 Y2 D2 N2 (Rm (cn - 1 : Int32).toNatClampNeg 0) (Rm (cn - 1 : Int32).toNatClampNeg 1) (Rm (cn - 1 : Int32).toNatClampNeg 2) (Rm (cn - 1 : Int32).toNatClampNeg 3) (Rm (cn - 1 : Int32).toNatClampNeg 4)) := hw
      refine lv_if_eq (tgt := 67) hx hb dX10_maySit_47 (by decide) (fun c_34 => ?_) (fun c_34 => ?_)
      ·
        refine lv_iconst (v := 0) hx hb dX10_maySit_67 (by decide) ?_
        exact W.zret (v := 0) hx hb hr (by decide) (fun t ht hW => ⟨_, rfl, (by unfold s_sitS; rw [if_neg hcz_1, if_pos c_17, if_pos c_34]), ht⟩) (fun q h => absurd h List.not_mem_nil) dX10_maySit_68
      ·
        refine lv_aload_n hx hb dX10_maySit_50 rfl (lv_at hl 2 rfl) ?_
        refine lv_aload_n hx hb dX10_maySit_51 rfl (lv_at hl 2 rfl) ?_
        obtain ⟨kk_35, hk_36⟩ := pl_at ha0.1 hs
        refine va_get (D := (dC, dI)) (ci := 9) (v := .int cn) (C := RX10) (T := TX10) (N := 9) hx hb hts (by decide +kernel) hown hK hP kk_35 hk_36 rfl 3 (by decide) (hts (.fieldLink RX10 49 "PageOne$Story" "count" "I") (by decide +kernel)) (fun x9 h9 => u_same (hts (.sameField "PageOne$Story" "PageOne$Item" "count" "I") (by decide +kernel)) x9 h9) rfl dX10_maySit_52 ?_
        refine lv_iconst (v := 1) hx hb dX10_maySit_55 (by decide) ?_
        refine lv_isub hx hb dX10_maySit_56 ?_
        obtain ⟨kk_37, hk_38⟩ := pl_at ha0.1 hs
        refine vp_callSi (va_runV (As := [.int (cn - 1)]) (rest := []) ⟨hx, hb, hml, hown, hts⟩ (y_takenBy l dC dI q h0 d k z f hI a0 pa fa wd nm nu kd cn lz co ha0 hs (cn - 1) n g Rm hpa hps h1 h6 hcb hpl) (cwV 1 hts gX10_maySit_X10_takenBy rfl rfl rfl (by decide +kernel) ⟨Nat.le_of_ble_eq_true rfl, Nat.le_of_ble_eq_true rfl⟩) ⟨px_fb, va_recv hK hP (ci := 9) (q0 := kk_37) rfl hk_38, fun U hU hW => ⟨rfl, px_to hU hW hP hK hN hXN⟩⟩ rfl rfl hl.1 rfl (lv_room (Nat.le_of_ble_eq_true rfl)) dX10_maySit_57 ⟨Nat.le_of_ble_eq_true rfl, Nat.le_of_ble_eq_true rfl⟩).run (fun r hw => ?_)
        obtain rfl : r = (s_taken (cn - 1) cn Rm) := hw
        refine lv_iload hx hb dX10_maySit_60 (lv_at hl 0 rfl) ?_
        refine lv_isub hx hb dX10_maySit_62 ?_
        refine lv_iconst (v := 1) hx hb dX10_maySit_63 (by decide) ?_
        refine lv_icmp_ge (tgt := 69) hx hb dX10_maySit_64 (by decide) (fun c_39 => ?_) (fun c_39 => ?_)
        ·
          refine lv_aload_n hx hb dX10_maySit_69 rfl (lv_at hl 2 rfl) ?_
          refine lv_aload_n hx hb dX10_maySit_70 rfl (lv_at hl 2 rfl) ?_
          obtain ⟨kk_40, hk_41⟩ := pl_at ha0.1 hs
          refine vp_callSi (va_runV (As := []) (rest := [.ref a0]) ⟨hx, hb, hml, hown, hts⟩ (y_standing l dC dI q h0 d k z f hI a0 pa fa wd nm nu kd cn lz co ha0 hs n g Rm hpa hps h1 h6 hcb hpl) (cwV 0 hts gX10_maySit_X10_standing rfl rfl rfl (by decide +kernel) ⟨Nat.le_of_ble_eq_true rfl, Nat.le_of_ble_eq_true rfl⟩) ⟨px_fb, va_recv hK hP (ci := 9) (q0 := kk_40) rfl hk_41, fun U hU hW => ⟨rfl, px_to hU hW hP hK hN hXN⟩⟩ rfl rfl hl.1 rfl (lv_room (Nat.le_of_ble_eq_true rfl)) dX10_maySit_71 ⟨Nat.le_of_ble_eq_true rfl, Nat.le_of_ble_eq_true rfl⟩).run (fun r hw => ?_)
          obtain rfl : r = (s_standing cn Rm) := hw
          refine lv_iload hx hb dX10_maySit_74 (lv_at hl 0 rfl) ?_
          refine lv_isub hx hb dX10_maySit_76 ?_
          refine lv_aload_n hx hb dX10_maySit_77 rfl (lv_at hl 3 rfl) ?_
          obtain ⟨kk_42, hk_43⟩ := pl_at hpb.1.1 (x_pcF hI hpb)
          refine va_get (D := (dC, dI)) (ci := 7) (v := .int N2) (C := RX8) (T := TX8) (N := 6) hx hb hts (by decide +kernel) hown hK hP kk_42 hk_43 rfl 5 (by decide) (hts (.fieldLink RX10 34 "PageOne$Piece" "h" "I") (by decide +kernel)) (fun _ h9 => h9) rfl dX10_maySit_78 ?_
          refine lv_iload hx hb dX10_maySit_81 (lv_at hl 0 rfl) ?_
          refine lv_isub hx hb dX10_maySit_83 ?_
          refine lv_iload_n hx hb dX10_maySit_84 rfl (lv_at hl 4 rfl) ?_
          obtain ⟨kk_44, hk_45⟩ := pl_at ha0.1 hs
          refine vp_callSi (va_runV (As := [.int ((s_standing cn Rm) - 0), .int (N2 - 0), .int p0]) (rest := []) ⟨hx, hb, hml, hown, hts⟩ (y_canTake l dC dI q h0 d k z f hI a0 pa fa wd nm nu kd cn lz co ha0 hs ((s_standing cn Rm) - 0) (N2 - 0) p0 gw hwd hwg hco) (cwV 3 hts gX10_maySit_X10_canTake rfl rfl rfl (by decide +kernel) ⟨Nat.le_of_ble_eq_true rfl, Nat.le_of_ble_eq_true rfl⟩) ⟨px_fb, va_recv hK hP (ci := 9) (q0 := kk_44) rfl hk_45, fun U hU hW => ⟨rfl, px_to hU hW hP hK hN hXN⟩⟩ rfl rfl hl.1 rfl (lv_room (Nat.le_of_ble_eq_true rfl)) dX10_maySit_85 ⟨Nat.le_of_ble_eq_true rfl, Nat.le_of_ble_eq_true rfl⟩).run (fun r hw => ?_)
          obtain rfl : r = (bP (s_canT ((s_standing cn Rm) - 0) (N2 - 0) p0 co gw)) := hw
          exact W.zret (v := (bP (s_canT ((s_standing cn Rm) - 0) (N2 - 0) p0 co gw))) hx hb hr (by first | decide | (rcases bP_01 _ with h | h <;> rw [h] <;> decide)) (fun t ht hW => ⟨_, rfl, (by unfold s_sitS; rw [if_neg hcz_1, if_pos c_17, if_neg c_34, if_pos c_39]), ht⟩) (fun q h => absurd h List.not_mem_nil) dX10_maySit_88
        ·
          refine lv_iconst (v := 0) hx hb dX10_maySit_67 (by decide) ?_
          exact W.zret (v := 0) hx hb hr (by decide) (fun t ht hW => ⟨_, rfl, (by unfold s_sitS; rw [if_neg hcz_1, if_pos c_17, if_neg c_34, if_neg c_39]), ht⟩) (fun q h => absurd h List.not_mem_nil) dX10_maySit_68
