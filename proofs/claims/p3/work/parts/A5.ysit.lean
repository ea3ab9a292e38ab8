theorem s_isBehind_01 (P X Y D N P2 X2 Y2 D2 N2 : Int32) : s_isBehind P X Y D N P2 X2 Y2 D2 N2 = 0 ∨ s_isBehind P X Y D N P2 X2 Y2 D2 N2 = 1 := by
  unfold s_isBehind
  repeat (first | exact Or.inl rfl | exact Or.inr rfl | split)
theorem s_startsWith_01 (P X Y D N P2 X2 Y2 D2 N2 : Int32) : s_startsWith P X Y D N P2 X2 Y2 D2 N2 = 0 ∨ s_startsWith P X Y D N P2 X2 Y2 D2 N2 = 1 := by
  unfold s_startsWith
  repeat (first | exact Or.inl rfl | exact Or.inr rfl | split)
theorem s_isBeside_01 (P X Y D N P2 X2 Y2 D2 N2 : Int32) : s_isBeside P X Y D N P2 X2 Y2 D2 N2 = 0 ∨ s_isBeside P X Y D N P2 X2 Y2 D2 N2 = 1 := by
  unfold s_isBeside
  repeat (first | exact Or.inl rfl | exact Or.inr rfl | split)
theorem s_isOverOrUnder_01 (P X Y D N P2 X2 Y2 D2 N2 : Int32) : s_isOverOrUnder P X Y D N P2 X2 Y2 D2 N2 = 0 ∨ s_isOverOrUnder P X Y D N P2 X2 Y2 D2 N2 = 1 := by
  unfold s_isOverOrUnder
  repeat (first | exact Or.inl rfl | exact Or.inr rfl | split)
def s_sitP (P2 X2 Y2 D2 N2 PP XX YY DD NN : Int32) : Int32 := (s_startsWith P2 X2 Y2 D2 N2 PP XX YY DD NN)
set_option maxHeartbeats 4000000 in
set_option maxRecDepth 100000 in
theorem y_X6_maySit (l : Launch) (dC : Nat → ClassId) (dI : Nat → Nat → Nat) (q : Nat → ClassId) (h0 : Nat) (d : Nat → Nat) (k : Nat → Int32) (z : gS) (f : xF) (hI : xI q h0 d k z f) (a0 pa fa sp dy : Nat) (nu kd cn bu pr : Int32) (ha0 : tg z a0 13) (hs : f a0 = .inr (5, [.int nu, .int kd, .ref pa, .int cn, .ref fa, .int bu, .int pr, .ref sp, .ref dy])) (p0 p1 : Int32) (is : Option Nat) (PP XX YY DD NN : Int32) (hsp : pcS z sp is PP XX YY DD NN) (b0 : Nat) (iu : Option Nat) (P2 X2 Y2 D2 N2 : Int32) (hpb : pcS z b0 iu P2 X2 Y2 D2 N2) : Met l yX6_maySit wsX6_maySit ({ frames := 1, cells := 0, slots := 0, locals := 21 }) (va_Pc [.ref a0, .ref b0, .int p0, .int p1] (PX dC dI (va_pl z.1 f) (xT q))) (vp_Si (fun r => r = s_sitP P2 X2 Y2 D2 N2 PP XX YY DD NN)) 0 0 (fun _ => False) := by
  refine Met.ofW (cc := cX6_maySit) (maxL := 4) (ret := (some .boolean)) (by decide) rfl ?_
  intro p e s m args below meth c s₁ B hml hv
  obtain ⟨rfl, ⟨hP, hK, hN⟩, hXN⟩ := hv
  have hx := B.exec
  have hb := B.bytes
  have hr := B.returns
  have hts := atoms_spec (ws := wsX6_maySit) B.pre
  have hown : s.vm.findClass RX6 = some m.cls := findClass_of_methodNamed B.named
  have hlocks := B.notSynchronized
  have hl := lv_entry ([.ref a0, .ref b0, .int p0, .int p1]) (n := 4) (Nat.le_of_ble_eq_true rfl)
  rw [lg_entry_eq]
  generalize (lg_sl ([.ref a0, .ref b0, .int p0, .int p1]) ++ List.replicate (4 - (lg_sl ([.ref a0, .ref b0, .int p0, .int p1])).length) Slot.unset).toArray = ls at hl ⊢
  have hl : lv_has ls 4 [(0, .ref a0), (1, .ref b0), (2, .int p0), (3, .int p1)] := hl
  refine lv_aload_n hx hb dX6_maySit_0 rfl (lv_at hl 1 rfl) ?_
  refine lv_aload_n hx hb dX6_maySit_1 rfl (lv_at hl 0 rfl) ?_
  obtain ⟨kk_1, hk_2⟩ := pl_at ha0.1 hs
  refine va_get (D := (dC, dI)) (ci := 5) (v := .ref sp) (C := RX6) (T := TX6) (N := 9) hx hb hts (by decide +kernel) hown hK hP kk_1 hk_2 rfl 7 (by decide) (hts (.fieldLink RX6 22 "PageOne$Paid" "spot" "LPageOne$Piece;") (by decide +kernel)) (fun _ h9 => h9) rfl dX6_maySit_2 ?_
  obtain ⟨kk_3, hk_4⟩ := pl_at hpb.1.1 (x_pcF hI hpb)
  refine vp_callSi (va_runV (As := [.ref sp]) (rest := []) ⟨hx, hb, hml, hown, hts⟩ (y_startsWith l dC dI q h0 d k z f hI b0 iu P2 X2 Y2 D2 N2 hpb sp is PP XX YY DD NN hsp) (cwV 1 hts gX6_maySit_X8_startsWith rfl rfl rfl (by decide +kernel) ⟨Nat.le_of_ble_eq_true rfl, Nat.le_of_ble_eq_true rfl⟩) ⟨px_fb, va_recv hK hP (ci := 7) (q0 := kk_3) rfl hk_4, fun U hU hW => ⟨rfl, px_to hU hW hP hK hN hXN⟩⟩ rfl rfl hl.1 rfl (lv_room (Nat.le_of_ble_eq_true rfl)) dX6_maySit_5 ⟨Nat.le_of_ble_eq_true rfl, Nat.le_of_ble_eq_true rfl⟩).run (fun r hw => ?_)
  obtain rfl : r = (s_startsWith P2 X2 Y2 D2 N2 PP XX YY DD NN) := hw
  exact W.zret (v := (s_startsWith P2 X2 Y2 D2 N2 PP XX YY DD NN)) hx hb hr (by rcases s_startsWith_01 P2 X2 Y2 D2 N2 PP XX YY DD NN with h | h <;> rw [h] <;> decide) (fun t ht hW => ⟨_, rfl, (by unfold s_sitP; rfl), ht⟩) (fun q h => absurd h List.not_mem_nil) dX6_maySit_8
def s_sitN (P2 X2 p1 : Int32) (g gm : Nat → Int32) : Int32 := if bw (g (0 : Int32).toNatClampNeg) 0 (p1 - 1) = true then 0 else (if bw (gm (0 : Int32).toNatClampNeg) 0 (p1 - 1) = true then (if P2 = (gm (2 : Int32).toNatClampNeg) then (if X2 < (gm (3 : Int32).toNatClampNeg) then 0 else 1) else (if P2 ≤ (gm (2 : Int32).toNatClampNeg) then 0 else 1)) else 0)
set_option maxHeartbeats 4000000 in
set_option maxRecDepth 100000 in
theorem y_X5_maySit (l : Launch) (dC : Nat → ClassId) (dI : Nat → Nat → Nat) (q : Nat → ClassId) (h0 : Nat) (d : Nat → Nat) (k : Nat → Int32) (z : gS) (f : xF) (hI : xI q h0 d k z f) (a0 pa fa o : Nat) (nu kd cn yz : Int32) (ha0 : tg z a0 12) (hs : f a0 = .inr (4, [.int nu, .int kd, .ref pa, .int cn, .ref fa, .ref o, .int yz])) (p0 p1 : Int32) (b0 : Nat) (iu : Option Nat) (P2 X2 Y2 D2 N2 : Int32) (hpb : pcS z b0 iu P2 X2 Y2 D2 N2) (g gm : Nat → Int32) (hfa : tg z fa 17) (hfg : f fa = aI (q 0) 5 g) (nu2 kd2 cn2 : Int32) (pa2 fa2 : Nat) (rs2 : List Value) (ho : itm z o) (hso : f o = .inr (ciT (z.2 o).1, itF nu2 kd2 pa2 cn2 fa2 rs2)) (hfo : tg z fa2 17) (hfm : f fa2 = aI (q 0) 5 gm) : Met l yX5_maySit wsX5_maySit ({ frames := 1, cells := 0, slots := 0, locals := 22 }) (va_Pc [.ref a0, .ref b0, .int p0, .int p1] (PX dC dI (va_pl z.1 f) (xT q))) (vp_Si (fun r => r = s_sitN P2 X2 p1 g gm)) 0 0 (fun _ => False) := by
  refine Met.ofW (cc := cX5_maySit) (maxL := 5) (ret := (some .boolean)) (by decide) rfl ?_
  intro p e s m args below meth c s₁ B hml hv
  obtain ⟨rfl, ⟨hP, hK, hN⟩, hXN⟩ := hv
  have hx := B.exec
  have hb := B.bytes
  have hr := B.returns
  have hts := atoms_spec (ws := wsX5_maySit) B.pre
  have hown : s.vm.findClass RX5 = some m.cls := findClass_of_methodNamed B.named
  have hlocks := B.notSynchronized
  have hl := lv_entry ([.ref a0, .ref b0, .int p0, .int p1]) (n := 5) (Nat.le_of_ble_eq_true rfl)
  rw [lg_entry_eq]
  generalize (lg_sl ([.ref a0, .ref b0, .int p0, .int p1]) ++ List.replicate (5 - (lg_sl ([.ref a0, .ref b0, .int p0, .int p1])).length) Slot.unset).toArray = ls at hl ⊢
  have hl : lv_has ls 5 [(0, .ref a0), (1, .ref b0), (2, .int p0), (3, .int p1)] := hl
  refine lv_aload_n hx hb dX5_maySit_0 rfl (lv_at hl 0 rfl) ?_
  obtain ⟨kk_1, hk_2⟩ := pl_at ha0.1 hs
  refine va_get (D := (dC, dI)) (ci := 4) (v := .ref fa) (C := RX5) (T := TX5) (N := 7) hx hb hts (by decide +kernel) hown hK hP kk_1 hk_2 rfl 4 (by decide) (hts (.fieldLink RX5 19 "PageOne$Notice" "first" "[I") (by decide +kernel)) (fun x9 h9 => u_same (hts (.sameField "PageOne$Notice" "PageOne$Item" "first" "[I") (by decide +kernel)) x9 h9) rfl dX5_maySit_1 ?_
  refine lv_iconst (v := 0) hx hb dX5_maySit_4 (by decide) ?_
  obtain ⟨kk_3, hk_4⟩ := pl_at hfa.1 hfg
  refine va_iald hx hb hK hP kk_3 0 hk_4 rfl (by unfold vp_in; decide) dX5_maySit_5 ?_
  refine lv_iconst (v := 0) hx hb dX5_maySit_6 (by decide) ?_
  refine lv_iload_n hx hb dX5_maySit_7 rfl (lv_at hl 3 rfl) ?_
  refine lv_iconst (v := 1) hx hb dX5_maySit_8 (by decide) ?_
  refine lv_isub hx hb dX5_maySit_9 ?_
  refine vp_callSi (va_runSN (As := [.int (g (0 : Int32).toNatClampNeg), .int 0, .int (p1 - 1)]) (rest := []) ⟨hx, hb, hml, hown, hts⟩ (x_isWithin l dC dI (g (0 : Int32).toNatClampNeg) 0 (p1 - 1)) ⟨va_cnB (host := "PageOne") 3 hts gX5_maySit_X11_isWithin_n23 rfl rfl rfl hN.n_RX5_23 (hts (.initialized RX11) (by decide +kernel)) (by decide +kernel) ⟨Nat.le_of_ble_eq_true rfl, Nat.le_of_ble_eq_true rfl⟩, hts (.static yX11_isWithin) (by decide +kernel), trivial⟩ ⟨pw_fb, fun U hU hW => ⟨rfl, pw_to hU hW (hP.sub (ws' := []) [] rfl) (hK.sub (tys' := []) [] rfl) hN⟩⟩ rfl rfl hl.1 rfl (lv_room (Nat.le_of_ble_eq_true rfl)) dX5_maySit_10 ⟨Nat.le_of_ble_eq_true rfl, Nat.le_of_ble_eq_true rfl⟩).run (fun r hw => ?_)
  rcases Bool.eq_false_or_eq_true (bw (g (0 : Int32).toNatClampNeg) 0 (p1 - 1)) with b_5 | b_5
  ·
    obtain rfl : r = 1 := b_t hw b_5
    refine lv_istore (lv' := [(4, .int 1), (0, .ref a0), (1, .ref b0), (2, .int p0), (3, .int p1)]) hx hb dX5_maySit_13 hl (by decide) rfl (fun ls hl => ?_)
    refine lv_iload hx hb dX5_maySit_15 (lv_at hl 0 rfl) ?_
    refine lv_if_ne (tgt := 39) hx hb dX5_maySit_17 (by decide) (fun c_6 => ?_) (fun c_6 => absurd c_6 (by decide))
    refine lv_iconst (v := 0) hx hb dX5_maySit_39 (by decide) ?_
    exact W.zret (v := 0) hx hb hr (by decide) (fun t ht hW => ⟨_, rfl, (by unfold s_sitN; rw [if_pos b_5]), ht⟩) (fun q h => absurd h List.not_mem_nil) dX5_maySit_40
  ·
    obtain rfl : r = 0 := b_f hw b_5
    refine lv_istore (lv' := [(4, .int 0), (0, .ref a0), (1, .ref b0), (2, .int p0), (3, .int p1)]) hx hb dX5_maySit_13 hl (by decide) rfl (fun ls hl => ?_)
    refine lv_iload hx hb dX5_maySit_15 (lv_at hl 0 rfl) ?_
    refine lv_if_ne (tgt := 39) hx hb dX5_maySit_17 (by decide) (fun c_7 => absurd (by decide) c_7) (fun c_7 => ?_)
    refine lv_aload_n hx hb dX5_maySit_20 rfl (lv_at hl 1 rfl) ?_
    obtain ⟨kk_8, hk_9⟩ := pl_at ha0.1 hs
    refine va_get (D := (dC, dI)) (ci := 4) (v := .ref o) (C := RX5) (T := TX5) (N := 7) hx hb hts (by decide +kernel) hown hK hP kk_8 hk_9 rfl 5 (by decide) (hts (.fieldLink RX5 9 "PageOne$Notice" "mended" "LPageOne$Item;") (by decide +kernel)) (fun _ h9 => h9) rfl dX5_maySit_21 ?_
    obtain ⟨kk_10, hk_11⟩ := pl_at ho.1 hso
    refine w_then (F0 m 27 ls [.ref fa2]) (fun hgo => ?_) ?_
    ·
      rcases x_tag ho with ht9 | ht9 | ht9 | ht9 | ht9 | ht9
      ·
        rw [ht9.2] at hk_11
        exact va_get (D := (dC, dI)) (ci := 2) (v := .ref fa2) (C := RX2) (T := TX2) (N := 7) hx hb hts (by decide +kernel) hown hK hP kk_10 hk_11 rfl 4 (by decide) (hts (.fieldLink RX5 27 "PageOne$Item" "first" "[I") (by decide +kernel)) (fun _ h9 => h9) rfl dX5_maySit_24 hgo
      ·
        rw [ht9.2] at hk_11
        exact va_get (D := (dC, dI)) (ci := 3) (v := .ref fa2) (C := RX3) (T := TX3) (N := 8) hx hb hts (by decide +kernel) hown hK hP kk_10 hk_11 rfl 4 (by decide) (hts (.fieldLink RX5 27 "PageOne$Item" "first" "[I") (by decide +kernel)) (fun _ h9 => h9) rfl dX5_maySit_24 hgo
      ·
        rw [ht9.2] at hk_11
        exact va_get (D := (dC, dI)) (ci := 4) (v := .ref fa2) (C := RX5) (T := TX5) (N := 7) hx hb hts (by decide +kernel) hown hK hP kk_10 hk_11 rfl 4 (by decide) (hts (.fieldLink RX5 27 "PageOne$Item" "first" "[I") (by decide +kernel)) (fun _ h9 => h9) rfl dX5_maySit_24 hgo
      ·
        rw [ht9.2] at hk_11
        exact va_get (D := (dC, dI)) (ci := 5) (v := .ref fa2) (C := RX6) (T := TX6) (N := 9) hx hb hts (by decide +kernel) hown hK hP kk_10 hk_11 rfl 4 (by decide) (hts (.fieldLink RX5 27 "PageOne$Item" "first" "[I") (by decide +kernel)) (fun _ h9 => h9) rfl dX5_maySit_24 hgo
      ·
        rw [ht9.2] at hk_11
        exact va_get (D := (dC, dI)) (ci := 6) (v := .ref fa2) (C := RX7) (T := TX7) (N := 8) hx hb hts (by decide +kernel) hown hK hP kk_10 hk_11 rfl 4 (by decide) (hts (.fieldLink RX5 27 "PageOne$Item" "first" "[I") (by decide +kernel)) (fun _ h9 => h9) rfl dX5_maySit_24 hgo
      ·
        rw [ht9.2] at hk_11
        exact va_get (D := (dC, dI)) (ci := 9) (v := .ref fa2) (C := RX10) (T := TX10) (N := 9) hx hb hts (by decide +kernel) hown hK hP kk_10 hk_11 rfl 4 (by decide) (hts (.fieldLink RX5 27 "PageOne$Item" "first" "[I") (by decide +kernel)) (fun _ h9 => h9) rfl dX5_maySit_24 hgo
    ·
      refine lv_iconst (v := 0) hx hb dX5_maySit_27 (by decide) ?_
      obtain ⟨kk_12, hk_13⟩ := pl_at hfo.1 hfm
      refine va_iald hx hb hK hP kk_12 0 hk_13 rfl (by unfold vp_in; decide) dX5_maySit_28 ?_
      refine lv_iconst (v := 0) hx hb dX5_maySit_29 (by decide) ?_
      refine lv_iload_n hx hb dX5_maySit_30 rfl (lv_at hl 4 rfl) ?_
      refine lv_iconst (v := 1) hx hb dX5_maySit_31 (by decide) ?_
      refine lv_isub hx hb dX5_maySit_32 ?_
      refine vp_callSi (va_runSN (As := [.int (gm (0 : Int32).toNatClampNeg), .int 0, .int (p1 - 1)]) (rest := []) ⟨hx, hb, hml, hown, hts⟩ (x_isWithin l dC dI (gm (0 : Int32).toNatClampNeg) 0 (p1 - 1)) ⟨va_cnB (host := "PageOne") 3 hts gX5_maySit_X11_isWithin_n23 rfl rfl rfl hN.n_RX5_23 (hts (.initialized RX11) (by decide +kernel)) (by decide +kernel) ⟨Nat.le_of_ble_eq_true rfl, Nat.le_of_ble_eq_true rfl⟩, hts (.static yX11_isWithin) (by decide +kernel), trivial⟩ ⟨pw_fb, fun U hU hW => ⟨rfl, pw_to hU hW (hP.sub (ws' := []) [] rfl) (hK.sub (tys' := []) [] rfl) hN⟩⟩ rfl rfl hl.1 rfl (lv_room (Nat.le_of_ble_eq_true rfl)) dX5_maySit_33 ⟨Nat.le_of_ble_eq_true rfl, Nat.le_of_ble_eq_true rfl⟩).run (fun r hw => ?_)
      rcases Bool.eq_false_or_eq_true (bw (gm (0 : Int32).toNatClampNeg) 0 (p1 - 1)) with b_14 | b_14
      ·
        obtain rfl : r = 1 := b_t hw b_14
        refine lv_if_ne (tgt := 41) hx hb dX5_maySit_36 (by decide) (fun c_15 => ?_) (fun c_15 => absurd c_15 (by decide))
        refine lv_aload_n hx hb dX5_maySit_41 rfl (lv_at hl 2 rfl) ?_
        obtain ⟨kk_16, hk_17⟩ := pl_at hpb.1.1 (x_pcF hI hpb)
        refine va_get (D := (dC, dI)) (ci := 7) (v := .int P2) (C := RX8) (T := TX8) (N := 6) hx hb hts (by decide +kernel) hown hK hP kk_16 hk_17 rfl 1 (by decide) (hts (.fieldLink RX5 28 "PageOne$Piece" "page" "I") (by decide +kernel)) (fun _ h9 => h9) rfl dX5_maySit_42 ?_
        refine lv_aload_n hx hb dX5_maySit_45 rfl (lv_at hl 1 rfl) ?_
        obtain ⟨kk_18, hk_19⟩ := pl_at ha0.1 hs
        refine va_get (D := (dC, dI)) (ci := 4) (v := .ref o) (C := RX5) (T := TX5) (N := 7) hx hb hts (by decide +kernel) hown hK hP kk_18 hk_19 rfl 5 (by decide) (hts (.fieldLink RX5 9 "PageOne$Notice" "mended" "LPageOne$Item;") (by decide +kernel)) (fun _ h9 => h9) rfl dX5_maySit_46 ?_
        obtain ⟨kk_20, hk_21⟩ := pl_at ho.1 hso
        refine w_then (F0 m 52 ls [.ref fa2, .int P2]) (fun hgo => ?_) ?_
        ·
          rcases x_tag ho with ht9 | ht9 | ht9 | ht9 | ht9 | ht9
          ·
            rw [ht9.2] at hk_21
            exact va_get (D := (dC, dI)) (ci := 2) (v := .ref fa2) (C := RX2) (T := TX2) (N := 7) hx hb hts (by decide +kernel) hown hK hP kk_20 hk_21 rfl 4 (by decide) (hts (.fieldLink RX5 27 "PageOne$Item" "first" "[I") (by decide +kernel)) (fun _ h9 => h9) rfl dX5_maySit_49 hgo
          ·
            rw [ht9.2] at hk_21
            exact va_get (D := (dC, dI)) (ci := 3) (v := .ref fa2) (C := RX3) (T := TX3) (N := 8) hx hb hts (by decide +kernel) hown hK hP kk_20 hk_21 rfl 4 (by decide) (hts (.fieldLink RX5 27 "PageOne$Item" "first" "[I") (by decide +kernel)) (fun _ h9 => h9) rfl dX5_maySit_49 hgo
          ·
            rw [ht9.2] at hk_21
            exact va_get (D := (dC, dI)) (ci := 4) (v := .ref fa2) (C := RX5) (T := TX5) (N := 7) hx hb hts (by decide +kernel) hown hK hP kk_20 hk_21 rfl 4 (by decide) (hts (.fieldLink RX5 27 "PageOne$Item" "first" "[I") (by decide +kernel)) (fun _ h9 => h9) rfl dX5_maySit_49 hgo
          ·
            rw [ht9.2] at hk_21
            exact va_get (D := (dC, dI)) (ci := 5) (v := .ref fa2) (C := RX6) (T := TX6) (N := 9) hx hb hts (by decide +kernel) hown hK hP kk_20 hk_21 rfl 4 (by decide) (hts (.fieldLink RX5 27 "PageOne$Item" "first" "[I") (by decide +kernel)) (fun _ h9 => h9) rfl dX5_maySit_49 hgo
          ·
            rw [ht9.2] at hk_21
            exact va_get (D := (dC, dI)) (ci := 6) (v := .ref fa2) (C := RX7) (T := TX7) (N := 8) hx hb hts (by decide +kernel) hown hK hP kk_20 hk_21 rfl 4 (by decide) (hts (.fieldLink RX5 27 "PageOne$Item" "first" "[I") (by decide +kernel)) (fun _ h9 => h9) rfl dX5_maySit_49 hgo
          ·
            rw [ht9.2] at hk_21
            exact va_get (D := (dC, dI)) (ci := 9) (v := .ref fa2) (C := RX10) (T := TX10) (N := 9) hx hb hts (by decide +kernel) hown hK hP kk_20 hk_21 rfl 4 (by decide) (hts (.fieldLink RX5 27 "PageOne$Item" "first" "[I") (by decide +kernel)) (fun _ h9 => h9) rfl dX5_maySit_49 hgo
        ·
          refine lv_iconst (v := 2) hx hb dX5_maySit_52 (by decide) ?_
          obtain ⟨kk_22, hk_23⟩ := pl_at hfo.1 hfm
          refine va_iald hx hb hK hP kk_22 0 hk_23 rfl (by unfold vp_in; decide) dX5_maySit_53 ?_
          refine lv_icmp_eq (tgt := 79) hx hb dX5_maySit_54 (by decide) (fun c_24 => ?_) (fun c_24 => ?_)
          ·
            refine lv_aload_n hx hb dX5_maySit_79 rfl (lv_at hl 2 rfl) ?_
            obtain ⟨kk_25, hk_26⟩ := pl_at hpb.1.1 (x_pcF hI hpb)
            refine va_get (D := (dC, dI)) (ci := 7) (v := .int X2) (C := RX8) (T := TX8) (N := 6) hx hb hts (by decide +kernel) hown hK hP kk_25 hk_26 rfl 2 (by decide) (hts (.fieldLink RX5 33 "PageOne$Piece" "column" "I") (by decide +kernel)) (fun _ h9 => h9) rfl dX5_maySit_80 ?_
            refine lv_aload_n hx hb dX5_maySit_83 rfl (lv_at hl 1 rfl) ?_
            obtain ⟨kk_27, hk_28⟩ := pl_at ha0.1 hs
            refine va_get (D := (dC, dI)) (ci := 4) (v := .ref o) (C := RX5) (T := TX5) (N := 7) hx hb hts (by decide +kernel) hown hK hP kk_27 hk_28 rfl 5 (by decide) (hts (.fieldLink RX5 9 "PageOne$Notice" "mended" "LPageOne$Item;") (by decide +kernel)) (fun _ h9 => h9) rfl dX5_maySit_84 ?_
            obtain ⟨kk_29, hk_30⟩ := pl_at ho.1 hso
            refine w_then (F0 m 90 ls [.ref fa2, .int X2]) (fun hgo => ?_) ?_
            ·
              rcases x_tag ho with ht9 | ht9 | ht9 | ht9 | ht9 | ht9
              ·
                rw [ht9.2] at hk_30
                exact va_get (D := (dC, dI)) (ci := 2) (v := .ref fa2) (C := RX2) (T := TX2) (N := 7) hx hb hts (by decide +kernel) hown hK hP kk_29 hk_30 rfl 4 (by decide) (hts (.fieldLink RX5 27 "PageOne$Item" "first" "[I") (by decide +kernel)) (fun _ h9 => h9) rfl dX5_maySit_87 hgo
              ·
                rw [ht9.2] at hk_30
                exact va_get (D := (dC, dI)) (ci := 3) (v := .ref fa2) (C := RX3) (T := TX3) (N := 8) hx hb hts (by decide +kernel) hown hK hP kk_29 hk_30 rfl 4 (by decide) (hts (.fieldLink RX5 27 "PageOne$Item" "first" "[I") (by decide +kernel)) (fun _ h9 => h9) rfl dX5_maySit_87 hgo
              ·
                rw [ht9.2] at hk_30
                exact va_get (D := (dC, dI)) (ci := 4) (v := .ref fa2) (C := RX5) (T := TX5) (N := 7) hx hb hts (by decide +kernel) hown hK hP kk_29 hk_30 rfl 4 (by decide) (hts (.fieldLink RX5 27 "PageOne$Item" "first" "[I") (by decide +kernel)) (fun _ h9 => h9) rfl dX5_maySit_87 hgo
              ·
                rw [ht9.2] at hk_30
                exact va_get (D := (dC, dI)) (ci := 5) (v := .ref fa2) (C := RX6) (T := TX6) (N := 9) hx hb hts (by decide +kernel) hown hK hP kk_29 hk_30 rfl 4 (by decide) (hts (.fieldLink RX5 27 "PageOne$Item" "first" "[I") (by decide +kernel)) (fun _ h9 => h9) rfl dX5_maySit_87 hgo
              ·
                rw [ht9.2] at hk_30
                exact va_get (D := (dC, dI)) (ci := 6) (v := .ref fa2) (C := RX7) (T := TX7) (N := 8) hx hb hts (by decide +kernel) hown hK hP kk_29 hk_30 rfl 4 (by decide) (hts (.fieldLink RX5 27 "PageOne$Item" "first" "[I") (by decide +kernel)) (fun _ h9 => h9) rfl dX5_maySit_87 hgo
              ·
                rw [ht9.2] at hk_30
                exact va_get (D := (dC, dI)) (ci := 9) (v := .ref fa2) (C := RX10) (T := TX10) (N := 9) hx hb hts (by decide +kernel) hown hK hP kk_29 hk_30 rfl 4 (by decide) (hts (.fieldLink RX5 27 "PageOne$Item" "first" "[I") (by decide +kernel)) (fun _ h9 => h9) rfl dX5_maySit_87 hgo
            ·
              refine lv_iconst (v := 3) hx hb dX5_maySit_90 (by decide) ?_
              obtain ⟨kk_31, hk_32⟩ := pl_at hfo.1 hfm
              refine va_iald hx hb hK hP kk_31 0 hk_32 rfl (by unfold vp_in; decide) dX5_maySit_91 ?_
              refine lv_icmp_lt (tgt := 99) hx hb dX5_maySit_92 (by decide) (fun c_33 => ?_) (fun c_33 => ?_)
              ·
                refine lv_iconst (v := 0) hx hb dX5_maySit_99 (by decide) ?_
                exact W.zret (v := 0) hx hb hr (by decide) (fun t ht hW => ⟨_, rfl, (by unfold s_sitN; rw [if_neg (bne b_5), if_pos b_14, if_pos c_24, if_pos c_33]), ht⟩) (fun q h => absurd h List.not_mem_nil) dX5_maySit_100
              ·
                refine lv_iconst (v := 1) hx hb dX5_maySit_95 (by decide) ?_
                refine lv_goto (tgt := 100) hx hb dX5_maySit_96 (by decide) ?_
                exact W.zret (v := 1) hx hb hr (by decide) (fun t ht hW => ⟨_, rfl, (by unfold s_sitN; rw [if_neg (bne b_5), if_pos b_14, if_pos c_24, if_neg c_33]), ht⟩) (fun q h => absurd h List.not_mem_nil) dX5_maySit_100
          ·
            refine lv_aload_n hx hb dX5_maySit_57 rfl (lv_at hl 2 rfl) ?_
            obtain ⟨kk_34, hk_35⟩ := pl_at hpb.1.1 (x_pcF hI hpb)
            refine va_get (D := (dC, dI)) (ci := 7) (v := .int P2) (C := RX8) (T := TX8) (N := 6) hx hb hts (by decide +kernel) hown hK hP kk_34 hk_35 rfl 1 (by decide) (hts (.fieldLink RX5 28 "PageOne$Piece" "page" "I") (by decide +kernel)) (fun _ h9 => h9) rfl dX5_maySit_58 ?_
            refine lv_aload_n hx hb dX5_maySit_61 rfl (lv_at hl 1 rfl) ?_
            obtain ⟨kk_36, hk_37⟩ := pl_at ha0.1 hs
            refine va_get (D := (dC, dI)) (ci := 4) (v := .ref o) (C := RX5) (T := TX5) (N := 7) hx hb hts (by decide +kernel) hown hK hP kk_36 hk_37 rfl 5 (by decide) (hts (.fieldLink RX5 9 "PageOne$Notice" "mended" "LPageOne$Item;") (by decide +kernel)) (fun _ h9 => h9) rfl dX5_maySit_62 ?_
            obtain ⟨kk_38, hk_39⟩ := pl_at ho.1 hso
            refine w_then (F0 m 68 ls [.ref fa2, .int P2]) (fun hgo => ?_) ?_
            ·
              rcases x_tag ho with ht9 | ht9 | ht9 | ht9 | ht9 | ht9
              ·
                rw [ht9.2] at hk_39
                exact va_get (D := (dC, dI)) (ci := 2) (v := .ref fa2) (C := RX2) (T := TX2) (N := 7) hx hb hts (by decide +kernel) hown hK hP kk_38 hk_39 rfl 4 (by decide) (hts (.fieldLink RX5 27 "PageOne$Item" "first" "[I") (by decide +kernel)) (fun _ h9 => h9) rfl dX5_maySit_65 hgo
              ·
                rw [ht9.2] at hk_39
                exact va_get (D := (dC, dI)) (ci := 3) (v := .ref fa2) (C := RX3) (T := TX3) (N := 8) hx hb hts (by decide +kernel) hown hK hP kk_38 hk_39 rfl 4 (by decide) (hts (.fieldLink RX5 27 "PageOne$Item" "first" "[I") (by decide +kernel)) (fun _ h9 => h9) rfl dX5_maySit_65 hgo
              ·
                rw [ht9.2] at hk_39
                exact va_get (D := (dC, dI)) (ci := 4) (v := .ref fa2) (C := RX5) (T := TX5) (N := 7) hx hb hts (by decide +kernel) hown hK hP kk_38 hk_39 rfl 4 (by decide) (hts (.fieldLink RX5 27 "PageOne$Item" "first" "[I") (by decide +kernel)) (fun _ h9 => h9) rfl dX5_maySit_65 hgo
              ·
                rw [ht9.2] at hk_39
                exact va_get (D := (dC, dI)) (ci := 5) (v := .ref fa2) (C := RX6) (T := TX6) (N := 9) hx hb hts (by decide +kernel) hown hK hP kk_38 hk_39 rfl 4 (by decide) (hts (.fieldLink RX5 27 "PageOne$Item" "first" "[I") (by decide +kernel)) (fun _ h9 => h9) rfl dX5_maySit_65 hgo
              ·
                rw [ht9.2] at hk_39
                exact va_get (D := (dC, dI)) (ci := 6) (v := .ref fa2) (C := RX7) (T := TX7) (N := 8) hx hb hts (by decide +kernel) hown hK hP kk_38 hk_39 rfl 4 (by decide) (hts (.fieldLink RX5 27 "PageOne$Item" "first" "[I") (by decide +kernel)) (fun _ h9 => h9) rfl dX5_maySit_65 hgo
              ·
                rw [ht9.2] at hk_39
                exact va_get (D := (dC, dI)) (ci := 9) (v := .ref fa2) (C := RX10) (T := TX10) (N := 9) hx hb hts (by decide +kernel) hown hK hP kk_38 hk_39 rfl 4 (by decide) (hts (.fieldLink RX5 27 "PageOne$Item" "first" "[I") (by decide +kernel)) (fun _ h9 => h9) rfl dX5_maySit_65 hgo
            ·
              refine lv_iconst (v := 2) hx hb dX5_maySit_68 (by decide) ?_
              obtain ⟨kk_40, hk_41⟩ := pl_at hfo.1 hfm
              refine va_iald hx hb hK hP kk_40 0 hk_41 rfl (by unfold vp_in; decide) dX5_maySit_69 ?_
              refine lv_icmp_le (tgt := 77) hx hb dX5_maySit_70 (by decide) (fun c_42 => ?_) (fun c_42 => ?_)
              ·
                refine lv_iconst (v := 0) hx hb dX5_maySit_77 (by decide) ?_
                exact W.zret (v := 0) hx hb hr (by decide) (fun t ht hW => ⟨_, rfl, (by unfold s_sitN; rw [if_neg (bne b_5), if_pos b_14, if_neg c_24, if_pos c_42]), ht⟩) (fun q h => absurd h List.not_mem_nil) dX5_maySit_78
              ·
                refine lv_iconst (v := 1) hx hb dX5_maySit_73 (by decide) ?_
                refine lv_goto (tgt := 78) hx hb dX5_maySit_74 (by decide) ?_
                exact W.zret (v := 1) hx hb hr (by decide) (fun t ht hW => ⟨_, rfl, (by unfold s_sitN; rw [if_neg (bne b_5), if_pos b_14, if_neg c_24, if_neg c_42]), ht⟩) (fun q h => absurd h List.not_mem_nil) dX5_maySit_78
      ·
        obtain rfl : r = 0 := b_f hw b_14
        refine lv_if_ne (tgt := 41) hx hb dX5_maySit_36 (by decide) (fun c_43 => absurd (by decide) c_43) (fun c_43 => ?_)
        refine lv_iconst (v := 0) hx hb dX5_maySit_39 (by decide) ?_
        exact W.zret (v := 0) hx hb hr (by decide) (fun t ht hW => ⟨_, rfl, (by unfold s_sitN; rw [if_neg (bne b_5), if_neg (bne b_14)]), ht⟩) (fun q h => absurd h List.not_mem_nil) dX5_maySit_40
