def s_isBehind (P X Y D N P2 X2 Y2 D2 N2 : Int32) : Int32 := if P = P2 then (if X2 < X then 1 else (if X = X2 then (if Y < (Y2 + N2) then 0 else 1) else 0)) else (if P ≤ P2 then 0 else 1)
set_option maxHeartbeats 4000000 in
set_option maxRecDepth 100000 in
theorem y_isBehind (l : Launch) (dC : Nat → ClassId) (dI : Nat → Nat → Nat) (q : Nat → ClassId) (h0 : Nat) (d : Nat → Nat) (k : Nat → Int32) (z : gS) (f : xF) (hI : xI q h0 d k z f) (a0 : Nat) (it : Option Nat) (P X Y D N : Int32) (hpa : pcS z a0 it P X Y D N) (b0 : Nat) (iu : Option Nat) (P2 X2 Y2 D2 N2 : Int32) (hpb : pcS z b0 iu P2 X2 Y2 D2 N2) : Met l yX8_isBehind wsX8_isBehind ({ frames := 0, cells := 0, slots := 0, locals := 0 }) (va_Pc [.ref a0, .ref b0] (PX dC dI (va_pl z.1 f) (xT q))) (vp_Si (fun r => r = s_isBehind P X Y D N P2 X2 Y2 D2 N2)) 0 0 (fun _ => False) := by
  refine Met.ofW (cc := cX8_isBehind) (maxL := 2) (ret := (some .boolean)) (by decide) rfl ?_
  intro p e s m args below meth c s₁ B hml hv
  obtain ⟨rfl, ⟨hP, hK, hN⟩, hXN⟩ := hv
  have hx := B.exec
  have hb := B.bytes
  have hr := B.returns
  have hts := atoms_spec (ws := wsX8_isBehind) B.pre
  have hown : s.vm.findClass RX8 = some m.cls := findClass_of_methodNamed B.named
  have hlocks := B.notSynchronized
  have hl := lv_entry ([.ref a0, .ref b0]) (n := 2) (Nat.le_of_ble_eq_true rfl)
  rw [lg_entry_eq]
  generalize (lg_sl ([.ref a0, .ref b0]) ++ List.replicate (2 - (lg_sl ([.ref a0, .ref b0])).length) Slot.unset).toArray = ls at hl ⊢
  have hl : lv_has ls 2 [(0, .ref a0), (1, .ref b0)] := hl
  refine lv_aload_n hx hb dX8_isBehind_0 rfl (lv_at hl 0 rfl) ?_
  obtain ⟨kk_1, hk_2⟩ := pl_at hpa.1.1 (x_pcF hI hpa)
  refine va_get (D := (dC, dI)) (ci := 7) (v := .int P) (C := RX8) (T := TX8) (N := 6) hx hb hts (by decide +kernel) hown hK hP kk_1 hk_2 rfl 1 (by decide) (hts (.fieldLink RX8 15 "PageOne$Piece" "page" "I") (by decide +kernel)) (fun _ h9 => h9) rfl dX8_isBehind_1 ?_
  refine lv_aload_n hx hb dX8_isBehind_4 rfl (lv_at hl 1 rfl) ?_
  obtain ⟨kk_3, hk_4⟩ := pl_at hpb.1.1 (x_pcF hI hpb)
  refine va_get (D := (dC, dI)) (ci := 7) (v := .int P2) (C := RX8) (T := TX8) (N := 6) hx hb hts (by decide +kernel) hown hK hP kk_3 hk_4 rfl 1 (by decide) (hts (.fieldLink RX8 15 "PageOne$Piece" "page" "I") (by decide +kernel)) (fun _ h9 => h9) rfl dX8_isBehind_5 ?_
  refine lv_icmp_eq (tgt := 28) hx hb dX8_isBehind_8 (by decide) (fun c_5 => ?_) (fun c_5 => ?_)
  ·
    refine lv_aload_n hx hb dX8_isBehind_28 rfl (lv_at hl 0 rfl) ?_
    obtain ⟨kk_6, hk_7⟩ := pl_at hpa.1.1 (x_pcF hI hpa)
    refine va_get (D := (dC, dI)) (ci := 7) (v := .int X) (C := RX8) (T := TX8) (N := 6) hx hb hts (by decide +kernel) hown hK hP kk_6 hk_7 rfl 2 (by decide) (hts (.fieldLink RX8 19 "PageOne$Piece" "column" "I") (by decide +kernel)) (fun _ h9 => h9) rfl dX8_isBehind_29 ?_
    refine lv_aload_n hx hb dX8_isBehind_32 rfl (lv_at hl 1 rfl) ?_
    obtain ⟨kk_8, hk_9⟩ := pl_at hpb.1.1 (x_pcF hI hpb)
    refine va_get (D := (dC, dI)) (ci := 7) (v := .int X2) (C := RX8) (T := TX8) (N := 6) hx hb hts (by decide +kernel) hown hK hP kk_8 hk_9 rfl 2 (by decide) (hts (.fieldLink RX8 19 "PageOne$Piece" "column" "I") (by decide +kernel)) (fun _ h9 => h9) rfl dX8_isBehind_33 ?_
    refine lv_icmp_gt (tgt := 66) hx hb dX8_isBehind_36 (by decide) (fun c_10 => ?_) (fun c_10 => ?_)
    ·
      refine lv_iconst (v := 1) hx hb dX8_isBehind_66 (by decide) ?_
      refine lv_goto (tgt := 71) hx hb dX8_isBehind_67 (by decide) ?_
      exact W.zret (v := 1) hx hb hr (by decide) (fun t ht hW => ⟨_, rfl, (by unfold s_isBehind; rw [if_pos c_5, if_pos c_10]), ht⟩) (fun q h => absurd h List.not_mem_nil) dX8_isBehind_71
    ·
      refine lv_aload_n hx hb dX8_isBehind_39 rfl (lv_at hl 0 rfl) ?_
      obtain ⟨kk_11, hk_12⟩ := pl_at hpa.1.1 (x_pcF hI hpa)
      refine va_get (D := (dC, dI)) (ci := 7) (v := .int X) (C := RX8) (T := TX8) (N := 6) hx hb hts (by decide +kernel) hown hK hP kk_11 hk_12 rfl 2 (by decide) (hts (.fieldLink RX8 19 "PageOne$Piece" "column" "I") (by decide +kernel)) (fun _ h9 => h9) rfl dX8_isBehind_40 ?_
      refine lv_aload_n hx hb dX8_isBehind_43 rfl (lv_at hl 1 rfl) ?_
      obtain ⟨kk_13, hk_14⟩ := pl_at hpb.1.1 (x_pcF hI hpb)
      refine va_get (D := (dC, dI)) (ci := 7) (v := .int X2) (C := RX8) (T := TX8) (N := 6) hx hb hts (by decide +kernel) hown hK hP kk_13 hk_14 rfl 2 (by decide) (hts (.fieldLink RX8 19 "PageOne$Piece" "column" "I") (by decide +kernel)) (fun _ h9 => h9) rfl dX8_isBehind_44 ?_
      refine lv_icmp_ne (tgt := 70) hx hb dX8_isBehind_47 (by decide) (fun c_15 => ?_) (fun c_15 => ?_)
      ·
        refine lv_iconst (v := 0) hx hb dX8_isBehind_70 (by decide) ?_
        exact W.zret (v := 0) hx hb hr (by decide) (fun t ht hW => ⟨_, rfl, (by unfold s_isBehind; rw [if_pos c_5, if_neg c_10, if_neg c_15]), ht⟩) (fun q h => absurd h List.not_mem_nil) dX8_isBehind_71
      ·
        refine lv_aload_n hx hb dX8_isBehind_50 rfl (lv_at hl 0 rfl) ?_
        obtain ⟨kk_16, hk_17⟩ := pl_at hpa.1.1 (x_pcF hI hpa)
        refine va_get (D := (dC, dI)) (ci := 7) (v := .int Y) (C := RX8) (T := TX8) (N := 6) hx hb hts (by decide +kernel) hown hK hP kk_16 hk_17 rfl 3 (by decide) (hts (.fieldLink RX8 22 "PageOne$Piece" "line" "I") (by decide +kernel)) (fun _ h9 => h9) rfl dX8_isBehind_51 ?_
        refine lv_aload_n hx hb dX8_isBehind_54 rfl (lv_at hl 1 rfl) ?_
        obtain ⟨kk_18, hk_19⟩ := pl_at hpb.1.1 (x_pcF hI hpb)
        refine va_get (D := (dC, dI)) (ci := 7) (v := .int Y2) (C := RX8) (T := TX8) (N := 6) hx hb hts (by decide +kernel) hown hK hP kk_18 hk_19 rfl 3 (by decide) (hts (.fieldLink RX8 22 "PageOne$Piece" "line" "I") (by decide +kernel)) (fun _ h9 => h9) rfl dX8_isBehind_55 ?_
        refine lv_aload_n hx hb dX8_isBehind_58 rfl (lv_at hl 1 rfl) ?_
        obtain ⟨kk_20, hk_21⟩ := pl_at hpb.1.1 (x_pcF hI hpb)
        refine va_get (D := (dC, dI)) (ci := 7) (v := .int N2) (C := RX8) (T := TX8) (N := 6) hx hb hts (by decide +kernel) hown hK hP kk_20 hk_21 rfl 5 (by decide) (hts (.fieldLink RX8 28 "PageOne$Piece" "h" "I") (by decide +kernel)) (fun _ h9 => h9) rfl dX8_isBehind_59 ?_
        refine lv_iadd hx hb dX8_isBehind_62 ?_
        refine lv_icmp_lt (tgt := 70) hx hb dX8_isBehind_63 (by decide) (fun c_22 => ?_) (fun c_22 => ?_)
        ·
          refine lv_iconst (v := 0) hx hb dX8_isBehind_70 (by decide) ?_
          exact W.zret (v := 0) hx hb hr (by decide) (fun t ht hW => ⟨_, rfl, (by unfold s_isBehind; rw [if_pos c_5, if_neg c_10, if_pos c_15, if_pos c_22]), ht⟩) (fun q h => absurd h List.not_mem_nil) dX8_isBehind_71
        ·
          refine lv_iconst (v := 1) hx hb dX8_isBehind_66 (by decide) ?_
          refine lv_goto (tgt := 71) hx hb dX8_isBehind_67 (by decide) ?_
          exact W.zret (v := 1) hx hb hr (by decide) (fun t ht hW => ⟨_, rfl, (by unfold s_isBehind; rw [if_pos c_5, if_neg c_10, if_pos c_15, if_neg c_22]), ht⟩) (fun q h => absurd h List.not_mem_nil) dX8_isBehind_71
  ·
    refine lv_aload_n hx hb dX8_isBehind_11 rfl (lv_at hl 0 rfl) ?_
    obtain ⟨kk_23, hk_24⟩ := pl_at hpa.1.1 (x_pcF hI hpa)
    refine va_get (D := (dC, dI)) (ci := 7) (v := .int P) (C := RX8) (T := TX8) (N := 6) hx hb hts (by decide +kernel) hown hK hP kk_23 hk_24 rfl 1 (by decide) (hts (.fieldLink RX8 15 "PageOne$Piece" "page" "I") (by decide +kernel)) (fun _ h9 => h9) rfl dX8_isBehind_12 ?_
    refine lv_aload_n hx hb dX8_isBehind_15 rfl (lv_at hl 1 rfl) ?_
    obtain ⟨kk_25, hk_26⟩ := pl_at hpb.1.1 (x_pcF hI hpb)
    refine va_get (D := (dC, dI)) (ci := 7) (v := .int P2) (C := RX8) (T := TX8) (N := 6) hx hb hts (by decide +kernel) hown hK hP kk_25 hk_26 rfl 1 (by decide) (hts (.fieldLink RX8 15 "PageOne$Piece" "page" "I") (by decide +kernel)) (fun _ h9 => h9) rfl dX8_isBehind_16 ?_
    refine lv_icmp_le (tgt := 26) hx hb dX8_isBehind_19 (by decide) (fun c_27 => ?_) (fun c_27 => ?_)
    ·
      refine lv_iconst (v := 0) hx hb dX8_isBehind_26 (by decide) ?_
      exact W.zret (v := 0) hx hb hr (by decide) (fun t ht hW => ⟨_, rfl, (by unfold s_isBehind; rw [if_neg c_5, if_pos c_27]), ht⟩) (fun q h => absurd h List.not_mem_nil) dX8_isBehind_27
    ·
      refine lv_iconst (v := 1) hx hb dX8_isBehind_22 (by decide) ?_
      refine lv_goto (tgt := 27) hx hb dX8_isBehind_23 (by decide) ?_
      exact W.zret (v := 1) hx hb hr (by decide) (fun t ht hW => ⟨_, rfl, (by unfold s_isBehind; rw [if_neg c_5, if_neg c_27]), ht⟩) (fun q h => absurd h List.not_mem_nil) dX8_isBehind_27
def s_startsWith (P X Y D N P2 X2 Y2 D2 N2 : Int32) : Int32 := if P = P2 then (if X = X2 then (if Y = Y2 then 1 else 0) else 0) else 0
set_option maxHeartbeats 4000000 in
set_option maxRecDepth 100000 in
theorem y_startsWith (l : Launch) (dC : Nat → ClassId) (dI : Nat → Nat → Nat) (q : Nat → ClassId) (h0 : Nat) (d : Nat → Nat) (k : Nat → Int32) (z : gS) (f : xF) (hI : xI q h0 d k z f) (a0 : Nat) (it : Option Nat) (P X Y D N : Int32) (hpa : pcS z a0 it P X Y D N) (b0 : Nat) (iu : Option Nat) (P2 X2 Y2 D2 N2 : Int32) (hpb : pcS z b0 iu P2 X2 Y2 D2 N2) : Met l yX8_startsWith wsX8_startsWith ({ frames := 0, cells := 0, slots := 0, locals := 0 }) (va_Pc [.ref a0, .ref b0] (PX dC dI (va_pl z.1 f) (xT q))) (vp_Si (fun r => r = s_startsWith P X Y D N P2 X2 Y2 D2 N2)) 0 0 (fun _ => False) := by
  refine Met.ofW (cc := cX8_startsWith) (maxL := 2) (ret := (some .boolean)) (by decide) rfl ?_
  intro p e s m args below meth c s₁ B hml hv
  obtain ⟨rfl, ⟨hP, hK, hN⟩, hXN⟩ := hv
  have hx := B.exec
  have hb := B.bytes
  have hr := B.returns
  have hts := atoms_spec (ws := wsX8_startsWith) B.pre
  have hown : s.vm.findClass RX8 = some m.cls := findClass_of_methodNamed B.named
  have hlocks := B.notSynchronized
  have hl := lv_entry ([.ref a0, .ref b0]) (n := 2) (Nat.le_of_ble_eq_true rfl)
  rw [lg_entry_eq]
  generalize (lg_sl ([.ref a0, .ref b0]) ++ List.replicate (2 - (lg_sl ([.ref a0, .ref b0])).length) Slot.unset).toArray = ls at hl ⊢
  have hl : lv_has ls 2 [(0, .ref a0), (1, .ref b0)] := hl
  refine lv_aload_n hx hb dX8_startsWith_0 rfl (lv_at hl 0 rfl) ?_
  obtain ⟨kk_1, hk_2⟩ := pl_at hpa.1.1 (x_pcF hI hpa)
  refine va_get (D := (dC, dI)) (ci := 7) (v := .int P) (C := RX8) (T := TX8) (N := 6) hx hb hts (by decide +kernel) hown hK hP kk_1 hk_2 rfl 1 (by decide) (hts (.fieldLink RX8 15 "PageOne$Piece" "page" "I") (by decide +kernel)) (fun _ h9 => h9) rfl dX8_startsWith_1 ?_
  refine lv_aload_n hx hb dX8_startsWith_4 rfl (lv_at hl 1 rfl) ?_
  obtain ⟨kk_3, hk_4⟩ := pl_at hpb.1.1 (x_pcF hI hpb)
  refine va_get (D := (dC, dI)) (ci := 7) (v := .int P2) (C := RX8) (T := TX8) (N := 6) hx hb hts (by decide +kernel) hown hK hP kk_3 hk_4 rfl 1 (by decide) (hts (.fieldLink RX8 15 "PageOne$Piece" "page" "I") (by decide +kernel)) (fun _ h9 => h9) rfl dX8_startsWith_5 ?_
  refine lv_icmp_ne (tgt := 37) hx hb dX8_startsWith_8 (by decide) (fun c_5 => ?_) (fun c_5 => ?_)
  ·
    refine lv_iconst (v := 0) hx hb dX8_startsWith_37 (by decide) ?_
    exact W.zret (v := 0) hx hb hr (by decide) (fun t ht hW => ⟨_, rfl, (by unfold s_startsWith; rw [if_neg c_5]), ht⟩) (fun q h => absurd h List.not_mem_nil) dX8_startsWith_38
  ·
    refine lv_aload_n hx hb dX8_startsWith_11 rfl (lv_at hl 0 rfl) ?_
    obtain ⟨kk_6, hk_7⟩ := pl_at hpa.1.1 (x_pcF hI hpa)
    refine va_get (D := (dC, dI)) (ci := 7) (v := .int X) (C := RX8) (T := TX8) (N := 6) hx hb hts (by decide +kernel) hown hK hP kk_6 hk_7 rfl 2 (by decide) (hts (.fieldLink RX8 19 "PageOne$Piece" "column" "I") (by decide +kernel)) (fun _ h9 => h9) rfl dX8_startsWith_12 ?_
    refine lv_aload_n hx hb dX8_startsWith_15 rfl (lv_at hl 1 rfl) ?_
    obtain ⟨kk_8, hk_9⟩ := pl_at hpb.1.1 (x_pcF hI hpb)
    refine va_get (D := (dC, dI)) (ci := 7) (v := .int X2) (C := RX8) (T := TX8) (N := 6) hx hb hts (by decide +kernel) hown hK hP kk_8 hk_9 rfl 2 (by decide) (hts (.fieldLink RX8 19 "PageOne$Piece" "column" "I") (by decide +kernel)) (fun _ h9 => h9) rfl dX8_startsWith_16 ?_
    refine lv_icmp_ne (tgt := 37) hx hb dX8_startsWith_19 (by decide) (fun c_10 => ?_) (fun c_10 => ?_)
    ·
      refine lv_iconst (v := 0) hx hb dX8_startsWith_37 (by decide) ?_
      exact W.zret (v := 0) hx hb hr (by decide) (fun t ht hW => ⟨_, rfl, (by unfold s_startsWith; rw [if_pos c_5, if_neg c_10]), ht⟩) (fun q h => absurd h List.not_mem_nil) dX8_startsWith_38
    ·
      refine lv_aload_n hx hb dX8_startsWith_22 rfl (lv_at hl 0 rfl) ?_
      obtain ⟨kk_11, hk_12⟩ := pl_at hpa.1.1 (x_pcF hI hpa)
      refine va_get (D := (dC, dI)) (ci := 7) (v := .int Y) (C := RX8) (T := TX8) (N := 6) hx hb hts (by decide +kernel) hown hK hP kk_11 hk_12 rfl 3 (by decide) (hts (.fieldLink RX8 22 "PageOne$Piece" "line" "I") (by decide +kernel)) (fun _ h9 => h9) rfl dX8_startsWith_23 ?_
      refine lv_aload_n hx hb dX8_startsWith_26 rfl (lv_at hl 1 rfl) ?_
      obtain ⟨kk_13, hk_14⟩ := pl_at hpb.1.1 (x_pcF hI hpb)
      refine va_get (D := (dC, dI)) (ci := 7) (v := .int Y2) (C := RX8) (T := TX8) (N := 6) hx hb hts (by decide +kernel) hown hK hP kk_13 hk_14 rfl 3 (by decide) (hts (.fieldLink RX8 22 "PageOne$Piece" "line" "I") (by decide +kernel)) (fun _ h9 => h9) rfl dX8_startsWith_27 ?_
      refine lv_icmp_ne (tgt := 37) hx hb dX8_startsWith_30 (by decide) (fun c_15 => ?_) (fun c_15 => ?_)
      ·
        refine lv_iconst (v := 0) hx hb dX8_startsWith_37 (by decide) ?_
        exact W.zret (v := 0) hx hb hr (by decide) (fun t ht hW => ⟨_, rfl, (by unfold s_startsWith; rw [if_pos c_5, if_pos c_10, if_neg c_15]), ht⟩) (fun q h => absurd h List.not_mem_nil) dX8_startsWith_38
      ·
        refine lv_iconst (v := 1) hx hb dX8_startsWith_33 (by decide) ?_
        refine lv_goto (tgt := 38) hx hb dX8_startsWith_34 (by decide) ?_
        exact W.zret (v := 1) hx hb hr (by decide) (fun t ht hW => ⟨_, rfl, (by unfold s_startsWith; rw [if_pos c_5, if_pos c_10, if_pos c_15]), ht⟩) (fun q h => absurd h List.not_mem_nil) dX8_startsWith_38
def s_isBeside (P X Y D N P2 X2 Y2 D2 N2 : Int32) : Int32 := if (X + D) = X2 then (if P = P2 then (if (Y2 + N2) ≤ Y then 0 else (if (Y + N) ≤ Y2 then 0 else 1)) else 0) else (if (X2 + D2) = X then (if P = P2 then (if (Y2 + N2) ≤ Y then 0 else (if (Y + N) ≤ Y2 then 0 else 1)) else 0) else (if P = P2 then 0 else 0))
set_option maxHeartbeats 4000000 in
set_option maxRecDepth 100000 in
theorem y_isBeside (l : Launch) (dC : Nat → ClassId) (dI : Nat → Nat → Nat) (q : Nat → ClassId) (h0 : Nat) (d : Nat → Nat) (k : Nat → Int32) (z : gS) (f : xF) (hI : xI q h0 d k z f) (a0 : Nat) (it : Option Nat) (P X Y D N : Int32) (hpa : pcS z a0 it P X Y D N) (b0 : Nat) (iu : Option Nat) (P2 X2 Y2 D2 N2 : Int32) (hpb : pcS z b0 iu P2 X2 Y2 D2 N2) : Met l yX8_isBeside wsX8_isBeside ({ frames := 0, cells := 0, slots := 0, locals := 0 }) (va_Pc [.ref a0, .ref b0] (PX dC dI (va_pl z.1 f) (xT q))) (vp_Si (fun r => r = s_isBeside P X Y D N P2 X2 Y2 D2 N2)) 0 0 (fun _ => False) := by
  refine Met.ofW (cc := cX8_isBeside) (maxL := 3) (ret := (some .boolean)) (by decide) rfl ?_
  intro p e s m args below meth c s₁ B hml hv
  obtain ⟨rfl, ⟨hP, hK, hN⟩, hXN⟩ := hv
  have hx := B.exec
  have hb := B.bytes
  have hr := B.returns
  have hts := atoms_spec (ws := wsX8_isBeside) B.pre
  have hown : s.vm.findClass RX8 = some m.cls := findClass_of_methodNamed B.named
  have hlocks := B.notSynchronized
  have hl := lv_entry ([.ref a0, .ref b0]) (n := 3) (Nat.le_of_ble_eq_true rfl)
  rw [lg_entry_eq]
  generalize (lg_sl ([.ref a0, .ref b0]) ++ List.replicate (3 - (lg_sl ([.ref a0, .ref b0])).length) Slot.unset).toArray = ls at hl ⊢
  have hl : lv_has ls 3 [(0, .ref a0), (1, .ref b0)] := hl
  refine lv_aload_n hx hb dX8_isBeside_0 rfl (lv_at hl 0 rfl) ?_
  obtain ⟨kk_1, hk_2⟩ := pl_at hpa.1.1 (x_pcF hI hpa)
  refine va_get (D := (dC, dI)) (ci := 7) (v := .int X) (C := RX8) (T := TX8) (N := 6) hx hb hts (by decide +kernel) hown hK hP kk_1 hk_2 rfl 2 (by decide) (hts (.fieldLink RX8 19 "PageOne$Piece" "column" "I") (by decide +kernel)) (fun _ h9 => h9) rfl dX8_isBeside_1 ?_
  refine lv_aload_n hx hb dX8_isBeside_4 rfl (lv_at hl 0 rfl) ?_
  obtain ⟨kk_3, hk_4⟩ := pl_at hpa.1.1 (x_pcF hI hpa)
  refine va_get (D := (dC, dI)) (ci := 7) (v := .int D) (C := RX8) (T := TX8) (N := 6) hx hb hts (by decide +kernel) hown hK hP kk_3 hk_4 rfl 4 (by decide) (hts (.fieldLink RX8 25 "PageOne$Piece" "w" "I") (by decide +kernel)) (fun _ h9 => h9) rfl dX8_isBeside_5 ?_
  refine lv_iadd hx hb dX8_isBeside_8 ?_
  refine lv_aload_n hx hb dX8_isBeside_9 rfl (lv_at hl 1 rfl) ?_
  obtain ⟨kk_5, hk_6⟩ := pl_at hpb.1.1 (x_pcF hI hpb)
  refine va_get (D := (dC, dI)) (ci := 7) (v := .int X2) (C := RX8) (T := TX8) (N := 6) hx hb hts (by decide +kernel) hown hK hP kk_5 hk_6 rfl 2 (by decide) (hts (.fieldLink RX8 19 "PageOne$Piece" "column" "I") (by decide +kernel)) (fun _ h9 => h9) rfl dX8_isBeside_10 ?_
  refine lv_icmp_eq (tgt := 32) hx hb dX8_isBeside_13 (by decide) (fun c_7 => ?_) (fun c_7 => ?_)
  ·
    refine lv_iconst (v := 1) hx hb dX8_isBeside_32 (by decide) ?_
    refine lv_goto (tgt := 37) hx hb dX8_isBeside_33 (by decide) ?_
    refine lv_istore_n (lv' := [(2, .int 1), (0, .ref a0), (1, .ref b0)]) hx hb dX8_isBeside_37 rfl hl (by decide) rfl (fun ls hl => ?_)
    refine lv_aload_n hx hb dX8_isBeside_38 rfl (lv_at hl 1 rfl) ?_
    obtain ⟨kk_8, hk_9⟩ := pl_at hpa.1.1 (x_pcF hI hpa)
    refine va_get (D := (dC, dI)) (ci := 7) (v := .int P) (C := RX8) (T := TX8) (N := 6) hx hb hts (by decide +kernel) hown hK hP kk_8 hk_9 rfl 1 (by decide) (hts (.fieldLink RX8 15 "PageOne$Piece" "page" "I") (by decide +kernel)) (fun _ h9 => h9) rfl dX8_isBeside_39 ?_
    refine lv_aload_n hx hb dX8_isBeside_42 rfl (lv_at hl 2 rfl) ?_
    obtain ⟨kk_10, hk_11⟩ := pl_at hpb.1.1 (x_pcF hI hpb)
    refine va_get (D := (dC, dI)) (ci := 7) (v := .int P2) (C := RX8) (T := TX8) (N := 6) hx hb hts (by decide +kernel) hown hK hP kk_10 hk_11 rfl 1 (by decide) (hts (.fieldLink RX8 15 "PageOne$Piece" "page" "I") (by decide +kernel)) (fun _ h9 => h9) rfl dX8_isBeside_43 ?_
    refine lv_icmp_ne (tgt := 89) hx hb dX8_isBeside_46 (by decide) (fun c_12 => ?_) (fun c_12 => ?_)
    ·
      refine lv_iconst (v := 0) hx hb dX8_isBeside_89 (by decide) ?_
      exact W.zret (v := 0) hx hb hr (by decide) (fun t ht hW => ⟨_, rfl, (by unfold s_isBeside; rw [if_pos c_7, if_neg c_12]), ht⟩) (fun q h => absurd h List.not_mem_nil) dX8_isBeside_90
    ·
      refine lv_iload_n hx hb dX8_isBeside_49 rfl (lv_at hl 0 rfl) ?_
      refine lv_if_eq (tgt := 89) hx hb dX8_isBeside_50 (by decide) (fun c_13 => absurd c_13 (by decide)) (fun c_13 => ?_)
      refine lv_aload_n hx hb dX8_isBeside_53 rfl (lv_at hl 1 rfl) ?_
      obtain ⟨kk_14, hk_15⟩ := pl_at hpa.1.1 (x_pcF hI hpa)
      refine va_get (D := (dC, dI)) (ci := 7) (v := .int Y) (C := RX8) (T := TX8) (N := 6) hx hb hts (by decide +kernel) hown hK hP kk_14 hk_15 rfl 3 (by decide) (hts (.fieldLink RX8 22 "PageOne$Piece" "line" "I") (by decide +kernel)) (fun _ h9 => h9) rfl dX8_isBeside_54 ?_
      refine lv_aload_n hx hb dX8_isBeside_57 rfl (lv_at hl 2 rfl) ?_
      obtain ⟨kk_16, hk_17⟩ := pl_at hpb.1.1 (x_pcF hI hpb)
      refine va_get (D := (dC, dI)) (ci := 7) (v := .int Y2) (C := RX8) (T := TX8) (N := 6) hx hb hts (by decide +kernel) hown hK hP kk_16 hk_17 rfl 3 (by decide) (hts (.fieldLink RX8 22 "PageOne$Piece" "line" "I") (by decide +kernel)) (fun _ h9 => h9) rfl dX8_isBeside_58 ?_
      refine lv_aload_n hx hb dX8_isBeside_61 rfl (lv_at hl 2 rfl) ?_
      obtain ⟨kk_18, hk_19⟩ := pl_at hpb.1.1 (x_pcF hI hpb)
      refine va_get (D := (dC, dI)) (ci := 7) (v := .int N2) (C := RX8) (T := TX8) (N := 6) hx hb hts (by decide +kernel) hown hK hP kk_18 hk_19 rfl 5 (by decide) (hts (.fieldLink RX8 28 "PageOne$Piece" "h" "I") (by decide +kernel)) (fun _ h9 => h9) rfl dX8_isBeside_62 ?_
      refine lv_iadd hx hb dX8_isBeside_65 ?_
      refine lv_icmp_ge (tgt := 89) hx hb dX8_isBeside_66 (by decide) (fun c_20 => ?_) (fun c_20 => ?_)
      ·
        refine lv_iconst (v := 0) hx hb dX8_isBeside_89 (by decide) ?_
        exact W.zret (v := 0) hx hb hr (by decide) (fun t ht hW => ⟨_, rfl, (by unfold s_isBeside; rw [if_pos c_7, if_pos c_12, if_pos c_20]), ht⟩) (fun q h => absurd h List.not_mem_nil) dX8_isBeside_90
      ·
        refine lv_aload_n hx hb dX8_isBeside_69 rfl (lv_at hl 2 rfl) ?_
        obtain ⟨kk_21, hk_22⟩ := pl_at hpb.1.1 (x_pcF hI hpb)
        refine va_get (D := (dC, dI)) (ci := 7) (v := .int Y2) (C := RX8) (T := TX8) (N := 6) hx hb hts (by decide +kernel) hown hK hP kk_21 hk_22 rfl 3 (by decide) (hts (.fieldLink RX8 22 "PageOne$Piece" "line" "I") (by decide +kernel)) (fun _ h9 => h9) rfl dX8_isBeside_70 ?_
        refine lv_aload_n hx hb dX8_isBeside_73 rfl (lv_at hl 1 rfl) ?_
        obtain ⟨kk_23, hk_24⟩ := pl_at hpa.1.1 (x_pcF hI hpa)
        refine va_get (D := (dC, dI)) (ci := 7) (v := .int Y) (C := RX8) (T := TX8) (N := 6) hx hb hts (by decide +kernel) hown hK hP kk_23 hk_24 rfl 3 (by decide) (hts (.fieldLink RX8 22 "PageOne$Piece" "line" "I") (by decide +kernel)) (fun _ h9 => h9) rfl dX8_isBeside_74 ?_
        refine lv_aload_n hx hb dX8_isBeside_77 rfl (lv_at hl 1 rfl) ?_
        obtain ⟨kk_25, hk_26⟩ := pl_at hpa.1.1 (x_pcF hI hpa)
        refine va_get (D := (dC, dI)) (ci := 7) (v := .int N) (C := RX8) (T := TX8) (N := 6) hx hb hts (by decide +kernel) hown hK hP kk_25 hk_26 rfl 5 (by decide) (hts (.fieldLink RX8 28 "PageOne$Piece" "h" "I") (by decide +kernel)) (fun _ h9 => h9) rfl dX8_isBeside_78 ?_
        refine lv_iadd hx hb dX8_isBeside_81 ?_
        refine lv_icmp_ge (tgt := 89) hx hb dX8_isBeside_82 (by decide) (fun c_27 => ?_) (fun c_27 => ?_)
        ·
          refine lv_iconst (v := 0) hx hb dX8_isBeside_89 (by decide) ?_
          exact W.zret (v := 0) hx hb hr (by decide) (fun t ht hW => ⟨_, rfl, (by unfold s_isBeside; rw [if_pos c_7, if_pos c_12, if_neg c_20, if_pos c_27]), ht⟩) (fun q h => absurd h List.not_mem_nil) dX8_isBeside_90
        ·
          refine lv_iconst (v := 1) hx hb dX8_isBeside_85 (by decide) ?_
          refine lv_goto (tgt := 90) hx hb dX8_isBeside_86 (by decide) ?_
          exact W.zret (v := 1) hx hb hr (by decide) (fun t ht hW => ⟨_, rfl, (by unfold s_isBeside; rw [if_pos c_7, if_pos c_12, if_neg c_20, if_neg c_27]), ht⟩) (fun q h => absurd h List.not_mem_nil) dX8_isBeside_90
  ·
    refine lv_aload_n hx hb dX8_isBeside_16 rfl (lv_at hl 1 rfl) ?_
    obtain ⟨kk_28, hk_29⟩ := pl_at hpb.1.1 (x_pcF hI hpb)
    refine va_get (D := (dC, dI)) (ci := 7) (v := .int X2) (C := RX8) (T := TX8) (N := 6) hx hb hts (by decide +kernel) hown hK hP kk_28 hk_29 rfl 2 (by decide) (hts (.fieldLink RX8 19 "PageOne$Piece" "column" "I") (by decide +kernel)) (fun _ h9 => h9) rfl dX8_isBeside_17 ?_
    refine lv_aload_n hx hb dX8_isBeside_20 rfl (lv_at hl 1 rfl) ?_
    obtain ⟨kk_30, hk_31⟩ := pl_at hpb.1.1 (x_pcF hI hpb)
    refine va_get (D := (dC, dI)) (ci := 7) (v := .int D2) (C := RX8) (T := TX8) (N := 6) hx hb hts (by decide +kernel) hown hK hP kk_30 hk_31 rfl 4 (by decide) (hts (.fieldLink RX8 25 "PageOne$Piece" "w" "I") (by decide +kernel)) (fun _ h9 => h9) rfl dX8_isBeside_21 ?_
    refine lv_iadd hx hb dX8_isBeside_24 ?_
    refine lv_aload_n hx hb dX8_isBeside_25 rfl (lv_at hl 0 rfl) ?_
    obtain ⟨kk_32, hk_33⟩ := pl_at hpa.1.1 (x_pcF hI hpa)
    refine va_get (D := (dC, dI)) (ci := 7) (v := .int X) (C := RX8) (T := TX8) (N := 6) hx hb hts (by decide +kernel) hown hK hP kk_32 hk_33 rfl 2 (by decide) (hts (.fieldLink RX8 19 "PageOne$Piece" "column" "I") (by decide +kernel)) (fun _ h9 => h9) rfl dX8_isBeside_26 ?_
    refine lv_icmp_ne (tgt := 36) hx hb dX8_isBeside_29 (by decide) (fun c_34 => ?_) (fun c_34 => ?_)
    ·
      refine lv_iconst (v := 0) hx hb dX8_isBeside_36 (by decide) ?_
      refine lv_istore_n (lv' := [(2, .int 0), (0, .ref a0), (1, .ref b0)]) hx hb dX8_isBeside_37 rfl hl (by decide) rfl (fun ls hl => ?_)
      refine lv_aload_n hx hb dX8_isBeside_38 rfl (lv_at hl 1 rfl) ?_
      obtain ⟨kk_35, hk_36⟩ := pl_at hpa.1.1 (x_pcF hI hpa)
      refine va_get (D := (dC, dI)) (ci := 7) (v := .int P) (C := RX8) (T := TX8) (N := 6) hx hb hts (by decide +kernel) hown hK hP kk_35 hk_36 rfl 1 (by decide) (hts (.fieldLink RX8 15 "PageOne$Piece" "page" "I") (by decide +kernel)) (fun _ h9 => h9) rfl dX8_isBeside_39 ?_
      refine lv_aload_n hx hb dX8_isBeside_42 rfl (lv_at hl 2 rfl) ?_
      obtain ⟨kk_37, hk_38⟩ := pl_at hpb.1.1 (x_pcF hI hpb)
      refine va_get (D := (dC, dI)) (ci := 7) (v := .int P2) (C := RX8) (T := TX8) (N := 6) hx hb hts (by decide +kernel) hown hK hP kk_37 hk_38 rfl 1 (by decide) (hts (.fieldLink RX8 15 "PageOne$Piece" "page" "I") (by decide +kernel)) (fun _ h9 => h9) rfl dX8_isBeside_43 ?_
      refine lv_icmp_ne (tgt := 89) hx hb dX8_isBeside_46 (by decide) (fun c_39 => ?_) (fun c_39 => ?_)
      ·
        refine lv_iconst (v := 0) hx hb dX8_isBeside_89 (by decide) ?_
        exact W.zret (v := 0) hx hb hr (by decide) (fun t ht hW => ⟨_, rfl, (by unfold s_isBeside; rw [if_neg c_7, if_neg c_34, if_neg c_39]), ht⟩) (fun q h => absurd h List.not_mem_nil) dX8_isBeside_90
      ·
        refine lv_iload_n hx hb dX8_isBeside_49 rfl (lv_at hl 0 rfl) ?_
        refine lv_if_eq (tgt := 89) hx hb dX8_isBeside_50 (by decide) (fun c_40 => ?_) (fun c_40 => absurd (by decide) c_40)
        refine lv_iconst (v := 0) hx hb dX8_isBeside_89 (by decide) ?_
        exact W.zret (v := 0) hx hb hr (by decide) (fun t ht hW => ⟨_, rfl, (by unfold s_isBeside; rw [if_neg c_7, if_neg c_34, if_pos c_39]), ht⟩) (fun q h => absurd h List.not_mem_nil) dX8_isBeside_90
    ·
      refine lv_iconst (v := 1) hx hb dX8_isBeside_32 (by decide) ?_
      refine lv_goto (tgt := 37) hx hb dX8_isBeside_33 (by decide) ?_
      refine lv_istore_n (lv' := [(2, .int 1), (0, .ref a0), (1, .ref b0)]) hx hb dX8_isBeside_37 rfl hl (by decide) rfl (fun ls hl => ?_)
      refine lv_aload_n hx hb dX8_isBeside_38 rfl (lv_at hl 1 rfl) ?_
      obtain ⟨kk_41, hk_42⟩ := pl_at hpa.1.1 (x_pcF hI hpa)
      refine va_get (D := (dC, dI)) (ci := 7) (v := .int P) (C := RX8) (T := TX8) (N := 6) hx hb hts (by decide +kernel) hown hK hP kk_41 hk_42 rfl 1 (by decide) (hts (.fieldLink RX8 15 "PageOne$Piece" "page" "I") (by decide +kernel)) (fun _ h9 => h9) rfl dX8_isBeside_39 ?_
      refine lv_aload_n hx hb dX8_isBeside_42 rfl (lv_at hl 2 rfl) ?_
      obtain ⟨kk_43, hk_44⟩ := pl_at hpb.1.1 (x_pcF hI hpb)
      refine va_get (D := (dC, dI)) (ci := 7) (v := .int P2) (C := RX8) (T := TX8) (N := 6) hx hb hts (by decide +kernel) hown hK hP kk_43 hk_44 rfl 1 (by decide) (hts (.fieldLink RX8 15 "PageOne$Piece" "page" "I") (by decide +kernel)) (fun _ h9 => h9) rfl dX8_isBeside_43 ?_
      refine lv_icmp_ne (tgt := 89) hx hb dX8_isBeside_46 (by decide) (fun c_45 => ?_) (fun c_45 => ?_)
      ·
        refine lv_iconst (v := 0) hx hb dX8_isBeside_89 (by decide) ?_
        exact W.zret (v := 0) hx hb hr (by decide) (fun t ht hW => ⟨_, rfl, (by unfold s_isBeside; rw [if_neg c_7, if_pos c_34, if_neg c_45]), ht⟩) (fun q h => absurd h List.not_mem_nil) dX8_isBeside_90
      ·
        refine lv_iload_n hx hb dX8_isBeside_49 rfl (lv_at hl 0 rfl) ?_
        refine lv_if_eq (tgt := 89) hx hb dX8_isBeside_50 (by decide) (fun c_46 => absurd c_46 (by decide)) (fun c_46 => ?_)
        refine lv_aload_n hx hb dX8_isBeside_53 rfl (lv_at hl 1 rfl) ?_
        obtain ⟨kk_47, hk_48⟩ := pl_at hpa.1.1 (x_pcF hI hpa)
        refine va_get (D := (dC, dI)) (ci := 7) (v := .int Y) (C := RX8) (T := TX8) (N := 6) hx hb hts (by decide +kernel) hown hK hP kk_47 hk_48 rfl 3 (by decide) (hts (.fieldLink RX8 22 "PageOne$Piece" "line" "I") (by decide +kernel)) (fun _ h9 => h9) rfl dX8_isBeside_54 ?_
        refine lv_aload_n hx hb dX8_isBeside_57 rfl (lv_at hl 2 rfl) ?_
        obtain ⟨kk_49, hk_50⟩ := pl_at hpb.1.1 (x_pcF hI hpb)
        refine va_get (D := (dC, dI)) (ci := 7) (v := .int Y2) (C := RX8) (T := TX8) (N := 6) hx hb hts (by decide +kernel) hown hK hP kk_49 hk_50 rfl 3 (by decide) (hts (.fieldLink RX8 22 "PageOne$Piece" "line" "I") (by decide +kernel)) (fun _ h9 => h9) rfl dX8_isBeside_58 ?_
        refine lv_aload_n hx hb dX8_isBeside_61 rfl (lv_at hl 2 rfl) ?_
        obtain ⟨kk_51, hk_52⟩ := pl_at hpb.1.1 (x_pcF hI hpb)
        refine va_get (D := (dC, dI)) (ci := 7) (v := .int N2) (C := RX8) (T := TX8) (N := 6) hx hb hts (by decide +kernel) hown hK hP kk_51 hk_52 rfl 5 (by decide) (hts (.fieldLink RX8 28 "PageOne$Piece" "h" "I") (by decide +kernel)) (fun _ h9 => h9) rfl dX8_isBeside_62 ?_
        refine lv_iadd hx hb dX8_isBeside_65 ?_
        refine lv_icmp_ge (tgt := 89) hx hb dX8_isBeside_66 (by decide) (fun c_53 => ?_) (fun c_53 => ?_)
        ·
          refine lv_iconst (v := 0) hx hb dX8_isBeside_89 (by decide) ?_
          exact W.zret (v := 0) hx hb hr (by decide) (fun t ht hW => ⟨_, rfl, (by unfold s_isBeside; rw [if_neg c_7, if_pos c_34, if_pos c_45, if_pos c_53]), ht⟩) (fun q h => absurd h List.not_mem_nil) dX8_isBeside_90
        ·
          refine lv_aload_n hx hb dX8_isBeside_69 rfl (lv_at hl 2 rfl) ?_
          obtain ⟨kk_54, hk_55⟩ := pl_at hpb.1.1 (x_pcF hI hpb)
          refine va_get (D := (dC, dI)) (ci := 7) (v := .int Y2) (C := RX8) (T := TX8) (N := 6) hx hb hts (by decide +kernel) hown hK hP kk_54 hk_55 rfl 3 (by decide) (hts (.fieldLink RX8 22 "PageOne$Piece" "line" "I") (by decide +kernel)) (fun _ h9 => h9) rfl dX8_isBeside_70 ?_
          refine lv_aload_n hx hb dX8_isBeside_73 rfl (lv_at hl 1 rfl) ?_
          obtain ⟨kk_56, hk_57⟩ := pl_at hpa.1.1 (x_pcF hI hpa)
          refine va_get (D := (dC, dI)) (ci := 7) (v := .int Y) (C := RX8) (T := TX8) (N := 6) hx hb hts (by decide +kernel) hown hK hP kk_56 hk_57 rfl 3 (by decide) (hts (.fieldLink RX8 22 "PageOne$Piece" "line" "I") (by decide +kernel)) (fun _ h9 => h9) rfl dX8_isBeside_74 ?_
          refine lv_aload_n hx hb dX8_isBeside_77 rfl (lv_at hl 1 rfl) ?_
          obtain ⟨kk_58, hk_59⟩ := pl_at hpa.1.1 (x_pcF hI hpa)
          refine va_get (D := (dC, dI)) (ci := 7) (v := .int N) (C := RX8) (T := TX8) (N := 6) hx hb hts (by decide +kernel) hown hK hP kk_58 hk_59 rfl 5 (by decide) (hts (.fieldLink RX8 28 "PageOne$Piece" "h" "I") (by decide +kernel)) (fun _ h9 => h9) rfl dX8_isBeside_78 ?_
          refine lv_iadd hx hb dX8_isBeside_81 ?_
          refine lv_icmp_ge (tgt := 89) hx hb dX8_isBeside_82 (by decide) (fun c_60 => ?_) (fun c_60 => ?_)
          ·
            refine lv_iconst (v := 0) hx hb dX8_isBeside_89 (by decide) ?_
            exact W.zret (v := 0) hx hb hr (by decide) (fun t ht hW => ⟨_, rfl, (by unfold s_isBeside; rw [if_neg c_7, if_pos c_34, if_pos c_45, if_neg c_53, if_pos c_60]), ht⟩) (fun q h => absurd h List.not_mem_nil) dX8_isBeside_90
          ·
            refine lv_iconst (v := 1) hx hb dX8_isBeside_85 (by decide) ?_
            refine lv_goto (tgt := 90) hx hb dX8_isBeside_86 (by decide) ?_
            exact W.zret (v := 1) hx hb hr (by decide) (fun t ht hW => ⟨_, rfl, (by unfold s_isBeside; rw [if_neg c_7, if_pos c_34, if_pos c_45, if_neg c_53, if_neg c_60]), ht⟩) (fun q h => absurd h List.not_mem_nil) dX8_isBeside_90
def s_isOverOrUnder (P X Y D N P2 X2 Y2 D2 N2 : Int32) : Int32 := if (Y + N) = Y2 then (if P = P2 then (if (X2 + D2) ≤ X then 0 else (if (X + D) ≤ X2 then 0 else 1)) else 0) else (if (Y2 + N2) = Y then (if P = P2 then (if (X2 + D2) ≤ X then 0 else (if (X + D) ≤ X2 then 0 else 1)) else 0) else (if P = P2 then 0 else 0))
set_option maxHeartbeats 4000000 in
set_option maxRecDepth 100000 in
theorem y_isOverOrUnder (l : Launch) (dC : Nat → ClassId) (dI : Nat → Nat → Nat) (q : Nat → ClassId) (h0 : Nat) (d : Nat → Nat) (k : Nat → Int32) (z : gS) (f : xF) (hI : xI q h0 d k z f) (a0 : Nat) (it : Option Nat) (P X Y D N : Int32) (hpa : pcS z a0 it P X Y D N) (b0 : Nat) (iu : Option Nat) (P2 X2 Y2 D2 N2 : Int32) (hpb : pcS z b0 iu P2 X2 Y2 D2 N2) : Met l yX8_isOverOrUnder wsX8_isOverOrUnder ({ frames := 0, cells := 0, slots := 0, locals := 0 }) (va_Pc [.ref a0, .ref b0] (PX dC dI (va_pl z.1 f) (xT q))) (vp_Si (fun r => r = s_isOverOrUnder P X Y D N P2 X2 Y2 D2 N2)) 0 0 (fun _ => False) := by
  refine Met.ofW (cc := cX8_isOverOrUnder) (maxL := 3) (ret := (some .boolean)) (by decide) rfl ?_
  intro p e s m args below meth c s₁ B hml hv
  obtain ⟨rfl, ⟨hP, hK, hN⟩, hXN⟩ := hv
  have hx := B.exec
  have hb := B.bytes
  have hr := B.returns
  have hts := atoms_spec (ws := wsX8_isOverOrUnder) B.pre
  have hown : s.vm.findClass RX8 = some m.cls := findClass_of_methodNamed B.named
  have hlocks := B.notSynchronized
  have hl := lv_entry ([.ref a0, .ref b0]) (n := 3) (Nat.le_of_ble_eq_true rfl)
  rw [lg_entry_eq]
  generalize (lg_sl ([.ref a0, .ref b0]) ++ List.replicate (3 - (lg_sl ([.ref a0, .ref b0])).length) Slot.unset).toArray = ls at hl ⊢
  have hl : lv_has ls 3 [(0, .ref a0), (1, .ref b0)] := hl
  refine lv_aload_n hx hb dX8_isOverOrUnder_0 rfl (lv_at hl 0 rfl) ?_
  obtain ⟨kk_1, hk_2⟩ := pl_at hpa.1.1 (x_pcF hI hpa)
  refine va_get (D := (dC, dI)) (ci := 7) (v := .int Y) (C := RX8) (T := TX8) (N := 6) hx hb hts (by decide +kernel) hown hK hP kk_1 hk_2 rfl 3 (by decide) (hts (.fieldLink RX8 22 "PageOne$Piece" "line" "I") (by decide +kernel)) (fun _ h9 => h9) rfl dX8_isOverOrUnder_1 ?_
  refine lv_aload_n hx hb dX8_isOverOrUnder_4 rfl (lv_at hl 0 rfl) ?_
  obtain ⟨kk_3, hk_4⟩ := pl_at hpa.1.1 (x_pcF hI hpa)
  refine va_get (D := (dC, dI)) (ci := 7) (v := .int N) (C := RX8) (T := TX8) (N := 6) hx hb hts (by decide +kernel) hown hK hP kk_3 hk_4 rfl 5 (by decide) (hts (.fieldLink RX8 28 "PageOne$Piece" "h" "I") (by decide +kernel)) (fun _ h9 => h9) rfl dX8_isOverOrUnder_5 ?_
  refine lv_iadd hx hb dX8_isOverOrUnder_8 ?_
  refine lv_aload_n hx hb dX8_isOverOrUnder_9 rfl (lv_at hl 1 rfl) ?_
  obtain ⟨kk_5, hk_6⟩ := pl_at hpb.1.1 (x_pcF hI hpb)
  refine va_get (D := (dC, dI)) (ci := 7) (v := .int Y2) (C := RX8) (T := TX8) (N := 6) hx hb hts (by decide +kernel) hown hK hP kk_5 hk_6 rfl 3 (by decide) (hts (.fieldLink RX8 22 "PageOne$Piece" "line" "I") (by decide +kernel)) (fun _ h9 => h9) rfl dX8_isOverOrUnder_10 ?_
  refine lv_icmp_eq (tgt := 32) hx hb dX8_isOverOrUnder_13 (by decide) (fun c_7 => ?_) (fun c_7 => ?_)
  ·
    refine lv_iconst (v := 1) hx hb dX8_isOverOrUnder_32 (by decide) ?_
    refine lv_goto (tgt := 37) hx hb dX8_isOverOrUnder_33 (by decide) ?_
    refine lv_istore_n (lv' := [(2, .int 1), (0, .ref a0), (1, .ref b0)]) hx hb dX8_isOverOrUnder_37 rfl hl (by decide) rfl (fun ls hl => ?_)
    refine lv_aload_n hx hb dX8_isOverOrUnder_38 rfl (lv_at hl 1 rfl) ?_
    obtain ⟨kk_8, hk_9⟩ := pl_at hpa.1.1 (x_pcF hI hpa)
    refine va_get (D := (dC, dI)) (ci := 7) (v := .int P) (C := RX8) (T := TX8) (N := 6) hx hb hts (by decide +kernel) hown hK hP kk_8 hk_9 rfl 1 (by decide) (hts (.fieldLink RX8 15 "PageOne$Piece" "page" "I") (by decide +kernel)) (fun _ h9 => h9) rfl dX8_isOverOrUnder_39 ?_
    refine lv_aload_n hx hb dX8_isOverOrUnder_42 rfl (lv_at hl 2 rfl) ?_
    obtain ⟨kk_10, hk_11⟩ := pl_at hpb.1.1 (x_pcF hI hpb)
    refine va_get (D := (dC, dI)) (ci := 7) (v := .int P2) (C := RX8) (T := TX8) (N := 6) hx hb hts (by decide +kernel) hown hK hP kk_10 hk_11 rfl 1 (by decide) (hts (.fieldLink RX8 15 "PageOne$Piece" "page" "I") (by decide +kernel)) (fun _ h9 => h9) rfl dX8_isOverOrUnder_43 ?_
    refine lv_icmp_ne (tgt := 89) hx hb dX8_isOverOrUnder_46 (by decide) (fun c_12 => ?_) (fun c_12 => ?_)
    ·
      refine lv_iconst (v := 0) hx hb dX8_isOverOrUnder_89 (by decide) ?_
      exact W.zret (v := 0) hx hb hr (by decide) (fun t ht hW => ⟨_, rfl, (by unfold s_isOverOrUnder; rw [if_pos c_7, if_neg c_12]), ht⟩) (fun q h => absurd h List.not_mem_nil) dX8_isOverOrUnder_90
    ·
      refine lv_iload_n hx hb dX8_isOverOrUnder_49 rfl (lv_at hl 0 rfl) ?_
      refine lv_if_eq (tgt := 89) hx hb dX8_isOverOrUnder_50 (by decide) (fun c_13 => absurd c_13 (by decide)) (fun c_13 => ?_)
      refine lv_aload_n hx hb dX8_isOverOrUnder_53 rfl (lv_at hl 1 rfl) ?_
      obtain ⟨kk_14, hk_15⟩ := pl_at hpa.1.1 (x_pcF hI hpa)
      refine va_get (D := (dC, dI)) (ci := 7) (v := .int X) (C := RX8) (T := TX8) (N := 6) hx hb hts (by decide +kernel) hown hK hP kk_14 hk_15 rfl 2 (by decide) (hts (.fieldLink RX8 19 "PageOne$Piece" "column" "I") (by decide +kernel)) (fun _ h9 => h9) rfl dX8_isOverOrUnder_54 ?_
      refine lv_aload_n hx hb dX8_isOverOrUnder_57 rfl (lv_at hl 2 rfl) ?_
      obtain ⟨kk_16, hk_17⟩ := pl_at hpb.1.1 (x_pcF hI hpb)
      refine va_get (D := (dC, dI)) (ci := 7) (v := .int X2) (C := RX8) (T := TX8) (N := 6) hx hb hts (by decide +kernel) hown hK hP kk_16 hk_17 rfl 2 (by decide) (hts (.fieldLink RX8 19 "PageOne$Piece" "column" "I") (by decide +kernel)) (fun _ h9 => h9) rfl dX8_isOverOrUnder_58 ?_
      refine lv_aload_n hx hb dX8_isOverOrUnder_61 rfl (lv_at hl 2 rfl) ?_
      obtain ⟨kk_18, hk_19⟩ := pl_at hpb.1.1 (x_pcF hI hpb)
      refine va_get (D := (dC, dI)) (ci := 7) (v := .int D2) (C := RX8) (T := TX8) (N := 6) hx hb hts (by decide +kernel) hown hK hP kk_18 hk_19 rfl 4 (by decide) (hts (.fieldLink RX8 25 "PageOne$Piece" "w" "I") (by decide +kernel)) (fun _ h9 => h9) rfl dX8_isOverOrUnder_62 ?_
      refine lv_iadd hx hb dX8_isOverOrUnder_65 ?_
      refine lv_icmp_ge (tgt := 89) hx hb dX8_isOverOrUnder_66 (by decide) (fun c_20 => ?_) (fun c_20 => ?_)
      ·
        refine lv_iconst (v := 0) hx hb dX8_isOverOrUnder_89 (by decide) ?_
        exact W.zret (v := 0) hx hb hr (by decide) (fun t ht hW => ⟨_, rfl, (by unfold s_isOverOrUnder; rw [if_pos c_7, if_pos c_12, if_pos c_20]), ht⟩) (fun q h => absurd h List.not_mem_nil) dX8_isOverOrUnder_90
      ·
        refine lv_aload_n hx hb dX8_isOverOrUnder_69 rfl (lv_at hl 2 rfl) ?_
        obtain ⟨kk_21, hk_22⟩ := pl_at hpb.1.1 (x_pcF hI hpb)
        refine va_get (D := (dC, dI)) (ci := 7) (v := .int X2) (C := RX8) (T := TX8) (N := 6) hx hb hts (by decide +kernel) hown hK hP kk_21 hk_22 rfl 2 (by decide) (hts (.fieldLink RX8 19 "PageOne$Piece" "column" "I") (by decide +kernel)) (fun _ h9 => h9) rfl dX8_isOverOrUnder_70 ?_
        refine lv_aload_n hx hb dX8_isOverOrUnder_73 rfl (lv_at hl 1 rfl) ?_
        obtain ⟨kk_23, hk_24⟩ := pl_at hpa.1.1 (x_pcF hI hpa)
        refine va_get (D := (dC, dI)) (ci := 7) (v := .int X) (C := RX8) (T := TX8) (N := 6) hx hb hts (by decide +kernel) hown hK hP kk_23 hk_24 rfl 2 (by decide) (hts (.fieldLink RX8 19 "PageOne$Piece" "column" "I") (by decide +kernel)) (fun _ h9 => h9) rfl dX8_isOverOrUnder_74 ?_
        refine lv_aload_n hx hb dX8_isOverOrUnder_77 rfl (lv_at hl 1 rfl) ?_
        obtain ⟨kk_25, hk_26⟩ := pl_at hpa.1.1 (x_pcF hI hpa)
        refine va_get (D := (dC, dI)) (ci := 7) (v := .int D) (C := RX8) (T := TX8) (N := 6) hx hb hts (by decide +kernel) hown hK hP kk_25 hk_26 rfl 4 (by decide) (hts (.fieldLink RX8 25 "PageOne$Piece" "w" "I") (by decide +kernel)) (fun _ h9 => h9) rfl dX8_isOverOrUnder_78 ?_
        refine lv_iadd hx hb dX8_isOverOrUnder_81 ?_
        refine lv_icmp_ge (tgt := 89) hx hb dX8_isOverOrUnder_82 (by decide) (fun c_27 => ?_) (fun c_27 => ?_)
        ·
          refine lv_iconst (v := 0) hx hb dX8_isOverOrUnder_89 (by decide) ?_
          exact W.zret (v := 0) hx hb hr (by decide) (fun t ht hW => ⟨_, rfl, (by unfold s_isOverOrUnder; rw [if_pos c_7, if_pos c_12, if_neg c_20, if_pos c_27]), ht⟩) (fun q h => absurd h List.not_mem_nil) dX8_isOverOrUnder_90
        ·
          refine lv_iconst (v := 1) hx hb dX8_isOverOrUnder_85 (by decide) ?_
          refine lv_goto (tgt := 90) hx hb dX8_isOverOrUnder_86 (by decide) ?_
          exact W.zret (v := 1) hx hb hr (by decide) (fun t ht hW => ⟨_, rfl, (by unfold s_isOverOrUnder; rw [if_pos c_7, if_pos c_12, if_neg c_20, if_neg c_27]), ht⟩) (fun q h => absurd h List.not_mem_nil) dX8_isOverOrUnder_90
  ·
    refine lv_aload_n hx hb dX8_isOverOrUnder_16 rfl (lv_at hl 1 rfl) ?_
    obtain ⟨kk_28, hk_29⟩ := pl_at hpb.1.1 (x_pcF hI hpb)
    refine va_get (D := (dC, dI)) (ci := 7) (v := .int Y2) (C := RX8) (T := TX8) (N := 6) hx hb hts (by decide +kernel) hown hK hP kk_28 hk_29 rfl 3 (by decide) (hts (.fieldLink RX8 22 "PageOne$Piece" "line" "I") (by decide +kernel)) (fun _ h9 => h9) rfl dX8_isOverOrUnder_17 ?_
    refine lv_aload_n hx hb dX8_isOverOrUnder_20 rfl (lv_at hl 1 rfl) ?_
    obtain ⟨kk_30, hk_31⟩ := pl_at hpb.1.1 (x_pcF hI hpb)
    refine va_get (D := (dC, dI)) (ci := 7) (v := .int N2) (C := RX8) (T := TX8) (N := 6) hx hb hts (by decide +kernel) hown hK hP kk_30 hk_31 rfl 5 (by decide) (hts (.fieldLink RX8 28 "PageOne$Piece" "h" "I") (by decide +kernel)) (fun _ h9 => h9) rfl dX8_isOverOrUnder_21 ?_
    refine lv_iadd hx hb dX8_isOverOrUnder_24 ?_
    refine lv_aload_n hx hb dX8_isOverOrUnder_25 rfl (lv_at hl 0 rfl) ?_
    obtain ⟨kk_32, hk_33⟩ := pl_at hpa.1.1 (x_pcF hI hpa)
    refine va_get (D := (dC, dI)) (ci := 7) (v := .int Y) (C := RX8) (T := TX8) (N := 6) hx hb hts (by decide +kernel) hown hK hP kk_32 hk_33 rfl 3 (by decide) (hts (.fieldLink RX8 22 "PageOne$Piece" "line" "I") (by decide +kernel)) (fun _ h9 => h9) rfl dX8_isOverOrUnder_26 ?_
    refine lv_icmp_ne (tgt := 36) hx hb dX8_isOverOrUnder_29 (by decide) (fun c_34 => ?_) (fun c_34 => ?_)
    ·
      refine lv_iconst (v := 0) hx hb dX8_isOverOrUnder_36 (by decide) ?_
      refine lv_istore_n (lv' := [(2, .int 0), (0, .ref a0), (1, .ref b0)]) hx hb dX8_isOverOrUnder_37 rfl hl (by decide) rfl (fun ls hl => ?_)
      refine lv_aload_n hx hb dX8_isOverOrUnder_38 rfl (lv_at hl 1 rfl) ?_
      obtain ⟨kk_35, hk_36⟩ := pl_at hpa.1.1 (x_pcF hI hpa)
      refine va_get (D := (dC, dI)) (ci := 7) (v := .int P) (C := RX8) (T := TX8) (N := 6) hx hb hts (by decide +kernel) hown hK hP kk_35 hk_36 rfl 1 (by decide) (hts (.fieldLink RX8 15 "PageOne$Piece" "page" "I") (by decide +kernel)) (fun _ h9 => h9) rfl dX8_isOverOrUnder_39 ?_
      refine lv_aload_n hx hb dX8_isOverOrUnder_42 rfl (lv_at hl 2 rfl) ?_
      obtain ⟨kk_37, hk_38⟩ := pl_at hpb.1.1 (x_pcF hI hpb)
      refine va_get (D := (dC, dI)) (ci := 7) (v := .int P2) (C := RX8) (T := TX8) (N := 6) hx hb hts (by decide +kernel) hown hK hP kk_37 hk_38 rfl 1 (by decide) (hts (.fieldLink RX8 15 "PageOne$Piece" "page" "I") (by decide +kernel)) (fun _ h9 => h9) rfl dX8_isOverOrUnder_43 ?_
      refine lv_icmp_ne (tgt := 89) hx hb dX8_isOverOrUnder_46 (by decide) (fun c_39 => ?_) (fun c_39 => ?_)
      ·
        refine lv_iconst (v := 0) hx hb dX8_isOverOrUnder_89 (by decide) ?_
        exact W.zret (v := 0) hx hb hr (by decide) (fun t ht hW => ⟨_, rfl, (by unfold s_isOverOrUnder; rw [if_neg c_7, if_neg c_34, if_neg c_39]), ht⟩) (fun q h => absurd h List.not_mem_nil) dX8_isOverOrUnder_90
      ·
        refine lv_iload_n hx hb dX8_isOverOrUnder_49 rfl (lv_at hl 0 rfl) ?_
        refine lv_if_eq (tgt := 89) hx hb dX8_isOverOrUnder_50 (by decide) (fun c_40 => ?_) (fun c_40 => absurd (by decide) c_40)
        refine lv_iconst (v := 0) hx hb dX8_isOverOrUnder_89 (by decide) ?_
        exact W.zret (v := 0) hx hb hr (by decide) (fun t ht hW => ⟨_, rfl, (by unfold s_isOverOrUnder; rw [if_neg c_7, if_neg c_34, if_pos c_39]), ht⟩) (fun q h => absurd h List.not_mem_nil) dX8_isOverOrUnder_90
    ·
      refine lv_iconst (v := 1) hx hb dX8_isOverOrUnder_32 (by decide) ?_
      refine lv_goto (tgt := 37) hx hb dX8_isOverOrUnder_33 (by decide) ?_
      refine lv_istore_n (lv' := [(2, .int 1), (0, .ref a0), (1, .ref b0)]) hx hb dX8_isOverOrUnder_37 rfl hl (by decide) rfl (fun ls hl => ?_)
      refine lv_aload_n hx hb dX8_isOverOrUnder_38 rfl (lv_at hl 1 rfl) ?_
      obtain ⟨kk_41, hk_42⟩ := pl_at hpa.1.1 (x_pcF hI hpa)
      refine va_get (D := (dC, dI)) (ci := 7) (v := .int P) (C := RX8) (T := TX8) (N := 6) hx hb hts (by decide +kernel) hown hK hP kk_41 hk_42 rfl 1 (by decide) (hts (.fieldLink RX8 15 "PageOne$Piece" "page" "I") (by decide +kernel)) (fun _ h9 => h9) rfl dX8_isOverOrUnder_39 ?_
      refine lv_aload_n hx hb dX8_isOverOrUnder_42 rfl (lv_at hl 2 rfl) ?_
      obtain ⟨kk_43, hk_44⟩ := pl_at hpb.1.1 (x_pcF hI hpb)
      refine va_get (D := (dC, dI)) (ci := 7) (v := .int P2) (C := RX8) (T := TX8) (N := 6) hx hb hts (by decide +kernel) hown hK hP kk_43 hk_44 rfl 1 (by decide) (hts (.fieldLink RX8 15 "PageOne$Piece" "page" "I") (by decide +kernel)) (fun _ h9 => h9) rfl dX8_isOverOrUnder_43 ?_
      refine lv_icmp_ne (tgt := 89) hx hb dX8_isOverOrUnder_46 (by decide) (fun c_45 => ?_) (fun c_45 => ?_)
      ·
        refine lv_iconst (v := 0) hx hb dX8_isOverOrUnder_89 (by decide) ?_
        exact W.zret (v := 0) hx hb hr (by decide) (fun t ht hW => ⟨_, rfl, (by unfold s_isOverOrUnder; rw [if_neg c_7, if_pos c_34, if_neg c_45]), ht⟩) (fun q h => absurd h List.not_mem_nil) dX8_isOverOrUnder_90
      ·
        refine lv_iload_n hx hb dX8_isOverOrUnder_49 rfl (lv_at hl 0 rfl) ?_
        refine lv_if_eq (tgt := 89) hx hb dX8_isOverOrUnder_50 (by decide) (fun c_46 => absurd c_46 (by decide)) (fun c_46 => ?_)
        refine lv_aload_n hx hb dX8_isOverOrUnder_53 rfl (lv_at hl 1 rfl) ?_
        obtain ⟨kk_47, hk_48⟩ := pl_at hpa.1.1 (x_pcF hI hpa)
        refine va_get (D := (dC, dI)) (ci := 7) (v := .int X) (C := RX8) (T := TX8) (N := 6) hx hb hts (by decide +kernel) hown hK hP kk_47 hk_48 rfl 2 (by decide) (hts (.fieldLink RX8 19 "PageOne$Piece" "column" "I") (by decide +kernel)) (fun _ h9 => h9) rfl dX8_isOverOrUnder_54 ?_
        refine lv_aload_n hx hb dX8_isOverOrUnder_57 rfl (lv_at hl 2 rfl) ?_
        obtain ⟨kk_49, hk_50⟩ := pl_at hpb.1.1 (x_pcF hI hpb)
        refine va_get (D := (dC, dI)) (ci := 7) (v := .int X2) (C := RX8) (T := TX8) (N := 6) hx hb hts (by decide +kernel) hown hK hP kk_49 hk_50 rfl 2 (by decide) (hts (.fieldLink RX8 19 "PageOne$Piece" "column" "I") (by decide +kernel)) (fun _ h9 => h9) rfl dX8_isOverOrUnder_58 ?_
        refine lv_aload_n hx hb dX8_isOverOrUnder_61 rfl (lv_at hl 2 rfl) ?_
        obtain ⟨kk_51, hk_52⟩ := pl_at hpb.1.1 (x_pcF hI hpb)
        refine va_get (D := (dC, dI)) (ci := 7) (v := .int D2) (C := RX8) (T := TX8) (N := 6) hx hb hts (by decide +kernel) hown hK hP kk_51 hk_52 rfl 4 (by decide) (hts (.fieldLink RX8 25 "PageOne$Piece" "w" "I") (by decide +kernel)) (fun _ h9 => h9) rfl dX8_isOverOrUnder_62 ?_
        refine lv_iadd hx hb dX8_isOverOrUnder_65 ?_
        refine lv_icmp_ge (tgt := 89) hx hb dX8_isOverOrUnder_66 (by decide) (fun c_53 => ?_) (fun c_53 => ?_)
        ·
          refine lv_iconst (v := 0) hx hb dX8_isOverOrUnder_89 (by decide) ?_
          exact W.zret (v := 0) hx hb hr (by decide) (fun t ht hW => ⟨_, rfl, (by unfold s_isOverOrUnder; rw [if_neg c_7, if_pos c_34, if_pos c_45, if_pos c_53]), ht⟩) (fun q h => absurd h List.not_mem_nil) dX8_isOverOrUnder_90
        ·
          refine lv_aload_n hx hb dX8_isOverOrUnder_69 rfl (lv_at hl 2 rfl) ?_
          obtain ⟨kk_54, hk_55⟩ := pl_at hpb.1.1 (x_pcF hI hpb)
          refine va_get (D := (dC, dI)) (ci := 7) (v := .int X2) (C := RX8) (T := TX8) (N := 6) hx hb hts (by decide +kernel) hown hK hP kk_54 hk_55 rfl 2 (by decide) (hts (.fieldLink RX8 19 "PageOne$Piece" "column" "I") (by decide +kernel)) (fun _ h9 => h9) rfl dX8_isOverOrUnder_70 ?_
          refine lv_aload_n hx hb dX8_isOverOrUnder_73 rfl (lv_at hl 1 rfl) ?_
          obtain ⟨kk_56, hk_57⟩ := pl_at hpa.1.1 (x_pcF hI hpa)
          refine va_get (D := (dC, dI)) (ci := 7) (v := .int X) (C := RX8) (T := TX8) (N := 6) hx hb hts (by decide +kernel) hown hK hP kk_56 hk_57 rfl 2 (by decide) (hts (.fieldLink RX8 19 "PageOne$Piece" "column" "I") (by decide +kernel)) (fun _ h9 => h9) rfl dX8_isOverOrUnder_74 ?_
          refine lv_aload_n hx hb dX8_isOverOrUnder_77 rfl (lv_at hl 1 rfl) ?_
          obtain ⟨kk_58, hk_59⟩ := pl_at hpa.1.1 (x_pcF hI hpa)
          refine va_get (D := (dC, dI)) (ci := 7) (v := .int D) (C := RX8) (T := TX8) (N := 6) hx hb hts (by decide +kernel) hown hK hP kk_58 hk_59 rfl 4 (by decide) (hts (.fieldLink RX8 25 "PageOne$Piece" "w" "I") (by decide +kernel)) (fun _ h9 => h9) rfl dX8_isOverOrUnder_78 ?_
          refine lv_iadd hx hb dX8_isOverOrUnder_81 ?_
          refine lv_icmp_ge (tgt := 89) hx hb dX8_isOverOrUnder_82 (by decide) (fun c_60 => ?_) (fun c_60 => ?_)
          ·
            refine lv_iconst (v := 0) hx hb dX8_isOverOrUnder_89 (by decide) ?_
            exact W.zret (v := 0) hx hb hr (by decide) (fun t ht hW => ⟨_, rfl, (by unfold s_isOverOrUnder; rw [if_neg c_7, if_pos c_34, if_pos c_45, if_neg c_53, if_pos c_60]), ht⟩) (fun q h => absurd h List.not_mem_nil) dX8_isOverOrUnder_90
          ·
            refine lv_iconst (v := 1) hx hb dX8_isOverOrUnder_85 (by decide) ?_
            refine lv_goto (tgt := 90) hx hb dX8_isOverOrUnder_86 (by decide) ?_
            exact W.zret (v := 1) hx hb hr (by decide) (fun t ht hW => ⟨_, rfl, (by unfold s_isOverOrUnder; rw [if_neg c_7, if_pos c_34, if_pos c_45, if_neg c_53, if_neg c_60]), ht⟩) (fun q h => absurd h List.not_mem_nil) dX8_isOverOrUnder_90
