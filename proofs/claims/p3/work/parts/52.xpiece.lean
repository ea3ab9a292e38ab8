set_option maxHeartbeats 4000000 in
set_option maxRecDepth 100000 in
theorem x_isBehind (l : Launch) (dC : Nat → ClassId) (dI : Nat → Nat → Nat) (q : Nat → ClassId) (h0 : Nat) (d : Nat → Nat) (k : Nat → Int32) (z : gS) (f : xF) (hI : xI q h0 d k z f) (a0 b0 : Nat) (ha0 : tg z a0 22) (hb0 : tg z b0 22) : Met l yX8_isBehind wsX8_isBehind ({ frames := 0, cells := 0, slots := 0, locals := 0 }) (va_Pc [.ref a0, .ref b0] (PX dC dI (va_pl z.1 f) (xT q))) (vp_Si (fun r => r = 0 ∨ r = 1)) 0 0 (fun _ => False) := by
  refine Met.ofW (cc := cX8_isBehind) (maxL := 2) (ret := (some .boolean)) (by decide) rfl ?_
  intro p e s m args below meth c s₁ B hml hv
  obtain ⟨rfl, ⟨hP, hK, hN⟩, hXN⟩ := hv
  have hx := B.exec
  have hb := B.bytes
  have hr := B.returns
  have hts := atoms_spec (ws := wsX8_isBehind) B.pre
  have hown : s.vm.findClass RX8 = some m.cls := findClass_of_methodNamed B.named
  have hlocks := B.notSynchronized
  have hl := lv_entry ([.ref a0, .ref b0]) (n := 2) (Nat.le_of_ble_eq_true rfl)
  rw [lg_entry_eq]
  generalize (lg_sl ([.ref a0, .ref b0]) ++ List.replicate (2 - (lg_sl ([.ref a0, .ref b0])).length) Slot.unset).toArray = ls at hl ⊢
  have hl : lv_has ls 2 [(0, .ref a0), (1, .ref b0)] := hl
  refine lv_aload_n hx hb dX8_isBehind_0 rfl (lv_at hl 0 rfl) ?_
  obtain ⟨it_1, P_2, X_3, Y_4, D_5, N_6, hp_7, hb_8, hb_9⟩ := x_pcS hI ha0
  obtain ⟨kk_10, hk_11⟩ := pl_at hp_7.1.1 (x_pcF hI hp_7)
  refine va_get (D := (dC, dI)) (ci := 7) (v := .int P_2) (C := RX8) (T := TX8) (N := 6) hx hb hts (by decide +kernel) hown hK hP kk_10 hk_11 rfl 1 (by decide) (hts (.fieldLink RX8 15 "PageOne$Piece" "page" "I") (by decide +kernel)) (fun _ h9 => h9) rfl dX8_isBehind_1 ?_
  refine lv_aload_n hx hb dX8_isBehind_4 rfl (lv_at hl 1 rfl) ?_
  obtain ⟨it_12, P_13, X_14, Y_15, D_16, N_17, hp_18, hb_19, hb_20⟩ := x_pcS hI hb0
  obtain ⟨kk_21, hk_22⟩ := pl_at hp_18.1.1 (x_pcF hI hp_18)
  refine va_get (D := (dC, dI)) (ci := 7) (v := .int P_13) (C := RX8) (T := TX8) (N := 6) hx hb hts (by decide +kernel) hown hK hP kk_21 hk_22 rfl 1 (by decide) (hts (.fieldLink RX8 15 "PageOne$Piece" "page" "I") (by decide +kernel)) (fun _ h9 => h9) rfl dX8_isBehind_5 ?_
  refine lv_icmp_eq (tgt := 28) hx hb dX8_isBehind_8 (by decide) (fun c_23 => ?_) (fun c_23 => ?_)
  ·
    refine lv_aload_n hx hb dX8_isBehind_28 rfl (lv_at hl 0 rfl) ?_
    obtain ⟨kk_24, hk_25⟩ := pl_at hp_7.1.1 (x_pcF hI hp_7)
    refine va_get (D := (dC, dI)) (ci := 7) (v := .int X_3) (C := RX8) (T := TX8) (N := 6) hx hb hts (by decide +kernel) hown hK hP kk_24 hk_25 rfl 2 (by decide) (hts (.fieldLink RX8 19 "PageOne$Piece" "column" "I") (by decide +kernel)) (fun _ h9 => h9) rfl dX8_isBehind_29 ?_
    refine lv_aload_n hx hb dX8_isBehind_32 rfl (lv_at hl 1 rfl) ?_
    obtain ⟨kk_26, hk_27⟩ := pl_at hp_18.1.1 (x_pcF hI hp_18)
    refine va_get (D := (dC, dI)) (ci := 7) (v := .int X_14) (C := RX8) (T := TX8) (N := 6) hx hb hts (by decide +kernel) hown hK hP kk_26 hk_27 rfl 2 (by decide) (hts (.fieldLink RX8 19 "PageOne$Piece" "column" "I") (by decide +kernel)) (fun _ h9 => h9) rfl dX8_isBehind_33 ?_
    refine lv_icmp_gt (tgt := 66) hx hb dX8_isBehind_36 (by decide) (fun c_28 => ?_) (fun c_28 => ?_)
    ·
      refine lv_iconst (v := 1) hx hb dX8_isBehind_66 (by decide) ?_
      refine lv_goto (tgt := 71) hx hb dX8_isBehind_67 (by decide) ?_
      exact W.zret (v := 1) hx hb hr (by decide) (fun t ht hW => ⟨_, rfl, (by decide), ht⟩) (fun q h => absurd h List.not_mem_nil) dX8_isBehind_71
    ·
      refine lv_aload_n hx hb dX8_isBehind_39 rfl (lv_at hl 0 rfl) ?_
      obtain ⟨kk_29, hk_30⟩ := pl_at hp_7.1.1 (x_pcF hI hp_7)
      refine va_get (D := (dC, dI)) (ci := 7) (v := .int X_3) (C := RX8) (T := TX8) (N := 6) hx hb hts (by decide +kernel) hown hK hP kk_29 hk_30 rfl 2 (by decide) (hts (.fieldLink RX8 19 "PageOne$Piece" "column" "I") (by decide +kernel)) (fun _ h9 => h9) rfl dX8_isBehind_40 ?_
      refine lv_aload_n hx hb dX8_isBehind_43 rfl (lv_at hl 1 rfl) ?_
      obtain ⟨kk_31, hk_32⟩ := pl_at hp_18.1.1 (x_pcF hI hp_18)
      refine va_get (D := (dC, dI)) (ci := 7) (v := .int X_14) (C := RX8) (T := TX8) (N := 6) hx hb hts (by decide +kernel) hown hK hP kk_31 hk_32 rfl 2 (by decide) (hts (.fieldLink RX8 19 "PageOne$Piece" "column" "I") (by decide +kernel)) (fun _ h9 => h9) rfl dX8_isBehind_44 ?_
      refine lv_icmp_ne (tgt := 70) hx hb dX8_isBehind_47 (by decide) (fun c_33 => ?_) (fun c_33 => ?_)
      ·
        refine lv_iconst (v := 0) hx hb dX8_isBehind_70 (by decide) ?_
        exact W.zret (v := 0) hx hb hr (by decide) (fun t ht hW => ⟨_, rfl, (by decide), ht⟩) (fun q h => absurd h List.not_mem_nil) dX8_isBehind_71
      ·
        refine lv_aload_n hx hb dX8_isBehind_50 rfl (lv_at hl 0 rfl) ?_
        obtain ⟨kk_34, hk_35⟩ := pl_at hp_7.1.1 (x_pcF hI hp_7)
        refine va_get (D := (dC, dI)) (ci := 7) (v := .int Y_4) (C := RX8) (T := TX8) (N := 6) hx hb hts (by decide +kernel) hown hK hP kk_34 hk_35 rfl 3 (by decide) (hts (.fieldLink RX8 22 "PageOne$Piece" "line" "I") (by decide +kernel)) (fun _ h9 => h9) rfl dX8_isBehind_51 ?_
        refine lv_aload_n hx hb dX8_isBehind_54 rfl (lv_at hl 1 rfl) ?_
        obtain ⟨kk_36, hk_37⟩ := pl_at hp_18.1.1 (x_pcF hI hp_18)
        refine va_get (D := (dC, dI)) (ci := 7) (v := .int Y_15) (C := RX8) (T := TX8) (N := 6) hx hb hts (by decide +kernel) hown hK hP kk_36 hk_37 rfl 3 (by decide) (hts (.fieldLink RX8 22 "PageOne$Piece" "line" "I") (by decide +kernel)) (fun _ h9 => h9) rfl dX8_isBehind_55 ?_
        refine lv_aload_n hx hb dX8_isBehind_58 rfl (lv_at hl 1 rfl) ?_
        obtain ⟨kk_38, hk_39⟩ := pl_at hp_18.1.1 (x_pcF hI hp_18)
        refine va_get (D := (dC, dI)) (ci := 7) (v := .int N_17) (C := RX8) (T := TX8) (N := 6) hx hb hts (by decide +kernel) hown hK hP kk_38 hk_39 rfl 5 (by decide) (hts (.fieldLink RX8 28 "PageOne$Piece" "h" "I") (by decide +kernel)) (fun _ h9 => h9) rfl dX8_isBehind_59 ?_
        refine lv_iadd hx hb dX8_isBehind_62 ?_
        refine lv_icmp_lt (tgt := 70) hx hb dX8_isBehind_63 (by decide) (fun c_40 => ?_) (fun c_40 => ?_)
        ·
          refine lv_iconst (v := 0) hx hb dX8_isBehind_70 (by decide) ?_
          exact W.zret (v := 0) hx hb hr (by decide) (fun t ht hW => ⟨_, rfl, (by decide), ht⟩) (fun q h => absurd h List.not_mem_nil) dX8_isBehind_71
        ·
          refine lv_iconst (v := 1) hx hb dX8_isBehind_66 (by decide) ?_
          refine lv_goto (tgt := 71) hx hb dX8_isBehind_67 (by decide) ?_
          exact W.zret (v := 1) hx hb hr (by decide) (fun t ht hW => ⟨_, rfl, (by decide), ht⟩) (fun q h => absurd h List.not_mem_nil) dX8_isBehind_71
  ·
    refine lv_aload_n hx hb dX8_isBehind_11 rfl (lv_at hl 0 rfl) ?_
    obtain ⟨kk_41, hk_42⟩ := pl_at hp_7.1.1 (x_pcF hI hp_7)
    refine va_get (D := (dC, dI)) (ci := 7) (v := .int P_2) (C := RX8) (T := TX8) (N := 6) hx hb hts (by decide +kernel) hown hK hP kk_41 hk_42 rfl 1 (by decide) (hts (.fieldLink RX8 15 "PageOne$Piece" "page" "I") (by decide +kernel)) (fun _ h9 => h9) rfl dX8_isBehind_12 ?_
    refine lv_aload_n hx hb dX8_isBehind_15 rfl (lv_at hl 1 rfl) ?_
    obtain ⟨kk_43, hk_44⟩ := pl_at hp_18.1.1 (x_pcF hI hp_18)
    refine va_get (D := (dC, dI)) (ci := 7) (v := .int P_13) (C := RX8) (T := TX8) (N := 6) hx hb hts (by decide +kernel) hown hK hP kk_43 hk_44 rfl 1 (by decide) (hts (.fieldLink RX8 15 "PageOne$Piece" "page" "I") (by decide +kernel)) (fun _ h9 => h9) rfl dX8_isBehind_16 ?_
    refine lv_icmp_le (tgt := 26) hx hb dX8_isBehind_19 (by decide) (fun c_45 => ?_) (fun c_45 => ?_)
    ·
      refine lv_iconst (v := 0) hx hb dX8_isBehind_26 (by decide) ?_
      exact W.zret (v := 0) hx hb hr (by decide) (fun t ht hW => ⟨_, rfl, (by decide), ht⟩) (fun q h => absurd h List.not_mem_nil) dX8_isBehind_27
    ·
      refine lv_iconst (v := 1) hx hb dX8_isBehind_22 (by decide) ?_
      refine lv_goto (tgt := 27) hx hb dX8_isBehind_23 (by decide) ?_
      exact W.zret (v := 1) hx hb hr (by decide) (fun t ht hW => ⟨_, rfl, (by decide), ht⟩) (fun q h => absurd h List.not_mem_nil) dX8_isBehind_27
set_option maxHeartbeats 4000000 in
set_option maxRecDepth 100000 in
theorem x_startsWith (l : Launch) (dC : Nat → ClassId) (dI : Nat → Nat → Nat) (q : Nat → ClassId) (h0 : Nat) (d : Nat → Nat) (k : Nat → Int32) (z : gS) (f : xF) (hI : xI q h0 d k z f) (a0 b0 : Nat) (ha0 : tg z a0 22) (hb0 : tg z b0 22) : Met l yX8_startsWith wsX8_startsWith ({ frames := 0, cells := 0, slots := 0, locals := 0 }) (va_Pc [.ref a0, .ref b0] (PX dC dI (va_pl z.1 f) (xT q))) (vp_Si (fun r => r = 0 ∨ r = 1)) 0 0 (fun _ => False) := by
  refine Met.ofW (cc := cX8_startsWith) (maxL := 2) (ret := (some .boolean)) (by decide) rfl ?_
  intro p e s m args below meth c s₁ B hml hv
  obtain ⟨rfl, ⟨hP, hK, hN⟩, hXN⟩ := hv
  have hx := B.exec
  have hb := B.bytes
  have hr := B.returns
  have hts := atoms_spec (ws := wsX8_startsWith) B.pre
  have hown : s.vm.findClass RX8 = some m.cls := findClass_of_methodNamed B.named
  have hlocks := B.notSynchronized
  have hl := lv_entry ([.ref a0, .ref b0]) (n := 2) (Nat.le_of_ble_eq_true rfl)
  rw [lg_entry_eq]
  generalize (lg_sl ([.ref a0, .ref b0]) ++ List.replicate (2 - (lg_sl ([.ref a0, .ref b0])).length) Slot.unset).toArray = ls at hl ⊢
  have hl : lv_has ls 2 [(0, .ref a0), (1, .ref b0)] := hl
  refine lv_aload_n hx hb dX8_startsWith_0 rfl (lv_at hl 0 rfl) ?_
  obtain ⟨it_1, P_2, X_3, Y_4, D_5, N_6, hp_7, hb_8, hb_9⟩ := x_pcS hI ha0
  obtain ⟨kk_10, hk_11⟩ := pl_at hp_7.1.1 (x_pcF hI hp_7)
  refine va_get (D := (dC, dI)) (ci := 7) (v := .int P_2) (C := RX8) (T := TX8) (N := 6) hx hb hts (by decide +kernel) hown hK hP kk_10 hk_11 rfl 1 (by decide) (hts (.fieldLink RX8 15 "PageOne$Piece" "page" "I") (by decide +kernel)) (fun _ h9 => h9) rfl dX8_startsWith_1 ?_
  refine lv_aload_n hx hb dX8_startsWith_4 rfl (lv_at hl 1 rfl) ?_
  obtain ⟨it_12, P_13, X_14, Y_15, D_16, N_17, hp_18, hb_19, hb_20⟩ := x_pcS hI hb0
  obtain ⟨kk_21, hk_22⟩ := pl_at hp_18.1.1 (x_pcF hI hp_18)
  refine va_get (D := (dC, dI)) (ci := 7) (v := .int P_13) (C := RX8) (T := TX8) (N := 6) hx hb hts (by decide +kernel) hown hK hP kk_21 hk_22 rfl 1 (by decide) (hts (.fieldLink RX8 15 "PageOne$Piece" "page" "I") (by decide +kernel)) (fun _ h9 => h9) rfl dX8_startsWith_5 ?_
  refine lv_icmp_ne (tgt := 37) hx hb dX8_startsWith_8 (by decide) (fun c_23 => ?_) (fun c_23 => ?_)
  ·
    refine lv_iconst (v := 0) hx hb dX8_startsWith_37 (by decide) ?_
    exact W.zret (v := 0) hx hb hr (by decide) (fun t ht hW => ⟨_, rfl, (by decide), ht⟩) (fun q h => absurd h List.not_mem_nil) dX8_startsWith_38
  ·
    refine lv_aload_n hx hb dX8_startsWith_11 rfl (lv_at hl 0 rfl) ?_
    obtain ⟨kk_24, hk_25⟩ := pl_at hp_7.1.1 (x_pcF hI hp_7)
    refine va_get (D := (dC, dI)) (ci := 7) (v := .int X_3) (C := RX8) (T := TX8) (N := 6) hx hb hts (by decide +kernel) hown hK hP kk_24 hk_25 rfl 2 (by decide) (hts (.fieldLink RX8 19 "PageOne$Piece" "column" "I") (by decide +kernel)) (fun _ h9 => h9) rfl dX8_startsWith_12 ?_
    refine lv_aload_n hx hb dX8_startsWith_15 rfl (lv_at hl 1 rfl) ?_
    obtain ⟨kk_26, hk_27⟩ := pl_at hp_18.1.1 (x_pcF hI hp_18)
    refine va_get (D := (dC, dI)) (ci := 7) (v := .int X_14) (C := RX8) (T := TX8) (N := 6) hx hb hts (by decide +kernel) hown hK hP kk_26 hk_27 rfl 2 (by decide) (hts (.fieldLink RX8 19 "PageOne$Piece" "column" "I") (by decide +kernel)) (fun _ h9 => h9) rfl dX8_startsWith_16 ?_
    refine lv_icmp_ne (tgt := 37) hx hb dX8_startsWith_19 (by decide) (fun c_28 => ?_) (fun c_28 => ?_)
    ·
      refine lv_iconst (v := 0) hx hb dX8_startsWith_37 (by decide) ?_
      exact W.zret (v := 0) hx hb hr (by decide) (fun t ht hW => ⟨_, rfl, (by decide), ht⟩) (fun q h => absurd h List.not_mem_nil) dX8_startsWith_38
    ·
      refine lv_aload_n hx hb dX8_startsWith_22 rfl (lv_at hl 0 rfl) ?_
      obtain ⟨kk_29, hk_30⟩ := pl_at hp_7.1.1 (x_pcF hI hp_7)
      refine va_get (D := (dC, dI)) (ci := 7) (v := .int Y_4) (C := RX8) (T := TX8) (N := 6) hx hb hts (by decide +kernel) hown hK hP kk_29 hk_30 rfl 3 (by decide) (hts (.fieldLink RX8 22 "PageOne$Piece" "line" "I") (by decide +kernel)) (fun _ h9 => h9) rfl dX8_startsWith_23 ?_
      refine lv_aload_n hx hb dX8_startsWith_26 rfl (lv_at hl 1 rfl) ?_
      obtain ⟨kk_31, hk_32⟩ := pl_at hp_18.1.1 (x_pcF hI hp_18)
      refine va_get (D := (dC, dI)) (ci := 7) (v := .int Y_15) (C := RX8) (T := TX8) (N := 6) hx hb hts (by decide +kernel) hown hK hP kk_31 hk_32 rfl 3 (by decide) (hts (.fieldLink RX8 22 "PageOne$Piece" "line" "I") (by decide +kernel)) (fun _ h9 => h9) rfl dX8_startsWith_27 ?_
      refine lv_icmp_ne (tgt := 37) hx hb dX8_startsWith_30 (by decide) (fun c_33 => ?_) (fun c_33 => ?_)
      ·
        refine lv_iconst (v := 0) hx hb dX8_startsWith_37 (by decide) ?_
        exact W.zret (v := 0) hx hb hr (by decide) (fun t ht hW => ⟨_, rfl, (by decide), ht⟩) (fun q h => absurd h List.not_mem_nil) dX8_startsWith_38
      ·
        refine lv_iconst (v := 1) hx hb dX8_startsWith_33 (by decide) ?_
        refine lv_goto (tgt := 38) hx hb dX8_startsWith_34 (by decide) ?_
        exact W.zret (v := 1) hx hb hr (by decide) (fun t ht hW => ⟨_, rfl, (by decide), ht⟩) (fun q h => absurd h List.not_mem_nil) dX8_startsWith_38
set_option maxHeartbeats 4000000 in
set_option maxRecDepth 100000 in
theorem x_isBeside (l : Launch) (dC : Nat → ClassId) (dI : Nat → Nat → Nat) (q : Nat → ClassId) (h0 : Nat) (d : Nat → Nat) (k : Nat → Int32) (z : gS) (f : xF) (hI : xI q h0 d k z f) (a0 b0 : Nat) (ha0 : tg z a0 22) (hb0 : tg z b0 22) : Met l yX8_isBeside wsX8_isBeside ({ frames := 0, cells := 0, slots := 0, locals := 0 }) (va_Pc [.ref a0, .ref b0] (PX dC dI (va_pl z.1 f) (xT q))) (vp_Si (fun r => r = 0 ∨ r = 1)) 0 0 (fun _ => False) := by
  refine Met.ofW (cc := cX8_isBeside) (maxL := 3) (ret := (some .boolean)) (by decide) rfl ?_
  intro p e s m args below meth c s₁ B hml hv
  obtain ⟨rfl, ⟨hP, hK, hN⟩, hXN⟩ := hv
  have hx := B.exec
  have hb := B.bytes
  have hr := B.returns
  have hts := atoms_spec (ws := wsX8_isBeside) B.pre
  have hown : s.vm.findClass RX8 = some m.cls := findClass_of_methodNamed B.named
  have hlocks := B.notSynchronized
  have hl := lv_entry ([.ref a0, .ref b0]) (n := 3) (Nat.le_of_ble_eq_true rfl)
  rw [lg_entry_eq]
  generalize (lg_sl ([.ref a0, .ref b0]) ++ List.replicate (3 - (lg_sl ([.ref a0, .ref b0])).length) Slot.unset).toArray = ls at hl ⊢
  have hl : lv_has ls 3 [(0, .ref a0), (1, .ref b0)] := hl
  refine lv_aload_n hx hb dX8_isBeside_0 rfl (lv_at hl 0 rfl) ?_
  obtain ⟨it_1, P_2, X_3, Y_4, D_5, N_6, hp_7, hb_8, hb_9⟩ := x_pcS hI ha0
  obtain ⟨kk_10, hk_11⟩ := pl_at hp_7.1.1 (x_pcF hI hp_7)
  refine va_get (D := (dC, dI)) (ci := 7) (v := .int X_3) (C := RX8) (T := TX8) (N := 6) hx hb hts (by decide +kernel) hown hK hP kk_10 hk_11 rfl 2 (by decide) (hts (.fieldLink RX8 19 "PageOne$Piece" "column" "I") (by decide +kernel)) (fun _ h9 => h9) rfl dX8_isBeside_1 ?_
  refine lv_aload_n hx hb dX8_isBeside_4 rfl (lv_at hl 0 rfl) ?_
  obtain ⟨kk_12, hk_13⟩ := pl_at hp_7.1.1 (x_pcF hI hp_7)
  refine va_get (D := (dC, dI)) (ci := 7) (v := .int D_5) (C := RX8) (T := TX8) (N := 6) hx hb hts (by decide +kernel) hown hK hP kk_12 hk_13 rfl 4 (by decide) (hts (.fieldLink RX8 25 "PageOne$Piece" "w" "I") (by decide +kernel)) (fun _ h9 => h9) rfl dX8_isBeside_5 ?_
  refine lv_iadd hx hb dX8_isBeside_8 ?_
  refine lv_aload_n hx hb dX8_isBeside_9 rfl (lv_at hl 1 rfl) ?_
  obtain ⟨it_14, P_15, X_16, Y_17, D_18, N_19, hp_20, hb_21, hb_22⟩ := x_pcS hI hb0
  obtain ⟨kk_23, hk_24⟩ := pl_at hp_20.1.1 (x_pcF hI hp_20)
  refine va_get (D := (dC, dI)) (ci := 7) (v := .int X_16) (C := RX8) (T := TX8) (N := 6) hx hb hts (by decide +kernel) hown hK hP kk_23 hk_24 rfl 2 (by decide) (hts (.fieldLink RX8 19 "PageOne$Piece" "column" "I") (by decide +kernel)) (fun _ h9 => h9) rfl dX8_isBeside_10 ?_
  refine lv_icmp_eq (tgt := 32) hx hb dX8_isBeside_13 (by decide) (fun c_25 => ?_) (fun c_25 => ?_)
  ·
    refine lv_iconst (v := 1) hx hb dX8_isBeside_32 (by decide) ?_
    refine lv_goto (tgt := 37) hx hb dX8_isBeside_33 (by decide) ?_
    refine lv_istore_n (lv' := [(2, .int 1), (0, .ref a0), (1, .ref b0)]) hx hb dX8_isBeside_37 rfl hl (by decide) rfl (fun ls hl => ?_)
    refine lv_aload_n hx hb dX8_isBeside_38 rfl (lv_at hl 1 rfl) ?_
    obtain ⟨kk_26, hk_27⟩ := pl_at hp_7.1.1 (x_pcF hI hp_7)
    refine va_get (D := (dC, dI)) (ci := 7) (v := .int P_2) (C := RX8) (T := TX8) (N := 6) hx hb hts (by decide +kernel) hown hK hP kk_26 hk_27 rfl 1 (by decide) (hts (.fieldLink RX8 15 "PageOne$Piece" "page" "I") (by decide +kernel)) (fun _ h9 => h9) rfl dX8_isBeside_39 ?_
    refine lv_aload_n hx hb dX8_isBeside_42 rfl (lv_at hl 2 rfl) ?_
    obtain ⟨kk_28, hk_29⟩ := pl_at hp_20.1.1 (x_pcF hI hp_20)
    refine va_get (D := (dC, dI)) (ci := 7) (v := .int P_15) (C := RX8) (T := TX8) (N := 6) hx hb hts (by decide +kernel) hown hK hP kk_28 hk_29 rfl 1 (by decide) (hts (.fieldLink RX8 15 "PageOne$Piece" "page" "I") (by decide +kernel)) (fun _ h9 => h9) rfl dX8_isBeside_43 ?_
    refine lv_icmp_ne (tgt := 89) hx hb dX8_isBeside_46 (by decide) (fun c_30 => ?_) (fun c_30 => ?_)
    ·
      refine lv_iconst (v := 0) hx hb dX8_isBeside_89 (by decide) ?_
      exact W.zret (v := 0) hx hb hr (by decide) (fun t ht hW => ⟨_, rfl, (by decide), ht⟩) (fun q h => absurd h List.not_mem_nil) dX8_isBeside_90
    ·
      refine lv_iload_n hx hb dX8_isBeside_49 rfl (lv_at hl 0 rfl) ?_
      refine lv_if_eq (tgt := 89) hx hb dX8_isBeside_50 (by decide) (fun c_31 => absurd c_31 (by decide)) (fun c_31 => ?_)
      refine lv_aload_n hx hb dX8_isBeside_53 rfl (lv_at hl 1 rfl) ?_
      obtain ⟨kk_32, hk_33⟩ := pl_at hp_7.1.1 (x_pcF hI hp_7)
      refine va_get (D := (dC, dI)) (ci := 7) (v := .int Y_4) (C := RX8) (T := TX8) (N := 6) hx hb hts (by decide +kernel) hown hK hP kk_32 hk_33 rfl 3 (by decide) (hts (.fieldLink RX8 22 "PageOne$Piece" "line" "I") (by decide +kernel)) (fun _ h9 => h9) rfl dX8_isBeside_54 ?_
      refine lv_aload_n hx hb dX8_isBeside_57 rfl (lv_at hl 2 rfl) ?_
      obtain ⟨kk_34, hk_35⟩ := pl_at hp_20.1.1 (x_pcF hI hp_20)
      refine va_get (D := (dC, dI)) (ci := 7) (v := .int Y_17) (C := RX8) (T := TX8) (N := 6) hx hb hts (by decide +kernel) hown hK hP kk_34 hk_35 rfl 3 (by decide) (hts (.fieldLink RX8 22 "PageOne$Piece" "line" "I") (by decide +kernel)) (fun _ h9 => h9) rfl dX8_isBeside_58 ?_
      refine lv_aload_n hx hb dX8_isBeside_61 rfl (lv_at hl 2 rfl) ?_
      obtain ⟨kk_36, hk_37⟩ := pl_at hp_20.1.1 (x_pcF hI hp_20)
      refine va_get (D := (dC, dI)) (ci := 7) (v := .int N_19) (C := RX8) (T := TX8) (N := 6) hx hb hts (by decide +kernel) hown hK hP kk_36 hk_37 rfl 5 (by decide) (hts (.fieldLink RX8 28 "PageOne$Piece" "h" "I") (by decide +kernel)) (fun _ h9 => h9) rfl dX8_isBeside_62 ?_
      refine lv_iadd hx hb dX8_isBeside_65 ?_
      refine lv_icmp_ge (tgt := 89) hx hb dX8_isBeside_66 (by decide) (fun c_38 => ?_) (fun c_38 => ?_)
      ·
        refine lv_iconst (v := 0) hx hb dX8_isBeside_89 (by decide) ?_
        exact W.zret (v := 0) hx hb hr (by decide) (fun t ht hW => ⟨_, rfl, (by decide), ht⟩) (fun q h => absurd h List.not_mem_nil) dX8_isBeside_90
      ·
        refine lv_aload_n hx hb dX8_isBeside_69 rfl (lv_at hl 2 rfl) ?_
        obtain ⟨kk_39, hk_40⟩ := pl_at hp_20.1.1 (x_pcF hI hp_20)
        refine va_get (D := (dC, dI)) (ci := 7) (v := .int Y_17) (C := RX8) (T := TX8) (N := 6) hx hb hts (by decide +kernel) hown hK hP kk_39 hk_40 rfl 3 (by decide) (hts (.fieldLink RX8 22 "PageOne$Piece" "line" "I") (by decide +kernel)) (fun _ h9 => h9) rfl dX8_isBeside_70 ?_
        refine lv_aload_n hx hb dX8_isBeside_73 rfl (lv_at hl 1 rfl) ?_
        obtain ⟨kk_41, hk_42⟩ := pl_at hp_7.1.1 (x_pcF hI hp_7)
        refine va_get (D := (dC, dI)) (ci := 7) (v := .int Y_4) (C := RX8) (T := TX8) (N := 6) hx hb hts (by decide +kernel) hown hK hP kk_41 hk_42 rfl 3 (by decide) (hts (.fieldLink RX8 22 "PageOne$Piece" "line" "I") (by decide +kernel)) (fun _ h9 => h9) rfl dX8_isBeside_74 ?_
        refine lv_aload_n hx hb dX8_isBeside_77 rfl (lv_at hl 1 rfl) ?_
        obtain ⟨kk_43, hk_44⟩ := pl_at hp_7.1.1 (x_pcF hI hp_7)
        refine va_get (D := (dC, dI)) (ci := 7) (v := .int N_6) (C := RX8) (T := TX8) (N := 6) hx hb hts (by decide +kernel) hown hK hP kk_43 hk_44 rfl 5 (by decide) (hts (.fieldLink RX8 28 "PageOne$Piece" "h" "I") (by decide +kernel)) (fun _ h9 => h9) rfl dX8_isBeside_78 ?_
        refine lv_iadd hx hb dX8_isBeside_81 ?_
        refine lv_icmp_ge (tgt := 89) hx hb dX8_isBeside_82 (by decide) (fun c_45 => ?_) (fun c_45 => ?_)
        ·
          refine lv_iconst (v := 0) hx hb dX8_isBeside_89 (by decide) ?_
          exact W.zret (v := 0) hx hb hr (by decide) (fun t ht hW => ⟨_, rfl, (by decide), ht⟩) (fun q h => absurd h List.not_mem_nil) dX8_isBeside_90
        ·
          refine lv_iconst (v := 1) hx hb dX8_isBeside_85 (by decide) ?_
          refine lv_goto (tgt := 90) hx hb dX8_isBeside_86 (by decide) ?_
          exact W.zret (v := 1) hx hb hr (by decide) (fun t ht hW => ⟨_, rfl, (by decide), ht⟩) (fun q h => absurd h List.not_mem_nil) dX8_isBeside_90
  ·
    refine lv_aload_n hx hb dX8_isBeside_16 rfl (lv_at hl 1 rfl) ?_
    obtain ⟨kk_46, hk_47⟩ := pl_at hp_20.1.1 (x_pcF hI hp_20)
    refine va_get (D := (dC, dI)) (ci := 7) (v := .int X_16) (C := RX8) (T := TX8) (N := 6) hx hb hts (by decide +kernel) hown hK hP kk_46 hk_47 rfl 2 (by decide) (hts (.fieldLink RX8 19 "PageOne$Piece" "column" "I") (by decide +kernel)) (fun _ h9 => h9) rfl dX8_isBeside_17 ?_
    refine lv_aload_n hx hb dX8_isBeside_20 rfl (lv_at hl 1 rfl) ?_
    obtain ⟨kk_48, hk_49⟩ := pl_at hp_20.1.1 (x_pcF hI hp_20)
    refine va_get (D := (dC, dI)) (ci := 7) (v := .int D_18) (C := RX8) (T := TX8) (N := 6) hx hb hts (by decide +kernel) hown hK hP kk_48 hk_49 rfl 4 (by decide) (hts (.fieldLink RX8 25 "PageOne$Piece" "w" "I") (by decide +kernel)) (fun _ h9 => h9) rfl dX8_isBeside_21 ?_
    refine lv_iadd hx hb dX8_isBeside_24 ?_
    refine lv_aload_n hx hb dX8_isBeside_25 rfl (lv_at hl 0 rfl) ?_
    obtain ⟨kk_50, hk_51⟩ := pl_at hp_7.1.1 (x_pcF hI hp_7)
    refine va_get (D := (dC, dI)) (ci := 7) (v := .int X_3) (C := RX8) (T := TX8) (N := 6) hx hb hts (by decide +kernel) hown hK hP kk_50 hk_51 rfl 2 (by decide) (hts (.fieldLink RX8 19 "PageOne$Piece" "column" "I") (by decide +kernel)) (fun _ h9 => h9) rfl dX8_isBeside_26 ?_
    refine lv_icmp_ne (tgt := 36) hx hb dX8_isBeside_29 (by decide) (fun c_52 => ?_) (fun c_52 => ?_)
    ·
      refine lv_iconst (v := 0) hx hb dX8_isBeside_36 (by decide) ?_
      refine lv_istore_n (lv' := [(2, .int 0), (0, .ref a0), (1, .ref b0)]) hx hb dX8_isBeside_37 rfl hl (by decide) rfl (fun ls hl => ?_)
      refine lv_aload_n hx hb dX8_isBeside_38 rfl (lv_at hl 1 rfl) ?_
      obtain ⟨kk_53, hk_54⟩ := pl_at hp_7.1.1 (x_pcF hI hp_7)
      refine va_get (D := (dC, dI)) (ci := 7) (v := .int P_2) (C := RX8) (T := TX8) (N := 6) hx hb hts (by decide +kernel) hown hK hP kk_53 hk_54 rfl 1 (by decide) (hts (.fieldLink RX8 15 "PageOne$Piece" "page" "I") (by decide +kernel)) (fun _ h9 => h9) rfl dX8_isBeside_39 ?_
      refine lv_aload_n hx hb dX8_isBeside_42 rfl (lv_at hl 2 rfl) ?_
      obtain ⟨kk_55, hk_56⟩ := pl_at hp_20.1.1 (x_pcF hI hp_20)
      refine va_get (D := (dC, dI)) (ci := 7) (v := .int P_15) (C := RX8) (T := TX8) (N := 6) hx hb hts (by decide +kernel) hown hK hP kk_55 hk_56 rfl 1 (by decide) (hts (.fieldLink RX8 15 "PageOne$Piece" "page" "I") (by decide +kernel)) (fun _ h9 => h9) rfl dX8_isBeside_43 ?_
      refine lv_icmp_ne (tgt := 89) hx hb dX8_isBeside_46 (by decide) (fun c_57 => ?_) (fun c_57 => ?_)
      ·
        refine lv_iconst (v := 0) hx hb dX8_isBeside_89 (by decide) ?_
        exact W.zret (v := 0) hx hb hr (by decide) (fun t ht hW => ⟨_, rfl, (by decide), ht⟩) (fun q h => absurd h List.not_mem_nil) dX8_isBeside_90
      ·
        refine lv_iload_n hx hb dX8_isBeside_49 rfl (lv_at hl 0 rfl) ?_
        refine lv_if_eq (tgt := 89) hx hb dX8_isBeside_50 (by decide) (fun c_58 => ?_) (fun c_58 => absurd (by decide) c_58)
        refine lv_iconst (v := 0) hx hb dX8_isBeside_89 (by decide) ?_
        exact W.zret (v := 0) hx hb hr (by decide) (fun t ht hW => ⟨_, rfl, (by decide), ht⟩) (fun q h => absurd h List.not_mem_nil) dX8_isBeside_90
    ·
      refine lv_iconst (v := 1) hx hb dX8_isBeside_32 (by decide) ?_
      refine lv_goto (tgt := 37) hx hb dX8_isBeside_33 (by decide) ?_
      refine lv_istore_n (lv' := [(2, .int 1), (0, .ref a0), (1, .ref b0)]) hx hb dX8_isBeside_37 rfl hl (by decide) rfl (fun ls hl => ?_)
      refine lv_aload_n hx hb dX8_isBeside_38 rfl (lv_at hl 1 rfl) ?_
      obtain ⟨kk_59, hk_60⟩ := pl_at hp_7.1.1 (x_pcF hI hp_7)
      refine va_get (D := (dC, dI)) (ci := 7) (v := .int P_2) (C := RX8) (T := TX8) (N := 6) hx hb hts (by decide +kernel) hown hK hP kk_59 hk_60 rfl 1 (by decide) (hts (.fieldLink RX8 15 "PageOne$Piece" "page" "I") (by decide +kernel)) (fun _ h9 => h9) rfl dX8_isBeside_39 ?_
      refine lv_aload_n hx hb dX8_isBeside_42 rfl (lv_at hl 2 rfl) ?_
      obtain ⟨kk_61, hk_62⟩ := pl_at hp_20.1.1 (x_pcF hI hp_20)
      refine va_get (D := (dC, dI)) (ci := 7) (v := .int P_15) (C := RX8) (T := TX8) (N := 6) hx hb hts (by decide +kernel) hown hK hP kk_61 hk_62 rfl 1 (by decide) (hts (.fieldLink RX8 15 "PageOne$Piece" "page" "I") (by decide +kernel)) (fun _ h9 => h9) rfl dX8_isBeside_43 ?_
      refine lv_icmp_ne (tgt := 89) hx hb dX8_isBeside_46 (by decide) (fun c_63 => ?_) (fun c_63 => ?_)
      ·
        refine lv_iconst (v := 0) hx hb dX8_isBeside_89 (by decide) ?_
        exact W.zret (v := 0) hx hb hr (by decide) (fun t ht hW => ⟨_, rfl, (by decide), ht⟩) (fun q h => absurd h List.not_mem_nil) dX8_isBeside_90
      ·
        refine lv_iload_n hx hb dX8_isBeside_49 rfl (lv_at hl 0 rfl) ?_
        refine lv_if_eq (tgt := 89) hx hb dX8_isBeside_50 (by decide) (fun c_64 => absurd c_64 (by decide)) (fun c_64 => ?_)
        refine lv_aload_n hx hb dX8_isBeside_53 rfl (lv_at hl 1 rfl) ?_
        obtain ⟨kk_65, hk_66⟩ := pl_at hp_7.1.1 (x_pcF hI hp_7)
        refine va_get (D := (dC, dI)) (ci := 7) (v := .int Y_4) (C := RX8) (T := TX8) (N := 6) hx hb hts (by decide +kernel) hown hK hP kk_65 hk_66 rfl 3 (by decide) (hts (.fieldLink RX8 22 "PageOne$Piece" "line" "I") (by decide +kernel)) (fun _ h9 => h9) rfl dX8_isBeside_54 ?_
        refine lv_aload_n hx hb dX8_isBeside_57 rfl (lv_at hl 2 rfl) ?_
        obtain ⟨kk_67, hk_68⟩ := pl_at hp_20.1.1 (x_pcF hI hp_20)
        refine va_get (D := (dC, dI)) (ci := 7) (v := .int Y_17) (C := RX8) (T := TX8) (N := 6) hx hb hts (by decide +kernel) hown hK hP kk_67 hk_68 rfl 3 (by decide) (hts (.fieldLink RX8 22 "PageOne$Piece" "line" "I") (by decide +kernel)) (fun _ h9 => h9) rfl dX8_isBeside_58 ?_
        refine lv_aload_n hx hb dX8_isBeside_61 rfl (lv_at hl 2 rfl) ?_
        obtain ⟨kk_69, hk_70⟩ := pl_at hp_20.1.1 (x_pcF hI hp_20)
        refine va_get (D := (dC, dI)) (ci := 7) (v := .int N_19) (C := RX8) (T := TX8) (N := 6) hx hb hts (by decide +kernel) hown hK hP kk_69 hk_70 rfl 5 (by decide) (hts (.fieldLink RX8 28 "PageOne$Piece" "h" "I") (by decide +kernel)) (fun _ h9 => h9) rfl dX8_isBeside_62 ?_
        refine lv_iadd hx hb dX8_isBeside_65 ?_
        refine lv_icmp_ge (tgt := 89) hx hb dX8_isBeside_66 (by decide) (fun c_71 => ?_) (fun c_71 => ?_)
        ·
          refine lv_iconst (v := 0) hx hb dX8_isBeside_89 (by decide) ?_
          exact W.zret (v := 0) hx hb hr (by decide) (fun t ht hW => ⟨_, rfl, (by decide), ht⟩) (fun q h => absurd h List.not_mem_nil) dX8_isBeside_90
        ·
          refine lv_aload_n hx hb dX8_isBeside_69 rfl (lv_at hl 2 rfl) ?_
          obtain ⟨kk_72, hk_73⟩ := pl_at hp_20.1.1 (x_pcF hI hp_20)
          refine va_get (D := (dC, dI)) (ci := 7) (v := .int Y_17) (C := RX8) (T := TX8) (N := 6) hx hb hts (by decide +kernel) hown hK hP kk_72 hk_73 rfl 3 (by decide) (hts (.fieldLink RX8 22 "PageOne$Piece" "line" "I") (by decide +kernel)) (fun _ h9 => h9) rfl dX8_isBeside_70 ?_
          refine lv_aload_n hx hb dX8_isBeside_73 rfl (lv_at hl 1 rfl) ?_
          obtain ⟨kk_74, hk_75⟩ := pl_at hp_7.1.1 (x_pcF hI hp_7)
          refine va_get (D := (dC, dI)) (ci := 7) (v := .int Y_4) (C := RX8) (T := TX8) (N := 6) hx hb hts (by decide +kernel) hown hK hP kk_74 hk_75 rfl 3 (by decide) (hts (.fieldLink RX8 22 "PageOne$Piece" "line" "I") (by decide +kernel)) (fun _ h9 => h9) rfl dX8_isBeside_74 ?_
          refine lv_aload_n hx hb dX8_isBeside_77 rfl (lv_at hl 1 rfl) ?_
          obtain ⟨kk_76, hk_77⟩ := pl_at hp_7.1.1 (x_pcF hI hp_7)
          refine va_get (D := (dC, dI)) (ci := 7) (v := .int N_6) (C := RX8) (T := TX8) (N := 6) hx hb hts (by decide +kernel) hown hK hP kk_76 hk_77 rfl 5 (by decide) (hts (.fieldLink RX8 28 "PageOne$Piece" "h" "I") (by decide +kernel)) (fun _ h9 => h9) rfl dX8_isBeside_78 ?_
          refine lv_iadd hx hb dX8_isBeside_81 ?_
          refine lv_icmp_ge (tgt := 89) hx hb dX8_isBeside_82 (by decide) (fun c_78 => ?_) (fun c_78 => ?_)
          ·
            refine lv_iconst (v := 0) hx hb dX8_isBeside_89 (by decide) ?_
            exact W.zret (v := 0) hx hb hr (by decide) (fun t ht hW => ⟨_, rfl, (by decide), ht⟩) (fun q h => absurd h List.not_mem_nil) dX8_isBeside_90
          ·
            refine lv_iconst (v := 1) hx hb dX8_isBeside_85 (by decide) ?_
            refine lv_goto (tgt := 90) hx hb dX8_isBeside_86 (by decide) ?_
            exact W.zret (v := 1) hx hb hr (by decide) (fun t ht hW => ⟨_, rfl, (by decide), ht⟩) (fun q h => absurd h List.not_mem_nil) dX8_isBeside_90
set_option maxHeartbeats 4000000 in
set_option maxRecDepth 100000 in
theorem x_isOverOrUnder (l : Launch) (dC : Nat → ClassId) (dI : Nat → Nat → Nat) (q : Nat → ClassId) (h0 : Nat) (d : Nat → Nat) (k : Nat → Int32) (z : gS) (f : xF) (hI : xI q h0 d k z f) (a0 b0 : Nat) (ha0 : tg z a0 22) (hb0 : tg z b0 22) : Met l yX8_isOverOrUnder wsX8_isOverOrUnder ({ frames := 0, cells := 0, slots := 0, locals := 0 }) (va_Pc [.ref a0, .ref b0] (PX dC dI (va_pl z.1 f) (xT q))) (vp_Si (fun r => r = 0 ∨ r = 1)) 0 0 (fun _ => False) := by
  refine Met.ofW (cc := cX8_isOverOrUnder) (maxL := 3) (ret := (some .boolean)) (by decide) rfl ?_
  intro p e s m args below meth c s₁ B hml hv
  obtain ⟨rfl, ⟨hP, hK, hN⟩, hXN⟩ := hv
  have hx := B.exec
  have hb := B.bytes
  have hr := B.returns
  have hts := atoms_spec (ws := wsX8_isOverOrUnder) B.pre
  have hown : s.vm.findClass RX8 = some m.cls := findClass_of_methodNamed B.named
  have hlocks := B.notSynchronized
  have hl := lv_entry ([.ref a0, .ref b0]) (n := 3) (Nat.le_of_ble_eq_true rfl)
  rw [lg_entry_eq]
  generalize (lg_sl ([.ref a0, .ref b0]) ++ List.replicate (3 - (lg_sl ([.ref a0, .ref b0])).length) Slot.unset).toArray = ls at hl ⊢
  have hl : lv_has ls 3 [(0, .ref a0), (1, .ref b0)] := hl
  refine lv_aload_n hx hb dX8_isOverOrUnder_0 rfl (lv_at hl 0 rfl) ?_
  obtain ⟨it_1, P_2, X_3, Y_4, D_5, N_6, hp_7, hb_8, hb_9⟩ := x_pcS hI ha0
  obtain ⟨kk_10, hk_11⟩ := pl_at hp_7.1.1 (x_pcF hI hp_7)
  refine va_get (D := (dC, dI)) (ci := 7) (v := .int Y_4) (C := RX8) (T := TX8) (N := 6) hx hb hts (by decide +kernel) hown hK hP kk_10 hk_11 rfl 3 (by decide) (hts (.fieldLink RX8 22 "PageOne$Piece" "line" "I") (by decide +kernel)) (fun _ h9 => h9) rfl dX8_isOverOrUnder_1 ?_
  refine lv_aload_n hx hb dX8_isOverOrUnder_4 rfl (lv_at hl 0 rfl) ?_
  obtain ⟨kk_12, hk_13⟩ := pl_at hp_7.1.1 (x_pcF hI hp_7)
  refine va_get (D := (dC, dI)) (ci := 7) (v := .int N_6) (C := RX8) (T := TX8) (N := 6) hx hb hts (by decide +kernel) hown hK hP kk_12 hk_13 rfl 5 (by decide) (hts (.fieldLink RX8 28 "PageOne$Piece" "h" "I") (by decide +kernel)) (fun _ h9 => h9) rfl dX8_isOverOrUnder_5 ?_
  refine lv_iadd hx hb dX8_isOverOrUnder_8 ?_
  refine lv_aload_n hx hb dX8_isOverOrUnder_9 rfl (lv_at hl 1 rfl) ?_
  obtain ⟨it_14, P_15, X_16, Y_17, D_18, N_19, hp_20, hb_21, hb_22⟩ := x_pcS hI hb0
  obtain ⟨kk_23, hk_24⟩ := pl_at hp_20.1.1 (x_pcF hI hp_20)
  refine va_get (D := (dC, dI)) (ci := 7) (v := .int Y_17) (C := RX8) (T := TX8) (N := 6) hx hb hts (by decide +kernel) hown hK hP kk_23 hk_24 rfl 3 (by decide) (hts (.fieldLink RX8 22 "PageOne$Piece" "line" "I") (by decide +kernel)) (fun _ h9 => h9) rfl dX8_isOverOrUnder_10 ?_
  refine lv_icmp_eq (tgt := 32) hx hb dX8_isOverOrUnder_13 (by decide) (fun c_25 => ?_) (fun c_25 => ?_)
  ·
    refine lv_iconst (v := 1) hx hb dX8_isOverOrUnder_32 (by decide) ?_
    refine lv_goto (tgt := 37) hx hb dX8_isOverOrUnder_33 (by decide) ?_
    refine lv_istore_n (lv' := [(2, .int 1), (0, .ref a0), (1, .ref b0)]) hx hb dX8_isOverOrUnder_37 rfl hl (by decide) rfl (fun ls hl => ?_)
    refine lv_aload_n hx hb dX8_isOverOrUnder_38 rfl (lv_at hl 1 rfl) ?_
    obtain ⟨kk_26, hk_27⟩ := pl_at hp_7.1.1 (x_pcF hI hp_7)
    refine va_get (D := (dC, dI)) (ci := 7) (v := .int P_2) (C := RX8) (T := TX8) (N := 6) hx hb hts (by decide +kernel) hown hK hP kk_26 hk_27 rfl 1 (by decide) (hts (.fieldLink RX8 15 "PageOne$Piece" "page" "I") (by decide +kernel)) (fun _ h9 => h9) rfl dX8_isOverOrUnder_39 ?_
    refine lv_aload_n hx hb dX8_isOverOrUnder_42 rfl (lv_at hl 2 rfl) ?_
    obtain ⟨kk_28, hk_29⟩ := pl_at hp_20.1.1 (x_pcF hI hp_20)
    refine va_get (D := (dC, dI)) (ci := 7) (v := .int P_15) (C := RX8) (T := TX8) (N := 6) hx hb hts (by decide +kernel) hown hK hP kk_28 hk_29 rfl 1 (by decide) (hts (.fieldLink RX8 15 "PageOne$Piece" "page" "I") (by decide +kernel)) (fun _ h9 => h9) rfl dX8_isOverOrUnder_43 ?_
    refine lv_icmp_ne (tgt := 89) hx hb dX8_isOverOrUnder_46 (by decide) (fun c_30 => ?_) (fun c_30 => ?_)
    ·
      refine lv_iconst (v := 0) hx hb dX8_isOverOrUnder_89 (by decide) ?_
      exact W.zret (v := 0) hx hb hr (by decide) (fun t ht hW => ⟨_, rfl, (by decide), ht⟩) (fun q h => absurd h List.not_mem_nil) dX8_isOverOrUnder_90
    ·
      refine lv_iload_n hx hb dX8_isOverOrUnder_49 rfl (lv_at hl 0 rfl) ?_
      refine lv_if_eq (tgt := 89) hx hb dX8_isOverOrUnder_50 (by decide) (fun c_31 => absurd c_31 (by decide)) (fun c_31 => ?_)
      refine lv_aload_n hx hb dX8_isOverOrUnder_53 rfl (lv_at hl 1 rfl) ?_
      obtain ⟨kk_32, hk_33⟩ := pl_at hp_7.1.1 (x_pcF hI hp_7)
      refine va_get (D := (dC, dI)) (ci := 7) (v := .int X_3) (C := RX8) (T := TX8) (N := 6) hx hb hts (by decide +kernel) hown hK hP kk_32 hk_33 rfl 2 (by decide) (hts (.fieldLink RX8 19 "PageOne$Piece" "column" "I") (by decide +kernel)) (fun _ h9 => h9) rfl dX8_isOverOrUnder_54 ?_
      refine lv_aload_n hx hb dX8_isOverOrUnder_57 rfl (lv_at hl 2 rfl) ?_
      obtain ⟨kk_34, hk_35⟩ := pl_at hp_20.1.1 (x_pcF hI hp_20)
      refine va_get (D := (dC, dI)) (ci := 7) (v := .int X_16) (C := RX8) (T := TX8) (N := 6) hx hb hts (by decide +kernel) hown hK hP kk_34 hk_35 rfl 2 (by decide) (hts (.fieldLink RX8 19 "PageOne$Piece" "column" "I") (by decide +kernel)) (fun _ h9 => h9) rfl dX8_isOverOrUnder_58 ?_
      refine lv_aload_n hx hb dX8_isOverOrUnder_61 rfl (lv_at hl 2 rfl) ?_
      obtain ⟨kk_36, hk_37⟩ := pl_at hp_20.1.1 (x_pcF hI hp_20)
      refine va_get (D := (dC, dI)) (ci := 7) (v := .int D_18) (C := RX8) (T := TX8) (N := 6) hx hb hts (by decide +kernel) hown hK hP kk_36 hk_37 rfl 4 (by decide) (hts (.fieldLink RX8 25 "PageOne$Piece" "w" "I") (by decide +kernel)) (fun _ h9 => h9) rfl dX8_isOverOrUnder_62 ?_
      refine lv_iadd hx hb dX8_isOverOrUnder_65 ?_
      refine lv_icmp_ge (tgt := 89) hx hb dX8_isOverOrUnder_66 (by decide) (fun c_38 => ?_) (fun c_38 => ?_)
      ·
        refine lv_iconst (v := 0) hx hb dX8_isOverOrUnder_89 (by decide) ?_
        exact W.zret (v := 0) hx hb hr (by decide) (fun t ht hW => ⟨_, rfl, (by decide), ht⟩) (fun q h => absurd h List.not_mem_nil) dX8_isOverOrUnder_90
      ·
        refine lv_aload_n hx hb dX8_isOverOrUnder_69 rfl (lv_at hl 2 rfl) ?_
        obtain ⟨kk_39, hk_40⟩ := pl_at hp_20.1.1 (x_pcF hI hp_20)
        refine va_get (D := (dC, dI)) (ci := 7) (v := .int X_16) (C := RX8) (T := TX8) (N := 6) hx hb hts (by decide +kernel) hown hK hP kk_39 hk_40 rfl 2 (by decide) (hts (.fieldLink RX8 19 "PageOne$Piece" "column" "I") (by decide +kernel)) (fun _ h9 => h9) rfl dX8_isOverOrUnder_70 ?_
        refine lv_aload_n hx hb dX8_isOverOrUnder_73 rfl (lv_at hl 1 rfl) ?_
        obtain ⟨kk_41, hk_42⟩ := pl_at hp_7.1.1 (x_pcF hI hp_7)
        refine va_get (D := (dC, dI)) (ci := 7) (v := .int X_3) (C := RX8) (T := TX8) (N := 6) hx hb hts (by decide +kernel) hown hK hP kk_41 hk_42 rfl 2 (by decide) (hts (.fieldLink RX8 19 "PageOne$Piece" "column" "I") (by decide +kernel)) (fun _ h9 => h9) rfl dX8_isOverOrUnder_74 ?_
        refine lv_aload_n hx hb dX8_isOverOrUnder_77 rfl (lv_at hl 1 rfl) ?_
        obtain ⟨kk_43, hk_44⟩ := pl_at hp_7.1.1 (x_pcF hI hp_7)
        refine va_get (D := (dC, dI)) (ci := 7) (v := .int D_5) (C := RX8) (T := TX8) (N := 6) hx hb hts (by decide +kernel) hown hK hP kk_43 hk_44 rfl 4 (by decide) (hts (.fieldLink RX8 25 "PageOne$Piece" "w" "I") (by decide +kernel)) (fun _ h9 => h9) rfl dX8_isOverOrUnder_78 ?_
        refine lv_iadd hx hb dX8_isOverOrUnder_81 ?_
        refine lv_icmp_ge (tgt := 89) hx hb dX8_isOverOrUnder_82 (by decide) (fun c_45 => ?_) (fun c_45 => ?_)
        ·
          refine lv_iconst (v := 0) hx hb dX8_isOverOrUnder_89 (by decide) ?_
          exact W.zret (v := 0) hx hb hr (by decide) (fun t ht hW => ⟨_, rfl, (by decide), ht⟩) (fun q h => absurd h List.not_mem_nil) dX8_isOverOrUnder_90
        ·
          refine lv_iconst (v := 1) hx hb dX8_isOverOrUnder_85 (by decide) ?_
          refine lv_goto (tgt := 90) hx hb dX8_isOverOrUnder_86 (by decide) ?_
          exact W.zret (v := 1) hx hb hr (by decide) (fun t ht hW => ⟨_, rfl, (by decide), ht⟩) (fun q h => absurd h List.not_mem_nil) dX8_isOverOrUnder_90
  ·
    refine lv_aload_n hx hb dX8_isOverOrUnder_16 rfl (lv_at hl 1 rfl) ?_
    obtain ⟨kk_46, hk_47⟩ := pl_at hp_20.1.1 (x_pcF hI hp_20)
    refine va_get (D := (dC, dI)) (ci := 7) (v := .int Y_17) (C := RX8) (T := TX8) (N := 6) hx hb hts (by decide +kernel) hown hK hP kk_46 hk_47 rfl 3 (by decide) (hts (.fieldLink RX8 22 "PageOne$Piece" "line" "I") (by decide +kernel)) (fun _ h9 => h9) rfl dX8_isOverOrUnder_17 ?_
    refine lv_aload_n hx hb dX8_isOverOrUnder_20 rfl (lv_at hl 1 rfl) ?_
    obtain ⟨kk_48, hk_49⟩ := pl_at hp_20.1.1 (x_pcF hI hp_20)
    refine va_get (D := (dC, dI)) (ci := 7) (v := .int N_19) (C := RX8) (T := TX8) (N := 6) hx hb hts (by decide +kernel) hown hK hP kk_48 hk_49 rfl 5 (by decide) (hts (.fieldLink RX8 28 "PageOne$Piece" "h" "I") (by decide +kernel)) (fun _ h9 => h9) rfl dX8_isOverOrUnder_21 ?_
    refine lv_iadd hx hb dX8_isOverOrUnder_24 ?_
    refine lv_aload_n hx hb dX8_isOverOrUnder_25 rfl (lv_at hl 0 rfl) ?_
    obtain ⟨kk_50, hk_51⟩ := pl_at hp_7.1.1 (x_pcF hI hp_7)
    refine va_get (D := (dC, dI)) (ci := 7) (v := .int Y_4) (C := RX8) (T := TX8) (N := 6) hx hb hts (by decide +kernel) hown hK hP kk_50 hk_51 rfl 3 (by decide) (hts (.fieldLink RX8 22 "PageOne$Piece" "line" "I") (by decide +kernel)) (fun _ h9 => h9) rfl dX8_isOverOrUnder_26 ?_
    refine lv_icmp_ne (tgt := 36) hx hb dX8_isOverOrUnder_29 (by decide) (fun c_52 => ?_) (fun c_52 => ?_)
    ·
      refine lv_iconst (v := 0) hx hb dX8_isOverOrUnder_36 (by decide) ?_
      refine lv_istore_n (lv' := [(2, .int 0), (0, .ref a0), (1, .ref b0)]) hx hb dX8_isOverOrUnder_37 rfl hl (by decide) rfl (fun ls hl => ?_)
      refine lv_aload_n hx hb dX8_isOverOrUnder_38 rfl (lv_at hl 1 rfl) ?_
      obtain ⟨kk_53, hk_54⟩ := pl_at hp_7.1.1 (x_pcF hI hp_7)
      refine va_get (D := (dC, dI)) (ci := 7) (v := .int P_2) (C := RX8) (T := TX8) (N := 6) hx hb hts (by decide +kernel) hown hK hP kk_53 hk_54 rfl 1 (by decide) (hts (.fieldLink RX8 15 "PageOne$Piece" "page" "I") (by decide +kernel)) (fun _ h9 => h9) rfl dX8_isOverOrUnder_39 ?_
      refine lv_aload_n hx hb dX8_isOverOrUnder_42 rfl (lv_at hl 2 rfl) ?_
      obtain ⟨kk_55, hk_56⟩ := pl_at hp_20.1.1 (x_pcF hI hp_20)
      refine va_get (D := (dC, dI)) (ci := 7) (v := .int P_15) (C := RX8) (T := TX8) (N := 6) hx hb hts (by decide +kernel) hown hK hP kk_55 hk_56 rfl 1 (by decide) (hts (.fieldLink RX8 15 "PageOne$Piece" "page" "I") (by decide +kernel)) (fun _ h9 => h9) rfl dX8_isOverOrUnder_43 ?_
      refine lv_icmp_ne (tgt := 89) hx hb dX8_isOverOrUnder_46 (by decide) (fun c_57 => ?_) (fun c_57 => ?_)
      ·
        refine lv_iconst (v := 0) hx hb dX8_isOverOrUnder_89 (by decide) ?_
        exact W.zret (v := 0) hx hb hr (by decide) (fun t ht hW => ⟨_, rfl, (by decide), ht⟩) (fun q h => absurd h List.not_mem_nil) dX8_isOverOrUnder_90
      ·
        refine lv_iload_n hx hb dX8_isOverOrUnder_49 rfl (lv_at hl 0 rfl) ?_
        refine lv_if_eq (tgt := 89) hx hb dX8_isOverOrUnder_50 (by decide) (fun c_58 => ?_) (fun c_58 => absurd (by decide) c_58)
        refine lv_iconst (v := 0) hx hb dX8_isOverOrUnder_89 (by decide) ?_
        exact W.zret (v := 0) hx hb hr (by decide) (fun t ht hW => ⟨_, rfl, (by decide), ht⟩) (fun q h => absurd h List.not_mem_nil) dX8_isOverOrUnder_90
    ·
      refine lv_iconst (v := 1) hx hb dX8_isOverOrUnder_32 (by decide) ?_
      refine lv_goto (tgt := 37) hx hb dX8_isOverOrUnder_33 (by decide) ?_
      refine lv_istore_n (lv' := [(2, .int 1), (0, .ref a0), (1, .ref b0)]) hx hb dX8_isOverOrUnder_37 rfl hl (by decide) rfl (fun ls hl => ?_)
      refine lv_aload_n hx hb dX8_isOverOrUnder_38 rfl (lv_at hl 1 rfl) ?_
      obtain ⟨kk_59, hk_60⟩ := pl_at hp_7.1.1 (x_pcF hI hp_7)
      refine va_get (D := (dC, dI)) (ci := 7) (v := .int P_2) (C := RX8) (T := TX8) (N := 6) hx hb hts (by decide +kernel) hown hK hP kk_59 hk_60 rfl 1 (by decide) (hts (.fieldLink RX8 15 "PageOne$Piece" "page" "I") (by decide +kernel)) (fun _ h9 => h9) rfl dX8_isOverOrUnder_39 ?_
      refine lv_aload_n hx hb dX8_isOverOrUnder_42 rfl (lv_at hl 2 rfl) ?_
      obtain ⟨kk_61, hk_62⟩ := pl_at hp_20.1.1 (x_pcF hI hp_20)
      refine va_get (D := (dC, dI)) (ci := 7) (v := .int P_15) (C := RX8) (T := TX8) (N := 6) hx hb hts (by decide +kernel) hown hK hP kk_61 hk_62 rfl 1 (by decide) (hts (.fieldLink RX8 15 "PageOne$Piece" "page" "I") (by decide +kernel)) (fun _ h9 => h9) rfl dX8_isOverOrUnder_43 ?_
      refine lv_icmp_ne (tgt := 89) hx hb dX8_isOverOrUnder_46 (by decide) (fun c_63 => ?_) (fun c_63 => ?_)
      ·
        refine lv_iconst (v := 0) hx hb dX8_isOverOrUnder_89 (by decide) ?_
        exact W.zret (v := 0) hx hb hr (by decide) (fun t ht hW => ⟨_, rfl, (by decide), ht⟩) (fun q h => absurd h List.not_mem_nil) dX8_isOverOrUnder_90
      ·
        refine lv_iload_n hx hb dX8_isOverOrUnder_49 rfl (lv_at hl 0 rfl) ?_
        refine lv_if_eq (tgt := 89) hx hb dX8_isOverOrUnder_50 (by decide) (fun c_64 => absurd c_64 (by decide)) (fun c_64 => ?_)
        refine lv_aload_n hx hb dX8_isOverOrUnder_53 rfl (lv_at hl 1 rfl) ?_
        obtain ⟨kk_65, hk_66⟩ := pl_at hp_7.1.1 (x_pcF hI hp_7)
        refine va_get (D := (dC, dI)) (ci := 7) (v := .int X_3) (C := RX8) (T := TX8) (N := 6) hx hb hts (by decide +kernel) hown hK hP kk_65 hk_66 rfl 2 (by decide) (hts (.fieldLink RX8 19 "PageOne$Piece" "column" "I") (by decide +kernel)) (fun _ h9 => h9) rfl dX8_isOverOrUnder_54 ?_
        refine lv_aload_n hx hb dX8_isOverOrUnder_57 rfl (lv_at hl 2 rfl) ?_
        obtain ⟨kk_67, hk_68⟩ := pl_at hp_20.1.1 (x_pcF hI hp_20)
        refine va_get (D := (dC, dI)) (ci := 7) (v := .int X_16) (C := RX8) (T := TX8) (N := 6) hx hb hts (by decide +kernel) hown hK hP kk_67 hk_68 rfl 2 (by decide) (hts (.fieldLink RX8 19 "PageOne$Piece" "column" "I") (by decide +kernel)) (fun _ h9 => h9) rfl dX8_isOverOrUnder_58 ?_
        refine lv_aload_n hx hb dX8_isOverOrUnder_61 rfl (lv_at hl 2 rfl) ?_
        obtain ⟨kk_69, hk_70⟩ := pl_at hp_20.1.1 (x_pcF hI hp_20)
        refine va_get (D := (dC, dI)) (ci := 7) (v := .int D_18) (C := RX8) (T := TX8) (N := 6) hx hb hts (by decide +kernel) hown hK hP kk_69 hk_70 rfl 4 (by decide) (hts (.fieldLink RX8 25 "PageOne$Piece" "w" "I") (by decide +kernel)) (fun _ h9 => h9) rfl dX8_isOverOrUnder_62 ?_
        refine lv_iadd hx hb dX8_isOverOrUnder_65 ?_
        refine lv_icmp_ge (tgt := 89) hx hb dX8_isOverOrUnder_66 (by decide) (fun c_71 => ?_) (fun c_71 => ?_)
        ·
          refine lv_iconst (v := 0) hx hb dX8_isOverOrUnder_89 (by decide) ?_
          exact W.zret (v := 0) hx hb hr (by decide) (fun t ht hW => ⟨_, rfl, (by decide), ht⟩) (fun q h => absurd h List.not_mem_nil) dX8_isOverOrUnder_90
        ·
          refine lv_aload_n hx hb dX8_isOverOrUnder_69 rfl (lv_at hl 2 rfl) ?_
          obtain ⟨kk_72, hk_73⟩ := pl_at hp_20.1.1 (x_pcF hI hp_20)
          refine va_get (D := (dC, dI)) (ci := 7) (v := .int X_16) (C := RX8) (T := TX8) (N := 6) hx hb hts (by decide +kernel) hown hK hP kk_72 hk_73 rfl 2 (by decide) (hts (.fieldLink RX8 19 "PageOne$Piece" "column" "I") (by decide +kernel)) (fun _ h9 => h9) rfl dX8_isOverOrUnder_70 ?_
          refine lv_aload_n hx hb dX8_isOverOrUnder_73 rfl (lv_at hl 1 rfl) ?_
          obtain ⟨kk_74, hk_75⟩ := pl_at hp_7.1.1 (x_pcF hI hp_7)
          refine va_get (D := (dC, dI)) (ci := 7) (v := .int X_3) (C := RX8) (T := TX8) (N := 6) hx hb hts (by decide +kernel) hown hK hP kk_74 hk_75 rfl 2 (by decide) (hts (.fieldLink RX8 19 "PageOne$Piece" "column" "I") (by decide +kernel)) (fun _ h9 => h9) rfl dX8_isOverOrUnder_74 ?_
          refine lv_aload_n hx hb dX8_isOverOrUnder_77 rfl (lv_at hl 1 rfl) ?_
          obtain ⟨kk_76, hk_77⟩ := pl_at hp_7.1.1 (x_pcF hI hp_7)
          refine va_get (D := (dC, dI)) (ci := 7) (v := .int D_5) (C := RX8) (T := TX8) (N := 6) hx hb hts (by decide +kernel) hown hK hP kk_76 hk_77 rfl 4 (by decide) (hts (.fieldLink RX8 25 "PageOne$Piece" "w" "I") (by decide +kernel)) (fun _ h9 => h9) rfl dX8_isOverOrUnder_78 ?_
          refine lv_iadd hx hb dX8_isOverOrUnder_81 ?_
          refine lv_icmp_ge (tgt := 89) hx hb dX8_isOverOrUnder_82 (by decide) (fun c_78 => ?_) (fun c_78 => ?_)
          ·
            refine lv_iconst (v := 0) hx hb dX8_isOverOrUnder_89 (by decide) ?_
            exact W.zret (v := 0) hx hb hr (by decide) (fun t ht hW => ⟨_, rfl, (by decide), ht⟩) (fun q h => absurd h List.not_mem_nil) dX8_isOverOrUnder_90
          ·
            refine lv_iconst (v := 1) hx hb dX8_isOverOrUnder_85 (by decide) ?_
            refine lv_goto (tgt := 90) hx hb dX8_isOverOrUnder_86 (by decide) ?_
            exact W.zret (v := 1) hx hb hr (by decide) (fun t ht hW => ⟨_, rfl, (by decide), ht⟩) (fun q h => absurd h List.not_mem_nil) dX8_isOverOrUnder_90
set_option maxHeartbeats 4000000 in
set_option maxRecDepth 100000 in
theorem x_sign (l : Launch) (dC : Nat → ClassId) (dI : Nat → Nat → Nat) (q : Nat → ClassId) (h0 : Nat) (d : Nat → Nat) (k : Nat → Int32) (z : gS) (f : xF) (hI : xI q h0 d k z f) (a0 : Nat) (ha0 : tg z a0 22) : Met l yX8_sign wsX8_sign ({ frames := 0, cells := 0, slots := 0, locals := 0 }) (va_Pc [.ref a0] (PX dC dI (va_pl z.1 f) (xT q))) (vp_Si (fun r => True)) 0 0 (fun _ => False) := by
  refine Met.ofW (cc := cX8_sign) (maxL := 1) (ret := (some .int)) (by decide) rfl ?_
  intro p e s m args below meth c s₁ B hml hv
  obtain ⟨rfl, ⟨hP, hK, hN⟩, hXN⟩ := hv
  have hx := B.exec
  have hb := B.bytes
  have hr := B.returns
  have hts := atoms_spec (ws := wsX8_sign) B.pre
  have hown : s.vm.findClass RX8 = some m.cls := findClass_of_methodNamed B.named
  have hlocks := B.notSynchronized
  have hl := lv_entry ([.ref a0]) (n := 1) (Nat.le_of_ble_eq_true rfl)
  rw [lg_entry_eq]
  generalize (lg_sl ([.ref a0]) ++ List.replicate (1 - (lg_sl ([.ref a0])).length) Slot.unset).toArray = ls at hl ⊢
  have hl : lv_has ls 1 [(0, .ref a0)] := hl
  refine lv_aload_n hx hb dX8_sign_0 rfl (lv_at hl 0 rfl) ?_
  obtain ⟨it_1, P_2, X_3, Y_4, D_5, N_6, hp_7, hb_8, hb_9⟩ := x_pcS hI ha0
  obtain ⟨kk_10, hk_11⟩ := pl_at hp_7.1.1 (x_pcF hI hp_7)
  refine va_get (D := (dC, dI)) (ci := 7) (v := va_rf it_1) (C := RX8) (T := TX8) (N := 6) hx hb hts (by decide +kernel) hown hK hP kk_10 hk_11 rfl 0 (by decide) (hts (.fieldLink RX8 9 "PageOne$Piece" "item" "LPageOne$Item;") (by decide +kernel)) (fun _ h9 => h9) rfl dX8_sign_1 ?_
  rcases it_1 with _ | b_12
  ·
    refine W.eq (g2 := F0 m 4 ls [.null]) rfl ?_
    refine lv_ifnonnullN hx hb dX8_sign_4 ?_
    refine lv_bipush (v := 100) hx hb dX8_sign_7 (by decide) ?_
    refine lv_goto (tgt := 19) hx hb dX8_sign_9 (by decide) ?_
    exact W.iret (v := 100) hx hb hr (fun t ht hW => ⟨_, rfl, trivial, ht⟩) (fun q h => absurd h List.not_mem_nil) dX8_sign_19
  ·
    refine W.eq (g2 := F0 m 4 ls [.ref b_12]) rfl ?_
    have ht_13 := (x_pcB hI hp_7).2 b_12 rfl
    refine lv_ifnonnull (tgt := 12) hx hb dX8_sign_4 (by decide) ?_
    refine lv_aload_n hx hb dX8_sign_12 rfl (lv_at hl 0 rfl) ?_
    obtain ⟨kk_14, hk_15⟩ := pl_at hp_7.1.1 (x_pcF hI hp_7)
    refine va_get (D := (dC, dI)) (ci := 7) (v := .ref b_12) (C := RX8) (T := TX8) (N := 6) hx hb hts (by decide +kernel) hown hK hP kk_14 hk_15 rfl 0 (by decide) (hts (.fieldLink RX8 9 "PageOne$Piece" "item" "LPageOne$Item;") (by decide +kernel)) (fun _ h9 => h9) rfl dX8_sign_13 ?_
    obtain ⟨nu_16, kd_17, cn_18, pa_19, fa_20, rs_21, hs_22, hs_23, hs_24, hs_25, hs_26⟩ := x_im hI ht_13
    obtain ⟨kk_27, hk_28⟩ := pl_at ht_13.1 hs_22
    refine w_then (F0 m 19 ls [.int nu_16]) (fun hgo => ?_) ?_
    ·
      rcases x_tag ht_13 with ht9 | ht9 | ht9 | ht9 | ht9 | ht9
      ·
        rw [ht9.2] at hk_28
        exact va_get (D := (dC, dI)) (ci := 2) (v := .int nu_16) (C := RX2) (T := TX2) (N := 7) hx hb hts (by decide +kernel) hown hK hP kk_27 hk_28 rfl 0 (by decide) (hts (.fieldLink RX8 31 "PageOne$Item" "number" "I") (by decide +kernel)) (fun _ h9 => h9) rfl dX8_sign_16 hgo
      ·
        rw [ht9.2] at hk_28
        exact va_get (D := (dC, dI)) (ci := 3) (v := .int nu_16) (C := RX3) (T := TX3) (N := 8) hx hb hts (by decide +kernel) hown hK hP kk_27 hk_28 rfl 0 (by decide) (hts (.fieldLink RX8 31 "PageOne$Item" "number" "I") (by decide +kernel)) (fun _ h9 => h9) rfl dX8_sign_16 hgo
      ·
        rw [ht9.2] at hk_28
        exact va_get (D := (dC, dI)) (ci := 4) (v := .int nu_16) (C := RX5) (T := TX5) (N := 7) hx hb hts (by decide +kernel) hown hK hP kk_27 hk_28 rfl 0 (by decide) (hts (.fieldLink RX8 31 "PageOne$Item" "number" "I") (by decide +kernel)) (fun _ h9 => h9) rfl dX8_sign_16 hgo
      ·
        rw [ht9.2] at hk_28
        exact va_get (D := (dC, dI)) (ci := 5) (v := .int nu_16) (C := RX6) (T := TX6) (N := 9) hx hb hts (by decide +kernel) hown hK hP kk_27 hk_28 rfl 0 (by decide) (hts (.fieldLink RX8 31 "PageOne$Item" "number" "I") (by decide +kernel)) (fun _ h9 => h9) rfl dX8_sign_16 hgo
      ·
        rw [ht9.2] at hk_28
        exact va_get (D := (dC, dI)) (ci := 6) (v := .int nu_16) (C := RX7) (T := TX7) (N := 8) hx hb hts (by decide +kernel) hown hK hP kk_27 hk_28 rfl 0 (by decide) (hts (.fieldLink RX8 31 "PageOne$Item" "number" "I") (by decide +kernel)) (fun _ h9 => h9) rfl dX8_sign_16 hgo
      ·
        rw [ht9.2] at hk_28
        exact va_get (D := (dC, dI)) (ci := 9) (v := .int nu_16) (C := RX10) (T := TX10) (N := 9) hx hb hts (by decide +kernel) hown hK hP kk_27 hk_28 rfl 0 (by decide) (hts (.fieldLink RX8 31 "PageOne$Item" "number" "I") (by decide +kernel)) (fun _ h9 => h9) rfl dX8_sign_16 hgo
    ·
      exact W.iret (v := nu_16) hx hb hr (fun t ht hW => ⟨_, rfl, trivial, ht⟩) (fun q h => absurd h List.not_mem_nil) dX8_sign_19
