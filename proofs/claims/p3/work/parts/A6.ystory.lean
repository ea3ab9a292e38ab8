/-- a row of pieces and their places: Rm j 0 page, 1 column, 2 line, 3 wide, 4 high -/
def pcL (z : gS) (g : Nat → Option Nat) (n : Nat) (Rm : Nat → Nat → Int32) : Prop := ∀ j, j < n → ∃ (b : Nat) (it : Option Nat), g j = some b ∧ pcS z b it (Rm j 0) (Rm j 1) (Rm j 2) (Rm j 3) (Rm j 4) ∧ lgP z b
def s_taken (p0 cn : Int32) (Rm : Nat → Nat → Int32) : Int32 := if bw p0 0 (cn - 1) = true then (if p0 ≤ 0 then (if cn ≤ (p0 + 1) then (Rm (p0 : Int32).toNatClampNeg 4) else (if (Rm ((p0 + 1) : Int32).toNatClampNeg 0) = (Rm (p0 : Int32).toNatClampNeg 0) then (Rm (p0 : Int32).toNatClampNeg 4) else ((Rm (p0 : Int32).toNatClampNeg 4) + (-1)))) else (if (Rm ((p0 - 1) : Int32).toNatClampNeg 0) = (Rm (p0 : Int32).toNatClampNeg 0) then (if cn ≤ (p0 + 1) then (Rm (p0 : Int32).toNatClampNeg 4) else (if (Rm ((p0 + 1) : Int32).toNatClampNeg 0) = (Rm (p0 : Int32).toNatClampNeg 0) then (Rm (p0 : Int32).toNatClampNeg 4) else ((Rm (p0 : Int32).toNatClampNeg 4) + (-1)))) else (if cn ≤ (p0 + 1) then ((Rm (p0 : Int32).toNatClampNeg 4) + (-1)) else (if (Rm ((p0 + 1) : Int32).toNatClampNeg 0) = (Rm (p0 : Int32).toNatClampNeg 0) then ((Rm (p0 : Int32).toNatClampNeg 4) + (-1)) else (((Rm (p0 : Int32).toNatClampNeg 4) + (-1)) + (-1)))))) else 0
set_option maxHeartbeats 4000000 in
set_option maxRecDepth 100000 in
theorem y_takenBy (l : Launch) (dC : Nat → ClassId) (dI : Nat → Nat → Nat) (q : Nat → ClassId) (h0 : Nat) (d : Nat → Nat) (k : Nat → Int32) (z : gS) (f : xF) (hI : xI q h0 d k z f) (a0 pa fa wd nm : Nat) (nu kd cn lz co : Int32) (ha0 : tg z a0 15) (hs : f a0 = .inr (9, [.int nu, .int kd, .ref pa, .int cn, .ref fa, .int lz, .ref wd, .int co, .ref nm])) (p0 : Int32) (n : Nat) (g : Nat → Option Nat) (Rm : Nat → Nat → Int32) (hpa : tg z pa 16) (hps : f pa = aR (q 5) n g) (h1 : 1 ≤ n) (h6 : n ≤ 6) (hcb : bw cn 0 (nI n) = true) (hpl : pcL z g cn.toNatClampNeg Rm) : Met l yX10_takenBy wsX10_takenBy ({ frames := 1, cells := 0, slots := 0, locals := 22 }) (va_Pc [.ref a0, .int p0] (PX dC dI (va_pl z.1 f) (xT q))) (vp_Si (fun r => r = s_taken p0 cn Rm)) 0 0 (fun _ => False) := by
  refine Met.ofW (cc := cX10_takenBy) (maxL := 3) (ret := (some .int)) (by decide) rfl ?_
  intro p e s m args below meth c s₁ B hml hv
  obtain ⟨rfl, ⟨hP, hK, hN⟩, hXN⟩ := hv
  have hx := B.exec
  have hb := B.bytes
  have hr := B.returns
  have hts := atoms_spec (ws := wsX10_takenBy) B.pre
  have hown : s.vm.findClass RX10 = some m.cls := findClass_of_methodNamed B.named
  have hlocks := B.notSynchronized
  have hl := lv_entry ([.ref a0, .int p0]) (n := 3) (Nat.le_of_ble_eq_true rfl)
  rw [lg_entry_eq]
  generalize (lg_sl ([.ref a0, .int p0]) ++ List.replicate (3 - (lg_sl ([.ref a0, .int p0])).length) Slot.unset).toArray = ls at hl ⊢
  have hl : lv_has ls 3 [(0, .ref a0), (1, .int p0)] := hl
  refine lv_iload_n hx hb dX10_takenBy_0 rfl (lv_at hl 1 rfl) ?_
  refine lv_iconst (v := 0) hx hb dX10_takenBy_1 (by decide) ?_
  refine lv_aload_n hx hb dX10_takenBy_2 rfl (lv_at hl 0 rfl) ?_
  obtain ⟨kk_1, hk_2⟩ := pl_at ha0.1 hs
  refine va_get (D := (dC, dI)) (ci := 9) (v := .int cn) (C := RX10) (T := TX10) (N := 9) hx hb hts (by decide +kernel) hown hK hP kk_1 hk_2 rfl 3 (by decide) (hts (.fieldLink RX10 49 "PageOne$Story" "count" "I") (by decide +kernel)) (fun x9 h9 => u_same (hts (.sameField "PageOne$Story" "PageOne$Item" "count" "I") (by decide +kernel)) x9 h9) rfl dX10_takenBy_3 ?_
  refine lv_iconst (v := 1) hx hb dX10_takenBy_6 (by decide) ?_
  refine lv_isub hx hb dX10_takenBy_7 ?_
  refine vp_callSi (va_runSN (As := [.int p0, .int 0, .int (cn - 1)]) (rest := []) ⟨hx, hb, hml, hown, hts⟩ (x_isWithin l dC dI p0 0 (cn - 1)) ⟨va_cnB (host := "PageOne") 3 hts gX10_takenBy_X11_isWithin_n26 rfl rfl rfl hN.n_RX10_26 (hts (.initialized RX11) (by decide +kernel)) (by decide +kernel) ⟨Nat.le_of_ble_eq_true rfl, Nat.le_of_ble_eq_true rfl⟩, hts (.static yX11_isWithin) (by decide +kernel), trivial⟩ ⟨pw_fb, fun U hU hW => ⟨rfl, pw_to hU hW (hP.sub (ws' := []) [] rfl) (hK.sub (tys' := []) [] rfl) hN⟩⟩ rfl rfl hl.1 rfl (lv_room (Nat.le_of_ble_eq_true rfl)) dX10_takenBy_8 ⟨Nat.le_of_ble_eq_true rfl, Nat.le_of_ble_eq_true rfl⟩).run (fun r hw => ?_)
  rcases Bool.eq_false_or_eq_true (bw p0 0 (cn - 1)) with b_3 | b_3
  ·
    obtain rfl : r = 1 := b_t hw b_3
    refine lv_if_ne (tgt := 16) hx hb dX10_takenBy_11 (by decide) (fun c_4 => ?_) (fun c_4 => absurd c_4 (by decide))
    refine lv_aload_n hx hb dX10_takenBy_16 rfl (lv_at hl 0 rfl) ?_
    obtain ⟨kk_5, hk_6⟩ := pl_at ha0.1 hs
    refine va_get (D := (dC, dI)) (ci := 9) (v := .ref pa) (C := RX10) (T := TX10) (N := 9) hx hb hts (by decide +kernel) hown hK hP kk_5 hk_6 rfl 2 (by decide) (hts (.fieldLink RX10 60 "PageOne$Story" "pieces" "[LPageOne$Piece;") (by decide +kernel)) (fun x9 h9 => u_same (hts (.sameField "PageOne$Story" "PageOne$Item" "pieces" "[LPageOne$Piece;") (by decide +kernel)) x9 h9) rfl dX10_takenBy_17 ?_
    refine lv_iload_n hx hb dX10_takenBy_20 rfl (lv_at hl 1 rfl) ?_
    obtain ⟨kk_7, hk_8⟩ := pl_at hpa.1 hps
    refine va_aldq hx hb hK hP kk_7 5 hk_8 rfl (vkn h6 hcb b_3).1 dX10_takenBy_21 ?_
    obtain ⟨b_9, it_10, hg_11, hp_12, hlg_13⟩ := hpl (p0 : Int32).toNatClampNeg (vkn h6 hcb b_3).2
    rw [hg_11]
    refine W.eq (g2 := F0 m 22 ls [.ref b_9]) rfl ?_
    obtain ⟨kk_14, hk_15⟩ := pl_at hp_12.1.1 (x_pcF hI hp_12)
    refine va_get (D := (dC, dI)) (ci := 7) (v := .int (Rm (p0 : Int32).toNatClampNeg 4)) (C := RX8) (T := TX8) (N := 6) hx hb hts (by decide +kernel) hown hK hP kk_14 hk_15 rfl 5 (by decide) (hts (.fieldLink RX10 34 "PageOne$Piece" "h" "I") (by decide +kernel)) (fun _ h9 => h9) rfl dX10_takenBy_22 ?_
    refine lv_topi (fun x_16 ex_16 => ?_)
    refine lv_istore_n (lv' := [(2, .int x_16), (0, .ref a0), (1, .int p0)]) hx hb dX10_takenBy_25 rfl hl (by decide) rfl (fun ls hl => ?_)
    refine lv_iload_n hx hb dX10_takenBy_26 rfl (lv_at hl 2 rfl) ?_
    refine lv_if_le (tgt := 56) hx hb dX10_takenBy_27 (by decide) (fun c_17 => ?_) (fun c_17 => ?_)
    ·
      refine lv_iload_n hx hb dX10_takenBy_56 rfl (lv_at hl 2 rfl) ?_
      refine lv_iconst (v := 1) hx hb dX10_takenBy_57 (by decide) ?_
      refine lv_iadd hx hb dX10_takenBy_58 ?_
      refine lv_aload_n hx hb dX10_takenBy_59 rfl (lv_at hl 1 rfl) ?_
      obtain ⟨kk_18, hk_19⟩ := pl_at ha0.1 hs
      refine va_get (D := (dC, dI)) (ci := 9) (v := .int cn) (C := RX10) (T := TX10) (N := 9) hx hb hts (by decide +kernel) hown hK hP kk_18 hk_19 rfl 3 (by decide) (hts (.fieldLink RX10 49 "PageOne$Story" "count" "I") (by decide +kernel)) (fun x9 h9 => u_same (hts (.sameField "PageOne$Story" "PageOne$Item" "count" "I") (by decide +kernel)) x9 h9) rfl dX10_takenBy_60 ?_
      refine lv_icmp_ge (tgt := 92) hx hb dX10_takenBy_63 (by decide) (fun c_20 => ?_) (fun c_20 => ?_)
      ·
        refine lv_iload_n hx hb dX10_takenBy_92 rfl (lv_at hl 0 rfl) ?_
        exact W.iret (v := x_16) hx hb hr (fun t ht hW => ⟨_, rfl, (by rw [ex_16]; unfold s_taken; rw [if_pos b_3, if_pos c_17, if_pos c_20]), ht⟩) (fun q h => absurd h List.not_mem_nil) dX10_takenBy_93
      ·
        refine lv_aload_n hx hb dX10_takenBy_66 rfl (lv_at hl 1 rfl) ?_
        obtain ⟨kk_21, hk_22⟩ := pl_at ha0.1 hs
        refine va_get (D := (dC, dI)) (ci := 9) (v := .ref pa) (C := RX10) (T := TX10) (N := 9) hx hb hts (by decide +kernel) hown hK hP kk_21 hk_22 rfl 2 (by decide) (hts (.fieldLink RX10 60 "PageOne$Story" "pieces" "[LPageOne$Piece;") (by decide +kernel)) (fun x9 h9 => u_same (hts (.sameField "PageOne$Story" "PageOne$Item" "pieces" "[LPageOne$Piece;") (by decide +kernel)) x9 h9) rfl dX10_takenBy_67 ?_
        refine lv_iload_n hx hb dX10_takenBy_70 rfl (lv_at hl 2 rfl) ?_
        refine lv_iconst (v := 1) hx hb dX10_takenBy_71 (by decide) ?_
        refine lv_iadd hx hb dX10_takenBy_72 ?_
        obtain ⟨kk_23, hk_24⟩ := pl_at hpa.1 hps
        refine va_aldq hx hb hK hP kk_23 5 hk_24 rfl (vknp h6 hcb b_3 c_20).1 dX10_takenBy_73 ?_
        obtain ⟨b_25, it_26, hg_27, hp_28, hlg_29⟩ := hpl ((p0 + 1) : Int32).toNatClampNeg (vknp h6 hcb b_3 c_20).2
        rw [hg_27]
        refine W.eq (g2 := F0 m 74 ls [.ref b_25]) rfl ?_
        obtain ⟨kk_30, hk_31⟩ := pl_at hp_28.1.1 (x_pcF hI hp_28)
        refine va_get (D := (dC, dI)) (ci := 7) (v := .int (Rm ((p0 + 1) : Int32).toNatClampNeg 0)) (C := RX8) (T := TX8) (N := 6) hx hb hts (by decide +kernel) hown hK hP kk_30 hk_31 rfl 1 (by decide) (hts (.fieldLink RX10 42 "PageOne$Piece" "page" "I") (by decide +kernel)) (fun _ h9 => h9) rfl dX10_takenBy_74 ?_
        refine lv_aload_n hx hb dX10_takenBy_77 rfl (lv_at hl 1 rfl) ?_
        obtain ⟨kk_32, hk_33⟩ := pl_at ha0.1 hs
        refine va_get (D := (dC, dI)) (ci := 9) (v := .ref pa) (C := RX10) (T := TX10) (N := 9) hx hb hts (by decide +kernel) hown hK hP kk_32 hk_33 rfl 2 (by decide) (hts (.fieldLink RX10 60 "PageOne$Story" "pieces" "[LPageOne$Piece;") (by decide +kernel)) (fun x9 h9 => u_same (hts (.sameField "PageOne$Story" "PageOne$Item" "pieces" "[LPageOne$Piece;") (by decide +kernel)) x9 h9) rfl dX10_takenBy_78 ?_
        refine lv_iload_n hx hb dX10_takenBy_81 rfl (lv_at hl 2 rfl) ?_
        obtain ⟨kk_34, hk_35⟩ := pl_at hpa.1 hps
        refine va_aldq hx hb hK hP kk_34 5 hk_35 rfl (vkn h6 hcb b_3).1 dX10_takenBy_82 ?_
        obtain ⟨b_36, it_37, hg_38, hp_39, hlg_40⟩ := hpl (p0 : Int32).toNatClampNeg (vkn h6 hcb b_3).2
        rw [hg_38]
        refine W.eq (g2 := F0 m 83 ls [.ref b_36, .int (Rm ((p0 + 1) : Int32).toNatClampNeg 0)]) rfl ?_
        obtain ⟨kk_41, hk_42⟩ := pl_at hp_39.1.1 (x_pcF hI hp_39)
        refine va_get (D := (dC, dI)) (ci := 7) (v := .int (Rm (p0 : Int32).toNatClampNeg 0)) (C := RX8) (T := TX8) (N := 6) hx hb hts (by decide +kernel) hown hK hP kk_41 hk_42 rfl 1 (by decide) (hts (.fieldLink RX10 42 "PageOne$Piece" "page" "I") (by decide +kernel)) (fun _ h9 => h9) rfl dX10_takenBy_83 ?_
        refine lv_icmp_eq (tgt := 92) hx hb dX10_takenBy_86 (by decide) (fun c_43 => ?_) (fun c_43 => ?_)
        ·
          refine lv_iload_n hx hb dX10_takenBy_92 rfl (lv_at hl 0 rfl) ?_
          exact W.iret (v := x_16) hx hb hr (fun t ht hW => ⟨_, rfl, (by rw [ex_16]; unfold s_taken; rw [if_pos b_3, if_pos c_17, if_neg c_20, if_pos c_43]), ht⟩) (fun q h => absurd h List.not_mem_nil) dX10_takenBy_93
        ·
          obtain ⟨x_44, ex_44⟩ : ∃ y : Int32, y = x_16 + (-1) := ⟨_, rfl⟩
          refine lv_iinc (v := x_44) (lv' := [(2, .int x_44), (0, .ref a0), (1, .int p0)]) hx hb dX10_takenBy_89 hl (k := 0) rfl (by rw [ex_44]; rfl) (by decide) rfl (fun ls hl => ?_)
          refine lv_iload_n hx hb dX10_takenBy_92 rfl (lv_at hl 0 rfl) ?_
          exact W.iret (v := x_44) hx hb hr (fun t ht hW => ⟨_, rfl, (by rw [ex_44, ex_16]; unfold s_taken; rw [if_pos b_3, if_pos c_17, if_neg c_20, if_neg c_43]), ht⟩) (fun q h => absurd h List.not_mem_nil) dX10_takenBy_93
    ·
      refine lv_aload_n hx hb dX10_takenBy_30 rfl (lv_at hl 1 rfl) ?_
      obtain ⟨kk_45, hk_46⟩ := pl_at ha0.1 hs
      refine va_get (D := (dC, dI)) (ci := 9) (v := .ref pa) (C := RX10) (T := TX10) (N := 9) hx hb hts (by decide +kernel) hown hK hP kk_45 hk_46 rfl 2 (by decide) (hts (.fieldLink RX10 60 "PageOne$Story" "pieces" "[LPageOne$Piece;") (by decide +kernel)) (fun x9 h9 => u_same (hts (.sameField "PageOne$Story" "PageOne$Item" "pieces" "[LPageOne$Piece;") (by decide +kernel)) x9 h9) rfl dX10_takenBy_31 ?_
      refine lv_iload_n hx hb dX10_takenBy_34 rfl (lv_at hl 2 rfl) ?_
      refine lv_iconst (v := 1) hx hb dX10_takenBy_35 (by decide) ?_
      refine lv_isub hx hb dX10_takenBy_36 ?_
      obtain ⟨kk_47, hk_48⟩ := pl_at hpa.1 hps
      refine va_aldq hx hb hK hP kk_47 5 hk_48 rfl (vknm h6 hcb b_3 c_17).1 dX10_takenBy_37 ?_
      obtain ⟨b_49, it_50, hg_51, hp_52, hlg_53⟩ := hpl ((p0 - 1) : Int32).toNatClampNeg (vknm h6 hcb b_3 c_17).2
      rw [hg_51]
      refine W.eq (g2 := F0 m 38 ls [.ref b_49]) rfl ?_
      obtain ⟨kk_54, hk_55⟩ := pl_at hp_52.1.1 (x_pcF hI hp_52)
      refine va_get (D := (dC, dI)) (ci := 7) (v := .int (Rm ((p0 - 1) : Int32).toNatClampNeg 0)) (C := RX8) (T := TX8) (N := 6) hx hb hts (by decide +kernel) hown hK hP kk_54 hk_55 rfl 1 (by decide) (hts (.fieldLink RX10 42 "PageOne$Piece" "page" "I") (by decide +kernel)) (fun _ h9 => h9) rfl dX10_takenBy_38 ?_
      refine lv_aload_n hx hb dX10_takenBy_41 rfl (lv_at hl 1 rfl) ?_
      obtain ⟨kk_56, hk_57⟩ := pl_at ha0.1 hs
      refine va_get (D := (dC, dI)) (ci := 9) (v := .ref pa) (C := RX10) (T := TX10) (N := 9) hx hb hts (by decide +kernel) hown hK hP kk_56 hk_57 rfl 2 (by decide) (hts (.fieldLink RX10 60 "PageOne$Story" "pieces" "[LPageOne$Piece;") (by decide +kernel)) (fun x9 h9 => u_same (hts (.sameField "PageOne$Story" "PageOne$Item" "pieces" "[LPageOne$Piece;") (by decide +kernel)) x9 h9) rfl dX10_takenBy_42 ?_
      refine lv_iload_n hx hb dX10_takenBy_45 rfl (lv_at hl 2 rfl) ?_
      obtain ⟨kk_58, hk_59⟩ := pl_at hpa.1 hps
      refine va_aldq hx hb hK hP kk_58 5 hk_59 rfl (vkn h6 hcb b_3).1 dX10_takenBy_46 ?_
      obtain ⟨b_60, it_61, hg_62, hp_63, hlg_64⟩ := hpl (p0 : Int32).toNatClampNeg (vkn h6 hcb b_3).2
      rw [hg_62]
      refine W.eq (g2 := F0 m 47 ls [.ref b_60, .int (Rm ((p0 - 1) : Int32).toNatClampNeg 0)]) rfl ?_
      obtain ⟨kk_65, hk_66⟩ := pl_at hp_63.1.1 (x_pcF hI hp_63)
      refine va_get (D := (dC, dI)) (ci := 7) (v := .int (Rm (p0 : Int32).toNatClampNeg 0)) (C := RX8) (T := TX8) (N := 6) hx hb hts (by decide +kernel) hown hK hP kk_65 hk_66 rfl 1 (by decide) (hts (.fieldLink RX10 42 "PageOne$Piece" "page" "I") (by decide +kernel)) (fun _ h9 => h9) rfl dX10_takenBy_47 ?_
      refine lv_icmp_eq (tgt := 56) hx hb dX10_takenBy_50 (by decide) (fun c_67 => ?_) (fun c_67 => ?_)
      ·
        refine lv_iload_n hx hb dX10_takenBy_56 rfl (lv_at hl 2 rfl) ?_
        refine lv_iconst (v := 1) hx hb dX10_takenBy_57 (by decide) ?_
        refine lv_iadd hx hb dX10_takenBy_58 ?_
        refine lv_aload_n hx hb dX10_takenBy_59 rfl (lv_at hl 1 rfl) ?_
        obtain ⟨kk_68, hk_69⟩ := pl_at ha0.1 hs
        refine va_get (D := (dC, dI)) (ci := 9) (v := .int cn) (C := RX10) (T := TX10) (N := 9) hx hb hts (by decide +kernel) hown hK hP kk_68 hk_69 rfl 3 (by decide) (hts (.fieldLink RX10 49 "PageOne$Story" "count" "I") (by decide +kernel)) (fun x9 h9 => u_same (hts (.sameField "PageOne$Story" "PageOne$Item" "count" "I") (by decide +kernel)) x9 h9) rfl dX10_takenBy_60 ?_
        refine lv_icmp_ge (tgt := 92) hx hb dX10_takenBy_63 (by decide) (fun c_70 => ?_) (fun c_70 => ?_)
        ·
          refine lv_iload_n hx hb dX10_takenBy_92 rfl (lv_at hl 0 rfl) ?_
          exact W.iret (v := x_16) hx hb hr (fun t ht hW => ⟨_, rfl, (by rw [ex_16]; unfold s_taken; rw [if_pos b_3, if_neg c_17, if_pos c_67, if_pos c_70]), ht⟩) (fun q h => absurd h List.not_mem_nil) dX10_takenBy_93
        ·
          refine lv_aload_n hx hb dX10_takenBy_66 rfl (lv_at hl 1 rfl) ?_
          obtain ⟨kk_71, hk_72⟩ := pl_at ha0.1 hs
          refine va_get (D := (dC, dI)) (ci := 9) (v := .ref pa) (C := RX10) (T := TX10) (N := 9) hx hb hts (by decide +kernel) hown hK hP kk_71 hk_72 rfl 2 (by decide) (hts (.fieldLink RX10 60 "PageOne$Story" "pieces" "[LPageOne$Piece;") (by decide +kernel)) (fun x9 h9 => u_same (hts (.sameField "PageOne$Story" "PageOne$Item" "pieces" "[LPageOne$Piece;") (by decide +kernel)) x9 h9) rfl dX10_takenBy_67 ?_
          refine lv_iload_n hx hb dX10_takenBy_70 rfl (lv_at hl 2 rfl) ?_
          refine lv_iconst (v := 1) hx hb dX10_takenBy_71 (by decide) ?_
          refine lv_iadd hx hb dX10_takenBy_72 ?_
          obtain ⟨kk_73, hk_74⟩ := pl_at hpa.1 hps
          refine va_aldq hx hb hK hP kk_73 5 hk_74 rfl (vknp h6 hcb b_3 c_70).1 dX10_takenBy_73 ?_
          obtain ⟨b_75, it_76, hg_77, hp_78, hlg_79⟩ := hpl ((p0 + 1) : Int32).toNatClampNeg (vknp h6 hcb b_3 c_70).2
          rw [hg_77]
          refine W.eq (g2 := F0 m 74 ls [.ref b_75]) rfl ?_
          obtain ⟨kk_80, hk_81⟩ := pl_at hp_78.1.1 (x_pcF hI hp_78)
          refine va_get (D := (dC, dI)) (ci := 7) (v := .int (Rm ((p0 + 1) : Int32).toNatClampNeg 0)) (C := RX8) (T := TX8) (N := 6) hx hb hts (by decide +kernel) hown hK hP kk_80 hk_81 rfl 1 (by decide) (hts (.fieldLink RX10 42 "PageOne$Piece" "page" "I") (by decide +kernel)) (fun _ h9 => h9) rfl dX10_takenBy_74 ?_
          refine lv_aload_n hx hb dX10_takenBy_77 rfl (lv_at hl 1 rfl) ?_
          obtain ⟨kk_82, hk_83⟩ := pl_at ha0.1 hs
          refine va_get (D := (dC, dI)) (ci := 9) (v := .ref pa) (C := RX10) (T := TX10) (N := 9) hx hb hts (by decide +kernel) hown hK hP kk_82 hk_83 rfl 2 (by decide) (hts (.fieldLink RX10 60 "PageOne$Story" "pieces" "[LPageOne$Piece;") (by decide +kernel)) (fun x9 h9 => u_same (hts (.sameField "PageOne$Story" "PageOne$Item" "pieces" "[LPageOne$Piece;") (by decide +kernel)) x9 h9) rfl dX10_takenBy_78 ?_
          refine lv_iload_n hx hb dX10_takenBy_81 rfl (lv_at hl 2 rfl) ?_
          obtain ⟨kk_84, hk_85⟩ := pl_at hpa.1 hps
          refine va_aldq hx hb hK hP kk_84 5 hk_85 rfl (vkn h6 hcb b_3).1 dX10_takenBy_82 ?_
          obtain ⟨b_86, it_87, hg_88, hp_89, hlg_90⟩ := hpl (p0 : Int32).toNatClampNeg (vkn h6 hcb b_3).2
          rw [hg_88]
          refine W.eq (g2 := F0 m 83 ls [.ref b_86, .int (Rm ((p0 + 1) : Int32).toNatClampNeg 0)]) rfl ?_
          obtain ⟨kk_91, hk_92⟩ := pl_at hp_89.1.1 (x_pcF hI hp_89)
          refine va_get (D := (dC, dI)) (ci := 7) (v := .int (Rm (p0 : Int32).toNatClampNeg 0)) (C := RX8) (T := TX8) (N := 6) hx hb hts (by decide +kernel) hown hK hP kk_91 hk_92 rfl 1 (by decide) (hts (.fieldLink RX10 42 "PageOne$Piece" "page" "I") (by decide +kernel)) (fun _ h9 => h9) rfl dX10_takenBy_83 ?_
          refine lv_icmp_eq (tgt := 92) hx hb dX10_takenBy_86 (by decide) (fun c_93 => ?_) (fun c_93 => ?_)
          ·
            refine lv_iload_n hx hb dX10_takenBy_92 rfl (lv_at hl 0 rfl) ?_
            exact W.iret (v := x_16) hx hb hr (fun t ht hW => ⟨_, rfl, (by rw [ex_16]; unfold s_taken; rw [if_pos b_3, if_neg c_17, if_pos c_67, if_neg c_70, if_pos c_93]), ht⟩) (fun q h => absurd h List.not_mem_nil) dX10_takenBy_93
          ·
            obtain ⟨x_94, ex_94⟩ : ∃ y : Int32, y = x_16 + (-1) := ⟨_, rfl⟩
            refine lv_iinc (v := x_94) (lv' := [(2, .int x_94), (0, .ref a0), (1, .int p0)]) hx hb dX10_takenBy_89 hl (k := 0) rfl (by rw [ex_94]; rfl) (by decide) rfl (fun ls hl => ?_)
            refine lv_iload_n hx hb dX10_takenBy_92 rfl (lv_at hl 0 rfl) ?_
            exact W.iret (v := x_94) hx hb hr (fun t ht hW => ⟨_, rfl, (by rw [ex_94, ex_16]; unfold s_taken; rw [if_pos b_3, if_neg c_17, if_pos c_67, if_neg c_70, if_neg c_93]), ht⟩) (fun q h => absurd h List.not_mem_nil) dX10_takenBy_93
      ·
        obtain ⟨x_95, ex_95⟩ : ∃ y : Int32, y = x_16 + (-1) := ⟨_, rfl⟩
        refine lv_iinc (v := x_95) (lv' := [(2, .int x_95), (0, .ref a0), (1, .int p0)]) hx hb dX10_takenBy_53 hl (k := 0) rfl (by rw [ex_95]; rfl) (by decide) rfl (fun ls hl => ?_)
        refine lv_iload_n hx hb dX10_takenBy_56 rfl (lv_at hl 2 rfl) ?_
        refine lv_iconst (v := 1) hx hb dX10_takenBy_57 (by decide) ?_
        refine lv_iadd hx hb dX10_takenBy_58 ?_
        refine lv_aload_n hx hb dX10_takenBy_59 rfl (lv_at hl 1 rfl) ?_
        obtain ⟨kk_96, hk_97⟩ := pl_at ha0.1 hs
        refine va_get (D := (dC, dI)) (ci := 9) (v := .int cn) (C := RX10) (T := TX10) (N := 9) hx hb hts (by decide +kernel) hown hK hP kk_96 hk_97 rfl 3 (by decide) (hts (.fieldLink RX10 49 "PageOne$Story" "count" "I") (by decide +kernel)) (fun x9 h9 => u_same (hts (.sameField "PageOne$Story" "PageOne$Item" "count" "I") (by decide +kernel)) x9 h9) rfl dX10_takenBy_60 ?_
        refine lv_icmp_ge (tgt := 92) hx hb dX10_takenBy_63 (by decide) (fun c_98 => ?_) (fun c_98 => ?_)
        ·
          refine lv_iload_n hx hb dX10_takenBy_92 rfl (lv_at hl 0 rfl) ?_
          exact W.iret (v := x_95) hx hb hr (fun t ht hW => ⟨_, rfl, (by rw [ex_95, ex_16]; unfold s_taken; rw [if_pos b_3, if_neg c_17, if_neg c_67, if_pos c_98]), ht⟩) (fun q h => absurd h List.not_mem_nil) dX10_takenBy_93
        ·
          refine lv_aload_n hx hb dX10_takenBy_66 rfl (lv_at hl 1 rfl) ?_
          obtain ⟨kk_99, hk_100⟩ := pl_at ha0.1 hs
          refine va_get (D := (dC, dI)) (ci := 9) (v := .ref pa) (C := RX10) (T := TX10) (N := 9) hx hb hts (by decide +kernel) hown hK hP kk_99 hk_100 rfl 2 (by decide) (hts (.fieldLink RX10 60 "PageOne$Story" "pieces" "[LPageOne$Piece;") (by decide +kernel)) (fun x9 h9 => u_same (hts (.sameField "PageOne$Story" "PageOne$Item" "pieces" "[LPageOne$Piece;") (by decide +kernel)) x9 h9) rfl dX10_takenBy_67 ?_
          refine lv_iload_n hx hb dX10_takenBy_70 rfl (lv_at hl 2 rfl) ?_
          refine lv_iconst (v := 1) hx hb dX10_takenBy_71 (by decide) ?_
          refine lv_iadd hx hb dX10_takenBy_72 ?_
          obtain ⟨kk_101, hk_102⟩ := pl_at hpa.1 hps
          refine va_aldq hx hb hK hP kk_101 5 hk_102 rfl (vknp h6 hcb b_3 c_98).1 dX10_takenBy_73 ?_
          obtain ⟨b_103, it_104, hg_105, hp_106, hlg_107⟩ := hpl ((p0 + 1) : Int32).toNatClampNeg (vknp h6 hcb b_3 c_98).2
          rw [hg_105]
          refine W.eq (g2 := F0 m 74 ls [.ref b_103]) rfl ?_
          obtain ⟨kk_108, hk_109⟩ := pl_at hp_106.1.1 (x_pcF hI hp_106)
          refine va_get (D := (dC, dI)) (ci := 7) (v := .int (Rm ((p0 + 1) : Int32).toNatClampNeg 0)) (C := RX8) (T := TX8) (N := 6) hx hb hts (by decide +kernel) hown hK hP kk_108 hk_109 rfl 1 (by decide) (hts (.fieldLink RX10 42 "PageOne$Piece" "page" "I") (by decide +kernel)) (fun _ h9 => h9) rfl dX10_takenBy_74 ?_
          refine lv_aload_n hx hb dX10_takenBy_77 rfl (lv_at hl 1 rfl) ?_
          obtain ⟨kk_110, hk_111⟩ := pl_at ha0.1 hs
          refine va_get (D := (dC, dI)) (ci := 9) (v := .ref pa) (C := RX10) (T := TX10) (N := 9) hx hb hts (by decide +kernel) hown hK hP kk_110 hk_111 rfl 2 (by decide) (hts (.fieldLink RX10 60 "PageOne$Story" "pieces" "[LPageOne$Piece;") (by decide +kernel)) (fun x9 h9 => u_same (hts (.sameField "PageOne$Story" "PageOne$Item" "pieces" "[LPageOne$Piece;") (by decide +kernel)) x9 h9) rfl dX10_takenBy_78 ?_
          refine lv_iload_n hx hb dX10_takenBy_81 rfl (lv_at hl 2 rfl) ?_
          obtain ⟨kk_112, hk_113⟩ := pl_at hpa.1 hps
          refine va_aldq hx hb hK hP kk_112 5 hk_113 rfl (vkn h6 hcb b_3).1 dX10_takenBy_82 ?_
          obtain ⟨b_114, it_115, hg_116, hp_117, hlg_118⟩ := hpl (p0 : Int32).toNatClampNeg (vkn h6 hcb b_3).2
          rw [hg_116]
          refine W.eq (g2 := F0 m 83 ls [.ref b_114, .int (Rm ((p0 + 1) : Int32).toNatClampNeg 0)]) rfl ?_
          obtain ⟨kk_119, hk_120⟩ := pl_at hp_117.1.1 (x_pcF hI hp_117)
          refine va_get (D := (dC, dI)) (ci := 7) (v := .int (Rm (p0 : Int32).toNatClampNeg 0)) (C := RX8) (T := TX8) (N := 6) hx hb hts (by decide +kernel) hown hK hP kk_119 hk_120 rfl 1 (by decide) (hts (.fieldLink RX10 42 "PageOne$Piece" "page" "I") (by decide +kernel)) (fun _ h9 => h9) rfl dX10_takenBy_83 ?_
          refine lv_icmp_eq (tgt := 92) hx hb dX10_takenBy_86 (by decide) (fun c_121 => ?_) (fun c_121 => ?_)
          ·
            refine lv_iload_n hx hb dX10_takenBy_92 rfl (lv_at hl 0 rfl) ?_
            exact W.iret (v := x_95) hx hb hr (fun t ht hW => ⟨_, rfl, (by rw [ex_95, ex_16]; unfold s_taken; rw [if_pos b_3, if_neg c_17, if_neg c_67, if_neg c_98, if_pos c_121]), ht⟩) (fun q h => absurd h List.not_mem_nil) dX10_takenBy_93
          ·
            obtain ⟨x_122, ex_122⟩ : ∃ y : Int32, y = x_95 + (-1) := ⟨_, rfl⟩
            refine lv_iinc (v := x_122) (lv' := [(2, .int x_122), (0, .ref a0), (1, .int p0)]) hx hb dX10_takenBy_89 hl (k := 0) rfl (by rw [ex_122]; rfl) (by decide) rfl (fun ls hl => ?_)
            refine lv_iload_n hx hb dX10_takenBy_92 rfl (lv_at hl 0 rfl) ?_
            exact W.iret (v := x_122) hx hb hr (fun t ht hW => ⟨_, rfl, (by rw [ex_122, ex_95, ex_16]; unfold s_taken; rw [if_pos b_3, if_neg c_17, if_neg c_67, if_neg c_98, if_neg c_121]), ht⟩) (fun q h => absurd h List.not_mem_nil) dX10_takenBy_93
  ·
    obtain rfl : r = 0 := b_f hw b_3
    refine lv_if_ne (tgt := 16) hx hb dX10_takenBy_11 (by decide) (fun c_123 => absurd (by decide) c_123) (fun c_123 => ?_)
    refine lv_iconst (v := 0) hx hb dX10_takenBy_14 (by decide) ?_
    exact W.iret (v := 0) hx hb hr (fun t ht hW => ⟨_, rfl, (by unfold s_taken; rw [if_neg (bne b_3)]), ht⟩) (fun q h => absurd h List.not_mem_nil) dX10_takenBy_15
