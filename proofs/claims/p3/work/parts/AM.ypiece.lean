theorem bw6 {x : Int32} {n : Nat} (h6 : n ≤ 6) (h : bw x 0 (nI n) = true) : bw x 0 6 = true := by
  have e6 : (6 : Int32).toInt = 6 := rfl
  have h1 := bw_iff.mp h
  rw [nI_toInt (by omega)] at h1
  rw [bw_iff, e6]; omega
theorem bw_less {p cn : Int32} {n : Nat} (hn : n ≤ 6) (hc : bw cn 0 (nI n) = true) (hp : bw p 0 (cn - 1) = true) : bw p 0 cn = true := by
  have h1 := bw_iff.mp hc
  have h2 := bw_iff.mp hp
  rw [i0, nI_toInt (by omega)] at h1
  rw [subI (by rw [i1]; omega) (by rw [i1]; omega), i1] at h2
  rw [bw_iff]; omega
set_option maxHeartbeats 4000000 in
set_option maxRecDepth 100000 in
theorem y_piece (l : Launch) (dC : Nat → ClassId) (dI : Nat → Nat → Nat) (q : Nat → ClassId) (h0 : Nat) (d : Nat → Nat) (k : Nat → Int32) (z : gS) (f : xF) (hI : xI q h0 d k z f) (p0 p1 p2 : Int32) (u : mS) (hrp : rep q d u z f) (hk0 : k 0 = u.1 3) (hk1 : k 1 = u.1 28) (hk2 : k 2 = u.1 38) (hk3 : k 3 = u.1 39) : Met l yX11_piece wsX11_piece ({ frames := 3, cells := 0, slots := 0, locals := 67 }) (va_Pc [.ref h0, .int p0, .int p1, .int p2] (PX dC dI (va_pl z.1 f) (xT q))) (vp_Si (fun r => r = mPiece u p0 p1 p2)) 0 0 (fun _ => False) := by
  refine Met.ofW (cc := cX11_piece) (maxL := 7) (ret := (some .int)) (by decide) rfl ?_
  intro p e s m args below meth c s₁ B hml hv
  obtain ⟨rfl, ⟨hP, hK, hN⟩, hXN⟩ := hv
  have hx := B.exec
  have hb := B.bytes
  have hr := B.returns
  have hts := atoms_spec (ws := wsX11_piece) B.pre
  have hown : s.vm.findClass RX11 = some m.cls := findClass_of_methodNamed B.named
  have hlocks := B.notSynchronized
  have hl := lv_entry ([.ref h0, .int p0, .int p1, .int p2]) (n := 7) (Nat.le_of_ble_eq_true rfl)
  rw [lg_entry_eq]
  generalize (lg_sl ([.ref h0, .int p0, .int p1, .int p2]) ++ List.replicate (7 - (lg_sl ([.ref h0, .int p0, .int p1, .int p2])).length) Slot.unset).toArray = ls at hl ⊢
  have hl : lv_has ls 7 [(0, .ref h0), (1, .int p0), (2, .int p1), (3, .int p2)] := hl
  refine lv_aload_n hx hb dX11_piece_0 rfl (lv_at hl 0 rfl) ?_
  refine lv_iload_n hx hb dX11_piece_1 rfl (lv_at hl 1 rfl) ?_
  obtain ⟨kk_1, hk_2⟩ := pl_at hI.2.1.1.1 hI.2.2.2.1.1
  refine va_csq (va_runV (As := [.int p0]) (rest := []) ⟨hx, hb, hml, hown, hts⟩ (y_itemOf l dC dI q h0 d k z f hI p0 u hrp hk0 hk1 hk2 hk3) (cwV 1 hts gX11_piece_X11_itemOf rfl rfl rfl (by decide +kernel) ⟨Nat.le_of_ble_eq_true rfl, Nat.le_of_ble_eq_true rfl⟩) ⟨px_fb, va_recv hK hP (ci := 10) (q0 := kk_1) rfl hk_2, fun U hU hW => ⟨rfl, px_to hU hW hP hK hN hXN⟩⟩ rfl rfl hl.1 rfl (lv_room (Nat.le_of_ble_eq_true rfl)) dX11_piece_2 ⟨Nat.le_of_ble_eq_true rfl, Nat.le_of_ble_eq_true rfl⟩).run (fun r hw => ?_)
  rcases hw with ⟨hr9, hn9⟩ | ⟨i_3, hi_4, ep_5, hr9⟩
  ·
    subst hr9
    have hno_25 := hn9
    refine W.eq (g2 := F0 m 5 ls [.null]) rfl ?_
    refine lv_astoreN (lv' := [(4, .null), (0, .ref h0), (1, .int p0), (2, .int p1), (3, .int p2)]) hx hb dX11_piece_5 hl (by decide) rfl (fun ls hl => ?_)
    refine lv_aloadN hx hb dX11_piece_7 (lv_at hl 0 rfl) ?_
    refine lv_ifnullN (tgt := 27) hx hb dX11_piece_9 (by decide) ?_
    refine lv_iconst (v := (-1)) hx hb dX11_piece_27 (by decide) ?_
    exact W.iret (v := (-1)) hx hb hr (fun t ht hW => ⟨_, rfl, (mPc_no hno_25).symm, ht⟩) (fun q h => absurd h List.not_mem_nil) dX11_piece_28
  ·
    subst hr9
    obtain ⟨rs_6, n_7, g_8, fg_9, hit_10, hs_11, hpa_12, hps_13, h1_14, h6_15, hcb_16, hpl_17, hlg_18, hnn_19, hfa_20, hfs_21, hfe_22, hrs_23, hkt_24⟩ := it_all hI hrp.2.2.1 hi_4
    refine W.eq (g2 := F0 m 5 ls [.ref (d (2000 + i_3))]) rfl ?_
    refine lv_astore (lv' := [(4, .ref (d (2000 + i_3))), (0, .ref h0), (1, .int p0), (2, .int p1), (3, .int p2)]) hx hb dX11_piece_5 hl (by decide) rfl (fun ls hl => ?_)
    refine lv_aload hx hb dX11_piece_7 (lv_at hl 0 rfl) ?_
    refine lv_ifnull hx hb dX11_piece_9 ?_
    refine lv_iload_n hx hb dX11_piece_12 rfl (lv_at hl 3 rfl) ?_
    refine lv_iconst (v := 0) hx hb dX11_piece_13 (by decide) ?_
    refine lv_aload hx hb dX11_piece_14 (lv_at hl 0 rfl) ?_
    obtain ⟨kk_26, hk_27⟩ := pl_at hit_10.1 hs_11
    refine w_then (F0 m 19 ls [.int (u.2 22 i_3), .int 0, .int p1]) (fun hgo => ?_) ?_
    ·
      rcases x_tag hit_10 with ht9 | ht9 | ht9 | ht9 | ht9 | ht9
      ·
        rw [ht9.2] at hk_27
        exact va_get (D := (dC, dI)) (ci := 2) (v := .int (u.2 22 i_3)) (C := RX2) (T := TX2) (N := 7) hx hb hts (by decide +kernel) hown hK hP kk_26 hk_27 rfl 3 (by decide) (hts (.fieldLink RX11 170 "PageOne$Item" "count" "I") (by decide +kernel)) (fun _ h9 => h9) rfl dX11_piece_16 hgo
      ·
        rw [ht9.2] at hk_27
        exact va_get (D := (dC, dI)) (ci := 3) (v := .int (u.2 22 i_3)) (C := RX3) (T := TX3) (N := 8) hx hb hts (by decide +kernel) hown hK hP kk_26 hk_27 rfl 3 (by decide) (hts (.fieldLink RX11 170 "PageOne$Item" "count" "I") (by decide +kernel)) (fun _ h9 => h9) rfl dX11_piece_16 hgo
      ·
        rw [ht9.2] at hk_27
        exact va_get (D := (dC, dI)) (ci := 4) (v := .int (u.2 22 i_3)) (C := RX5) (T := TX5) (N := 7) hx hb hts (by decide +kernel) hown hK hP kk_26 hk_27 rfl 3 (by decide) (hts (.fieldLink RX11 170 "PageOne$Item" "count" "I") (by decide +kernel)) (fun _ h9 => h9) rfl dX11_piece_16 hgo
      ·
        rw [ht9.2] at hk_27
        exact va_get (D := (dC, dI)) (ci := 5) (v := .int (u.2 22 i_3)) (C := RX6) (T := TX6) (N := 9) hx hb hts (by decide +kernel) hown hK hP kk_26 hk_27 rfl 3 (by decide) (hts (.fieldLink RX11 170 "PageOne$Item" "count" "I") (by decide +kernel)) (fun _ h9 => h9) rfl dX11_piece_16 hgo
      ·
        rw [ht9.2] at hk_27
        exact va_get (D := (dC, dI)) (ci := 6) (v := .int (u.2 22 i_3)) (C := RX7) (T := TX7) (N := 8) hx hb hts (by decide +kernel) hown hK hP kk_26 hk_27 rfl 3 (by decide) (hts (.fieldLink RX11 170 "PageOne$Item" "count" "I") (by decide +kernel)) (fun _ h9 => h9) rfl dX11_piece_16 hgo
      ·
        rw [ht9.2] at hk_27
        exact va_get (D := (dC, dI)) (ci := 9) (v := .int (u.2 22 i_3)) (C := RX10) (T := TX10) (N := 9) hx hb hts (by decide +kernel) hown hK hP kk_26 hk_27 rfl 3 (by decide) (hts (.fieldLink RX11 170 "PageOne$Item" "count" "I") (by decide +kernel)) (fun _ h9 => h9) rfl dX11_piece_16 hgo
    ·
      refine lv_iconst (v := 1) hx hb dX11_piece_19 (by decide) ?_
      refine lv_isub hx hb dX11_piece_20 ?_
      refine vp_callSi (va_runS (As := [.int p1, .int 0, .int ((u.2 22 i_3) - 1)]) (rest := []) ⟨hx, hb, hml, hown, hts⟩ (x_isWithin l dC dI p1 0 ((u.2 22 i_3) - 1)) (va_cwS 3 hts gX11_piece_X11_isWithin rfl rfl rfl (by decide +kernel) ⟨Nat.le_of_ble_eq_true rfl, Nat.le_of_ble_eq_true rfl⟩) ⟨pw_fb, fun U hU hW => ⟨rfl, pw_to hU hW (hP.sub (ws' := []) [] rfl) (hK.sub (tys' := []) [] rfl) hN⟩⟩ rfl rfl hl.1 rfl (lv_room (Nat.le_of_ble_eq_true rfl)) dX11_piece_21 ⟨Nat.le_of_ble_eq_true rfl, Nat.le_of_ble_eq_true rfl⟩).run (fun r hw => ?_)
      rcases Bool.eq_false_or_eq_true (bw p1 0 ((u.2 22 i_3) - 1)) with b_28 | b_28
      ·
        obtain rfl : r = 1 := b_t hw b_28
        refine lv_if_ne (tgt := 29) hx hb dX11_piece_24 (by decide) (fun c_29 => ?_) (fun c_29 => absurd c_29 (by decide))
        refine lv_aload hx hb dX11_piece_29 (lv_at hl 0 rfl) ?_
        obtain ⟨kk_30, hk_31⟩ := pl_at hit_10.1 hs_11
        refine w_then (F0 m 34 ls [.ref (d (3000 + i_3))]) (fun hgo => ?_) ?_
        ·
          rcases x_tag hit_10 with ht9 | ht9 | ht9 | ht9 | ht9 | ht9
          ·
            rw [ht9.2] at hk_31
            exact va_get (D := (dC, dI)) (ci := 2) (v := .ref (d (3000 + i_3))) (C := RX2) (T := TX2) (N := 7) hx hb hts (by decide +kernel) hown hK hP kk_30 hk_31 rfl 2 (by decide) (hts (.fieldLink RX11 225 "PageOne$Item" "pieces" "[LPageOne$Piece;") (by decide +kernel)) (fun _ h9 => h9) rfl dX11_piece_31 hgo
          ·
            rw [ht9.2] at hk_31
            exact va_get (D := (dC, dI)) (ci := 3) (v := .ref (d (3000 + i_3))) (C := RX3) (T := TX3) (N := 8) hx hb hts (by decide +kernel) hown hK hP kk_30 hk_31 rfl 2 (by decide) (hts (.fieldLink RX11 225 "PageOne$Item" "pieces" "[LPageOne$Piece;") (by decide +kernel)) (fun _ h9 => h9) rfl dX11_piece_31 hgo
          ·
            rw [ht9.2] at hk_31
            exact va_get (D := (dC, dI)) (ci := 4) (v := .ref (d (3000 + i_3))) (C := RX5) (T := TX5) (N := 7) hx hb hts (by decide +kernel) hown hK hP kk_30 hk_31 rfl 2 (by decide) (hts (.fieldLink RX11 225 "PageOne$Item" "pieces" "[LPageOne$Piece;") (by decide +kernel)) (fun _ h9 => h9) rfl dX11_piece_31 hgo
          ·
            rw [ht9.2] at hk_31
            exact va_get (D := (dC, dI)) (ci := 5) (v := .ref (d (3000 + i_3))) (C := RX6) (T := TX6) (N := 9) hx hb hts (by decide +kernel) hown hK hP kk_30 hk_31 rfl 2 (by decide) (hts (.fieldLink RX11 225 "PageOne$Item" "pieces" "[LPageOne$Piece;") (by decide +kernel)) (fun _ h9 => h9) rfl dX11_piece_31 hgo
          ·
            rw [ht9.2] at hk_31
            exact va_get (D := (dC, dI)) (ci := 6) (v := .ref (d (3000 + i_3))) (C := RX7) (T := TX7) (N := 8) hx hb hts (by decide +kernel) hown hK hP kk_30 hk_31 rfl 2 (by decide) (hts (.fieldLink RX11 225 "PageOne$Item" "pieces" "[LPageOne$Piece;") (by decide +kernel)) (fun _ h9 => h9) rfl dX11_piece_31 hgo
          ·
            rw [ht9.2] at hk_31
            exact va_get (D := (dC, dI)) (ci := 9) (v := .ref (d (3000 + i_3))) (C := RX10) (T := TX10) (N := 9) hx hb hts (by decide +kernel) hown hK hP kk_30 hk_31 rfl 2 (by decide) (hts (.fieldLink RX11 225 "PageOne$Item" "pieces" "[LPageOne$Piece;") (by decide +kernel)) (fun _ h9 => h9) rfl dX11_piece_31 hgo
        ·
          refine lv_iload_n hx hb dX11_piece_34 rfl (lv_at hl 3 rfl) ?_
          obtain ⟨kk_32, hk_33⟩ := pl_at hpa_12.1 hps_13
          refine va_aldq hx hb hK hP kk_32 5 hk_33 rfl (vkn h6_15 hcb_16 b_28).1 dX11_piece_35 ?_
          obtain ⟨b_34, it_35, hg_36, hp_37, hlg_38⟩ := hpl_17 (p1 : Int32).toNatClampNeg (vkn h6_15 hcb_16 b_28).2
          rw [hg_36]
          refine W.eq (g2 := F0 m 36 ls [.ref b_34]) rfl ?_
          refine lv_astore (lv' := [(5, .ref b_34), (4, .ref (d (2000 + i_3))), (0, .ref h0), (1, .int p0), (2, .int p1), (3, .int p2)]) hx hb dX11_piece_36 hl (by decide) rfl (fun ls hl => ?_)
          refine lv_iload_n hx hb dX11_piece_38 rfl (lv_at hl 5 rfl) ?_
          rcases Classical.em (p2 = 0) with s_39 | s_39
          ·
            subst s_39
            refine lv_tableIn (tgt := 80) (off := 41) hx hb dX11_piece_39 (by decide) (by decide) (by decide) (by decide) ?_
            refine lv_aload hx hb dX11_piece_80 (lv_at hl 0 rfl) ?_
            obtain ⟨kk_40, hk_41⟩ := pl_at hp_37.1.1 (x_pcF hI hp_37)
            refine va_get (D := (dC, dI)) (ci := 7) (v := .int ((pR u i_3) (p1 : Int32).toNatClampNeg 0)) (C := RX8) (T := TX8) (N := 6) hx hb hts (by decide +kernel) hown hK hP kk_40 hk_41 rfl 1 (by decide) (hts (.fieldLink RX11 229 "PageOne$Piece" "page" "I") (by decide +kernel)) (fun _ h9 => h9) rfl dX11_piece_82 ?_
            exact W.iret (v := ((pR u i_3) (p1 : Int32).toNatClampNeg 0)) hx hb hr (fun t ht hW => ⟨_, rfl, (by rw [ep_5, mPc _ (by rw [← hk0]; exact hI.1.1) hi_4 (bw6 h6_15 hcb_16) b_28]; rw [if_pos rfl]), ht⟩) (fun q h => absurd h List.not_mem_nil) dX11_piece_85
          ·
            rcases Classical.em (p2 = 1) with s_42 | s_42
            ·
              subst s_42
              refine lv_tableIn (tgt := 86) (off := 47) hx hb dX11_piece_39 (by decide) (by decide) (by decide) (by decide) ?_
              refine lv_aload hx hb dX11_piece_86 (lv_at hl 0 rfl) ?_
              obtain ⟨kk_43, hk_44⟩ := pl_at hp_37.1.1 (x_pcF hI hp_37)
              refine va_get (D := (dC, dI)) (ci := 7) (v := .int ((pR u i_3) (p1 : Int32).toNatClampNeg 1)) (C := RX8) (T := TX8) (N := 6) hx hb hts (by decide +kernel) hown hK hP kk_43 hk_44 rfl 2 (by decide) (hts (.fieldLink RX11 232 "PageOne$Piece" "column" "I") (by decide +kernel)) (fun _ h9 => h9) rfl dX11_piece_88 ?_
              exact W.iret (v := ((pR u i_3) (p1 : Int32).toNatClampNeg 1)) hx hb hr (fun t ht hW => ⟨_, rfl, (by rw [ep_5, mPc _ (by rw [← hk0]; exact hI.1.1) hi_4 (bw6 h6_15 hcb_16) b_28]; rw [if_neg (by decide), if_pos rfl]), ht⟩) (fun q h => absurd h List.not_mem_nil) dX11_piece_91
            ·
              rcases Classical.em (p2 = 2) with s_45 | s_45
              ·
                subst s_45
                refine lv_tableIn (tgt := 92) (off := 53) hx hb dX11_piece_39 (by decide) (by decide) (by decide) (by decide) ?_
                refine lv_aload hx hb dX11_piece_92 (lv_at hl 0 rfl) ?_
                obtain ⟨kk_46, hk_47⟩ := pl_at hp_37.1.1 (x_pcF hI hp_37)
                refine va_get (D := (dC, dI)) (ci := 7) (v := .int ((pR u i_3) (p1 : Int32).toNatClampNeg 2)) (C := RX8) (T := TX8) (N := 6) hx hb hts (by decide +kernel) hown hK hP kk_46 hk_47 rfl 3 (by decide) (hts (.fieldLink RX11 235 "PageOne$Piece" "line" "I") (by decide +kernel)) (fun _ h9 => h9) rfl dX11_piece_94 ?_
                exact W.iret (v := ((pR u i_3) (p1 : Int32).toNatClampNeg 2)) hx hb hr (fun t ht hW => ⟨_, rfl, (by rw [ep_5, mPc _ (by rw [← hk0]; exact hI.1.1) hi_4 (bw6 h6_15 hcb_16) b_28]; rw [if_neg (by decide), if_neg (by decide), if_pos rfl]), ht⟩) (fun q h => absurd h List.not_mem_nil) dX11_piece_97
              ·
                rcases Classical.em (p2 = 3) with s_48 | s_48
                ·
                  subst s_48
                  refine lv_tableIn (tgt := 98) (off := 59) hx hb dX11_piece_39 (by decide) (by decide) (by decide) (by decide) ?_
                  refine lv_aload hx hb dX11_piece_98 (lv_at hl 0 rfl) ?_
                  obtain ⟨kk_49, hk_50⟩ := pl_at hp_37.1.1 (x_pcF hI hp_37)
                  refine va_get (D := (dC, dI)) (ci := 7) (v := .int ((pR u i_3) (p1 : Int32).toNatClampNeg 3)) (C := RX8) (T := TX8) (N := 6) hx hb hts (by decide +kernel) hown hK hP kk_49 hk_50 rfl 4 (by decide) (hts (.fieldLink RX11 238 "PageOne$Piece" "w" "I") (by decide +kernel)) (fun _ h9 => h9) rfl dX11_piece_100 ?_
                  exact W.iret (v := ((pR u i_3) (p1 : Int32).toNatClampNeg 3)) hx hb hr (fun t ht hW => ⟨_, rfl, (by rw [ep_5, mPc _ (by rw [← hk0]; exact hI.1.1) hi_4 (bw6 h6_15 hcb_16) b_28]; rw [if_neg (by decide), if_neg (by decide), if_neg (by decide), if_pos rfl]), ht⟩) (fun q h => absurd h List.not_mem_nil) dX11_piece_103
                ·
                  rcases Classical.em (p2 = 4) with s_51 | s_51
                  ·
                    subst s_51
                    refine lv_tableIn (tgt := 104) (off := 65) hx hb dX11_piece_39 (by decide) (by decide) (by decide) (by decide) ?_
                    refine lv_aload hx hb dX11_piece_104 (lv_at hl 0 rfl) ?_
                    obtain ⟨kk_52, hk_53⟩ := pl_at hp_37.1.1 (x_pcF hI hp_37)
                    refine va_get (D := (dC, dI)) (ci := 7) (v := .int ((pR u i_3) (p1 : Int32).toNatClampNeg 4)) (C := RX8) (T := TX8) (N := 6) hx hb hts (by decide +kernel) hown hK hP kk_52 hk_53 rfl 5 (by decide) (hts (.fieldLink RX11 241 "PageOne$Piece" "h" "I") (by decide +kernel)) (fun _ h9 => h9) rfl dX11_piece_106 ?_
                    exact W.iret (v := ((pR u i_3) (p1 : Int32).toNatClampNeg 4)) hx hb hr (fun t ht hW => ⟨_, rfl, (by rw [ep_5, mPc _ (by rw [← hk0]; exact hI.1.1) hi_4 (bw6 h6_15 hcb_16) b_28]; rw [if_neg (by decide), if_neg (by decide), if_neg (by decide), if_neg (by decide), if_pos rfl]), ht⟩) (fun q h => absurd h List.not_mem_nil) dX11_piece_109
                  ·
                    rcases Classical.em (p2 = 5) with s_54 | s_54
                    ·
                      subst s_54
                      refine lv_tableIn (tgt := 110) (off := 71) hx hb dX11_piece_39 (by decide) (by decide) (by decide) (by decide) ?_
                      refine lv_aload hx hb dX11_piece_110 (lv_at hl 1 rfl) ?_
                      rcases Classical.em (tg z (d (2000 + i_3)) 15) with ht9 | ht9
                      ·
                        have ht_55 := ht9
                        have hkd_57 : u.2 4 i_3 = 0 := (kT_k (kd_05 hrp.2.2.1 hi_4).1 (kd_05 hrp.2.2.1 hi_4).2).1 (hkt_24.symm.trans ht_55.2)
                        obtain ⟨hx_58, hx_59, hx_60, ⟨hx_61, hx_62, hx_63⟩, hx_64, hx_65, hx_66⟩ := hrs_23.1 hkd_57
                        have hs_67 : f (d (2000 + i_3)) = .inr (9, [.int (nI i_3), .int (u.2 4 i_3), .ref (d (3000 + i_3)), .int (u.2 22 i_3), .ref (d (4000 + i_3)), .int (u.2 5 i_3), .ref (d (5000 + i_3)), .int (u.2 15 i_3), .ref (d (6000 + i_3))]) := by rw [hs_11, ht_55.2, hx_58]; rfl
                        obtain ⟨kk_68, hk_69⟩ := pl_at ht_55.1 hs_67
                        refine va_instS hx hb hown (hts (.classLink RX11 66 "PageOne$Story") (by decide +kernel)) (hK.1 9 (RX10, TX10, 9) rfl).2 (va_recv hK hP (ci := 9) (q0 := kk_68) rfl hk_69) dX11_piece_112 ?_
                        refine lv_if_eq (tgt := 134) hx hb dX11_piece_115 (by decide) (fun c_70 => absurd c_70 (by decide)) (fun c_70 => ?_)
                        refine lv_aload hx hb dX11_piece_118 (lv_at hl 1 rfl) ?_
                        obtain ⟨kk_71, hk_72⟩ := pl_at ht_55.1 hs_67
                        refine va_castS hx hb hown (hts (.classLink RX11 66 "PageOne$Story") (by decide +kernel)) (hK.1 9 (RX10, TX10, 9) rfl).2 (va_recv hK hP (ci := 9) (q0 := kk_71) rfl hk_72) dX11_piece_120 ?_
                        refine lv_astore (lv' := [(6, .ref (d (2000 + i_3))), (5, .ref b_34), (4, .ref (d (2000 + i_3))), (0, .ref h0), (1, .int p0), (2, .int p1), (3, .int 5)]) hx hb dX11_piece_123 hl (by decide) rfl (fun ls hl => ?_)
                        refine lv_aload hx hb dX11_piece_125 (lv_at hl 0 rfl) ?_
                        refine lv_iload_n hx hb dX11_piece_127 rfl (lv_at hl 5 rfl) ?_
                        obtain ⟨kk_73, hk_74⟩ := pl_at ht_55.1 hs_67
                        refine vp_callSi (va_runV (As := [.int p1]) (rest := []) ⟨hx, hb, hml, hown, hts⟩ (y_takenBefore l dC dI q h0 d k z f hI (d (2000 + i_3)) (d (3000 + i_3)) (d (4000 + i_3)) (d (5000 + i_3)) (d (6000 + i_3)) (nI i_3) (u.2 4 i_3) (u.2 22 i_3) (u.2 5 i_3) (u.2 15 i_3) ht_55 hs_67 p1 n_7 g_8 (pR u i_3) hpa_12 hps_13 h1_14 h6_15 hcb_16 hpl_17 (bw_less h6_15 hcb_16 b_28)) (cwV 1 hts gX11_piece_X10_takenBefore rfl rfl rfl (by decide +kernel) ⟨Nat.le_of_ble_eq_true rfl, Nat.le_of_ble_eq_true rfl⟩) ⟨px_fb, va_recv hK hP (ci := 9) (q0 := kk_73) rfl hk_74, fun U hU hW => ⟨rfl, px_to hU hW hP hK hN hXN⟩⟩ rfl rfl hl.1 rfl (lv_room (Nat.le_of_ble_eq_true rfl)) dX11_piece_128 ⟨Nat.le_of_ble_eq_true rfl, Nat.le_of_ble_eq_true rfl⟩).run (fun r hw => ?_)
                        obtain rfl : r = (s_from (u.2 22 i_3) (pR u i_3) p1.toNatClampNeg) := hw
                        refine lv_goto (tgt := 135) hx hb dX11_piece_131 (by decide) ?_
                        exact W.iret (v := (s_from (u.2 22 i_3) (pR u i_3) p1.toNatClampNeg)) hx hb hr (fun t ht hW => ⟨_, rfl, (by rw [ep_5, mPc _ (by rw [← hk0]; exact hI.1.1) hi_4 (bw6 h6_15 hcb_16) b_28]; rw [if_neg (by decide), if_neg (by decide), if_neg (by decide), if_neg (by decide), if_neg (by decide), if_pos rfl, if_pos hkd_57]), ht⟩) (fun q h => absurd h List.not_mem_nil) dX11_piece_135
                      ·
                        have hn_56 := ht9
                        have hkd_57 : ¬ u.2 4 i_3 = 0 := fun e9 => ht9 ⟨hit_10.1, by rw [hkt_24, e9]; rfl⟩
                        refine w_then (F0 m 115 ls [.int 0]) (fun hgo => ?_) ?_
                        ·
                          rcases x_tag hit_10 with ht8 | ht8 | ht8 | ht8 | ht8 | ht8
                          ·
                            obtain ⟨nu_75, kd_76, cn_77, pa_78, fa_79, l_80, m_81, hs_82, hs_83, hs_84, hs_85⟩ := x_ifl hI ht8
                            obtain ⟨kk_86, hk_87⟩ := pl_at ht8.1 hs_82
                            exact va_instNo hx hb hown (hts (.classLink RX11 66 "PageOne$Story") (by decide +kernel)) hXN.n_X2_X10 (va_recv hK hP (ci := 2) (q0 := kk_86) rfl hk_87) dX11_piece_112 hgo
                          ·
                            obtain ⟨nu_88, kd_89, cn_90, pa_91, fa_92, o_93, w_94, y_95, hs_96, hs_97, hs_98, hs_99, hq_100⟩ := x_ihd hI ht8
                            obtain ⟨kk_101, hk_102⟩ := pl_at ht8.1 hs_96
                            exact va_instNo hx hb hown (hts (.classLink RX11 66 "PageOne$Story") (by decide +kernel)) hXN.n_X3_X10 (va_recv hK hP (ci := 3) (q0 := kk_101) rfl hk_102) dX11_piece_112 hgo
                          ·
                            obtain ⟨nu_103, kd_104, cn_105, pa_106, fa_107, o_108, y_109, hs_110, hs_111, hs_112, hs_113, hq_114⟩ := x_ino hI ht8
                            obtain ⟨kk_115, hk_116⟩ := pl_at ht8.1 hs_110
                            exact va_instNo hx hb hown (hts (.classLink RX11 66 "PageOne$Story") (by decide +kernel)) hXN.n_X5_X10 (va_recv hK hP (ci := 4) (q0 := kk_115) rfl hk_116) dX11_piece_112 hgo
                          ·
                            obtain ⟨nu_117, kd_118, cn_119, pa_120, fa_121, b_122, pr_123, sp_124, dy_125, hs_126, hs_127, hs_128, hs_129, hq_130, hq_131, hq_132⟩ := x_ipd hI ht8
                            obtain ⟨kk_133, hk_134⟩ := pl_at ht8.1 hs_126
                            exact va_instNo hx hb hown (hts (.classLink RX11 66 "PageOne$Story") (by decide +kernel)) hXN.n_X6_X10 (va_recv hK hP (ci := 5) (q0 := kk_133) rfl hk_134) dX11_piece_112 hgo
                          ·
                            obtain ⟨nu_135, kd_136, cn_137, pa_138, fa_139, ww_140, hh_141, sz_142, hs_143, hs_144, hs_145, hs_146, hq_147, hq_148, hq_149⟩ := x_ipi hI ht8
                            obtain ⟨kk_150, hk_151⟩ := pl_at ht8.1 hs_143
                            exact va_instNo hx hb hown (hts (.classLink RX11 66 "PageOne$Story") (by decide +kernel)) hXN.n_X7_X10 (va_recv hK hP (ci := 6) (q0 := kk_150) rfl hk_151) dX11_piece_112 hgo
                          ·
                            exact absurd ht8 ht9
                        ·
                          refine lv_if_eq (tgt := 134) hx hb dX11_piece_115 (by decide) (fun c_152 => ?_) (fun c_152 => absurd (by decide) c_152)
                          refine lv_iconst (v := 0) hx hb dX11_piece_134 (by decide) ?_
                          exact W.iret (v := 0) hx hb hr (fun t ht hW => ⟨_, rfl, (by rw [ep_5, mPc _ (by rw [← hk0]; exact hI.1.1) hi_4 (bw6 h6_15 hcb_16) b_28]; rw [if_neg (by decide), if_neg (by decide), if_neg (by decide), if_neg (by decide), if_neg (by decide), if_pos rfl, if_neg hkd_57]), ht⟩) (fun q h => absurd h List.not_mem_nil) dX11_piece_135
                    ·
                      rcases Classical.em (p2 = 6) with s_153 | s_153
                      ·
                        subst s_153
                        refine lv_tableIn (tgt := 136) (off := 97) hx hb dX11_piece_39 (by decide) (by decide) (by decide) (by decide) ?_
                        refine lv_aload hx hb dX11_piece_136 (lv_at hl 1 rfl) ?_
                        rcases Classical.em (tg z (d (2000 + i_3)) 15) with ht9 | ht9
                        ·
                          have ht_154 := ht9
                          have hkd_156 : u.2 4 i_3 = 0 := (kT_k (kd_05 hrp.2.2.1 hi_4).1 (kd_05 hrp.2.2.1 hi_4).2).1 (hkt_24.symm.trans ht_154.2)
                          obtain ⟨hx_157, hx_158, hx_159, ⟨hx_160, hx_161, hx_162⟩, hx_163, hx_164, hx_165⟩ := hrs_23.1 hkd_156
                          have hs_166 : f (d (2000 + i_3)) = .inr (9, [.int (nI i_3), .int (u.2 4 i_3), .ref (d (3000 + i_3)), .int (u.2 22 i_3), .ref (d (4000 + i_3)), .int (u.2 5 i_3), .ref (d (5000 + i_3)), .int (u.2 15 i_3), .ref (d (6000 + i_3))]) := by rw [hs_11, ht_154.2, hx_157]; rfl
                          obtain ⟨kk_167, hk_168⟩ := pl_at ht_154.1 hs_166
                          refine va_instS hx hb hown (hts (.classLink RX11 66 "PageOne$Story") (by decide +kernel)) (hK.1 9 (RX10, TX10, 9) rfl).2 (va_recv hK hP (ci := 9) (q0 := kk_167) rfl hk_168) dX11_piece_138 ?_
                          refine lv_if_eq (tgt := 160) hx hb dX11_piece_141 (by decide) (fun c_169 => absurd c_169 (by decide)) (fun c_169 => ?_)
                          refine lv_aload hx hb dX11_piece_144 (lv_at hl 1 rfl) ?_
                          obtain ⟨kk_170, hk_171⟩ := pl_at ht_154.1 hs_166
                          refine va_castS hx hb hown (hts (.classLink RX11 66 "PageOne$Story") (by decide +kernel)) (hK.1 9 (RX10, TX10, 9) rfl).2 (va_recv hK hP (ci := 9) (q0 := kk_170) rfl hk_171) dX11_piece_146 ?_
                          refine lv_astore (lv' := [(6, .ref (d (2000 + i_3))), (5, .ref b_34), (4, .ref (d (2000 + i_3))), (0, .ref h0), (1, .int p0), (2, .int p1), (3, .int 6)]) hx hb dX11_piece_149 hl (by decide) rfl (fun ls hl => ?_)
                          refine lv_aload hx hb dX11_piece_151 (lv_at hl 0 rfl) ?_
                          refine lv_iload_n hx hb dX11_piece_153 rfl (lv_at hl 5 rfl) ?_
                          obtain ⟨kk_172, hk_173⟩ := pl_at ht_154.1 hs_166
                          refine vp_callSi (va_runV (As := [.int p1]) (rest := []) ⟨hx, hb, hml, hown, hts⟩ (y_takenBy l dC dI q h0 d k z f hI (d (2000 + i_3)) (d (3000 + i_3)) (d (4000 + i_3)) (d (5000 + i_3)) (d (6000 + i_3)) (nI i_3) (u.2 4 i_3) (u.2 22 i_3) (u.2 5 i_3) (u.2 15 i_3) ht_154 hs_166 p1 n_7 g_8 (pR u i_3) hpa_12 hps_13 h1_14 h6_15 hcb_16 hpl_17) (cwV 1 hts gX11_piece_X10_takenBy rfl rfl rfl (by decide +kernel) ⟨Nat.le_of_ble_eq_true rfl, Nat.le_of_ble_eq_true rfl⟩) ⟨px_fb, va_recv hK hP (ci := 9) (q0 := kk_172) rfl hk_173, fun U hU hW => ⟨rfl, px_to hU hW hP hK hN hXN⟩⟩ rfl rfl hl.1 rfl (lv_room (Nat.le_of_ble_eq_true rfl)) dX11_piece_154 ⟨Nat.le_of_ble_eq_true rfl, Nat.le_of_ble_eq_true rfl⟩).run (fun r hw => ?_)
                          obtain rfl : r = (s_taken p1 (u.2 22 i_3) (pR u i_3)) := hw
                          refine lv_goto (tgt := 161) hx hb dX11_piece_157 (by decide) ?_
                          exact W.iret (v := (s_taken p1 (u.2 22 i_3) (pR u i_3))) hx hb hr (fun t ht hW => ⟨_, rfl, (by rw [ep_5, mPc _ (by rw [← hk0]; exact hI.1.1) hi_4 (bw6 h6_15 hcb_16) b_28]; rw [if_neg (by decide), if_neg (by decide), if_neg (by decide), if_neg (by decide), if_neg (by decide), if_neg (by decide), if_pos rfl, if_pos hkd_156]), ht⟩) (fun q h => absurd h List.not_mem_nil) dX11_piece_161
                        ·
                          have hn_155 := ht9
                          have hkd_156 : ¬ u.2 4 i_3 = 0 := fun e9 => ht9 ⟨hit_10.1, by rw [hkt_24, e9]; rfl⟩
                          refine w_then (F0 m 141 ls [.int 0]) (fun hgo => ?_) ?_
                          ·
                            rcases x_tag hit_10 with ht8 | ht8 | ht8 | ht8 | ht8 | ht8
                            ·
                              obtain ⟨nu_174, kd_175, cn_176, pa_177, fa_178, l_179, m_180, hs_181, hs_182, hs_183, hs_184⟩ := x_ifl hI ht8
                              obtain ⟨kk_185, hk_186⟩ := pl_at ht8.1 hs_181
                              exact va_instNo hx hb hown (hts (.classLink RX11 66 "PageOne$Story") (by decide +kernel)) hXN.n_X2_X10 (va_recv hK hP (ci := 2) (q0 := kk_185) rfl hk_186) dX11_piece_138 hgo
                            ·
                              obtain ⟨nu_187, kd_188, cn_189, pa_190, fa_191, o_192, w_193, y_194, hs_195, hs_196, hs_197, hs_198, hq_199⟩ := x_ihd hI ht8
                              obtain ⟨kk_200, hk_201⟩ := pl_at ht8.1 hs_195
                              exact va_instNo hx hb hown (hts (.classLink RX11 66 "PageOne$Story") (by decide +kernel)) hXN.n_X3_X10 (va_recv hK hP (ci := 3) (q0 := kk_200) rfl hk_201) dX11_piece_138 hgo
                            ·
                              obtain ⟨nu_202, kd_203, cn_204, pa_205, fa_206, o_207, y_208, hs_209, hs_210, hs_211, hs_212, hq_213⟩ := x_ino hI ht8
                              obtain ⟨kk_214, hk_215⟩ := pl_at ht8.1 hs_209
                              exact va_instNo hx hb hown (hts (.classLink RX11 66 "PageOne$Story") (by decide +kernel)) hXN.n_X5_X10 (va_recv hK hP (ci := 4) (q0 := kk_214) rfl hk_215) dX11_piece_138 hgo
                            ·
                              obtain ⟨nu_216, kd_217, cn_218, pa_219, fa_220, b_221, pr_222, sp_223, dy_224, hs_225, hs_226, hs_227, hs_228, hq_229, hq_230, hq_231⟩ := x_ipd hI ht8
                              obtain ⟨kk_232, hk_233⟩ := pl_at ht8.1 hs_225
                              exact va_instNo hx hb hown (hts (.classLink RX11 66 "PageOne$Story") (by decide +kernel)) hXN.n_X6_X10 (va_recv hK hP (ci := 5) (q0 := kk_232) rfl hk_233) dX11_piece_138 hgo
                            ·
                              obtain ⟨nu_234, kd_235, cn_236, pa_237, fa_238, ww_239, hh_240, sz_241, hs_242, hs_243, hs_244, hs_245, hq_246, hq_247, hq_248⟩ := x_ipi hI ht8
                              obtain ⟨kk_249, hk_250⟩ := pl_at ht8.1 hs_242
                              exact va_instNo hx hb hown (hts (.classLink RX11 66 "PageOne$Story") (by decide +kernel)) hXN.n_X7_X10 (va_recv hK hP (ci := 6) (q0 := kk_249) rfl hk_250) dX11_piece_138 hgo
                            ·
                              exact absurd ht8 ht9
                          ·
                            refine lv_if_eq (tgt := 160) hx hb dX11_piece_141 (by decide) (fun c_251 => ?_) (fun c_251 => absurd (by decide) c_251)
                            refine lv_iconst (v := 0) hx hb dX11_piece_160 (by decide) ?_
                            exact W.iret (v := 0) hx hb hr (fun t ht hW => ⟨_, rfl, (by rw [ep_5, mPc _ (by rw [← hk0]; exact hI.1.1) hi_4 (bw6 h6_15 hcb_16) b_28]; rw [if_neg (by decide), if_neg (by decide), if_neg (by decide), if_neg (by decide), if_neg (by decide), if_neg (by decide), if_pos rfl, if_neg hkd_156]), ht⟩) (fun q h => absurd h List.not_mem_nil) dX11_piece_161
                      ·
                        refine lv_tableOut (tgt := 162) hx hb dX11_piece_39 (sw_out6 s_39 s_42 s_45 s_48 s_51 s_54 s_153) (by decide) ?_
                        refine lv_iconst (v := (-1)) hx hb dX11_piece_162 (by decide) ?_
                        exact W.iret (v := (-1)) hx hb hr (fun t ht hW => ⟨_, rfl, (by rw [ep_5, mPc _ (by rw [← hk0]; exact hI.1.1) hi_4 (bw6 h6_15 hcb_16) b_28]; rw [if_neg s_39, if_neg s_42, if_neg s_45, if_neg s_48, if_neg s_51, if_neg s_54, if_neg s_153]), ht⟩) (fun q h => absurd h List.not_mem_nil) dX11_piece_163
      ·
        obtain rfl : r = 0 := b_f hw b_28
        refine lv_if_ne (tgt := 29) hx hb dX11_piece_24 (by decide) (fun c_252 => absurd (by decide) c_252) (fun c_252 => ?_)
        refine lv_iconst (v := (-1)) hx hb dX11_piece_27 (by decide) ?_
        exact W.iret (v := (-1)) hx hb hr (fun t ht hW => ⟨_, rfl, (by rw [ep_5]; exact (mPc_k (by rw [← hk0]; exact hI.1.1) hi_4 (bne b_28)).symm), ht⟩) (fun q h => absurd h List.not_mem_nil) dX11_piece_28
