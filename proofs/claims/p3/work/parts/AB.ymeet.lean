def s_mt (Rm R2 : Nat → Nat → Int32) (cn2 p0 p1 : Int32) (j : Nat) : Prop := Rm j 0 = p0 ∧ ¬ bP (∃ j2, j2 < cn2.toNatClampNeg ∧ s_tch R2 (Rm j 0) (Rm j 1) (Rm j 2) (Rm j 3) (Rm j 4) p1 j2) = 0
set_option maxHeartbeats 4000000 in
set_option maxRecDepth 100000 in
theorem y_meets_l {p : Program} {l : Launch} {e : Env} {R : Room} {s : State} {m : MethodId} {args : Array Value} {below : List Frame} {meth : Method} {c : Code} {Q : State → Prop} {cells slots : Nat} {dC : Nat → ClassId} {dI : Nat → Nat → Nat} {q : Nat → ClassId} {h0 : Nat} {d : Nat → Nat} {k : Nat → Int32} {z : gS} {f : xF} {H : Heap} {locs : List Loc} (hI : xI q h0 d k z f) (hx : p.tables.exec = Jvm.exec) (hb : c.code = cX4_meets) (hml : c.maxLocals = 5) (hts : ∀ w ∈ wsX4_meets, w.before args s = true) (hown : s.vm.findClass RX4 = some m.cls) (hN : NN s) (hXN : XN s) (hK : va_K (dC, dI) vwCl (xT q) s) (hRf : 2 ≤ R.frames) (hRl : 45 ≤ R.locals) (hRc : cells ≤ R.cells) (hRs : slots ≤ R.slots) (hP : va_P (dC, dI) vwCl (va_pl z.1 f) H) {a0 : Nat} {nu kd : Int32} {pa fa n K : Nat} {rs : List Value} {g : Nat → Option Nat} {Rm : Nat → Nat → Int32} (ha0 : itm z a0) (hs : f a0 = .inr (ciT (z.2 a0).1, itF nu kd pa (nI K) fa rs)) (hpa : tg z pa 16) (hps : f pa = aR (q 5) n g) (hKn : K ≤ n) (h6 : n ≤ 6) (hpl : pcL z g K Rm) {c0 : Nat} (hc0 : itm z c0) {nu2 kd2 cn2 : Int32} {pa2 fa2 : Nat} {rs2 : List Value} (hs2 : f c0 = .inr (ciT (z.2 c0).1, itF nu2 kd2 pa2 cn2 fa2 rs2)) {n2 : Nat} {g2 : Nat → Option Nat} {R2 : Nat → Nat → Int32} (hpa2 : tg z pa2 16) (hps2 : f pa2 = aR (q 5) n2 g2) (h12 : 1 ≤ n2) (h62 : n2 ≤ 6) (hcb2 : bw cn2 0 (nI n2) = true) (hpl2 : pcL z g2 cn2.toNatClampNeg R2) {p0 p1 : Int32} (kx49 : ∀ (ls : Array Slot), (∀ j, j < K → ¬ s_mt Rm R2 cn2 p0 p1 j) → lv_has ls 5 [(0, .ref a0), (1, .ref c0), (2, .int p0), (3, .int p1)] → W p l e R s m args below meth c H locs cells slots Q (F0 m 49 ls [])) (kx41 : ∀ (ls : Array Slot), (∃ j, j < K ∧ s_mt Rm R2 cn2 p0 p1 j) → lv_has ls 5 [(0, .ref a0), (1, .ref c0), (2, .int p0), (3, .int p1)] → W p l e R s m args below meth c H locs cells slots Q (F0 m 41 ls [])) : ∀ (kk i : Nat) (ls : Array Slot), i ≤ K → K - i < kk → (∀ j, j < i → ¬ s_mt Rm R2 cn2 p0 p1 j) → lv_has ls 5 [(4, .int (nI i)), (0, .ref a0), (1, .ref c0), (2, .int p0), (3, .int p1)] → W p l e R s m args below meth c H locs cells slots Q (F0 m 3 ls []) := by
  intro kk
  induction kk with
  | zero => intro i ls h1 h2; exact absurd h2 (Nat.not_lt_zero _)
  | succ kk ih =>
    intro i ls hi hkk hg hl
    refine lv_iload hx hb dX4_meets_3 (lv_at hl 0 rfl) ?_
    refine lv_aload_n hx hb dX4_meets_5 rfl (lv_at hl 1 rfl) ?_
    obtain ⟨kk_1, hk_2⟩ := pl_at ha0.1 hs
    refine w_then (F0 m 9 ls [.int (nI K), .int (nI i)]) (fun hgo => ?_) ?_
    ·
      rcases x_tag ha0 with ht9 | ht9 | ht9 | ht9 | ht9 | ht9
      ·
        rw [ht9.2] at hk_2
        exact va_get (D := (dC, dI)) (ci := 2) (v := .int (nI K)) (C := RX2) (T := TX2) (N := 7) hx hb hts (by decide +kernel) hown hK hP kk_1 hk_2 rfl 3 (by decide) (hts (.fieldLink RX4 9 "PageOne$Item" "count" "I") (by decide +kernel)) (fun _ h9 => h9) rfl dX4_meets_6 hgo
      ·
        rw [ht9.2] at hk_2
        exact va_get (D := (dC, dI)) (ci := 3) (v := .int (nI K)) (C := RX3) (T := TX3) (N := 8) hx hb hts (by decide +kernel) hown hK hP kk_1 hk_2 rfl 3 (by decide) (hts (.fieldLink RX4 9 "PageOne$Item" "count" "I") (by decide +kernel)) (fun _ h9 => h9) rfl dX4_meets_6 hgo
      ·
        rw [ht9.2] at hk_2
        exact va_get (D := (dC, dI)) (ci := 4) (v := .int (nI K)) (C := RX5) (T := TX5) (N := 7) hx hb hts (by decide +kernel) hown hK hP kk_1 hk_2 rfl 3 (by decide) (hts (.fieldLink RX4 9 "PageOne$Item" "count" "I") (by decide +kernel)) (fun _ h9 => h9) rfl dX4_meets_6 hgo
      ·
        rw [ht9.2] at hk_2
        exact va_get (D := (dC, dI)) (ci := 5) (v := .int (nI K)) (C := RX6) (T := TX6) (N := 9) hx hb hts (by decide +kernel) hown hK hP kk_1 hk_2 rfl 3 (by decide) (hts (.fieldLink RX4 9 "PageOne$Item" "count" "I") (by decide +kernel)) (fun _ h9 => h9) rfl dX4_meets_6 hgo
      ·
        rw [ht9.2] at hk_2
        exact va_get (D := (dC, dI)) (ci := 6) (v := .int (nI K)) (C := RX7) (T := TX7) (N := 8) hx hb hts (by decide +kernel) hown hK hP kk_1 hk_2 rfl 3 (by decide) (hts (.fieldLink RX4 9 "PageOne$Item" "count" "I") (by decide +kernel)) (fun _ h9 => h9) rfl dX4_meets_6 hgo
      ·
        rw [ht9.2] at hk_2
        exact va_get (D := (dC, dI)) (ci := 9) (v := .int (nI K)) (C := RX10) (T := TX10) (N := 9) hx hb hts (by decide +kernel) hown hK hP kk_1 hk_2 rfl 3 (by decide) (hts (.fieldLink RX4 9 "PageOne$Item" "count" "I") (by decide +kernel)) (fun _ h9 => h9) rfl dX4_meets_6 hgo
    ·
      refine lv_icmp_ge (tgt := 49) hx hb dX4_meets_9 (by decide) (fun c_3 => ?_) (fun c_3 => ?_)
      ·
        have hie : i = K := lp_eq rfl (by omega) hi c_3
        exact kx49 ls (by rw [← hie]; exact hg) (lv_sub hl [1, 2, 3, 4] rfl)
      ·
        have hlt : i < K := lp_lt rfl (by omega) hi c_3
        refine lv_aload_n hx hb dX4_meets_12 rfl (lv_at hl 1 rfl) ?_
        obtain ⟨kk_4, hk_5⟩ := pl_at ha0.1 hs
        refine w_then (F0 m 16 ls [.ref pa]) (fun hgo => ?_) ?_
        ·
          rcases x_tag ha0 with ht9 | ht9 | ht9 | ht9 | ht9 | ht9
          ·
            rw [ht9.2] at hk_5
            exact va_get (D := (dC, dI)) (ci := 2) (v := .ref pa) (C := RX2) (T := TX2) (N := 7) hx hb hts (by decide +kernel) hown hK hP kk_4 hk_5 rfl 2 (by decide) (hts (.fieldLink RX4 31 "PageOne$Item" "pieces" "[LPageOne$Piece;") (by decide +kernel)) (fun _ h9 => h9) rfl dX4_meets_13 hgo
          ·
            rw [ht9.2] at hk_5
            exact va_get (D := (dC, dI)) (ci := 3) (v := .ref pa) (C := RX3) (T := TX3) (N := 8) hx hb hts (by decide +kernel) hown hK hP kk_4 hk_5 rfl 2 (by decide) (hts (.fieldLink RX4 31 "PageOne$Item" "pieces" "[LPageOne$Piece;") (by decide +kernel)) (fun _ h9 => h9) rfl dX4_meets_13 hgo
          ·
            rw [ht9.2] at hk_5
            exact va_get (D := (dC, dI)) (ci := 4) (v := .ref pa) (C := RX5) (T := TX5) (N := 7) hx hb hts (by decide +kernel) hown hK hP kk_4 hk_5 rfl 2 (by decide) (hts (.fieldLink RX4 31 "PageOne$Item" "pieces" "[LPageOne$Piece;") (by decide +kernel)) (fun _ h9 => h9) rfl dX4_meets_13 hgo
          ·
            rw [ht9.2] at hk_5
            exact va_get (D := (dC, dI)) (ci := 5) (v := .ref pa) (C := RX6) (T := TX6) (N := 9) hx hb hts (by decide +kernel) hown hK hP kk_4 hk_5 rfl 2 (by decide) (hts (.fieldLink RX4 31 "PageOne$Item" "pieces" "[LPageOne$Piece;") (by decide +kernel)) (fun _ h9 => h9) rfl dX4_meets_13 hgo
          ·
            rw [ht9.2] at hk_5
            exact va_get (D := (dC, dI)) (ci := 6) (v := .ref pa) (C := RX7) (T := TX7) (N := 8) hx hb hts (by decide +kernel) hown hK hP kk_4 hk_5 rfl 2 (by decide) (hts (.fieldLink RX4 31 "PageOne$Item" "pieces" "[LPageOne$Piece;") (by decide +kernel)) (fun _ h9 => h9) rfl dX4_meets_13 hgo
          ·
            rw [ht9.2] at hk_5
            exact va_get (D := (dC, dI)) (ci := 9) (v := .ref pa) (C := RX10) (T := TX10) (N := 9) hx hb hts (by decide +kernel) hown hK hP kk_4 hk_5 rfl 2 (by decide) (hts (.fieldLink RX4 31 "PageOne$Item" "pieces" "[LPageOne$Piece;") (by decide +kernel)) (fun _ h9 => h9) rfl dX4_meets_13 hgo
        ·
          refine lv_iload hx hb dX4_meets_16 (lv_at hl 0 rfl) ?_
          obtain ⟨kk_6, hk_7⟩ := pl_at hpa.1 hps
          refine va_aldq hx hb hK hP kk_6 5 hk_7 rfl (vp_in_nI (by omega) (by omega)) dX4_meets_18 ?_
          obtain ⟨b_8, it_9, hg_10, hp_11, hlg_12⟩ := hpl ((nI i) : Int32).toNatClampNeg (by rw [nI_clamp (by omega)]; exact hlt)
          rw [hg_10]
          refine W.eq (g2 := F0 m 19 ls [.ref b_8]) rfl ?_
          obtain ⟨kk_13, hk_14⟩ := pl_at hp_11.1.1 (x_pcF hI hp_11)
          refine va_get (D := (dC, dI)) (ci := 7) (v := .int (Rm ((nI i) : Int32).toNatClampNeg 0)) (C := RX8) (T := TX8) (N := 6) hx hb hts (by decide +kernel) hown hK hP kk_13 hk_14 rfl 1 (by decide) (hts (.fieldLink RX4 45 "PageOne$Piece" "page" "I") (by decide +kernel)) (fun _ h9 => h9) rfl dX4_meets_19 ?_
          refine lv_iload_n hx hb dX4_meets_22 rfl (lv_at hl 3 rfl) ?_
          refine lv_icmp_ne (tgt := 43) hx hb dX4_meets_23 (by decide) (fun c_15 => ?_) (fun c_15 => ?_)
          ·
            refine lv_iinc (v := (nI (i + 1))) (lv' := [(4, .int (nI (i + 1))), (0, .ref a0), (1, .ref c0), (2, .int p0), (3, .int p1)]) hx hb dX4_meets_43 hl (k := 0) rfl (nI_1 i) (by decide) rfl (fun ls hl => ?_)
            refine lv_goto (tgt := 3) hx hb dX4_meets_46 (by decide) ?_
            exact ih (i + 1) ls (by omega) (by omega) (fr_1 hg (by have e9 : (nI i).toNatClampNeg = i := nI_clamp (by omega); (try simp only [e9] at c_15); exact fun h => c_15 h.1)) (lv_sub hl [0, 1, 2, 3, 4] rfl)
          ·
            refine lv_aload_n hx hb dX4_meets_26 rfl (lv_at hl 2 rfl) ?_
            refine lv_aload_n hx hb dX4_meets_27 rfl (lv_at hl 1 rfl) ?_
            obtain ⟨kk_16, hk_17⟩ := pl_at ha0.1 hs
            refine w_then (F0 m 31 ls [.ref pa, .ref c0]) (fun hgo => ?_) ?_
            ·
              rcases x_tag ha0 with ht9 | ht9 | ht9 | ht9 | ht9 | ht9
              ·
                rw [ht9.2] at hk_17
                exact va_get (D := (dC, dI)) (ci := 2) (v := .ref pa) (C := RX2) (T := TX2) (N := 7) hx hb hts (by decide +kernel) hown hK hP kk_16 hk_17 rfl 2 (by decide) (hts (.fieldLink RX4 31 "PageOne$Item" "pieces" "[LPageOne$Piece;") (by decide +kernel)) (fun _ h9 => h9) rfl dX4_meets_28 hgo
              ·
                rw [ht9.2] at hk_17
                exact va_get (D := (dC, dI)) (ci := 3) (v := .ref pa) (C := RX3) (T := TX3) (N := 8) hx hb hts (by decide +kernel) hown hK hP kk_16 hk_17 rfl 2 (by decide) (hts (.fieldLink RX4 31 "PageOne$Item" "pieces" "[LPageOne$Piece;") (by decide +kernel)) (fun _ h9 => h9) rfl dX4_meets_28 hgo
              ·
                rw [ht9.2] at hk_17
                exact va_get (D := (dC, dI)) (ci := 4) (v := .ref pa) (C := RX5) (T := TX5) (N := 7) hx hb hts (by decide +kernel) hown hK hP kk_16 hk_17 rfl 2 (by decide) (hts (.fieldLink RX4 31 "PageOne$Item" "pieces" "[LPageOne$Piece;") (by decide +kernel)) (fun _ h9 => h9) rfl dX4_meets_28 hgo
              ·
                rw [ht9.2] at hk_17
                exact va_get (D := (dC, dI)) (ci := 5) (v := .ref pa) (C := RX6) (T := TX6) (N := 9) hx hb hts (by decide +kernel) hown hK hP kk_16 hk_17 rfl 2 (by decide) (hts (.fieldLink RX4 31 "PageOne$Item" "pieces" "[LPageOne$Piece;") (by decide +kernel)) (fun _ h9 => h9) rfl dX4_meets_28 hgo
              ·
                rw [ht9.2] at hk_17
                exact va_get (D := (dC, dI)) (ci := 6) (v := .ref pa) (C := RX7) (T := TX7) (N := 8) hx hb hts (by decide +kernel) hown hK hP kk_16 hk_17 rfl 2 (by decide) (hts (.fieldLink RX4 31 "PageOne$Item" "pieces" "[LPageOne$Piece;") (by decide +kernel)) (fun _ h9 => h9) rfl dX4_meets_28 hgo
              ·
                rw [ht9.2] at hk_17
                exact va_get (D := (dC, dI)) (ci := 9) (v := .ref pa) (C := RX10) (T := TX10) (N := 9) hx hb hts (by decide +kernel) hown hK hP kk_16 hk_17 rfl 2 (by decide) (hts (.fieldLink RX4 31 "PageOne$Item" "pieces" "[LPageOne$Piece;") (by decide +kernel)) (fun _ h9 => h9) rfl dX4_meets_28 hgo
            ·
              refine lv_iload hx hb dX4_meets_31 (lv_at hl 0 rfl) ?_
              obtain ⟨kk_18, hk_19⟩ := pl_at hpa.1 hps
              refine va_aldq hx hb hK hP kk_18 5 hk_19 rfl (vp_in_nI (by omega) (by omega)) dX4_meets_33 ?_
              obtain ⟨b_20, it_21, hg_22, hp_23, hlg_24⟩ := hpl ((nI i) : Int32).toNatClampNeg (by rw [nI_clamp (by omega)]; exact hlt)
              rw [hg_22]
              refine W.eq (g2 := F0 m 34 ls [.ref b_20, .ref c0]) rfl ?_
              refine lv_iload_n hx hb dX4_meets_34 rfl (lv_at hl 4 rfl) ?_
              refine w_cut (X := fun R cells slots Q args => ∀ r : Int32, (r = (bP (∃ j2, j2 < cn2.toNatClampNeg ∧ s_tch R2 (Rm ((nI i) : Int32).toNatClampNeg 0) (Rm ((nI i) : Int32).toNatClampNeg 1) (Rm ((nI i) : Int32).toNatClampNeg 2) (Rm ((nI i) : Int32).toNatClampNeg 3) (Rm ((nI i) : Int32).toNatClampNeg 4) p1 j2))) → W p l e R s m args below meth c H locs cells slots Q (F0 m 38 ls (.int r :: []))) ?_ (fun kC => ?_)
              ·
                intro r hw
                obtain rfl : r = (bP (∃ j2, j2 < cn2.toNatClampNeg ∧ s_tch R2 (Rm ((nI i) : Int32).toNatClampNeg 0) (Rm ((nI i) : Int32).toNatClampNeg 1) (Rm ((nI i) : Int32).toNatClampNeg 2) (Rm ((nI i) : Int32).toNatClampNeg 3) (Rm ((nI i) : Int32).toNatClampNeg 4) p1 j2)) := hw
                refine lv_if_eq (tgt := 43) hx hb dX4_meets_38 (by decide) (fun c_120 => ?_) (fun c_120 => ?_)
                ·
                  refine lv_iinc (v := (nI (i + 1))) (lv' := [(4, .int (nI (i + 1))), (0, .ref a0), (1, .ref c0), (2, .int p0), (3, .int p1)]) hx hb dX4_meets_43 hl (k := 0) rfl (nI_1 i) (by decide) rfl (fun ls hl => ?_)
                  refine lv_goto (tgt := 3) hx hb dX4_meets_46 (by decide) ?_
                  exact ih (i + 1) ls (by omega) (by omega) (fr_1 hg (by have e9 : (nI i).toNatClampNeg = i := nI_clamp (by omega); (try simp only [e9] at c_15); (try simp only [e9] at c_120); exact fun h => h.2 c_120)) (lv_sub hl [0, 1, 2, 3, 4] rfl)
                ·
                  exact kx41 ls ⟨i, hlt, (by have e9 : (nI i).toNatClampNeg = i := nI_clamp (by omega); (try simp only [e9] at c_15); (try simp only [e9] at c_120); exact ⟨c_15, c_120⟩)⟩ (lv_sub hl [1, 2, 3, 4] rfl)
              ·
                rcases x_tag hc0 with ht9 | ht9 | ht9 | ht9 | ht9 | ht9
                ·
                  obtain ⟨nu_25, kd_26, cn_27, pa_28, fa_29, l_30, m_31, hs_32, hs_33, hs_34, hs_35⟩ := x_ifl hI ht9
                  obtain ⟨kk_36, hk_37⟩ := pl_at ht9.1 hs_32
                  exact vp_callSi (va_runU (As := [.ref b_20, .int p1]) (rest := []) ⟨hx, hb, hml, hown, hts⟩ (y_touches l dC dI q h0 d k z f hI c0 hc0 nu2 kd2 cn2 pa2 fa2 rs2 hs2 n2 g2 R2 hpa2 hps2 h12 h62 hcb2 hpl2 b_20 it_21 (Rm ((nI i) : Int32).toNatClampNeg 0) (Rm ((nI i) : Int32).toNatClampNeg 1) (Rm ((nI i) : Int32).toNatClampNeg 2) (Rm ((nI i) : Int32).toNatClampNeg 3) (Rm ((nI i) : Int32).toNatClampNeg 4) hp_23 p1) (va_cwU 2 hts gX4_meets_X4_touches_u48X2 rfl rfl rfl rfl (by decide +kernel) ⟨Nat.le_trans (Nat.le_of_ble_eq_true rfl) hRf, Nat.le_trans (Nat.le_of_ble_eq_true rfl) hRl⟩) ⟨px_fb, va_recv hK hP (ci := 2) (q0 := kk_36) rfl hk_37, fun U hU hW => ⟨rfl, px_to hU hW hP hK hN hXN⟩⟩ rfl rfl hl.1 rfl (lv_room (Nat.le_of_ble_eq_true rfl)) dX4_meets_35 ⟨hRc, hRs⟩).run (fun r hw => kC r hw)
                ·
                  obtain ⟨nu_38, kd_39, cn_40, pa_41, fa_42, o_43, w_44, y_45, hs_46, hs_47, hs_48, hs_49, hq_50⟩ := x_ihd hI ht9
                  obtain ⟨kk_51, hk_52⟩ := pl_at ht9.1 hs_46
                  exact vp_callSi (va_runU (As := [.ref b_20, .int p1]) (rest := []) ⟨hx, hb, hml, hown, hts⟩ (y_touches l dC dI q h0 d k z f hI c0 hc0 nu2 kd2 cn2 pa2 fa2 rs2 hs2 n2 g2 R2 hpa2 hps2 h12 h62 hcb2 hpl2 b_20 it_21 (Rm ((nI i) : Int32).toNatClampNeg 0) (Rm ((nI i) : Int32).toNatClampNeg 1) (Rm ((nI i) : Int32).toNatClampNeg 2) (Rm ((nI i) : Int32).toNatClampNeg 3) (Rm ((nI i) : Int32).toNatClampNeg 4) hp_23 p1) (va_cwU 2 hts gX4_meets_X4_touches_u48X3 rfl rfl rfl rfl (by decide +kernel) ⟨Nat.le_trans (Nat.le_of_ble_eq_true rfl) hRf, Nat.le_trans (Nat.le_of_ble_eq_true rfl) hRl⟩) ⟨px_fb, va_recv hK hP (ci := 3) (q0 := kk_51) rfl hk_52, fun U hU hW => ⟨rfl, px_to hU hW hP hK hN hXN⟩⟩ rfl rfl hl.1 rfl (lv_room (Nat.le_of_ble_eq_true rfl)) dX4_meets_35 ⟨hRc, hRs⟩).run (fun r hw => kC r hw)
                ·
                  obtain ⟨nu_53, kd_54, cn_55, pa_56, fa_57, o_58, y_59, hs_60, hs_61, hs_62, hs_63, hq_64⟩ := x_ino hI ht9
                  obtain ⟨kk_65, hk_66⟩ := pl_at ht9.1 hs_60
                  exact vp_callSi (va_runU (As := [.ref b_20, .int p1]) (rest := []) ⟨hx, hb, hml, hown, hts⟩ (y_touches l dC dI q h0 d k z f hI c0 hc0 nu2 kd2 cn2 pa2 fa2 rs2 hs2 n2 g2 R2 hpa2 hps2 h12 h62 hcb2 hpl2 b_20 it_21 (Rm ((nI i) : Int32).toNatClampNeg 0) (Rm ((nI i) : Int32).toNatClampNeg 1) (Rm ((nI i) : Int32).toNatClampNeg 2) (Rm ((nI i) : Int32).toNatClampNeg 3) (Rm ((nI i) : Int32).toNatClampNeg 4) hp_23 p1) (va_cwU 2 hts gX4_meets_X4_touches_u48X5 rfl rfl rfl rfl (by decide +kernel) ⟨Nat.le_trans (Nat.le_of_ble_eq_true rfl) hRf, Nat.le_trans (Nat.le_of_ble_eq_true rfl) hRl⟩) ⟨px_fb, va_recv hK hP (ci := 4) (q0 := kk_65) rfl hk_66, fun U hU hW => ⟨rfl, px_to hU hW hP hK hN hXN⟩⟩ rfl rfl hl.1 rfl (lv_room (Nat.le_of_ble_eq_true rfl)) dX4_meets_35 ⟨hRc, hRs⟩).run (fun r hw => kC r hw)
                ·
                  obtain ⟨nu_67, kd_68, cn_69, pa_70, fa_71, b_72, pr_73, sp_74, dy_75, hs_76, hs_77, hs_78, hs_79, hq_80, hq_81, hq_82⟩ := x_ipd hI ht9
                  obtain ⟨kk_83, hk_84⟩ := pl_at ht9.1 hs_76
                  exact vp_callSi (va_runU (As := [.ref b_20, .int p1]) (rest := []) ⟨hx, hb, hml, hown, hts⟩ (y_touches l dC dI q h0 d k z f hI c0 hc0 nu2 kd2 cn2 pa2 fa2 rs2 hs2 n2 g2 R2 hpa2 hps2 h12 h62 hcb2 hpl2 b_20 it_21 (Rm ((nI i) : Int32).toNatClampNeg 0) (Rm ((nI i) : Int32).toNatClampNeg 1) (Rm ((nI i) : Int32).toNatClampNeg 2) (Rm ((nI i) : Int32).toNatClampNeg 3) (Rm ((nI i) : Int32).toNatClampNeg 4) hp_23 p1) (va_cwU 2 hts gX4_meets_X4_touches_u48X6 rfl rfl rfl rfl (by decide +kernel) ⟨Nat.le_trans (Nat.le_of_ble_eq_true rfl) hRf, Nat.le_trans (Nat.le_of_ble_eq_true rfl) hRl⟩) ⟨px_fb, va_recv hK hP (ci := 5) (q0 := kk_83) rfl hk_84, fun U hU hW => ⟨rfl, px_to hU hW hP hK hN hXN⟩⟩ rfl rfl hl.1 rfl (lv_room (Nat.le_of_ble_eq_true rfl)) dX4_meets_35 ⟨hRc, hRs⟩).run (fun r hw => kC r hw)
                ·
                  obtain ⟨nu_85, kd_86, cn_87, pa_88, fa_89, ww_90, hh_91, sz_92, hs_93, hs_94, hs_95, hs_96, hq_97, hq_98, hq_99⟩ := x_ipi hI ht9
                  obtain ⟨kk_100, hk_101⟩ := pl_at ht9.1 hs_93
                  exact vp_callSi (va_runU (As := [.ref b_20, .int p1]) (rest := []) ⟨hx, hb, hml, hown, hts⟩ (y_touches l dC dI q h0 d k z f hI c0 hc0 nu2 kd2 cn2 pa2 fa2 rs2 hs2 n2 g2 R2 hpa2 hps2 h12 h62 hcb2 hpl2 b_20 it_21 (Rm ((nI i) : Int32).toNatClampNeg 0) (Rm ((nI i) : Int32).toNatClampNeg 1) (Rm ((nI i) : Int32).toNatClampNeg 2) (Rm ((nI i) : Int32).toNatClampNeg 3) (Rm ((nI i) : Int32).toNatClampNeg 4) hp_23 p1) (va_cwU 2 hts gX4_meets_X4_touches_u48X7 rfl rfl rfl rfl (by decide +kernel) ⟨Nat.le_trans (Nat.le_of_ble_eq_true rfl) hRf, Nat.le_trans (Nat.le_of_ble_eq_true rfl) hRl⟩) ⟨px_fb, va_recv hK hP (ci := 6) (q0 := kk_100) rfl hk_101, fun U hU hW => ⟨rfl, px_to hU hW hP hK hN hXN⟩⟩ rfl rfl hl.1 rfl (lv_room (Nat.le_of_ble_eq_true rfl)) dX4_meets_35 ⟨hRc, hRs⟩).run (fun r hw => kC r hw)
                ·
                  obtain ⟨nu_102, kd_103, cn_104, pa_105, fa_106, l_107, co_108, wd_109, nm_110, hs_111, hs_112, hs_113, hs_114, hq_115, hq_116, hq_117⟩ := x_ist hI ht9
                  obtain ⟨kk_118, hk_119⟩ := pl_at ht9.1 hs_111
                  exact vp_callSi (va_runU (As := [.ref b_20, .int p1]) (rest := []) ⟨hx, hb, hml, hown, hts⟩ (y_touches l dC dI q h0 d k z f hI c0 hc0 nu2 kd2 cn2 pa2 fa2 rs2 hs2 n2 g2 R2 hpa2 hps2 h12 h62 hcb2 hpl2 b_20 it_21 (Rm ((nI i) : Int32).toNatClampNeg 0) (Rm ((nI i) : Int32).toNatClampNeg 1) (Rm ((nI i) : Int32).toNatClampNeg 2) (Rm ((nI i) : Int32).toNatClampNeg 3) (Rm ((nI i) : Int32).toNatClampNeg 4) hp_23 p1) (va_cwU 2 hts gX4_meets_X4_touches_u48X10 rfl rfl rfl rfl (by decide +kernel) ⟨Nat.le_trans (Nat.le_of_ble_eq_true rfl) hRf, Nat.le_trans (Nat.le_of_ble_eq_true rfl) hRl⟩) ⟨px_fb, va_recv hK hP (ci := 9) (q0 := kk_118) rfl hk_119, fun U hU hW => ⟨rfl, px_to hU hW hP hK hN hXN⟩⟩ rfl rfl hl.1 rfl (lv_room (Nat.le_of_ble_eq_true rfl)) dX4_meets_35 ⟨hRc, hRs⟩).run (fun r hw => kC r hw)
set_option maxHeartbeats 4000000 in
set_option maxRecDepth 100000 in
theorem y_meets (l : Launch) (dC : Nat → ClassId) (dI : Nat → Nat → Nat) (q : Nat → ClassId) (h0 : Nat) (d : Nat → Nat) (k : Nat → Int32) (z : gS) (f : xF) (hI : xI q h0 d k z f) (a0 : Nat) (ha0 : itm z a0) (nu kd cn : Int32) (pa fa : Nat) (rs : List Value) (hs : f a0 = .inr (ciT (z.2 a0).1, itF nu kd pa cn fa rs)) (n : Nat) (g : Nat → Option Nat) (Rm : Nat → Nat → Int32) (hpa : tg z pa 16) (hps : f pa = aR (q 5) n g) (h1 : 1 ≤ n) (h6 : n ≤ 6) (hcb : bw cn 0 (nI n) = true) (hpl : pcL z g cn.toNatClampNeg Rm) (c0 : Nat) (hc0 : itm z c0) (nu2 kd2 cn2 : Int32) (pa2 fa2 : Nat) (rs2 : List Value) (hs2 : f c0 = .inr (ciT (z.2 c0).1, itF nu2 kd2 pa2 cn2 fa2 rs2)) (n2 : Nat) (g2 : Nat → Option Nat) (R2 : Nat → Nat → Int32) (hpa2 : tg z pa2 16) (hps2 : f pa2 = aR (q 5) n2 g2) (h12 : 1 ≤ n2) (h62 : n2 ≤ 6) (hcb2 : bw cn2 0 (nI n2) = true) (hpl2 : pcL z g2 cn2.toNatClampNeg R2) (p0 p1 : Int32) : Met l yX4_meets wsX4_meets ({ frames := 2, cells := 0, slots := 0, locals := 45 }) (va_Pc [.ref a0, .ref c0, .int p0, .int p1] (PX dC dI (va_pl z.1 f) (xT q))) (vp_Si (fun r => r = bP (∃ j, j < cn.toNatClampNeg ∧ s_mt Rm R2 cn2 p0 p1 j))) 0 0 (fun _ => False) := by
  refine Met.ofW (cc := cX4_meets) (maxL := 5) (ret := (some .boolean)) (by decide) rfl ?_
  intro p e s m args below meth c s₁ B hml hv
  obtain ⟨rfl, ⟨hP, hK, hN⟩, hXN⟩ := hv
  have hx := B.exec
  have hb := B.bytes
  have hr := B.returns
  have hts := atoms_spec (ws := wsX4_meets) B.pre
  have hown : s.vm.findClass RX4 = some m.cls := findClass_of_methodNamed B.named
  have hlocks := B.notSynchronized
  have hl := lv_entry ([.ref a0, .ref c0, .int p0, .int p1]) (n := 5) (Nat.le_of_ble_eq_true rfl)
  rw [lg_entry_eq]
  generalize (lg_sl ([.ref a0, .ref c0, .int p0, .int p1]) ++ List.replicate (5 - (lg_sl ([.ref a0, .ref c0, .int p0, .int p1])).length) Slot.unset).toArray = ls at hl ⊢
  have hl : lv_has ls 5 [(0, .ref a0), (1, .ref c0), (2, .int p0), (3, .int p1)] := hl
  refine lv_iconst (v := 0) hx hb dX4_meets_0 (by decide) ?_
  refine lv_istore (lv' := [(4, .int 0), (0, .ref a0), (1, .ref c0), (2, .int p0), (3, .int p1)]) hx hb dX4_meets_1 hl (by decide) rfl (fun ls hl => ?_)
  obtain ⟨K, hK1, -, eK⟩ := exN hcb (by decide)
  rw [nI_toInt (by omega)] at hK1
  subst eK
  have hplK : pcL z g K Rm := by rw [nI_clamp (by omega)] at hpl; exact hpl
  refine y_meets_l hI hx hb hml hts hown hN hXN hK (Nat.le_of_ble_eq_true rfl) (Nat.le_of_ble_eq_true rfl) (Nat.le_of_ble_eq_true rfl) (Nat.le_of_ble_eq_true rfl) hP ha0 hs hpa hps (by omega) h6 hplK hc0 hs2 hpa2 hps2 h12 h62 hcb2 hpl2 (fun ls hh hl => ?_) (fun ls hh hl => ?_) (K + 1) 0 ls (Nat.zero_le _) (by omega) (fun j hj => absurd hj (Nat.not_lt_zero _)) (lv_sub hl [0, 1, 2, 3, 4] rfl)
  ·
    refine lv_iconst (v := 0) hx hb dX4_meets_49 (by decide) ?_
    exact W.zret (v := 0) hx hb hr (by decide) (fun t ht hW => ⟨_, rfl, (bP_f (fun h => by obtain ⟨j, hj, h9⟩ := h; rw [nI_clamp (by omega)] at hj; exact hh j hj h9)).symm, ht⟩) (fun q h => absurd h List.not_mem_nil) dX4_meets_50
  ·
    refine lv_iconst (v := 1) hx hb dX4_meets_41 (by decide) ?_
    exact W.zret (v := 1) hx hb hr (by decide) (fun t ht hW => ⟨_, rfl, (bP_t (by obtain ⟨j, hj, h9⟩ := hh; exact ⟨j, by rw [nI_clamp (by omega)]; exact hj, h9⟩)).symm, ht⟩) (fun q h => absurd h List.not_mem_nil) dX4_meets_42
set_option maxHeartbeats 4000000 in
set_option maxRecDepth 100000 in
theorem y_signN (l : Launch) (dC : Nat → ClassId) (dI : Nat → Nat → Nat) (q : Nat → ClassId) (h0 : Nat) (d : Nat → Nat) (k : Nat → Int32) (z : gS) (f : xF) (hI : xI q h0 d k z f) (a0 : Nat) (P X Y D N : Int32) (hpa : pcS z a0 none P X Y D N) : Met l yX8_sign wsX8_sign ({ frames := 0, cells := 0, slots := 0, locals := 0 }) (va_Pc [.ref a0] (PX dC dI (va_pl z.1 f) (xT q))) (vp_Si (fun r => r = 100)) 0 0 (fun _ => False) := by
  refine Met.ofW (cc := cX8_sign) (maxL := 1) (ret := (some .int)) (by decide) rfl ?_
  intro p e s m args below meth c s₁ B hml hv
  obtain ⟨rfl, ⟨hP, hK, hN⟩, hXN⟩ := hv
  have hx := B.exec
  have hb := B.bytes
  have hr := B.returns
  have hts := atoms_spec (ws := wsX8_sign) B.pre
  have hown : s.vm.findClass RX8 = some m.cls := findClass_of_methodNamed B.named
  have hlocks := B.notSynchronized
  have hl := lv_entry ([.ref a0]) (n := 1) (Nat.le_of_ble_eq_true rfl)
  rw [lg_entry_eq]
  generalize (lg_sl ([.ref a0]) ++ List.replicate (1 - (lg_sl ([.ref a0])).length) Slot.unset).toArray = ls at hl ⊢
  have hl : lv_has ls 1 [(0, .ref a0)] := hl
  refine lv_aload_n hx hb dX8_sign_0 rfl (lv_at hl 0 rfl) ?_
  obtain ⟨kk_1, hk_2⟩ := pl_at hpa.1.1 (x_pcF hI hpa)
  refine va_get (D := (dC, dI)) (ci := 7) (v := .null) (C := RX8) (T := TX8) (N := 6) hx hb hts (by decide +kernel) hown hK hP kk_1 hk_2 rfl 0 (by decide) (hts (.fieldLink RX8 9 "PageOne$Piece" "item" "LPageOne$Item;") (by decide +kernel)) (fun _ h9 => h9) rfl dX8_sign_1 ?_
  refine lv_ifnonnullN hx hb dX8_sign_4 ?_
  refine lv_bipush (v := 100) hx hb dX8_sign_7 (by decide) ?_
  refine lv_goto (tgt := 19) hx hb dX8_sign_9 (by decide) ?_
  exact W.iret (v := 100) hx hb hr (fun t ht hW => ⟨_, rfl, rfl, ht⟩) (fun q h => absurd h List.not_mem_nil) dX8_sign_19
set_option maxHeartbeats 4000000 in
set_option maxRecDepth 100000 in
theorem y_signS (l : Launch) (dC : Nat → ClassId) (dI : Nat → Nat → Nat) (q : Nat → ClassId) (h0 : Nat) (d : Nat → Nat) (k : Nat → Int32) (z : gS) (f : xF) (hI : xI q h0 d k z f) (a0 c0 : Nat) (P X Y D N : Int32) (hpa : pcS z a0 (some c0) P X Y D N) (hc0 : itm z c0) (nu2 kd2 cn2 : Int32) (pa2 fa2 : Nat) (rs2 : List Value) (hs2 : f c0 = .inr (ciT (z.2 c0).1, itF nu2 kd2 pa2 cn2 fa2 rs2)) : Met l yX8_sign wsX8_sign ({ frames := 0, cells := 0, slots := 0, locals := 0 }) (va_Pc [.ref a0] (PX dC dI (va_pl z.1 f) (xT q))) (vp_Si (fun r => r = nu2)) 0 0 (fun _ => False) := by
  refine Met.ofW (cc := cX8_sign) (maxL := 1) (ret := (some .int)) (by decide) rfl ?_
  intro p e s m args below meth c s₁ B hml hv
  obtain ⟨rfl, ⟨hP, hK, hN⟩, hXN⟩ := hv
  have hx := B.exec
  have hb := B.bytes
  have hr := B.returns
  have hts := atoms_spec (ws := wsX8_sign) B.pre
  have hown : s.vm.findClass RX8 = some m.cls := findClass_of_methodNamed B.named
  have hlocks := B.notSynchronized
  have hl := lv_entry ([.ref a0]) (n := 1) (Nat.le_of_ble_eq_true rfl)
  rw [lg_entry_eq]
  generalize (lg_sl ([.ref a0]) ++ List.replicate (1 - (lg_sl ([.ref a0])).length) Slot.unset).toArray = ls at hl ⊢
  have hl : lv_has ls 1 [(0, .ref a0)] := hl
  refine lv_aload_n hx hb dX8_sign_0 rfl (lv_at hl 0 rfl) ?_
  obtain ⟨kk_1, hk_2⟩ := pl_at hpa.1.1 (x_pcF hI hpa)
  refine va_get (D := (dC, dI)) (ci := 7) (v := .ref c0) (C := RX8) (T := TX8) (N := 6) hx hb hts (by decide +kernel) hown hK hP kk_1 hk_2 rfl 0 (by decide) (hts (.fieldLink RX8 9 "PageOne$Piece" "item" "LPageOne$Item;") (by decide +kernel)) (fun _ h9 => h9) rfl dX8_sign_1 ?_
  refine lv_ifnonnull (tgt := 12) hx hb dX8_sign_4 (by decide) ?_
  refine lv_aload_n hx hb dX8_sign_12 rfl (lv_at hl 0 rfl) ?_
  obtain ⟨kk_3, hk_4⟩ := pl_at hpa.1.1 (x_pcF hI hpa)
  refine va_get (D := (dC, dI)) (ci := 7) (v := .ref c0) (C := RX8) (T := TX8) (N := 6) hx hb hts (by decide +kernel) hown hK hP kk_3 hk_4 rfl 0 (by decide) (hts (.fieldLink RX8 9 "PageOne$Piece" "item" "LPageOne$Item;") (by decide +kernel)) (fun _ h9 => h9) rfl dX8_sign_13 ?_
  obtain ⟨kk_5, hk_6⟩ := pl_at hc0.1 hs2
  refine w_then (F0 m 19 ls [.int nu2]) (fun hgo => ?_) ?_
  ·
    rcases x_tag hc0 with ht9 | ht9 | ht9 | ht9 | ht9 | ht9
    ·
      rw [ht9.2] at hk_6
      exact va_get (D := (dC, dI)) (ci := 2) (v := .int nu2) (C := RX2) (T := TX2) (N := 7) hx hb hts (by decide +kernel) hown hK hP kk_5 hk_6 rfl 0 (by decide) (hts (.fieldLink RX8 31 "PageOne$Item" "number" "I") (by decide +kernel)) (fun _ h9 => h9) rfl dX8_sign_16 hgo
    ·
      rw [ht9.2] at hk_6
      exact va_get (D := (dC, dI)) (ci := 3) (v := .int nu2) (C := RX3) (T := TX3) (N := 8) hx hb hts (by decide +kernel) hown hK hP kk_5 hk_6 rfl 0 (by decide) (hts (.fieldLink RX8 31 "PageOne$Item" "number" "I") (by decide +kernel)) (fun _ h9 => h9) rfl dX8_sign_16 hgo
    ·
      rw [ht9.2] at hk_6
      exact va_get (D := (dC, dI)) (ci := 4) (v := .int nu2) (C := RX5) (T := TX5) (N := 7) hx hb hts (by decide +kernel) hown hK hP kk_5 hk_6 rfl 0 (by decide) (hts (.fieldLink RX8 31 "PageOne$Item" "number" "I") (by decide +kernel)) (fun _ h9 => h9) rfl dX8_sign_16 hgo
    ·
      rw [ht9.2] at hk_6
      exact va_get (D := (dC, dI)) (ci := 5) (v := .int nu2) (C := RX6) (T := TX6) (N := 9) hx hb hts (by decide +kernel) hown hK hP kk_5 hk_6 rfl 0 (by decide) (hts (.fieldLink RX8 31 "PageOne$Item" "number" "I") (by decide +kernel)) (fun _ h9 => h9) rfl dX8_sign_16 hgo
    ·
      rw [ht9.2] at hk_6
      exact va_get (D := (dC, dI)) (ci := 6) (v := .int nu2) (C := RX7) (T := TX7) (N := 8) hx hb hts (by decide +kernel) hown hK hP kk_5 hk_6 rfl 0 (by decide) (hts (.fieldLink RX8 31 "PageOne$Item" "number" "I") (by decide +kernel)) (fun _ h9 => h9) rfl dX8_sign_16 hgo
    ·
      rw [ht9.2] at hk_6
      exact va_get (D := (dC, dI)) (ci := 9) (v := .int nu2) (C := RX10) (T := TX10) (N := 9) hx hb hts (by decide +kernel) hown hK hP kk_5 hk_6 rfl 0 (by decide) (hts (.fieldLink RX8 31 "PageOne$Item" "number" "I") (by decide +kernel)) (fun _ h9 => h9) rfl dX8_sign_16 hgo
  ·
    exact W.iret (v := nu2) hx hb hr (fun t ht hW => ⟨_, rfl, rfl, ht⟩) (fun q h => absurd h List.not_mem_nil) dX8_sign_19
