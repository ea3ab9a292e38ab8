set_option maxHeartbeats 4000000 in
set_option maxRecDepth 100000 in
theorem x_fc_l {p : Program} {l : Launch} {e : Env} {R : Room} {s : State} {m : MethodId} {args : Array Value} {below : List Frame} {meth : Method} {c : Code} {Q : State → Prop} {cells slots : Nat} {dC : Nat → ClassId} {dI : Nat → Nat → Nat} {q : Nat → ClassId} {h0 : Nat} {d : Nat → Nat} {k : Nat → Int32} {z0 : gS} {p0 p1 : Int32} (hpg : bw p0 0 11 = true) (hcl : bw p1 0 7 = true) {A : Nat → Prop} {H0 : Heap} (hx : p.tables.exec = Jvm.exec) (hb : c.code = cX11_fillColumn) (hml : c.maxLocals = 10) (hts : ∀ w ∈ wsX11_fillColumn, w.before args s = true) (hown : s.vm.findClass RX11 = some m.cls) (hN : NN s) (hXN : XN s) (hK : va_K (dC, dI) vwCl (xT q) s) (hRf : 5 ≤ R.frames) (hRl : 109 ≤ R.locals) (hRc : cells + 122 ≤ R.cells) (hRs : slots + 610 ≤ R.slots) (hA : ∀ q : Nat, H0.size ≤ q → A q) (kx120 : ∀ (z : gS) (f : xF) (H : Heap) (locs : List Loc) (r : Option Nat) (ls : Array Slot), zE z0 z → (∀ b, r = some b → tg z b 23) → xI q h0 d k z f → va_P (dC, dI) vwCl (va_pl z.1 f) H → va_D A (va_pl z.1 f) → va_S A H0 H locs → lv_has ls 10 [(5, va_rf r)] → W p l e R s m args below meth c H locs (cells + 122) (slots + 610) Q (F0 m 120 ls [])) : ∀ (n i : Nat) (z : gS) (f : xF) (H : Heap) (locs : List Loc) (r : Option Nat) (r9 sb : Nat) (ls : Array Slot), i ≤ 61 → 61 - i < n → r9 ≤ i → tg z sb 7 → zE z0 z → (∀ b, r = some b → tg z b 23) → xI q h0 d k z f → va_P (dC, dI) vwCl (va_pl z.1 f) H → va_D A (va_pl z.1 f) → va_S A H0 H locs → lv_has ls 10 [(7, .int (nI i)), (6, .int (nI r9)), (5, va_rf r), (4, .ref sb), (0, .ref h0), (1, .int p0), (2, .int p1)] → W p l e R s m args below meth c H locs (cells + 2 * i) (slots + 10 * i) Q (F0 m 17 ls []) := by
  intro n
  induction n with
  | zero => intro i z f H locs r r9 sb ls h1 h2; exact absurd h2 (Nat.not_lt_zero _)
  | succ n ih =>
    intro i z f H locs r r9 sb ls hi hn hr9 hsb hEz hr hI hP hD hS hl
    rcases r with _ | b9
    ·
      have hl : lv_has ls 10 [(7, .int (nI i)), (6, .int (nI r9)), (5, .null), (4, .ref sb), (0, .ref h0), (1, .int p0), (2, .int p1)] := hl
      refine lv_iload hx hb dX11_fillColumn_17 (lv_at hl 0 rfl) ?_
      refine lv_aload hx hb dX11_fillColumn_19 (lv_at hl 3 rfl) ?_
      obtain ⟨la_1, ca_2, m_3, dd_4, ii_5, hs_6, ht_7, ht_8⟩ := x_sh hI hsb
      obtain ⟨kk_9, hk_10⟩ := pl_at hsb.1 hs_6
      refine va_get (D := (dC, dI)) (ci := 8) (v := .ref la_1) (C := RX9) (T := TX9) (N := 5) hx hb hts (by decide +kernel) hown hK hP kk_9 hk_10 rfl 0 (by decide) (hts (.fieldLink RX11 59 "PageOne$Sheet" "lines" "[I") (by decide +kernel)) (fun _ h9 => h9) rfl dX11_fillColumn_21 ?_
      refine lv_iload_n hx hb dX11_fillColumn_24 rfl (lv_at hl 6 rfl) ?_
      obtain ⟨g_11, hs_12, hg_13⟩ := x_ln hI ht_7
      obtain ⟨kk_14, hk_15⟩ := pl_at ht_7.1 hs_12
      refine va_iald hx hb hK hP kk_14 0 hk_15 rfl (vin hcl (by decide)) dX11_fillColumn_25 ?_
      refine lv_icmp_gt (tgt := 120) hx hb dX11_fillColumn_26 (by decide) (fun c_16 => ?_) (fun c_16 => ?_)
      ·
        refine W.widen (k := cells + 122) (n := slots + 610) (by omega) (by omega) ?_
        exact kx120 _ _ _ _ none ls hEz ty_n hI hP hD hS (lv_sub hl [2] rfl)
      ·
        have hi60 : i ≤ 60 := le60 hi (hg_13 _ (vlt (vin hcl (by decide)))) c_16
        refine lv_aload hx hb dX11_fillColumn_29 (lv_at hl 3 rfl) ?_
        refine lv_iload_n hx hb dX11_fillColumn_31 rfl (lv_at hl 6 rfl) ?_
        refine lv_iload hx hb dX11_fillColumn_32 (lv_at hl 0 rfl) ?_
        obtain ⟨kk_17, hk_18⟩ := pl_at hsb.1 hs_6
        refine vp_callSi (va_runV (As := [.int p1, .int (nI i)]) (rest := []) ⟨hx, hb, hml, hown, hts⟩ (x_at l dC dI q h0 d k z f hI sb p1 (nI i) hsb) (cwV 2 hts gX11_fillColumn_X9_at rfl rfl rfl (by decide +kernel) ⟨Nat.le_trans (Nat.le_of_ble_eq_true rfl) hRf, Nat.le_trans (Nat.le_of_ble_eq_true rfl) hRl⟩) ⟨px_fb, va_recv hK hP (ci := 8) (q0 := kk_17) rfl hk_18, fun U hU hW => ⟨rfl, px_to hU hW hP hK hN hXN⟩⟩ rfl rfl hl.1 rfl (lv_room (Nat.le_of_ble_eq_true rfl)) dX11_fillColumn_34 ⟨by omega, by omega⟩).run (fun r hw => ?_)
        generalize r = zr_19 at hw ⊢
        have hzr_19 := hw
        refine lv_bipush (v := (-2)) hx hb dX11_fillColumn_37 (by decide) ?_
        refine lv_icmp_ne (tgt := 48) hx hb dX11_fillColumn_39 (by decide) (fun c_20 => ?_) (fun c_20 => ?_)
        ·
          refine lv_iload hx hb dX11_fillColumn_48 (lv_at hl 1 rfl) ?_
          refine lv_if_le (tgt := 62) hx hb dX11_fillColumn_50 (by decide) (fun c_21 => ?_) (fun c_21 => ?_)
          ·
            refine lv_null hx hb dX11_fillColumn_62 ?_
            refine lv_astoreN (lv' := [(8, .null), (7, .int (nI i)), (6, .int (nI r9)), (5, .null), (4, .ref sb), (0, .ref h0), (1, .int p0), (2, .int p1)]) hx hb dX11_fillColumn_63 hl (by decide) rfl (fun ls hl => ?_)
            refine lv_aloadN hx hb dX11_fillColumn_65 (lv_at hl 0 rfl) ?_
            refine lv_ifnullN (tgt := 111) hx hb dX11_fillColumn_67 (by decide) ?_
            refine lv_iconst (v := 0) hx hb dX11_fillColumn_111 (by decide) ?_
            refine lv_istore (lv' := [(6, .int 0), (8, .null), (7, .int (nI i)), (5, .null), (4, .ref sb), (0, .ref h0), (1, .int p0), (2, .int p1)]) hx hb dX11_fillColumn_112 hl (by decide) rfl (fun ls hl => ?_)
            refine lv_iinc (v := (nI (i + 1))) (lv' := [(7, .int (nI (i + 1))), (6, .int 0), (8, .null), (5, .null), (4, .ref sb), (0, .ref h0), (1, .int p0), (2, .int p1)]) hx hb dX11_fillColumn_114 hl (k := 2) rfl (nI_1 i) (by decide) rfl (fun ls hl => ?_)
            refine lv_goto (tgt := 17) hx hb dX11_fillColumn_117 (by decide) ?_
            refine W.widen (k := cells + 2 * (i + 1)) (n := slots + 10 * (i + 1)) (by omega) (by omega) ?_
            exact ih (i + 1) _ _ _ _ none (0) sb ls (by omega) (by omega) (by omega) hsb hEz ty_n hI hP hD hS (lv_sub hl [0, 1, 3, 4, 5, 6, 7] rfl)
          ·
            refine lv_aload_n hx hb dX11_fillColumn_53 rfl (lv_at hl 4 rfl) ?_
            refine lv_iload hx hb dX11_fillColumn_54 (lv_at hl 1 rfl) ?_
            obtain ⟨kk_22, hk_23⟩ := pl_at hI.2.1.1.1 hI.2.2.2.1.1
            refine va_csq (va_runV (As := [.int (nI r9)]) (rest := []) ⟨hx, hb, hml, hown, hts⟩ (x_fillerFor l dC dI q h0 d k z f hI (nI r9)) (cwV 1 hts gX11_fillColumn_X11_fillerFor rfl rfl rfl (by decide +kernel) ⟨Nat.le_trans (Nat.le_of_ble_eq_true rfl) hRf, Nat.le_trans (Nat.le_of_ble_eq_true rfl) hRl⟩) ⟨px_fb, va_recv hK hP (ci := 10) (q0 := kk_22) rfl hk_23, fun U hU hW => ⟨rfl, px_to hU hW hP hK hN hXN⟩⟩ rfl rfl hl.1 rfl (lv_room (Nat.le_of_ble_eq_true rfl)) dX11_fillColumn_56 ⟨by omega, by omega⟩).run (fun r hw => ?_)
            rcases r with _ | b_24
            ·
              refine W.eq (g2 := F0 m 59 ls [.null]) rfl ?_
              refine lv_goto (tgt := 63) hx hb dX11_fillColumn_59 (by decide) ?_
              refine lv_astoreN (lv' := [(8, .null), (7, .int (nI i)), (6, .int (nI r9)), (5, .null), (4, .ref sb), (0, .ref h0), (1, .int p0), (2, .int p1)]) hx hb dX11_fillColumn_63 hl (by decide) rfl (fun ls hl => ?_)
              refine lv_aloadN hx hb dX11_fillColumn_65 (lv_at hl 0 rfl) ?_
              refine lv_ifnullN (tgt := 111) hx hb dX11_fillColumn_67 (by decide) ?_
              refine lv_iconst (v := 0) hx hb dX11_fillColumn_111 (by decide) ?_
              refine lv_istore (lv' := [(6, .int 0), (8, .null), (7, .int (nI i)), (5, .null), (4, .ref sb), (0, .ref h0), (1, .int p0), (2, .int p1)]) hx hb dX11_fillColumn_112 hl (by decide) rfl (fun ls hl => ?_)
              refine lv_iinc (v := (nI (i + 1))) (lv' := [(7, .int (nI (i + 1))), (6, .int 0), (8, .null), (5, .null), (4, .ref sb), (0, .ref h0), (1, .int p0), (2, .int p1)]) hx hb dX11_fillColumn_114 hl (k := 2) rfl (nI_1 i) (by decide) rfl (fun ls hl => ?_)
              refine lv_goto (tgt := 17) hx hb dX11_fillColumn_117 (by decide) ?_
              refine W.widen (k := cells + 2 * (i + 1)) (n := slots + 10 * (i + 1)) (by omega) (by omega) ?_
              exact ih (i + 1) _ _ _ _ none (0) sb ls (by omega) (by omega) (by omega) hsb hEz ty_n hI hP hD hS (lv_sub hl [0, 1, 3, 4, 5, 6, 7] rfl)
            ·
              have ht_25 := hw b_24 rfl
              refine W.eq (g2 := F0 m 59 ls [.ref b_24]) rfl ?_
              refine lv_goto (tgt := 63) hx hb dX11_fillColumn_59 (by decide) ?_
              refine lv_astore (lv' := [(8, .ref b_24), (7, .int (nI i)), (6, .int (nI r9)), (5, .null), (4, .ref sb), (0, .ref h0), (1, .int p0), (2, .int p1)]) hx hb dX11_fillColumn_63 hl (by decide) rfl (fun ls hl => ?_)
              refine lv_aload hx hb dX11_fillColumn_65 (lv_at hl 0 rfl) ?_
              refine lv_ifnull hx hb dX11_fillColumn_67 ?_
              refine va_new (ci := 7) (fs := [.null, .int 0, .int 0, .int 0, .int 0, .int 0]) (C := RX8) (T := TX8) (N := 6) hx hb hts (by decide +kernel) tyX8 tyX8_ok hown (hts (.classLink RX11 106 RX8) (by decide +kernel)) (hts (.instantiable RX8 6) (by decide +kernel)) (hts (.initialized RX8) (by decide +kernel)) hK hP hD hS hA rfl nwX8 (by omega) (by omega) dX11_fillColumn_70 (fun q_26 H hPn hDn hS => ?_)
              have hP := vaP_l hPn
              refine W.widen (k := cells + 2 * i + 1) (n := slots + 10 * i + 6) (by omega) (by omega) ?_
              refine lv_dup hx hb dX11_fillColumn_73 rfl ?_
              refine lv_aload hx hb dX11_fillColumn_74 (lv_at hl 0 rfl) ?_
              refine lv_iload_n hx hb dX11_fillColumn_76 rfl (lv_at hl 6 rfl) ?_
              refine lv_iload_n hx hb dX11_fillColumn_77 rfl (lv_at hl 7 rfl) ?_
              refine lv_iload hx hb dX11_fillColumn_78 (lv_at hl 1 rfl) ?_
              refine lv_iload hx hb dX11_fillColumn_80 (lv_at hl 2 rfl) ?_
              refine lv_isub hx hb dX11_fillColumn_82 ?_
              refine lv_topi (fun y_27 ey_27 => ?_)
              obtain rfl : y_27 = (nI (i - r9)) := ey_27.trans (nI_sb hr9 (by omega))
              refine lv_iconst (v := 1) hx hb dX11_fillColumn_83 (by decide) ?_
              refine lv_iload hx hb dX11_fillColumn_84 (lv_at hl 2 rfl) ?_
              have hPc := vaP_r hPn
              have hDc := vaD_r hDn
              have hFc := fr_part hDn hS hA
              refine va_callv (va_runI (As := [.ref b_24, .int p0, .int p1, .int (nI (i - r9)), .int 1, .int (nI r9)]) (rest := [.ref q_26]) ⟨hx, hb, hml, hown, hts⟩ (x_PieceI l dC dI q_26 b_24 p0 p1 (nI (i - r9)) 1 (nI r9) H.size) (cwI 6 hts gX11_fillColumn_X8_init rfl rfl rfl (hts (.initialized RX8) (by decide +kernel)) (hts (.methodLink RX11 108 yX8_init) (by decide +kernel)) (hts (.instanceMethod yX8_init) (by decide +kernel)) rfl (by decide +kernel) ⟨Nat.le_trans (Nat.le_of_ble_eq_true rfl) hRf, Nat.le_trans (Nat.le_of_ble_eq_true rfl) hRl⟩) ⟨gw_fb, fun U hU hW => ⟨rfl, by rw [hU], pw_to hU hW hPc (hK.sub (tys' := []) [] rfl) hN, hDc.weaken (fun _ _ _ _ => trivial)⟩⟩ rfl rfl hl.1 rfl (lv_room (Nat.le_of_ble_eq_true rfl)) dX11_fillColumn_86 ⟨by omega, by omega⟩) hS (fun q _ h => hFc q h) hFc (fun u t H1 locs ht hvm hw hB hz1 hk1 hS => ?_)
              obtain ⟨hP1, hD1⟩ := hB
              rw [ht] at hP1
              obtain ⟨hP, hD⟩ := va_joinQ (X := [(q_26, .inr (7, [.null, .int 0, .int 0, .int 0, .int 0, .int 0]))]) (cx := [(q_26, .inr (7, [.null, .int 0, .int 0, .int 0, .int 0, .int 0]))]) (wr := []) (w1 := [(q_26, .inr (7, [va_rf (some b_24), .int p0, .int p1, .int (nI (i - r9)), .int 1, .int (nI r9)]))]) (pl := va_pl z.1 f) (vaP_swap hPn) (vaD_rotR hDn) [0] [] rfl rfl rfl (fun i hi => absurd hi List.not_mem_nil) hk1 hFc hP1 hD1
              generalize H1 = H at hP hS ⊢
              obtain ⟨hnm_28, hP, hD⟩ := pushC hP hD
              obtain ⟨z_29, ez_29⟩ : ∃ y : gS, y = pz z q_26 (22, 0, [va_rf (some b_24), .int p0, .int p1, .int (nI (i - r9)), .int 1, .int (nI r9)]) := ⟨_, rfl⟩
              obtain ⟨f_30, ef_30⟩ : ∃ y : xF, y = va_up f q_26 (.inr (7, [va_rf (some b_24), .int p0, .int p1, .int (nI (i - r9)), .int 1, .int (nI r9)])) := ⟨_, rfl⟩
              have hE_31 : zE z z_29 := by rw [ez_29]; exact pz_E hnm_28 _
              have hI : xI q h0 d k z_29 f_30 := by rw [ez_29, ef_30]; exact x_push hI hnm_28 (Or.inr (by decide : (15 : Nat) < 22)) (cO_pc hpg (ty_s (tg_itm ht_25 (by decide))) hnm_28)
              rw [show z.1 ++ [q_26] = z_29.1 from by rw [ez_29]; rfl, ← ef_30] at hP hD
              have hsb := zE_tg hE_31 hsb
              have ht_7 := zE_tg hE_31 ht_7
              have ht_8 := zE_tg hE_31 ht_8
              have ht_25 := zE_tg hE_31 ht_25
              have ht_32 : tg z_29 q_26 22 := by rw [ez_29]; exact pz_t _ _ _
              have hEz : zE z0 z_29 := zE_tr hEz hE_31
              refine W.eq (g2 := F0 m 89 ls [.ref q_26]) rfl ?_
              have hp_33 : pcS z_29 q_26 (some b_24) p0 p1 (nI (i - r9)) 1 (nI r9) := ⟨ht_32, by rw [ez_29, pz_s]⟩
              have hb_35 : bw p1 0 7 = true := hcl
              have hb_36 : bw (nI (i - r9)) 0 60 = true := b60n (by omega)
              have hb_37 : bw 1 0 8 = true := by decide
              have hb_38 : bw (nI r9) 0 60 = true := b60n (by omega)
              have hlg_34 := lg_of hp_33 ⟨hb_35, hb_36, hb_37, hb_38⟩
              refine lv_astore (lv' := [(9, .ref q_26), (8, .ref b_24), (7, .int (nI i)), (6, .int (nI r9)), (5, .null), (4, .ref sb), (0, .ref h0), (1, .int p0), (2, .int p1)]) hx hb dX11_fillColumn_89 hl (by decide) rfl (fun ls hl => ?_)
              refine lv_aload_n hx hb dX11_fillColumn_91 rfl (lv_at hl 6 rfl) ?_
              refine lv_aload hx hb dX11_fillColumn_92 (lv_at hl 0 rfl) ?_
              obtain ⟨kk_39, hk_40⟩ := pl_at hI.2.1.1.1 hI.2.2.2.1.1
              have hFc := fr_all hD hS hA
              refine va_callv (va_runV (As := [.ref q_26]) (rest := []) ⟨hx, hb, hml, hown, hts⟩ (x_stand l dC dI q h0 d k z_29 f_30 hI q_26 hlg_34 H.size) (cwV 1 hts gX11_fillColumn_X11_stand rfl rfl rfl (by decide +kernel) ⟨Nat.le_trans (Nat.le_of_ble_eq_true rfl) hRf, Nat.le_trans (Nat.le_of_ble_eq_true rfl) hRl⟩) ⟨gx_fb, va_recv hK hP (ci := 10) (q0 := kk_39) rfl hk_40, fun U hU hW => ⟨rfl, by rw [hU], px_to hU hW hP hK hN hXN, hD.weaken (fun _ _ _ _ => trivial)⟩⟩ rfl rfl hl.1 rfl (lv_room (Nat.le_of_ble_eq_true rfl)) dX11_fillColumn_94 ⟨by omega, by omega⟩) hS (fun q _ h => hFc q h) hFc (fun w_41 t H1 locs ht hvm hw hB hz1 hk1 hS => ?_)
              obtain ⟨hP, hD1⟩ := hB
              rw [ht] at hP
              rw [hw.2.1] at hP hD1
              have hD := hD1.weaken (fun _ q _ h => hFc q.1 h)
              have hI := hw.2.2
              have hw0 := hw
              generalize w_41.2.2 = f_42 at hP hD hI hw0
              generalize H1 = H at hP hS ⊢
              refine va_new (ci := 0) (fs := [.null, .int 0, .null, .int 0]) (C := RX0) (T := TX0) (N := 4) hx hb hts (by decide +kernel) tyX0 tyX0_ok hown (hts (.classLink RX11 28 RX0) (by decide +kernel)) (hts (.instantiable RX0 4) (by decide +kernel)) (hts (.initialized RX0) (by decide +kernel)) hK hP hD hS hA rfl nwX0 (by omega) (by omega) dX11_fillColumn_97 (fun q_43 H hPn hDn hS => ?_)
              have hP := vaP_l hPn
              refine W.widen (k := cells + 2 * i + 2) (n := slots + 10 * i + 10) (by omega) (by omega) ?_
              refine lv_dup hx hb dX11_fillColumn_100 rfl ?_
              refine lv_aload hx hb dX11_fillColumn_101 (lv_at hl 0 rfl) ?_
              refine lv_iconst (v := 0) hx hb dX11_fillColumn_103 (by decide) ?_
              refine lv_aloadN hx hb dX11_fillColumn_104 (lv_at hl 4 rfl) ?_
              have hPc := vaP_r hPn
              have hDc := vaD_r hDn
              have hFc := fr_part hDn hS hA
              refine va_callv (va_runI (As := [.ref q_26, .int 0, .null]) (rest := [.ref q_43]) ⟨hx, hb, hml, hown, hts⟩ (x_ActP l dC dI q_43 q_26 H.size) (cwI 3 hts gX11_fillColumn_X0_init rfl rfl rfl (hts (.initialized RX0) (by decide +kernel)) (hts (.methodLink RX11 163 yX0_init) (by decide +kernel)) (hts (.instanceMethod yX0_init) (by decide +kernel)) rfl (by decide +kernel) ⟨Nat.le_trans (Nat.le_of_ble_eq_true rfl) hRf, Nat.le_trans (Nat.le_of_ble_eq_true rfl) hRl⟩) ⟨gw_fb, fun U hU hW => ⟨rfl, by rw [hU], pw_to hU hW hPc (hK.sub (tys' := []) [] rfl) hN, hDc.weaken (fun _ _ _ _ => trivial)⟩⟩ rfl rfl hl.1 rfl (lv_room (Nat.le_of_ble_eq_true rfl)) dX11_fillColumn_106 ⟨by omega, by omega⟩) hS (fun q _ h => hFc q h) hFc (fun u t H1 locs ht hvm hw hB hz1 hk1 hS => ?_)
              obtain ⟨hP1, hD1⟩ := hB
              rw [ht] at hP1
              obtain ⟨hP, hD⟩ := va_joinQ (X := [(q_43, .inr (0, [.null, .int 0, .null, .int 0]))]) (cx := [(q_43, .inr (0, [.null, .int 0, .null, .int 0]))]) (wr := []) (w1 := [(q_43, .inr (0, [.ref q_26, .int 0, va_rf none, .int 1]))]) (pl := va_pl z_29.1 f_42) (vaP_swap hPn) (vaD_rotR hDn) [0] [] rfl rfl rfl (fun i hi => absurd hi List.not_mem_nil) hk1 hFc hP1 hD1
              generalize H1 = H at hP hS ⊢
              obtain ⟨hnm_44, hP, hD⟩ := pushC hP hD
              obtain ⟨z_45, ez_45⟩ : ∃ y : gS, y = pz z_29 q_43 (23, 0, [.ref q_26, .int 0, va_rf none, .int 1]) := ⟨_, rfl⟩
              obtain ⟨f_46, ef_46⟩ : ∃ y : xF, y = va_up f_42 q_43 (.inr (0, [.ref q_26, .int 0, va_rf none, .int 1])) := ⟨_, rfl⟩
              have hE_47 : zE z_29 z_45 := by rw [ez_45]; exact pz_E hnm_44 _
              have hI : xI q h0 d k z_45 f_46 := by rw [ez_45, ef_46]; exact x_push hI hnm_44 (Or.inr (by decide : (15 : Nat) < 23)) (cO_ac hlg_34 hnm_44)
              rw [show z_29.1 ++ [q_43] = z_45.1 from by rw [ez_45]; rfl, ← ef_46] at hP hD
              have hsb := zE_tg hE_47 hsb
              have ht_7 := zE_tg hE_47 ht_7
              have ht_8 := zE_tg hE_47 ht_8
              have ht_25 := zE_tg hE_47 ht_25
              have hlg_34 := zE_lg hE_47 hlg_34
              have hp_33 := zE_pc hE_47 hp_33
              have ht_48 : tg z_45 q_43 23 := by rw [ez_45]; exact pz_t _ _ _
              have hEz : zE z0 z_45 := zE_tr hEz hE_47
              refine W.eq (g2 := F0 m 109 ls [.ref q_43]) rfl ?_
              refine lv_astore (lv' := [(5, .ref q_43), (9, .ref q_26), (8, .ref b_24), (7, .int (nI i)), (6, .int (nI r9)), (4, .ref sb), (0, .ref h0), (1, .int p0), (2, .int p1)]) hx hb dX11_fillColumn_109 hl (by decide) rfl (fun ls hl => ?_)
              refine lv_iconst (v := 0) hx hb dX11_fillColumn_111 (by decide) ?_
              refine lv_istore (lv' := [(6, .int 0), (5, .ref q_43), (9, .ref q_26), (8, .ref b_24), (7, .int (nI i)), (4, .ref sb), (0, .ref h0), (1, .int p0), (2, .int p1)]) hx hb dX11_fillColumn_112 hl (by decide) rfl (fun ls hl => ?_)
              refine lv_iinc (v := (nI (i + 1))) (lv' := [(7, .int (nI (i + 1))), (6, .int 0), (5, .ref q_43), (9, .ref q_26), (8, .ref b_24), (4, .ref sb), (0, .ref h0), (1, .int p0), (2, .int p1)]) hx hb dX11_fillColumn_114 hl (k := 4) rfl (nI_1 i) (by decide) rfl (fun ls hl => ?_)
              refine lv_goto (tgt := 17) hx hb dX11_fillColumn_117 (by decide) ?_
              refine W.widen (k := cells + 2 * (i + 1)) (n := slots + 10 * (i + 1)) (by omega) (by omega) ?_
              exact ih (i + 1) _ _ _ _ (some q_43) (0) sb ls (by omega) (by omega) (by omega) hsb hEz (ty_s ht_48) hI hP hD hS (lv_sub hl [0, 1, 2, 5, 6, 7, 8] rfl)
        ·
          refine lv_iinc (v := (nI (r9 + 1))) (lv' := [(6, .int (nI (r9 + 1))), (7, .int (nI i)), (5, .null), (4, .ref sb), (0, .ref h0), (1, .int p0), (2, .int p1)]) hx hb dX11_fillColumn_42 hl (k := 1) rfl (nI_1 r9) (by decide) rfl (fun ls hl => ?_)
          refine lv_goto (tgt := 114) hx hb dX11_fillColumn_45 (by decide) ?_
          refine lv_iinc (v := (nI (i + 1))) (lv' := [(7, .int (nI (i + 1))), (6, .int (nI (r9 + 1))), (5, .null), (4, .ref sb), (0, .ref h0), (1, .int p0), (2, .int p1)]) hx hb dX11_fillColumn_114 hl (k := 1) rfl (nI_1 i) (by decide) rfl (fun ls hl => ?_)
          refine lv_goto (tgt := 17) hx hb dX11_fillColumn_117 (by decide) ?_
          refine W.widen (k := cells + 2 * (i + 1)) (n := slots + 10 * (i + 1)) (by omega) (by omega) ?_
          exact ih (i + 1) _ _ _ _ none (r9 + 1) sb ls (by omega) (by omega) (by omega) hsb hEz ty_n hI hP hD hS (lv_sub hl [0, 1, 2, 3, 4, 5, 6] rfl)
    ·
      have hl : lv_has ls 10 [(7, .int (nI i)), (6, .int (nI r9)), (5, .ref b9), (4, .ref sb), (0, .ref h0), (1, .int p0), (2, .int p1)] := hl
      have hb9 := hr b9 rfl
      refine lv_iload hx hb dX11_fillColumn_17 (lv_at hl 0 rfl) ?_
      refine lv_aload hx hb dX11_fillColumn_19 (lv_at hl 3 rfl) ?_
      obtain ⟨la_49, ca_50, m_51, dd_52, ii_53, hs_54, ht_55, ht_56⟩ := x_sh hI hsb
      obtain ⟨kk_57, hk_58⟩ := pl_at hsb.1 hs_54
      refine va_get (D := (dC, dI)) (ci := 8) (v := .ref la_49) (C := RX9) (T := TX9) (N := 5) hx hb hts (by decide +kernel) hown hK hP kk_57 hk_58 rfl 0 (by decide) (hts (.fieldLink RX11 59 "PageOne$Sheet" "lines" "[I") (by decide +kernel)) (fun _ h9 => h9) rfl dX11_fillColumn_21 ?_
      refine lv_iload_n hx hb dX11_fillColumn_24 rfl (lv_at hl 6 rfl) ?_
      obtain ⟨g_59, hs_60, hg_61⟩ := x_ln hI ht_55
      obtain ⟨kk_62, hk_63⟩ := pl_at ht_55.1 hs_60
      refine va_iald hx hb hK hP kk_62 0 hk_63 rfl (vin hcl (by decide)) dX11_fillColumn_25 ?_
      refine lv_icmp_gt (tgt := 120) hx hb dX11_fillColumn_26 (by decide) (fun c_64 => ?_) (fun c_64 => ?_)
      ·
        refine W.widen (k := cells + 122) (n := slots + 610) (by omega) (by omega) ?_
        exact kx120 _ _ _ _ (some b9) ls hEz (ty_s hb9) hI hP hD hS (lv_sub hl [2] rfl)
      ·
        have hi60 : i ≤ 60 := le60 hi (hg_61 _ (vlt (vin hcl (by decide)))) c_64
        refine lv_aload hx hb dX11_fillColumn_29 (lv_at hl 3 rfl) ?_
        refine lv_iload_n hx hb dX11_fillColumn_31 rfl (lv_at hl 6 rfl) ?_
        refine lv_iload hx hb dX11_fillColumn_32 (lv_at hl 0 rfl) ?_
        obtain ⟨kk_65, hk_66⟩ := pl_at hsb.1 hs_54
        refine vp_callSi (va_runV (As := [.int p1, .int (nI i)]) (rest := []) ⟨hx, hb, hml, hown, hts⟩ (x_at l dC dI q h0 d k z f hI sb p1 (nI i) hsb) (cwV 2 hts gX11_fillColumn_X9_at rfl rfl rfl (by decide +kernel) ⟨Nat.le_trans (Nat.le_of_ble_eq_true rfl) hRf, Nat.le_trans (Nat.le_of_ble_eq_true rfl) hRl⟩) ⟨px_fb, va_recv hK hP (ci := 8) (q0 := kk_65) rfl hk_66, fun U hU hW => ⟨rfl, px_to hU hW hP hK hN hXN⟩⟩ rfl rfl hl.1 rfl (lv_room (Nat.le_of_ble_eq_true rfl)) dX11_fillColumn_34 ⟨by omega, by omega⟩).run (fun r hw => ?_)
        generalize r = zr_67 at hw ⊢
        have hzr_67 := hw
        refine lv_bipush (v := (-2)) hx hb dX11_fillColumn_37 (by decide) ?_
        refine lv_icmp_ne (tgt := 48) hx hb dX11_fillColumn_39 (by decide) (fun c_68 => ?_) (fun c_68 => ?_)
        ·
          refine lv_iload hx hb dX11_fillColumn_48 (lv_at hl 1 rfl) ?_
          refine lv_if_le (tgt := 62) hx hb dX11_fillColumn_50 (by decide) (fun c_69 => ?_) (fun c_69 => ?_)
          ·
            refine lv_null hx hb dX11_fillColumn_62 ?_
            refine lv_astoreN (lv' := [(8, .null), (7, .int (nI i)), (6, .int (nI r9)), (5, .ref b9), (4, .ref sb), (0, .ref h0), (1, .int p0), (2, .int p1)]) hx hb dX11_fillColumn_63 hl (by decide) rfl (fun ls hl => ?_)
            refine lv_aloadN hx hb dX11_fillColumn_65 (lv_at hl 0 rfl) ?_
            refine lv_ifnullN (tgt := 111) hx hb dX11_fillColumn_67 (by decide) ?_
            refine lv_iconst (v := 0) hx hb dX11_fillColumn_111 (by decide) ?_
            refine lv_istore (lv' := [(6, .int 0), (8, .null), (7, .int (nI i)), (5, .ref b9), (4, .ref sb), (0, .ref h0), (1, .int p0), (2, .int p1)]) hx hb dX11_fillColumn_112 hl (by decide) rfl (fun ls hl => ?_)
            refine lv_iinc (v := (nI (i + 1))) (lv' := [(7, .int (nI (i + 1))), (6, .int 0), (8, .null), (5, .ref b9), (4, .ref sb), (0, .ref h0), (1, .int p0), (2, .int p1)]) hx hb dX11_fillColumn_114 hl (k := 2) rfl (nI_1 i) (by decide) rfl (fun ls hl => ?_)
            refine lv_goto (tgt := 17) hx hb dX11_fillColumn_117 (by decide) ?_
            refine W.widen (k := cells + 2 * (i + 1)) (n := slots + 10 * (i + 1)) (by omega) (by omega) ?_
            exact ih (i + 1) _ _ _ _ (some b9) (0) sb ls (by omega) (by omega) (by omega) hsb hEz (ty_s hb9) hI hP hD hS (lv_sub hl [0, 1, 3, 4, 5, 6, 7] rfl)
          ·
            refine lv_aload_n hx hb dX11_fillColumn_53 rfl (lv_at hl 4 rfl) ?_
            refine lv_iload hx hb dX11_fillColumn_54 (lv_at hl 1 rfl) ?_
            obtain ⟨kk_70, hk_71⟩ := pl_at hI.2.1.1.1 hI.2.2.2.1.1
            refine va_csq (va_runV (As := [.int (nI r9)]) (rest := []) ⟨hx, hb, hml, hown, hts⟩ (x_fillerFor l dC dI q h0 d k z f hI (nI r9)) (cwV 1 hts gX11_fillColumn_X11_fillerFor rfl rfl rfl (by decide +kernel) ⟨Nat.le_trans (Nat.le_of_ble_eq_true rfl) hRf, Nat.le_trans (Nat.le_of_ble_eq_true rfl) hRl⟩) ⟨px_fb, va_recv hK hP (ci := 10) (q0 := kk_70) rfl hk_71, fun U hU hW => ⟨rfl, px_to hU hW hP hK hN hXN⟩⟩ rfl rfl hl.1 rfl (lv_room (Nat.le_of_ble_eq_true rfl)) dX11_fillColumn_56 ⟨by omega, by omega⟩).run (fun r hw => ?_)
            rcases r with _ | b_72
            ·
              refine W.eq (g2 := F0 m 59 ls [.null]) rfl ?_
              refine lv_goto (tgt := 63) hx hb dX11_fillColumn_59 (by decide) ?_
              refine lv_astoreN (lv' := [(8, .null), (7, .int (nI i)), (6, .int (nI r9)), (5, .ref b9), (4, .ref sb), (0, .ref h0), (1, .int p0), (2, .int p1)]) hx hb dX11_fillColumn_63 hl (by decide) rfl (fun ls hl => ?_)
              refine lv_aloadN hx hb dX11_fillColumn_65 (lv_at hl 0 rfl) ?_
              refine lv_ifnullN (tgt := 111) hx hb dX11_fillColumn_67 (by decide) ?_
              refine lv_iconst (v := 0) hx hb dX11_fillColumn_111 (by decide) ?_
              refine lv_istore (lv' := [(6, .int 0), (8, .null), (7, .int (nI i)), (5, .ref b9), (4, .ref sb), (0, .ref h0), (1, .int p0), (2, .int p1)]) hx hb dX11_fillColumn_112 hl (by decide) rfl (fun ls hl => ?_)
              refine lv_iinc (v := (nI (i + 1))) (lv' := [(7, .int (nI (i + 1))), (6, .int 0), (8, .null), (5, .ref b9), (4, .ref sb), (0, .ref h0), (1, .int p0), (2, .int p1)]) hx hb dX11_fillColumn_114 hl (k := 2) rfl (nI_1 i) (by decide) rfl (fun ls hl => ?_)
              refine lv_goto (tgt := 17) hx hb dX11_fillColumn_117 (by decide) ?_
              refine W.widen (k := cells + 2 * (i + 1)) (n := slots + 10 * (i + 1)) (by omega) (by omega) ?_
              exact ih (i + 1) _ _ _ _ (some b9) (0) sb ls (by omega) (by omega) (by omega) hsb hEz (ty_s hb9) hI hP hD hS (lv_sub hl [0, 1, 3, 4, 5, 6, 7] rfl)
            ·
              have ht_73 := hw b_72 rfl
              refine W.eq (g2 := F0 m 59 ls [.ref b_72]) rfl ?_
              refine lv_goto (tgt := 63) hx hb dX11_fillColumn_59 (by decide) ?_
              refine lv_astore (lv' := [(8, .ref b_72), (7, .int (nI i)), (6, .int (nI r9)), (5, .ref b9), (4, .ref sb), (0, .ref h0), (1, .int p0), (2, .int p1)]) hx hb dX11_fillColumn_63 hl (by decide) rfl (fun ls hl => ?_)
              refine lv_aload hx hb dX11_fillColumn_65 (lv_at hl 0 rfl) ?_
              refine lv_ifnull hx hb dX11_fillColumn_67 ?_
              refine va_new (ci := 7) (fs := [.null, .int 0, .int 0, .int 0, .int 0, .int 0]) (C := RX8) (T := TX8) (N := 6) hx hb hts (by decide +kernel) tyX8 tyX8_ok hown (hts (.classLink RX11 106 RX8) (by decide +kernel)) (hts (.instantiable RX8 6) (by decide +kernel)) (hts (.initialized RX8) (by decide +kernel)) hK hP hD hS hA rfl nwX8 (by omega) (by omega) dX11_fillColumn_70 (fun q_74 H hPn hDn hS => ?_)
              have hP := vaP_l hPn
              refine W.widen (k := cells + 2 * i + 1) (n := slots + 10 * i + 6) (by omega) (by omega) ?_
              refine lv_dup hx hb dX11_fillColumn_73 rfl ?_
              refine lv_aload hx hb dX11_fillColumn_74 (lv_at hl 0 rfl) ?_
              refine lv_iload_n hx hb dX11_fillColumn_76 rfl (lv_at hl 6 rfl) ?_
              refine lv_iload_n hx hb dX11_fillColumn_77 rfl (lv_at hl 7 rfl) ?_
              refine lv_iload hx hb dX11_fillColumn_78 (lv_at hl 1 rfl) ?_
              refine lv_iload hx hb dX11_fillColumn_80 (lv_at hl 2 rfl) ?_
              refine lv_isub hx hb dX11_fillColumn_82 ?_
              refine lv_topi (fun y_75 ey_75 => ?_)
              obtain rfl : y_75 = (nI (i - r9)) := ey_75.trans (nI_sb hr9 (by omega))
              refine lv_iconst (v := 1) hx hb dX11_fillColumn_83 (by decide) ?_
              refine lv_iload hx hb dX11_fillColumn_84 (lv_at hl 2 rfl) ?_
              have hPc := vaP_r hPn
              have hDc := vaD_r hDn
              have hFc := fr_part hDn hS hA
              refine va_callv (va_runI (As := [.ref b_72, .int p0, .int p1, .int (nI (i - r9)), .int 1, .int (nI r9)]) (rest := [.ref q_74]) ⟨hx, hb, hml, hown, hts⟩ (x_PieceI l dC dI q_74 b_72 p0 p1 (nI (i - r9)) 1 (nI r9) H.size) (cwI 6 hts gX11_fillColumn_X8_init rfl rfl rfl (hts (.initialized RX8) (by decide +kernel)) (hts (.methodLink RX11 108 yX8_init) (by decide +kernel)) (hts (.instanceMethod yX8_init) (by decide +kernel)) rfl (by decide +kernel) ⟨Nat.le_trans (Nat.le_of_ble_eq_true rfl) hRf, Nat.le_trans (Nat.le_of_ble_eq_true rfl) hRl⟩) ⟨gw_fb, fun U hU hW => ⟨rfl, by rw [hU], pw_to hU hW hPc (hK.sub (tys' := []) [] rfl) hN, hDc.weaken (fun _ _ _ _ => trivial)⟩⟩ rfl rfl hl.1 rfl (lv_room (Nat.le_of_ble_eq_true rfl)) dX11_fillColumn_86 ⟨by omega, by omega⟩) hS (fun q _ h => hFc q h) hFc (fun u t H1 locs ht hvm hw hB hz1 hk1 hS => ?_)
              obtain ⟨hP1, hD1⟩ := hB
              rw [ht] at hP1
              obtain ⟨hP, hD⟩ := va_joinQ (X := [(q_74, .inr (7, [.null, .int 0, .int 0, .int 0, .int 0, .int 0]))]) (cx := [(q_74, .inr (7, [.null, .int 0, .int 0, .int 0, .int 0, .int 0]))]) (wr := []) (w1 := [(q_74, .inr (7, [va_rf (some b_72), .int p0, .int p1, .int (nI (i - r9)), .int 1, .int (nI r9)]))]) (pl := va_pl z.1 f) (vaP_swap hPn) (vaD_rotR hDn) [0] [] rfl rfl rfl (fun i hi => absurd hi List.not_mem_nil) hk1 hFc hP1 hD1
              generalize H1 = H at hP hS ⊢
              obtain ⟨hnm_76, hP, hD⟩ := pushC hP hD
              obtain ⟨z_77, ez_77⟩ : ∃ y : gS, y = pz z q_74 (22, 0, [va_rf (some b_72), .int p0, .int p1, .int (nI (i - r9)), .int 1, .int (nI r9)]) := ⟨_, rfl⟩
              obtain ⟨f_78, ef_78⟩ : ∃ y : xF, y = va_up f q_74 (.inr (7, [va_rf (some b_72), .int p0, .int p1, .int (nI (i - r9)), .int 1, .int (nI r9)])) := ⟨_, rfl⟩
              have hE_79 : zE z z_77 := by rw [ez_77]; exact pz_E hnm_76 _
              have hI : xI q h0 d k z_77 f_78 := by rw [ez_77, ef_78]; exact x_push hI hnm_76 (Or.inr (by decide : (15 : Nat) < 22)) (cO_pc hpg (ty_s (tg_itm ht_73 (by decide))) hnm_76)
              rw [show z.1 ++ [q_74] = z_77.1 from by rw [ez_77]; rfl, ← ef_78] at hP hD
              have hsb := zE_tg hE_79 hsb
              have hb9 := zE_tg hE_79 hb9
              have ht_55 := zE_tg hE_79 ht_55
              have ht_56 := zE_tg hE_79 ht_56
              have ht_73 := zE_tg hE_79 ht_73
              have ht_80 : tg z_77 q_74 22 := by rw [ez_77]; exact pz_t _ _ _
              have hEz : zE z0 z_77 := zE_tr hEz hE_79
              refine W.eq (g2 := F0 m 89 ls [.ref q_74]) rfl ?_
              have hp_81 : pcS z_77 q_74 (some b_72) p0 p1 (nI (i - r9)) 1 (nI r9) := ⟨ht_80, by rw [ez_77, pz_s]⟩
              have hb_83 : bw p1 0 7 = true := hcl
              have hb_84 : bw (nI (i - r9)) 0 60 = true := b60n (by omega)
              have hb_85 : bw 1 0 8 = true := by decide
              have hb_86 : bw (nI r9) 0 60 = true := b60n (by omega)
              have hlg_82 := lg_of hp_81 ⟨hb_83, hb_84, hb_85, hb_86⟩
              refine lv_astore (lv' := [(9, .ref q_74), (8, .ref b_72), (7, .int (nI i)), (6, .int (nI r9)), (5, .ref b9), (4, .ref sb), (0, .ref h0), (1, .int p0), (2, .int p1)]) hx hb dX11_fillColumn_89 hl (by decide) rfl (fun ls hl => ?_)
              refine lv_aload_n hx hb dX11_fillColumn_91 rfl (lv_at hl 6 rfl) ?_
              refine lv_aload hx hb dX11_fillColumn_92 (lv_at hl 0 rfl) ?_
              obtain ⟨kk_87, hk_88⟩ := pl_at hI.2.1.1.1 hI.2.2.2.1.1
              have hFc := fr_all hD hS hA
              refine va_callv (va_runV (As := [.ref q_74]) (rest := []) ⟨hx, hb, hml, hown, hts⟩ (x_stand l dC dI q h0 d k z_77 f_78 hI q_74 hlg_82 H.size) (cwV 1 hts gX11_fillColumn_X11_stand rfl rfl rfl (by decide +kernel) ⟨Nat.le_trans (Nat.le_of_ble_eq_true rfl) hRf, Nat.le_trans (Nat.le_of_ble_eq_true rfl) hRl⟩) ⟨gx_fb, va_recv hK hP (ci := 10) (q0 := kk_87) rfl hk_88, fun U hU hW => ⟨rfl, by rw [hU], px_to hU hW hP hK hN hXN, hD.weaken (fun _ _ _ _ => trivial)⟩⟩ rfl rfl hl.1 rfl (lv_room (Nat.le_of_ble_eq_true rfl)) dX11_fillColumn_94 ⟨by omega, by omega⟩) hS (fun q _ h => hFc q h) hFc (fun w_89 t H1 locs ht hvm hw hB hz1 hk1 hS => ?_)
              obtain ⟨hP, hD1⟩ := hB
              rw [ht] at hP
              rw [hw.2.1] at hP hD1
              have hD := hD1.weaken (fun _ q _ h => hFc q.1 h)
              have hI := hw.2.2
              have hw0 := hw
              generalize w_89.2.2 = f_90 at hP hD hI hw0
              generalize H1 = H at hP hS ⊢
              refine va_new (ci := 0) (fs := [.null, .int 0, .null, .int 0]) (C := RX0) (T := TX0) (N := 4) hx hb hts (by decide +kernel) tyX0 tyX0_ok hown (hts (.classLink RX11 28 RX0) (by decide +kernel)) (hts (.instantiable RX0 4) (by decide +kernel)) (hts (.initialized RX0) (by decide +kernel)) hK hP hD hS hA rfl nwX0 (by omega) (by omega) dX11_fillColumn_97 (fun q_91 H hPn hDn hS => ?_)
              have hP := vaP_l hPn
              refine W.widen (k := cells + 2 * i + 2) (n := slots + 10 * i + 10) (by omega) (by omega) ?_
              refine lv_dup hx hb dX11_fillColumn_100 rfl ?_
              refine lv_aload hx hb dX11_fillColumn_101 (lv_at hl 0 rfl) ?_
              refine lv_iconst (v := 0) hx hb dX11_fillColumn_103 (by decide) ?_
              refine lv_aload hx hb dX11_fillColumn_104 (lv_at hl 4 rfl) ?_
              obtain ⟨hnm_92, hP, hD⟩ := pushC (cs := []) (vaP_swap hPn) (vaD_rotR hDn)
              obtain ⟨z_93, ez_93⟩ : ∃ y : gS, y = pz z_77 q_91 (24, 0, []) := ⟨_, rfl⟩
              obtain ⟨f_94, ef_94⟩ : ∃ y : xF, y = va_up f_90 q_91 (.inr (0, [.null, .int 0, .null, .int 0])) := ⟨_, rfl⟩
              have hE_95 : zE z_77 z_93 := by rw [ez_93]; exact pz_E hnm_92 _
              have hI4 : xI q h0 d k z_93 f_94 := by rw [ez_93, ef_94]; exact x_push hI hnm_92 (Or.inr (by decide : (15 : Nat) < 24)) (cO_24 (by rw [pz_s]))
              have hP : va_P (dC, dI) vwCl (va_pl z_93.1 f_94) H := by rw [ez_93, ef_94]; exact hP
              have hD : va_D A (va_pl z_93.1 f_94) := by rw [ez_93, ef_94]; exact hD
              have hFc := fr_all hD hS hA
              refine va_callv (va_runI (As := [.ref q_74, .int 0, .ref b9]) (rest := [.ref q_91]) ⟨hx, hb, hml, hown, hts⟩ (x_ActA l dC dI q h0 d k z_93 f_94 hI4 q_91 q_74 b9 (by rw [ez_93]; exact pz_t _ _ _) (by rw [ef_94]; exact up_s) (zE_tg hE_95 hb9) H.size) (cwI 3 hts gX11_fillColumn_X0_init rfl rfl rfl (hts (.initialized RX0) (by decide +kernel)) (hts (.methodLink RX11 163 yX0_init) (by decide +kernel)) (hts (.instanceMethod yX0_init) (by decide +kernel)) rfl (by decide +kernel) ⟨Nat.le_trans (Nat.le_of_ble_eq_true rfl) hRf, Nat.le_trans (Nat.le_of_ble_eq_true rfl) hRl⟩) ⟨gx_fb, fun U hU hW => ⟨rfl, by rw [hU], px_to hU hW hP hK hN hXN, hD.weaken (fun _ _ _ _ => trivial)⟩⟩ rfl rfl hl.1 rfl (lv_room (Nat.le_of_ble_eq_true rfl)) dX11_fillColumn_106 ⟨by omega, by omega⟩) hS (fun q _ h => hFc q h) hFc (fun w_96 t H1 locs ht hvm hw hB hz1 hk1 hS => ?_)
              obtain ⟨hP, hD1⟩ := hB
              rw [ht] at hP
              have hD := hD1.weaken (fun _ q _ h => hFc q.1 h)
              generalize H1 = H at hP hS ⊢
              obtain ⟨hw2, nn_97, hw3⟩ := hw
              rw [hw2, hw3] at hP hD
              obtain ⟨z_98, ez_98⟩ : ∃ y : gS, y = pz z_77 q_91 (23, (z_77.2 b9).2.1 + 1, [.ref q_74, .int 0, .ref b9, .int nn_97]) := ⟨_, rfl⟩
              obtain ⟨f_99, ef_99⟩ : ∃ y : xF, y = va_up f_90 q_91 (.inr (0, [.ref q_74, .int 0, .ref b9, .int nn_97])) := ⟨_, rfl⟩
              have hE_100 : zE z_77 z_98 := by rw [ez_98]; exact pz_E hnm_92 _
              have hI : xI q h0 d k z_98 f_99 := by rw [ez_98, ef_99]; exact x_push hI hnm_92 (Or.inr (by decide : (15 : Nat) < 23)) (cO_acA hlg_82 hb9 hnm_92)
              rw [show z_93.1 = z_98.1 from by rw [ez_93, ez_98]; rfl, ef_94, up_up, ← ef_99] at hP hD
              have hsb := zE_tg hE_100 hsb
              have hb9 := zE_tg hE_100 hb9
              have ht_55 := zE_tg hE_100 ht_55
              have ht_56 := zE_tg hE_100 ht_56
              have ht_73 := zE_tg hE_100 ht_73
              have hlg_82 := zE_lg hE_100 hlg_82
              have hp_81 := zE_pc hE_100 hp_81
              have ht_101 : tg z_98 q_91 23 := by rw [ez_98]; exact pz_t _ _ _
              have hEz : zE z0 z_98 := zE_tr hEz hE_100
              refine W.eq (g2 := F0 m 109 ls [.ref q_91]) rfl ?_
              refine lv_astore (lv' := [(5, .ref q_91), (9, .ref q_74), (8, .ref b_72), (7, .int (nI i)), (6, .int (nI r9)), (4, .ref sb), (0, .ref h0), (1, .int p0), (2, .int p1)]) hx hb dX11_fillColumn_109 hl (by decide) rfl (fun ls hl => ?_)
              refine lv_iconst (v := 0) hx hb dX11_fillColumn_111 (by decide) ?_
              refine lv_istore (lv' := [(6, .int 0), (5, .ref q_91), (9, .ref q_74), (8, .ref b_72), (7, .int (nI i)), (4, .ref sb), (0, .ref h0), (1, .int p0), (2, .int p1)]) hx hb dX11_fillColumn_112 hl (by decide) rfl (fun ls hl => ?_)
              refine lv_iinc (v := (nI (i + 1))) (lv' := [(7, .int (nI (i + 1))), (6, .int 0), (5, .ref q_91), (9, .ref q_74), (8, .ref b_72), (4, .ref sb), (0, .ref h0), (1, .int p0), (2, .int p1)]) hx hb dX11_fillColumn_114 hl (k := 4) rfl (nI_1 i) (by decide) rfl (fun ls hl => ?_)
              refine lv_goto (tgt := 17) hx hb dX11_fillColumn_117 (by decide) ?_
              refine W.widen (k := cells + 2 * (i + 1)) (n := slots + 10 * (i + 1)) (by omega) (by omega) ?_
              exact ih (i + 1) _ _ _ _ (some q_91) (0) sb ls (by omega) (by omega) (by omega) hsb hEz (ty_s ht_101) hI hP hD hS (lv_sub hl [0, 1, 2, 5, 6, 7, 8] rfl)
        ·
          refine lv_iinc (v := (nI (r9 + 1))) (lv' := [(6, .int (nI (r9 + 1))), (7, .int (nI i)), (5, .ref b9), (4, .ref sb), (0, .ref h0), (1, .int p0), (2, .int p1)]) hx hb dX11_fillColumn_42 hl (k := 1) rfl (nI_1 r9) (by decide) rfl (fun ls hl => ?_)
          refine lv_goto (tgt := 114) hx hb dX11_fillColumn_45 (by decide) ?_
          refine lv_iinc (v := (nI (i + 1))) (lv' := [(7, .int (nI (i + 1))), (6, .int (nI (r9 + 1))), (5, .ref b9), (4, .ref sb), (0, .ref h0), (1, .int p0), (2, .int p1)]) hx hb dX11_fillColumn_114 hl (k := 1) rfl (nI_1 i) (by decide) rfl (fun ls hl => ?_)
          refine lv_goto (tgt := 17) hx hb dX11_fillColumn_117 (by decide) ?_
          refine W.widen (k := cells + 2 * (i + 1)) (n := slots + 10 * (i + 1)) (by omega) (by omega) ?_
          exact ih (i + 1) _ _ _ _ (some b9) (r9 + 1) sb ls (by omega) (by omega) (by omega) hsb hEz (ty_s hb9) hI hP hD hS (lv_sub hl [0, 1, 2, 3, 4, 5, 6] rfl)
set_option maxHeartbeats 4000000 in
set_option maxRecDepth 100000 in
theorem x_fillColumnN (l : Launch) (dC : Nat → ClassId) (dI : Nat → Nat → Nat) (q : Nat → ClassId) (h0 : Nat) (d : Nat → Nat) (k : Nat → Int32) (z : gS) (f : xF) (hI : xI q h0 d k z f) (p0 p1 : Int32) (hpg : bw p0 0 11 = true) (hcl : bw p1 0 7 = true) (sz : Nat) : Met l yX11_fillColumn wsX11_fillColumn ({ frames := 5, cells := 122, slots := 610, locals := 109 }) (va_Pc [.ref h0, .int p0, .int p1, .null] (fun U => U.heap.size = sz ∧ PX dC dI (va_pl z.1 f) (xT q) U ∧ va_D (fun _ => True) (va_pl z.1 f))) (va_Qq (fun (r : Option Nat) (w : xU) => w.1 = k ∧ zE z w.2.1 ∧ xI q h0 d k w.2.1 w.2.2 ∧ ∀ b, r = some b → tg w.2.1 b 23) (fun (w : xU) t => va_P (dC, dI) vwCl (va_pl w.2.1.1 w.2.2) t.heap ∧ va_D (va_A (va_pl z.1 f) sz) (va_pl w.2.1.1 w.2.2)) (va_A (va_pl z.1 f) sz)) 122 610 (va_A (va_pl z.1 f) sz) := by
  refine Met.ofW (cc := cX11_fillColumn) (maxL := 10) (ret := (some (.object "PageOne$Act"))) (by decide) rfl ?_
  intro p e s m args below meth c s₁ B hml hv
  obtain ⟨rfl, hsz, ⟨⟨hP, hK, hN⟩, hXN⟩, hD0⟩ := hv
  have hx := B.exec
  have hb := B.bytes
  have hr := B.returns
  have hts := atoms_spec (ws := wsX11_fillColumn) B.pre
  have hown : s.vm.findClass RX11 = some m.cls := findClass_of_methodNamed B.named
  have hlocks := B.notSynchronized
  subst hsz
  have hD := hD0.self (sz := s.heap.size)
  generalize hAe : va_A (va_pl z.1 f) s.heap.size = A at hD ⊢
  have hA : ∀ q : Nat, s.heap.size ≤ q → A q := fun q h => by rw [← hAe]; exact Or.inr h
  have hS : va_S A s.heap s.heap [] := va_S.rf
  have hl := lv_entry ([.ref h0, .int p0, .int p1, .null]) (n := 10) (Nat.le_of_ble_eq_true rfl)
  rw [lg_entry_eq]
  generalize (lg_sl ([.ref h0, .int p0, .int p1, .null]) ++ List.replicate (10 - (lg_sl ([.ref h0, .int p0, .int p1, .null])).length) Slot.unset).toArray = ls at hl ⊢
  have hl : lv_has ls 10 [(0, .ref h0), (1, .int p0), (2, .int p1), (3, .null)] := hl
  refine lv_aload_n hx hb dX11_fillColumn_0 rfl (lv_at hl 0 rfl) ?_
  obtain ⟨kk_1, hk_2⟩ := pl_at hI.2.1.1.1 hI.2.2.2.1.1
  refine va_get (D := (dC, dI)) (ci := 10) (v := .ref (d 0)) (C := RX11) (T := TX11) (N := 9) hx hb hts (by decide +kernel) hown hK hP kk_1 hk_2 rfl 0 (by decide) (hts (.fieldLink RX11 11 "PageOne" "pages" "[LPageOne$Sheet;") (by decide +kernel)) (fun _ h9 => h9) rfl dX11_fillColumn_1 ?_
  refine lv_iload_n hx hb dX11_fillColumn_4 rfl (lv_at hl 1 rfl) ?_
  obtain ⟨g_3, hs_4, hg_5⟩ := x_pg hI hI.2.1.2.1
  obtain ⟨kk_6, hk_7⟩ := pl_at hI.2.1.2.1.1 hs_4
  refine va_aldq hx hb hK hP kk_6 2 hk_7 rfl (vin hpg (by decide)) dX11_fillColumn_5 ?_
  obtain ⟨b_8, hg_9, ht_10⟩ := hg_5 _ (vlt (vin hpg (by decide)))
  rw [hg_9]
  refine W.eq (g2 := F0 m 6 ls [.ref b_8]) rfl ?_
  refine lv_astore (lv' := [(4, .ref b_8), (0, .ref h0), (1, .int p0), (2, .int p1), (3, .null)]) hx hb dX11_fillColumn_6 hl (by decide) rfl (fun ls hl => ?_)
  refine lv_aload_nN hx hb dX11_fillColumn_8 rfl (lv_at hl 4 rfl) ?_
  refine lv_astoreN (lv' := [(5, .null), (4, .ref b_8), (0, .ref h0), (1, .int p0), (2, .int p1), (3, .null)]) hx hb dX11_fillColumn_9 hl (by decide) rfl (fun ls hl => ?_)
  refine lv_iconst (v := 0) hx hb dX11_fillColumn_11 (by decide) ?_
  refine lv_istore (lv' := [(6, .int 0), (5, .null), (4, .ref b_8), (0, .ref h0), (1, .int p0), (2, .int p1), (3, .null)]) hx hb dX11_fillColumn_12 hl (by decide) rfl (fun ls hl => ?_)
  refine lv_iconst (v := 0) hx hb dX11_fillColumn_14 (by decide) ?_
  refine lv_istore (lv' := [(7, .int 0), (6, .int 0), (5, .null), (4, .ref b_8), (0, .ref h0), (1, .int p0), (2, .int p1), (3, .null)]) hx hb dX11_fillColumn_15 hl (by decide) rfl (fun ls hl => ?_)
  refine x_fc_l (cells := 0) (slots := 0) (z0 := z) (p0 := p0) (p1 := p1) hpg hcl hx hb hml hts hown hN hXN hK (Nat.le_of_ble_eq_true rfl) (Nat.le_of_ble_eq_true rfl) (Nat.le_of_ble_eq_true rfl) (Nat.le_of_ble_eq_true rfl) hA (fun z2 f2 H locs r ls hE2 hr2 hI hP hD hS hl => ?_) 62 0 z f _ _ none 0 b_8 ls (by decide) (by decide) (Nat.le_refl _) ht_10 (zE_rf z) ty_n hI hP hD hS (lv_sub hl [0, 1, 2, 3, 4, 5, 6] rfl)
  rcases r with _ | b8
  all_goals refine W.widen (k := 122) (n := 610) (Nat.le_of_ble_eq_true rfl) (Nat.le_of_ble_eq_true rfl) ?_
  ·
    have hl : lv_has ls 10 [(5, .null)] := hl
    refine lv_aloadN hx hb dX11_fillColumn_120 (lv_at hl 0 rfl) ?_
    exact W.aret (v := .null) hx hb hr (Or.inl ⟨_, rfl⟩) (Or.inl rfl) (fun t ht hW => ⟨⟨none, (k, z2, f2), rfl, ⟨rfl, hE2, hI, ty_n⟩, by rw [ht]; exact hP, hD⟩, hS.F ht⟩) hS.2.2 dX11_fillColumn_122
  ·
    have hl : lv_has ls 10 [(5, .ref b8)] := hl
    have ht8 := hr2 b8 rfl
    refine lv_aload hx hb dX11_fillColumn_120 (lv_at hl 0 rfl) ?_
    exact W.aret (v := .ref b8) hx hb hr (Or.inl ⟨_, rfl⟩) (Or.inr ⟨_, rfl⟩) (fun t ht hW => ⟨⟨(some b8), (k, z2, f2), rfl, ⟨rfl, hE2, hI, (ty_s ht8)⟩, by rw [ht]; exact hP, hD⟩, hS.F ht⟩) hS.2.2 dX11_fillColumn_122
set_option maxHeartbeats 4000000 in
set_option maxRecDepth 100000 in
theorem x_fillColumnS (l : Launch) (dC : Nat → ClassId) (dI : Nat → Nat → Nat) (q : Nat → ClassId) (h0 : Nat) (d : Nat → Nat) (k : Nat → Int32) (z : gS) (f : xF) (hI : xI q h0 d k z f) (p0 p1 : Int32) (b9 : Nat) (hb9 : tg z b9 23) (hpg : bw p0 0 11 = true) (hcl : bw p1 0 7 = true) (sz : Nat) : Met l yX11_fillColumn wsX11_fillColumn ({ frames := 5, cells := 122, slots := 610, locals := 109 }) (va_Pc [.ref h0, .int p0, .int p1, .ref b9] (fun U => U.heap.size = sz ∧ PX dC dI (va_pl z.1 f) (xT q) U ∧ va_D (fun _ => True) (va_pl z.1 f))) (va_Qq (fun (r : Option Nat) (w : xU) => w.1 = k ∧ zE z w.2.1 ∧ xI q h0 d k w.2.1 w.2.2 ∧ ∀ b, r = some b → tg w.2.1 b 23) (fun (w : xU) t => va_P (dC, dI) vwCl (va_pl w.2.1.1 w.2.2) t.heap ∧ va_D (va_A (va_pl z.1 f) sz) (va_pl w.2.1.1 w.2.2)) (va_A (va_pl z.1 f) sz)) 122 610 (va_A (va_pl z.1 f) sz) := by
  refine Met.ofW (cc := cX11_fillColumn) (maxL := 10) (ret := (some (.object "PageOne$Act"))) (by decide) rfl ?_
  intro p e s m args below meth c s₁ B hml hv
  obtain ⟨rfl, hsz, ⟨⟨hP, hK, hN⟩, hXN⟩, hD0⟩ := hv
  have hx := B.exec
  have hb := B.bytes
  have hr := B.returns
  have hts := atoms_spec (ws := wsX11_fillColumn) B.pre
  have hown : s.vm.findClass RX11 = some m.cls := findClass_of_methodNamed B.named
  have hlocks := B.notSynchronized
  subst hsz
  have hD := hD0.self (sz := s.heap.size)
  generalize hAe : va_A (va_pl z.1 f) s.heap.size = A at hD ⊢
  have hA : ∀ q : Nat, s.heap.size ≤ q → A q := fun q h => by rw [← hAe]; exact Or.inr h
  have hS : va_S A s.heap s.heap [] := va_S.rf
  have hl := lv_entry ([.ref h0, .int p0, .int p1, .ref b9]) (n := 10) (Nat.le_of_ble_eq_true rfl)
  rw [lg_entry_eq]
  generalize (lg_sl ([.ref h0, .int p0, .int p1, .ref b9]) ++ List.replicate (10 - (lg_sl ([.ref h0, .int p0, .int p1, .ref b9])).length) Slot.unset).toArray = ls at hl ⊢
  have hl : lv_has ls 10 [(0, .ref h0), (1, .int p0), (2, .int p1), (3, .ref b9)] := hl
  refine lv_aload_n hx hb dX11_fillColumn_0 rfl (lv_at hl 0 rfl) ?_
  obtain ⟨kk_1, hk_2⟩ := pl_at hI.2.1.1.1 hI.2.2.2.1.1
  refine va_get (D := (dC, dI)) (ci := 10) (v := .ref (d 0)) (C := RX11) (T := TX11) (N := 9) hx hb hts (by decide +kernel) hown hK hP kk_1 hk_2 rfl 0 (by decide) (hts (.fieldLink RX11 11 "PageOne" "pages" "[LPageOne$Sheet;") (by decide +kernel)) (fun _ h9 => h9) rfl dX11_fillColumn_1 ?_
  refine lv_iload_n hx hb dX11_fillColumn_4 rfl (lv_at hl 1 rfl) ?_
  obtain ⟨g_3, hs_4, hg_5⟩ := x_pg hI hI.2.1.2.1
  obtain ⟨kk_6, hk_7⟩ := pl_at hI.2.1.2.1.1 hs_4
  refine va_aldq hx hb hK hP kk_6 2 hk_7 rfl (vin hpg (by decide)) dX11_fillColumn_5 ?_
  obtain ⟨b_8, hg_9, ht_10⟩ := hg_5 _ (vlt (vin hpg (by decide)))
  rw [hg_9]
  refine W.eq (g2 := F0 m 6 ls [.ref b_8]) rfl ?_
  refine lv_astore (lv' := [(4, .ref b_8), (0, .ref h0), (1, .int p0), (2, .int p1), (3, .ref b9)]) hx hb dX11_fillColumn_6 hl (by decide) rfl (fun ls hl => ?_)
  refine lv_aload_n hx hb dX11_fillColumn_8 rfl (lv_at hl 4 rfl) ?_
  refine lv_astore (lv' := [(5, .ref b9), (4, .ref b_8), (0, .ref h0), (1, .int p0), (2, .int p1), (3, .ref b9)]) hx hb dX11_fillColumn_9 hl (by decide) rfl (fun ls hl => ?_)
  refine lv_iconst (v := 0) hx hb dX11_fillColumn_11 (by decide) ?_
  refine lv_istore (lv' := [(6, .int 0), (5, .ref b9), (4, .ref b_8), (0, .ref h0), (1, .int p0), (2, .int p1), (3, .ref b9)]) hx hb dX11_fillColumn_12 hl (by decide) rfl (fun ls hl => ?_)
  refine lv_iconst (v := 0) hx hb dX11_fillColumn_14 (by decide) ?_
  refine lv_istore (lv' := [(7, .int 0), (6, .int 0), (5, .ref b9), (4, .ref b_8), (0, .ref h0), (1, .int p0), (2, .int p1), (3, .ref b9)]) hx hb dX11_fillColumn_15 hl (by decide) rfl (fun ls hl => ?_)
  refine x_fc_l (cells := 0) (slots := 0) (z0 := z) (p0 := p0) (p1 := p1) hpg hcl hx hb hml hts hown hN hXN hK (Nat.le_of_ble_eq_true rfl) (Nat.le_of_ble_eq_true rfl) (Nat.le_of_ble_eq_true rfl) (Nat.le_of_ble_eq_true rfl) hA (fun z2 f2 H locs r ls hE2 hr2 hI hP hD hS hl => ?_) 62 0 z f _ _ (some b9) 0 b_8 ls (by decide) (by decide) (Nat.le_refl _) ht_10 (zE_rf z) (ty_s hb9) hI hP hD hS (lv_sub hl [0, 1, 2, 3, 4, 5, 6] rfl)
  rcases r with _ | b8
  all_goals refine W.widen (k := 122) (n := 610) (Nat.le_of_ble_eq_true rfl) (Nat.le_of_ble_eq_true rfl) ?_
  ·
    have hl : lv_has ls 10 [(5, .null)] := hl
    refine lv_aloadN hx hb dX11_fillColumn_120 (lv_at hl 0 rfl) ?_
    exact W.aret (v := .null) hx hb hr (Or.inl ⟨_, rfl⟩) (Or.inl rfl) (fun t ht hW => ⟨⟨none, (k, z2, f2), rfl, ⟨rfl, hE2, hI, ty_n⟩, by rw [ht]; exact hP, hD⟩, hS.F ht⟩) hS.2.2 dX11_fillColumn_122
  ·
    have hl : lv_has ls 10 [(5, .ref b8)] := hl
    have ht8 := hr2 b8 rfl
    refine lv_aload hx hb dX11_fillColumn_120 (lv_at hl 0 rfl) ?_
    exact W.aret (v := .ref b8) hx hb hr (Or.inl ⟨_, rfl⟩) (Or.inr ⟨_, rfl⟩) (fun t ht hW => ⟨⟨(some b8), (k, z2, f2), rfl, ⟨rfl, hE2, hI, (ty_s ht8)⟩, by rw [ht]; exact hP, hD⟩, hS.F ht⟩) hS.2.2 dX11_fillColumn_122
