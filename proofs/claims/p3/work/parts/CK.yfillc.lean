set_option maxHeartbeats 4000000 in
set_option maxRecDepth 100000 in
theorem y_fc_l {p : Program} {l : Launch} {e : Env} {R : Room} {s : State} {m : MethodId} {args : Array Value} {below : List Frame} {meth : Method} {c : Code} {Q : State → Prop} {cells slots : Nat} {dC : Nat → ClassId} {dI : Nat → Nat → Nat} {q : Nat → ClassId} {h0 : Nat} {d : Nat → Nat} {k : Nat → Int32} {z0 : gS} {f0 : xF} {u0 : mS} {xs0 : List fX} {P c9 L9 : Nat} (hP9 : P < 12) (hc8 : c9 < 8) (eL : u0.2 0 (8 * P + c9) = nI L9) (hL60 : L9 ≤ 60) {A : Nat → Prop} {H0 : Heap} (hx : p.tables.exec = Jvm.exec) (hb : c.code = cX11_fillColumn) (hml : c.maxLocals = 10) (hts : ∀ w ∈ wsX11_fillColumn, w.before args s = true) (hown : s.vm.findClass RX11 = some m.cls) (hN : NN s) (hXN : XN s) (hK : va_K (dC, dI) vwCl (xT q) s) (hRf : 5 ≤ R.frames) (hRl : 109 ≤ R.locals) (hRc : cells + 122 ≤ R.cells) (hRs : slots + 610 ≤ R.slots) (hA : ∀ q : Nat, H0.size ≤ q → A q) (kx120 : ∀ (z : gS) (f : xF) (H : Heap) (locs : List Loc) (r : Option Nat) (u : mS) (xs : List fX) (r9 : Nat) (ls : Array Slot), fcN u0 xs0 P c9 (L9 + 1) = (u, xs, r9) → rep q d u z f → neI u → u.2 0 = u0.2 0 → k 0 = u.1 3 → k 1 = u.1 28 → k 2 = u.1 38 → k 3 = u.1 39 → acF z d r xs → f (d 3) = f0 (d 3) → zE z0 z → xI q h0 d k z f → va_P (dC, dI) vwCl (va_pl z.1 f) H → va_D A (va_pl z.1 f) → va_S A H0 H locs → lv_has ls 10 [(5, va_rf r)] → W p l e R s m args below meth c H locs (cells + 122) (slots + 610) Q (F0 m 120 ls [])) : ∀ (n i : Nat) (z : gS) (f : xF) (H : Heap) (locs : List Loc) (r : Option Nat) (r9 : Nat) (u : mS) (xs : List fX) (ls : Array Slot), i ≤ L9 + 1 → 61 - i < n → r9 ≤ i → fcN u0 xs0 P c9 i = (u, xs, r9) → (∀ b, b < r9 → mCellAt u (nI P) (nI c9) (nI (i - r9 + b)) = (-2)) → rep q d u z f → neI u → u.2 0 = u0.2 0 → k 0 = u.1 3 → k 1 = u.1 28 → k 2 = u.1 38 → k 3 = u.1 39 → acF z d r xs → f (d 3) = f0 (d 3) → zE z0 z → xI q h0 d k z f → va_P (dC, dI) vwCl (va_pl z.1 f) H → va_D A (va_pl z.1 f) → va_S A H0 H locs → lv_has ls 10 [(7, .int (nI i)), (6, .int (nI r9)), (5, va_rf r), (4, .ref (d (10 + P))), (0, .ref h0), (1, .int (nI P)), (2, .int (nI c9))] → W p l e R s m args below meth c H locs (cells + 2 * i) (slots + 10 * i) Q (F0 m 17 ls []) := by
  intro n
  induction n with
  | zero => intro i z f H locs r r9 u xs ls h1 h2; exact absurd h2 (Nat.not_lt_zero _)
  | succ n ih =>
    intro i z f H locs r r9 u xs ls hi1 hn hr9 hfN hrun hrp hne hu0 hk0 hk1 hk2 hk3 hacF h3m hEz hI hP hD hS hl
    have hk1o := hk1
    have hi : i ≤ 61 := by omega
    have h80n := w80i hI.1.1 hk0
    rcases r with _ | b9
    ·
      have hl : lv_has ls 10 [(7, .int (nI i)), (6, .int (nI r9)), (5, .null), (4, .ref (d (10 + P))), (0, .ref h0), (1, .int (nI P)), (2, .int (nI c9))] := hl
      rcases xs with _ | ⟨x9, xs9⟩
      ·
        obtain ⟨dd_1, ii_2, gl_3, gc_4, ht_5, ht_6, ht_7, hs_8, hg_9, hgb_10, hc_11, el_12, ec_13⟩ := pg_all hI hrp.1 hP9
        have hbl : ∀ a, a < 8 → bw (u.2 0 (8 * P + a)) 0 60 = true := fun a ha => by rw [← el_12 a ha]; exact hgb_10 a ha
        refine lv_iload hx hb dX11_fillColumn_17 (lv_at hl 0 rfl) ?_
        refine lv_aload hx hb dX11_fillColumn_19 (lv_at hl 3 rfl) ?_
        obtain ⟨kk_14, hk_15⟩ := pl_at ht_5.1 hs_8
        refine va_get (D := (dC, dI)) (ci := 8) (v := .ref (d (30 + P))) (C := RX9) (T := TX9) (N := 5) hx hb hts (by decide +kernel) hown hK hP kk_14 hk_15 rfl 0 (by decide) (hts (.fieldLink RX11 59 "PageOne$Sheet" "lines" "[I") (by decide +kernel)) (fun _ h9 => h9) rfl dX11_fillColumn_21 ?_
        refine lv_iload_n hx hb dX11_fillColumn_24 rfl (lv_at hl 6 rfl) ?_
        obtain ⟨kk_16, hk_17⟩ := pl_at ht_6.1 hg_9
        refine va_iald hx hb hK hP kk_16 0 hk_17 rfl (vp_in_nI hc8 (by decide)) dX11_fillColumn_25 ?_
        refine lv_topi (fun y_18 ey_18 => ?_)
        obtain rfl : y_18 = (nI L9) := ey_18.trans ((by rw [nI_clamp (by omega), el_12 c9 hc8, hu0, eL]))
        refine lv_icmp_gt (tgt := 120) hx hb dX11_fillColumn_26 (by decide) (fun c_19 => ?_) (fun c_19 => ?_)
        ·
          have hie : i = L9 + 1 := by have h9 := c_19; rw [i32_lt, nI_toInt (by omega), nI_toInt (by omega)] at h9; omega
          refine W.widen (k := cells + 122) (n := slots + 610) (by omega) (by omega) ?_
          exact kx120 _ _ _ _ none u [] r9 ls (by rw [← hie]; exact hfN) hrp hne hu0 hk0 hk1o hk2 hk3 hacF h3m hEz hI hP hD hS (lv_sub hl [2] rfl)
        ·
          have hiL : i ≤ L9 := by have h9 := c_19; rw [i32_lt, nI_toInt (by omega), nI_toInt (by omega)] at h9; omega
          refine lv_aload hx hb dX11_fillColumn_29 (lv_at hl 3 rfl) ?_
          refine lv_iload_n hx hb dX11_fillColumn_31 rfl (lv_at hl 6 rfl) ?_
          refine lv_iload hx hb dX11_fillColumn_32 (lv_at hl 0 rfl) ?_
          obtain ⟨kk_20, hk_21⟩ := pl_at ht_5.1 hs_8
          refine vp_callSi (va_runV (As := [.int (nI c9), .int (nI i)]) (rest := []) ⟨hx, hb, hml, hown, hts⟩ (y_at l dC dI q h0 d k z f hI (d (10 + P)) (d (30 + P)) (d (50 + P)) (u.2 1 P) dd_1 ii_2 gl_3 gc_4 ht_5 hs_8 ht_6 ht_7 hg_9 hgb_10 hc_11 (nI c9) (nI i)) (cwV 2 hts gX11_fillColumn_X9_at rfl rfl rfl (by decide +kernel) ⟨Nat.le_trans (Nat.le_of_ble_eq_true rfl) hRf, Nat.le_trans (Nat.le_of_ble_eq_true rfl) hRl⟩) ⟨px_fb, va_recv hK hP (ci := 8) (q0 := kk_20) rfl hk_21, fun U hU hW => ⟨rfl, px_to hU hW hP hK hN hXN⟩⟩ rfl rfl hl.1 rfl (lv_room (Nat.le_of_ble_eq_true rfl)) dX11_fillColumn_34 ⟨by omega, by omega⟩).run (fun r hw => ?_)
          generalize r = zr_22 at hw ⊢
          have hzr_22 := hw
          refine lv_bipush (v := (-2)) hx hb dX11_fillColumn_37 (by decide) ?_
          refine lv_icmp_ne (tgt := 48) hx hb dX11_fillColumn_39 (by decide) (fun c_23 => ?_) (fun c_23 => ?_)
          ·
            refine lv_iload hx hb dX11_fillColumn_48 (lv_at hl 1 rfl) ?_
            refine lv_if_le (tgt := 62) hx hb dX11_fillColumn_50 (by decide) (fun c_24 => ?_) (fun c_24 => ?_)
            ·
              refine lv_null hx hb dX11_fillColumn_62 ?_
              refine lv_astoreN (lv' := [(8, .null), (7, .int (nI i)), (6, .int (nI r9)), (5, .null), (4, .ref (d (10 + P))), (0, .ref h0), (1, .int (nI P)), (2, .int (nI c9))]) hx hb dX11_fillColumn_63 hl (by decide) rfl (fun ls hl => ?_)
              refine lv_aloadN hx hb dX11_fillColumn_65 (lv_at hl 0 rfl) ?_
              refine lv_ifnullN (tgt := 111) hx hb dX11_fillColumn_67 (by decide) ?_
              refine lv_iconst (v := 0) hx hb dX11_fillColumn_111 (by decide) ?_
              refine lv_istore (lv' := [(6, .int 0), (8, .null), (7, .int (nI i)), (5, .null), (4, .ref (d (10 + P))), (0, .ref h0), (1, .int (nI P)), (2, .int (nI c9))]) hx hb dX11_fillColumn_112 hl (by decide) rfl (fun ls hl => ?_)
              refine lv_iinc (v := (nI (i + 1))) (lv' := [(7, .int (nI (i + 1))), (6, .int 0), (8, .null), (5, .null), (4, .ref (d (10 + P))), (0, .ref h0), (1, .int (nI P)), (2, .int (nI c9))]) hx hb dX11_fillColumn_114 hl (k := 2) rfl (nI_1 i) (by decide) rfl (fun ls hl => ?_)
              refine lv_goto (tgt := 17) hx hb dX11_fillColumn_117 (by decide) ?_
              refine W.widen (k := cells + 2 * (i + 1)) (n := slots + 10 * (i + 1)) (by omega) (by omega) ?_
              exact ih (i + 1) _ _ _ _ none 0 u [] ls (by omega) (by omega) (Nat.zero_le _) (fc_0 hfN (fun e9 => c_23 (hzr_22.trans ((shAt_eq hP9 el_12 ec_13 hgb_10 _ _).trans e9))) (Or.inl (by have h9 := c_24; rw [i32_le, nI_toInt (by omega), i0] at h9; omega)) h80n) (fun b hb => absurd hb (Nat.not_lt_zero _)) hrp hne hu0 hk0 hk1o hk2 hk3 hacF h3m hEz hI hP hD hS (lv_sub hl [0, 1, 3, 4, 5, 6, 7] rfl)
            ·
              have hr0 : 0 < r9 := by have h9 := c_24; rw [i32_le, nI_toInt (by omega), i0] at h9; omega
              refine lv_aload_n hx hb dX11_fillColumn_53 rfl (lv_at hl 4 rfl) ?_
              refine lv_iload hx hb dX11_fillColumn_54 (lv_at hl 1 rfl) ?_
              obtain ⟨kk_25, hk_26⟩ := pl_at hI.2.1.1.1 hI.2.2.2.1.1
              refine va_csq (va_runV (As := [.int (nI r9)]) (rest := []) ⟨hx, hb, hml, hown, hts⟩ (y_fillerFor l dC dI q h0 d k z f hI (nI r9) u hrp hk0 hk1 hk2 hk3) (cwV 1 hts gX11_fillColumn_X11_fillerFor rfl rfl rfl (by decide +kernel) ⟨Nat.le_trans (Nat.le_of_ble_eq_true rfl) hRf, Nat.le_trans (Nat.le_of_ble_eq_true rfl) hRl⟩) ⟨px_fb, va_recv hK hP (ci := 10) (q0 := kk_25) rfl hk_26, fun U hU hW => ⟨rfl, px_to hU hW hP hK hN hXN⟩⟩ rfl rfl hl.1 rfl (lv_room (Nat.le_of_ble_eq_true rfl)) dX11_fillColumn_56 ⟨by omega, by omega⟩).run (fun r hw => ?_)
              rcases hw with ⟨hr9x, hno⟩ | ⟨j9, hj9, hr9x, hfc, hno⟩
              ·
                subst hr9x
                refine W.eq (g2 := F0 m 59 ls [.null]) rfl ?_
                refine lv_goto (tgt := 63) hx hb dX11_fillColumn_59 (by decide) ?_
                refine lv_astoreN (lv' := [(8, .null), (7, .int (nI i)), (6, .int (nI r9)), (5, .null), (4, .ref (d (10 + P))), (0, .ref h0), (1, .int (nI P)), (2, .int (nI c9))]) hx hb dX11_fillColumn_63 hl (by decide) rfl (fun ls hl => ?_)
                refine lv_aloadN hx hb dX11_fillColumn_65 (lv_at hl 0 rfl) ?_
                refine lv_ifnullN (tgt := 111) hx hb dX11_fillColumn_67 (by decide) ?_
                refine lv_iconst (v := 0) hx hb dX11_fillColumn_111 (by decide) ?_
                refine lv_istore (lv' := [(6, .int 0), (8, .null), (7, .int (nI i)), (5, .null), (4, .ref (d (10 + P))), (0, .ref h0), (1, .int (nI P)), (2, .int (nI c9))]) hx hb dX11_fillColumn_112 hl (by decide) rfl (fun ls hl => ?_)
                refine lv_iinc (v := (nI (i + 1))) (lv' := [(7, .int (nI (i + 1))), (6, .int 0), (8, .null), (5, .null), (4, .ref (d (10 + P))), (0, .ref h0), (1, .int (nI P)), (2, .int (nI c9))]) hx hb dX11_fillColumn_114 hl (k := 2) rfl (nI_1 i) (by decide) rfl (fun ls hl => ?_)
                refine lv_goto (tgt := 17) hx hb dX11_fillColumn_117 (by decide) ?_
                refine W.widen (k := cells + 2 * (i + 1)) (n := slots + 10 * (i + 1)) (by omega) (by omega) ?_
                exact ih (i + 1) _ _ _ _ none 0 u [] ls (by omega) (by omega) (Nat.zero_le _) (fc_0 hfN (fun e9 => c_23 (hzr_22.trans ((shAt_eq hP9 el_12 ec_13 hgb_10 _ _).trans e9))) (Or.inr hno) h80n) (fun b hb => absurd hb (Nat.not_lt_zero _)) hrp hne hu0 hk0 hk1o hk2 hk3 hacF h3m hEz hI hP hD hS (lv_sub hl [0, 1, 3, 4, 5, 6, 7] rfl)
              ·
                subst hr9x
                have hitj := rI_itm hrp.2.2.1 hj9
                refine W.eq (g2 := F0 m 59 ls [.ref (d (2000 + j9))]) rfl ?_
                refine lv_goto (tgt := 63) hx hb dX11_fillColumn_59 (by decide) ?_
                refine lv_astore (lv' := [(8, .ref (d (2000 + j9))), (7, .int (nI i)), (6, .int (nI r9)), (5, .null), (4, .ref (d (10 + P))), (0, .ref h0), (1, .int (nI P)), (2, .int (nI c9))]) hx hb dX11_fillColumn_63 hl (by decide) rfl (fun ls hl => ?_)
                refine lv_aload hx hb dX11_fillColumn_65 (lv_at hl 0 rfl) ?_
                refine lv_ifnull hx hb dX11_fillColumn_67 ?_
                refine va_new (ci := 7) (fs := [.null, .int 0, .int 0, .int 0, .int 0, .int 0]) (C := RX8) (T := TX8) (N := 6) hx hb hts (by decide +kernel) tyX8 tyX8_ok hown (hts (.classLink RX11 106 RX8) (by decide +kernel)) (hts (.instantiable RX8 6) (by decide +kernel)) (hts (.initialized RX8) (by decide +kernel)) hK hP hD hS hA rfl nwX8 (by omega) (by omega) dX11_fillColumn_70 (fun q_27 H hPn hDn hS => ?_)
                have hP := vaP_l hPn
                refine W.widen (k := cells + 2 * i + 1) (n := slots + 10 * i + 6) (by omega) (by omega) ?_
                refine lv_dup hx hb dX11_fillColumn_73 rfl ?_
                refine lv_aload hx hb dX11_fillColumn_74 (lv_at hl 0 rfl) ?_
                refine lv_iload_n hx hb dX11_fillColumn_76 rfl (lv_at hl 6 rfl) ?_
                refine lv_iload_n hx hb dX11_fillColumn_77 rfl (lv_at hl 7 rfl) ?_
                refine lv_iload hx hb dX11_fillColumn_78 (lv_at hl 1 rfl) ?_
                refine lv_iload hx hb dX11_fillColumn_80 (lv_at hl 2 rfl) ?_
                refine lv_isub hx hb dX11_fillColumn_82 ?_
                refine lv_topi (fun y_28 ey_28 => ?_)
                obtain rfl : y_28 = (nI (i - r9)) := ey_28.trans (nI_sb hr9 (by omega))
                refine lv_iconst (v := 1) hx hb dX11_fillColumn_83 (by decide) ?_
                refine lv_iload hx hb dX11_fillColumn_84 (lv_at hl 2 rfl) ?_
                have hPc := vaP_r hPn
                have hDc := vaD_r hDn
                have hFc := fr_part hDn hS hA
                refine va_callv (va_runI (As := [.ref (d (2000 + j9)), .int (nI P), .int (nI c9), .int (nI (i - r9)), .int 1, .int (nI r9)]) (rest := [.ref q_27]) ⟨hx, hb, hml, hown, hts⟩ (x_PieceI l dC dI q_27 (d (2000 + j9)) (nI P) (nI c9) (nI (i - r9)) 1 (nI r9) H.size) (cwI 6 hts gX11_fillColumn_X8_init rfl rfl rfl (hts (.initialized RX8) (by decide +kernel)) (hts (.methodLink RX11 108 yX8_init) (by decide +kernel)) (hts (.instanceMethod yX8_init) (by decide +kernel)) rfl (by decide +kernel) ⟨Nat.le_trans (Nat.le_of_ble_eq_true rfl) hRf, Nat.le_trans (Nat.le_of_ble_eq_true rfl) hRl⟩) ⟨gw_fb, fun U hU hW => ⟨rfl, by rw [hU], pw_to hU hW hPc (hK.sub (tys' := []) [] rfl) hN, hDc.weaken (fun _ _ _ _ => trivial)⟩⟩ rfl rfl hl.1 rfl (lv_room (Nat.le_of_ble_eq_true rfl)) dX11_fillColumn_86 ⟨by omega, by omega⟩) hS (fun q _ h => hFc q h) hFc (fun u9 t H1 locs ht hvm hw hB hz1 hk1 hS => ?_)
                obtain ⟨hP1, hD1⟩ := hB
                rw [ht] at hP1
                obtain ⟨hP, hD⟩ := va_joinQ (X := [(q_27, .inr (7, [.null, .int 0, .int 0, .int 0, .int 0, .int 0]))]) (cx := [(q_27, .inr (7, [.null, .int 0, .int 0, .int 0, .int 0, .int 0]))]) (wr := []) (w1 := [(q_27, .inr (7, [va_rf (some (d (2000 + j9))), .int (nI P), .int (nI c9), .int (nI (i - r9)), .int 1, .int (nI r9)]))]) (pl := va_pl z.1 f) (vaP_swap hPn) (vaD_rotR hDn) [0] [] rfl rfl rfl (fun i hi => absurd hi List.not_mem_nil) hk1 hFc hP1 hD1
                generalize H1 = H at hP hS ⊢
                obtain ⟨hnm_29, hP, hD⟩ := pushC hP hD
                obtain ⟨z_30, ez_30⟩ : ∃ y : gS, y = pz z q_27 (22, 0, [va_rf (some (d (2000 + j9))), .int (nI P), .int (nI c9), .int (nI (i - r9)), .int 1, .int (nI r9)]) := ⟨_, rfl⟩
                obtain ⟨f_31, ef_31⟩ : ∃ y : xF, y = va_up f q_27 (.inr (7, [va_rf (some (d (2000 + j9))), .int (nI P), .int (nI c9), .int (nI (i - r9)), .int 1, .int (nI r9)])) := ⟨_, rfl⟩
                have hE_32 : zE z z_30 := by rw [ez_30]; exact pz_E hnm_29 _
                have hI : xI q h0 d k z_30 f_31 := by rw [ez_30, ef_31]; exact x_push hI hnm_29 (Or.inr (by decide : (15 : Nat) < 22)) (cO_pc (bw11 hP9) (ty_s hitj) hnm_29)
                rw [show z.1 ++ [q_27] = z_30.1 from by rw [ez_30]; rfl, ← ef_31] at hP hD
                have ht_5 := zE_tg hE_32 ht_5
                have ht_6 := zE_tg hE_32 ht_6
                have ht_7 := zE_tg hE_32 ht_7
                have hitj := zE_itm hE_32 hitj
                have ht_33 : tg z_30 q_27 22 := by rw [ez_30]; exact pz_t _ _ _
                have hEz : zE z0 z_30 := zE_tr hEz hE_32
                have h3m : f_31 (d 3) = f0 (d 3) := by rw [ef_31]; exact (up_o (fun e9 => hnm_29 (by rw [← e9]; exact hrp.2.2.2.2.2.2.2.1.1.1))).trans h3m
                have hrp_34 : rep q d u z_30 f_31 := by rw [ez_30, ef_31]; exact rep_grow hrp (pz_E hnm_29 _) (oK_push (fun _ _ => rfl) (zE_rf _) hnm_29)
                have hacF := acF_E hE_32 hacF
                refine W.eq (g2 := F0 m 89 ls [.ref q_27]) rfl ?_
                have hp_35 : pcS z_30 q_27 (some (d (2000 + j9))) (nI P) (nI c9) (nI (i - r9)) 1 (nI r9) := ⟨ht_33, by rw [ez_30, pz_s]⟩
                have hb_37 : bw (nI c9) 0 7 = true := bw7 hc8
                have hb_38 : bw (nI (i - r9)) 0 60 = true := b60n (by omega)
                have hb_39 : bw 1 0 8 = true := by decide
                have hb_40 : bw (nI r9) 0 60 = true := b60n (by omega)
                have hlg_36 := lg_of hp_35 ⟨hb_37, hb_38, hb_39, hb_40⟩
                refine lv_astore (lv' := [(9, .ref q_27), (8, .ref (d (2000 + j9))), (7, .int (nI i)), (6, .int (nI r9)), (5, .null), (4, .ref (d (10 + P))), (0, .ref h0), (1, .int (nI P)), (2, .int (nI c9))]) hx hb dX11_fillColumn_89 hl (by decide) rfl (fun ls hl => ?_)
                refine lv_aload_n hx hb dX11_fillColumn_91 rfl (lv_at hl 6 rfl) ?_
                refine lv_aload hx hb dX11_fillColumn_92 (lv_at hl 0 rfl) ?_
                have hrx := fc_in hP9 hc8 hbl hr0 hr9 hi hrun
                obtain ⟨-, hX, hD1, hY, hN1, hin⟩ := hrx
                have hpcx : pcS z_30 q_27 (some (d (2000 + j9))) (nI P) (nI c9) (nI (i - r9)) (nI 1) (nI r9) := hp_35
                obtain ⟨kk_41, hk_42⟩ := pl_at hI.2.1.1.1 hI.2.2.2.1.1
                have hFc := fr_all hD hS hA
                refine va_callv (va_runV (As := [.ref q_27]) (rest := []) ⟨hx, hb, hml, hown, hts⟩ (y_standI l dC dI q h0 d k z_30 f_31 hI q_27 P c9 (i - r9) 1 r9 u hrp_34 hk0 hk1o hk2 hk3 hP9 hX hD1 hY hin hne j9 hj9 hpcx (by rw [hfc.1, hfc.2.1]; decide) H.size) (cwV 1 hts gX11_fillColumn_X11_stand rfl rfl rfl (by decide +kernel) ⟨Nat.le_trans (Nat.le_of_ble_eq_true rfl) hRf, Nat.le_trans (Nat.le_of_ble_eq_true rfl) hRl⟩) ⟨gx_fb, va_recv hK hP (ci := 10) (q0 := kk_41) rfl hk_42, fun U hU hW => ⟨rfl, by rw [hU], px_to hU hW hP hK hN hXN, hD.weaken (fun _ _ _ _ => trivial)⟩⟩ rfl rfl hl.1 rfl (lv_room (Nat.le_of_ble_eq_true rfl)) dX11_fillColumn_94 ⟨by omega, by omega⟩) hS (fun q _ h => hFc q h) hFc (fun w_43 t H1 locs ht hvm hw hB hz1 hk1 hS => ?_)
                obtain ⟨hP, hD1⟩ := hB
                rw [ht] at hP
                rw [hw.2.1] at hP hD1
                have hD := hD1.weaken (fun _ q _ h => hFc q.1 h)
                have hI := hw.2.2.1
                have hw0 := hw
                generalize w_43.2.2 = f_44 at hP hD hI hw0
                generalize H1 = H at hP hS ⊢
                obtain ⟨u2, eu2⟩ : ∃ y : mS, y = mStand u (nI j9) P c9 (i - r9) 1 r9 := ⟨_, rfl⟩
                have hrp2 : rep q d u2 z_30 f_44 := by rw [eu2]; exact hw0.2.2.2.1
                have h3m : f_44 (d 3) = f0 (d 3) := hw0.2.2.2.2.trans h3m
                refine va_new (ci := 0) (fs := [.null, .int 0, .null, .int 0]) (C := RX0) (T := TX0) (N := 4) hx hb hts (by decide +kernel) tyX0 tyX0_ok hown (hts (.classLink RX11 28 RX0) (by decide +kernel)) (hts (.instantiable RX0 4) (by decide +kernel)) (hts (.initialized RX0) (by decide +kernel)) hK hP hD hS hA rfl nwX0 (by omega) (by omega) dX11_fillColumn_97 (fun q_45 H hPn hDn hS => ?_)
                have hP := vaP_l hPn
                refine W.widen (k := cells + 2 * i + 2) (n := slots + 10 * i + 10) (by omega) (by omega) ?_
                refine lv_dup hx hb dX11_fillColumn_100 rfl ?_
                refine lv_aload hx hb dX11_fillColumn_101 (lv_at hl 0 rfl) ?_
                refine lv_iconst (v := 0) hx hb dX11_fillColumn_103 (by decide) ?_
                refine lv_aloadN hx hb dX11_fillColumn_104 (lv_at hl 4 rfl) ?_
                have hPc := vaP_r hPn
                have hDc := vaD_r hDn
                have hFc := fr_part hDn hS hA
                refine va_callv (va_runI (As := [.ref q_27, .int 0, .null]) (rest := [.ref q_45]) ⟨hx, hb, hml, hown, hts⟩ (x_ActP l dC dI q_45 q_27 H.size) (cwI 3 hts gX11_fillColumn_X0_init rfl rfl rfl (hts (.initialized RX0) (by decide +kernel)) (hts (.methodLink RX11 163 yX0_init) (by decide +kernel)) (hts (.instanceMethod yX0_init) (by decide +kernel)) rfl (by decide +kernel) ⟨Nat.le_trans (Nat.le_of_ble_eq_true rfl) hRf, Nat.le_trans (Nat.le_of_ble_eq_true rfl) hRl⟩) ⟨gw_fb, fun U hU hW => ⟨rfl, by rw [hU], pw_to hU hW hPc (hK.sub (tys' := []) [] rfl) hN, hDc.weaken (fun _ _ _ _ => trivial)⟩⟩ rfl rfl hl.1 rfl (lv_room (Nat.le_of_ble_eq_true rfl)) dX11_fillColumn_106 ⟨by omega, by omega⟩) hS (fun q _ h => hFc q h) hFc (fun u9 t H1 locs ht hvm hw hB hz1 hk1 hS => ?_)
                obtain ⟨hP1, hD1⟩ := hB
                rw [ht] at hP1
                obtain ⟨hP, hD⟩ := va_joinQ (X := [(q_45, .inr (0, [.null, .int 0, .null, .int 0]))]) (cx := [(q_45, .inr (0, [.null, .int 0, .null, .int 0]))]) (wr := []) (w1 := [(q_45, .inr (0, [.ref q_27, .int 0, va_rf none, .int 1]))]) (pl := va_pl z_30.1 f_44) (vaP_swap hPn) (vaD_rotR hDn) [0] [] rfl rfl rfl (fun i hi => absurd hi List.not_mem_nil) hk1 hFc hP1 hD1
                generalize H1 = H at hP hS ⊢
                obtain ⟨hnm_46, hP, hD⟩ := pushC hP hD
                obtain ⟨z_47, ez_47⟩ : ∃ y : gS, y = pz z_30 q_45 (23, 0, [.ref q_27, .int 0, va_rf none, .int 1]) := ⟨_, rfl⟩
                obtain ⟨f_48, ef_48⟩ : ∃ y : xF, y = va_up f_44 q_45 (.inr (0, [.ref q_27, .int 0, va_rf none, .int 1])) := ⟨_, rfl⟩
                have hE_49 : zE z_30 z_47 := by rw [ez_47]; exact pz_E hnm_46 _
                have hI : xI q h0 d k z_47 f_48 := by rw [ez_47, ef_48]; exact x_push hI hnm_46 (Or.inr (by decide : (15 : Nat) < 23)) (cO_ac hlg_36 hnm_46)
                rw [show z_30.1 ++ [q_45] = z_47.1 from by rw [ez_47]; rfl, ← ef_48] at hP hD
                have ht_5 := zE_tg hE_49 ht_5
                have ht_6 := zE_tg hE_49 ht_6
                have ht_7 := zE_tg hE_49 ht_7
                have hitj := zE_itm hE_49 hitj
                have hlg_36 := zE_lg hE_49 hlg_36
                have hp_35 := zE_pc hE_49 hp_35
                have hpcx := zE_pc hE_49 hpcx
                have ht_50 : tg z_47 q_45 23 := by rw [ez_47]; exact pz_t _ _ _
                have hEz : zE z0 z_47 := zE_tr hEz hE_49
                have h3m : f_48 (d 3) = f0 (d 3) := by rw [ef_48]; exact (up_o (fun e9 => hnm_46 (by rw [← e9]; exact hrp2.2.2.2.2.2.2.2.1.1.1))).trans h3m
                have hrp_51 : rep q d u2 z_47 f_48 := by rw [ez_47, ef_48]; exact rep_grow hrp2 (pz_E hnm_46 _) (oK_push (fun _ _ => rfl) (zE_rf _) hnm_46)
                have hacF := acF_E hE_49 hacF
                refine W.eq (g2 := F0 m 109 ls [.ref q_45]) rfl ?_
                refine lv_astore (lv' := [(5, .ref q_45), (9, .ref q_27), (8, .ref (d (2000 + j9))), (7, .int (nI i)), (6, .int (nI r9)), (4, .ref (d (10 + P))), (0, .ref h0), (1, .int (nI P)), (2, .int (nI c9))]) hx hb dX11_fillColumn_109 hl (by decide) rfl (fun ls hl => ?_)
                refine lv_iconst (v := 0) hx hb dX11_fillColumn_111 (by decide) ?_
                refine lv_istore (lv' := [(6, .int 0), (5, .ref q_45), (9, .ref q_27), (8, .ref (d (2000 + j9))), (7, .int (nI i)), (4, .ref (d (10 + P))), (0, .ref h0), (1, .int (nI P)), (2, .int (nI c9))]) hx hb dX11_fillColumn_112 hl (by decide) rfl (fun ls hl => ?_)
                refine lv_iinc (v := (nI (i + 1))) (lv' := [(7, .int (nI (i + 1))), (6, .int 0), (5, .ref q_45), (9, .ref q_27), (8, .ref (d (2000 + j9))), (4, .ref (d (10 + P))), (0, .ref h0), (1, .int (nI P)), (2, .int (nI c9))]) hx hb dX11_fillColumn_114 hl (k := 4) rfl (nI_1 i) (by decide) rfl (fun ls hl => ?_)
                refine lv_goto (tgt := 17) hx hb dX11_fillColumn_117 (by decide) ?_
                refine W.widen (k := cells + 2 * (i + 1)) (n := slots + 10 * (i + 1)) (by omega) (by omega) ?_
                exact ih (i + 1) _ _ _ _ (some q_45) 0 u2 ((j9, P, c9, i - r9, r9) :: []) ls (by omega) (by omega) (Nat.zero_le _) (by rw [eu2]; exact fc_1 hfN (fun e9 => c_23 (hzr_22.trans ((shAt_eq hP9 el_12 ec_13 hgb_10 _ _).trans e9))) hr0 hj9 hfc hno h80n) (fun b hb => absurd hb (Nat.not_lt_zero _)) hrp_51 (by rw [eu2]; exact neI_set hne (nIm1 (by omega)) (mStand_2 _ _ _ _ _ _ _)) (by rw [eu2, mStand_k _ _ _ _ _ _ _ (nR rfl)]; exact hu0) (by rw [eu2]; exact hk0) (by rw [eu2]; exact hk1o) (by rw [eu2]; exact hk2) (by rw [eu2]; exact hk3) ⟨q_45, q_27, _, rfl, ⟨ht_50, by rw [ez_47, pz_s]; rfl⟩, hpcx, hacF⟩ h3m hEz hI hP hD hS (lv_sub hl [0, 1, 2, 5, 6, 7, 8] rfl)
          ·
            refine lv_iinc (v := (nI (r9 + 1))) (lv' := [(6, .int (nI (r9 + 1))), (7, .int (nI i)), (5, .null), (4, .ref (d (10 + P))), (0, .ref h0), (1, .int (nI P)), (2, .int (nI c9))]) hx hb dX11_fillColumn_42 hl (k := 1) rfl (nI_1 r9) (by decide) rfl (fun ls hl => ?_)
            refine lv_goto (tgt := 114) hx hb dX11_fillColumn_45 (by decide) ?_
            refine lv_iinc (v := (nI (i + 1))) (lv' := [(7, .int (nI (i + 1))), (6, .int (nI (r9 + 1))), (5, .null), (4, .ref (d (10 + P))), (0, .ref h0), (1, .int (nI P)), (2, .int (nI c9))]) hx hb dX11_fillColumn_114 hl (k := 1) rfl (nI_1 i) (by decide) rfl (fun ls hl => ?_)
            refine lv_goto (tgt := 17) hx hb dX11_fillColumn_117 (by decide) ?_
            refine W.widen (k := cells + 2 * (i + 1)) (n := slots + 10 * (i + 1)) (by omega) (by omega) ?_
            exact ih (i + 1) _ _ _ _ none (r9 + 1) u [] ls (by omega) (by omega) (by omega) (fc_e hfN ((shAt_eq hP9 el_12 ec_13 hgb_10 _ _).symm.trans (hzr_22.symm.trans c_23))) (fun b hb => by by_cases e9 : b = r9; rw [e9, show i + 1 - (r9 + 1) + r9 = i by omega]; exact ((shAt_eq hP9 el_12 ec_13 hgb_10 _ _).symm.trans (hzr_22.symm.trans c_23)); rw [show i + 1 - (r9 + 1) + b = i - r9 + b by omega]; exact hrun b (by omega)) hrp hne hu0 hk0 hk1o hk2 hk3 hacF h3m hEz hI hP hD hS (lv_sub hl [0, 1, 2, 3, 4, 5, 6] rfl)
      · obtain ⟨b8, pp9, ah9, eb8, -⟩ := hacF
        cases eb8
    ·
      have hl : lv_has ls 10 [(7, .int (nI i)), (6, .int (nI r9)), (5, .ref b9), (4, .ref (d (10 + P))), (0, .ref h0), (1, .int (nI P)), (2, .int (nI c9))] := hl
      rcases xs with _ | ⟨x9, xs9⟩
      · exact absurd hacF (fun h => by cases h)
      ·
        have hacS := hacF
        obtain ⟨b8, pp9, ah9, eb8, hac9, hpc9, hac8⟩ := hacS
        obtain rfl := Option.some.inj eb8
        have hb9 := hac9.1
        obtain ⟨dd_52, ii_53, gl_54, gc_55, ht_56, ht_57, ht_58, hs_59, hg_60, hgb_61, hc_62, el_63, ec_64⟩ := pg_all hI hrp.1 hP9
        have hbl : ∀ a, a < 8 → bw (u.2 0 (8 * P + a)) 0 60 = true := fun a ha => by rw [← el_63 a ha]; exact hgb_61 a ha
        refine lv_iload hx hb dX11_fillColumn_17 (lv_at hl 0 rfl) ?_
        refine lv_aload hx hb dX11_fillColumn_19 (lv_at hl 3 rfl) ?_
        obtain ⟨kk_65, hk_66⟩ := pl_at ht_56.1 hs_59
        refine va_get (D := (dC, dI)) (ci := 8) (v := .ref (d (30 + P))) (C := RX9) (T := TX9) (N := 5) hx hb hts (by decide +kernel) hown hK hP kk_65 hk_66 rfl 0 (by decide) (hts (.fieldLink RX11 59 "PageOne$Sheet" "lines" "[I") (by decide +kernel)) (fun _ h9 => h9) rfl dX11_fillColumn_21 ?_
        refine lv_iload_n hx hb dX11_fillColumn_24 rfl (lv_at hl 6 rfl) ?_
        obtain ⟨kk_67, hk_68⟩ := pl_at ht_57.1 hg_60
        refine va_iald hx hb hK hP kk_67 0 hk_68 rfl (vp_in_nI hc8 (by decide)) dX11_fillColumn_25 ?_
        refine lv_topi (fun y_69 ey_69 => ?_)
        obtain rfl : y_69 = (nI L9) := ey_69.trans ((by rw [nI_clamp (by omega), el_63 c9 hc8, hu0, eL]))
        refine lv_icmp_gt (tgt := 120) hx hb dX11_fillColumn_26 (by decide) (fun c_70 => ?_) (fun c_70 => ?_)
        ·
          have hie : i = L9 + 1 := by have h9 := c_70; rw [i32_lt, nI_toInt (by omega), nI_toInt (by omega)] at h9; omega
          refine W.widen (k := cells + 122) (n := slots + 610) (by omega) (by omega) ?_
          exact kx120 _ _ _ _ (some b9) u (x9 :: xs9) r9 ls (by rw [← hie]; exact hfN) hrp hne hu0 hk0 hk1o hk2 hk3 hacF h3m hEz hI hP hD hS (lv_sub hl [2] rfl)
        ·
          have hiL : i ≤ L9 := by have h9 := c_70; rw [i32_lt, nI_toInt (by omega), nI_toInt (by omega)] at h9; omega
          refine lv_aload hx hb dX11_fillColumn_29 (lv_at hl 3 rfl) ?_
          refine lv_iload_n hx hb dX11_fillColumn_31 rfl (lv_at hl 6 rfl) ?_
          refine lv_iload hx hb dX11_fillColumn_32 (lv_at hl 0 rfl) ?_
          obtain ⟨kk_71, hk_72⟩ := pl_at ht_56.1 hs_59
          refine vp_callSi (va_runV (As := [.int (nI c9), .int (nI i)]) (rest := []) ⟨hx, hb, hml, hown, hts⟩ (y_at l dC dI q h0 d k z f hI (d (10 + P)) (d (30 + P)) (d (50 + P)) (u.2 1 P) dd_52 ii_53 gl_54 gc_55 ht_56 hs_59 ht_57 ht_58 hg_60 hgb_61 hc_62 (nI c9) (nI i)) (cwV 2 hts gX11_fillColumn_X9_at rfl rfl rfl (by decide +kernel) ⟨Nat.le_trans (Nat.le_of_ble_eq_true rfl) hRf, Nat.le_trans (Nat.le_of_ble_eq_true rfl) hRl⟩) ⟨px_fb, va_recv hK hP (ci := 8) (q0 := kk_71) rfl hk_72, fun U hU hW => ⟨rfl, px_to hU hW hP hK hN hXN⟩⟩ rfl rfl hl.1 rfl (lv_room (Nat.le_of_ble_eq_true rfl)) dX11_fillColumn_34 ⟨by omega, by omega⟩).run (fun r hw => ?_)
          generalize r = zr_73 at hw ⊢
          have hzr_73 := hw
          refine lv_bipush (v := (-2)) hx hb dX11_fillColumn_37 (by decide) ?_
          refine lv_icmp_ne (tgt := 48) hx hb dX11_fillColumn_39 (by decide) (fun c_74 => ?_) (fun c_74 => ?_)
          ·
            refine lv_iload hx hb dX11_fillColumn_48 (lv_at hl 1 rfl) ?_
            refine lv_if_le (tgt := 62) hx hb dX11_fillColumn_50 (by decide) (fun c_75 => ?_) (fun c_75 => ?_)
            ·
              refine lv_null hx hb dX11_fillColumn_62 ?_
              refine lv_astoreN (lv' := [(8, .null), (7, .int (nI i)), (6, .int (nI r9)), (5, .ref b9), (4, .ref (d (10 + P))), (0, .ref h0), (1, .int (nI P)), (2, .int (nI c9))]) hx hb dX11_fillColumn_63 hl (by decide) rfl (fun ls hl => ?_)
              refine lv_aloadN hx hb dX11_fillColumn_65 (lv_at hl 0 rfl) ?_
              refine lv_ifnullN (tgt := 111) hx hb dX11_fillColumn_67 (by decide) ?_
              refine lv_iconst (v := 0) hx hb dX11_fillColumn_111 (by decide) ?_
              refine lv_istore (lv' := [(6, .int 0), (8, .null), (7, .int (nI i)), (5, .ref b9), (4, .ref (d (10 + P))), (0, .ref h0), (1, .int (nI P)), (2, .int (nI c9))]) hx hb dX11_fillColumn_112 hl (by decide) rfl (fun ls hl => ?_)
              refine lv_iinc (v := (nI (i + 1))) (lv' := [(7, .int (nI (i + 1))), (6, .int 0), (8, .null), (5, .ref b9), (4, .ref (d (10 + P))), (0, .ref h0), (1, .int (nI P)), (2, .int (nI c9))]) hx hb dX11_fillColumn_114 hl (k := 2) rfl (nI_1 i) (by decide) rfl (fun ls hl => ?_)
              refine lv_goto (tgt := 17) hx hb dX11_fillColumn_117 (by decide) ?_
              refine W.widen (k := cells + 2 * (i + 1)) (n := slots + 10 * (i + 1)) (by omega) (by omega) ?_
              exact ih (i + 1) _ _ _ _ (some b9) 0 u (x9 :: xs9) ls (by omega) (by omega) (Nat.zero_le _) (fc_0 hfN (fun e9 => c_74 (hzr_73.trans ((shAt_eq hP9 el_63 ec_64 hgb_61 _ _).trans e9))) (Or.inl (by have h9 := c_75; rw [i32_le, nI_toInt (by omega), i0] at h9; omega)) h80n) (fun b hb => absurd hb (Nat.not_lt_zero _)) hrp hne hu0 hk0 hk1o hk2 hk3 hacF h3m hEz hI hP hD hS (lv_sub hl [0, 1, 3, 4, 5, 6, 7] rfl)
            ·
              have hr0 : 0 < r9 := by have h9 := c_75; rw [i32_le, nI_toInt (by omega), i0] at h9; omega
              refine lv_aload_n hx hb dX11_fillColumn_53 rfl (lv_at hl 4 rfl) ?_
              refine lv_iload hx hb dX11_fillColumn_54 (lv_at hl 1 rfl) ?_
              obtain ⟨kk_76, hk_77⟩ := pl_at hI.2.1.1.1 hI.2.2.2.1.1
              refine va_csq (va_runV (As := [.int (nI r9)]) (rest := []) ⟨hx, hb, hml, hown, hts⟩ (y_fillerFor l dC dI q h0 d k z f hI (nI r9) u hrp hk0 hk1 hk2 hk3) (cwV 1 hts gX11_fillColumn_X11_fillerFor rfl rfl rfl (by decide +kernel) ⟨Nat.le_trans (Nat.le_of_ble_eq_true rfl) hRf, Nat.le_trans (Nat.le_of_ble_eq_true rfl) hRl⟩) ⟨px_fb, va_recv hK hP (ci := 10) (q0 := kk_76) rfl hk_77, fun U hU hW => ⟨rfl, px_to hU hW hP hK hN hXN⟩⟩ rfl rfl hl.1 rfl (lv_room (Nat.le_of_ble_eq_true rfl)) dX11_fillColumn_56 ⟨by omega, by omega⟩).run (fun r hw => ?_)
              rcases hw with ⟨hr9x, hno⟩ | ⟨j9, hj9, hr9x, hfc, hno⟩
              ·
                subst hr9x
                refine W.eq (g2 := F0 m 59 ls [.null]) rfl ?_
                refine lv_goto (tgt := 63) hx hb dX11_fillColumn_59 (by decide) ?_
                refine lv_astoreN (lv' := [(8, .null), (7, .int (nI i)), (6, .int (nI r9)), (5, .ref b9), (4, .ref (d (10 + P))), (0, .ref h0), (1, .int (nI P)), (2, .int (nI c9))]) hx hb dX11_fillColumn_63 hl (by decide) rfl (fun ls hl => ?_)
                refine lv_aloadN hx hb dX11_fillColumn_65 (lv_at hl 0 rfl) ?_
                refine lv_ifnullN (tgt := 111) hx hb dX11_fillColumn_67 (by decide) ?_
                refine lv_iconst (v := 0) hx hb dX11_fillColumn_111 (by decide) ?_
                refine lv_istore (lv' := [(6, .int 0), (8, .null), (7, .int (nI i)), (5, .ref b9), (4, .ref (d (10 + P))), (0, .ref h0), (1, .int (nI P)), (2, .int (nI c9))]) hx hb dX11_fillColumn_112 hl (by decide) rfl (fun ls hl => ?_)
                refine lv_iinc (v := (nI (i + 1))) (lv' := [(7, .int (nI (i + 1))), (6, .int 0), (8, .null), (5, .ref b9), (4, .ref (d (10 + P))), (0, .ref h0), (1, .int (nI P)), (2, .int (nI c9))]) hx hb dX11_fillColumn_114 hl (k := 2) rfl (nI_1 i) (by decide) rfl (fun ls hl => ?_)
                refine lv_goto (tgt := 17) hx hb dX11_fillColumn_117 (by decide) ?_
                refine W.widen (k := cells + 2 * (i + 1)) (n := slots + 10 * (i + 1)) (by omega) (by omega) ?_
                exact ih (i + 1) _ _ _ _ (some b9) 0 u (x9 :: xs9) ls (by omega) (by omega) (Nat.zero_le _) (fc_0 hfN (fun e9 => c_74 (hzr_73.trans ((shAt_eq hP9 el_63 ec_64 hgb_61 _ _).trans e9))) (Or.inr hno) h80n) (fun b hb => absurd hb (Nat.not_lt_zero _)) hrp hne hu0 hk0 hk1o hk2 hk3 hacF h3m hEz hI hP hD hS (lv_sub hl [0, 1, 3, 4, 5, 6, 7] rfl)
              ·
                subst hr9x
                have hitj := rI_itm hrp.2.2.1 hj9
                refine W.eq (g2 := F0 m 59 ls [.ref (d (2000 + j9))]) rfl ?_
                refine lv_goto (tgt := 63) hx hb dX11_fillColumn_59 (by decide) ?_
                refine lv_astore (lv' := [(8, .ref (d (2000 + j9))), (7, .int (nI i)), (6, .int (nI r9)), (5, .ref b9), (4, .ref (d (10 + P))), (0, .ref h0), (1, .int (nI P)), (2, .int (nI c9))]) hx hb dX11_fillColumn_63 hl (by decide) rfl (fun ls hl => ?_)
                refine lv_aload hx hb dX11_fillColumn_65 (lv_at hl 0 rfl) ?_
                refine lv_ifnull hx hb dX11_fillColumn_67 ?_
                refine va_new (ci := 7) (fs := [.null, .int 0, .int 0, .int 0, .int 0, .int 0]) (C := RX8) (T := TX8) (N := 6) hx hb hts (by decide +kernel) tyX8 tyX8_ok hown (hts (.classLink RX11 106 RX8) (by decide +kernel)) (hts (.instantiable RX8 6) (by decide +kernel)) (hts (.initialized RX8) (by decide +kernel)) hK hP hD hS hA rfl nwX8 (by omega) (by omega) dX11_fillColumn_70 (fun q_78 H hPn hDn hS => ?_)
                have hP := vaP_l hPn
                refine W.widen (k := cells + 2 * i + 1) (n := slots + 10 * i + 6) (by omega) (by omega) ?_
                refine lv_dup hx hb dX11_fillColumn_73 rfl ?_
                refine lv_aload hx hb dX11_fillColumn_74 (lv_at hl 0 rfl) ?_
                refine lv_iload_n hx hb dX11_fillColumn_76 rfl (lv_at hl 6 rfl) ?_
                refine lv_iload_n hx hb dX11_fillColumn_77 rfl (lv_at hl 7 rfl) ?_
                refine lv_iload hx hb dX11_fillColumn_78 (lv_at hl 1 rfl) ?_
                refine lv_iload hx hb dX11_fillColumn_80 (lv_at hl 2 rfl) ?_
                refine lv_isub hx hb dX11_fillColumn_82 ?_
                refine lv_topi (fun y_79 ey_79 => ?_)
                obtain rfl : y_79 = (nI (i - r9)) := ey_79.trans (nI_sb hr9 (by omega))
                refine lv_iconst (v := 1) hx hb dX11_fillColumn_83 (by decide) ?_
                refine lv_iload hx hb dX11_fillColumn_84 (lv_at hl 2 rfl) ?_
                have hPc := vaP_r hPn
                have hDc := vaD_r hDn
                have hFc := fr_part hDn hS hA
                refine va_callv (va_runI (As := [.ref (d (2000 + j9)), .int (nI P), .int (nI c9), .int (nI (i - r9)), .int 1, .int (nI r9)]) (rest := [.ref q_78]) ⟨hx, hb, hml, hown, hts⟩ (x_PieceI l dC dI q_78 (d (2000 + j9)) (nI P) (nI c9) (nI (i - r9)) 1 (nI r9) H.size) (cwI 6 hts gX11_fillColumn_X8_init rfl rfl rfl (hts (.initialized RX8) (by decide +kernel)) (hts (.methodLink RX11 108 yX8_init) (by decide +kernel)) (hts (.instanceMethod yX8_init) (by decide +kernel)) rfl (by decide +kernel) ⟨Nat.le_trans (Nat.le_of_ble_eq_true rfl) hRf, Nat.le_trans (Nat.le_of_ble_eq_true rfl) hRl⟩) ⟨gw_fb, fun U hU hW => ⟨rfl, by rw [hU], pw_to hU hW hPc (hK.sub (tys' := []) [] rfl) hN, hDc.weaken (fun _ _ _ _ => trivial)⟩⟩ rfl rfl hl.1 rfl (lv_room (Nat.le_of_ble_eq_true rfl)) dX11_fillColumn_86 ⟨by omega, by omega⟩) hS (fun q _ h => hFc q h) hFc (fun u9 t H1 locs ht hvm hw hB hz1 hk1 hS => ?_)
                obtain ⟨hP1, hD1⟩ := hB
                rw [ht] at hP1
                obtain ⟨hP, hD⟩ := va_joinQ (X := [(q_78, .inr (7, [.null, .int 0, .int 0, .int 0, .int 0, .int 0]))]) (cx := [(q_78, .inr (7, [.null, .int 0, .int 0, .int 0, .int 0, .int 0]))]) (wr := []) (w1 := [(q_78, .inr (7, [va_rf (some (d (2000 + j9))), .int (nI P), .int (nI c9), .int (nI (i - r9)), .int 1, .int (nI r9)]))]) (pl := va_pl z.1 f) (vaP_swap hPn) (vaD_rotR hDn) [0] [] rfl rfl rfl (fun i hi => absurd hi List.not_mem_nil) hk1 hFc hP1 hD1
                generalize H1 = H at hP hS ⊢
                obtain ⟨hnm_80, hP, hD⟩ := pushC hP hD
                obtain ⟨z_81, ez_81⟩ : ∃ y : gS, y = pz z q_78 (22, 0, [va_rf (some (d (2000 + j9))), .int (nI P), .int (nI c9), .int (nI (i - r9)), .int 1, .int (nI r9)]) := ⟨_, rfl⟩
                obtain ⟨f_82, ef_82⟩ : ∃ y : xF, y = va_up f q_78 (.inr (7, [va_rf (some (d (2000 + j9))), .int (nI P), .int (nI c9), .int (nI (i - r9)), .int 1, .int (nI r9)])) := ⟨_, rfl⟩
                have hE_83 : zE z z_81 := by rw [ez_81]; exact pz_E hnm_80 _
                have hI : xI q h0 d k z_81 f_82 := by rw [ez_81, ef_82]; exact x_push hI hnm_80 (Or.inr (by decide : (15 : Nat) < 22)) (cO_pc (bw11 hP9) (ty_s hitj) hnm_80)
                rw [show z.1 ++ [q_78] = z_81.1 from by rw [ez_81]; rfl, ← ef_82] at hP hD
                have hb9 := zE_tg hE_83 hb9
                have ht_56 := zE_tg hE_83 ht_56
                have ht_57 := zE_tg hE_83 ht_57
                have ht_58 := zE_tg hE_83 ht_58
                have hitj := zE_itm hE_83 hitj
                have ht_84 : tg z_81 q_78 22 := by rw [ez_81]; exact pz_t _ _ _
                have hEz : zE z0 z_81 := zE_tr hEz hE_83
                have h3m : f_82 (d 3) = f0 (d 3) := by rw [ef_82]; exact (up_o (fun e9 => hnm_80 (by rw [← e9]; exact hrp.2.2.2.2.2.2.2.1.1.1))).trans h3m
                have hrp_85 : rep q d u z_81 f_82 := by rw [ez_81, ef_82]; exact rep_grow hrp (pz_E hnm_80 _) (oK_push (fun _ _ => rfl) (zE_rf _) hnm_80)
                have hac9 : acS z_81 b9 pp9 0 (nI (xs9.length + 1)) ah9 := ⟨zE_tg hE_83 hac9.1, by rw [zE_o hE_83 hac9.1.1]; exact hac9.2⟩
                have hacF := acF_E hE_83 hacF
                refine W.eq (g2 := F0 m 89 ls [.ref q_78]) rfl ?_
                have hp_86 : pcS z_81 q_78 (some (d (2000 + j9))) (nI P) (nI c9) (nI (i - r9)) 1 (nI r9) := ⟨ht_84, by rw [ez_81, pz_s]⟩
                have hb_88 : bw (nI c9) 0 7 = true := bw7 hc8
                have hb_89 : bw (nI (i - r9)) 0 60 = true := b60n (by omega)
                have hb_90 : bw 1 0 8 = true := by decide
                have hb_91 : bw (nI r9) 0 60 = true := b60n (by omega)
                have hlg_87 := lg_of hp_86 ⟨hb_88, hb_89, hb_90, hb_91⟩
                refine lv_astore (lv' := [(9, .ref q_78), (8, .ref (d (2000 + j9))), (7, .int (nI i)), (6, .int (nI r9)), (5, .ref b9), (4, .ref (d (10 + P))), (0, .ref h0), (1, .int (nI P)), (2, .int (nI c9))]) hx hb dX11_fillColumn_89 hl (by decide) rfl (fun ls hl => ?_)
                refine lv_aload_n hx hb dX11_fillColumn_91 rfl (lv_at hl 6 rfl) ?_
                refine lv_aload hx hb dX11_fillColumn_92 (lv_at hl 0 rfl) ?_
                have hrx := fc_in hP9 hc8 hbl hr0 hr9 hi hrun
                obtain ⟨-, hX, hD1, hY, hN1, hin⟩ := hrx
                have hpcx : pcS z_81 q_78 (some (d (2000 + j9))) (nI P) (nI c9) (nI (i - r9)) (nI 1) (nI r9) := hp_86
                obtain ⟨kk_92, hk_93⟩ := pl_at hI.2.1.1.1 hI.2.2.2.1.1
                have hFc := fr_all hD hS hA
                refine va_callv (va_runV (As := [.ref q_78]) (rest := []) ⟨hx, hb, hml, hown, hts⟩ (y_standI l dC dI q h0 d k z_81 f_82 hI q_78 P c9 (i - r9) 1 r9 u hrp_85 hk0 hk1o hk2 hk3 hP9 hX hD1 hY hin hne j9 hj9 hpcx (by rw [hfc.1, hfc.2.1]; decide) H.size) (cwV 1 hts gX11_fillColumn_X11_stand rfl rfl rfl (by decide +kernel) ⟨Nat.le_trans (Nat.le_of_ble_eq_true rfl) hRf, Nat.le_trans (Nat.le_of_ble_eq_true rfl) hRl⟩) ⟨gx_fb, va_recv hK hP (ci := 10) (q0 := kk_92) rfl hk_93, fun U hU hW => ⟨rfl, by rw [hU], px_to hU hW hP hK hN hXN, hD.weaken (fun _ _ _ _ => trivial)⟩⟩ rfl rfl hl.1 rfl (lv_room (Nat.le_of_ble_eq_true rfl)) dX11_fillColumn_94 ⟨by omega, by omega⟩) hS (fun q _ h => hFc q h) hFc (fun w_94 t H1 locs ht hvm hw hB hz1 hk1 hS => ?_)
                obtain ⟨hP, hD1⟩ := hB
                rw [ht] at hP
                rw [hw.2.1] at hP hD1
                have hD := hD1.weaken (fun _ q _ h => hFc q.1 h)
                have hI := hw.2.2.1
                have hw0 := hw
                generalize w_94.2.2 = f_95 at hP hD hI hw0
                generalize H1 = H at hP hS ⊢
                obtain ⟨u2, eu2⟩ : ∃ y : mS, y = mStand u (nI j9) P c9 (i - r9) 1 r9 := ⟨_, rfl⟩
                have hrp2 : rep q d u2 z_81 f_95 := by rw [eu2]; exact hw0.2.2.2.1
                have h3m : f_95 (d 3) = f0 (d 3) := hw0.2.2.2.2.trans h3m
                refine va_new (ci := 0) (fs := [.null, .int 0, .null, .int 0]) (C := RX0) (T := TX0) (N := 4) hx hb hts (by decide +kernel) tyX0 tyX0_ok hown (hts (.classLink RX11 28 RX0) (by decide +kernel)) (hts (.instantiable RX0 4) (by decide +kernel)) (hts (.initialized RX0) (by decide +kernel)) hK hP hD hS hA rfl nwX0 (by omega) (by omega) dX11_fillColumn_97 (fun q_96 H hPn hDn hS => ?_)
                have hP := vaP_l hPn
                refine W.widen (k := cells + 2 * i + 2) (n := slots + 10 * i + 10) (by omega) (by omega) ?_
                refine lv_dup hx hb dX11_fillColumn_100 rfl ?_
                refine lv_aload hx hb dX11_fillColumn_101 (lv_at hl 0 rfl) ?_
                refine lv_iconst (v := 0) hx hb dX11_fillColumn_103 (by decide) ?_
                refine lv_aload hx hb dX11_fillColumn_104 (lv_at hl 4 rfl) ?_
                obtain ⟨hnm_97, hP, hD⟩ := pushC (cs := []) (vaP_swap hPn) (vaD_rotR hDn)
                obtain ⟨z_98, ez_98⟩ : ∃ y : gS, y = pz z_81 q_96 (24, 0, []) := ⟨_, rfl⟩
                obtain ⟨f_99, ef_99⟩ : ∃ y : xF, y = va_up f_95 q_96 (.inr (0, [.null, .int 0, .null, .int 0])) := ⟨_, rfl⟩
                have hE_100 : zE z_81 z_98 := by rw [ez_98]; exact pz_E hnm_97 _
                have hI4 : xI q h0 d k z_98 f_99 := by rw [ez_98, ef_99]; exact x_push hI hnm_97 (Or.inr (by decide : (15 : Nat) < 24)) (cO_24 (by rw [pz_s]))
                have hP : va_P (dC, dI) vwCl (va_pl z_98.1 f_99) H := by rw [ez_98, ef_99]; exact hP
                have hD : va_D A (va_pl z_98.1 f_99) := by rw [ez_98, ef_99]; exact hD
                have hFc := fr_all hD hS hA
                refine va_callv (va_runI (As := [.ref q_78, .int 0, .ref b9]) (rest := [.ref q_96]) ⟨hx, hb, hml, hown, hts⟩ (y_ActA l dC dI q h0 d k z_98 f_99 hI4 q_96 q_78 b9 (by rw [ez_98]; exact pz_t _ _ _) (by rw [ef_99]; exact up_s) (zE_tg hE_100 hb9) pp9 0 (nI (xs9.length + 1)) ah9 ⟨zE_tg hE_100 hac9.1, by rw [zE_o hE_100 hac9.1.1]; exact hac9.2⟩ H.size) (cwI 3 hts gX11_fillColumn_X0_init rfl rfl rfl (hts (.initialized RX0) (by decide +kernel)) (hts (.methodLink RX11 163 yX0_init) (by decide +kernel)) (hts (.instanceMethod yX0_init) (by decide +kernel)) rfl (by decide +kernel) ⟨Nat.le_trans (Nat.le_of_ble_eq_true rfl) hRf, Nat.le_trans (Nat.le_of_ble_eq_true rfl) hRl⟩) ⟨gx_fb, fun U hU hW => ⟨rfl, by rw [hU], px_to hU hW hP hK hN hXN, hD.weaken (fun _ _ _ _ => trivial)⟩⟩ rfl rfl hl.1 rfl (lv_room (Nat.le_of_ble_eq_true rfl)) dX11_fillColumn_106 ⟨by omega, by omega⟩) hS (fun q _ h => hFc q h) hFc (fun w_101 t H1 locs ht hvm hw hB hz1 hk1 hS => ?_)
                obtain ⟨hP, hD1⟩ := hB
                rw [ht] at hP
                have hD := hD1.weaken (fun _ q _ h => hFc q.1 h)
                generalize H1 = H at hP hS ⊢
                obtain ⟨hw2, hw3⟩ := hw
                rw [hw2, hw3] at hP hD
                obtain ⟨z_103, ez_103⟩ : ∃ y : gS, y = pz z_81 q_96 (23, (z_81.2 b9).2.1 + 1, [.ref q_78, .int 0, .ref b9, .int ((nI (xs9.length + 1)) + 1)]) := ⟨_, rfl⟩
                obtain ⟨f_104, ef_104⟩ : ∃ y : xF, y = va_up f_95 q_96 (.inr (0, [.ref q_78, .int 0, .ref b9, .int ((nI (xs9.length + 1)) + 1)])) := ⟨_, rfl⟩
                have hE_105 : zE z_81 z_103 := by rw [ez_103]; exact pz_E hnm_97 _
                have hI : xI q h0 d k z_103 f_104 := by rw [ez_103, ef_104]; exact x_push hI hnm_97 (Or.inr (by decide : (15 : Nat) < 23)) (cO_acA hlg_87 hb9 hnm_97)
                rw [show z_98.1 = z_103.1 from by rw [ez_98, ez_103]; rfl, ef_99, up_up, ← ef_104] at hP hD
                have hb9 := zE_tg hE_105 hb9
                have ht_56 := zE_tg hE_105 ht_56
                have ht_57 := zE_tg hE_105 ht_57
                have ht_58 := zE_tg hE_105 ht_58
                have hitj := zE_itm hE_105 hitj
                have hlg_87 := zE_lg hE_105 hlg_87
                have hp_86 := zE_pc hE_105 hp_86
                have hpcx := zE_pc hE_105 hpcx
                have ht_106 : tg z_103 q_96 23 := by rw [ez_103]; exact pz_t _ _ _
                have hEz : zE z0 z_103 := zE_tr hEz hE_105
                refine W.eq (g2 := F0 m 109 ls [.ref q_96]) rfl ?_
                have h3m : f_104 (d 3) = f0 (d 3) := by rw [ef_104]; exact (up_o (fun e9 => hnm_97 (by rw [← e9]; exact hrp2.2.2.2.2.2.2.2.1.1.1))).trans h3m
                have hrp_107 : rep q d u2 z_103 f_104 := by rw [ez_103, ef_104]; exact rep_grow hrp2 (pz_E hnm_97 _) (oK_push (fun _ _ => rfl) (zE_rf _) hnm_97)
                have hac9 : acS z_103 b9 pp9 0 (nI (xs9.length + 1)) ah9 := ⟨zE_tg hE_105 hac9.1, by rw [zE_o hE_105 hac9.1.1]; exact hac9.2⟩
                have hacF := acF_E hE_105 hacF
                refine lv_astore (lv' := [(5, .ref q_96), (9, .ref q_78), (8, .ref (d (2000 + j9))), (7, .int (nI i)), (6, .int (nI r9)), (4, .ref (d (10 + P))), (0, .ref h0), (1, .int (nI P)), (2, .int (nI c9))]) hx hb dX11_fillColumn_109 hl (by decide) rfl (fun ls hl => ?_)
                refine lv_iconst (v := 0) hx hb dX11_fillColumn_111 (by decide) ?_
                refine lv_istore (lv' := [(6, .int 0), (5, .ref q_96), (9, .ref q_78), (8, .ref (d (2000 + j9))), (7, .int (nI i)), (4, .ref (d (10 + P))), (0, .ref h0), (1, .int (nI P)), (2, .int (nI c9))]) hx hb dX11_fillColumn_112 hl (by decide) rfl (fun ls hl => ?_)
                refine lv_iinc (v := (nI (i + 1))) (lv' := [(7, .int (nI (i + 1))), (6, .int 0), (5, .ref q_96), (9, .ref q_78), (8, .ref (d (2000 + j9))), (4, .ref (d (10 + P))), (0, .ref h0), (1, .int (nI P)), (2, .int (nI c9))]) hx hb dX11_fillColumn_114 hl (k := 4) rfl (nI_1 i) (by decide) rfl (fun ls hl => ?_)
                refine lv_goto (tgt := 17) hx hb dX11_fillColumn_117 (by decide) ?_
                refine W.widen (k := cells + 2 * (i + 1)) (n := slots + 10 * (i + 1)) (by omega) (by omega) ?_
                exact ih (i + 1) _ _ _ _ (some q_96) 0 u2 ((j9, P, c9, i - r9, r9) :: (x9 :: xs9)) ls (by omega) (by omega) (Nat.zero_le _) (by rw [eu2]; exact fc_1 hfN (fun e9 => c_74 (hzr_73.trans ((shAt_eq hP9 el_63 ec_64 hgb_61 _ _).trans e9))) hr0 hj9 hfc hno h80n) (fun b hb => absurd hb (Nat.not_lt_zero _)) hrp_107 (by rw [eu2]; exact neI_set hne (nIm1 (by omega)) (mStand_2 _ _ _ _ _ _ _)) (by rw [eu2, mStand_k _ _ _ _ _ _ _ (nR rfl)]; exact hu0) (by rw [eu2]; exact hk0) (by rw [eu2]; exact hk1o) (by rw [eu2]; exact hk2) (by rw [eu2]; exact hk3) ⟨q_96, q_78, _, rfl, ⟨ht_106, by rw [ez_103, pz_s]; rw [nI_1]; rfl⟩, hpcx, hacF⟩ h3m hEz hI hP hD hS (lv_sub hl [0, 1, 2, 5, 6, 7, 8] rfl)
          ·
            refine lv_iinc (v := (nI (r9 + 1))) (lv' := [(6, .int (nI (r9 + 1))), (7, .int (nI i)), (5, .ref b9), (4, .ref (d (10 + P))), (0, .ref h0), (1, .int (nI P)), (2, .int (nI c9))]) hx hb dX11_fillColumn_42 hl (k := 1) rfl (nI_1 r9) (by decide) rfl (fun ls hl => ?_)
            refine lv_goto (tgt := 114) hx hb dX11_fillColumn_45 (by decide) ?_
            refine lv_iinc (v := (nI (i + 1))) (lv' := [(7, .int (nI (i + 1))), (6, .int (nI (r9 + 1))), (5, .ref b9), (4, .ref (d (10 + P))), (0, .ref h0), (1, .int (nI P)), (2, .int (nI c9))]) hx hb dX11_fillColumn_114 hl (k := 1) rfl (nI_1 i) (by decide) rfl (fun ls hl => ?_)
            refine lv_goto (tgt := 17) hx hb dX11_fillColumn_117 (by decide) ?_
            refine W.widen (k := cells + 2 * (i + 1)) (n := slots + 10 * (i + 1)) (by omega) (by omega) ?_
            exact ih (i + 1) _ _ _ _ (some b9) (r9 + 1) u (x9 :: xs9) ls (by omega) (by omega) (by omega) (fc_e hfN ((shAt_eq hP9 el_63 ec_64 hgb_61 _ _).symm.trans (hzr_73.symm.trans c_74))) (fun b hb => by by_cases e9 : b = r9; rw [e9, show i + 1 - (r9 + 1) + r9 = i by omega]; exact ((shAt_eq hP9 el_63 ec_64 hgb_61 _ _).symm.trans (hzr_73.symm.trans c_74)); rw [show i + 1 - (r9 + 1) + b = i - r9 + b by omega]; exact hrun b (by omega)) hrp hne hu0 hk0 hk1o hk2 hk3 hacF h3m hEz hI hP hD hS (lv_sub hl [0, 1, 2, 3, 4, 5, 6] rfl)
