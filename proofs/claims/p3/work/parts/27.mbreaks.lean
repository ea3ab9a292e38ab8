set_option maxHeartbeats 4000000 in
set_option maxRecDepth 100000 in
theorem m_br_in {p : Program} {l : Launch} {e : Env} {R : Room} {s : State} {m : MethodId} {args : Array Value} {below : List Frame} {meth : Method} {c : Code} {Q : State → Prop} {cells slots : Nat} {dC : Nat → ClassId} {dI : Nat → Nat → Nat} {h0 : Nat} {v : Nat → Nat} {cI cZ : ClassId} {u0 : mS} {p0 : Int32} (hp : bw p0 0 11 = true) (hln0 : ∀ j, j < 96 → bw (u0.2 0 j) 0 60 = true) (hcl0 : ∀ j, j < 5760 → mThing (u0.2 2 j) = true → bw (u0.2 2 j) 0 79 = true) (hk0 : ∀ j, j < 80 → u0.2 4 j = 3 → bw (u0.2 10 j) 0 9 = true) {c9 K : Nat} (hc8 : c9 < 8) (eK : u0.2 0 (8 * p0 + nI c9).toNatClampNeg = nI K) (hK6 : K ≤ 60) {A : Nat → Prop} {H0 : Heap} (hx : p.tables.exec = Jvm.exec) (hb : c.code = cX12_breaks) (hml : c.maxLocals = 5) (hts : ∀ w ∈ wsX12_breaks, w.before args s = true) (hown : s.vm.findClass RX12 = some m.cls) (hN : NN s) (hK : va_K (dC, dI) vwCl [(cI, .int), (cZ, .boolean)] s) (hRf : 3 ≤ R.frames) (hRl : 65 ≤ R.locals) (hRc : cells ≤ R.cells) (hRs : slots ≤ R.slots) (hA : ∀ q : Nat, H0.size ≤ q → A q) (kx : ∀ (u : mS) (H : Heap) (locs : List Loc) (ls : Array Slot), mE u0 u → va_P (dC, dI) vwCl (mW h0 v cI cZ u) H → va_D A (mW h0 v cI cZ u) → va_S A H0 H locs → lv_has ls 5 [(3, .int (nI K)), (2, .int (nI c9)), (0, .ref h0), (1, .int p0)] → W p l e R s m args below meth c H locs cells slots Q (F0 m 123 ls [])) : ∀ (k i : Nat) (u : mS) (H : Heap) (locs : List Loc) (ls : Array Slot), i ≤ K → K - i < k → mE u0 u → va_P (dC, dI) vwCl (mW h0 v cI cZ u) H → va_D A (mW h0 v cI cZ u) → va_S A H0 H locs → lv_has ls 5 [(3, .int (nI i)), (2, .int (nI c9)), (0, .ref h0), (1, .int p0)] → W p l e R s m args below meth c H locs cells slots Q (F0 m 25 ls []) := by
  intro k
  induction k with
  | zero => intro i u H locs ls h1 h2; exact absurd h2 (Nat.not_lt_zero _)
  | succ k ih =>
    intro i u H locs ls hi hk hg hP hD hS hl
    refine lv_iload_n hx hb dX12_breaks_25 rfl (lv_at hl 0 rfl) ?_
    refine lv_aload_n hx hb dX12_breaks_26 rfl (lv_at hl 2 rfl) ?_
    refine va_get (D := (dC, dI)) (ci := 11) (v := .ref (v 0)) (C := RX12) (T := TX12) (N := 52) hx hb hts (by decide +kernel) hown hK hP 0 rfl rfl 0 (by decide) (hts (.fieldLink RX12 7 "PageOneModel" "lines" "[I") (by decide +kernel)) (fun _ h9 => h9) rfl dX12_breaks_27 ?_
    refine lv_bipush (v := 8) hx hb dX12_breaks_30 (by decide) ?_
    refine lv_iload_n hx hb dX12_breaks_32 rfl (lv_at hl 3 rfl) ?_
    refine lv_imul hx hb dX12_breaks_33 ?_
    refine lv_iload_n hx hb dX12_breaks_34 rfl (lv_at hl 1 rfl) ?_
    refine lv_iadd hx hb dX12_breaks_35 ?_
    refine va_iald hx hb hK hP 1 0 rfl rfl (vin8 hp (bw7 hc8)) dX12_breaks_36 ?_
    refine lv_topi (fun y_1 ey_1 => ?_)
    obtain rfl : y_1 = (nI K) := ey_1.trans ((by rw [hg.1]; exact eK))
    refine lv_icmp_ge (tgt := 123) hx hb dX12_breaks_37 (by decide) (fun c_2 => ?_) (fun c_2 => ?_)
    ·
      have hie : i = K := lp_eq rfl (by omega) hi c_2
      rw [hie] at hl
      exact kx _ _ _ ls hg hP hD hS (lv_sub hl [0, 1, 2, 3] rfl)
    ·
      have hlt : i < K := lp_lt rfl (by omega) hi c_2
      have hlnu : ∀ j, j < 96 → bw (u.2 0 j) 0 60 = true := fun j hj => by rw [hg.1]; exact hln0 j hj
      have hg0 := hg
      refine lv_aload_n hx hb dX12_breaks_40 rfl (lv_at hl 2 rfl) ?_
      refine va_get (D := (dC, dI)) (ci := 11) (v := .ref (v 2)) (C := RX12) (T := TX12) (N := 52) hx hb hts (by decide +kernel) hown hK hP 0 rfl rfl 2 (by decide) (hts (.fieldLink RX12 16 "PageOneModel" "cell" "[I") (by decide +kernel)) (fun _ h9 => h9) rfl dX12_breaks_41 ?_
      refine lv_iload_n hx hb dX12_breaks_44 rfl (lv_at hl 3 rfl) ?_
      refine lv_iload_n hx hb dX12_breaks_45 rfl (lv_at hl 1 rfl) ?_
      refine lv_iload_n hx hb dX12_breaks_46 rfl (lv_at hl 0 rfl) ?_
      refine vp_callSi (va_runS (As := [.int p0, .int (nI c9), .int (nI i)]) (rest := [.ref (v 2)]) ⟨hx, hb, hml, hown, hts⟩ (m_at l dC dI p0 (nI c9) (nI i)) (va_cwS 3 hts gX12_breaks_X12_at rfl rfl rfl (by decide +kernel) ⟨Nat.le_trans (Nat.le_of_ble_eq_true rfl) hRf, Nat.le_trans (Nat.le_of_ble_eq_true rfl) hRl⟩) ⟨pw_fb, fun U hU hW => ⟨rfl, pw_to hU hW (hP.sub (ws' := []) [] rfl) (hK.sub (tys' := []) [] rfl) hN⟩⟩ rfl rfl hl.1 rfl (lv_room (Nat.le_of_ble_eq_true rfl)) dX12_breaks_47 ⟨hRc, hRs⟩).run (fun r hw => ?_)
      obtain rfl : r = (480 * p0 + 60 * (nI c9) + (nI i)) := hw
      refine va_iald hx hb hK hP 3 0 rfl rfl (vinC hp (bw7 hc8) (by omega)) dX12_breaks_50 ?_
      refine lv_topi (fun x_3 ex_3 => ?_)
      refine lv_istore (lv' := [(4, .int x_3), (3, .int (nI i)), (2, .int (nI c9)), (0, .ref h0), (1, .int p0)]) hx hb dX12_breaks_51 hl (by decide) rfl (fun ls hl => ?_)
      refine lv_aload_n hx hb dX12_breaks_53 rfl (lv_at hl 3 rfl) ?_
      refine lv_iload_n hx hb dX12_breaks_54 rfl (lv_at hl 4 rfl) ?_
      refine lv_iload_n hx hb dX12_breaks_55 rfl (lv_at hl 2 rfl) ?_
      refine lv_iload_n hx hb dX12_breaks_56 rfl (lv_at hl 1 rfl) ?_
      refine lv_iconst (v := 1) hx hb dX12_breaks_57 (by decide) ?_
      refine lv_iadd hx hb dX12_breaks_58 ?_
      refine vp_callSi (va_runV (As := [.int p0, .int (nI c9), .int ((nI i) + 1)]) (rest := []) ⟨hx, hb, hml, hown, hts⟩ (m_isCell l dC dI h0 v cI cZ u p0 (nI c9) ((nI i) + 1)) (cwV 3 hts gX12_breaks_X12_isCell rfl rfl rfl (by decide +kernel) ⟨Nat.le_trans (Nat.le_of_ble_eq_true rfl) hRf, Nat.le_trans (Nat.le_of_ble_eq_true rfl) hRl⟩) ⟨pw_fb, va_recv hK hP (ci := 11) (q0 := 0) rfl rfl, fun U hU hW => ⟨rfl, pw_to hU hW hP hK hN⟩⟩ rfl rfl hl.1 rfl (lv_room (Nat.le_of_ble_eq_true rfl)) dX12_breaks_59 ⟨hRc, hRs⟩).run (fun r hw => ?_)
      rcases Bool.eq_false_or_eq_true (mCell u p0 (nI c9) ((nI i) + 1)) with b_4 | b_4
      ·
        obtain rfl : r = 1 := b_t hw b_4
        refine lv_if_eq (tgt := 85) hx hb dX12_breaks_62 (by decide) (fun c_5 => absurd c_5 (by decide)) (fun c_5 => ?_)
        refine lv_aload_n hx hb dX12_breaks_65 rfl (lv_at hl 3 rfl) ?_
        refine lv_iload hx hb dX12_breaks_66 (lv_at hl 0 rfl) ?_
        refine lv_aload_n hx hb dX12_breaks_68 rfl (lv_at hl 3 rfl) ?_
        refine va_get (D := (dC, dI)) (ci := 11) (v := .ref (v 2)) (C := RX12) (T := TX12) (N := 52) hx hb hts (by decide +kernel) hown hK hP 0 rfl rfl 2 (by decide) (hts (.fieldLink RX12 16 "PageOneModel" "cell" "[I") (by decide +kernel)) (fun _ h9 => h9) rfl dX12_breaks_69 ?_
        refine lv_iload_n hx hb dX12_breaks_72 rfl (lv_at hl 4 rfl) ?_
        refine lv_iload_n hx hb dX12_breaks_73 rfl (lv_at hl 2 rfl) ?_
        refine lv_iload_n hx hb dX12_breaks_74 rfl (lv_at hl 1 rfl) ?_
        refine lv_iconst (v := 1) hx hb dX12_breaks_75 (by decide) ?_
        refine lv_iadd hx hb dX12_breaks_76 ?_
        refine vp_callSi (va_runS (As := [.int p0, .int (nI c9), .int ((nI i) + 1)]) (rest := [.ref (v 2), .int x_3, .ref h0]) ⟨hx, hb, hml, hown, hts⟩ (m_at l dC dI p0 (nI c9) ((nI i) + 1)) (va_cwS 3 hts gX12_breaks_X12_at rfl rfl rfl (by decide +kernel) ⟨Nat.le_trans (Nat.le_of_ble_eq_true rfl) hRf, Nat.le_trans (Nat.le_of_ble_eq_true rfl) hRl⟩) ⟨pw_fb, fun U hU hW => ⟨rfl, pw_to hU hW (hP.sub (ws' := []) [] rfl) (hK.sub (tys' := []) [] rfl) hN⟩⟩ rfl rfl hl.1 rfl (lv_room (Nat.le_of_ble_eq_true rfl)) dX12_breaks_77 ⟨hRc, hRs⟩).run (fun r hw => ?_)
        obtain rfl : r = (480 * p0 + 60 * (nI c9) + ((nI i) + 1)) := hw
        refine va_iald hx hb hK hP 3 0 rfl rfl (vCell hlnu b_4) dX12_breaks_80 ?_
        refine lv_iconst (v := 0) hx hb dX12_breaks_81 (by decide) ?_
        have hFc := fr_all hD hS hA
        refine va_callv (va_runV (As := [.int x_3, .int (u.2 2 ((480 * p0 + 60 * (nI c9) + ((nI i) + 1)) : Int32).toNatClampNeg), .int 0]) (rest := []) ⟨hx, hb, hml, hown, hts⟩ (m_beside l dC dI h0 v cI cZ u x_3 (u.2 2 ((480 * p0 + 60 * (nI c9) + ((nI i) + 1)) : Int32).toNatClampNeg) 0 (fun h => by rw [ex_3, hg0.1] at h ⊢; exact hcl0 _ (vlt (vinC hp (bw7 hc8) (by omega))) h) (fun h => by rw [hg.1] at h ⊢; exact hcl0 _ (vlt (vCell hlnu b_4)) h) (fun j hj => by rw [hg.1]; exact hk0 j hj) H.size) (cwV 3 hts gX12_breaks_X12_beside rfl rfl rfl (by decide +kernel) ⟨Nat.le_trans (Nat.le_of_ble_eq_true rfl) hRf, Nat.le_trans (Nat.le_of_ble_eq_true rfl) hRl⟩) ⟨gw_fb, va_recv hK hP (ci := 11) (q0 := 0) rfl rfl, fun U hU hW => ⟨rfl, by rw [hU], pw_to hU hW hP hK hN, hD.weaken (fun _ _ _ _ => trivial)⟩⟩ rfl rfl hl.1 rfl (lv_room (Nat.le_of_ble_eq_true rfl)) dX12_breaks_82 ⟨hRc, hRs⟩) hS (fun q _ h => hFc q h) hFc (fun u_6 t H1 locs ht hvm hw hB hz1 hk1 hS => ?_)
        obtain ⟨hP, hD1⟩ := hB
        rw [ht] at hP
        have hD := hD1.weaken (fun _ q _ h => hFc q.1 h)
        generalize H1 = H at hP hS ⊢
        have hg := mE_tr hg hw
        refine lv_aload_n hx hb dX12_breaks_85 rfl (lv_at hl 3 rfl) ?_
        refine lv_iload_n hx hb dX12_breaks_86 rfl (lv_at hl 4 rfl) ?_
        refine lv_iload_n hx hb dX12_breaks_87 rfl (lv_at hl 2 rfl) ?_
        refine lv_iconst (v := 1) hx hb dX12_breaks_88 (by decide) ?_
        refine lv_iadd hx hb dX12_breaks_89 ?_
        refine lv_iload_n hx hb dX12_breaks_90 rfl (lv_at hl 1 rfl) ?_
        refine vp_callSi (va_runV (As := [.int p0, .int ((nI c9) + 1), .int (nI i)]) (rest := []) ⟨hx, hb, hml, hown, hts⟩ (m_isCell l dC dI h0 v cI cZ u_6 p0 ((nI c9) + 1) (nI i)) (cwV 3 hts gX12_breaks_X12_isCell rfl rfl rfl (by decide +kernel) ⟨Nat.le_trans (Nat.le_of_ble_eq_true rfl) hRf, Nat.le_trans (Nat.le_of_ble_eq_true rfl) hRl⟩) ⟨pw_fb, va_recv hK hP (ci := 11) (q0 := 0) rfl rfl, fun U hU hW => ⟨rfl, pw_to hU hW hP hK hN⟩⟩ rfl rfl hl.1 rfl (lv_room (Nat.le_of_ble_eq_true rfl)) dX12_breaks_91 ⟨hRc, hRs⟩).run (fun r hw => ?_)
        rcases Bool.eq_false_or_eq_true (mCell u_6 p0 ((nI c9) + 1) (nI i)) with b_7 | b_7
        ·
          obtain rfl : r = 1 := b_t hw b_7
          refine lv_if_eq (tgt := 117) hx hb dX12_breaks_94 (by decide) (fun c_8 => absurd c_8 (by decide)) (fun c_8 => ?_)
          refine lv_aload_n hx hb dX12_breaks_97 rfl (lv_at hl 3 rfl) ?_
          refine lv_iload hx hb dX12_breaks_98 (lv_at hl 0 rfl) ?_
          refine lv_aload_n hx hb dX12_breaks_100 rfl (lv_at hl 3 rfl) ?_
          refine va_get (D := (dC, dI)) (ci := 11) (v := .ref (v 2)) (C := RX12) (T := TX12) (N := 52) hx hb hts (by decide +kernel) hown hK hP 0 rfl rfl 2 (by decide) (hts (.fieldLink RX12 16 "PageOneModel" "cell" "[I") (by decide +kernel)) (fun _ h9 => h9) rfl dX12_breaks_101 ?_
          refine lv_iload_n hx hb dX12_breaks_104 rfl (lv_at hl 4 rfl) ?_
          refine lv_iload_n hx hb dX12_breaks_105 rfl (lv_at hl 2 rfl) ?_
          refine lv_iconst (v := 1) hx hb dX12_breaks_106 (by decide) ?_
          refine lv_iadd hx hb dX12_breaks_107 ?_
          refine lv_iload_n hx hb dX12_breaks_108 rfl (lv_at hl 1 rfl) ?_
          refine vp_callSi (va_runS (As := [.int p0, .int ((nI c9) + 1), .int (nI i)]) (rest := [.ref (v 2), .int x_3, .ref h0]) ⟨hx, hb, hml, hown, hts⟩ (m_at l dC dI p0 ((nI c9) + 1) (nI i)) (va_cwS 3 hts gX12_breaks_X12_at rfl rfl rfl (by decide +kernel) ⟨Nat.le_trans (Nat.le_of_ble_eq_true rfl) hRf, Nat.le_trans (Nat.le_of_ble_eq_true rfl) hRl⟩) ⟨pw_fb, fun U hU hW => ⟨rfl, pw_to hU hW (hP.sub (ws' := []) [] rfl) (hK.sub (tys' := []) [] rfl) hN⟩⟩ rfl rfl hl.1 rfl (lv_room (Nat.le_of_ble_eq_true rfl)) dX12_breaks_109 ⟨hRc, hRs⟩).run (fun r hw => ?_)
          obtain rfl : r = (480 * p0 + 60 * ((nI c9) + 1) + (nI i)) := hw
          refine va_iald hx hb hK hP 3 0 rfl rfl (vCell (fun j hj => by rw [hg.1]; exact hln0 j hj) b_7) dX12_breaks_112 ?_
          refine lv_iconst (v := 1) hx hb dX12_breaks_113 (by decide) ?_
          have hFc := fr_all hD hS hA
          refine va_callv (va_runV (As := [.int x_3, .int (u_6.2 2 ((480 * p0 + 60 * ((nI c9) + 1) + (nI i)) : Int32).toNatClampNeg), .int 1]) (rest := []) ⟨hx, hb, hml, hown, hts⟩ (m_beside l dC dI h0 v cI cZ u_6 x_3 (u_6.2 2 ((480 * p0 + 60 * ((nI c9) + 1) + (nI i)) : Int32).toNatClampNeg) 1 (fun h => by rw [ex_3, hg0.1] at h ⊢; exact hcl0 _ (vlt (vinC hp (bw7 hc8) (by omega))) h) (fun h => by rw [hg.1] at h ⊢; exact hcl0 _ (vlt (vCell (fun j hj => by rw [hg.1]; exact hln0 j hj) b_7)) h) (fun j hj => by rw [hg.1]; exact hk0 j hj) H.size) (cwV 3 hts gX12_breaks_X12_beside rfl rfl rfl (by decide +kernel) ⟨Nat.le_trans (Nat.le_of_ble_eq_true rfl) hRf, Nat.le_trans (Nat.le_of_ble_eq_true rfl) hRl⟩) ⟨gw_fb, va_recv hK hP (ci := 11) (q0 := 0) rfl rfl, fun U hU hW => ⟨rfl, by rw [hU], pw_to hU hW hP hK hN, hD.weaken (fun _ _ _ _ => trivial)⟩⟩ rfl rfl hl.1 rfl (lv_room (Nat.le_of_ble_eq_true rfl)) dX12_breaks_114 ⟨hRc, hRs⟩) hS (fun q _ h => hFc q h) hFc (fun u_9 t H1 locs ht hvm hw hB hz1 hk1 hS => ?_)
          obtain ⟨hP, hD1⟩ := hB
          rw [ht] at hP
          have hD := hD1.weaken (fun _ q _ h => hFc q.1 h)
          generalize H1 = H at hP hS ⊢
          have hg := mE_tr hg hw
          refine lv_iinc (v := (nI (i + 1))) (lv' := [(3, .int (nI (i + 1))), (4, .int x_3), (2, .int (nI c9)), (0, .ref h0), (1, .int p0)]) hx hb dX12_breaks_117 hl (k := 1) rfl (nI_1 i) (by decide) rfl (fun ls hl => ?_)
          refine lv_goto (tgt := 25) hx hb dX12_breaks_120 (by decide) ?_
          exact ih (i + 1) _ _ _ ls (by omega) (by omega) hg hP hD hS (lv_sub hl [0, 2, 3, 4] rfl)
        ·
          obtain rfl : r = 0 := b_f hw b_7
          refine lv_if_eq (tgt := 117) hx hb dX12_breaks_94 (by decide) (fun c_10 => ?_) (fun c_10 => absurd (by decide) c_10)
          refine lv_iinc (v := (nI (i + 1))) (lv' := [(3, .int (nI (i + 1))), (4, .int x_3), (2, .int (nI c9)), (0, .ref h0), (1, .int p0)]) hx hb dX12_breaks_117 hl (k := 1) rfl (nI_1 i) (by decide) rfl (fun ls hl => ?_)
          refine lv_goto (tgt := 25) hx hb dX12_breaks_120 (by decide) ?_
          exact ih (i + 1) _ _ _ ls (by omega) (by omega) hg hP hD hS (lv_sub hl [0, 2, 3, 4] rfl)
      ·
        obtain rfl : r = 0 := b_f hw b_4
        refine lv_if_eq (tgt := 85) hx hb dX12_breaks_62 (by decide) (fun c_11 => ?_) (fun c_11 => absurd (by decide) c_11)
        refine lv_aload_n hx hb dX12_breaks_85 rfl (lv_at hl 3 rfl) ?_
        refine lv_iload_n hx hb dX12_breaks_86 rfl (lv_at hl 4 rfl) ?_
        refine lv_iload_n hx hb dX12_breaks_87 rfl (lv_at hl 2 rfl) ?_
        refine lv_iconst (v := 1) hx hb dX12_breaks_88 (by decide) ?_
        refine lv_iadd hx hb dX12_breaks_89 ?_
        refine lv_iload_n hx hb dX12_breaks_90 rfl (lv_at hl 1 rfl) ?_
        refine vp_callSi (va_runV (As := [.int p0, .int ((nI c9) + 1), .int (nI i)]) (rest := []) ⟨hx, hb, hml, hown, hts⟩ (m_isCell l dC dI h0 v cI cZ u p0 ((nI c9) + 1) (nI i)) (cwV 3 hts gX12_breaks_X12_isCell rfl rfl rfl (by decide +kernel) ⟨Nat.le_trans (Nat.le_of_ble_eq_true rfl) hRf, Nat.le_trans (Nat.le_of_ble_eq_true rfl) hRl⟩) ⟨pw_fb, va_recv hK hP (ci := 11) (q0 := 0) rfl rfl, fun U hU hW => ⟨rfl, pw_to hU hW hP hK hN⟩⟩ rfl rfl hl.1 rfl (lv_room (Nat.le_of_ble_eq_true rfl)) dX12_breaks_91 ⟨hRc, hRs⟩).run (fun r hw => ?_)
        rcases Bool.eq_false_or_eq_true (mCell u p0 ((nI c9) + 1) (nI i)) with b_12 | b_12
        ·
          obtain rfl : r = 1 := b_t hw b_12
          refine lv_if_eq (tgt := 117) hx hb dX12_breaks_94 (by decide) (fun c_13 => absurd c_13 (by decide)) (fun c_13 => ?_)
          refine lv_aload_n hx hb dX12_breaks_97 rfl (lv_at hl 3 rfl) ?_
          refine lv_iload hx hb dX12_breaks_98 (lv_at hl 0 rfl) ?_
          refine lv_aload_n hx hb dX12_breaks_100 rfl (lv_at hl 3 rfl) ?_
          refine va_get (D := (dC, dI)) (ci := 11) (v := .ref (v 2)) (C := RX12) (T := TX12) (N := 52) hx hb hts (by decide +kernel) hown hK hP 0 rfl rfl 2 (by decide) (hts (.fieldLink RX12 16 "PageOneModel" "cell" "[I") (by decide +kernel)) (fun _ h9 => h9) rfl dX12_breaks_101 ?_
          refine lv_iload_n hx hb dX12_breaks_104 rfl (lv_at hl 4 rfl) ?_
          refine lv_iload_n hx hb dX12_breaks_105 rfl (lv_at hl 2 rfl) ?_
          refine lv_iconst (v := 1) hx hb dX12_breaks_106 (by decide) ?_
          refine lv_iadd hx hb dX12_breaks_107 ?_
          refine lv_iload_n hx hb dX12_breaks_108 rfl (lv_at hl 1 rfl) ?_
          refine vp_callSi (va_runS (As := [.int p0, .int ((nI c9) + 1), .int (nI i)]) (rest := [.ref (v 2), .int x_3, .ref h0]) ⟨hx, hb, hml, hown, hts⟩ (m_at l dC dI p0 ((nI c9) + 1) (nI i)) (va_cwS 3 hts gX12_breaks_X12_at rfl rfl rfl (by decide +kernel) ⟨Nat.le_trans (Nat.le_of_ble_eq_true rfl) hRf, Nat.le_trans (Nat.le_of_ble_eq_true rfl) hRl⟩) ⟨pw_fb, fun U hU hW => ⟨rfl, pw_to hU hW (hP.sub (ws' := []) [] rfl) (hK.sub (tys' := []) [] rfl) hN⟩⟩ rfl rfl hl.1 rfl (lv_room (Nat.le_of_ble_eq_true rfl)) dX12_breaks_109 ⟨hRc, hRs⟩).run (fun r hw => ?_)
          obtain rfl : r = (480 * p0 + 60 * ((nI c9) + 1) + (nI i)) := hw
          refine va_iald hx hb hK hP 3 0 rfl rfl (vCell hlnu b_12) dX12_breaks_112 ?_
          refine lv_iconst (v := 1) hx hb dX12_breaks_113 (by decide) ?_
          have hFc := fr_all hD hS hA
          refine va_callv (va_runV (As := [.int x_3, .int (u.2 2 ((480 * p0 + 60 * ((nI c9) + 1) + (nI i)) : Int32).toNatClampNeg), .int 1]) (rest := []) ⟨hx, hb, hml, hown, hts⟩ (m_beside l dC dI h0 v cI cZ u x_3 (u.2 2 ((480 * p0 + 60 * ((nI c9) + 1) + (nI i)) : Int32).toNatClampNeg) 1 (fun h => by rw [ex_3, hg0.1] at h ⊢; exact hcl0 _ (vlt (vinC hp (bw7 hc8) (by omega))) h) (fun h => by rw [hg.1] at h ⊢; exact hcl0 _ (vlt (vCell hlnu b_12)) h) (fun j hj => by rw [hg.1]; exact hk0 j hj) H.size) (cwV 3 hts gX12_breaks_X12_beside rfl rfl rfl (by decide +kernel) ⟨Nat.le_trans (Nat.le_of_ble_eq_true rfl) hRf, Nat.le_trans (Nat.le_of_ble_eq_true rfl) hRl⟩) ⟨gw_fb, va_recv hK hP (ci := 11) (q0 := 0) rfl rfl, fun U hU hW => ⟨rfl, by rw [hU], pw_to hU hW hP hK hN, hD.weaken (fun _ _ _ _ => trivial)⟩⟩ rfl rfl hl.1 rfl (lv_room (Nat.le_of_ble_eq_true rfl)) dX12_breaks_114 ⟨hRc, hRs⟩) hS (fun q _ h => hFc q h) hFc (fun u_14 t H1 locs ht hvm hw hB hz1 hk1 hS => ?_)
          obtain ⟨hP, hD1⟩ := hB
          rw [ht] at hP
          have hD := hD1.weaken (fun _ q _ h => hFc q.1 h)
          generalize H1 = H at hP hS ⊢
          have hg := mE_tr hg hw
          refine lv_iinc (v := (nI (i + 1))) (lv' := [(3, .int (nI (i + 1))), (4, .int x_3), (2, .int (nI c9)), (0, .ref h0), (1, .int p0)]) hx hb dX12_breaks_117 hl (k := 1) rfl (nI_1 i) (by decide) rfl (fun ls hl => ?_)
          refine lv_goto (tgt := 25) hx hb dX12_breaks_120 (by decide) ?_
          exact ih (i + 1) _ _ _ ls (by omega) (by omega) hg hP hD hS (lv_sub hl [0, 2, 3, 4] rfl)
        ·
          obtain rfl : r = 0 := b_f hw b_12
          refine lv_if_eq (tgt := 117) hx hb dX12_breaks_94 (by decide) (fun c_15 => ?_) (fun c_15 => absurd (by decide) c_15)
          refine lv_iinc (v := (nI (i + 1))) (lv' := [(3, .int (nI (i + 1))), (4, .int x_3), (2, .int (nI c9)), (0, .ref h0), (1, .int p0)]) hx hb dX12_breaks_117 hl (k := 1) rfl (nI_1 i) (by decide) rfl (fun ls hl => ?_)
          refine lv_goto (tgt := 25) hx hb dX12_breaks_120 (by decide) ?_
          exact ih (i + 1) _ _ _ ls (by omega) (by omega) hg hP hD hS (lv_sub hl [0, 2, 3, 4] rfl)
set_option maxHeartbeats 4000000 in
set_option maxRecDepth 100000 in
theorem m_br_out {p : Program} {l : Launch} {e : Env} {R : Room} {s : State} {m : MethodId} {args : Array Value} {below : List Frame} {meth : Method} {c : Code} {Q : State → Prop} {cells slots : Nat} {dC : Nat → ClassId} {dI : Nat → Nat → Nat} {h0 : Nat} {v : Nat → Nat} {cI cZ : ClassId} {u0 : mS} {p0 : Int32} (hp : bw p0 0 11 = true) (hln0 : ∀ j, j < 96 → bw (u0.2 0 j) 0 60 = true) (hcl0 : ∀ j, j < 5760 → mThing (u0.2 2 j) = true → bw (u0.2 2 j) 0 79 = true) (hk0 : ∀ j, j < 80 → u0.2 4 j = 3 → bw (u0.2 10 j) 0 9 = true) {A : Nat → Prop} {H0 : Heap} (hx : p.tables.exec = Jvm.exec) (hb : c.code = cX12_breaks) (hml : c.maxLocals = 5) (hts : ∀ w ∈ wsX12_breaks, w.before args s = true) (hown : s.vm.findClass RX12 = some m.cls) (hN : NN s) (hK : va_K (dC, dI) vwCl [(cI, .int), (cZ, .boolean)] s) (hRf : 3 ≤ R.frames) (hRl : 65 ≤ R.locals) (hRc : cells ≤ R.cells) (hRs : slots ≤ R.slots) (hA : ∀ q : Nat, H0.size ≤ q → A q) (kx : ∀ (u : mS) (H : Heap) (locs : List Loc) (ls : Array Slot), mE u0 u → va_P (dC, dI) vwCl (mW h0 v cI cZ u) H → va_D A (mW h0 v cI cZ u) → va_S A H0 H locs → lv_has ls 5 [(2, .int (nI 8)), (0, .ref h0), (1, .int p0)] → W p l e R s m args below meth c H locs cells slots Q (F0 m 129 ls [])) : ∀ (k i : Nat) (u : mS) (H : Heap) (locs : List Loc) (ls : Array Slot), i ≤ 8 → 8 - i < k → mE u0 u → va_P (dC, dI) vwCl (mW h0 v cI cZ u) H → va_D A (mW h0 v cI cZ u) → va_S A H0 H locs → lv_has ls 5 [(2, .int (nI i)), (0, .ref h0), (1, .int p0)] → W p l e R s m args below meth c H locs cells slots Q (F0 m 17 ls []) := by
  intro k
  induction k with
  | zero => intro i u H locs ls h1 h2; exact absurd h2 (Nat.not_lt_zero _)
  | succ k ih =>
    intro i u H locs ls hi hk hg hP hD hS hl
    refine lv_iload_n hx hb dX12_breaks_17 rfl (lv_at hl 0 rfl) ?_
    refine lv_bipush (v := 8) hx hb dX12_breaks_18 (by decide) ?_
    refine lv_icmp_ge (tgt := 129) hx hb dX12_breaks_20 (by decide) (fun c_1 => ?_) (fun c_1 => ?_)
    ·
      have hie : i = 8 := lp_eq rfl (by decide) hi c_1
      subst hie
      exact kx _ _ _ ls hg hP hD hS (lv_sub hl [0, 1, 2] rfl)
    ·
      have hlt : i < 8 := lp_lt rfl (by decide) hi c_1
      have hlnu : ∀ j, j < 96 → bw (u.2 0 j) 0 60 = true := fun j hj => by rw [hg.1]; exact hln0 j hj
      refine lv_iconst (v := 0) hx hb dX12_breaks_23 (by decide) ?_
      refine lv_istore_n (lv' := [(3, .int 0), (2, .int (nI i)), (0, .ref h0), (1, .int p0)]) hx hb dX12_breaks_24 rfl hl (by decide) rfl (fun ls hl => ?_)
      obtain ⟨eK, eK2, eK3⟩ := nI_of_bw (hln0 _ (vlt (vin8 hp (bw7 hlt))))
      have h60 : (60 : Int32).toInt = 60 := rfl
      refine m_br_in (u0 := u0) (c9 := i) (K := (u0.2 0 (8 * p0 + nI i).toNatClampNeg).toNatClampNeg) hp hln0 hcl0 hk0 hlt eK (by omega) hx hb hml hts hown hN hK hRf hRl hRc hRs hA (fun u2 H locs ls hg hP hD hS hl => ?_) _ 0 u _ _ ls (Nat.zero_le _) (Nat.lt_succ_self _) hg hP hD hS (lv_sub hl [0, 1, 2, 3] rfl)
      refine lv_iinc (v := (nI (i + 1))) (lv' := [(2, .int (nI (i + 1))), (3, .int (nI (u0.2 0 (8 * p0 + nI i).toNatClampNeg).toNatClampNeg)), (0, .ref h0), (1, .int p0)]) hx hb dX12_breaks_123 hl (k := 1) rfl (nI_1 i) (by decide) rfl (fun ls hl => ?_)
      refine lv_goto (tgt := 17) hx hb dX12_breaks_126 (by decide) ?_
      exact ih (i + 1) _ _ _ ls (by omega) (by omega) hg hP hD hS (lv_sub hl [0, 2, 3] rfl)
set_option maxHeartbeats 4000000 in
set_option maxRecDepth 100000 in
theorem m_br_k {p : Program} {l : Launch} {e : Env} {R : Room} {s : State} {m : MethodId} {args : Array Value} {below : List Frame} {meth : Method} {c : Code} {Q : State → Prop} {cells slots : Nat} {dC : Nat → ClassId} {dI : Nat → Nat → Nat} {h0 : Nat} {v : Nat → Nat} {cI cZ : ClassId} {H : Heap} {locs : List Loc} {u : mS} (hx : p.tables.exec = Jvm.exec) (hb : c.code = cX12_breaks) (hml : c.maxLocals = 5) (hts : ∀ w ∈ wsX12_breaks, w.before args s = true) (hown : s.vm.findClass RX12 = some m.cls) (hN : NN s) (hK : va_K (dC, dI) vwCl [(cI, .int), (cZ, .boolean)] s) (hP : va_P (dC, dI) vwCl (mW h0 v cI cZ u) H) {p0 : Int32} {j9 K : Nat} (hj9 : j9 < 80) (hK6 : K ≤ 6) (eK : u.2 22 (nI j9).toNatClampNeg = nI K) (kx : ∀ (a : Int32) (ls : Array Slot), (a = 0 ∨ a = 1) → lv_has ls 5 [(4, .int (nI K)), (3, .int a), (2, .int (nI j9)), (0, .ref h0), (1, .int p0)] → W p l e R s m args below meth c H locs cells slots Q (F0 m 187 ls [])) : ∀ (k i : Nat) (a : Int32) (ls : Array Slot), i ≤ K → K - i < k → (a = 0 ∨ a = 1) → lv_has ls 5 [(4, .int (nI i)), (3, .int a), (2, .int (nI j9)), (0, .ref h0), (1, .int p0)] → W p l e R s m args below meth c H locs cells slots Q (F0 m 144 ls []) := by
  intro k
  induction k with
  | zero => intro i a ls h1 h2; exact absurd h2 (Nat.not_lt_zero _)
  | succ k ih =>
    intro i a ls hi hk hg hl
    refine lv_iload hx hb dX12_breaks_144 (lv_at hl 0 rfl) ?_
    refine lv_aload_n hx hb dX12_breaks_146 rfl (lv_at hl 3 rfl) ?_
    refine va_get (D := (dC, dI)) (ci := 11) (v := .ref (v 22)) (C := RX12) (T := TX12) (N := 52) hx hb hts (by decide +kernel) hown hK hP 0 rfl rfl 22 (by decide) (hts (.fieldLink RX12 74 "PageOneModel" "pieces" "[I") (by decide +kernel)) (fun _ h9 => h9) rfl dX12_breaks_147 ?_
    refine lv_iload_n hx hb dX12_breaks_150 rfl (lv_at hl 2 rfl) ?_
    refine va_iald hx hb hK hP 22 0 rfl rfl (vp_in_nI hj9 (by decide)) dX12_breaks_151 ?_
    refine lv_topi (fun y_1 ey_1 => ?_)
    obtain rfl : y_1 = (nI K) := ey_1.trans (eK)
    refine lv_icmp_ge (tgt := 187) hx hb dX12_breaks_152 (by decide) (fun c_2 => ?_) (fun c_2 => ?_)
    ·
      have hie : i = K := lp_eq rfl (by omega) hi c_2
      rw [hie] at hl
      exact kx _ ls hg (lv_sub hl [0, 1, 2, 3, 4] rfl)
    ·
      have hlt : i < K := lp_lt rfl (by omega) hi c_2
      refine lv_iload_n hx hb dX12_breaks_155 rfl (lv_at hl 1 rfl) ?_
      refine lv_if_ne (tgt := 175) hx hb dX12_breaks_156 (by decide) (fun c_3 => ?_) (fun c_3 => ?_)
      ·
        refine lv_iconst (v := 1) hx hb dX12_breaks_175 (by decide) ?_
        refine lv_goto (tgt := 180) hx hb dX12_breaks_176 (by decide) ?_
        refine lv_istore_n (lv' := [(3, .int 1), (4, .int (nI i)), (2, .int (nI j9)), (0, .ref h0), (1, .int p0)]) hx hb dX12_breaks_180 rfl hl (by decide) rfl (fun ls hl => ?_)
        refine lv_iinc (v := (nI (i + 1))) (lv' := [(4, .int (nI (i + 1))), (3, .int 1), (2, .int (nI j9)), (0, .ref h0), (1, .int p0)]) hx hb dX12_breaks_181 hl (k := 1) rfl (nI_1 i) (by decide) rfl (fun ls hl => ?_)
        refine lv_goto (tgt := 144) hx hb dX12_breaks_184 (by decide) ?_
        exact ih (i + 1) _ ls (by omega) (by omega) (by decide) (lv_sub hl [0, 1, 2, 3, 4] rfl)
      ·
        refine lv_aload_n hx hb dX12_breaks_159 rfl (lv_at hl 3 rfl) ?_
        refine va_get (D := (dC, dI)) (ci := 11) (v := .ref (v 23)) (C := RX12) (T := TX12) (N := 52) hx hb hts (by decide +kernel) hown hK hP 0 rfl rfl 23 (by decide) (hts (.fieldLink RX12 77 "PageOneModel" "pPage" "[I") (by decide +kernel)) (fun _ h9 => h9) rfl dX12_breaks_160 ?_
        refine lv_bipush (v := 6) hx hb dX12_breaks_163 (by decide) ?_
        refine lv_iload_n hx hb dX12_breaks_165 rfl (lv_at hl 2 rfl) ?_
        refine lv_imul hx hb dX12_breaks_166 ?_
        refine lv_iload hx hb dX12_breaks_167 (lv_at hl 0 rfl) ?_
        refine lv_iadd hx hb dX12_breaks_169 ?_
        refine va_iald hx hb hK hP 23 0 rfl rfl (v6n hj9 (by omega)) dX12_breaks_170 ?_
        refine lv_iload_n hx hb dX12_breaks_171 rfl (lv_at hl 4 rfl) ?_
        refine lv_icmp_ne (tgt := 179) hx hb dX12_breaks_172 (by decide) (fun c_4 => ?_) (fun c_4 => ?_)
        ·
          refine lv_iconst (v := 0) hx hb dX12_breaks_179 (by decide) ?_
          refine lv_istore_n (lv' := [(3, .int 0), (4, .int (nI i)), (2, .int (nI j9)), (0, .ref h0), (1, .int p0)]) hx hb dX12_breaks_180 rfl hl (by decide) rfl (fun ls hl => ?_)
          refine lv_iinc (v := (nI (i + 1))) (lv' := [(4, .int (nI (i + 1))), (3, .int 0), (2, .int (nI j9)), (0, .ref h0), (1, .int p0)]) hx hb dX12_breaks_181 hl (k := 1) rfl (nI_1 i) (by decide) rfl (fun ls hl => ?_)
          refine lv_goto (tgt := 144) hx hb dX12_breaks_184 (by decide) ?_
          exact ih (i + 1) _ ls (by omega) (by omega) (by decide) (lv_sub hl [0, 1, 2, 3, 4] rfl)
        ·
          refine lv_iconst (v := 1) hx hb dX12_breaks_175 (by decide) ?_
          refine lv_goto (tgt := 180) hx hb dX12_breaks_176 (by decide) ?_
          refine lv_istore_n (lv' := [(3, .int 1), (4, .int (nI i)), (2, .int (nI j9)), (0, .ref h0), (1, .int p0)]) hx hb dX12_breaks_180 rfl hl (by decide) rfl (fun ls hl => ?_)
          refine lv_iinc (v := (nI (i + 1))) (lv' := [(4, .int (nI (i + 1))), (3, .int 1), (2, .int (nI j9)), (0, .ref h0), (1, .int p0)]) hx hb dX12_breaks_181 hl (k := 1) rfl (nI_1 i) (by decide) rfl (fun ls hl => ?_)
          refine lv_goto (tgt := 144) hx hb dX12_breaks_184 (by decide) ?_
          exact ih (i + 1) _ ls (by omega) (by omega) (by decide) (lv_sub hl [0, 1, 2, 3, 4] rfl)
set_option maxHeartbeats 4000000 in
set_option maxRecDepth 100000 in
theorem m_br_it {p : Program} {l : Launch} {e : Env} {R : Room} {s : State} {m : MethodId} {args : Array Value} {below : List Frame} {meth : Method} {c : Code} {Q : State → Prop} {cells slots : Nat} {dC : Nat → ClassId} {dI : Nat → Nat → Nat} {h0 : Nat} {v : Nat → Nat} {cI cZ : ClassId} {u0 : mS} {p0 : Int32} (hp : bw p0 0 11 = true) (hln0 : ∀ j, j < 96 → bw (u0.2 0 j) 0 60 = true) (hcl0 : ∀ j, j < 5760 → mThing (u0.2 2 j) = true → bw (u0.2 2 j) 0 79 = true) (hk0 : ∀ j, j < 80 → u0.2 4 j = 3 → bw (u0.2 10 j) 0 9 = true) {M : Nat} (hM8 : M ≤ 80) (eM : u0.1 3 = nI M) (hpc0 : ∀ j, j < 80 → bw (u0.2 22 j) 0 6 = true) (hsl0 : ∀ j, j < 480 → ∃ X D : Nat, u0.2 24 j = nI X ∧ u0.2 26 j = nI D ∧ X + D ≤ 8) {A : Nat → Prop} {H0 : Heap} (hx : p.tables.exec = Jvm.exec) (hb : c.code = cX12_breaks) (hml : c.maxLocals = 5) (hts : ∀ w ∈ wsX12_breaks, w.before args s = true) (hown : s.vm.findClass RX12 = some m.cls) (hN : NN s) (hK : va_K (dC, dI) vwCl [(cI, .int), (cZ, .boolean)] s) (hRf : 4 ≤ R.frames) (hRl : 90 ≤ R.locals) (hRc : cells ≤ R.cells) (hRs : slots ≤ R.slots) (hA : ∀ q : Nat, H0.size ≤ q → A q) (kx : ∀ (u : mS) (H : Heap) (locs : List Loc) (ls : Array Slot), mE u0 u → va_P (dC, dI) vwCl (mW h0 v cI cZ u) H → va_D A (mW h0 v cI cZ u) → va_S A H0 H locs → lv_has ls 5 [(2, .int (nI M)), (0, .ref h0), (1, .int p0)] → W p l e R s m args below meth c H locs cells slots Q (F0 m 256 ls [])) : ∀ (k i : Nat) (u : mS) (H : Heap) (locs : List Loc) (ls : Array Slot), i ≤ M → M - i < k → mE u0 u → va_P (dC, dI) vwCl (mW h0 v cI cZ u) H → va_D A (mW h0 v cI cZ u) → va_S A H0 H locs → lv_has ls 5 [(2, .int (nI i)), (0, .ref h0), (1, .int p0)] → W p l e R s m args below meth c H locs cells slots Q (F0 m 131 ls []) := by
  intro k
  induction k with
  | zero => intro i u H locs ls h1 h2; exact absurd h2 (Nat.not_lt_zero _)
  | succ k ih =>
    intro i u H locs ls hi hk hg hP hD hS hl
    refine lv_iload_n hx hb dX12_breaks_131 rfl (lv_at hl 0 rfl) ?_
    refine lv_aload_n hx hb dX12_breaks_132 rfl (lv_at hl 1 rfl) ?_
    refine va_get (D := (dC, dI)) (ci := 11) (v := .int (u.1 3)) (C := RX12) (T := TX12) (N := 52) hx hb hts (by decide +kernel) hown hK hP 0 rfl rfl 3 (by decide) (hts (.fieldLink RX12 147 "PageOneModel" "items" "I") (by decide +kernel)) (fun _ h9 => h9) rfl dX12_breaks_133 ?_
    refine lv_topi (fun y_1 ey_1 => ?_)
    obtain rfl : y_1 = (nI M) := ey_1.trans ((by rw [hg.2 3 (by decide) (by decide) (by decide)]; exact eM))
    refine lv_icmp_ge (tgt := 256) hx hb dX12_breaks_136 (by decide) (fun c_2 => ?_) (fun c_2 => ?_)
    ·
      have hie : i = M := lp_eq rfl (by omega) hi c_2
      rw [hie] at hl
      exact kx _ _ _ ls hg hP hD hS (lv_sub hl [0, 1, 2] rfl)
    ·
      have hlt : i < M := lp_lt rfl (by omega) hi c_2
      have hlnu : ∀ j, j < 96 → bw (u.2 0 j) 0 60 = true := fun j hj => by rw [hg.1]; exact hln0 j hj
      refine lv_iconst (v := 0) hx hb dX12_breaks_139 (by decide) ?_
      refine lv_istore_n (lv' := [(3, .int 0), (2, .int (nI i)), (0, .ref h0), (1, .int p0)]) hx hb dX12_breaks_140 rfl hl (by decide) rfl (fun ls hl => ?_)
      refine lv_iconst (v := 0) hx hb dX12_breaks_141 (by decide) ?_
      refine lv_istore (lv' := [(4, .int 0), (3, .int 0), (2, .int (nI i)), (0, .ref h0), (1, .int p0)]) hx hb dX12_breaks_142 hl (by decide) rfl (fun ls hl => ?_)
      obtain ⟨eK, eK2, eK3⟩ := nI_of_bw (hpc0 (nI i).toNatClampNeg (by rw [nI_clamp (by omega)]; omega))
      have h6 : (6 : Int32).toInt = 6 := rfl
      refine w_cut (X := fun R cells slots Q args => ∀ (uJ221 : mS) (H : Heap) (locs : List Loc) (a : Int32) (ls : Array Slot), mE u0 uJ221 → va_P (dC, dI) vwCl (mW h0 v cI cZ uJ221) H → va_D A (mW h0 v cI cZ uJ221) → va_S A H0 H locs → lv_has ls 5 [(3, .int a), (2, .int (nI i)), (0, .ref h0), (1, .int p0)] → W p l e R s m args below meth c H locs cells slots Q (F0 m 221 ls [])) ?_ (fun kJ221 => ?_)
      ·
        intro uJ221 H locs a ls hg hP hD hS hl
        refine lv_iload_n hx hb dX12_breaks_221 rfl (lv_at hl 0 rfl) ?_
        refine lv_if_eq (tgt := 250) hx hb dX12_breaks_222 (by decide) (fun c_3 => ?_) (fun c_3 => ?_)
        ·
          refine lv_iinc (v := (nI (i + 1))) (lv' := [(2, .int (nI (i + 1))), (3, .int a), (0, .ref h0), (1, .int p0)]) hx hb dX12_breaks_250 hl (k := 1) rfl (nI_1 i) (by decide) rfl (fun ls hl => ?_)
          refine lv_goto (tgt := 131) hx hb dX12_breaks_253 (by decide) ?_
          exact ih (i + 1) _ _ _ ls (by omega) (by omega) hg hP hD hS (lv_sub hl [0, 2, 3] rfl)
        ·
          refine lv_aload_n hx hb dX12_breaks_225 rfl (lv_at hl 2 rfl) ?_
          refine va_get (D := (dC, dI)) (ci := 11) (v := .ref (v 4)) (C := RX12) (T := TX12) (N := 52) hx hb hts (by decide +kernel) hown hK hP 0 rfl rfl 4 (by decide) (hts (.fieldLink RX12 19 "PageOneModel" "kind" "[I") (by decide +kernel)) (fun _ h9 => h9) rfl dX12_breaks_226 ?_
          refine lv_iload_n hx hb dX12_breaks_229 rfl (lv_at hl 1 rfl) ?_
          refine va_iald hx hb hK hP 4 0 rfl rfl (vp_in_nI (by omega) (by decide)) dX12_breaks_230 ?_
          refine lv_iconst (v := 1) hx hb dX12_breaks_231 (by decide) ?_
          refine lv_icmp_ne (tgt := 250) hx hb dX12_breaks_232 (by decide) (fun c_4 => ?_) (fun c_4 => ?_)
          ·
            refine lv_iinc (v := (nI (i + 1))) (lv' := [(2, .int (nI (i + 1))), (3, .int a), (0, .ref h0), (1, .int p0)]) hx hb dX12_breaks_250 hl (k := 1) rfl (nI_1 i) (by decide) rfl (fun ls hl => ?_)
            refine lv_goto (tgt := 131) hx hb dX12_breaks_253 (by decide) ?_
            exact ih (i + 1) _ _ _ ls (by omega) (by omega) hg hP hD hS (lv_sub hl [0, 2, 3] rfl)
          ·
            refine lv_aload_n hx hb dX12_breaks_235 rfl (lv_at hl 2 rfl) ?_
            refine lv_iload_n hx hb dX12_breaks_236 rfl (lv_at hl 1 rfl) ?_
            obtain ⟨X, D, hX1, hX2, hX3⟩ := hsl0 (6 * nI i).toNatClampNeg (vlt (v60 (bw79 (by omega)) rfl))
            refine vp_callSi (va_runV (As := [.int (nI i)]) (rest := []) ⟨hx, hb, hml, hown, hts⟩ (m_hasStory l dC dI h0 v cI cZ uJ221 (nI i) X D (bw79 (by omega)) hX3 (fun j hj => by rw [hg.1]; exact hln0 j hj) (by rw [hg.1]; exact hX1) (by rw [hg.1]; exact hX2)) (cwV 1 hts gX12_breaks_X12_hasStory rfl rfl rfl (by decide +kernel) ⟨Nat.le_trans (Nat.le_of_ble_eq_true rfl) hRf, Nat.le_trans (Nat.le_of_ble_eq_true rfl) hRl⟩) ⟨pw_fb, va_recv hK hP (ci := 11) (q0 := 0) rfl rfl, fun U hU hW => ⟨rfl, pw_to hU hW hP hK hN⟩⟩ rfl rfl hl.1 rfl (lv_room (Nat.le_of_ble_eq_true rfl)) dX12_breaks_237 ⟨hRc, hRs⟩).run (fun r hw => ?_)
            generalize r = z_5 at hw ⊢
            refine lv_if_ne (tgt := 250) hx hb dX12_breaks_240 (by decide) (fun c_6 => ?_) (fun c_6 => ?_)
            ·
              refine lv_iinc (v := (nI (i + 1))) (lv' := [(2, .int (nI (i + 1))), (3, .int a), (0, .ref h0), (1, .int p0)]) hx hb dX12_breaks_250 hl (k := 1) rfl (nI_1 i) (by decide) rfl (fun ls hl => ?_)
              refine lv_goto (tgt := 131) hx hb dX12_breaks_253 (by decide) ?_
              exact ih (i + 1) _ _ _ ls (by omega) (by omega) hg hP hD hS (lv_sub hl [0, 2, 3] rfl)
            ·
              refine lv_aload_n hx hb dX12_breaks_243 rfl (lv_at hl 2 rfl) ?_
              refine lv_iconst (v := 5) hx hb dX12_breaks_244 (by decide) ?_
              refine lv_iload_n hx hb dX12_breaks_245 rfl (lv_at hl 1 rfl) ?_
              refine lv_iconst (v := (-1)) hx hb dX12_breaks_246 (by decide) ?_
              have hFc := fr_all hD hS hA
              refine va_callv (va_runV (As := [.int 5, .int (nI i), .int (-1)]) (rest := []) ⟨hx, hb, hml, hown, hts⟩ (m_wrongs l dC dI h0 v cI cZ uJ221 5 (nI i) (-1) H.size) (cwV 3 hts gX12_breaks_X12_wrongs rfl rfl rfl (by decide +kernel) ⟨Nat.le_trans (Nat.le_of_ble_eq_true rfl) hRf, Nat.le_trans (Nat.le_of_ble_eq_true rfl) hRl⟩) ⟨gw_fb, va_recv hK hP (ci := 11) (q0 := 0) rfl rfl, fun U hU hW => ⟨rfl, by rw [hU], pw_to hU hW hP hK hN, hD.weaken (fun _ _ _ _ => trivial)⟩⟩ rfl rfl hl.1 rfl (lv_room (Nat.le_of_ble_eq_true rfl)) dX12_breaks_247 ⟨hRc, hRs⟩) hS (fun q _ h => hFc q h) hFc (fun u_7 t H1 locs ht hvm hw hB hz1 hk1 hS => ?_)
              obtain ⟨hP, hD1⟩ := hB
              rw [ht] at hP
              have hD := hD1.weaken (fun _ q _ h => hFc q.1 h)
              generalize H1 = H at hP hS ⊢
              have hg := mE_wr hg hw
              refine lv_iinc (v := (nI (i + 1))) (lv' := [(2, .int (nI (i + 1))), (3, .int a), (0, .ref h0), (1, .int p0)]) hx hb dX12_breaks_250 hl (k := 1) rfl (nI_1 i) (by decide) rfl (fun ls hl => ?_)
              refine lv_goto (tgt := 131) hx hb dX12_breaks_253 (by decide) ?_
              exact ih (i + 1) _ _ _ ls (by omega) (by omega) hg hP hD hS (lv_sub hl [0, 2, 3] rfl)
      ·
        refine m_br_k (j9 := i) (K := (u0.2 22 (nI i).toNatClampNeg).toNatClampNeg) hx hb hml hts hown hN hK hP (by omega) (by omega) (by rw [hg.1]; exact eK) (fun a ls hg2 hl => ?_) _ 0 0 ls (Nat.zero_le _) (Nat.lt_succ_self _) (Or.inl rfl) (lv_sub hl [0, 1, 2, 3, 4] rfl)
        refine lv_iload_n hx hb dX12_breaks_187 rfl (lv_at hl 1 rfl) ?_
        refine lv_if_eq (tgt := 221) hx hb dX12_breaks_188 (by decide) (fun c_8 => ?_) (fun c_8 => ?_)
        ·
          exact kJ221 _ _ _ _ ls hg hP hD hS (lv_sub hl [1, 2, 3, 4] rfl)
        ·
          refine lv_aload_n hx hb dX12_breaks_191 rfl (lv_at hl 3 rfl) ?_
          refine va_get (D := (dC, dI)) (ci := 11) (v := .ref (v 4)) (C := RX12) (T := TX12) (N := 52) hx hb hts (by decide +kernel) hown hK hP 0 rfl rfl 4 (by decide) (hts (.fieldLink RX12 19 "PageOneModel" "kind" "[I") (by decide +kernel)) (fun _ h9 => h9) rfl dX12_breaks_192 ?_
          refine lv_iload_n hx hb dX12_breaks_195 rfl (lv_at hl 2 rfl) ?_
          refine va_iald hx hb hK hP 4 0 rfl rfl (vp_in_nI (by omega) (by decide)) dX12_breaks_196 ?_
          refine lv_if_ne (tgt := 221) hx hb dX12_breaks_197 (by decide) (fun c_9 => ?_) (fun c_9 => ?_)
          ·
            exact kJ221 _ _ _ _ ls hg hP hD hS (lv_sub hl [1, 2, 3, 4] rfl)
          ·
            refine lv_aload_n hx hb dX12_breaks_200 rfl (lv_at hl 3 rfl) ?_
            refine lv_iload_n hx hb dX12_breaks_201 rfl (lv_at hl 2 rfl) ?_
            refine vp_callSi (va_runV (As := [.int (nI i)]) (rest := []) ⟨hx, hb, hml, hown, hts⟩ (m_standing l dC dI h0 v cI cZ u (nI i) (bw79 (by omega)) (by rw [hg.1]; exact hpc0 _ (by rw [nI_clamp (by omega)]; omega))) (cwV 1 hts gX12_breaks_X12_standing rfl rfl rfl (by decide +kernel) ⟨Nat.le_trans (Nat.le_of_ble_eq_true rfl) hRf, Nat.le_trans (Nat.le_of_ble_eq_true rfl) hRl⟩) ⟨pw_fb, va_recv hK hP (ci := 11) (q0 := 0) rfl rfl, fun U hU hW => ⟨rfl, pw_to hU hW hP hK hN⟩⟩ rfl rfl hl.1 rfl (lv_room (Nat.le_of_ble_eq_true rfl)) dX12_breaks_202 ⟨hRc, hRs⟩).run (fun r hw => ?_)
            obtain rfl : r = (mStanding u (nI i)) := hw
            refine lv_aload_n hx hb dX12_breaks_205 rfl (lv_at hl 3 rfl) ?_
            refine va_get (D := (dC, dI)) (ci := 11) (v := .ref (v 5)) (C := RX12) (T := TX12) (N := 52) hx hb hts (by decide +kernel) hown hK hP 0 rfl rfl 5 (by decide) (hts (.fieldLink RX12 22 "PageOneModel" "least" "[I") (by decide +kernel)) (fun _ h9 => h9) rfl dX12_breaks_206 ?_
            refine lv_iload_n hx hb dX12_breaks_209 rfl (lv_at hl 2 rfl) ?_
            refine va_iald hx hb hK hP 5 0 rfl rfl (vp_in_nI (by omega) (by decide)) dX12_breaks_210 ?_
            refine lv_icmp_ge (tgt := 221) hx hb dX12_breaks_211 (by decide) (fun c_10 => ?_) (fun c_10 => ?_)
            ·
              exact kJ221 _ _ _ _ ls hg hP hD hS (lv_sub hl [1, 2, 3, 4] rfl)
            ·
              refine lv_aload_n hx hb dX12_breaks_214 rfl (lv_at hl 3 rfl) ?_
              refine lv_iconst (v := 4) hx hb dX12_breaks_215 (by decide) ?_
              refine lv_iload_n hx hb dX12_breaks_216 rfl (lv_at hl 2 rfl) ?_
              refine lv_iconst (v := (-1)) hx hb dX12_breaks_217 (by decide) ?_
              have hFc := fr_all hD hS hA
              refine va_callv (va_runV (As := [.int 4, .int (nI i), .int (-1)]) (rest := []) ⟨hx, hb, hml, hown, hts⟩ (m_wrongs l dC dI h0 v cI cZ u 4 (nI i) (-1) H.size) (cwV 3 hts gX12_breaks_X12_wrongs rfl rfl rfl (by decide +kernel) ⟨Nat.le_trans (Nat.le_of_ble_eq_true rfl) hRf, Nat.le_trans (Nat.le_of_ble_eq_true rfl) hRl⟩) ⟨gw_fb, va_recv hK hP (ci := 11) (q0 := 0) rfl rfl, fun U hU hW => ⟨rfl, by rw [hU], pw_to hU hW hP hK hN, hD.weaken (fun _ _ _ _ => trivial)⟩⟩ rfl rfl hl.1 rfl (lv_room (Nat.le_of_ble_eq_true rfl)) dX12_breaks_218 ⟨hRc, hRs⟩) hS (fun q _ h => hFc q h) hFc (fun u_11 t H1 locs ht hvm hw hB hz1 hk1 hS => ?_)
              obtain ⟨hP, hD1⟩ := hB
              rw [ht] at hP
              have hD := hD1.weaken (fun _ q _ h => hFc q.1 h)
              generalize H1 = H at hP hS ⊢
              have hg := mE_wr hg hw
              exact kJ221 _ _ _ _ ls hg hP hD hS (lv_sub hl [1, 2, 3, 4] rfl)
