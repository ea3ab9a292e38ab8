set_option maxHeartbeats 4000000 in
set_option maxRecDepth 100000 in
theorem x_keep (l : Launch) (dC : Nat → ClassId) (dI : Nat → Nat → Nat) (q : Nat → ClassId) (h0 : Nat) (d : Nat → Nat) (k : Nat → Int32) (z : gS) (f : xF) (hI : xI q h0 d k z f) (c0 : Nat) (hc0 : tg z c0 23) (sz : Nat) : Met l yX11_keep wsX11_keep ({ frames := 1, cells := 0, slots := 0, locals := 20 }) (va_Pc [.ref h0, .ref c0] (fun U => U.heap.size = sz ∧ PX dC dI (va_pl z.1 f) (xT q) U ∧ va_D (fun _ => True) (va_pl z.1 f))) (va_Qv (fun (w : xU) => (∀ j, j ≠ 1 → w.1 j = k j) ∧ w.2.1 = z ∧ xI q h0 d w.1 z w.2.2) (fun (w : xU) t => va_P (dC, dI) vwCl (va_pl w.2.1.1 w.2.2) t.heap ∧ va_D (va_A (va_pl z.1 f) sz) (va_pl w.2.1.1 w.2.2)) (va_A (va_pl z.1 f) sz)) 0 0 (va_A (va_pl z.1 f) sz) := by
  refine Met.ofW (cc := cX11_keep) (maxL := 2) (ret := none) (by decide) rfl ?_
  intro p e s m args below meth c s₁ B hml hv
  obtain ⟨rfl, hsz, ⟨⟨hP, hK, hN⟩, hXN⟩, hD0⟩ := hv
  have hx := B.exec
  have hb := B.bytes
  have hr := B.returns
  have hts := atoms_spec (ws := wsX11_keep) B.pre
  have hown : s.vm.findClass RX11 = some m.cls := findClass_of_methodNamed B.named
  have hlocks := B.notSynchronized
  subst hsz
  have hD := hD0.self (sz := s.heap.size)
  generalize hAe : va_A (va_pl z.1 f) s.heap.size = A at hD ⊢
  have hA : ∀ q : Nat, s.heap.size ≤ q → A q := fun q h => by rw [← hAe]; exact Or.inr h
  have hS : va_S A s.heap s.heap [] := va_S.rf
  have hl := lv_entry ([.ref h0, .ref c0]) (n := 2) (Nat.le_of_ble_eq_true rfl)
  rw [lg_entry_eq]
  generalize (lg_sl ([.ref h0, .ref c0]) ++ List.replicate (2 - (lg_sl ([.ref h0, .ref c0])).length) Slot.unset).toArray = ls at hl ⊢
  have hl : lv_has ls 2 [(0, .ref h0), (1, .ref c0)] := hl
  refine lv_aload_n hx hb dX11_keep_0 rfl (lv_at hl 0 rfl) ?_
  obtain ⟨kk_1, hk_2⟩ := pl_at hI.2.1.1.1 hI.2.2.2.1.1
  refine vp_callSi (va_runV (As := []) (rest := []) ⟨hx, hb, hml, hown, hts⟩ (x_canAct l dC dI q h0 d k z f hI) (cwV 0 hts gX11_keep_X11_canAct rfl rfl rfl (by decide +kernel) ⟨Nat.le_of_ble_eq_true rfl, Nat.le_of_ble_eq_true rfl⟩) ⟨px_fb, va_recv hK hP (ci := 10) (q0 := kk_1) rfl hk_2, fun U hU hW => ⟨rfl, px_to hU hW hP hK hN hXN⟩⟩ rfl rfl hl.1 rfl (lv_room (Nat.le_of_ble_eq_true rfl)) dX11_keep_1 ⟨Nat.le_of_ble_eq_true rfl, Nat.le_of_ble_eq_true rfl⟩).run (fun r hw => ?_)
  rcases hw with hw | ⟨hw, hact⟩
  ·
    subst hw
    refine lv_if_eq (tgt := 27) hx hb dX11_keep_4 (by decide) (fun c_3 => ?_) (fun c_3 => absurd (by decide) c_3)
    exact W.vret hx hb hr (fun t ht hW => ⟨⟨(k, z, f), rfl, ⟨fun j hj => rfl, rfl, hI⟩, by rw [ht]; exact hP, hD⟩, hS.F ht⟩) hS.2.2 dX11_keep_27
  ·
    subst hw
    refine lv_if_eq (tgt := 27) hx hb dX11_keep_4 (by decide) (fun c_4 => absurd c_4 (by decide)) (fun c_4 => ?_)
    refine lv_aload_n hx hb dX11_keep_7 rfl (lv_at hl 0 rfl) ?_
    obtain ⟨kk_5, hk_6⟩ := pl_at hI.2.1.1.1 hI.2.2.2.1.1
    refine va_get (D := (dC, dI)) (ci := 10) (v := .ref (d 3)) (C := RX11) (T := TX11) (N := 9) hx hb hts (by decide +kernel) hown hK hP kk_5 hk_6 rfl 4 (by decide) (hts (.fieldLink RX11 30 "PageOne" "acts" "[LPageOne$Act;") (by decide +kernel)) (fun _ h9 => h9) rfl dX11_keep_8 ?_
    refine lv_aload_n hx hb dX11_keep_11 rfl (lv_at hl 0 rfl) ?_
    obtain ⟨kk_7, hk_8⟩ := pl_at hI.2.1.1.1 hI.2.2.2.1.1
    refine va_get (D := (dC, dI)) (ci := 10) (v := .int (k 1)) (C := RX11) (T := TX11) (N := 9) hx hb hts (by decide +kernel) hown hK hP kk_7 hk_8 rfl 5 (by decide) (hts (.fieldLink RX11 34 "PageOne" "actCount" "I") (by decide +kernel)) (fun _ h9 => h9) rfl dX11_keep_12 ?_
    refine lv_aload_n hx hb dX11_keep_15 rfl (lv_at hl 1 rfl) ?_
    obtain ⟨g_9, hs_10, hg_11⟩ := x_ac hI hI.2.1.2.2.2.2.1
    obtain ⟨kk_12, hk_13⟩ := pl_at hI.2.1.2.2.2.2.1.1 hs_10
    obtain ⟨pp_14, ll_15, nn_16, ah_17, ha_18, hs_19, hl_20, hh_21⟩ := x_acS hI hc0
    obtain ⟨kk_22, hk_23⟩ := pl_at hc0.1 hs_19
    have hD0 := hD
    refine va_astq hx hb hK hP hD hS kk_12 4 kk_22 0 hk_13 rfl hk_23 rfl (vAc hI.1.2.1 hact).1 dX11_keep_16 (fun H locs hP hD hS => ?_)
    rw [pl_set hD0 hI.2.1.2.2.2.2.1.1 hs_10 hk_13] at hP hD
    obtain ⟨f_24, ef_24⟩ : ∃ y : xF, y = va_up f (d 3) (aR (q 4) 300 (va_up g_9 ((k 1) : Int32).toNatClampNeg (some c0))) := ⟨_, rfl⟩
    have hI : xI q h0 d k z f_24 := by rw [ef_24]; exact x_up hI hI.2.1.2.2.2.2.1 (by decide) (cO_5 hI.2.1.2.2.2.2.1.2 ⟨_, rfl, ty_up hg_11 (ty_s hc0)⟩)
    have hP : va_P (dC, dI) vwCl (va_pl z.1 f_24) H := by rw [ef_24]; exact hP
    have hD : va_D A (va_pl z.1 f_24) := by rw [ef_24]; exact hD
    refine lv_aload_n hx hb dX11_keep_17 rfl (lv_at hl 0 rfl) ?_
    refine lv_dup hx hb dX11_keep_18 rfl ?_
    obtain ⟨kk_25, hk_26⟩ := pl_at hI.2.1.1.1 hI.2.2.2.1.1
    refine va_get (D := (dC, dI)) (ci := 10) (v := .int (k 1)) (C := RX11) (T := TX11) (N := 9) hx hb hts (by decide +kernel) hown hK hP kk_25 hk_26 rfl 5 (by decide) (hts (.fieldLink RX11 34 "PageOne" "actCount" "I") (by decide +kernel)) (fun _ h9 => h9) rfl dX11_keep_19 ?_
    refine lv_iconst (v := 1) hx hb dX11_keep_22 (by decide) ?_
    refine lv_iadd hx hb dX11_keep_23 ?_
    refine lv_topi (fun x_27 ex_27 => ?_)
    obtain ⟨kk_28, hk_29⟩ := pl_at hI.2.1.1.1 hI.2.2.2.1.1
    have hD0 := hD
    refine va_put (D := (dC, dI)) (ci := 10) (v := .int x_27) (ty := .int) (C := RX11) (T := TX11) (N := 9) hx hb hts (by decide +kernel) tyX11 tyX11_ok nmX11 hown hK hP hD hS kk_28 hk_29 rfl 5 (by decide) (hts (.fieldLink RX11 34 "PageOne" "actCount" "I") (by decide +kernel)) (fun _ h9 => h9) rfl (by decide +kernel) rfl rfl (Nat.le_of_ble_eq_true rfl) dX11_keep_24 (fun H locs hP hD hS => ?_)
    obtain ⟨k_30, ek_30⟩ : ∃ y : Nat → Int32, y = kup k 1 x_27 := ⟨_, rfl⟩
    rw [pl_set hD0 hI.2.1.1.1 hI.2.2.2.1.1 hk_29] at hP hD
    obtain ⟨f_31, ef_31⟩ : ∃ y : xF, y = va_up f_24 h0 (.inr (10, dkF d k_30)) := ⟨_, rfl⟩
    have hP : va_P (dC, dI) vwCl (va_pl z.1 f_31) H := by rw [ef_31, ek_30]; exact hP
    have hD : va_D A (va_pl z.1 f_31) := by rw [ef_31, ek_30]; exact hD
    have hI : xI q h0 d k_30 z f_31 := by rw [ef_31]; exact x_dk hI (by rw [ek_30]; exact ⟨hI.1.1, by rw [kup_s, ex_27]; exact (vAc hI.1.2.1 hact).2, hI.1.2.2⟩) (by rw [ek_30]; exact Nat.le_refl _)
    exact W.vret hx hb hr (fun t ht hW => ⟨⟨(k_30, z, f_31), rfl, ⟨fun j hj => by rw [ek_30]; exact kup_o hj, rfl, hI⟩, by rw [ht]; exact hP, hD⟩, hS.F ht⟩) hS.2.2 dX11_keep_27
set_option maxHeartbeats 4000000 in
set_option maxRecDepth 100000 in
theorem x_takeBack_l {p : Program} {l : Launch} {e : Env} {R : Room} {s : State} {m : MethodId} {args : Array Value} {below : List Frame} {meth : Method} {c : Code} {Q : State → Prop} {cells slots : Nat} {dC : Nat → ClassId} {dI : Nat → Nat → Nat} {q : Nat → ClassId} {h0 : Nat} {d : Nat → Nat} {k : Nat → Int32} {z : gS} {A : Nat → Prop} {H0 : Heap} (hx : p.tables.exec = Jvm.exec) (hb : c.code = cX11_takeBack) (hml : c.maxLocals = 3) (hts : ∀ w ∈ wsX11_takeBack, w.before args s = true) (hown : s.vm.findClass RX11 = some m.cls) (hN : NN s) (hXN : XN s) (hK : va_K (dC, dI) vwCl (xT q) s) (hRf : 5 ≤ R.frames) (hRl : 109 ≤ R.locals) (hRc : cells ≤ R.cells) (hRs : slots ≤ R.slots) (hA : ∀ q : Nat, H0.size ≤ q → A q) (kx40 : ∀ (f : xF) (H : Heap) (locs : List Loc) (ls : Array Slot), xI q h0 d k z f → va_P (dC, dI) vwCl (va_pl z.1 f) H → va_D A (va_pl z.1 f) → va_S A H0 H locs → lv_has ls 3 [(0, .ref h0)] → W p l e R s m args below meth c H locs cells slots Q (F0 m 40 ls [])) : ∀ (n : Nat) (r : Option Nat) (f : xF) (H : Heap) (locs : List Loc) (ls : Array Slot), (∀ b, r = some b → tg z b 23 ∧ (z.2 b).2.1 < n) → xI q h0 d k z f → va_P (dC, dI) vwCl (va_pl z.1 f) H → va_D A (va_pl z.1 f) → va_S A H0 H locs → lv_has ls 3 [(2, va_rf r), (0, .ref h0)] → W p l e R s m args below meth c H locs cells slots Q (F0 m 2 ls []) := by
  intro n
  induction n with
  | zero =>
    intro r f H locs ls hr hI hP hD hS hl
    rcases r with _ | b
    ·
      have hl : lv_has ls 3 [(2, .null), (0, .ref h0)] := hl
      refine lv_aload_nN hx hb dX11_takeBack_2 rfl (lv_at hl 0 rfl) ?_
      refine lv_ifnullN (tgt := 40) hx hb dX11_takeBack_3 (by decide) ?_
      exact kx40 _ _ _ ls hI hP hD hS (lv_sub hl [1] rfl)
    · exact absurd (hr b rfl).2 (Nat.not_lt_zero _)
  | succ n ih =>
    intro r f H locs ls hr hI hP hD hS hl
    rcases r with _ | b
    ·
      have hl : lv_has ls 3 [(2, .null), (0, .ref h0)] := hl
      refine lv_aload_nN hx hb dX11_takeBack_2 rfl (lv_at hl 0 rfl) ?_
      refine lv_ifnullN (tgt := 40) hx hb dX11_takeBack_3 (by decide) ?_
      exact kx40 _ _ _ ls hI hP hD hS (lv_sub hl [1] rfl)
    ·
      have hl : lv_has ls 3 [(2, .ref b), (0, .ref h0)] := hl
      have htb := (hr b rfl).1
      refine lv_aload_n hx hb dX11_takeBack_2 rfl (lv_at hl 0 rfl) ?_
      refine lv_ifnull hx hb dX11_takeBack_3 ?_
      refine lv_aload_n hx hb dX11_takeBack_6 rfl (lv_at hl 0 rfl) ?_
      obtain ⟨pp_1, ll_2, nn_3, ah_4, ha_5, hs_6, hl_7, hh_8⟩ := x_acS hI htb
      obtain ⟨kk_9, hk_10⟩ := pl_at htb.1 hs_6
      refine va_get (D := (dC, dI)) (ci := 0) (v := .int ll_2) (C := RX0) (T := TX0) (N := 4) hx hb hts (by decide +kernel) hown hK hP kk_9 hk_10 rfl 1 (by decide) (hts (.fieldLink RX11 313 "PageOne$Act" "lifted" "Z") (by decide +kernel)) (fun _ h9 => h9) rfl dX11_takeBack_7 ?_
      refine lv_if_eq (tgt := 24) hx hb dX11_takeBack_10 (by decide) (fun c_11 => ?_) (fun c_11 => ?_)
      ·
        refine lv_aload_n hx hb dX11_takeBack_24 rfl (lv_at hl 1 rfl) ?_
        refine lv_aload_n hx hb dX11_takeBack_25 rfl (lv_at hl 0 rfl) ?_
        obtain ⟨kk_12, hk_13⟩ := pl_at htb.1 hs_6
        refine va_get (D := (dC, dI)) (ci := 0) (v := .ref pp_1) (C := RX0) (T := TX0) (N := 4) hx hb hts (by decide +kernel) hown hK hP kk_12 hk_13 rfl 0 (by decide) (hts (.fieldLink RX11 317 "PageOne$Act" "piece" "LPageOne$Piece;") (by decide +kernel)) (fun _ h9 => h9) rfl dX11_takeBack_26 ?_
        obtain ⟨kk_14, hk_15⟩ := pl_at hI.2.1.1.1 hI.2.2.2.1.1
        have hFc := fr_all hD hS hA
        refine va_callv (va_runV (As := [.ref pp_1]) (rest := []) ⟨hx, hb, hml, hown, hts⟩ (x_takeOff l dC dI q h0 d k z f hI pp_1 hl_7 H.size) (cwV 1 hts gX11_takeBack_X11_takeOff rfl rfl rfl (by decide +kernel) ⟨Nat.le_trans (Nat.le_of_ble_eq_true rfl) hRf, Nat.le_trans (Nat.le_of_ble_eq_true rfl) hRl⟩) ⟨gx_fb, va_recv hK hP (ci := 10) (q0 := kk_14) rfl hk_15, fun U hU hW => ⟨rfl, by rw [hU], px_to hU hW hP hK hN hXN, hD.weaken (fun _ _ _ _ => trivial)⟩⟩ rfl rfl hl.1 rfl (lv_room (Nat.le_of_ble_eq_true rfl)) dX11_takeBack_29 ⟨hRc, hRs⟩) hS (fun q _ h => hFc q h) hFc (fun w_16 t H1 locs ht hvm hw hB hz1 hk1 hS => ?_)
        obtain ⟨hP, hD1⟩ := hB
        rw [ht] at hP
        rw [hw.2.1] at hP hD1
        have hD := hD1.weaken (fun _ q _ h => hFc q.1 h)
        have hI := hw.2.2
        have hw0 := hw
        generalize w_16.2.2 = f_17 at hP hD hI hw0
        generalize H1 = H at hP hS ⊢
        refine lv_aload_n hx hb dX11_takeBack_32 rfl (lv_at hl 0 rfl) ?_
        obtain ⟨pp_18, ll_19, nn_20, ah_21, ha_22, hs_23, hl_24, hh_25⟩ := x_acS hI htb
        obtain ⟨kk_26, hk_27⟩ := pl_at htb.1 hs_23
        refine va_get (D := (dC, dI)) (ci := 0) (v := va_rf ah_21) (C := RX0) (T := TX0) (N := 4) hx hb hts (by decide +kernel) hown hK hP kk_26 hk_27 rfl 2 (by decide) (hts (.fieldLink RX11 321 "PageOne$Act" "ahead" "LPageOne$Act;") (by decide +kernel)) (fun _ h9 => h9) rfl dX11_takeBack_33 ?_
        rcases ah_21 with _ | b_28
        ·
          refine W.eq (g2 := F0 m 36 ls [.null]) rfl ?_
          refine lv_astore_nN (lv' := [(2, .null), (0, .ref h0)]) hx hb dX11_takeBack_36 rfl hl (by decide) rfl (fun ls hl => ?_)
          refine lv_goto (tgt := 2) hx hb dX11_takeBack_37 (by decide) ?_
          exact ih none _ _ _ ls ty_n hI hP hD hS (lv_sub hl [0, 1] rfl)
        ·
          refine W.eq (g2 := F0 m 36 ls [.ref b_28]) rfl ?_
          have ht_29 := (hh_25 b_28 rfl).1
          refine lv_astore_n (lv' := [(2, .ref b_28), (0, .ref h0)]) hx hb dX11_takeBack_36 rfl hl (by decide) rfl (fun ls hl => ?_)
          refine lv_goto (tgt := 2) hx hb dX11_takeBack_37 (by decide) ?_
          exact ih (some b_28) _ _ _ ls (fun x e => by obtain rfl := Option.some.inj e; have h9 := hh_25 _ rfl; have h8 := (hr b rfl).2; exact ⟨h9.1, by omega⟩) hI hP hD hS (lv_sub hl [0, 1] rfl)
      ·
        refine lv_aload_n hx hb dX11_takeBack_13 rfl (lv_at hl 1 rfl) ?_
        refine lv_aload_n hx hb dX11_takeBack_14 rfl (lv_at hl 0 rfl) ?_
        obtain ⟨kk_30, hk_31⟩ := pl_at htb.1 hs_6
        refine va_get (D := (dC, dI)) (ci := 0) (v := .ref pp_1) (C := RX0) (T := TX0) (N := 4) hx hb hts (by decide +kernel) hown hK hP kk_30 hk_31 rfl 0 (by decide) (hts (.fieldLink RX11 317 "PageOne$Act" "piece" "LPageOne$Piece;") (by decide +kernel)) (fun _ h9 => h9) rfl dX11_takeBack_15 ?_
        obtain ⟨kk_32, hk_33⟩ := pl_at hI.2.1.1.1 hI.2.2.2.1.1
        have hFc := fr_all hD hS hA
        refine va_callv (va_runV (As := [.ref pp_1]) (rest := []) ⟨hx, hb, hml, hown, hts⟩ (x_stand l dC dI q h0 d k z f hI pp_1 hl_7 H.size) (cwV 1 hts gX11_takeBack_X11_stand rfl rfl rfl (by decide +kernel) ⟨Nat.le_trans (Nat.le_of_ble_eq_true rfl) hRf, Nat.le_trans (Nat.le_of_ble_eq_true rfl) hRl⟩) ⟨gx_fb, va_recv hK hP (ci := 10) (q0 := kk_32) rfl hk_33, fun U hU hW => ⟨rfl, by rw [hU], px_to hU hW hP hK hN hXN, hD.weaken (fun _ _ _ _ => trivial)⟩⟩ rfl rfl hl.1 rfl (lv_room (Nat.le_of_ble_eq_true rfl)) dX11_takeBack_18 ⟨hRc, hRs⟩) hS (fun q _ h => hFc q h) hFc (fun w_34 t H1 locs ht hvm hw hB hz1 hk1 hS => ?_)
        obtain ⟨hP, hD1⟩ := hB
        rw [ht] at hP
        rw [hw.2.1] at hP hD1
        have hD := hD1.weaken (fun _ q _ h => hFc q.1 h)
        have hI := hw.2.2
        have hw0 := hw
        generalize w_34.2.2 = f_35 at hP hD hI hw0
        generalize H1 = H at hP hS ⊢
        refine lv_goto (tgt := 32) hx hb dX11_takeBack_21 (by decide) ?_
        refine lv_aload_n hx hb dX11_takeBack_32 rfl (lv_at hl 0 rfl) ?_
        obtain ⟨pp_36, ll_37, nn_38, ah_39, ha_40, hs_41, hl_42, hh_43⟩ := x_acS hI htb
        obtain ⟨kk_44, hk_45⟩ := pl_at htb.1 hs_41
        refine va_get (D := (dC, dI)) (ci := 0) (v := va_rf ah_39) (C := RX0) (T := TX0) (N := 4) hx hb hts (by decide +kernel) hown hK hP kk_44 hk_45 rfl 2 (by decide) (hts (.fieldLink RX11 321 "PageOne$Act" "ahead" "LPageOne$Act;") (by decide +kernel)) (fun _ h9 => h9) rfl dX11_takeBack_33 ?_
        rcases ah_39 with _ | b_46
        ·
          refine W.eq (g2 := F0 m 36 ls [.null]) rfl ?_
          refine lv_astore_nN (lv' := [(2, .null), (0, .ref h0)]) hx hb dX11_takeBack_36 rfl hl (by decide) rfl (fun ls hl => ?_)
          refine lv_goto (tgt := 2) hx hb dX11_takeBack_37 (by decide) ?_
          exact ih none _ _ _ ls ty_n hI hP hD hS (lv_sub hl [0, 1] rfl)
        ·
          refine W.eq (g2 := F0 m 36 ls [.ref b_46]) rfl ?_
          have ht_47 := (hh_43 b_46 rfl).1
          refine lv_astore_n (lv' := [(2, .ref b_46), (0, .ref h0)]) hx hb dX11_takeBack_36 rfl hl (by decide) rfl (fun ls hl => ?_)
          refine lv_goto (tgt := 2) hx hb dX11_takeBack_37 (by decide) ?_
          exact ih (some b_46) _ _ _ ls (fun x e => by obtain rfl := Option.some.inj e; have h9 := hh_43 _ rfl; have h8 := (hr b rfl).2; exact ⟨h9.1, by omega⟩) hI hP hD hS (lv_sub hl [0, 1] rfl)
set_option maxHeartbeats 4000000 in
set_option maxRecDepth 100000 in
theorem x_takeBackN (l : Launch) (dC : Nat → ClassId) (dI : Nat → Nat → Nat) (q : Nat → ClassId) (h0 : Nat) (d : Nat → Nat) (k : Nat → Int32) (z : gS) (f : xF) (hI : xI q h0 d k z f) (sz : Nat) : Met l yX11_takeBack wsX11_takeBack ({ frames := 5, cells := 0, slots := 0, locals := 109 }) (va_Pc [.ref h0, .null] (fun U => U.heap.size = sz ∧ PX dC dI (va_pl z.1 f) (xT q) U ∧ va_D (fun _ => True) (va_pl z.1 f))) (va_Qv (fun (w : xU) => w.1 = k ∧ w.2.1 = z ∧ xI q h0 d k z w.2.2) (fun (w : xU) t => va_P (dC, dI) vwCl (va_pl w.2.1.1 w.2.2) t.heap ∧ va_D (va_A (va_pl z.1 f) sz) (va_pl w.2.1.1 w.2.2)) (va_A (va_pl z.1 f) sz)) 0 0 (va_A (va_pl z.1 f) sz) := by
  refine Met.ofW (cc := cX11_takeBack) (maxL := 3) (ret := none) (by decide) rfl ?_
  intro p e s m args below meth c s₁ B hml hv
  obtain ⟨rfl, hsz, ⟨⟨hP, hK, hN⟩, hXN⟩, hD0⟩ := hv
  have hx := B.exec
  have hb := B.bytes
  have hr := B.returns
  have hts := atoms_spec (ws := wsX11_takeBack) B.pre
  have hown : s.vm.findClass RX11 = some m.cls := findClass_of_methodNamed B.named
  have hlocks := B.notSynchronized
  subst hsz
  have hD := hD0.self (sz := s.heap.size)
  generalize hAe : va_A (va_pl z.1 f) s.heap.size = A at hD ⊢
  have hA : ∀ q : Nat, s.heap.size ≤ q → A q := fun q h => by rw [← hAe]; exact Or.inr h
  have hS : va_S A s.heap s.heap [] := va_S.rf
  have hl := lv_entry ([.ref h0, .null]) (n := 3) (Nat.le_of_ble_eq_true rfl)
  rw [lg_entry_eq]
  generalize (lg_sl ([.ref h0, .null]) ++ List.replicate (3 - (lg_sl ([.ref h0, .null])).length) Slot.unset).toArray = ls at hl ⊢
  have hl : lv_has ls 3 [(0, .ref h0), (1, .null)] := hl
  refine lv_aload_nN hx hb dX11_takeBack_0 rfl (lv_at hl 1 rfl) ?_
  refine lv_astore_nN (lv' := [(2, .null), (0, .ref h0), (1, .null)]) hx hb dX11_takeBack_1 rfl hl (by decide) rfl (fun ls hl => ?_)
  refine x_takeBack_l hx hb hml hts hown hN hXN hK (Nat.le_of_ble_eq_true rfl) (Nat.le_of_ble_eq_true rfl) (Nat.le_of_ble_eq_true rfl) (Nat.le_of_ble_eq_true rfl) hA (fun f H locs ls hI hP hD hS hl => ?_) 0 none _ _ _ ls ty_n hI hP hD hS (lv_sub hl [0, 1] rfl)
  exact W.vret hx hb hr (fun t ht hW => ⟨⟨(k, z, f), rfl, ⟨rfl, rfl, hI⟩, by rw [ht]; exact hP, hD⟩, hS.F ht⟩) hS.2.2 dX11_takeBack_40
set_option maxHeartbeats 4000000 in
set_option maxRecDepth 100000 in
theorem x_takeBackS (l : Launch) (dC : Nat → ClassId) (dI : Nat → Nat → Nat) (q : Nat → ClassId) (h0 : Nat) (d : Nat → Nat) (k : Nat → Int32) (z : gS) (f : xF) (hI : xI q h0 d k z f) (b9 : Nat) (hb9 : tg z b9 23) (sz : Nat) : Met l yX11_takeBack wsX11_takeBack ({ frames := 5, cells := 0, slots := 0, locals := 109 }) (va_Pc [.ref h0, .ref b9] (fun U => U.heap.size = sz ∧ PX dC dI (va_pl z.1 f) (xT q) U ∧ va_D (fun _ => True) (va_pl z.1 f))) (va_Qv (fun (w : xU) => w.1 = k ∧ w.2.1 = z ∧ xI q h0 d k z w.2.2) (fun (w : xU) t => va_P (dC, dI) vwCl (va_pl w.2.1.1 w.2.2) t.heap ∧ va_D (va_A (va_pl z.1 f) sz) (va_pl w.2.1.1 w.2.2)) (va_A (va_pl z.1 f) sz)) 0 0 (va_A (va_pl z.1 f) sz) := by
  refine Met.ofW (cc := cX11_takeBack) (maxL := 3) (ret := none) (by decide) rfl ?_
  intro p e s m args below meth c s₁ B hml hv
  obtain ⟨rfl, hsz, ⟨⟨hP, hK, hN⟩, hXN⟩, hD0⟩ := hv
  have hx := B.exec
  have hb := B.bytes
  have hr := B.returns
  have hts := atoms_spec (ws := wsX11_takeBack) B.pre
  have hown : s.vm.findClass RX11 = some m.cls := findClass_of_methodNamed B.named
  have hlocks := B.notSynchronized
  subst hsz
  have hD := hD0.self (sz := s.heap.size)
  generalize hAe : va_A (va_pl z.1 f) s.heap.size = A at hD ⊢
  have hA : ∀ q : Nat, s.heap.size ≤ q → A q := fun q h => by rw [← hAe]; exact Or.inr h
  have hS : va_S A s.heap s.heap [] := va_S.rf
  have hl := lv_entry ([.ref h0, .ref b9]) (n := 3) (Nat.le_of_ble_eq_true rfl)
  rw [lg_entry_eq]
  generalize (lg_sl ([.ref h0, .ref b9]) ++ List.replicate (3 - (lg_sl ([.ref h0, .ref b9])).length) Slot.unset).toArray = ls at hl ⊢
  have hl : lv_has ls 3 [(0, .ref h0), (1, .ref b9)] := hl
  refine lv_aload_n hx hb dX11_takeBack_0 rfl (lv_at hl 1 rfl) ?_
  refine lv_astore_n (lv' := [(2, .ref b9), (0, .ref h0), (1, .ref b9)]) hx hb dX11_takeBack_1 rfl hl (by decide) rfl (fun ls hl => ?_)
  refine x_takeBack_l hx hb hml hts hown hN hXN hK (Nat.le_of_ble_eq_true rfl) (Nat.le_of_ble_eq_true rfl) (Nat.le_of_ble_eq_true rfl) (Nat.le_of_ble_eq_true rfl) hA (fun f H locs ls hI hP hD hS hl => ?_) ((z.2 b9).2.1 + 1) (some b9) _ _ _ ls (fun x e => by obtain rfl := Option.some.inj e; exact ⟨hb9, Nat.lt_succ_self _⟩) hI hP hD hS (lv_sub hl [0, 1] rfl)
  exact W.vret hx hb hr (fun t ht hW => ⟨⟨(k, z, f), rfl, ⟨rfl, rfl, hI⟩, by rw [ht]; exact hP, hD⟩, hS.F ht⟩) hS.2.2 dX11_takeBack_40
set_option maxHeartbeats 4000000 in
set_option maxRecDepth 100000 in
theorem x_undo (l : Launch) (dC : Nat → ClassId) (dI : Nat → Nat → Nat) (q : Nat → ClassId) (h0 : Nat) (d : Nat → Nat) (k : Nat → Int32) (z : gS) (f : xF) (hI : xI q h0 d k z f) (sz : Nat) : Met l yX11_undo wsX11_undo ({ frames := 6, cells := 0, slots := 0, locals := 131 }) (va_Pc [.ref h0] (fun U => U.heap.size = sz ∧ PX dC dI (va_pl z.1 f) (xT q) U ∧ va_D (fun _ => True) (va_pl z.1 f))) (va_Qi (fun (r : Int32) (w : xU) => (∀ j, j ≠ 1 → w.1 j = k j) ∧ w.2.1 = z ∧ xI q h0 d w.1 z w.2.2) (fun (w : xU) t => va_P (dC, dI) vwCl (va_pl w.2.1.1 w.2.2) t.heap ∧ va_D (va_A (va_pl z.1 f) sz) (va_pl w.2.1.1 w.2.2)) (va_A (va_pl z.1 f) sz)) 0 0 (va_A (va_pl z.1 f) sz) := by
  refine Met.ofW (cc := cX11_undo) (maxL := 1) (ret := (some .int)) (by decide) rfl ?_
  intro p e s m args below meth c s₁ B hml hv
  obtain ⟨rfl, hsz, ⟨⟨hP, hK, hN⟩, hXN⟩, hD0⟩ := hv
  have hx := B.exec
  have hb := B.bytes
  have hr := B.returns
  have hts := atoms_spec (ws := wsX11_undo) B.pre
  have hown : s.vm.findClass RX11 = some m.cls := findClass_of_methodNamed B.named
  have hlocks := B.notSynchronized
  subst hsz
  have hD := hD0.self (sz := s.heap.size)
  generalize hAe : va_A (va_pl z.1 f) s.heap.size = A at hD ⊢
  have hA : ∀ q : Nat, s.heap.size ≤ q → A q := fun q h => by rw [← hAe]; exact Or.inr h
  have hS : va_S A s.heap s.heap [] := va_S.rf
  have hl := lv_entry ([.ref h0]) (n := 1) (Nat.le_of_ble_eq_true rfl)
  rw [lg_entry_eq]
  generalize (lg_sl ([.ref h0]) ++ List.replicate (1 - (lg_sl ([.ref h0])).length) Slot.unset).toArray = ls at hl ⊢
  have hl : lv_has ls 1 [(0, .ref h0)] := hl
  refine lv_aload_n hx hb dX11_undo_0 rfl (lv_at hl 0 rfl) ?_
  obtain ⟨kk_1, hk_2⟩ := pl_at hI.2.1.1.1 hI.2.2.2.1.1
  refine va_get (D := (dC, dI)) (ci := 10) (v := .int (k 1)) (C := RX11) (T := TX11) (N := 9) hx hb hts (by decide +kernel) hown hK hP kk_1 hk_2 rfl 5 (by decide) (hts (.fieldLink RX11 34 "PageOne" "actCount" "I") (by decide +kernel)) (fun _ h9 => h9) rfl dX11_undo_1 ?_
  refine lv_if_ne (tgt := 9) hx hb dX11_undo_4 (by decide) (fun c_3 => ?_) (fun c_3 => ?_)
  ·
    refine lv_aload_n hx hb dX11_undo_9 rfl (lv_at hl 0 rfl) ?_
    refine lv_dup hx hb dX11_undo_10 rfl ?_
    obtain ⟨kk_4, hk_5⟩ := pl_at hI.2.1.1.1 hI.2.2.2.1.1
    refine va_get (D := (dC, dI)) (ci := 10) (v := .int (k 1)) (C := RX11) (T := TX11) (N := 9) hx hb hts (by decide +kernel) hown hK hP kk_4 hk_5 rfl 5 (by decide) (hts (.fieldLink RX11 34 "PageOne" "actCount" "I") (by decide +kernel)) (fun _ h9 => h9) rfl dX11_undo_11 ?_
    refine lv_iconst (v := 1) hx hb dX11_undo_14 (by decide) ?_
    refine lv_isub hx hb dX11_undo_15 ?_
    refine lv_topi (fun x_6 ex_6 => ?_)
    obtain ⟨kk_7, hk_8⟩ := pl_at hI.2.1.1.1 hI.2.2.2.1.1
    have hD0 := hD
    refine va_put (D := (dC, dI)) (ci := 10) (v := .int x_6) (ty := .int) (C := RX11) (T := TX11) (N := 9) hx hb hts (by decide +kernel) tyX11 tyX11_ok nmX11 hown hK hP hD hS kk_7 hk_8 rfl 5 (by decide) (hts (.fieldLink RX11 34 "PageOne" "actCount" "I") (by decide +kernel)) (fun _ h9 => h9) rfl (by decide +kernel) rfl rfl (Nat.le_of_ble_eq_true rfl) dX11_undo_16 (fun H locs hP hD hS => ?_)
    obtain ⟨k_9, ek_9⟩ : ∃ y : Nat → Int32, y = kup k 1 x_6 := ⟨_, rfl⟩
    have hvx := (vAm hI.1.2.1 c_3 ex_6).1
    rw [pl_set hD0 hI.2.1.1.1 hI.2.2.2.1.1 hk_8] at hP hD
    obtain ⟨f_10, ef_10⟩ : ∃ y : xF, y = va_up f h0 (.inr (10, dkF d k_9)) := ⟨_, rfl⟩
    have hP : va_P (dC, dI) vwCl (va_pl z.1 f_10) H := by rw [ef_10, ek_9]; exact hP
    have hD : va_D A (va_pl z.1 f_10) := by rw [ef_10, ek_9]; exact hD
    have hI : xI q h0 d k_9 z f_10 := by rw [ef_10]; exact x_dk hI (by rw [ek_9]; exact ⟨hI.1.1, by rw [kup_s]; exact (vAm hI.1.2.1 c_3 ex_6).2, hI.1.2.2⟩) (by rw [ek_9]; exact Nat.le_refl _)
    have hvk : vp_in (k_9 1) 300 := by rw [ek_9, kup_s]; exact hvx
    refine lv_aload_n hx hb dX11_undo_19 rfl (lv_at hl 0 rfl) ?_
    refine lv_aload_n hx hb dX11_undo_20 rfl (lv_at hl 0 rfl) ?_
    obtain ⟨kk_11, hk_12⟩ := pl_at hI.2.1.1.1 hI.2.2.2.1.1
    refine va_get (D := (dC, dI)) (ci := 10) (v := .ref (d 3)) (C := RX11) (T := TX11) (N := 9) hx hb hts (by decide +kernel) hown hK hP kk_11 hk_12 rfl 4 (by decide) (hts (.fieldLink RX11 30 "PageOne" "acts" "[LPageOne$Act;") (by decide +kernel)) (fun _ h9 => h9) rfl dX11_undo_21 ?_
    refine lv_aload_n hx hb dX11_undo_24 rfl (lv_at hl 0 rfl) ?_
    obtain ⟨kk_13, hk_14⟩ := pl_at hI.2.1.1.1 hI.2.2.2.1.1
    refine va_get (D := (dC, dI)) (ci := 10) (v := .int (k_9 1)) (C := RX11) (T := TX11) (N := 9) hx hb hts (by decide +kernel) hown hK hP kk_13 hk_14 rfl 5 (by decide) (hts (.fieldLink RX11 34 "PageOne" "actCount" "I") (by decide +kernel)) (fun _ h9 => h9) rfl dX11_undo_25 ?_
    obtain ⟨g_15, hs_16, hg_17⟩ := x_ac hI hI.2.1.2.2.2.2.1
    obtain ⟨kk_18, hk_19⟩ := pl_at hI.2.1.2.2.2.2.1.1 hs_16
    refine va_aldq hx hb hK hP kk_18 4 hk_19 rfl hvk dX11_undo_28 ?_
    rcases hg_21 : (g_15 ((k_9 1) : Int32).toNatClampNeg) with _ | b_20
    ·
      refine W.eq (g2 := F0 m 29 ls [.null, .ref h0]) rfl ?_
      obtain ⟨kk_23, hk_24⟩ := pl_at hI.2.1.1.1 hI.2.2.2.1.1
      have hFc := fr_all hD hS hA
      refine va_callv (va_runV (As := [.null]) (rest := []) ⟨hx, hb, hml, hown, hts⟩ (x_takeBackN l dC dI q h0 d k_9 z f_10 hI  H.size) (cwV 1 hts gX11_undo_X11_takeBack rfl rfl rfl (by decide +kernel) ⟨Nat.le_of_ble_eq_true rfl, Nat.le_of_ble_eq_true rfl⟩) ⟨gx_fb, va_recv hK hP (ci := 10) (q0 := kk_23) rfl hk_24, fun U hU hW => ⟨rfl, by rw [hU], px_to hU hW hP hK hN hXN, hD.weaken (fun _ _ _ _ => trivial)⟩⟩ rfl rfl hl.1 rfl (lv_room (Nat.le_of_ble_eq_true rfl)) dX11_undo_29 ⟨Nat.le_of_ble_eq_true rfl, Nat.le_of_ble_eq_true rfl⟩) hS (fun q _ h => hFc q h) hFc (fun w_25 t H1 locs ht hvm hw hB hz1 hk1 hS => ?_)
      obtain ⟨hP, hD1⟩ := hB
      rw [ht] at hP
      rw [hw.2.1] at hP hD1
      have hD := hD1.weaken (fun _ q _ h => hFc q.1 h)
      have hI := hw.2.2
      have hw0 := hw
      generalize w_25.2.2 = f_26 at hP hD hI hw0
      generalize H1 = H at hP hS ⊢
      refine lv_aload_n hx hb dX11_undo_32 rfl (lv_at hl 0 rfl) ?_
      obtain ⟨kk_27, hk_28⟩ := pl_at hI.2.1.1.1 hI.2.2.2.1.1
      refine va_get (D := (dC, dI)) (ci := 10) (v := .ref (d 3)) (C := RX11) (T := TX11) (N := 9) hx hb hts (by decide +kernel) hown hK hP kk_27 hk_28 rfl 4 (by decide) (hts (.fieldLink RX11 30 "PageOne" "acts" "[LPageOne$Act;") (by decide +kernel)) (fun _ h9 => h9) rfl dX11_undo_33 ?_
      refine lv_aload_n hx hb dX11_undo_36 rfl (lv_at hl 0 rfl) ?_
      obtain ⟨kk_29, hk_30⟩ := pl_at hI.2.1.1.1 hI.2.2.2.1.1
      refine va_get (D := (dC, dI)) (ci := 10) (v := .int (k_9 1)) (C := RX11) (T := TX11) (N := 9) hx hb hts (by decide +kernel) hown hK hP kk_29 hk_30 rfl 5 (by decide) (hts (.fieldLink RX11 34 "PageOne" "actCount" "I") (by decide +kernel)) (fun _ h9 => h9) rfl dX11_undo_37 ?_
      refine lv_null hx hb dX11_undo_40 ?_
      obtain ⟨g_31, hs_32, hg_33⟩ := x_ac hI hI.2.1.2.2.2.2.1
      obtain ⟨kk_34, hk_35⟩ := pl_at hI.2.1.2.2.2.2.1.1 hs_32
      have hD0 := hD
      refine va_astqN hx hb hK hP hD hS kk_34 4 hk_35 rfl hvk dX11_undo_41 (fun H locs hP hD hS => ?_)
      rw [pl_set hD0 hI.2.1.2.2.2.2.1.1 hs_32 hk_35] at hP hD
      obtain ⟨f_36, ef_36⟩ : ∃ y : xF, y = va_up f_26 (d 3) (aR (q 4) 300 (va_up g_31 ((k_9 1) : Int32).toNatClampNeg none)) := ⟨_, rfl⟩
      have hI : xI q h0 d k_9 z f_36 := by rw [ef_36]; exact x_up hI hI.2.1.2.2.2.2.1 (by decide) (cO_5 hI.2.1.2.2.2.2.1.2 ⟨_, rfl, ty_up hg_33 ty_n⟩)
      have hP : va_P (dC, dI) vwCl (va_pl z.1 f_36) H := by rw [ef_36]; exact hP
      have hD : va_D A (va_pl z.1 f_36) := by rw [ef_36]; exact hD
      refine lv_aload_n hx hb dX11_undo_42 rfl (lv_at hl 0 rfl) ?_
      obtain ⟨kk_37, hk_38⟩ := pl_at hI.2.1.1.1 hI.2.2.2.1.1
      refine va_get (D := (dC, dI)) (ci := 10) (v := .int (k_9 1)) (C := RX11) (T := TX11) (N := 9) hx hb hts (by decide +kernel) hown hK hP kk_37 hk_38 rfl 5 (by decide) (hts (.fieldLink RX11 34 "PageOne" "actCount" "I") (by decide +kernel)) (fun _ h9 => h9) rfl dX11_undo_43 ?_
      exact W.iret (v := (k_9 1)) hx hb hr (fun t ht hW => ⟨⟨(k_9 1), (k_9, z, f_36), rfl, ⟨fun j hj => by rw [ek_9]; exact kup_o hj, rfl, hI⟩, by rw [ht]; exact hP, hD⟩, hS.F ht⟩) hS.2.2 dX11_undo_46
    ·
      have ht_22 := hg_17 ((k_9 1) : Int32).toNatClampNeg (vlt hvk) b_20 hg_21
      refine W.eq (g2 := F0 m 29 ls [.ref b_20, .ref h0]) rfl ?_
      obtain ⟨kk_39, hk_40⟩ := pl_at hI.2.1.1.1 hI.2.2.2.1.1
      have hFc := fr_all hD hS hA
      refine va_callv (va_runV (As := [.ref b_20]) (rest := []) ⟨hx, hb, hml, hown, hts⟩ (x_takeBackS l dC dI q h0 d k_9 z f_10 hI b_20 ht_22 H.size) (cwV 1 hts gX11_undo_X11_takeBack rfl rfl rfl (by decide +kernel) ⟨Nat.le_of_ble_eq_true rfl, Nat.le_of_ble_eq_true rfl⟩) ⟨gx_fb, va_recv hK hP (ci := 10) (q0 := kk_39) rfl hk_40, fun U hU hW => ⟨rfl, by rw [hU], px_to hU hW hP hK hN hXN, hD.weaken (fun _ _ _ _ => trivial)⟩⟩ rfl rfl hl.1 rfl (lv_room (Nat.le_of_ble_eq_true rfl)) dX11_undo_29 ⟨Nat.le_of_ble_eq_true rfl, Nat.le_of_ble_eq_true rfl⟩) hS (fun q _ h => hFc q h) hFc (fun w_41 t H1 locs ht hvm hw hB hz1 hk1 hS => ?_)
      obtain ⟨hP, hD1⟩ := hB
      rw [ht] at hP
      rw [hw.2.1] at hP hD1
      have hD := hD1.weaken (fun _ q _ h => hFc q.1 h)
      have hI := hw.2.2
      have hw0 := hw
      generalize w_41.2.2 = f_42 at hP hD hI hw0
      generalize H1 = H at hP hS ⊢
      refine lv_aload_n hx hb dX11_undo_32 rfl (lv_at hl 0 rfl) ?_
      obtain ⟨kk_43, hk_44⟩ := pl_at hI.2.1.1.1 hI.2.2.2.1.1
      refine va_get (D := (dC, dI)) (ci := 10) (v := .ref (d 3)) (C := RX11) (T := TX11) (N := 9) hx hb hts (by decide +kernel) hown hK hP kk_43 hk_44 rfl 4 (by decide) (hts (.fieldLink RX11 30 "PageOne" "acts" "[LPageOne$Act;") (by decide +kernel)) (fun _ h9 => h9) rfl dX11_undo_33 ?_
      refine lv_aload_n hx hb dX11_undo_36 rfl (lv_at hl 0 rfl) ?_
      obtain ⟨kk_45, hk_46⟩ := pl_at hI.2.1.1.1 hI.2.2.2.1.1
      refine va_get (D := (dC, dI)) (ci := 10) (v := .int (k_9 1)) (C := RX11) (T := TX11) (N := 9) hx hb hts (by decide +kernel) hown hK hP kk_45 hk_46 rfl 5 (by decide) (hts (.fieldLink RX11 34 "PageOne" "actCount" "I") (by decide +kernel)) (fun _ h9 => h9) rfl dX11_undo_37 ?_
      refine lv_null hx hb dX11_undo_40 ?_
      obtain ⟨g_47, hs_48, hg_49⟩ := x_ac hI hI.2.1.2.2.2.2.1
      obtain ⟨kk_50, hk_51⟩ := pl_at hI.2.1.2.2.2.2.1.1 hs_48
      have hD0 := hD
      refine va_astqN hx hb hK hP hD hS kk_50 4 hk_51 rfl hvk dX11_undo_41 (fun H locs hP hD hS => ?_)
      rw [pl_set hD0 hI.2.1.2.2.2.2.1.1 hs_48 hk_51] at hP hD
      obtain ⟨f_52, ef_52⟩ : ∃ y : xF, y = va_up f_42 (d 3) (aR (q 4) 300 (va_up g_47 ((k_9 1) : Int32).toNatClampNeg none)) := ⟨_, rfl⟩
      have hI : xI q h0 d k_9 z f_52 := by rw [ef_52]; exact x_up hI hI.2.1.2.2.2.2.1 (by decide) (cO_5 hI.2.1.2.2.2.2.1.2 ⟨_, rfl, ty_up hg_49 ty_n⟩)
      have hP : va_P (dC, dI) vwCl (va_pl z.1 f_52) H := by rw [ef_52]; exact hP
      have hD : va_D A (va_pl z.1 f_52) := by rw [ef_52]; exact hD
      refine lv_aload_n hx hb dX11_undo_42 rfl (lv_at hl 0 rfl) ?_
      obtain ⟨kk_53, hk_54⟩ := pl_at hI.2.1.1.1 hI.2.2.2.1.1
      refine va_get (D := (dC, dI)) (ci := 10) (v := .int (k_9 1)) (C := RX11) (T := TX11) (N := 9) hx hb hts (by decide +kernel) hown hK hP kk_53 hk_54 rfl 5 (by decide) (hts (.fieldLink RX11 34 "PageOne" "actCount" "I") (by decide +kernel)) (fun _ h9 => h9) rfl dX11_undo_43 ?_
      exact W.iret (v := (k_9 1)) hx hb hr (fun t ht hW => ⟨⟨(k_9 1), (k_9, z, f_52), rfl, ⟨fun j hj => by rw [ek_9]; exact kup_o hj, rfl, hI⟩, by rw [ht]; exact hP, hD⟩, hS.F ht⟩) hS.2.2 dX11_undo_46
  ·
    refine lv_iconst (v := (-1)) hx hb dX11_undo_7 (by decide) ?_
    exact W.iret (v := (-1)) hx hb hr (fun t ht hW => ⟨⟨(-1), (k, z, f), rfl, ⟨fun j hj => rfl, rfl, hI⟩, by rw [ht]; exact hP, hD⟩, hS.F ht⟩) hS.2.2 dX11_undo_8
