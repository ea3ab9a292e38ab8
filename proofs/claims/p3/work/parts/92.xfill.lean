set_option maxHeartbeats 4000000 in
set_option maxRecDepth 100000 in
theorem x_fill_l {p : Program} {l : Launch} {e : Env} {R : Room} {s : State} {m : MethodId} {args : Array Value} {below : List Frame} {meth : Method} {c : Code} {Q : State → Prop} {cells slots : Nat} {dC : Nat → ClassId} {dI : Nat → Nat → Nat} {q : Nat → ClassId} {h0 : Nat} {d : Nat → Nat} {k : Nat → Int32} {z0 : gS} {p0 : Int32} (hpg : bw p0 0 11 = true) {A : Nat → Prop} {H0 : Heap} (hx : p.tables.exec = Jvm.exec) (hb : c.code = cX11_fill) (hml : c.maxLocals = 4) (hts : ∀ w ∈ wsX11_fill, w.before args s = true) (hown : s.vm.findClass RX11 = some m.cls) (hN : NN s) (hXN : XN s) (hK : va_K (dC, dI) vwCl (xT q) s) (hRf : 6 ≤ R.frames) (hRl : 138 ≤ R.locals) (hRc : cells + 976 ≤ R.cells) (hRs : slots + 4880 ≤ R.slots) (hA : ∀ q : Nat, H0.size ≤ q → A q) (kx40 : ∀ (z : gS) (f : xF) (H : Heap) (locs : List Loc) (r : Option Nat) (ls : Array Slot), zE z0 z → (∀ b, r = some b → tg z b 23) → xI q h0 d k z f → va_P (dC, dI) vwCl (va_pl z.1 f) H → va_D A (va_pl z.1 f) → va_S A H0 H locs → lv_has ls 4 [(2, va_rf r), (0, .ref h0)] → W p l e R s m args below meth c H locs (cells + 976) (slots + 4880) Q (F0 m 40 ls [])) : ∀ (n i : Nat) (z : gS) (f : xF) (H : Heap) (locs : List Loc) (r : Option Nat) (ls : Array Slot), i ≤ 8 → 8 - i < n → zE z0 z → (∀ b, r = some b → tg z b 23) → xI q h0 d k z f → va_P (dC, dI) vwCl (va_pl z.1 f) H → va_D A (va_pl z.1 f) → va_S A H0 H locs → lv_has ls 4 [(3, .int (nI i)), (2, va_rf r), (0, .ref h0), (1, .int p0)] → W p l e R s m args below meth c H locs (cells + 122 * i) (slots + 610 * i) Q (F0 m 20 ls []) := by
  intro n
  induction n with
  | zero => intro i z f H locs r ls h1 h2; exact absurd h2 (Nat.not_lt_zero _)
  | succ n ih =>
    intro i z f H locs r ls hi hn hEz hr hI hP hD hS hl
    rcases r with _ | b9
    ·
      have hl : lv_has ls 4 [(3, .int (nI i)), (2, .null), (0, .ref h0), (1, .int p0)] := hl
      refine lv_iload_n hx hb dX11_fill_20 rfl (lv_at hl 0 rfl) ?_
      refine lv_bipush (v := 8) hx hb dX11_fill_21 (by decide) ?_
      refine lv_icmp_ge (tgt := 40) hx hb dX11_fill_23 (by decide) (fun c_1 => ?_) (fun c_1 => ?_)
      ·
        have hie : i = 8 := lp_eq rfl (by decide) hi c_1
        refine W.widen (k := cells + 976) (n := slots + 4880) (by omega) (by omega) ?_
        exact kx40 _ _ _ _ none ls hEz ty_n hI hP hD hS (lv_sub hl [1, 2] rfl)
      ·
        have hlt : i < 8 := lp_lt rfl (by decide) hi c_1
        refine lv_aload_n hx hb dX11_fill_26 rfl (lv_at hl 2 rfl) ?_
        refine lv_iload_n hx hb dX11_fill_27 rfl (lv_at hl 3 rfl) ?_
        refine lv_iload_n hx hb dX11_fill_28 rfl (lv_at hl 0 rfl) ?_
        refine lv_aload_nN hx hb dX11_fill_29 rfl (lv_at hl 1 rfl) ?_
        obtain ⟨kk_2, hk_3⟩ := pl_at hI.2.1.1.1 hI.2.2.2.1.1
        have hFc := fr_all hD hS hA
        refine va_callq (va_runV (As := [.int p0, .int (nI i), .null]) (rest := []) ⟨hx, hb, hml, hown, hts⟩ (x_fillColumnN l dC dI q h0 d k z f hI p0 (nI i) hpg (b7n hlt) H.size) (cwV 3 hts gX11_fill_X11_fillColumn rfl rfl rfl (by decide +kernel) ⟨Nat.le_trans (Nat.le_of_ble_eq_true rfl) hRf, Nat.le_trans (Nat.le_of_ble_eq_true rfl) hRl⟩) ⟨gx_fb, va_recv hK hP (ci := 10) (q0 := kk_2) rfl hk_3, fun U hU hW => ⟨rfl, by rw [hU], px_to hU hW hP hK hN hXN, hD.weaken (fun _ _ _ _ => trivial)⟩⟩ rfl rfl hl.1 rfl (lv_room (Nat.le_of_ble_eq_true rfl)) dX11_fill_30 ⟨by omega, by omega⟩) hS (fun q _ h => hFc q h) hFc (fun r w_4 t H1 locs ht hvm hw hB hz1 hk1 hS => ?_)
        obtain ⟨hP, hD1⟩ := hB
        rw [ht] at hP
        have hD := hD1.weaken (fun _ q _ h => hFc q.1 h)
        generalize H1 = H at hP hS ⊢
        refine W.widen (k := cells + 122 * i + 122) (n := slots + 610 * i + 610) (by omega) (by omega) ?_
        obtain ⟨-, hw2, hw3, hw4⟩ := hw
        rcases r with _ | b_5
        ·
          obtain ⟨k_9, z_7, f_8⟩ := w_4
          have hP : va_P (dC, dI) vwCl (va_pl z_7.1 f_8) H := hP
          have hD : va_D A (va_pl z_7.1 f_8) := hD
          have hE_10 : zE z z_7 := hw2
          have hI : xI q h0 d k z_7 f_8 := hw3
          have hEz : zE z0 z_7 := zE_tr hEz hE_10
          refine W.eq (g2 := F0 m 33 ls [.null]) rfl ?_
          refine lv_astore_nN (lv' := [(2, .null), (3, .int (nI i)), (0, .ref h0), (1, .int p0)]) hx hb dX11_fill_33 rfl hl (by decide) rfl (fun ls hl => ?_)
          refine lv_iinc (v := (nI (i + 1))) (lv' := [(3, .int (nI (i + 1))), (2, .null), (0, .ref h0), (1, .int p0)]) hx hb dX11_fill_34 hl (k := 1) rfl (nI_1 i) (by decide) rfl (fun ls hl => ?_)
          refine lv_goto (tgt := 20) hx hb dX11_fill_37 (by decide) ?_
          refine W.widen (k := cells + 122 * (i + 1)) (n := slots + 610 * (i + 1)) (by omega) (by omega) ?_
          exact ih (i + 1) _ _ _ _ none ls (by omega) (by omega) hEz ty_n hI hP hD hS (lv_sub hl [0, 1, 2, 3] rfl)
        ·
          obtain ⟨k_9, z_7, f_8⟩ := w_4
          have hP : va_P (dC, dI) vwCl (va_pl z_7.1 f_8) H := hP
          have hD : va_D A (va_pl z_7.1 f_8) := hD
          have hE_10 : zE z z_7 := hw2
          have hI : xI q h0 d k z_7 f_8 := hw3
          have hEz : zE z0 z_7 := zE_tr hEz hE_10
          have ht_6 : tg z_7 b_5 23 := hw4 b_5 rfl
          refine W.eq (g2 := F0 m 33 ls [.ref b_5]) rfl ?_
          refine lv_astore_n (lv' := [(2, .ref b_5), (3, .int (nI i)), (0, .ref h0), (1, .int p0)]) hx hb dX11_fill_33 rfl hl (by decide) rfl (fun ls hl => ?_)
          refine lv_iinc (v := (nI (i + 1))) (lv' := [(3, .int (nI (i + 1))), (2, .ref b_5), (0, .ref h0), (1, .int p0)]) hx hb dX11_fill_34 hl (k := 1) rfl (nI_1 i) (by decide) rfl (fun ls hl => ?_)
          refine lv_goto (tgt := 20) hx hb dX11_fill_37 (by decide) ?_
          refine W.widen (k := cells + 122 * (i + 1)) (n := slots + 610 * (i + 1)) (by omega) (by omega) ?_
          exact ih (i + 1) _ _ _ _ (some b_5) ls (by omega) (by omega) hEz (ty_s ht_6) hI hP hD hS (lv_sub hl [0, 1, 2, 3] rfl)
    ·
      have hl : lv_has ls 4 [(3, .int (nI i)), (2, .ref b9), (0, .ref h0), (1, .int p0)] := hl
      have hb9 := hr b9 rfl
      refine lv_iload_n hx hb dX11_fill_20 rfl (lv_at hl 0 rfl) ?_
      refine lv_bipush (v := 8) hx hb dX11_fill_21 (by decide) ?_
      refine lv_icmp_ge (tgt := 40) hx hb dX11_fill_23 (by decide) (fun c_11 => ?_) (fun c_11 => ?_)
      ·
        have hie : i = 8 := lp_eq rfl (by decide) hi c_11
        refine W.widen (k := cells + 976) (n := slots + 4880) (by omega) (by omega) ?_
        exact kx40 _ _ _ _ (some b9) ls hEz (ty_s hb9) hI hP hD hS (lv_sub hl [1, 2] rfl)
      ·
        have hlt : i < 8 := lp_lt rfl (by decide) hi c_11
        refine lv_aload_n hx hb dX11_fill_26 rfl (lv_at hl 2 rfl) ?_
        refine lv_iload_n hx hb dX11_fill_27 rfl (lv_at hl 3 rfl) ?_
        refine lv_iload_n hx hb dX11_fill_28 rfl (lv_at hl 0 rfl) ?_
        refine lv_aload_n hx hb dX11_fill_29 rfl (lv_at hl 1 rfl) ?_
        obtain ⟨kk_12, hk_13⟩ := pl_at hI.2.1.1.1 hI.2.2.2.1.1
        have hFc := fr_all hD hS hA
        refine va_callq (va_runV (As := [.int p0, .int (nI i), .ref b9]) (rest := []) ⟨hx, hb, hml, hown, hts⟩ (x_fillColumnS l dC dI q h0 d k z f hI p0 (nI i) b9 hb9 hpg (b7n hlt) H.size) (cwV 3 hts gX11_fill_X11_fillColumn rfl rfl rfl (by decide +kernel) ⟨Nat.le_trans (Nat.le_of_ble_eq_true rfl) hRf, Nat.le_trans (Nat.le_of_ble_eq_true rfl) hRl⟩) ⟨gx_fb, va_recv hK hP (ci := 10) (q0 := kk_12) rfl hk_13, fun U hU hW => ⟨rfl, by rw [hU], px_to hU hW hP hK hN hXN, hD.weaken (fun _ _ _ _ => trivial)⟩⟩ rfl rfl hl.1 rfl (lv_room (Nat.le_of_ble_eq_true rfl)) dX11_fill_30 ⟨by omega, by omega⟩) hS (fun q _ h => hFc q h) hFc (fun r w_14 t H1 locs ht hvm hw hB hz1 hk1 hS => ?_)
        obtain ⟨hP, hD1⟩ := hB
        rw [ht] at hP
        have hD := hD1.weaken (fun _ q _ h => hFc q.1 h)
        generalize H1 = H at hP hS ⊢
        refine W.widen (k := cells + 122 * i + 122) (n := slots + 610 * i + 610) (by omega) (by omega) ?_
        obtain ⟨-, hw2, hw3, hw4⟩ := hw
        rcases r with _ | b_15
        ·
          obtain ⟨k_19, z_17, f_18⟩ := w_14
          have hP : va_P (dC, dI) vwCl (va_pl z_17.1 f_18) H := hP
          have hD : va_D A (va_pl z_17.1 f_18) := hD
          have hE_20 : zE z z_17 := hw2
          have hI : xI q h0 d k z_17 f_18 := hw3
          have hb9 := zE_tg hE_20 hb9
          have hEz : zE z0 z_17 := zE_tr hEz hE_20
          refine W.eq (g2 := F0 m 33 ls [.null]) rfl ?_
          refine lv_astore_nN (lv' := [(2, .null), (3, .int (nI i)), (0, .ref h0), (1, .int p0)]) hx hb dX11_fill_33 rfl hl (by decide) rfl (fun ls hl => ?_)
          refine lv_iinc (v := (nI (i + 1))) (lv' := [(3, .int (nI (i + 1))), (2, .null), (0, .ref h0), (1, .int p0)]) hx hb dX11_fill_34 hl (k := 1) rfl (nI_1 i) (by decide) rfl (fun ls hl => ?_)
          refine lv_goto (tgt := 20) hx hb dX11_fill_37 (by decide) ?_
          refine W.widen (k := cells + 122 * (i + 1)) (n := slots + 610 * (i + 1)) (by omega) (by omega) ?_
          exact ih (i + 1) _ _ _ _ none ls (by omega) (by omega) hEz ty_n hI hP hD hS (lv_sub hl [0, 1, 2, 3] rfl)
        ·
          obtain ⟨k_19, z_17, f_18⟩ := w_14
          have hP : va_P (dC, dI) vwCl (va_pl z_17.1 f_18) H := hP
          have hD : va_D A (va_pl z_17.1 f_18) := hD
          have hE_20 : zE z z_17 := hw2
          have hI : xI q h0 d k z_17 f_18 := hw3
          have hb9 := zE_tg hE_20 hb9
          have hEz : zE z0 z_17 := zE_tr hEz hE_20
          have ht_16 : tg z_17 b_15 23 := hw4 b_15 rfl
          refine W.eq (g2 := F0 m 33 ls [.ref b_15]) rfl ?_
          refine lv_astore_n (lv' := [(2, .ref b_15), (3, .int (nI i)), (0, .ref h0), (1, .int p0)]) hx hb dX11_fill_33 rfl hl (by decide) rfl (fun ls hl => ?_)
          refine lv_iinc (v := (nI (i + 1))) (lv' := [(3, .int (nI (i + 1))), (2, .ref b_15), (0, .ref h0), (1, .int p0)]) hx hb dX11_fill_34 hl (k := 1) rfl (nI_1 i) (by decide) rfl (fun ls hl => ?_)
          refine lv_goto (tgt := 20) hx hb dX11_fill_37 (by decide) ?_
          refine W.widen (k := cells + 122 * (i + 1)) (n := slots + 610 * (i + 1)) (by omega) (by omega) ?_
          exact ih (i + 1) _ _ _ _ (some b_15) ls (by omega) (by omega) hEz (ty_s ht_16) hI hP hD hS (lv_sub hl [0, 1, 2, 3] rfl)
set_option maxHeartbeats 4000000 in
set_option maxRecDepth 100000 in
theorem x_fill (l : Launch) (dC : Nat → ClassId) (dI : Nat → Nat → Nat) (q : Nat → ClassId) (h0 : Nat) (d : Nat → Nat) (k : Nat → Int32) (z : gS) (f : xF) (hI : xI q h0 d k z f) (p0 : Int32) (sz : Nat) : Met l yX11_fill wsX11_fill ({ frames := 6, cells := 976, slots := 4880, locals := 138 }) (va_Pc [.ref h0, .int p0] (fun U => U.heap.size = sz ∧ PX dC dI (va_pl z.1 f) (xT q) U ∧ va_D (fun _ => True) (va_pl z.1 f))) (va_Qi (fun (r : Int32) (w : xU) => (∀ j, j ≠ 1 → w.1 j = k j) ∧ zE z w.2.1 ∧ xI q h0 d w.1 w.2.1 w.2.2) (fun (w : xU) t => va_P (dC, dI) vwCl (va_pl w.2.1.1 w.2.2) t.heap ∧ va_D (va_A (va_pl z.1 f) sz) (va_pl w.2.1.1 w.2.2)) (va_A (va_pl z.1 f) sz)) 976 4880 (va_A (va_pl z.1 f) sz) := by
  refine Met.ofW (cc := cX11_fill) (maxL := 4) (ret := (some .int)) (by decide) rfl ?_
  intro p e s m args below meth c s₁ B hml hv
  obtain ⟨rfl, hsz, ⟨⟨hP, hK, hN⟩, hXN⟩, hD0⟩ := hv
  have hx := B.exec
  have hb := B.bytes
  have hr := B.returns
  have hts := atoms_spec (ws := wsX11_fill) B.pre
  have hown : s.vm.findClass RX11 = some m.cls := findClass_of_methodNamed B.named
  have hlocks := B.notSynchronized
  subst hsz
  have hD := hD0.self (sz := s.heap.size)
  generalize hAe : va_A (va_pl z.1 f) s.heap.size = A at hD ⊢
  have hA : ∀ q : Nat, s.heap.size ≤ q → A q := fun q h => by rw [← hAe]; exact Or.inr h
  have hS : va_S A s.heap s.heap [] := va_S.rf
  have hl := lv_entry ([.ref h0, .int p0]) (n := 4) (Nat.le_of_ble_eq_true rfl)
  rw [lg_entry_eq]
  generalize (lg_sl ([.ref h0, .int p0]) ++ List.replicate (4 - (lg_sl ([.ref h0, .int p0])).length) Slot.unset).toArray = ls at hl ⊢
  have hl : lv_has ls 4 [(0, .ref h0), (1, .int p0)] := hl
  refine lv_iload_n hx hb dX11_fill_0 rfl (lv_at hl 1 rfl) ?_
  refine vp_callSi (va_runS (As := [.int p0]) (rest := []) ⟨hx, hb, hml, hown, hts⟩ (x_isPage l dC dI p0) (va_cwS 1 hts gX11_fill_X11_isPage rfl rfl rfl (by decide +kernel) ⟨Nat.le_of_ble_eq_true rfl, Nat.le_of_ble_eq_true rfl⟩) ⟨pw_fb, fun U hU hW => ⟨rfl, pw_to hU hW (hP.sub (ws' := []) [] rfl) (hK.sub (tys' := []) [] rfl) hN⟩⟩ rfl rfl hl.1 rfl (lv_room (Nat.le_of_ble_eq_true rfl)) dX11_fill_1 ⟨Nat.le_of_ble_eq_true rfl, Nat.le_of_ble_eq_true rfl⟩).run (fun r hw => ?_)
  rcases Bool.eq_false_or_eq_true (bw p0 0 11) with b_1 | b_1
  ·
    obtain rfl : r = 1 := b_t hw b_1
    refine lv_if_eq (tgt := 14) hx hb dX11_fill_4 (by decide) (fun c_2 => absurd c_2 (by decide)) (fun c_2 => ?_)
    refine lv_aload_n hx hb dX11_fill_7 rfl (lv_at hl 0 rfl) ?_
    obtain ⟨kk_3, hk_4⟩ := pl_at hI.2.1.1.1 hI.2.2.2.1.1
    refine vp_callSi (va_runV (As := []) (rest := []) ⟨hx, hb, hml, hown, hts⟩ (x_canAct l dC dI q h0 d k z f hI) (cwV 0 hts gX11_fill_X11_canAct rfl rfl rfl (by decide +kernel) ⟨Nat.le_of_ble_eq_true rfl, Nat.le_of_ble_eq_true rfl⟩) ⟨px_fb, va_recv hK hP (ci := 10) (q0 := kk_3) rfl hk_4, fun U hU hW => ⟨rfl, px_to hU hW hP hK hN hXN⟩⟩ rfl rfl hl.1 rfl (lv_room (Nat.le_of_ble_eq_true rfl)) dX11_fill_8 ⟨Nat.le_of_ble_eq_true rfl, Nat.le_of_ble_eq_true rfl⟩).run (fun r hw => ?_)
    rcases hw with hw | ⟨hw, hact⟩
    ·
      subst hw
      refine lv_if_ne (tgt := 16) hx hb dX11_fill_11 (by decide) (fun c_5 => absurd (by decide) c_5) (fun c_5 => ?_)
      refine lv_iconst (v := (-1)) hx hb dX11_fill_14 (by decide) ?_
      refine W.widen (k := 976) (n := 4880) (Nat.le_of_ble_eq_true rfl) (Nat.le_of_ble_eq_true rfl) ?_
      exact W.iret (v := (-1)) hx hb hr (fun t ht hW => ⟨⟨(-1), (k, z, f), rfl, ⟨fun _ _ => rfl, zE_rf z, hI⟩, by rw [ht]; exact hP, hD⟩, hS.F ht⟩) hS.2.2 dX11_fill_15
    ·
      subst hw
      refine lv_if_ne (tgt := 16) hx hb dX11_fill_11 (by decide) (fun c_6 => ?_) (fun c_6 => absurd c_6 (by decide))
      refine lv_null hx hb dX11_fill_16 ?_
      refine lv_astore_nN (lv' := [(2, .null), (0, .ref h0), (1, .int p0)]) hx hb dX11_fill_17 rfl hl (by decide) rfl (fun ls hl => ?_)
      refine lv_iconst (v := 0) hx hb dX11_fill_18 (by decide) ?_
      refine lv_istore_n (lv' := [(3, .int 0), (2, .null), (0, .ref h0), (1, .int p0)]) hx hb dX11_fill_19 rfl hl (by decide) rfl (fun ls hl => ?_)
      refine x_fill_l (cells := 0) (slots := 0) (z0 := z) (p0 := p0) b_1 hx hb hml hts hown hN hXN hK (Nat.le_of_ble_eq_true rfl) (Nat.le_of_ble_eq_true rfl) (Nat.le_of_ble_eq_true rfl) (Nat.le_of_ble_eq_true rfl) hA (fun z2 f2 H locs r ls hE2 hr2 hI hP hD hS hl => ?_) 9 0 z f _ _ none ls (by decide) (by decide) (zE_rf z) ty_n hI hP hD hS (lv_sub hl [0, 1, 2, 3] rfl)
      rcases r with _ | b8
      all_goals refine W.widen (k := 976) (n := 4880) (Nat.le_of_ble_eq_true rfl) (Nat.le_of_ble_eq_true rfl) ?_
      ·
        have hl : lv_has ls 4 [(2, .null), (0, .ref h0)] := hl
        refine lv_aload_nN hx hb dX11_fill_40 rfl (lv_at hl 0 rfl) ?_
        refine lv_ifnonnullN hx hb dX11_fill_41 ?_
        refine lv_iconst (v := 0) hx hb dX11_fill_44 (by decide) ?_
        exact W.iret (v := 0) hx hb hr (fun t ht hW => ⟨⟨0, (k, z2, f2), rfl, ⟨fun _ _ => rfl, hE2, hI⟩, by rw [ht]; exact hP, hD⟩, hS.F ht⟩) hS.2.2 dX11_fill_45
      ·
        have hl : lv_has ls 4 [(2, .ref b8), (0, .ref h0)] := hl
        have ht8 := hr2 b8 rfl
        refine lv_aload_n hx hb dX11_fill_40 rfl (lv_at hl 0 rfl) ?_
        refine lv_ifnonnull (tgt := 46) hx hb dX11_fill_41 (by decide) ?_
        refine lv_aload_n hx hb dX11_fill_46 rfl (lv_at hl 1 rfl) ?_
        refine lv_aload_n hx hb dX11_fill_47 rfl (lv_at hl 0 rfl) ?_
        obtain ⟨kk_7, hk_8⟩ := pl_at hI.2.1.1.1 hI.2.2.2.1.1
        have hFc := fr_all hD hS hA
        refine va_callv (va_runV (As := [.ref b8]) (rest := []) ⟨hx, hb, hml, hown, hts⟩ (x_keep l dC dI q h0 d k z2 f2 hI b8 ht8 H.size) (cwV 1 hts gX11_fill_X11_keep rfl rfl rfl (by decide +kernel) ⟨Nat.le_of_ble_eq_true rfl, Nat.le_of_ble_eq_true rfl⟩) ⟨gx_fb, va_recv hK hP (ci := 10) (q0 := kk_7) rfl hk_8, fun U hU hW => ⟨rfl, by rw [hU], px_to hU hW hP hK hN hXN, hD.weaken (fun _ _ _ _ => trivial)⟩⟩ rfl rfl hl.1 rfl (lv_room (Nat.le_of_ble_eq_true rfl)) dX11_fill_48 ⟨Nat.le_of_ble_eq_true rfl, Nat.le_of_ble_eq_true rfl⟩) hS (fun q _ h => hFc q h) hFc (fun w_9 t H1 locs ht hvm hw hB hz1 hk1 hS => ?_)
        obtain ⟨hP, hD1⟩ := hB
        rw [ht] at hP
        rw [hw.2.1] at hP hD1
        have hD := hD1.weaken (fun _ q _ h => hFc q.1 h)
        have hI := hw.2.2
        have hw0 := hw
        generalize w_9.1 = k_11 at hI hw0
        generalize w_9.2.2 = f_10 at hP hD hI hw0
        generalize H1 = H at hP hS ⊢
        have hkk := hw0.1
        refine lv_aload_n hx hb dX11_fill_51 rfl (lv_at hl 0 rfl) ?_
        obtain ⟨pp_12, ll_13, nn_14, ah_15, ha_16, hs_17, hl_18, hh_19⟩ := x_acS hI ht8
        obtain ⟨kk_20, hk_21⟩ := pl_at ht8.1 hs_17
        refine va_get (D := (dC, dI)) (ci := 0) (v := .int nn_14) (C := RX0) (T := TX0) (N := 4) hx hb hts (by decide +kernel) hown hK hP kk_20 hk_21 rfl 3 (by decide) (hts (.fieldLink RX11 184 "PageOne$Act" "parts" "I") (by decide +kernel)) (fun _ h9 => h9) rfl dX11_fill_52 ?_
        exact W.iret (v := nn_14) hx hb hr (fun t ht hW => ⟨⟨nn_14, (k_11, z2, f_10), rfl, ⟨hkk, hE2, hI⟩, by rw [ht]; exact hP, hD⟩, hS.F ht⟩) hS.2.2 dX11_fill_55
  ·
    obtain rfl : r = 0 := b_f hw b_1
    refine lv_if_eq (tgt := 14) hx hb dX11_fill_4 (by decide) (fun c_22 => ?_) (fun c_22 => absurd (by decide) c_22)
    refine lv_iconst (v := (-1)) hx hb dX11_fill_14 (by decide) ?_
    refine W.widen (k := 976) (n := 4880) (Nat.le_of_ble_eq_true rfl) (Nat.le_of_ble_eq_true rfl) ?_
    exact W.iret (v := (-1)) hx hb hr (fun t ht hW => ⟨⟨(-1), (k, z, f), rfl, ⟨fun _ _ => rfl, zE_rf z, hI⟩, by rw [ht]; exact hP, hD⟩, hS.F ht⟩) hS.2.2 dX11_fill_15
