theorem acF_t {z : gS} {d : Nat → Nat} {b : Nat} {xs : List fX} (h : acF z d (some b) xs) : tg z b 23 := by
  cases xs with
  | nil => exact absurd h (fun e => by cases e)
  | cons x xs =>
    obtain ⟨a, pp, ah, e, h2, -⟩ := h
    obtain rfl := Option.some.inj e
    exact h2.1
set_option maxHeartbeats 4000000 in
set_option maxRecDepth 100000 in
theorem y_fill_l {p : Program} {l : Launch} {e : Env} {R : Room} {s : State} {m : MethodId} {args : Array Value} {below : List Frame} {meth : Method} {c : Code} {Q : State → Prop} {cells slots : Nat} {dC : Nat → ClassId} {dI : Nat → Nat → Nat} {q : Nat → ClassId} {h0 : Nat} {d : Nat → Nat} {k : Nat → Int32} {z0 : gS} {f0 : xF} {u0 : mS} {P : Nat} (hP9 : P < 12) {A : Nat → Prop} {H0 : Heap} (hx : p.tables.exec = Jvm.exec) (hb : c.code = cX11_fill) (hml : c.maxLocals = 4) (hts : ∀ w ∈ wsX11_fill, w.before args s = true) (hown : s.vm.findClass RX11 = some m.cls) (hN : NN s) (hXN : XN s) (hK : va_K (dC, dI) vwCl (xT q) s) (hRf : 6 ≤ R.frames) (hRl : 138 ≤ R.locals) (hRc : cells + 976 ≤ R.cells) (hRs : slots + 4880 ≤ R.slots) (hA : ∀ q : Nat, H0.size ≤ q → A q) (kx40 : ∀ (z : gS) (f : xF) (H : Heap) (locs : List Loc) (r : Option Nat) (u : mS) (xs : List fX) (ls : Array Slot), flN u0 P 8 = (u, xs) → rep q d u z f → neI u → k 0 = u.1 3 → k 1 = u.1 28 → k 2 = u.1 38 → k 3 = u.1 39 → acF z d r xs → f (d 3) = f0 (d 3) → zE z0 z → xI q h0 d k z f → va_P (dC, dI) vwCl (va_pl z.1 f) H → va_D A (va_pl z.1 f) → va_S A H0 H locs → lv_has ls 4 [(2, va_rf r), (0, .ref h0)] → W p l e R s m args below meth c H locs (cells + 976) (slots + 4880) Q (F0 m 40 ls [])) : ∀ (n i : Nat) (z : gS) (f : xF) (H : Heap) (locs : List Loc) (r : Option Nat) (u : mS) (xs : List fX) (ls : Array Slot), i ≤ 8 → 8 - i < n → flN u0 P i = (u, xs) → rep q d u z f → neI u → k 0 = u.1 3 → k 1 = u.1 28 → k 2 = u.1 38 → k 3 = u.1 39 → acF z d r xs → f (d 3) = f0 (d 3) → zE z0 z → xI q h0 d k z f → va_P (dC, dI) vwCl (va_pl z.1 f) H → va_D A (va_pl z.1 f) → va_S A H0 H locs → lv_has ls 4 [(3, .int (nI i)), (2, va_rf r), (0, .ref h0), (1, .int (nI P))] → W p l e R s m args below meth c H locs (cells + 122 * i) (slots + 610 * i) Q (F0 m 20 ls []) := by
  intro n
  induction n with
  | zero => intro i z f H locs r u xs ls h1 h2; exact absurd h2 (Nat.not_lt_zero _)
  | succ n ih =>
    intro i z f H locs r u xs ls hi hn hfl hrp hne hk0 hk1 hk2 hk3 hacF h3m hEz hI hP hD hS hl
    rcases r with _ | b9
    ·
      have hl : lv_has ls 4 [(3, .int (nI i)), (2, .null), (0, .ref h0), (1, .int (nI P))] := hl
      refine lv_iload_n hx hb dX11_fill_20 rfl (lv_at hl 0 rfl) ?_
      refine lv_bipush (v := 8) hx hb dX11_fill_21 (by decide) ?_
      refine lv_icmp_ge (tgt := 40) hx hb dX11_fill_23 (by decide) (fun c_1 => ?_) (fun c_1 => ?_)
      ·
        have hie : i = 8 := lp_eq rfl (by decide) hi c_1
        refine W.widen (k := cells + 976) (n := slots + 4880) (by omega) (by omega) ?_
        exact kx40 _ _ _ _ none u xs ls (by rw [← hie]; exact hfl) hrp hne hk0 hk1 hk2 hk3 hacF h3m hEz hI hP hD hS (lv_sub hl [1, 2] rfl)
      ·
        have hlt : i < 8 := lp_lt rfl (by decide) hi c_1
        refine lv_aload_n hx hb dX11_fill_26 rfl (lv_at hl 2 rfl) ?_
        refine lv_iload_n hx hb dX11_fill_27 rfl (lv_at hl 3 rfl) ?_
        refine lv_iload_n hx hb dX11_fill_28 rfl (lv_at hl 0 rfl) ?_
        refine lv_aload_nN hx hb dX11_fill_29 rfl (lv_at hl 1 rfl) ?_
        obtain ⟨L9, eL, hL60⟩ := ln_L hI hrp hP9 hlt
        obtain ⟨kk_2, hk_3⟩ := pl_at hI.2.1.1.1 hI.2.2.2.1.1
        have hFc := fr_all hD hS hA
        refine va_callq (va_runV (As := [.int (nI P), .int (nI i), .null]) (rest := []) ⟨hx, hb, hml, hown, hts⟩ (y_fillColN l dC dI q h0 d k z f hI P i L9 hP9 hlt u hrp hk0 hk1 hk2 hk3 eL hL60 hne xs hacF H.size) (cwV 3 hts gX11_fill_X11_fillColumn rfl rfl rfl (by decide +kernel) ⟨Nat.le_trans (Nat.le_of_ble_eq_true rfl) hRf, Nat.le_trans (Nat.le_of_ble_eq_true rfl) hRl⟩) ⟨gx_fb, va_recv hK hP (ci := 10) (q0 := kk_2) rfl hk_3, fun U hU hW => ⟨rfl, by rw [hU], px_to hU hW hP hK hN hXN, hD.weaken (fun _ _ _ _ => trivial)⟩⟩ rfl rfl hl.1 rfl (lv_room (Nat.le_of_ble_eq_true rfl)) dX11_fill_30 ⟨by omega, by omega⟩) hS (fun q _ h => hFc q h) hFc (fun r w_4 t H1 locs ht hvm hw hB hz1 hk1 hS => ?_)
        obtain ⟨hP, hD1⟩ := hB
        rw [ht] at hP
        have hD := hD1.weaken (fun _ q _ h => hFc q.1 h)
        generalize H1 = H at hP hS ⊢
        refine W.widen (k := cells + 122 * i + 122) (n := slots + 610 * i + 610) (by omega) (by omega) ?_
        obtain ⟨u2, xs2, r9, hfN, hwk, hE2, hI, hrp2, hne2, hu2, ⟨hq0, hq1, hq2, hq3⟩, hacF2, h3n⟩ := hw
        generalize w_4.2.1 = z_6 at hE2 hI hrp2 hacF2 hP hD
        generalize w_4.2.2 = f_7 at hI hrp2 h3n hP hD
        have hEz := zE_tr hEz hE2
        rcases r with _ | b_5
        ·
          refine W.eq (g2 := F0 m 33 ls [.null]) rfl ?_
          refine lv_astore_nN (lv' := [(2, .null), (3, .int (nI i)), (0, .ref h0), (1, .int (nI P))]) hx hb dX11_fill_33 rfl hl (by decide) rfl (fun ls hl => ?_)
          refine lv_iinc (v := (nI (i + 1))) (lv' := [(3, .int (nI (i + 1))), (2, .null), (0, .ref h0), (1, .int (nI P))]) hx hb dX11_fill_34 hl (k := 1) rfl (nI_1 i) (by decide) rfl (fun ls hl => ?_)
          refine lv_goto (tgt := 20) hx hb dX11_fill_37 (by decide) ?_
          refine W.widen (k := cells + 122 * (i + 1)) (n := slots + 610 * (i + 1)) (by omega) (by omega) ?_
          exact ih (i + 1) _ _ _ _ none u2 xs2 ls (by omega) (by omega) (flN_s hfl hfN eL hL60) hrp2 hne2 hq0 hq1 hq2 hq3 hacF2 (h3n.trans h3m) hEz hI hP hD hS (lv_sub hl [0, 1, 2, 3] rfl)
        ·
          refine W.eq (g2 := F0 m 33 ls [.ref b_5]) rfl ?_
          refine lv_astore_n (lv' := [(2, .ref b_5), (3, .int (nI i)), (0, .ref h0), (1, .int (nI P))]) hx hb dX11_fill_33 rfl hl (by decide) rfl (fun ls hl => ?_)
          refine lv_iinc (v := (nI (i + 1))) (lv' := [(3, .int (nI (i + 1))), (2, .ref b_5), (0, .ref h0), (1, .int (nI P))]) hx hb dX11_fill_34 hl (k := 1) rfl (nI_1 i) (by decide) rfl (fun ls hl => ?_)
          refine lv_goto (tgt := 20) hx hb dX11_fill_37 (by decide) ?_
          refine W.widen (k := cells + 122 * (i + 1)) (n := slots + 610 * (i + 1)) (by omega) (by omega) ?_
          exact ih (i + 1) _ _ _ _ (some b_5) u2 xs2 ls (by omega) (by omega) (flN_s hfl hfN eL hL60) hrp2 hne2 hq0 hq1 hq2 hq3 hacF2 (h3n.trans h3m) hEz hI hP hD hS (lv_sub hl [0, 1, 2, 3] rfl)
    ·
      have hl : lv_has ls 4 [(3, .int (nI i)), (2, .ref b9), (0, .ref h0), (1, .int (nI P))] := hl
      refine lv_iload_n hx hb dX11_fill_20 rfl (lv_at hl 0 rfl) ?_
      refine lv_bipush (v := 8) hx hb dX11_fill_21 (by decide) ?_
      refine lv_icmp_ge (tgt := 40) hx hb dX11_fill_23 (by decide) (fun c_8 => ?_) (fun c_8 => ?_)
      ·
        have hie : i = 8 := lp_eq rfl (by decide) hi c_8
        refine W.widen (k := cells + 976) (n := slots + 4880) (by omega) (by omega) ?_
        exact kx40 _ _ _ _ (some b9) u xs ls (by rw [← hie]; exact hfl) hrp hne hk0 hk1 hk2 hk3 hacF h3m hEz hI hP hD hS (lv_sub hl [1, 2] rfl)
      ·
        have hlt : i < 8 := lp_lt rfl (by decide) hi c_8
        refine lv_aload_n hx hb dX11_fill_26 rfl (lv_at hl 2 rfl) ?_
        refine lv_iload_n hx hb dX11_fill_27 rfl (lv_at hl 3 rfl) ?_
        refine lv_iload_n hx hb dX11_fill_28 rfl (lv_at hl 0 rfl) ?_
        refine lv_aload_n hx hb dX11_fill_29 rfl (lv_at hl 1 rfl) ?_
        obtain ⟨L9, eL, hL60⟩ := ln_L hI hrp hP9 hlt
        obtain ⟨kk_9, hk_10⟩ := pl_at hI.2.1.1.1 hI.2.2.2.1.1
        have hFc := fr_all hD hS hA
        refine va_callq (va_runV (As := [.int (nI P), .int (nI i), .ref b9]) (rest := []) ⟨hx, hb, hml, hown, hts⟩ (y_fillColS l dC dI q h0 d k z f hI b9 (acF_t hacF) P i L9 hP9 hlt u hrp hk0 hk1 hk2 hk3 eL hL60 hne xs hacF H.size) (cwV 3 hts gX11_fill_X11_fillColumn rfl rfl rfl (by decide +kernel) ⟨Nat.le_trans (Nat.le_of_ble_eq_true rfl) hRf, Nat.le_trans (Nat.le_of_ble_eq_true rfl) hRl⟩) ⟨gx_fb, va_recv hK hP (ci := 10) (q0 := kk_9) rfl hk_10, fun U hU hW => ⟨rfl, by rw [hU], px_to hU hW hP hK hN hXN, hD.weaken (fun _ _ _ _ => trivial)⟩⟩ rfl rfl hl.1 rfl (lv_room (Nat.le_of_ble_eq_true rfl)) dX11_fill_30 ⟨by omega, by omega⟩) hS (fun q _ h => hFc q h) hFc (fun r w_11 t H1 locs ht hvm hw hB hz1 hk1 hS => ?_)
        obtain ⟨hP, hD1⟩ := hB
        rw [ht] at hP
        have hD := hD1.weaken (fun _ q _ h => hFc q.1 h)
        generalize H1 = H at hP hS ⊢
        refine W.widen (k := cells + 122 * i + 122) (n := slots + 610 * i + 610) (by omega) (by omega) ?_
        obtain ⟨u2, xs2, r9, hfN, hwk, hE2, hI, hrp2, hne2, hu2, ⟨hq0, hq1, hq2, hq3⟩, hacF2, h3n⟩ := hw
        generalize w_11.2.1 = z_13 at hE2 hI hrp2 hacF2 hP hD
        generalize w_11.2.2 = f_14 at hI hrp2 h3n hP hD
        have hEz := zE_tr hEz hE2
        rcases r with _ | b_12
        ·
          refine W.eq (g2 := F0 m 33 ls [.null]) rfl ?_
          refine lv_astore_nN (lv' := [(2, .null), (3, .int (nI i)), (0, .ref h0), (1, .int (nI P))]) hx hb dX11_fill_33 rfl hl (by decide) rfl (fun ls hl => ?_)
          refine lv_iinc (v := (nI (i + 1))) (lv' := [(3, .int (nI (i + 1))), (2, .null), (0, .ref h0), (1, .int (nI P))]) hx hb dX11_fill_34 hl (k := 1) rfl (nI_1 i) (by decide) rfl (fun ls hl => ?_)
          refine lv_goto (tgt := 20) hx hb dX11_fill_37 (by decide) ?_
          refine W.widen (k := cells + 122 * (i + 1)) (n := slots + 610 * (i + 1)) (by omega) (by omega) ?_
          exact ih (i + 1) _ _ _ _ none u2 xs2 ls (by omega) (by omega) (flN_s hfl hfN eL hL60) hrp2 hne2 hq0 hq1 hq2 hq3 hacF2 (h3n.trans h3m) hEz hI hP hD hS (lv_sub hl [0, 1, 2, 3] rfl)
        ·
          refine W.eq (g2 := F0 m 33 ls [.ref b_12]) rfl ?_
          refine lv_astore_n (lv' := [(2, .ref b_12), (3, .int (nI i)), (0, .ref h0), (1, .int (nI P))]) hx hb dX11_fill_33 rfl hl (by decide) rfl (fun ls hl => ?_)
          refine lv_iinc (v := (nI (i + 1))) (lv' := [(3, .int (nI (i + 1))), (2, .ref b_12), (0, .ref h0), (1, .int (nI P))]) hx hb dX11_fill_34 hl (k := 1) rfl (nI_1 i) (by decide) rfl (fun ls hl => ?_)
          refine lv_goto (tgt := 20) hx hb dX11_fill_37 (by decide) ?_
          refine W.widen (k := cells + 122 * (i + 1)) (n := slots + 610 * (i + 1)) (by omega) (by omega) ?_
          exact ih (i + 1) _ _ _ _ (some b_12) u2 xs2 ls (by omega) (by omega) (flN_s hfl hfN eL hL60) hrp2 hne2 hq0 hq1 hq2 hq3 hacF2 (h3n.trans h3m) hEz hI hP hD hS (lv_sub hl [0, 1, 2, 3] rfl)
/-- what fill leaves -/
def flP (q : Nat → ClassId) (h0 : Nat) (d : Nat → Nat) (k : Nat → Int32) (z : gS) (f : xF) (u : mS) (p0 r : Int32) (w : xU) : Prop := ((¬ bw p0 0 11 = true ∨ u.1 28 = 300) ∧ r = (-1) ∧ w = (k, z, f)) ∨ (bw p0 0 11 = true ∧ ¬ u.1 28 = 300 ∧ ∃ u' xs, flN u p0.toNatClampNeg 8 = (u', xs) ∧ ((xs = [] ∧ actP q h0 d k z f ((0 : Int32), u') (fun _ => False) r w) ∨ (¬ xs = [] ∧ actP q h0 d k z f (nI xs.length, mActs u' 3 (nI xs.length) 0 0 0 0 0) (fun e => e = (3, 0, (0, 0, 0, 0, 0), xs)) r w)))
theorem fill_fin {q h0 d k u' z f z9 f9 k9} {a : Nat} {xs : List fX} {fc : xF} (hk1 : k 1 = u'.1 28) (hE : zE z z9) (hI9 : xI q h0 d k9 z9 f9) (hrp9 : rep q d u' z9 f9) (h3m : fc (d 3) = f (d 3)) (hkc : k9 = kup k 1 (k 1 + 1)) (hk3 : ∃ g, fc (d 3) = aR (q 4) 300 g ∧ f9 (d 3) = aR (q 4) 300 (va_up g (k 1).toNatClampNeg (some a))) (hac : acF z9 d (some a) xs) : actP q h0 d k z f (nI xs.length, mActs u' 3 (nI xs.length) 0 0 0 0 0) (fun e => e = (3, 0, (0, 0, 0, 0, 0), xs)) (nI xs.length) (k9, z9, f9) := by
  obtain ⟨g, g1, g2⟩ := hk3
  refine ⟨hE, hI9, rfl, rep_rows hrp9 rfl (fun r hr => mActs_k _ _ _ _ _ _ _ _ (by omega)), fun j hj => by rw [hkc]; exact kup_o hj, ?_, Or.inr ⟨g, a, _, by rw [← h3m]; exact g1, g2, by show k9 1 = _; rw [hkc, kup_s], ?_, rfl⟩⟩
  · show k9 1 = u'.1 28 + 1
    rw [hkc, kup_s, hk1]
  · exact Or.inr (Or.inr (Or.inr ⟨rfl, hac⟩))
set_option maxHeartbeats 4000000 in
set_option maxRecDepth 100000 in
theorem y_fill (l : Launch) (dC : Nat → ClassId) (dI : Nat → Nat → Nat) (q : Nat → ClassId) (h0 : Nat) (d : Nat → Nat) (k : Nat → Int32) (z : gS) (f : xF) (hI : xI q h0 d k z f) (p0 : Int32) (u : mS) (hrp : rep q d u z f) (hk0 : k 0 = u.1 3) (hk1 : k 1 = u.1 28) (hk2 : k 2 = u.1 38) (hk3 : k 3 = u.1 39) (hz0 : (z.2 h0).2.1 = 0) (hne : neI u) (sz : Nat) : Met l yX11_fill wsX11_fill ({ frames := 6, cells := 976, slots := 4880, locals := 138 }) (va_Pc [.ref h0, .int p0] (fun U => U.heap.size = sz ∧ PX dC dI (va_pl z.1 f) (xT q) U ∧ va_D (fun _ => True) (va_pl z.1 f))) (va_Qi (fun (r : Int32) (w : xU) => flP q h0 d k z f u p0 r w) (fun (w : xU) t => va_P (dC, dI) vwCl (va_pl w.2.1.1 w.2.2) t.heap ∧ va_D (va_A (va_pl z.1 f) sz) (va_pl w.2.1.1 w.2.2)) (va_A (va_pl z.1 f) sz)) 976 4880 (va_A (va_pl z.1 f) sz) := by
  refine Met.ofW (cc := cX11_fill) (maxL := 4) (ret := (some .int)) (by decide) rfl ?_
  intro p e s m args below meth c s₁ B hml hv
  obtain ⟨rfl, hsz, ⟨⟨hP, hK, hN⟩, hXN⟩, hD0⟩ := hv
  have hx := B.exec
  have hb := B.bytes
  have hr := B.returns
  have hts := atoms_spec (ws := wsX11_fill) B.pre
  have hown : s.vm.findClass RX11 = some m.cls := findClass_of_methodNamed B.named
  have hlocks := B.notSynchronized
  subst hsz
  have hD := hD0.self (sz := s.heap.size)
  generalize hAe : va_A (va_pl z.1 f) s.heap.size = A at hD ⊢
  have hA : ∀ q : Nat, s.heap.size ≤ q → A q := fun q h => by rw [← hAe]; exact Or.inr h
  have hS : va_S A s.heap s.heap [] := va_S.rf
  have hl := lv_entry ([.ref h0, .int p0]) (n := 4) (Nat.le_of_ble_eq_true rfl)
  rw [lg_entry_eq]
  generalize (lg_sl ([.ref h0, .int p0]) ++ List.replicate (4 - (lg_sl ([.ref h0, .int p0])).length) Slot.unset).toArray = ls at hl ⊢
  have hl : lv_has ls 4 [(0, .ref h0), (1, .int p0)] := hl
  have hIo := hI
  have hk1o := hk1
  refine lv_iload_n hx hb dX11_fill_0 rfl (lv_at hl 1 rfl) ?_
  refine vp_callSi (va_runS (As := [.int p0]) (rest := []) ⟨hx, hb, hml, hown, hts⟩ (x_isPage l dC dI p0) (va_cwS 1 hts gX11_fill_X11_isPage rfl rfl rfl (by decide +kernel) ⟨Nat.le_of_ble_eq_true rfl, Nat.le_of_ble_eq_true rfl⟩) ⟨pw_fb, fun U hU hW => ⟨rfl, pw_to hU hW (hP.sub (ws' := []) [] rfl) (hK.sub (tys' := []) [] rfl) hN⟩⟩ rfl rfl hl.1 rfl (lv_room (Nat.le_of_ble_eq_true rfl)) dX11_fill_1 ⟨Nat.le_of_ble_eq_true rfl, Nat.le_of_ble_eq_true rfl⟩).run (fun r hw => ?_)
  rcases Bool.eq_false_or_eq_true (bw p0 0 11) with b_1 | b_1
  ·
    obtain rfl : r = 1 := b_t hw b_1
    refine lv_if_eq (tgt := 14) hx hb dX11_fill_4 (by decide) (fun c_2 => absurd c_2 (by decide)) (fun c_2 => ?_)
    refine lv_aload_n hx hb dX11_fill_7 rfl (lv_at hl 0 rfl) ?_
    obtain ⟨kk_3, hk_4⟩ := pl_at hI.2.1.1.1 hI.2.2.2.1.1
    refine vp_callSi (va_runV (As := []) (rest := []) ⟨hx, hb, hml, hown, hts⟩ (y_canAct l dC dI q h0 d k z f hI) (cwV 0 hts gX11_fill_X11_canAct rfl rfl rfl (by decide +kernel) ⟨Nat.le_of_ble_eq_true rfl, Nat.le_of_ble_eq_true rfl⟩) ⟨px_fb, va_recv hK hP (ci := 10) (q0 := kk_3) rfl hk_4, fun U hU hW => ⟨rfl, px_to hU hW hP hK hN hXN⟩⟩ rfl rfl hl.1 rfl (lv_room (Nat.le_of_ble_eq_true rfl)) dX11_fill_8 ⟨Nat.le_of_ble_eq_true rfl, Nat.le_of_ble_eq_true rfl⟩).run (fun r hw => ?_)
    rcases hw with ⟨hw, hca_5⟩ | ⟨hw, hca_5⟩
    ·
      subst hw
      refine lv_if_ne (tgt := 16) hx hb dX11_fill_11 (by decide) (fun c_6 => absurd (by decide) c_6) (fun c_6 => ?_)
      refine lv_iconst (v := (-1)) hx hb dX11_fill_14 (by decide) ?_
      refine W.widen (k := 976) (n := 4880) (Nat.le_of_ble_eq_true rfl) (Nat.le_of_ble_eq_true rfl) ?_
      exact W.iret (v := (-1)) hx hb hr (fun t ht hW => ⟨⟨(-1), (k, z, f), rfl, (Or.inl ⟨Or.inr (by rw [← hk1o]; exact (n300 hIo.1.2.1).1 hca_5), rfl, rfl⟩), by rw [ht]; exact hP, hD⟩, hS.F ht⟩) hS.2.2 dX11_fill_15
    ·
      subst hw
      refine lv_if_ne (tgt := 16) hx hb dX11_fill_11 (by decide) (fun c_7 => ?_) (fun c_7 => absurd c_7 (by decide))
      refine lv_null hx hb dX11_fill_16 ?_
      refine lv_astore_nN (lv' := [(2, .null), (0, .ref h0), (1, .int p0)]) hx hb dX11_fill_17 rfl hl (by decide) rfl (fun ls hl => ?_)
      refine lv_iconst (v := 0) hx hb dX11_fill_18 (by decide) ?_
      refine lv_istore_n (lv' := [(3, .int 0), (2, .null), (0, .ref h0), (1, .int p0)]) hx hb dX11_fill_19 rfl hl (by decide) rfl (fun ls hl => ?_)
      obtain ⟨P, eP⟩ : ∃ y, y = p0.toNatClampNeg := ⟨_, rfl⟩
      have eP1 : p0 = nI P := by rw [eP]; exact (nI_of_bw b_1).1
      have hP9 : P < 12 := by rw [eP]; exact clp b_1
      rw [eP1] at hl
      refine y_fill_l (cells := 0) (slots := 0) (z0 := z) (f0 := f) (u0 := u) (P := P) hP9 hx hb hml hts hown hN hXN hK (Nat.le_of_ble_eq_true rfl) (Nat.le_of_ble_eq_true rfl) (Nat.le_of_ble_eq_true rfl) (Nat.le_of_ble_eq_true rfl) hA (fun z2 f2 H locs r u2 xs2 ls hfl hrp2 hne2 hq0 hq1 hq2 hq3 hacF2 h3m hE2 hI hP hD hS hl => ?_) 9 0 z f _ _ none u [] ls (by decide) (by decide) rfl hrp hne hk0 hk1 hk2 hk3 rfl rfl (zE_rf z) hI hP hD hS (lv_sub hl [0, 1, 2, 3] rfl)
      rcases r with _ | b8
      all_goals refine W.widen (k := 976) (n := 4880) (Nat.le_of_ble_eq_true rfl) (Nat.le_of_ble_eq_true rfl) ?_
      ·
        have hl : lv_has ls 4 [(2, .null), (0, .ref h0)] := hl
        have hEz := hE2
        refine lv_aload_nN hx hb dX11_fill_40 rfl (lv_at hl 0 rfl) ?_
        refine lv_ifnonnullN hx hb dX11_fill_41 ?_
        refine lv_iconst (v := 0) hx hb dX11_fill_44 (by decide) ?_
        exact W.iret (v := 0) hx hb hr (fun t ht hW => ⟨⟨0, (k, z2, f2), rfl, (Or.inr ⟨b_1, (by rw [← hk1o]; exact (n300 hIo.1.2.1).2 hca_5), u2, xs2, by rw [← eP]; exact hfl, Or.inl ⟨by cases xs2 with | nil => rfl | cons x xs => (obtain ⟨a, pp, ah, e9, -⟩ := hacF2; cases e9), hE2, hI, rfl, hrp2, fun _ _ => rfl, hq1, Or.inl ⟨h3m, rfl⟩⟩⟩), by rw [ht]; exact hP, hD⟩, hS.F ht⟩) hS.2.2 dX11_fill_45
      ·
        have hl : lv_has ls 4 [(2, .ref b8), (0, .ref h0)] := hl
        have hEz := hE2
        rcases xs2 with _ | ⟨x9, xs9⟩
        · exact absurd hacF2 (fun h => by cases h)
        ·
          have hacS := hacF2
          obtain ⟨b7, pp9, ah9, eb8, hac9, hpc9, hac8⟩ := hacS
          obtain rfl := Option.some.inj eb8
          have ht8 := hac9.1
          refine lv_aload_n hx hb dX11_fill_40 rfl (lv_at hl 0 rfl) ?_
          refine lv_ifnonnull (tgt := 46) hx hb dX11_fill_41 (by decide) ?_
          refine lv_aload_n hx hb dX11_fill_46 rfl (lv_at hl 1 rfl) ?_
          refine lv_aload_n hx hb dX11_fill_47 rfl (lv_at hl 0 rfl) ?_
          have hIb := hI
          have hcx : ¬ 300 ≤ k 1 := hca_5
          obtain ⟨kk_8, hk_9⟩ := pl_at hI.2.1.1.1 hI.2.2.2.1.1
          have hFc := fr_all hD hS hA
          refine va_callv (va_runV (As := [.ref b8]) (rest := []) ⟨hx, hb, hml, hown, hts⟩ (y_keep l dC dI q h0 d k z2 f2 hI b8 ht8 hcx H.size) (cwV 1 hts gX11_fill_X11_keep rfl rfl rfl (by decide +kernel) ⟨Nat.le_of_ble_eq_true rfl, Nat.le_of_ble_eq_true rfl⟩) ⟨gx_fb, va_recv hK hP (ci := 10) (q0 := kk_8) rfl hk_9, fun U hU hW => ⟨rfl, by rw [hU], px_to hU hW hP hK hN hXN, hD.weaken (fun _ _ _ _ => trivial)⟩⟩ rfl rfl hl.1 rfl (lv_room (Nat.le_of_ble_eq_true rfl)) dX11_fill_48 ⟨Nat.le_of_ble_eq_true rfl, Nat.le_of_ble_eq_true rfl⟩) hS (fun q _ h => hFc q h) hFc (fun w_10 t H1 locs ht hvm hw hB hz1 hk1 hS => ?_)
          obtain ⟨hP, hD1⟩ := hB
          rw [ht] at hP
          rw [hw.1] at hP hD1
          have hD := hD1.weaken (fun _ q _ h => hFc q.1 h)
          have hI := hw.2.1
          have hw0 := hw
          generalize w_10.1 = k_12 at hI hw0
          generalize w_10.2.2 = f_11 at hP hD hI hw0
          generalize H1 = H at hP hS ⊢
          have hkp := hw0.2.2
          have hrp_13 : rep q d u2 z2 f_11 := rep_kp hrp2 hIb (by rw [zE_o hEz hIo.2.1.1.1]; exact hz0) hkp
          refine lv_aload_n hx hb dX11_fill_51 rfl (lv_at hl 0 rfl) ?_
          have hs_14 := ac_eq hI hac9
          obtain ⟨kk_15, hk_16⟩ := pl_at hac9.1.1 hs_14
          refine va_get (D := (dC, dI)) (ci := 0) (v := .int (nI (xs9.length + 1))) (C := RX0) (T := TX0) (N := 4) hx hb hts (by decide +kernel) hown hK hP kk_15 hk_16 rfl 3 (by decide) (hts (.fieldLink RX11 184 "PageOne$Act" "parts" "I") (by decide +kernel)) (fun _ h9 => h9) rfl dX11_fill_52 ?_
          exact W.iret (v := (nI (xs9.length + 1))) hx hb hr (fun t ht hW => ⟨⟨(nI (xs9.length + 1)), (k_12, z2, f_11), rfl, (Or.inr ⟨b_1, (by rw [← hk1o]; exact (n300 hIo.1.2.1).2 hca_5), u2, x9 :: xs9, by rw [← eP]; exact hfl, Or.inr ⟨(fun e => by cases e), fill_fin hq1 hEz hI hrp_13 h3m hkp.1 (kp_3 hrp2 hIb hkp) hacF2⟩⟩), by rw [ht]; exact hP, hD⟩, hS.F ht⟩) hS.2.2 dX11_fill_55
  ·
    obtain rfl : r = 0 := b_f hw b_1
    refine lv_if_eq (tgt := 14) hx hb dX11_fill_4 (by decide) (fun c_17 => ?_) (fun c_17 => absurd (by decide) c_17)
    refine lv_iconst (v := (-1)) hx hb dX11_fill_14 (by decide) ?_
    refine W.widen (k := 976) (n := 4880) (Nat.le_of_ble_eq_true rfl) (Nat.le_of_ble_eq_true rfl) ?_
    exact W.iret (v := (-1)) hx hb hr (fun t ht hW => ⟨⟨(-1), (k, z, f), rfl, (Or.inl ⟨Or.inl (bne b_1), rfl, rfl⟩), by rw [ht]; exact hP, hD⟩, hS.F ht⟩) hS.2.2 dX11_fill_15
