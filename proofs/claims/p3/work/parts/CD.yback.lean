theorem ac_eq {q h0 d k z f} (h : xI q h0 d k z f) {a p : Nat} {l n : Int32} {ah : Option Nat} (ha : acS z a p l n ah) : f a = .inr (0, [.ref p, .int l, va_rf ah, .int n]) := by
  obtain ⟨h1, -⟩ := x_23 h ha.1
  rw [h1, ha.2]
/-- a part of an act that is taken back: whether it was lifted, whose it is, where -/
abbrev bS : Type := Bool × Option Nat × fR
def bkS (z : gS) (d : Nat → Nat) : Option Nat → List bS → Prop
  | o, [] => o = none
  | o, x :: xs => ∃ a pp n ah, o = some a ∧ acS z a pp (if x.1 then 1 else 0) n ah ∧ pcR z pp (x.2.1.map (fun i => d (2000 + i))) x.2.2 ∧ bkS z d ah xs
def bkU (u : mS) : List bS → mS
  | [] => u
  | x :: xs => bkU (match x.1, x.2.1 with
    | true, some i => mStand u (nI i) x.2.2.1 x.2.2.2.1 x.2.2.2.2.1 x.2.2.2.2.2.1 x.2.2.2.2.2.2
    | false, some i => mUnstand u (nI i) x.2.2.1 x.2.2.2.1 x.2.2.2.2.1 x.2.2.2.2.2.1 x.2.2.2.2.2.2
    | _, none => mput u 2 (setR (u.2 2) x.2.2.1 x.2.2.2.1 x.2.2.2.2.1 x.2.2.2.2.2.2 (-2) x.2.2.2.2.2.1)) xs
/-- each part can be taken back when its turn comes -/
def bkK (u : mS) : List bS → Prop
  | [] => True
  | (true, some i, (P, X, Y, D, N)) :: xs => rIn u P X Y D N ∧ i < (u.1 3).toNatClampNeg ∧ (u.2 22 i).toNatClampNeg < (if u.2 4 i = 0 then 6 else 1) ∧ bkK (mStand u (nI i) P X Y D N) xs
  | (false, some i, (P, X, Y, D, N)) :: xs => rIn u P X Y D N ∧ i < (u.1 3).toNatClampNeg ∧ 0 < (u.2 22 i).toNatClampNeg ∧ bkK (mUnstand u (nI i) P X Y D N) xs
  | (false, none, (P, X, Y, D, N)) :: xs => rIn u P X Y D N ∧ bkK (mput u 2 (setR (u.2 2) P X Y N (-2) D)) xs
  | (true, none, _) :: _ => False
def neI (u : mS) : Prop := ∀ j, j < 5760 → ¬ u.2 2 j = (-1)
theorem neI_set {u w : mS} (h : neI u) {P X Y N D : Nat} {x : Int32} (hx : ¬ x = (-1)) (hw : w.2 2 = setR (u.2 2) P X Y N x D) : neI w := fun j hj => by
  rw [hw]
  rcases setR_v (u.2 2) P X Y N x D j with e | e
  · rw [e]; exact h j hj
  · rw [e]; exact hx
set_option maxHeartbeats 4000000 in
set_option maxRecDepth 100000 in
theorem y_takeBack_l {p : Program} {l : Launch} {e : Env} {R : Room} {s : State} {m : MethodId} {args : Array Value} {below : List Frame} {meth : Method} {c : Code} {Q : State → Prop} {cells slots : Nat} {dC : Nat → ClassId} {dI : Nat → Nat → Nat} {q : Nat → ClassId} {h0 : Nat} {d : Nat → Nat} {k : Nat → Int32} {z : gS} {A : Nat → Prop} {H0 : Heap} {f0 : xF} {uE : mS} (hx : p.tables.exec = Jvm.exec) (hb : c.code = cX11_takeBack) (hml : c.maxLocals = 3) (hts : ∀ w ∈ wsX11_takeBack, w.before args s = true) (hown : s.vm.findClass RX11 = some m.cls) (hN : NN s) (hXN : XN s) (hK : va_K (dC, dI) vwCl (xT q) s) (hRf : 5 ≤ R.frames) (hRl : 109 ≤ R.locals) (hRc : cells ≤ R.cells) (hRs : slots ≤ R.slots) (hA : ∀ q : Nat, H0.size ≤ q → A q) (kx40 : ∀ (f : xF) (H : Heap) (locs : List Loc) (ls : Array Slot), rep q d uE z f → f (d 3) = f0 (d 3) → xI q h0 d k z f → va_P (dC, dI) vwCl (va_pl z.1 f) H → va_D A (va_pl z.1 f) → va_S A H0 H locs → lv_has ls 3 [(0, .ref h0)] → W p l e R s m args below meth c H locs cells slots Q (F0 m 40 ls [])) : ∀ (L9 : List bS) (u : mS) (r : Option Nat) (f : xF) (H : Heap) (locs : List Loc) (ls : Array Slot), bkU u L9 = uE → bkS z d r L9 → bkK u L9 → neI u → rep q d u z f → k 0 = u.1 3 → k 1 = u.1 28 → k 2 = u.1 38 → k 3 = u.1 39 → f (d 3) = f0 (d 3) → xI q h0 d k z f → va_P (dC, dI) vwCl (va_pl z.1 f) H → va_D A (va_pl z.1 f) → va_S A H0 H locs → lv_has ls 3 [(2, va_rf r), (0, .ref h0)] → W p l e R s m args below meth c H locs cells slots Q (F0 m 2 ls []) := by
  intro L9
  induction L9 with
  | nil =>
    intro u r f H locs ls hE9 hS9 hK9 hne hrp hk0 hk1 hk2 hk3 h3m hI hP hD hS hl
    have hr9 : r = none := hS9
    subst hr9
    have hE9 : u = uE := hE9
    subst hE9
    have hl : lv_has ls 3 [(2, .null), (0, .ref h0)] := hl
    refine lv_aload_nN hx hb dX11_takeBack_2 rfl (lv_at hl 0 rfl) ?_
    refine lv_ifnullN (tgt := 40) hx hb dX11_takeBack_3 (by decide) ?_
    exact kx40 _ _ _ ls hrp h3m hI hP hD hS (lv_sub hl [1] rfl)
  | cons x xs ih =>
    intro u r f H locs ls hE9 hS9 hK9 hne hrp hk0 hk1 hk2 hk3 h3m hI hP hD hS hl
    have hk1o := hk1
    obtain ⟨b, pp, nn, ah, rfl, hac, hpc, hS9⟩ := hS9
    have hl : lv_has ls 3 [(2, .ref b), (0, .ref h0)] := hl
    obtain ⟨lf, it, P, X, Y, D, N⟩ := x
    have hfb := ac_eq hI hac
    rcases lf with _ | _
    · rcases it with _ | i
      ·
        obtain ⟨hrx, hK9⟩ := hK9
        obtain ⟨hP9, hX, hD1, hY, hN1, hin⟩ := hrx
        have hpcx : pcS z pp none (nI P) (nI X) (nI Y) (nI D) (nI N) := hpc
        have hlgb := lg_of hpcx ⟨b7n (by omega), b60n (by omega), bwN (by have e8 : (8 : Int32).toInt = 8 := rfl; rw [e8]; omega) (by omega), b60n (by omega)⟩
        have hfb : f b = .inr (0, [.ref pp, .int 0, va_rf ah, .int nn]) := hfb
        refine lv_aload_n hx hb dX11_takeBack_2 rfl (lv_at hl 0 rfl) ?_
        refine lv_ifnull hx hb dX11_takeBack_3 ?_
        refine lv_aload_n hx hb dX11_takeBack_6 rfl (lv_at hl 0 rfl) ?_
        obtain ⟨kk_1, hk_2⟩ := pl_at hac.1.1 hfb
        refine va_get (D := (dC, dI)) (ci := 0) (v := .int 0) (C := RX0) (T := TX0) (N := 4) hx hb hts (by decide +kernel) hown hK hP kk_1 hk_2 rfl 1 (by decide) (hts (.fieldLink RX11 313 "PageOne$Act" "lifted" "Z") (by decide +kernel)) (fun _ h9 => h9) rfl dX11_takeBack_7 ?_
        refine lv_if_eq (tgt := 24) hx hb dX11_takeBack_10 (by decide) (fun c_3 => ?_) (fun c_3 => absurd (by decide) c_3)
        refine lv_aload_n hx hb dX11_takeBack_24 rfl (lv_at hl 1 rfl) ?_
        refine lv_aload_n hx hb dX11_takeBack_25 rfl (lv_at hl 0 rfl) ?_
        obtain ⟨kk_4, hk_5⟩ := pl_at hac.1.1 hfb
        refine va_get (D := (dC, dI)) (ci := 0) (v := .ref pp) (C := RX0) (T := TX0) (N := 4) hx hb hts (by decide +kernel) hown hK hP kk_4 hk_5 rfl 0 (by decide) (hts (.fieldLink RX11 317 "PageOne$Act" "piece" "LPageOne$Piece;") (by decide +kernel)) (fun _ h9 => h9) rfl dX11_takeBack_26 ?_
        obtain ⟨kk_6, hk_7⟩ := pl_at hI.2.1.1.1 hI.2.2.2.1.1
        have hFc := fr_all hD hS hA
        refine va_callv (va_runV (As := [.ref pp]) (rest := []) ⟨hx, hb, hml, hown, hts⟩ (y_offR l dC dI q h0 d k z f hI pp P X Y D N u hrp hk0 hk1 hk2 hk3 hP9 hX hD1 hY hin hne hpcx H.size) (cwV 1 hts gX11_takeBack_X11_takeOff rfl rfl rfl (by decide +kernel) ⟨Nat.le_trans (Nat.le_of_ble_eq_true rfl) hRf, Nat.le_trans (Nat.le_of_ble_eq_true rfl) hRl⟩) ⟨gx_fb, va_recv hK hP (ci := 10) (q0 := kk_6) rfl hk_7, fun U hU hW => ⟨rfl, by rw [hU], px_to hU hW hP hK hN hXN, hD.weaken (fun _ _ _ _ => trivial)⟩⟩ rfl rfl hl.1 rfl (lv_room (Nat.le_of_ble_eq_true rfl)) dX11_takeBack_29 ⟨hRc, hRs⟩) hS (fun q _ h => hFc q h) hFc (fun w_8 t H1 locs ht hvm hw hB hz1 hk1 hS => ?_)
        obtain ⟨hP, hD1⟩ := hB
        rw [ht] at hP
        rw [hw.2.1] at hP hD1
        have hD := hD1.weaken (fun _ q _ h => hFc q.1 h)
        have hI := hw.2.2.1
        have hw0 := hw
        generalize w_8.2.2 = f_9 at hP hD hI hw0
        generalize H1 = H at hP hS ⊢
        have hfb : f_9 b = .inr (0, [.ref pp, .int 0, va_rf ah, .int nn]) := ac_eq hI hac
        refine lv_aload_n hx hb dX11_takeBack_32 rfl (lv_at hl 0 rfl) ?_
        obtain ⟨kk_10, hk_11⟩ := pl_at hac.1.1 hfb
        refine va_get (D := (dC, dI)) (ci := 0) (v := va_rf ah) (C := RX0) (T := TX0) (N := 4) hx hb hts (by decide +kernel) hown hK hP kk_10 hk_11 rfl 2 (by decide) (hts (.fieldLink RX11 321 "PageOne$Act" "ahead" "LPageOne$Act;") (by decide +kernel)) (fun _ h9 => h9) rfl dX11_takeBack_33 ?_
        rcases ah with _ | b_12
        ·
          refine W.eq (g2 := F0 m 36 ls [.null]) rfl ?_
          refine lv_astore_nN (lv' := [(2, .null), (0, .ref h0)]) hx hb dX11_takeBack_36 rfl hl (by decide) rfl (fun ls hl => ?_)
          refine lv_goto (tgt := 2) hx hb dX11_takeBack_37 (by decide) ?_
          exact ih _ none _ _ _ ls hE9 hS9 hK9 (neI_set (x := -2) hne (by decide) rfl) hw0.2.2.2.1 hk0 hk1o hk2 hk3 (hw0.2.2.2.2.trans h3m) hI hP hD hS (lv_sub hl [0, 1] rfl)
        ·
          refine W.eq (g2 := F0 m 36 ls [.ref b_12]) rfl ?_
          refine lv_astore_n (lv' := [(2, .ref b_12), (0, .ref h0)]) hx hb dX11_takeBack_36 rfl hl (by decide) rfl (fun ls hl => ?_)
          refine lv_goto (tgt := 2) hx hb dX11_takeBack_37 (by decide) ?_
          exact ih _ (some b_12) _ _ _ ls hE9 hS9 hK9 (neI_set (x := -2) hne (by decide) rfl) hw0.2.2.2.1 hk0 hk1o hk2 hk3 (hw0.2.2.2.2.trans h3m) hI hP hD hS (lv_sub hl [0, 1] rfl)
      ·
        obtain ⟨hrx, hi, hrm, hK9⟩ := hK9
        obtain ⟨hP9, hX, hD1, hY, hN1, hin⟩ := hrx
        have hpcx : pcS z pp (some (d (2000 + i))) (nI P) (nI X) (nI Y) (nI D) (nI N) := hpc
        have hlgb := lg_of hpcx ⟨b7n (by omega), b60n (by omega), bwN (by have e8 : (8 : Int32).toInt = 8 := rfl; rw [e8]; omega) (by omega), b60n (by omega)⟩
        have hfb : f b = .inr (0, [.ref pp, .int 0, va_rf ah, .int nn]) := hfb
        refine lv_aload_n hx hb dX11_takeBack_2 rfl (lv_at hl 0 rfl) ?_
        refine lv_ifnull hx hb dX11_takeBack_3 ?_
        refine lv_aload_n hx hb dX11_takeBack_6 rfl (lv_at hl 0 rfl) ?_
        obtain ⟨kk_14, hk_15⟩ := pl_at hac.1.1 hfb
        refine va_get (D := (dC, dI)) (ci := 0) (v := .int 0) (C := RX0) (T := TX0) (N := 4) hx hb hts (by decide +kernel) hown hK hP kk_14 hk_15 rfl 1 (by decide) (hts (.fieldLink RX11 313 "PageOne$Act" "lifted" "Z") (by decide +kernel)) (fun _ h9 => h9) rfl dX11_takeBack_7 ?_
        refine lv_if_eq (tgt := 24) hx hb dX11_takeBack_10 (by decide) (fun c_16 => ?_) (fun c_16 => absurd (by decide) c_16)
        refine lv_aload_n hx hb dX11_takeBack_24 rfl (lv_at hl 1 rfl) ?_
        refine lv_aload_n hx hb dX11_takeBack_25 rfl (lv_at hl 0 rfl) ?_
        obtain ⟨kk_17, hk_18⟩ := pl_at hac.1.1 hfb
        refine va_get (D := (dC, dI)) (ci := 0) (v := .ref pp) (C := RX0) (T := TX0) (N := 4) hx hb hts (by decide +kernel) hown hK hP kk_17 hk_18 rfl 0 (by decide) (hts (.fieldLink RX11 317 "PageOne$Act" "piece" "LPageOne$Piece;") (by decide +kernel)) (fun _ h9 => h9) rfl dX11_takeBack_26 ?_
        obtain ⟨kk_19, hk_20⟩ := pl_at hI.2.1.1.1 hI.2.2.2.1.1
        have hFc := fr_all hD hS hA
        refine va_callv (va_runV (As := [.ref pp]) (rest := []) ⟨hx, hb, hml, hown, hts⟩ (y_offI l dC dI q h0 d k z f hI pp P X Y D N u hrp hk0 hk1 hk2 hk3 hP9 hX hD1 hY hin hne i hi hpcx hrm H.size) (cwV 1 hts gX11_takeBack_X11_takeOff rfl rfl rfl (by decide +kernel) ⟨Nat.le_trans (Nat.le_of_ble_eq_true rfl) hRf, Nat.le_trans (Nat.le_of_ble_eq_true rfl) hRl⟩) ⟨gx_fb, va_recv hK hP (ci := 10) (q0 := kk_19) rfl hk_20, fun U hU hW => ⟨rfl, by rw [hU], px_to hU hW hP hK hN hXN, hD.weaken (fun _ _ _ _ => trivial)⟩⟩ rfl rfl hl.1 rfl (lv_room (Nat.le_of_ble_eq_true rfl)) dX11_takeBack_29 ⟨hRc, hRs⟩) hS (fun q _ h => hFc q h) hFc (fun w_21 t H1 locs ht hvm hw hB hz1 hk1 hS => ?_)
        obtain ⟨hP, hD1⟩ := hB
        rw [ht] at hP
        rw [hw.2.1] at hP hD1
        have hD := hD1.weaken (fun _ q _ h => hFc q.1 h)
        have hI := hw.2.2.1
        have hw0 := hw
        generalize w_21.2.2 = f_22 at hP hD hI hw0
        generalize H1 = H at hP hS ⊢
        have hfb : f_22 b = .inr (0, [.ref pp, .int 0, va_rf ah, .int nn]) := ac_eq hI hac
        refine lv_aload_n hx hb dX11_takeBack_32 rfl (lv_at hl 0 rfl) ?_
        obtain ⟨kk_23, hk_24⟩ := pl_at hac.1.1 hfb
        refine va_get (D := (dC, dI)) (ci := 0) (v := va_rf ah) (C := RX0) (T := TX0) (N := 4) hx hb hts (by decide +kernel) hown hK hP kk_23 hk_24 rfl 2 (by decide) (hts (.fieldLink RX11 321 "PageOne$Act" "ahead" "LPageOne$Act;") (by decide +kernel)) (fun _ h9 => h9) rfl dX11_takeBack_33 ?_
        rcases ah with _ | b_25
        ·
          refine W.eq (g2 := F0 m 36 ls [.null]) rfl ?_
          refine lv_astore_nN (lv' := [(2, .null), (0, .ref h0)]) hx hb dX11_takeBack_36 rfl hl (by decide) rfl (fun ls hl => ?_)
          refine lv_goto (tgt := 2) hx hb dX11_takeBack_37 (by decide) ?_
          exact ih _ none _ _ _ ls hE9 hS9 hK9 (neI_set (x := -2) hne (by decide) (mUnstand_2 _ _ _ _ _ _ _)) hw0.2.2.2.1 hk0 hk1o hk2 hk3 (hw0.2.2.2.2.trans h3m) hI hP hD hS (lv_sub hl [0, 1] rfl)
        ·
          refine W.eq (g2 := F0 m 36 ls [.ref b_25]) rfl ?_
          refine lv_astore_n (lv' := [(2, .ref b_25), (0, .ref h0)]) hx hb dX11_takeBack_36 rfl hl (by decide) rfl (fun ls hl => ?_)
          refine lv_goto (tgt := 2) hx hb dX11_takeBack_37 (by decide) ?_
          exact ih _ (some b_25) _ _ _ ls hE9 hS9 hK9 (neI_set (x := -2) hne (by decide) (mUnstand_2 _ _ _ _ _ _ _)) hw0.2.2.2.1 hk0 hk1o hk2 hk3 (hw0.2.2.2.2.trans h3m) hI hP hD hS (lv_sub hl [0, 1] rfl)
    · rcases it with _ | i
      ·
        exact absurd hK9 (fun h => h)
      ·
        obtain ⟨hrx, hi, hrm, hK9⟩ := hK9
        obtain ⟨hP9, hX, hD1, hY, hN1, hin⟩ := hrx
        have hpcx : pcS z pp (some (d (2000 + i))) (nI P) (nI X) (nI Y) (nI D) (nI N) := hpc
        have hlgb := lg_of hpcx ⟨b7n (by omega), b60n (by omega), bwN (by have e8 : (8 : Int32).toInt = 8 := rfl; rw [e8]; omega) (by omega), b60n (by omega)⟩
        have hfb : f b = .inr (0, [.ref pp, .int 1, va_rf ah, .int nn]) := hfb
        refine lv_aload_n hx hb dX11_takeBack_2 rfl (lv_at hl 0 rfl) ?_
        refine lv_ifnull hx hb dX11_takeBack_3 ?_
        refine lv_aload_n hx hb dX11_takeBack_6 rfl (lv_at hl 0 rfl) ?_
        obtain ⟨kk_27, hk_28⟩ := pl_at hac.1.1 hfb
        refine va_get (D := (dC, dI)) (ci := 0) (v := .int 1) (C := RX0) (T := TX0) (N := 4) hx hb hts (by decide +kernel) hown hK hP kk_27 hk_28 rfl 1 (by decide) (hts (.fieldLink RX11 313 "PageOne$Act" "lifted" "Z") (by decide +kernel)) (fun _ h9 => h9) rfl dX11_takeBack_7 ?_
        refine lv_if_eq (tgt := 24) hx hb dX11_takeBack_10 (by decide) (fun c_29 => absurd c_29 (by decide)) (fun c_29 => ?_)
        refine lv_aload_n hx hb dX11_takeBack_13 rfl (lv_at hl 1 rfl) ?_
        refine lv_aload_n hx hb dX11_takeBack_14 rfl (lv_at hl 0 rfl) ?_
        obtain ⟨kk_30, hk_31⟩ := pl_at hac.1.1 hfb
        refine va_get (D := (dC, dI)) (ci := 0) (v := .ref pp) (C := RX0) (T := TX0) (N := 4) hx hb hts (by decide +kernel) hown hK hP kk_30 hk_31 rfl 0 (by decide) (hts (.fieldLink RX11 317 "PageOne$Act" "piece" "LPageOne$Piece;") (by decide +kernel)) (fun _ h9 => h9) rfl dX11_takeBack_15 ?_
        obtain ⟨kk_32, hk_33⟩ := pl_at hI.2.1.1.1 hI.2.2.2.1.1
        have hFc := fr_all hD hS hA
        refine va_callv (va_runV (As := [.ref pp]) (rest := []) ⟨hx, hb, hml, hown, hts⟩ (y_standI l dC dI q h0 d k z f hI pp P X Y D N u hrp hk0 hk1 hk2 hk3 hP9 hX hD1 hY hin hne i hi hpcx hrm H.size) (cwV 1 hts gX11_takeBack_X11_stand rfl rfl rfl (by decide +kernel) ⟨Nat.le_trans (Nat.le_of_ble_eq_true rfl) hRf, Nat.le_trans (Nat.le_of_ble_eq_true rfl) hRl⟩) ⟨gx_fb, va_recv hK hP (ci := 10) (q0 := kk_32) rfl hk_33, fun U hU hW => ⟨rfl, by rw [hU], px_to hU hW hP hK hN hXN, hD.weaken (fun _ _ _ _ => trivial)⟩⟩ rfl rfl hl.1 rfl (lv_room (Nat.le_of_ble_eq_true rfl)) dX11_takeBack_18 ⟨hRc, hRs⟩) hS (fun q _ h => hFc q h) hFc (fun w_34 t H1 locs ht hvm hw hB hz1 hk1 hS => ?_)
        obtain ⟨hP, hD1⟩ := hB
        rw [ht] at hP
        rw [hw.2.1] at hP hD1
        have hD := hD1.weaken (fun _ q _ h => hFc q.1 h)
        have hI := hw.2.2.1
        have hw0 := hw
        generalize w_34.2.2 = f_35 at hP hD hI hw0
        generalize H1 = H at hP hS ⊢
        have hfb : f_35 b = .inr (0, [.ref pp, .int 1, va_rf ah, .int nn]) := ac_eq hI hac
        refine lv_goto (tgt := 32) hx hb dX11_takeBack_21 (by decide) ?_
        refine lv_aload_n hx hb dX11_takeBack_32 rfl (lv_at hl 0 rfl) ?_
        obtain ⟨kk_36, hk_37⟩ := pl_at hac.1.1 hfb
        refine va_get (D := (dC, dI)) (ci := 0) (v := va_rf ah) (C := RX0) (T := TX0) (N := 4) hx hb hts (by decide +kernel) hown hK hP kk_36 hk_37 rfl 2 (by decide) (hts (.fieldLink RX11 321 "PageOne$Act" "ahead" "LPageOne$Act;") (by decide +kernel)) (fun _ h9 => h9) rfl dX11_takeBack_33 ?_
        rcases ah with _ | b_38
        ·
          refine W.eq (g2 := F0 m 36 ls [.null]) rfl ?_
          refine lv_astore_nN (lv' := [(2, .null), (0, .ref h0)]) hx hb dX11_takeBack_36 rfl hl (by decide) rfl (fun ls hl => ?_)
          refine lv_goto (tgt := 2) hx hb dX11_takeBack_37 (by decide) ?_
          exact ih _ none _ _ _ ls hE9 hS9 hK9 (neI_set hne (nIm1 (by have := w80i hI.1.1 hk0; omega)) (mStand_2 _ _ _ _ _ _ _)) hw0.2.2.2.1 hk0 hk1o hk2 hk3 (hw0.2.2.2.2.trans h3m) hI hP hD hS (lv_sub hl [0, 1] rfl)
        ·
          refine W.eq (g2 := F0 m 36 ls [.ref b_38]) rfl ?_
          refine lv_astore_n (lv' := [(2, .ref b_38), (0, .ref h0)]) hx hb dX11_takeBack_36 rfl hl (by decide) rfl (fun ls hl => ?_)
          refine lv_goto (tgt := 2) hx hb dX11_takeBack_37 (by decide) ?_
          exact ih _ (some b_38) _ _ _ ls hE9 hS9 hK9 (neI_set hne (nIm1 (by have := w80i hI.1.1 hk0; omega)) (mStand_2 _ _ _ _ _ _ _)) hw0.2.2.2.1 hk0 hk1o hk2 hk3 (hw0.2.2.2.2.trans h3m) hI hP hD hS (lv_sub hl [0, 1] rfl)
