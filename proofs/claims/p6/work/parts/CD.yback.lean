theorem ac_eq {q h0 d k z f} (h : xI q h0 d k z f) {a p : Nat} {l n : Int32} {ah : Option Nat} (ha : acS z a p l n ah) : f a = .inr (0, [.ref p, .int l, va_rf ah, .int n]) := by
  obtain ⟨h1, -⟩ := x_23 h ha.1
  rw [h1, ha.2]
/-- a part of an act that is taken back: whether it was lifted, whose it is, where -/
abbrev bS : Type := Bool × Option Nat × fR
def bkS (z : gS) (d : Nat → Nat) : Option Nat → List bS → Prop
  | o, [] => o = none
  | o, x :: xs => ∃ a pp n ah, o = some a ∧ acS z a pp (if x.1 then 1 else 0) n ah ∧ pcR z pp (x.2.1.map (fun i => d (2000 + i))) x.2.2 ∧ bkS z d ah xs
def bkU (u : mS) : List bS → mS
  | [] => u
  | x :: xs => bkU (match x.1, x.2.1 with
    | true, some i => mStand u (nI i) x.2.2.1 x.2.2.2.1 x.2.2.2.2.1 x.2.2.2.2.2.1 x.2.2.2.2.2.2
    | false, some i => mUnstand u (nI i) x.2.2.1 x.2.2.2.1 x.2.2.2.2.1 x.2.2.2.2.2.1 x.2.2.2.2.2.2
    | _, none => mput u 2 (setR (u.2 2) x.2.2.1 x.2.2.2.1 x.2.2.2.2.1 x.2.2.2.2.2.2 (-2) x.2.2.2.2.2.1)) xs
/-- each part can be taken back when its turn comes -/
def bkK (u : mS) : List bS → Prop
  | [] => True
  | (true, some i, (P, X, Y, D, N)) :: xs => rIn u P X Y D N ∧ i < (u.1 3).toNatClampNeg ∧ (u.2 22 i).toNatClampNeg < (if u.2 4 i = 0 then 6 else 1) ∧ bkK (mStand u (nI i) P X Y D N) xs
  | (false, some i, (P, X, Y, D, N)) :: xs => rIn u P X Y D N ∧ i < (u.1 3).toNatClampNeg ∧ 0 < (u.2 22 i).toNatClampNeg ∧ bkK (mUnstand u (nI i) P X Y D N) xs
  | (false, none, (P, X, Y, D, N)) :: xs => rIn u P X Y D N ∧ bkK (mput u 2 (setR (u.2 2) P X Y N (-2) D)) xs
  | (true, none, _) :: _ => False
def neI (u : mS) : Prop := ∀ j, j < 5760 → ¬ u.2 2 j = (-1)
theorem neI_set {u w : mS} (h : neI u) {P X Y N D : Nat} {x : Int32} (hx : ¬ x = (-1)) (hw : w.2 2 = setR (u.2 2) P X Y N x D) : neI w := fun j hj => by
  rw [hw]
  rcases setR_v (u.2 2) P X Y N x D j with e | e
  · rw [e]; exact h j hj
  · rw [e]; exact hx
set_option maxHeartbeats 4000000 in
set_option maxRecDepth 100000 in
theorem y_takeBack_l {p : Program} {l : Launch} {e : Env} {R : Room} {s : State} {m : MethodId} {args : Array Value} {below : List Frame} {meth : Method} {c : Code} {Q : State → Prop} {cells slots : Nat} {dC : Nat → ClassId} {dI : Nat → Nat → Nat} {q : Nat → ClassId} {h0 : Nat} {d : Nat → Nat} {k : Nat → Int32} {z : gS} {A : Nat → Prop} {H0 : Heap} {f0 : xF} {uE : mS} (hx : p.tables.exec = Jvm.exec) (hb : c.code = cX11_takeBack) (hml : c.maxLocals = 3) (hts : ∀ w ∈ wsX11_takeBack, w.before args s = true) (hown : s.vm.findClass RX11 = some m.cls) (hN : NN s) (hXN : XN s) (hK : va_K (dC, dI) vwCl (xT q) s) (hRf : 5 ≤ R.frames) (hRl : 109 ≤ R.locals) (hRc : cells ≤ R.cells) (hRs : slots ≤ R.slots) (hA : ∀ q : Nat, H0.size ≤ q → A q) (kx40 : ∀ (f : xF) (H : Heap) (locs : List Loc) (ls : Array Slot), rep q d uE z f → f (d 3) = f0 (d 3) → xI q h0 d k z f → va_P (dC, dI) vwCl (va_pl z.1 f) H → va_D A (va_pl z.1 f) → va_S A H0 H locs → lv_has ls 3 [(0, .ref h0)] → W p l e R s m args below meth c H locs cells slots Q (F0 m 40 ls [])) : ∀ (L9 : List bS) (u : mS) (r : Option Nat) (f : xF) (H : Heap) (locs : List Loc) (ls : Array Slot), bkU u L9 = uE → bkS z d r L9 → bkK u L9 → neI u → rep q d u z f → k 0 = u.1 3 → k 1 = u.1 28 → k 2 = u.1 38 → k 3 = u.1 39 → f (d 3) = f0 (d 3) → xI q h0 d k z f → va_P (dC, dI) vwCl (va_pl z.1 f) H → va_D A (va_pl z.1 f) → va_S A H0 H locs → lv_has ls 3 [(2, va_rf r), (0, .ref h0)] → W p l e R s m args below meth c H locs cells slots Q (F0 m 2 ls []) := by
  intro L9
  induction L9 with
  | nil =>
    intro u r f H locs ls hE9 hS9 hK9 hne hrp hk0 hk1 hk2 hk3 h3m hI hP hD hS hl
    have hr9 : r = none := hS9
    subst hr9
    have hE9 : u = uE := hE9
    subst hE9
    have hl : lv_has ls 3 [(2, .null), (0, .ref h0)] := hl
    refine lv_aload_nN hx hb dX11_takeBack_2 rfl (lv_at hl 0 rfl) ?_
    refine lv_ifnullN (tgt := 40) hx hb dX11_takeBack_3 (by decide) ?_
    exact kx40 _ _ _ ls hrp h3m hI hP hD hS (lv_sub hl [1] rfl)
  | cons x xs ih =>
    intro u r f H locs ls hE9 hS9 hK9 hne hrp hk0 hk1 hk2 hk3 h3m hI hP hD hS hl
    have hk1o := hk1
    obtain ⟨b, pp, nn, ah, rfl, hac, hpc, hS9⟩ := hS9
    have hl : lv_has ls 3 [(2, .ref b), (0, .ref h0)] := hl
    obtain ⟨lf, it, P, X, Y, D, N⟩ := x
    have hfb := ac_eq hI hac
    rcases lf with _ | _
    · rcases it with _ | i
      ·
        obtain ⟨hrx, hK9⟩ := hK9
        obtain ⟨hP9, hX, hD1, hY, hN1, hin⟩ := hrx
        have hpcx : pcS z pp none (nI P) (nI X) (nI Y) (nI D) (nI N) := hpc
        have hlgb := lg_of hpcx ⟨b7n (by omega), b60n (by omega), bwN (by have e8 : (8 : Int32).toInt = 8 := rfl; rw [e8]; omega) (by omega), b60n (by omega)⟩
        have hfb : f b = .inr (0, [.ref pp, .int 0, va_rf ah, .int nn]) := hfb
        refine lv_aload_n hx hb dX11_takeBack_2 rfl (lv_at hl 0 rfl) ?_
        refine lv_ifnull hx hb dX11_takeBack_3 ?_
        refine lv_aload_n hx hb dX11_takeBack_6 rfl (lv_at hl 0 rfl) ?_
        obtain ⟨kk_1, hk_2⟩ := pl_at hac.1.1 hfb
        refine va_get (D := (dC, dI)) (ci := 0) (v := .int 0) (C := RX0) (T := TX0) (N := 4) hx hb hts (by decide +kernel) hown hK hP kk_1 hk_2 rfl 1 (by decide) (hts (.fieldLink RX11 313 "PageOne$Act" "lifted" "Z") (by decide +kernel)) (fun _ h9 => h9) rfl dX11_takeBack_7 ?_
        refine lv_if_eq (tgt := 24) hx hb dX11_takeBack_10 (by decide) (fun c_3 => ?_) (fun c_3 => absurd (by decide) c_3)
        refine lv_aload_n hx hb dX11_takeBack_24 rfl (lv_at hl 1 rfl) ?_
        refine lv_aload_n hx hb dX11_takeBack_25 rfl (lv_at hl 0 rfl) ?_
        obtain ⟨kk_4, hk_5⟩ := pl_at hac.1.1 hfb
        refine va_get (D := (dC, dI)) (ci := 0) (v := .ref pp) (C := RX0) (T := TX0) (N := 4) hx hb hts (by decide +kernel) hown hK hP kk_4 hk_5 rfl 0 (by decide) (hts (.fieldLink RX11 317 "PageOne$Act" "piece" "LPageOne$Piece;") (by decide +kernel)) (fun _ h9 => h9) rfl dX11_takeBack_26 ?_
        obtain ⟨kk_6, hk_7⟩ := pl_at hI.2.1.1.1 hI.2.2.2.1.1
        have hFc := fr_all hD hS hA
        refine va_callv (va_runV (As := [.ref pp]) (rest := []) ⟨hx, hb, hml, hown, hts⟩ (y_offR l dC dI q h0 d k z f hI pp P X Y D N u hrp hk0 hk1 hk2 hk3 hP9 hX hD1 hY hin hne hpcx H.size) (cwV 1 hts gX11_takeBack_X11_takeOff rfl rfl rfl (by decide +kernel) ⟨Nat.le_trans (Nat.le_of_ble_eq_true rfl) hRf, Nat.le_trans (Nat.le_of_ble_eq_true rfl) hRl⟩) ⟨gx_fb, va_recv hK hP (ci := 10) (q0 := kk_6) rfl hk_7, fun U hU hW => ⟨rfl, by rw [hU], px_to hU hW hP hK hN hXN, hD.weaken (fun _ _ _ _ => trivial)⟩⟩ rfl rfl hl.1 rfl (lv_room (Nat.le_of_ble_eq_true rfl)) dX11_takeBack_29 ⟨hRc, hRs⟩) hS (fun q _ h => hFc q h) hFc (fun w_8 t H1 locs ht hvm hw hB hz1 hk1 hS => ?_)
        obtain ⟨hP, hD1⟩ := hB
        rw [ht] at hP
        rw [hw.2.1] at hP hD1
        have hD := hD1.weaken (fun _ q _ h => hFc q.1 h)
        have hI := hw.2.2.1
        have hw0 := hw
        generalize w_8.2.2 = f_9 at hP hD hI hw0
        generalize H1 = H at hP hS ⊢
        have hfb : f_9 b = .inr (0, [.ref pp, .int 0, va_rf ah, .int nn]) := ac_eq hI hac
        refine lv_aload_n hx hb dX11_takeBack_32 rfl (lv_at hl 0 rfl) ?_
        obtain ⟨kk_10, hk_11⟩ := pl_at hac.1.1 hfb
        refine va_get (D := (dC, dI)) (ci := 0) (v := va_rf ah) (C := RX0) (T := TX0) (N := 4) hx hb hts (by decide +kernel) hown hK hP kk_10 hk_11 rfl 2 (by decide) (hts (.fieldLink RX11 321 "PageOne$Act" "ahead" "LPageOne$Act;") (by decide +kernel)) (fun _ h9 => h9) rfl dX11_takeBack_33 ?_
        rcases ah with _ | b_12
        ·
          refine W.eq (g2 := F0 m 36 ls [.null]) rfl ?_
          refine lv_astore_nN (lv' := [(2, .null), (0, .ref h0)]) hx hb dX11_takeBack_36 rfl hl (by decide) rfl (fun ls hl => ?_)
          refine lv_goto (tgt := 2) hx hb dX11_takeBack_37 (by decide) ?_
          exact ih _ none _ _ _ ls hE9 hS9 hK9 (neI_set (x := -2) hne (by decide) rfl) hw0.2.2.2.1 hk0 hk1o hk2 hk3 (hw0.2.2.2.2.trans h3m) hI hP hD hS (lv_sub hl [0, 1] rfl)
        ·
          refine W.eq (g2 := F0 m 36 ls [.ref b_12]) rfl ?_
          refine lv_astore_n (lv' := [(2, .ref b_12), (0, .ref h0)]) hx hb dX11_takeBack_36 rfl hl (by decide) rfl (fun ls hl => ?_)
          refine lv_goto (tgt := 2) hx hb dX11_takeBack_37 (by decide) ?_
          exact ih _ (some b_12) _ _ _ ls hE9 hS9 hK9 (neI_set (x := -2) hne (by decide) rfl) hw0.2.2.2.1 hk0 hk1o hk2 hk3 (hw0.2.2.2.2.trans h3m) hI hP hD hS (lv_sub hl [0, 1] rfl)
      ·
        obtain ⟨hrx, hi, hrm, hK9⟩ := hK9
        obtain ⟨hP9, hX, hD1, hY, hN1, hin⟩ := hrx
        have hpcx : pcS z pp (some (d (2000 + i))) (nI P) (nI X) (nI Y) (nI D) (nI N) := hpc
        have hlgb := lg_of hpcx ⟨b7n (by omega), b60n (by omega), bwN (by have e8 : (8 : Int32).toInt = 8 := rfl; rw [e8]; omega) (by omega), b60n (by omega)⟩
        have hfb : f b = .inr (0, [.ref pp, .int 0, va_rf ah, .int nn]) := hfb
        refine lv_aload_n hx hb dX11_takeBack_2 rfl (lv_at hl 0 rfl) ?_
        refine lv_ifnull hx hb dX11_takeBack_3 ?_
        refine lv_aload_n hx hb dX11_takeBack_6 rfl (lv_at hl 0 rfl) ?_
        obtain ⟨kk_14, hk_15⟩ := pl_at hac.1.1 hfb
        refine va_get (D := (dC, dI)) (ci := 0) (v := .int 0) (C := RX0) (T := TX0) (N := 4) hx hb hts (by decide +kernel) hown hK hP kk_14 hk_15 rfl 1 (by decide) (hts (.fieldLink RX11 313 "PageOne$Act" "lifted" "Z") (by decide +kernel)) (fun _ h9 => h9) rfl dX11_takeBack_7 ?_
        refine lv_if_eq (tgt := 24) hx hb dX11_takeBack_10 (by decide) (fun c_16 => ?_) (fun c_16 => absurd (by decide) c_16)
        refine lv_aload_n hx hb dX11_takeBack_24 rfl (lv_at hl 1 rfl) ?_
        refine lv_aload_n hx hb dX11_takeBack_25 rfl (lv_at hl 0 rfl) ?_
        obtain ⟨kk_17, hk_18⟩ := pl_at hac.1.1 hfb
        refine va_get (D := (dC, dI)) (ci := 0) (v := .ref pp) (C := RX0) (T := TX0) (N := 4) hx hb hts (by decide +kernel) hown hK hP kk_17 hk_18 rfl 0 (by decide) (hts (.fieldLink RX11 317 "PageOne$Act" "piece" "LPageOne$Piece;") (by decide +kernel)) (fun _ h9 => h9) rfl dX11_takeBack_26 ?_
        obtain ⟨kk_19, hk_20⟩ := pl_at hI.2.1.1.1 hI.2.2.2.1.1
        have hFc := fr_all hD hS hA
        refine va_callv (va_runV (As := [.ref pp]) (rest := []) ⟨hx, hb, hml, hown, hts⟩ (y_offI l dC dI q h0 d k z f hI pp P X Y D N u hrp hk0 hk1 hk2 hk3 hP9 hX hD1 hY hin hne i hi hpcx hrm H.size) (cwV 1 hts gX11_takeBack_X11_takeOff rfl rfl rfl (by decide +kernel) ⟨Nat.le_trans (Nat.le_of_ble_eq_true rfl) hRf, Nat.le_trans (Nat.le_of_ble_eq_true rfl) hRl⟩) ⟨gx_fb, va_recv hK hP (ci := 10) (q0 := kk_19) rfl hk_20, fun U hU hW => ⟨rfl, by rw [hU], px_to hU hW hP hK hN hXN, hD.weaken (fun _ _ _ _ => trivial)⟩⟩ rfl rfl hl.1 rfl (lv_room (Nat.le_of_ble_eq_true rfl)) dX11_takeBack_29 ⟨hRc, hRs⟩) hS (fun q _ h => hFc q h) hFc (fun w_21 t H1 locs ht hvm hw hB hz1 hk1 hS => ?_)
        obtain ⟨hP, hD1⟩ := hB
        rw [ht] at hP
        rw [hw.2.1] at hP hD1
        have hD := hD1.weaken (fun _ q _ h => hFc q.1 h)
        have hI := hw.2.2.1
        have hw0 := hw
        generalize w_21.2.2 = f_22 at hP hD hI hw0
        generalize H1 = H at hP hS ⊢
        have hfb : f_22 b = .inr (0, [.ref pp, .int 0, va_rf ah, .int nn]) := ac_eq hI hac
        refine lv_aload_n hx hb dX11_takeBack_32 rfl (lv_at hl 0 rfl) ?_
        obtain ⟨kk_23, hk_24⟩ := pl_at hac.1.1 hfb
        refine va_get (D := (dC, dI)) (ci := 0) (v := va_rf ah) (C := RX0) (T := TX0) (N := 4) hx hb hts (by decide +kernel) hown hK hP kk_23 hk_24 rfl 2 (by decide) (hts (.fieldLink RX11 321 "PageOne$Act" "ahead" "LPageOne$Act;") (by decide +kernel)) (fun _ h9 => h9) rfl dX11_takeBack_33 ?_
        rcases ah with _ | b_25
        ·
          refine W.eq (g2 := F0 m 36 ls [.null]) rfl ?_
          refine lv_astore_nN (lv' := [(2, .null), (0, .ref h0)]) hx hb dX11_takeBack_36 rfl hl (by decide) rfl (fun ls hl => ?_)
          refine lv_goto (tgt := 2) hx hb dX11_takeBack_37 (by decide) ?_
          exact ih _ none _ _ _ ls hE9 hS9 hK9 (neI_set (x := -2) hne (by decide) (mUnstand_2 _ _ _ _ _ _ _)) hw0.2.2.2.1 hk0 hk1o hk2 hk3 (hw0.2.2.2.2.trans h3m) hI hP hD hS (lv_sub hl [0, 1] rfl)
        ·
          refine W.eq (g2 := F0 m 36 ls [.ref b_25]) rfl ?_
          refine lv_astore_n (lv' := [(2, .ref b_25), (0, .ref h0)]) hx hb dX11_takeBack_36 rfl hl (by decide) rfl (fun ls hl => ?_)
          refine lv_goto (tgt := 2) hx hb dX11_takeBack_37 (by decide) ?_
          exact ih _ (some b_25) _ _ _ ls hE9 hS9 hK9 (neI_set (x := -2) hne (by decide) (mUnstand_2 _ _ _ _ _ _ _)) hw0.2.2.2.1 hk0 hk1o hk2 hk3 (hw0.2.2.2.2.trans h3m) hI hP hD hS (lv_sub hl [0, 1] rfl)
    · rcases it with _ | i
      ·
        exact absurd hK9 (fun h => h)
      ·
        obtain ⟨hrx, hi, hrm, hK9⟩ := hK9
        obtain ⟨hP9, hX, hD1, hY, hN1, hin⟩ := hrx
        have hpcx : pcS z pp (some (d (2000 + i))) (nI P) (nI X) (nI Y) (nI D) (nI N) := hpc
        have hlgb := lg_of hpcx ⟨b7n (by omega), b60n (by omega), bwN (by have e8 : (8 : Int32).toInt = 8 := rfl; rw [e8]; omega) (by omega), b60n (by omega)⟩
        have hfb : f b = .inr (0, [.ref pp, .int 1, va_rf ah, .int nn]) := hfb
        refine lv_aload_n hx hb dX11_takeBack_2 rfl (lv_at hl 0 rfl) ?_
        refine lv_ifnull hx hb dX11_takeBack_3 ?_
        refine lv_aload_n hx hb dX11_takeBack_6 rfl (lv_at hl 0 rfl) ?_
        obtain ⟨kk_27, hk_28⟩ := pl_at hac.1.1 hfb
        refine va_get (D := (dC, dI)) (ci := 0) (v := .int 1) (C := RX0) (T := TX0) (N := 4) hx hb hts (by decide +kernel) hown hK hP kk_27 hk_28 rfl 1 (by decide) (hts (.fieldLink RX11 313 "PageOne$Act" "lifted" "Z") (by decide +kernel)) (fun _ h9 => h9) rfl dX11_takeBack_7 ?_
        refine lv_if_eq (tgt := 24) hx hb dX11_takeBack_10 (by decide) (fun c_29 => absurd c_29 (by decide)) (fun c_29 => ?_)
        refine lv_aload_n hx hb dX11_takeBack_13 rfl (lv_at hl 1 rfl) ?_
        refine lv_aload_n hx hb dX11_takeBack_14 rfl (lv_at hl 0 rfl) ?_
        obtain ⟨kk_30, hk_31⟩ := pl_at hac.1.1 hfb
        refine va_get (D := (dC, dI)) (ci := 0) (v := .ref pp) (C := RX0) (T := TX0) (N := 4) hx hb hts (by decide +kernel) hown hK hP kk_30 hk_31 rfl 0 (by decide) (hts (.fieldLink RX11 317 "PageOne$Act" "piece" "LPageOne$Piece;") (by decide +kernel)) (fun _ h9 => h9) rfl dX11_takeBack_15 ?_
        obtain ⟨kk_32, hk_33⟩ := pl_at hI.2.1.1.1 hI.2.2.2.1.1
        have hFc := fr_all hD hS hA
        refine va_callv (va_runV (As := [.ref pp]) (rest := []) ⟨hx, hb, hml, hown, hts⟩ (y_standI l dC dI q h0 d k z f hI pp P X Y D N u hrp hk0 hk1 hk2 hk3 hP9 hX hD1 hY hin hne i hi hpcx hrm H.size) (cwV 1 hts gX11_takeBack_X11_stand rfl rfl rfl (by decide +kernel) ⟨Nat.le_trans (Nat.le_of_ble_eq_true rfl) hRf, Nat.le_trans (Nat.le_of_ble_eq_true rfl) hRl⟩) ⟨gx_fb, va_recv hK hP (ci := 10) (q0 := kk_32) rfl hk_33, fun U hU hW => ⟨rfl, by rw [hU], px_to hU hW hP hK hN hXN, hD.weaken (fun _ _ _ _ => trivial)⟩⟩ rfl rfl hl.1 rfl (lv_room (Nat.le_of_ble_eq_true rfl)) dX11_takeBack_18 ⟨hRc, hRs⟩) hS (fun q _ h => hFc q h) hFc (fun w_34 t H1 locs ht hvm hw hB hz1 hk1 hS => ?_)
        obtain ⟨hP, hD1⟩ := hB
        rw [ht] at hP
        rw [hw.2.1] at hP hD1
        have hD := hD1.weaken (fun _ q _ h => hFc q.1 h)
        have hI := hw.2.2.1
        have hw0 := hw
        generalize w_34.2.2 = f_35 at hP hD hI hw0
        generalize H1 = H at hP hS ⊢
        have hfb : f_35 b = .inr (0, [.ref pp, .int 1, va_rf ah, .int nn]) := ac_eq hI hac
        refine lv_goto (tgt := 32) hx hb dX11_takeBack_21 (by decide) ?_
        refine lv_aload_n hx hb dX11_takeBack_32 rfl (lv_at hl 0 rfl) ?_
        obtain ⟨kk_36, hk_37⟩ := pl_at hac.1.1 hfb
        refine va_get (D := (dC, dI)) (ci := 0) (v := va_rf ah) (C := RX0) (T := TX0) (N := 4) hx hb hts (by decide +kernel) hown hK hP kk_36 hk_37 rfl 2 (by decide) (hts (.fieldLink RX11 321 "PageOne$Act" "ahead" "LPageOne$Act;") (by decide +kernel)) (fun _ h9 => h9) rfl dX11_takeBack_33 ?_
        rcases ah with _ | b_38
        ·
          refine W.eq (g2 := F0 m 36 ls [.null]) rfl ?_
          refine lv_astore_nN (lv' := [(2, .null), (0, .ref h0)]) hx hb dX11_takeBack_36 rfl hl (by decide) rfl (fun ls hl => ?_)
          refine lv_goto (tgt := 2) hx hb dX11_takeBack_37 (by decide) ?_
          exact ih _ none _ _ _ ls hE9 hS9 hK9 (neI_set hne (nIm1 (by have := w80i hI.1.1 hk0; omega)) (mStand_2 _ _ _ _ _ _ _)) hw0.2.2.2.1 hk0 hk1o hk2 hk3 (hw0.2.2.2.2.trans h3m) hI hP hD hS (lv_sub hl [0, 1] rfl)
        ·
          refine W.eq (g2 := F0 m 36 ls [.ref b_38]) rfl ?_
          refine lv_astore_n (lv' := [(2, .ref b_38), (0, .ref h0)]) hx hb dX11_takeBack_36 rfl hl (by decide) rfl (fun ls hl => ?_)
          refine lv_goto (tgt := 2) hx hb dX11_takeBack_37 (by decide) ?_
          exact ih _ (some b_38) _ _ _ ls hE9 hS9 hK9 (neI_set hne (nIm1 (by have := w80i hI.1.1 hk0; omega)) (mStand_2 _ _ _ _ _ _ _)) hw0.2.2.2.1 hk0 hk1o hk2 hk3 (hw0.2.2.2.2.trans h3m) hI hP hD hS (lv_sub hl [0, 1] rfl)
set_option maxHeartbeats 4000000 in
set_option maxRecDepth 100000 in
theorem y_takeBack (l : Launch) (dC : Nat → ClassId) (dI : Nat → Nat → Nat) (q : Nat → ClassId) (h0 : Nat) (d : Nat → Nat) (k : Nat → Int32) (z : gS) (f : xF) (hI : xI q h0 d k z f) (b9 : Nat) (hb9 : tg z b9 23) (u : mS) (hrp : rep q d u z f) (hk0 : k 0 = u.1 3) (hk1 : k 1 = u.1 28) (hk2 : k 2 = u.1 38) (hk3 : k 3 = u.1 39) (L9 : List bS) (hbs : bkS z d (some b9) L9) (hbk : bkK u L9) (hne : neI u) (sz : Nat) : Met l yX11_takeBack wsX11_takeBack ({ frames := 5, cells := 0, slots := 0, locals := 109 }) (va_Pc [.ref h0, .ref b9] (fun U => U.heap.size = sz ∧ PX dC dI (va_pl z.1 f) (xT q) U ∧ va_D (fun _ => True) (va_pl z.1 f))) (va_Qv (fun (w : xU) => w.1 = k ∧ w.2.1 = z ∧ xI q h0 d k z w.2.2 ∧ rep q d (bkU u L9) z w.2.2 ∧ w.2.2 (d 3) = f (d 3)) (fun (w : xU) t => va_P (dC, dI) vwCl (va_pl w.2.1.1 w.2.2) t.heap ∧ va_D (va_A (va_pl z.1 f) sz) (va_pl w.2.1.1 w.2.2)) (va_A (va_pl z.1 f) sz)) 0 0 (va_A (va_pl z.1 f) sz) := by
  refine Met.ofW (cc := cX11_takeBack) (maxL := 3) (ret := none) (by decide) rfl ?_
  intro p e s m args below meth c s₁ B hml hv
  obtain ⟨rfl, hsz, ⟨⟨hP, hK, hN⟩, hXN⟩, hD0⟩ := hv
  have hx := B.exec
  have hb := B.bytes
  have hr := B.returns
  have hts := atoms_spec (ws := wsX11_takeBack) B.pre
  have hown : s.vm.findClass RX11 = some m.cls := findClass_of_methodNamed B.named
  have hlocks := B.notSynchronized
  subst hsz
  have hD := hD0.self (sz := s.heap.size)
  generalize hAe : va_A (va_pl z.1 f) s.heap.size = A at hD ⊢
  have hA : ∀ q : Nat, s.heap.size ≤ q → A q := fun q h => by rw [← hAe]; exact Or.inr h
  have hS : va_S A s.heap s.heap [] := va_S.rf
  have hl := lv_entry ([.ref h0, .ref b9]) (n := 3) (Nat.le_of_ble_eq_true rfl)
  rw [lg_entry_eq]
  generalize (lg_sl ([.ref h0, .ref b9]) ++ List.replicate (3 - (lg_sl ([.ref h0, .ref b9])).length) Slot.unset).toArray = ls at hl ⊢
  have hl : lv_has ls 3 [(0, .ref h0), (1, .ref b9)] := hl
  refine lv_aload_n hx hb dX11_takeBack_0 rfl (lv_at hl 1 rfl) ?_
  refine lv_astore_n (lv' := [(2, .ref b9), (0, .ref h0), (1, .ref b9)]) hx hb dX11_takeBack_1 rfl hl (by decide) rfl (fun ls hl => ?_)
  refine y_takeBack_l (f0 := f) (uE := bkU u L9) hx hb hml hts hown hN hXN hK (Nat.le_of_ble_eq_true rfl) (Nat.le_of_ble_eq_true rfl) (Nat.le_of_ble_eq_true rfl) (Nat.le_of_ble_eq_true rfl) hA (fun f2 H locs ls hrp2 h3m hI hP hD hS hl => ?_) L9 u (some b9) _ _ _ ls rfl hbs hbk hne hrp hk0 hk1 hk2 hk3 rfl hI hP hD hS (lv_sub hl [0, 1] rfl)
  exact W.vret hx hb hr (fun t ht hW => ⟨⟨(k, z, f2), rfl, ⟨rfl, rfl, hI, hrp2, h3m⟩, by rw [ht]; exact hP, hD⟩, hS.F ht⟩) hS.2.2 dX11_takeBack_40
theorem mBk_rep {q d u z f} (h : rep q d u z f) : rep q d (mBack u) z f := rep_rows h rfl (fun _ _ => rfl)
/-- what undo leaves -/
def unP (q : Nat → ClassId) (h0 : Nat) (d : Nat → Nat) (k : Nat → Int32) (z : gS) (f : xF) (u : mS) (L9 : List bS) (g : Nat → Option Nat) (r : Int32) (w : xU) : Prop := (k 1 = 0 ∧ r = (-1) ∧ w = (k, z, f)) ∨ (¬ k 1 = 0 ∧ r = k 1 - 1 ∧ w.1 = kup k 1 (k 1 - 1) ∧ w.2.1 = z ∧ xI q h0 d w.1 z w.2.2 ∧ rep q d (bkU (mBack u) L9) z w.2.2 ∧ w.2.2 (d 3) = aR (q 4) 300 (va_up g (k 1 - 1).toNatClampNeg none))
theorem x_ac9 {q h0 d k z f} (hI : xI q h0 d k z f) {a : Nat} (ha : tg z a 5) {g : Nat → Option Nat} (hg : f a = aR (q 4) 300 g) : ∀ j, j < 300 → ∀ b, g j = some b → tg z b 23 := by
  obtain ⟨g2, h1, h2⟩ := x_ac hI ha
  have e := (aR_inj (hg.symm.trans h1)).2
  subst e
  exact h2
set_option maxHeartbeats 4000000 in
set_option maxRecDepth 100000 in
theorem y_undo (l : Launch) (dC : Nat → ClassId) (dI : Nat → Nat → Nat) (q : Nat → ClassId) (h0 : Nat) (d : Nat → Nat) (k : Nat → Int32) (z : gS) (f : xF) (hI : xI q h0 d k z f) (u : mS) (hrp : rep q d u z f) (hk0 : k 0 = u.1 3) (hk1 : k 1 = u.1 28) (hk2 : k 2 = u.1 38) (hk3 : k 3 = u.1 39) (L9 : List bS) (g : Nat → Option Nat) (hg3 : f (d 3) = aR (q 4) 300 g) (hact : ¬ k 1 = 0 → ∃ a9, g (k 1 - 1).toNatClampNeg = some a9 ∧ tg z a9 23 ∧ bkS z d (some a9) L9 ∧ bkK (mBack u) L9) (hne : neI u) (hz0 : (z.2 h0).2.1 = 0) (sz : Nat) : Met l yX11_undo wsX11_undo ({ frames := 6, cells := 0, slots := 0, locals := 131 }) (va_Pc [.ref h0] (fun U => U.heap.size = sz ∧ PX dC dI (va_pl z.1 f) (xT q) U ∧ va_D (fun _ => True) (va_pl z.1 f))) (va_Qi (fun (r : Int32) (w : xU) => unP q h0 d k z f u L9 g r w) (fun (w : xU) t => va_P (dC, dI) vwCl (va_pl w.2.1.1 w.2.2) t.heap ∧ va_D (va_A (va_pl z.1 f) sz) (va_pl w.2.1.1 w.2.2)) (va_A (va_pl z.1 f) sz)) 0 0 (va_A (va_pl z.1 f) sz) := by
  refine Met.ofW (cc := cX11_undo) (maxL := 1) (ret := (some .int)) (by decide) rfl ?_
  intro p e s m args below meth c s₁ B hml hv
  obtain ⟨rfl, hsz, ⟨⟨hP, hK, hN⟩, hXN⟩, hD0⟩ := hv
  have hx := B.exec
  have hb := B.bytes
  have hr := B.returns
  have hts := atoms_spec (ws := wsX11_undo) B.pre
  have hown : s.vm.findClass RX11 = some m.cls := findClass_of_methodNamed B.named
  have hlocks := B.notSynchronized
  subst hsz
  have hD := hD0.self (sz := s.heap.size)
  generalize hAe : va_A (va_pl z.1 f) s.heap.size = A at hD ⊢
  have hA : ∀ q : Nat, s.heap.size ≤ q → A q := fun q h => by rw [← hAe]; exact Or.inr h
  have hS : va_S A s.heap s.heap [] := va_S.rf
  have hl := lv_entry ([.ref h0]) (n := 1) (Nat.le_of_ble_eq_true rfl)
  rw [lg_entry_eq]
  generalize (lg_sl ([.ref h0]) ++ List.replicate (1 - (lg_sl ([.ref h0])).length) Slot.unset).toArray = ls at hl ⊢
  have hl : lv_has ls 1 [(0, .ref h0)] := hl
  refine lv_aload_n hx hb dX11_undo_0 rfl (lv_at hl 0 rfl) ?_
  obtain ⟨kk_1, hk_2⟩ := pl_at hI.2.1.1.1 hI.2.2.2.1.1
  refine va_get (D := (dC, dI)) (ci := 10) (v := .int (k 1)) (C := RX11) (T := TX11) (N := 9) hx hb hts (by decide +kernel) hown hK hP kk_1 hk_2 rfl 5 (by decide) (hts (.fieldLink RX11 34 "PageOne" "actCount" "I") (by decide +kernel)) (fun _ h9 => h9) rfl dX11_undo_1 ?_
  refine lv_if_ne (tgt := 9) hx hb dX11_undo_4 (by decide) (fun c_3 => ?_) (fun c_3 => ?_)
  ·
    refine lv_aload_n hx hb dX11_undo_9 rfl (lv_at hl 0 rfl) ?_
    refine lv_dup hx hb dX11_undo_10 rfl ?_
    obtain ⟨kk_4, hk_5⟩ := pl_at hI.2.1.1.1 hI.2.2.2.1.1
    refine va_get (D := (dC, dI)) (ci := 10) (v := .int (k 1)) (C := RX11) (T := TX11) (N := 9) hx hb hts (by decide +kernel) hown hK hP kk_4 hk_5 rfl 5 (by decide) (hts (.fieldLink RX11 34 "PageOne" "actCount" "I") (by decide +kernel)) (fun _ h9 => h9) rfl dX11_undo_11 ?_
    refine lv_iconst (v := 1) hx hb dX11_undo_14 (by decide) ?_
    refine lv_isub hx hb dX11_undo_15 ?_
    refine lv_topi (fun x_6 ex_6 => ?_)
    obtain ⟨kk_7, hk_8⟩ := pl_at hI.2.1.1.1 hI.2.2.2.1.1
    have hD0 := hD
    refine va_put (D := (dC, dI)) (ci := 10) (v := .int x_6) (ty := .int) (C := RX11) (T := TX11) (N := 9) hx hb hts (by decide +kernel) tyX11 tyX11_ok nmX11 hown hK hP hD hS kk_7 hk_8 rfl 5 (by decide) (hts (.fieldLink RX11 34 "PageOne" "actCount" "I") (by decide +kernel)) (fun _ h9 => h9) rfl (by decide +kernel) rfl rfl (Nat.le_of_ble_eq_true rfl) dX11_undo_16 (fun H locs hP hD hS => ?_)
    obtain ⟨k_9, ek_9⟩ : ∃ y : Nat → Int32, y = kup k 1 x_6 := ⟨_, rfl⟩
    have hvx := (vAm hI.1.2.1 c_3 ex_6).1
    have hIo := hI
    rw [pl_set hD0 hI.2.1.1.1 hI.2.2.2.1.1 hk_8] at hP hD
    obtain ⟨f_10, ef_10⟩ : ∃ y : xF, y = va_up f h0 (.inr (10, dkF d k_9)) := ⟨_, rfl⟩
    have hP : va_P (dC, dI) vwCl (va_pl z.1 f_10) H := by rw [ef_10, ek_9]; exact hP
    have hD : va_D A (va_pl z.1 f_10) := by rw [ef_10, ek_9]; exact hD
    have hI : xI q h0 d k_9 z f_10 := by rw [ef_10]; exact x_dk hI (by rw [ek_9]; exact ⟨hI.1.1, by rw [kup_s]; exact (vAm hI.1.2.1 c_3 ex_6).2, hI.1.2.2⟩) (by rw [ek_9]; exact Nat.le_refl _)
    have hvk : vp_in (k_9 1) 300 := by rw [ek_9, kup_s]; exact hvx
    obtain ⟨a9, hga, hta, hbs, hbk⟩ := hact c_3
    have hgk : g (k_9 1).toNatClampNeg = some a9 := by rw [ek_9, kup_s, ex_6]; exact hga
    have hg3 : f_10 (d 3) = aR (q 4) 300 g := by rw [ef_10, up_o (tg_ne hrp.2.2.2.2.2.2.2.1.1 hIo.2.1.1 (by decide))]; exact hg3
    have hrpb : rep q d (mBack u) z f_10 := by rw [ef_10]; exact rep_3 (mBk_rep hrp) (fK_h0 (fK_rf d z f _) hrp.2.2.2.2.1 hIo.2.1.1 hz0)
    have hkb : k_9 0 = (mBack u).1 3 ∧ k_9 1 = (mBack u).1 28 ∧ k_9 2 = (mBack u).1 38 ∧ k_9 3 = (mBack u).1 39 := by rw [ek_9]; exact ⟨hk0, by rw [kup_s, ex_6, hk1]; rfl, hk2, hk3⟩
    refine lv_aload_n hx hb dX11_undo_19 rfl (lv_at hl 0 rfl) ?_
    refine lv_aload_n hx hb dX11_undo_20 rfl (lv_at hl 0 rfl) ?_
    obtain ⟨kk_11, hk_12⟩ := pl_at hI.2.1.1.1 hI.2.2.2.1.1
    refine va_get (D := (dC, dI)) (ci := 10) (v := .ref (d 3)) (C := RX11) (T := TX11) (N := 9) hx hb hts (by decide +kernel) hown hK hP kk_11 hk_12 rfl 4 (by decide) (hts (.fieldLink RX11 30 "PageOne" "acts" "[LPageOne$Act;") (by decide +kernel)) (fun _ h9 => h9) rfl dX11_undo_21 ?_
    refine lv_aload_n hx hb dX11_undo_24 rfl (lv_at hl 0 rfl) ?_
    obtain ⟨kk_13, hk_14⟩ := pl_at hI.2.1.1.1 hI.2.2.2.1.1
    refine va_get (D := (dC, dI)) (ci := 10) (v := .int (k_9 1)) (C := RX11) (T := TX11) (N := 9) hx hb hts (by decide +kernel) hown hK hP kk_13 hk_14 rfl 5 (by decide) (hts (.fieldLink RX11 34 "PageOne" "actCount" "I") (by decide +kernel)) (fun _ h9 => h9) rfl dX11_undo_25 ?_
    obtain ⟨kk_15, hk_16⟩ := pl_at hI.2.1.2.2.2.2.1.1 hg3
    refine va_aldq hx hb hK hP kk_15 4 hk_16 rfl hvk dX11_undo_28 ?_
    rw [hgk]
    refine W.eq (g2 := F0 m 29 ls [.ref a9, .ref h0]) rfl ?_
    obtain ⟨kk_17, hk_18⟩ := pl_at hI.2.1.1.1 hI.2.2.2.1.1
    have hFc := fr_all hD hS hA
    refine va_callv (va_runV (As := [.ref a9]) (rest := []) ⟨hx, hb, hml, hown, hts⟩ (y_takeBack l dC dI q h0 d k_9 z f_10 hI a9 hta (mBack u) hrpb hkb.1 hkb.2.1 hkb.2.2.1 hkb.2.2.2 L9 hbs hbk hne H.size) (cwV 1 hts gX11_undo_X11_takeBack rfl rfl rfl (by decide +kernel) ⟨Nat.le_of_ble_eq_true rfl, Nat.le_of_ble_eq_true rfl⟩) ⟨gx_fb, va_recv hK hP (ci := 10) (q0 := kk_17) rfl hk_18, fun U hU hW => ⟨rfl, by rw [hU], px_to hU hW hP hK hN hXN, hD.weaken (fun _ _ _ _ => trivial)⟩⟩ rfl rfl hl.1 rfl (lv_room (Nat.le_of_ble_eq_true rfl)) dX11_undo_29 ⟨Nat.le_of_ble_eq_true rfl, Nat.le_of_ble_eq_true rfl⟩) hS (fun q _ h => hFc q h) hFc (fun w_19 t H1 locs ht hvm hw hB hz1 hk1 hS => ?_)
    obtain ⟨hP, hD1⟩ := hB
    rw [ht] at hP
    rw [hw.2.1] at hP hD1
    have hD := hD1.weaken (fun _ q _ h => hFc q.1 h)
    have hI := hw.2.2.1
    have hw0 := hw
    generalize w_19.2.2 = f_20 at hP hD hI hw0
    generalize H1 = H at hP hS ⊢
    have hrpc := hw0.2.2.2.1
    have hg3 : f_20 (d 3) = aR (q 4) 300 g := hw0.2.2.2.2.trans hg3
    refine lv_aload_n hx hb dX11_undo_32 rfl (lv_at hl 0 rfl) ?_
    obtain ⟨kk_21, hk_22⟩ := pl_at hI.2.1.1.1 hI.2.2.2.1.1
    refine va_get (D := (dC, dI)) (ci := 10) (v := .ref (d 3)) (C := RX11) (T := TX11) (N := 9) hx hb hts (by decide +kernel) hown hK hP kk_21 hk_22 rfl 4 (by decide) (hts (.fieldLink RX11 30 "PageOne" "acts" "[LPageOne$Act;") (by decide +kernel)) (fun _ h9 => h9) rfl dX11_undo_33 ?_
    refine lv_aload_n hx hb dX11_undo_36 rfl (lv_at hl 0 rfl) ?_
    obtain ⟨kk_23, hk_24⟩ := pl_at hI.2.1.1.1 hI.2.2.2.1.1
    refine va_get (D := (dC, dI)) (ci := 10) (v := .int (k_9 1)) (C := RX11) (T := TX11) (N := 9) hx hb hts (by decide +kernel) hown hK hP kk_23 hk_24 rfl 5 (by decide) (hts (.fieldLink RX11 34 "PageOne" "actCount" "I") (by decide +kernel)) (fun _ h9 => h9) rfl dX11_undo_37 ?_
    refine lv_null hx hb dX11_undo_40 ?_
    obtain ⟨kk_25, hk_26⟩ := pl_at hI.2.1.2.2.2.2.1.1 hg3
    have hD0 := hD
    refine va_astqN hx hb hK hP hD hS kk_25 4 hk_26 rfl hvk dX11_undo_41 (fun H locs hP hD hS => ?_)
    rw [pl_set hD0 hI.2.1.2.2.2.2.1.1 hg3 hk_26] at hP hD
    obtain ⟨f_27, ef_27⟩ : ∃ y : xF, y = va_up f_20 (d 3) (aR (q 4) 300 (va_up g ((k_9 1) : Int32).toNatClampNeg none)) := ⟨_, rfl⟩
    have hI : xI q h0 d k_9 z f_27 := by rw [ef_27]; exact x_up hI hI.2.1.2.2.2.2.1 (by decide) (cO_5 hI.2.1.2.2.2.2.1.2 ⟨_, rfl, ty_up (fun j hj b hb => (x_ac9 hI hI.2.1.2.2.2.2.1 hg3) j hj b hb) ty_n⟩)
    have hP : va_P (dC, dI) vwCl (va_pl z.1 f_27) H := by rw [ef_27]; exact hP
    have hD : va_D A (va_pl z.1 f_27) := by rw [ef_27]; exact hD
    have hrpz : rep q d (bkU (mBack u) L9) z f_27 := by rw [ef_27]; exact rep_3 hrpc (fK_up (fK_rf d z _ _) hrpc.2.2.2.2.2.2.2.1 (by decide) rfl)
    have hg3z : f_27 (d 3) = aR (q 4) 300 (va_up g (k 1 - 1).toNatClampNeg none) := by rw [ef_27, up_s, ek_9, kup_s, ex_6]
    refine lv_aload_n hx hb dX11_undo_42 rfl (lv_at hl 0 rfl) ?_
    obtain ⟨kk_28, hk_29⟩ := pl_at hI.2.1.1.1 hI.2.2.2.1.1
    refine va_get (D := (dC, dI)) (ci := 10) (v := .int (k_9 1)) (C := RX11) (T := TX11) (N := 9) hx hb hts (by decide +kernel) hown hK hP kk_28 hk_29 rfl 5 (by decide) (hts (.fieldLink RX11 34 "PageOne" "actCount" "I") (by decide +kernel)) (fun _ h9 => h9) rfl dX11_undo_43 ?_
    exact W.iret (v := (k_9 1)) hx hb hr (fun t ht hW => ⟨⟨(k_9 1), (k_9, z, f_27), rfl, (Or.inr ⟨c_3, by rw [ek_9, kup_s, ex_6], by rw [ek_9, ex_6], rfl, hI, hrpz, hg3z⟩), by rw [ht]; exact hP, hD⟩, hS.F ht⟩) hS.2.2 dX11_undo_46
  ·
    refine lv_iconst (v := (-1)) hx hb dX11_undo_7 (by decide) ?_
    exact W.iret (v := (-1)) hx hb hr (fun t ht hW => ⟨⟨(-1), (k, z, f), rfl, (Or.inl ⟨c_3, rfl, rfl⟩), by rw [ht]; exact hP, hD⟩, hS.F ht⟩) hS.2.2 dX11_undo_8
/-- a square stands on its own page's plates alone -/
def sdI (u : mS) : Prop := ∀ p, p < 12 → u.2 40 p = 1 → ∀ i, i < 80 → u.2 4 i = 3 → ¬ u.2 45 (80 * p + i) = (-1) → u.2 11 i = nI p
/-- printed on a day -/
def wpP (u : mS) (i : Nat) (dd : Int32) : Prop := ¬ u.2 48 (80 * dd.toNatClampNeg + i) = 0 ∨ (dd = u.1 38 ∧ ∃ p, p < 12 ∧ prC u (nI i) p = true)
noncomputable def blS (u : mS) (b dd : Int32) : Nat → Int32
  | 0 => 0
  | i + 1 => blS u b dd i + (if bP (u.2 4 i = 3 ∧ u.2 10 i = b ∧ wpP u i dd) = 1 then u.2 7 i * u.2 8 i * u.2 14 i else 0)
theorem blS_1 {u : mS} {b dd : Int32} {i : Nat} (h : u.2 4 i = 3 ∧ u.2 10 i = b ∧ wpP u i dd) : blS u b dd (i + 1) = blS u b dd i + u.2 7 i * u.2 8 i * u.2 14 i := by
  show blS u b dd i + _ = _
  rw [if_pos (bP_t h)]
theorem blS_0 {u : mS} {b dd : Int32} {i : Nat} (h : ¬ (u.2 4 i = 3 ∧ u.2 10 i = b ∧ wpP u i dd)) : blS u b dd (i + 1) = blS u b dd i := by
  show blS u b dd i + _ = _
  rw [if_neg (fun e => h (bP_1 e))]; exact Int32.add_zero _
theorem wp_y {u : mS} {i p : Nat} {dd s : Int32} (hp : p < 12) (hi : i < 80) (hd : dd = u.1 38) (hn : mNow u (nI p) = true) (hs : spR u i p s) : wpP u i dd := Or.inr ⟨hd, p, hp, prC_t hp hi hn hs⟩
theorem wp_n {u : mS} {i P : Nat} {dd : Int32} (hpl : plI u) (hsd : sdI u) (h01 : ∀ j, j < 12 → u.2 40 j = 0 ∨ u.2 40 j = 1) (hi : i < 80) (hk : u.2 4 i = 3) (hsp : u.2 11 i = nI P) (hP : P < 12) (h0 : u.2 48 (80 * dd.toNatClampNeg + i) = 0) (h : ¬ dd = u.1 38 ∨ ¬ mNow u (nI P) = true ∨ u.2 45 (80 * P + i) = (-1)) : ¬ wpP u i dd := by
  rintro (h1 | ⟨h1, p, hp, hc⟩)
  · exact h1 h0
  · rcases h with h | h
    · exact h h1
    · have e : p = P := by
        have h2 := hc
        unfold prC at h2
        rw [Bool.and_eq_true, Bool.not_eq_true', decide_eq_false_iff_not, e80 hp hi] at h2
        have h40 : u.2 40 p = 1 := by
          rcases h01 p hp with q | q
          · have h3 := h2.1
            unfold mNow at h3
            rw [nI_clamp (by omega), q] at h3
            exact absurd h3 (by simp)
          · exact q
        have h5 := hsd p hp h40 i hi hk (fun e => h2.2 (by rw [e]; decide))
        exact nI_inj2 (by omega) (by omega) (h5.symm.trans hsp)
      subst e
      rw [prC_f hp hi h] at hc
      exact absurd hc (by decide)
theorem e48 {gd : Nat → Int32} {u : mS} {i : Nat} {dd : Int32} (h : ∀ j, j < 400 → gd j = u.2 48 (80 * j + i)) (hd : bw dd 0 399 = true) : gd dd.toNatClampNeg = u.2 48 (80 * dd.toNatClampNeg + i) := h _ (vlt (vin hd (by decide)))
set_option maxHeartbeats 4000000 in
set_option maxRecDepth 100000 in
theorem y_wasPrintedOn (l : Launch) (dC : Nat → ClassId) (dI : Nat → Nat → Nat) (q : Nat → ClassId) (h0 : Nat) (d : Nat → Nat) (k : Nat → Int32) (z : gS) (f : xF) (hI : xI q h0 d k z f) (p0 : Int32) (hd9 : bw p0 0 399 = true) (u : mS) (hrp : rep q d u z f) (hk0 : k 0 = u.1 3) (hk1 : k 1 = u.1 28) (hk2 : k 2 = u.1 38) (hk3 : k 3 = u.1 39) (hpi : plI u) (hsd : sdI u) (i0 : Nat) (hi0 : i0 < (u.1 3).toNatClampNeg) (hkd : u.2 4 i0 = 3) : Met l yX11_wasPrintedOn wsX11_wasPrintedOn ({ frames := 4, cells := 0, slots := 0, locals := 87 }) (va_Pc [.ref h0, .ref (d (2000 + i0)), .int p0] (PX dC dI (va_pl z.1 f) (xT q))) (vp_Si (fun r => r = bP (wpP u i0 p0))) 0 0 (fun _ => False) := by
  refine Met.ofW (cc := cX11_wasPrintedOn) (maxL := 4) (ret := (some .boolean)) (by decide) rfl ?_
  intro p e s m args below meth c s₁ B hml hv
  obtain ⟨rfl, ⟨hP, hK, hN⟩, hXN⟩ := hv
  have hx := B.exec
  have hb := B.bytes
  have hr := B.returns
  have hts := atoms_spec (ws := wsX11_wasPrintedOn) B.pre
  have hown : s.vm.findClass RX11 = some m.cls := findClass_of_methodNamed B.named
  have hlocks := B.notSynchronized
  have hl := lv_entry ([.ref h0, .ref (d (2000 + i0)), .int p0]) (n := 4) (Nat.le_of_ble_eq_true rfl)
  rw [lg_entry_eq]
  generalize (lg_sl ([.ref h0, .ref (d (2000 + i0)), .int p0]) ++ List.replicate (4 - (lg_sl ([.ref h0, .ref (d (2000 + i0)), .int p0])).length) Slot.unset).toArray = ls at hl ⊢
  have hl : lv_has ls 4 [(0, .ref h0), (1, .ref (d (2000 + i0))), (2, .int p0)] := hl
  obtain ⟨rs_1, n_2, g_3, fg_4, hit_5, hs_6, hpa_7, hps_8, h1_9, h6_10, hcb_11, hpl_12, hlg_13, hnn_14, hfa_15, hfs_16, hfe_17, hrs_18, hkt_19⟩ := it_all hI hrp.2.2.1 hi0
  have hi8 : i0 < 80 := by have := w80i hI.1.1 hk0; omega
  obtain ⟨hx0, hx1, hx2, g6, hx4, hx5⟩ := hrs_18.2.2.2.1 hkd
  have ht13 : tg z (d (2000 + i0)) 13 := ⟨hit_5.1, by rw [hkt_19, hkd]; rfl⟩
  have hsP : f (d (2000 + i0)) = .inr (5, [.int (nI i0), .int (u.2 4 i0), .ref (d (3000 + i0)), .int (u.2 22 i0), .ref (d (4000 + i0)), .int (u.2 10 i0), .int (u.2 14 i0), .ref (d (5000 + i0)), .ref (d (6000 + i0))]) := by rw [hs_6, ht13.2, hx0]; rfl
  obtain ⟨P, hP1, -, eP⟩ := exN (x_pcB hI hx1).1 (by decide)
  have h11 : (11 : Int32).toInt = 11 := rfl
  rw [eP] at hx1
  refine lv_aload_n hx hb dX11_wasPrintedOn_0 rfl (lv_at hl 1 rfl) ?_
  obtain ⟨kk_20, hk_21⟩ := pl_at ht13.1 hsP
  refine va_get (D := (dC, dI)) (ci := 5) (v := .ref (d (6000 + i0))) (C := RX6) (T := TX6) (N := 9) hx hb hts (by decide +kernel) hown hK hP kk_20 hk_21 rfl 8 (by decide) (hts (.fieldLink RX11 388 "PageOne$Paid" "days" "[Z") (by decide +kernel)) (fun _ h9 => h9) rfl dX11_wasPrintedOn_1 ?_
  refine lv_iload_n hx hb dX11_wasPrintedOn_4 rfl (lv_at hl 2 rfl) ?_
  obtain ⟨kk_22, hk_23⟩ := pl_at hx2.1.1 hx4
  refine va_zald hx hb hK hP kk_22 1 hk_23 rfl (vin hd9 (by decide)) dX11_wasPrintedOn_5 ?_
  refine lv_if_eq (tgt := 11) hx hb dX11_wasPrintedOn_6 (by decide) (fun c_24 => ?_) (fun c_24 => ?_)
  ·
    refine lv_aload_n hx hb dX11_wasPrintedOn_11 rfl (lv_at hl 1 rfl) ?_
    obtain ⟨kk_25, hk_26⟩ := pl_at ht13.1 hsP
    refine va_get (D := (dC, dI)) (ci := 5) (v := .ref (d (5000 + i0))) (C := RX6) (T := TX6) (N := 9) hx hb hts (by decide +kernel) hown hK hP kk_25 hk_26 rfl 7 (by decide) (hts (.fieldLink RX11 394 "PageOne$Paid" "spot" "LPageOne$Piece;") (by decide +kernel)) (fun _ h9 => h9) rfl dX11_wasPrintedOn_12 ?_
    obtain ⟨kk_27, hk_28⟩ := pl_at hx1.1.1 (x_pcF hI hx1)
    refine va_get (D := (dC, dI)) (ci := 7) (v := .int (nI P)) (C := RX8) (T := TX8) (N := 6) hx hb hts (by decide +kernel) hown hK hP kk_27 hk_28 rfl 1 (by decide) (hts (.fieldLink RX11 229 "PageOne$Piece" "page" "I") (by decide +kernel)) (fun _ h9 => h9) rfl dX11_wasPrintedOn_15 ?_
    refine lv_istore_n (lv' := [(3, .int (nI P)), (0, .ref h0), (1, .ref (d (2000 + i0))), (2, .int p0)]) hx hb dX11_wasPrintedOn_18 rfl hl (by decide) rfl (fun ls hl => ?_)
    refine lv_iload_n hx hb dX11_wasPrintedOn_19 rfl (lv_at hl 3 rfl) ?_
    refine lv_aload_n hx hb dX11_wasPrintedOn_20 rfl (lv_at hl 1 rfl) ?_
    obtain ⟨kk_29, hk_30⟩ := pl_at hI.2.1.1.1 hI.2.2.2.1.1
    refine va_get (D := (dC, dI)) (ci := 10) (v := .int (k 2)) (C := RX11) (T := TX11) (N := 9) hx hb hts (by decide +kernel) hown hK hP kk_29 hk_30 rfl 7 (by decide) (hts (.fieldLink RX11 41 "PageOne" "today" "I") (by decide +kernel)) (fun _ h9 => h9) rfl dX11_wasPrintedOn_21 ?_
    refine lv_icmp_ne (tgt := 56) hx hb dX11_wasPrintedOn_24 (by decide) (fun c_31 => ?_) (fun c_31 => ?_)
    ·
      refine lv_iconst (v := 0) hx hb dX11_wasPrintedOn_56 (by decide) ?_
      exact W.zret (v := 0) hx hb hr (by decide) (fun t ht hW => ⟨_, rfl, (bP_f (wp_n (P := P) hpi hsd (rp_01 hrp.2.1) hi8 hkd eP (by omega) ((e48 hx5 hd9).symm.trans c_24) (Or.inl (fun e9 => c_31 (e9.trans hk2.symm))))).symm, ht⟩) (fun q h => absurd h List.not_mem_nil) dX11_wasPrintedOn_57
    ·
      refine lv_aload_n hx hb dX11_wasPrintedOn_27 rfl (lv_at hl 1 rfl) ?_
      refine lv_iload_n hx hb dX11_wasPrintedOn_28 rfl (lv_at hl 0 rfl) ?_
      obtain ⟨kk_32, hk_33⟩ := pl_at hI.2.1.1.1 hI.2.2.2.1.1
      refine vp_callSi (va_runV (As := [.int (nI P)]) (rest := []) ⟨hx, hb, hml, hown, hts⟩ (y_isFresh l dC dI q h0 d k z f hI (nI P) u hrp hk2 hk3) (cwV 1 hts gX11_wasPrintedOn_X11_isFresh rfl rfl rfl (by decide +kernel) ⟨Nat.le_of_ble_eq_true rfl, Nat.le_of_ble_eq_true rfl⟩) ⟨px_fb, va_recv hK hP (ci := 10) (q0 := kk_32) rfl hk_33, fun U hU hW => ⟨rfl, px_to hU hW hP hK hN hXN⟩⟩ rfl rfl hl.1 rfl (lv_room (Nat.le_of_ble_eq_true rfl)) dX11_wasPrintedOn_29 ⟨Nat.le_of_ble_eq_true rfl, Nat.le_of_ble_eq_true rfl⟩).run (fun r hw => ?_)
      rcases hw with ⟨hw, hpp_40⟩ | ⟨hw, hpp_40, hbw_39, gp_34, bp_35, hp_36, hp_37, hp_38⟩
      ·
        subst hw
        refine lv_if_eq (tgt := 56) hx hb dX11_wasPrintedOn_32 (by decide) (fun c_41 => ?_) (fun c_41 => absurd (by decide) c_41)
        refine lv_iconst (v := 0) hx hb dX11_wasPrintedOn_56 (by decide) ?_
        exact W.zret (v := 0) hx hb hr (by decide) (fun t ht hW => ⟨_, rfl, (bP_f (wp_n (P := P) hpi hsd (rp_01 hrp.2.1) hi8 hkd eP (by omega) ((e48 hx5 hd9).symm.trans c_24) (Or.inr (Or.inl (fun h9 => hpp_40 ((frP_now (bw11 (by omega : P < 12)) (rp_01 hrp.2.1 _ (by rw [nI_clamp (by omega)]; omega))).mpr h9)))))).symm, ht⟩) (fun q h => absurd h List.not_mem_nil) dX11_wasPrintedOn_57
      ·
        subst hw
        refine lv_if_eq (tgt := 56) hx hb dX11_wasPrintedOn_32 (by decide) (fun c_42 => absurd c_42 (by decide)) (fun c_42 => ?_)
        refine lv_aload_n hx hb dX11_wasPrintedOn_35 rfl (lv_at hl 1 rfl) ?_
        obtain ⟨kk_43, hk_44⟩ := pl_at hI.2.1.1.1 hI.2.2.2.1.1
        refine va_get (D := (dC, dI)) (ci := 10) (v := .ref (d 1)) (C := RX11) (T := TX11) (N := 9) hx hb hts (by decide +kernel) hown hK hP kk_43 hk_44 rfl 1 (by decide) (hts (.fieldLink RX11 15 "PageOne" "plates" "[LPageOne$Sheet;") (by decide +kernel)) (fun _ h9 => h9) rfl dX11_wasPrintedOn_36 ?_
        refine lv_iload_n hx hb dX11_wasPrintedOn_39 rfl (lv_at hl 0 rfl) ?_
        obtain ⟨kk_45, hk_46⟩ := pl_at hI.2.1.2.2.1.1 hp_36
        refine va_aldq hx hb hK hP kk_45 2 hk_46 rfl (vin hbw_39 (by decide)) dX11_wasPrintedOn_40 ?_
        rw [hp_37]
        refine W.eq (g2 := F0 m 41 ls [.ref bp_35]) rfl ?_
        refine lv_aload_n hx hb dX11_wasPrintedOn_41 rfl (lv_at hl 2 rfl) ?_
        obtain ⟨kk_47, hk_48⟩ := pl_at ht13.1 hsP
        refine va_get (D := (dC, dI)) (ci := 5) (v := .int (nI i0)) (C := RX6) (T := TX6) (N := 9) hx hb hts (by decide +kernel) hown hK hP kk_47 hk_48 rfl 0 (by decide) (hts (.fieldLink RX11 397 "PageOne$Paid" "number" "I") (by decide +kernel)) (fun x9 h9 => u_same (hts (.sameField "PageOne$Paid" "PageOne$Item" "number" "I") (by decide +kernel)) x9 h9) rfl dX11_wasPrintedOn_42 ?_
        obtain ⟨la_49, ca_50, m_51, dd_52, ii_53, hs_54, ht_55, ht_56⟩ := x_sh hI hp_38
        obtain ⟨g_57, hs_58, hg_59⟩ := x_ln hI ht_55
        obtain ⟨g_60, hs_61⟩ := x_ce hI ht_56
        obtain ⟨kk_62, hk_63⟩ := pl_at hp_38.1 hs_54
        refine vp_callSi (va_runV (As := [.int (nI i0)]) (rest := []) ⟨hx, hb, hml, hown, hts⟩ (y_spotOf l dC dI q h0 d k z f hI bp_35 la_49 ca_50 m_51 dd_52 ii_53 g_57 g_60 hp_38 hs_54 ht_55 ht_56 hs_58 hg_59 hs_61 (nI i0)) (cwV 1 hts gX11_wasPrintedOn_X9_spotOf rfl rfl rfl (by decide +kernel) ⟨Nat.le_of_ble_eq_true rfl, Nat.le_of_ble_eq_true rfl⟩) ⟨px_fb, va_recv hK hP (ci := 8) (q0 := kk_62) rfl hk_63, fun U hU hW => ⟨rfl, px_to hU hW hP hK hN hXN⟩⟩ rfl rfl hl.1 rfl (lv_room (Nat.le_of_ble_eq_true rfl)) dX11_wasPrintedOn_45 ⟨Nat.le_of_ble_eq_true rfl, Nat.le_of_ble_eq_true rfl⟩).run (fun r hw => ?_)
        generalize r = zr_64 at hw ⊢
        have hzr_64 := hw
        refine lv_iconst (v := (-1)) hx hb dX11_wasPrintedOn_48 (by decide) ?_
        refine lv_icmp_eq (tgt := 56) hx hb dX11_wasPrintedOn_49 (by decide) (fun c_65 => ?_) (fun c_65 => ?_)
        ·
          refine lv_iconst (v := 0) hx hb dX11_wasPrintedOn_56 (by decide) ?_
          exact W.zret (v := 0) hx hb hr (by decide) (fun t ht hW => ⟨_, rfl, (bP_f (wp_n (P := P) hpi hsd (rp_01 hrp.2.1) hi8 hkd eP (by omega) ((e48 hx5 hd9).symm.trans c_24) (Or.inr (Or.inr (by rcases (by have hq9 := ((rp_pl hrp.2.1 hp_36 (clp hbw_39)).2 _ hp_37).2.2 _ _ _ _ _ hs_54; have h40 := hpp_40.1.2; rw [nI_clamp (by omega)] at hq9 h40; exact sp_val (by omega) hpi h40 hi8 (hq9.2.2.1 _ hs_58) (hq9.2.2.2 _ hs_61) hg_59 hzr_64 : (zr_64 = -1 ∧ u.2 45 (80 * P + i0) = (-1)) ∨ (¬ zr_64 = -1 ∧ spR u i0 P zr_64)) with h8 | h8; exact h8.2; exact absurd c_65 h8.1))))).symm, ht⟩) (fun q h => absurd h List.not_mem_nil) dX11_wasPrintedOn_57
        ·
          refine lv_iconst (v := 1) hx hb dX11_wasPrintedOn_52 (by decide) ?_
          refine lv_goto (tgt := 57) hx hb dX11_wasPrintedOn_53 (by decide) ?_
          exact W.zret (v := 1) hx hb hr (by decide) (fun t ht hW => ⟨_, rfl, (bP_t (by rcases (by have hq9 := ((rp_pl hrp.2.1 hp_36 (clp hbw_39)).2 _ hp_37).2.2 _ _ _ _ _ hs_54; have h40 := hpp_40.1.2; rw [nI_clamp (by omega)] at hq9 h40; exact sp_val (by omega) hpi h40 hi8 (hq9.2.2.1 _ hs_58) (hq9.2.2.2 _ hs_61) hg_59 hzr_64 : (zr_64 = -1 ∧ u.2 45 (80 * P + i0) = (-1)) ∨ (¬ zr_64 = -1 ∧ spR u i0 P zr_64)) with h8 | h8; exact absurd h8.1 c_65; exact wp_y (p := P) (by omega) hi8 (c_31.trans hk2) ((frP_now (bw11 (by omega : P < 12)) (rp_01 hrp.2.1 _ (by rw [nI_clamp (by omega)]; omega))).mp hpp_40) h8.2)).symm, ht⟩) (fun q h => absurd h List.not_mem_nil) dX11_wasPrintedOn_57
  ·
    refine lv_iconst (v := 1) hx hb dX11_wasPrintedOn_9 (by decide) ?_
    exact W.zret (v := 1) hx hb hr (by decide) (fun t ht hW => ⟨_, rfl, (bP_t (Or.inl (fun e9 => c_24 ((e48 hx5 hd9).trans e9)))).symm, ht⟩) (fun q h => absurd h List.not_mem_nil) dX11_wasPrintedOn_10
set_option maxHeartbeats 4000000 in
set_option maxRecDepth 100000 in
theorem y_bill_l {p : Program} {l : Launch} {e : Env} {R : Room} {s : State} {m : MethodId} {args : Array Value} {below : List Frame} {meth : Method} {c : Code} {Q : State → Prop} {cells slots : Nat} {dC : Nat → ClassId} {dI : Nat → Nat → Nat} {q : Nat → ClassId} {h0 : Nat} {d : Nat → Nat} {k : Nat → Int32} {z : gS} {f : xF} {H : Heap} {locs : List Loc} (hI : xI q h0 d k z f) (hx : p.tables.exec = Jvm.exec) (hb : c.code = cX11_bill) (hml : c.maxLocals = 7) (hts : ∀ w ∈ wsX11_bill, w.before args s = true) (hown : s.vm.findClass RX11 = some m.cls) (hN : NN s) (hXN : XN s) (hK : va_K (dC, dI) vwCl (xT q) s) (hRf : 5 ≤ R.frames) (hRl : 110 ≤ R.locals) (hRc : cells ≤ R.cells) (hRs : slots ≤ R.slots) (hP : va_P (dC, dI) vwCl (va_pl z.1 f) H) {u : mS} (hrp : rep q d u z f) (hk0 : k 0 = u.1 3) (hk1 : k 1 = u.1 28) (hk2 : k 2 = u.1 38) (hk3 : k 3 = u.1 39) {K : Nat} (hK8 : K ≤ 80) (eK : k 0 = nI K) (eKn : (u.1 3).toNatClampNeg = K) {p0 p1 : Int32} (hd9 : bw p1 0 399 = true) (hpi : plI u) (hsd : sdI u) (kx92 : ∀ (a9 : Int32) (ls : Array Slot), a9 = blS u p0 p1 K → lv_has ls 7 [(3, .int a9), (0, .ref h0), (1, .int p0), (2, .int p1)] → W p l e R s m args below meth c H locs cells slots Q (F0 m 92 ls [])) : ∀ (kk i : Nat) (a : Int32) (ls : Array Slot), i ≤ K → K - i < kk → a = blS u p0 p1 i → lv_has ls 7 [(4, .int (nI i)), (3, .int a), (0, .ref h0), (1, .int p0), (2, .int p1)] → W p l e R s m args below meth c H locs cells slots Q (F0 m 26 ls []) := by
  intro kk
  induction kk with
  | zero => intro i a ls h1 h2; exact absurd h2 (Nat.not_lt_zero _)
  | succ kk ih =>
    intro i a ls hi hkk hg hl
    refine lv_iload hx hb dX11_bill_26 (lv_at hl 0 rfl) ?_
    refine lv_aload_n hx hb dX11_bill_28 rfl (lv_at hl 2 rfl) ?_
    obtain ⟨kk_1, hk_2⟩ := pl_at hI.2.1.1.1 hI.2.2.2.1.1
    refine va_get (D := (dC, dI)) (ci := 10) (v := .int (k 0)) (C := RX11) (T := TX11) (N := 9) hx hb hts (by decide +kernel) hown hK hP kk_1 hk_2 rfl 3 (by decide) (hts (.fieldLink RX11 24 "PageOne" "itemCount" "I") (by decide +kernel)) (fun _ h9 => h9) rfl dX11_bill_29 ?_
    refine lv_topi (fun y_3 ey_3 => ?_)
    obtain rfl : y_3 = (nI K) := ey_3.trans (eK)
    refine lv_icmp_ge (tgt := 92) hx hb dX11_bill_32 (by decide) (fun c_4 => ?_) (fun c_4 => ?_)
    ·
      have hie : i = K := lp_eq rfl (by omega) hi c_4
      exact kx92 _ ls (by rw [← hie]; exact hg) (lv_sub hl [1, 2, 3, 4] rfl)
    ·
      have hlt : i < K := lp_lt rfl (by omega) hi c_4
      refine lv_aload_n hx hb dX11_bill_35 rfl (lv_at hl 2 rfl) ?_
      obtain ⟨kk_5, hk_6⟩ := pl_at hI.2.1.1.1 hI.2.2.2.1.1
      refine va_get (D := (dC, dI)) (ci := 10) (v := .ref (d 2)) (C := RX11) (T := TX11) (N := 9) hx hb hts (by decide +kernel) hown hK hP kk_5 hk_6 rfl 2 (by decide) (hts (.fieldLink RX11 20 "PageOne" "items" "[LPageOne$Item;") (by decide +kernel)) (fun _ h9 => h9) rfl dX11_bill_36 ?_
      refine lv_iload hx hb dX11_bill_39 (lv_at hl 0 rfl) ?_
      obtain ⟨g_7, hs_8, hn_9, hg_10⟩ := x_itm hI
      obtain ⟨kk_11, hk_12⟩ := pl_at hI.2.1.2.2.2.1.1 hs_8
      refine va_aldq hx hb hK hP kk_11 3 hk_12 rfl (vp_in_nI (by omega) (by decide)) dX11_bill_41 ?_
      obtain ⟨b_13, hg_14⟩ := hn_9 ((nI i) : Int32).toNatClampNeg (by rw [eK, nI_clamp (by omega), nI_clamp (by omega)]; exact hlt)
      have ht_15 := hg_10 ((nI i) : Int32).toNatClampNeg (vlt (vp_in_nI (by omega) (by decide))) b_13 hg_14
      rw [hg_14]
      refine W.eq (g2 := F0 m 42 ls [.ref b_13]) rfl ?_
      have hb_16 := rI_at hrp.2.2.1 hs_8 (by rw [eKn]; exact hlt) (by rw [nI_clamp (by omega)] at hg_14; exact hg_14)
      subst hb_16
      obtain ⟨rs_17, n_18, g_19, fg_20, hit_21, hs_22, hpa_23, hps_24, h1_25, h6_26, hcb_27, hpl_28, hlg_29, hnn_30, hfa_31, hfs_32, hfe_33, hrs_34, hkt_35⟩ := it_all hI hrp.2.2.1 (by rw [eKn]; exact hlt)
      refine lv_astore (lv' := [(6, .ref (d (2000 + i))), (4, .int (nI i)), (3, .int a), (0, .ref h0), (1, .int p0), (2, .int p1)]) hx hb dX11_bill_42 hl (by decide) rfl (fun ls hl => ?_)
      refine lv_aload hx hb dX11_bill_44 (lv_at hl 0 rfl) ?_
      rcases Classical.em (tg z (d (2000 + i)) 13) with ht9 | ht9
      ·
        have ht_36 := ht9
        have hkd_38 : u.2 4 i = 3 := (kT_k (kd_05 hrp.2.2.1 (by rw [eKn]; exact hlt)).1 (kd_05 hrp.2.2.1 (by rw [eKn]; exact hlt)).2).2.2.2.1 (hkt_35.symm.trans ht_36.2)
        obtain ⟨hx_49, hx_50, hx_51, hx_52, hx_53, hx_54⟩ := hrs_34.2.2.2.1 hkd_38
        have hs_58 : f (d (2000 + i)) = .inr (5, [.int (nI i), .int (u.2 4 i), .ref (d (3000 + i)), .int (u.2 22 i), .ref (d (4000 + i)), .int (u.2 10 i), .int (u.2 14 i), .ref (d (5000 + i)), .ref (d (6000 + i))]) := by rw [hs_22, ht_36.2, hx_49]; rfl
        obtain ⟨kk_59, hk_60⟩ := pl_at ht_36.1 hs_58
        refine va_instS hx hb hown (hts (.classLink RX11 104 "PageOne$Paid") (by decide +kernel)) (hK.1 5 (RX6, TX6, 9) rfl).2 (va_recv hK hP (ci := 5) (q0 := kk_59) rfl hk_60) dX11_bill_46 ?_
        refine lv_if_eq (tgt := 86) hx hb dX11_bill_49 (by decide) (fun c_61 => absurd c_61 (by decide)) (fun c_61 => ?_)
        refine lv_aload hx hb dX11_bill_52 (lv_at hl 0 rfl) ?_
        obtain ⟨kk_62, hk_63⟩ := pl_at ht_36.1 hs_58
        refine va_castS hx hb hown (hts (.classLink RX11 104 "PageOne$Paid") (by decide +kernel)) (hK.1 5 (RX6, TX6, 9) rfl).2 (va_recv hK hP (ci := 5) (q0 := kk_62) rfl hk_63) dX11_bill_54 ?_
        refine lv_astore (lv' := [(5, .ref (d (2000 + i))), (6, .ref (d (2000 + i))), (4, .int (nI i)), (3, .int a), (0, .ref h0), (1, .int p0), (2, .int p1)]) hx hb dX11_bill_57 hl (by decide) rfl (fun ls hl => ?_)
        refine lv_aload hx hb dX11_bill_59 (lv_at hl 0 rfl) ?_
        obtain ⟨kk_64, hk_65⟩ := pl_at ht_36.1 hs_58
        refine va_get (D := (dC, dI)) (ci := 5) (v := .int (u.2 10 i)) (C := RX6) (T := TX6) (N := 9) hx hb hts (by decide +kernel) hown hK hP kk_64 hk_65 rfl 5 (by decide) (hts (.fieldLink RX11 260 "PageOne$Paid" "buyer" "I") (by decide +kernel)) (fun _ h9 => h9) rfl dX11_bill_61 ?_
        refine lv_iload_n hx hb dX11_bill_64 rfl (lv_at hl 5 rfl) ?_
        refine lv_icmp_ne (tgt := 86) hx hb dX11_bill_65 (by decide) (fun c_66 => ?_) (fun c_66 => ?_)
        ·
          refine lv_iinc (v := (nI (i + 1))) (lv' := [(4, .int (nI (i + 1))), (5, .ref (d (2000 + i))), (6, .ref (d (2000 + i))), (3, .int a), (0, .ref h0), (1, .int p0), (2, .int p1)]) hx hb dX11_bill_86 hl (k := 2) rfl (nI_1 i) (by decide) rfl (fun ls hl => ?_)
          refine lv_goto (tgt := 26) hx hb dX11_bill_89 (by decide) ?_
          exact ih (i + 1) _ ls (by omega) (by omega) (by rw [hg]; exact (blS_0 (fun h9 => c_66 h9.2.1)).symm) (lv_sub hl [0, 3, 4, 5, 6] rfl)
        ·
          refine lv_aload_n hx hb dX11_bill_68 rfl (lv_at hl 4 rfl) ?_
          refine lv_aload hx hb dX11_bill_69 (lv_at hl 0 rfl) ?_
          refine lv_iload_n hx hb dX11_bill_71 rfl (lv_at hl 6 rfl) ?_
          obtain ⟨kk_67, hk_68⟩ := pl_at hI.2.1.1.1 hI.2.2.2.1.1
          refine vp_callSi (va_runV (As := [.ref (d (2000 + i)), .int p1]) (rest := []) ⟨hx, hb, hml, hown, hts⟩ (y_wasPrintedOn l dC dI q h0 d k z f hI p1 hd9 u hrp hk0 hk1 hk2 hk3 hpi hsd i (by rw [eKn]; exact hlt) hkd_38) (cwV 2 hts gX11_bill_X11_wasPrintedOn rfl rfl rfl (by decide +kernel) ⟨Nat.le_trans (Nat.le_of_ble_eq_true rfl) hRf, Nat.le_trans (Nat.le_of_ble_eq_true rfl) hRl⟩) ⟨px_fb, va_recv hK hP (ci := 10) (q0 := kk_67) rfl hk_68, fun U hU hW => ⟨rfl, px_to hU hW hP hK hN hXN⟩⟩ rfl rfl hl.1 rfl (lv_room (Nat.le_of_ble_eq_true rfl)) dX11_bill_72 ⟨hRc, hRs⟩).run (fun r hw => ?_)
          obtain rfl : r = (bP (wpP u i p1)) := hw
          refine lv_if_eq (tgt := 86) hx hb dX11_bill_75 (by decide) (fun c_69 => ?_) (fun c_69 => ?_)
          ·
            refine lv_iinc (v := (nI (i + 1))) (lv' := [(4, .int (nI (i + 1))), (5, .ref (d (2000 + i))), (6, .ref (d (2000 + i))), (3, .int a), (0, .ref h0), (1, .int p0), (2, .int p1)]) hx hb dX11_bill_86 hl (k := 2) rfl (nI_1 i) (by decide) rfl (fun ls hl => ?_)
            refine lv_goto (tgt := 26) hx hb dX11_bill_89 (by decide) ?_
            exact ih (i + 1) _ ls (by omega) (by omega) (by rw [hg]; exact (blS_0 (fun h9 => bP_0 c_69 h9.2.2)).symm) (lv_sub hl [0, 3, 4, 5, 6] rfl)
          ·
            refine lv_iload_n hx hb dX11_bill_78 rfl (lv_at hl 3 rfl) ?_
            refine lv_aload hx hb dX11_bill_79 (lv_at hl 0 rfl) ?_
            obtain ⟨kk_70, hk_71⟩ := pl_at ht_36.1 hs_58
            refine vp_callSi (va_runV (As := []) (rest := [.int a]) ⟨hx, hb, hml, hown, hts⟩ (y_cost l dC dI q h0 d k z f hI (d (2000 + i)) (d (3000 + i)) (d (4000 + i)) (d (5000 + i)) (d (6000 + i)) (nI i) (u.2 4 i) (u.2 22 i) (u.2 10 i) (u.2 14 i) ht_36 hs_58 none (u.2 11 i) (u.2 12 i) (u.2 13 i) (u.2 7 i) (u.2 8 i) hx_50) (cwV 0 hts gX11_bill_X6_cost rfl rfl rfl (by decide +kernel) ⟨Nat.le_trans (Nat.le_of_ble_eq_true rfl) hRf, Nat.le_trans (Nat.le_of_ble_eq_true rfl) hRl⟩) ⟨px_fb, va_recv hK hP (ci := 5) (q0 := kk_70) rfl hk_71, fun U hU hW => ⟨rfl, px_to hU hW hP hK hN hXN⟩⟩ rfl rfl hl.1 rfl (lv_room (Nat.le_of_ble_eq_true rfl)) dX11_bill_81 ⟨hRc, hRs⟩).run (fun r hw => ?_)
            obtain rfl : r = (u.2 7 i * u.2 8 i * u.2 14 i) := hw
            refine lv_iadd hx hb dX11_bill_84 ?_
            refine lv_topi (fun x_72 ex_72 => ?_)
            refine lv_istore_n (lv' := [(3, .int x_72), (5, .ref (d (2000 + i))), (6, .ref (d (2000 + i))), (4, .int (nI i)), (0, .ref h0), (1, .int p0), (2, .int p1)]) hx hb dX11_bill_85 rfl hl (by decide) rfl (fun ls hl => ?_)
            refine lv_iinc (v := (nI (i + 1))) (lv' := [(4, .int (nI (i + 1))), (3, .int x_72), (5, .ref (d (2000 + i))), (6, .ref (d (2000 + i))), (0, .ref h0), (1, .int p0), (2, .int p1)]) hx hb dX11_bill_86 hl (k := 3) rfl (nI_1 i) (by decide) rfl (fun ls hl => ?_)
            refine lv_goto (tgt := 26) hx hb dX11_bill_89 (by decide) ?_
            exact ih (i + 1) _ ls (by omega) (by omega) (by rw [ex_72, hg]; exact (blS_1 ⟨hkd_38, c_66, bP_n c_69⟩).symm) (lv_sub hl [0, 1, 4, 5, 6] rfl)
      ·
        have hn_37 := ht9
        have hkd_38 : ¬ u.2 4 i = 3 := fun e9 => ht9 ⟨hit_21.1, by rw [hkt_35, e9]; rfl⟩
        refine w_then (F0 m 49 ls [.int 0]) (fun hgo => ?_) ?_
        ·
          rcases x_tag hit_21 with ht8 | ht8 | ht8 | ht8 | ht8 | ht8
          ·
            obtain ⟨nu_73, kd_74, cn_75, pa_76, fa_77, l_78, m_79, hs_80, hs_81, hs_82, hs_83⟩ := x_ifl hI ht8
            obtain ⟨kk_84, hk_85⟩ := pl_at ht8.1 hs_80
            exact va_instNo hx hb hown (hts (.classLink RX11 104 "PageOne$Paid") (by decide +kernel)) hXN.n_X2_X6 (va_recv hK hP (ci := 2) (q0 := kk_84) rfl hk_85) dX11_bill_46 hgo
          ·
            obtain ⟨nu_86, kd_87, cn_88, pa_89, fa_90, o_91, w_92, y_93, hs_94, hs_95, hs_96, hs_97, hq_98⟩ := x_ihd hI ht8
            obtain ⟨kk_99, hk_100⟩ := pl_at ht8.1 hs_94
            exact va_instNo hx hb hown (hts (.classLink RX11 104 "PageOne$Paid") (by decide +kernel)) hXN.n_X3_X6 (va_recv hK hP (ci := 3) (q0 := kk_99) rfl hk_100) dX11_bill_46 hgo
          ·
            obtain ⟨nu_101, kd_102, cn_103, pa_104, fa_105, o_106, y_107, hs_108, hs_109, hs_110, hs_111, hq_112⟩ := x_ino hI ht8
            obtain ⟨kk_113, hk_114⟩ := pl_at ht8.1 hs_108
            exact va_instNo hx hb hown (hts (.classLink RX11 104 "PageOne$Paid") (by decide +kernel)) hXN.n_X5_X6 (va_recv hK hP (ci := 4) (q0 := kk_113) rfl hk_114) dX11_bill_46 hgo
          ·
            exact absurd ht8 ht9
          ·
            obtain ⟨nu_115, kd_116, cn_117, pa_118, fa_119, ww_120, hh_121, sz_122, hs_123, hs_124, hs_125, hs_126, hq_127, hq_128, hq_129⟩ := x_ipi hI ht8
            obtain ⟨kk_130, hk_131⟩ := pl_at ht8.1 hs_123
            exact va_instNo hx hb hown (hts (.classLink RX11 104 "PageOne$Paid") (by decide +kernel)) hXN.n_X7_X6 (va_recv hK hP (ci := 6) (q0 := kk_130) rfl hk_131) dX11_bill_46 hgo
          ·
            obtain ⟨nu_132, kd_133, cn_134, pa_135, fa_136, l_137, co_138, wd_139, nm_140, hs_141, hs_142, hs_143, hs_144, hq_145, hq_146, hq_147⟩ := x_ist hI ht8
            obtain ⟨kk_148, hk_149⟩ := pl_at ht8.1 hs_141
            exact va_instNo hx hb hown (hts (.classLink RX11 104 "PageOne$Paid") (by decide +kernel)) hXN.n_X10_X6 (va_recv hK hP (ci := 9) (q0 := kk_148) rfl hk_149) dX11_bill_46 hgo
        ·
          refine lv_if_eq (tgt := 86) hx hb dX11_bill_49 (by decide) (fun c_150 => ?_) (fun c_150 => absurd (by decide) c_150)
          refine lv_iinc (v := (nI (i + 1))) (lv' := [(4, .int (nI (i + 1))), (6, .ref (d (2000 + i))), (3, .int a), (0, .ref h0), (1, .int p0), (2, .int p1)]) hx hb dX11_bill_86 hl (k := 1) rfl (nI_1 i) (by decide) rfl (fun ls hl => ?_)
          refine lv_goto (tgt := 26) hx hb dX11_bill_89 (by decide) ?_
          exact ih (i + 1) _ ls (by omega) (by omega) (by rw [hg]; exact (blS_0 (fun h9 => hkd_38 h9.1)).symm) (lv_sub hl [0, 2, 3, 4, 5] rfl)
noncomputable def mBillX (u : mS) (b dd : Int32) : Int32 := if bw b 0 9 = true then (if bw dd 0 (u.1 38) = true then blS u b dd (u.1 3).toNatClampNeg else (-1)) else (-1)
set_option maxHeartbeats 4000000 in
set_option maxRecDepth 100000 in
theorem y_bill (l : Launch) (dC : Nat → ClassId) (dI : Nat → Nat → Nat) (q : Nat → ClassId) (h0 : Nat) (d : Nat → Nat) (k : Nat → Int32) (z : gS) (f : xF) (hI : xI q h0 d k z f) (p0 p1 : Int32) (u : mS) (hrp : rep q d u z f) (hk0 : k 0 = u.1 3) (hk1 : k 1 = u.1 28) (hk2 : k 2 = u.1 38) (hk3 : k 3 = u.1 39) (hpi : plI u) (hsd : sdI u) : Met l yX11_bill wsX11_bill ({ frames := 5, cells := 0, slots := 0, locals := 110 }) (va_Pc [.ref h0, .int p0, .int p1] (PX dC dI (va_pl z.1 f) (xT q))) (vp_Si (fun r => r = mBillX u p0 p1)) 0 0 (fun _ => False) := by
  refine Met.ofW (cc := cX11_bill) (maxL := 7) (ret := (some .int)) (by decide) rfl ?_
  intro p e s m args below meth c s₁ B hml hv
  obtain ⟨rfl, ⟨hP, hK, hN⟩, hXN⟩ := hv
  have hx := B.exec
  have hb := B.bytes
  have hr := B.returns
  have hts := atoms_spec (ws := wsX11_bill) B.pre
  have hown : s.vm.findClass RX11 = some m.cls := findClass_of_methodNamed B.named
  have hlocks := B.notSynchronized
  have hl := lv_entry ([.ref h0, .int p0, .int p1]) (n := 7) (Nat.le_of_ble_eq_true rfl)
  rw [lg_entry_eq]
  generalize (lg_sl ([.ref h0, .int p0, .int p1]) ++ List.replicate (7 - (lg_sl ([.ref h0, .int p0, .int p1])).length) Slot.unset).toArray = ls at hl ⊢
  have hl : lv_has ls 7 [(0, .ref h0), (1, .int p0), (2, .int p1)] := hl
  refine lv_iload_n hx hb dX11_bill_0 rfl (lv_at hl 1 rfl) ?_
  refine vp_callSi (va_runS (As := [.int p0]) (rest := []) ⟨hx, hb, hml, hown, hts⟩ (x_isBuyer l dC dI p0) (va_cwS 1 hts gX11_bill_X11_isBuyer rfl rfl rfl (by decide +kernel) ⟨Nat.le_of_ble_eq_true rfl, Nat.le_of_ble_eq_true rfl⟩) ⟨pw_fb, fun U hU hW => ⟨rfl, pw_to hU hW (hP.sub (ws' := []) [] rfl) (hK.sub (tys' := []) [] rfl) hN⟩⟩ rfl rfl hl.1 rfl (lv_room (Nat.le_of_ble_eq_true rfl)) dX11_bill_1 ⟨Nat.le_of_ble_eq_true rfl, Nat.le_of_ble_eq_true rfl⟩).run (fun r hw => ?_)
  rcases Bool.eq_false_or_eq_true (bw p0 0 9) with b_1 | b_1
  ·
    obtain rfl : r = 1 := b_t hw b_1
    refine lv_if_eq (tgt := 19) hx hb dX11_bill_4 (by decide) (fun c_2 => absurd c_2 (by decide)) (fun c_2 => ?_)
    refine lv_iload_n hx hb dX11_bill_7 rfl (lv_at hl 2 rfl) ?_
    refine lv_iconst (v := 0) hx hb dX11_bill_8 (by decide) ?_
    refine lv_aload_n hx hb dX11_bill_9 rfl (lv_at hl 0 rfl) ?_
    obtain ⟨kk_3, hk_4⟩ := pl_at hI.2.1.1.1 hI.2.2.2.1.1
    refine va_get (D := (dC, dI)) (ci := 10) (v := .int (k 2)) (C := RX11) (T := TX11) (N := 9) hx hb hts (by decide +kernel) hown hK hP kk_3 hk_4 rfl 7 (by decide) (hts (.fieldLink RX11 41 "PageOne" "today" "I") (by decide +kernel)) (fun _ h9 => h9) rfl dX11_bill_10 ?_
    refine vp_callSi (va_runS (As := [.int p1, .int 0, .int (k 2)]) (rest := []) ⟨hx, hb, hml, hown, hts⟩ (x_isWithin l dC dI p1 0 (k 2)) (va_cwS 3 hts gX11_bill_X11_isWithin rfl rfl rfl (by decide +kernel) ⟨Nat.le_of_ble_eq_true rfl, Nat.le_of_ble_eq_true rfl⟩) ⟨pw_fb, fun U hU hW => ⟨rfl, pw_to hU hW (hP.sub (ws' := []) [] rfl) (hK.sub (tys' := []) [] rfl) hN⟩⟩ rfl rfl hl.1 rfl (lv_room (Nat.le_of_ble_eq_true rfl)) dX11_bill_13 ⟨Nat.le_of_ble_eq_true rfl, Nat.le_of_ble_eq_true rfl⟩).run (fun r hw => ?_)
    rcases Bool.eq_false_or_eq_true (bw p1 0 (k 2)) with b_5 | b_5
    ·
      obtain rfl : r = 1 := b_t hw b_5
      refine lv_if_ne (tgt := 21) hx hb dX11_bill_16 (by decide) (fun c_6 => ?_) (fun c_6 => absurd c_6 (by decide))
      refine lv_iconst (v := 0) hx hb dX11_bill_21 (by decide) ?_
      refine lv_istore_n (lv' := [(3, .int 0), (0, .ref h0), (1, .int p0), (2, .int p1)]) hx hb dX11_bill_22 rfl hl (by decide) rfl (fun ls hl => ?_)
      refine lv_iconst (v := 0) hx hb dX11_bill_23 (by decide) ?_
      refine lv_istore (lv' := [(4, .int 0), (3, .int 0), (0, .ref h0), (1, .int p0), (2, .int p1)]) hx hb dX11_bill_24 hl (by decide) rfl (fun ls hl => ?_)
      have hd9 : bw p1 0 399 = true := by have h1 := bw_iff.mp b_5; have h2 := bw_iff.mp hI.1.2.2; rw [bw_iff]; omega
      obtain ⟨K, hK8, -, eK⟩ := exN hI.1.1 (by decide)
      have h80 : (80 : Int32).toInt = 80 := rfl
      have eKn : (u.1 3).toNatClampNeg = K := by rw [← hk0, eK, nI_clamp (by omega)]
      refine y_bill_l (K := K) hI hx hb hml hts hown hN hXN hK (Nat.le_of_ble_eq_true rfl) (Nat.le_of_ble_eq_true rfl) (Nat.le_of_ble_eq_true rfl) (Nat.le_of_ble_eq_true rfl) hP hrp hk0 hk1 hk2 hk3 (by omega) eK eKn hd9 hpi hsd (fun a9 ls ha9 hl => ?_) (K + 1) 0 _ ls (Nat.zero_le _) (by omega) rfl (lv_sub hl [0, 1, 2, 3, 4] rfl)
      refine lv_iload_n hx hb dX11_bill_92 rfl (lv_at hl 0 rfl) ?_
      exact W.iret (v := a9) hx hb hr (fun t ht hW => ⟨_, rfl, (by unfold mBillX; rw [if_pos b_1, if_pos (by rw [← hk2]; exact b_5), eKn]; exact ha9), ht⟩) (fun q h => absurd h List.not_mem_nil) dX11_bill_93
    ·
      obtain rfl : r = 0 := b_f hw b_5
      refine lv_if_ne (tgt := 21) hx hb dX11_bill_16 (by decide) (fun c_7 => absurd (by decide) c_7) (fun c_7 => ?_)
      refine lv_iconst (v := (-1)) hx hb dX11_bill_19 (by decide) ?_
      exact W.iret (v := (-1)) hx hb hr (fun t ht hW => ⟨_, rfl, (by unfold mBillX; rw [if_neg (show ¬ bw p1 0 (u.1 38) = true from fun h9 => bne b_5 (by rw [hk2]; exact h9))]; split <;> rfl), ht⟩) (fun q h => absurd h List.not_mem_nil) dX11_bill_20
  ·
    obtain rfl : r = 0 := b_f hw b_1
    refine lv_if_eq (tgt := 19) hx hb dX11_bill_4 (by decide) (fun c_8 => ?_) (fun c_8 => absurd (by decide) c_8)
    refine lv_iconst (v := (-1)) hx hb dX11_bill_19 (by decide) ?_
    exact W.iret (v := (-1)) hx hb hr (fun t ht hW => ⟨_, rfl, (by unfold mBillX; rw [if_neg (bne b_1)]), ht⟩) (fun q h => absurd h List.not_mem_nil) dX11_bill_20
/-- whether there is a cell, in plain numbers -/
theorem mC_iff {u : mS} {P x y : Nat} (hP : P < 12) (hx : x < 200) (hy : y < 200) (hl : x < 8 → bw (u.2 0 (8 * P + x)) 0 60 = true) : mCell u (nI P) (nI x) (nI y) = true ↔ x < 8 ∧ y < (u.2 0 (8 * P + x)).toNatClampNeg := by
  have e0 : (8 * nI P + nI x).toNatClampNeg = 8 * P + x := by rw [show (8 : Int32) = nI 8 from rfl, pk_mul, nI_add, nI_clamp (by omega)]
  unfold mCell
  rw [Bool.and_eq_true, Bool.and_eq_true, e0, bw_iff, bw_iff, bw_iff]
  have h11 : (11 : Int32).toInt = 11 := rfl
  have h7 : (7 : Int32).toInt = 7 := rfl
  have h60 : (60 : Int32).toInt = 60 := rfl
  rw [nI_toInt (n := P) (by omega), nI_toInt (n := x) (by omega), nI_toInt (n := y) (by omega), i0, h11, h7]
  constructor
  · rintro ⟨⟨-, h2⟩, h3⟩
    have h8 : x < 8 := by omega
    refine ⟨h8, ?_⟩
    obtain ⟨l1, l2, l3⟩ := nI_of_bw (hl h8)
    have l4 := bw_iff.mp (hl h8)
    rw [i0, h60] at l4
    rw [subI (by rw [i1]; omega) (by rw [i1]; omega), i1] at h3
    omega
  · rintro ⟨h8, h3⟩
    obtain ⟨l1, l2, l3⟩ := nI_of_bw (hl h8)
    have l4 := bw_iff.mp (hl h8)
    rw [i0, h60] at l4
    rw [subI (by rw [i1]; omega) (by rw [i1]; omega), i1]
    omega
theorem frB_iff {u : mS} {p x y : Int32} : frB u p x y = true ↔ mCellAt u p x y = (-2) := by
  unfold frB
  rw [Bool.and_eq_true, decide_eq_true_iff]
  constructor
  · rintro ⟨h1, h2⟩; unfold mCellAt; rw [if_pos h1, h2]
  · intro h; exact mCA h
theorem fr_rIn {u : mS} {P : Nat} {c l w h : Int32} (hP : P < 12) (hl : ∀ a, a < 8 → bw (u.2 0 (8 * P + a)) 0 60 = true) (hf : mFreeP u (nI P) c l w h) : ∃ X Y D N, c = nI X ∧ l = nI Y ∧ w = nI D ∧ h = nI N ∧ rIn u P X Y D N ∧ ∀ a b, a < D → b < N → u.2 2 (480 * P + 60 * (X + a) + (Y + b)) = (-2) := by
  obtain ⟨h1, h2, h3, h4⟩ := hf
  have h7 : (7 : Int32).toInt = 7 := rfl
  have h8 : (8 : Int32).toInt = 8 := rfl
  have h60 : (60 : Int32).toInt = 60 := rfl
  obtain ⟨c1, c2, c3⟩ := mCell_c h1
  obtain ⟨X, hX, -, rfl⟩ := exN c2 (by decide)
  have e0 : (8 * nI P + nI X).toNatClampNeg = 8 * P + X := by rw [show (8 : Int32) = nI 8 from rfl, pk_mul, nI_add, nI_clamp (by omega)]
  rw [e0] at c3
  obtain ⟨Y, hY, -, rfl⟩ := exN (b59 (hl X (by omega)) c3) (by decide)
  have h59 : (59 : Int32).toInt = 59 := rfl
  obtain ⟨D, hD, hD1, rfl⟩ := exN h2 (by decide)
  obtain ⟨N, hN, hN1, rfl⟩ := exN h3 (by decide)
  rw [i1] at hD1 hN1
  rw [nI_clamp (n := D) (by omega), nI_clamp (n := N) (by omega)] at h4
  have cc : ∀ a b, a < D → b < N → X + a < 8 ∧ Y + b < (u.2 0 (8 * P + (X + a))).toNatClampNeg ∧ u.2 2 (480 * P + 60 * (X + a) + (Y + b)) = (-2) := fun a b ha hb => by
    have q := h4 a ha b hb
    rw [nI_add, nI_add, frB_iff] at q
    obtain ⟨q1, q2⟩ := mCA q
    have q3 := (mC_iff hP (by omega) (by omega) (fun h => hl _ h)).mp q1
    refine ⟨q3.1, q3.2, ?_⟩
    have h5 := hl (X + a) q3.1
    obtain ⟨l1, l2, l3⟩ := nI_of_bw h5
    rw [idxN hP q3.1 (by omega), nI_clamp (by omega)] at q2
    exact q2
  refine ⟨X, Y, D, N, rfl, rfl, rfl, rfl, ⟨hP, ?_, by omega, ?_, by omega, fun a ha => ?_⟩, fun a b ha hb => (cc a b ha hb).2.2⟩
  · have := (cc (D - 1) 0 (by omega) (by omega)).1; omega
  · have q := (cc 0 (N - 1) (by omega) (by omega))
    obtain ⟨l1, l2, l3⟩ := nI_of_bw (hl (X + 0) q.1)
    have := q.2.1
    omega
  · have := (cc a (N - 1) ha (by omega)).2.1; omega
theorem fr_iff {gl gc : Nat → Int32} {u : mS} {P : Nat} {c l w h : Int32} (hP : P < 12) (el : eqR 8 gl (u.2 0) (8 * P)) (ec : eqR 480 gc (u.2 2) (480 * P)) (hgb : ∀ j, j < 8 → bw (gl j) 0 60 = true) : shFr gl gc c l w h ↔ mFreeP u (nI P) c l w h := by
  have hl : ∀ a, a < 8 → bw (u.2 0 (8 * P + a)) 0 60 = true := fun a ha => by rw [← el a ha]; exact hgb a ha
  constructor
  · rintro ⟨h1, h2, h3, h4⟩
    obtain ⟨w1, w2⟩ := ban h1
    have hw : 0 < w.toNatClampNeg := by
      obtain ⟨D, hD, hD1, rfl⟩ := exN w1 (by decide)
      have h8 : (8 : Int32).toInt = 8 := rfl
      rw [i1] at hD1
      rw [nI_clamp (by omega)]; omega
    have hh : 0 < h.toNatClampNeg := by
      obtain ⟨D, hD, hD1, rfl⟩ := exN w2 (by decide)
      have h8 : (60 : Int32).toInt = 60 := rfl
      rw [i1] at hD1
      rw [nI_clamp (by omega)]; omega
    have q : ∀ a, a < w.toNatClampNeg → ∀ b, b < h.toNatClampNeg → frB u (nI P) (c + nI a) (l + nI b) = true := fun a ha b hb => by
      rw [frB_iff, ← shAt_eq hP el ec hgb]; exact h4 a ha b hb
    have q0 := q 0 hw 0 hh
    rw [show nI 0 = (0 : Int32) from rfl, Int32.add_zero, Int32.add_zero] at q0
    refine ⟨?_, w1, w2, q⟩
    unfold frB at q0
    exact (ban q0).1
  · intro hf
    obtain ⟨X, Y, D, N, rfl, rfl, rfl, rfl, ⟨r1, r2, r3, r4, r5, r6⟩, -⟩ := fr_rIn hP hl hf
    obtain ⟨h1, h2, h3, h4⟩ := hf
    have e60 : (60 : Int32).toInt = 60 := rfl
    refine ⟨by rw [h2, h3]; rfl, (mCell_c h1).2.1, ?_, fun a ha b hb => ?_⟩
    · rw [bw_iff, i0, nI_toInt (by omega), show (60 : Int32) = nI 60 from rfl, nI_sb (i := 60) (r := N) (by omega) (by omega), nI_toInt (by omega)]
      omega
    · rw [shAt_eq hP el ec hgb]
      exact frB_iff.mp (h4 a ha b hb)
theorem kd6 {k : Int32} (h0 : 0 ≤ k) (h5 : k ≤ 5) : k = 0 ∨ k = 1 ∨ k = 2 ∨ k = 3 ∨ k = 4 ∨ k = 5 := by
  have h9 := kT_r k
  have h8 := kT_k h0 h5
  rcases (show kT k = 15 ∨ kT k = 11 ∨ kT k = 14 ∨ kT k = 13 ∨ kT k = 10 ∨ kT k = 12 by omega) with e | e | e | e | e | e
  · exact Or.inl (h8.1 e)
  · exact Or.inr (Or.inl (h8.2.1 e))
  · exact Or.inr (Or.inr (Or.inl (h8.2.2.1 e)))
  · exact Or.inr (Or.inr (Or.inr (Or.inl (h8.2.2.2.1 e))))
  · exact Or.inr (Or.inr (Or.inr (Or.inr (Or.inl (h8.2.2.2.2.1 e)))))
  · exact Or.inr (Or.inr (Or.inr (Or.inr (Or.inr (h8.2.2.2.2.2 e)))))
/-- a piece's columns and lines, as the class has them -/
def cpW (u : mS) (i : Nat) (how : Int32) : Int32 := if u.2 4 i = 1 ∨ u.2 4 i = 3 then (if how = 0 then u.2 7 i else 0) else if u.2 4 i = 2 then (if bw how 0 (u.2 17 i - 1) = true then u.2 18 (4 * i + how.toNatClampNeg) else 0) else 1
def cpH (u : mS) (i : Nat) (how : Int32) : Int32 := if u.2 4 i = 0 then (if bw how 1 60 = true then how else 0) else if u.2 4 i = 2 then (if bw how 0 (u.2 17 i - 1) = true then u.2 19 (4 * i + how.toNatClampNeg) else 0) else if u.2 4 i = 4 then (if bw how (u.2 5 i) (u.2 6 i) = true then how else 0) else (if how = 0 then u.2 8 i else 0)
/-- what maySit answers -/
def stV (u : mS) (i : Nat) (P X Y W H v : Int32) : Prop := (u.2 4 i = 0 → ∃ gw, eqR 80 gw (u.2 16) (80 * i) ∧ v = s_sitS P X Y W H (u.2 1 P.toNatClampNeg) (u.2 22 i) (u.2 15 i) (pR u i) gw) ∧ (u.2 4 i = 3 → v = s_sitP P X Y W H (u.2 11 i) (u.2 12 i) (u.2 13 i) (u.2 7 i) (u.2 8 i)) ∧ (u.2 4 i = 5 → ∃ o g gm, o < (u.1 3).toNatClampNeg ∧ u.2 9 i = nI o ∧ eqR 5 g (u.2 47) (5 * i) ∧ eqR 5 gm (u.2 47) (5 * o) ∧ v = s_sitN P X (u.1 38) g gm) ∧ (u.2 4 i = 1 ∨ u.2 4 i = 2 ∨ u.2 4 i = 4 → v = 1)
def rmP (u : mS) (i : Nat) : Prop := (u.2 22 i).toNatClampNeg < (if u.2 4 i = 0 then 6 else 1)
/-- why put refuses -/
def pNo (u : mS) (p0 p1 p2 p3 p4 : Int32) : Prop := ¬ bw p0 0 (u.1 3 - 1) = true ∨ ¬ bw p1 0 11 = true ∨ u.1 28 = 300 ∨ ∃ i, p0 = nI i ∧ i < (u.1 3).toNatClampNeg ∧ (¬ rmP u i ∨ ¬ mFreeP u p1 p2 p3 (cpW u i p4) (cpH u i p4) ∨ stV u i p1 p2 p3 (cpW u i p4) (cpH u i p4) 0)
/-- where put puts -/
def pYe (u : mS) (p0 p1 p2 p3 p4 : Int32) (i P X Y D N : Nat) : Prop := p0 = nI i ∧ i < (u.1 3).toNatClampNeg ∧ p1 = nI P ∧ p2 = nI X ∧ p3 = nI Y ∧ cpW u i p4 = nI D ∧ cpH u i p4 = nI N ∧ ¬ u.1 28 = 300 ∧ rIn u P X Y D N ∧ rmP u i ∧ mFreeP u p1 p2 p3 (cpW u i p4) (cpH u i p4) ∧ (∃ v, ¬ v = 0 ∧ stV u i p1 p2 p3 (cpW u i p4) (cpH u i p4) v) ∧ ∀ a b, a < D → b < N → u.2 2 (480 * P + 60 * (X + a) + (Y + b)) = (-2)
/-- what put leaves -/
def putP (q : Nat → ClassId) (h0 : Nat) (d : Nat → Nat) (k : Nat → Int32) (z : gS) (f : xF) (u : mS) (p0 p1 p2 p3 p4 : Int32) (r : Int32) (w : xU) : Prop := (pNo u p0 p1 p2 p3 p4 ∧ actP q h0 d k z f ((-1 : Int32), u) (fun _ => False) r w) ∨ ∃ i P X Y D N, pYe u p0 p1 p2 p3 p4 i P X Y D N ∧ actP q h0 d k z f (u.2 22 i + 1, mActs (mStand u (nI i) P X Y D N) 0 (nI i) 0 0 0 0 0) (fun e => e = (0, i, (P, X, Y, D, N), [])) r w
theorem put_fin {q h0 d k u z f z9 f9 k9} {i a b P X Y D N : Nat} {fc : xF} (hk1 : k 1 = u.1 28) (hi8 : i < 80) (hE : zE z z9) (hI9 : xI q h0 d k9 z9 f9) (hrp9 : rep q d (mStand u (nI i) P X Y D N) z9 f9) (h3m : fc (d 3) = f (d 3)) (hkc : k9 = kup k 1 (k 1 + 1)) (hk3 : ∃ g, fc (d 3) = aR (q 4) 300 g ∧ f9 (d 3) = aR (q 4) 300 (va_up g (k 1).toNatClampNeg (some a))) (hac : acS z9 a b 0 1 none) (hpc : pcS z9 b (some (d (2000 + i))) (nI P) (nI X) (nI Y) (nI D) (nI N)) : actP q h0 d k z f (u.2 22 i + 1, mActs (mStand u (nI i) P X Y D N) 0 (nI i) 0 0 0 0 0) (fun e => e = (0, i, (P, X, Y, D, N), [])) ((mStand u (nI i) P X Y D N).2 22 i) (k9, z9, f9) := by
  obtain ⟨g, g1, g2⟩ := hk3
  refine ⟨hE, hI9, ?_, rep_rows hrp9 rfl (fun r hr => mActs_k _ _ _ _ _ _ _ _ (by omega)), fun j hj => by rw [hkc]; exact kup_o hj, ?_, Or.inr ⟨g, a, _, by rw [← h3m]; exact g1, g2, by show k9 1 = _; rw [hkc, kup_s], ?_, rfl⟩⟩
  · rw [mStand_gU, mput_other (by decide), gU_22, nI_clamp (by omega), if_pos rfl]
  · show k9 1 = u.1 28 + 1
    rw [hkc, kup_s, hk1]
  · exact Or.inl ⟨rfl, b, hac, hpc⟩
