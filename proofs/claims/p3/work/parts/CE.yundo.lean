set_option maxHeartbeats 4000000 in
set_option maxRecDepth 100000 in
theorem y_takeBack (l : Launch) (dC : Nat → ClassId) (dI : Nat → Nat → Nat) (q : Nat → ClassId) (h0 : Nat) (d : Nat → Nat) (k : Nat → Int32) (z : gS) (f : xF) (hI : xI q h0 d k z f) (b9 : Nat) (hb9 : tg z b9 23) (u : mS) (hrp : rep q d u z f) (hk0 : k 0 = u.1 3) (hk1 : k 1 = u.1 28) (hk2 : k 2 = u.1 38) (hk3 : k 3 = u.1 39) (L9 : List bS) (hbs : bkS z d (some b9) L9) (hbk : bkK u L9) (hne : neI u) (sz : Nat) : Met l yX11_takeBack wsX11_takeBack ({ frames := 5, cells := 0, slots := 0, locals := 109 }) (va_Pc [.ref h0, .ref b9] (fun U => U.heap.size = sz ∧ PX dC dI (va_pl z.1 f) (xT q) U ∧ va_D (fun _ => True) (va_pl z.1 f))) (va_Qv (fun (w : xU) => w.1 = k ∧ w.2.1 = z ∧ xI q h0 d k z w.2.2 ∧ rep q d (bkU u L9) z w.2.2 ∧ w.2.2 (d 3) = f (d 3)) (fun (w : xU) t => va_P (dC, dI) vwCl (va_pl w.2.1.1 w.2.2) t.heap ∧ va_D (va_A (va_pl z.1 f) sz) (va_pl w.2.1.1 w.2.2)) (va_A (va_pl z.1 f) sz)) 0 0 (va_A (va_pl z.1 f) sz) := by
  refine Met.ofW (cc := cX11_takeBack) (maxL := 3) (ret := none) (by decide) rfl ?_
  intro p e s m args below meth c s₁ B hml hv
  obtain ⟨rfl, hsz, ⟨⟨hP, hK, hN⟩, hXN⟩, hD0⟩ := hv
  have hx := B.exec
  have hb := B.bytes
  have hr := B.returns
  have hts := atoms_spec (ws := wsX11_takeBack) B.pre
  have hown : s.vm.findClass RX11 = some m.cls := findClass_of_methodNamed B.named
  have hlocks := B.notSynchronized
  subst hsz
  have hD := hD0.self (sz := s.heap.size)
  generalize hAe : va_A (va_pl z.1 f) s.heap.size = A at hD ⊢
  have hA : ∀ q : Nat, s.heap.size ≤ q → A q := fun q h => by rw [← hAe]; exact Or.inr h
  have hS : va_S A s.heap s.heap [] := va_S.rf
  have hl := lv_entry ([.ref h0, .ref b9]) (n := 3) (Nat.le_of_ble_eq_true rfl)
  rw [lg_entry_eq]
  generalize (lg_sl ([.ref h0, .ref b9]) ++ List.replicate (3 - (lg_sl ([.ref h0, .ref b9])).length) Slot.unset).toArray = ls at hl ⊢
  have hl : lv_has ls 3 [(0, .ref h0), (1, .ref b9)] := hl
  refine lv_aload_n hx hb dX11_takeBack_0 rfl (lv_at hl 1 rfl) ?_
  refine lv_astore_n (lv' := [(2, .ref b9), (0, .ref h0), (1, .ref b9)]) hx hb dX11_takeBack_1 rfl hl (by decide) rfl (fun ls hl => ?_)
  refine y_takeBack_l (f0 := f) (uE := bkU u L9) hx hb hml hts hown hN hXN hK (Nat.le_of_ble_eq_true rfl) (Nat.le_of_ble_eq_true rfl) (Nat.le_of_ble_eq_true rfl) (Nat.le_of_ble_eq_true rfl) hA (fun f2 H locs ls hrp2 h3m hI hP hD hS hl => ?_) L9 u (some b9) _ _ _ ls rfl hbs hbk hne hrp hk0 hk1 hk2 hk3 rfl hI hP hD hS (lv_sub hl [0, 1] rfl)
  exact W.vret hx hb hr (fun t ht hW => ⟨⟨(k, z, f2), rfl, ⟨rfl, rfl, hI, hrp2, h3m⟩, by rw [ht]; exact hP, hD⟩, hS.F ht⟩) hS.2.2 dX11_takeBack_40
theorem mBk_rep {q d u z f} (h : rep q d u z f) : rep q d (mBack u) z f := rep_rows h rfl (fun _ _ => rfl)
/-- what undo leaves -/
def unP (q : Nat → ClassId) (h0 : Nat) (d : Nat → Nat) (k : Nat → Int32) (z : gS) (f : xF) (u : mS) (L9 : List bS) (g : Nat → Option Nat) (r : Int32) (w : xU) : Prop := (k 1 = 0 ∧ r = (-1) ∧ w = (k, z, f)) ∨ (¬ k 1 = 0 ∧ r = k 1 - 1 ∧ w.1 = kup k 1 (k 1 - 1) ∧ w.2.1 = z ∧ xI q h0 d w.1 z w.2.2 ∧ rep q d (bkU (mBack u) L9) z w.2.2 ∧ w.2.2 (d 3) = aR (q 4) 300 (va_up g (k 1 - 1).toNatClampNeg none))
theorem x_ac9 {q h0 d k z f} (hI : xI q h0 d k z f) {a : Nat} (ha : tg z a 5) {g : Nat → Option Nat} (hg : f a = aR (q 4) 300 g) : ∀ j, j < 300 → ∀ b, g j = some b → tg z b 23 := by
  obtain ⟨g2, h1, h2⟩ := x_ac hI ha
  have e := (aR_inj (hg.symm.trans h1)).2
  subst e
  exact h2
set_option maxHeartbeats 4000000 in
set_option maxRecDepth 100000 in
theorem y_undo (l : Launch) (dC : Nat → ClassId) (dI : Nat → Nat → Nat) (q : Nat → ClassId) (h0 : Nat) (d : Nat → Nat) (k : Nat → Int32) (z : gS) (f : xF) (hI : xI q h0 d k z f) (u : mS) (hrp : rep q d u z f) (hk0 : k 0 = u.1 3) (hk1 : k 1 = u.1 28) (hk2 : k 2 = u.1 38) (hk3 : k 3 = u.1 39) (L9 : List bS) (g : Nat → Option Nat) (hg3 : f (d 3) = aR (q 4) 300 g) (hact : ¬ k 1 = 0 → ∃ a9, g (k 1 - 1).toNatClampNeg = some a9 ∧ tg z a9 23 ∧ bkS z d (some a9) L9 ∧ bkK (mBack u) L9) (hne : neI u) (hz0 : (z.2 h0).2.1 = 0) (sz : Nat) : Met l yX11_undo wsX11_undo ({ frames := 6, cells := 0, slots := 0, locals := 131 }) (va_Pc [.ref h0] (fun U => U.heap.size = sz ∧ PX dC dI (va_pl z.1 f) (xT q) U ∧ va_D (fun _ => True) (va_pl z.1 f))) (va_Qi (fun (r : Int32) (w : xU) => unP q h0 d k z f u L9 g r w) (fun (w : xU) t => va_P (dC, dI) vwCl (va_pl w.2.1.1 w.2.2) t.heap ∧ va_D (va_A (va_pl z.1 f) sz) (va_pl w.2.1.1 w.2.2)) (va_A (va_pl z.1 f) sz)) 0 0 (va_A (va_pl z.1 f) sz) := by
  refine Met.ofW (cc := cX11_undo) (maxL := 1) (ret := (some .int)) (by decide) rfl ?_
  intro p e s m args below meth c s₁ B hml hv
  obtain ⟨rfl, hsz, ⟨⟨hP, hK, hN⟩, hXN⟩, hD0⟩ := hv
  have hx := B.exec
  have hb := B.bytes
  have hr := B.returns
  have hts := atoms_spec (ws := wsX11_undo) B.pre
  have hown : s.vm.findClass RX11 = some m.cls := findClass_of_methodNamed B.named
  have hlocks := B.notSynchronized
  subst hsz
  have hD := hD0.self (sz := s.heap.size)
  generalize hAe : va_A (va_pl z.1 f) s.heap.size = A at hD ⊢
  have hA : ∀ q : Nat, s.heap.size ≤ q → A q := fun q h => by rw [← hAe]; exact Or.inr h
  have hS : va_S A s.heap s.heap [] := va_S.rf
  have hl := lv_entry ([.ref h0]) (n := 1) (Nat.le_of_ble_eq_true rfl)
  rw [lg_entry_eq]
  generalize (lg_sl ([.ref h0]) ++ List.replicate (1 - (lg_sl ([.ref h0])).length) Slot.unset).toArray = ls at hl ⊢
  have hl : lv_has ls 1 [(0, .ref h0)] := hl
  refine lv_aload_n hx hb dX11_undo_0 rfl (lv_at hl 0 rfl) ?_
  obtain ⟨kk_1, hk_2⟩ := pl_at hI.2.1.1.1 hI.2.2.2.1.1
  refine va_get (D := (dC, dI)) (ci := 10) (v := .int (k 1)) (C := RX11) (T := TX11) (N := 9) hx hb hts (by decide +kernel) hown hK hP kk_1 hk_2 rfl 5 (by decide) (hts (.fieldLink RX11 34 "PageOne" "actCount" "I") (by decide +kernel)) (fun _ h9 => h9) rfl dX11_undo_1 ?_
  refine lv_if_ne (tgt := 9) hx hb dX11_undo_4 (by decide) (fun c_3 => ?_) (fun c_3 => ?_)
  ·
    refine lv_aload_n hx hb dX11_undo_9 rfl (lv_at hl 0 rfl) ?_
    refine lv_dup hx hb dX11_undo_10 rfl ?_
    obtain ⟨kk_4, hk_5⟩ := pl_at hI.2.1.1.1 hI.2.2.2.1.1
    refine va_get (D := (dC, dI)) (ci := 10) (v := .int (k 1)) (C := RX11) (T := TX11) (N := 9) hx hb hts (by decide +kernel) hown hK hP kk_4 hk_5 rfl 5 (by decide) (hts (.fieldLink RX11 34 "PageOne" "actCount" "I") (by decide +kernel)) (fun _ h9 => h9) rfl dX11_undo_11 ?_
    refine lv_iconst (v := 1) hx hb dX11_undo_14 (by decide) ?_
    refine lv_isub hx hb dX11_undo_15 ?_
    refine lv_topi (fun x_6 ex_6 => ?_)
    obtain ⟨kk_7, hk_8⟩ := pl_at hI.2.1.1.1 hI.2.2.2.1.1
    have hD0 := hD
    refine va_put (D := (dC, dI)) (ci := 10) (v := .int x_6) (ty := .int) (C := RX11) (T := TX11) (N := 9) hx hb hts (by decide +kernel) tyX11 tyX11_ok nmX11 hown hK hP hD hS kk_7 hk_8 rfl 5 (by decide) (hts (.fieldLink RX11 34 "PageOne" "actCount" "I") (by decide +kernel)) (fun _ h9 => h9) rfl (by decide +kernel) rfl rfl (Nat.le_of_ble_eq_true rfl) dX11_undo_16 (fun H locs hP hD hS => ?_)
    obtain ⟨k_9, ek_9⟩ : ∃ y : Nat → Int32, y = kup k 1 x_6 := ⟨_, rfl⟩
    have hvx := (vAm hI.1.2.1 c_3 ex_6).1
    have hIo := hI
    rw [pl_set hD0 hI.2.1.1.1 hI.2.2.2.1.1 hk_8] at hP hD
    obtain ⟨f_10, ef_10⟩ : ∃ y : xF, y = va_up f h0 (.inr (10, dkF d k_9)) := ⟨_, rfl⟩
    have hP : va_P (dC, dI) vwCl (va_pl z.1 f_10) H := by rw [ef_10, ek_9]; exact hP
    have hD : va_D A (va_pl z.1 f_10) := by rw [ef_10, ek_9]; exact hD
    have hI : xI q h0 d k_9 z f_10 := by rw [ef_10]; exact x_dk hI (by rw [ek_9]; exact ⟨hI.1.1, by rw [kup_s]; exact (vAm hI.1.2.1 c_3 ex_6).2, hI.1.2.2⟩) (by rw [ek_9]; exact Nat.le_refl _)
    have hvk : vp_in (k_9 1) 300 := by rw [ek_9, kup_s]; exact hvx
    obtain ⟨a9, hga, hta, hbs, hbk⟩ := hact c_3
    have hgk : g (k_9 1).toNatClampNeg = some a9 := by rw [ek_9, kup_s, ex_6]; exact hga
    have hg3 : f_10 (d 3) = aR (q 4) 300 g := by rw [ef_10, up_o (tg_ne hrp.2.2.2.2.2.2.2.1.1 hIo.2.1.1 (by decide))]; exact hg3
    have hrpb : rep q d (mBack u) z f_10 := by rw [ef_10]; exact rep_3 (mBk_rep hrp) (fK_h0 (fK_rf d z f _) hrp.2.2.2.2.1 hIo.2.1.1 hz0)
    have hkb : k_9 0 = (mBack u).1 3 ∧ k_9 1 = (mBack u).1 28 ∧ k_9 2 = (mBack u).1 38 ∧ k_9 3 = (mBack u).1 39 := by rw [ek_9]; exact ⟨hk0, by rw [kup_s, ex_6, hk1]; rfl, hk2, hk3⟩
    refine lv_aload_n hx hb dX11_undo_19 rfl (lv_at hl 0 rfl) ?_
    refine lv_aload_n hx hb dX11_undo_20 rfl (lv_at hl 0 rfl) ?_
    obtain ⟨kk_11, hk_12⟩ := pl_at hI.2.1.1.1 hI.2.2.2.1.1
    refine va_get (D := (dC, dI)) (ci := 10) (v := .ref (d 3)) (C := RX11) (T := TX11) (N := 9) hx hb hts (by decide +kernel) hown hK hP kk_11 hk_12 rfl 4 (by decide) (hts (.fieldLink RX11 30 "PageOne" "acts" "[LPageOne$Act;") (by decide +kernel)) (fun _ h9 => h9) rfl dX11_undo_21 ?_
    refine lv_aload_n hx hb dX11_undo_24 rfl (lv_at hl 0 rfl) ?_
    obtain ⟨kk_13, hk_14⟩ := pl_at hI.2.1.1.1 hI.2.2.2.1.1
    refine va_get (D := (dC, dI)) (ci := 10) (v := .int (k_9 1)) (C := RX11) (T := TX11) (N := 9) hx hb hts (by decide +kernel) hown hK hP kk_13 hk_14 rfl 5 (by decide) (hts (.fieldLink RX11 34 "PageOne" "actCount" "I") (by decide +kernel)) (fun _ h9 => h9) rfl dX11_undo_25 ?_
    obtain ⟨kk_15, hk_16⟩ := pl_at hI.2.1.2.2.2.2.1.1 hg3
    refine va_aldq hx hb hK hP kk_15 4 hk_16 rfl hvk dX11_undo_28 ?_
    rw [hgk]
    refine W.eq (g2 := F0 m 29 ls [.ref a9, .ref h0]) rfl ?_
    obtain ⟨kk_17, hk_18⟩ := pl_at hI.2.1.1.1 hI.2.2.2.1.1
    have hFc := fr_all hD hS hA
    refine va_callv (va_runV (As := [.ref a9]) (rest := []) ⟨hx, hb, hml, hown, hts⟩ (y_takeBack l dC dI q h0 d k_9 z f_10 hI a9 hta (mBack u) hrpb hkb.1 hkb.2.1 hkb.2.2.1 hkb.2.2.2 L9 hbs hbk hne H.size) (cwV 1 hts gX11_undo_X11_takeBack rfl rfl rfl (by decide +kernel) ⟨Nat.le_of_ble_eq_true rfl, Nat.le_of_ble_eq_true rfl⟩) ⟨gx_fb, va_recv hK hP (ci := 10) (q0 := kk_17) rfl hk_18, fun U hU hW => ⟨rfl, by rw [hU], px_to hU hW hP hK hN hXN, hD.weaken (fun _ _ _ _ => trivial)⟩⟩ rfl rfl hl.1 rfl (lv_room (Nat.le_of_ble_eq_true rfl)) dX11_undo_29 ⟨Nat.le_of_ble_eq_true rfl, Nat.le_of_ble_eq_true rfl⟩) hS (fun q _ h => hFc q h) hFc (fun w_19 t H1 locs ht hvm hw hB hz1 hk1 hS => ?_)
    obtain ⟨hP, hD1⟩ := hB
    rw [ht] at hP
    rw [hw.2.1] at hP hD1
    have hD := hD1.weaken (fun _ q _ h => hFc q.1 h)
    have hI := hw.2.2.1
    have hw0 := hw
    generalize w_19.2.2 = f_20 at hP hD hI hw0
    generalize H1 = H at hP hS ⊢
    have hrpc := hw0.2.2.2.1
    have hg3 : f_20 (d 3) = aR (q 4) 300 g := hw0.2.2.2.2.trans hg3
    refine lv_aload_n hx hb dX11_undo_32 rfl (lv_at hl 0 rfl) ?_
    obtain ⟨kk_21, hk_22⟩ := pl_at hI.2.1.1.1 hI.2.2.2.1.1
    refine va_get (D := (dC, dI)) (ci := 10) (v := .ref (d 3)) (C := RX11) (T := TX11) (N := 9) hx hb hts (by decide +kernel) hown hK hP kk_21 hk_22 rfl 4 (by decide) (hts (.fieldLink RX11 30 "PageOne" "acts" "[LPageOne$Act;") (by decide +kernel)) (fun _ h9 => h9) rfl dX11_undo_33 ?_
    refine lv_aload_n hx hb dX11_undo_36 rfl (lv_at hl 0 rfl) ?_
    obtain ⟨kk_23, hk_24⟩ := pl_at hI.2.1.1.1 hI.2.2.2.1.1
    refine va_get (D := (dC, dI)) (ci := 10) (v := .int (k_9 1)) (C := RX11) (T := TX11) (N := 9) hx hb hts (by decide +kernel) hown hK hP kk_23 hk_24 rfl 5 (by decide) (hts (.fieldLink RX11 34 "PageOne" "actCount" "I") (by decide +kernel)) (fun _ h9 => h9) rfl dX11_undo_37 ?_
    refine lv_null hx hb dX11_undo_40 ?_
    obtain ⟨kk_25, hk_26⟩ := pl_at hI.2.1.2.2.2.2.1.1 hg3
    have hD0 := hD
    refine va_astqN hx hb hK hP hD hS kk_25 4 hk_26 rfl hvk dX11_undo_41 (fun H locs hP hD hS => ?_)
    rw [pl_set hD0 hI.2.1.2.2.2.2.1.1 hg3 hk_26] at hP hD
    obtain ⟨f_27, ef_27⟩ : ∃ y : xF, y = va_up f_20 (d 3) (aR (q 4) 300 (va_up g ((k_9 1) : Int32).toNatClampNeg none)) := ⟨_, rfl⟩
    have hI : xI q h0 d k_9 z f_27 := by rw [ef_27]; exact x_up hI hI.2.1.2.2.2.2.1 (by decide) (cO_5 hI.2.1.2.2.2.2.1.2 ⟨_, rfl, ty_up (fun j hj b hb => (x_ac9 hI hI.2.1.2.2.2.2.1 hg3) j hj b hb) ty_n⟩)
    have hP : va_P (dC, dI) vwCl (va_pl z.1 f_27) H := by rw [ef_27]; exact hP
    have hD : va_D A (va_pl z.1 f_27) := by rw [ef_27]; exact hD
    have hrpz : rep q d (bkU (mBack u) L9) z f_27 := by rw [ef_27]; exact rep_3 hrpc (fK_up (fK_rf d z _ _) hrpc.2.2.2.2.2.2.2.1 (by decide) rfl)
    have hg3z : f_27 (d 3) = aR (q 4) 300 (va_up g (k 1 - 1).toNatClampNeg none) := by rw [ef_27, up_s, ek_9, kup_s, ex_6]
    refine lv_aload_n hx hb dX11_undo_42 rfl (lv_at hl 0 rfl) ?_
    obtain ⟨kk_28, hk_29⟩ := pl_at hI.2.1.1.1 hI.2.2.2.1.1
    refine va_get (D := (dC, dI)) (ci := 10) (v := .int (k_9 1)) (C := RX11) (T := TX11) (N := 9) hx hb hts (by decide +kernel) hown hK hP kk_28 hk_29 rfl 5 (by decide) (hts (.fieldLink RX11 34 "PageOne" "actCount" "I") (by decide +kernel)) (fun _ h9 => h9) rfl dX11_undo_43 ?_
    exact W.iret (v := (k_9 1)) hx hb hr (fun t ht hW => ⟨⟨(k_9 1), (k_9, z, f_27), rfl, (Or.inr ⟨c_3, by rw [ek_9, kup_s, ex_6], by rw [ek_9, ex_6], rfl, hI, hrpz, hg3z⟩), by rw [ht]; exact hP, hD⟩, hS.F ht⟩) hS.2.2 dX11_undo_46
  ·
    refine lv_iconst (v := (-1)) hx hb dX11_undo_7 (by decide) ?_
    exact W.iret (v := (-1)) hx hb hr (fun t ht hW => ⟨⟨(-1), (k, z, f), rfl, (Or.inl ⟨c_3, rfl, rfl⟩), by rw [ht]; exact hP, hD⟩, hS.F ht⟩) hS.2.2 dX11_undo_8
