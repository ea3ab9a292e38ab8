set_option maxHeartbeats 4000000 in
set_option maxRecDepth 100000 in
theorem x_ActP (l : Launch) (dC : Nat → ClassId) (dI : Nat → Nat → Nat) (h0 : Nat) (po : Nat) (sz : Nat) : Met l yX0_init wsX0_init ({ frames := 1, cells := 0, slots := 0, locals := 12 }) (va_Pc [.ref h0, .ref po, .int 0, .null] (fun U => U.heap.size = sz ∧ PW dC dI [(h0, .inr (0, [.null, .int 0, .null, .int 0]))] [] U ∧ va_D (fun _ => True) [(h0, .inr (0, [.null, .int 0, .null, .int 0]))])) (va_Qv (fun _ : Unit => True) (fun _ t => va_P (dC, dI) vwCl [(h0, .inr (0, [.ref po, .int 0, .null, .int 1]))] t.heap ∧ va_D (va_A [(h0, .inr (0, [.null, .int 0, .null, .int 0]))] sz) [(h0, .inr (0, [.ref po, .int 0, .null, .int 1]))]) (va_A [(h0, .inr (0, [.null, .int 0, .null, .int 0]))] sz)) 0 0 (va_A [(h0, .inr (0, [.null, .int 0, .null, .int 0]))] sz) := by
  refine Met.ofW (cc := cX0_init) (maxL := 4) (ret := none) (by decide) rfl ?_
  intro p e s m args below meth c s₁ B hml hv
  obtain ⟨rfl, hsz, ⟨hP, hK, hN⟩, hD0⟩ := hv
  have hx := B.exec
  have hb := B.bytes
  have hr := B.returns
  have hts := atoms_spec (ws := wsX0_init) B.pre
  have hown : s.vm.findClass RX0 = some m.cls := findClass_of_methodNamed B.named
  have hlocks := B.notSynchronized
  have hin : meth.name = "<init>" := (name_of_methodNamed B.named B.method).1
  subst hsz
  have hD := hD0.self (sz := s.heap.size)
  generalize hAe : va_A [(h0, .inr (0, [.null, .int 0, .null, .int 0]))] s.heap.size = A at hD ⊢
  have hA : ∀ q : Nat, s.heap.size ≤ q → A q := fun q h => by rw [← hAe]; exact Or.inr h
  have hS : va_S A s.heap s.heap [] := va_S.rf
  have hP : va_P (dC, dI) vwCl [(h0, .inr (0, [.null, .int 0, .null, .int 0]))] s.heap := hP
  have hl := lv_entry ([.ref h0, .ref po, .int 0, .null]) (n := 4) (Nat.le_of_ble_eq_true rfl)
  rw [lg_entry_eq]
  generalize (lg_sl ([.ref h0, .ref po, .int 0, .null]) ++ List.replicate (4 - (lg_sl ([.ref h0, .ref po, .int 0, .null])).length) Slot.unset).toArray = ls at hl ⊢
  have hl : lv_has ls 4 [(0, .ref h0), (1, .ref po), (2, .int 0), (3, .null)] := hl
  refine lv_aload_n hx hb dX0_init_0 rfl (lv_at hl 0 rfl) ?_
  refine W.objInit hx hb hown (hts (.methodLink RX0 1 objectInit) (by decide +kernel)) (hts (.instanceMethod objectInit) (by decide +kernel)) (hts (.code objectInit ⟨#[0xb1]⟩ 1 none) (by decide +kernel)) rfl (by rw [hml]; exact hl.1) rfl dX0_init_1 (Nat.le_of_ble_eq_true rfl) (Nat.le_of_ble_eq_true rfl) ?_
  refine W.eq (g2 := F0 m 4 ls []) rfl ?_
  refine lv_aload_n hx hb dX0_init_4 rfl (lv_at hl 0 rfl) ?_
  refine lv_aload_n hx hb dX0_init_5 rfl (lv_at hl 1 rfl) ?_
  refine va_putF (D := (dC, dI)) (ci := 0) (v := .ref po) (ty := .object "PageOne$Piece") (C := RX0) (T := TX0) (N := 4) hx hb hts (by decide +kernel) tyX0 tyX0_ok nmX0 hown hK hP hD hS 0 rfl rfl 0 (by decide) (hts (.fieldLink RX0 7 "PageOne$Act" "piece" "LPageOne$Piece;") (by decide +kernel)) (fun _ h9 => h9) rfl hin rfl (by decide +kernel) rfl rfl (Nat.le_of_ble_eq_true rfl) dX0_init_6 (fun H locs hP hD hS => ?_)
  have hP : va_P (dC, dI) vwCl [(h0, .inr (0, [.ref po, .int 0, .null, .int 0]))] H := hP
  have hD : va_D A [(h0, .inr (0, [.ref po, .int 0, .null, .int 0]))] := hD
  refine lv_aload_n hx hb dX0_init_9 rfl (lv_at hl 0 rfl) ?_
  refine lv_iload_n hx hb dX0_init_10 rfl (lv_at hl 2 rfl) ?_
  refine va_putF (D := (dC, dI)) (ci := 0) (v := .int 0) (ty := .boolean) (C := RX0) (T := TX0) (N := 4) hx hb hts (by decide +kernel) tyX0 tyX0_ok nmX0 hown hK hP hD hS 0 rfl rfl 1 (by decide) (hts (.fieldLink RX0 13 "PageOne$Act" "lifted" "Z") (by decide +kernel)) (fun _ h9 => h9) rfl hin rfl (by decide +kernel) rfl rfl (Nat.le_of_ble_eq_true rfl) dX0_init_11 (fun H locs hP hD hS => ?_)
  have hP : va_P (dC, dI) vwCl [(h0, .inr (0, [.ref po, .int 0, .null, .int 0]))] H := hP
  have hD : va_D A [(h0, .inr (0, [.ref po, .int 0, .null, .int 0]))] := hD
  refine lv_aload_n hx hb dX0_init_14 rfl (lv_at hl 0 rfl) ?_
  refine lv_aload_nN hx hb dX0_init_15 rfl (lv_at hl 3 rfl) ?_
  refine va_putF (D := (dC, dI)) (ci := 0) (v := .null) (ty := .object "PageOne$Act") (C := RX0) (T := TX0) (N := 4) hx hb hts (by decide +kernel) tyX0 tyX0_ok nmX0 hown hK hP hD hS 0 rfl rfl 2 (by decide) (hts (.fieldLink RX0 17 "PageOne$Act" "ahead" "LPageOne$Act;") (by decide +kernel)) (fun _ h9 => h9) rfl hin rfl (by decide +kernel) rfl rfl (Nat.le_of_ble_eq_true rfl) dX0_init_16 (fun H locs hP hD hS => ?_)
  have hP : va_P (dC, dI) vwCl [(h0, .inr (0, [.ref po, .int 0, .null, .int 0]))] H := hP
  have hD : va_D A [(h0, .inr (0, [.ref po, .int 0, .null, .int 0]))] := hD
  refine lv_aload_n hx hb dX0_init_19 rfl (lv_at hl 0 rfl) ?_
  refine lv_aload_nN hx hb dX0_init_20 rfl (lv_at hl 3 rfl) ?_
  refine lv_ifnonnullN hx hb dX0_init_21 ?_
  refine lv_iconst (v := 1) hx hb dX0_init_24 (by decide) ?_
  refine lv_goto (tgt := 34) hx hb dX0_init_25 (by decide) ?_
  refine va_putF (D := (dC, dI)) (ci := 0) (v := .int 1) (ty := .int) (C := RX0) (T := TX0) (N := 4) hx hb hts (by decide +kernel) tyX0 tyX0_ok nmX0 hown hK hP hD hS 0 rfl rfl 3 (by decide) (hts (.fieldLink RX0 21 "PageOne$Act" "parts" "I") (by decide +kernel)) (fun _ h9 => h9) rfl hin rfl (by decide +kernel) rfl rfl (Nat.le_of_ble_eq_true rfl) dX0_init_34 (fun H locs hP hD hS => ?_)
  have hP : va_P (dC, dI) vwCl [(h0, .inr (0, [.ref po, .int 0, .null, .int 1]))] H := hP
  have hD : va_D A [(h0, .inr (0, [.ref po, .int 0, .null, .int 1]))] := hD
  exact W.vret hx hb hr (fun t ht hW => ⟨⟨(), rfl, trivial, ⟨by rw [ht]; exact hP.sub [0] rfl, hD.sub [0] (by decide) rfl⟩⟩, hS.F ht⟩) hS.2.2 dX0_init_37
set_option maxHeartbeats 4000000 in
set_option maxRecDepth 100000 in
theorem x_ActL (l : Launch) (dC : Nat → ClassId) (dI : Nat → Nat → Nat) (h0 : Nat) (po : Nat) (sz : Nat) : Met l yX0_init wsX0_init ({ frames := 1, cells := 0, slots := 0, locals := 12 }) (va_Pc [.ref h0, .ref po, .int 1, .null] (fun U => U.heap.size = sz ∧ PW dC dI [(h0, .inr (0, [.null, .int 0, .null, .int 0]))] [] U ∧ va_D (fun _ => True) [(h0, .inr (0, [.null, .int 0, .null, .int 0]))])) (va_Qv (fun _ : Unit => True) (fun _ t => va_P (dC, dI) vwCl [(h0, .inr (0, [.ref po, .int 1, .null, .int 1]))] t.heap ∧ va_D (va_A [(h0, .inr (0, [.null, .int 0, .null, .int 0]))] sz) [(h0, .inr (0, [.ref po, .int 1, .null, .int 1]))]) (va_A [(h0, .inr (0, [.null, .int 0, .null, .int 0]))] sz)) 0 0 (va_A [(h0, .inr (0, [.null, .int 0, .null, .int 0]))] sz) := by
  refine Met.ofW (cc := cX0_init) (maxL := 4) (ret := none) (by decide) rfl ?_
  intro p e s m args below meth c s₁ B hml hv
  obtain ⟨rfl, hsz, ⟨hP, hK, hN⟩, hD0⟩ := hv
  have hx := B.exec
  have hb := B.bytes
  have hr := B.returns
  have hts := atoms_spec (ws := wsX0_init) B.pre
  have hown : s.vm.findClass RX0 = some m.cls := findClass_of_methodNamed B.named
  have hlocks := B.notSynchronized
  have hin : meth.name = "<init>" := (name_of_methodNamed B.named B.method).1
  subst hsz
  have hD := hD0.self (sz := s.heap.size)
  generalize hAe : va_A [(h0, .inr (0, [.null, .int 0, .null, .int 0]))] s.heap.size = A at hD ⊢
  have hA : ∀ q : Nat, s.heap.size ≤ q → A q := fun q h => by rw [← hAe]; exact Or.inr h
  have hS : va_S A s.heap s.heap [] := va_S.rf
  have hP : va_P (dC, dI) vwCl [(h0, .inr (0, [.null, .int 0, .null, .int 0]))] s.heap := hP
  have hl := lv_entry ([.ref h0, .ref po, .int 1, .null]) (n := 4) (Nat.le_of_ble_eq_true rfl)
  rw [lg_entry_eq]
  generalize (lg_sl ([.ref h0, .ref po, .int 1, .null]) ++ List.replicate (4 - (lg_sl ([.ref h0, .ref po, .int 1, .null])).length) Slot.unset).toArray = ls at hl ⊢
  have hl : lv_has ls 4 [(0, .ref h0), (1, .ref po), (2, .int 1), (3, .null)] := hl
  refine lv_aload_n hx hb dX0_init_0 rfl (lv_at hl 0 rfl) ?_
  refine W.objInit hx hb hown (hts (.methodLink RX0 1 objectInit) (by decide +kernel)) (hts (.instanceMethod objectInit) (by decide +kernel)) (hts (.code objectInit ⟨#[0xb1]⟩ 1 none) (by decide +kernel)) rfl (by rw [hml]; exact hl.1) rfl dX0_init_1 (Nat.le_of_ble_eq_true rfl) (Nat.le_of_ble_eq_true rfl) ?_
  refine W.eq (g2 := F0 m 4 ls []) rfl ?_
  refine lv_aload_n hx hb dX0_init_4 rfl (lv_at hl 0 rfl) ?_
  refine lv_aload_n hx hb dX0_init_5 rfl (lv_at hl 1 rfl) ?_
  refine va_putF (D := (dC, dI)) (ci := 0) (v := .ref po) (ty := .object "PageOne$Piece") (C := RX0) (T := TX0) (N := 4) hx hb hts (by decide +kernel) tyX0 tyX0_ok nmX0 hown hK hP hD hS 0 rfl rfl 0 (by decide) (hts (.fieldLink RX0 7 "PageOne$Act" "piece" "LPageOne$Piece;") (by decide +kernel)) (fun _ h9 => h9) rfl hin rfl (by decide +kernel) rfl rfl (Nat.le_of_ble_eq_true rfl) dX0_init_6 (fun H locs hP hD hS => ?_)
  have hP : va_P (dC, dI) vwCl [(h0, .inr (0, [.ref po, .int 0, .null, .int 0]))] H := hP
  have hD : va_D A [(h0, .inr (0, [.ref po, .int 0, .null, .int 0]))] := hD
  refine lv_aload_n hx hb dX0_init_9 rfl (lv_at hl 0 rfl) ?_
  refine lv_iload_n hx hb dX0_init_10 rfl (lv_at hl 2 rfl) ?_
  refine va_putF (D := (dC, dI)) (ci := 0) (v := .int 1) (ty := .boolean) (C := RX0) (T := TX0) (N := 4) hx hb hts (by decide +kernel) tyX0 tyX0_ok nmX0 hown hK hP hD hS 0 rfl rfl 1 (by decide) (hts (.fieldLink RX0 13 "PageOne$Act" "lifted" "Z") (by decide +kernel)) (fun _ h9 => h9) rfl hin rfl (by decide +kernel) rfl rfl (Nat.le_of_ble_eq_true rfl) dX0_init_11 (fun H locs hP hD hS => ?_)
  have hP : va_P (dC, dI) vwCl [(h0, .inr (0, [.ref po, .int 1, .null, .int 0]))] H := hP
  have hD : va_D A [(h0, .inr (0, [.ref po, .int 1, .null, .int 0]))] := hD
  refine lv_aload_n hx hb dX0_init_14 rfl (lv_at hl 0 rfl) ?_
  refine lv_aload_nN hx hb dX0_init_15 rfl (lv_at hl 3 rfl) ?_
  refine va_putF (D := (dC, dI)) (ci := 0) (v := .null) (ty := .object "PageOne$Act") (C := RX0) (T := TX0) (N := 4) hx hb hts (by decide +kernel) tyX0 tyX0_ok nmX0 hown hK hP hD hS 0 rfl rfl 2 (by decide) (hts (.fieldLink RX0 17 "PageOne$Act" "ahead" "LPageOne$Act;") (by decide +kernel)) (fun _ h9 => h9) rfl hin rfl (by decide +kernel) rfl rfl (Nat.le_of_ble_eq_true rfl) dX0_init_16 (fun H locs hP hD hS => ?_)
  have hP : va_P (dC, dI) vwCl [(h0, .inr (0, [.ref po, .int 1, .null, .int 0]))] H := hP
  have hD : va_D A [(h0, .inr (0, [.ref po, .int 1, .null, .int 0]))] := hD
  refine lv_aload_n hx hb dX0_init_19 rfl (lv_at hl 0 rfl) ?_
  refine lv_aload_nN hx hb dX0_init_20 rfl (lv_at hl 3 rfl) ?_
  refine lv_ifnonnullN hx hb dX0_init_21 ?_
  refine lv_iconst (v := 1) hx hb dX0_init_24 (by decide) ?_
  refine lv_goto (tgt := 34) hx hb dX0_init_25 (by decide) ?_
  refine va_putF (D := (dC, dI)) (ci := 0) (v := .int 1) (ty := .int) (C := RX0) (T := TX0) (N := 4) hx hb hts (by decide +kernel) tyX0 tyX0_ok nmX0 hown hK hP hD hS 0 rfl rfl 3 (by decide) (hts (.fieldLink RX0 21 "PageOne$Act" "parts" "I") (by decide +kernel)) (fun _ h9 => h9) rfl hin rfl (by decide +kernel) rfl rfl (Nat.le_of_ble_eq_true rfl) dX0_init_34 (fun H locs hP hD hS => ?_)
  have hP : va_P (dC, dI) vwCl [(h0, .inr (0, [.ref po, .int 1, .null, .int 1]))] H := hP
  have hD : va_D A [(h0, .inr (0, [.ref po, .int 1, .null, .int 1]))] := hD
  exact W.vret hx hb hr (fun t ht hW => ⟨⟨(), rfl, trivial, ⟨by rw [ht]; exact hP.sub [0] rfl, hD.sub [0] (by decide) rfl⟩⟩, hS.F ht⟩) hS.2.2 dX0_init_37
theorem cO_pc {q : Nat → ClassId} {z : gS} {a : Nat} {it : Option Nat} {P X Y D N : Int32} (hP : bw P 0 11 = true) (hit : ∀ b, it = some b → itm z b) (ha : a ∉ z.1) : cO q (pz z a (22, 0, [va_rf it, .int P, .int X, .int Y, .int D, .int N])) a (.inr (7, [va_rf it, .int P, .int X, .int Y, .int D, .int N])) := by
  refine cO_22 (by rw [pz_s]) ⟨by rw [pz_s], it, P, X, Y, D, N, by rw [pz_s], hP, fun b hb => zE_itm (pz_E ha _) (hit b hb)⟩
theorem cO_ac {q : Nat → ClassId} {z : gS} {a p : Nat} {l n : Int32} (hp : lgP z p) (ha : a ∉ z.1) : cO q (pz z a (23, 0, [.ref p, .int l, va_rf none, .int n])) a (.inr (0, [.ref p, .int l, va_rf none, .int n])) := by
  refine cO_23 (by rw [pz_s]) ⟨by rw [pz_s], p, l, n, none, by rw [pz_s], zE_lg (pz_E ha _) hp, ty_n⟩
theorem lg_of {z : gS} {a : Nat} {it : Option Nat} {P X Y D N : Int32} (h : pcS z a it P X Y D N) (h2 : bw X 0 7 = true ∧ bw Y 0 60 = true ∧ bw D 0 8 = true ∧ bw N 0 60 = true) : lgP z a := ⟨it, P, X, Y, D, N, h, h2⟩
set_option maxHeartbeats 4000000 in
set_option maxRecDepth 100000 in
theorem x_lift (l : Launch) (dC : Nat → ClassId) (dI : Nat → Nat → Nat) (q : Nat → ClassId) (h0 : Nat) (d : Nat → Nat) (k : Nat → Int32) (z : gS) (f : xF) (hI : xI q h0 d k z f) (p0 : Int32) (sz : Nat) : Met l yX11_lift wsX11_lift ({ frames := 5, cells := 1, slots := 4, locals := 109 }) (va_Pc [.ref h0, .int p0] (fun U => U.heap.size = sz ∧ PX dC dI (va_pl z.1 f) (xT q) U ∧ va_D (fun _ => True) (va_pl z.1 f))) (va_Qi (fun (r : Int32) (w : xU) => (∀ j, j ≠ 1 → w.1 j = k j) ∧ zE z w.2.1 ∧ xI q h0 d w.1 w.2.1 w.2.2) (fun (w : xU) t => va_P (dC, dI) vwCl (va_pl w.2.1.1 w.2.2) t.heap ∧ va_D (va_A (va_pl z.1 f) sz) (va_pl w.2.1.1 w.2.2)) (va_A (va_pl z.1 f) sz)) 1 4 (va_A (va_pl z.1 f) sz) := by
  refine Met.ofW (cc := cX11_lift) (maxL := 4) (ret := (some .int)) (by decide) rfl ?_
  intro p e s m args below meth c s₁ B hml hv
  obtain ⟨rfl, hsz, ⟨⟨hP, hK, hN⟩, hXN⟩, hD0⟩ := hv
  have hx := B.exec
  have hb := B.bytes
  have hr := B.returns
  have hts := atoms_spec (ws := wsX11_lift) B.pre
  have hown : s.vm.findClass RX11 = some m.cls := findClass_of_methodNamed B.named
  have hlocks := B.notSynchronized
  subst hsz
  have hD := hD0.self (sz := s.heap.size)
  generalize hAe : va_A (va_pl z.1 f) s.heap.size = A at hD ⊢
  have hA : ∀ q : Nat, s.heap.size ≤ q → A q := fun q h => by rw [← hAe]; exact Or.inr h
  have hS : va_S A s.heap s.heap [] := va_S.rf
  have hl := lv_entry ([.ref h0, .int p0]) (n := 4) (Nat.le_of_ble_eq_true rfl)
  rw [lg_entry_eq]
  generalize (lg_sl ([.ref h0, .int p0]) ++ List.replicate (4 - (lg_sl ([.ref h0, .int p0])).length) Slot.unset).toArray = ls at hl ⊢
  have hl : lv_has ls 4 [(0, .ref h0), (1, .int p0)] := hl
  refine lv_aload_n hx hb dX11_lift_0 rfl (lv_at hl 0 rfl) ?_
  refine lv_iload_n hx hb dX11_lift_1 rfl (lv_at hl 1 rfl) ?_
  obtain ⟨kk_1, hk_2⟩ := pl_at hI.2.1.1.1 hI.2.2.2.1.1
  refine va_csq (va_runV (As := [.int p0]) (rest := []) ⟨hx, hb, hml, hown, hts⟩ (x_itemOf l dC dI q h0 d k z f hI p0) (cwV 1 hts gX11_lift_X11_itemOf rfl rfl rfl (by decide +kernel) ⟨Nat.le_of_ble_eq_true rfl, Nat.le_of_ble_eq_true rfl⟩) ⟨px_fb, va_recv hK hP (ci := 10) (q0 := kk_1) rfl hk_2, fun U hU hW => ⟨rfl, px_to hU hW hP hK hN hXN⟩⟩ rfl rfl hl.1 rfl (lv_room (Nat.le_of_ble_eq_true rfl)) dX11_lift_2 ⟨Nat.le_of_ble_eq_true rfl, Nat.le_of_ble_eq_true rfl⟩).run (fun r hw => ?_)
  rcases r with _ | b_3
  ·
    refine W.eq (g2 := F0 m 5 ls [.null]) rfl ?_
    refine lv_astore_nN (lv' := [(2, .null), (0, .ref h0), (1, .int p0)]) hx hb dX11_lift_5 rfl hl (by decide) rfl (fun ls hl => ?_)
    refine lv_aload_nN hx hb dX11_lift_6 rfl (lv_at hl 0 rfl) ?_
    refine lv_ifnullN (tgt := 17) hx hb dX11_lift_7 (by decide) ?_
    refine lv_iconst (v := (-1)) hx hb dX11_lift_17 (by decide) ?_
    refine W.widen (k := 1) (n := 4) (Nat.le_of_ble_eq_true rfl) (Nat.le_of_ble_eq_true rfl) ?_
    exact W.iret (v := (-1)) hx hb hr (fun t ht hW => ⟨⟨(-1), (k, z, f), rfl, ⟨fun _ _ => rfl, zE_rf z, hI⟩, by rw [ht]; exact hP, hD⟩, hS.F ht⟩) hS.2.2 dX11_lift_18
  ·
    have ht_4 := hw b_3 rfl
    refine W.eq (g2 := F0 m 5 ls [.ref b_3]) rfl ?_
    refine lv_astore_n (lv' := [(2, .ref b_3), (0, .ref h0), (1, .int p0)]) hx hb dX11_lift_5 rfl hl (by decide) rfl (fun ls hl => ?_)
    refine lv_aload_n hx hb dX11_lift_6 rfl (lv_at hl 0 rfl) ?_
    refine lv_ifnull hx hb dX11_lift_7 ?_
    refine lv_aload_n hx hb dX11_lift_10 rfl (lv_at hl 1 rfl) ?_
    obtain ⟨kk_5, hk_6⟩ := pl_at hI.2.1.1.1 hI.2.2.2.1.1
    refine vp_callSi (va_runV (As := []) (rest := []) ⟨hx, hb, hml, hown, hts⟩ (x_canAct l dC dI q h0 d k z f hI) (cwV 0 hts gX11_lift_X11_canAct rfl rfl rfl (by decide +kernel) ⟨Nat.le_of_ble_eq_true rfl, Nat.le_of_ble_eq_true rfl⟩) ⟨px_fb, va_recv hK hP (ci := 10) (q0 := kk_5) rfl hk_6, fun U hU hW => ⟨rfl, px_to hU hW hP hK hN hXN⟩⟩ rfl rfl hl.1 rfl (lv_room (Nat.le_of_ble_eq_true rfl)) dX11_lift_11 ⟨Nat.le_of_ble_eq_true rfl, Nat.le_of_ble_eq_true rfl⟩).run (fun r hw => ?_)
    rcases hw with hw | ⟨hw, hact⟩
    ·
      subst hw
      refine lv_if_ne (tgt := 19) hx hb dX11_lift_14 (by decide) (fun c_7 => absurd (by decide) c_7) (fun c_7 => ?_)
      refine lv_iconst (v := (-1)) hx hb dX11_lift_17 (by decide) ?_
      refine W.widen (k := 1) (n := 4) (Nat.le_of_ble_eq_true rfl) (Nat.le_of_ble_eq_true rfl) ?_
      exact W.iret (v := (-1)) hx hb hr (fun t ht hW => ⟨⟨(-1), (k, z, f), rfl, ⟨fun _ _ => rfl, zE_rf z, hI⟩, by rw [ht]; exact hP, hD⟩, hS.F ht⟩) hS.2.2 dX11_lift_18
    ·
      subst hw
      refine lv_if_ne (tgt := 19) hx hb dX11_lift_14 (by decide) (fun c_8 => ?_) (fun c_8 => absurd c_8 (by decide))
      refine lv_aload_n hx hb dX11_lift_19 rfl (lv_at hl 0 rfl) ?_
      refine w_cut (X := fun R cells slots Q args => ∀ r : Option Nat, (∀ b, r = some b → lgP z b) → W p l e R s m args below meth c s.heap [] cells slots Q (F0 m 23 ls (va_rf r :: []))) ?_ (fun kC => ?_)
      ·
        intro r hw
        rcases r with _ | b_104
        ·
          refine W.eq (g2 := F0 m 23 ls [.null]) rfl ?_
          refine lv_astore_nN (lv' := [(3, .null), (2, .ref b_3), (0, .ref h0), (1, .int p0)]) hx hb dX11_lift_23 rfl hl (by decide) rfl (fun ls hl => ?_)
          refine lv_aload_nN hx hb dX11_lift_24 rfl (lv_at hl 0 rfl) ?_
          refine lv_ifnonnullN hx hb dX11_lift_25 ?_
          refine lv_iconst (v := (-1)) hx hb dX11_lift_28 (by decide) ?_
          refine W.widen (k := 1) (n := 4) (Nat.le_of_ble_eq_true rfl) (Nat.le_of_ble_eq_true rfl) ?_
          exact W.iret (v := (-1)) hx hb hr (fun t ht hW => ⟨⟨(-1), (k, z, f), rfl, ⟨fun _ _ => rfl, zE_rf z, hI⟩, by rw [ht]; exact hP, hD⟩, hS.F ht⟩) hS.2.2 dX11_lift_29
        ·
          have ht_105 := hw b_104 rfl
          refine W.eq (g2 := F0 m 23 ls [.ref b_104]) rfl ?_
          refine lv_astore_n (lv' := [(3, .ref b_104), (2, .ref b_3), (0, .ref h0), (1, .int p0)]) hx hb dX11_lift_23 rfl hl (by decide) rfl (fun ls hl => ?_)
          refine lv_aload_n hx hb dX11_lift_24 rfl (lv_at hl 0 rfl) ?_
          refine lv_ifnonnull (tgt := 30) hx hb dX11_lift_25 (by decide) ?_
          refine lv_aload_n hx hb dX11_lift_30 rfl (lv_at hl 2 rfl) ?_
          refine lv_aload_n hx hb dX11_lift_31 rfl (lv_at hl 0 rfl) ?_
          obtain ⟨kk_106, hk_107⟩ := pl_at hI.2.1.1.1 hI.2.2.2.1.1
          have hFc := fr_all hD hS hA
          refine va_callv (va_runV (As := [.ref b_104]) (rest := []) ⟨hx, hb, hml, hown, hts⟩ (x_takeOff l dC dI q h0 d k z f hI b_104 ht_105 s.heap.size) (cwV 1 hts gX11_lift_X11_takeOff rfl rfl rfl (by decide +kernel) ⟨Nat.le_of_ble_eq_true rfl, Nat.le_of_ble_eq_true rfl⟩) ⟨gx_fb, va_recv hK hP (ci := 10) (q0 := kk_106) rfl hk_107, fun U hU hW => ⟨rfl, by rw [hU], px_to hU hW hP hK hN hXN, hD.weaken (fun _ _ _ _ => trivial)⟩⟩ rfl rfl hl.1 rfl (lv_room (Nat.le_of_ble_eq_true rfl)) dX11_lift_32 ⟨Nat.le_of_ble_eq_true rfl, Nat.le_of_ble_eq_true rfl⟩) hS (fun q _ h => hFc q h) hFc (fun w_108 t H1 locs ht hvm hw hB hz1 hk1 hS => ?_)
          obtain ⟨hP, hD1⟩ := hB
          rw [ht] at hP
          rw [hw.2.1] at hP hD1
          have hD := hD1.weaken (fun _ q _ h => hFc q.1 h)
          have hI := hw.2.2
          have hw0 := hw
          generalize w_108.2.2 = f_109 at hP hD hI hw0
          generalize H1 = H at hP hS ⊢
          refine lv_aload_n hx hb dX11_lift_35 rfl (lv_at hl 2 rfl) ?_
          refine va_new (ci := 0) (fs := [.null, .int 0, .null, .int 0]) (C := RX0) (T := TX0) (N := 4) hx hb hts (by decide +kernel) tyX0 tyX0_ok hown (hts (.classLink RX11 28 RX0) (by decide +kernel)) (hts (.instantiable RX0 4) (by decide +kernel)) (hts (.initialized RX0) (by decide +kernel)) hK hP hD hS hA rfl nwX0 (Nat.le_of_ble_eq_true rfl) (Nat.le_of_ble_eq_true rfl) dX11_lift_36 (fun q_110 H hPn hDn hS => ?_)
          have hP := vaP_l hPn
          refine W.widen (k := 1) (n := 4) (Nat.le_of_ble_eq_true rfl) (Nat.le_of_ble_eq_true rfl) ?_
          refine lv_dup hx hb dX11_lift_39 rfl ?_
          refine lv_aload_n hx hb dX11_lift_40 rfl (lv_at hl 0 rfl) ?_
          refine lv_iconst (v := 1) hx hb dX11_lift_41 (by decide) ?_
          refine lv_null hx hb dX11_lift_42 ?_
          have hPc := vaP_r hPn
          have hDc := vaD_r hDn
          have hFc := fr_part hDn hS hA
          refine va_callv (va_runI (As := [.ref b_104, .int 1, .null]) (rest := [.ref q_110, .ref h0]) ⟨hx, hb, hml, hown, hts⟩ (x_ActL l dC dI q_110 b_104 H.size) (cwI 3 hts gX11_lift_X0_init rfl rfl rfl (hts (.initialized RX0) (by decide +kernel)) (hts (.methodLink RX11 163 yX0_init) (by decide +kernel)) (hts (.instanceMethod yX0_init) (by decide +kernel)) rfl (by decide +kernel) ⟨Nat.le_of_ble_eq_true rfl, Nat.le_of_ble_eq_true rfl⟩) ⟨gw_fb, fun U hU hW => ⟨rfl, by rw [hU], pw_to hU hW hPc (hK.sub (tys' := []) [] rfl) hN, hDc.weaken (fun _ _ _ _ => trivial)⟩⟩ rfl rfl hl.1 rfl (lv_room (Nat.le_of_ble_eq_true rfl)) dX11_lift_43 ⟨Nat.le_of_ble_eq_true rfl, Nat.le_of_ble_eq_true rfl⟩) hS (fun q _ h => hFc q h) hFc (fun u t H1 locs ht hvm hw hB hz1 hk1 hS => ?_)
          obtain ⟨hP1, hD1⟩ := hB
          rw [ht] at hP1
          obtain ⟨hP, hD⟩ := va_joinQ (X := [(q_110, .inr (0, [.null, .int 0, .null, .int 0]))]) (cx := [(q_110, .inr (0, [.null, .int 0, .null, .int 0]))]) (wr := []) (w1 := [(q_110, .inr (0, [.ref b_104, .int 1, va_rf none, .int 1]))]) (pl := va_pl z.1 f_109) (vaP_swap hPn) (vaD_rotR hDn) [0] [] rfl rfl rfl (fun i hi => absurd hi List.not_mem_nil) hk1 hFc hP1 hD1
          generalize H1 = H at hP hS ⊢
          obtain ⟨hnm_111, hP, hD⟩ := pushC hP hD
          obtain ⟨z_112, ez_112⟩ : ∃ y : gS, y = pz z q_110 (23, 0, [.ref b_104, .int 1, va_rf none, .int 1]) := ⟨_, rfl⟩
          obtain ⟨f_113, ef_113⟩ : ∃ y : xF, y = va_up f_109 q_110 (.inr (0, [.ref b_104, .int 1, va_rf none, .int 1])) := ⟨_, rfl⟩
          have hE_114 : zE z z_112 := by rw [ez_112]; exact pz_E hnm_111 _
          have hI : xI q h0 d k z_112 f_113 := by rw [ez_112, ef_113]; exact x_push hI hnm_111 (Or.inr (by decide : (15 : Nat) < 23)) (cO_ac ht_105 hnm_111)
          rw [show z.1 ++ [q_110] = z_112.1 from by rw [ez_112]; rfl, ← ef_113] at hP hD
          have ht_4 := zE_itm hE_114 ht_4
          have ht_105 := zE_lg hE_114 ht_105
          have ht_115 : tg z_112 q_110 23 := by rw [ez_112]; exact pz_t _ _ _
          have hEz : zE z z_112 := zE_tr (zE_rf z) hE_114
          refine W.eq (g2 := F0 m 46 ls [.ref q_110, .ref h0]) rfl ?_
          obtain ⟨kk_116, hk_117⟩ := pl_at hI.2.1.1.1 hI.2.2.2.1.1
          have hFc := fr_all hD hS hA
          refine va_callv (va_runV (As := [.ref q_110]) (rest := []) ⟨hx, hb, hml, hown, hts⟩ (x_keep l dC dI q h0 d k z_112 f_113 hI q_110 ht_115 H.size) (cwV 1 hts gX11_lift_X11_keep rfl rfl rfl (by decide +kernel) ⟨Nat.le_of_ble_eq_true rfl, Nat.le_of_ble_eq_true rfl⟩) ⟨gx_fb, va_recv hK hP (ci := 10) (q0 := kk_116) rfl hk_117, fun U hU hW => ⟨rfl, by rw [hU], px_to hU hW hP hK hN hXN, hD.weaken (fun _ _ _ _ => trivial)⟩⟩ rfl rfl hl.1 rfl (lv_room (Nat.le_of_ble_eq_true rfl)) dX11_lift_46 ⟨Nat.le_of_ble_eq_true rfl, Nat.le_of_ble_eq_true rfl⟩) hS (fun q _ h => hFc q h) hFc (fun w_118 t H1 locs ht hvm hw hB hz1 hk1 hS => ?_)
          obtain ⟨hP, hD1⟩ := hB
          rw [ht] at hP
          rw [hw.2.1] at hP hD1
          have hD := hD1.weaken (fun _ q _ h => hFc q.1 h)
          have hI := hw.2.2
          have hw0 := hw
          generalize w_118.1 = k_120 at hI hw0
          generalize w_118.2.2 = f_119 at hP hD hI hw0
          generalize H1 = H at hP hS ⊢
          have hkk := hw0.1
          refine lv_aload_n hx hb dX11_lift_49 rfl (lv_at hl 1 rfl) ?_
          obtain ⟨nu_121, kd_122, cn_123, pa_124, fa_125, rs_126, hs_127, hs_128, hs_129, hs_130, hs_131⟩ := x_im hI ht_4
          obtain ⟨kk_132, hk_133⟩ := pl_at ht_4.1 hs_127
          refine w_then (F0 m 53 ls [.int cn_123]) (fun hgo => ?_) ?_
          ·
            rcases x_tag ht_4 with ht9 | ht9 | ht9 | ht9 | ht9 | ht9
            ·
              rw [ht9.2] at hk_133
              exact va_get (D := (dC, dI)) (ci := 2) (v := .int cn_123) (C := RX2) (T := TX2) (N := 7) hx hb hts (by decide +kernel) hown hK hP kk_132 hk_133 rfl 3 (by decide) (hts (.fieldLink RX11 170 "PageOne$Item" "count" "I") (by decide +kernel)) (fun _ h9 => h9) rfl dX11_lift_50 hgo
            ·
              rw [ht9.2] at hk_133
              exact va_get (D := (dC, dI)) (ci := 3) (v := .int cn_123) (C := RX3) (T := TX3) (N := 8) hx hb hts (by decide +kernel) hown hK hP kk_132 hk_133 rfl 3 (by decide) (hts (.fieldLink RX11 170 "PageOne$Item" "count" "I") (by decide +kernel)) (fun _ h9 => h9) rfl dX11_lift_50 hgo
            ·
              rw [ht9.2] at hk_133
              exact va_get (D := (dC, dI)) (ci := 4) (v := .int cn_123) (C := RX5) (T := TX5) (N := 7) hx hb hts (by decide +kernel) hown hK hP kk_132 hk_133 rfl 3 (by decide) (hts (.fieldLink RX11 170 "PageOne$Item" "count" "I") (by decide +kernel)) (fun _ h9 => h9) rfl dX11_lift_50 hgo
            ·
              rw [ht9.2] at hk_133
              exact va_get (D := (dC, dI)) (ci := 5) (v := .int cn_123) (C := RX6) (T := TX6) (N := 9) hx hb hts (by decide +kernel) hown hK hP kk_132 hk_133 rfl 3 (by decide) (hts (.fieldLink RX11 170 "PageOne$Item" "count" "I") (by decide +kernel)) (fun _ h9 => h9) rfl dX11_lift_50 hgo
            ·
              rw [ht9.2] at hk_133
              exact va_get (D := (dC, dI)) (ci := 6) (v := .int cn_123) (C := RX7) (T := TX7) (N := 8) hx hb hts (by decide +kernel) hown hK hP kk_132 hk_133 rfl 3 (by decide) (hts (.fieldLink RX11 170 "PageOne$Item" "count" "I") (by decide +kernel)) (fun _ h9 => h9) rfl dX11_lift_50 hgo
            ·
              rw [ht9.2] at hk_133
              exact va_get (D := (dC, dI)) (ci := 9) (v := .int cn_123) (C := RX10) (T := TX10) (N := 9) hx hb hts (by decide +kernel) hown hK hP kk_132 hk_133 rfl 3 (by decide) (hts (.fieldLink RX11 170 "PageOne$Item" "count" "I") (by decide +kernel)) (fun _ h9 => h9) rfl dX11_lift_50 hgo
          ·
            exact W.iret (v := cn_123) hx hb hr (fun t ht hW => ⟨⟨cn_123, (k_120, z_112, f_119), rfl, ⟨hkk, hEz, hI⟩, by rw [ht]; exact hP, hD⟩, hS.F ht⟩) hS.2.2 dX11_lift_53
      ·
        rcases x_tag ht_4 with ht9 | ht9 | ht9 | ht9 | ht9 | ht9
        ·
          obtain ⟨nu_9, kd_10, cn_11, pa_12, fa_13, l_14, m_15, hs_16, hs_17, hs_18, hs_19⟩ := x_ifl hI ht9
          obtain ⟨kk_20, hk_21⟩ := pl_at ht9.1 hs_16
          exact va_csq (va_runU (As := []) (rest := []) ⟨hx, hb, hml, hown, hts⟩ (x_lastPiece l dC dI q h0 d k z f hI b_3 ht_4) (va_cwU 0 hts gX11_lift_X4_lastPiece_u173X2 rfl rfl rfl rfl (by decide +kernel) ⟨Nat.le_of_ble_eq_true rfl, Nat.le_of_ble_eq_true rfl⟩) ⟨px_fb, va_recv hK hP (ci := 2) (q0 := kk_20) rfl hk_21, fun U hU hW => ⟨rfl, px_to hU hW hP hK hN hXN⟩⟩ rfl rfl hl.1 rfl (lv_room (Nat.le_of_ble_eq_true rfl)) dX11_lift_20 ⟨Nat.le_of_ble_eq_true rfl, Nat.le_of_ble_eq_true rfl⟩).run (fun r hw => kC r hw)
        ·
          obtain ⟨nu_22, kd_23, cn_24, pa_25, fa_26, o_27, w_28, y_29, hs_30, hs_31, hs_32, hs_33, hq_34⟩ := x_ihd hI ht9
          obtain ⟨kk_35, hk_36⟩ := pl_at ht9.1 hs_30
          exact va_csq (va_runU (As := []) (rest := []) ⟨hx, hb, hml, hown, hts⟩ (x_lastPiece l dC dI q h0 d k z f hI b_3 ht_4) (va_cwU 0 hts gX11_lift_X4_lastPiece_u173X3 rfl rfl rfl rfl (by decide +kernel) ⟨Nat.le_of_ble_eq_true rfl, Nat.le_of_ble_eq_true rfl⟩) ⟨px_fb, va_recv hK hP (ci := 3) (q0 := kk_35) rfl hk_36, fun U hU hW => ⟨rfl, px_to hU hW hP hK hN hXN⟩⟩ rfl rfl hl.1 rfl (lv_room (Nat.le_of_ble_eq_true rfl)) dX11_lift_20 ⟨Nat.le_of_ble_eq_true rfl, Nat.le_of_ble_eq_true rfl⟩).run (fun r hw => kC r hw)
        ·
          obtain ⟨nu_37, kd_38, cn_39, pa_40, fa_41, o_42, y_43, hs_44, hs_45, hs_46, hs_47, hq_48⟩ := x_ino hI ht9
          obtain ⟨kk_49, hk_50⟩ := pl_at ht9.1 hs_44
          exact va_csq (va_runU (As := []) (rest := []) ⟨hx, hb, hml, hown, hts⟩ (x_lastPiece l dC dI q h0 d k z f hI b_3 ht_4) (va_cwU 0 hts gX11_lift_X4_lastPiece_u173X5 rfl rfl rfl rfl (by decide +kernel) ⟨Nat.le_of_ble_eq_true rfl, Nat.le_of_ble_eq_true rfl⟩) ⟨px_fb, va_recv hK hP (ci := 4) (q0 := kk_49) rfl hk_50, fun U hU hW => ⟨rfl, px_to hU hW hP hK hN hXN⟩⟩ rfl rfl hl.1 rfl (lv_room (Nat.le_of_ble_eq_true rfl)) dX11_lift_20 ⟨Nat.le_of_ble_eq_true rfl, Nat.le_of_ble_eq_true rfl⟩).run (fun r hw => kC r hw)
        ·
          obtain ⟨nu_51, kd_52, cn_53, pa_54, fa_55, b_56, pr_57, sp_58, dy_59, hs_60, hs_61, hs_62, hs_63, hq_64, hq_65, hq_66⟩ := x_ipd hI ht9
          obtain ⟨kk_67, hk_68⟩ := pl_at ht9.1 hs_60
          exact va_csq (va_runU (As := []) (rest := []) ⟨hx, hb, hml, hown, hts⟩ (x_lastPiece l dC dI q h0 d k z f hI b_3 ht_4) (va_cwU 0 hts gX11_lift_X4_lastPiece_u173X6 rfl rfl rfl rfl (by decide +kernel) ⟨Nat.le_of_ble_eq_true rfl, Nat.le_of_ble_eq_true rfl⟩) ⟨px_fb, va_recv hK hP (ci := 5) (q0 := kk_67) rfl hk_68, fun U hU hW => ⟨rfl, px_to hU hW hP hK hN hXN⟩⟩ rfl rfl hl.1 rfl (lv_room (Nat.le_of_ble_eq_true rfl)) dX11_lift_20 ⟨Nat.le_of_ble_eq_true rfl, Nat.le_of_ble_eq_true rfl⟩).run (fun r hw => kC r hw)
        ·
          obtain ⟨nu_69, kd_70, cn_71, pa_72, fa_73, ww_74, hh_75, sz_76, hs_77, hs_78, hs_79, hs_80, hq_81, hq_82, hq_83⟩ := x_ipi hI ht9
          obtain ⟨kk_84, hk_85⟩ := pl_at ht9.1 hs_77
          exact va_csq (va_runU (As := []) (rest := []) ⟨hx, hb, hml, hown, hts⟩ (x_lastPiece l dC dI q h0 d k z f hI b_3 ht_4) (va_cwU 0 hts gX11_lift_X4_lastPiece_u173X7 rfl rfl rfl rfl (by decide +kernel) ⟨Nat.le_of_ble_eq_true rfl, Nat.le_of_ble_eq_true rfl⟩) ⟨px_fb, va_recv hK hP (ci := 6) (q0 := kk_84) rfl hk_85, fun U hU hW => ⟨rfl, px_to hU hW hP hK hN hXN⟩⟩ rfl rfl hl.1 rfl (lv_room (Nat.le_of_ble_eq_true rfl)) dX11_lift_20 ⟨Nat.le_of_ble_eq_true rfl, Nat.le_of_ble_eq_true rfl⟩).run (fun r hw => kC r hw)
        ·
          obtain ⟨nu_86, kd_87, cn_88, pa_89, fa_90, l_91, co_92, wd_93, nm_94, hs_95, hs_96, hs_97, hs_98, hq_99, hq_100, hq_101⟩ := x_ist hI ht9
          obtain ⟨kk_102, hk_103⟩ := pl_at ht9.1 hs_95
          exact va_csq (va_runU (As := []) (rest := []) ⟨hx, hb, hml, hown, hts⟩ (x_lastPiece l dC dI q h0 d k z f hI b_3 ht_4) (va_cwU 0 hts gX11_lift_X4_lastPiece_u173X10 rfl rfl rfl rfl (by decide +kernel) ⟨Nat.le_of_ble_eq_true rfl, Nat.le_of_ble_eq_true rfl⟩) ⟨px_fb, va_recv hK hP (ci := 9) (q0 := kk_102) rfl hk_103, fun U hU hW => ⟨rfl, px_to hU hW hP hK hN hXN⟩⟩ rfl rfl hl.1 rfl (lv_room (Nat.le_of_ble_eq_true rfl)) dX11_lift_20 ⟨Nat.le_of_ble_eq_true rfl, Nat.le_of_ble_eq_true rfl⟩).run (fun r hw => kC r hw)
set_option maxHeartbeats 4000000 in
set_option maxRecDepth 100000 in
theorem x_rule (l : Launch) (dC : Nat → ClassId) (dI : Nat → Nat → Nat) (q : Nat → ClassId) (h0 : Nat) (d : Nat → Nat) (k : Nat → Int32) (z : gS) (f : xF) (hI : xI q h0 d k z f) (p0 p1 p2 : Int32) (sz : Nat) : Met l yX11_rule wsX11_rule ({ frames := 5, cells := 2, slots := 10, locals := 109 }) (va_Pc [.ref h0, .int p0, .int p1, .int p2] (fun U => U.heap.size = sz ∧ PX dC dI (va_pl z.1 f) (xT q) U ∧ va_D (fun _ => True) (va_pl z.1 f))) (va_Qi (fun (r : Int32) (w : xU) => (∀ j, j ≠ 1 → w.1 j = k j) ∧ zE z w.2.1 ∧ xI q h0 d w.1 w.2.1 w.2.2) (fun (w : xU) t => va_P (dC, dI) vwCl (va_pl w.2.1.1 w.2.2) t.heap ∧ va_D (va_A (va_pl z.1 f) sz) (va_pl w.2.1.1 w.2.2)) (va_A (va_pl z.1 f) sz)) 2 10 (va_A (va_pl z.1 f) sz) := by
  refine Met.ofW (cc := cX11_rule) (maxL := 5) (ret := (some .boolean)) (by decide) rfl ?_
  intro p e s m args below meth c s₁ B hml hv
  obtain ⟨rfl, hsz, ⟨⟨hP, hK, hN⟩, hXN⟩, hD0⟩ := hv
  have hx := B.exec
  have hb := B.bytes
  have hr := B.returns
  have hts := atoms_spec (ws := wsX11_rule) B.pre
  have hown : s.vm.findClass RX11 = some m.cls := findClass_of_methodNamed B.named
  have hlocks := B.notSynchronized
  subst hsz
  have hD := hD0.self (sz := s.heap.size)
  generalize hAe : va_A (va_pl z.1 f) s.heap.size = A at hD ⊢
  have hA : ∀ q : Nat, s.heap.size ≤ q → A q := fun q h => by rw [← hAe]; exact Or.inr h
  have hS : va_S A s.heap s.heap [] := va_S.rf
  have hl := lv_entry ([.ref h0, .int p0, .int p1, .int p2]) (n := 5) (Nat.le_of_ble_eq_true rfl)
  rw [lg_entry_eq]
  generalize (lg_sl ([.ref h0, .int p0, .int p1, .int p2]) ++ List.replicate (5 - (lg_sl ([.ref h0, .int p0, .int p1, .int p2])).length) Slot.unset).toArray = ls at hl ⊢
  have hl : lv_has ls 5 [(0, .ref h0), (1, .int p0), (2, .int p1), (3, .int p2)] := hl
  refine lv_iload_n hx hb dX11_rule_0 rfl (lv_at hl 1 rfl) ?_
  refine vp_callSi (va_runS (As := [.int p0]) (rest := []) ⟨hx, hb, hml, hown, hts⟩ (x_isPage l dC dI p0) (va_cwS 1 hts gX11_rule_X11_isPage rfl rfl rfl (by decide +kernel) ⟨Nat.le_of_ble_eq_true rfl, Nat.le_of_ble_eq_true rfl⟩) ⟨pw_fb, fun U hU hW => ⟨rfl, pw_to hU hW (hP.sub (ws' := []) [] rfl) (hK.sub (tys' := []) [] rfl) hN⟩⟩ rfl rfl hl.1 rfl (lv_room (Nat.le_of_ble_eq_true rfl)) dX11_rule_1 ⟨Nat.le_of_ble_eq_true rfl, Nat.le_of_ble_eq_true rfl⟩).run (fun r hw => ?_)
  rcases Bool.eq_false_or_eq_true (bw p0 0 11) with b_1 | b_1
  ·
    obtain rfl : r = 1 := b_t hw b_1
    refine lv_if_eq (tgt := 14) hx hb dX11_rule_4 (by decide) (fun c_2 => absurd c_2 (by decide)) (fun c_2 => ?_)
    refine lv_aload_n hx hb dX11_rule_7 rfl (lv_at hl 0 rfl) ?_
    obtain ⟨kk_3, hk_4⟩ := pl_at hI.2.1.1.1 hI.2.2.2.1.1
    refine vp_callSi (va_runV (As := []) (rest := []) ⟨hx, hb, hml, hown, hts⟩ (x_canAct l dC dI q h0 d k z f hI) (cwV 0 hts gX11_rule_X11_canAct rfl rfl rfl (by decide +kernel) ⟨Nat.le_of_ble_eq_true rfl, Nat.le_of_ble_eq_true rfl⟩) ⟨px_fb, va_recv hK hP (ci := 10) (q0 := kk_3) rfl hk_4, fun U hU hW => ⟨rfl, px_to hU hW hP hK hN hXN⟩⟩ rfl rfl hl.1 rfl (lv_room (Nat.le_of_ble_eq_true rfl)) dX11_rule_8 ⟨Nat.le_of_ble_eq_true rfl, Nat.le_of_ble_eq_true rfl⟩).run (fun r hw => ?_)
    rcases hw with hw | ⟨hw, hact⟩
    ·
      subst hw
      refine lv_if_ne (tgt := 16) hx hb dX11_rule_11 (by decide) (fun c_5 => absurd (by decide) c_5) (fun c_5 => ?_)
      refine lv_iconst (v := 0) hx hb dX11_rule_14 (by decide) ?_
      refine W.widen (k := 2) (n := 10) (Nat.le_of_ble_eq_true rfl) (Nat.le_of_ble_eq_true rfl) ?_
      exact W.zret (v := 0) hx hb hr (by decide) (fun t ht hW => ⟨⟨0, (k, z, f), rfl, ⟨fun _ _ => rfl, zE_rf z, hI⟩, by rw [ht]; exact hP, hD⟩, hS.F ht⟩) hS.2.2 dX11_rule_15
    ·
      subst hw
      refine lv_if_ne (tgt := 16) hx hb dX11_rule_11 (by decide) (fun c_6 => ?_) (fun c_6 => absurd c_6 (by decide))
      refine va_new (ci := 7) (fs := [.null, .int 0, .int 0, .int 0, .int 0, .int 0]) (C := RX8) (T := TX8) (N := 6) hx hb hts (by decide +kernel) tyX8 tyX8_ok hown (hts (.classLink RX11 106 RX8) (by decide +kernel)) (hts (.instantiable RX8 6) (by decide +kernel)) (hts (.initialized RX8) (by decide +kernel)) hK hP hD hS hA rfl nwX8 (Nat.le_of_ble_eq_true rfl) (Nat.le_of_ble_eq_true rfl) dX11_rule_16 (fun q_7 H hPn hDn hS => ?_)
      have hP := vaP_l hPn
      refine W.widen (k := 1) (n := 6) (Nat.le_of_ble_eq_true rfl) (Nat.le_of_ble_eq_true rfl) ?_
      refine lv_dup hx hb dX11_rule_19 rfl ?_
      refine lv_null hx hb dX11_rule_20 ?_
      refine lv_iload_n hx hb dX11_rule_21 rfl (lv_at hl 1 rfl) ?_
      refine lv_iload_n hx hb dX11_rule_22 rfl (lv_at hl 2 rfl) ?_
      refine lv_iload_n hx hb dX11_rule_23 rfl (lv_at hl 3 rfl) ?_
      refine lv_iconst (v := 1) hx hb dX11_rule_24 (by decide) ?_
      refine lv_iconst (v := 1) hx hb dX11_rule_25 (by decide) ?_
      have hPc := vaP_r hPn
      have hDc := vaD_r hDn
      have hFc := fr_part hDn hS hA
      refine va_callv (va_runI (As := [.null, .int p0, .int p1, .int p2, .int 1, .int 1]) (rest := [.ref q_7]) ⟨hx, hb, hml, hown, hts⟩ (x_PieceN l dC dI q_7 p0 p1 p2 1 1 H.size) (cwI 6 hts gX11_rule_X8_init rfl rfl rfl (hts (.initialized RX8) (by decide +kernel)) (hts (.methodLink RX11 108 yX8_init) (by decide +kernel)) (hts (.instanceMethod yX8_init) (by decide +kernel)) rfl (by decide +kernel) ⟨Nat.le_of_ble_eq_true rfl, Nat.le_of_ble_eq_true rfl⟩) ⟨gw_fb, fun U hU hW => ⟨rfl, by rw [hU], pw_to hU hW hPc (hK.sub (tys' := []) [] rfl) hN, hDc.weaken (fun _ _ _ _ => trivial)⟩⟩ rfl rfl hl.1 rfl (lv_room (Nat.le_of_ble_eq_true rfl)) dX11_rule_26 ⟨Nat.le_of_ble_eq_true rfl, Nat.le_of_ble_eq_true rfl⟩) hS (fun q _ h => hFc q h) hFc (fun u t H1 locs ht hvm hw hB hz1 hk1 hS => ?_)
      obtain ⟨hP1, hD1⟩ := hB
      rw [ht] at hP1
      obtain ⟨hP, hD⟩ := va_joinQ (X := [(q_7, .inr (7, [.null, .int 0, .int 0, .int 0, .int 0, .int 0]))]) (cx := [(q_7, .inr (7, [.null, .int 0, .int 0, .int 0, .int 0, .int 0]))]) (wr := []) (w1 := [(q_7, .inr (7, [va_rf none, .int p0, .int p1, .int p2, .int 1, .int 1]))]) (pl := va_pl z.1 f) (vaP_swap hPn) (vaD_rotR hDn) [0] [] rfl rfl rfl (fun i hi => absurd hi List.not_mem_nil) hk1 hFc hP1 hD1
      generalize H1 = H at hP hS ⊢
      obtain ⟨hnm_8, hP, hD⟩ := pushC hP hD
      obtain ⟨z_9, ez_9⟩ : ∃ y : gS, y = pz z q_7 (22, 0, [va_rf none, .int p0, .int p1, .int p2, .int 1, .int 1]) := ⟨_, rfl⟩
      obtain ⟨f_10, ef_10⟩ : ∃ y : xF, y = va_up f q_7 (.inr (7, [va_rf none, .int p0, .int p1, .int p2, .int 1, .int 1])) := ⟨_, rfl⟩
      have hE_11 : zE z z_9 := by rw [ez_9]; exact pz_E hnm_8 _
      have hI : xI q h0 d k z_9 f_10 := by rw [ez_9, ef_10]; exact x_push hI hnm_8 (Or.inr (by decide : (15 : Nat) < 22)) (cO_pc b_1 ty_n hnm_8)
      rw [show z.1 ++ [q_7] = z_9.1 from by rw [ez_9]; rfl, ← ef_10] at hP hD
      have ht_12 : tg z_9 q_7 22 := by rw [ez_9]; exact pz_t _ _ _
      have hEz : zE z z_9 := zE_tr (zE_rf z) hE_11
      refine W.eq (g2 := F0 m 29 ls [.ref q_7]) rfl ?_
      have hp_13 : pcS z_9 q_7 none p0 p1 p2 1 1 := ⟨ht_12, by rw [ez_9, pz_s]⟩
      refine lv_astore (lv' := [(4, .ref q_7), (0, .ref h0), (1, .int p0), (2, .int p1), (3, .int p2)]) hx hb dX11_rule_29 hl (by decide) rfl (fun ls hl => ?_)
      refine lv_aload_n hx hb dX11_rule_31 rfl (lv_at hl 1 rfl) ?_
      obtain ⟨kk_14, hk_15⟩ := pl_at hI.2.1.1.1 hI.2.2.2.1.1
      refine va_get (D := (dC, dI)) (ci := 10) (v := .ref (d 0)) (C := RX11) (T := TX11) (N := 9) hx hb hts (by decide +kernel) hown hK hP kk_14 hk_15 rfl 0 (by decide) (hts (.fieldLink RX11 11 "PageOne" "pages" "[LPageOne$Sheet;") (by decide +kernel)) (fun _ h9 => h9) rfl dX11_rule_32 ?_
      refine lv_iload_n hx hb dX11_rule_35 rfl (lv_at hl 2 rfl) ?_
      obtain ⟨g_16, hs_17, hg_18⟩ := x_pg hI hI.2.1.2.1
      obtain ⟨kk_19, hk_20⟩ := pl_at hI.2.1.2.1.1 hs_17
      refine va_aldq hx hb hK hP kk_19 2 hk_20 rfl (vin b_1 (by decide)) dX11_rule_36 ?_
      obtain ⟨b_21, hg_22, ht_23⟩ := hg_18 _ (vlt (vin b_1 (by decide)))
      rw [hg_22]
      refine W.eq (g2 := F0 m 37 ls [.ref b_21]) rfl ?_
      refine lv_aload hx hb dX11_rule_37 (lv_at hl 0 rfl) ?_
      obtain ⟨la_24, ca_25, m_26, dd_27, ii_28, hs_29, ht_30, ht_31⟩ := x_sh hI ht_23
      obtain ⟨kk_32, hk_33⟩ := pl_at ht_23.1 hs_29
      refine vp_callSi (va_runV (As := [.ref q_7]) (rest := []) ⟨hx, hb, hml, hown, hts⟩ (x_isFree l dC dI q h0 d k z_9 f_10 hI b_21 ht_23 q_7 none p0 p1 p2 1 1 hp_13) (cwV 1 hts gX11_rule_X9_isFree rfl rfl rfl (by decide +kernel) ⟨Nat.le_of_ble_eq_true rfl, Nat.le_of_ble_eq_true rfl⟩) ⟨px_fb, va_recv hK hP (ci := 8) (q0 := kk_32) rfl hk_33, fun U hU hW => ⟨rfl, px_to hU hW hP hK hN hXN⟩⟩ rfl rfl hl.1 rfl (lv_room (Nat.le_of_ble_eq_true rfl)) dX11_rule_39 ⟨Nat.le_of_ble_eq_true rfl, Nat.le_of_ble_eq_true rfl⟩).run (fun r hw => ?_)
      rcases hw with hw | ⟨hw, hlgx⟩
      ·
        subst hw
        refine lv_if_ne (tgt := 47) hx hb dX11_rule_42 (by decide) (fun c_35 => absurd (by decide) c_35) (fun c_35 => ?_)
        refine lv_iconst (v := 0) hx hb dX11_rule_45 (by decide) ?_
        refine W.widen (k := 2) (n := 10) (Nat.le_of_ble_eq_true rfl) (Nat.le_of_ble_eq_true rfl) ?_
        exact W.zret (v := 0) hx hb hr (by decide) (fun t ht hW => ⟨⟨0, (k, z_9, f_10), rfl, ⟨fun _ _ => rfl, hEz, hI⟩, by rw [ht]; exact hP, hD⟩, hS.F ht⟩) hS.2.2 dX11_rule_46
      ·
        subst hw
        have hlg_34 := lg_of hp_13 hlgx
        obtain ⟨hb1_hlg_34, hb2_hlg_34, hb3_hlg_34, hb4_hlg_34⟩ := hlgx
        refine lv_if_ne (tgt := 47) hx hb dX11_rule_42 (by decide) (fun c_36 => ?_) (fun c_36 => absurd c_36 (by decide))
        refine lv_aload_n hx hb dX11_rule_47 rfl (lv_at hl 1 rfl) ?_
        refine lv_aload hx hb dX11_rule_48 (lv_at hl 0 rfl) ?_
        obtain ⟨kk_37, hk_38⟩ := pl_at hI.2.1.1.1 hI.2.2.2.1.1
        have hFc := fr_all hD hS hA
        refine va_callv (va_runV (As := [.ref q_7]) (rest := []) ⟨hx, hb, hml, hown, hts⟩ (x_stand l dC dI q h0 d k z_9 f_10 hI q_7 hlg_34 H.size) (cwV 1 hts gX11_rule_X11_stand rfl rfl rfl (by decide +kernel) ⟨Nat.le_of_ble_eq_true rfl, Nat.le_of_ble_eq_true rfl⟩) ⟨gx_fb, va_recv hK hP (ci := 10) (q0 := kk_37) rfl hk_38, fun U hU hW => ⟨rfl, by rw [hU], px_to hU hW hP hK hN hXN, hD.weaken (fun _ _ _ _ => trivial)⟩⟩ rfl rfl hl.1 rfl (lv_room (Nat.le_of_ble_eq_true rfl)) dX11_rule_50 ⟨Nat.le_of_ble_eq_true rfl, Nat.le_of_ble_eq_true rfl⟩) hS (fun q _ h => hFc q h) hFc (fun w_39 t H1 locs ht hvm hw hB hz1 hk1 hS => ?_)
        obtain ⟨hP, hD1⟩ := hB
        rw [ht] at hP
        rw [hw.2.1] at hP hD1
        have hD := hD1.weaken (fun _ q _ h => hFc q.1 h)
        have hI := hw.2.2
        have hw0 := hw
        generalize w_39.2.2 = f_40 at hP hD hI hw0
        generalize H1 = H at hP hS ⊢
        refine lv_aload_n hx hb dX11_rule_53 rfl (lv_at hl 1 rfl) ?_
        refine va_new (ci := 0) (fs := [.null, .int 0, .null, .int 0]) (C := RX0) (T := TX0) (N := 4) hx hb hts (by decide +kernel) tyX0 tyX0_ok hown (hts (.classLink RX11 28 RX0) (by decide +kernel)) (hts (.instantiable RX0 4) (by decide +kernel)) (hts (.initialized RX0) (by decide +kernel)) hK hP hD hS hA rfl nwX0 (Nat.le_of_ble_eq_true rfl) (Nat.le_of_ble_eq_true rfl) dX11_rule_54 (fun q_41 H hPn hDn hS => ?_)
        have hP := vaP_l hPn
        refine W.widen (k := 2) (n := 10) (Nat.le_of_ble_eq_true rfl) (Nat.le_of_ble_eq_true rfl) ?_
        refine lv_dup hx hb dX11_rule_57 rfl ?_
        refine lv_aload hx hb dX11_rule_58 (lv_at hl 0 rfl) ?_
        refine lv_iconst (v := 0) hx hb dX11_rule_60 (by decide) ?_
        refine lv_null hx hb dX11_rule_61 ?_
        have hPc := vaP_r hPn
        have hDc := vaD_r hDn
        have hFc := fr_part hDn hS hA
        refine va_callv (va_runI (As := [.ref q_7, .int 0, .null]) (rest := [.ref q_41, .ref h0]) ⟨hx, hb, hml, hown, hts⟩ (x_ActP l dC dI q_41 q_7 H.size) (cwI 3 hts gX11_rule_X0_init rfl rfl rfl (hts (.initialized RX0) (by decide +kernel)) (hts (.methodLink RX11 163 yX0_init) (by decide +kernel)) (hts (.instanceMethod yX0_init) (by decide +kernel)) rfl (by decide +kernel) ⟨Nat.le_of_ble_eq_true rfl, Nat.le_of_ble_eq_true rfl⟩) ⟨gw_fb, fun U hU hW => ⟨rfl, by rw [hU], pw_to hU hW hPc (hK.sub (tys' := []) [] rfl) hN, hDc.weaken (fun _ _ _ _ => trivial)⟩⟩ rfl rfl hl.1 rfl (lv_room (Nat.le_of_ble_eq_true rfl)) dX11_rule_62 ⟨Nat.le_of_ble_eq_true rfl, Nat.le_of_ble_eq_true rfl⟩) hS (fun q _ h => hFc q h) hFc (fun u t H1 locs ht hvm hw hB hz1 hk1 hS => ?_)
        obtain ⟨hP1, hD1⟩ := hB
        rw [ht] at hP1
        obtain ⟨hP, hD⟩ := va_joinQ (X := [(q_41, .inr (0, [.null, .int 0, .null, .int 0]))]) (cx := [(q_41, .inr (0, [.null, .int 0, .null, .int 0]))]) (wr := []) (w1 := [(q_41, .inr (0, [.ref q_7, .int 0, va_rf none, .int 1]))]) (pl := va_pl z_9.1 f_40) (vaP_swap hPn) (vaD_rotR hDn) [0] [] rfl rfl rfl (fun i hi => absurd hi List.not_mem_nil) hk1 hFc hP1 hD1
        generalize H1 = H at hP hS ⊢
        obtain ⟨hnm_42, hP, hD⟩ := pushC hP hD
        obtain ⟨z_43, ez_43⟩ : ∃ y : gS, y = pz z_9 q_41 (23, 0, [.ref q_7, .int 0, va_rf none, .int 1]) := ⟨_, rfl⟩
        obtain ⟨f_44, ef_44⟩ : ∃ y : xF, y = va_up f_40 q_41 (.inr (0, [.ref q_7, .int 0, va_rf none, .int 1])) := ⟨_, rfl⟩
        have hE_45 : zE z_9 z_43 := by rw [ez_43]; exact pz_E hnm_42 _
        have hI : xI q h0 d k z_43 f_44 := by rw [ez_43, ef_44]; exact x_push hI hnm_42 (Or.inr (by decide : (15 : Nat) < 23)) (cO_ac hlg_34 hnm_42)
        rw [show z_9.1 ++ [q_41] = z_43.1 from by rw [ez_43]; rfl, ← ef_44] at hP hD
        have hlg_34 := zE_lg hE_45 hlg_34
        have ht_23 := zE_tg hE_45 ht_23
        have ht_30 := zE_tg hE_45 ht_30
        have ht_31 := zE_tg hE_45 ht_31
        have hp_13 := zE_pc hE_45 hp_13
        have ht_46 : tg z_43 q_41 23 := by rw [ez_43]; exact pz_t _ _ _
        have hEz : zE z z_43 := zE_tr hEz hE_45
        refine W.eq (g2 := F0 m 65 ls [.ref q_41, .ref h0]) rfl ?_
        obtain ⟨kk_47, hk_48⟩ := pl_at hI.2.1.1.1 hI.2.2.2.1.1
        have hFc := fr_all hD hS hA
        refine va_callv (va_runV (As := [.ref q_41]) (rest := []) ⟨hx, hb, hml, hown, hts⟩ (x_keep l dC dI q h0 d k z_43 f_44 hI q_41 ht_46 H.size) (cwV 1 hts gX11_rule_X11_keep rfl rfl rfl (by decide +kernel) ⟨Nat.le_of_ble_eq_true rfl, Nat.le_of_ble_eq_true rfl⟩) ⟨gx_fb, va_recv hK hP (ci := 10) (q0 := kk_47) rfl hk_48, fun U hU hW => ⟨rfl, by rw [hU], px_to hU hW hP hK hN hXN, hD.weaken (fun _ _ _ _ => trivial)⟩⟩ rfl rfl hl.1 rfl (lv_room (Nat.le_of_ble_eq_true rfl)) dX11_rule_65 ⟨Nat.le_of_ble_eq_true rfl, Nat.le_of_ble_eq_true rfl⟩) hS (fun q _ h => hFc q h) hFc (fun w_49 t H1 locs ht hvm hw hB hz1 hk1 hS => ?_)
        obtain ⟨hP, hD1⟩ := hB
        rw [ht] at hP
        rw [hw.2.1] at hP hD1
        have hD := hD1.weaken (fun _ q _ h => hFc q.1 h)
        have hI := hw.2.2
        have hw0 := hw
        generalize w_49.1 = k_51 at hI hw0
        generalize w_49.2.2 = f_50 at hP hD hI hw0
        generalize H1 = H at hP hS ⊢
        have hkk := hw0.1
        refine lv_iconst (v := 1) hx hb dX11_rule_68 (by decide) ?_
        exact W.zret (v := 1) hx hb hr (by decide) (fun t ht hW => ⟨⟨1, (k_51, z_43, f_50), rfl, ⟨hkk, hEz, hI⟩, by rw [ht]; exact hP, hD⟩, hS.F ht⟩) hS.2.2 dX11_rule_69
  ·
    obtain rfl : r = 0 := b_f hw b_1
    refine lv_if_eq (tgt := 14) hx hb dX11_rule_4 (by decide) (fun c_52 => ?_) (fun c_52 => absurd (by decide) c_52)
    refine lv_iconst (v := 0) hx hb dX11_rule_14 (by decide) ?_
    refine W.widen (k := 2) (n := 10) (Nat.le_of_ble_eq_true rfl) (Nat.le_of_ble_eq_true rfl) ?_
    exact W.zret (v := 0) hx hb hr (by decide) (fun t ht hW => ⟨⟨0, (k, z, f), rfl, ⟨fun _ _ => rfl, zE_rf z, hI⟩, by rw [ht]; exact hP, hD⟩, hS.F ht⟩) hS.2.2 dX11_rule_15
