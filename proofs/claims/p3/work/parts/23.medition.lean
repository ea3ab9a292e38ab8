/-- edition() -/
def mEdition (u : mS) : Int32 × mS := if u.1 39 = 7 then (-1, u) else
  let u2 := mset (endP u 12) 39 ((endP u 12).1 39 + 1)
  (u2.1 39, u2)
set_option maxHeartbeats 4000000 in
set_option maxRecDepth 100000 in
theorem m_edition (l : Launch) (dC : Nat → ClassId) (dI : Nat → Nat → Nat) (h0 : Nat) (v : Nat → Nat) (cI cZ : ClassId) (u : mS) (hn : bw (u.1 3) 0 80 = true) (hd : bw (u.1 38) 0 399 = true) (sz : Nat) : Met l yX12_edition wsX12_edition ({ frames := 2, cells := 0, slots := 0, locals := 43 }) (va_Pc [.ref h0] (fun U => U.heap.size = sz ∧ PW dC dI (mW h0 v cI cZ u) [(cI, .int), (cZ, .boolean)] U ∧ va_D (fun _ => True) (mW h0 v cI cZ u))) (va_Qi (fun (r : Int32) (u9 : mS) => (r, u9) = mEdition u) (fun u9 t => va_P (dC, dI) vwCl (mW h0 v cI cZ u9) t.heap ∧ va_D (va_A (mW h0 v cI cZ u) sz) (mW h0 v cI cZ u9)) (va_A (mW h0 v cI cZ u) sz)) 0 0 (va_A (mW h0 v cI cZ u) sz) := by
  refine Met.ofW (cc := cX12_edition) (maxL := 1) (ret := (some .int)) (by decide) rfl ?_
  intro p e s m args below meth c s₁ B hml hv
  obtain ⟨rfl, hsz, ⟨hP, hK, hN⟩, hD0⟩ := hv
  have hx := B.exec
  have hb := B.bytes
  have hr := B.returns
  have hts := atoms_spec (ws := wsX12_edition) B.pre
  have hown : s.vm.findClass RX12 = some m.cls := findClass_of_methodNamed B.named
  have hlocks := B.notSynchronized
  subst hsz
  have hD := hD0.self (sz := s.heap.size)
  generalize hAe : va_A (mW h0 v cI cZ u) s.heap.size = A at hD ⊢
  have hA : ∀ q : Nat, s.heap.size ≤ q → A q := fun q h => by rw [← hAe]; exact Or.inr h
  have hS : va_S A s.heap s.heap [] := va_S.rf
  have hl := lv_entry ([.ref h0]) (n := 1) (Nat.le_of_ble_eq_true rfl)
  rw [lg_entry_eq]
  generalize (lg_sl ([.ref h0]) ++ List.replicate (1 - (lg_sl ([.ref h0])).length) Slot.unset).toArray = ls at hl ⊢
  have hl : lv_has ls 1 [(0, .ref h0)] := hl
  refine lv_aload_n hx hb dX12_edition_0 rfl (lv_at hl 0 rfl) ?_
  refine va_get (D := (dC, dI)) (ci := 11) (v := .int (u.1 39)) (C := RX12) (T := TX12) (N := 52) hx hb hts (by decide +kernel) hown hK hP 0 rfl rfl 39 (by decide) (hts (.fieldLink RX12 257 "PageOneModel" "edition" "I") (by decide +kernel)) (fun _ h9 => h9) rfl dX12_edition_1 ?_
  refine lv_bipush (v := 7) hx hb dX12_edition_4 (by decide) ?_
  refine lv_icmp_ne (tgt := 11) hx hb dX12_edition_6 (by decide) (fun c_1 => ?_) (fun c_1 => ?_)
  ·
    refine lv_aload_n hx hb dX12_edition_11 rfl (lv_at hl 0 rfl) ?_
    have hFc := fr_all hD hS hA
    refine va_callv (va_runV (As := []) (rest := []) ⟨hx, hb, hml, hown, hts⟩ (m_ends l dC dI h0 v cI cZ u hn hd s.heap.size) (cwV 0 hts gX12_edition_X12_ends rfl rfl rfl (by decide +kernel) ⟨Nat.le_of_ble_eq_true rfl, Nat.le_of_ble_eq_true rfl⟩) ⟨gw_fb, va_recv hK hP (ci := 11) (q0 := 0) rfl rfl, fun U hU hW => ⟨rfl, by rw [hU], pw_to hU hW hP hK hN, hD.weaken (fun _ _ _ _ => trivial)⟩⟩ rfl rfl hl.1 rfl (lv_room (Nat.le_of_ble_eq_true rfl)) dX12_edition_12 ⟨Nat.le_of_ble_eq_true rfl, Nat.le_of_ble_eq_true rfl⟩) hS (fun q _ h => hFc q h) hFc (fun u_2 t H1 locs ht hvm hw hB hz1 hk1 hS => ?_)
    obtain ⟨hP, hD1⟩ := hB
    rw [ht] at hP
    have hD := hD1.weaken (fun _ q _ h => hFc q.1 h)
    generalize H1 = H at hP hS ⊢
    have eu_2 := hw
    refine lv_aload_n hx hb dX12_edition_15 rfl (lv_at hl 0 rfl) ?_
    refine lv_dup hx hb dX12_edition_16 rfl ?_
    refine va_get (D := (dC, dI)) (ci := 11) (v := .int (u_2.1 39)) (C := RX12) (T := TX12) (N := 52) hx hb hts (by decide +kernel) hown hK hP 0 rfl rfl 39 (by decide) (hts (.fieldLink RX12 257 "PageOneModel" "edition" "I") (by decide +kernel)) (fun _ h9 => h9) rfl dX12_edition_17 ?_
    refine lv_iconst (v := 1) hx hb dX12_edition_20 (by decide) ?_
    refine lv_iadd hx hb dX12_edition_21 ?_
    refine va_put (D := (dC, dI)) (ci := 11) (v := .int ((u_2.1 39) + 1)) (ty := .int) (C := RX12) (T := TX12) (N := 52) hx hb hts (by decide +kernel) tyX12 tyX12_ok nmX12 hown hK hP hD hS 0 rfl rfl 39 (by decide) (hts (.fieldLink RX12 257 "PageOneModel" "edition" "I") (by decide +kernel)) (fun _ h9 => h9) rfl (by decide +kernel) rfl rfl (Nat.le_of_ble_eq_true rfl) dX12_edition_22 (fun H locs hP hD hS => ?_)
    obtain ⟨u_3, eu_3⟩ : ∃ zz : mS, zz = mset u_2 39 ((u_2.1 39) + 1) := ⟨_, rfl⟩
    have hP : va_P (dC, dI) vwCl (mW h0 v cI cZ u_3) H := by rw [eu_3]; exact hP
    have hD : va_D A (mW h0 v cI cZ u_3) := by rw [eu_3]; exact hD
    refine lv_aload_n hx hb dX12_edition_25 rfl (lv_at hl 0 rfl) ?_
    refine va_get (D := (dC, dI)) (ci := 11) (v := .int (u_3.1 39)) (C := RX12) (T := TX12) (N := 52) hx hb hts (by decide +kernel) hown hK hP 0 rfl rfl 39 (by decide) (hts (.fieldLink RX12 257 "PageOneModel" "edition" "I") (by decide +kernel)) (fun _ h9 => h9) rfl dX12_edition_26 ?_
    exact W.iret (v := (u_3.1 39)) hx hb hr (fun t ht hW => ⟨⟨(u_3.1 39), u_3, rfl, (by show _ = mEdition u; unfold mEdition; rw [if_neg c_1, ← eu_2]; exact (by rw [eu_3] : (u_3.1 39, u_3) = _)), by rw [ht]; exact hP, hD⟩, hS.F ht⟩) hS.2.2 dX12_edition_29
  ·
    refine lv_iconst (v := (-1)) hx hb dX12_edition_9 (by decide) ?_
    exact W.iret (v := (-1)) hx hb hr (fun t ht hW => ⟨⟨(-1), u, rfl, (by show _ = mEdition u; unfold mEdition; rw [if_pos c_1]), by rw [ht]; exact hP, hD⟩, hS.F ht⟩) hS.2.2 dX12_edition_10
