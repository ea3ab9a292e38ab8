theorem fl_nil {u : mS} {xs : List fX} (hfb : ∀ (x : fX) (xs : List fX), fGood u (x :: xs) → 0 ≤ (u.1 36).toInt ∧ (u.1 36).toInt + (xs.length : Int) < 700) (hg : fGood u xs) (h : nI xs.length = 0) : xs = [] := by
  cases xs with
  | nil => rfl
  | cons x ys =>
    exfalso
    have h1 := hfb x ys hg
    have h2 : (nI (x :: ys).length).toInt = 0 := by rw [h]; rfl
    rw [List.length_cons, nI_toInt (by omega)] at h2
    omega
set_option maxHeartbeats 4000000 in
set_option maxRecDepth 100000 in
theorem m_fill (l : Launch) (dC : Nat → ClassId) (dI : Nat → Nat → Nat) (h0 : Nat) (v : Nat → Nat) (cI cZ : ClassId) (u : mS) (p0 : Int32) (hn : bw (u.1 3) 0 80 = true) (hln : ∀ j, j < 96 → bw (u.2 0 j) 0 60 = true) (ha : bw (u.1 28) 0 300 = true) (hfb : ∀ (x : fX) (xs : List fX), fGood u (x :: xs) → 0 ≤ (u.1 36).toInt ∧ (u.1 36).toInt + (xs.length : Int) < 700) (sz : Nat) : Met l yX12_fill wsX12_fill ({ frames := 3, cells := 0, slots := 0, locals := 77 }) (va_Pc [.ref h0, .int p0] (fun U => U.heap.size = sz ∧ PW dC dI (mW h0 v cI cZ u) [(cI, .int), (cZ, .boolean)] U ∧ va_D (fun _ => True) (mW h0 v cI cZ u))) (va_Qi (fun (r : Int32) (u9 : mS) => u9 = u ∨ ∃ xs : List fX, xs ≠ [] ∧ fGood u xs ∧ ¬ u.1 28 = 300 ∧ u9 = mFillE u xs) (fun u9 t => va_P (dC, dI) vwCl (mW h0 v cI cZ u9) t.heap ∧ va_D (va_A (mW h0 v cI cZ u) sz) (mW h0 v cI cZ u9)) (va_A (mW h0 v cI cZ u) sz)) 0 0 (va_A (mW h0 v cI cZ u) sz) := by
  refine Met.ofW (cc := cX12_fill) (maxL := 7) (ret := (some .int)) (by decide) rfl ?_
  intro p e s m args below meth c s₁ B hml hv
  obtain ⟨rfl, hsz, ⟨hP, hK, hN⟩, hD0⟩ := hv
  have hx := B.exec
  have hb := B.bytes
  have hr := B.returns
  have hts := atoms_spec (ws := wsX12_fill) B.pre
  have hown : s.vm.findClass RX12 = some m.cls := findClass_of_methodNamed B.named
  have hlocks := B.notSynchronized
  subst hsz
  have hD := hD0.self (sz := s.heap.size)
  generalize hAe : va_A (mW h0 v cI cZ u) s.heap.size = A at hD ⊢
  have hA : ∀ q : Nat, s.heap.size ≤ q → A q := fun q h => by rw [← hAe]; exact Or.inr h
  have hS : va_S A s.heap s.heap [] := va_S.rf
  have hl := lv_entry ([.ref h0, .int p0]) (n := 7) (Nat.le_of_ble_eq_true rfl)
  rw [lg_entry_eq]
  generalize (lg_sl ([.ref h0, .int p0]) ++ List.replicate (7 - (lg_sl ([.ref h0, .int p0])).length) Slot.unset).toArray = ls at hl ⊢
  have hl : lv_has ls 7 [(0, .ref h0), (1, .int p0)] := hl
  refine lv_iload_n hx hb dX12_fill_0 rfl (lv_at hl 1 rfl) ?_
  refine vp_callSi (va_runS (As := [.int p0]) (rest := []) ⟨hx, hb, hml, hown, hts⟩ (m_isPage l dC dI p0) (va_cwS 1 hts gX12_fill_X12_isPage rfl rfl rfl (by decide +kernel) ⟨Nat.le_of_ble_eq_true rfl, Nat.le_of_ble_eq_true rfl⟩) ⟨pw_fb, fun U hU hW => ⟨rfl, pw_to hU hW (hP.sub (ws' := []) [] rfl) (hK.sub (tys' := []) [] rfl) hN⟩⟩ rfl rfl hl.1 rfl (lv_room (Nat.le_of_ble_eq_true rfl)) dX12_fill_1 ⟨Nat.le_of_ble_eq_true rfl, Nat.le_of_ble_eq_true rfl⟩).run (fun r hw => ?_)
  rcases Bool.eq_false_or_eq_true (bw p0 0 11) with b_1 | b_1
  ·
    obtain rfl : r = 1 := b_t hw b_1
    refine lv_if_eq (tgt := 17) hx hb dX12_fill_4 (by decide) (fun c_2 => absurd c_2 (by decide)) (fun c_2 => ?_)
    refine lv_aload_n hx hb dX12_fill_7 rfl (lv_at hl 0 rfl) ?_
    refine va_get (D := (dC, dI)) (ci := 11) (v := .int (u.1 28)) (C := RX12) (T := TX12) (N := 52) hx hb hts (by decide +kernel) hown hK hP 0 rfl rfl 28 (by decide) (hts (.fieldLink RX12 158 "PageOneModel" "acts" "I") (by decide +kernel)) (fun _ h9 => h9) rfl dX12_fill_8 ?_
    refine lv_sipush (v := 300) hx hb dX12_fill_11 (by decide) ?_
    refine lv_icmp_ne (tgt := 19) hx hb dX12_fill_14 (by decide) (fun c_3 => ?_) (fun c_3 => ?_)
    ·
      refine lv_iconst (v := 0) hx hb dX12_fill_19 (by decide) ?_
      refine lv_istore_n (lv' := [(2, .int 0), (0, .ref h0), (1, .int p0)]) hx hb dX12_fill_20 rfl hl (by decide) rfl (fun ls hl => ?_)
      refine lv_iconst (v := 0) hx hb dX12_fill_21 (by decide) ?_
      refine lv_istore_n (lv' := [(3, .int 0), (2, .int 0), (0, .ref h0), (1, .int p0)]) hx hb dX12_fill_22 rfl hl (by decide) rfl (fun ls hl => ?_)
      obtain ⟨P, hP12, -, eP⟩ := exN b_1 (by decide)
      have h11 : (11 : Int32).toInt = 11 := rfl
      subst eP
      obtain ⟨eK, eK2, eK3⟩ := nI_of_bw hn
      have h80 : (80 : Int32).toInt = 80 := rfl
      refine m_fl_out (u0 := u) (P := P) (M := (u.1 3).toNatClampNeg) (by omega) (by omega) eK hfb hln hx hb hml hts hown hN hK (Nat.le_of_ble_eq_true rfl) (Nat.le_of_ble_eq_true rfl) (Nat.le_of_ble_eq_true rfl) (Nat.le_of_ble_eq_true rfl) hA (fun u2 H locs xs ls hg hP hD hS hl => ?_) 9 0 u _ _ [] ls (by decide) (by decide) ⟨trivial, rfl⟩ hP hD hS (lv_sub hl [0, 1, 2, 3] rfl)
      refine lv_iload_n hx hb dX12_fill_177 rfl (lv_at hl 1 rfl) ?_
      refine lv_if_ne (tgt := 183) hx hb dX12_fill_178 (by decide) (fun c_4 => ?_) (fun c_4 => ?_)
      ·
        refine lv_aload_n hx hb dX12_fill_183 rfl (lv_at hl 2 rfl) ?_
        refine lv_iconst (v := 3) hx hb dX12_fill_184 (by decide) ?_
        refine lv_iload_n hx hb dX12_fill_185 rfl (lv_at hl 1 rfl) ?_
        refine lv_iconst (v := 0) hx hb dX12_fill_186 (by decide) ?_
        refine lv_iconst (v := 0) hx hb dX12_fill_187 (by decide) ?_
        refine lv_iconst (v := 0) hx hb dX12_fill_188 (by decide) ?_
        refine lv_iconst (v := 0) hx hb dX12_fill_189 (by decide) ?_
        refine lv_iconst (v := 0) hx hb dX12_fill_190 (by decide) ?_
        have hFc := fr_all hD hS hA
        refine va_callv (va_runV (As := [.int 3, .int (nI xs.length), .int 0, .int 0, .int 0, .int 0, .int 0]) (rest := []) ⟨hx, hb, hml, hown, hts⟩ (m_acts l dC dI h0 v cI cZ u2 3 (nI xs.length) 0 0 0 0 0 (by rw [hg.2, (fillR_k u xs).1]; exact v300 ha c_3) H.size) (cwV 7 hts gX12_fill_X12_acts rfl rfl rfl (by decide +kernel) ⟨Nat.le_of_ble_eq_true rfl, Nat.le_of_ble_eq_true rfl⟩) ⟨gw_fb, va_recv hK hP (ci := 11) (q0 := 0) rfl rfl, fun U hU hW => ⟨rfl, by rw [hU], pw_to hU hW hP hK hN, hD.weaken (fun _ _ _ _ => trivial)⟩⟩ rfl rfl hl.1 rfl (lv_room (Nat.le_of_ble_eq_true rfl)) dX12_fill_191 ⟨Nat.le_of_ble_eq_true rfl, Nat.le_of_ble_eq_true rfl⟩) hS (fun q _ h => hFc q h) hFc (fun u_5 t H1 locs ht hvm hw hB hz1 hk1 hS => ?_)
        obtain ⟨hP, hD1⟩ := hB
        rw [ht] at hP
        have hD := hD1.weaken (fun _ q _ h => hFc q.1 h)
        generalize H1 = H at hP hS ⊢
        have eu_5 := hw
        refine lv_aload_n hx hb dX12_fill_194 rfl (lv_at hl 2 rfl) ?_
        refine lv_dup hx hb dX12_fill_195 rfl ?_
        refine va_get (D := (dC, dI)) (ci := 11) (v := .int (u_5.1 36)) (C := RX12) (T := TX12) (N := 52) hx hb hts (by decide +kernel) hown hK hP 0 rfl rfl 36 (by decide) (hts (.fieldLink RX12 168 "PageOneModel" "filled" "I") (by decide +kernel)) (fun _ h9 => h9) rfl dX12_fill_196 ?_
        refine lv_iload_n hx hb dX12_fill_199 rfl (lv_at hl 1 rfl) ?_
        refine lv_iadd hx hb dX12_fill_200 ?_
        refine va_put (D := (dC, dI)) (ci := 11) (v := .int ((u_5.1 36) + (nI xs.length))) (ty := .int) (C := RX12) (T := TX12) (N := 52) hx hb hts (by decide +kernel) tyX12 tyX12_ok nmX12 hown hK hP hD hS 0 rfl rfl 36 (by decide) (hts (.fieldLink RX12 168 "PageOneModel" "filled" "I") (by decide +kernel)) (fun _ h9 => h9) rfl (by decide +kernel) rfl rfl (Nat.le_of_ble_eq_true rfl) dX12_fill_201 (fun H locs hP hD hS => ?_)
        obtain ⟨u_6, eu_6⟩ : ∃ zz : mS, zz = mset u_5 36 ((u_5.1 36) + (nI xs.length)) := ⟨_, rfl⟩
        have hP : va_P (dC, dI) vwCl (mW h0 v cI cZ u_6) H := by rw [eu_6]; exact hP
        have hD : va_D A (mW h0 v cI cZ u_6) := by rw [eu_6]; exact hD
        refine lv_iload_n hx hb dX12_fill_204 rfl (lv_at hl 1 rfl) ?_
        exact W.iret (v := (nI xs.length)) hx hb hr (fun t ht hW => ⟨⟨(nI xs.length), u_6, rfl, (Or.inr ⟨xs, fun h => c_4 (by rw [h]; rfl), hg.1, c_3, by rw [eu_6, eu_5, hg.2]; rfl⟩), by rw [ht]; exact hP, hD⟩, hS.F ht⟩) hS.2.2 dX12_fill_205
      ·
        refine lv_iconst (v := 0) hx hb dX12_fill_181 (by decide) ?_
        exact W.iret (v := 0) hx hb hr (fun t ht hW => ⟨⟨0, u2, rfl, (Or.inl (by rw [hg.2, fl_nil hfb hg.1 c_4]; rfl)), by rw [ht]; exact hP, hD⟩, hS.F ht⟩) hS.2.2 dX12_fill_182
    ·
      refine lv_iconst (v := (-1)) hx hb dX12_fill_17 (by decide) ?_
      exact W.iret (v := (-1)) hx hb hr (fun t ht hW => ⟨⟨(-1), u, rfl, (Or.inl rfl), by rw [ht]; exact hP, hD⟩, hS.F ht⟩) hS.2.2 dX12_fill_18
  ·
    obtain rfl : r = 0 := b_f hw b_1
    refine lv_if_eq (tgt := 17) hx hb dX12_fill_4 (by decide) (fun c_7 => ?_) (fun c_7 => absurd (by decide) c_7)
    refine lv_iconst (v := (-1)) hx hb dX12_fill_17 (by decide) ?_
    exact W.iret (v := (-1)) hx hb hr (fun t ht hW => ⟨⟨(-1), u, rfl, (Or.inl rfl), by rw [ht]; exact hP, hD⟩, hS.F ht⟩) hS.2.2 dX12_fill_18
