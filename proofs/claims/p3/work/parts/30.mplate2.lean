set_option maxHeartbeats 4000000 in
set_option maxRecDepth 100000 in
theorem m_plate (l : Launch) (dC : Nat → ClassId) (dI : Nat → Nat → Nat) (h0 : Nat) (v : Nat → Nat) (cI cZ : ClassId) (u : mS) (p0 : Int32) (hn : bw (u.1 3) 0 80 = true) (hln : ∀ j, j < 96 → bw (u.2 0 j) 0 60 = true) (hcl : ∀ j, j < 5760 → mThing (u.2 2 j) = true → bw (u.2 2 j) 0 79 = true) (hk : ∀ j, j < 80 → u.2 4 j = 3 → bw (u.2 10 j) 0 9 = true) (hpc : ∀ j, j < 80 → bw (u.2 22 j) 0 6 = true) (hsl : ∀ j, j < 480 → ∃ X D : Nat, u.2 24 j = nI X ∧ u.2 26 j = nI D ∧ X + D ≤ 8) (hpl : ∀ j, j < 96 → bw (u.2 43 j) 0 60 = true) (sz : Nat) : Met l yX12_plate wsX12_plate ({ frames := 5, cells := 0, slots := 0, locals := 114 }) (va_Pc [.ref h0, .int p0] (fun U => U.heap.size = sz ∧ PW dC dI (mW h0 v cI cZ u) [(cI, .int), (cZ, .boolean)] U ∧ va_D (fun _ => True) (mW h0 v cI cZ u))) (va_Qi (fun (r : Int32) (u9 : mS) => mE u u9 ∨ mPl u u9) (fun u9 t => va_P (dC, dI) vwCl (mW h0 v cI cZ u9) t.heap ∧ va_D (va_A (mW h0 v cI cZ u) sz) (mW h0 v cI cZ u9)) (va_A (mW h0 v cI cZ u) sz)) 0 0 (va_A (mW h0 v cI cZ u) sz) := by
  refine Met.ofW (cc := cX12_plate) (maxL := 5) (ret := (some .int)) (by decide) rfl ?_
  intro p e s m args below meth c s₁ B hml hv
  obtain ⟨rfl, hsz, ⟨hP, hK, hN⟩, hD0⟩ := hv
  have hx := B.exec
  have hb := B.bytes
  have hr := B.returns
  have hts := atoms_spec (ws := wsX12_plate) B.pre
  have hown : s.vm.findClass RX12 = some m.cls := findClass_of_methodNamed B.named
  have hlocks := B.notSynchronized
  subst hsz
  have hD := hD0.self (sz := s.heap.size)
  generalize hAe : va_A (mW h0 v cI cZ u) s.heap.size = A at hD ⊢
  have hA : ∀ q : Nat, s.heap.size ≤ q → A q := fun q h => by rw [← hAe]; exact Or.inr h
  have hS : va_S A s.heap s.heap [] := va_S.rf
  have hl := lv_entry ([.ref h0, .int p0]) (n := 5) (Nat.le_of_ble_eq_true rfl)
  rw [lg_entry_eq]
  generalize (lg_sl ([.ref h0, .int p0]) ++ List.replicate (5 - (lg_sl ([.ref h0, .int p0])).length) Slot.unset).toArray = ls at hl ⊢
  have hl : lv_has ls 5 [(0, .ref h0), (1, .int p0)] := hl
  refine lv_iload_n hx hb dX12_plate_0 rfl (lv_at hl 1 rfl) ?_
  refine vp_callSi (va_runS (As := [.int p0]) (rest := []) ⟨hx, hb, hml, hown, hts⟩ (m_isPage l dC dI p0) (va_cwS 1 hts gX12_plate_X12_isPage rfl rfl rfl (by decide +kernel) ⟨Nat.le_of_ble_eq_true rfl, Nat.le_of_ble_eq_true rfl⟩) ⟨pw_fb, fun U hU hW => ⟨rfl, pw_to hU hW (hP.sub (ws' := []) [] rfl) (hK.sub (tys' := []) [] rfl) hN⟩⟩ rfl rfl hl.1 rfl (lv_room (Nat.le_of_ble_eq_true rfl)) dX12_plate_1 ⟨Nat.le_of_ble_eq_true rfl, Nat.le_of_ble_eq_true rfl⟩).run (fun r hw => ?_)
  rcases Bool.eq_false_or_eq_true (bw p0 0 11) with b_1 | b_1
  ·
    obtain rfl : r = 1 := b_t hw b_1
    refine lv_if_ne (tgt := 9) hx hb dX12_plate_4 (by decide) (fun c_2 => ?_) (fun c_2 => absurd c_2 (by decide))
    refine lv_iconst (v := 0) hx hb dX12_plate_9 (by decide) ?_
    refine lv_istore_n (lv' := [(2, .int 0), (0, .ref h0), (1, .int p0)]) hx hb dX12_plate_10 rfl hl (by decide) rfl (fun ls hl => ?_)
    refine lv_iconst (v := 0) hx hb dX12_plate_11 (by decide) ?_
    refine lv_istore_n (lv' := [(3, .int 0), (2, .int 0), (0, .ref h0), (1, .int p0)]) hx hb dX12_plate_12 rfl hl (by decide) rfl (fun ls hl => ?_)
    refine m_pl_out hx hb hml hts hown hN hK (Nat.le_of_ble_eq_true rfl) (Nat.le_of_ble_eq_true rfl) (Nat.le_of_ble_eq_true rfl) (Nat.le_of_ble_eq_true rfl) hP b_1 hln (fun i a ls hlt _ hl => ?_) (fun a ls hl => ?_) 9 0 0 ls (by decide) (by decide) (lv_sub hl [0, 1, 2, 3] rfl)
    ·
      refine lv_iconst (v := (-1)) hx hb dX12_plate_55 (by decide) ?_
      exact W.iret (v := (-1)) hx hb hr (fun t ht hW => ⟨⟨(-1), u, rfl, (Or.inl (mE_rf u)), by rw [ht]; exact hP, hD⟩, hS.F ht⟩) hS.2.2 dX12_plate_56
    ·
      refine lv_aload_n hx hb dX12_plate_72 rfl (lv_at hl 2 rfl) ?_
      refine lv_iload_n hx hb dX12_plate_73 rfl (lv_at hl 3 rfl) ?_
      have hFc := fr_all hD hS hA
      refine va_callv (va_runV (As := [.int p0]) (rest := []) ⟨hx, hb, hml, hown, hts⟩ (m_breaks l dC dI h0 v cI cZ u p0 b_1 hn hln hcl hk hpc hsl s.heap.size) (cwV 1 hts gX12_plate_X12_breaks rfl rfl rfl (by decide +kernel) ⟨Nat.le_of_ble_eq_true rfl, Nat.le_of_ble_eq_true rfl⟩) ⟨gw_fb, va_recv hK hP (ci := 11) (q0 := 0) rfl rfl, fun U hU hW => ⟨rfl, by rw [hU], pw_to hU hW hP hK hN, hD.weaken (fun _ _ _ _ => trivial)⟩⟩ rfl rfl hl.1 rfl (lv_room (Nat.le_of_ble_eq_true rfl)) dX12_plate_74 ⟨Nat.le_of_ble_eq_true rfl, Nat.le_of_ble_eq_true rfl⟩) hS (fun q _ h => hFc q h) hFc (fun u_3 t H1 locs ht hvm hw hB hz1 hk1 hS => ?_)
      obtain ⟨hP, hD1⟩ := hB
      rw [ht] at hP
      have hD := hD1.weaken (fun _ q _ h => hFc q.1 h)
      generalize H1 = H at hP hS ⊢
      have hg : mE u u_3 := hw
      refine lv_iload_n hx hb dX12_plate_77 rfl (lv_at hl 1 rfl) ?_
      refine lv_if_eq (tgt := 88) hx hb dX12_plate_78 (by decide) (fun c_4 => ?_) (fun c_4 => ?_)
      ·
        refine lv_iconst (v := (-1)) hx hb dX12_plate_88 (by decide) ?_
        exact W.iret (v := (-1)) hx hb hr (fun t ht hW => ⟨⟨(-1), u_3, rfl, (Or.inl hg), by rw [ht]; exact hP, hD⟩, hS.F ht⟩) hS.2.2 dX12_plate_89
      ·
        refine lv_aload_n hx hb dX12_plate_81 rfl (lv_at hl 2 rfl) ?_
        refine va_get (D := (dC, dI)) (ci := 11) (v := .int (u_3.1 49)) (C := RX12) (T := TX12) (N := 52) hx hb hts (by decide +kernel) hown hK hP 0 rfl rfl 49 (by decide) (hts (.fieldLink RX12 228 "PageOneModel" "wrong" "I") (by decide +kernel)) (fun _ h9 => h9) rfl dX12_plate_82 ?_
        refine lv_if_le (tgt := 90) hx hb dX12_plate_85 (by decide) (fun c_5 => ?_) (fun c_5 => ?_)
        ·
          refine lv_aload_n hx hb dX12_plate_90 rfl (lv_at hl 2 rfl) ?_
          refine va_get (D := (dC, dI)) (ci := 11) (v := .ref (v 40)) (C := RX12) (T := TX12) (N := 52) hx hb hts (by decide +kernel) hown hK hP 0 rfl rfl 40 (by decide) (hts (.fieldLink RX12 116 "PageOneModel" "isPlated" "[Z") (by decide +kernel)) (fun _ h9 => h9) rfl dX12_plate_91 ?_
          refine lv_iload_n hx hb dX12_plate_94 rfl (lv_at hl 3 rfl) ?_
          refine lv_iconst (v := 1) hx hb dX12_plate_95 (by decide) ?_
          refine va_zast hx hb hK hP hD hS 36 1 rfl rfl (vin b_1 (by decide)) dX12_plate_96 (fun H locs hP hD hS => ?_)
          obtain ⟨u_6, eu_6⟩ : ∃ zz : mS, zz = mst u_3 40 p0 (vp_nar .boolean 1) := ⟨_, rfl⟩
          have hP : va_P (dC, dI) vwCl (mW h0 v cI cZ u_6) H := by rw [eu_6]; exact hP
          have hD : va_D A (mW h0 v cI cZ u_6) := by rw [eu_6]; exact hD
          refine lv_aload_n hx hb dX12_plate_97 rfl (lv_at hl 2 rfl) ?_
          refine va_get (D := (dC, dI)) (ci := 11) (v := .ref (v 41)) (C := RX12) (T := TX12) (N := 52) hx hb hts (by decide +kernel) hown hK hP 0 rfl rfl 41 (by decide) (hts (.fieldLink RX12 119 "PageOneModel" "plateDay" "[I") (by decide +kernel)) (fun _ h9 => h9) rfl dX12_plate_98 ?_
          refine lv_iload_n hx hb dX12_plate_101 rfl (lv_at hl 3 rfl) ?_
          refine lv_aload_n hx hb dX12_plate_102 rfl (lv_at hl 2 rfl) ?_
          refine va_get (D := (dC, dI)) (ci := 11) (v := .int (u_6.1 38)) (C := RX12) (T := TX12) (N := 52) hx hb hts (by decide +kernel) hown hK hP 0 rfl rfl 38 (by decide) (hts (.fieldLink RX12 206 "PageOneModel" "day" "I") (by decide +kernel)) (fun _ h9 => h9) rfl dX12_plate_103 ?_
          refine va_iast hx hb hK hP hD hS 37 0 rfl rfl (vin b_1 (by decide)) dX12_plate_106 (fun H locs hP hD hS => ?_)
          obtain ⟨u_7, eu_7⟩ : ∃ zz : mS, zz = mst u_6 41 p0 (u_6.1 38) := ⟨_, rfl⟩
          have hP : va_P (dC, dI) vwCl (mW h0 v cI cZ u_7) H := by rw [eu_7]; exact hP
          have hD : va_D A (mW h0 v cI cZ u_7) := by rw [eu_7]; exact hD
          refine lv_aload_n hx hb dX12_plate_107 rfl (lv_at hl 2 rfl) ?_
          refine va_get (D := (dC, dI)) (ci := 11) (v := .ref (v 42)) (C := RX12) (T := TX12) (N := 52) hx hb hts (by decide +kernel) hown hK hP 0 rfl rfl 42 (by decide) (hts (.fieldLink RX12 122 "PageOneModel" "plateEdition" "[I") (by decide +kernel)) (fun _ h9 => h9) rfl dX12_plate_108 ?_
          refine lv_iload_n hx hb dX12_plate_111 rfl (lv_at hl 3 rfl) ?_
          refine lv_aload_n hx hb dX12_plate_112 rfl (lv_at hl 2 rfl) ?_
          refine va_get (D := (dC, dI)) (ci := 11) (v := .int (u_7.1 39)) (C := RX12) (T := TX12) (N := 52) hx hb hts (by decide +kernel) hown hK hP 0 rfl rfl 39 (by decide) (hts (.fieldLink RX12 257 "PageOneModel" "edition" "I") (by decide +kernel)) (fun _ h9 => h9) rfl dX12_plate_113 ?_
          refine va_iast hx hb hK hP hD hS 38 0 rfl rfl (vin b_1 (by decide)) dX12_plate_116 (fun H locs hP hD hS => ?_)
          obtain ⟨u_8, eu_8⟩ : ∃ zz : mS, zz = mst u_7 42 p0 (u_7.1 39) := ⟨_, rfl⟩
          have hP : va_P (dC, dI) vwCl (mW h0 v cI cZ u_8) H := by rw [eu_8]; exact hP
          have hD : va_D A (mW h0 v cI cZ u_8) := by rw [eu_8]; exact hD
          refine lv_iconst (v := 0) hx hb dX12_plate_117 (by decide) ?_
          refine lv_istore_n (lv' := [(3, .int 0), (2, .int a), (0, .ref h0), (1, .int p0)]) hx hb dX12_plate_118 rfl hl (by decide) rfl (fun ls hl => ?_)
          have hg : mPl u u_8 := (by rw [eu_8, eu_7, eu_6]; exact (mPl_st (mPl_st (mPl_st (mPl_E hg hpl) (by decide) _ _) (by decide) _ _) (by decide) _ _))
          refine m_pl_c (u0 := u) b_1 hx hb hml hts hown hN hK hA (fun u4 H locs ls hg hP hD hS hl => ?_) 481 0 u_8 _ _ ls (by decide) (by decide) hg hP hD hS (lv_sub hl [0, 1, 2, 3] rfl)
          refine lv_iconst (v := 0) hx hb dX12_plate_156 (by decide) ?_
          refine lv_istore_n (lv' := [(3, .int 0), (2, .int a), (0, .ref h0), (1, .int p0)]) hx hb dX12_plate_157 rfl hl (by decide) rfl (fun ls hl => ?_)
          refine m_pl_l (u0 := u) b_1 hln hx hb hml hts hown hN hK hA (fun u5 H locs ls hg hP hD hS hl => ?_) 9 0 u4 _ _ ls (by decide) (by decide) hg hP hD hS (lv_sub hl [0, 1, 2, 3] rfl)
          refine lv_iconst (v := 0) hx hb dX12_plate_192 (by decide) ?_
          refine lv_istore_n (lv' := [(3, .int 0), (2, .int a), (0, .ref h0), (1, .int p0)]) hx hb dX12_plate_193 rfl hl (by decide) rfl (fun ls hl => ?_)
          obtain ⟨P, hP12, -, eP⟩ := exN b_1 (by decide)
          have h11 : (11 : Int32).toInt = 11 := rfl
          refine m_pl_i (u0 := u) (P := P) (by omega) eP hpc hx hb hml hts hown hN hK hA (fun u6 H locs ls hg hP hD hS hl => ?_) 81 0 u5 _ _ ls (by decide) (by decide) hg hP hD hS (lv_sub hl [0, 1, 2, 3] rfl)
          refine lv_iload_n hx hb dX12_plate_313 rfl (lv_at hl 1 rfl) ?_
          exact W.iret (v := a) hx hb hr (fun t ht hW => ⟨⟨a, u6, rfl, Or.inr hg, by rw [ht]; exact hP, hD⟩, hS.F ht⟩) hS.2.2 dX12_plate_314
        ·
          refine lv_iconst (v := (-1)) hx hb dX12_plate_88 (by decide) ?_
          exact W.iret (v := (-1)) hx hb hr (fun t ht hW => ⟨⟨(-1), u_3, rfl, (Or.inl hg), by rw [ht]; exact hP, hD⟩, hS.F ht⟩) hS.2.2 dX12_plate_89
  ·
    obtain rfl : r = 0 := b_f hw b_1
    refine lv_if_ne (tgt := 9) hx hb dX12_plate_4 (by decide) (fun c_9 => absurd (by decide) c_9) (fun c_9 => ?_)
    refine lv_iconst (v := (-1)) hx hb dX12_plate_7 (by decide) ?_
    exact W.iret (v := (-1)) hx hb hr (fun t ht hW => ⟨⟨(-1), u, rfl, (Or.inl (mE_rf u)), by rw [ht]; exact hP, hD⟩, hS.F ht⟩) hS.2.2 dX12_plate_8
