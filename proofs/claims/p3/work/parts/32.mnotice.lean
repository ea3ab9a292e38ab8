def mNotice (u : mS) (i h : Int32) : mS := mst (mst (mMade u 5) 9 (u.1 3) i) 8 (u.1 3) h
set_option maxHeartbeats 4000000 in
set_option maxRecDepth 100000 in
theorem m_nt_loop {p : Program} {l : Launch} {e : Env} {R : Room} {s : State} {m : MethodId} {args : Array Value} {below : List Frame} {meth : Method} {c : Code} {Q : State → Prop} {cells slots : Nat} {dC : Nat → ClassId} {dI : Nat → Nat → Nat} {h0 : Nat} {v : Nat → Nat} {cI cZ : ClassId} {H : Heap} {locs : List Loc} {u : mS} (hx : p.tables.exec = Jvm.exec) (hb : c.code = cX12_notice) (hml : c.maxLocals = 4) (hts : ∀ w ∈ wsX12_notice, w.before args s = true) (hown : s.vm.findClass RX12 = some m.cls) (hN : NN s) (hK : va_K (dC, dI) vwCl [(cI, .int), (cZ, .boolean)] s) (hP : va_P (dC, dI) vwCl (mW h0 v cI cZ u) H) {p0 p1 : Int32} {M : Nat} (hM8 : M ≤ 80) (eM : u.1 3 = nI M) (kx78 : ∀ (ls : Array Slot), lv_has ls 4 [(0, .ref h0), (1, .int p0), (2, .int p1)] → W p l e R s m args below meth c H locs cells slots Q (F0 m 78 ls [])) (kx86 : ∀ (ls : Array Slot), lv_has ls 4 [(0, .ref h0), (1, .int p0), (2, .int p1)] → W p l e R s m args below meth c H locs cells slots Q (F0 m 86 ls [])) : ∀ (k i : Nat) (ls : Array Slot), i ≤ M → M - i < k → lv_has ls 4 [(3, .int (nI i)), (0, .ref h0), (1, .int p0), (2, .int p1)] → W p l e R s m args below meth c H locs cells slots Q (F0 m 50 ls []) := by
  intro k
  induction k with
  | zero => intro i ls h1 h2; exact absurd h2 (Nat.not_lt_zero _)
  | succ k ih =>
    intro i ls hi hk hl
    refine lv_iload_n hx hb dX12_notice_50 rfl (lv_at hl 0 rfl) ?_
    refine lv_aload_n hx hb dX12_notice_51 rfl (lv_at hl 1 rfl) ?_
    refine va_get (D := (dC, dI)) (ci := 11) (v := .int (u.1 3)) (C := RX12) (T := TX12) (N := 52) hx hb hts (by decide +kernel) hown hK hP 0 rfl rfl 3 (by decide) (hts (.fieldLink RX12 147 "PageOneModel" "items" "I") (by decide +kernel)) (fun _ h9 => h9) rfl dX12_notice_52 ?_
    refine lv_topi (fun y_1 ey_1 => ?_)
    obtain rfl : y_1 = (nI M) := ey_1.trans (eM)
    refine lv_icmp_ge (tgt := 86) hx hb dX12_notice_55 (by decide) (fun c_2 => ?_) (fun c_2 => ?_)
    ·
      have hie : i = M := lp_eq rfl (by omega) hi c_2
      exact kx86 ls (lv_sub hl [1, 2, 3] rfl)
    ·
      have hlt : i < M := lp_lt rfl (by omega) hi c_2
      refine lv_aload_n hx hb dX12_notice_58 rfl (lv_at hl 1 rfl) ?_
      refine va_get (D := (dC, dI)) (ci := 11) (v := .ref (v 4)) (C := RX12) (T := TX12) (N := 52) hx hb hts (by decide +kernel) hown hK hP 0 rfl rfl 4 (by decide) (hts (.fieldLink RX12 19 "PageOneModel" "kind" "[I") (by decide +kernel)) (fun _ h9 => h9) rfl dX12_notice_59 ?_
      refine lv_iload_n hx hb dX12_notice_62 rfl (lv_at hl 0 rfl) ?_
      refine va_iald hx hb hK hP 4 0 rfl rfl (vp_in_nI (by omega) (by decide)) dX12_notice_63 ?_
      refine lv_iconst (v := 5) hx hb dX12_notice_64 (by decide) ?_
      refine lv_icmp_ne (tgt := 80) hx hb dX12_notice_65 (by decide) (fun c_3 => ?_) (fun c_3 => ?_)
      ·
        refine lv_iinc (v := (nI (i + 1))) (lv' := [(3, .int (nI (i + 1))), (0, .ref h0), (1, .int p0), (2, .int p1)]) hx hb dX12_notice_80 hl (k := 0) rfl (nI_1 i) (by decide) rfl (fun ls hl => ?_)
        refine lv_goto (tgt := 50) hx hb dX12_notice_83 (by decide) ?_
        exact ih (i + 1) ls (by omega) (by omega) (lv_sub hl [0, 1, 2, 3] rfl)
      ·
        refine lv_aload_n hx hb dX12_notice_68 rfl (lv_at hl 1 rfl) ?_
        refine va_get (D := (dC, dI)) (ci := 11) (v := .ref (v 9)) (C := RX12) (T := TX12) (N := 52) hx hb hts (by decide +kernel) hown hK hP 0 rfl rfl 9 (by decide) (hts (.fieldLink RX12 34 "PageOneModel" "of" "[I") (by decide +kernel)) (fun _ h9 => h9) rfl dX12_notice_69 ?_
        refine lv_iload_n hx hb dX12_notice_72 rfl (lv_at hl 0 rfl) ?_
        refine va_iald hx hb hK hP 9 0 rfl rfl (vp_in_nI (by omega) (by decide)) dX12_notice_73 ?_
        refine lv_iload_n hx hb dX12_notice_74 rfl (lv_at hl 2 rfl) ?_
        refine lv_icmp_ne (tgt := 80) hx hb dX12_notice_75 (by decide) (fun c_4 => ?_) (fun c_4 => ?_)
        ·
          refine lv_iinc (v := (nI (i + 1))) (lv' := [(3, .int (nI (i + 1))), (0, .ref h0), (1, .int p0), (2, .int p1)]) hx hb dX12_notice_80 hl (k := 0) rfl (nI_1 i) (by decide) rfl (fun ls hl => ?_)
          refine lv_goto (tgt := 50) hx hb dX12_notice_83 (by decide) ?_
          exact ih (i + 1) ls (by omega) (by omega) (lv_sub hl [0, 1, 2, 3] rfl)
        ·
          exact kx78 ls (lv_sub hl [1, 2, 3] rfl)
set_option maxHeartbeats 4000000 in
set_option maxRecDepth 100000 in
theorem m_notice (l : Launch) (dC : Nat → ClassId) (dI : Nat → Nat → Nat) (h0 : Nat) (v : Nat → Nat) (cI cZ : ClassId) (u : mS) (p0 p1 : Int32) (hn : bw (u.1 3) 0 80 = true) (sz : Nat) : Met l yX12_notice wsX12_notice ({ frames := 3, cells := 0, slots := 0, locals := 66 }) (va_Pc [.ref h0, .int p0, .int p1] (fun U => U.heap.size = sz ∧ PW dC dI (mW h0 v cI cZ u) [(cI, .int), (cZ, .boolean)] U ∧ va_D (fun _ => True) (mW h0 v cI cZ u))) (va_Qi (fun (r : Int32) (u9 : mS) => u9 = u ∨ (¬ u.1 3 = 80 ∧ bw p0 0 (u.1 3 - 1) = true ∧ u9 = mNotice u p0 p1)) (fun u9 t => va_P (dC, dI) vwCl (mW h0 v cI cZ u9) t.heap ∧ va_D (va_A (mW h0 v cI cZ u) sz) (mW h0 v cI cZ u9)) (va_A (mW h0 v cI cZ u) sz)) 0 0 (va_A (mW h0 v cI cZ u) sz) := by
  refine Met.ofW (cc := cX12_notice) (maxL := 4) (ret := (some .int)) (by decide) rfl ?_
  intro p e s m args below meth c s₁ B hml hv
  obtain ⟨rfl, hsz, ⟨hP, hK, hN⟩, hD0⟩ := hv
  have hx := B.exec
  have hb := B.bytes
  have hr := B.returns
  have hts := atoms_spec (ws := wsX12_notice) B.pre
  have hown : s.vm.findClass RX12 = some m.cls := findClass_of_methodNamed B.named
  have hlocks := B.notSynchronized
  subst hsz
  have hD := hD0.self (sz := s.heap.size)
  generalize hAe : va_A (mW h0 v cI cZ u) s.heap.size = A at hD ⊢
  have hA : ∀ q : Nat, s.heap.size ≤ q → A q := fun q h => by rw [← hAe]; exact Or.inr h
  have hS : va_S A s.heap s.heap [] := va_S.rf
  have hl := lv_entry ([.ref h0, .int p0, .int p1]) (n := 4) (Nat.le_of_ble_eq_true rfl)
  rw [lg_entry_eq]
  generalize (lg_sl ([.ref h0, .int p0, .int p1]) ++ List.replicate (4 - (lg_sl ([.ref h0, .int p0, .int p1])).length) Slot.unset).toArray = ls at hl ⊢
  have hl : lv_has ls 4 [(0, .ref h0), (1, .int p0), (2, .int p1)] := hl
  refine lv_aload_n hx hb dX12_notice_0 rfl (lv_at hl 0 rfl) ?_
  refine va_get (D := (dC, dI)) (ci := 11) (v := .int (u.1 3)) (C := RX12) (T := TX12) (N := 52) hx hb hts (by decide +kernel) hown hK hP 0 rfl rfl 3 (by decide) (hts (.fieldLink RX12 147 "PageOneModel" "items" "I") (by decide +kernel)) (fun _ h9 => h9) rfl dX12_notice_1 ?_
  refine lv_bipush (v := 80) hx hb dX12_notice_4 (by decide) ?_
  refine lv_icmp_eq (tgt := 46) hx hb dX12_notice_6 (by decide) (fun c_1 => ?_) (fun c_1 => ?_)
  ·
    refine lv_iconst (v := (-1)) hx hb dX12_notice_46 (by decide) ?_
    exact W.iret (v := (-1)) hx hb hr (fun t ht hW => ⟨⟨(-1), u, rfl, (Or.inl rfl), by rw [ht]; exact hP, hD⟩, hS.F ht⟩) hS.2.2 dX12_notice_47
  ·
    refine lv_aload_n hx hb dX12_notice_9 rfl (lv_at hl 0 rfl) ?_
    refine lv_iload_n hx hb dX12_notice_10 rfl (lv_at hl 1 rfl) ?_
    refine vp_callSi (va_runV (As := [.int p0]) (rest := []) ⟨hx, hb, hml, hown, hts⟩ (m_isItem l dC dI h0 v cI cZ u p0) (cwV 1 hts gX12_notice_X12_isItem rfl rfl rfl (by decide +kernel) ⟨Nat.le_of_ble_eq_true rfl, Nat.le_of_ble_eq_true rfl⟩) ⟨pw_fb, va_recv hK hP (ci := 11) (q0 := 0) rfl rfl, fun U hU hW => ⟨rfl, pw_to hU hW hP hK hN⟩⟩ rfl rfl hl.1 rfl (lv_room (Nat.le_of_ble_eq_true rfl)) dX12_notice_11 ⟨Nat.le_of_ble_eq_true rfl, Nat.le_of_ble_eq_true rfl⟩).run (fun r hw => ?_)
    rcases Bool.eq_false_or_eq_true (bw p0 0 (u.1 3 - 1)) with b_2 | b_2
    ·
      obtain rfl : r = 1 := b_t hw b_2
      refine lv_if_eq (tgt := 46) hx hb dX12_notice_14 (by decide) (fun c_3 => absurd c_3 (by decide)) (fun c_3 => ?_)
      refine lv_iload_n hx hb dX12_notice_17 rfl (lv_at hl 2 rfl) ?_
      refine lv_iconst (v := 1) hx hb dX12_notice_18 (by decide) ?_
      refine lv_bipush (v := 20) hx hb dX12_notice_19 (by decide) ?_
      refine vp_callSi (va_runS (As := [.int p1, .int 1, .int 20]) (rest := []) ⟨hx, hb, hml, hown, hts⟩ (m_in l dC dI p1 1 20) (va_cwS 3 hts gX12_notice_X12_in rfl rfl rfl (by decide +kernel) ⟨Nat.le_of_ble_eq_true rfl, Nat.le_of_ble_eq_true rfl⟩) ⟨pw_fb, fun U hU hW => ⟨rfl, pw_to hU hW (hP.sub (ws' := []) [] rfl) (hK.sub (tys' := []) [] rfl) hN⟩⟩ rfl rfl hl.1 rfl (lv_room (Nat.le_of_ble_eq_true rfl)) dX12_notice_21 ⟨Nat.le_of_ble_eq_true rfl, Nat.le_of_ble_eq_true rfl⟩).run (fun r hw => ?_)
      rcases Bool.eq_false_or_eq_true (bw p1 1 20) with b_4 | b_4
      ·
        obtain rfl : r = 1 := b_t hw b_4
        refine lv_if_eq (tgt := 46) hx hb dX12_notice_24 (by decide) (fun c_5 => absurd c_5 (by decide)) (fun c_5 => ?_)
        refine lv_aload_n hx hb dX12_notice_27 rfl (lv_at hl 0 rfl) ?_
        refine va_get (D := (dC, dI)) (ci := 11) (v := .ref (v 4)) (C := RX12) (T := TX12) (N := 52) hx hb hts (by decide +kernel) hown hK hP 0 rfl rfl 4 (by decide) (hts (.fieldLink RX12 19 "PageOneModel" "kind" "[I") (by decide +kernel)) (fun _ h9 => h9) rfl dX12_notice_28 ?_
        refine lv_iload_n hx hb dX12_notice_31 rfl (lv_at hl 1 rfl) ?_
        refine va_iald hx hb hK hP 4 0 rfl rfl (vIt hn b_2) dX12_notice_32 ?_
        refine lv_iconst (v := 5) hx hb dX12_notice_33 (by decide) ?_
        refine lv_icmp_eq (tgt := 46) hx hb dX12_notice_34 (by decide) (fun c_6 => ?_) (fun c_6 => ?_)
        ·
          refine lv_iconst (v := (-1)) hx hb dX12_notice_46 (by decide) ?_
          exact W.iret (v := (-1)) hx hb hr (fun t ht hW => ⟨⟨(-1), u, rfl, (Or.inl rfl), by rw [ht]; exact hP, hD⟩, hS.F ht⟩) hS.2.2 dX12_notice_47
        ·
          refine lv_aload_n hx hb dX12_notice_37 rfl (lv_at hl 0 rfl) ?_
          refine lv_iload_n hx hb dX12_notice_38 rfl (lv_at hl 1 rfl) ?_
          refine lv_iconst (v := 0) hx hb dX12_notice_39 (by decide) ?_
          refine vp_callSi (va_runV (As := [.int p0, .int 0]) (rest := []) ⟨hx, hb, hml, hown, hts⟩ (m_printed l dC dI h0 v cI cZ u p0 0 hn) (cwV 2 hts gX12_notice_X12_printed rfl rfl rfl (by decide +kernel) ⟨Nat.le_of_ble_eq_true rfl, Nat.le_of_ble_eq_true rfl⟩) ⟨pw_fb, va_recv hK hP (ci := 11) (q0 := 0) rfl rfl, fun U hU hW => ⟨rfl, pw_to hU hW hP hK hN⟩⟩ rfl rfl hl.1 rfl (lv_room (Nat.le_of_ble_eq_true rfl)) dX12_notice_40 ⟨Nat.le_of_ble_eq_true rfl, Nat.le_of_ble_eq_true rfl⟩).run (fun r hw => ?_)
          generalize r = z_7 at hw ⊢
          have hz_7 := hw
          refine lv_if_ge (tgt := 48) hx hb dX12_notice_43 (by decide) (fun c_8 => ?_) (fun c_8 => ?_)
          ·
            refine lv_iconst (v := 0) hx hb dX12_notice_48 (by decide) ?_
            refine lv_istore_n (lv' := [(3, .int 0), (0, .ref h0), (1, .int p0), (2, .int p1)]) hx hb dX12_notice_49 rfl hl (by decide) rfl (fun ls hl => ?_)
            obtain ⟨eK, eK2, eK3⟩ := nI_of_bw hn
            have h80 : (80 : Int32).toInt = 80 := rfl
            refine m_nt_loop (M := (u.1 3).toNatClampNeg) hx hb hml hts hown hN hK hP (by omega) eK (fun ls hl => ?_) (fun ls hl => ?_) _ 0 ls (Nat.zero_le _) (Nat.lt_succ_self _) (lv_sub hl [0, 1, 2, 3] rfl)
            ·
              refine lv_iconst (v := (-1)) hx hb dX12_notice_78 (by decide) ?_
              exact W.iret (v := (-1)) hx hb hr (fun t ht hW => ⟨⟨(-1), u, rfl, (Or.inl rfl), by rw [ht]; exact hP, hD⟩, hS.F ht⟩) hS.2.2 dX12_notice_79
            ·
              refine lv_aload_n hx hb dX12_notice_86 rfl (lv_at hl 0 rfl) ?_
              refine lv_iconst (v := 5) hx hb dX12_notice_87 (by decide) ?_
              have hFc := fr_all hD hS hA
              refine va_calli (va_runV (As := [.int 5]) (rest := []) ⟨hx, hb, hml, hown, hts⟩ (m_made l dC dI h0 v cI cZ u 5 hn c_1 s.heap.size) (cwV 1 hts gX12_notice_X12_made rfl rfl rfl (by decide +kernel) ⟨Nat.le_of_ble_eq_true rfl, Nat.le_of_ble_eq_true rfl⟩) ⟨gw_fb, va_recv hK hP (ci := 11) (q0 := 0) rfl rfl, fun U hU hW => ⟨rfl, by rw [hU], pw_to hU hW hP hK hN, hD.weaken (fun _ _ _ _ => trivial)⟩⟩ rfl rfl hl.1 rfl (lv_room (Nat.le_of_ble_eq_true rfl)) dX12_notice_88 ⟨Nat.le_of_ble_eq_true rfl, Nat.le_of_ble_eq_true rfl⟩) hS (fun q _ h => hFc q h) hFc (fun r u_9 t H1 locs ht hvm hw hB hz1 hk1 hS => ?_)
              obtain ⟨hP, hD1⟩ := hB
              rw [ht] at hP
              have hD := hD1.weaken (fun _ q _ h => hFc q.1 h)
              generalize H1 = H at hP hS ⊢
              obtain ⟨rfl, eu_9⟩ := hw
              refine lv_istore_n (lv' := [(3, .int (u.1 3)), (0, .ref h0), (1, .int p0), (2, .int p1)]) hx hb dX12_notice_91 rfl hl (by decide) rfl (fun ls hl => ?_)
              refine lv_aload_n hx hb dX12_notice_92 rfl (lv_at hl 1 rfl) ?_
              refine va_get (D := (dC, dI)) (ci := 11) (v := .ref (v 9)) (C := RX12) (T := TX12) (N := 52) hx hb hts (by decide +kernel) hown hK hP 0 rfl rfl 9 (by decide) (hts (.fieldLink RX12 34 "PageOneModel" "of" "[I") (by decide +kernel)) (fun _ h9 => h9) rfl dX12_notice_93 ?_
              refine lv_iload_n hx hb dX12_notice_96 rfl (lv_at hl 0 rfl) ?_
              refine lv_iload_n hx hb dX12_notice_97 rfl (lv_at hl 2 rfl) ?_
              refine va_iast hx hb hK hP hD hS 9 0 rfl rfl (vNew hn c_1) dX12_notice_98 (fun H locs hP hD hS => ?_)
              obtain ⟨u_10, eu_10⟩ : ∃ zz : mS, zz = mst u_9 9 (u.1 3) p0 := ⟨_, rfl⟩
              have hP : va_P (dC, dI) vwCl (mW h0 v cI cZ u_10) H := by rw [eu_10]; exact hP
              have hD : va_D A (mW h0 v cI cZ u_10) := by rw [eu_10]; exact hD
              refine lv_aload_n hx hb dX12_notice_99 rfl (lv_at hl 1 rfl) ?_
              refine va_get (D := (dC, dI)) (ci := 11) (v := .ref (v 8)) (C := RX12) (T := TX12) (N := 52) hx hb hts (by decide +kernel) hown hK hP 0 rfl rfl 8 (by decide) (hts (.fieldLink RX12 31 "PageOneModel" "high" "[I") (by decide +kernel)) (fun _ h9 => h9) rfl dX12_notice_100 ?_
              refine lv_iload_n hx hb dX12_notice_103 rfl (lv_at hl 0 rfl) ?_
              refine lv_iload_n hx hb dX12_notice_104 rfl (lv_at hl 3 rfl) ?_
              refine va_iast hx hb hK hP hD hS 8 0 rfl rfl (vNew hn c_1) dX12_notice_105 (fun H locs hP hD hS => ?_)
              obtain ⟨u_11, eu_11⟩ : ∃ zz : mS, zz = mst u_10 8 (u.1 3) p1 := ⟨_, rfl⟩
              have hP : va_P (dC, dI) vwCl (mW h0 v cI cZ u_11) H := by rw [eu_11]; exact hP
              have hD : va_D A (mW h0 v cI cZ u_11) := by rw [eu_11]; exact hD
              refine lv_iload_n hx hb dX12_notice_106 rfl (lv_at hl 0 rfl) ?_
              exact W.iret (v := (u.1 3)) hx hb hr (fun t ht hW => ⟨⟨(u.1 3), u_11, rfl, (Or.inr ⟨c_1, b_2, by subst eu_9 eu_10 eu_11; rfl⟩), by rw [ht]; exact hP, hD⟩, hS.F ht⟩) hS.2.2 dX12_notice_107
          ·
            refine lv_iconst (v := (-1)) hx hb dX12_notice_46 (by decide) ?_
            exact W.iret (v := (-1)) hx hb hr (fun t ht hW => ⟨⟨(-1), u, rfl, (Or.inl rfl), by rw [ht]; exact hP, hD⟩, hS.F ht⟩) hS.2.2 dX12_notice_47
      ·
        obtain rfl : r = 0 := b_f hw b_4
        refine lv_if_eq (tgt := 46) hx hb dX12_notice_24 (by decide) (fun c_12 => ?_) (fun c_12 => absurd (by decide) c_12)
        refine lv_iconst (v := (-1)) hx hb dX12_notice_46 (by decide) ?_
        exact W.iret (v := (-1)) hx hb hr (fun t ht hW => ⟨⟨(-1), u, rfl, (Or.inl rfl), by rw [ht]; exact hP, hD⟩, hS.F ht⟩) hS.2.2 dX12_notice_47
    ·
      obtain rfl : r = 0 := b_f hw b_2
      refine lv_if_eq (tgt := 46) hx hb dX12_notice_14 (by decide) (fun c_13 => ?_) (fun c_13 => absurd (by decide) c_13)
      refine lv_iconst (v := (-1)) hx hb dX12_notice_46 (by decide) ?_
      exact W.iret (v := (-1)) hx hb hr (fun t ht hW => ⟨⟨(-1), u, rfl, (Or.inl rfl), by rw [ht]; exact hP, hD⟩, hS.F ht⟩) hS.2.2 dX12_notice_47
