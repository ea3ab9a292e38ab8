theorem putR (u : mS) (i : Int32) (P X Y D N : Nat) : (mActs (mStand u i P X Y D N) 0 i 0 0 0 0 0).2 22 i.toNatClampNeg = u.2 22 i.toNatClampNeg + 1 := by
  rw [mActs_k _ _ _ _ _ _ _ _ (by omega), mStand_22]
noncomputable def okP0 (u : mS) (p0 p1 p2 p3 p4 : Int32) : Prop := bw p0 0 (u.1 3 - 1) = true ∧ ¬ u.1 28 = 300 ∧ (True) ∧ ¬ p4 < 1 ∧ (True) ∧ mFreeP u p1 p2 p3 1 p4 ∧ (runX u p0 p1.toNatClampNeg p2.toNatClampNeg p3.toNatClampNeg p4.toNatClampNeg)
noncomputable def okP1 (u : mS) (p0 p1 p2 p3 p4 : Int32) : Prop := bw p0 0 (u.1 3 - 1) = true ∧ ¬ u.1 28 = 300 ∧ (p4 = 0) ∧ ¬ (u.2 8 p0.toNatClampNeg) < 1 ∧ (u.2 22 p0.toNatClampNeg = 0) ∧ mFreeP u p1 p2 p3 (u.2 7 p0.toNatClampNeg) (u.2 8 p0.toNatClampNeg) ∧ (True)
noncomputable def okP2 (u : mS) (p0 p1 p2 p3 p4 : Int32) : Prop := bw p0 0 (u.1 3 - 1) = true ∧ ¬ u.1 28 = 300 ∧ (bw p4 0 (u.2 17 p0.toNatClampNeg - 1) = true) ∧ ¬ (u.2 19 (4 * p0 + p4).toNatClampNeg) < 1 ∧ (u.2 22 p0.toNatClampNeg = 0) ∧ mFreeP u p1 p2 p3 (u.2 18 (4 * p0 + p4).toNatClampNeg) (u.2 19 (4 * p0 + p4).toNatClampNeg) ∧ (True)
noncomputable def okP3 (u : mS) (p0 p1 p2 p3 p4 : Int32) : Prop := bw p0 0 (u.1 3 - 1) = true ∧ ¬ u.1 28 = 300 ∧ (p4 = 0) ∧ ¬ (u.2 8 p0.toNatClampNeg) < 1 ∧ (u.2 22 p0.toNatClampNeg = 0) ∧ mFreeP u p1 p2 p3 (u.2 7 p0.toNatClampNeg) (u.2 8 p0.toNatClampNeg) ∧ (p1 = u.2 11 p0.toNatClampNeg ∧ p2 = u.2 12 p0.toNatClampNeg ∧ p3 = u.2 13 p0.toNatClampNeg)
noncomputable def okP4 (u : mS) (p0 p1 p2 p3 p4 : Int32) : Prop := bw p0 0 (u.1 3 - 1) = true ∧ ¬ u.1 28 = 300 ∧ (True) ∧ ¬ p4 < 1 ∧ (u.2 22 p0.toNatClampNeg = 0) ∧ mFreeP u p1 p2 p3 1 p4 ∧ (bw p4 (u.2 5 p0.toNatClampNeg) (u.2 6 p0.toNatClampNeg) = true)
noncomputable def okP5 (u : mS) (p0 p1 p2 p3 p4 : Int32) : Prop := bw p0 0 (u.1 3 - 1) = true ∧ ¬ u.1 28 = 300 ∧ (p4 = 0) ∧ ¬ (u.2 8 p0.toNatClampNeg) < 1 ∧ (u.2 22 p0.toNatClampNeg = 0) ∧ mFreeP u p1 p2 p3 1 (u.2 8 p0.toNatClampNeg) ∧ (¬ mMend u p0 p1 p2 = 0)
/-- what the reference's put does: ok, columns, lines -/
def rPut (u : mS) (p0 p1 p2 p3 W H : Int32) (ok : Prop) (r : Int32) (u9 : mS) : Prop := (r = (-1) ∧ ¬ ok ∧ (u9 = u ∨ (bw p0 0 (u.1 3 - 1) = true ∧ ∃ P X Y N, p1 = nI P ∧ p2 = nI X ∧ p3 = nI Y ∧ P < 12 ∧ X + 1 ≤ 8 ∧ Y + N ≤ 60 ∧ 1 ≤ N ∧ mFreeP u (nI P) (nI X) (nI Y) 1 (nI N) ∧ ¬ u.2 22 p0.toNatClampNeg = 6 ∧ u9 = mTry u p0 P X Y N))) ∨ (ok ∧ r = u.2 22 p0.toNatClampNeg + 1 ∧ ∃ P X Y D N, p1 = nI P ∧ p2 = nI X ∧ p3 = nI Y ∧ W = nI D ∧ H = nI N ∧ P < 12 ∧ X + D ≤ 8 ∧ Y + N ≤ 60 ∧ 1 ≤ D ∧ 1 ≤ N ∧ (u9 = mActs (mStand u p0 P X Y D N) 0 p0 0 0 0 0 0 ∨ (¬ u.2 22 p0.toNatClampNeg = 6 ∧ u9 = mActs (mStand (mTry u p0 P X Y N) p0 P X Y D N) 0 p0 0 0 0 0 0)))
set_option maxHeartbeats 4000000 in
set_option maxRecDepth 100000 in
theorem n_put0 (l : Launch) (dC : Nat → ClassId) (dI : Nat → Nat → Nat) (h0 : Nat) (v : Nat → Nat) (cI cZ : ClassId) (u : mS) (p0 p1 p2 p3 p4 : Int32) (hn : bw (u.1 3) 0 80 = true) (hln : ∀ j, j < 96 → bw (u.2 0 j) 0 60 = true) (hd : bw (u.1 38) 0 399 = true) (ha : bw (u.1 28) 0 300 = true) (hpc : ∀ j, j < 80 → bw (u.2 22 j) 0 6 = true) (hcm : ∀ j, j < 80 → bw (u.2 15 j) 0 80 = true) (hsz : ∀ j, j < 80 → bw (u.2 17 j) 0 4 = true) (hfr : bw p0 0 79 = true → ∀ P X Y N : Nat, P < 12 → X + 1 ≤ 8 → 1 ≤ N → Y + N ≤ 60 → ¬ u.2 22 p0.toNatClampNeg = 6 → runG (mStand u p0 P X Y 1 N) p0 (u.2 22 p0.toNatClampNeg) → 0 ≤ (mFrom (mStand u p0 P X Y 1 N) p0 (u.2 22 p0.toNatClampNeg).toNatClampNeg).toInt ∧ (mFrom (mStand u p0 P X Y 1 N) p0 (u.2 22 p0.toNatClampNeg).toNatClampNeg).toInt ≤ 400 ∧ (mTakes (mStand u p0 P X Y 1 N) p0 (u.2 22 p0.toNatClampNeg)).toInt ≤ 60) (hK9 : bw p0 0 (u.1 3 - 1) = true → u.2 4 p0.toNatClampNeg = 0) (sz : Nat) : Met l yX12_put wsX12_put ({ frames := 4, cells := 0, slots := 0, locals := 106 }) (va_Pc [.ref h0, .int p0, .int p1, .int p2, .int p3, .int p4] (fun U => U.heap.size = sz ∧ PW dC dI (mW h0 v cI cZ u) [(cI, .int), (cZ, .boolean)] U ∧ va_D (fun _ => True) (mW h0 v cI cZ u))) (va_Qi (fun (r : Int32) (u9 : mS) => rPut u p0 p1 p2 p3 1 p4 (okP0 u p0 p1 p2 p3 p4) r u9) (fun u9 t => va_P (dC, dI) vwCl (mW h0 v cI cZ u9) t.heap ∧ va_D (va_A (mW h0 v cI cZ u) sz) (mW h0 v cI cZ u9)) (va_A (mW h0 v cI cZ u) sz)) 0 0 (va_A (mW h0 v cI cZ u) sz) := by
  refine Met.ofW (cc := cX12_put) (maxL := 10) (ret := (some .int)) (by decide) rfl ?_
  intro p e s m args below meth c s₁ B hml hv
  obtain ⟨rfl, hsz, ⟨hP, hK, hN⟩, hD0⟩ := hv
  have hx := B.exec
  have hb := B.bytes
  have hr := B.returns
  have hts := atoms_spec (ws := wsX12_put) B.pre
  have hown : s.vm.findClass RX12 = some m.cls := findClass_of_methodNamed B.named
  have hlocks := B.notSynchronized
  subst hsz
  have hD := hD0.self (sz := s.heap.size)
  generalize hAe : va_A (mW h0 v cI cZ u) s.heap.size = A at hD ⊢
  have hA : ∀ q : Nat, s.heap.size ≤ q → A q := fun q h => by rw [← hAe]; exact Or.inr h
  have hS : va_S A s.heap s.heap [] := va_S.rf
  have hl := lv_entry ([.ref h0, .int p0, .int p1, .int p2, .int p3, .int p4]) (n := 10) (Nat.le_of_ble_eq_true rfl)
  rw [lg_entry_eq]
  generalize (lg_sl ([.ref h0, .int p0, .int p1, .int p2, .int p3, .int p4]) ++ List.replicate (10 - (lg_sl ([.ref h0, .int p0, .int p1, .int p2, .int p3, .int p4])).length) Slot.unset).toArray = ls at hl ⊢
  have hl : lv_has ls 10 [(0, .ref h0), (1, .int p0), (2, .int p1), (3, .int p2), (4, .int p3), (5, .int p4)] := hl
  refine lv_aload_n hx hb dX12_put_0 rfl (lv_at hl 0 rfl) ?_
  refine lv_iload_n hx hb dX12_put_1 rfl (lv_at hl 1 rfl) ?_
  refine vp_callSi (va_runV (As := [.int p0]) (rest := []) ⟨hx, hb, hml, hown, hts⟩ (m_isItem l dC dI h0 v cI cZ u p0) (cwV 1 hts gX12_put_X12_isItem rfl rfl rfl (by decide +kernel) ⟨Nat.le_of_ble_eq_true rfl, Nat.le_of_ble_eq_true rfl⟩) ⟨pw_fb, va_recv hK hP (ci := 11) (q0 := 0) rfl rfl, fun U hU hW => ⟨rfl, pw_to hU hW hP hK hN⟩⟩ rfl rfl hl.1 rfl (lv_room (Nat.le_of_ble_eq_true rfl)) dX12_put_2 ⟨Nat.le_of_ble_eq_true rfl, Nat.le_of_ble_eq_true rfl⟩).run (fun r hw => ?_)
  rcases Bool.eq_false_or_eq_true (bw p0 0 (u.1 3 - 1)) with b_1 | b_1
  ·
    obtain rfl : r = 1 := b_t hw b_1
    refine lv_if_eq (tgt := 18) hx hb dX12_put_5 (by decide) (fun c_2 => absurd c_2 (by decide)) (fun c_2 => ?_)
    refine lv_aload_n hx hb dX12_put_8 rfl (lv_at hl 0 rfl) ?_
    refine va_get (D := (dC, dI)) (ci := 11) (v := .int (u.1 28)) (C := RX12) (T := TX12) (N := 52) hx hb hts (by decide +kernel) hown hK hP 0 rfl rfl 28 (by decide) (hts (.fieldLink RX12 158 "PageOneModel" "acts" "I") (by decide +kernel)) (fun _ h9 => h9) rfl dX12_put_9 ?_
    refine lv_sipush (v := 300) hx hb dX12_put_12 (by decide) ?_
    refine lv_icmp_ne (tgt := 20) hx hb dX12_put_15 (by decide) (fun c_3 => ?_) (fun c_3 => ?_)
    ·
      refine lv_aload_n hx hb dX12_put_20 rfl (lv_at hl 0 rfl) ?_
      refine va_get (D := (dC, dI)) (ci := 11) (v := .ref (v 4)) (C := RX12) (T := TX12) (N := 52) hx hb hts (by decide +kernel) hown hK hP 0 rfl rfl 4 (by decide) (hts (.fieldLink RX12 19 "PageOneModel" "kind" "[I") (by decide +kernel)) (fun _ h9 => h9) rfl dX12_put_21 ?_
      refine lv_iload_n hx hb dX12_put_24 rfl (lv_at hl 1 rfl) ?_
      refine va_iald hx hb hK hP 4 0 rfl rfl (vin (it79 hn b_1) (by decide)) dX12_put_25 ?_
      refine lv_topi (fun y_4 ey_4 => ?_)
      obtain rfl : y_4 = 0 := ey_4.trans (hK9 b_1)
      refine lv_istore (lv' := [(6, .int 0), (0, .ref h0), (1, .int p0), (2, .int p1), (3, .int p2), (4, .int p3), (5, .int p4)]) hx hb dX12_put_26 hl (by decide) rfl (fun ls hl => ?_)
      refine lv_iload hx hb dX12_put_28 (lv_at hl 0 rfl) ?_
      refine lv_iconst (v := 1) hx hb dX12_put_30 (by decide) ?_
      refine lv_icmp_eq (tgt := 40) hx hb dX12_put_31 (by decide) (fun c_5 => absurd c_5 (by decide)) (fun c_5 => ?_)
      refine lv_iload hx hb dX12_put_34 (lv_at hl 0 rfl) ?_
      refine lv_iconst (v := 3) hx hb dX12_put_36 (by decide) ?_
      refine lv_icmp_ne (tgt := 49) hx hb dX12_put_37 (by decide) (fun c_6 => ?_) (fun c_6 => absurd c_6 (by decide))
      refine lv_iconst (v := 1) hx hb dX12_put_49 (by decide) ?_
      refine lv_istore (lv' := [(7, .int 1), (6, .int 0), (0, .ref h0), (1, .int p0), (2, .int p1), (3, .int p2), (4, .int p3), (5, .int p4)]) hx hb dX12_put_50 hl (by decide) rfl (fun ls hl => ?_)
      refine lv_iload hx hb dX12_put_52 (lv_at hl 1 rfl) ?_
      refine lv_if_eq (tgt := 63) hx hb dX12_put_54 (by decide) (fun c_7 => ?_) (fun c_7 => absurd (by decide) c_7)
      refine lv_iload hx hb dX12_put_63 (lv_at hl 7 rfl) ?_
      refine lv_goto (tgt := 74) hx hb dX12_put_65 (by decide) ?_
      refine lv_istore (lv' := [(8, .int p4), (7, .int 1), (6, .int 0), (0, .ref h0), (1, .int p0), (2, .int p1), (3, .int p2), (4, .int p3), (5, .int p4)]) hx hb dX12_put_74 hl (by decide) rfl (fun ls hl => ?_)
      refine lv_iload hx hb dX12_put_76 (lv_at hl 2 rfl) ?_
      refine lv_iconst (v := 2) hx hb dX12_put_78 (by decide) ?_
      refine lv_icmp_ne (tgt := 127) hx hb dX12_put_79 (by decide) (fun c_8 => ?_) (fun c_8 => absurd c_8 (by decide))
      refine lv_iload hx hb dX12_put_127 (lv_at hl 2 rfl) ?_
      refine lv_if_eq (tgt := 149) hx hb dX12_put_129 (by decide) (fun c_9 => ?_) (fun c_9 => absurd (by decide) c_9)
      refine lv_iconst (v := 1) hx hb dX12_put_149 (by decide) ?_
      refine lv_goto (tgt := 154) hx hb dX12_put_150 (by decide) ?_
      refine lv_istore (lv' := [(9, .int 1), (8, .int p4), (7, .int 1), (6, .int 0), (0, .ref h0), (1, .int p0), (2, .int p1), (3, .int p2), (4, .int p3), (5, .int p4)]) hx hb dX12_put_154 hl (by decide) rfl (fun ls hl => ?_)
      refine lv_iload hx hb dX12_put_156 (lv_at hl 0 rfl) ?_
      refine lv_if_eq (tgt := 200) hx hb dX12_put_158 (by decide) (fun c_10 => absurd c_10 (by decide)) (fun c_10 => ?_)
      refine lv_iload hx hb dX12_put_161 (lv_at hl 1 rfl) ?_
      refine lv_iconst (v := 1) hx hb dX12_put_163 (by decide) ?_
      refine lv_icmp_lt (tgt := 200) hx hb dX12_put_164 (by decide) (fun c_11 => ?_) (fun c_11 => ?_)
      ·
        refine lv_iconst (v := 0) hx hb dX12_put_200 (by decide) ?_
        refine lv_istore (lv' := [(9, .int 0), (8, .int p4), (7, .int 1), (6, .int 0), (0, .ref h0), (1, .int p0), (2, .int p1), (3, .int p2), (4, .int p3), (5, .int p4)]) hx hb dX12_put_201 hl (by decide) rfl (fun ls hl => ?_)
        refine lv_iload hx hb dX12_put_203 (lv_at hl 0 rfl) ?_
        refine lv_if_ne (tgt := 210) hx hb dX12_put_205 (by decide) (fun c_12 => absurd (by decide) c_12) (fun c_12 => ?_)
        refine lv_iconst (v := (-1)) hx hb dX12_put_208 (by decide) ?_
        exact W.iret (v := (-1)) hx hb hr (fun t ht hW => ⟨⟨(-1), u, rfl, (Or.inl ⟨rfl, (fun h => h.2.2.2.1 c_11), Or.inl rfl⟩), by rw [ht]; exact hP, hD⟩, hS.F ht⟩) hS.2.2 dX12_put_209
      ·
        refine lv_iload hx hb dX12_put_167 (lv_at hl 3 rfl) ?_
        refine lv_if_eq (tgt := 181) hx hb dX12_put_169 (by decide) (fun c_13 => ?_) (fun c_13 => absurd (by decide) c_13)
        refine lv_aload_n hx hb dX12_put_181 rfl (lv_at hl 4 rfl) ?_
        refine lv_iload_n hx hb dX12_put_182 rfl (lv_at hl 6 rfl) ?_
        refine lv_iload_n hx hb dX12_put_183 rfl (lv_at hl 7 rfl) ?_
        refine lv_iload hx hb dX12_put_184 (lv_at hl 8 rfl) ?_
        refine lv_iload hx hb dX12_put_186 (lv_at hl 2 rfl) ?_
        refine lv_iload hx hb dX12_put_188 (lv_at hl 1 rfl) ?_
        refine vp_callSi (va_runV (As := [.int p1, .int p2, .int p3, .int 1, .int p4]) (rest := []) ⟨hx, hb, hml, hown, hts⟩ (m_isFree l dC dI h0 v cI cZ u p1 p2 p3 1 p4 hln) (cwV 5 hts gX12_put_X12_isFree rfl rfl rfl (by decide +kernel) ⟨Nat.le_of_ble_eq_true rfl, Nat.le_of_ble_eq_true rfl⟩) ⟨pw_fb, va_recv hK hP (ci := 11) (q0 := 0) rfl rfl, fun U hU hW => ⟨rfl, pw_to hU hW hP hK hN⟩⟩ rfl rfl hl.1 rfl (lv_room (Nat.le_of_ble_eq_true rfl)) dX12_put_190 ⟨Nat.le_of_ble_eq_true rfl, Nat.le_of_ble_eq_true rfl⟩).run (fun r hw => ?_)
        have hit := b_1
        have hi := it79 hn hit
        have h300 := c_3
        rcases hw with ⟨hw, hfree⟩ | ⟨hw, hfree⟩
        ·
          subst hw
          have hfree0 := hfree
          obtain ⟨P, X, Y, D, N, eP, eX, eY, eD, eN, hPP, hXW, hYN, hDD1, hN1⟩ := free_rect hln hfree
          subst eP eX eY
          obtain rfl : D = 1 := (nI_inj (by omega) (by decide)).mp (show nI D = nI 1 from eD.symm)
          subst eN
          refine lv_if_eq (tgt := 200) hx hb dX12_put_193 (by decide) (fun c_14 => absurd c_14 (by decide)) (fun c_14 => ?_)
          refine lv_iconst (v := 1) hx hb dX12_put_196 (by decide) ?_
          refine lv_goto (tgt := 201) hx hb dX12_put_197 (by decide) ?_
          refine lv_istore (lv' := [(9, .int 1), (8, .int (nI N)), (7, .int 1), (6, .int 0), (0, .ref h0), (1, .int p0), (2, .int (nI P)), (3, .int (nI X)), (4, .int (nI Y)), (5, .int (nI N))]) hx hb dX12_put_201 hl (by decide) rfl (fun ls hl => ?_)
          refine lv_iload hx hb dX12_put_203 (lv_at hl 0 rfl) ?_
          refine lv_if_ne (tgt := 210) hx hb dX12_put_205 (by decide) (fun c_15 => ?_) (fun c_15 => absurd c_15 (by decide))
          refine lv_iload hx hb dX12_put_210 (lv_at hl 3 rfl) ?_
          refine lv_tableIn (tgt := 252) (off := 40) hx hb dX12_put_212 (by decide) (by decide) (by decide) (by decide) ?_
          refine lv_aload_n hx hb dX12_put_252 rfl (lv_at hl 4 rfl) ?_
          refine lv_iload_n hx hb dX12_put_253 rfl (lv_at hl 5 rfl) ?_
          refine lv_iload_n hx hb dX12_put_254 rfl (lv_at hl 6 rfl) ?_
          refine lv_iload_n hx hb dX12_put_255 rfl (lv_at hl 7 rfl) ?_
          refine lv_iload hx hb dX12_put_256 (lv_at hl 8 rfl) ?_
          refine lv_iload hx hb dX12_put_258 (lv_at hl 1 rfl) ?_
          have hFc := fr_all hD hS hA
          refine va_calli (va_runV (As := [.int p0, .int (nI P), .int (nI X), .int (nI Y), .int (nI N)]) (rest := []) ⟨hx, hb, hml, hown, hts⟩ (n_mayRun l dC dI h0 v cI cZ u p0 P X Y N hPP (by omega) hYN hi (hpc _ (vlt (vin hi (by decide)))) (hcm _ (vlt (vin hi (by decide)))) (fun h => by rw [add_sub1]; exact v6a hi (k5 (hpc _ (vlt (vin hi (by decide)))) (bwS (hpc _ (vlt (vin hi (by decide)))) h)) rfl) (hfr hi P X Y N hPP (by omega) hN1 hYN) s.heap.size) (cwV 5 hts gX12_put_X12_mayRun rfl rfl rfl (by decide +kernel) ⟨Nat.le_of_ble_eq_true rfl, Nat.le_of_ble_eq_true rfl⟩) ⟨gw_fb, va_recv hK hP (ci := 11) (q0 := 0) rfl rfl, fun U hU hW => ⟨rfl, by rw [hU], pw_to hU hW hP hK hN, hD.weaken (fun _ _ _ _ => trivial)⟩⟩ rfl rfl hl.1 rfl (lv_room (Nat.le_of_ble_eq_true rfl)) dX12_put_260 ⟨Nat.le_of_ble_eq_true rfl, Nat.le_of_ble_eq_true rfl⟩) hS (fun q _ h => hFc q h) hFc (fun r u_16 t H1 locs ht hvm hw hB hz1 hk1 hS => ?_)
          obtain ⟨hP, hD1⟩ := hB
          rw [ht] at hP
          have hD := hD1.weaken (fun _ q _ h => hFc q.1 h)
          generalize H1 = H at hP hS ⊢
          generalize r = z_17 at hw ⊢
          have hrun := hw
          have hJ1 : u_16.1 28 = u.1 28 := by rcases hrun with ⟨-, h, -⟩ | ⟨-, -, h⟩ <;> rw [h] <;> rfl
          have hJ2 : u_16.2 22 p0.toNatClampNeg = u.2 22 p0.toNatClampNeg := hrun.elim (fun h => by rw [h.2.1]) (fun h => by rw [h.2.2]; exact mTry_22 _ _ _ _ _ _)
          refine lv_istore (lv' := [(9, .int z_17), (8, .int (nI N)), (7, .int 1), (6, .int 0), (0, .ref h0), (1, .int p0), (2, .int (nI P)), (3, .int (nI X)), (4, .int (nI Y)), (5, .int (nI N))]) hx hb dX12_put_263 hl (by decide) rfl (fun ls hl => ?_)
          refine lv_goto (tgt := 343) hx hb dX12_put_265 (by decide) ?_
          refine lv_iload hx hb dX12_put_343 (lv_at hl 0 rfl) ?_
          refine lv_if_ne (tgt := 350) hx hb dX12_put_345 (by decide) (fun c_18 => ?_) (fun c_18 => ?_)
          ·
            refine lv_aload_n hx hb dX12_put_350 rfl (lv_at hl 4 rfl) ?_
            refine lv_iload_n hx hb dX12_put_351 rfl (lv_at hl 5 rfl) ?_
            refine lv_iload_n hx hb dX12_put_352 rfl (lv_at hl 6 rfl) ?_
            refine lv_iload_n hx hb dX12_put_353 rfl (lv_at hl 7 rfl) ?_
            refine lv_iload hx hb dX12_put_354 (lv_at hl 8 rfl) ?_
            refine lv_iload hx hb dX12_put_356 (lv_at hl 2 rfl) ?_
            refine lv_iload hx hb dX12_put_358 (lv_at hl 1 rfl) ?_
            have hFc := fr_all hD hS hA
            refine va_callv (va_runV (As := [.int p0, .int (nI P), .int (nI X), .int (nI Y), .int 1, .int (nI N)]) (rest := []) ⟨hx, hb, hml, hown, hts⟩ (m_stand l dC dI h0 v cI cZ u_16 p0 P X Y 1 N hPP hXW hYN hi (by rw [hJ2]; exact q05 (hpc _ (vlt (vin hi (by decide)))) (hrun.elim (fun h => absurd h.1 c_18) (fun h => h.2.1))) H.size) (cwV 6 hts gX12_put_X12_stand rfl rfl rfl (by decide +kernel) ⟨Nat.le_of_ble_eq_true rfl, Nat.le_of_ble_eq_true rfl⟩) ⟨gw_fb, va_recv hK hP (ci := 11) (q0 := 0) rfl rfl, fun U hU hW => ⟨rfl, by rw [hU], pw_to hU hW hP hK hN, hD.weaken (fun _ _ _ _ => trivial)⟩⟩ rfl rfl hl.1 rfl (lv_room (Nat.le_of_ble_eq_true rfl)) dX12_put_360 ⟨Nat.le_of_ble_eq_true rfl, Nat.le_of_ble_eq_true rfl⟩) hS (fun q _ h => hFc q h) hFc (fun u_19 t H1 locs ht hvm hw hB hz1 hk1 hS => ?_)
            obtain ⟨hP, hD1⟩ := hB
            rw [ht] at hP
            have hD := hD1.weaken (fun _ q _ h => hFc q.1 h)
            generalize H1 = H at hP hS ⊢
            have eu_19 := hw
            refine lv_aload_n hx hb dX12_put_363 rfl (lv_at hl 4 rfl) ?_
            refine lv_iconst (v := 0) hx hb dX12_put_364 (by decide) ?_
            refine lv_iload_n hx hb dX12_put_365 rfl (lv_at hl 5 rfl) ?_
            refine lv_iconst (v := 0) hx hb dX12_put_366 (by decide) ?_
            refine lv_iconst (v := 0) hx hb dX12_put_367 (by decide) ?_
            refine lv_iconst (v := 0) hx hb dX12_put_368 (by decide) ?_
            refine lv_iconst (v := 0) hx hb dX12_put_369 (by decide) ?_
            refine lv_iconst (v := 0) hx hb dX12_put_370 (by decide) ?_
            have hFc := fr_all hD hS hA
            refine va_callv (va_runV (As := [.int 0, .int p0, .int 0, .int 0, .int 0, .int 0, .int 0]) (rest := []) ⟨hx, hb, hml, hown, hts⟩ (m_acts l dC dI h0 v cI cZ u_19 0 p0 0 0 0 0 0 (by rw [eu_19]; show bw (u_16.1 28) 0 299 = true; rw [hJ1]; exact v300 ha h300) H.size) (cwV 7 hts gX12_put_X12_acts rfl rfl rfl (by decide +kernel) ⟨Nat.le_of_ble_eq_true rfl, Nat.le_of_ble_eq_true rfl⟩) ⟨gw_fb, va_recv hK hP (ci := 11) (q0 := 0) rfl rfl, fun U hU hW => ⟨rfl, by rw [hU], pw_to hU hW hP hK hN, hD.weaken (fun _ _ _ _ => trivial)⟩⟩ rfl rfl hl.1 rfl (lv_room (Nat.le_of_ble_eq_true rfl)) dX12_put_371 ⟨Nat.le_of_ble_eq_true rfl, Nat.le_of_ble_eq_true rfl⟩) hS (fun q _ h => hFc q h) hFc (fun u_20 t H1 locs ht hvm hw hB hz1 hk1 hS => ?_)
            obtain ⟨hP, hD1⟩ := hB
            rw [ht] at hP
            have hD := hD1.weaken (fun _ q _ h => hFc q.1 h)
            generalize H1 = H at hP hS ⊢
            have eu_20 := hw
            refine lv_aload_n hx hb dX12_put_374 rfl (lv_at hl 4 rfl) ?_
            refine va_get (D := (dC, dI)) (ci := 11) (v := .ref (v 22)) (C := RX12) (T := TX12) (N := 52) hx hb hts (by decide +kernel) hown hK hP 0 rfl rfl 22 (by decide) (hts (.fieldLink RX12 74 "PageOneModel" "pieces" "[I") (by decide +kernel)) (fun _ h9 => h9) rfl dX12_put_375 ?_
            refine lv_iload_n hx hb dX12_put_378 rfl (lv_at hl 5 rfl) ?_
            refine va_iald hx hb hK hP 22 0 rfl rfl (vin (it79 hn b_1) (by decide)) dX12_put_379 ?_
            exact W.iret (v := (u_20.2 22 (p0 : Int32).toNatClampNeg)) hx hb hr (fun t ht hW => ⟨⟨(u_20.2 22 (p0 : Int32).toNatClampNeg), u_20, rfl, (Or.inr ⟨⟨hit, h300, trivial, c_11, trivial, hfree0, (by rw [nI_clamp (by omega), nI_clamp (by omega), nI_clamp (by omega), nI_clamp (by omega)]; exact hrun.elim (fun h => absurd h.1 c_18) (fun h => h.1.elim (fun q => absurd q.1 c_18) (fun q => q.2)))⟩, (by rw [eu_20, eu_19, putR, hJ2]), P, X, Y, 1, N, rfl, rfl, rfl, rfl, rfl, hPP, hXW, hYN, hDD1, hN1, (Or.inr ⟨hrun.elim (fun h => absurd h.1 c_18) (fun h => h.2.1), by rw [eu_20, eu_19, hrun.elim (fun h => absurd h.1 c_18) (fun h => h.2.2)]; rfl⟩)⟩), by rw [ht]; exact hP, hD⟩, hS.F ht⟩) hS.2.2 dX12_put_380
          ·
            refine lv_iconst (v := (-1)) hx hb dX12_put_348 (by decide) ?_
            exact W.iret (v := (-1)) hx hb hr (fun t ht hW => ⟨⟨(-1), u_16, rfl, (Or.inl ⟨rfl, (fun h => hrun.elim (fun q => q.2.2 (by have h7 := h.2.2.2.2.2.2; rw [nI_clamp (by omega), nI_clamp (by omega), nI_clamp (by omega), nI_clamp (by omega)] at h7; exact h7)) (fun q => q.1.elim (fun q => q.2 (by have h7 := h.2.2.2.2.2.2; rw [nI_clamp (by omega), nI_clamp (by omega), nI_clamp (by omega), nI_clamp (by omega)] at h7; exact h7)) (fun q => absurd (q.1.symm.trans c_18) (by decide)))), (hrun.elim (fun q => Or.inl q.2.1) (fun q => Or.inr ⟨hit, P, X, Y, N, rfl, rfl, rfl, hPP, hXW, hYN, hN1, hfree0, q.2.1, q.2.2⟩))⟩), by rw [ht]; exact hP, hD⟩, hS.F ht⟩) hS.2.2 dX12_put_349
        ·
          subst hw
          refine lv_if_eq (tgt := 200) hx hb dX12_put_193 (by decide) (fun c_21 => ?_) (fun c_21 => absurd (by decide) c_21)
          refine lv_iconst (v := 0) hx hb dX12_put_200 (by decide) ?_
          refine lv_istore (lv' := [(9, .int 0), (8, .int p4), (7, .int 1), (6, .int 0), (0, .ref h0), (1, .int p0), (2, .int p1), (3, .int p2), (4, .int p3), (5, .int p4)]) hx hb dX12_put_201 hl (by decide) rfl (fun ls hl => ?_)
          refine lv_iload hx hb dX12_put_203 (lv_at hl 0 rfl) ?_
          refine lv_if_ne (tgt := 210) hx hb dX12_put_205 (by decide) (fun c_22 => absurd (by decide) c_22) (fun c_22 => ?_)
          refine lv_iconst (v := (-1)) hx hb dX12_put_208 (by decide) ?_
          exact W.iret (v := (-1)) hx hb hr (fun t ht hW => ⟨⟨(-1), u, rfl, (Or.inl ⟨rfl, (fun h => hfree h.2.2.2.2.2.1), Or.inl rfl⟩), by rw [ht]; exact hP, hD⟩, hS.F ht⟩) hS.2.2 dX12_put_209
    ·
      refine lv_iconst (v := (-1)) hx hb dX12_put_18 (by decide) ?_
      exact W.iret (v := (-1)) hx hb hr (fun t ht hW => ⟨⟨(-1), u, rfl, (Or.inl ⟨rfl, (fun h => h.2.1 c_3), Or.inl rfl⟩), by rw [ht]; exact hP, hD⟩, hS.F ht⟩) hS.2.2 dX12_put_19
  ·
    obtain rfl : r = 0 := b_f hw b_1
    refine lv_if_eq (tgt := 18) hx hb dX12_put_5 (by decide) (fun c_23 => ?_) (fun c_23 => absurd (by decide) c_23)
    refine lv_iconst (v := (-1)) hx hb dX12_put_18 (by decide) ?_
    exact W.iret (v := (-1)) hx hb hr (fun t ht hW => ⟨⟨(-1), u, rfl, (Or.inl ⟨rfl, (fun h => bne b_1 h.1), Or.inl rfl⟩), by rw [ht]; exact hP, hD⟩, hS.F ht⟩) hS.2.2 dX12_put_19
set_option maxHeartbeats 4000000 in
set_option maxRecDepth 100000 in
theorem n_put1 (l : Launch) (dC : Nat → ClassId) (dI : Nat → Nat → Nat) (h0 : Nat) (v : Nat → Nat) (cI cZ : ClassId) (u : mS) (p0 p1 p2 p3 p4 : Int32) (hn : bw (u.1 3) 0 80 = true) (hln : ∀ j, j < 96 → bw (u.2 0 j) 0 60 = true) (hd : bw (u.1 38) 0 399 = true) (ha : bw (u.1 28) 0 300 = true) (hpc : ∀ j, j < 80 → bw (u.2 22 j) 0 6 = true) (hcm : ∀ j, j < 80 → bw (u.2 15 j) 0 80 = true) (hsz : ∀ j, j < 80 → bw (u.2 17 j) 0 4 = true) (hfr : bw p0 0 79 = true → ∀ P X Y N : Nat, P < 12 → X + 1 ≤ 8 → 1 ≤ N → Y + N ≤ 60 → ¬ u.2 22 p0.toNatClampNeg = 6 → runG (mStand u p0 P X Y 1 N) p0 (u.2 22 p0.toNatClampNeg) → 0 ≤ (mFrom (mStand u p0 P X Y 1 N) p0 (u.2 22 p0.toNatClampNeg).toNatClampNeg).toInt ∧ (mFrom (mStand u p0 P X Y 1 N) p0 (u.2 22 p0.toNatClampNeg).toNatClampNeg).toInt ≤ 400 ∧ (mTakes (mStand u p0 P X Y 1 N) p0 (u.2 22 p0.toNatClampNeg)).toInt ≤ 60) (hK9 : bw p0 0 (u.1 3 - 1) = true → u.2 4 p0.toNatClampNeg = 1) (sz : Nat) : Met l yX12_put wsX12_put ({ frames := 4, cells := 0, slots := 0, locals := 93 }) (va_Pc [.ref h0, .int p0, .int p1, .int p2, .int p3, .int p4] (fun U => U.heap.size = sz ∧ PW dC dI (mW h0 v cI cZ u) [(cI, .int), (cZ, .boolean)] U ∧ va_D (fun _ => True) (mW h0 v cI cZ u))) (va_Qi (fun (r : Int32) (u9 : mS) => rPut u p0 p1 p2 p3 (u.2 7 p0.toNatClampNeg) (u.2 8 p0.toNatClampNeg) (okP1 u p0 p1 p2 p3 p4) r u9) (fun u9 t => va_P (dC, dI) vwCl (mW h0 v cI cZ u9) t.heap ∧ va_D (va_A (mW h0 v cI cZ u) sz) (mW h0 v cI cZ u9)) (va_A (mW h0 v cI cZ u) sz)) 0 0 (va_A (mW h0 v cI cZ u) sz) := by
  refine Met.ofW (cc := cX12_put) (maxL := 10) (ret := (some .int)) (by decide) rfl ?_
  intro p e s m args below meth c s₁ B hml hv
  obtain ⟨rfl, hsz, ⟨hP, hK, hN⟩, hD0⟩ := hv
  have hx := B.exec
  have hb := B.bytes
  have hr := B.returns
  have hts := atoms_spec (ws := wsX12_put) B.pre
  have hown : s.vm.findClass RX12 = some m.cls := findClass_of_methodNamed B.named
  have hlocks := B.notSynchronized
  subst hsz
  have hD := hD0.self (sz := s.heap.size)
  generalize hAe : va_A (mW h0 v cI cZ u) s.heap.size = A at hD ⊢
  have hA : ∀ q : Nat, s.heap.size ≤ q → A q := fun q h => by rw [← hAe]; exact Or.inr h
  have hS : va_S A s.heap s.heap [] := va_S.rf
  have hl := lv_entry ([.ref h0, .int p0, .int p1, .int p2, .int p3, .int p4]) (n := 10) (Nat.le_of_ble_eq_true rfl)
  rw [lg_entry_eq]
  generalize (lg_sl ([.ref h0, .int p0, .int p1, .int p2, .int p3, .int p4]) ++ List.replicate (10 - (lg_sl ([.ref h0, .int p0, .int p1, .int p2, .int p3, .int p4])).length) Slot.unset).toArray = ls at hl ⊢
  have hl : lv_has ls 10 [(0, .ref h0), (1, .int p0), (2, .int p1), (3, .int p2), (4, .int p3), (5, .int p4)] := hl
  refine lv_aload_n hx hb dX12_put_0 rfl (lv_at hl 0 rfl) ?_
  refine lv_iload_n hx hb dX12_put_1 rfl (lv_at hl 1 rfl) ?_
  refine vp_callSi (va_runV (As := [.int p0]) (rest := []) ⟨hx, hb, hml, hown, hts⟩ (m_isItem l dC dI h0 v cI cZ u p0) (cwV 1 hts gX12_put_X12_isItem rfl rfl rfl (by decide +kernel) ⟨Nat.le_of_ble_eq_true rfl, Nat.le_of_ble_eq_true rfl⟩) ⟨pw_fb, va_recv hK hP (ci := 11) (q0 := 0) rfl rfl, fun U hU hW => ⟨rfl, pw_to hU hW hP hK hN⟩⟩ rfl rfl hl.1 rfl (lv_room (Nat.le_of_ble_eq_true rfl)) dX12_put_2 ⟨Nat.le_of_ble_eq_true rfl, Nat.le_of_ble_eq_true rfl⟩).run (fun r hw => ?_)
  rcases Bool.eq_false_or_eq_true (bw p0 0 (u.1 3 - 1)) with b_1 | b_1
  ·
    obtain rfl : r = 1 := b_t hw b_1
    refine lv_if_eq (tgt := 18) hx hb dX12_put_5 (by decide) (fun c_2 => absurd c_2 (by decide)) (fun c_2 => ?_)
    refine lv_aload_n hx hb dX12_put_8 rfl (lv_at hl 0 rfl) ?_
    refine va_get (D := (dC, dI)) (ci := 11) (v := .int (u.1 28)) (C := RX12) (T := TX12) (N := 52) hx hb hts (by decide +kernel) hown hK hP 0 rfl rfl 28 (by decide) (hts (.fieldLink RX12 158 "PageOneModel" "acts" "I") (by decide +kernel)) (fun _ h9 => h9) rfl dX12_put_9 ?_
    refine lv_sipush (v := 300) hx hb dX12_put_12 (by decide) ?_
    refine lv_icmp_ne (tgt := 20) hx hb dX12_put_15 (by decide) (fun c_3 => ?_) (fun c_3 => ?_)
    ·
      refine lv_aload_n hx hb dX12_put_20 rfl (lv_at hl 0 rfl) ?_
      refine va_get (D := (dC, dI)) (ci := 11) (v := .ref (v 4)) (C := RX12) (T := TX12) (N := 52) hx hb hts (by decide +kernel) hown hK hP 0 rfl rfl 4 (by decide) (hts (.fieldLink RX12 19 "PageOneModel" "kind" "[I") (by decide +kernel)) (fun _ h9 => h9) rfl dX12_put_21 ?_
      refine lv_iload_n hx hb dX12_put_24 rfl (lv_at hl 1 rfl) ?_
      refine va_iald hx hb hK hP 4 0 rfl rfl (vin (it79 hn b_1) (by decide)) dX12_put_25 ?_
      refine lv_topi (fun y_4 ey_4 => ?_)
      obtain rfl : y_4 = 1 := ey_4.trans (hK9 b_1)
      refine lv_istore (lv' := [(6, .int 1), (0, .ref h0), (1, .int p0), (2, .int p1), (3, .int p2), (4, .int p3), (5, .int p4)]) hx hb dX12_put_26 hl (by decide) rfl (fun ls hl => ?_)
      refine lv_iload hx hb dX12_put_28 (lv_at hl 0 rfl) ?_
      refine lv_iconst (v := 1) hx hb dX12_put_30 (by decide) ?_
      refine lv_icmp_eq (tgt := 40) hx hb dX12_put_31 (by decide) (fun c_5 => ?_) (fun c_5 => absurd (by decide) c_5)
      refine lv_aload_n hx hb dX12_put_40 rfl (lv_at hl 1 rfl) ?_
      refine va_get (D := (dC, dI)) (ci := 11) (v := .ref (v 7)) (C := RX12) (T := TX12) (N := 52) hx hb hts (by decide +kernel) hown hK hP 0 rfl rfl 7 (by decide) (hts (.fieldLink RX12 28 "PageOneModel" "wide" "[I") (by decide +kernel)) (fun _ h9 => h9) rfl dX12_put_41 ?_
      refine lv_iload_n hx hb dX12_put_44 rfl (lv_at hl 2 rfl) ?_
      refine va_iald hx hb hK hP 7 0 rfl rfl (vin (it79 hn b_1) (by decide)) dX12_put_45 ?_
      refine lv_goto (tgt := 50) hx hb dX12_put_46 (by decide) ?_
      refine lv_istore (lv' := [(7, .int (u.2 7 (p0 : Int32).toNatClampNeg)), (6, .int 1), (0, .ref h0), (1, .int p0), (2, .int p1), (3, .int p2), (4, .int p3), (5, .int p4)]) hx hb dX12_put_50 hl (by decide) rfl (fun ls hl => ?_)
      refine lv_iload hx hb dX12_put_52 (lv_at hl 1 rfl) ?_
      refine lv_if_eq (tgt := 63) hx hb dX12_put_54 (by decide) (fun c_6 => absurd c_6 (by decide)) (fun c_6 => ?_)
      refine lv_iload hx hb dX12_put_57 (lv_at hl 1 rfl) ?_
      refine lv_iconst (v := 4) hx hb dX12_put_59 (by decide) ?_
      refine lv_icmp_ne (tgt := 68) hx hb dX12_put_60 (by decide) (fun c_7 => ?_) (fun c_7 => absurd c_7 (by decide))
      refine lv_aload_n hx hb dX12_put_68 rfl (lv_at hl 2 rfl) ?_
      refine va_get (D := (dC, dI)) (ci := 11) (v := .ref (v 8)) (C := RX12) (T := TX12) (N := 52) hx hb hts (by decide +kernel) hown hK hP 0 rfl rfl 8 (by decide) (hts (.fieldLink RX12 31 "PageOneModel" "high" "[I") (by decide +kernel)) (fun _ h9 => h9) rfl dX12_put_69 ?_
      refine lv_iload_n hx hb dX12_put_72 rfl (lv_at hl 3 rfl) ?_
      refine va_iald hx hb hK hP 8 0 rfl rfl (vin (it79 hn b_1) (by decide)) dX12_put_73 ?_
      refine lv_istore (lv' := [(8, .int (u.2 8 (p0 : Int32).toNatClampNeg)), (7, .int (u.2 7 (p0 : Int32).toNatClampNeg)), (6, .int 1), (0, .ref h0), (1, .int p0), (2, .int p1), (3, .int p2), (4, .int p3), (5, .int p4)]) hx hb dX12_put_74 hl (by decide) rfl (fun ls hl => ?_)
      refine lv_iload hx hb dX12_put_76 (lv_at hl 2 rfl) ?_
      refine lv_iconst (v := 2) hx hb dX12_put_78 (by decide) ?_
      refine lv_icmp_ne (tgt := 127) hx hb dX12_put_79 (by decide) (fun c_8 => ?_) (fun c_8 => absurd c_8 (by decide))
      refine lv_iload hx hb dX12_put_127 (lv_at hl 2 rfl) ?_
      refine lv_if_eq (tgt := 149) hx hb dX12_put_129 (by decide) (fun c_9 => absurd c_9 (by decide)) (fun c_9 => ?_)
      refine lv_iload hx hb dX12_put_132 (lv_at hl 2 rfl) ?_
      refine lv_iconst (v := 4) hx hb dX12_put_134 (by decide) ?_
      refine lv_icmp_eq (tgt := 149) hx hb dX12_put_135 (by decide) (fun c_10 => absurd c_10 (by decide)) (fun c_10 => ?_)
      refine lv_iload hx hb dX12_put_138 (lv_at hl 2 rfl) ?_
      refine lv_iconst (v := 2) hx hb dX12_put_140 (by decide) ?_
      refine lv_icmp_eq (tgt := 149) hx hb dX12_put_141 (by decide) (fun c_11 => absurd c_11 (by decide)) (fun c_11 => ?_)
      refine lv_iload hx hb dX12_put_144 (lv_at hl 8 rfl) ?_
      refine lv_if_ne (tgt := 153) hx hb dX12_put_146 (by decide) (fun c_12 => ?_) (fun c_12 => ?_)
      ·
        refine lv_iconst (v := 0) hx hb dX12_put_153 (by decide) ?_
        refine lv_istore (lv' := [(9, .int 0), (8, .int (u.2 8 (p0 : Int32).toNatClampNeg)), (7, .int (u.2 7 (p0 : Int32).toNatClampNeg)), (6, .int 1), (0, .ref h0), (1, .int p0), (2, .int p1), (3, .int p2), (4, .int p3), (5, .int p4)]) hx hb dX12_put_154 hl (by decide) rfl (fun ls hl => ?_)
        refine lv_iload hx hb dX12_put_156 (lv_at hl 0 rfl) ?_
        refine lv_if_eq (tgt := 200) hx hb dX12_put_158 (by decide) (fun c_13 => ?_) (fun c_13 => absurd (by decide) c_13)
        refine lv_iconst (v := 0) hx hb dX12_put_200 (by decide) ?_
        refine lv_istore (lv' := [(9, .int 0), (8, .int (u.2 8 (p0 : Int32).toNatClampNeg)), (7, .int (u.2 7 (p0 : Int32).toNatClampNeg)), (6, .int 1), (0, .ref h0), (1, .int p0), (2, .int p1), (3, .int p2), (4, .int p3), (5, .int p4)]) hx hb dX12_put_201 hl (by decide) rfl (fun ls hl => ?_)
        refine lv_iload hx hb dX12_put_203 (lv_at hl 0 rfl) ?_
        refine lv_if_ne (tgt := 210) hx hb dX12_put_205 (by decide) (fun c_14 => absurd (by decide) c_14) (fun c_14 => ?_)
        refine lv_iconst (v := (-1)) hx hb dX12_put_208 (by decide) ?_
        exact W.iret (v := (-1)) hx hb hr (fun t ht hW => ⟨⟨(-1), u, rfl, (Or.inl ⟨rfl, (fun h => c_12 h.2.2.1), Or.inl rfl⟩), by rw [ht]; exact hP, hD⟩, hS.F ht⟩) hS.2.2 dX12_put_209
      ·
        refine lv_iconst (v := 1) hx hb dX12_put_149 (by decide) ?_
        refine lv_goto (tgt := 154) hx hb dX12_put_150 (by decide) ?_
        refine lv_istore (lv' := [(9, .int 1), (8, .int (u.2 8 (p0 : Int32).toNatClampNeg)), (7, .int (u.2 7 (p0 : Int32).toNatClampNeg)), (6, .int 1), (0, .ref h0), (1, .int p0), (2, .int p1), (3, .int p2), (4, .int p3), (5, .int p4)]) hx hb dX12_put_154 hl (by decide) rfl (fun ls hl => ?_)
        refine lv_iload hx hb dX12_put_156 (lv_at hl 0 rfl) ?_
        refine lv_if_eq (tgt := 200) hx hb dX12_put_158 (by decide) (fun c_15 => absurd c_15 (by decide)) (fun c_15 => ?_)
        refine lv_iload hx hb dX12_put_161 (lv_at hl 1 rfl) ?_
        refine lv_iconst (v := 1) hx hb dX12_put_163 (by decide) ?_
        refine lv_icmp_lt (tgt := 200) hx hb dX12_put_164 (by decide) (fun c_16 => ?_) (fun c_16 => ?_)
        ·
          refine lv_iconst (v := 0) hx hb dX12_put_200 (by decide) ?_
          refine lv_istore (lv' := [(9, .int 0), (8, .int (u.2 8 (p0 : Int32).toNatClampNeg)), (7, .int (u.2 7 (p0 : Int32).toNatClampNeg)), (6, .int 1), (0, .ref h0), (1, .int p0), (2, .int p1), (3, .int p2), (4, .int p3), (5, .int p4)]) hx hb dX12_put_201 hl (by decide) rfl (fun ls hl => ?_)
          refine lv_iload hx hb dX12_put_203 (lv_at hl 0 rfl) ?_
          refine lv_if_ne (tgt := 210) hx hb dX12_put_205 (by decide) (fun c_17 => absurd (by decide) c_17) (fun c_17 => ?_)
          refine lv_iconst (v := (-1)) hx hb dX12_put_208 (by decide) ?_
          exact W.iret (v := (-1)) hx hb hr (fun t ht hW => ⟨⟨(-1), u, rfl, (Or.inl ⟨rfl, (fun h => h.2.2.2.1 c_16), Or.inl rfl⟩), by rw [ht]; exact hP, hD⟩, hS.F ht⟩) hS.2.2 dX12_put_209
        ·
          refine lv_iload hx hb dX12_put_167 (lv_at hl 3 rfl) ?_
          refine lv_if_eq (tgt := 181) hx hb dX12_put_169 (by decide) (fun c_18 => absurd c_18 (by decide)) (fun c_18 => ?_)
          refine lv_aload_n hx hb dX12_put_172 rfl (lv_at hl 4 rfl) ?_
          refine va_get (D := (dC, dI)) (ci := 11) (v := .ref (v 22)) (C := RX12) (T := TX12) (N := 52) hx hb hts (by decide +kernel) hown hK hP 0 rfl rfl 22 (by decide) (hts (.fieldLink RX12 74 "PageOneModel" "pieces" "[I") (by decide +kernel)) (fun _ h9 => h9) rfl dX12_put_173 ?_
          refine lv_iload_n hx hb dX12_put_176 rfl (lv_at hl 5 rfl) ?_
          refine va_iald hx hb hK hP 22 0 rfl rfl (vin (it79 hn b_1) (by decide)) dX12_put_177 ?_
          refine lv_if_ne (tgt := 200) hx hb dX12_put_178 (by decide) (fun c_19 => ?_) (fun c_19 => ?_)
          ·
            refine lv_iconst (v := 0) hx hb dX12_put_200 (by decide) ?_
            refine lv_istore (lv' := [(9, .int 0), (8, .int (u.2 8 (p0 : Int32).toNatClampNeg)), (7, .int (u.2 7 (p0 : Int32).toNatClampNeg)), (6, .int 1), (0, .ref h0), (1, .int p0), (2, .int p1), (3, .int p2), (4, .int p3), (5, .int p4)]) hx hb dX12_put_201 hl (by decide) rfl (fun ls hl => ?_)
            refine lv_iload hx hb dX12_put_203 (lv_at hl 0 rfl) ?_
            refine lv_if_ne (tgt := 210) hx hb dX12_put_205 (by decide) (fun c_20 => absurd (by decide) c_20) (fun c_20 => ?_)
            refine lv_iconst (v := (-1)) hx hb dX12_put_208 (by decide) ?_
            exact W.iret (v := (-1)) hx hb hr (fun t ht hW => ⟨⟨(-1), u, rfl, (Or.inl ⟨rfl, (fun h => c_19 h.2.2.2.2.1), Or.inl rfl⟩), by rw [ht]; exact hP, hD⟩, hS.F ht⟩) hS.2.2 dX12_put_209
          ·
            refine lv_aload_n hx hb dX12_put_181 rfl (lv_at hl 4 rfl) ?_
            refine lv_iload_n hx hb dX12_put_182 rfl (lv_at hl 6 rfl) ?_
            refine lv_iload_n hx hb dX12_put_183 rfl (lv_at hl 7 rfl) ?_
            refine lv_iload hx hb dX12_put_184 (lv_at hl 8 rfl) ?_
            refine lv_iload hx hb dX12_put_186 (lv_at hl 2 rfl) ?_
            refine lv_iload hx hb dX12_put_188 (lv_at hl 1 rfl) ?_
            refine vp_callSi (va_runV (As := [.int p1, .int p2, .int p3, .int (u.2 7 (p0 : Int32).toNatClampNeg), .int (u.2 8 (p0 : Int32).toNatClampNeg)]) (rest := []) ⟨hx, hb, hml, hown, hts⟩ (m_isFree l dC dI h0 v cI cZ u p1 p2 p3 (u.2 7 (p0 : Int32).toNatClampNeg) (u.2 8 (p0 : Int32).toNatClampNeg) hln) (cwV 5 hts gX12_put_X12_isFree rfl rfl rfl (by decide +kernel) ⟨Nat.le_of_ble_eq_true rfl, Nat.le_of_ble_eq_true rfl⟩) ⟨pw_fb, va_recv hK hP (ci := 11) (q0 := 0) rfl rfl, fun U hU hW => ⟨rfl, pw_to hU hW hP hK hN⟩⟩ rfl rfl hl.1 rfl (lv_room (Nat.le_of_ble_eq_true rfl)) dX12_put_190 ⟨Nat.le_of_ble_eq_true rfl, Nat.le_of_ble_eq_true rfl⟩).run (fun r hw => ?_)
            have hit := b_1
            have hi := it79 hn hit
            have h300 := c_3
            rcases hw with ⟨hw, hfree⟩ | ⟨hw, hfree⟩
            ·
              subst hw
              have hfree0 := hfree
              obtain ⟨P, X, Y, D, N, eP, eX, eY, eD, eN, hPP, hXW, hYN, hDD1, hN1⟩ := free_rect hln hfree
              subst eP eX eY
              rw [eD] at hl
              rw [eN] at hl
              refine lv_if_eq (tgt := 200) hx hb dX12_put_193 (by decide) (fun c_21 => absurd c_21 (by decide)) (fun c_21 => ?_)
              refine lv_iconst (v := 1) hx hb dX12_put_196 (by decide) ?_
              refine lv_goto (tgt := 201) hx hb dX12_put_197 (by decide) ?_
              refine lv_istore (lv' := [(9, .int 1), (8, .int (nI N)), (7, .int (nI D)), (6, .int 1), (0, .ref h0), (1, .int p0), (2, .int (nI P)), (3, .int (nI X)), (4, .int (nI Y)), (5, .int p4)]) hx hb dX12_put_201 hl (by decide) rfl (fun ls hl => ?_)
              refine lv_iload hx hb dX12_put_203 (lv_at hl 0 rfl) ?_
              refine lv_if_ne (tgt := 210) hx hb dX12_put_205 (by decide) (fun c_22 => ?_) (fun c_22 => absurd c_22 (by decide))
              refine lv_iload hx hb dX12_put_210 (lv_at hl 3 rfl) ?_
              refine lv_tableIn (tgt := 343) (off := 131) hx hb dX12_put_212 (by decide) (by decide) (by decide) (by decide) ?_
              refine lv_iload hx hb dX12_put_343 (lv_at hl 0 rfl) ?_
              refine lv_if_ne (tgt := 350) hx hb dX12_put_345 (by decide) (fun c_23 => ?_) (fun c_23 => absurd c_23 (by decide))
              refine lv_aload_n hx hb dX12_put_350 rfl (lv_at hl 4 rfl) ?_
              refine lv_iload_n hx hb dX12_put_351 rfl (lv_at hl 5 rfl) ?_
              refine lv_iload_n hx hb dX12_put_352 rfl (lv_at hl 6 rfl) ?_
              refine lv_iload_n hx hb dX12_put_353 rfl (lv_at hl 7 rfl) ?_
              refine lv_iload hx hb dX12_put_354 (lv_at hl 8 rfl) ?_
              refine lv_iload hx hb dX12_put_356 (lv_at hl 2 rfl) ?_
              refine lv_iload hx hb dX12_put_358 (lv_at hl 1 rfl) ?_
              have hFc := fr_all hD hS hA
              refine va_callv (va_runV (As := [.int p0, .int (nI P), .int (nI X), .int (nI Y), .int (nI D), .int (nI N)]) (rest := []) ⟨hx, hb, hml, hown, hts⟩ (m_stand l dC dI h0 v cI cZ u p0 P X Y D N hPP hXW hYN hi (z05 c_19) s.heap.size) (cwV 6 hts gX12_put_X12_stand rfl rfl rfl (by decide +kernel) ⟨Nat.le_of_ble_eq_true rfl, Nat.le_of_ble_eq_true rfl⟩) ⟨gw_fb, va_recv hK hP (ci := 11) (q0 := 0) rfl rfl, fun U hU hW => ⟨rfl, by rw [hU], pw_to hU hW hP hK hN, hD.weaken (fun _ _ _ _ => trivial)⟩⟩ rfl rfl hl.1 rfl (lv_room (Nat.le_of_ble_eq_true rfl)) dX12_put_360 ⟨Nat.le_of_ble_eq_true rfl, Nat.le_of_ble_eq_true rfl⟩) hS (fun q _ h => hFc q h) hFc (fun u_24 t H1 locs ht hvm hw hB hz1 hk1 hS => ?_)
              obtain ⟨hP, hD1⟩ := hB
              rw [ht] at hP
              have hD := hD1.weaken (fun _ q _ h => hFc q.1 h)
              generalize H1 = H at hP hS ⊢
              have eu_24 := hw
              refine lv_aload_n hx hb dX12_put_363 rfl (lv_at hl 4 rfl) ?_
              refine lv_iconst (v := 0) hx hb dX12_put_364 (by decide) ?_
              refine lv_iload_n hx hb dX12_put_365 rfl (lv_at hl 5 rfl) ?_
              refine lv_iconst (v := 0) hx hb dX12_put_366 (by decide) ?_
              refine lv_iconst (v := 0) hx hb dX12_put_367 (by decide) ?_
              refine lv_iconst (v := 0) hx hb dX12_put_368 (by decide) ?_
              refine lv_iconst (v := 0) hx hb dX12_put_369 (by decide) ?_
              refine lv_iconst (v := 0) hx hb dX12_put_370 (by decide) ?_
              have hFc := fr_all hD hS hA
              refine va_callv (va_runV (As := [.int 0, .int p0, .int 0, .int 0, .int 0, .int 0, .int 0]) (rest := []) ⟨hx, hb, hml, hown, hts⟩ (m_acts l dC dI h0 v cI cZ u_24 0 p0 0 0 0 0 0 (by rw [eu_24]; show bw (u.1 28) 0 299 = true; exact v300 ha h300) H.size) (cwV 7 hts gX12_put_X12_acts rfl rfl rfl (by decide +kernel) ⟨Nat.le_of_ble_eq_true rfl, Nat.le_of_ble_eq_true rfl⟩) ⟨gw_fb, va_recv hK hP (ci := 11) (q0 := 0) rfl rfl, fun U hU hW => ⟨rfl, by rw [hU], pw_to hU hW hP hK hN, hD.weaken (fun _ _ _ _ => trivial)⟩⟩ rfl rfl hl.1 rfl (lv_room (Nat.le_of_ble_eq_true rfl)) dX12_put_371 ⟨Nat.le_of_ble_eq_true rfl, Nat.le_of_ble_eq_true rfl⟩) hS (fun q _ h => hFc q h) hFc (fun u_25 t H1 locs ht hvm hw hB hz1 hk1 hS => ?_)
              obtain ⟨hP, hD1⟩ := hB
              rw [ht] at hP
              have hD := hD1.weaken (fun _ q _ h => hFc q.1 h)
              generalize H1 = H at hP hS ⊢
              have eu_25 := hw
              refine lv_aload_n hx hb dX12_put_374 rfl (lv_at hl 4 rfl) ?_
              refine va_get (D := (dC, dI)) (ci := 11) (v := .ref (v 22)) (C := RX12) (T := TX12) (N := 52) hx hb hts (by decide +kernel) hown hK hP 0 rfl rfl 22 (by decide) (hts (.fieldLink RX12 74 "PageOneModel" "pieces" "[I") (by decide +kernel)) (fun _ h9 => h9) rfl dX12_put_375 ?_
              refine lv_iload_n hx hb dX12_put_378 rfl (lv_at hl 5 rfl) ?_
              refine va_iald hx hb hK hP 22 0 rfl rfl (vin (it79 hn b_1) (by decide)) dX12_put_379 ?_
              exact W.iret (v := (u_25.2 22 (p0 : Int32).toNatClampNeg)) hx hb hr (fun t ht hW => ⟨⟨(u_25.2 22 (p0 : Int32).toNatClampNeg), u_25, rfl, (Or.inr ⟨⟨hit, h300, c_12, c_16, c_19, hfree0, trivial⟩, (by rw [eu_25, eu_24, putR]), P, X, Y, D, N, rfl, rfl, rfl, eD, eN, hPP, hXW, hYN, hDD1, hN1, (Or.inl (by rw [eu_25, eu_24]))⟩), by rw [ht]; exact hP, hD⟩, hS.F ht⟩) hS.2.2 dX12_put_380
            ·
              subst hw
              refine lv_if_eq (tgt := 200) hx hb dX12_put_193 (by decide) (fun c_26 => ?_) (fun c_26 => absurd (by decide) c_26)
              refine lv_iconst (v := 0) hx hb dX12_put_200 (by decide) ?_
              refine lv_istore (lv' := [(9, .int 0), (8, .int (u.2 8 (p0 : Int32).toNatClampNeg)), (7, .int (u.2 7 (p0 : Int32).toNatClampNeg)), (6, .int 1), (0, .ref h0), (1, .int p0), (2, .int p1), (3, .int p2), (4, .int p3), (5, .int p4)]) hx hb dX12_put_201 hl (by decide) rfl (fun ls hl => ?_)
              refine lv_iload hx hb dX12_put_203 (lv_at hl 0 rfl) ?_
              refine lv_if_ne (tgt := 210) hx hb dX12_put_205 (by decide) (fun c_27 => absurd (by decide) c_27) (fun c_27 => ?_)
              refine lv_iconst (v := (-1)) hx hb dX12_put_208 (by decide) ?_
              exact W.iret (v := (-1)) hx hb hr (fun t ht hW => ⟨⟨(-1), u, rfl, (Or.inl ⟨rfl, (fun h => hfree h.2.2.2.2.2.1), Or.inl rfl⟩), by rw [ht]; exact hP, hD⟩, hS.F ht⟩) hS.2.2 dX12_put_209
    ·
      refine lv_iconst (v := (-1)) hx hb dX12_put_18 (by decide) ?_
      exact W.iret (v := (-1)) hx hb hr (fun t ht hW => ⟨⟨(-1), u, rfl, (Or.inl ⟨rfl, (fun h => h.2.1 c_3), Or.inl rfl⟩), by rw [ht]; exact hP, hD⟩, hS.F ht⟩) hS.2.2 dX12_put_19
  ·
    obtain rfl : r = 0 := b_f hw b_1
    refine lv_if_eq (tgt := 18) hx hb dX12_put_5 (by decide) (fun c_28 => ?_) (fun c_28 => absurd (by decide) c_28)
    refine lv_iconst (v := (-1)) hx hb dX12_put_18 (by decide) ?_
    exact W.iret (v := (-1)) hx hb hr (fun t ht hW => ⟨⟨(-1), u, rfl, (Or.inl ⟨rfl, (fun h => bne b_1 h.1), Or.inl rfl⟩), by rw [ht]; exact hP, hD⟩, hS.F ht⟩) hS.2.2 dX12_put_19
set_option maxHeartbeats 4000000 in
set_option maxRecDepth 100000 in
theorem n_put2 (l : Launch) (dC : Nat → ClassId) (dI : Nat → Nat → Nat) (h0 : Nat) (v : Nat → Nat) (cI cZ : ClassId) (u : mS) (p0 p1 p2 p3 p4 : Int32) (hn : bw (u.1 3) 0 80 = true) (hln : ∀ j, j < 96 → bw (u.2 0 j) 0 60 = true) (hd : bw (u.1 38) 0 399 = true) (ha : bw (u.1 28) 0 300 = true) (hpc : ∀ j, j < 80 → bw (u.2 22 j) 0 6 = true) (hcm : ∀ j, j < 80 → bw (u.2 15 j) 0 80 = true) (hsz : ∀ j, j < 80 → bw (u.2 17 j) 0 4 = true) (hfr : bw p0 0 79 = true → ∀ P X Y N : Nat, P < 12 → X + 1 ≤ 8 → 1 ≤ N → Y + N ≤ 60 → ¬ u.2 22 p0.toNatClampNeg = 6 → runG (mStand u p0 P X Y 1 N) p0 (u.2 22 p0.toNatClampNeg) → 0 ≤ (mFrom (mStand u p0 P X Y 1 N) p0 (u.2 22 p0.toNatClampNeg).toNatClampNeg).toInt ∧ (mFrom (mStand u p0 P X Y 1 N) p0 (u.2 22 p0.toNatClampNeg).toNatClampNeg).toInt ≤ 400 ∧ (mTakes (mStand u p0 P X Y 1 N) p0 (u.2 22 p0.toNatClampNeg)).toInt ≤ 60) (hK9 : bw p0 0 (u.1 3 - 1) = true → u.2 4 p0.toNatClampNeg = 2) (sz : Nat) : Met l yX12_put wsX12_put ({ frames := 4, cells := 0, slots := 0, locals := 93 }) (va_Pc [.ref h0, .int p0, .int p1, .int p2, .int p3, .int p4] (fun U => U.heap.size = sz ∧ PW dC dI (mW h0 v cI cZ u) [(cI, .int), (cZ, .boolean)] U ∧ va_D (fun _ => True) (mW h0 v cI cZ u))) (va_Qi (fun (r : Int32) (u9 : mS) => rPut u p0 p1 p2 p3 (u.2 18 (4 * p0 + p4).toNatClampNeg) (u.2 19 (4 * p0 + p4).toNatClampNeg) (okP2 u p0 p1 p2 p3 p4) r u9) (fun u9 t => va_P (dC, dI) vwCl (mW h0 v cI cZ u9) t.heap ∧ va_D (va_A (mW h0 v cI cZ u) sz) (mW h0 v cI cZ u9)) (va_A (mW h0 v cI cZ u) sz)) 0 0 (va_A (mW h0 v cI cZ u) sz) := by
  refine Met.ofW (cc := cX12_put) (maxL := 10) (ret := (some .int)) (by decide) rfl ?_
  intro p e s m args below meth c s₁ B hml hv
  obtain ⟨rfl, hsz, ⟨hP, hK, hN⟩, hD0⟩ := hv
  have hx := B.exec
  have hb := B.bytes
  have hr := B.returns
  have hts := atoms_spec (ws := wsX12_put) B.pre
  have hown : s.vm.findClass RX12 = some m.cls := findClass_of_methodNamed B.named
  have hlocks := B.notSynchronized
  subst hsz
  have hD := hD0.self (sz := s.heap.size)
  generalize hAe : va_A (mW h0 v cI cZ u) s.heap.size = A at hD ⊢
  have hA : ∀ q : Nat, s.heap.size ≤ q → A q := fun q h => by rw [← hAe]; exact Or.inr h
  have hS : va_S A s.heap s.heap [] := va_S.rf
  have hl := lv_entry ([.ref h0, .int p0, .int p1, .int p2, .int p3, .int p4]) (n := 10) (Nat.le_of_ble_eq_true rfl)
  rw [lg_entry_eq]
  generalize (lg_sl ([.ref h0, .int p0, .int p1, .int p2, .int p3, .int p4]) ++ List.replicate (10 - (lg_sl ([.ref h0, .int p0, .int p1, .int p2, .int p3, .int p4])).length) Slot.unset).toArray = ls at hl ⊢
  have hl : lv_has ls 10 [(0, .ref h0), (1, .int p0), (2, .int p1), (3, .int p2), (4, .int p3), (5, .int p4)] := hl
  refine lv_aload_n hx hb dX12_put_0 rfl (lv_at hl 0 rfl) ?_
  refine lv_iload_n hx hb dX12_put_1 rfl (lv_at hl 1 rfl) ?_
  refine vp_callSi (va_runV (As := [.int p0]) (rest := []) ⟨hx, hb, hml, hown, hts⟩ (m_isItem l dC dI h0 v cI cZ u p0) (cwV 1 hts gX12_put_X12_isItem rfl rfl rfl (by decide +kernel) ⟨Nat.le_of_ble_eq_true rfl, Nat.le_of_ble_eq_true rfl⟩) ⟨pw_fb, va_recv hK hP (ci := 11) (q0 := 0) rfl rfl, fun U hU hW => ⟨rfl, pw_to hU hW hP hK hN⟩⟩ rfl rfl hl.1 rfl (lv_room (Nat.le_of_ble_eq_true rfl)) dX12_put_2 ⟨Nat.le_of_ble_eq_true rfl, Nat.le_of_ble_eq_true rfl⟩).run (fun r hw => ?_)
  rcases Bool.eq_false_or_eq_true (bw p0 0 (u.1 3 - 1)) with b_1 | b_1
  ·
    obtain rfl : r = 1 := b_t hw b_1
    refine lv_if_eq (tgt := 18) hx hb dX12_put_5 (by decide) (fun c_2 => absurd c_2 (by decide)) (fun c_2 => ?_)
    refine lv_aload_n hx hb dX12_put_8 rfl (lv_at hl 0 rfl) ?_
    refine va_get (D := (dC, dI)) (ci := 11) (v := .int (u.1 28)) (C := RX12) (T := TX12) (N := 52) hx hb hts (by decide +kernel) hown hK hP 0 rfl rfl 28 (by decide) (hts (.fieldLink RX12 158 "PageOneModel" "acts" "I") (by decide +kernel)) (fun _ h9 => h9) rfl dX12_put_9 ?_
    refine lv_sipush (v := 300) hx hb dX12_put_12 (by decide) ?_
    refine lv_icmp_ne (tgt := 20) hx hb dX12_put_15 (by decide) (fun c_3 => ?_) (fun c_3 => ?_)
    ·
      refine lv_aload_n hx hb dX12_put_20 rfl (lv_at hl 0 rfl) ?_
      refine va_get (D := (dC, dI)) (ci := 11) (v := .ref (v 4)) (C := RX12) (T := TX12) (N := 52) hx hb hts (by decide +kernel) hown hK hP 0 rfl rfl 4 (by decide) (hts (.fieldLink RX12 19 "PageOneModel" "kind" "[I") (by decide +kernel)) (fun _ h9 => h9) rfl dX12_put_21 ?_
      refine lv_iload_n hx hb dX12_put_24 rfl (lv_at hl 1 rfl) ?_
      refine va_iald hx hb hK hP 4 0 rfl rfl (vin (it79 hn b_1) (by decide)) dX12_put_25 ?_
      refine lv_topi (fun y_4 ey_4 => ?_)
      obtain rfl : y_4 = 2 := ey_4.trans (hK9 b_1)
      refine lv_istore (lv' := [(6, .int 2), (0, .ref h0), (1, .int p0), (2, .int p1), (3, .int p2), (4, .int p3), (5, .int p4)]) hx hb dX12_put_26 hl (by decide) rfl (fun ls hl => ?_)
      refine lv_iload hx hb dX12_put_28 (lv_at hl 0 rfl) ?_
      refine lv_iconst (v := 1) hx hb dX12_put_30 (by decide) ?_
      refine lv_icmp_eq (tgt := 40) hx hb dX12_put_31 (by decide) (fun c_5 => absurd c_5 (by decide)) (fun c_5 => ?_)
      refine lv_iload hx hb dX12_put_34 (lv_at hl 0 rfl) ?_
      refine lv_iconst (v := 3) hx hb dX12_put_36 (by decide) ?_
      refine lv_icmp_ne (tgt := 49) hx hb dX12_put_37 (by decide) (fun c_6 => ?_) (fun c_6 => absurd c_6 (by decide))
      refine lv_iconst (v := 1) hx hb dX12_put_49 (by decide) ?_
      refine lv_istore (lv' := [(7, .int 1), (6, .int 2), (0, .ref h0), (1, .int p0), (2, .int p1), (3, .int p2), (4, .int p3), (5, .int p4)]) hx hb dX12_put_50 hl (by decide) rfl (fun ls hl => ?_)
      refine lv_iload hx hb dX12_put_52 (lv_at hl 1 rfl) ?_
      refine lv_if_eq (tgt := 63) hx hb dX12_put_54 (by decide) (fun c_7 => absurd c_7 (by decide)) (fun c_7 => ?_)
      refine lv_iload hx hb dX12_put_57 (lv_at hl 1 rfl) ?_
      refine lv_iconst (v := 4) hx hb dX12_put_59 (by decide) ?_
      refine lv_icmp_ne (tgt := 68) hx hb dX12_put_60 (by decide) (fun c_8 => ?_) (fun c_8 => absurd c_8 (by decide))
      refine lv_aload_n hx hb dX12_put_68 rfl (lv_at hl 2 rfl) ?_
      refine va_get (D := (dC, dI)) (ci := 11) (v := .ref (v 8)) (C := RX12) (T := TX12) (N := 52) hx hb hts (by decide +kernel) hown hK hP 0 rfl rfl 8 (by decide) (hts (.fieldLink RX12 31 "PageOneModel" "high" "[I") (by decide +kernel)) (fun _ h9 => h9) rfl dX12_put_69 ?_
      refine lv_iload_n hx hb dX12_put_72 rfl (lv_at hl 3 rfl) ?_
      refine va_iald hx hb hK hP 8 0 rfl rfl (vin (it79 hn b_1) (by decide)) dX12_put_73 ?_
      refine lv_istore (lv' := [(8, .int (u.2 8 (p0 : Int32).toNatClampNeg)), (7, .int 1), (6, .int 2), (0, .ref h0), (1, .int p0), (2, .int p1), (3, .int p2), (4, .int p3), (5, .int p4)]) hx hb dX12_put_74 hl (by decide) rfl (fun ls hl => ?_)
      refine lv_iload hx hb dX12_put_76 (lv_at hl 2 rfl) ?_
      refine lv_iconst (v := 2) hx hb dX12_put_78 (by decide) ?_
      refine lv_icmp_ne (tgt := 127) hx hb dX12_put_79 (by decide) (fun c_9 => absurd (by decide) c_9) (fun c_9 => ?_)
      refine lv_iload hx hb dX12_put_82 (lv_at hl 8 rfl) ?_
      refine lv_iconst (v := 0) hx hb dX12_put_84 (by decide) ?_
      refine lv_aload_n hx hb dX12_put_85 rfl (lv_at hl 3 rfl) ?_
      refine va_get (D := (dC, dI)) (ci := 11) (v := .ref (v 17)) (C := RX12) (T := TX12) (N := 52) hx hb hts (by decide +kernel) hown hK hP 0 rfl rfl 17 (by decide) (hts (.fieldLink RX12 58 "PageOneModel" "sizes" "[I") (by decide +kernel)) (fun _ h9 => h9) rfl dX12_put_86 ?_
      refine lv_iload_n hx hb dX12_put_89 rfl (lv_at hl 4 rfl) ?_
      refine va_iald hx hb hK hP 17 0 rfl rfl (vin (it79 hn b_1) (by decide)) dX12_put_90 ?_
      refine lv_iconst (v := 1) hx hb dX12_put_91 (by decide) ?_
      refine lv_isub hx hb dX12_put_92 ?_
      refine vp_callSi (va_runS (As := [.int p4, .int 0, .int ((u.2 17 (p0 : Int32).toNatClampNeg) - 1)]) (rest := []) ⟨hx, hb, hml, hown, hts⟩ (m_in l dC dI p4 0 ((u.2 17 (p0 : Int32).toNatClampNeg) - 1)) (va_cwS 3 hts gX12_put_X12_in rfl rfl rfl (by decide +kernel) ⟨Nat.le_of_ble_eq_true rfl, Nat.le_of_ble_eq_true rfl⟩) ⟨pw_fb, fun U hU hW => ⟨rfl, pw_to hU hW (hP.sub (ws' := []) [] rfl) (hK.sub (tys' := []) [] rfl) hN⟩⟩ rfl rfl hl.1 rfl (lv_room (Nat.le_of_ble_eq_true rfl)) dX12_put_93 ⟨Nat.le_of_ble_eq_true rfl, Nat.le_of_ble_eq_true rfl⟩).run (fun r hw => ?_)
      rcases Bool.eq_false_or_eq_true (bw p4 0 ((u.2 17 (p0 : Int32).toNatClampNeg) - 1)) with b_10 | b_10
      ·
        obtain rfl : r = 1 := b_t hw b_10
        refine lv_if_ne (tgt := 101) hx hb dX12_put_96 (by decide) (fun c_11 => ?_) (fun c_11 => absurd c_11 (by decide))
        refine lv_aload_n hx hb dX12_put_101 rfl (lv_at hl 3 rfl) ?_
        refine va_get (D := (dC, dI)) (ci := 11) (v := .ref (v 18)) (C := RX12) (T := TX12) (N := 52) hx hb hts (by decide +kernel) hown hK hP 0 rfl rfl 18 (by decide) (hts (.fieldLink RX12 61 "PageOneModel" "sizeW" "[I") (by decide +kernel)) (fun _ h9 => h9) rfl dX12_put_102 ?_
        refine lv_iconst (v := 4) hx hb dX12_put_105 (by decide) ?_
        refine lv_iload_n hx hb dX12_put_106 rfl (lv_at hl 4 rfl) ?_
        refine lv_imul hx hb dX12_put_107 ?_
        refine lv_iload hx hb dX12_put_108 (lv_at hl 8 rfl) ?_
        refine lv_iadd hx hb dX12_put_110 ?_
        refine va_iald hx hb hK hP 18 0 rfl rfl (vSz (it79 hn b_1) (hsz _ (vlt (vin (it79 hn b_1) (by decide)))) b_10) dX12_put_111 ?_
        refine lv_istore (lv' := [(7, .int (u.2 18 (((4 * p0) + p4) : Int32).toNatClampNeg)), (8, .int (u.2 8 (p0 : Int32).toNatClampNeg)), (6, .int 2), (0, .ref h0), (1, .int p0), (2, .int p1), (3, .int p2), (4, .int p3), (5, .int p4)]) hx hb dX12_put_112 hl (by decide) rfl (fun ls hl => ?_)
        refine lv_aload_n hx hb dX12_put_114 rfl (lv_at hl 3 rfl) ?_
        refine va_get (D := (dC, dI)) (ci := 11) (v := .ref (v 19)) (C := RX12) (T := TX12) (N := 52) hx hb hts (by decide +kernel) hown hK hP 0 rfl rfl 19 (by decide) (hts (.fieldLink RX12 64 "PageOneModel" "sizeH" "[I") (by decide +kernel)) (fun _ h9 => h9) rfl dX12_put_115 ?_
        refine lv_iconst (v := 4) hx hb dX12_put_118 (by decide) ?_
        refine lv_iload_n hx hb dX12_put_119 rfl (lv_at hl 4 rfl) ?_
        refine lv_imul hx hb dX12_put_120 ?_
        refine lv_iload hx hb dX12_put_121 (lv_at hl 8 rfl) ?_
        refine lv_iadd hx hb dX12_put_123 ?_
        refine va_iald hx hb hK hP 19 0 rfl rfl (vSz (it79 hn b_1) (hsz _ (vlt (vin (it79 hn b_1) (by decide)))) b_10) dX12_put_124 ?_
        refine lv_istore (lv' := [(8, .int (u.2 19 (((4 * p0) + p4) : Int32).toNatClampNeg)), (7, .int (u.2 18 (((4 * p0) + p4) : Int32).toNatClampNeg)), (6, .int 2), (0, .ref h0), (1, .int p0), (2, .int p1), (3, .int p2), (4, .int p3), (5, .int p4)]) hx hb dX12_put_125 hl (by decide) rfl (fun ls hl => ?_)
        refine lv_iload hx hb dX12_put_127 (lv_at hl 2 rfl) ?_
        refine lv_if_eq (tgt := 149) hx hb dX12_put_129 (by decide) (fun c_12 => absurd c_12 (by decide)) (fun c_12 => ?_)
        refine lv_iload hx hb dX12_put_132 (lv_at hl 2 rfl) ?_
        refine lv_iconst (v := 4) hx hb dX12_put_134 (by decide) ?_
        refine lv_icmp_eq (tgt := 149) hx hb dX12_put_135 (by decide) (fun c_13 => absurd c_13 (by decide)) (fun c_13 => ?_)
        refine lv_iload hx hb dX12_put_138 (lv_at hl 2 rfl) ?_
        refine lv_iconst (v := 2) hx hb dX12_put_140 (by decide) ?_
        refine lv_icmp_eq (tgt := 149) hx hb dX12_put_141 (by decide) (fun c_14 => ?_) (fun c_14 => absurd (by decide) c_14)
        refine lv_iconst (v := 1) hx hb dX12_put_149 (by decide) ?_
        refine lv_goto (tgt := 154) hx hb dX12_put_150 (by decide) ?_
        refine lv_istore (lv' := [(9, .int 1), (8, .int (u.2 19 (((4 * p0) + p4) : Int32).toNatClampNeg)), (7, .int (u.2 18 (((4 * p0) + p4) : Int32).toNatClampNeg)), (6, .int 2), (0, .ref h0), (1, .int p0), (2, .int p1), (3, .int p2), (4, .int p3), (5, .int p4)]) hx hb dX12_put_154 hl (by decide) rfl (fun ls hl => ?_)
        refine lv_iload hx hb dX12_put_156 (lv_at hl 0 rfl) ?_
        refine lv_if_eq (tgt := 200) hx hb dX12_put_158 (by decide) (fun c_15 => absurd c_15 (by decide)) (fun c_15 => ?_)
        refine lv_iload hx hb dX12_put_161 (lv_at hl 1 rfl) ?_
        refine lv_iconst (v := 1) hx hb dX12_put_163 (by decide) ?_
        refine lv_icmp_lt (tgt := 200) hx hb dX12_put_164 (by decide) (fun c_16 => ?_) (fun c_16 => ?_)
        ·
          refine lv_iconst (v := 0) hx hb dX12_put_200 (by decide) ?_
          refine lv_istore (lv' := [(9, .int 0), (8, .int (u.2 19 (((4 * p0) + p4) : Int32).toNatClampNeg)), (7, .int (u.2 18 (((4 * p0) + p4) : Int32).toNatClampNeg)), (6, .int 2), (0, .ref h0), (1, .int p0), (2, .int p1), (3, .int p2), (4, .int p3), (5, .int p4)]) hx hb dX12_put_201 hl (by decide) rfl (fun ls hl => ?_)
          refine lv_iload hx hb dX12_put_203 (lv_at hl 0 rfl) ?_
          refine lv_if_ne (tgt := 210) hx hb dX12_put_205 (by decide) (fun c_17 => absurd (by decide) c_17) (fun c_17 => ?_)
          refine lv_iconst (v := (-1)) hx hb dX12_put_208 (by decide) ?_
          exact W.iret (v := (-1)) hx hb hr (fun t ht hW => ⟨⟨(-1), u, rfl, (Or.inl ⟨rfl, (fun h => h.2.2.2.1 c_16), Or.inl rfl⟩), by rw [ht]; exact hP, hD⟩, hS.F ht⟩) hS.2.2 dX12_put_209
        ·
          refine lv_iload hx hb dX12_put_167 (lv_at hl 3 rfl) ?_
          refine lv_if_eq (tgt := 181) hx hb dX12_put_169 (by decide) (fun c_18 => absurd c_18 (by decide)) (fun c_18 => ?_)
          refine lv_aload_n hx hb dX12_put_172 rfl (lv_at hl 4 rfl) ?_
          refine va_get (D := (dC, dI)) (ci := 11) (v := .ref (v 22)) (C := RX12) (T := TX12) (N := 52) hx hb hts (by decide +kernel) hown hK hP 0 rfl rfl 22 (by decide) (hts (.fieldLink RX12 74 "PageOneModel" "pieces" "[I") (by decide +kernel)) (fun _ h9 => h9) rfl dX12_put_173 ?_
          refine lv_iload_n hx hb dX12_put_176 rfl (lv_at hl 5 rfl) ?_
          refine va_iald hx hb hK hP 22 0 rfl rfl (vin (it79 hn b_1) (by decide)) dX12_put_177 ?_
          refine lv_if_ne (tgt := 200) hx hb dX12_put_178 (by decide) (fun c_19 => ?_) (fun c_19 => ?_)
          ·
            refine lv_iconst (v := 0) hx hb dX12_put_200 (by decide) ?_
            refine lv_istore (lv' := [(9, .int 0), (8, .int (u.2 19 (((4 * p0) + p4) : Int32).toNatClampNeg)), (7, .int (u.2 18 (((4 * p0) + p4) : Int32).toNatClampNeg)), (6, .int 2), (0, .ref h0), (1, .int p0), (2, .int p1), (3, .int p2), (4, .int p3), (5, .int p4)]) hx hb dX12_put_201 hl (by decide) rfl (fun ls hl => ?_)
            refine lv_iload hx hb dX12_put_203 (lv_at hl 0 rfl) ?_
            refine lv_if_ne (tgt := 210) hx hb dX12_put_205 (by decide) (fun c_20 => absurd (by decide) c_20) (fun c_20 => ?_)
            refine lv_iconst (v := (-1)) hx hb dX12_put_208 (by decide) ?_
            exact W.iret (v := (-1)) hx hb hr (fun t ht hW => ⟨⟨(-1), u, rfl, (Or.inl ⟨rfl, (fun h => c_19 h.2.2.2.2.1), Or.inl rfl⟩), by rw [ht]; exact hP, hD⟩, hS.F ht⟩) hS.2.2 dX12_put_209
          ·
            refine lv_aload_n hx hb dX12_put_181 rfl (lv_at hl 4 rfl) ?_
            refine lv_iload_n hx hb dX12_put_182 rfl (lv_at hl 6 rfl) ?_
            refine lv_iload_n hx hb dX12_put_183 rfl (lv_at hl 7 rfl) ?_
            refine lv_iload hx hb dX12_put_184 (lv_at hl 8 rfl) ?_
            refine lv_iload hx hb dX12_put_186 (lv_at hl 2 rfl) ?_
            refine lv_iload hx hb dX12_put_188 (lv_at hl 1 rfl) ?_
            refine vp_callSi (va_runV (As := [.int p1, .int p2, .int p3, .int (u.2 18 (((4 * p0) + p4) : Int32).toNatClampNeg), .int (u.2 19 (((4 * p0) + p4) : Int32).toNatClampNeg)]) (rest := []) ⟨hx, hb, hml, hown, hts⟩ (m_isFree l dC dI h0 v cI cZ u p1 p2 p3 (u.2 18 (((4 * p0) + p4) : Int32).toNatClampNeg) (u.2 19 (((4 * p0) + p4) : Int32).toNatClampNeg) hln) (cwV 5 hts gX12_put_X12_isFree rfl rfl rfl (by decide +kernel) ⟨Nat.le_of_ble_eq_true rfl, Nat.le_of_ble_eq_true rfl⟩) ⟨pw_fb, va_recv hK hP (ci := 11) (q0 := 0) rfl rfl, fun U hU hW => ⟨rfl, pw_to hU hW hP hK hN⟩⟩ rfl rfl hl.1 rfl (lv_room (Nat.le_of_ble_eq_true rfl)) dX12_put_190 ⟨Nat.le_of_ble_eq_true rfl, Nat.le_of_ble_eq_true rfl⟩).run (fun r hw => ?_)
            have hit := b_1
            have hi := it79 hn hit
            have h300 := c_3
            rcases hw with ⟨hw, hfree⟩ | ⟨hw, hfree⟩
            ·
              subst hw
              have hfree0 := hfree
              obtain ⟨P, X, Y, D, N, eP, eX, eY, eD, eN, hPP, hXW, hYN, hDD1, hN1⟩ := free_rect hln hfree
              subst eP eX eY
              rw [eD] at hl
              rw [eN] at hl
              refine lv_if_eq (tgt := 200) hx hb dX12_put_193 (by decide) (fun c_21 => absurd c_21 (by decide)) (fun c_21 => ?_)
              refine lv_iconst (v := 1) hx hb dX12_put_196 (by decide) ?_
              refine lv_goto (tgt := 201) hx hb dX12_put_197 (by decide) ?_
              refine lv_istore (lv' := [(9, .int 1), (8, .int (nI N)), (7, .int (nI D)), (6, .int 2), (0, .ref h0), (1, .int p0), (2, .int (nI P)), (3, .int (nI X)), (4, .int (nI Y)), (5, .int p4)]) hx hb dX12_put_201 hl (by decide) rfl (fun ls hl => ?_)
              refine lv_iload hx hb dX12_put_203 (lv_at hl 0 rfl) ?_
              refine lv_if_ne (tgt := 210) hx hb dX12_put_205 (by decide) (fun c_22 => ?_) (fun c_22 => absurd c_22 (by decide))
              refine lv_iload hx hb dX12_put_210 (lv_at hl 3 rfl) ?_
              refine lv_tableIn (tgt := 343) (off := 131) hx hb dX12_put_212 (by decide) (by decide) (by decide) (by decide) ?_
              refine lv_iload hx hb dX12_put_343 (lv_at hl 0 rfl) ?_
              refine lv_if_ne (tgt := 350) hx hb dX12_put_345 (by decide) (fun c_23 => ?_) (fun c_23 => absurd c_23 (by decide))
              refine lv_aload_n hx hb dX12_put_350 rfl (lv_at hl 4 rfl) ?_
              refine lv_iload_n hx hb dX12_put_351 rfl (lv_at hl 5 rfl) ?_
              refine lv_iload_n hx hb dX12_put_352 rfl (lv_at hl 6 rfl) ?_
              refine lv_iload_n hx hb dX12_put_353 rfl (lv_at hl 7 rfl) ?_
              refine lv_iload hx hb dX12_put_354 (lv_at hl 8 rfl) ?_
              refine lv_iload hx hb dX12_put_356 (lv_at hl 2 rfl) ?_
              refine lv_iload hx hb dX12_put_358 (lv_at hl 1 rfl) ?_
              have hFc := fr_all hD hS hA
              refine va_callv (va_runV (As := [.int p0, .int (nI P), .int (nI X), .int (nI Y), .int (nI D), .int (nI N)]) (rest := []) ⟨hx, hb, hml, hown, hts⟩ (m_stand l dC dI h0 v cI cZ u p0 P X Y D N hPP hXW hYN hi (z05 c_19) s.heap.size) (cwV 6 hts gX12_put_X12_stand rfl rfl rfl (by decide +kernel) ⟨Nat.le_of_ble_eq_true rfl, Nat.le_of_ble_eq_true rfl⟩) ⟨gw_fb, va_recv hK hP (ci := 11) (q0 := 0) rfl rfl, fun U hU hW => ⟨rfl, by rw [hU], pw_to hU hW hP hK hN, hD.weaken (fun _ _ _ _ => trivial)⟩⟩ rfl rfl hl.1 rfl (lv_room (Nat.le_of_ble_eq_true rfl)) dX12_put_360 ⟨Nat.le_of_ble_eq_true rfl, Nat.le_of_ble_eq_true rfl⟩) hS (fun q _ h => hFc q h) hFc (fun u_24 t H1 locs ht hvm hw hB hz1 hk1 hS => ?_)
              obtain ⟨hP, hD1⟩ := hB
              rw [ht] at hP
              have hD := hD1.weaken (fun _ q _ h => hFc q.1 h)
              generalize H1 = H at hP hS ⊢
              have eu_24 := hw
              refine lv_aload_n hx hb dX12_put_363 rfl (lv_at hl 4 rfl) ?_
              refine lv_iconst (v := 0) hx hb dX12_put_364 (by decide) ?_
              refine lv_iload_n hx hb dX12_put_365 rfl (lv_at hl 5 rfl) ?_
              refine lv_iconst (v := 0) hx hb dX12_put_366 (by decide) ?_
              refine lv_iconst (v := 0) hx hb dX12_put_367 (by decide) ?_
              refine lv_iconst (v := 0) hx hb dX12_put_368 (by decide) ?_
              refine lv_iconst (v := 0) hx hb dX12_put_369 (by decide) ?_
              refine lv_iconst (v := 0) hx hb dX12_put_370 (by decide) ?_
              have hFc := fr_all hD hS hA
              refine va_callv (va_runV (As := [.int 0, .int p0, .int 0, .int 0, .int 0, .int 0, .int 0]) (rest := []) ⟨hx, hb, hml, hown, hts⟩ (m_acts l dC dI h0 v cI cZ u_24 0 p0 0 0 0 0 0 (by rw [eu_24]; show bw (u.1 28) 0 299 = true; exact v300 ha h300) H.size) (cwV 7 hts gX12_put_X12_acts rfl rfl rfl (by decide +kernel) ⟨Nat.le_of_ble_eq_true rfl, Nat.le_of_ble_eq_true rfl⟩) ⟨gw_fb, va_recv hK hP (ci := 11) (q0 := 0) rfl rfl, fun U hU hW => ⟨rfl, by rw [hU], pw_to hU hW hP hK hN, hD.weaken (fun _ _ _ _ => trivial)⟩⟩ rfl rfl hl.1 rfl (lv_room (Nat.le_of_ble_eq_true rfl)) dX12_put_371 ⟨Nat.le_of_ble_eq_true rfl, Nat.le_of_ble_eq_true rfl⟩) hS (fun q _ h => hFc q h) hFc (fun u_25 t H1 locs ht hvm hw hB hz1 hk1 hS => ?_)
              obtain ⟨hP, hD1⟩ := hB
              rw [ht] at hP
              have hD := hD1.weaken (fun _ q _ h => hFc q.1 h)
              generalize H1 = H at hP hS ⊢
              have eu_25 := hw
              refine lv_aload_n hx hb dX12_put_374 rfl (lv_at hl 4 rfl) ?_
              refine va_get (D := (dC, dI)) (ci := 11) (v := .ref (v 22)) (C := RX12) (T := TX12) (N := 52) hx hb hts (by decide +kernel) hown hK hP 0 rfl rfl 22 (by decide) (hts (.fieldLink RX12 74 "PageOneModel" "pieces" "[I") (by decide +kernel)) (fun _ h9 => h9) rfl dX12_put_375 ?_
              refine lv_iload_n hx hb dX12_put_378 rfl (lv_at hl 5 rfl) ?_
              refine va_iald hx hb hK hP 22 0 rfl rfl (vin (it79 hn b_1) (by decide)) dX12_put_379 ?_
              exact W.iret (v := (u_25.2 22 (p0 : Int32).toNatClampNeg)) hx hb hr (fun t ht hW => ⟨⟨(u_25.2 22 (p0 : Int32).toNatClampNeg), u_25, rfl, (Or.inr ⟨⟨hit, h300, b_10, c_16, c_19, hfree0, trivial⟩, (by rw [eu_25, eu_24, putR]), P, X, Y, D, N, rfl, rfl, rfl, eD, eN, hPP, hXW, hYN, hDD1, hN1, (Or.inl (by rw [eu_25, eu_24]))⟩), by rw [ht]; exact hP, hD⟩, hS.F ht⟩) hS.2.2 dX12_put_380
            ·
              subst hw
              refine lv_if_eq (tgt := 200) hx hb dX12_put_193 (by decide) (fun c_26 => ?_) (fun c_26 => absurd (by decide) c_26)
              refine lv_iconst (v := 0) hx hb dX12_put_200 (by decide) ?_
              refine lv_istore (lv' := [(9, .int 0), (8, .int (u.2 19 (((4 * p0) + p4) : Int32).toNatClampNeg)), (7, .int (u.2 18 (((4 * p0) + p4) : Int32).toNatClampNeg)), (6, .int 2), (0, .ref h0), (1, .int p0), (2, .int p1), (3, .int p2), (4, .int p3), (5, .int p4)]) hx hb dX12_put_201 hl (by decide) rfl (fun ls hl => ?_)
              refine lv_iload hx hb dX12_put_203 (lv_at hl 0 rfl) ?_
              refine lv_if_ne (tgt := 210) hx hb dX12_put_205 (by decide) (fun c_27 => absurd (by decide) c_27) (fun c_27 => ?_)
              refine lv_iconst (v := (-1)) hx hb dX12_put_208 (by decide) ?_
              exact W.iret (v := (-1)) hx hb hr (fun t ht hW => ⟨⟨(-1), u, rfl, (Or.inl ⟨rfl, (fun h => hfree h.2.2.2.2.2.1), Or.inl rfl⟩), by rw [ht]; exact hP, hD⟩, hS.F ht⟩) hS.2.2 dX12_put_209
      ·
        obtain rfl : r = 0 := b_f hw b_10
        refine lv_if_ne (tgt := 101) hx hb dX12_put_96 (by decide) (fun c_28 => absurd (by decide) c_28) (fun c_28 => ?_)
        refine lv_iconst (v := (-1)) hx hb dX12_put_99 (by decide) ?_
        exact W.iret (v := (-1)) hx hb hr (fun t ht hW => ⟨⟨(-1), u, rfl, (Or.inl ⟨rfl, (fun h => bne b_10 h.2.2.1), Or.inl rfl⟩), by rw [ht]; exact hP, hD⟩, hS.F ht⟩) hS.2.2 dX12_put_100
    ·
      refine lv_iconst (v := (-1)) hx hb dX12_put_18 (by decide) ?_
      exact W.iret (v := (-1)) hx hb hr (fun t ht hW => ⟨⟨(-1), u, rfl, (Or.inl ⟨rfl, (fun h => h.2.1 c_3), Or.inl rfl⟩), by rw [ht]; exact hP, hD⟩, hS.F ht⟩) hS.2.2 dX12_put_19
  ·
    obtain rfl : r = 0 := b_f hw b_1
    refine lv_if_eq (tgt := 18) hx hb dX12_put_5 (by decide) (fun c_29 => ?_) (fun c_29 => absurd (by decide) c_29)
    refine lv_iconst (v := (-1)) hx hb dX12_put_18 (by decide) ?_
    exact W.iret (v := (-1)) hx hb hr (fun t ht hW => ⟨⟨(-1), u, rfl, (Or.inl ⟨rfl, (fun h => bne b_1 h.1), Or.inl rfl⟩), by rw [ht]; exact hP, hD⟩, hS.F ht⟩) hS.2.2 dX12_put_19
set_option maxHeartbeats 4000000 in
set_option maxRecDepth 100000 in
theorem n_put3 (l : Launch) (dC : Nat → ClassId) (dI : Nat → Nat → Nat) (h0 : Nat) (v : Nat → Nat) (cI cZ : ClassId) (u : mS) (p0 p1 p2 p3 p4 : Int32) (hn : bw (u.1 3) 0 80 = true) (hln : ∀ j, j < 96 → bw (u.2 0 j) 0 60 = true) (hd : bw (u.1 38) 0 399 = true) (ha : bw (u.1 28) 0 300 = true) (hpc : ∀ j, j < 80 → bw (u.2 22 j) 0 6 = true) (hcm : ∀ j, j < 80 → bw (u.2 15 j) 0 80 = true) (hsz : ∀ j, j < 80 → bw (u.2 17 j) 0 4 = true) (hfr : bw p0 0 79 = true → ∀ P X Y N : Nat, P < 12 → X + 1 ≤ 8 → 1 ≤ N → Y + N ≤ 60 → ¬ u.2 22 p0.toNatClampNeg = 6 → runG (mStand u p0 P X Y 1 N) p0 (u.2 22 p0.toNatClampNeg) → 0 ≤ (mFrom (mStand u p0 P X Y 1 N) p0 (u.2 22 p0.toNatClampNeg).toNatClampNeg).toInt ∧ (mFrom (mStand u p0 P X Y 1 N) p0 (u.2 22 p0.toNatClampNeg).toNatClampNeg).toInt ≤ 400 ∧ (mTakes (mStand u p0 P X Y 1 N) p0 (u.2 22 p0.toNatClampNeg)).toInt ≤ 60) (hK9 : bw p0 0 (u.1 3 - 1) = true → u.2 4 p0.toNatClampNeg = 3) (sz : Nat) : Met l yX12_put wsX12_put ({ frames := 4, cells := 0, slots := 0, locals := 93 }) (va_Pc [.ref h0, .int p0, .int p1, .int p2, .int p3, .int p4] (fun U => U.heap.size = sz ∧ PW dC dI (mW h0 v cI cZ u) [(cI, .int), (cZ, .boolean)] U ∧ va_D (fun _ => True) (mW h0 v cI cZ u))) (va_Qi (fun (r : Int32) (u9 : mS) => rPut u p0 p1 p2 p3 (u.2 7 p0.toNatClampNeg) (u.2 8 p0.toNatClampNeg) (okP3 u p0 p1 p2 p3 p4) r u9) (fun u9 t => va_P (dC, dI) vwCl (mW h0 v cI cZ u9) t.heap ∧ va_D (va_A (mW h0 v cI cZ u) sz) (mW h0 v cI cZ u9)) (va_A (mW h0 v cI cZ u) sz)) 0 0 (va_A (mW h0 v cI cZ u) sz) := by
  refine Met.ofW (cc := cX12_put) (maxL := 10) (ret := (some .int)) (by decide) rfl ?_
  intro p e s m args below meth c s₁ B hml hv
  obtain ⟨rfl, hsz, ⟨hP, hK, hN⟩, hD0⟩ := hv
  have hx := B.exec
  have hb := B.bytes
  have hr := B.returns
  have hts := atoms_spec (ws := wsX12_put) B.pre
  have hown : s.vm.findClass RX12 = some m.cls := findClass_of_methodNamed B.named
  have hlocks := B.notSynchronized
  subst hsz
  have hD := hD0.self (sz := s.heap.size)
  generalize hAe : va_A (mW h0 v cI cZ u) s.heap.size = A at hD ⊢
  have hA : ∀ q : Nat, s.heap.size ≤ q → A q := fun q h => by rw [← hAe]; exact Or.inr h
  have hS : va_S A s.heap s.heap [] := va_S.rf
  have hl := lv_entry ([.ref h0, .int p0, .int p1, .int p2, .int p3, .int p4]) (n := 10) (Nat.le_of_ble_eq_true rfl)
  rw [lg_entry_eq]
  generalize (lg_sl ([.ref h0, .int p0, .int p1, .int p2, .int p3, .int p4]) ++ List.replicate (10 - (lg_sl ([.ref h0, .int p0, .int p1, .int p2, .int p3, .int p4])).length) Slot.unset).toArray = ls at hl ⊢
  have hl : lv_has ls 10 [(0, .ref h0), (1, .int p0), (2, .int p1), (3, .int p2), (4, .int p3), (5, .int p4)] := hl
  refine lv_aload_n hx hb dX12_put_0 rfl (lv_at hl 0 rfl) ?_
  refine lv_iload_n hx hb dX12_put_1 rfl (lv_at hl 1 rfl) ?_
  refine vp_callSi (va_runV (As := [.int p0]) (rest := []) ⟨hx, hb, hml, hown, hts⟩ (m_isItem l dC dI h0 v cI cZ u p0) (cwV 1 hts gX12_put_X12_isItem rfl rfl rfl (by decide +kernel) ⟨Nat.le_of_ble_eq_true rfl, Nat.le_of_ble_eq_true rfl⟩) ⟨pw_fb, va_recv hK hP (ci := 11) (q0 := 0) rfl rfl, fun U hU hW => ⟨rfl, pw_to hU hW hP hK hN⟩⟩ rfl rfl hl.1 rfl (lv_room (Nat.le_of_ble_eq_true rfl)) dX12_put_2 ⟨Nat.le_of_ble_eq_true rfl, Nat.le_of_ble_eq_true rfl⟩).run (fun r hw => ?_)
  rcases Bool.eq_false_or_eq_true (bw p0 0 (u.1 3 - 1)) with b_1 | b_1
  ·
    obtain rfl : r = 1 := b_t hw b_1
    refine lv_if_eq (tgt := 18) hx hb dX12_put_5 (by decide) (fun c_2 => absurd c_2 (by decide)) (fun c_2 => ?_)
    refine lv_aload_n hx hb dX12_put_8 rfl (lv_at hl 0 rfl) ?_
    refine va_get (D := (dC, dI)) (ci := 11) (v := .int (u.1 28)) (C := RX12) (T := TX12) (N := 52) hx hb hts (by decide +kernel) hown hK hP 0 rfl rfl 28 (by decide) (hts (.fieldLink RX12 158 "PageOneModel" "acts" "I") (by decide +kernel)) (fun _ h9 => h9) rfl dX12_put_9 ?_
    refine lv_sipush (v := 300) hx hb dX12_put_12 (by decide) ?_
    refine lv_icmp_ne (tgt := 20) hx hb dX12_put_15 (by decide) (fun c_3 => ?_) (fun c_3 => ?_)
    ·
      refine lv_aload_n hx hb dX12_put_20 rfl (lv_at hl 0 rfl) ?_
      refine va_get (D := (dC, dI)) (ci := 11) (v := .ref (v 4)) (C := RX12) (T := TX12) (N := 52) hx hb hts (by decide +kernel) hown hK hP 0 rfl rfl 4 (by decide) (hts (.fieldLink RX12 19 "PageOneModel" "kind" "[I") (by decide +kernel)) (fun _ h9 => h9) rfl dX12_put_21 ?_
      refine lv_iload_n hx hb dX12_put_24 rfl (lv_at hl 1 rfl) ?_
      refine va_iald hx hb hK hP 4 0 rfl rfl (vin (it79 hn b_1) (by decide)) dX12_put_25 ?_
      refine lv_topi (fun y_4 ey_4 => ?_)
      obtain rfl : y_4 = 3 := ey_4.trans (hK9 b_1)
      refine lv_istore (lv' := [(6, .int 3), (0, .ref h0), (1, .int p0), (2, .int p1), (3, .int p2), (4, .int p3), (5, .int p4)]) hx hb dX12_put_26 hl (by decide) rfl (fun ls hl => ?_)
      refine lv_iload hx hb dX12_put_28 (lv_at hl 0 rfl) ?_
      refine lv_iconst (v := 1) hx hb dX12_put_30 (by decide) ?_
      refine lv_icmp_eq (tgt := 40) hx hb dX12_put_31 (by decide) (fun c_5 => absurd c_5 (by decide)) (fun c_5 => ?_)
      refine lv_iload hx hb dX12_put_34 (lv_at hl 0 rfl) ?_
      refine lv_iconst (v := 3) hx hb dX12_put_36 (by decide) ?_
      refine lv_icmp_ne (tgt := 49) hx hb dX12_put_37 (by decide) (fun c_6 => absurd (by decide) c_6) (fun c_6 => ?_)
      refine lv_aload_n hx hb dX12_put_40 rfl (lv_at hl 1 rfl) ?_
      refine va_get (D := (dC, dI)) (ci := 11) (v := .ref (v 7)) (C := RX12) (T := TX12) (N := 52) hx hb hts (by decide +kernel) hown hK hP 0 rfl rfl 7 (by decide) (hts (.fieldLink RX12 28 "PageOneModel" "wide" "[I") (by decide +kernel)) (fun _ h9 => h9) rfl dX12_put_41 ?_
      refine lv_iload_n hx hb dX12_put_44 rfl (lv_at hl 2 rfl) ?_
      refine va_iald hx hb hK hP 7 0 rfl rfl (vin (it79 hn b_1) (by decide)) dX12_put_45 ?_
      refine lv_goto (tgt := 50) hx hb dX12_put_46 (by decide) ?_
      refine lv_istore (lv' := [(7, .int (u.2 7 (p0 : Int32).toNatClampNeg)), (6, .int 3), (0, .ref h0), (1, .int p0), (2, .int p1), (3, .int p2), (4, .int p3), (5, .int p4)]) hx hb dX12_put_50 hl (by decide) rfl (fun ls hl => ?_)
      refine lv_iload hx hb dX12_put_52 (lv_at hl 1 rfl) ?_
      refine lv_if_eq (tgt := 63) hx hb dX12_put_54 (by decide) (fun c_7 => absurd c_7 (by decide)) (fun c_7 => ?_)
      refine lv_iload hx hb dX12_put_57 (lv_at hl 1 rfl) ?_
      refine lv_iconst (v := 4) hx hb dX12_put_59 (by decide) ?_
      refine lv_icmp_ne (tgt := 68) hx hb dX12_put_60 (by decide) (fun c_8 => ?_) (fun c_8 => absurd c_8 (by decide))
      refine lv_aload_n hx hb dX12_put_68 rfl (lv_at hl 2 rfl) ?_
      refine va_get (D := (dC, dI)) (ci := 11) (v := .ref (v 8)) (C := RX12) (T := TX12) (N := 52) hx hb hts (by decide +kernel) hown hK hP 0 rfl rfl 8 (by decide) (hts (.fieldLink RX12 31 "PageOneModel" "high" "[I") (by decide +kernel)) (fun _ h9 => h9) rfl dX12_put_69 ?_
      refine lv_iload_n hx hb dX12_put_72 rfl (lv_at hl 3 rfl) ?_
      refine va_iald hx hb hK hP 8 0 rfl rfl (vin (it79 hn b_1) (by decide)) dX12_put_73 ?_
      refine lv_istore (lv' := [(8, .int (u.2 8 (p0 : Int32).toNatClampNeg)), (7, .int (u.2 7 (p0 : Int32).toNatClampNeg)), (6, .int 3), (0, .ref h0), (1, .int p0), (2, .int p1), (3, .int p2), (4, .int p3), (5, .int p4)]) hx hb dX12_put_74 hl (by decide) rfl (fun ls hl => ?_)
      refine lv_iload hx hb dX12_put_76 (lv_at hl 2 rfl) ?_
      refine lv_iconst (v := 2) hx hb dX12_put_78 (by decide) ?_
      refine lv_icmp_ne (tgt := 127) hx hb dX12_put_79 (by decide) (fun c_9 => ?_) (fun c_9 => absurd c_9 (by decide))
      refine lv_iload hx hb dX12_put_127 (lv_at hl 2 rfl) ?_
      refine lv_if_eq (tgt := 149) hx hb dX12_put_129 (by decide) (fun c_10 => absurd c_10 (by decide)) (fun c_10 => ?_)
      refine lv_iload hx hb dX12_put_132 (lv_at hl 2 rfl) ?_
      refine lv_iconst (v := 4) hx hb dX12_put_134 (by decide) ?_
      refine lv_icmp_eq (tgt := 149) hx hb dX12_put_135 (by decide) (fun c_11 => absurd c_11 (by decide)) (fun c_11 => ?_)
      refine lv_iload hx hb dX12_put_138 (lv_at hl 2 rfl) ?_
      refine lv_iconst (v := 2) hx hb dX12_put_140 (by decide) ?_
      refine lv_icmp_eq (tgt := 149) hx hb dX12_put_141 (by decide) (fun c_12 => absurd c_12 (by decide)) (fun c_12 => ?_)
      refine lv_iload hx hb dX12_put_144 (lv_at hl 8 rfl) ?_
      refine lv_if_ne (tgt := 153) hx hb dX12_put_146 (by decide) (fun c_13 => ?_) (fun c_13 => ?_)
      ·
        refine lv_iconst (v := 0) hx hb dX12_put_153 (by decide) ?_
        refine lv_istore (lv' := [(9, .int 0), (8, .int (u.2 8 (p0 : Int32).toNatClampNeg)), (7, .int (u.2 7 (p0 : Int32).toNatClampNeg)), (6, .int 3), (0, .ref h0), (1, .int p0), (2, .int p1), (3, .int p2), (4, .int p3), (5, .int p4)]) hx hb dX12_put_154 hl (by decide) rfl (fun ls hl => ?_)
        refine lv_iload hx hb dX12_put_156 (lv_at hl 0 rfl) ?_
        refine lv_if_eq (tgt := 200) hx hb dX12_put_158 (by decide) (fun c_14 => ?_) (fun c_14 => absurd (by decide) c_14)
        refine lv_iconst (v := 0) hx hb dX12_put_200 (by decide) ?_
        refine lv_istore (lv' := [(9, .int 0), (8, .int (u.2 8 (p0 : Int32).toNatClampNeg)), (7, .int (u.2 7 (p0 : Int32).toNatClampNeg)), (6, .int 3), (0, .ref h0), (1, .int p0), (2, .int p1), (3, .int p2), (4, .int p3), (5, .int p4)]) hx hb dX12_put_201 hl (by decide) rfl (fun ls hl => ?_)
        refine lv_iload hx hb dX12_put_203 (lv_at hl 0 rfl) ?_
        refine lv_if_ne (tgt := 210) hx hb dX12_put_205 (by decide) (fun c_15 => absurd (by decide) c_15) (fun c_15 => ?_)
        refine lv_iconst (v := (-1)) hx hb dX12_put_208 (by decide) ?_
        exact W.iret (v := (-1)) hx hb hr (fun t ht hW => ⟨⟨(-1), u, rfl, (Or.inl ⟨rfl, (fun h => c_13 h.2.2.1), Or.inl rfl⟩), by rw [ht]; exact hP, hD⟩, hS.F ht⟩) hS.2.2 dX12_put_209
      ·
        refine lv_iconst (v := 1) hx hb dX12_put_149 (by decide) ?_
        refine lv_goto (tgt := 154) hx hb dX12_put_150 (by decide) ?_
        refine lv_istore (lv' := [(9, .int 1), (8, .int (u.2 8 (p0 : Int32).toNatClampNeg)), (7, .int (u.2 7 (p0 : Int32).toNatClampNeg)), (6, .int 3), (0, .ref h0), (1, .int p0), (2, .int p1), (3, .int p2), (4, .int p3), (5, .int p4)]) hx hb dX12_put_154 hl (by decide) rfl (fun ls hl => ?_)
        refine lv_iload hx hb dX12_put_156 (lv_at hl 0 rfl) ?_
        refine lv_if_eq (tgt := 200) hx hb dX12_put_158 (by decide) (fun c_16 => absurd c_16 (by decide)) (fun c_16 => ?_)
        refine lv_iload hx hb dX12_put_161 (lv_at hl 1 rfl) ?_
        refine lv_iconst (v := 1) hx hb dX12_put_163 (by decide) ?_
        refine lv_icmp_lt (tgt := 200) hx hb dX12_put_164 (by decide) (fun c_17 => ?_) (fun c_17 => ?_)
        ·
          refine lv_iconst (v := 0) hx hb dX12_put_200 (by decide) ?_
          refine lv_istore (lv' := [(9, .int 0), (8, .int (u.2 8 (p0 : Int32).toNatClampNeg)), (7, .int (u.2 7 (p0 : Int32).toNatClampNeg)), (6, .int 3), (0, .ref h0), (1, .int p0), (2, .int p1), (3, .int p2), (4, .int p3), (5, .int p4)]) hx hb dX12_put_201 hl (by decide) rfl (fun ls hl => ?_)
          refine lv_iload hx hb dX12_put_203 (lv_at hl 0 rfl) ?_
          refine lv_if_ne (tgt := 210) hx hb dX12_put_205 (by decide) (fun c_18 => absurd (by decide) c_18) (fun c_18 => ?_)
          refine lv_iconst (v := (-1)) hx hb dX12_put_208 (by decide) ?_
          exact W.iret (v := (-1)) hx hb hr (fun t ht hW => ⟨⟨(-1), u, rfl, (Or.inl ⟨rfl, (fun h => h.2.2.2.1 c_17), Or.inl rfl⟩), by rw [ht]; exact hP, hD⟩, hS.F ht⟩) hS.2.2 dX12_put_209
        ·
          refine lv_iload hx hb dX12_put_167 (lv_at hl 3 rfl) ?_
          refine lv_if_eq (tgt := 181) hx hb dX12_put_169 (by decide) (fun c_19 => absurd c_19 (by decide)) (fun c_19 => ?_)
          refine lv_aload_n hx hb dX12_put_172 rfl (lv_at hl 4 rfl) ?_
          refine va_get (D := (dC, dI)) (ci := 11) (v := .ref (v 22)) (C := RX12) (T := TX12) (N := 52) hx hb hts (by decide +kernel) hown hK hP 0 rfl rfl 22 (by decide) (hts (.fieldLink RX12 74 "PageOneModel" "pieces" "[I") (by decide +kernel)) (fun _ h9 => h9) rfl dX12_put_173 ?_
          refine lv_iload_n hx hb dX12_put_176 rfl (lv_at hl 5 rfl) ?_
          refine va_iald hx hb hK hP 22 0 rfl rfl (vin (it79 hn b_1) (by decide)) dX12_put_177 ?_
          refine lv_if_ne (tgt := 200) hx hb dX12_put_178 (by decide) (fun c_20 => ?_) (fun c_20 => ?_)
          ·
            refine lv_iconst (v := 0) hx hb dX12_put_200 (by decide) ?_
            refine lv_istore (lv' := [(9, .int 0), (8, .int (u.2 8 (p0 : Int32).toNatClampNeg)), (7, .int (u.2 7 (p0 : Int32).toNatClampNeg)), (6, .int 3), (0, .ref h0), (1, .int p0), (2, .int p1), (3, .int p2), (4, .int p3), (5, .int p4)]) hx hb dX12_put_201 hl (by decide) rfl (fun ls hl => ?_)
            refine lv_iload hx hb dX12_put_203 (lv_at hl 0 rfl) ?_
            refine lv_if_ne (tgt := 210) hx hb dX12_put_205 (by decide) (fun c_21 => absurd (by decide) c_21) (fun c_21 => ?_)
            refine lv_iconst (v := (-1)) hx hb dX12_put_208 (by decide) ?_
            exact W.iret (v := (-1)) hx hb hr (fun t ht hW => ⟨⟨(-1), u, rfl, (Or.inl ⟨rfl, (fun h => c_20 h.2.2.2.2.1), Or.inl rfl⟩), by rw [ht]; exact hP, hD⟩, hS.F ht⟩) hS.2.2 dX12_put_209
          ·
            refine lv_aload_n hx hb dX12_put_181 rfl (lv_at hl 4 rfl) ?_
            refine lv_iload_n hx hb dX12_put_182 rfl (lv_at hl 6 rfl) ?_
            refine lv_iload_n hx hb dX12_put_183 rfl (lv_at hl 7 rfl) ?_
            refine lv_iload hx hb dX12_put_184 (lv_at hl 8 rfl) ?_
            refine lv_iload hx hb dX12_put_186 (lv_at hl 2 rfl) ?_
            refine lv_iload hx hb dX12_put_188 (lv_at hl 1 rfl) ?_
            refine vp_callSi (va_runV (As := [.int p1, .int p2, .int p3, .int (u.2 7 (p0 : Int32).toNatClampNeg), .int (u.2 8 (p0 : Int32).toNatClampNeg)]) (rest := []) ⟨hx, hb, hml, hown, hts⟩ (m_isFree l dC dI h0 v cI cZ u p1 p2 p3 (u.2 7 (p0 : Int32).toNatClampNeg) (u.2 8 (p0 : Int32).toNatClampNeg) hln) (cwV 5 hts gX12_put_X12_isFree rfl rfl rfl (by decide +kernel) ⟨Nat.le_of_ble_eq_true rfl, Nat.le_of_ble_eq_true rfl⟩) ⟨pw_fb, va_recv hK hP (ci := 11) (q0 := 0) rfl rfl, fun U hU hW => ⟨rfl, pw_to hU hW hP hK hN⟩⟩ rfl rfl hl.1 rfl (lv_room (Nat.le_of_ble_eq_true rfl)) dX12_put_190 ⟨Nat.le_of_ble_eq_true rfl, Nat.le_of_ble_eq_true rfl⟩).run (fun r hw => ?_)
            have hit := b_1
            have hi := it79 hn hit
            have h300 := c_3
            rcases hw with ⟨hw, hfree⟩ | ⟨hw, hfree⟩
            ·
              subst hw
              have hfree0 := hfree
              obtain ⟨P, X, Y, D, N, eP, eX, eY, eD, eN, hPP, hXW, hYN, hDD1, hN1⟩ := free_rect hln hfree
              subst eP eX eY
              rw [eD] at hl
              rw [eN] at hl
              refine lv_if_eq (tgt := 200) hx hb dX12_put_193 (by decide) (fun c_22 => absurd c_22 (by decide)) (fun c_22 => ?_)
              refine lv_iconst (v := 1) hx hb dX12_put_196 (by decide) ?_
              refine lv_goto (tgt := 201) hx hb dX12_put_197 (by decide) ?_
              refine lv_istore (lv' := [(9, .int 1), (8, .int (nI N)), (7, .int (nI D)), (6, .int 3), (0, .ref h0), (1, .int p0), (2, .int (nI P)), (3, .int (nI X)), (4, .int (nI Y)), (5, .int p4)]) hx hb dX12_put_201 hl (by decide) rfl (fun ls hl => ?_)
              refine lv_iload hx hb dX12_put_203 (lv_at hl 0 rfl) ?_
              refine lv_if_ne (tgt := 210) hx hb dX12_put_205 (by decide) (fun c_23 => ?_) (fun c_23 => absurd c_23 (by decide))
              refine lv_iload hx hb dX12_put_210 (lv_at hl 3 rfl) ?_
              refine lv_tableIn (tgt := 268) (off := 56) hx hb dX12_put_212 (by decide) (by decide) (by decide) (by decide) ?_
              refine lv_iload_n hx hb dX12_put_268 rfl (lv_at hl 6 rfl) ?_
              refine lv_aload_n hx hb dX12_put_269 rfl (lv_at hl 4 rfl) ?_
              refine va_get (D := (dC, dI)) (ci := 11) (v := .ref (v 11)) (C := RX12) (T := TX12) (N := 52) hx hb hts (by decide +kernel) hown hK hP 0 rfl rfl 11 (by decide) (hts (.fieldLink RX12 40 "PageOneModel" "soldPage" "[I") (by decide +kernel)) (fun _ h9 => h9) rfl dX12_put_270 ?_
              refine lv_iload_n hx hb dX12_put_273 rfl (lv_at hl 5 rfl) ?_
              refine va_iald hx hb hK hP 11 0 rfl rfl (vin (it79 hn b_1) (by decide)) dX12_put_274 ?_
              refine lv_icmp_ne (tgt := 303) hx hb dX12_put_275 (by decide) (fun c_24 => ?_) (fun c_24 => ?_)
              ·
                refine lv_iconst (v := 0) hx hb dX12_put_303 (by decide) ?_
                refine lv_istore (lv' := [(9, .int 0), (8, .int (nI N)), (7, .int (nI D)), (6, .int 3), (0, .ref h0), (1, .int p0), (2, .int (nI P)), (3, .int (nI X)), (4, .int (nI Y)), (5, .int p4)]) hx hb dX12_put_304 hl (by decide) rfl (fun ls hl => ?_)
                refine lv_goto (tgt := 343) hx hb dX12_put_306 (by decide) ?_
                refine lv_iload hx hb dX12_put_343 (lv_at hl 0 rfl) ?_
                refine lv_if_ne (tgt := 350) hx hb dX12_put_345 (by decide) (fun c_25 => absurd (by decide) c_25) (fun c_25 => ?_)
                refine lv_iconst (v := (-1)) hx hb dX12_put_348 (by decide) ?_
                exact W.iret (v := (-1)) hx hb hr (fun t ht hW => ⟨⟨(-1), u, rfl, (Or.inl ⟨rfl, (fun h => c_24 h.2.2.2.2.2.2.1), Or.inl rfl⟩), by rw [ht]; exact hP, hD⟩, hS.F ht⟩) hS.2.2 dX12_put_349
              ·
                refine lv_iload_n hx hb dX12_put_278 rfl (lv_at hl 7 rfl) ?_
                refine lv_aload_n hx hb dX12_put_279 rfl (lv_at hl 4 rfl) ?_
                refine va_get (D := (dC, dI)) (ci := 11) (v := .ref (v 12)) (C := RX12) (T := TX12) (N := 52) hx hb hts (by decide +kernel) hown hK hP 0 rfl rfl 12 (by decide) (hts (.fieldLink RX12 43 "PageOneModel" "soldColumn" "[I") (by decide +kernel)) (fun _ h9 => h9) rfl dX12_put_280 ?_
                refine lv_iload_n hx hb dX12_put_283 rfl (lv_at hl 5 rfl) ?_
                refine va_iald hx hb hK hP 12 0 rfl rfl (vin (it79 hn b_1) (by decide)) dX12_put_284 ?_
                refine lv_icmp_ne (tgt := 303) hx hb dX12_put_285 (by decide) (fun c_26 => ?_) (fun c_26 => ?_)
                ·
                  refine lv_iconst (v := 0) hx hb dX12_put_303 (by decide) ?_
                  refine lv_istore (lv' := [(9, .int 0), (8, .int (nI N)), (7, .int (nI D)), (6, .int 3), (0, .ref h0), (1, .int p0), (2, .int (nI P)), (3, .int (nI X)), (4, .int (nI Y)), (5, .int p4)]) hx hb dX12_put_304 hl (by decide) rfl (fun ls hl => ?_)
                  refine lv_goto (tgt := 343) hx hb dX12_put_306 (by decide) ?_
                  refine lv_iload hx hb dX12_put_343 (lv_at hl 0 rfl) ?_
                  refine lv_if_ne (tgt := 350) hx hb dX12_put_345 (by decide) (fun c_27 => absurd (by decide) c_27) (fun c_27 => ?_)
                  refine lv_iconst (v := (-1)) hx hb dX12_put_348 (by decide) ?_
                  exact W.iret (v := (-1)) hx hb hr (fun t ht hW => ⟨⟨(-1), u, rfl, (Or.inl ⟨rfl, (fun h => c_26 h.2.2.2.2.2.2.2.1), Or.inl rfl⟩), by rw [ht]; exact hP, hD⟩, hS.F ht⟩) hS.2.2 dX12_put_349
                ·
                  refine lv_iload hx hb dX12_put_288 (lv_at hl 8 rfl) ?_
                  refine lv_aload_n hx hb dX12_put_290 rfl (lv_at hl 4 rfl) ?_
                  refine va_get (D := (dC, dI)) (ci := 11) (v := .ref (v 13)) (C := RX12) (T := TX12) (N := 52) hx hb hts (by decide +kernel) hown hK hP 0 rfl rfl 13 (by decide) (hts (.fieldLink RX12 46 "PageOneModel" "soldLine" "[I") (by decide +kernel)) (fun _ h9 => h9) rfl dX12_put_291 ?_
                  refine lv_iload_n hx hb dX12_put_294 rfl (lv_at hl 5 rfl) ?_
                  refine va_iald hx hb hK hP 13 0 rfl rfl (vin (it79 hn b_1) (by decide)) dX12_put_295 ?_
                  refine lv_icmp_ne (tgt := 303) hx hb dX12_put_296 (by decide) (fun c_28 => ?_) (fun c_28 => ?_)
                  ·
                    refine lv_iconst (v := 0) hx hb dX12_put_303 (by decide) ?_
                    refine lv_istore (lv' := [(9, .int 0), (8, .int (nI N)), (7, .int (nI D)), (6, .int 3), (0, .ref h0), (1, .int p0), (2, .int (nI P)), (3, .int (nI X)), (4, .int (nI Y)), (5, .int p4)]) hx hb dX12_put_304 hl (by decide) rfl (fun ls hl => ?_)
                    refine lv_goto (tgt := 343) hx hb dX12_put_306 (by decide) ?_
                    refine lv_iload hx hb dX12_put_343 (lv_at hl 0 rfl) ?_
                    refine lv_if_ne (tgt := 350) hx hb dX12_put_345 (by decide) (fun c_29 => absurd (by decide) c_29) (fun c_29 => ?_)
                    refine lv_iconst (v := (-1)) hx hb dX12_put_348 (by decide) ?_
                    exact W.iret (v := (-1)) hx hb hr (fun t ht hW => ⟨⟨(-1), u, rfl, (Or.inl ⟨rfl, (fun h => c_28 h.2.2.2.2.2.2.2.2), Or.inl rfl⟩), by rw [ht]; exact hP, hD⟩, hS.F ht⟩) hS.2.2 dX12_put_349
                  ·
                    refine lv_iconst (v := 1) hx hb dX12_put_299 (by decide) ?_
                    refine lv_goto (tgt := 304) hx hb dX12_put_300 (by decide) ?_
                    refine lv_istore (lv' := [(9, .int 1), (8, .int (nI N)), (7, .int (nI D)), (6, .int 3), (0, .ref h0), (1, .int p0), (2, .int (nI P)), (3, .int (nI X)), (4, .int (nI Y)), (5, .int p4)]) hx hb dX12_put_304 hl (by decide) rfl (fun ls hl => ?_)
                    refine lv_goto (tgt := 343) hx hb dX12_put_306 (by decide) ?_
                    refine lv_iload hx hb dX12_put_343 (lv_at hl 0 rfl) ?_
                    refine lv_if_ne (tgt := 350) hx hb dX12_put_345 (by decide) (fun c_30 => ?_) (fun c_30 => absurd c_30 (by decide))
                    refine lv_aload_n hx hb dX12_put_350 rfl (lv_at hl 4 rfl) ?_
                    refine lv_iload_n hx hb dX12_put_351 rfl (lv_at hl 5 rfl) ?_
                    refine lv_iload_n hx hb dX12_put_352 rfl (lv_at hl 6 rfl) ?_
                    refine lv_iload_n hx hb dX12_put_353 rfl (lv_at hl 7 rfl) ?_
                    refine lv_iload hx hb dX12_put_354 (lv_at hl 8 rfl) ?_
                    refine lv_iload hx hb dX12_put_356 (lv_at hl 2 rfl) ?_
                    refine lv_iload hx hb dX12_put_358 (lv_at hl 1 rfl) ?_
                    have hFc := fr_all hD hS hA
                    refine va_callv (va_runV (As := [.int p0, .int (nI P), .int (nI X), .int (nI Y), .int (nI D), .int (nI N)]) (rest := []) ⟨hx, hb, hml, hown, hts⟩ (m_stand l dC dI h0 v cI cZ u p0 P X Y D N hPP hXW hYN hi (z05 c_20) s.heap.size) (cwV 6 hts gX12_put_X12_stand rfl rfl rfl (by decide +kernel) ⟨Nat.le_of_ble_eq_true rfl, Nat.le_of_ble_eq_true rfl⟩) ⟨gw_fb, va_recv hK hP (ci := 11) (q0 := 0) rfl rfl, fun U hU hW => ⟨rfl, by rw [hU], pw_to hU hW hP hK hN, hD.weaken (fun _ _ _ _ => trivial)⟩⟩ rfl rfl hl.1 rfl (lv_room (Nat.le_of_ble_eq_true rfl)) dX12_put_360 ⟨Nat.le_of_ble_eq_true rfl, Nat.le_of_ble_eq_true rfl⟩) hS (fun q _ h => hFc q h) hFc (fun u_31 t H1 locs ht hvm hw hB hz1 hk1 hS => ?_)
                    obtain ⟨hP, hD1⟩ := hB
                    rw [ht] at hP
                    have hD := hD1.weaken (fun _ q _ h => hFc q.1 h)
                    generalize H1 = H at hP hS ⊢
                    have eu_31 := hw
                    refine lv_aload_n hx hb dX12_put_363 rfl (lv_at hl 4 rfl) ?_
                    refine lv_iconst (v := 0) hx hb dX12_put_364 (by decide) ?_
                    refine lv_iload_n hx hb dX12_put_365 rfl (lv_at hl 5 rfl) ?_
                    refine lv_iconst (v := 0) hx hb dX12_put_366 (by decide) ?_
                    refine lv_iconst (v := 0) hx hb dX12_put_367 (by decide) ?_
                    refine lv_iconst (v := 0) hx hb dX12_put_368 (by decide) ?_
                    refine lv_iconst (v := 0) hx hb dX12_put_369 (by decide) ?_
                    refine lv_iconst (v := 0) hx hb dX12_put_370 (by decide) ?_
                    have hFc := fr_all hD hS hA
                    refine va_callv (va_runV (As := [.int 0, .int p0, .int 0, .int 0, .int 0, .int 0, .int 0]) (rest := []) ⟨hx, hb, hml, hown, hts⟩ (m_acts l dC dI h0 v cI cZ u_31 0 p0 0 0 0 0 0 (by rw [eu_31]; show bw (u.1 28) 0 299 = true; exact v300 ha h300) H.size) (cwV 7 hts gX12_put_X12_acts rfl rfl rfl (by decide +kernel) ⟨Nat.le_of_ble_eq_true rfl, Nat.le_of_ble_eq_true rfl⟩) ⟨gw_fb, va_recv hK hP (ci := 11) (q0 := 0) rfl rfl, fun U hU hW => ⟨rfl, by rw [hU], pw_to hU hW hP hK hN, hD.weaken (fun _ _ _ _ => trivial)⟩⟩ rfl rfl hl.1 rfl (lv_room (Nat.le_of_ble_eq_true rfl)) dX12_put_371 ⟨Nat.le_of_ble_eq_true rfl, Nat.le_of_ble_eq_true rfl⟩) hS (fun q _ h => hFc q h) hFc (fun u_32 t H1 locs ht hvm hw hB hz1 hk1 hS => ?_)
                    obtain ⟨hP, hD1⟩ := hB
                    rw [ht] at hP
                    have hD := hD1.weaken (fun _ q _ h => hFc q.1 h)
                    generalize H1 = H at hP hS ⊢
                    have eu_32 := hw
                    refine lv_aload_n hx hb dX12_put_374 rfl (lv_at hl 4 rfl) ?_
                    refine va_get (D := (dC, dI)) (ci := 11) (v := .ref (v 22)) (C := RX12) (T := TX12) (N := 52) hx hb hts (by decide +kernel) hown hK hP 0 rfl rfl 22 (by decide) (hts (.fieldLink RX12 74 "PageOneModel" "pieces" "[I") (by decide +kernel)) (fun _ h9 => h9) rfl dX12_put_375 ?_
                    refine lv_iload_n hx hb dX12_put_378 rfl (lv_at hl 5 rfl) ?_
                    refine va_iald hx hb hK hP 22 0 rfl rfl (vin (it79 hn b_1) (by decide)) dX12_put_379 ?_
                    exact W.iret (v := (u_32.2 22 (p0 : Int32).toNatClampNeg)) hx hb hr (fun t ht hW => ⟨⟨(u_32.2 22 (p0 : Int32).toNatClampNeg), u_32, rfl, (Or.inr ⟨⟨hit, h300, c_13, c_17, c_20, hfree0, ⟨c_24, c_26, c_28⟩⟩, (by rw [eu_32, eu_31, putR]), P, X, Y, D, N, rfl, rfl, rfl, eD, eN, hPP, hXW, hYN, hDD1, hN1, (Or.inl (by rw [eu_32, eu_31]))⟩), by rw [ht]; exact hP, hD⟩, hS.F ht⟩) hS.2.2 dX12_put_380
            ·
              subst hw
              refine lv_if_eq (tgt := 200) hx hb dX12_put_193 (by decide) (fun c_33 => ?_) (fun c_33 => absurd (by decide) c_33)
              refine lv_iconst (v := 0) hx hb dX12_put_200 (by decide) ?_
              refine lv_istore (lv' := [(9, .int 0), (8, .int (u.2 8 (p0 : Int32).toNatClampNeg)), (7, .int (u.2 7 (p0 : Int32).toNatClampNeg)), (6, .int 3), (0, .ref h0), (1, .int p0), (2, .int p1), (3, .int p2), (4, .int p3), (5, .int p4)]) hx hb dX12_put_201 hl (by decide) rfl (fun ls hl => ?_)
              refine lv_iload hx hb dX12_put_203 (lv_at hl 0 rfl) ?_
              refine lv_if_ne (tgt := 210) hx hb dX12_put_205 (by decide) (fun c_34 => absurd (by decide) c_34) (fun c_34 => ?_)
              refine lv_iconst (v := (-1)) hx hb dX12_put_208 (by decide) ?_
              exact W.iret (v := (-1)) hx hb hr (fun t ht hW => ⟨⟨(-1), u, rfl, (Or.inl ⟨rfl, (fun h => hfree h.2.2.2.2.2.1), Or.inl rfl⟩), by rw [ht]; exact hP, hD⟩, hS.F ht⟩) hS.2.2 dX12_put_209
    ·
      refine lv_iconst (v := (-1)) hx hb dX12_put_18 (by decide) ?_
      exact W.iret (v := (-1)) hx hb hr (fun t ht hW => ⟨⟨(-1), u, rfl, (Or.inl ⟨rfl, (fun h => h.2.1 c_3), Or.inl rfl⟩), by rw [ht]; exact hP, hD⟩, hS.F ht⟩) hS.2.2 dX12_put_19
  ·
    obtain rfl : r = 0 := b_f hw b_1
    refine lv_if_eq (tgt := 18) hx hb dX12_put_5 (by decide) (fun c_35 => ?_) (fun c_35 => absurd (by decide) c_35)
    refine lv_iconst (v := (-1)) hx hb dX12_put_18 (by decide) ?_
    exact W.iret (v := (-1)) hx hb hr (fun t ht hW => ⟨⟨(-1), u, rfl, (Or.inl ⟨rfl, (fun h => bne b_1 h.1), Or.inl rfl⟩), by rw [ht]; exact hP, hD⟩, hS.F ht⟩) hS.2.2 dX12_put_19
set_option maxHeartbeats 4000000 in
set_option maxRecDepth 100000 in
theorem n_put4 (l : Launch) (dC : Nat → ClassId) (dI : Nat → Nat → Nat) (h0 : Nat) (v : Nat → Nat) (cI cZ : ClassId) (u : mS) (p0 p1 p2 p3 p4 : Int32) (hn : bw (u.1 3) 0 80 = true) (hln : ∀ j, j < 96 → bw (u.2 0 j) 0 60 = true) (hd : bw (u.1 38) 0 399 = true) (ha : bw (u.1 28) 0 300 = true) (hpc : ∀ j, j < 80 → bw (u.2 22 j) 0 6 = true) (hcm : ∀ j, j < 80 → bw (u.2 15 j) 0 80 = true) (hsz : ∀ j, j < 80 → bw (u.2 17 j) 0 4 = true) (hfr : bw p0 0 79 = true → ∀ P X Y N : Nat, P < 12 → X + 1 ≤ 8 → 1 ≤ N → Y + N ≤ 60 → ¬ u.2 22 p0.toNatClampNeg = 6 → runG (mStand u p0 P X Y 1 N) p0 (u.2 22 p0.toNatClampNeg) → 0 ≤ (mFrom (mStand u p0 P X Y 1 N) p0 (u.2 22 p0.toNatClampNeg).toNatClampNeg).toInt ∧ (mFrom (mStand u p0 P X Y 1 N) p0 (u.2 22 p0.toNatClampNeg).toNatClampNeg).toInt ≤ 400 ∧ (mTakes (mStand u p0 P X Y 1 N) p0 (u.2 22 p0.toNatClampNeg)).toInt ≤ 60) (hK9 : bw p0 0 (u.1 3 - 1) = true → u.2 4 p0.toNatClampNeg = 4) (sz : Nat) : Met l yX12_put wsX12_put ({ frames := 4, cells := 0, slots := 0, locals := 93 }) (va_Pc [.ref h0, .int p0, .int p1, .int p2, .int p3, .int p4] (fun U => U.heap.size = sz ∧ PW dC dI (mW h0 v cI cZ u) [(cI, .int), (cZ, .boolean)] U ∧ va_D (fun _ => True) (mW h0 v cI cZ u))) (va_Qi (fun (r : Int32) (u9 : mS) => rPut u p0 p1 p2 p3 1 p4 (okP4 u p0 p1 p2 p3 p4) r u9) (fun u9 t => va_P (dC, dI) vwCl (mW h0 v cI cZ u9) t.heap ∧ va_D (va_A (mW h0 v cI cZ u) sz) (mW h0 v cI cZ u9)) (va_A (mW h0 v cI cZ u) sz)) 0 0 (va_A (mW h0 v cI cZ u) sz) := by
  refine Met.ofW (cc := cX12_put) (maxL := 10) (ret := (some .int)) (by decide) rfl ?_
  intro p e s m args below meth c s₁ B hml hv
  obtain ⟨rfl, hsz, ⟨hP, hK, hN⟩, hD0⟩ := hv
  have hx := B.exec
  have hb := B.bytes
  have hr := B.returns
  have hts := atoms_spec (ws := wsX12_put) B.pre
  have hown : s.vm.findClass RX12 = some m.cls := findClass_of_methodNamed B.named
  have hlocks := B.notSynchronized
  subst hsz
  have hD := hD0.self (sz := s.heap.size)
  generalize hAe : va_A (mW h0 v cI cZ u) s.heap.size = A at hD ⊢
  have hA : ∀ q : Nat, s.heap.size ≤ q → A q := fun q h => by rw [← hAe]; exact Or.inr h
  have hS : va_S A s.heap s.heap [] := va_S.rf
  have hl := lv_entry ([.ref h0, .int p0, .int p1, .int p2, .int p3, .int p4]) (n := 10) (Nat.le_of_ble_eq_true rfl)
  rw [lg_entry_eq]
  generalize (lg_sl ([.ref h0, .int p0, .int p1, .int p2, .int p3, .int p4]) ++ List.replicate (10 - (lg_sl ([.ref h0, .int p0, .int p1, .int p2, .int p3, .int p4])).length) Slot.unset).toArray = ls at hl ⊢
  have hl : lv_has ls 10 [(0, .ref h0), (1, .int p0), (2, .int p1), (3, .int p2), (4, .int p3), (5, .int p4)] := hl
  refine lv_aload_n hx hb dX12_put_0 rfl (lv_at hl 0 rfl) ?_
  refine lv_iload_n hx hb dX12_put_1 rfl (lv_at hl 1 rfl) ?_
  refine vp_callSi (va_runV (As := [.int p0]) (rest := []) ⟨hx, hb, hml, hown, hts⟩ (m_isItem l dC dI h0 v cI cZ u p0) (cwV 1 hts gX12_put_X12_isItem rfl rfl rfl (by decide +kernel) ⟨Nat.le_of_ble_eq_true rfl, Nat.le_of_ble_eq_true rfl⟩) ⟨pw_fb, va_recv hK hP (ci := 11) (q0 := 0) rfl rfl, fun U hU hW => ⟨rfl, pw_to hU hW hP hK hN⟩⟩ rfl rfl hl.1 rfl (lv_room (Nat.le_of_ble_eq_true rfl)) dX12_put_2 ⟨Nat.le_of_ble_eq_true rfl, Nat.le_of_ble_eq_true rfl⟩).run (fun r hw => ?_)
  rcases Bool.eq_false_or_eq_true (bw p0 0 (u.1 3 - 1)) with b_1 | b_1
  ·
    obtain rfl : r = 1 := b_t hw b_1
    refine lv_if_eq (tgt := 18) hx hb dX12_put_5 (by decide) (fun c_2 => absurd c_2 (by decide)) (fun c_2 => ?_)
    refine lv_aload_n hx hb dX12_put_8 rfl (lv_at hl 0 rfl) ?_
    refine va_get (D := (dC, dI)) (ci := 11) (v := .int (u.1 28)) (C := RX12) (T := TX12) (N := 52) hx hb hts (by decide +kernel) hown hK hP 0 rfl rfl 28 (by decide) (hts (.fieldLink RX12 158 "PageOneModel" "acts" "I") (by decide +kernel)) (fun _ h9 => h9) rfl dX12_put_9 ?_
    refine lv_sipush (v := 300) hx hb dX12_put_12 (by decide) ?_
    refine lv_icmp_ne (tgt := 20) hx hb dX12_put_15 (by decide) (fun c_3 => ?_) (fun c_3 => ?_)
    ·
      refine lv_aload_n hx hb dX12_put_20 rfl (lv_at hl 0 rfl) ?_
      refine va_get (D := (dC, dI)) (ci := 11) (v := .ref (v 4)) (C := RX12) (T := TX12) (N := 52) hx hb hts (by decide +kernel) hown hK hP 0 rfl rfl 4 (by decide) (hts (.fieldLink RX12 19 "PageOneModel" "kind" "[I") (by decide +kernel)) (fun _ h9 => h9) rfl dX12_put_21 ?_
      refine lv_iload_n hx hb dX12_put_24 rfl (lv_at hl 1 rfl) ?_
      refine va_iald hx hb hK hP 4 0 rfl rfl (vin (it79 hn b_1) (by decide)) dX12_put_25 ?_
      refine lv_topi (fun y_4 ey_4 => ?_)
      obtain rfl : y_4 = 4 := ey_4.trans (hK9 b_1)
      refine lv_istore (lv' := [(6, .int 4), (0, .ref h0), (1, .int p0), (2, .int p1), (3, .int p2), (4, .int p3), (5, .int p4)]) hx hb dX12_put_26 hl (by decide) rfl (fun ls hl => ?_)
      refine lv_iload hx hb dX12_put_28 (lv_at hl 0 rfl) ?_
      refine lv_iconst (v := 1) hx hb dX12_put_30 (by decide) ?_
      refine lv_icmp_eq (tgt := 40) hx hb dX12_put_31 (by decide) (fun c_5 => absurd c_5 (by decide)) (fun c_5 => ?_)
      refine lv_iload hx hb dX12_put_34 (lv_at hl 0 rfl) ?_
      refine lv_iconst (v := 3) hx hb dX12_put_36 (by decide) ?_
      refine lv_icmp_ne (tgt := 49) hx hb dX12_put_37 (by decide) (fun c_6 => ?_) (fun c_6 => absurd c_6 (by decide))
      refine lv_iconst (v := 1) hx hb dX12_put_49 (by decide) ?_
      refine lv_istore (lv' := [(7, .int 1), (6, .int 4), (0, .ref h0), (1, .int p0), (2, .int p1), (3, .int p2), (4, .int p3), (5, .int p4)]) hx hb dX12_put_50 hl (by decide) rfl (fun ls hl => ?_)
      refine lv_iload hx hb dX12_put_52 (lv_at hl 1 rfl) ?_
      refine lv_if_eq (tgt := 63) hx hb dX12_put_54 (by decide) (fun c_7 => absurd c_7 (by decide)) (fun c_7 => ?_)
      refine lv_iload hx hb dX12_put_57 (lv_at hl 1 rfl) ?_
      refine lv_iconst (v := 4) hx hb dX12_put_59 (by decide) ?_
      refine lv_icmp_ne (tgt := 68) hx hb dX12_put_60 (by decide) (fun c_8 => absurd (by decide) c_8) (fun c_8 => ?_)
      refine lv_iload hx hb dX12_put_63 (lv_at hl 7 rfl) ?_
      refine lv_goto (tgt := 74) hx hb dX12_put_65 (by decide) ?_
      refine lv_istore (lv' := [(8, .int p4), (7, .int 1), (6, .int 4), (0, .ref h0), (1, .int p0), (2, .int p1), (3, .int p2), (4, .int p3), (5, .int p4)]) hx hb dX12_put_74 hl (by decide) rfl (fun ls hl => ?_)
      refine lv_iload hx hb dX12_put_76 (lv_at hl 2 rfl) ?_
      refine lv_iconst (v := 2) hx hb dX12_put_78 (by decide) ?_
      refine lv_icmp_ne (tgt := 127) hx hb dX12_put_79 (by decide) (fun c_9 => ?_) (fun c_9 => absurd c_9 (by decide))
      refine lv_iload hx hb dX12_put_127 (lv_at hl 2 rfl) ?_
      refine lv_if_eq (tgt := 149) hx hb dX12_put_129 (by decide) (fun c_10 => absurd c_10 (by decide)) (fun c_10 => ?_)
      refine lv_iload hx hb dX12_put_132 (lv_at hl 2 rfl) ?_
      refine lv_iconst (v := 4) hx hb dX12_put_134 (by decide) ?_
      refine lv_icmp_eq (tgt := 149) hx hb dX12_put_135 (by decide) (fun c_11 => ?_) (fun c_11 => absurd (by decide) c_11)
      refine lv_iconst (v := 1) hx hb dX12_put_149 (by decide) ?_
      refine lv_goto (tgt := 154) hx hb dX12_put_150 (by decide) ?_
      refine lv_istore (lv' := [(9, .int 1), (8, .int p4), (7, .int 1), (6, .int 4), (0, .ref h0), (1, .int p0), (2, .int p1), (3, .int p2), (4, .int p3), (5, .int p4)]) hx hb dX12_put_154 hl (by decide) rfl (fun ls hl => ?_)
      refine lv_iload hx hb dX12_put_156 (lv_at hl 0 rfl) ?_
      refine lv_if_eq (tgt := 200) hx hb dX12_put_158 (by decide) (fun c_12 => absurd c_12 (by decide)) (fun c_12 => ?_)
      refine lv_iload hx hb dX12_put_161 (lv_at hl 1 rfl) ?_
      refine lv_iconst (v := 1) hx hb dX12_put_163 (by decide) ?_
      refine lv_icmp_lt (tgt := 200) hx hb dX12_put_164 (by decide) (fun c_13 => ?_) (fun c_13 => ?_)
      ·
        refine lv_iconst (v := 0) hx hb dX12_put_200 (by decide) ?_
        refine lv_istore (lv' := [(9, .int 0), (8, .int p4), (7, .int 1), (6, .int 4), (0, .ref h0), (1, .int p0), (2, .int p1), (3, .int p2), (4, .int p3), (5, .int p4)]) hx hb dX12_put_201 hl (by decide) rfl (fun ls hl => ?_)
        refine lv_iload hx hb dX12_put_203 (lv_at hl 0 rfl) ?_
        refine lv_if_ne (tgt := 210) hx hb dX12_put_205 (by decide) (fun c_14 => absurd (by decide) c_14) (fun c_14 => ?_)
        refine lv_iconst (v := (-1)) hx hb dX12_put_208 (by decide) ?_
        exact W.iret (v := (-1)) hx hb hr (fun t ht hW => ⟨⟨(-1), u, rfl, (Or.inl ⟨rfl, (fun h => h.2.2.2.1 c_13), Or.inl rfl⟩), by rw [ht]; exact hP, hD⟩, hS.F ht⟩) hS.2.2 dX12_put_209
      ·
        refine lv_iload hx hb dX12_put_167 (lv_at hl 3 rfl) ?_
        refine lv_if_eq (tgt := 181) hx hb dX12_put_169 (by decide) (fun c_15 => absurd c_15 (by decide)) (fun c_15 => ?_)
        refine lv_aload_n hx hb dX12_put_172 rfl (lv_at hl 4 rfl) ?_
        refine va_get (D := (dC, dI)) (ci := 11) (v := .ref (v 22)) (C := RX12) (T := TX12) (N := 52) hx hb hts (by decide +kernel) hown hK hP 0 rfl rfl 22 (by decide) (hts (.fieldLink RX12 74 "PageOneModel" "pieces" "[I") (by decide +kernel)) (fun _ h9 => h9) rfl dX12_put_173 ?_
        refine lv_iload_n hx hb dX12_put_176 rfl (lv_at hl 5 rfl) ?_
        refine va_iald hx hb hK hP 22 0 rfl rfl (vin (it79 hn b_1) (by decide)) dX12_put_177 ?_
        refine lv_if_ne (tgt := 200) hx hb dX12_put_178 (by decide) (fun c_16 => ?_) (fun c_16 => ?_)
        ·
          refine lv_iconst (v := 0) hx hb dX12_put_200 (by decide) ?_
          refine lv_istore (lv' := [(9, .int 0), (8, .int p4), (7, .int 1), (6, .int 4), (0, .ref h0), (1, .int p0), (2, .int p1), (3, .int p2), (4, .int p3), (5, .int p4)]) hx hb dX12_put_201 hl (by decide) rfl (fun ls hl => ?_)
          refine lv_iload hx hb dX12_put_203 (lv_at hl 0 rfl) ?_
          refine lv_if_ne (tgt := 210) hx hb dX12_put_205 (by decide) (fun c_17 => absurd (by decide) c_17) (fun c_17 => ?_)
          refine lv_iconst (v := (-1)) hx hb dX12_put_208 (by decide) ?_
          exact W.iret (v := (-1)) hx hb hr (fun t ht hW => ⟨⟨(-1), u, rfl, (Or.inl ⟨rfl, (fun h => c_16 h.2.2.2.2.1), Or.inl rfl⟩), by rw [ht]; exact hP, hD⟩, hS.F ht⟩) hS.2.2 dX12_put_209
        ·
          refine lv_aload_n hx hb dX12_put_181 rfl (lv_at hl 4 rfl) ?_
          refine lv_iload_n hx hb dX12_put_182 rfl (lv_at hl 6 rfl) ?_
          refine lv_iload_n hx hb dX12_put_183 rfl (lv_at hl 7 rfl) ?_
          refine lv_iload hx hb dX12_put_184 (lv_at hl 8 rfl) ?_
          refine lv_iload hx hb dX12_put_186 (lv_at hl 2 rfl) ?_
          refine lv_iload hx hb dX12_put_188 (lv_at hl 1 rfl) ?_
          refine vp_callSi (va_runV (As := [.int p1, .int p2, .int p3, .int 1, .int p4]) (rest := []) ⟨hx, hb, hml, hown, hts⟩ (m_isFree l dC dI h0 v cI cZ u p1 p2 p3 1 p4 hln) (cwV 5 hts gX12_put_X12_isFree rfl rfl rfl (by decide +kernel) ⟨Nat.le_of_ble_eq_true rfl, Nat.le_of_ble_eq_true rfl⟩) ⟨pw_fb, va_recv hK hP (ci := 11) (q0 := 0) rfl rfl, fun U hU hW => ⟨rfl, pw_to hU hW hP hK hN⟩⟩ rfl rfl hl.1 rfl (lv_room (Nat.le_of_ble_eq_true rfl)) dX12_put_190 ⟨Nat.le_of_ble_eq_true rfl, Nat.le_of_ble_eq_true rfl⟩).run (fun r hw => ?_)
          have hit := b_1
          have hi := it79 hn hit
          have h300 := c_3
          rcases hw with ⟨hw, hfree⟩ | ⟨hw, hfree⟩
          ·
            subst hw
            have hfree0 := hfree
            obtain ⟨P, X, Y, D, N, eP, eX, eY, eD, eN, hPP, hXW, hYN, hDD1, hN1⟩ := free_rect hln hfree
            subst eP eX eY
            obtain rfl : D = 1 := (nI_inj (by omega) (by decide)).mp (show nI D = nI 1 from eD.symm)
            subst eN
            refine lv_if_eq (tgt := 200) hx hb dX12_put_193 (by decide) (fun c_18 => absurd c_18 (by decide)) (fun c_18 => ?_)
            refine lv_iconst (v := 1) hx hb dX12_put_196 (by decide) ?_
            refine lv_goto (tgt := 201) hx hb dX12_put_197 (by decide) ?_
            refine lv_istore (lv' := [(9, .int 1), (8, .int (nI N)), (7, .int 1), (6, .int 4), (0, .ref h0), (1, .int p0), (2, .int (nI P)), (3, .int (nI X)), (4, .int (nI Y)), (5, .int (nI N))]) hx hb dX12_put_201 hl (by decide) rfl (fun ls hl => ?_)
            refine lv_iload hx hb dX12_put_203 (lv_at hl 0 rfl) ?_
            refine lv_if_ne (tgt := 210) hx hb dX12_put_205 (by decide) (fun c_19 => ?_) (fun c_19 => absurd c_19 (by decide))
            refine lv_iload hx hb dX12_put_210 (lv_at hl 3 rfl) ?_
            refine lv_tableIn (tgt := 309) (off := 97) hx hb dX12_put_212 (by decide) (by decide) (by decide) (by decide) ?_
            refine lv_iload hx hb dX12_put_309 (lv_at hl 1 rfl) ?_
            refine lv_aload_n hx hb dX12_put_311 rfl (lv_at hl 4 rfl) ?_
            refine va_get (D := (dC, dI)) (ci := 11) (v := .ref (v 5)) (C := RX12) (T := TX12) (N := 52) hx hb hts (by decide +kernel) hown hK hP 0 rfl rfl 5 (by decide) (hts (.fieldLink RX12 22 "PageOneModel" "least" "[I") (by decide +kernel)) (fun _ h9 => h9) rfl dX12_put_312 ?_
            refine lv_iload_n hx hb dX12_put_315 rfl (lv_at hl 5 rfl) ?_
            refine va_iald hx hb hK hP 5 0 rfl rfl (vin (it79 hn b_1) (by decide)) dX12_put_316 ?_
            refine lv_aload_n hx hb dX12_put_317 rfl (lv_at hl 4 rfl) ?_
            refine va_get (D := (dC, dI)) (ci := 11) (v := .ref (v 6)) (C := RX12) (T := TX12) (N := 52) hx hb hts (by decide +kernel) hown hK hP 0 rfl rfl 6 (by decide) (hts (.fieldLink RX12 25 "PageOneModel" "most" "[I") (by decide +kernel)) (fun _ h9 => h9) rfl dX12_put_318 ?_
            refine lv_iload_n hx hb dX12_put_321 rfl (lv_at hl 5 rfl) ?_
            refine va_iald hx hb hK hP 6 0 rfl rfl (vin (it79 hn b_1) (by decide)) dX12_put_322 ?_
            refine vp_callSi (va_runS (As := [.int (nI N), .int (u.2 5 (p0 : Int32).toNatClampNeg), .int (u.2 6 (p0 : Int32).toNatClampNeg)]) (rest := []) ⟨hx, hb, hml, hown, hts⟩ (m_in l dC dI (nI N) (u.2 5 (p0 : Int32).toNatClampNeg) (u.2 6 (p0 : Int32).toNatClampNeg)) (va_cwS 3 hts gX12_put_X12_in rfl rfl rfl (by decide +kernel) ⟨Nat.le_of_ble_eq_true rfl, Nat.le_of_ble_eq_true rfl⟩) ⟨pw_fb, fun U hU hW => ⟨rfl, pw_to hU hW (hP.sub (ws' := []) [] rfl) (hK.sub (tys' := []) [] rfl) hN⟩⟩ rfl rfl hl.1 rfl (lv_room (Nat.le_of_ble_eq_true rfl)) dX12_put_323 ⟨Nat.le_of_ble_eq_true rfl, Nat.le_of_ble_eq_true rfl⟩).run (fun r hw => ?_)
            rcases Bool.eq_false_or_eq_true (bw (nI N) (u.2 5 (p0 : Int32).toNatClampNeg) (u.2 6 (p0 : Int32).toNatClampNeg)) with b_20 | b_20
            ·
              obtain rfl : r = 1 := b_t hw b_20
              refine lv_istore (lv' := [(9, .int 1), (8, .int (nI N)), (7, .int 1), (6, .int 4), (0, .ref h0), (1, .int p0), (2, .int (nI P)), (3, .int (nI X)), (4, .int (nI Y)), (5, .int (nI N))]) hx hb dX12_put_326 hl (by decide) rfl (fun ls hl => ?_)
              refine lv_goto (tgt := 343) hx hb dX12_put_328 (by decide) ?_
              refine lv_iload hx hb dX12_put_343 (lv_at hl 0 rfl) ?_
              refine lv_if_ne (tgt := 350) hx hb dX12_put_345 (by decide) (fun c_21 => ?_) (fun c_21 => absurd c_21 (by decide))
              refine lv_aload_n hx hb dX12_put_350 rfl (lv_at hl 4 rfl) ?_
              refine lv_iload_n hx hb dX12_put_351 rfl (lv_at hl 5 rfl) ?_
              refine lv_iload_n hx hb dX12_put_352 rfl (lv_at hl 6 rfl) ?_
              refine lv_iload_n hx hb dX12_put_353 rfl (lv_at hl 7 rfl) ?_
              refine lv_iload hx hb dX12_put_354 (lv_at hl 8 rfl) ?_
              refine lv_iload hx hb dX12_put_356 (lv_at hl 2 rfl) ?_
              refine lv_iload hx hb dX12_put_358 (lv_at hl 1 rfl) ?_
              have hFc := fr_all hD hS hA
              refine va_callv (va_runV (As := [.int p0, .int (nI P), .int (nI X), .int (nI Y), .int 1, .int (nI N)]) (rest := []) ⟨hx, hb, hml, hown, hts⟩ (m_stand l dC dI h0 v cI cZ u p0 P X Y 1 N hPP hXW hYN hi (z05 c_16) s.heap.size) (cwV 6 hts gX12_put_X12_stand rfl rfl rfl (by decide +kernel) ⟨Nat.le_of_ble_eq_true rfl, Nat.le_of_ble_eq_true rfl⟩) ⟨gw_fb, va_recv hK hP (ci := 11) (q0 := 0) rfl rfl, fun U hU hW => ⟨rfl, by rw [hU], pw_to hU hW hP hK hN, hD.weaken (fun _ _ _ _ => trivial)⟩⟩ rfl rfl hl.1 rfl (lv_room (Nat.le_of_ble_eq_true rfl)) dX12_put_360 ⟨Nat.le_of_ble_eq_true rfl, Nat.le_of_ble_eq_true rfl⟩) hS (fun q _ h => hFc q h) hFc (fun u_22 t H1 locs ht hvm hw hB hz1 hk1 hS => ?_)
              obtain ⟨hP, hD1⟩ := hB
              rw [ht] at hP
              have hD := hD1.weaken (fun _ q _ h => hFc q.1 h)
              generalize H1 = H at hP hS ⊢
              have eu_22 := hw
              refine lv_aload_n hx hb dX12_put_363 rfl (lv_at hl 4 rfl) ?_
              refine lv_iconst (v := 0) hx hb dX12_put_364 (by decide) ?_
              refine lv_iload_n hx hb dX12_put_365 rfl (lv_at hl 5 rfl) ?_
              refine lv_iconst (v := 0) hx hb dX12_put_366 (by decide) ?_
              refine lv_iconst (v := 0) hx hb dX12_put_367 (by decide) ?_
              refine lv_iconst (v := 0) hx hb dX12_put_368 (by decide) ?_
              refine lv_iconst (v := 0) hx hb dX12_put_369 (by decide) ?_
              refine lv_iconst (v := 0) hx hb dX12_put_370 (by decide) ?_
              have hFc := fr_all hD hS hA
              refine va_callv (va_runV (As := [.int 0, .int p0, .int 0, .int 0, .int 0, .int 0, .int 0]) (rest := []) ⟨hx, hb, hml, hown, hts⟩ (m_acts l dC dI h0 v cI cZ u_22 0 p0 0 0 0 0 0 (by rw [eu_22]; show bw (u.1 28) 0 299 = true; exact v300 ha h300) H.size) (cwV 7 hts gX12_put_X12_acts rfl rfl rfl (by decide +kernel) ⟨Nat.le_of_ble_eq_true rfl, Nat.le_of_ble_eq_true rfl⟩) ⟨gw_fb, va_recv hK hP (ci := 11) (q0 := 0) rfl rfl, fun U hU hW => ⟨rfl, by rw [hU], pw_to hU hW hP hK hN, hD.weaken (fun _ _ _ _ => trivial)⟩⟩ rfl rfl hl.1 rfl (lv_room (Nat.le_of_ble_eq_true rfl)) dX12_put_371 ⟨Nat.le_of_ble_eq_true rfl, Nat.le_of_ble_eq_true rfl⟩) hS (fun q _ h => hFc q h) hFc (fun u_23 t H1 locs ht hvm hw hB hz1 hk1 hS => ?_)
              obtain ⟨hP, hD1⟩ := hB
              rw [ht] at hP
              have hD := hD1.weaken (fun _ q _ h => hFc q.1 h)
              generalize H1 = H at hP hS ⊢
              have eu_23 := hw
              refine lv_aload_n hx hb dX12_put_374 rfl (lv_at hl 4 rfl) ?_
              refine va_get (D := (dC, dI)) (ci := 11) (v := .ref (v 22)) (C := RX12) (T := TX12) (N := 52) hx hb hts (by decide +kernel) hown hK hP 0 rfl rfl 22 (by decide) (hts (.fieldLink RX12 74 "PageOneModel" "pieces" "[I") (by decide +kernel)) (fun _ h9 => h9) rfl dX12_put_375 ?_
              refine lv_iload_n hx hb dX12_put_378 rfl (lv_at hl 5 rfl) ?_
              refine va_iald hx hb hK hP 22 0 rfl rfl (vin (it79 hn b_1) (by decide)) dX12_put_379 ?_
              exact W.iret (v := (u_23.2 22 (p0 : Int32).toNatClampNeg)) hx hb hr (fun t ht hW => ⟨⟨(u_23.2 22 (p0 : Int32).toNatClampNeg), u_23, rfl, (Or.inr ⟨⟨hit, h300, trivial, c_13, c_16, hfree0, b_20⟩, (by rw [eu_23, eu_22, putR]), P, X, Y, 1, N, rfl, rfl, rfl, rfl, rfl, hPP, hXW, hYN, hDD1, hN1, (Or.inl (by rw [eu_23, eu_22]))⟩), by rw [ht]; exact hP, hD⟩, hS.F ht⟩) hS.2.2 dX12_put_380
            ·
              obtain rfl : r = 0 := b_f hw b_20
              refine lv_istore (lv' := [(9, .int 0), (8, .int (nI N)), (7, .int 1), (6, .int 4), (0, .ref h0), (1, .int p0), (2, .int (nI P)), (3, .int (nI X)), (4, .int (nI Y)), (5, .int (nI N))]) hx hb dX12_put_326 hl (by decide) rfl (fun ls hl => ?_)
              refine lv_goto (tgt := 343) hx hb dX12_put_328 (by decide) ?_
              refine lv_iload hx hb dX12_put_343 (lv_at hl 0 rfl) ?_
              refine lv_if_ne (tgt := 350) hx hb dX12_put_345 (by decide) (fun c_24 => absurd (by decide) c_24) (fun c_24 => ?_)
              refine lv_iconst (v := (-1)) hx hb dX12_put_348 (by decide) ?_
              exact W.iret (v := (-1)) hx hb hr (fun t ht hW => ⟨⟨(-1), u, rfl, (Or.inl ⟨rfl, (fun h => bne b_20 h.2.2.2.2.2.2), Or.inl rfl⟩), by rw [ht]; exact hP, hD⟩, hS.F ht⟩) hS.2.2 dX12_put_349
          ·
            subst hw
            refine lv_if_eq (tgt := 200) hx hb dX12_put_193 (by decide) (fun c_25 => ?_) (fun c_25 => absurd (by decide) c_25)
            refine lv_iconst (v := 0) hx hb dX12_put_200 (by decide) ?_
            refine lv_istore (lv' := [(9, .int 0), (8, .int p4), (7, .int 1), (6, .int 4), (0, .ref h0), (1, .int p0), (2, .int p1), (3, .int p2), (4, .int p3), (5, .int p4)]) hx hb dX12_put_201 hl (by decide) rfl (fun ls hl => ?_)
            refine lv_iload hx hb dX12_put_203 (lv_at hl 0 rfl) ?_
            refine lv_if_ne (tgt := 210) hx hb dX12_put_205 (by decide) (fun c_26 => absurd (by decide) c_26) (fun c_26 => ?_)
            refine lv_iconst (v := (-1)) hx hb dX12_put_208 (by decide) ?_
            exact W.iret (v := (-1)) hx hb hr (fun t ht hW => ⟨⟨(-1), u, rfl, (Or.inl ⟨rfl, (fun h => hfree h.2.2.2.2.2.1), Or.inl rfl⟩), by rw [ht]; exact hP, hD⟩, hS.F ht⟩) hS.2.2 dX12_put_209
    ·
      refine lv_iconst (v := (-1)) hx hb dX12_put_18 (by decide) ?_
      exact W.iret (v := (-1)) hx hb hr (fun t ht hW => ⟨⟨(-1), u, rfl, (Or.inl ⟨rfl, (fun h => h.2.1 c_3), Or.inl rfl⟩), by rw [ht]; exact hP, hD⟩, hS.F ht⟩) hS.2.2 dX12_put_19
  ·
    obtain rfl : r = 0 := b_f hw b_1
    refine lv_if_eq (tgt := 18) hx hb dX12_put_5 (by decide) (fun c_27 => ?_) (fun c_27 => absurd (by decide) c_27)
    refine lv_iconst (v := (-1)) hx hb dX12_put_18 (by decide) ?_
    exact W.iret (v := (-1)) hx hb hr (fun t ht hW => ⟨⟨(-1), u, rfl, (Or.inl ⟨rfl, (fun h => bne b_1 h.1), Or.inl rfl⟩), by rw [ht]; exact hP, hD⟩, hS.F ht⟩) hS.2.2 dX12_put_19
set_option maxHeartbeats 4000000 in
set_option maxRecDepth 100000 in
theorem n_put5 (l : Launch) (dC : Nat → ClassId) (dI : Nat → Nat → Nat) (h0 : Nat) (v : Nat → Nat) (cI cZ : ClassId) (u : mS) (p0 p1 p2 p3 p4 : Int32) (hn : bw (u.1 3) 0 80 = true) (hln : ∀ j, j < 96 → bw (u.2 0 j) 0 60 = true) (hd : bw (u.1 38) 0 399 = true) (ha : bw (u.1 28) 0 300 = true) (hpc : ∀ j, j < 80 → bw (u.2 22 j) 0 6 = true) (hcm : ∀ j, j < 80 → bw (u.2 15 j) 0 80 = true) (hsz : ∀ j, j < 80 → bw (u.2 17 j) 0 4 = true) (hfr : bw p0 0 79 = true → ∀ P X Y N : Nat, P < 12 → X + 1 ≤ 8 → 1 ≤ N → Y + N ≤ 60 → ¬ u.2 22 p0.toNatClampNeg = 6 → runG (mStand u p0 P X Y 1 N) p0 (u.2 22 p0.toNatClampNeg) → 0 ≤ (mFrom (mStand u p0 P X Y 1 N) p0 (u.2 22 p0.toNatClampNeg).toNatClampNeg).toInt ∧ (mFrom (mStand u p0 P X Y 1 N) p0 (u.2 22 p0.toNatClampNeg).toNatClampNeg).toInt ≤ 400 ∧ (mTakes (mStand u p0 P X Y 1 N) p0 (u.2 22 p0.toNatClampNeg)).toInt ≤ 60) (hK9 : bw p0 0 (u.1 3 - 1) = true → u.2 4 p0.toNatClampNeg = 5) (sz : Nat) : Met l yX12_put wsX12_put ({ frames := 4, cells := 0, slots := 0, locals := 93 }) (va_Pc [.ref h0, .int p0, .int p1, .int p2, .int p3, .int p4] (fun U => U.heap.size = sz ∧ PW dC dI (mW h0 v cI cZ u) [(cI, .int), (cZ, .boolean)] U ∧ va_D (fun _ => True) (mW h0 v cI cZ u))) (va_Qi (fun (r : Int32) (u9 : mS) => rPut u p0 p1 p2 p3 1 (u.2 8 p0.toNatClampNeg) (okP5 u p0 p1 p2 p3 p4) r u9) (fun u9 t => va_P (dC, dI) vwCl (mW h0 v cI cZ u9) t.heap ∧ va_D (va_A (mW h0 v cI cZ u) sz) (mW h0 v cI cZ u9)) (va_A (mW h0 v cI cZ u) sz)) 0 0 (va_A (mW h0 v cI cZ u) sz) := by
  refine Met.ofW (cc := cX12_put) (maxL := 10) (ret := (some .int)) (by decide) rfl ?_
  intro p e s m args below meth c s₁ B hml hv
  obtain ⟨rfl, hsz, ⟨hP, hK, hN⟩, hD0⟩ := hv
  have hx := B.exec
  have hb := B.bytes
  have hr := B.returns
  have hts := atoms_spec (ws := wsX12_put) B.pre
  have hown : s.vm.findClass RX12 = some m.cls := findClass_of_methodNamed B.named
  have hlocks := B.notSynchronized
  subst hsz
  have hD := hD0.self (sz := s.heap.size)
  generalize hAe : va_A (mW h0 v cI cZ u) s.heap.size = A at hD ⊢
  have hA : ∀ q : Nat, s.heap.size ≤ q → A q := fun q h => by rw [← hAe]; exact Or.inr h
  have hS : va_S A s.heap s.heap [] := va_S.rf
  have hl := lv_entry ([.ref h0, .int p0, .int p1, .int p2, .int p3, .int p4]) (n := 10) (Nat.le_of_ble_eq_true rfl)
  rw [lg_entry_eq]
  generalize (lg_sl ([.ref h0, .int p0, .int p1, .int p2, .int p3, .int p4]) ++ List.replicate (10 - (lg_sl ([.ref h0, .int p0, .int p1, .int p2, .int p3, .int p4])).length) Slot.unset).toArray = ls at hl ⊢
  have hl : lv_has ls 10 [(0, .ref h0), (1, .int p0), (2, .int p1), (3, .int p2), (4, .int p3), (5, .int p4)] := hl
  refine lv_aload_n hx hb dX12_put_0 rfl (lv_at hl 0 rfl) ?_
  refine lv_iload_n hx hb dX12_put_1 rfl (lv_at hl 1 rfl) ?_
  refine vp_callSi (va_runV (As := [.int p0]) (rest := []) ⟨hx, hb, hml, hown, hts⟩ (m_isItem l dC dI h0 v cI cZ u p0) (cwV 1 hts gX12_put_X12_isItem rfl rfl rfl (by decide +kernel) ⟨Nat.le_of_ble_eq_true rfl, Nat.le_of_ble_eq_true rfl⟩) ⟨pw_fb, va_recv hK hP (ci := 11) (q0 := 0) rfl rfl, fun U hU hW => ⟨rfl, pw_to hU hW hP hK hN⟩⟩ rfl rfl hl.1 rfl (lv_room (Nat.le_of_ble_eq_true rfl)) dX12_put_2 ⟨Nat.le_of_ble_eq_true rfl, Nat.le_of_ble_eq_true rfl⟩).run (fun r hw => ?_)
  rcases Bool.eq_false_or_eq_true (bw p0 0 (u.1 3 - 1)) with b_1 | b_1
  ·
    obtain rfl : r = 1 := b_t hw b_1
    refine lv_if_eq (tgt := 18) hx hb dX12_put_5 (by decide) (fun c_2 => absurd c_2 (by decide)) (fun c_2 => ?_)
    refine lv_aload_n hx hb dX12_put_8 rfl (lv_at hl 0 rfl) ?_
    refine va_get (D := (dC, dI)) (ci := 11) (v := .int (u.1 28)) (C := RX12) (T := TX12) (N := 52) hx hb hts (by decide +kernel) hown hK hP 0 rfl rfl 28 (by decide) (hts (.fieldLink RX12 158 "PageOneModel" "acts" "I") (by decide +kernel)) (fun _ h9 => h9) rfl dX12_put_9 ?_
    refine lv_sipush (v := 300) hx hb dX12_put_12 (by decide) ?_
    refine lv_icmp_ne (tgt := 20) hx hb dX12_put_15 (by decide) (fun c_3 => ?_) (fun c_3 => ?_)
    ·
      refine lv_aload_n hx hb dX12_put_20 rfl (lv_at hl 0 rfl) ?_
      refine va_get (D := (dC, dI)) (ci := 11) (v := .ref (v 4)) (C := RX12) (T := TX12) (N := 52) hx hb hts (by decide +kernel) hown hK hP 0 rfl rfl 4 (by decide) (hts (.fieldLink RX12 19 "PageOneModel" "kind" "[I") (by decide +kernel)) (fun _ h9 => h9) rfl dX12_put_21 ?_
      refine lv_iload_n hx hb dX12_put_24 rfl (lv_at hl 1 rfl) ?_
      refine va_iald hx hb hK hP 4 0 rfl rfl (vin (it79 hn b_1) (by decide)) dX12_put_25 ?_
      refine lv_topi (fun y_4 ey_4 => ?_)
      obtain rfl : y_4 = 5 := ey_4.trans (hK9 b_1)
      refine lv_istore (lv' := [(6, .int 5), (0, .ref h0), (1, .int p0), (2, .int p1), (3, .int p2), (4, .int p3), (5, .int p4)]) hx hb dX12_put_26 hl (by decide) rfl (fun ls hl => ?_)
      refine lv_iload hx hb dX12_put_28 (lv_at hl 0 rfl) ?_
      refine lv_iconst (v := 1) hx hb dX12_put_30 (by decide) ?_
      refine lv_icmp_eq (tgt := 40) hx hb dX12_put_31 (by decide) (fun c_5 => absurd c_5 (by decide)) (fun c_5 => ?_)
      refine lv_iload hx hb dX12_put_34 (lv_at hl 0 rfl) ?_
      refine lv_iconst (v := 3) hx hb dX12_put_36 (by decide) ?_
      refine lv_icmp_ne (tgt := 49) hx hb dX12_put_37 (by decide) (fun c_6 => ?_) (fun c_6 => absurd c_6 (by decide))
      refine lv_iconst (v := 1) hx hb dX12_put_49 (by decide) ?_
      refine lv_istore (lv' := [(7, .int 1), (6, .int 5), (0, .ref h0), (1, .int p0), (2, .int p1), (3, .int p2), (4, .int p3), (5, .int p4)]) hx hb dX12_put_50 hl (by decide) rfl (fun ls hl => ?_)
      refine lv_iload hx hb dX12_put_52 (lv_at hl 1 rfl) ?_
      refine lv_if_eq (tgt := 63) hx hb dX12_put_54 (by decide) (fun c_7 => absurd c_7 (by decide)) (fun c_7 => ?_)
      refine lv_iload hx hb dX12_put_57 (lv_at hl 1 rfl) ?_
      refine lv_iconst (v := 4) hx hb dX12_put_59 (by decide) ?_
      refine lv_icmp_ne (tgt := 68) hx hb dX12_put_60 (by decide) (fun c_8 => ?_) (fun c_8 => absurd c_8 (by decide))
      refine lv_aload_n hx hb dX12_put_68 rfl (lv_at hl 2 rfl) ?_
      refine va_get (D := (dC, dI)) (ci := 11) (v := .ref (v 8)) (C := RX12) (T := TX12) (N := 52) hx hb hts (by decide +kernel) hown hK hP 0 rfl rfl 8 (by decide) (hts (.fieldLink RX12 31 "PageOneModel" "high" "[I") (by decide +kernel)) (fun _ h9 => h9) rfl dX12_put_69 ?_
      refine lv_iload_n hx hb dX12_put_72 rfl (lv_at hl 3 rfl) ?_
      refine va_iald hx hb hK hP 8 0 rfl rfl (vin (it79 hn b_1) (by decide)) dX12_put_73 ?_
      refine lv_istore (lv' := [(8, .int (u.2 8 (p0 : Int32).toNatClampNeg)), (7, .int 1), (6, .int 5), (0, .ref h0), (1, .int p0), (2, .int p1), (3, .int p2), (4, .int p3), (5, .int p4)]) hx hb dX12_put_74 hl (by decide) rfl (fun ls hl => ?_)
      refine lv_iload hx hb dX12_put_76 (lv_at hl 2 rfl) ?_
      refine lv_iconst (v := 2) hx hb dX12_put_78 (by decide) ?_
      refine lv_icmp_ne (tgt := 127) hx hb dX12_put_79 (by decide) (fun c_9 => ?_) (fun c_9 => absurd c_9 (by decide))
      refine lv_iload hx hb dX12_put_127 (lv_at hl 2 rfl) ?_
      refine lv_if_eq (tgt := 149) hx hb dX12_put_129 (by decide) (fun c_10 => absurd c_10 (by decide)) (fun c_10 => ?_)
      refine lv_iload hx hb dX12_put_132 (lv_at hl 2 rfl) ?_
      refine lv_iconst (v := 4) hx hb dX12_put_134 (by decide) ?_
      refine lv_icmp_eq (tgt := 149) hx hb dX12_put_135 (by decide) (fun c_11 => absurd c_11 (by decide)) (fun c_11 => ?_)
      refine lv_iload hx hb dX12_put_138 (lv_at hl 2 rfl) ?_
      refine lv_iconst (v := 2) hx hb dX12_put_140 (by decide) ?_
      refine lv_icmp_eq (tgt := 149) hx hb dX12_put_141 (by decide) (fun c_12 => absurd c_12 (by decide)) (fun c_12 => ?_)
      refine lv_iload hx hb dX12_put_144 (lv_at hl 8 rfl) ?_
      refine lv_if_ne (tgt := 153) hx hb dX12_put_146 (by decide) (fun c_13 => ?_) (fun c_13 => ?_)
      ·
        refine lv_iconst (v := 0) hx hb dX12_put_153 (by decide) ?_
        refine lv_istore (lv' := [(9, .int 0), (8, .int (u.2 8 (p0 : Int32).toNatClampNeg)), (7, .int 1), (6, .int 5), (0, .ref h0), (1, .int p0), (2, .int p1), (3, .int p2), (4, .int p3), (5, .int p4)]) hx hb dX12_put_154 hl (by decide) rfl (fun ls hl => ?_)
        refine lv_iload hx hb dX12_put_156 (lv_at hl 0 rfl) ?_
        refine lv_if_eq (tgt := 200) hx hb dX12_put_158 (by decide) (fun c_14 => ?_) (fun c_14 => absurd (by decide) c_14)
        refine lv_iconst (v := 0) hx hb dX12_put_200 (by decide) ?_
        refine lv_istore (lv' := [(9, .int 0), (8, .int (u.2 8 (p0 : Int32).toNatClampNeg)), (7, .int 1), (6, .int 5), (0, .ref h0), (1, .int p0), (2, .int p1), (3, .int p2), (4, .int p3), (5, .int p4)]) hx hb dX12_put_201 hl (by decide) rfl (fun ls hl => ?_)
        refine lv_iload hx hb dX12_put_203 (lv_at hl 0 rfl) ?_
        refine lv_if_ne (tgt := 210) hx hb dX12_put_205 (by decide) (fun c_15 => absurd (by decide) c_15) (fun c_15 => ?_)
        refine lv_iconst (v := (-1)) hx hb dX12_put_208 (by decide) ?_
        exact W.iret (v := (-1)) hx hb hr (fun t ht hW => ⟨⟨(-1), u, rfl, (Or.inl ⟨rfl, (fun h => c_13 h.2.2.1), Or.inl rfl⟩), by rw [ht]; exact hP, hD⟩, hS.F ht⟩) hS.2.2 dX12_put_209
      ·
        refine lv_iconst (v := 1) hx hb dX12_put_149 (by decide) ?_
        refine lv_goto (tgt := 154) hx hb dX12_put_150 (by decide) ?_
        refine lv_istore (lv' := [(9, .int 1), (8, .int (u.2 8 (p0 : Int32).toNatClampNeg)), (7, .int 1), (6, .int 5), (0, .ref h0), (1, .int p0), (2, .int p1), (3, .int p2), (4, .int p3), (5, .int p4)]) hx hb dX12_put_154 hl (by decide) rfl (fun ls hl => ?_)
        refine lv_iload hx hb dX12_put_156 (lv_at hl 0 rfl) ?_
        refine lv_if_eq (tgt := 200) hx hb dX12_put_158 (by decide) (fun c_16 => absurd c_16 (by decide)) (fun c_16 => ?_)
        refine lv_iload hx hb dX12_put_161 (lv_at hl 1 rfl) ?_
        refine lv_iconst (v := 1) hx hb dX12_put_163 (by decide) ?_
        refine lv_icmp_lt (tgt := 200) hx hb dX12_put_164 (by decide) (fun c_17 => ?_) (fun c_17 => ?_)
        ·
          refine lv_iconst (v := 0) hx hb dX12_put_200 (by decide) ?_
          refine lv_istore (lv' := [(9, .int 0), (8, .int (u.2 8 (p0 : Int32).toNatClampNeg)), (7, .int 1), (6, .int 5), (0, .ref h0), (1, .int p0), (2, .int p1), (3, .int p2), (4, .int p3), (5, .int p4)]) hx hb dX12_put_201 hl (by decide) rfl (fun ls hl => ?_)
          refine lv_iload hx hb dX12_put_203 (lv_at hl 0 rfl) ?_
          refine lv_if_ne (tgt := 210) hx hb dX12_put_205 (by decide) (fun c_18 => absurd (by decide) c_18) (fun c_18 => ?_)
          refine lv_iconst (v := (-1)) hx hb dX12_put_208 (by decide) ?_
          exact W.iret (v := (-1)) hx hb hr (fun t ht hW => ⟨⟨(-1), u, rfl, (Or.inl ⟨rfl, (fun h => h.2.2.2.1 c_17), Or.inl rfl⟩), by rw [ht]; exact hP, hD⟩, hS.F ht⟩) hS.2.2 dX12_put_209
        ·
          refine lv_iload hx hb dX12_put_167 (lv_at hl 3 rfl) ?_
          refine lv_if_eq (tgt := 181) hx hb dX12_put_169 (by decide) (fun c_19 => absurd c_19 (by decide)) (fun c_19 => ?_)
          refine lv_aload_n hx hb dX12_put_172 rfl (lv_at hl 4 rfl) ?_
          refine va_get (D := (dC, dI)) (ci := 11) (v := .ref (v 22)) (C := RX12) (T := TX12) (N := 52) hx hb hts (by decide +kernel) hown hK hP 0 rfl rfl 22 (by decide) (hts (.fieldLink RX12 74 "PageOneModel" "pieces" "[I") (by decide +kernel)) (fun _ h9 => h9) rfl dX12_put_173 ?_
          refine lv_iload_n hx hb dX12_put_176 rfl (lv_at hl 5 rfl) ?_
          refine va_iald hx hb hK hP 22 0 rfl rfl (vin (it79 hn b_1) (by decide)) dX12_put_177 ?_
          refine lv_if_ne (tgt := 200) hx hb dX12_put_178 (by decide) (fun c_20 => ?_) (fun c_20 => ?_)
          ·
            refine lv_iconst (v := 0) hx hb dX12_put_200 (by decide) ?_
            refine lv_istore (lv' := [(9, .int 0), (8, .int (u.2 8 (p0 : Int32).toNatClampNeg)), (7, .int 1), (6, .int 5), (0, .ref h0), (1, .int p0), (2, .int p1), (3, .int p2), (4, .int p3), (5, .int p4)]) hx hb dX12_put_201 hl (by decide) rfl (fun ls hl => ?_)
            refine lv_iload hx hb dX12_put_203 (lv_at hl 0 rfl) ?_
            refine lv_if_ne (tgt := 210) hx hb dX12_put_205 (by decide) (fun c_21 => absurd (by decide) c_21) (fun c_21 => ?_)
            refine lv_iconst (v := (-1)) hx hb dX12_put_208 (by decide) ?_
            exact W.iret (v := (-1)) hx hb hr (fun t ht hW => ⟨⟨(-1), u, rfl, (Or.inl ⟨rfl, (fun h => c_20 h.2.2.2.2.1), Or.inl rfl⟩), by rw [ht]; exact hP, hD⟩, hS.F ht⟩) hS.2.2 dX12_put_209
          ·
            refine lv_aload_n hx hb dX12_put_181 rfl (lv_at hl 4 rfl) ?_
            refine lv_iload_n hx hb dX12_put_182 rfl (lv_at hl 6 rfl) ?_
            refine lv_iload_n hx hb dX12_put_183 rfl (lv_at hl 7 rfl) ?_
            refine lv_iload hx hb dX12_put_184 (lv_at hl 8 rfl) ?_
            refine lv_iload hx hb dX12_put_186 (lv_at hl 2 rfl) ?_
            refine lv_iload hx hb dX12_put_188 (lv_at hl 1 rfl) ?_
            refine vp_callSi (va_runV (As := [.int p1, .int p2, .int p3, .int 1, .int (u.2 8 (p0 : Int32).toNatClampNeg)]) (rest := []) ⟨hx, hb, hml, hown, hts⟩ (m_isFree l dC dI h0 v cI cZ u p1 p2 p3 1 (u.2 8 (p0 : Int32).toNatClampNeg) hln) (cwV 5 hts gX12_put_X12_isFree rfl rfl rfl (by decide +kernel) ⟨Nat.le_of_ble_eq_true rfl, Nat.le_of_ble_eq_true rfl⟩) ⟨pw_fb, va_recv hK hP (ci := 11) (q0 := 0) rfl rfl, fun U hU hW => ⟨rfl, pw_to hU hW hP hK hN⟩⟩ rfl rfl hl.1 rfl (lv_room (Nat.le_of_ble_eq_true rfl)) dX12_put_190 ⟨Nat.le_of_ble_eq_true rfl, Nat.le_of_ble_eq_true rfl⟩).run (fun r hw => ?_)
            have hit := b_1
            have hi := it79 hn hit
            have h300 := c_3
            rcases hw with ⟨hw, hfree⟩ | ⟨hw, hfree⟩
            ·
              subst hw
              have hfree0 := hfree
              obtain ⟨P, X, Y, D, N, eP, eX, eY, eD, eN, hPP, hXW, hYN, hDD1, hN1⟩ := free_rect hln hfree
              subst eP eX eY
              obtain rfl : D = 1 := (nI_inj (by omega) (by decide)).mp (show nI D = nI 1 from eD.symm)
              rw [eN] at hl
              refine lv_if_eq (tgt := 200) hx hb dX12_put_193 (by decide) (fun c_22 => absurd c_22 (by decide)) (fun c_22 => ?_)
              refine lv_iconst (v := 1) hx hb dX12_put_196 (by decide) ?_
              refine lv_goto (tgt := 201) hx hb dX12_put_197 (by decide) ?_
              refine lv_istore (lv' := [(9, .int 1), (8, .int (nI N)), (7, .int 1), (6, .int 5), (0, .ref h0), (1, .int p0), (2, .int (nI P)), (3, .int (nI X)), (4, .int (nI Y)), (5, .int p4)]) hx hb dX12_put_201 hl (by decide) rfl (fun ls hl => ?_)
              refine lv_iload hx hb dX12_put_203 (lv_at hl 0 rfl) ?_
              refine lv_if_ne (tgt := 210) hx hb dX12_put_205 (by decide) (fun c_23 => ?_) (fun c_23 => absurd c_23 (by decide))
              refine lv_iload hx hb dX12_put_210 (lv_at hl 3 rfl) ?_
              refine lv_tableIn (tgt := 331) (off := 119) hx hb dX12_put_212 (by decide) (by decide) (by decide) (by decide) ?_
              refine lv_aload_n hx hb dX12_put_331 rfl (lv_at hl 4 rfl) ?_
              refine lv_iload_n hx hb dX12_put_332 rfl (lv_at hl 5 rfl) ?_
              refine lv_iload_n hx hb dX12_put_333 rfl (lv_at hl 6 rfl) ?_
              refine lv_iload_n hx hb dX12_put_334 rfl (lv_at hl 7 rfl) ?_
              refine vp_callSi (va_runV (As := [.int p0, .int (nI P), .int (nI X)]) (rest := []) ⟨hx, hb, hml, hown, hts⟩ (n_mayMend l dC dI h0 v cI cZ u p0 (nI P) (nI X) hi hn hd) (cwV 3 hts gX12_put_X12_mayMend rfl rfl rfl (by decide +kernel) ⟨Nat.le_of_ble_eq_true rfl, Nat.le_of_ble_eq_true rfl⟩) ⟨pw_fb, va_recv hK hP (ci := 11) (q0 := 0) rfl rfl, fun U hU hW => ⟨rfl, pw_to hU hW hP hK hN⟩⟩ rfl rfl hl.1 rfl (lv_room (Nat.le_of_ble_eq_true rfl)) dX12_put_335 ⟨Nat.le_of_ble_eq_true rfl, Nat.le_of_ble_eq_true rfl⟩).run (fun r hw => ?_)
              obtain rfl : r = (mMend u p0 (nI P) (nI X)) := hw
              refine lv_istore (lv' := [(9, .int (mMend u p0 (nI P) (nI X))), (8, .int (nI N)), (7, .int 1), (6, .int 5), (0, .ref h0), (1, .int p0), (2, .int (nI P)), (3, .int (nI X)), (4, .int (nI Y)), (5, .int p4)]) hx hb dX12_put_338 hl (by decide) rfl (fun ls hl => ?_)
              refine lv_goto (tgt := 343) hx hb dX12_put_340 (by decide) ?_
              refine lv_iload hx hb dX12_put_343 (lv_at hl 0 rfl) ?_
              refine lv_if_ne (tgt := 350) hx hb dX12_put_345 (by decide) (fun c_24 => ?_) (fun c_24 => ?_)
              ·
                refine lv_aload_n hx hb dX12_put_350 rfl (lv_at hl 4 rfl) ?_
                refine lv_iload_n hx hb dX12_put_351 rfl (lv_at hl 5 rfl) ?_
                refine lv_iload_n hx hb dX12_put_352 rfl (lv_at hl 6 rfl) ?_
                refine lv_iload_n hx hb dX12_put_353 rfl (lv_at hl 7 rfl) ?_
                refine lv_iload hx hb dX12_put_354 (lv_at hl 8 rfl) ?_
                refine lv_iload hx hb dX12_put_356 (lv_at hl 2 rfl) ?_
                refine lv_iload hx hb dX12_put_358 (lv_at hl 1 rfl) ?_
                have hFc := fr_all hD hS hA
                refine va_callv (va_runV (As := [.int p0, .int (nI P), .int (nI X), .int (nI Y), .int 1, .int (nI N)]) (rest := []) ⟨hx, hb, hml, hown, hts⟩ (m_stand l dC dI h0 v cI cZ u p0 P X Y 1 N hPP hXW hYN hi (z05 c_20) s.heap.size) (cwV 6 hts gX12_put_X12_stand rfl rfl rfl (by decide +kernel) ⟨Nat.le_of_ble_eq_true rfl, Nat.le_of_ble_eq_true rfl⟩) ⟨gw_fb, va_recv hK hP (ci := 11) (q0 := 0) rfl rfl, fun U hU hW => ⟨rfl, by rw [hU], pw_to hU hW hP hK hN, hD.weaken (fun _ _ _ _ => trivial)⟩⟩ rfl rfl hl.1 rfl (lv_room (Nat.le_of_ble_eq_true rfl)) dX12_put_360 ⟨Nat.le_of_ble_eq_true rfl, Nat.le_of_ble_eq_true rfl⟩) hS (fun q _ h => hFc q h) hFc (fun u_25 t H1 locs ht hvm hw hB hz1 hk1 hS => ?_)
                obtain ⟨hP, hD1⟩ := hB
                rw [ht] at hP
                have hD := hD1.weaken (fun _ q _ h => hFc q.1 h)
                generalize H1 = H at hP hS ⊢
                have eu_25 := hw
                refine lv_aload_n hx hb dX12_put_363 rfl (lv_at hl 4 rfl) ?_
                refine lv_iconst (v := 0) hx hb dX12_put_364 (by decide) ?_
                refine lv_iload_n hx hb dX12_put_365 rfl (lv_at hl 5 rfl) ?_
                refine lv_iconst (v := 0) hx hb dX12_put_366 (by decide) ?_
                refine lv_iconst (v := 0) hx hb dX12_put_367 (by decide) ?_
                refine lv_iconst (v := 0) hx hb dX12_put_368 (by decide) ?_
                refine lv_iconst (v := 0) hx hb dX12_put_369 (by decide) ?_
                refine lv_iconst (v := 0) hx hb dX12_put_370 (by decide) ?_
                have hFc := fr_all hD hS hA
                refine va_callv (va_runV (As := [.int 0, .int p0, .int 0, .int 0, .int 0, .int 0, .int 0]) (rest := []) ⟨hx, hb, hml, hown, hts⟩ (m_acts l dC dI h0 v cI cZ u_25 0 p0 0 0 0 0 0 (by rw [eu_25]; show bw (u.1 28) 0 299 = true; exact v300 ha h300) H.size) (cwV 7 hts gX12_put_X12_acts rfl rfl rfl (by decide +kernel) ⟨Nat.le_of_ble_eq_true rfl, Nat.le_of_ble_eq_true rfl⟩) ⟨gw_fb, va_recv hK hP (ci := 11) (q0 := 0) rfl rfl, fun U hU hW => ⟨rfl, by rw [hU], pw_to hU hW hP hK hN, hD.weaken (fun _ _ _ _ => trivial)⟩⟩ rfl rfl hl.1 rfl (lv_room (Nat.le_of_ble_eq_true rfl)) dX12_put_371 ⟨Nat.le_of_ble_eq_true rfl, Nat.le_of_ble_eq_true rfl⟩) hS (fun q _ h => hFc q h) hFc (fun u_26 t H1 locs ht hvm hw hB hz1 hk1 hS => ?_)
                obtain ⟨hP, hD1⟩ := hB
                rw [ht] at hP
                have hD := hD1.weaken (fun _ q _ h => hFc q.1 h)
                generalize H1 = H at hP hS ⊢
                have eu_26 := hw
                refine lv_aload_n hx hb dX12_put_374 rfl (lv_at hl 4 rfl) ?_
                refine va_get (D := (dC, dI)) (ci := 11) (v := .ref (v 22)) (C := RX12) (T := TX12) (N := 52) hx hb hts (by decide +kernel) hown hK hP 0 rfl rfl 22 (by decide) (hts (.fieldLink RX12 74 "PageOneModel" "pieces" "[I") (by decide +kernel)) (fun _ h9 => h9) rfl dX12_put_375 ?_
                refine lv_iload_n hx hb dX12_put_378 rfl (lv_at hl 5 rfl) ?_
                refine va_iald hx hb hK hP 22 0 rfl rfl (vin (it79 hn b_1) (by decide)) dX12_put_379 ?_
                exact W.iret (v := (u_26.2 22 (p0 : Int32).toNatClampNeg)) hx hb hr (fun t ht hW => ⟨⟨(u_26.2 22 (p0 : Int32).toNatClampNeg), u_26, rfl, (Or.inr ⟨⟨hit, h300, c_13, c_17, c_20, hfree0, c_24⟩, (by rw [eu_26, eu_25, putR]), P, X, Y, 1, N, rfl, rfl, rfl, rfl, eN, hPP, hXW, hYN, hDD1, hN1, (Or.inl (by rw [eu_26, eu_25]))⟩), by rw [ht]; exact hP, hD⟩, hS.F ht⟩) hS.2.2 dX12_put_380
              ·
                refine lv_iconst (v := (-1)) hx hb dX12_put_348 (by decide) ?_
                exact W.iret (v := (-1)) hx hb hr (fun t ht hW => ⟨⟨(-1), u, rfl, (Or.inl ⟨rfl, (fun h => h.2.2.2.2.2.2 c_24), Or.inl rfl⟩), by rw [ht]; exact hP, hD⟩, hS.F ht⟩) hS.2.2 dX12_put_349
            ·
              subst hw
              refine lv_if_eq (tgt := 200) hx hb dX12_put_193 (by decide) (fun c_27 => ?_) (fun c_27 => absurd (by decide) c_27)
              refine lv_iconst (v := 0) hx hb dX12_put_200 (by decide) ?_
              refine lv_istore (lv' := [(9, .int 0), (8, .int (u.2 8 (p0 : Int32).toNatClampNeg)), (7, .int 1), (6, .int 5), (0, .ref h0), (1, .int p0), (2, .int p1), (3, .int p2), (4, .int p3), (5, .int p4)]) hx hb dX12_put_201 hl (by decide) rfl (fun ls hl => ?_)
              refine lv_iload hx hb dX12_put_203 (lv_at hl 0 rfl) ?_
              refine lv_if_ne (tgt := 210) hx hb dX12_put_205 (by decide) (fun c_28 => absurd (by decide) c_28) (fun c_28 => ?_)
              refine lv_iconst (v := (-1)) hx hb dX12_put_208 (by decide) ?_
              exact W.iret (v := (-1)) hx hb hr (fun t ht hW => ⟨⟨(-1), u, rfl, (Or.inl ⟨rfl, (fun h => hfree h.2.2.2.2.2.1), Or.inl rfl⟩), by rw [ht]; exact hP, hD⟩, hS.F ht⟩) hS.2.2 dX12_put_209
    ·
      refine lv_iconst (v := (-1)) hx hb dX12_put_18 (by decide) ?_
      exact W.iret (v := (-1)) hx hb hr (fun t ht hW => ⟨⟨(-1), u, rfl, (Or.inl ⟨rfl, (fun h => h.2.1 c_3), Or.inl rfl⟩), by rw [ht]; exact hP, hD⟩, hS.F ht⟩) hS.2.2 dX12_put_19
  ·
    obtain rfl : r = 0 := b_f hw b_1
    refine lv_if_eq (tgt := 18) hx hb dX12_put_5 (by decide) (fun c_29 => ?_) (fun c_29 => absurd (by decide) c_29)
    refine lv_iconst (v := (-1)) hx hb dX12_put_18 (by decide) ?_
    exact W.iret (v := (-1)) hx hb hr (fun t ht hW => ⟨⟨(-1), u, rfl, (Or.inl ⟨rfl, (fun h => bne b_1 h.1), Or.inl rfl⟩), by rw [ht]; exact hP, hD⟩, hS.F ht⟩) hS.2.2 dX12_put_19
