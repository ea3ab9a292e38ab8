/-- the filler that fits, of the last j items -/
def mFFr (u : mS) (n : Int32) (M : Nat) : Nat → Int32
  | 0 => (-1)
  | j + 1 => if (decide (u.2 4 (nI (M - j - 1)).toNatClampNeg = 4) && decide (u.2 22 (nI (M - j - 1)).toNatClampNeg = 0) && bw n (u.2 5 (nI (M - j - 1)).toNatClampNeg) (u.2 6 (nI (M - j - 1)).toNatClampNeg)) = true then nI (M - j - 1) else mFFr u n M j
theorem dn_z {m : Nat} (hm : m < 1000) (h : nI m - 1 < 0) : m = 0 := by
  rw [i32_lt, subI (by rw [nI_toInt (by omega), i1]; omega) (by rw [nI_toInt (by omega), i1]; omega), nI_toInt (by omega), i1, i0] at h; omega
theorem dn_p {m : Nat} (hm : m < 1000) (h : ¬ nI m - 1 < 0) : 0 < m := by
  rw [i32_lt, subI (by rw [nI_toInt (by omega), i1]; omega) (by rw [nI_toInt (by omega), i1]; omega), nI_toInt (by omega), i1, i0] at h; omega
theorem dn_e {m : Nat} (h : 0 < m) : nI m - 1 = nI (m - 1) := by
  rw [show (1 : Int32) = nI 1 from rfl]; exact pk_sub h
theorem dec1 (x : Int32) : x + Int32.ofInt (-1) = x - 1 := by rw [Int32.sub_eq_add_neg]; rfl
set_option maxHeartbeats 4000000 in
set_option maxRecDepth 100000 in
theorem m_fillerFor_loop {p : Program} {l : Launch} {e : Env} {R : Room} {s : State} {m : MethodId} {args : Array Value} {below : List Frame} {meth : Method} {c : Code} {Q : State → Prop} {cells slots : Nat} {dC : Nat → ClassId} {dI : Nat → Nat → Nat} {h0 : Nat} {v : Nat → Nat} {cI cZ : ClassId} {H : Heap} {locs : List Loc} {u : mS} (hx : p.tables.exec = Jvm.exec) (hb : c.code = cX12_fillerFor) (hml : c.maxLocals = 4) (hts : ∀ w ∈ wsX12_fillerFor, w.before args s = true) (hown : s.vm.findClass RX12 = some m.cls) (hN : NN s) (hK : va_K (dC, dI) vwCl [(cI, .int), (cZ, .boolean)] s) (hRf : 1 ≤ R.frames) (hRl : 22 ≤ R.locals) (hRc : cells ≤ R.cells) (hRs : slots ≤ R.slots) (hP : va_P (dC, dI) vwCl (mW h0 v cI cZ u) H) {p0 : Int32} {M : Nat} (hM : M ≤ 80) (kx : ∀ (a : Int32) (ls : Array Slot), a = mFFr u p0 M M → lv_has ls 4 [(3, .int (nI (M - M) - 1)), (2, .int a), (0, .ref h0), (1, .int p0)] → W p l e R s m args below meth c H locs cells slots Q (F0 m 63 ls [])) : ∀ (k i : Nat) (a : Int32) (ls : Array Slot), i ≤ M → M - i < k → a = mFFr u p0 M i → lv_has ls 4 [(3, .int (nI (M - i) - 1)), (2, .int a), (0, .ref h0), (1, .int p0)] → W p l e R s m args below meth c H locs cells slots Q (F0 m 9 ls []) := by
  intro k
  induction k with
  | zero => intro i a ls h1 h2; exact absurd h2 (Nat.not_lt_zero _)
  | succ k ih =>
    intro i a ls hi hk hg hl
    refine lv_iload_n hx hb dX12_fillerFor_9 rfl (lv_at hl 0 rfl) ?_
    refine lv_if_lt (tgt := 63) hx hb dX12_fillerFor_10 (by decide) (fun c_1 => ?_) (fun c_1 => ?_)
    ·
      have hie : i = M := by have := dn_z (m := M - i) (by omega) c_1; omega
      rw [hie] at hg hl
      exact kx _ ls hg (lv_sub hl [0, 1, 2, 3] rfl)
    ·
      have hlt : i < M := by have := dn_p (m := M - i) (by omega) c_1; omega
      rw [dn_e (m := M - i) (by omega)] at hl
      refine lv_aload_n hx hb dX12_fillerFor_13 rfl (lv_at hl 2 rfl) ?_
      refine va_get (D := (dC, dI)) (ci := 11) (v := .ref (v 4)) (C := RX12) (T := TX12) (N := 52) hx hb hts (by decide +kernel) hown hK hP 0 rfl rfl 4 (by decide) (hts (.fieldLink RX12 19 "PageOneModel" "kind" "[I") (by decide +kernel)) (fun _ h9 => h9) rfl dX12_fillerFor_14 ?_
      refine lv_iload_n hx hb dX12_fillerFor_17 rfl (lv_at hl 0 rfl) ?_
      refine va_iald hx hb hK hP 4 0 rfl rfl (vp_in_nI (by omega) (by decide)) dX12_fillerFor_18 ?_
      refine lv_iconst (v := 4) hx hb dX12_fillerFor_19 (by decide) ?_
      refine lv_icmp_ne (tgt := 55) hx hb dX12_fillerFor_20 (by decide) (fun c_2 => ?_) (fun c_2 => ?_)
      ·
        refine lv_iload_n hx hb dX12_fillerFor_55 rfl (lv_at hl 1 rfl) ?_
        refine lv_istore_n (lv' := [(2, .int a), (3, .int (nI (M - i - 1))), (0, .ref h0), (1, .int p0)]) hx hb dX12_fillerFor_56 rfl hl (by decide) rfl (fun ls hl => ?_)
        refine lv_iinc (v := (nI (M - (i + 1)) - 1)) (lv' := [(3, .int (nI (M - (i + 1)) - 1)), (2, .int a), (0, .ref h0), (1, .int p0)]) hx hb dX12_fillerFor_57 hl (k := 1) rfl (by rw [dec1, Nat.sub_sub]) (by decide) rfl (fun ls hl => ?_)
        refine lv_goto (tgt := 9) hx hb dX12_fillerFor_60 (by decide) ?_
        exact ih (i + 1) _ ls (by omega) (by omega) (by rw [mFFr, if_neg (by simp [c_2])]; exact hg) (lv_sub hl [0, 1, 2, 3] rfl)
      ·
        refine lv_aload_n hx hb dX12_fillerFor_23 rfl (lv_at hl 2 rfl) ?_
        refine va_get (D := (dC, dI)) (ci := 11) (v := .ref (v 22)) (C := RX12) (T := TX12) (N := 52) hx hb hts (by decide +kernel) hown hK hP 0 rfl rfl 22 (by decide) (hts (.fieldLink RX12 74 "PageOneModel" "pieces" "[I") (by decide +kernel)) (fun _ h9 => h9) rfl dX12_fillerFor_24 ?_
        refine lv_iload_n hx hb dX12_fillerFor_27 rfl (lv_at hl 0 rfl) ?_
        refine va_iald hx hb hK hP 22 0 rfl rfl (vp_in_nI (by omega) (by decide)) dX12_fillerFor_28 ?_
        refine lv_if_ne (tgt := 55) hx hb dX12_fillerFor_29 (by decide) (fun c_3 => ?_) (fun c_3 => ?_)
        ·
          refine lv_iload_n hx hb dX12_fillerFor_55 rfl (lv_at hl 1 rfl) ?_
          refine lv_istore_n (lv' := [(2, .int a), (3, .int (nI (M - i - 1))), (0, .ref h0), (1, .int p0)]) hx hb dX12_fillerFor_56 rfl hl (by decide) rfl (fun ls hl => ?_)
          refine lv_iinc (v := (nI (M - (i + 1)) - 1)) (lv' := [(3, .int (nI (M - (i + 1)) - 1)), (2, .int a), (0, .ref h0), (1, .int p0)]) hx hb dX12_fillerFor_57 hl (k := 1) rfl (by rw [dec1, Nat.sub_sub]) (by decide) rfl (fun ls hl => ?_)
          refine lv_goto (tgt := 9) hx hb dX12_fillerFor_60 (by decide) ?_
          exact ih (i + 1) _ ls (by omega) (by omega) (by rw [mFFr, if_neg (by simp [c_2, c_3])]; exact hg) (lv_sub hl [0, 1, 2, 3] rfl)
        ·
          refine lv_iload_n hx hb dX12_fillerFor_32 rfl (lv_at hl 3 rfl) ?_
          refine lv_aload_n hx hb dX12_fillerFor_33 rfl (lv_at hl 2 rfl) ?_
          refine va_get (D := (dC, dI)) (ci := 11) (v := .ref (v 5)) (C := RX12) (T := TX12) (N := 52) hx hb hts (by decide +kernel) hown hK hP 0 rfl rfl 5 (by decide) (hts (.fieldLink RX12 22 "PageOneModel" "least" "[I") (by decide +kernel)) (fun _ h9 => h9) rfl dX12_fillerFor_34 ?_
          refine lv_iload_n hx hb dX12_fillerFor_37 rfl (lv_at hl 0 rfl) ?_
          refine va_iald hx hb hK hP 5 0 rfl rfl (vp_in_nI (by omega) (by decide)) dX12_fillerFor_38 ?_
          refine lv_aload_n hx hb dX12_fillerFor_39 rfl (lv_at hl 2 rfl) ?_
          refine va_get (D := (dC, dI)) (ci := 11) (v := .ref (v 6)) (C := RX12) (T := TX12) (N := 52) hx hb hts (by decide +kernel) hown hK hP 0 rfl rfl 6 (by decide) (hts (.fieldLink RX12 25 "PageOneModel" "most" "[I") (by decide +kernel)) (fun _ h9 => h9) rfl dX12_fillerFor_40 ?_
          refine lv_iload_n hx hb dX12_fillerFor_43 rfl (lv_at hl 0 rfl) ?_
          refine va_iald hx hb hK hP 6 0 rfl rfl (vp_in_nI (by omega) (by decide)) dX12_fillerFor_44 ?_
          refine vp_callSi (va_runS (As := [.int p0, .int (u.2 5 ((nI (M - i - 1)) : Int32).toNatClampNeg), .int (u.2 6 ((nI (M - i - 1)) : Int32).toNatClampNeg)]) (rest := []) ⟨hx, hb, hml, hown, hts⟩ (m_in l dC dI p0 (u.2 5 ((nI (M - i - 1)) : Int32).toNatClampNeg) (u.2 6 ((nI (M - i - 1)) : Int32).toNatClampNeg)) (va_cwS 3 hts gX12_fillerFor_X12_in rfl rfl rfl (by decide +kernel) ⟨hRf, hRl⟩) ⟨pw_fb, fun U hU hW => ⟨rfl, pw_to hU hW (hP.sub (ws' := []) [] rfl) (hK.sub (tys' := []) [] rfl) hN⟩⟩ rfl rfl hl.1 rfl (lv_room (Nat.le_of_ble_eq_true rfl)) dX12_fillerFor_45 ⟨hRc, hRs⟩).run (fun r hw => ?_)
          rcases Bool.eq_false_or_eq_true (bw p0 (u.2 5 ((nI (M - i - 1)) : Int32).toNatClampNeg) (u.2 6 ((nI (M - i - 1)) : Int32).toNatClampNeg)) with b_4 | b_4
          ·
            obtain rfl : r = 1 := b_t hw b_4
            refine lv_if_eq (tgt := 55) hx hb dX12_fillerFor_48 (by decide) (fun c_5 => absurd c_5 (by decide)) (fun c_5 => ?_)
            refine lv_iload_n hx hb dX12_fillerFor_51 rfl (lv_at hl 0 rfl) ?_
            refine lv_goto (tgt := 56) hx hb dX12_fillerFor_52 (by decide) ?_
            refine lv_topi (fun x_6 ex_6 => ?_)
            refine lv_istore_n (lv' := [(2, .int x_6), (3, .int (nI (M - i - 1))), (0, .ref h0), (1, .int p0)]) hx hb dX12_fillerFor_56 rfl hl (by decide) rfl (fun ls hl => ?_)
            refine lv_iinc (v := (nI (M - (i + 1)) - 1)) (lv' := [(3, .int (nI (M - (i + 1)) - 1)), (2, .int x_6), (0, .ref h0), (1, .int p0)]) hx hb dX12_fillerFor_57 hl (k := 1) rfl (by rw [dec1, Nat.sub_sub]) (by decide) rfl (fun ls hl => ?_)
            refine lv_goto (tgt := 9) hx hb dX12_fillerFor_60 (by decide) ?_
            exact ih (i + 1) _ ls (by omega) (by omega) (by rw [mFFr, if_pos (by simp [c_2, c_3, b_4])]; first | assumption | rfl) (lv_sub hl [0, 1, 2, 3] rfl)
          ·
            obtain rfl : r = 0 := b_f hw b_4
            refine lv_if_eq (tgt := 55) hx hb dX12_fillerFor_48 (by decide) (fun c_7 => ?_) (fun c_7 => absurd (by decide) c_7)
            refine lv_iload_n hx hb dX12_fillerFor_55 rfl (lv_at hl 1 rfl) ?_
            refine lv_istore_n (lv' := [(2, .int a), (3, .int (nI (M - i - 1))), (0, .ref h0), (1, .int p0)]) hx hb dX12_fillerFor_56 rfl hl (by decide) rfl (fun ls hl => ?_)
            refine lv_iinc (v := (nI (M - (i + 1)) - 1)) (lv' := [(3, .int (nI (M - (i + 1)) - 1)), (2, .int a), (0, .ref h0), (1, .int p0)]) hx hb dX12_fillerFor_57 hl (k := 1) rfl (by rw [dec1, Nat.sub_sub]) (by decide) rfl (fun ls hl => ?_)
            refine lv_goto (tgt := 9) hx hb dX12_fillerFor_60 (by decide) ?_
            exact ih (i + 1) _ ls (by omega) (by omega) (by rw [mFFr, if_neg (by simp [c_2, c_3, b_4])]; exact hg) (lv_sub hl [0, 1, 2, 3] rfl)
set_option maxHeartbeats 4000000 in
set_option maxRecDepth 100000 in
theorem m_fillerFor (l : Launch) (dC : Nat → ClassId) (dI : Nat → Nat → Nat) (h0 : Nat) (v : Nat → Nat) (cI cZ : ClassId) (u : mS) (p0 : Int32) (hn : bw (u.1 3) 0 80 = true) : Met l yX12_fillerFor wsX12_fillerFor ({ frames := 1, cells := 0, slots := 0, locals := 22 }) (va_Pc [.ref h0, .int p0] (PW dC dI (mW h0 v cI cZ u) [(cI, .int), (cZ, .boolean)])) (vp_Si (fun r => r = mFFr u p0 (u.1 3).toNatClampNeg (u.1 3).toNatClampNeg)) 0 0 (fun _ => False) := by
  refine Met.ofW (cc := cX12_fillerFor) (maxL := 4) (ret := (some .int)) (by decide) rfl ?_
  intro p e s m args below meth c s₁ B hml hv
  obtain ⟨rfl, hP, hK, hN⟩ := hv
  have hx := B.exec
  have hb := B.bytes
  have hr := B.returns
  have hts := atoms_spec (ws := wsX12_fillerFor) B.pre
  have hown : s.vm.findClass RX12 = some m.cls := findClass_of_methodNamed B.named
  have hlocks := B.notSynchronized
  have hl := lv_entry ([.ref h0, .int p0]) (n := 4) (Nat.le_of_ble_eq_true rfl)
  rw [lg_entry_eq]
  generalize (lg_sl ([.ref h0, .int p0]) ++ List.replicate (4 - (lg_sl ([.ref h0, .int p0])).length) Slot.unset).toArray = ls at hl ⊢
  have hl : lv_has ls 4 [(0, .ref h0), (1, .int p0)] := hl
  refine lv_iconst (v := (-1)) hx hb dX12_fillerFor_0 (by decide) ?_
  refine lv_istore_n (lv' := [(2, .int (-1)), (0, .ref h0), (1, .int p0)]) hx hb dX12_fillerFor_1 rfl hl (by decide) rfl (fun ls hl => ?_)
  refine lv_aload_n hx hb dX12_fillerFor_2 rfl (lv_at hl 1 rfl) ?_
  refine va_get (D := (dC, dI)) (ci := 11) (v := .int (u.1 3)) (C := RX12) (T := TX12) (N := 52) hx hb hts (by decide +kernel) hown hK hP 0 rfl rfl 3 (by decide) (hts (.fieldLink RX12 147 "PageOneModel" "items" "I") (by decide +kernel)) (fun _ h9 => h9) rfl dX12_fillerFor_3 ?_
  refine lv_iconst (v := 1) hx hb dX12_fillerFor_6 (by decide) ?_
  refine lv_isub hx hb dX12_fillerFor_7 ?_
  refine lv_topi (fun x_1 ex_1 => ?_)
  refine lv_istore_n (lv' := [(3, .int x_1), (2, .int (-1)), (0, .ref h0), (1, .int p0)]) hx hb dX12_fillerFor_8 rfl hl (by decide) rfl (fun ls hl => ?_)
  obtain ⟨eM, eM2, eM3⟩ := nI_of_bw hn
  have h80 : (80 : Int32).toInt = 80 := rfl
  have ex9 : x_1 = nI ((u.1 3).toNatClampNeg - 0) - 1 := by rw [ex_1, Nat.sub_zero, ← eM]
  rw [ex9] at hl
  refine m_fillerFor_loop (M := (u.1 3).toNatClampNeg) hx hb hml hts hown hN hK (Nat.le_of_ble_eq_true rfl) (Nat.le_of_ble_eq_true rfl) (Nat.le_of_ble_eq_true rfl) (Nat.le_of_ble_eq_true rfl) hP (by omega) (fun a ls hg hl => ?_) _ 0 (-1) ls (Nat.zero_le _) (Nat.lt_succ_self _) rfl (lv_sub hl [0, 1, 2, 3] rfl)
  refine lv_iload_n hx hb dX12_fillerFor_63 rfl (lv_at hl 1 rfl) ?_
  exact W.iret (v := a) hx hb hr (fun t ht hW => ⟨_, rfl, hg, ht⟩) (fun q h => absurd h List.not_mem_nil) dX12_fillerFor_64
