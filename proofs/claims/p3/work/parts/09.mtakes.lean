/-- takes(i, k) -/
def mTakes (u : mS) (i k : Int32) : Int32 :=
  let n1 := if k ≤ 0 then u.2 27 (6 * i + k).toNatClampNeg else if u.2 23 (6 * i + k - 1).toNatClampNeg = u.2 23 (6 * i + k).toNatClampNeg then u.2 27 (6 * i + k).toNatClampNeg else u.2 27 (6 * i + k).toNatClampNeg + (-1)
  if u.2 22 i.toNatClampNeg ≤ k + 1 then n1 else if u.2 23 (6 * i + k + 1).toNatClampNeg = u.2 23 (6 * i + k).toNatClampNeg then n1 else n1 + (-1)
def mFrom (u : mS) (i : Int32) : Nat → Int32
  | 0 => 0
  | n + 1 => mFrom u i n + mTakes u i (nI n)
theorem v6 {i k : Int32} (hi : bw i 0 79 = true) (hk : bw k 0 5 = true) : (6 * i + k).toInt = 6 * i.toInt + k.toInt ∧ 0 ≤ i.toInt ∧ i.toInt ≤ 79 ∧ 0 ≤ k.toInt ∧ k.toInt ≤ 5 := by
  have h6 : (6 : Int32).toInt = 6 := rfl
  have h79 : (79 : Int32).toInt = 79 := rfl
  have h5 : (5 : Int32).toInt = 5 := rfl
  have h1 := bw_iff.mp hi
  have h2 := bw_iff.mp hk
  rw [i0] at h1 h2
  rw [h79] at h1
  rw [h5] at h2
  have e1 : (6 * i).toInt = 6 * i.toInt := by rw [mulI (by rw [h6]; omega) (by rw [h6]; omega), h6]
  exact ⟨by rw [addI (by rw [e1]; omega) (by rw [e1]; omega), e1], h1.1, h1.2, h2.1, h2.2⟩
theorem v6a {i k x : Int32} (hi : bw i 0 79 = true) (hk : bw k 0 5 = true) (ex : x = 6 * i + k) : vp_in x 480 := by
  have h := v6 hi hk
  rw [ex, vp_in_iff, h.1]; omega
theorem v6m {i k x : Int32} (hi : bw i 0 79 = true) (hk : bw k 0 5 = true) (ex : x = 6 * i + k) (h0 : ¬ k ≤ 0) : vp_in (x - 1) 480 := by
  have h := v6 hi hk
  rw [i32_le, i0] at h0
  rw [ex, vp_in_iff, subI (by rw [h.1, i1]; omega) (by rw [h.1, i1]; omega), h.1, i1]; omega
theorem v6p {i k x n : Int32} (hi : bw i 0 79 = true) (hk : bw k 0 5 = true) (ex : x = 6 * i + k) (hn : bw n 0 6 = true) (h0 : ¬ n ≤ k + 1) : vp_in (x + 1) 480 := by
  have h := v6 hi hk
  have h6 : (6 : Int32).toInt = 6 := rfl
  have h2 := bw_iff.mp hn
  rw [i0, h6] at h2
  rw [i32_le, addI (by rw [i1]; omega) (by rw [i1]; omega), i1] at h0
  rw [ex, vp_in_iff, addI (by rw [h.1, i1]; omega) (by rw [h.1, i1]; omega), h.1, i1]; omega
set_option maxHeartbeats 4000000 in
set_option maxRecDepth 100000 in
theorem m_takes (l : Launch) (dC : Nat → ClassId) (dI : Nat → Nat → Nat) (h0 : Nat) (v : Nat → Nat) (cI cZ : ClassId) (u : mS) (p0 p1 : Int32) (hi : bw p0 0 79 = true) (hk : bw p1 0 5 = true) (hc : bw (u.2 22 p0.toNatClampNeg) 0 6 = true) : Met l yX12_takes wsX12_takes ({ frames := 0, cells := 0, slots := 0, locals := 0 }) (va_Pc [.ref h0, .int p0, .int p1] (PW dC dI (mW h0 v cI cZ u) [(cI, .int), (cZ, .boolean)])) (vp_Si (fun r => r = mTakes u p0 p1)) 0 0 (fun _ => False) := by
  refine Met.ofW (cc := cX12_takes) (maxL := 5) (ret := (some .int)) (by decide) rfl ?_
  intro p e s m args below meth c s₁ B hml hv
  obtain ⟨rfl, hP, hK, hN⟩ := hv
  have hx := B.exec
  have hb := B.bytes
  have hr := B.returns
  have hts := atoms_spec (ws := wsX12_takes) B.pre
  have hown : s.vm.findClass RX12 = some m.cls := findClass_of_methodNamed B.named
  have hlocks := B.notSynchronized
  have hl := lv_entry ([.ref h0, .int p0, .int p1]) (n := 5) (Nat.le_of_ble_eq_true rfl)
  rw [lg_entry_eq]
  generalize (lg_sl ([.ref h0, .int p0, .int p1]) ++ List.replicate (5 - (lg_sl ([.ref h0, .int p0, .int p1])).length) Slot.unset).toArray = ls at hl ⊢
  have hl : lv_has ls 5 [(0, .ref h0), (1, .int p0), (2, .int p1)] := hl
  refine lv_bipush (v := 6) hx hb dX12_takes_0 (by decide) ?_
  refine lv_iload_n hx hb dX12_takes_2 rfl (lv_at hl 1 rfl) ?_
  refine lv_imul hx hb dX12_takes_3 ?_
  refine lv_iload_n hx hb dX12_takes_4 rfl (lv_at hl 2 rfl) ?_
  refine lv_iadd hx hb dX12_takes_5 ?_
  refine lv_topi (fun x_1 ex_1 => ?_)
  refine lv_istore_n (lv' := [(3, .int x_1), (0, .ref h0), (1, .int p0), (2, .int p1)]) hx hb dX12_takes_6 rfl hl (by decide) rfl (fun ls hl => ?_)
  refine lv_aload_n hx hb dX12_takes_7 rfl (lv_at hl 1 rfl) ?_
  refine va_get (D := (dC, dI)) (ci := 11) (v := .ref (v 27)) (C := RX12) (T := TX12) (N := 52) hx hb hts (by decide +kernel) hown hK hP 0 rfl rfl 27 (by decide) (hts (.fieldLink RX12 89 "PageOneModel" "pHigh" "[I") (by decide +kernel)) (fun _ h9 => h9) rfl dX12_takes_8 ?_
  refine lv_iload_n hx hb dX12_takes_11 rfl (lv_at hl 0 rfl) ?_
  refine va_iald hx hb hK hP 27 0 rfl rfl (v6a hi hk ex_1) dX12_takes_12 ?_
  refine lv_topi (fun x_2 ex_2 => ?_)
  refine lv_istore (lv' := [(4, .int x_2), (3, .int x_1), (0, .ref h0), (1, .int p0), (2, .int p1)]) hx hb dX12_takes_13 hl (by decide) rfl (fun ls hl => ?_)
  refine lv_iload_n hx hb dX12_takes_15 rfl (lv_at hl 4 rfl) ?_
  refine lv_if_le (tgt := 39) hx hb dX12_takes_16 (by decide) (fun c_3 => ?_) (fun c_3 => ?_)
  ·
    refine lv_iload_n hx hb dX12_takes_39 rfl (lv_at hl 4 rfl) ?_
    refine lv_iconst (v := 1) hx hb dX12_takes_40 (by decide) ?_
    refine lv_iadd hx hb dX12_takes_41 ?_
    refine lv_aload_n hx hb dX12_takes_42 rfl (lv_at hl 2 rfl) ?_
    refine va_get (D := (dC, dI)) (ci := 11) (v := .ref (v 22)) (C := RX12) (T := TX12) (N := 52) hx hb hts (by decide +kernel) hown hK hP 0 rfl rfl 22 (by decide) (hts (.fieldLink RX12 74 "PageOneModel" "pieces" "[I") (by decide +kernel)) (fun _ h9 => h9) rfl dX12_takes_43 ?_
    refine lv_iload_n hx hb dX12_takes_46 rfl (lv_at hl 3 rfl) ?_
    refine va_iald hx hb hK hP 22 0 rfl rfl (vin hi (by decide)) dX12_takes_47 ?_
    refine lv_icmp_ge (tgt := 71) hx hb dX12_takes_48 (by decide) (fun c_4 => ?_) (fun c_4 => ?_)
    ·
      refine lv_iload hx hb dX12_takes_71 (lv_at hl 0 rfl) ?_
      exact W.iret (v := x_2) hx hb hr (fun t ht hW => ⟨_, rfl, (by subst_vars; first | (simp only [mTakes, if_pos c_3, if_pos c_4]; done) | (simp only [mTakes]; rw [if_pos c_3, if_pos c_4]; rfl)), ht⟩) (fun q h => absurd h List.not_mem_nil) dX12_takes_73
    ·
      refine lv_aload_n hx hb dX12_takes_51 rfl (lv_at hl 2 rfl) ?_
      refine va_get (D := (dC, dI)) (ci := 11) (v := .ref (v 23)) (C := RX12) (T := TX12) (N := 52) hx hb hts (by decide +kernel) hown hK hP 0 rfl rfl 23 (by decide) (hts (.fieldLink RX12 77 "PageOneModel" "pPage" "[I") (by decide +kernel)) (fun _ h9 => h9) rfl dX12_takes_52 ?_
      refine lv_iload_n hx hb dX12_takes_55 rfl (lv_at hl 1 rfl) ?_
      refine lv_iconst (v := 1) hx hb dX12_takes_56 (by decide) ?_
      refine lv_iadd hx hb dX12_takes_57 ?_
      refine va_iald hx hb hK hP 23 0 rfl rfl (v6p hi hk ex_1 hc c_4) dX12_takes_58 ?_
      refine lv_aload_n hx hb dX12_takes_59 rfl (lv_at hl 2 rfl) ?_
      refine va_get (D := (dC, dI)) (ci := 11) (v := .ref (v 23)) (C := RX12) (T := TX12) (N := 52) hx hb hts (by decide +kernel) hown hK hP 0 rfl rfl 23 (by decide) (hts (.fieldLink RX12 77 "PageOneModel" "pPage" "[I") (by decide +kernel)) (fun _ h9 => h9) rfl dX12_takes_60 ?_
      refine lv_iload_n hx hb dX12_takes_63 rfl (lv_at hl 1 rfl) ?_
      refine va_iald hx hb hK hP 23 0 rfl rfl (v6a hi hk ex_1) dX12_takes_64 ?_
      refine lv_icmp_eq (tgt := 71) hx hb dX12_takes_65 (by decide) (fun c_5 => ?_) (fun c_5 => ?_)
      ·
        refine lv_iload hx hb dX12_takes_71 (lv_at hl 0 rfl) ?_
        exact W.iret (v := x_2) hx hb hr (fun t ht hW => ⟨_, rfl, (by subst_vars; first | (simp only [mTakes, if_pos c_3, if_neg c_4, if_pos c_5]; done) | (simp only [mTakes]; rw [if_pos c_3, if_neg c_4, if_pos c_5]; rfl)), ht⟩) (fun q h => absurd h List.not_mem_nil) dX12_takes_73
      ·
        obtain ⟨x_6, ex_6⟩ : ∃ y : Int32, y = x_2 + (-1) := ⟨_, rfl⟩
        refine lv_iinc (v := x_6) (lv' := [(4, .int x_6), (3, .int x_1), (0, .ref h0), (1, .int p0), (2, .int p1)]) hx hb dX12_takes_68 hl (k := 0) rfl (by rw [ex_6]; rfl) (by decide) rfl (fun ls hl => ?_)
        refine lv_iload hx hb dX12_takes_71 (lv_at hl 0 rfl) ?_
        exact W.iret (v := x_6) hx hb hr (fun t ht hW => ⟨_, rfl, (by subst_vars; first | (simp only [mTakes, if_pos c_3, if_neg c_4, if_neg c_5]; done) | (simp only [mTakes]; rw [if_pos c_3, if_neg c_4, if_neg c_5]; rfl)), ht⟩) (fun q h => absurd h List.not_mem_nil) dX12_takes_73
  ·
    refine lv_aload_n hx hb dX12_takes_19 rfl (lv_at hl 2 rfl) ?_
    refine va_get (D := (dC, dI)) (ci := 11) (v := .ref (v 23)) (C := RX12) (T := TX12) (N := 52) hx hb hts (by decide +kernel) hown hK hP 0 rfl rfl 23 (by decide) (hts (.fieldLink RX12 77 "PageOneModel" "pPage" "[I") (by decide +kernel)) (fun _ h9 => h9) rfl dX12_takes_20 ?_
    refine lv_iload_n hx hb dX12_takes_23 rfl (lv_at hl 1 rfl) ?_
    refine lv_iconst (v := 1) hx hb dX12_takes_24 (by decide) ?_
    refine lv_isub hx hb dX12_takes_25 ?_
    refine va_iald hx hb hK hP 23 0 rfl rfl (v6m hi hk ex_1 c_3) dX12_takes_26 ?_
    refine lv_aload_n hx hb dX12_takes_27 rfl (lv_at hl 2 rfl) ?_
    refine va_get (D := (dC, dI)) (ci := 11) (v := .ref (v 23)) (C := RX12) (T := TX12) (N := 52) hx hb hts (by decide +kernel) hown hK hP 0 rfl rfl 23 (by decide) (hts (.fieldLink RX12 77 "PageOneModel" "pPage" "[I") (by decide +kernel)) (fun _ h9 => h9) rfl dX12_takes_28 ?_
    refine lv_iload_n hx hb dX12_takes_31 rfl (lv_at hl 1 rfl) ?_
    refine va_iald hx hb hK hP 23 0 rfl rfl (v6a hi hk ex_1) dX12_takes_32 ?_
    refine lv_icmp_eq (tgt := 39) hx hb dX12_takes_33 (by decide) (fun c_7 => ?_) (fun c_7 => ?_)
    ·
      refine lv_iload_n hx hb dX12_takes_39 rfl (lv_at hl 4 rfl) ?_
      refine lv_iconst (v := 1) hx hb dX12_takes_40 (by decide) ?_
      refine lv_iadd hx hb dX12_takes_41 ?_
      refine lv_aload_n hx hb dX12_takes_42 rfl (lv_at hl 2 rfl) ?_
      refine va_get (D := (dC, dI)) (ci := 11) (v := .ref (v 22)) (C := RX12) (T := TX12) (N := 52) hx hb hts (by decide +kernel) hown hK hP 0 rfl rfl 22 (by decide) (hts (.fieldLink RX12 74 "PageOneModel" "pieces" "[I") (by decide +kernel)) (fun _ h9 => h9) rfl dX12_takes_43 ?_
      refine lv_iload_n hx hb dX12_takes_46 rfl (lv_at hl 3 rfl) ?_
      refine va_iald hx hb hK hP 22 0 rfl rfl (vin hi (by decide)) dX12_takes_47 ?_
      refine lv_icmp_ge (tgt := 71) hx hb dX12_takes_48 (by decide) (fun c_8 => ?_) (fun c_8 => ?_)
      ·
        refine lv_iload hx hb dX12_takes_71 (lv_at hl 0 rfl) ?_
        exact W.iret (v := x_2) hx hb hr (fun t ht hW => ⟨_, rfl, (by subst_vars; first | (simp only [mTakes, if_neg c_3, if_pos c_7, if_pos c_8]; done) | (simp only [mTakes]; rw [if_neg c_3, if_pos c_7, if_pos c_8]; rfl)), ht⟩) (fun q h => absurd h List.not_mem_nil) dX12_takes_73
      ·
        refine lv_aload_n hx hb dX12_takes_51 rfl (lv_at hl 2 rfl) ?_
        refine va_get (D := (dC, dI)) (ci := 11) (v := .ref (v 23)) (C := RX12) (T := TX12) (N := 52) hx hb hts (by decide +kernel) hown hK hP 0 rfl rfl 23 (by decide) (hts (.fieldLink RX12 77 "PageOneModel" "pPage" "[I") (by decide +kernel)) (fun _ h9 => h9) rfl dX12_takes_52 ?_
        refine lv_iload_n hx hb dX12_takes_55 rfl (lv_at hl 1 rfl) ?_
        refine lv_iconst (v := 1) hx hb dX12_takes_56 (by decide) ?_
        refine lv_iadd hx hb dX12_takes_57 ?_
        refine va_iald hx hb hK hP 23 0 rfl rfl (v6p hi hk ex_1 hc c_8) dX12_takes_58 ?_
        refine lv_aload_n hx hb dX12_takes_59 rfl (lv_at hl 2 rfl) ?_
        refine va_get (D := (dC, dI)) (ci := 11) (v := .ref (v 23)) (C := RX12) (T := TX12) (N := 52) hx hb hts (by decide +kernel) hown hK hP 0 rfl rfl 23 (by decide) (hts (.fieldLink RX12 77 "PageOneModel" "pPage" "[I") (by decide +kernel)) (fun _ h9 => h9) rfl dX12_takes_60 ?_
        refine lv_iload_n hx hb dX12_takes_63 rfl (lv_at hl 1 rfl) ?_
        refine va_iald hx hb hK hP 23 0 rfl rfl (v6a hi hk ex_1) dX12_takes_64 ?_
        refine lv_icmp_eq (tgt := 71) hx hb dX12_takes_65 (by decide) (fun c_9 => ?_) (fun c_9 => ?_)
        ·
          refine lv_iload hx hb dX12_takes_71 (lv_at hl 0 rfl) ?_
          exact W.iret (v := x_2) hx hb hr (fun t ht hW => ⟨_, rfl, (by subst_vars; first | (simp only [mTakes, if_neg c_3, if_pos c_7, if_neg c_8, if_pos c_9]; done) | (simp only [mTakes]; rw [if_neg c_3, if_pos c_7, if_neg c_8, if_pos c_9]; rfl)), ht⟩) (fun q h => absurd h List.not_mem_nil) dX12_takes_73
        ·
          obtain ⟨x_10, ex_10⟩ : ∃ y : Int32, y = x_2 + (-1) := ⟨_, rfl⟩
          refine lv_iinc (v := x_10) (lv' := [(4, .int x_10), (3, .int x_1), (0, .ref h0), (1, .int p0), (2, .int p1)]) hx hb dX12_takes_68 hl (k := 0) rfl (by rw [ex_10]; rfl) (by decide) rfl (fun ls hl => ?_)
          refine lv_iload hx hb dX12_takes_71 (lv_at hl 0 rfl) ?_
          exact W.iret (v := x_10) hx hb hr (fun t ht hW => ⟨_, rfl, (by subst_vars; first | (simp only [mTakes, if_neg c_3, if_pos c_7, if_neg c_8, if_neg c_9]; done) | (simp only [mTakes]; rw [if_neg c_3, if_pos c_7, if_neg c_8, if_neg c_9]; rfl)), ht⟩) (fun q h => absurd h List.not_mem_nil) dX12_takes_73
    ·
      obtain ⟨x_11, ex_11⟩ : ∃ y : Int32, y = x_2 + (-1) := ⟨_, rfl⟩
      refine lv_iinc (v := x_11) (lv' := [(4, .int x_11), (3, .int x_1), (0, .ref h0), (1, .int p0), (2, .int p1)]) hx hb dX12_takes_36 hl (k := 0) rfl (by rw [ex_11]; rfl) (by decide) rfl (fun ls hl => ?_)
      refine lv_iload_n hx hb dX12_takes_39 rfl (lv_at hl 4 rfl) ?_
      refine lv_iconst (v := 1) hx hb dX12_takes_40 (by decide) ?_
      refine lv_iadd hx hb dX12_takes_41 ?_
      refine lv_aload_n hx hb dX12_takes_42 rfl (lv_at hl 2 rfl) ?_
      refine va_get (D := (dC, dI)) (ci := 11) (v := .ref (v 22)) (C := RX12) (T := TX12) (N := 52) hx hb hts (by decide +kernel) hown hK hP 0 rfl rfl 22 (by decide) (hts (.fieldLink RX12 74 "PageOneModel" "pieces" "[I") (by decide +kernel)) (fun _ h9 => h9) rfl dX12_takes_43 ?_
      refine lv_iload_n hx hb dX12_takes_46 rfl (lv_at hl 3 rfl) ?_
      refine va_iald hx hb hK hP 22 0 rfl rfl (vin hi (by decide)) dX12_takes_47 ?_
      refine lv_icmp_ge (tgt := 71) hx hb dX12_takes_48 (by decide) (fun c_12 => ?_) (fun c_12 => ?_)
      ·
        refine lv_iload hx hb dX12_takes_71 (lv_at hl 0 rfl) ?_
        exact W.iret (v := x_11) hx hb hr (fun t ht hW => ⟨_, rfl, (by subst_vars; first | (simp only [mTakes, if_neg c_3, if_neg c_7, if_pos c_12]; done) | (simp only [mTakes]; rw [if_neg c_3, if_neg c_7, if_pos c_12]; rfl)), ht⟩) (fun q h => absurd h List.not_mem_nil) dX12_takes_73
      ·
        refine lv_aload_n hx hb dX12_takes_51 rfl (lv_at hl 2 rfl) ?_
        refine va_get (D := (dC, dI)) (ci := 11) (v := .ref (v 23)) (C := RX12) (T := TX12) (N := 52) hx hb hts (by decide +kernel) hown hK hP 0 rfl rfl 23 (by decide) (hts (.fieldLink RX12 77 "PageOneModel" "pPage" "[I") (by decide +kernel)) (fun _ h9 => h9) rfl dX12_takes_52 ?_
        refine lv_iload_n hx hb dX12_takes_55 rfl (lv_at hl 1 rfl) ?_
        refine lv_iconst (v := 1) hx hb dX12_takes_56 (by decide) ?_
        refine lv_iadd hx hb dX12_takes_57 ?_
        refine va_iald hx hb hK hP 23 0 rfl rfl (v6p hi hk ex_1 hc c_12) dX12_takes_58 ?_
        refine lv_aload_n hx hb dX12_takes_59 rfl (lv_at hl 2 rfl) ?_
        refine va_get (D := (dC, dI)) (ci := 11) (v := .ref (v 23)) (C := RX12) (T := TX12) (N := 52) hx hb hts (by decide +kernel) hown hK hP 0 rfl rfl 23 (by decide) (hts (.fieldLink RX12 77 "PageOneModel" "pPage" "[I") (by decide +kernel)) (fun _ h9 => h9) rfl dX12_takes_60 ?_
        refine lv_iload_n hx hb dX12_takes_63 rfl (lv_at hl 1 rfl) ?_
        refine va_iald hx hb hK hP 23 0 rfl rfl (v6a hi hk ex_1) dX12_takes_64 ?_
        refine lv_icmp_eq (tgt := 71) hx hb dX12_takes_65 (by decide) (fun c_13 => ?_) (fun c_13 => ?_)
        ·
          refine lv_iload hx hb dX12_takes_71 (lv_at hl 0 rfl) ?_
          exact W.iret (v := x_11) hx hb hr (fun t ht hW => ⟨_, rfl, (by subst_vars; first | (simp only [mTakes, if_neg c_3, if_neg c_7, if_neg c_12, if_pos c_13]; done) | (simp only [mTakes]; rw [if_neg c_3, if_neg c_7, if_neg c_12, if_pos c_13]; rfl)), ht⟩) (fun q h => absurd h List.not_mem_nil) dX12_takes_73
        ·
          obtain ⟨x_14, ex_14⟩ : ∃ y : Int32, y = x_11 + (-1) := ⟨_, rfl⟩
          refine lv_iinc (v := x_14) (lv' := [(4, .int x_14), (3, .int x_1), (0, .ref h0), (1, .int p0), (2, .int p1)]) hx hb dX12_takes_68 hl (k := 0) rfl (by rw [ex_14]; rfl) (by decide) rfl (fun ls hl => ?_)
          refine lv_iload hx hb dX12_takes_71 (lv_at hl 0 rfl) ?_
          exact W.iret (v := x_14) hx hb hr (fun t ht hW => ⟨_, rfl, (by subst_vars; first | (simp only [mTakes, if_neg c_3, if_neg c_7, if_neg c_12, if_neg c_13]; done) | (simp only [mTakes]; rw [if_neg c_3, if_neg c_7, if_neg c_12, if_neg c_13]; rfl)), ht⟩) (fun q h => absurd h List.not_mem_nil) dX12_takes_73
theorem bwN {n : Nat} {hi : Int32} (h : (n : Int) ≤ hi.toInt) (hn : n < 2 ^ 31) : bw (nI n) 0 hi = true := by
  rw [bw_iff, nI_toInt hn, i0]; omega
set_option maxHeartbeats 4000000 in
set_option maxRecDepth 100000 in
theorem m_from_loop {p : Program} {l : Launch} {e : Env} {R : Room} {s : State} {m : MethodId} {args : Array Value} {below : List Frame} {meth : Method} {c : Code} {Q : State → Prop} {cells slots : Nat} {dC : Nat → ClassId} {dI : Nat → Nat → Nat} {h0 : Nat} {v : Nat → Nat} {cI cZ : ClassId} {H : Heap} {locs : List Loc} {u : mS} (hx : p.tables.exec = Jvm.exec) (hb : c.code = cX12_from) (hml : c.maxLocals = 5) (hts : ∀ w ∈ wsX12_from, w.before args s = true) (hown : s.vm.findClass RX12 = some m.cls) (hN : NN s) (hK : va_K (dC, dI) vwCl [(cI, .int), (cZ, .boolean)] s) (hRf : 1 ≤ R.frames) (hRl : 24 ≤ R.locals) (hRc : cells ≤ R.cells) (hRs : slots ≤ R.slots) (hP : va_P (dC, dI) vwCl (mW h0 v cI cZ u) H) {p0 : Int32} {N : Nat} (hi0 : bw p0 0 79 = true) (hN6 : N ≤ 6) (hc : bw (u.2 22 p0.toNatClampNeg) 0 6 = true) (kx : ∀ (a : Int32) (ls : Array Slot), a = mFrom u p0 N → lv_has ls 5 [(4, .int (nI N)), (3, .int a), (0, .ref h0), (1, .int p0), (2, .int (nI N))] → W p l e R s m args below meth c H locs cells slots Q (F0 m 27 ls [])) : ∀ (k i : Nat) (a : Int32) (ls : Array Slot), i ≤ N → N - i < k → a = mFrom u p0 i → lv_has ls 5 [(4, .int (nI i)), (3, .int a), (0, .ref h0), (1, .int p0), (2, .int (nI N))] → W p l e R s m args below meth c H locs cells slots Q (F0 m 5 ls []) := by
  intro k
  induction k with
  | zero => intro i a ls h1 h2; exact absurd h2 (Nat.not_lt_zero _)
  | succ k ih =>
    intro i a ls hi hk hg hl
    refine lv_iload hx hb dX12_from_5 (lv_at hl 0 rfl) ?_
    refine lv_iload_n hx hb dX12_from_7 rfl (lv_at hl 4 rfl) ?_
    refine lv_icmp_ge (tgt := 27) hx hb dX12_from_8 (by decide) (fun c_1 => ?_) (fun c_1 => ?_)
    ·
      have hie : i = N := lp_eq rfl (by omega) hi c_1
      rw [hie] at hg hl
      exact kx _ ls hg (lv_sub hl [0, 1, 2, 3, 4] rfl)
    ·
      have hlt : i < N := lp_lt rfl (by omega) hi c_1
      refine lv_iload_n hx hb dX12_from_11 rfl (lv_at hl 1 rfl) ?_
      refine lv_aload_n hx hb dX12_from_12 rfl (lv_at hl 2 rfl) ?_
      refine lv_iload_n hx hb dX12_from_13 rfl (lv_at hl 3 rfl) ?_
      refine lv_iload hx hb dX12_from_14 (lv_at hl 0 rfl) ?_
      refine vp_callSi (va_runV (As := [.int p0, .int (nI i)]) (rest := [.int a]) ⟨hx, hb, hml, hown, hts⟩ (m_takes l dC dI h0 v cI cZ u p0 (nI i) hi0 (bwN (by have h5 : (5 : Int32).toInt = 5 := rfl; rw [h5]; omega) (by omega)) hc) (cwV 2 hts gX12_from_X12_takes rfl rfl rfl (by decide +kernel) ⟨hRf, hRl⟩) ⟨pw_fb, va_recv hK hP (ci := 11) (q0 := 0) rfl rfl, fun U hU hW => ⟨rfl, pw_to hU hW hP hK hN⟩⟩ rfl rfl hl.1 rfl (lv_room (Nat.le_of_ble_eq_true rfl)) dX12_from_16 ⟨hRc, hRs⟩).run (fun r hw => ?_)
      obtain rfl : r = (mTakes u p0 (nI i)) := hw
      refine lv_iadd hx hb dX12_from_19 ?_
      refine lv_topi (fun x_2 ex_2 => ?_)
      refine lv_istore_n (lv' := [(3, .int x_2), (4, .int (nI i)), (0, .ref h0), (1, .int p0), (2, .int (nI N))]) hx hb dX12_from_20 rfl hl (by decide) rfl (fun ls hl => ?_)
      refine lv_iinc (v := (nI (i + 1))) (lv' := [(4, .int (nI (i + 1))), (3, .int x_2), (0, .ref h0), (1, .int p0), (2, .int (nI N))]) hx hb dX12_from_21 hl (k := 1) rfl (nI_1 i) (by decide) rfl (fun ls hl => ?_)
      refine lv_goto (tgt := 5) hx hb dX12_from_24 (by decide) ?_
      exact ih (i + 1) _ ls (by omega) (by omega) (by subst_vars; rfl) (lv_sub hl [0, 1, 2, 3, 4] rfl)
set_option maxHeartbeats 4000000 in
set_option maxRecDepth 100000 in
theorem m_from (l : Launch) (dC : Nat → ClassId) (dI : Nat → Nat → Nat) (h0 : Nat) (v : Nat → Nat) (cI cZ : ClassId) (u : mS) (p0 : Int32) (N : Nat) (hi : bw p0 0 79 = true) (hN6 : N ≤ 6) (hc : bw (u.2 22 p0.toNatClampNeg) 0 6 = true) : Met l yX12_from wsX12_from ({ frames := 1, cells := 0, slots := 0, locals := 24 }) (va_Pc [.ref h0, .int p0, .int (nI N)] (PW dC dI (mW h0 v cI cZ u) [(cI, .int), (cZ, .boolean)])) (vp_Si (fun r => r = mFrom u p0 N)) 0 0 (fun _ => False) := by
  refine Met.ofW (cc := cX12_from) (maxL := 5) (ret := (some .int)) (by decide) rfl ?_
  intro p e s m args below meth c s₁ B hml hv
  obtain ⟨rfl, hP, hK, hN⟩ := hv
  have hx := B.exec
  have hb := B.bytes
  have hr := B.returns
  have hts := atoms_spec (ws := wsX12_from) B.pre
  have hown : s.vm.findClass RX12 = some m.cls := findClass_of_methodNamed B.named
  have hlocks := B.notSynchronized
  have hl := lv_entry ([.ref h0, .int p0, .int (nI N)]) (n := 5) (Nat.le_of_ble_eq_true rfl)
  rw [lg_entry_eq]
  generalize (lg_sl ([.ref h0, .int p0, .int (nI N)]) ++ List.replicate (5 - (lg_sl ([.ref h0, .int p0, .int (nI N)])).length) Slot.unset).toArray = ls at hl ⊢
  have hl : lv_has ls 5 [(0, .ref h0), (1, .int p0), (2, .int (nI N))] := hl
  refine lv_iconst (v := 0) hx hb dX12_from_0 (by decide) ?_
  refine lv_istore_n (lv' := [(3, .int 0), (0, .ref h0), (1, .int p0), (2, .int (nI N))]) hx hb dX12_from_1 rfl hl (by decide) rfl (fun ls hl => ?_)
  refine lv_iconst (v := 0) hx hb dX12_from_2 (by decide) ?_
  refine lv_istore (lv' := [(4, .int 0), (3, .int 0), (0, .ref h0), (1, .int p0), (2, .int (nI N))]) hx hb dX12_from_3 hl (by decide) rfl (fun ls hl => ?_)
  refine m_from_loop hx hb hml hts hown hN hK (Nat.le_of_ble_eq_true rfl) (Nat.le_of_ble_eq_true rfl) (Nat.le_of_ble_eq_true rfl) (Nat.le_of_ble_eq_true rfl) hP hi hN6 hc (fun a ls hg hl => ?_) (N + 1) 0 0 ls (Nat.zero_le _) (by omega) rfl (lv_sub hl [0, 1, 2, 3, 4] rfl)
  refine lv_iload_n hx hb dX12_from_27 rfl (lv_at hl 1 rfl) ?_
  exact W.iret (v := a) hx hb hr (fun t ht hW => ⟨_, rfl, hg, ht⟩) (fun q h => absurd h List.not_mem_nil) dX12_from_28
