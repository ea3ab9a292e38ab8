/-- takes(i, k) -/
def mTakes (u : mS) (i k : Int32) : Int32 :=
  let n1 := if k ≤ 0 then u.2 27 (6 * i + k).toNatClampNeg else if u.2 23 (6 * i + k - 1).toNatClampNeg = u.2 23 (6 * i + k).toNatClampNeg then u.2 27 (6 * i + k).toNatClampNeg else u.2 27 (6 * i + k).toNatClampNeg + (-1)
  if u.2 22 i.toNatClampNeg ≤ k + 1 then n1 else if u.2 23 (6 * i + k + 1).toNatClampNeg = u.2 23 (6 * i + k).toNatClampNeg then n1 else n1 + (-1)
def mFrom (u : mS) (i : Int32) : Nat → Int32
  | 0 => 0
  | n + 1 => mFrom u i n + mTakes u i (nI n)
theorem v6 {i k : Int32} (hi : bw i 0 79 = true) (hk : bw k 0 5 = true) : (6 * i + k).toInt = 6 * i.toInt + k.toInt ∧ 0 ≤ i.toInt ∧ i.toInt ≤ 79 ∧ 0 ≤ k.toInt ∧ k.toInt ≤ 5 := by
  have h6 : (6 : Int32).toInt = 6 := rfl
  have h79 : (79 : Int32).toInt = 79 := rfl
  have h5 : (5 : Int32).toInt = 5 := rfl
  have h1 := bw_iff.mp hi
  have h2 := bw_iff.mp hk
  rw [i0] at h1 h2
  rw [h79] at h1
  rw [h5] at h2
  have e1 : (6 * i).toInt = 6 * i.toInt := by rw [mulI (by rw [h6]; omega) (by rw [h6]; omega), h6]
  exact ⟨by rw [addI (by rw [e1]; omega) (by rw [e1]; omega), e1], h1.1, h1.2, h2.1, h2.2⟩
theorem v6a {i k x : Int32} (hi : bw i 0 79 = true) (hk : bw k 0 5 = true) (ex : x = 6 * i + k) : vp_in x 480 := by
  have h := v6 hi hk
  rw [ex, vp_in_iff, h.1]; omega
theorem v6m {i k x : Int32} (hi : bw i 0 79 = true) (hk : bw k 0 5 = true) (ex : x = 6 * i + k) (h0 : ¬ k ≤ 0) : vp_in (x - 1) 480 := by
  have h := v6 hi hk
  rw [i32_le, i0] at h0
  rw [ex, vp_in_iff, subI (by rw [h.1, i1]; omega) (by rw [h.1, i1]; omega), h.1, i1]; omega
theorem v6p {i k x n : Int32} (hi : bw i 0 79 = true) (hk : bw k 0 5 = true) (ex : x = 6 * i + k) (hn : bw n 0 6 = true) (h0 : ¬ n ≤ k + 1) : vp_in (x + 1) 480 := by
  have h := v6 hi hk
  have h6 : (6 : Int32).toInt = 6 := rfl
  have h2 := bw_iff.mp hn
  rw [i0, h6] at h2
  rw [i32_le, addI (by rw [i1]; omega) (by rw [i1]; omega), i1] at h0
  rw [ex, vp_in_iff, addI (by rw [h.1, i1]; omega) (by rw [h.1, i1]; omega), h.1, i1]; omega
set_option maxHeartbeats 4000000 in
set_option maxRecDepth 100000 in
theorem m_takes (l : Launch) (dC : Nat → ClassId) (dI : Nat → Nat → Nat) (h0 : Nat) (v : Nat → Nat) (cI cZ : ClassId) (u : mS) (p0 p1 : Int32) (hi : bw p0 0 79 = true) (hk : bw p1 0 5 = true) (hc : bw (u.2 22 p0.toNatClampNeg) 0 6 = true) : Met l yX12_takes wsX12_takes ({ frames := 0, cells := 0, slots := 0, locals := 0 }) (va_Pc [.ref h0, .int p0, .int p1] (PW dC dI (mW h0 v cI cZ u) [(cI, .int), (cZ, .boolean)])) (vp_Si (fun r => r = mTakes u p0 p1)) 0 0 (fun _ => False) := by
  refine Met.ofW (cc := cX12_takes) (maxL := 5) (ret := (some .int)) (by decide) rfl ?_
  intro p e s m args below meth c s₁ B hml hv
  obtain ⟨rfl, hP, hK, hN⟩ := hv
  have hx := B.exec
  have hb := B.bytes
  have hr := B.returns
  have hts := atoms_spec (ws := wsX12_takes) B.pre
  have hown : s.vm.findClass RX12 = some m.cls := findClass_of_methodNamed B.named
  have hlocks := B.notSynchronized
  have hl := lv_entry ([.ref h0, .int p0, .int p1]) (n := 5) (Nat.le_of_ble_eq_true rfl)
  rw [lg_entry_eq]
  generalize (lg_sl ([.ref h0, .int p0, .int p1]) ++ List.replicate (5 - (lg_sl ([.ref h0, .int p0, .int p1])).length) Slot.unset).toArray = ls at hl ⊢
  have hl : lv_has ls 5 [(0, .ref h0), (1, .int p0), (2, .int p1)] := hl
  refine lv_bipush (v := 6) hx hb dX12_takes_0 (by decide) ?_
  refine lv_iload_n hx hb dX12_takes_2 rfl (lv_at hl 1 rfl) ?_
  refine lv_imul hx hb dX12_takes_3 ?_
  refine lv_iload_n hx hb dX12_takes_4 rfl (lv_at hl 2 rfl) ?_
  refine lv_iadd hx hb dX12_takes_5 ?_
  refine lv_topi (fun x_1 ex_1 => ?_)
  refine lv_istore_n (lv' := [(3, .int x_1), (0, .ref h0), (1, .int p0), (2, .int p1)]) hx hb dX12_takes_6 rfl hl (by decide) rfl (fun ls hl => ?_)
  refine lv_aload_n hx hb dX12_takes_7 rfl (lv_at hl 1 rfl) ?_
  refine va_get (D := (dC, dI)) (ci := 11) (v := .ref (v 27)) (C := RX12) (T := TX12) (N := 52) hx hb hts (by decide +kernel) hown hK hP 0 rfl rfl 27 (by decide) (hts (.fieldLink RX12 89 "PageOneModel" "pHigh" "[I") (by decide +kernel)) (fun _ h9 => h9) rfl dX12_takes_8 ?_
  refine lv_iload_n hx hb dX12_takes_11 rfl (lv_at hl 0 rfl) ?_
  refine va_iald hx hb hK hP 27 0 rfl rfl (v6a hi hk ex_1) dX12_takes_12 ?_
  refine lv_topi (fun x_2 ex_2 => ?_)
  refine lv_istore (lv' := [(4, .int x_2), (3, .int x_1), (0, .ref h0), (1, .int p0), (2, .int p1)]) hx hb dX12_takes_13 hl (by decide) rfl (fun ls hl => ?_)
  refine lv_iload_n hx hb dX12_takes_15 rfl (lv_at hl 4 rfl) ?_
  refine lv_if_le (tgt := 39) hx hb dX12_takes_16 (by decide) (fun c_3 => ?_) (fun c_3 => ?_)
  ·
    refine lv_iload_n hx hb dX12_takes_39 rfl (lv_at hl 4 rfl) ?_
    refine lv_iconst (v := 1) hx hb dX12_takes_40 (by decide) ?_
    refine lv_iadd hx hb dX12_takes_41 ?_
    refine lv_aload_n hx hb dX12_takes_42 rfl (lv_at hl 2 rfl) ?_
    refine va_get (D := (dC, dI)) (ci := 11) (v := .ref (v 22)) (C := RX12) (T := TX12) (N := 52) hx hb hts (by decide +kernel) hown hK hP 0 rfl rfl 22 (by decide) (hts (.fieldLink RX12 74 "PageOneModel" "pieces" "[I") (by decide +kernel)) (fun _ h9 => h9) rfl dX12_takes_43 ?_
    refine lv_iload_n hx hb dX12_takes_46 rfl (lv_at hl 3 rfl) ?_
    refine va_iald hx hb hK hP 22 0 rfl rfl (vin hi (by decide)) dX12_takes_47 ?_
    refine lv_icmp_ge (tgt := 71) hx hb dX12_takes_48 (by decide) (fun c_4 => ?_) (fun c_4 => ?_)
    ·
      refine lv_iload hx hb dX12_takes_71 (lv_at hl 0 rfl) ?_
      exact W.iret (v := x_2) hx hb hr (fun t ht hW => ⟨_, rfl, (by subst_vars; first | (simp only [mTakes, if_pos c_3, if_pos c_4]; done) | (simp only [mTakes]; rw [if_pos c_3, if_pos c_4]; rfl)), ht⟩) (fun q h => absurd h List.not_mem_nil) dX12_takes_73
    ·
      refine lv_aload_n hx hb dX12_takes_51 rfl (lv_at hl 2 rfl) ?_
      refine va_get (D := (dC, dI)) (ci := 11) (v := .ref (v 23)) (C := RX12) (T := TX12) (N := 52) hx hb hts (by decide +kernel) hown hK hP 0 rfl rfl 23 (by decide) (hts (.fieldLink RX12 77 "PageOneModel" "pPage" "[I") (by decide +kernel)) (fun _ h9 => h9) rfl dX12_takes_52 ?_
      refine lv_iload_n hx hb dX12_takes_55 rfl (lv_at hl 1 rfl) ?_
      refine lv_iconst (v := 1) hx hb dX12_takes_56 (by decide) ?_
      refine lv_iadd hx hb dX12_takes_57 ?_
      refine va_iald hx hb hK hP 23 0 rfl rfl (v6p hi hk ex_1 hc c_4) dX12_takes_58 ?_
      refine lv_aload_n hx hb dX12_takes_59 rfl (lv_at hl 2 rfl) ?_
      refine va_get (D := (dC, dI)) (ci := 11) (v := .ref (v 23)) (C := RX12) (T := TX12) (N := 52) hx hb hts (by decide +kernel) hown hK hP 0 rfl rfl 23 (by decide) (hts (.fieldLink RX12 77 "PageOneModel" "pPage" "[I") (by decide +kernel)) (fun _ h9 => h9) rfl dX12_takes_60 ?_
      refine lv_iload_n hx hb dX12_takes_63 rfl (lv_at hl 1 rfl) ?_
      refine va_iald hx hb hK hP 23 0 rfl rfl (v6a hi hk ex_1) dX12_takes_64 ?_
      refine lv_icmp_eq (tgt := 71) hx hb dX12_takes_65 (by decide) (fun c_5 => ?_) (fun c_5 => ?_)
      ·
        refine lv_iload hx hb dX12_takes_71 (lv_at hl 0 rfl) ?_
        exact W.iret (v := x_2) hx hb hr (fun t ht hW => ⟨_, rfl, (by subst_vars; first | (simp only [mTakes, if_pos c_3, if_neg c_4, if_pos c_5]; done) | (simp only [mTakes]; rw [if_pos c_3, if_neg c_4, if_pos c_5]; rfl)), ht⟩) (fun q h => absurd h List.not_mem_nil) dX12_takes_73
      ·
        obtain ⟨x_6, ex_6⟩ : ∃ y : Int32, y = x_2 + (-1) := ⟨_, rfl⟩
        refine lv_iinc (v := x_6) (lv' := [(4, .int x_6), (3, .int x_1), (0, .ref h0), (1, .int p0), (2, .int p1)]) hx hb dX12_takes_68 hl (k := 0) rfl (by rw [ex_6]; rfl) (by decide) rfl (fun ls hl => ?_)
        refine lv_iload hx hb dX12_takes_71 (lv_at hl 0 rfl) ?_
        exact W.iret (v := x_6) hx hb hr (fun t ht hW => ⟨_, rfl, (by subst_vars; first | (simp only [mTakes, if_pos c_3, if_neg c_4, if_neg c_5]; done) | (simp only [mTakes]; rw [if_pos c_3, if_neg c_4, if_neg c_5]; rfl)), ht⟩) (fun q h => absurd h List.not_mem_nil) dX12_takes_73
  ·
    refine lv_aload_n hx hb dX12_takes_19 rfl (lv_at hl 2 rfl) ?_
    refine va_get (D := (dC, dI)) (ci := 11) (v := .ref (v 23)) (C := RX12) (T := TX12) (N := 52) hx hb hts (by decide +kernel) hown hK hP 0 rfl rfl 23 (by decide) (hts (.fieldLink RX12 77 "PageOneModel" "pPage" "[I") (by decide +kernel)) (fun _ h9 => h9) rfl dX12_takes_20 ?_
    refine lv_iload_n hx hb dX12_takes_23 rfl (lv_at hl 1 rfl) ?_
    refine lv_iconst (v := 1) hx hb dX12_takes_24 (by decide) ?_
    refine lv_isub hx hb dX12_takes_25 ?_
    refine va_iald hx hb hK hP 23 0 rfl rfl (v6m hi hk ex_1 c_3) dX12_takes_26 ?_
    refine lv_aload_n hx hb dX12_takes_27 rfl (lv_at hl 2 rfl) ?_
    refine va_get (D := (dC, dI)) (ci := 11) (v := .ref (v 23)) (C := RX12) (T := TX12) (N := 52) hx hb hts (by decide +kernel) hown hK hP 0 rfl rfl 23 (by decide) (hts (.fieldLink RX12 77 "PageOneModel" "pPage" "[I") (by decide +kernel)) (fun _ h9 => h9) rfl dX12_takes_28 ?_
    refine lv_iload_n hx hb dX12_takes_31 rfl (lv_at hl 1 rfl) ?_
    refine va_iald hx hb hK hP 23 0 rfl rfl (v6a hi hk ex_1) dX12_takes_32 ?_
    refine lv_icmp_eq (tgt := 39) hx hb dX12_takes_33 (by decide) (fun c_7 => ?_) (fun c_7 => ?_)
    ·
      refine lv_iload_n hx hb dX12_takes_39 rfl (lv_at hl 4 rfl) ?_
      refine lv_iconst (v := 1) hx hb dX12_takes_40 (by decide) ?_
      refine lv_iadd hx hb dX12_takes_41 ?_
      refine lv_aload_n hx hb dX12_takes_42 rfl (lv_at hl 2 rfl) ?_
      refine va_get (D := (dC, dI)) (ci := 11) (v := .ref (v 22)) (C := RX12) (T := TX12) (N := 52) hx hb hts (by decide +kernel) hown hK hP 0 rfl rfl 22 (by decide) (hts (.fieldLink RX12 74 "PageOneModel" "pieces" "[I") (by decide +kernel)) (fun _ h9 => h9) rfl dX12_takes_43 ?_
      refine lv_iload_n hx hb dX12_takes_46 rfl (lv_at hl 3 rfl) ?_
      refine va_iald hx hb hK hP 22 0 rfl rfl (vin hi (by decide)) dX12_takes_47 ?_
      refine lv_icmp_ge (tgt := 71) hx hb dX12_takes_48 (by decide) (fun c_8 => ?_) (fun c_8 => ?_)
      ·
        refine lv_iload hx hb dX12_takes_71 (lv_at hl 0 rfl) ?_
        exact W.iret (v := x_2) hx hb hr (fun t ht hW => ⟨_, rfl, (by subst_vars; first | (simp only [mTakes, if_neg c_3, if_pos c_7, if_pos c_8]; done) | (simp only [mTakes]; rw [if_neg c_3, if_pos c_7, if_pos c_8]; rfl)), ht⟩) (fun q h => absurd h List.not_mem_nil) dX12_takes_73
      ·
        refine lv_aload_n hx hb dX12_takes_51 rfl (lv_at hl 2 rfl) ?_
        refine va_get (D := (dC, dI)) (ci := 11) (v := .ref (v 23)) (C := RX12) (T := TX12) (N := 52) hx hb hts (by decide +kernel) hown hK hP 0 rfl rfl 23 (by decide) (hts (.fieldLink RX12 77 "PageOneModel" "pPage" "[I") (by decide +kernel)) (fun _ h9 => h9) rfl dX12_takes_52 ?_
        refine lv_iload_n hx hb dX12_takes_55 rfl (lv_at hl 1 rfl) ?_
        refine lv_iconst (v := 1) hx hb dX12_takes_56 (by decide) ?_
        refine lv_iadd hx hb dX12_takes_57 ?_
        refine va_iald hx hb hK hP 23 0 rfl rfl (v6p hi hk ex_1 hc c_8) dX12_takes_58 ?_
        refine lv_aload_n hx hb dX12_takes_59 rfl (lv_at hl 2 rfl) ?_
        refine va_get (D := (dC, dI)) (ci := 11) (v := .ref (v 23)) (C := RX12) (T := TX12) (N := 52) hx hb hts (by decide +kernel) hown hK hP 0 rfl rfl 23 (by decide) (hts (.fieldLink RX12 77 "PageOneModel" "pPage" "[I") (by decide +kernel)) (fun _ h9 => h9) rfl dX12_takes_60 ?_
        refine lv_iload_n hx hb dX12_takes_63 rfl (lv_at hl 1 rfl) ?_
        refine va_iald hx hb hK hP 23 0 rfl rfl (v6a hi hk ex_1) dX12_takes_64 ?_
        refine lv_icmp_eq (tgt := 71) hx hb dX12_takes_65 (by decide) (fun c_9 => ?_) (fun c_9 => ?_)
        ·
          refine lv_iload hx hb dX12_takes_71 (lv_at hl 0 rfl) ?_
          exact W.iret (v := x_2) hx hb hr (fun t ht hW => ⟨_, rfl, (by subst_vars; first | (simp only [mTakes, if_neg c_3, if_pos c_7, if_neg c_8, if_pos c_9]; done) | (simp only [mTakes]; rw [if_neg c_3, if_pos c_7, if_neg c_8, if_pos c_9]; rfl)), ht⟩) (fun q h => absurd h List.not_mem_nil) dX12_takes_73
        ·
          obtain ⟨x_10, ex_10⟩ : ∃ y : Int32, y = x_2 + (-1) := ⟨_, rfl⟩
          refine lv_iinc (v := x_10) (lv' := [(4, .int x_10), (3, .int x_1), (0, .ref h0), (1, .int p0), (2, .int p1)]) hx hb dX12_takes_68 hl (k := 0) rfl (by rw [ex_10]; rfl) (by decide) rfl (fun ls hl => ?_)
          refine lv_iload hx hb dX12_takes_71 (lv_at hl 0 rfl) ?_
          exact W.iret (v := x_10) hx hb hr (fun t ht hW => ⟨_, rfl, (by subst_vars; first | (simp only [mTakes, if_neg c_3, if_pos c_7, if_neg c_8, if_neg c_9]; done) | (simp only [mTakes]; rw [if_neg c_3, if_pos c_7, if_neg c_8, if_neg c_9]; rfl)), ht⟩) (fun q h => absurd h List.not_mem_nil) dX12_takes_73
    ·
      obtain ⟨x_11, ex_11⟩ : ∃ y : Int32, y = x_2 + (-1) := ⟨_, rfl⟩
      refine lv_iinc (v := x_11) (lv' := [(4, .int x_11), (3, .int x_1), (0, .ref h0), (1, .int p0), (2, .int p1)]) hx hb dX12_takes_36 hl (k := 0) rfl (by rw [ex_11]; rfl) (by decide) rfl (fun ls hl => ?_)
      refine lv_iload_n hx hb dX12_takes_39 rfl (lv_at hl 4 rfl) ?_
      refine lv_iconst (v := 1) hx hb dX12_takes_40 (by decide) ?_
      refine lv_iadd hx hb dX12_takes_41 ?_
      refine lv_aload_n hx hb dX12_takes_42 rfl (lv_at hl 2 rfl) ?_
      refine va_get (D := (dC, dI)) (ci := 11) (v := .ref (v 22)) (C := RX12) (T := TX12) (N := 52) hx hb hts (by decide +kernel) hown hK hP 0 rfl rfl 22 (by decide) (hts (.fieldLink RX12 74 "PageOneModel" "pieces" "[I") (by decide +kernel)) (fun _ h9 => h9) rfl dX12_takes_43 ?_
      refine lv_iload_n hx hb dX12_takes_46 rfl (lv_at hl 3 rfl) ?_
      refine va_iald hx hb hK hP 22 0 rfl rfl (vin hi (by decide)) dX12_takes_47 ?_
      refine lv_icmp_ge (tgt := 71) hx hb dX12_takes_48 (by decide) (fun c_12 => ?_) (fun c_12 => ?_)
      ·
        refine lv_iload hx hb dX12_takes_71 (lv_at hl 0 rfl) ?_
        exact W.iret (v := x_11) hx hb hr (fun t ht hW => ⟨_, rfl, (by subst_vars; first | (simp only [mTakes, if_neg c_3, if_neg c_7, if_pos c_12]; done) | (simp only [mTakes]; rw [if_neg c_3, if_neg c_7, if_pos c_12]; rfl)), ht⟩) (fun q h => absurd h List.not_mem_nil) dX12_takes_73
      ·
        refine lv_aload_n hx hb dX12_takes_51 rfl (lv_at hl 2 rfl) ?_
        refine va_get (D := (dC, dI)) (ci := 11) (v := .ref (v 23)) (C := RX12) (T := TX12) (N := 52) hx hb hts (by decide +kernel) hown hK hP 0 rfl rfl 23 (by decide) (hts (.fieldLink RX12 77 "PageOneModel" "pPage" "[I") (by decide +kernel)) (fun _ h9 => h9) rfl dX12_takes_52 ?_
        refine lv_iload_n hx hb dX12_takes_55 rfl (lv_at hl 1 rfl) ?_
        refine lv_iconst (v := 1) hx hb dX12_takes_56 (by decide) ?_
        refine lv_iadd hx hb dX12_takes_57 ?_
        refine va_iald hx hb hK hP 23 0 rfl rfl (v6p hi hk ex_1 hc c_12) dX12_takes_58 ?_
        refine lv_aload_n hx hb dX12_takes_59 rfl (lv_at hl 2 rfl) ?_
        refine va_get (D := (dC, dI)) (ci := 11) (v := .ref (v 23)) (C := RX12) (T := TX12) (N := 52) hx hb hts (by decide +kernel) hown hK hP 0 rfl rfl 23 (by decide) (hts (.fieldLink RX12 77 "PageOneModel" "pPage" "[I") (by decide +kernel)) (fun _ h9 => h9) rfl dX12_takes_60 ?_
        refine lv_iload_n hx hb dX12_takes_63 rfl (lv_at hl 1 rfl) ?_
        refine va_iald hx hb hK hP 23 0 rfl rfl (v6a hi hk ex_1) dX12_takes_64 ?_
        refine lv_icmp_eq (tgt := 71) hx hb dX12_takes_65 (by decide) (fun c_13 => ?_) (fun c_13 => ?_)
        ·
          refine lv_iload hx hb dX12_takes_71 (lv_at hl 0 rfl) ?_
          exact W.iret (v := x_11) hx hb hr (fun t ht hW => ⟨_, rfl, (by subst_vars; first | (simp only [mTakes, if_neg c_3, if_neg c_7, if_neg c_12, if_pos c_13]; done) | (simp only [mTakes]; rw [if_neg c_3, if_neg c_7, if_neg c_12, if_pos c_13]; rfl)), ht⟩) (fun q h => absurd h List.not_mem_nil) dX12_takes_73
        ·
          obtain ⟨x_14, ex_14⟩ : ∃ y : Int32, y = x_11 + (-1) := ⟨_, rfl⟩
          refine lv_iinc (v := x_14) (lv' := [(4, .int x_14), (3, .int x_1), (0, .ref h0), (1, .int p0), (2, .int p1)]) hx hb dX12_takes_68 hl (k := 0) rfl (by rw [ex_14]; rfl) (by decide) rfl (fun ls hl => ?_)
          refine lv_iload hx hb dX12_takes_71 (lv_at hl 0 rfl) ?_
          exact W.iret (v := x_14) hx hb hr (fun t ht hW => ⟨_, rfl, (by subst_vars; first | (simp only [mTakes, if_neg c_3, if_neg c_7, if_neg c_12, if_neg c_13]; done) | (simp only [mTakes]; rw [if_neg c_3, if_neg c_7, if_neg c_12, if_neg c_13]; rfl)), ht⟩) (fun q h => absurd h List.not_mem_nil) dX12_takes_73
theorem bwN {n : Nat} {hi : Int32} (h : (n : Int) ≤ hi.toInt) (hn : n < 2 ^ 31) : bw (nI n) 0 hi = true := by
  rw [bw_iff, nI_toInt hn, i0]; omega
set_option maxHeartbeats 4000000 in
set_option maxRecDepth 100000 in
theorem m_from_loop {p : Program} {l : Launch} {e : Env} {R : Room} {s : State} {m : MethodId} {args : Array Value} {below : List Frame} {meth : Method} {c : Code} {Q : State → Prop} {cells slots : Nat} {dC : Nat → ClassId} {dI : Nat → Nat → Nat} {h0 : Nat} {v : Nat → Nat} {cI cZ : ClassId} {H : Heap} {locs : List Loc} {u : mS} (hx : p.tables.exec = Jvm.exec) (hb : c.code = cX12_from) (hml : c.maxLocals = 5) (hts : ∀ w ∈ wsX12_from, w.before args s = true) (hown : s.vm.findClass RX12 = some m.cls) (hN : NN s) (hK : va_K (dC, dI) vwCl [(cI, .int), (cZ, .boolean)] s) (hRf : 1 ≤ R.frames) (hRl : 24 ≤ R.locals) (hRc : cells ≤ R.cells) (hRs : slots ≤ R.slots) (hP : va_P (dC, dI) vwCl (mW h0 v cI cZ u) H) {p0 : Int32} {N : Nat} (hi0 : bw p0 0 79 = true) (hN6 : N ≤ 6) (hc : bw (u.2 22 p0.toNatClampNeg) 0 6 = true) (kx : ∀ (a : Int32) (ls : Array Slot), a = mFrom u p0 N → lv_has ls 5 [(4, .int (nI N)), (3, .int a), (0, .ref h0), (1, .int p0), (2, .int (nI N))] → W p l e R s m args below meth c H locs cells slots Q (F0 m 27 ls [])) : ∀ (k i : Nat) (a : Int32) (ls : Array Slot), i ≤ N → N - i < k → a = mFrom u p0 i → lv_has ls 5 [(4, .int (nI i)), (3, .int a), (0, .ref h0), (1, .int p0), (2, .int (nI N))] → W p l e R s m args below meth c H locs cells slots Q (F0 m 5 ls []) := by
  intro k
  induction k with
  | zero => intro i a ls h1 h2; exact absurd h2 (Nat.not_lt_zero _)
  | succ k ih =>
    intro i a ls hi hk hg hl
    refine lv_iload hx hb dX12_from_5 (lv_at hl 0 rfl) ?_
    refine lv_iload_n hx hb dX12_from_7 rfl (lv_at hl 4 rfl) ?_
    refine lv_icmp_ge (tgt := 27) hx hb dX12_from_8 (by decide) (fun c_1 => ?_) (fun c_1 => ?_)
    ·
      have hie : i = N := lp_eq rfl (by omega) hi c_1
      rw [hie] at hg hl
      exact kx _ ls hg (lv_sub hl [0, 1, 2, 3, 4] rfl)
    ·
      have hlt : i < N := lp_lt rfl (by omega) hi c_1
      refine lv_iload_n hx hb dX12_from_11 rfl (lv_at hl 1 rfl) ?_
      refine lv_aload_n hx hb dX12_from_12 rfl (lv_at hl 2 rfl) ?_
      refine lv_iload_n hx hb dX12_from_13 rfl (lv_at hl 3 rfl) ?_
      refine lv_iload hx hb dX12_from_14 (lv_at hl 0 rfl) ?_
      refine vp_callSi (va_runV (As := [.int p0, .int (nI i)]) (rest := [.int a]) ⟨hx, hb, hml, hown, hts⟩ (m_takes l dC dI h0 v cI cZ u p0 (nI i) hi0 (bwN (by have h5 : (5 : Int32).toInt = 5 := rfl; rw [h5]; omega) (by omega)) hc) (cwV 2 hts gX12_from_X12_takes rfl rfl rfl (by decide +kernel) ⟨hRf, hRl⟩) ⟨pw_fb, va_recv hK hP (ci := 11) (q0 := 0) rfl rfl, fun U hU hW => ⟨rfl, pw_to hU hW hP hK hN⟩⟩ rfl rfl hl.1 rfl (lv_room (Nat.le_of_ble_eq_true rfl)) dX12_from_16 ⟨hRc, hRs⟩).run (fun r hw => ?_)
      obtain rfl : r = (mTakes u p0 (nI i)) := hw
      refine lv_iadd hx hb dX12_from_19 ?_
      refine lv_topi (fun x_2 ex_2 => ?_)
      refine lv_istore_n (lv' := [(3, .int x_2), (4, .int (nI i)), (0, .ref h0), (1, .int p0), (2, .int (nI N))]) hx hb dX12_from_20 rfl hl (by decide) rfl (fun ls hl => ?_)
      refine lv_iinc (v := (nI (i + 1))) (lv' := [(4, .int (nI (i + 1))), (3, .int x_2), (0, .ref h0), (1, .int p0), (2, .int (nI N))]) hx hb dX12_from_21 hl (k := 1) rfl (nI_1 i) (by decide) rfl (fun ls hl => ?_)
      refine lv_goto (tgt := 5) hx hb dX12_from_24 (by decide) ?_
      exact ih (i + 1) _ ls (by omega) (by omega) (by subst_vars; rfl) (lv_sub hl [0, 1, 2, 3, 4] rfl)
set_option maxHeartbeats 4000000 in
set_option maxRecDepth 100000 in
theorem m_from (l : Launch) (dC : Nat → ClassId) (dI : Nat → Nat → Nat) (h0 : Nat) (v : Nat → Nat) (cI cZ : ClassId) (u : mS) (p0 : Int32) (N : Nat) (hi : bw p0 0 79 = true) (hN6 : N ≤ 6) (hc : bw (u.2 22 p0.toNatClampNeg) 0 6 = true) : Met l yX12_from wsX12_from ({ frames := 1, cells := 0, slots := 0, locals := 24 }) (va_Pc [.ref h0, .int p0, .int (nI N)] (PW dC dI (mW h0 v cI cZ u) [(cI, .int), (cZ, .boolean)])) (vp_Si (fun r => r = mFrom u p0 N)) 0 0 (fun _ => False) := by
  refine Met.ofW (cc := cX12_from) (maxL := 5) (ret := (some .int)) (by decide) rfl ?_
  intro p e s m args below meth c s₁ B hml hv
  obtain ⟨rfl, hP, hK, hN⟩ := hv
  have hx := B.exec
  have hb := B.bytes
  have hr := B.returns
  have hts := atoms_spec (ws := wsX12_from) B.pre
  have hown : s.vm.findClass RX12 = some m.cls := findClass_of_methodNamed B.named
  have hlocks := B.notSynchronized
  have hl := lv_entry ([.ref h0, .int p0, .int (nI N)]) (n := 5) (Nat.le_of_ble_eq_true rfl)
  rw [lg_entry_eq]
  generalize (lg_sl ([.ref h0, .int p0, .int (nI N)]) ++ List.replicate (5 - (lg_sl ([.ref h0, .int p0, .int (nI N)])).length) Slot.unset).toArray = ls at hl ⊢
  have hl : lv_has ls 5 [(0, .ref h0), (1, .int p0), (2, .int (nI N))] := hl
  refine lv_iconst (v := 0) hx hb dX12_from_0 (by decide) ?_
  refine lv_istore_n (lv' := [(3, .int 0), (0, .ref h0), (1, .int p0), (2, .int (nI N))]) hx hb dX12_from_1 rfl hl (by decide) rfl (fun ls hl => ?_)
  refine lv_iconst (v := 0) hx hb dX12_from_2 (by decide) ?_
  refine lv_istore (lv' := [(4, .int 0), (3, .int 0), (0, .ref h0), (1, .int p0), (2, .int (nI N))]) hx hb dX12_from_3 hl (by decide) rfl (fun ls hl => ?_)
  refine m_from_loop hx hb hml hts hown hN hK (Nat.le_of_ble_eq_true rfl) (Nat.le_of_ble_eq_true rfl) (Nat.le_of_ble_eq_true rfl) (Nat.le_of_ble_eq_true rfl) hP hi hN6 hc (fun a ls hg hl => ?_) (N + 1) 0 0 ls (Nat.zero_le _) (by omega) rfl (lv_sub hl [0, 1, 2, 3, 4] rfl)
  refine lv_iload_n hx hb dX12_from_27 rfl (lv_at hl 1 rfl) ?_
  exact W.iret (v := a) hx hb hr (fun t ht hW => ⟨_, rfl, hg, ht⟩) (fun q h => absurd h List.not_mem_nil) dX12_from_28
theorem idxN {P x y : Nat} (hP : P < 12) (hx : x < 8) (hy : y < 60) : 480 * nI P + 60 * nI x + nI y = nI (480 * P + 60 * x + y) := by
  rw [show (480 : Int32) = nI 480 from rfl, show (60 : Int32) = nI 60 from rfl, pk_mul, pk_mul, nI_add, nI_add]
theorem idxV {P x y : Nat} (hP : P < 12) (hx : x < 8) (hy : y < 60) : vp_in (480 * nI P + 60 * nI x + nI y) 5760 := by
  rw [idxN hP hx hy]; exact vp_in_nI (by omega) (by decide)
/-- a stretch of a column -/
def setC (f : Nat → Int32) (P x Y n : Nat) (z : Int32) : Nat → Int32 := fun j => if 480 * P + 60 * x + Y ≤ j ∧ j < 480 * P + 60 * x + Y + n then z else f j
/-- a rectangle -/
def setR (f : Nat → Int32) (P X : Nat) (Y n : Nat) (z : Int32) : Nat → Nat → Int32
  | 0 => f
  | D + 1 => setC (setR f P X Y n z D) P (X + D) Y n z
theorem setC_0 (f : Nat → Int32) (P x Y : Nat) (z : Int32) : setC f P x Y 0 z = f := by
  funext j; unfold setC; rw [if_neg (by omega)]
theorem setC_step (u0 : mS) {P x Y i : Nat} (hP : P < 12) (hx : x < 8) (hy : Y + i < 60) (z : Int32) : mst (mput u0 2 (setC (u0.2 2) P x Y i z)) 2 (480 * nI P + 60 * nI x + nI (Y + i)) z = mput u0 2 (setC (u0.2 2) P x Y (i + 1) z) := by
  unfold mst
  rw [idxN hP hx hy, nI_clamp (by omega)]
  unfold mput
  refine Prod.ext rfl ?_
  funext j
  dsimp only
  by_cases e : j = 2
  · subst e
    rw [if_pos rfl, if_pos rfl, if_pos rfl]
    funext q
    unfold upd setC
    by_cases e1 : q = 480 * P + 60 * x + (Y + i)
    · rw [if_pos e1, if_pos (by omega)]
    · rw [if_neg e1]
      by_cases e2 : 480 * P + 60 * x + Y ≤ q ∧ q < 480 * P + 60 * x + Y + i
      · rw [if_pos e2, if_pos (by omega)]
      · rw [if_neg e2, if_neg (by omega)]
  · rw [if_neg e, if_neg e, if_neg e]
theorem mput_id (u : mS) : mput u 2 (u.2 2) = u := by
  refine Prod.ext rfl ?_
  funext j
  unfold mput
  dsimp only
  by_cases e : j = 2
  · rw [if_pos e, e]
  · rw [if_neg e]
theorem mput_2 (u : mS) (f g : Nat → Int32) : mput (mput u 2 f) 2 g = mput u 2 g := by
  refine Prod.ext rfl ?_
  funext j
  unfold mput
  dsimp only
  by_cases e : j = 2
  · rw [if_pos e, if_pos e]
  · rw [if_neg e, if_neg e, if_neg e]
theorem mst_same (u : mS) (k : Nat) (i x : Int32) : (mst u k i x).2 k i.toNatClampNeg = x := by
  unfold mst mput upd; dsimp only; rw [if_pos rfl, if_pos rfl]
theorem mst_other {u : mS} {k j : Nat} {i x : Int32} (h : j ≠ k) : (mst u k i x).2 j = u.2 j := by
  unfold mst mput; dsimp only; rw [if_neg h]
theorem mput_at (u : mS) (f : Nat → Int32) : (mput u 2 f).2 2 = f := rfl
set_option maxHeartbeats 4000000 in
set_option maxRecDepth 100000 in
theorem m_sets_in {p : Program} {l : Launch} {e : Env} {R : Room} {s : State} {m : MethodId} {args : Array Value} {below : List Frame} {meth : Method} {c : Code} {Q : State → Prop} {cells slots : Nat} {dC : Nat → ClassId} {dI : Nat → Nat → Nat} {h0 : Nat} {v : Nat → Nat} {cI cZ : ClassId} {P X Y D N : Nat} {z : Int32} (hPP : P < 12) (hXW : X + D ≤ 8) (hYN : Y + N ≤ 60) {x : Nat} {u0 : mS} (hx8 : x < 8) {A : Nat → Prop} {H0 : Heap} (hx : p.tables.exec = Jvm.exec) (hb : c.code = cX12_sets) (hml : c.maxLocals = 9) (hts : ∀ w ∈ wsX12_sets, w.before args s = true) (hown : s.vm.findClass RX12 = some m.cls) (hN : NN s) (hK : va_K (dC, dI) vwCl [(cI, .int), (cZ, .boolean)] s) (hRf : 1 ≤ R.frames) (hRl : 22 ≤ R.locals) (hRc : cells ≤ R.cells) (hRs : slots ≤ R.slots) (hA : ∀ q : Nat, H0.size ≤ q → A q) (kx : ∀ (u : mS) (H : Heap) (locs : List Loc) (ls : Array Slot), u = mput u0 2 (setC (u0.2 2) P x Y N z) → va_P (dC, dI) vwCl (mW h0 v cI cZ u) H → va_D A (mW h0 v cI cZ u) → va_S A H0 H locs → lv_has ls 9 [(8, .int (nI (Y + N))), (7, .int (nI x)), (0, .ref h0), (1, .int (nI P)), (2, .int (nI X)), (3, .int (nI Y)), (4, .int (nI D)), (5, .int (nI N)), (6, .int z)] → W p l e R s m args below meth c H locs cells slots Q (F0 m 45 ls [])) : ∀ (k i : Nat) (u : mS) (H : Heap) (locs : List Loc) (ls : Array Slot), i ≤ N → N - i < k → u = mput u0 2 (setC (u0.2 2) P x Y i z) → va_P (dC, dI) vwCl (mW h0 v cI cZ u) H → va_D A (mW h0 v cI cZ u) → va_S A H0 H locs → lv_has ls 9 [(8, .int (nI (Y + i))), (7, .int (nI x)), (0, .ref h0), (1, .int (nI P)), (2, .int (nI X)), (3, .int (nI Y)), (4, .int (nI D)), (5, .int (nI N)), (6, .int z)] → W p l e R s m args below meth c H locs cells slots Q (F0 m 15 ls []) := by
  intro k
  induction k with
  | zero => intro i u H locs ls h1 h2; exact absurd h2 (Nat.not_lt_zero _)
  | succ k ih =>
    intro i u H locs ls hi hk hg hP hD hS hl
    refine lv_iload hx hb dX12_sets_15 (lv_at hl 0 rfl) ?_
    refine lv_iload_n hx hb dX12_sets_17 rfl (lv_at hl 5 rfl) ?_
    refine lv_iload hx hb dX12_sets_18 (lv_at hl 7 rfl) ?_
    refine lv_iadd hx hb dX12_sets_20 ?_
    refine lv_icmp_ge (tgt := 45) hx hb dX12_sets_21 (by decide) (fun c_1 => ?_) (fun c_1 => ?_)
    ·
      have hie : i = N := by have := lp_eq (nI_add Y N) (by omega) (by omega) c_1; omega
      rw [hie] at hg hl
      exact kx _ _ _ ls hg hP hD hS (lv_sub hl [0, 1, 2, 3, 4, 5, 6, 7, 8] rfl)
    ·
      have hlt : Y + i < Y + N := lp_lt (nI_add Y N) (by omega) (by omega) c_1
      refine lv_aload_n hx hb dX12_sets_24 rfl (lv_at hl 2 rfl) ?_
      refine va_get (D := (dC, dI)) (ci := 11) (v := .ref (v 2)) (C := RX12) (T := TX12) (N := 52) hx hb hts (by decide +kernel) hown hK hP 0 rfl rfl 2 (by decide) (hts (.fieldLink RX12 16 "PageOneModel" "cell" "[I") (by decide +kernel)) (fun _ h9 => h9) rfl dX12_sets_25 ?_
      refine lv_iload_n hx hb dX12_sets_28 rfl (lv_at hl 3 rfl) ?_
      refine lv_iload hx hb dX12_sets_29 (lv_at hl 1 rfl) ?_
      refine lv_iload hx hb dX12_sets_31 (lv_at hl 0 rfl) ?_
      refine vp_callSi (va_runS (As := [.int (nI P), .int (nI x), .int (nI (Y + i))]) (rest := [.ref (v 2)]) ⟨hx, hb, hml, hown, hts⟩ (m_at l dC dI (nI P) (nI x) (nI (Y + i))) (va_cwS 3 hts gX12_sets_X12_at rfl rfl rfl (by decide +kernel) ⟨hRf, hRl⟩) ⟨pw_fb, fun U hU hW => ⟨rfl, pw_to hU hW (hP.sub (ws' := []) [] rfl) (hK.sub (tys' := []) [] rfl) hN⟩⟩ rfl rfl hl.1 rfl (lv_room (Nat.le_of_ble_eq_true rfl)) dX12_sets_33 ⟨hRc, hRs⟩).run (fun r hw => ?_)
      obtain rfl : r = (480 * (nI P) + 60 * (nI x) + (nI (Y + i))) := hw
      refine lv_iload hx hb dX12_sets_36 (lv_at hl 8 rfl) ?_
      refine va_iast hx hb hK hP hD hS 3 0 rfl rfl (idxV hPP hx8 (by omega)) dX12_sets_38 (fun H locs hP hD hS => ?_)
      obtain ⟨u_2, eu_2⟩ : ∃ zz : mS, zz = mst u 2 (480 * (nI P) + 60 * (nI x) + (nI (Y + i))) z := ⟨_, rfl⟩
      have hP : va_P (dC, dI) vwCl (mW h0 v cI cZ u_2) H := by rw [eu_2]; exact hP
      have hD : va_D A (mW h0 v cI cZ u_2) := by rw [eu_2]; exact hD
      refine lv_iinc (v := (nI (Y + i + 1))) (lv' := [(8, .int (nI (Y + i + 1))), (7, .int (nI x)), (0, .ref h0), (1, .int (nI P)), (2, .int (nI X)), (3, .int (nI Y)), (4, .int (nI D)), (5, .int (nI N)), (6, .int z)]) hx hb dX12_sets_39 hl (k := 0) rfl (nI_1 _) (by decide) rfl (fun ls hl => ?_)
      refine lv_goto (tgt := 15) hx hb dX12_sets_42 (by decide) ?_
      exact ih (i + 1) _ _ _ ls (by omega) (by omega) (by subst_vars; exact setC_step u0 hPP hx8 (by omega) z) hP hD hS (lv_sub hl [0, 1, 2, 3, 4, 5, 6, 7, 8] rfl)
set_option maxHeartbeats 4000000 in
set_option maxRecDepth 100000 in
theorem m_sets_out {p : Program} {l : Launch} {e : Env} {R : Room} {s : State} {m : MethodId} {args : Array Value} {below : List Frame} {meth : Method} {c : Code} {Q : State → Prop} {cells slots : Nat} {dC : Nat → ClassId} {dI : Nat → Nat → Nat} {h0 : Nat} {v : Nat → Nat} {cI cZ : ClassId} {P X Y D N : Nat} {z : Int32} (hPP : P < 12) (hXW : X + D ≤ 8) (hYN : Y + N ≤ 60) {u0 : mS} {A : Nat → Prop} {H0 : Heap} (hx : p.tables.exec = Jvm.exec) (hb : c.code = cX12_sets) (hml : c.maxLocals = 9) (hts : ∀ w ∈ wsX12_sets, w.before args s = true) (hown : s.vm.findClass RX12 = some m.cls) (hN : NN s) (hK : va_K (dC, dI) vwCl [(cI, .int), (cZ, .boolean)] s) (hRf : 1 ≤ R.frames) (hRl : 22 ≤ R.locals) (hRc : cells ≤ R.cells) (hRs : slots ≤ R.slots) (hA : ∀ q : Nat, H0.size ≤ q → A q) (kx : ∀ (u : mS) (H : Heap) (locs : List Loc) (ls : Array Slot), u = mput u0 2 (setR (u0.2 2) P X Y N z D) → va_P (dC, dI) vwCl (mW h0 v cI cZ u) H → va_D A (mW h0 v cI cZ u) → va_S A H0 H locs → lv_has ls 9 [(7, .int (nI (X + D))), (0, .ref h0), (1, .int (nI P)), (2, .int (nI X)), (3, .int (nI Y)), (4, .int (nI D)), (5, .int (nI N)), (6, .int z)] → W p l e R s m args below meth c H locs cells slots Q (F0 m 51 ls [])) : ∀ (k i : Nat) (u : mS) (H : Heap) (locs : List Loc) (ls : Array Slot), i ≤ D → D - i < k → u = mput u0 2 (setR (u0.2 2) P X Y N z i) → va_P (dC, dI) vwCl (mW h0 v cI cZ u) H → va_D A (mW h0 v cI cZ u) → va_S A H0 H locs → lv_has ls 9 [(7, .int (nI (X + i))), (0, .ref h0), (1, .int (nI P)), (2, .int (nI X)), (3, .int (nI Y)), (4, .int (nI D)), (5, .int (nI N)), (6, .int z)] → W p l e R s m args below meth c H locs cells slots Q (F0 m 3 ls []) := by
  intro k
  induction k with
  | zero => intro i u H locs ls h1 h2; exact absurd h2 (Nat.not_lt_zero _)
  | succ k ih =>
    intro i u H locs ls hi hk hg hP hD hS hl
    refine lv_iload hx hb dX12_sets_3 (lv_at hl 0 rfl) ?_
    refine lv_iload_n hx hb dX12_sets_5 rfl (lv_at hl 3 rfl) ?_
    refine lv_iload hx hb dX12_sets_6 (lv_at hl 5 rfl) ?_
    refine lv_iadd hx hb dX12_sets_8 ?_
    refine lv_icmp_ge (tgt := 51) hx hb dX12_sets_9 (by decide) (fun c_1 => ?_) (fun c_1 => ?_)
    ·
      have hie : i = D := by have := lp_eq (nI_add X D) (by omega) (by omega) c_1; omega
      rw [hie] at hg hl
      exact kx _ _ _ ls hg hP hD hS (lv_sub hl [0, 1, 2, 3, 4, 5, 6, 7] rfl)
    ·
      have hlt : X + i < X + D := lp_lt (nI_add X D) (by omega) (by omega) c_1
      refine lv_iload_n hx hb dX12_sets_12 rfl (lv_at hl 4 rfl) ?_
      refine lv_istore (lv' := [(8, .int (nI Y)), (7, .int (nI (X + i))), (0, .ref h0), (1, .int (nI P)), (2, .int (nI X)), (3, .int (nI Y)), (4, .int (nI D)), (5, .int (nI N)), (6, .int z)]) hx hb dX12_sets_13 hl (by decide) rfl (fun ls hl => ?_)
      refine m_sets_in (x := X + i) (u0 := u) (Y := Y) (N := N) (X := X) (D := D) (P := P) (z := z) hPP hXW hYN (by omega) hx hb hml hts hown hN hK hRf hRl hRc hRs hA (fun u2 H locs ls hg2 hP hD hS hl => ?_) (N + 1) 0 u _ _ ls (Nat.zero_le _) (by omega) (by rw [setC_0, mput_id]) hP hD hS (lv_sub hl [0, 1, 2, 3, 4, 5, 6, 7, 8] rfl)
      refine lv_iinc (v := (nI (X + i + 1))) (lv' := [(7, .int (nI (X + i + 1))), (8, .int (nI (Y + N))), (0, .ref h0), (1, .int (nI P)), (2, .int (nI X)), (3, .int (nI Y)), (4, .int (nI D)), (5, .int (nI N)), (6, .int z)]) hx hb dX12_sets_45 hl (k := 1) rfl (nI_1 _) (by decide) rfl (fun ls hl => ?_)
      refine lv_goto (tgt := 3) hx hb dX12_sets_48 (by decide) ?_
      exact ih (i + 1) _ _ _ ls (by omega) (by omega) (by subst_vars; rw [mput_at, mput_2]; rfl) hP hD hS (lv_sub hl [0, 2, 3, 4, 5, 6, 7, 8] rfl)
set_option maxHeartbeats 4000000 in
set_option maxRecDepth 100000 in
theorem m_sets (l : Launch) (dC : Nat → ClassId) (dI : Nat → Nat → Nat) (h0 : Nat) (v : Nat → Nat) (cI cZ : ClassId) (u : mS) (P X Y D N : Nat) (z : Int32) (hPP : P < 12) (hXW : X + D ≤ 8) (hYN : Y + N ≤ 60) (sz : Nat) : Met l yX12_sets wsX12_sets ({ frames := 1, cells := 0, slots := 0, locals := 22 }) (va_Pc [.ref h0, .int (nI P), .int (nI X), .int (nI Y), .int (nI D), .int (nI N), .int z] (fun U => U.heap.size = sz ∧ PW dC dI (mW h0 v cI cZ u) [(cI, .int), (cZ, .boolean)] U ∧ va_D (fun _ => True) (mW h0 v cI cZ u))) (va_Qv (fun u9 : mS => u9 = mput u 2 (setR (u.2 2) P X Y N z D)) (fun u9 t => va_P (dC, dI) vwCl (mW h0 v cI cZ u9) t.heap ∧ va_D (va_A (mW h0 v cI cZ u) sz) (mW h0 v cI cZ u9)) (va_A (mW h0 v cI cZ u) sz)) 0 0 (va_A (mW h0 v cI cZ u) sz) := by
  refine Met.ofW (cc := cX12_sets) (maxL := 9) (ret := none) (by decide) rfl ?_
  intro p e s m args below meth c s₁ B hml hv
  obtain ⟨rfl, hsz, ⟨hP, hK, hN⟩, hD0⟩ := hv
  have hx := B.exec
  have hb := B.bytes
  have hr := B.returns
  have hts := atoms_spec (ws := wsX12_sets) B.pre
  have hown : s.vm.findClass RX12 = some m.cls := findClass_of_methodNamed B.named
  have hlocks := B.notSynchronized
  subst hsz
  have hD := hD0.self (sz := s.heap.size)
  generalize hAe : va_A (mW h0 v cI cZ u) s.heap.size = A at hD ⊢
  have hA : ∀ q : Nat, s.heap.size ≤ q → A q := fun q h => by rw [← hAe]; exact Or.inr h
  have hS : va_S A s.heap s.heap [] := va_S.rf
  have hl := lv_entry ([.ref h0, .int (nI P), .int (nI X), .int (nI Y), .int (nI D), .int (nI N), .int z]) (n := 9) (Nat.le_of_ble_eq_true rfl)
  rw [lg_entry_eq]
  generalize (lg_sl ([.ref h0, .int (nI P), .int (nI X), .int (nI Y), .int (nI D), .int (nI N), .int z]) ++ List.replicate (9 - (lg_sl ([.ref h0, .int (nI P), .int (nI X), .int (nI Y), .int (nI D), .int (nI N), .int z])).length) Slot.unset).toArray = ls at hl ⊢
  have hl : lv_has ls 9 [(0, .ref h0), (1, .int (nI P)), (2, .int (nI X)), (3, .int (nI Y)), (4, .int (nI D)), (5, .int (nI N)), (6, .int z)] := hl
  refine lv_iload_n hx hb dX12_sets_0 rfl (lv_at hl 2 rfl) ?_
  refine lv_istore (lv' := [(7, .int (nI X)), (0, .ref h0), (1, .int (nI P)), (2, .int (nI X)), (3, .int (nI Y)), (4, .int (nI D)), (5, .int (nI N)), (6, .int z)]) hx hb dX12_sets_1 hl (by decide) rfl (fun ls hl => ?_)
  refine m_sets_out (u0 := u) (X := X) (D := D) (Y := Y) (N := N) (P := P) (z := z) hPP hXW hYN hx hb hml hts hown hN hK (Nat.le_of_ble_eq_true rfl) (Nat.le_of_ble_eq_true rfl) (Nat.le_of_ble_eq_true rfl) (Nat.le_of_ble_eq_true rfl) hA (fun u2 H locs ls hg hP hD hS hl => ?_) (D + 1) 0 u _ _ ls (Nat.zero_le _) (by omega) (mput_id u).symm hP hD hS (lv_sub hl [0, 1, 2, 3, 4, 5, 6, 7] rfl)
  exact W.vret hx hb hr (fun t ht hW => ⟨⟨u2, rfl, hg, by rw [ht]; exact hP, hD⟩, hS.F ht⟩) hS.2.2 dX12_sets_51
def mCell (u : mS) (p c l : Int32) : Bool := bw p 0 11 && bw c 0 7 && bw l 0 (u.2 0 (8 * p + c).toNatClampNeg - 1)
def mThing (x : Int32) : Bool := !decide (x < 0) && !decide (x = 100)
def mNow (u : mS) (p : Int32) : Bool := !decide (u.2 40 p.toNatClampNeg = 0) && (decide (u.2 41 p.toNatClampNeg = u.1 38) && decide (u.2 42 p.toNatClampNeg = u.1 39))
def mForget (u : mS) : mS := mset (mset u 28 0) 36 0
def mActs (u : mS) (k a b c d e f : Int32) : mS :=
  let u1 := mst u 29 (u.1 28) k
  let u2 := mst u1 30 (u1.1 28) a
  let u3 := mst u2 31 (u2.1 28) b
  let u4 := mst u3 32 (u3.1 28) c
  let u5 := mst u4 33 (u4.1 28) d
  let u6 := mst u5 34 (u5.1 28) e
  let u7 := mst u6 35 (u6.1 28) f
  mset u7 28 (u7.1 28 + 1)
/-- the piece's place and size into its slot, the count, the cells -/
def mStand (u : mS) (i : Int32) (P X Y D N : Nat) : mS :=
  let k := 6 * i + u.2 22 i.toNatClampNeg
  let u5 := mst (mst (mst (mst (mst u 23 k (nI P)) 24 k (nI X)) 25 k (nI Y)) 26 k (nI D)) 27 k (nI N)
  let u6 := mst u5 22 i (u5.2 22 i.toNatClampNeg + 1)
  mput u6 2 (setR (u6.2 2) P X Y N i D)
def mUnstand (u : mS) (i : Int32) (P X Y D N : Nat) : mS :=
  let u1 := mst u 22 i (u.2 22 i.toNatClampNeg - 1)
  mput u1 2 (setR (u1.2 2) P X Y N (-2) D)
theorem vAct {n : Int32} (h : bw n 0 299 = true) : vp_in n 300 := vin h (by decide)
set_option maxHeartbeats 4000000 in
set_option maxRecDepth 100000 in
theorem m_isCell (l : Launch) (dC : Nat → ClassId) (dI : Nat → Nat → Nat) (h0 : Nat) (v : Nat → Nat) (cI cZ : ClassId) (u : mS) (p0 p1 p2 : Int32) : Met l yX12_isCell wsX12_isCell ({ frames := 2, cells := 0, slots := 0, locals := 42 }) (va_Pc [.ref h0, .int p0, .int p1, .int p2] (PW dC dI (mW h0 v cI cZ u) [(cI, .int), (cZ, .boolean)])) (vp_Si (fun r => r = bi (mCell u p0 p1 p2))) 0 0 (fun _ => False) := by
  refine Met.ofW (cc := cX12_isCell) (maxL := 4) (ret := (some .boolean)) (by decide) rfl ?_
  intro p e s m args below meth c s₁ B hml hv
  obtain ⟨rfl, hP, hK, hN⟩ := hv
  have hx := B.exec
  have hb := B.bytes
  have hr := B.returns
  have hts := atoms_spec (ws := wsX12_isCell) B.pre
  have hown : s.vm.findClass RX12 = some m.cls := findClass_of_methodNamed B.named
  have hlocks := B.notSynchronized
  have hl := lv_entry ([.ref h0, .int p0, .int p1, .int p2]) (n := 4) (Nat.le_of_ble_eq_true rfl)
  rw [lg_entry_eq]
  generalize (lg_sl ([.ref h0, .int p0, .int p1, .int p2]) ++ List.replicate (4 - (lg_sl ([.ref h0, .int p0, .int p1, .int p2])).length) Slot.unset).toArray = ls at hl ⊢
  have hl : lv_has ls 4 [(0, .ref h0), (1, .int p0), (2, .int p1), (3, .int p2)] := hl
  refine lv_iload_n hx hb dX12_isCell_0 rfl (lv_at hl 1 rfl) ?_
  refine vp_callSi (va_runS (As := [.int p0]) (rest := []) ⟨hx, hb, hml, hown, hts⟩ (m_isPage l dC dI p0) (va_cwS 1 hts gX12_isCell_X12_isPage rfl rfl rfl (by decide +kernel) ⟨Nat.le_of_ble_eq_true rfl, Nat.le_of_ble_eq_true rfl⟩) ⟨pw_fb, fun U hU hW => ⟨rfl, pw_to hU hW (hP.sub (ws' := []) [] rfl) (hK.sub (tys' := []) [] rfl) hN⟩⟩ rfl rfl hl.1 rfl (lv_room (Nat.le_of_ble_eq_true rfl)) dX12_isCell_1 ⟨Nat.le_of_ble_eq_true rfl, Nat.le_of_ble_eq_true rfl⟩).run (fun r hw => ?_)
  rcases Bool.eq_false_or_eq_true (bw p0 0 11) with b_1 | b_1
  ·
    obtain rfl : r = 1 := b_t hw b_1
    refine lv_if_eq (tgt := 42) hx hb dX12_isCell_4 (by decide) (fun c_2 => absurd c_2 (by decide)) (fun c_2 => ?_)
    refine lv_iload_n hx hb dX12_isCell_7 rfl (lv_at hl 2 rfl) ?_
    refine lv_iconst (v := 0) hx hb dX12_isCell_8 (by decide) ?_
    refine lv_bipush (v := 7) hx hb dX12_isCell_9 (by decide) ?_
    refine vp_callSi (va_runS (As := [.int p1, .int 0, .int 7]) (rest := []) ⟨hx, hb, hml, hown, hts⟩ (m_in l dC dI p1 0 7) (va_cwS 3 hts gX12_isCell_X12_in rfl rfl rfl (by decide +kernel) ⟨Nat.le_of_ble_eq_true rfl, Nat.le_of_ble_eq_true rfl⟩) ⟨pw_fb, fun U hU hW => ⟨rfl, pw_to hU hW (hP.sub (ws' := []) [] rfl) (hK.sub (tys' := []) [] rfl) hN⟩⟩ rfl rfl hl.1 rfl (lv_room (Nat.le_of_ble_eq_true rfl)) dX12_isCell_11 ⟨Nat.le_of_ble_eq_true rfl, Nat.le_of_ble_eq_true rfl⟩).run (fun r hw => ?_)
    rcases Bool.eq_false_or_eq_true (bw p1 0 7) with b_3 | b_3
    ·
      obtain rfl : r = 1 := b_t hw b_3
      refine lv_if_eq (tgt := 42) hx hb dX12_isCell_14 (by decide) (fun c_4 => absurd c_4 (by decide)) (fun c_4 => ?_)
      refine lv_iload_n hx hb dX12_isCell_17 rfl (lv_at hl 3 rfl) ?_
      refine lv_iconst (v := 0) hx hb dX12_isCell_18 (by decide) ?_
      refine lv_aload_n hx hb dX12_isCell_19 rfl (lv_at hl 0 rfl) ?_
      refine va_get (D := (dC, dI)) (ci := 11) (v := .ref (v 0)) (C := RX12) (T := TX12) (N := 52) hx hb hts (by decide +kernel) hown hK hP 0 rfl rfl 0 (by decide) (hts (.fieldLink RX12 7 "PageOneModel" "lines" "[I") (by decide +kernel)) (fun _ h9 => h9) rfl dX12_isCell_20 ?_
      refine lv_bipush (v := 8) hx hb dX12_isCell_23 (by decide) ?_
      refine lv_iload_n hx hb dX12_isCell_25 rfl (lv_at hl 1 rfl) ?_
      refine lv_imul hx hb dX12_isCell_26 ?_
      refine lv_iload_n hx hb dX12_isCell_27 rfl (lv_at hl 2 rfl) ?_
      refine lv_iadd hx hb dX12_isCell_28 ?_
      refine va_iald hx hb hK hP 1 0 rfl rfl (vin8 b_1 b_3) dX12_isCell_29 ?_
      refine lv_iconst (v := 1) hx hb dX12_isCell_30 (by decide) ?_
      refine lv_isub hx hb dX12_isCell_31 ?_
      refine vp_callSi (va_runS (As := [.int p2, .int 0, .int ((u.2 0 (((8 * p0) + p1) : Int32).toNatClampNeg) - 1)]) (rest := []) ⟨hx, hb, hml, hown, hts⟩ (m_in l dC dI p2 0 ((u.2 0 (((8 * p0) + p1) : Int32).toNatClampNeg) - 1)) (va_cwS 3 hts gX12_isCell_X12_in rfl rfl rfl (by decide +kernel) ⟨Nat.le_of_ble_eq_true rfl, Nat.le_of_ble_eq_true rfl⟩) ⟨pw_fb, fun U hU hW => ⟨rfl, pw_to hU hW (hP.sub (ws' := []) [] rfl) (hK.sub (tys' := []) [] rfl) hN⟩⟩ rfl rfl hl.1 rfl (lv_room (Nat.le_of_ble_eq_true rfl)) dX12_isCell_32 ⟨Nat.le_of_ble_eq_true rfl, Nat.le_of_ble_eq_true rfl⟩).run (fun r hw => ?_)
      rcases Bool.eq_false_or_eq_true (bw p2 0 ((u.2 0 (((8 * p0) + p1) : Int32).toNatClampNeg) - 1)) with b_5 | b_5
      ·
        obtain rfl : r = 1 := b_t hw b_5
        refine lv_if_eq (tgt := 42) hx hb dX12_isCell_35 (by decide) (fun c_6 => absurd c_6 (by decide)) (fun c_6 => ?_)
        refine lv_iconst (v := 1) hx hb dX12_isCell_38 (by decide) ?_
        refine lv_goto (tgt := 43) hx hb dX12_isCell_39 (by decide) ?_
        exact W.zret (v := 1) hx hb hr (by decide) (fun t ht hW => ⟨_, rfl, (by simp [bi, mCell, b_1, b_3, b_5]), ht⟩) (fun q h => absurd h List.not_mem_nil) dX12_isCell_43
      ·
        obtain rfl : r = 0 := b_f hw b_5
        refine lv_if_eq (tgt := 42) hx hb dX12_isCell_35 (by decide) (fun c_7 => ?_) (fun c_7 => absurd (by decide) c_7)
        refine lv_iconst (v := 0) hx hb dX12_isCell_42 (by decide) ?_
        exact W.zret (v := 0) hx hb hr (by decide) (fun t ht hW => ⟨_, rfl, (by simp [bi, mCell, b_1, b_3, b_5]), ht⟩) (fun q h => absurd h List.not_mem_nil) dX12_isCell_43
    ·
      obtain rfl : r = 0 := b_f hw b_3
      refine lv_if_eq (tgt := 42) hx hb dX12_isCell_14 (by decide) (fun c_8 => ?_) (fun c_8 => absurd (by decide) c_8)
      refine lv_iconst (v := 0) hx hb dX12_isCell_42 (by decide) ?_
      exact W.zret (v := 0) hx hb hr (by decide) (fun t ht hW => ⟨_, rfl, (by simp [bi, mCell, b_1, b_3]), ht⟩) (fun q h => absurd h List.not_mem_nil) dX12_isCell_43
  ·
    obtain rfl : r = 0 := b_f hw b_1
    refine lv_if_eq (tgt := 42) hx hb dX12_isCell_4 (by decide) (fun c_9 => ?_) (fun c_9 => absurd (by decide) c_9)
    refine lv_iconst (v := 0) hx hb dX12_isCell_42 (by decide) ?_
    exact W.zret (v := 0) hx hb hr (by decide) (fun t ht hW => ⟨_, rfl, (by simp [bi, mCell, b_1]), ht⟩) (fun q h => absurd h List.not_mem_nil) dX12_isCell_43
set_option maxHeartbeats 4000000 in
set_option maxRecDepth 100000 in
theorem m_isThing (l : Launch) (dC : Nat → ClassId) (dI : Nat → Nat → Nat) (h0 : Nat) (v : Nat → Nat) (cI cZ : ClassId) (u : mS) (p0 : Int32) : Met l yX12_isThing wsX12_isThing ({ frames := 0, cells := 0, slots := 0, locals := 0 }) (va_Pc [.ref h0, .int p0] (PW dC dI (mW h0 v cI cZ u) [(cI, .int), (cZ, .boolean)])) (vp_Si (fun r => r = bi (mThing p0))) 0 0 (fun _ => False) := by
  refine Met.ofW (cc := cX12_isThing) (maxL := 2) (ret := (some .boolean)) (by decide) rfl ?_
  intro p e s m args below meth c s₁ B hml hv
  obtain ⟨rfl, hP, hK, hN⟩ := hv
  have hx := B.exec
  have hb := B.bytes
  have hr := B.returns
  have hts := atoms_spec (ws := wsX12_isThing) B.pre
  have hown : s.vm.findClass RX12 = some m.cls := findClass_of_methodNamed B.named
  have hlocks := B.notSynchronized
  have hl := lv_entry ([.ref h0, .int p0]) (n := 2) (Nat.le_of_ble_eq_true rfl)
  rw [lg_entry_eq]
  generalize (lg_sl ([.ref h0, .int p0]) ++ List.replicate (2 - (lg_sl ([.ref h0, .int p0])).length) Slot.unset).toArray = ls at hl ⊢
  have hl : lv_has ls 2 [(0, .ref h0), (1, .int p0)] := hl
  refine lv_iload_n hx hb dX12_isThing_0 rfl (lv_at hl 1 rfl) ?_
  refine lv_if_lt (tgt := 14) hx hb dX12_isThing_1 (by decide) (fun c_1 => ?_) (fun c_1 => ?_)
  ·
    refine lv_iconst (v := 0) hx hb dX12_isThing_14 (by decide) ?_
    exact W.zret (v := 0) hx hb hr (by decide) (fun t ht hW => ⟨_, rfl, (by simp [bi, mThing, c_1]), ht⟩) (fun q h => absurd h List.not_mem_nil) dX12_isThing_15
  ·
    refine lv_iload_n hx hb dX12_isThing_4 rfl (lv_at hl 1 rfl) ?_
    refine lv_bipush (v := 100) hx hb dX12_isThing_5 (by decide) ?_
    refine lv_icmp_eq (tgt := 14) hx hb dX12_isThing_7 (by decide) (fun c_2 => ?_) (fun c_2 => ?_)
    ·
      refine lv_iconst (v := 0) hx hb dX12_isThing_14 (by decide) ?_
      exact W.zret (v := 0) hx hb hr (by decide) (fun t ht hW => ⟨_, rfl, (by simp [bi, mThing, c_1, c_2]), ht⟩) (fun q h => absurd h List.not_mem_nil) dX12_isThing_15
    ·
      refine lv_iconst (v := 1) hx hb dX12_isThing_10 (by decide) ?_
      refine lv_goto (tgt := 15) hx hb dX12_isThing_11 (by decide) ?_
      exact W.zret (v := 1) hx hb hr (by decide) (fun t ht hW => ⟨_, rfl, (by simp [bi, mThing, c_1, c_2]), ht⟩) (fun q h => absurd h List.not_mem_nil) dX12_isThing_15
set_option maxHeartbeats 4000000 in
set_option maxRecDepth 100000 in
theorem m_isNow (l : Launch) (dC : Nat → ClassId) (dI : Nat → Nat → Nat) (h0 : Nat) (v : Nat → Nat) (cI cZ : ClassId) (u : mS) (p0 : Int32) (hp : bw p0 0 11 = true) : Met l yX12_isNow wsX12_isNow ({ frames := 0, cells := 0, slots := 0, locals := 0 }) (va_Pc [.ref h0, .int p0] (PW dC dI (mW h0 v cI cZ u) [(cI, .int), (cZ, .boolean)])) (vp_Si (fun r => r = bi (mNow u p0))) 0 0 (fun _ => False) := by
  refine Met.ofW (cc := cX12_isNow) (maxL := 2) (ret := (some .boolean)) (by decide) rfl ?_
  intro p e s m args below meth c s₁ B hml hv
  obtain ⟨rfl, hP, hK, hN⟩ := hv
  have hx := B.exec
  have hb := B.bytes
  have hr := B.returns
  have hts := atoms_spec (ws := wsX12_isNow) B.pre
  have hown : s.vm.findClass RX12 = some m.cls := findClass_of_methodNamed B.named
  have hlocks := B.notSynchronized
  have hl := lv_entry ([.ref h0, .int p0]) (n := 2) (Nat.le_of_ble_eq_true rfl)
  rw [lg_entry_eq]
  generalize (lg_sl ([.ref h0, .int p0]) ++ List.replicate (2 - (lg_sl ([.ref h0, .int p0])).length) Slot.unset).toArray = ls at hl ⊢
  have hl : lv_has ls 2 [(0, .ref h0), (1, .int p0)] := hl
  refine lv_aload_n hx hb dX12_isNow_0 rfl (lv_at hl 0 rfl) ?_
  refine va_get (D := (dC, dI)) (ci := 11) (v := .ref (v 40)) (C := RX12) (T := TX12) (N := 52) hx hb hts (by decide +kernel) hown hK hP 0 rfl rfl 40 (by decide) (hts (.fieldLink RX12 116 "PageOneModel" "isPlated" "[Z") (by decide +kernel)) (fun _ h9 => h9) rfl dX12_isNow_1 ?_
  refine lv_iload_n hx hb dX12_isNow_4 rfl (lv_at hl 1 rfl) ?_
  refine va_zald hx hb hK hP 36 1 rfl rfl (vin hp (by decide)) dX12_isNow_5 ?_
  refine lv_if_eq (tgt := 39) hx hb dX12_isNow_6 (by decide) (fun c_1 => ?_) (fun c_1 => ?_)
  ·
    refine lv_iconst (v := 0) hx hb dX12_isNow_39 (by decide) ?_
    exact W.zret (v := 0) hx hb hr (by decide) (fun t ht hW => ⟨_, rfl, (by simp [bi, mNow, c_1]), ht⟩) (fun q h => absurd h List.not_mem_nil) dX12_isNow_40
  ·
    refine lv_aload_n hx hb dX12_isNow_9 rfl (lv_at hl 0 rfl) ?_
    refine va_get (D := (dC, dI)) (ci := 11) (v := .ref (v 41)) (C := RX12) (T := TX12) (N := 52) hx hb hts (by decide +kernel) hown hK hP 0 rfl rfl 41 (by decide) (hts (.fieldLink RX12 119 "PageOneModel" "plateDay" "[I") (by decide +kernel)) (fun _ h9 => h9) rfl dX12_isNow_10 ?_
    refine lv_iload_n hx hb dX12_isNow_13 rfl (lv_at hl 1 rfl) ?_
    refine va_iald hx hb hK hP 37 0 rfl rfl (vin hp (by decide)) dX12_isNow_14 ?_
    refine lv_aload_n hx hb dX12_isNow_15 rfl (lv_at hl 0 rfl) ?_
    refine va_get (D := (dC, dI)) (ci := 11) (v := .int (u.1 38)) (C := RX12) (T := TX12) (N := 52) hx hb hts (by decide +kernel) hown hK hP 0 rfl rfl 38 (by decide) (hts (.fieldLink RX12 206 "PageOneModel" "day" "I") (by decide +kernel)) (fun _ h9 => h9) rfl dX12_isNow_16 ?_
    refine lv_icmp_ne (tgt := 39) hx hb dX12_isNow_19 (by decide) (fun c_2 => ?_) (fun c_2 => ?_)
    ·
      refine lv_iconst (v := 0) hx hb dX12_isNow_39 (by decide) ?_
      exact W.zret (v := 0) hx hb hr (by decide) (fun t ht hW => ⟨_, rfl, (by simp [bi, mNow, c_1, c_2]), ht⟩) (fun q h => absurd h List.not_mem_nil) dX12_isNow_40
    ·
      refine lv_aload_n hx hb dX12_isNow_22 rfl (lv_at hl 0 rfl) ?_
      refine va_get (D := (dC, dI)) (ci := 11) (v := .ref (v 42)) (C := RX12) (T := TX12) (N := 52) hx hb hts (by decide +kernel) hown hK hP 0 rfl rfl 42 (by decide) (hts (.fieldLink RX12 122 "PageOneModel" "plateEdition" "[I") (by decide +kernel)) (fun _ h9 => h9) rfl dX12_isNow_23 ?_
      refine lv_iload_n hx hb dX12_isNow_26 rfl (lv_at hl 1 rfl) ?_
      refine va_iald hx hb hK hP 38 0 rfl rfl (vin hp (by decide)) dX12_isNow_27 ?_
      refine lv_aload_n hx hb dX12_isNow_28 rfl (lv_at hl 0 rfl) ?_
      refine va_get (D := (dC, dI)) (ci := 11) (v := .int (u.1 39)) (C := RX12) (T := TX12) (N := 52) hx hb hts (by decide +kernel) hown hK hP 0 rfl rfl 39 (by decide) (hts (.fieldLink RX12 257 "PageOneModel" "edition" "I") (by decide +kernel)) (fun _ h9 => h9) rfl dX12_isNow_29 ?_
      refine lv_icmp_ne (tgt := 39) hx hb dX12_isNow_32 (by decide) (fun c_3 => ?_) (fun c_3 => ?_)
      ·
        refine lv_iconst (v := 0) hx hb dX12_isNow_39 (by decide) ?_
        exact W.zret (v := 0) hx hb hr (by decide) (fun t ht hW => ⟨_, rfl, (by simp [bi, mNow, c_1, c_2, c_3]), ht⟩) (fun q h => absurd h List.not_mem_nil) dX12_isNow_40
      ·
        refine lv_iconst (v := 1) hx hb dX12_isNow_35 (by decide) ?_
        refine lv_goto (tgt := 40) hx hb dX12_isNow_36 (by decide) ?_
        exact W.zret (v := 1) hx hb hr (by decide) (fun t ht hW => ⟨_, rfl, (by simp [bi, mNow, c_1, c_2, c_3]), ht⟩) (fun q h => absurd h List.not_mem_nil) dX12_isNow_40
set_option maxHeartbeats 4000000 in
set_option maxRecDepth 100000 in
theorem m_forget (l : Launch) (dC : Nat → ClassId) (dI : Nat → Nat → Nat) (h0 : Nat) (v : Nat → Nat) (cI cZ : ClassId) (u : mS) (sz : Nat) : Met l yX12_forget wsX12_forget ({ frames := 0, cells := 0, slots := 0, locals := 0 }) (va_Pc [.ref h0] (fun U => U.heap.size = sz ∧ PW dC dI (mW h0 v cI cZ u) [(cI, .int), (cZ, .boolean)] U ∧ va_D (fun _ => True) (mW h0 v cI cZ u))) (va_Qv (fun u9 : mS => u9 = mForget u) (fun u9 t => va_P (dC, dI) vwCl (mW h0 v cI cZ u9) t.heap ∧ va_D (va_A (mW h0 v cI cZ u) sz) (mW h0 v cI cZ u9)) (va_A (mW h0 v cI cZ u) sz)) 0 0 (va_A (mW h0 v cI cZ u) sz) := by
  refine Met.ofW (cc := cX12_forget) (maxL := 1) (ret := none) (by decide) rfl ?_
  intro p e s m args below meth c s₁ B hml hv
  obtain ⟨rfl, hsz, ⟨hP, hK, hN⟩, hD0⟩ := hv
  have hx := B.exec
  have hb := B.bytes
  have hr := B.returns
  have hts := atoms_spec (ws := wsX12_forget) B.pre
  have hown : s.vm.findClass RX12 = some m.cls := findClass_of_methodNamed B.named
  have hlocks := B.notSynchronized
  subst hsz
  have hD := hD0.self (sz := s.heap.size)
  generalize hAe : va_A (mW h0 v cI cZ u) s.heap.size = A at hD ⊢
  have hA : ∀ q : Nat, s.heap.size ≤ q → A q := fun q h => by rw [← hAe]; exact Or.inr h
  have hS : va_S A s.heap s.heap [] := va_S.rf
  have hl := lv_entry ([.ref h0]) (n := 1) (Nat.le_of_ble_eq_true rfl)
  rw [lg_entry_eq]
  generalize (lg_sl ([.ref h0]) ++ List.replicate (1 - (lg_sl ([.ref h0])).length) Slot.unset).toArray = ls at hl ⊢
  have hl : lv_has ls 1 [(0, .ref h0)] := hl
  refine lv_aload_n hx hb dX12_forget_0 rfl (lv_at hl 0 rfl) ?_
  refine lv_iconst (v := 0) hx hb dX12_forget_1 (by decide) ?_
  refine va_put (D := (dC, dI)) (ci := 11) (v := .int 0) (ty := .int) (C := RX12) (T := TX12) (N := 52) hx hb hts (by decide +kernel) tyX12 tyX12_ok nmX12 hown hK hP hD hS 0 rfl rfl 28 (by decide) (hts (.fieldLink RX12 158 "PageOneModel" "acts" "I") (by decide +kernel)) (fun _ h9 => h9) rfl (by decide +kernel) rfl rfl (Nat.le_of_ble_eq_true rfl) dX12_forget_2 (fun H locs hP hD hS => ?_)
  obtain ⟨u_1, eu_1⟩ : ∃ zz : mS, zz = mset u 28 0 := ⟨_, rfl⟩
  have hP : va_P (dC, dI) vwCl (mW h0 v cI cZ u_1) H := by rw [eu_1]; exact hP
  have hD : va_D A (mW h0 v cI cZ u_1) := by rw [eu_1]; exact hD
  refine lv_aload_n hx hb dX12_forget_5 rfl (lv_at hl 0 rfl) ?_
  refine lv_iconst (v := 0) hx hb dX12_forget_6 (by decide) ?_
  refine va_put (D := (dC, dI)) (ci := 11) (v := .int 0) (ty := .int) (C := RX12) (T := TX12) (N := 52) hx hb hts (by decide +kernel) tyX12 tyX12_ok nmX12 hown hK hP hD hS 0 rfl rfl 36 (by decide) (hts (.fieldLink RX12 168 "PageOneModel" "filled" "I") (by decide +kernel)) (fun _ h9 => h9) rfl (by decide +kernel) rfl rfl (Nat.le_of_ble_eq_true rfl) dX12_forget_7 (fun H locs hP hD hS => ?_)
  obtain ⟨u_2, eu_2⟩ : ∃ zz : mS, zz = mset u_1 36 0 := ⟨_, rfl⟩
  have hP : va_P (dC, dI) vwCl (mW h0 v cI cZ u_2) H := by rw [eu_2]; exact hP
  have hD : va_D A (mW h0 v cI cZ u_2) := by rw [eu_2]; exact hD
  exact W.vret hx hb hr (fun t ht hW => ⟨⟨u_2, rfl, (by subst_vars; rfl), by rw [ht]; exact hP, hD⟩, hS.F ht⟩) hS.2.2 dX12_forget_10
set_option maxHeartbeats 4000000 in
set_option maxRecDepth 100000 in
theorem m_acts (l : Launch) (dC : Nat → ClassId) (dI : Nat → Nat → Nat) (h0 : Nat) (v : Nat → Nat) (cI cZ : ClassId) (u : mS) (p0 p1 p2 p3 p4 p5 p6 : Int32) (ha : bw (u.1 28) 0 299 = true) (sz : Nat) : Met l yX12_acts wsX12_acts ({ frames := 0, cells := 0, slots := 0, locals := 0 }) (va_Pc [.ref h0, .int p0, .int p1, .int p2, .int p3, .int p4, .int p5, .int p6] (fun U => U.heap.size = sz ∧ PW dC dI (mW h0 v cI cZ u) [(cI, .int), (cZ, .boolean)] U ∧ va_D (fun _ => True) (mW h0 v cI cZ u))) (va_Qv (fun u9 : mS => u9 = mActs u p0 p1 p2 p3 p4 p5 p6) (fun u9 t => va_P (dC, dI) vwCl (mW h0 v cI cZ u9) t.heap ∧ va_D (va_A (mW h0 v cI cZ u) sz) (mW h0 v cI cZ u9)) (va_A (mW h0 v cI cZ u) sz)) 0 0 (va_A (mW h0 v cI cZ u) sz) := by
  refine Met.ofW (cc := cX12_acts) (maxL := 8) (ret := none) (by decide) rfl ?_
  intro p e s m args below meth c s₁ B hml hv
  obtain ⟨rfl, hsz, ⟨hP, hK, hN⟩, hD0⟩ := hv
  have hx := B.exec
  have hb := B.bytes
  have hr := B.returns
  have hts := atoms_spec (ws := wsX12_acts) B.pre
  have hown : s.vm.findClass RX12 = some m.cls := findClass_of_methodNamed B.named
  have hlocks := B.notSynchronized
  subst hsz
  have hD := hD0.self (sz := s.heap.size)
  generalize hAe : va_A (mW h0 v cI cZ u) s.heap.size = A at hD ⊢
  have hA : ∀ q : Nat, s.heap.size ≤ q → A q := fun q h => by rw [← hAe]; exact Or.inr h
  have hS : va_S A s.heap s.heap [] := va_S.rf
  have hl := lv_entry ([.ref h0, .int p0, .int p1, .int p2, .int p3, .int p4, .int p5, .int p6]) (n := 8) (Nat.le_of_ble_eq_true rfl)
  rw [lg_entry_eq]
  generalize (lg_sl ([.ref h0, .int p0, .int p1, .int p2, .int p3, .int p4, .int p5, .int p6]) ++ List.replicate (8 - (lg_sl ([.ref h0, .int p0, .int p1, .int p2, .int p3, .int p4, .int p5, .int p6])).length) Slot.unset).toArray = ls at hl ⊢
  have hl : lv_has ls 8 [(0, .ref h0), (1, .int p0), (2, .int p1), (3, .int p2), (4, .int p3), (5, .int p4), (6, .int p5), (7, .int p6)] := hl
  refine lv_aload_n hx hb dX12_acts_0 rfl (lv_at hl 0 rfl) ?_
  refine va_get (D := (dC, dI)) (ci := 11) (v := .ref (v 29)) (C := RX12) (T := TX12) (N := 52) hx hb hts (by decide +kernel) hown hK hP 0 rfl rfl 29 (by decide) (hts (.fieldLink RX12 92 "PageOneModel" "actKind" "[I") (by decide +kernel)) (fun _ h9 => h9) rfl dX12_acts_1 ?_
  refine lv_aload_n hx hb dX12_acts_4 rfl (lv_at hl 0 rfl) ?_
  refine va_get (D := (dC, dI)) (ci := 11) (v := .int (u.1 28)) (C := RX12) (T := TX12) (N := 52) hx hb hts (by decide +kernel) hown hK hP 0 rfl rfl 28 (by decide) (hts (.fieldLink RX12 158 "PageOneModel" "acts" "I") (by decide +kernel)) (fun _ h9 => h9) rfl dX12_acts_5 ?_
  refine lv_iload_n hx hb dX12_acts_8 rfl (lv_at hl 1 rfl) ?_
  refine va_iast hx hb hK hP hD hS 28 0 rfl rfl (vAct ha) dX12_acts_9 (fun H locs hP hD hS => ?_)
  obtain ⟨u_1, eu_1⟩ : ∃ zz : mS, zz = mst u 29 (u.1 28) p0 := ⟨_, rfl⟩
  have hP : va_P (dC, dI) vwCl (mW h0 v cI cZ u_1) H := by rw [eu_1]; exact hP
  have hD : va_D A (mW h0 v cI cZ u_1) := by rw [eu_1]; exact hD
  refine lv_aload_n hx hb dX12_acts_10 rfl (lv_at hl 0 rfl) ?_
  refine va_get (D := (dC, dI)) (ci := 11) (v := .ref (v 30)) (C := RX12) (T := TX12) (N := 52) hx hb hts (by decide +kernel) hown hK hP 0 rfl rfl 30 (by decide) (hts (.fieldLink RX12 95 "PageOneModel" "actA" "[I") (by decide +kernel)) (fun _ h9 => h9) rfl dX12_acts_11 ?_
  refine lv_aload_n hx hb dX12_acts_14 rfl (lv_at hl 0 rfl) ?_
  refine va_get (D := (dC, dI)) (ci := 11) (v := .int (u_1.1 28)) (C := RX12) (T := TX12) (N := 52) hx hb hts (by decide +kernel) hown hK hP 0 rfl rfl 28 (by decide) (hts (.fieldLink RX12 158 "PageOneModel" "acts" "I") (by decide +kernel)) (fun _ h9 => h9) rfl dX12_acts_15 ?_
  refine lv_iload_n hx hb dX12_acts_18 rfl (lv_at hl 2 rfl) ?_
  refine va_iast hx hb hK hP hD hS 29 0 rfl rfl (by subst_vars; exact vAct ha) dX12_acts_19 (fun H locs hP hD hS => ?_)
  obtain ⟨u_2, eu_2⟩ : ∃ zz : mS, zz = mst u_1 30 (u_1.1 28) p1 := ⟨_, rfl⟩
  have hP : va_P (dC, dI) vwCl (mW h0 v cI cZ u_2) H := by rw [eu_2]; exact hP
  have hD : va_D A (mW h0 v cI cZ u_2) := by rw [eu_2]; exact hD
  refine lv_aload_n hx hb dX12_acts_20 rfl (lv_at hl 0 rfl) ?_
  refine va_get (D := (dC, dI)) (ci := 11) (v := .ref (v 31)) (C := RX12) (T := TX12) (N := 52) hx hb hts (by decide +kernel) hown hK hP 0 rfl rfl 31 (by decide) (hts (.fieldLink RX12 98 "PageOneModel" "actB" "[I") (by decide +kernel)) (fun _ h9 => h9) rfl dX12_acts_21 ?_
  refine lv_aload_n hx hb dX12_acts_24 rfl (lv_at hl 0 rfl) ?_
  refine va_get (D := (dC, dI)) (ci := 11) (v := .int (u_2.1 28)) (C := RX12) (T := TX12) (N := 52) hx hb hts (by decide +kernel) hown hK hP 0 rfl rfl 28 (by decide) (hts (.fieldLink RX12 158 "PageOneModel" "acts" "I") (by decide +kernel)) (fun _ h9 => h9) rfl dX12_acts_25 ?_
  refine lv_iload_n hx hb dX12_acts_28 rfl (lv_at hl 3 rfl) ?_
  refine va_iast hx hb hK hP hD hS 30 0 rfl rfl (by subst_vars; exact vAct ha) dX12_acts_29 (fun H locs hP hD hS => ?_)
  obtain ⟨u_3, eu_3⟩ : ∃ zz : mS, zz = mst u_2 31 (u_2.1 28) p2 := ⟨_, rfl⟩
  have hP : va_P (dC, dI) vwCl (mW h0 v cI cZ u_3) H := by rw [eu_3]; exact hP
  have hD : va_D A (mW h0 v cI cZ u_3) := by rw [eu_3]; exact hD
  refine lv_aload_n hx hb dX12_acts_30 rfl (lv_at hl 0 rfl) ?_
  refine va_get (D := (dC, dI)) (ci := 11) (v := .ref (v 32)) (C := RX12) (T := TX12) (N := 52) hx hb hts (by decide +kernel) hown hK hP 0 rfl rfl 32 (by decide) (hts (.fieldLink RX12 101 "PageOneModel" "actC" "[I") (by decide +kernel)) (fun _ h9 => h9) rfl dX12_acts_31 ?_
  refine lv_aload_n hx hb dX12_acts_34 rfl (lv_at hl 0 rfl) ?_
  refine va_get (D := (dC, dI)) (ci := 11) (v := .int (u_3.1 28)) (C := RX12) (T := TX12) (N := 52) hx hb hts (by decide +kernel) hown hK hP 0 rfl rfl 28 (by decide) (hts (.fieldLink RX12 158 "PageOneModel" "acts" "I") (by decide +kernel)) (fun _ h9 => h9) rfl dX12_acts_35 ?_
  refine lv_iload hx hb dX12_acts_38 (lv_at hl 4 rfl) ?_
  refine va_iast hx hb hK hP hD hS 31 0 rfl rfl (by subst_vars; exact vAct ha) dX12_acts_40 (fun H locs hP hD hS => ?_)
  obtain ⟨u_4, eu_4⟩ : ∃ zz : mS, zz = mst u_3 32 (u_3.1 28) p3 := ⟨_, rfl⟩
  have hP : va_P (dC, dI) vwCl (mW h0 v cI cZ u_4) H := by rw [eu_4]; exact hP
  have hD : va_D A (mW h0 v cI cZ u_4) := by rw [eu_4]; exact hD
  refine lv_aload_n hx hb dX12_acts_41 rfl (lv_at hl 0 rfl) ?_
  refine va_get (D := (dC, dI)) (ci := 11) (v := .ref (v 33)) (C := RX12) (T := TX12) (N := 52) hx hb hts (by decide +kernel) hown hK hP 0 rfl rfl 33 (by decide) (hts (.fieldLink RX12 104 "PageOneModel" "actD" "[I") (by decide +kernel)) (fun _ h9 => h9) rfl dX12_acts_42 ?_
  refine lv_aload_n hx hb dX12_acts_45 rfl (lv_at hl 0 rfl) ?_
  refine va_get (D := (dC, dI)) (ci := 11) (v := .int (u_4.1 28)) (C := RX12) (T := TX12) (N := 52) hx hb hts (by decide +kernel) hown hK hP 0 rfl rfl 28 (by decide) (hts (.fieldLink RX12 158 "PageOneModel" "acts" "I") (by decide +kernel)) (fun _ h9 => h9) rfl dX12_acts_46 ?_
  refine lv_iload hx hb dX12_acts_49 (lv_at hl 5 rfl) ?_
  refine va_iast hx hb hK hP hD hS 32 0 rfl rfl (by subst_vars; exact vAct ha) dX12_acts_51 (fun H locs hP hD hS => ?_)
  obtain ⟨u_5, eu_5⟩ : ∃ zz : mS, zz = mst u_4 33 (u_4.1 28) p4 := ⟨_, rfl⟩
  have hP : va_P (dC, dI) vwCl (mW h0 v cI cZ u_5) H := by rw [eu_5]; exact hP
  have hD : va_D A (mW h0 v cI cZ u_5) := by rw [eu_5]; exact hD
  refine lv_aload_n hx hb dX12_acts_52 rfl (lv_at hl 0 rfl) ?_
  refine va_get (D := (dC, dI)) (ci := 11) (v := .ref (v 34)) (C := RX12) (T := TX12) (N := 52) hx hb hts (by decide +kernel) hown hK hP 0 rfl rfl 34 (by decide) (hts (.fieldLink RX12 107 "PageOneModel" "actE" "[I") (by decide +kernel)) (fun _ h9 => h9) rfl dX12_acts_53 ?_
  refine lv_aload_n hx hb dX12_acts_56 rfl (lv_at hl 0 rfl) ?_
  refine va_get (D := (dC, dI)) (ci := 11) (v := .int (u_5.1 28)) (C := RX12) (T := TX12) (N := 52) hx hb hts (by decide +kernel) hown hK hP 0 rfl rfl 28 (by decide) (hts (.fieldLink RX12 158 "PageOneModel" "acts" "I") (by decide +kernel)) (fun _ h9 => h9) rfl dX12_acts_57 ?_
  refine lv_iload hx hb dX12_acts_60 (lv_at hl 6 rfl) ?_
  refine va_iast hx hb hK hP hD hS 33 0 rfl rfl (by subst_vars; exact vAct ha) dX12_acts_62 (fun H locs hP hD hS => ?_)
  obtain ⟨u_6, eu_6⟩ : ∃ zz : mS, zz = mst u_5 34 (u_5.1 28) p5 := ⟨_, rfl⟩
  have hP : va_P (dC, dI) vwCl (mW h0 v cI cZ u_6) H := by rw [eu_6]; exact hP
  have hD : va_D A (mW h0 v cI cZ u_6) := by rw [eu_6]; exact hD
  refine lv_aload_n hx hb dX12_acts_63 rfl (lv_at hl 0 rfl) ?_
  refine va_get (D := (dC, dI)) (ci := 11) (v := .ref (v 35)) (C := RX12) (T := TX12) (N := 52) hx hb hts (by decide +kernel) hown hK hP 0 rfl rfl 35 (by decide) (hts (.fieldLink RX12 110 "PageOneModel" "actF" "[I") (by decide +kernel)) (fun _ h9 => h9) rfl dX12_acts_64 ?_
  refine lv_aload_n hx hb dX12_acts_67 rfl (lv_at hl 0 rfl) ?_
  refine va_get (D := (dC, dI)) (ci := 11) (v := .int (u_6.1 28)) (C := RX12) (T := TX12) (N := 52) hx hb hts (by decide +kernel) hown hK hP 0 rfl rfl 28 (by decide) (hts (.fieldLink RX12 158 "PageOneModel" "acts" "I") (by decide +kernel)) (fun _ h9 => h9) rfl dX12_acts_68 ?_
  refine lv_iload hx hb dX12_acts_71 (lv_at hl 7 rfl) ?_
  refine va_iast hx hb hK hP hD hS 34 0 rfl rfl (by subst_vars; exact vAct ha) dX12_acts_73 (fun H locs hP hD hS => ?_)
  obtain ⟨u_7, eu_7⟩ : ∃ zz : mS, zz = mst u_6 35 (u_6.1 28) p6 := ⟨_, rfl⟩
  have hP : va_P (dC, dI) vwCl (mW h0 v cI cZ u_7) H := by rw [eu_7]; exact hP
  have hD : va_D A (mW h0 v cI cZ u_7) := by rw [eu_7]; exact hD
  refine lv_aload_n hx hb dX12_acts_74 rfl (lv_at hl 0 rfl) ?_
  refine lv_dup hx hb dX12_acts_75 rfl ?_
  refine va_get (D := (dC, dI)) (ci := 11) (v := .int (u_7.1 28)) (C := RX12) (T := TX12) (N := 52) hx hb hts (by decide +kernel) hown hK hP 0 rfl rfl 28 (by decide) (hts (.fieldLink RX12 158 "PageOneModel" "acts" "I") (by decide +kernel)) (fun _ h9 => h9) rfl dX12_acts_76 ?_
  refine lv_iconst (v := 1) hx hb dX12_acts_79 (by decide) ?_
  refine lv_iadd hx hb dX12_acts_80 ?_
  refine va_put (D := (dC, dI)) (ci := 11) (v := .int ((u_7.1 28) + 1)) (ty := .int) (C := RX12) (T := TX12) (N := 52) hx hb hts (by decide +kernel) tyX12 tyX12_ok nmX12 hown hK hP hD hS 0 rfl rfl 28 (by decide) (hts (.fieldLink RX12 158 "PageOneModel" "acts" "I") (by decide +kernel)) (fun _ h9 => h9) rfl (by decide +kernel) rfl rfl (Nat.le_of_ble_eq_true rfl) dX12_acts_81 (fun H locs hP hD hS => ?_)
  obtain ⟨u_8, eu_8⟩ : ∃ zz : mS, zz = mset u_7 28 ((u_7.1 28) + 1) := ⟨_, rfl⟩
  have hP : va_P (dC, dI) vwCl (mW h0 v cI cZ u_8) H := by rw [eu_8]; exact hP
  have hD : va_D A (mW h0 v cI cZ u_8) := by rw [eu_8]; exact hD
  exact W.vret hx hb hr (fun t ht hW => ⟨⟨u_8, rfl, (by subst_vars; rfl), by rw [ht]; exact hP, hD⟩, hS.F ht⟩) hS.2.2 dX12_acts_84
set_option maxHeartbeats 4000000 in
set_option maxRecDepth 100000 in
theorem m_stand (l : Launch) (dC : Nat → ClassId) (dI : Nat → Nat → Nat) (h0 : Nat) (v : Nat → Nat) (cI cZ : ClassId) (u : mS) (p0 : Int32) (P X Y D N : Nat) (hPP : P < 12) (hXW : X + D ≤ 8) (hYN : Y + N ≤ 60) (hi : bw p0 0 79 = true) (hq : bw (u.2 22 p0.toNatClampNeg) 0 5 = true) (sz : Nat) : Met l yX12_stand wsX12_stand ({ frames := 2, cells := 0, slots := 0, locals := 50 }) (va_Pc [.ref h0, .int p0, .int (nI P), .int (nI X), .int (nI Y), .int (nI D), .int (nI N)] (fun U => U.heap.size = sz ∧ PW dC dI (mW h0 v cI cZ u) [(cI, .int), (cZ, .boolean)] U ∧ va_D (fun _ => True) (mW h0 v cI cZ u))) (va_Qv (fun u9 : mS => u9 = mStand u p0 P X Y D N) (fun u9 t => va_P (dC, dI) vwCl (mW h0 v cI cZ u9) t.heap ∧ va_D (va_A (mW h0 v cI cZ u) sz) (mW h0 v cI cZ u9)) (va_A (mW h0 v cI cZ u) sz)) 0 0 (va_A (mW h0 v cI cZ u) sz) := by
  refine Met.ofW (cc := cX12_stand) (maxL := 8) (ret := none) (by decide) rfl ?_
  intro p e s m args below meth c s₁ B hml hv
  obtain ⟨rfl, hsz, ⟨hP, hK, hN⟩, hD0⟩ := hv
  have hx := B.exec
  have hb := B.bytes
  have hr := B.returns
  have hts := atoms_spec (ws := wsX12_stand) B.pre
  have hown : s.vm.findClass RX12 = some m.cls := findClass_of_methodNamed B.named
  have hlocks := B.notSynchronized
  subst hsz
  have hD := hD0.self (sz := s.heap.size)
  generalize hAe : va_A (mW h0 v cI cZ u) s.heap.size = A at hD ⊢
  have hA : ∀ q : Nat, s.heap.size ≤ q → A q := fun q h => by rw [← hAe]; exact Or.inr h
  have hS : va_S A s.heap s.heap [] := va_S.rf
  have hl := lv_entry ([.ref h0, .int p0, .int (nI P), .int (nI X), .int (nI Y), .int (nI D), .int (nI N)]) (n := 8) (Nat.le_of_ble_eq_true rfl)
  rw [lg_entry_eq]
  generalize (lg_sl ([.ref h0, .int p0, .int (nI P), .int (nI X), .int (nI Y), .int (nI D), .int (nI N)]) ++ List.replicate (8 - (lg_sl ([.ref h0, .int p0, .int (nI P), .int (nI X), .int (nI Y), .int (nI D), .int (nI N)])).length) Slot.unset).toArray = ls at hl ⊢
  have hl : lv_has ls 8 [(0, .ref h0), (1, .int p0), (2, .int (nI P)), (3, .int (nI X)), (4, .int (nI Y)), (5, .int (nI D)), (6, .int (nI N))] := hl
  refine lv_bipush (v := 6) hx hb dX12_stand_0 (by decide) ?_
  refine lv_iload_n hx hb dX12_stand_2 rfl (lv_at hl 1 rfl) ?_
  refine lv_imul hx hb dX12_stand_3 ?_
  refine lv_aload_n hx hb dX12_stand_4 rfl (lv_at hl 0 rfl) ?_
  refine va_get (D := (dC, dI)) (ci := 11) (v := .ref (v 22)) (C := RX12) (T := TX12) (N := 52) hx hb hts (by decide +kernel) hown hK hP 0 rfl rfl 22 (by decide) (hts (.fieldLink RX12 74 "PageOneModel" "pieces" "[I") (by decide +kernel)) (fun _ h9 => h9) rfl dX12_stand_5 ?_
  refine lv_iload_n hx hb dX12_stand_8 rfl (lv_at hl 1 rfl) ?_
  refine va_iald hx hb hK hP 22 0 rfl rfl (vin hi (by decide)) dX12_stand_9 ?_
  refine lv_iadd hx hb dX12_stand_10 ?_
  refine lv_topi (fun x_1 ex_1 => ?_)
  refine lv_istore (lv' := [(7, .int x_1), (0, .ref h0), (1, .int p0), (2, .int (nI P)), (3, .int (nI X)), (4, .int (nI Y)), (5, .int (nI D)), (6, .int (nI N))]) hx hb dX12_stand_11 hl (by decide) rfl (fun ls hl => ?_)
  refine lv_aload_n hx hb dX12_stand_13 rfl (lv_at hl 1 rfl) ?_
  refine va_get (D := (dC, dI)) (ci := 11) (v := .ref (v 23)) (C := RX12) (T := TX12) (N := 52) hx hb hts (by decide +kernel) hown hK hP 0 rfl rfl 23 (by decide) (hts (.fieldLink RX12 77 "PageOneModel" "pPage" "[I") (by decide +kernel)) (fun _ h9 => h9) rfl dX12_stand_14 ?_
  refine lv_iload hx hb dX12_stand_17 (lv_at hl 0 rfl) ?_
  refine lv_iload_n hx hb dX12_stand_19 rfl (lv_at hl 3 rfl) ?_
  refine va_iast hx hb hK hP hD hS 23 0 rfl rfl (v6a hi hq ex_1) dX12_stand_20 (fun H locs hP hD hS => ?_)
  obtain ⟨u_2, eu_2⟩ : ∃ zz : mS, zz = mst u 23 x_1 (nI P) := ⟨_, rfl⟩
  have hP : va_P (dC, dI) vwCl (mW h0 v cI cZ u_2) H := by rw [eu_2]; exact hP
  have hD : va_D A (mW h0 v cI cZ u_2) := by rw [eu_2]; exact hD
  refine lv_aload_n hx hb dX12_stand_21 rfl (lv_at hl 1 rfl) ?_
  refine va_get (D := (dC, dI)) (ci := 11) (v := .ref (v 24)) (C := RX12) (T := TX12) (N := 52) hx hb hts (by decide +kernel) hown hK hP 0 rfl rfl 24 (by decide) (hts (.fieldLink RX12 80 "PageOneModel" "pColumn" "[I") (by decide +kernel)) (fun _ h9 => h9) rfl dX12_stand_22 ?_
  refine lv_iload hx hb dX12_stand_25 (lv_at hl 0 rfl) ?_
  refine lv_iload_n hx hb dX12_stand_27 rfl (lv_at hl 4 rfl) ?_
  refine va_iast hx hb hK hP hD hS 24 0 rfl rfl (v6a hi hq ex_1) dX12_stand_28 (fun H locs hP hD hS => ?_)
  obtain ⟨u_3, eu_3⟩ : ∃ zz : mS, zz = mst u_2 24 x_1 (nI X) := ⟨_, rfl⟩
  have hP : va_P (dC, dI) vwCl (mW h0 v cI cZ u_3) H := by rw [eu_3]; exact hP
  have hD : va_D A (mW h0 v cI cZ u_3) := by rw [eu_3]; exact hD
  refine lv_aload_n hx hb dX12_stand_29 rfl (lv_at hl 1 rfl) ?_
  refine va_get (D := (dC, dI)) (ci := 11) (v := .ref (v 25)) (C := RX12) (T := TX12) (N := 52) hx hb hts (by decide +kernel) hown hK hP 0 rfl rfl 25 (by decide) (hts (.fieldLink RX12 83 "PageOneModel" "pLine" "[I") (by decide +kernel)) (fun _ h9 => h9) rfl dX12_stand_30 ?_
  refine lv_iload hx hb dX12_stand_33 (lv_at hl 0 rfl) ?_
  refine lv_iload hx hb dX12_stand_35 (lv_at hl 5 rfl) ?_
  refine va_iast hx hb hK hP hD hS 25 0 rfl rfl (v6a hi hq ex_1) dX12_stand_37 (fun H locs hP hD hS => ?_)
  obtain ⟨u_4, eu_4⟩ : ∃ zz : mS, zz = mst u_3 25 x_1 (nI Y) := ⟨_, rfl⟩
  have hP : va_P (dC, dI) vwCl (mW h0 v cI cZ u_4) H := by rw [eu_4]; exact hP
  have hD : va_D A (mW h0 v cI cZ u_4) := by rw [eu_4]; exact hD
  refine lv_aload_n hx hb dX12_stand_38 rfl (lv_at hl 1 rfl) ?_
  refine va_get (D := (dC, dI)) (ci := 11) (v := .ref (v 26)) (C := RX12) (T := TX12) (N := 52) hx hb hts (by decide +kernel) hown hK hP 0 rfl rfl 26 (by decide) (hts (.fieldLink RX12 86 "PageOneModel" "pWide" "[I") (by decide +kernel)) (fun _ h9 => h9) rfl dX12_stand_39 ?_
  refine lv_iload hx hb dX12_stand_42 (lv_at hl 0 rfl) ?_
  refine lv_iload hx hb dX12_stand_44 (lv_at hl 6 rfl) ?_
  refine va_iast hx hb hK hP hD hS 26 0 rfl rfl (v6a hi hq ex_1) dX12_stand_46 (fun H locs hP hD hS => ?_)
  obtain ⟨u_5, eu_5⟩ : ∃ zz : mS, zz = mst u_4 26 x_1 (nI D) := ⟨_, rfl⟩
  have hP : va_P (dC, dI) vwCl (mW h0 v cI cZ u_5) H := by rw [eu_5]; exact hP
  have hD : va_D A (mW h0 v cI cZ u_5) := by rw [eu_5]; exact hD
  refine lv_aload_n hx hb dX12_stand_47 rfl (lv_at hl 1 rfl) ?_
  refine va_get (D := (dC, dI)) (ci := 11) (v := .ref (v 27)) (C := RX12) (T := TX12) (N := 52) hx hb hts (by decide +kernel) hown hK hP 0 rfl rfl 27 (by decide) (hts (.fieldLink RX12 89 "PageOneModel" "pHigh" "[I") (by decide +kernel)) (fun _ h9 => h9) rfl dX12_stand_48 ?_
  refine lv_iload hx hb dX12_stand_51 (lv_at hl 0 rfl) ?_
  refine lv_iload hx hb dX12_stand_53 (lv_at hl 7 rfl) ?_
  refine va_iast hx hb hK hP hD hS 27 0 rfl rfl (v6a hi hq ex_1) dX12_stand_55 (fun H locs hP hD hS => ?_)
  obtain ⟨u_6, eu_6⟩ : ∃ zz : mS, zz = mst u_5 27 x_1 (nI N) := ⟨_, rfl⟩
  have hP : va_P (dC, dI) vwCl (mW h0 v cI cZ u_6) H := by rw [eu_6]; exact hP
  have hD : va_D A (mW h0 v cI cZ u_6) := by rw [eu_6]; exact hD
  refine lv_aload_n hx hb dX12_stand_56 rfl (lv_at hl 1 rfl) ?_
  refine va_get (D := (dC, dI)) (ci := 11) (v := .ref (v 22)) (C := RX12) (T := TX12) (N := 52) hx hb hts (by decide +kernel) hown hK hP 0 rfl rfl 22 (by decide) (hts (.fieldLink RX12 74 "PageOneModel" "pieces" "[I") (by decide +kernel)) (fun _ h9 => h9) rfl dX12_stand_57 ?_
  refine lv_iload_n hx hb dX12_stand_60 rfl (lv_at hl 2 rfl) ?_
  refine lv_dup2_11 hx hb dX12_stand_61 rfl rfl ?_
  refine va_iald hx hb hK hP 22 0 rfl rfl (vin hi (by decide)) dX12_stand_62 ?_
  refine lv_iconst (v := 1) hx hb dX12_stand_63 (by decide) ?_
  refine lv_iadd hx hb dX12_stand_64 ?_
  refine va_iast hx hb hK hP hD hS 22 0 rfl rfl (vin hi (by decide)) dX12_stand_65 (fun H locs hP hD hS => ?_)
  obtain ⟨u_7, eu_7⟩ : ∃ zz : mS, zz = mst u_6 22 p0 ((u_6.2 22 (p0 : Int32).toNatClampNeg) + 1) := ⟨_, rfl⟩
  have hP : va_P (dC, dI) vwCl (mW h0 v cI cZ u_7) H := by rw [eu_7]; exact hP
  have hD : va_D A (mW h0 v cI cZ u_7) := by rw [eu_7]; exact hD
  refine lv_aload_n hx hb dX12_stand_66 rfl (lv_at hl 1 rfl) ?_
  refine lv_iload_n hx hb dX12_stand_67 rfl (lv_at hl 3 rfl) ?_
  refine lv_iload_n hx hb dX12_stand_68 rfl (lv_at hl 4 rfl) ?_
  refine lv_iload hx hb dX12_stand_69 (lv_at hl 5 rfl) ?_
  refine lv_iload hx hb dX12_stand_71 (lv_at hl 6 rfl) ?_
  refine lv_iload hx hb dX12_stand_73 (lv_at hl 7 rfl) ?_
  refine lv_iload_n hx hb dX12_stand_75 rfl (lv_at hl 2 rfl) ?_
  have hFc := fr_all hD hS hA
  refine va_callv (va_runV (As := [.int (nI P), .int (nI X), .int (nI Y), .int (nI D), .int (nI N), .int p0]) (rest := []) ⟨hx, hb, hml, hown, hts⟩ (m_sets l dC dI h0 v cI cZ u_7 P X Y D N p0 hPP hXW hYN H.size) (cwV 6 hts gX12_stand_X12_sets rfl rfl rfl (by decide +kernel) ⟨Nat.le_of_ble_eq_true rfl, Nat.le_of_ble_eq_true rfl⟩) ⟨gw_fb, va_recv hK hP (ci := 11) (q0 := 0) rfl rfl, fun U hU hW => ⟨rfl, by rw [hU], pw_to hU hW hP hK hN, hD.weaken (fun _ _ _ _ => trivial)⟩⟩ rfl rfl hl.1 rfl (lv_room (Nat.le_of_ble_eq_true rfl)) dX12_stand_76 ⟨Nat.le_of_ble_eq_true rfl, Nat.le_of_ble_eq_true rfl⟩) hS (fun q _ h => hFc q h) hFc (fun u_8 t H1 locs ht hvm hw hB hz1 hk1 hS => ?_)
  obtain ⟨hP, hD1⟩ := hB
  rw [ht] at hP
  have hD := hD1.weaken (fun _ q _ h => hFc q.1 h)
  generalize H1 = H at hP hS ⊢
  have eu_8 := hw
  exact W.vret hx hb hr (fun t ht hW => ⟨⟨u_8, rfl, (by subst_vars; rfl), by rw [ht]; exact hP, hD⟩, hS.F ht⟩) hS.2.2 dX12_stand_79
set_option maxHeartbeats 4000000 in
set_option maxRecDepth 100000 in
theorem m_unstand (l : Launch) (dC : Nat → ClassId) (dI : Nat → Nat → Nat) (h0 : Nat) (v : Nat → Nat) (cI cZ : ClassId) (u : mS) (p0 : Int32) (P X Y D N : Nat) (hPP : P < 12) (hXW : X + D ≤ 8) (hYN : Y + N ≤ 60) (hi : bw p0 0 79 = true) (hq : bw (u.2 22 p0.toNatClampNeg - 1) 0 5 = true) (e23 : u.2 23 (6 * p0 + (u.2 22 p0.toNatClampNeg - 1)).toNatClampNeg = nI P) (e24 : u.2 24 (6 * p0 + (u.2 22 p0.toNatClampNeg - 1)).toNatClampNeg = nI X) (e25 : u.2 25 (6 * p0 + (u.2 22 p0.toNatClampNeg - 1)).toNatClampNeg = nI Y) (e26 : u.2 26 (6 * p0 + (u.2 22 p0.toNatClampNeg - 1)).toNatClampNeg = nI D) (e27 : u.2 27 (6 * p0 + (u.2 22 p0.toNatClampNeg - 1)).toNatClampNeg = nI N) (sz : Nat) : Met l yX12_unstand wsX12_unstand ({ frames := 2, cells := 0, slots := 0, locals := 50 }) (va_Pc [.ref h0, .int p0] (fun U => U.heap.size = sz ∧ PW dC dI (mW h0 v cI cZ u) [(cI, .int), (cZ, .boolean)] U ∧ va_D (fun _ => True) (mW h0 v cI cZ u))) (va_Qv (fun u9 : mS => u9 = mUnstand u p0 P X Y D N) (fun u9 t => va_P (dC, dI) vwCl (mW h0 v cI cZ u9) t.heap ∧ va_D (va_A (mW h0 v cI cZ u) sz) (mW h0 v cI cZ u9)) (va_A (mW h0 v cI cZ u) sz)) 0 0 (va_A (mW h0 v cI cZ u) sz) := by
  refine Met.ofW (cc := cX12_unstand) (maxL := 3) (ret := none) (by decide) rfl ?_
  intro p e s m args below meth c s₁ B hml hv
  obtain ⟨rfl, hsz, ⟨hP, hK, hN⟩, hD0⟩ := hv
  have hx := B.exec
  have hb := B.bytes
  have hr := B.returns
  have hts := atoms_spec (ws := wsX12_unstand) B.pre
  have hown : s.vm.findClass RX12 = some m.cls := findClass_of_methodNamed B.named
  have hlocks := B.notSynchronized
  subst hsz
  have hD := hD0.self (sz := s.heap.size)
  generalize hAe : va_A (mW h0 v cI cZ u) s.heap.size = A at hD ⊢
  have hA : ∀ q : Nat, s.heap.size ≤ q → A q := fun q h => by rw [← hAe]; exact Or.inr h
  have hS : va_S A s.heap s.heap [] := va_S.rf
  have hl := lv_entry ([.ref h0, .int p0]) (n := 3) (Nat.le_of_ble_eq_true rfl)
  rw [lg_entry_eq]
  generalize (lg_sl ([.ref h0, .int p0]) ++ List.replicate (3 - (lg_sl ([.ref h0, .int p0])).length) Slot.unset).toArray = ls at hl ⊢
  have hl : lv_has ls 3 [(0, .ref h0), (1, .int p0)] := hl
  refine lv_aload_n hx hb dX12_unstand_0 rfl (lv_at hl 0 rfl) ?_
  refine va_get (D := (dC, dI)) (ci := 11) (v := .ref (v 22)) (C := RX12) (T := TX12) (N := 52) hx hb hts (by decide +kernel) hown hK hP 0 rfl rfl 22 (by decide) (hts (.fieldLink RX12 74 "PageOneModel" "pieces" "[I") (by decide +kernel)) (fun _ h9 => h9) rfl dX12_unstand_1 ?_
  refine lv_iload_n hx hb dX12_unstand_4 rfl (lv_at hl 1 rfl) ?_
  refine lv_dup2_11 hx hb dX12_unstand_5 rfl rfl ?_
  refine va_iald hx hb hK hP 22 0 rfl rfl (vin hi (by decide)) dX12_unstand_6 ?_
  refine lv_iconst (v := 1) hx hb dX12_unstand_7 (by decide) ?_
  refine lv_isub hx hb dX12_unstand_8 ?_
  refine va_iast hx hb hK hP hD hS 22 0 rfl rfl (vin hi (by decide)) dX12_unstand_9 (fun H locs hP hD hS => ?_)
  obtain ⟨u_1, eu_1⟩ : ∃ zz : mS, zz = mst u 22 p0 ((u.2 22 (p0 : Int32).toNatClampNeg) - 1) := ⟨_, rfl⟩
  have hP : va_P (dC, dI) vwCl (mW h0 v cI cZ u_1) H := by rw [eu_1]; exact hP
  have hD : va_D A (mW h0 v cI cZ u_1) := by rw [eu_1]; exact hD
  refine lv_bipush (v := 6) hx hb dX12_unstand_10 (by decide) ?_
  refine lv_iload_n hx hb dX12_unstand_12 rfl (lv_at hl 1 rfl) ?_
  refine lv_imul hx hb dX12_unstand_13 ?_
  refine lv_aload_n hx hb dX12_unstand_14 rfl (lv_at hl 0 rfl) ?_
  refine va_get (D := (dC, dI)) (ci := 11) (v := .ref (v 22)) (C := RX12) (T := TX12) (N := 52) hx hb hts (by decide +kernel) hown hK hP 0 rfl rfl 22 (by decide) (hts (.fieldLink RX12 74 "PageOneModel" "pieces" "[I") (by decide +kernel)) (fun _ h9 => h9) rfl dX12_unstand_15 ?_
  refine lv_iload_n hx hb dX12_unstand_18 rfl (lv_at hl 1 rfl) ?_
  refine va_iald hx hb hK hP 22 0 rfl rfl (vin hi (by decide)) dX12_unstand_19 ?_
  refine lv_iadd hx hb dX12_unstand_20 ?_
  refine lv_topi (fun x_2 ex_2 => ?_)
  refine lv_istore_n (lv' := [(2, .int x_2), (0, .ref h0), (1, .int p0)]) hx hb dX12_unstand_21 rfl hl (by decide) rfl (fun ls hl => ?_)
  have ex9 : x_2 = 6 * p0 + (u.2 22 p0.toNatClampNeg - 1) := by rw [ex_2, eu_1, mst_same]
  refine lv_aload_n hx hb dX12_unstand_22 rfl (lv_at hl 1 rfl) ?_
  refine lv_aload_n hx hb dX12_unstand_23 rfl (lv_at hl 1 rfl) ?_
  refine va_get (D := (dC, dI)) (ci := 11) (v := .ref (v 23)) (C := RX12) (T := TX12) (N := 52) hx hb hts (by decide +kernel) hown hK hP 0 rfl rfl 23 (by decide) (hts (.fieldLink RX12 77 "PageOneModel" "pPage" "[I") (by decide +kernel)) (fun _ h9 => h9) rfl dX12_unstand_24 ?_
  refine lv_iload_n hx hb dX12_unstand_27 rfl (lv_at hl 0 rfl) ?_
  refine va_iald hx hb hK hP 23 0 rfl rfl (v6a hi hq ex9) dX12_unstand_28 ?_
  refine lv_topi (fun y_3 ey_3 => ?_)
  obtain rfl : y_3 = nI P := by rw [ey_3, eu_1, mst_other (by decide), ex9, e23]
  refine lv_aload_n hx hb dX12_unstand_29 rfl (lv_at hl 1 rfl) ?_
  refine va_get (D := (dC, dI)) (ci := 11) (v := .ref (v 24)) (C := RX12) (T := TX12) (N := 52) hx hb hts (by decide +kernel) hown hK hP 0 rfl rfl 24 (by decide) (hts (.fieldLink RX12 80 "PageOneModel" "pColumn" "[I") (by decide +kernel)) (fun _ h9 => h9) rfl dX12_unstand_30 ?_
  refine lv_iload_n hx hb dX12_unstand_33 rfl (lv_at hl 0 rfl) ?_
  refine va_iald hx hb hK hP 24 0 rfl rfl (v6a hi hq ex9) dX12_unstand_34 ?_
  refine lv_topi (fun y_4 ey_4 => ?_)
  obtain rfl : y_4 = nI X := by rw [ey_4, eu_1, mst_other (by decide), ex9, e24]
  refine lv_aload_n hx hb dX12_unstand_35 rfl (lv_at hl 1 rfl) ?_
  refine va_get (D := (dC, dI)) (ci := 11) (v := .ref (v 25)) (C := RX12) (T := TX12) (N := 52) hx hb hts (by decide +kernel) hown hK hP 0 rfl rfl 25 (by decide) (hts (.fieldLink RX12 83 "PageOneModel" "pLine" "[I") (by decide +kernel)) (fun _ h9 => h9) rfl dX12_unstand_36 ?_
  refine lv_iload_n hx hb dX12_unstand_39 rfl (lv_at hl 0 rfl) ?_
  refine va_iald hx hb hK hP 25 0 rfl rfl (v6a hi hq ex9) dX12_unstand_40 ?_
  refine lv_topi (fun y_5 ey_5 => ?_)
  obtain rfl : y_5 = nI Y := by rw [ey_5, eu_1, mst_other (by decide), ex9, e25]
  refine lv_aload_n hx hb dX12_unstand_41 rfl (lv_at hl 1 rfl) ?_
  refine va_get (D := (dC, dI)) (ci := 11) (v := .ref (v 26)) (C := RX12) (T := TX12) (N := 52) hx hb hts (by decide +kernel) hown hK hP 0 rfl rfl 26 (by decide) (hts (.fieldLink RX12 86 "PageOneModel" "pWide" "[I") (by decide +kernel)) (fun _ h9 => h9) rfl dX12_unstand_42 ?_
  refine lv_iload_n hx hb dX12_unstand_45 rfl (lv_at hl 0 rfl) ?_
  refine va_iald hx hb hK hP 26 0 rfl rfl (v6a hi hq ex9) dX12_unstand_46 ?_
  refine lv_topi (fun y_6 ey_6 => ?_)
  obtain rfl : y_6 = nI D := by rw [ey_6, eu_1, mst_other (by decide), ex9, e26]
  refine lv_aload_n hx hb dX12_unstand_47 rfl (lv_at hl 1 rfl) ?_
  refine va_get (D := (dC, dI)) (ci := 11) (v := .ref (v 27)) (C := RX12) (T := TX12) (N := 52) hx hb hts (by decide +kernel) hown hK hP 0 rfl rfl 27 (by decide) (hts (.fieldLink RX12 89 "PageOneModel" "pHigh" "[I") (by decide +kernel)) (fun _ h9 => h9) rfl dX12_unstand_48 ?_
  refine lv_iload_n hx hb dX12_unstand_51 rfl (lv_at hl 0 rfl) ?_
  refine va_iald hx hb hK hP 27 0 rfl rfl (v6a hi hq ex9) dX12_unstand_52 ?_
  refine lv_topi (fun y_7 ey_7 => ?_)
  obtain rfl : y_7 = nI N := by rw [ey_7, eu_1, mst_other (by decide), ex9, e27]
  refine lv_bipush (v := (-2)) hx hb dX12_unstand_53 (by decide) ?_
  have hFc := fr_all hD hS hA
  refine va_callv (va_runV (As := [.int (nI P), .int (nI X), .int (nI Y), .int (nI D), .int (nI N), .int (-2)]) (rest := []) ⟨hx, hb, hml, hown, hts⟩ (m_sets l dC dI h0 v cI cZ u_1 P X Y D N (-2) hPP hXW hYN H.size) (cwV 6 hts gX12_unstand_X12_sets rfl rfl rfl (by decide +kernel) ⟨Nat.le_of_ble_eq_true rfl, Nat.le_of_ble_eq_true rfl⟩) ⟨gw_fb, va_recv hK hP (ci := 11) (q0 := 0) rfl rfl, fun U hU hW => ⟨rfl, by rw [hU], pw_to hU hW hP hK hN, hD.weaken (fun _ _ _ _ => trivial)⟩⟩ rfl rfl hl.1 rfl (lv_room (Nat.le_of_ble_eq_true rfl)) dX12_unstand_55 ⟨Nat.le_of_ble_eq_true rfl, Nat.le_of_ble_eq_true rfl⟩) hS (fun q _ h => hFc q h) hFc (fun u_8 t H1 locs ht hvm hw hB hz1 hk1 hS => ?_)
  obtain ⟨hP, hD1⟩ := hB
  rw [ht] at hP
  have hD := hD1.weaken (fun _ q _ h => hFc q.1 h)
  generalize H1 = H at hP hS ⊢
  have eu_8 := hw
  exact W.vret hx hb hr (fun t ht hW => ⟨⟨u_8, rfl, (by subst_vars; rfl), by rw [ht]; exact hP, hD⟩, hS.F ht⟩) hS.2.2 dX12_unstand_58
theorem vCell {u : mS} (hln : ∀ j, j < 96 → bw (u.2 0 j) 0 60 = true) {p c l : Int32} (h : mCell u p c l = true) : vp_in (480 * p + 60 * c + l) 5760 := by
  unfold mCell at h
  obtain ⟨h1, h3⟩ := band h
  obtain ⟨h1, h2⟩ := band h1
  have h60 : (60 : Int32).toInt = 60 := rfl
  have h480 : (480 : Int32).toInt = 480 := rfl
  have h11 : (11 : Int32).toInt = 11 := rfl
  have h7 : (7 : Int32).toInt = 7 := rfl
  have hl := bw_iff.mp (hln _ (vlt (vin8 h1 h2)))
  have g1 := bw_iff.mp h1
  have g2 := bw_iff.mp h2
  have g3 := bw_iff.mp h3
  rw [i0] at g1 g2 g3 hl
  rw [h11] at g1
  rw [h7] at g2
  rw [h60] at hl
  rw [subI (by rw [i1]; omega) (by rw [i1]; omega), i1] at g3
  have e1 : (480 * p).toInt = 480 * p.toInt := by rw [mulI (by rw [h480]; omega) (by rw [h480]; omega), h480]
  have e2 : (60 * c).toInt = 60 * c.toInt := by rw [mulI (by rw [h60]; omega) (by rw [h60]; omega), h60]
  have e3 : (480 * p + 60 * c).toInt = 480 * p.toInt + 60 * c.toInt := by rw [addI (by rw [e1, e2]; omega) (by rw [e1, e2]; omega), e1, e2]
  rw [vp_in_iff, addI (by rw [e3]; omega) (by rw [e3]; omega), e3]; omega
def mCellAt (u : mS) (p c l : Int32) : Int32 := if mCell u p c l = true then u.2 2 (480 * p + 60 * c + l).toNatClampNeg else (-1)
def mRule (u : mS) (p c l : Int32) : Int32 × mS := if mCell u p c l = true then (if u.2 2 (480 * p + 60 * c + l).toNatClampNeg = (-2) then (if u.1 28 = 300 then (0, u) else (1, mActs (mst u 2 (480 * p + 60 * c + l) 100) 2 p c l 0 0 0)) else (0, u)) else (0, u)
theorem v300 {n : Int32} (h : bw n 0 300 = true) (h3 : ¬ n = 300) : bw n 0 299 = true := by
  have h300 : (300 : Int32).toInt = 300 := rfl
  have h299 : (299 : Int32).toInt = 299 := rfl
  have h1 := bw_iff.mp h
  rw [i0, h300] at h1
  have h2 : ¬ n.toInt = 300 := fun e => h3 (sw_in e.symm h300)
  rw [bw_iff, i0, h299]; omega
def mPlateOf (u : mS) (p w : Int32) : Int32 := if bw p 0 11 = true then (if u.2 40 p.toNatClampNeg = 0 then (-1) else if w = 0 then u.2 41 p.toNatClampNeg else if w = 1 then u.2 42 p.toNatClampNeg else (-1)) else (-1)
set_option maxHeartbeats 4000000 in
set_option maxRecDepth 100000 in
theorem m_cell (l : Launch) (dC : Nat → ClassId) (dI : Nat → Nat → Nat) (h0 : Nat) (v : Nat → Nat) (cI cZ : ClassId) (u : mS) (p0 p1 p2 : Int32) (hln : ∀ j, j < 96 → bw (u.2 0 j) 0 60 = true) : Met l yX12_cell wsX12_cell ({ frames := 3, cells := 0, slots := 0, locals := 65 }) (va_Pc [.ref h0, .int p0, .int p1, .int p2] (PW dC dI (mW h0 v cI cZ u) [(cI, .int), (cZ, .boolean)])) (vp_Si (fun r => r = mCellAt u p0 p1 p2)) 0 0 (fun _ => False) := by
  refine Met.ofW (cc := cX12_cell) (maxL := 4) (ret := (some .int)) (by decide) rfl ?_
  intro p e s m args below meth c s₁ B hml hv
  obtain ⟨rfl, hP, hK, hN⟩ := hv
  have hx := B.exec
  have hb := B.bytes
  have hr := B.returns
  have hts := atoms_spec (ws := wsX12_cell) B.pre
  have hown : s.vm.findClass RX12 = some m.cls := findClass_of_methodNamed B.named
  have hlocks := B.notSynchronized
  have hl := lv_entry ([.ref h0, .int p0, .int p1, .int p2]) (n := 4) (Nat.le_of_ble_eq_true rfl)
  rw [lg_entry_eq]
  generalize (lg_sl ([.ref h0, .int p0, .int p1, .int p2]) ++ List.replicate (4 - (lg_sl ([.ref h0, .int p0, .int p1, .int p2])).length) Slot.unset).toArray = ls at hl ⊢
  have hl : lv_has ls 4 [(0, .ref h0), (1, .int p0), (2, .int p1), (3, .int p2)] := hl
  refine lv_aload_n hx hb dX12_cell_0 rfl (lv_at hl 0 rfl) ?_
  refine lv_iload_n hx hb dX12_cell_1 rfl (lv_at hl 1 rfl) ?_
  refine lv_iload_n hx hb dX12_cell_2 rfl (lv_at hl 2 rfl) ?_
  refine lv_iload_n hx hb dX12_cell_3 rfl (lv_at hl 3 rfl) ?_
  refine vp_callSi (va_runV (As := [.int p0, .int p1, .int p2]) (rest := []) ⟨hx, hb, hml, hown, hts⟩ (m_isCell l dC dI h0 v cI cZ u p0 p1 p2) (cwV 3 hts gX12_cell_X12_isCell rfl rfl rfl (by decide +kernel) ⟨Nat.le_of_ble_eq_true rfl, Nat.le_of_ble_eq_true rfl⟩) ⟨pw_fb, va_recv hK hP (ci := 11) (q0 := 0) rfl rfl, fun U hU hW => ⟨rfl, pw_to hU hW hP hK hN⟩⟩ rfl rfl hl.1 rfl (lv_room (Nat.le_of_ble_eq_true rfl)) dX12_cell_4 ⟨Nat.le_of_ble_eq_true rfl, Nat.le_of_ble_eq_true rfl⟩).run (fun r hw => ?_)
  rcases Bool.eq_false_or_eq_true (mCell u p0 p1 p2) with b_1 | b_1
  ·
    obtain rfl : r = 1 := b_t hw b_1
    refine lv_if_eq (tgt := 24) hx hb dX12_cell_7 (by decide) (fun c_2 => absurd c_2 (by decide)) (fun c_2 => ?_)
    refine lv_aload_n hx hb dX12_cell_10 rfl (lv_at hl 0 rfl) ?_
    refine va_get (D := (dC, dI)) (ci := 11) (v := .ref (v 2)) (C := RX12) (T := TX12) (N := 52) hx hb hts (by decide +kernel) hown hK hP 0 rfl rfl 2 (by decide) (hts (.fieldLink RX12 16 "PageOneModel" "cell" "[I") (by decide +kernel)) (fun _ h9 => h9) rfl dX12_cell_11 ?_
    refine lv_iload_n hx hb dX12_cell_14 rfl (lv_at hl 1 rfl) ?_
    refine lv_iload_n hx hb dX12_cell_15 rfl (lv_at hl 2 rfl) ?_
    refine lv_iload_n hx hb dX12_cell_16 rfl (lv_at hl 3 rfl) ?_
    refine vp_callSi (va_runS (As := [.int p0, .int p1, .int p2]) (rest := [.ref (v 2)]) ⟨hx, hb, hml, hown, hts⟩ (m_at l dC dI p0 p1 p2) (va_cwS 3 hts gX12_cell_X12_at rfl rfl rfl (by decide +kernel) ⟨Nat.le_of_ble_eq_true rfl, Nat.le_of_ble_eq_true rfl⟩) ⟨pw_fb, fun U hU hW => ⟨rfl, pw_to hU hW (hP.sub (ws' := []) [] rfl) (hK.sub (tys' := []) [] rfl) hN⟩⟩ rfl rfl hl.1 rfl (lv_room (Nat.le_of_ble_eq_true rfl)) dX12_cell_17 ⟨Nat.le_of_ble_eq_true rfl, Nat.le_of_ble_eq_true rfl⟩).run (fun r hw => ?_)
    obtain rfl : r = (480 * p0 + 60 * p1 + p2) := hw
    refine va_iald hx hb hK hP 3 0 rfl rfl (vCell hln b_1) dX12_cell_20 ?_
    refine lv_goto (tgt := 25) hx hb dX12_cell_21 (by decide) ?_
    exact W.iret (v := (u.2 2 ((480 * p0 + 60 * p1 + p2) : Int32).toNatClampNeg)) hx hb hr (fun t ht hW => ⟨_, rfl, (by first | (unfold mCellAt; rw [if_pos b_1]; done) | (unfold mCellAt; rw [if_pos b_1]; rfl) | (simp [mCellAt, b_1]; done)), ht⟩) (fun q h => absurd h List.not_mem_nil) dX12_cell_25
  ·
    obtain rfl : r = 0 := b_f hw b_1
    refine lv_if_eq (tgt := 24) hx hb dX12_cell_7 (by decide) (fun c_3 => ?_) (fun c_3 => absurd (by decide) c_3)
    refine lv_iconst (v := (-1)) hx hb dX12_cell_24 (by decide) ?_
    exact W.iret (v := (-1)) hx hb hr (fun t ht hW => ⟨_, rfl, (by first | (unfold mCellAt; rw [if_neg (bne b_1)]; done) | (unfold mCellAt; rw [if_neg (bne b_1)]; rfl) | (simp [mCellAt, b_1]; done)), ht⟩) (fun q h => absurd h List.not_mem_nil) dX12_cell_25
set_option maxHeartbeats 4000000 in
set_option maxRecDepth 100000 in
theorem m_rule (l : Launch) (dC : Nat → ClassId) (dI : Nat → Nat → Nat) (h0 : Nat) (v : Nat → Nat) (cI cZ : ClassId) (u : mS) (p0 p1 p2 : Int32) (hln : ∀ j, j < 96 → bw (u.2 0 j) 0 60 = true) (ha : bw (u.1 28) 0 300 = true) (sz : Nat) : Met l yX12_rule wsX12_rule ({ frames := 3, cells := 0, slots := 0, locals := 65 }) (va_Pc [.ref h0, .int p0, .int p1, .int p2] (fun U => U.heap.size = sz ∧ PW dC dI (mW h0 v cI cZ u) [(cI, .int), (cZ, .boolean)] U ∧ va_D (fun _ => True) (mW h0 v cI cZ u))) (va_Qi (fun (r : Int32) (u9 : mS) => (r, u9) = mRule u p0 p1 p2) (fun u9 t => va_P (dC, dI) vwCl (mW h0 v cI cZ u9) t.heap ∧ va_D (va_A (mW h0 v cI cZ u) sz) (mW h0 v cI cZ u9)) (va_A (mW h0 v cI cZ u) sz)) 0 0 (va_A (mW h0 v cI cZ u) sz) := by
  refine Met.ofW (cc := cX12_rule) (maxL := 4) (ret := (some .boolean)) (by decide) rfl ?_
  intro p e s m args below meth c s₁ B hml hv
  obtain ⟨rfl, hsz, ⟨hP, hK, hN⟩, hD0⟩ := hv
  have hx := B.exec
  have hb := B.bytes
  have hr := B.returns
  have hts := atoms_spec (ws := wsX12_rule) B.pre
  have hown : s.vm.findClass RX12 = some m.cls := findClass_of_methodNamed B.named
  have hlocks := B.notSynchronized
  subst hsz
  have hD := hD0.self (sz := s.heap.size)
  generalize hAe : va_A (mW h0 v cI cZ u) s.heap.size = A at hD ⊢
  have hA : ∀ q : Nat, s.heap.size ≤ q → A q := fun q h => by rw [← hAe]; exact Or.inr h
  have hS : va_S A s.heap s.heap [] := va_S.rf
  have hl := lv_entry ([.ref h0, .int p0, .int p1, .int p2]) (n := 4) (Nat.le_of_ble_eq_true rfl)
  rw [lg_entry_eq]
  generalize (lg_sl ([.ref h0, .int p0, .int p1, .int p2]) ++ List.replicate (4 - (lg_sl ([.ref h0, .int p0, .int p1, .int p2])).length) Slot.unset).toArray = ls at hl ⊢
  have hl : lv_has ls 4 [(0, .ref h0), (1, .int p0), (2, .int p1), (3, .int p2)] := hl
  refine lv_aload_n hx hb dX12_rule_0 rfl (lv_at hl 0 rfl) ?_
  refine lv_iload_n hx hb dX12_rule_1 rfl (lv_at hl 1 rfl) ?_
  refine lv_iload_n hx hb dX12_rule_2 rfl (lv_at hl 2 rfl) ?_
  refine lv_iload_n hx hb dX12_rule_3 rfl (lv_at hl 3 rfl) ?_
  refine vp_callSi (va_runV (As := [.int p0, .int p1, .int p2]) (rest := []) ⟨hx, hb, hml, hown, hts⟩ (m_isCell l dC dI h0 v cI cZ u p0 p1 p2) (cwV 3 hts gX12_rule_X12_isCell rfl rfl rfl (by decide +kernel) ⟨Nat.le_of_ble_eq_true rfl, Nat.le_of_ble_eq_true rfl⟩) ⟨pw_fb, va_recv hK hP (ci := 11) (q0 := 0) rfl rfl, fun U hU hW => ⟨rfl, pw_to hU hW hP hK hN⟩⟩ rfl rfl hl.1 rfl (lv_room (Nat.le_of_ble_eq_true rfl)) dX12_rule_4 ⟨Nat.le_of_ble_eq_true rfl, Nat.le_of_ble_eq_true rfl⟩).run (fun r hw => ?_)
  rcases Bool.eq_false_or_eq_true (mCell u p0 p1 p2) with b_1 | b_1
  ·
    obtain rfl : r = 1 := b_t hw b_1
    refine lv_if_eq (tgt := 36) hx hb dX12_rule_7 (by decide) (fun c_2 => absurd c_2 (by decide)) (fun c_2 => ?_)
    refine lv_aload_n hx hb dX12_rule_10 rfl (lv_at hl 0 rfl) ?_
    refine va_get (D := (dC, dI)) (ci := 11) (v := .ref (v 2)) (C := RX12) (T := TX12) (N := 52) hx hb hts (by decide +kernel) hown hK hP 0 rfl rfl 2 (by decide) (hts (.fieldLink RX12 16 "PageOneModel" "cell" "[I") (by decide +kernel)) (fun _ h9 => h9) rfl dX12_rule_11 ?_
    refine lv_iload_n hx hb dX12_rule_14 rfl (lv_at hl 1 rfl) ?_
    refine lv_iload_n hx hb dX12_rule_15 rfl (lv_at hl 2 rfl) ?_
    refine lv_iload_n hx hb dX12_rule_16 rfl (lv_at hl 3 rfl) ?_
    refine vp_callSi (va_runS (As := [.int p0, .int p1, .int p2]) (rest := [.ref (v 2)]) ⟨hx, hb, hml, hown, hts⟩ (m_at l dC dI p0 p1 p2) (va_cwS 3 hts gX12_rule_X12_at rfl rfl rfl (by decide +kernel) ⟨Nat.le_of_ble_eq_true rfl, Nat.le_of_ble_eq_true rfl⟩) ⟨pw_fb, fun U hU hW => ⟨rfl, pw_to hU hW (hP.sub (ws' := []) [] rfl) (hK.sub (tys' := []) [] rfl) hN⟩⟩ rfl rfl hl.1 rfl (lv_room (Nat.le_of_ble_eq_true rfl)) dX12_rule_17 ⟨Nat.le_of_ble_eq_true rfl, Nat.le_of_ble_eq_true rfl⟩).run (fun r hw => ?_)
    obtain rfl : r = (480 * p0 + 60 * p1 + p2) := hw
    refine va_iald hx hb hK hP 3 0 rfl rfl (vCell hln b_1) dX12_rule_20 ?_
    refine lv_bipush (v := (-2)) hx hb dX12_rule_21 (by decide) ?_
    refine lv_icmp_ne (tgt := 36) hx hb dX12_rule_23 (by decide) (fun c_3 => ?_) (fun c_3 => ?_)
    ·
      refine lv_iconst (v := 0) hx hb dX12_rule_36 (by decide) ?_
      exact W.zret (v := 0) hx hb hr (by decide) (fun t ht hW => ⟨⟨0, u, rfl, (by unfold mRule; rw [if_pos b_1, if_neg c_3]), by rw [ht]; exact hP, hD⟩, hS.F ht⟩) hS.2.2 dX12_rule_37
    ·
      refine lv_aload_n hx hb dX12_rule_26 rfl (lv_at hl 0 rfl) ?_
      refine va_get (D := (dC, dI)) (ci := 11) (v := .int (u.1 28)) (C := RX12) (T := TX12) (N := 52) hx hb hts (by decide +kernel) hown hK hP 0 rfl rfl 28 (by decide) (hts (.fieldLink RX12 158 "PageOneModel" "acts" "I") (by decide +kernel)) (fun _ h9 => h9) rfl dX12_rule_27 ?_
      refine lv_sipush (v := 300) hx hb dX12_rule_30 (by decide) ?_
      refine lv_icmp_ne (tgt := 38) hx hb dX12_rule_33 (by decide) (fun c_4 => ?_) (fun c_4 => ?_)
      ·
        refine lv_aload_n hx hb dX12_rule_38 rfl (lv_at hl 0 rfl) ?_
        refine va_get (D := (dC, dI)) (ci := 11) (v := .ref (v 2)) (C := RX12) (T := TX12) (N := 52) hx hb hts (by decide +kernel) hown hK hP 0 rfl rfl 2 (by decide) (hts (.fieldLink RX12 16 "PageOneModel" "cell" "[I") (by decide +kernel)) (fun _ h9 => h9) rfl dX12_rule_39 ?_
        refine lv_iload_n hx hb dX12_rule_42 rfl (lv_at hl 1 rfl) ?_
        refine lv_iload_n hx hb dX12_rule_43 rfl (lv_at hl 2 rfl) ?_
        refine lv_iload_n hx hb dX12_rule_44 rfl (lv_at hl 3 rfl) ?_
        refine vp_callSi (va_runS (As := [.int p0, .int p1, .int p2]) (rest := [.ref (v 2)]) ⟨hx, hb, hml, hown, hts⟩ (m_at l dC dI p0 p1 p2) (va_cwS 3 hts gX12_rule_X12_at rfl rfl rfl (by decide +kernel) ⟨Nat.le_of_ble_eq_true rfl, Nat.le_of_ble_eq_true rfl⟩) ⟨pw_fb, fun U hU hW => ⟨rfl, pw_to hU hW (hP.sub (ws' := []) [] rfl) (hK.sub (tys' := []) [] rfl) hN⟩⟩ rfl rfl hl.1 rfl (lv_room (Nat.le_of_ble_eq_true rfl)) dX12_rule_45 ⟨Nat.le_of_ble_eq_true rfl, Nat.le_of_ble_eq_true rfl⟩).run (fun r hw => ?_)
        obtain rfl : r = (480 * p0 + 60 * p1 + p2) := hw
        refine lv_bipush (v := 100) hx hb dX12_rule_48 (by decide) ?_
        refine va_iast hx hb hK hP hD hS 3 0 rfl rfl (vCell hln b_1) dX12_rule_50 (fun H locs hP hD hS => ?_)
        obtain ⟨u_5, eu_5⟩ : ∃ zz : mS, zz = mst u 2 (480 * p0 + 60 * p1 + p2) 100 := ⟨_, rfl⟩
        have hP : va_P (dC, dI) vwCl (mW h0 v cI cZ u_5) H := by rw [eu_5]; exact hP
        have hD : va_D A (mW h0 v cI cZ u_5) := by rw [eu_5]; exact hD
        refine lv_aload_n hx hb dX12_rule_51 rfl (lv_at hl 0 rfl) ?_
        refine lv_iconst (v := 2) hx hb dX12_rule_52 (by decide) ?_
        refine lv_iload_n hx hb dX12_rule_53 rfl (lv_at hl 1 rfl) ?_
        refine lv_iload_n hx hb dX12_rule_54 rfl (lv_at hl 2 rfl) ?_
        refine lv_iload_n hx hb dX12_rule_55 rfl (lv_at hl 3 rfl) ?_
        refine lv_iconst (v := 0) hx hb dX12_rule_56 (by decide) ?_
        refine lv_iconst (v := 0) hx hb dX12_rule_57 (by decide) ?_
        refine lv_iconst (v := 0) hx hb dX12_rule_58 (by decide) ?_
        have hFc := fr_all hD hS hA
        refine va_callv (va_runV (As := [.int 2, .int p0, .int p1, .int p2, .int 0, .int 0, .int 0]) (rest := []) ⟨hx, hb, hml, hown, hts⟩ (m_acts l dC dI h0 v cI cZ u_5 2 p0 p1 p2 0 0 0 (by subst_vars; exact v300 ha c_4) H.size) (cwV 7 hts gX12_rule_X12_acts rfl rfl rfl (by decide +kernel) ⟨Nat.le_of_ble_eq_true rfl, Nat.le_of_ble_eq_true rfl⟩) ⟨gw_fb, va_recv hK hP (ci := 11) (q0 := 0) rfl rfl, fun U hU hW => ⟨rfl, by rw [hU], pw_to hU hW hP hK hN, hD.weaken (fun _ _ _ _ => trivial)⟩⟩ rfl rfl hl.1 rfl (lv_room (Nat.le_of_ble_eq_true rfl)) dX12_rule_59 ⟨Nat.le_of_ble_eq_true rfl, Nat.le_of_ble_eq_true rfl⟩) hS (fun q _ h => hFc q h) hFc (fun u_6 t H1 locs ht hvm hw hB hz1 hk1 hS => ?_)
        obtain ⟨hP, hD1⟩ := hB
        rw [ht] at hP
        have hD := hD1.weaken (fun _ q _ h => hFc q.1 h)
        generalize H1 = H at hP hS ⊢
        have eu_6 := hw
        refine lv_iconst (v := 1) hx hb dX12_rule_62 (by decide) ?_
        exact W.zret (v := 1) hx hb hr (by decide) (fun t ht hW => ⟨⟨1, u_6, rfl, (by rw [eu_6, eu_5]; unfold mRule; rw [if_pos b_1, if_pos c_3, if_neg c_4]), by rw [ht]; exact hP, hD⟩, hS.F ht⟩) hS.2.2 dX12_rule_63
      ·
        refine lv_iconst (v := 0) hx hb dX12_rule_36 (by decide) ?_
        exact W.zret (v := 0) hx hb hr (by decide) (fun t ht hW => ⟨⟨0, u, rfl, (by unfold mRule; rw [if_pos b_1, if_pos c_3, if_pos c_4]), by rw [ht]; exact hP, hD⟩, hS.F ht⟩) hS.2.2 dX12_rule_37
  ·
    obtain rfl : r = 0 := b_f hw b_1
    refine lv_if_eq (tgt := 36) hx hb dX12_rule_7 (by decide) (fun c_7 => ?_) (fun c_7 => absurd (by decide) c_7)
    refine lv_iconst (v := 0) hx hb dX12_rule_36 (by decide) ?_
    exact W.zret (v := 0) hx hb hr (by decide) (fun t ht hW => ⟨⟨0, u, rfl, (by unfold mRule; rw [if_neg (bne b_1)]), by rw [ht]; exact hP, hD⟩, hS.F ht⟩) hS.2.2 dX12_rule_37
set_option maxHeartbeats 4000000 in
set_option maxRecDepth 100000 in
theorem m_plateOf (l : Launch) (dC : Nat → ClassId) (dI : Nat → Nat → Nat) (h0 : Nat) (v : Nat → Nat) (cI cZ : ClassId) (u : mS) (p0 p1 : Int32) : Met l yX12_plateOf wsX12_plateOf ({ frames := 2, cells := 0, slots := 0, locals := 42 }) (va_Pc [.ref h0, .int p0, .int p1] (PW dC dI (mW h0 v cI cZ u) [(cI, .int), (cZ, .boolean)])) (vp_Si (fun r => r = mPlateOf u p0 p1)) 0 0 (fun _ => False) := by
  refine Met.ofW (cc := cX12_plateOf) (maxL := 3) (ret := (some .int)) (by decide) rfl ?_
  intro p e s m args below meth c s₁ B hml hv
  obtain ⟨rfl, hP, hK, hN⟩ := hv
  have hx := B.exec
  have hb := B.bytes
  have hr := B.returns
  have hts := atoms_spec (ws := wsX12_plateOf) B.pre
  have hown : s.vm.findClass RX12 = some m.cls := findClass_of_methodNamed B.named
  have hlocks := B.notSynchronized
  have hl := lv_entry ([.ref h0, .int p0, .int p1]) (n := 3) (Nat.le_of_ble_eq_true rfl)
  rw [lg_entry_eq]
  generalize (lg_sl ([.ref h0, .int p0, .int p1]) ++ List.replicate (3 - (lg_sl ([.ref h0, .int p0, .int p1])).length) Slot.unset).toArray = ls at hl ⊢
  have hl : lv_has ls 3 [(0, .ref h0), (1, .int p0), (2, .int p1)] := hl
  refine lv_iload_n hx hb dX12_plateOf_0 rfl (lv_at hl 1 rfl) ?_
  refine vp_callSi (va_runS (As := [.int p0]) (rest := []) ⟨hx, hb, hml, hown, hts⟩ (m_isPage l dC dI p0) (va_cwS 1 hts gX12_plateOf_X12_isPage rfl rfl rfl (by decide +kernel) ⟨Nat.le_of_ble_eq_true rfl, Nat.le_of_ble_eq_true rfl⟩) ⟨pw_fb, fun U hU hW => ⟨rfl, pw_to hU hW (hP.sub (ws' := []) [] rfl) (hK.sub (tys' := []) [] rfl) hN⟩⟩ rfl rfl hl.1 rfl (lv_room (Nat.le_of_ble_eq_true rfl)) dX12_plateOf_1 ⟨Nat.le_of_ble_eq_true rfl, Nat.le_of_ble_eq_true rfl⟩).run (fun r hw => ?_)
  rcases Bool.eq_false_or_eq_true (bw p0 0 11) with b_1 | b_1
  ·
    obtain rfl : r = 1 := b_t hw b_1
    refine lv_if_eq (tgt := 16) hx hb dX12_plateOf_4 (by decide) (fun c_2 => absurd c_2 (by decide)) (fun c_2 => ?_)
    refine lv_aload_n hx hb dX12_plateOf_7 rfl (lv_at hl 0 rfl) ?_
    refine va_get (D := (dC, dI)) (ci := 11) (v := .ref (v 40)) (C := RX12) (T := TX12) (N := 52) hx hb hts (by decide +kernel) hown hK hP 0 rfl rfl 40 (by decide) (hts (.fieldLink RX12 116 "PageOneModel" "isPlated" "[Z") (by decide +kernel)) (fun _ h9 => h9) rfl dX12_plateOf_8 ?_
    refine lv_iload_n hx hb dX12_plateOf_11 rfl (lv_at hl 1 rfl) ?_
    refine va_zald hx hb hK hP 36 1 rfl rfl (vin b_1 (by decide)) dX12_plateOf_12 ?_
    refine lv_if_ne (tgt := 18) hx hb dX12_plateOf_13 (by decide) (fun c_3 => ?_) (fun c_3 => ?_)
    ·
      refine lv_iload_n hx hb dX12_plateOf_18 rfl (lv_at hl 2 rfl) ?_
      refine lv_if_ne (tgt := 31) hx hb dX12_plateOf_19 (by decide) (fun c_4 => ?_) (fun c_4 => ?_)
      ·
        refine lv_iload_n hx hb dX12_plateOf_31 rfl (lv_at hl 2 rfl) ?_
        refine lv_iconst (v := 1) hx hb dX12_plateOf_32 (by decide) ?_
        refine lv_icmp_ne (tgt := 45) hx hb dX12_plateOf_33 (by decide) (fun c_5 => ?_) (fun c_5 => ?_)
        ·
          refine lv_iconst (v := (-1)) hx hb dX12_plateOf_45 (by decide) ?_
          exact W.iret (v := (-1)) hx hb hr (fun t ht hW => ⟨_, rfl, (by first | (unfold mPlateOf; rw [if_pos b_1, if_neg c_3, if_neg c_4, if_neg c_5]; done) | (unfold mPlateOf; rw [if_pos b_1, if_neg c_3, if_neg c_4, if_neg c_5]; rfl) | (simp [mPlateOf, b_1, c_3, c_4, c_5]; done)), ht⟩) (fun q h => absurd h List.not_mem_nil) dX12_plateOf_46
        ·
          refine lv_aload_n hx hb dX12_plateOf_36 rfl (lv_at hl 0 rfl) ?_
          refine va_get (D := (dC, dI)) (ci := 11) (v := .ref (v 42)) (C := RX12) (T := TX12) (N := 52) hx hb hts (by decide +kernel) hown hK hP 0 rfl rfl 42 (by decide) (hts (.fieldLink RX12 122 "PageOneModel" "plateEdition" "[I") (by decide +kernel)) (fun _ h9 => h9) rfl dX12_plateOf_37 ?_
          refine lv_iload_n hx hb dX12_plateOf_40 rfl (lv_at hl 1 rfl) ?_
          refine va_iald hx hb hK hP 38 0 rfl rfl (vin b_1 (by decide)) dX12_plateOf_41 ?_
          refine lv_goto (tgt := 46) hx hb dX12_plateOf_42 (by decide) ?_
          exact W.iret (v := (u.2 42 (p0 : Int32).toNatClampNeg)) hx hb hr (fun t ht hW => ⟨_, rfl, (by first | (unfold mPlateOf; rw [if_pos b_1, if_neg c_3, if_neg c_4, if_pos c_5]; done) | (unfold mPlateOf; rw [if_pos b_1, if_neg c_3, if_neg c_4, if_pos c_5]; rfl) | (simp [mPlateOf, b_1, c_3, c_4, c_5]; done)), ht⟩) (fun q h => absurd h List.not_mem_nil) dX12_plateOf_46
      ·
        refine lv_aload_n hx hb dX12_plateOf_22 rfl (lv_at hl 0 rfl) ?_
        refine va_get (D := (dC, dI)) (ci := 11) (v := .ref (v 41)) (C := RX12) (T := TX12) (N := 52) hx hb hts (by decide +kernel) hown hK hP 0 rfl rfl 41 (by decide) (hts (.fieldLink RX12 119 "PageOneModel" "plateDay" "[I") (by decide +kernel)) (fun _ h9 => h9) rfl dX12_plateOf_23 ?_
        refine lv_iload_n hx hb dX12_plateOf_26 rfl (lv_at hl 1 rfl) ?_
        refine va_iald hx hb hK hP 37 0 rfl rfl (vin b_1 (by decide)) dX12_plateOf_27 ?_
        refine lv_goto (tgt := 46) hx hb dX12_plateOf_28 (by decide) ?_
        exact W.iret (v := (u.2 41 (p0 : Int32).toNatClampNeg)) hx hb hr (fun t ht hW => ⟨_, rfl, (by first | (unfold mPlateOf; rw [if_pos b_1, if_neg c_3, if_pos c_4]; done) | (unfold mPlateOf; rw [if_pos b_1, if_neg c_3, if_pos c_4]; rfl) | (simp [mPlateOf, b_1, c_3, c_4]; done)), ht⟩) (fun q h => absurd h List.not_mem_nil) dX12_plateOf_46
    ·
      refine lv_iconst (v := (-1)) hx hb dX12_plateOf_16 (by decide) ?_
      exact W.iret (v := (-1)) hx hb hr (fun t ht hW => ⟨_, rfl, (by first | (unfold mPlateOf; rw [if_pos b_1, if_pos c_3]; done) | (unfold mPlateOf; rw [if_pos b_1, if_pos c_3]; rfl) | (simp [mPlateOf, b_1, c_3]; done)), ht⟩) (fun q h => absurd h List.not_mem_nil) dX12_plateOf_17
  ·
    obtain rfl : r = 0 := b_f hw b_1
    refine lv_if_eq (tgt := 16) hx hb dX12_plateOf_4 (by decide) (fun c_6 => ?_) (fun c_6 => absurd (by decide) c_6)
    refine lv_iconst (v := (-1)) hx hb dX12_plateOf_16 (by decide) ?_
    exact W.iret (v := (-1)) hx hb hr (fun t ht hW => ⟨_, rfl, (by first | (unfold mPlateOf; rw [if_neg (bne b_1)]; done) | (unfold mPlateOf; rw [if_neg (bne b_1)]; rfl) | (simp [mPlateOf, b_1]; done)), ht⟩) (fun q h => absurd h List.not_mem_nil) dX12_plateOf_17
/-- how many of a column's first cells are empty -/
def mEmp (f : Nat → Int32) (b : Int32) : Nat → Int32
  | 0 => 0
  | n + 1 => mEmp f b n + (if f (b + nI n).toNatClampNeg = (-2) then 1 else 0)
def mShort (u : mS) (p c : Int32) : Int32 := if bw p 0 11 = true then (if bw c 0 7 = true then mEmp (u.2 2) (480 * p + 60 * c) (u.2 0 (8 * p + c).toNatClampNeg).toNatClampNeg else (-1)) else (-1)
/-- whether a piece stands among a page's first cells -/
def mHas (f : Nat → Int32) (b : Int32) : Nat → Bool
  | 0 => false
  | n + 1 => mHas f b n || (!decide (f (b + nI n).toNatClampNeg < 0) && !decide (f (b + nI n).toNatClampNeg = 100))
def mMeasure (u : mS) (p x : Int32) : Int32 × mS := if bw p 0 11 = true then (if bw x 1 200 = true then (if 0 < u.1 28 then (0, u) else if mHas (u.2 2) (480 * p) 480 = true then (0, u) else (1, mst u 1 p x)) else (0, u)) else (0, u)
/-- a column without anything -/
def mBare (f : Nat → Int32) (b : Int32) : Bool := (List.range 60).all (fun l => decide (f (b + nI l).toNatClampNeg = (-2)))
def mColumn (u : mS) (p c n : Int32) : Int32 × mS := if bw p 0 11 = true then (if bw c 0 7 = true then (if bw n 0 60 = true then (if u.1 28 ≤ 0 then (if mBare (u.2 2) (480 * p + 60 * c) = true then (1, mst u 0 (8 * p + c) n) else (0, u)) else (0, u)) else (0, u)) else (0, u)) else (0, u)
theorem mBare_t {f : Nat → Int32} {b : Int32} (h : ∀ j, j < 60 → f (b + nI j).toNatClampNeg = (-2)) : mBare f b = true := by
  unfold mBare; rw [List.all_eq_true]; intro x hx; rw [decide_eq_true_iff]; exact h x (List.mem_range.mp hx)
theorem mBare_f {f : Nat → Int32} {b : Int32} {i : Nat} (hi : i < 60) (h : ¬ f (b + nI i).toNatClampNeg = (-2)) : mBare f b = false := by
  rw [← Bool.not_eq_true]; unfold mBare; rw [List.all_eq_true]
  intro q; exact h (decide_eq_true_iff.mp (q i (List.mem_range.mpr hi)))
theorem nz {b : Bool} {a : Int32} (h : a = bi b) (h2 : ¬ a = 0) : b = true := by
  cases b
  · exact absurd h h2
  · rfl
theorem zz0 {b : Bool} {a : Int32} (h : a = bi b) (h2 : a = 0) : b = false := by
  cases b
  · rfl
  · rw [h2] at h; exact absurd h (by decide)
theorem nI_of_bw {x hi : Int32} (h : bw x 0 hi = true) : x = nI x.toNatClampNeg ∧ (x.toNatClampNeg : Int) = x.toInt ∧ x.toInt ≤ hi.toInt := by
  have h1 := bw_iff.mp h
  rw [i0] at h1
  obtain ⟨j, hj, e⟩ := nI_of (x := x) (fun q => by rw [i32_lt, i0] at q; omega)
  subst e
  rw [nI_clamp hj, nI_toInt hj]
  rw [nI_toInt hj] at h1
  exact ⟨rfl, rfl, h1.2⟩
set_option maxHeartbeats 4000000 in
set_option maxRecDepth 100000 in
theorem m_shortOf_loop {p : Program} {l : Launch} {e : Env} {R : Room} {s : State} {m : MethodId} {args : Array Value} {below : List Frame} {meth : Method} {c : Code} {Q : State → Prop} {cells slots : Nat} {dC : Nat → ClassId} {dI : Nat → Nat → Nat} {h0 : Nat} {v : Nat → Nat} {cI cZ : ClassId} {H : Heap} {locs : List Loc} {u : mS} (hx : p.tables.exec = Jvm.exec) (hb : c.code = cX12_shortOf) (hml : c.maxLocals = 5) (hts : ∀ w ∈ wsX12_shortOf, w.before args s = true) (hown : s.vm.findClass RX12 = some m.cls) (hN : NN s) (hK : va_K (dC, dI) vwCl [(cI, .int), (cZ, .boolean)] s) (hRf : 1 ≤ R.frames) (hRl : 22 ≤ R.locals) (hRc : cells ≤ R.cells) (hRs : slots ≤ R.slots) (hP : va_P (dC, dI) vwCl (mW h0 v cI cZ u) H) {p0 p1 : Int32} {K : Nat} (hp : bw p0 0 11 = true) (hq : bw p1 0 7 = true) (hK60 : K ≤ 60) (eK : u.2 0 (8 * p0 + p1).toNatClampNeg = nI K) (kx : ∀ (a : Int32) (ls : Array Slot), a = mEmp (u.2 2) (480 * p0 + 60 * p1) K → lv_has ls 5 [(4, .int (nI K)), (3, .int a), (0, .ref h0), (1, .int p0), (2, .int p1)] → W p l e R s m args below meth c H locs cells slots Q (F0 m 71 ls [])) : ∀ (k i : Nat) (a : Int32) (ls : Array Slot), i ≤ K → K - i < k → a = mEmp (u.2 2) (480 * p0 + 60 * p1) i → lv_has ls 5 [(4, .int (nI i)), (3, .int a), (0, .ref h0), (1, .int p0), (2, .int p1)] → W p l e R s m args below meth c H locs cells slots Q (F0 m 24 ls []) := by
  intro k
  induction k with
  | zero => intro i a ls h1 h2; exact absurd h2 (Nat.not_lt_zero _)
  | succ k ih =>
    intro i a ls hi hk hg hl
    refine lv_iload hx hb dX12_shortOf_24 (lv_at hl 0 rfl) ?_
    refine lv_aload_n hx hb dX12_shortOf_26 rfl (lv_at hl 2 rfl) ?_
    refine va_get (D := (dC, dI)) (ci := 11) (v := .ref (v 0)) (C := RX12) (T := TX12) (N := 52) hx hb hts (by decide +kernel) hown hK hP 0 rfl rfl 0 (by decide) (hts (.fieldLink RX12 7 "PageOneModel" "lines" "[I") (by decide +kernel)) (fun _ h9 => h9) rfl dX12_shortOf_27 ?_
    refine lv_bipush (v := 8) hx hb dX12_shortOf_30 (by decide) ?_
    refine lv_iload_n hx hb dX12_shortOf_32 rfl (lv_at hl 3 rfl) ?_
    refine lv_imul hx hb dX12_shortOf_33 ?_
    refine lv_iload_n hx hb dX12_shortOf_34 rfl (lv_at hl 4 rfl) ?_
    refine lv_iadd hx hb dX12_shortOf_35 ?_
    refine va_iald hx hb hK hP 1 0 rfl rfl (vin8 hp hq) dX12_shortOf_36 ?_
    refine lv_topi (fun y_1 ey_1 => ?_)
    obtain rfl : y_1 = (nI K) := ey_1.trans (eK)
    refine lv_icmp_ge (tgt := 71) hx hb dX12_shortOf_37 (by decide) (fun c_2 => ?_) (fun c_2 => ?_)
    ·
      have hie : i = K := lp_eq rfl (by omega) hi c_2
      rw [hie] at hg hl
      exact kx _ ls hg (lv_sub hl [0, 1, 2, 3, 4] rfl)
    ·
      have hlt : i < K := lp_lt rfl (by omega) hi c_2
      refine lv_iload_n hx hb dX12_shortOf_40 rfl (lv_at hl 1 rfl) ?_
      refine lv_aload_n hx hb dX12_shortOf_41 rfl (lv_at hl 2 rfl) ?_
      refine va_get (D := (dC, dI)) (ci := 11) (v := .ref (v 2)) (C := RX12) (T := TX12) (N := 52) hx hb hts (by decide +kernel) hown hK hP 0 rfl rfl 2 (by decide) (hts (.fieldLink RX12 16 "PageOneModel" "cell" "[I") (by decide +kernel)) (fun _ h9 => h9) rfl dX12_shortOf_42 ?_
      refine lv_iload_n hx hb dX12_shortOf_45 rfl (lv_at hl 3 rfl) ?_
      refine lv_iload_n hx hb dX12_shortOf_46 rfl (lv_at hl 4 rfl) ?_
      refine lv_iload hx hb dX12_shortOf_47 (lv_at hl 0 rfl) ?_
      refine vp_callSi (va_runS (As := [.int p0, .int p1, .int (nI i)]) (rest := [.ref (v 2), .int a]) ⟨hx, hb, hml, hown, hts⟩ (m_at l dC dI p0 p1 (nI i)) (va_cwS 3 hts gX12_shortOf_X12_at rfl rfl rfl (by decide +kernel) ⟨hRf, hRl⟩) ⟨pw_fb, fun U hU hW => ⟨rfl, pw_to hU hW (hP.sub (ws' := []) [] rfl) (hK.sub (tys' := []) [] rfl) hN⟩⟩ rfl rfl hl.1 rfl (lv_room (Nat.le_of_ble_eq_true rfl)) dX12_shortOf_49 ⟨hRc, hRs⟩).run (fun r hw => ?_)
      obtain rfl : r = (480 * p0 + 60 * p1 + (nI i)) := hw
      refine va_iald hx hb hK hP 3 0 rfl rfl (vinC hp hq (by omega)) dX12_shortOf_52 ?_
      refine lv_bipush (v := (-2)) hx hb dX12_shortOf_53 (by decide) ?_
      refine lv_icmp_ne (tgt := 62) hx hb dX12_shortOf_55 (by decide) (fun c_3 => ?_) (fun c_3 => ?_)
      ·
        refine lv_iconst (v := 0) hx hb dX12_shortOf_62 (by decide) ?_
        refine lv_iadd hx hb dX12_shortOf_63 ?_
        refine lv_topi (fun x_4 ex_4 => ?_)
        refine lv_istore_n (lv' := [(3, .int x_4), (4, .int (nI i)), (0, .ref h0), (1, .int p0), (2, .int p1)]) hx hb dX12_shortOf_64 rfl hl (by decide) rfl (fun ls hl => ?_)
        refine lv_iinc (v := (nI (i + 1))) (lv' := [(4, .int (nI (i + 1))), (3, .int x_4), (0, .ref h0), (1, .int p0), (2, .int p1)]) hx hb dX12_shortOf_65 hl (k := 1) rfl (nI_1 i) (by decide) rfl (fun ls hl => ?_)
        refine lv_goto (tgt := 24) hx hb dX12_shortOf_68 (by decide) ?_
        exact ih (i + 1) _ ls (by omega) (by omega) (by subst_vars; simp [mEmp, c_3]) (lv_sub hl [0, 1, 2, 3, 4] rfl)
      ·
        refine lv_iconst (v := 1) hx hb dX12_shortOf_58 (by decide) ?_
        refine lv_goto (tgt := 63) hx hb dX12_shortOf_59 (by decide) ?_
        refine lv_iadd hx hb dX12_shortOf_63 ?_
        refine lv_topi (fun x_5 ex_5 => ?_)
        refine lv_istore_n (lv' := [(3, .int x_5), (4, .int (nI i)), (0, .ref h0), (1, .int p0), (2, .int p1)]) hx hb dX12_shortOf_64 rfl hl (by decide) rfl (fun ls hl => ?_)
        refine lv_iinc (v := (nI (i + 1))) (lv' := [(4, .int (nI (i + 1))), (3, .int x_5), (0, .ref h0), (1, .int p0), (2, .int p1)]) hx hb dX12_shortOf_65 hl (k := 1) rfl (nI_1 i) (by decide) rfl (fun ls hl => ?_)
        refine lv_goto (tgt := 24) hx hb dX12_shortOf_68 (by decide) ?_
        exact ih (i + 1) _ ls (by omega) (by omega) (by subst_vars; simp [mEmp, c_3]) (lv_sub hl [0, 1, 2, 3, 4] rfl)
set_option maxHeartbeats 4000000 in
set_option maxRecDepth 100000 in
theorem m_shortOf (l : Launch) (dC : Nat → ClassId) (dI : Nat → Nat → Nat) (h0 : Nat) (v : Nat → Nat) (cI cZ : ClassId) (u : mS) (p0 p1 : Int32) (hln : ∀ j, j < 96 → bw (u.2 0 j) 0 60 = true) : Met l yX12_shortOf wsX12_shortOf ({ frames := 2, cells := 0, slots := 0, locals := 42 }) (va_Pc [.ref h0, .int p0, .int p1] (PW dC dI (mW h0 v cI cZ u) [(cI, .int), (cZ, .boolean)])) (vp_Si (fun r => r = mShort u p0 p1)) 0 0 (fun _ => False) := by
  refine Met.ofW (cc := cX12_shortOf) (maxL := 5) (ret := (some .int)) (by decide) rfl ?_
  intro p e s m args below meth c s₁ B hml hv
  obtain ⟨rfl, hP, hK, hN⟩ := hv
  have hx := B.exec
  have hb := B.bytes
  have hr := B.returns
  have hts := atoms_spec (ws := wsX12_shortOf) B.pre
  have hown : s.vm.findClass RX12 = some m.cls := findClass_of_methodNamed B.named
  have hlocks := B.notSynchronized
  have hl := lv_entry ([.ref h0, .int p0, .int p1]) (n := 5) (Nat.le_of_ble_eq_true rfl)
  rw [lg_entry_eq]
  generalize (lg_sl ([.ref h0, .int p0, .int p1]) ++ List.replicate (5 - (lg_sl ([.ref h0, .int p0, .int p1])).length) Slot.unset).toArray = ls at hl ⊢
  have hl : lv_has ls 5 [(0, .ref h0), (1, .int p0), (2, .int p1)] := hl
  refine lv_iload_n hx hb dX12_shortOf_0 rfl (lv_at hl 1 rfl) ?_
  refine vp_callSi (va_runS (As := [.int p0]) (rest := []) ⟨hx, hb, hml, hown, hts⟩ (m_isPage l dC dI p0) (va_cwS 1 hts gX12_shortOf_X12_isPage rfl rfl rfl (by decide +kernel) ⟨Nat.le_of_ble_eq_true rfl, Nat.le_of_ble_eq_true rfl⟩) ⟨pw_fb, fun U hU hW => ⟨rfl, pw_to hU hW (hP.sub (ws' := []) [] rfl) (hK.sub (tys' := []) [] rfl) hN⟩⟩ rfl rfl hl.1 rfl (lv_room (Nat.le_of_ble_eq_true rfl)) dX12_shortOf_1 ⟨Nat.le_of_ble_eq_true rfl, Nat.le_of_ble_eq_true rfl⟩).run (fun r hw => ?_)
  rcases Bool.eq_false_or_eq_true (bw p0 0 11) with b_1 | b_1
  ·
    obtain rfl : r = 1 := b_t hw b_1
    refine lv_if_eq (tgt := 17) hx hb dX12_shortOf_4 (by decide) (fun c_2 => absurd c_2 (by decide)) (fun c_2 => ?_)
    refine lv_iload_n hx hb dX12_shortOf_7 rfl (lv_at hl 2 rfl) ?_
    refine lv_iconst (v := 0) hx hb dX12_shortOf_8 (by decide) ?_
    refine lv_bipush (v := 7) hx hb dX12_shortOf_9 (by decide) ?_
    refine vp_callSi (va_runS (As := [.int p1, .int 0, .int 7]) (rest := []) ⟨hx, hb, hml, hown, hts⟩ (m_in l dC dI p1 0 7) (va_cwS 3 hts gX12_shortOf_X12_in rfl rfl rfl (by decide +kernel) ⟨Nat.le_of_ble_eq_true rfl, Nat.le_of_ble_eq_true rfl⟩) ⟨pw_fb, fun U hU hW => ⟨rfl, pw_to hU hW (hP.sub (ws' := []) [] rfl) (hK.sub (tys' := []) [] rfl) hN⟩⟩ rfl rfl hl.1 rfl (lv_room (Nat.le_of_ble_eq_true rfl)) dX12_shortOf_11 ⟨Nat.le_of_ble_eq_true rfl, Nat.le_of_ble_eq_true rfl⟩).run (fun r hw => ?_)
    rcases Bool.eq_false_or_eq_true (bw p1 0 7) with b_3 | b_3
    ·
      obtain rfl : r = 1 := b_t hw b_3
      refine lv_if_ne (tgt := 19) hx hb dX12_shortOf_14 (by decide) (fun c_4 => ?_) (fun c_4 => absurd c_4 (by decide))
      refine lv_iconst (v := 0) hx hb dX12_shortOf_19 (by decide) ?_
      refine lv_istore_n (lv' := [(3, .int 0), (0, .ref h0), (1, .int p0), (2, .int p1)]) hx hb dX12_shortOf_20 rfl hl (by decide) rfl (fun ls hl => ?_)
      refine lv_iconst (v := 0) hx hb dX12_shortOf_21 (by decide) ?_
      refine lv_istore (lv' := [(4, .int 0), (3, .int 0), (0, .ref h0), (1, .int p0), (2, .int p1)]) hx hb dX12_shortOf_22 hl (by decide) rfl (fun ls hl => ?_)
      obtain ⟨eK, eK2, eK3⟩ := nI_of_bw (hln _ (vlt (vin8 b_1 b_3)))
      have h60 : (60 : Int32).toInt = 60 := rfl
      refine m_shortOf_loop (K := (u.2 0 (8 * p0 + p1).toNatClampNeg).toNatClampNeg) hx hb hml hts hown hN hK (Nat.le_of_ble_eq_true rfl) (Nat.le_of_ble_eq_true rfl) (Nat.le_of_ble_eq_true rfl) (Nat.le_of_ble_eq_true rfl) hP b_1 b_3 (by omega) eK (fun a ls hg hl => ?_) _ 0 0 ls (Nat.zero_le _) (Nat.lt_succ_self _) rfl (lv_sub hl [0, 1, 2, 3, 4] rfl)
      refine lv_iload_n hx hb dX12_shortOf_71 rfl (lv_at hl 1 rfl) ?_
      exact W.iret (v := a) hx hb hr (fun t ht hW => ⟨_, rfl, (by unfold mShort; rw [if_pos b_1, if_pos b_3]; exact hg), ht⟩) (fun q h => absurd h List.not_mem_nil) dX12_shortOf_72
    ·
      obtain rfl : r = 0 := b_f hw b_3
      refine lv_if_ne (tgt := 19) hx hb dX12_shortOf_14 (by decide) (fun c_5 => absurd (by decide) c_5) (fun c_5 => ?_)
      refine lv_iconst (v := (-1)) hx hb dX12_shortOf_17 (by decide) ?_
      exact W.iret (v := (-1)) hx hb hr (fun t ht hW => ⟨_, rfl, (by first | (unfold mShort; rw [if_pos b_1, if_neg (bne b_3)]; done) | (unfold mShort; rw [if_pos b_1, if_neg (bne b_3)]; rfl) | (simp [mShort, b_1, b_3]; done)), ht⟩) (fun q h => absurd h List.not_mem_nil) dX12_shortOf_18
  ·
    obtain rfl : r = 0 := b_f hw b_1
    refine lv_if_eq (tgt := 17) hx hb dX12_shortOf_4 (by decide) (fun c_6 => ?_) (fun c_6 => absurd (by decide) c_6)
    refine lv_iconst (v := (-1)) hx hb dX12_shortOf_17 (by decide) ?_
    exact W.iret (v := (-1)) hx hb hr (fun t ht hW => ⟨_, rfl, (by first | (unfold mShort; rw [if_neg (bne b_1)]; done) | (unfold mShort; rw [if_neg (bne b_1)]; rfl) | (simp [mShort, b_1]; done)), ht⟩) (fun q h => absurd h List.not_mem_nil) dX12_shortOf_18
set_option maxHeartbeats 4000000 in
set_option maxRecDepth 100000 in
theorem m_hasPiece_loop {p : Program} {l : Launch} {e : Env} {R : Room} {s : State} {m : MethodId} {args : Array Value} {below : List Frame} {meth : Method} {c : Code} {Q : State → Prop} {cells slots : Nat} {dC : Nat → ClassId} {dI : Nat → Nat → Nat} {h0 : Nat} {v : Nat → Nat} {cI cZ : ClassId} {H : Heap} {locs : List Loc} {u : mS} (hx : p.tables.exec = Jvm.exec) (hb : c.code = cX12_hasPiece) (hml : c.maxLocals = 4) (hts : ∀ w ∈ wsX12_hasPiece, w.before args s = true) (hown : s.vm.findClass RX12 = some m.cls) (hN : NN s) (hK : va_K (dC, dI) vwCl [(cI, .int), (cZ, .boolean)] s) (hP : va_P (dC, dI) vwCl (mW h0 v cI cZ u) H) {p0 : Int32} (hp : bw p0 0 11 = true) (kx : ∀ (a : Int32) (ls : Array Slot), a = bi (mHas (u.2 2) (480 * p0) 480) → lv_has ls 4 [(3, .int (nI 480)), (2, .int a), (0, .ref h0), (1, .int p0)] → W p l e R s m args below meth c H locs cells slots Q (F0 m 59 ls [])) : ∀ (k i : Nat) (a : Int32) (ls : Array Slot), i ≤ 480 → 480 - i < k → a = bi (mHas (u.2 2) (480 * p0) i) → lv_has ls 4 [(3, .int (nI i)), (2, .int a), (0, .ref h0), (1, .int p0)] → W p l e R s m args below meth c H locs cells slots Q (F0 m 4 ls []) := by
  intro k
  induction k with
  | zero => intro i a ls h1 h2; exact absurd h2 (Nat.not_lt_zero _)
  | succ k ih =>
    intro i a ls hi hk hg hl
    refine lv_iload_n hx hb dX12_hasPiece_4 rfl (lv_at hl 0 rfl) ?_
    refine lv_sipush (v := 480) hx hb dX12_hasPiece_5 (by decide) ?_
    refine lv_icmp_ge (tgt := 59) hx hb dX12_hasPiece_8 (by decide) (fun c_1 => ?_) (fun c_1 => ?_)
    ·
      have hie : i = 480 := lp_eq rfl (by decide) hi c_1
      subst hie
      exact kx _ ls hg (lv_sub hl [0, 1, 2, 3] rfl)
    ·
      have hlt : i < 480 := lp_lt rfl (by decide) hi c_1
      refine lv_iload_n hx hb dX12_hasPiece_11 rfl (lv_at hl 1 rfl) ?_
      refine lv_if_ne (tgt := 47) hx hb dX12_hasPiece_12 (by decide) (fun c_2 => ?_) (fun c_2 => ?_)
      ·
        refine lv_iconst (v := 1) hx hb dX12_hasPiece_47 (by decide) ?_
        refine lv_goto (tgt := 52) hx hb dX12_hasPiece_48 (by decide) ?_
        refine lv_istore_n (lv' := [(2, .int 1), (3, .int (nI i)), (0, .ref h0), (1, .int p0)]) hx hb dX12_hasPiece_52 rfl hl (by decide) rfl (fun ls hl => ?_)
        refine lv_iinc (v := (nI (i + 1))) (lv' := [(3, .int (nI (i + 1))), (2, .int 1), (0, .ref h0), (1, .int p0)]) hx hb dX12_hasPiece_53 hl (k := 1) rfl (nI_1 i) (by decide) rfl (fun ls hl => ?_)
        refine lv_goto (tgt := 4) hx hb dX12_hasPiece_56 (by decide) ?_
        exact ih (i + 1) _ ls (by omega) (by omega) (by rw [mHas, nz hg c_2]; rfl) (lv_sub hl [0, 1, 2, 3] rfl)
      ·
        refine lv_aload_n hx hb dX12_hasPiece_15 rfl (lv_at hl 2 rfl) ?_
        refine va_get (D := (dC, dI)) (ci := 11) (v := .ref (v 2)) (C := RX12) (T := TX12) (N := 52) hx hb hts (by decide +kernel) hown hK hP 0 rfl rfl 2 (by decide) (hts (.fieldLink RX12 16 "PageOneModel" "cell" "[I") (by decide +kernel)) (fun _ h9 => h9) rfl dX12_hasPiece_16 ?_
        refine lv_sipush (v := 480) hx hb dX12_hasPiece_19 (by decide) ?_
        refine lv_iload_n hx hb dX12_hasPiece_22 rfl (lv_at hl 3 rfl) ?_
        refine lv_imul hx hb dX12_hasPiece_23 ?_
        refine lv_iload_n hx hb dX12_hasPiece_24 rfl (lv_at hl 0 rfl) ?_
        refine lv_iadd hx hb dX12_hasPiece_25 ?_
        refine va_iald hx hb hK hP 3 0 rfl rfl (vinP hp hlt) dX12_hasPiece_26 ?_
        refine lv_if_lt (tgt := 51) hx hb dX12_hasPiece_27 (by decide) (fun c_3 => ?_) (fun c_3 => ?_)
        ·
          refine lv_iconst (v := 0) hx hb dX12_hasPiece_51 (by decide) ?_
          refine lv_istore_n (lv' := [(2, .int 0), (3, .int (nI i)), (0, .ref h0), (1, .int p0)]) hx hb dX12_hasPiece_52 rfl hl (by decide) rfl (fun ls hl => ?_)
          refine lv_iinc (v := (nI (i + 1))) (lv' := [(3, .int (nI (i + 1))), (2, .int 0), (0, .ref h0), (1, .int p0)]) hx hb dX12_hasPiece_53 hl (k := 1) rfl (nI_1 i) (by decide) rfl (fun ls hl => ?_)
          refine lv_goto (tgt := 4) hx hb dX12_hasPiece_56 (by decide) ?_
          exact ih (i + 1) _ ls (by omega) (by omega) (by rw [mHas, zz0 hg c_2]; simp [bi, c_3]) (lv_sub hl [0, 1, 2, 3] rfl)
        ·
          refine lv_aload_n hx hb dX12_hasPiece_30 rfl (lv_at hl 2 rfl) ?_
          refine va_get (D := (dC, dI)) (ci := 11) (v := .ref (v 2)) (C := RX12) (T := TX12) (N := 52) hx hb hts (by decide +kernel) hown hK hP 0 rfl rfl 2 (by decide) (hts (.fieldLink RX12 16 "PageOneModel" "cell" "[I") (by decide +kernel)) (fun _ h9 => h9) rfl dX12_hasPiece_31 ?_
          refine lv_sipush (v := 480) hx hb dX12_hasPiece_34 (by decide) ?_
          refine lv_iload_n hx hb dX12_hasPiece_37 rfl (lv_at hl 3 rfl) ?_
          refine lv_imul hx hb dX12_hasPiece_38 ?_
          refine lv_iload_n hx hb dX12_hasPiece_39 rfl (lv_at hl 0 rfl) ?_
          refine lv_iadd hx hb dX12_hasPiece_40 ?_
          refine va_iald hx hb hK hP 3 0 rfl rfl (vinP hp hlt) dX12_hasPiece_41 ?_
          refine lv_bipush (v := 100) hx hb dX12_hasPiece_42 (by decide) ?_
          refine lv_icmp_eq (tgt := 51) hx hb dX12_hasPiece_44 (by decide) (fun c_4 => ?_) (fun c_4 => ?_)
          ·
            refine lv_iconst (v := 0) hx hb dX12_hasPiece_51 (by decide) ?_
            refine lv_istore_n (lv' := [(2, .int 0), (3, .int (nI i)), (0, .ref h0), (1, .int p0)]) hx hb dX12_hasPiece_52 rfl hl (by decide) rfl (fun ls hl => ?_)
            refine lv_iinc (v := (nI (i + 1))) (lv' := [(3, .int (nI (i + 1))), (2, .int 0), (0, .ref h0), (1, .int p0)]) hx hb dX12_hasPiece_53 hl (k := 1) rfl (nI_1 i) (by decide) rfl (fun ls hl => ?_)
            refine lv_goto (tgt := 4) hx hb dX12_hasPiece_56 (by decide) ?_
            exact ih (i + 1) _ ls (by omega) (by omega) (by rw [mHas, zz0 hg c_2]; simp [bi, c_3, c_4]) (lv_sub hl [0, 1, 2, 3] rfl)
          ·
            refine lv_iconst (v := 1) hx hb dX12_hasPiece_47 (by decide) ?_
            refine lv_goto (tgt := 52) hx hb dX12_hasPiece_48 (by decide) ?_
            refine lv_istore_n (lv' := [(2, .int 1), (3, .int (nI i)), (0, .ref h0), (1, .int p0)]) hx hb dX12_hasPiece_52 rfl hl (by decide) rfl (fun ls hl => ?_)
            refine lv_iinc (v := (nI (i + 1))) (lv' := [(3, .int (nI (i + 1))), (2, .int 1), (0, .ref h0), (1, .int p0)]) hx hb dX12_hasPiece_53 hl (k := 1) rfl (nI_1 i) (by decide) rfl (fun ls hl => ?_)
            refine lv_goto (tgt := 4) hx hb dX12_hasPiece_56 (by decide) ?_
            exact ih (i + 1) _ ls (by omega) (by omega) (by rw [mHas, zz0 hg c_2]; simp [bi, c_3, c_4]) (lv_sub hl [0, 1, 2, 3] rfl)
set_option maxHeartbeats 4000000 in
set_option maxRecDepth 100000 in
theorem m_hasPiece (l : Launch) (dC : Nat → ClassId) (dI : Nat → Nat → Nat) (h0 : Nat) (v : Nat → Nat) (cI cZ : ClassId) (u : mS) (p0 : Int32) (hp : bw p0 0 11 = true) : Met l yX12_hasPiece wsX12_hasPiece ({ frames := 0, cells := 0, slots := 0, locals := 0 }) (va_Pc [.ref h0, .int p0] (PW dC dI (mW h0 v cI cZ u) [(cI, .int), (cZ, .boolean)])) (vp_Si (fun r => r = bi (mHas (u.2 2) (480 * p0) 480))) 0 0 (fun _ => False) := by
  refine Met.ofW (cc := cX12_hasPiece) (maxL := 4) (ret := (some .boolean)) (by decide) rfl ?_
  intro p e s m args below meth c s₁ B hml hv
  obtain ⟨rfl, hP, hK, hN⟩ := hv
  have hx := B.exec
  have hb := B.bytes
  have hr := B.returns
  have hts := atoms_spec (ws := wsX12_hasPiece) B.pre
  have hown : s.vm.findClass RX12 = some m.cls := findClass_of_methodNamed B.named
  have hlocks := B.notSynchronized
  have hl := lv_entry ([.ref h0, .int p0]) (n := 4) (Nat.le_of_ble_eq_true rfl)
  rw [lg_entry_eq]
  generalize (lg_sl ([.ref h0, .int p0]) ++ List.replicate (4 - (lg_sl ([.ref h0, .int p0])).length) Slot.unset).toArray = ls at hl ⊢
  have hl : lv_has ls 4 [(0, .ref h0), (1, .int p0)] := hl
  refine lv_iconst (v := 0) hx hb dX12_hasPiece_0 (by decide) ?_
  refine lv_istore_n (lv' := [(2, .int 0), (0, .ref h0), (1, .int p0)]) hx hb dX12_hasPiece_1 rfl hl (by decide) rfl (fun ls hl => ?_)
  refine lv_iconst (v := 0) hx hb dX12_hasPiece_2 (by decide) ?_
  refine lv_istore_n (lv' := [(3, .int 0), (2, .int 0), (0, .ref h0), (1, .int p0)]) hx hb dX12_hasPiece_3 rfl hl (by decide) rfl (fun ls hl => ?_)
  refine m_hasPiece_loop hx hb hml hts hown hN hK hP hp (fun a ls hg hl => ?_) 481 0 0 ls (by decide) (by decide) rfl (lv_sub hl [0, 1, 2, 3] rfl)
  refine lv_iload_n hx hb dX12_hasPiece_59 rfl (lv_at hl 1 rfl) ?_
  exact W.zret (v := a) hx hb hr (by rw [hg]; exact zb _) (fun t ht hW => ⟨_, rfl, hg, ht⟩) (fun q h => absurd h List.not_mem_nil) dX12_hasPiece_60
set_option maxHeartbeats 4000000 in
set_option maxRecDepth 100000 in
theorem m_measure (l : Launch) (dC : Nat → ClassId) (dI : Nat → Nat → Nat) (h0 : Nat) (v : Nat → Nat) (cI cZ : ClassId) (u : mS) (p0 p1 : Int32) (sz : Nat) : Met l yX12_measure wsX12_measure ({ frames := 2, cells := 0, slots := 0, locals := 42 }) (va_Pc [.ref h0, .int p0, .int p1] (fun U => U.heap.size = sz ∧ PW dC dI (mW h0 v cI cZ u) [(cI, .int), (cZ, .boolean)] U ∧ va_D (fun _ => True) (mW h0 v cI cZ u))) (va_Qi (fun (r : Int32) (u9 : mS) => (r, u9) = mMeasure u p0 p1) (fun u9 t => va_P (dC, dI) vwCl (mW h0 v cI cZ u9) t.heap ∧ va_D (va_A (mW h0 v cI cZ u) sz) (mW h0 v cI cZ u9)) (va_A (mW h0 v cI cZ u) sz)) 0 0 (va_A (mW h0 v cI cZ u) sz) := by
  refine Met.ofW (cc := cX12_measure) (maxL := 3) (ret := (some .boolean)) (by decide) rfl ?_
  intro p e s m args below meth c s₁ B hml hv
  obtain ⟨rfl, hsz, ⟨hP, hK, hN⟩, hD0⟩ := hv
  have hx := B.exec
  have hb := B.bytes
  have hr := B.returns
  have hts := atoms_spec (ws := wsX12_measure) B.pre
  have hown : s.vm.findClass RX12 = some m.cls := findClass_of_methodNamed B.named
  have hlocks := B.notSynchronized
  subst hsz
  have hD := hD0.self (sz := s.heap.size)
  generalize hAe : va_A (mW h0 v cI cZ u) s.heap.size = A at hD ⊢
  have hA : ∀ q : Nat, s.heap.size ≤ q → A q := fun q h => by rw [← hAe]; exact Or.inr h
  have hS : va_S A s.heap s.heap [] := va_S.rf
  have hl := lv_entry ([.ref h0, .int p0, .int p1]) (n := 3) (Nat.le_of_ble_eq_true rfl)
  rw [lg_entry_eq]
  generalize (lg_sl ([.ref h0, .int p0, .int p1]) ++ List.replicate (3 - (lg_sl ([.ref h0, .int p0, .int p1])).length) Slot.unset).toArray = ls at hl ⊢
  have hl : lv_has ls 3 [(0, .ref h0), (1, .int p0), (2, .int p1)] := hl
  refine lv_iload_n hx hb dX12_measure_0 rfl (lv_at hl 1 rfl) ?_
  refine vp_callSi (va_runS (As := [.int p0]) (rest := []) ⟨hx, hb, hml, hown, hts⟩ (m_isPage l dC dI p0) (va_cwS 1 hts gX12_measure_X12_isPage rfl rfl rfl (by decide +kernel) ⟨Nat.le_of_ble_eq_true rfl, Nat.le_of_ble_eq_true rfl⟩) ⟨pw_fb, fun U hU hW => ⟨rfl, pw_to hU hW (hP.sub (ws' := []) [] rfl) (hK.sub (tys' := []) [] rfl) hN⟩⟩ rfl rfl hl.1 rfl (lv_room (Nat.le_of_ble_eq_true rfl)) dX12_measure_1 ⟨Nat.le_of_ble_eq_true rfl, Nat.le_of_ble_eq_true rfl⟩).run (fun r hw => ?_)
  rcases Bool.eq_false_or_eq_true (bw p0 0 11) with b_1 | b_1
  ·
    obtain rfl : r = 1 := b_t hw b_1
    refine lv_if_eq (tgt := 33) hx hb dX12_measure_4 (by decide) (fun c_2 => absurd c_2 (by decide)) (fun c_2 => ?_)
    refine lv_iload_n hx hb dX12_measure_7 rfl (lv_at hl 2 rfl) ?_
    refine lv_iconst (v := 1) hx hb dX12_measure_8 (by decide) ?_
    refine lv_sipush (v := 200) hx hb dX12_measure_9 (by decide) ?_
    refine vp_callSi (va_runS (As := [.int p1, .int 1, .int 200]) (rest := []) ⟨hx, hb, hml, hown, hts⟩ (m_in l dC dI p1 1 200) (va_cwS 3 hts gX12_measure_X12_in rfl rfl rfl (by decide +kernel) ⟨Nat.le_of_ble_eq_true rfl, Nat.le_of_ble_eq_true rfl⟩) ⟨pw_fb, fun U hU hW => ⟨rfl, pw_to hU hW (hP.sub (ws' := []) [] rfl) (hK.sub (tys' := []) [] rfl) hN⟩⟩ rfl rfl hl.1 rfl (lv_room (Nat.le_of_ble_eq_true rfl)) dX12_measure_12 ⟨Nat.le_of_ble_eq_true rfl, Nat.le_of_ble_eq_true rfl⟩).run (fun r hw => ?_)
    rcases Bool.eq_false_or_eq_true (bw p1 1 200) with b_3 | b_3
    ·
      obtain rfl : r = 1 := b_t hw b_3
      refine lv_if_eq (tgt := 33) hx hb dX12_measure_15 (by decide) (fun c_4 => absurd c_4 (by decide)) (fun c_4 => ?_)
      refine lv_aload_n hx hb dX12_measure_18 rfl (lv_at hl 0 rfl) ?_
      refine va_get (D := (dC, dI)) (ci := 11) (v := .int (u.1 28)) (C := RX12) (T := TX12) (N := 52) hx hb hts (by decide +kernel) hown hK hP 0 rfl rfl 28 (by decide) (hts (.fieldLink RX12 158 "PageOneModel" "acts" "I") (by decide +kernel)) (fun _ h9 => h9) rfl dX12_measure_19 ?_
      refine lv_if_gt (tgt := 33) hx hb dX12_measure_22 (by decide) (fun c_5 => ?_) (fun c_5 => ?_)
      ·
        refine lv_iconst (v := 0) hx hb dX12_measure_33 (by decide) ?_
        exact W.zret (v := 0) hx hb hr (by decide) (fun t ht hW => ⟨⟨0, u, rfl, (by unfold mMeasure; rw [if_pos b_1, if_pos b_3, if_pos c_5]), by rw [ht]; exact hP, hD⟩, hS.F ht⟩) hS.2.2 dX12_measure_34
      ·
        refine lv_aload_n hx hb dX12_measure_25 rfl (lv_at hl 0 rfl) ?_
        refine lv_iload_n hx hb dX12_measure_26 rfl (lv_at hl 1 rfl) ?_
        refine vp_callSi (va_runV (As := [.int p0]) (rest := []) ⟨hx, hb, hml, hown, hts⟩ (m_hasPiece l dC dI h0 v cI cZ u p0 b_1) (cwV 1 hts gX12_measure_X12_hasPiece rfl rfl rfl (by decide +kernel) ⟨Nat.le_of_ble_eq_true rfl, Nat.le_of_ble_eq_true rfl⟩) ⟨pw_fb, va_recv hK hP (ci := 11) (q0 := 0) rfl rfl, fun U hU hW => ⟨rfl, pw_to hU hW hP hK hN⟩⟩ rfl rfl hl.1 rfl (lv_room (Nat.le_of_ble_eq_true rfl)) dX12_measure_27 ⟨Nat.le_of_ble_eq_true rfl, Nat.le_of_ble_eq_true rfl⟩).run (fun r hw => ?_)
        rcases Bool.eq_false_or_eq_true (mHas (u.2 2) (480 * p0) 480) with b_6 | b_6
        ·
          obtain rfl : r = 1 := b_t hw b_6
          refine lv_if_eq (tgt := 35) hx hb dX12_measure_30 (by decide) (fun c_7 => absurd c_7 (by decide)) (fun c_7 => ?_)
          refine lv_iconst (v := 0) hx hb dX12_measure_33 (by decide) ?_
          exact W.zret (v := 0) hx hb hr (by decide) (fun t ht hW => ⟨⟨0, u, rfl, (by unfold mMeasure; rw [if_pos b_1, if_pos b_3, if_neg c_5, if_pos b_6]), by rw [ht]; exact hP, hD⟩, hS.F ht⟩) hS.2.2 dX12_measure_34
        ·
          obtain rfl : r = 0 := b_f hw b_6
          refine lv_if_eq (tgt := 35) hx hb dX12_measure_30 (by decide) (fun c_8 => ?_) (fun c_8 => absurd (by decide) c_8)
          refine lv_aload_n hx hb dX12_measure_35 rfl (lv_at hl 0 rfl) ?_
          refine va_get (D := (dC, dI)) (ci := 11) (v := .ref (v 1)) (C := RX12) (T := TX12) (N := 52) hx hb hts (by decide +kernel) hown hK hP 0 rfl rfl 1 (by decide) (hts (.fieldLink RX12 13 "PageOneModel" "measure" "[I") (by decide +kernel)) (fun _ h9 => h9) rfl dX12_measure_36 ?_
          refine lv_iload_n hx hb dX12_measure_39 rfl (lv_at hl 1 rfl) ?_
          refine lv_iload_n hx hb dX12_measure_40 rfl (lv_at hl 2 rfl) ?_
          refine va_iast hx hb hK hP hD hS 2 0 rfl rfl (vin b_1 (by decide)) dX12_measure_41 (fun H locs hP hD hS => ?_)
          obtain ⟨u_9, eu_9⟩ : ∃ zz : mS, zz = mst u 1 p0 p1 := ⟨_, rfl⟩
          have hP : va_P (dC, dI) vwCl (mW h0 v cI cZ u_9) H := by rw [eu_9]; exact hP
          have hD : va_D A (mW h0 v cI cZ u_9) := by rw [eu_9]; exact hD
          refine lv_iconst (v := 1) hx hb dX12_measure_42 (by decide) ?_
          exact W.zret (v := 1) hx hb hr (by decide) (fun t ht hW => ⟨⟨1, u_9, rfl, (by rw [eu_9]; unfold mMeasure; rw [if_pos b_1, if_pos b_3, if_neg c_5, if_neg (bne b_6)]), by rw [ht]; exact hP, hD⟩, hS.F ht⟩) hS.2.2 dX12_measure_43
    ·
      obtain rfl : r = 0 := b_f hw b_3
      refine lv_if_eq (tgt := 33) hx hb dX12_measure_15 (by decide) (fun c_10 => ?_) (fun c_10 => absurd (by decide) c_10)
      refine lv_iconst (v := 0) hx hb dX12_measure_33 (by decide) ?_
      exact W.zret (v := 0) hx hb hr (by decide) (fun t ht hW => ⟨⟨0, u, rfl, (by unfold mMeasure; rw [if_pos b_1, if_neg (bne b_3)]), by rw [ht]; exact hP, hD⟩, hS.F ht⟩) hS.2.2 dX12_measure_34
  ·
    obtain rfl : r = 0 := b_f hw b_1
    refine lv_if_eq (tgt := 33) hx hb dX12_measure_4 (by decide) (fun c_11 => ?_) (fun c_11 => absurd (by decide) c_11)
    refine lv_iconst (v := 0) hx hb dX12_measure_33 (by decide) ?_
    exact W.zret (v := 0) hx hb hr (by decide) (fun t ht hW => ⟨⟨0, u, rfl, (by unfold mMeasure; rw [if_neg (bne b_1)]), by rw [ht]; exact hP, hD⟩, hS.F ht⟩) hS.2.2 dX12_measure_34
set_option maxHeartbeats 4000000 in
set_option maxRecDepth 100000 in
theorem m_column_loop {p : Program} {l : Launch} {e : Env} {R : Room} {s : State} {m : MethodId} {args : Array Value} {below : List Frame} {meth : Method} {c : Code} {Q : State → Prop} {cells slots : Nat} {dC : Nat → ClassId} {dI : Nat → Nat → Nat} {h0 : Nat} {v : Nat → Nat} {cI cZ : ClassId} {H : Heap} {locs : List Loc} {u : mS} (hx : p.tables.exec = Jvm.exec) (hb : c.code = cX12_column) (hml : c.maxLocals = 5) (hts : ∀ w ∈ wsX12_column, w.before args s = true) (hown : s.vm.findClass RX12 = some m.cls) (hN : NN s) (hK : va_K (dC, dI) vwCl [(cI, .int), (cZ, .boolean)] s) (hRf : 1 ≤ R.frames) (hRl : 22 ≤ R.locals) (hRc : cells ≤ R.cells) (hRs : slots ≤ R.slots) (hP : va_P (dC, dI) vwCl (mW h0 v cI cZ u) H) {p0 p1 p2 : Int32} (hp : bw p0 0 11 = true) (hq : bw p1 0 7 = true) (kx63 : ∀ (i : Nat) (ls : Array Slot), i < 60 → ¬ u.2 2 (480 * p0 + 60 * p1 + nI i).toNatClampNeg = (-2) → (∀ j, j < i → u.2 2 (480 * p0 + 60 * p1 + nI j).toNatClampNeg = (-2)) → lv_has ls 5 [(4, .int (nI i)), (0, .ref h0), (1, .int p0), (2, .int p1), (3, .int p2)] → W p l e R s m args below meth c H locs cells slots Q (F0 m 63 ls [])) (kx : ∀ (ls : Array Slot), (∀ j, j < 60 → u.2 2 (480 * p0 + 60 * p1 + nI j).toNatClampNeg = (-2)) → lv_has ls 5 [(4, .int (nI 60)), (0, .ref h0), (1, .int p0), (2, .int p1), (3, .int p2)] → W p l e R s m args below meth c H locs cells slots Q (F0 m 71 ls [])) : ∀ (k i : Nat) (ls : Array Slot), i ≤ 60 → 60 - i < k → (∀ j, j < i → u.2 2 (480 * p0 + 60 * p1 + nI j).toNatClampNeg = (-2)) → lv_has ls 5 [(4, .int (nI i)), (0, .ref h0), (1, .int p0), (2, .int p1), (3, .int p2)] → W p l e R s m args below meth c H locs cells slots Q (F0 m 39 ls []) := by
  intro k
  induction k with
  | zero => intro i ls h1 h2; exact absurd h2 (Nat.not_lt_zero _)
  | succ k ih =>
    intro i ls hi hk hg hl
    refine lv_iload hx hb dX12_column_39 (lv_at hl 0 rfl) ?_
    refine lv_bipush (v := 60) hx hb dX12_column_41 (by decide) ?_
    refine lv_icmp_ge (tgt := 71) hx hb dX12_column_43 (by decide) (fun c_1 => ?_) (fun c_1 => ?_)
    ·
      have hie : i = 60 := lp_eq rfl (by decide) hi c_1
      subst hie
      exact kx ls hg (lv_sub hl [0, 1, 2, 3, 4] rfl)
    ·
      have hlt : i < 60 := lp_lt rfl (by decide) hi c_1
      refine lv_aload_n hx hb dX12_column_46 rfl (lv_at hl 1 rfl) ?_
      refine va_get (D := (dC, dI)) (ci := 11) (v := .ref (v 2)) (C := RX12) (T := TX12) (N := 52) hx hb hts (by decide +kernel) hown hK hP 0 rfl rfl 2 (by decide) (hts (.fieldLink RX12 16 "PageOneModel" "cell" "[I") (by decide +kernel)) (fun _ h9 => h9) rfl dX12_column_47 ?_
      refine lv_iload_n hx hb dX12_column_50 rfl (lv_at hl 2 rfl) ?_
      refine lv_iload_n hx hb dX12_column_51 rfl (lv_at hl 3 rfl) ?_
      refine lv_iload hx hb dX12_column_52 (lv_at hl 0 rfl) ?_
      refine vp_callSi (va_runS (As := [.int p0, .int p1, .int (nI i)]) (rest := [.ref (v 2)]) ⟨hx, hb, hml, hown, hts⟩ (m_at l dC dI p0 p1 (nI i)) (va_cwS 3 hts gX12_column_X12_at rfl rfl rfl (by decide +kernel) ⟨hRf, hRl⟩) ⟨pw_fb, fun U hU hW => ⟨rfl, pw_to hU hW (hP.sub (ws' := []) [] rfl) (hK.sub (tys' := []) [] rfl) hN⟩⟩ rfl rfl hl.1 rfl (lv_room (Nat.le_of_ble_eq_true rfl)) dX12_column_54 ⟨hRc, hRs⟩).run (fun r hw => ?_)
      obtain rfl : r = (480 * p0 + 60 * p1 + (nI i)) := hw
      refine va_iald hx hb hK hP 3 0 rfl rfl (vinC hp hq hlt) dX12_column_57 ?_
      refine lv_bipush (v := (-2)) hx hb dX12_column_58 (by decide) ?_
      refine lv_icmp_eq (tgt := 65) hx hb dX12_column_60 (by decide) (fun c_2 => ?_) (fun c_2 => ?_)
      ·
        refine lv_iinc (v := (nI (i + 1))) (lv' := [(4, .int (nI (i + 1))), (0, .ref h0), (1, .int p0), (2, .int p1), (3, .int p2)]) hx hb dX12_column_65 hl (k := 0) rfl (nI_1 i) (by decide) rfl (fun ls hl => ?_)
        refine lv_goto (tgt := 39) hx hb dX12_column_68 (by decide) ?_
        exact ih (i + 1) ls (by omega) (by omega) (lt_s hg c_2) (lv_sub hl [0, 1, 2, 3, 4] rfl)
      ·
        exact kx63 i ls hlt c_2 hg (lv_sub hl [0, 1, 2, 3, 4] rfl)
set_option maxHeartbeats 4000000 in
set_option maxRecDepth 100000 in
theorem m_column (l : Launch) (dC : Nat → ClassId) (dI : Nat → Nat → Nat) (h0 : Nat) (v : Nat → Nat) (cI cZ : ClassId) (u : mS) (p0 p1 p2 : Int32) (sz : Nat) : Met l yX12_column wsX12_column ({ frames := 2, cells := 0, slots := 0, locals := 42 }) (va_Pc [.ref h0, .int p0, .int p1, .int p2] (fun U => U.heap.size = sz ∧ PW dC dI (mW h0 v cI cZ u) [(cI, .int), (cZ, .boolean)] U ∧ va_D (fun _ => True) (mW h0 v cI cZ u))) (va_Qi (fun (r : Int32) (u9 : mS) => (r, u9) = mColumn u p0 p1 p2) (fun u9 t => va_P (dC, dI) vwCl (mW h0 v cI cZ u9) t.heap ∧ va_D (va_A (mW h0 v cI cZ u) sz) (mW h0 v cI cZ u9)) (va_A (mW h0 v cI cZ u) sz)) 0 0 (va_A (mW h0 v cI cZ u) sz) := by
  refine Met.ofW (cc := cX12_column) (maxL := 5) (ret := (some .boolean)) (by decide) rfl ?_
  intro p e s m args below meth c s₁ B hml hv
  obtain ⟨rfl, hsz, ⟨hP, hK, hN⟩, hD0⟩ := hv
  have hx := B.exec
  have hb := B.bytes
  have hr := B.returns
  have hts := atoms_spec (ws := wsX12_column) B.pre
  have hown : s.vm.findClass RX12 = some m.cls := findClass_of_methodNamed B.named
  have hlocks := B.notSynchronized
  subst hsz
  have hD := hD0.self (sz := s.heap.size)
  generalize hAe : va_A (mW h0 v cI cZ u) s.heap.size = A at hD ⊢
  have hA : ∀ q : Nat, s.heap.size ≤ q → A q := fun q h => by rw [← hAe]; exact Or.inr h
  have hS : va_S A s.heap s.heap [] := va_S.rf
  have hl := lv_entry ([.ref h0, .int p0, .int p1, .int p2]) (n := 5) (Nat.le_of_ble_eq_true rfl)
  rw [lg_entry_eq]
  generalize (lg_sl ([.ref h0, .int p0, .int p1, .int p2]) ++ List.replicate (5 - (lg_sl ([.ref h0, .int p0, .int p1, .int p2])).length) Slot.unset).toArray = ls at hl ⊢
  have hl : lv_has ls 5 [(0, .ref h0), (1, .int p0), (2, .int p1), (3, .int p2)] := hl
  refine lv_iload_n hx hb dX12_column_0 rfl (lv_at hl 1 rfl) ?_
  refine vp_callSi (va_runS (As := [.int p0]) (rest := []) ⟨hx, hb, hml, hown, hts⟩ (m_isPage l dC dI p0) (va_cwS 1 hts gX12_column_X12_isPage rfl rfl rfl (by decide +kernel) ⟨Nat.le_of_ble_eq_true rfl, Nat.le_of_ble_eq_true rfl⟩) ⟨pw_fb, fun U hU hW => ⟨rfl, pw_to hU hW (hP.sub (ws' := []) [] rfl) (hK.sub (tys' := []) [] rfl) hN⟩⟩ rfl rfl hl.1 rfl (lv_room (Nat.le_of_ble_eq_true rfl)) dX12_column_1 ⟨Nat.le_of_ble_eq_true rfl, Nat.le_of_ble_eq_true rfl⟩).run (fun r hw => ?_)
  rcases Bool.eq_false_or_eq_true (bw p0 0 11) with b_1 | b_1
  ·
    obtain rfl : r = 1 := b_t hw b_1
    refine lv_if_eq (tgt := 34) hx hb dX12_column_4 (by decide) (fun c_2 => absurd c_2 (by decide)) (fun c_2 => ?_)
    refine lv_iload_n hx hb dX12_column_7 rfl (lv_at hl 2 rfl) ?_
    refine lv_iconst (v := 0) hx hb dX12_column_8 (by decide) ?_
    refine lv_bipush (v := 7) hx hb dX12_column_9 (by decide) ?_
    refine vp_callSi (va_runS (As := [.int p1, .int 0, .int 7]) (rest := []) ⟨hx, hb, hml, hown, hts⟩ (m_in l dC dI p1 0 7) (va_cwS 3 hts gX12_column_X12_in rfl rfl rfl (by decide +kernel) ⟨Nat.le_of_ble_eq_true rfl, Nat.le_of_ble_eq_true rfl⟩) ⟨pw_fb, fun U hU hW => ⟨rfl, pw_to hU hW (hP.sub (ws' := []) [] rfl) (hK.sub (tys' := []) [] rfl) hN⟩⟩ rfl rfl hl.1 rfl (lv_room (Nat.le_of_ble_eq_true rfl)) dX12_column_11 ⟨Nat.le_of_ble_eq_true rfl, Nat.le_of_ble_eq_true rfl⟩).run (fun r hw => ?_)
    rcases Bool.eq_false_or_eq_true (bw p1 0 7) with b_3 | b_3
    ·
      obtain rfl : r = 1 := b_t hw b_3
      refine lv_if_eq (tgt := 34) hx hb dX12_column_14 (by decide) (fun c_4 => absurd c_4 (by decide)) (fun c_4 => ?_)
      refine lv_iload_n hx hb dX12_column_17 rfl (lv_at hl 3 rfl) ?_
      refine lv_iconst (v := 0) hx hb dX12_column_18 (by decide) ?_
      refine lv_bipush (v := 60) hx hb dX12_column_19 (by decide) ?_
      refine vp_callSi (va_runS (As := [.int p2, .int 0, .int 60]) (rest := []) ⟨hx, hb, hml, hown, hts⟩ (m_in l dC dI p2 0 60) (va_cwS 3 hts gX12_column_X12_in rfl rfl rfl (by decide +kernel) ⟨Nat.le_of_ble_eq_true rfl, Nat.le_of_ble_eq_true rfl⟩) ⟨pw_fb, fun U hU hW => ⟨rfl, pw_to hU hW (hP.sub (ws' := []) [] rfl) (hK.sub (tys' := []) [] rfl) hN⟩⟩ rfl rfl hl.1 rfl (lv_room (Nat.le_of_ble_eq_true rfl)) dX12_column_21 ⟨Nat.le_of_ble_eq_true rfl, Nat.le_of_ble_eq_true rfl⟩).run (fun r hw => ?_)
      rcases Bool.eq_false_or_eq_true (bw p2 0 60) with b_5 | b_5
      ·
        obtain rfl : r = 1 := b_t hw b_5
        refine lv_if_eq (tgt := 34) hx hb dX12_column_24 (by decide) (fun c_6 => absurd c_6 (by decide)) (fun c_6 => ?_)
        refine lv_aload_n hx hb dX12_column_27 rfl (lv_at hl 0 rfl) ?_
        refine va_get (D := (dC, dI)) (ci := 11) (v := .int (u.1 28)) (C := RX12) (T := TX12) (N := 52) hx hb hts (by decide +kernel) hown hK hP 0 rfl rfl 28 (by decide) (hts (.fieldLink RX12 158 "PageOneModel" "acts" "I") (by decide +kernel)) (fun _ h9 => h9) rfl dX12_column_28 ?_
        refine lv_if_le (tgt := 36) hx hb dX12_column_31 (by decide) (fun c_7 => ?_) (fun c_7 => ?_)
        ·
          refine lv_iconst (v := 0) hx hb dX12_column_36 (by decide) ?_
          refine lv_istore (lv' := [(4, .int 0), (0, .ref h0), (1, .int p0), (2, .int p1), (3, .int p2)]) hx hb dX12_column_37 hl (by decide) rfl (fun ls hl => ?_)
          refine m_column_loop (p2 := p2) hx hb hml hts hown hN hK (Nat.le_of_ble_eq_true rfl) (Nat.le_of_ble_eq_true rfl) (Nat.le_of_ble_eq_true rfl) (Nat.le_of_ble_eq_true rfl) hP b_1 b_3 (fun i ls hlt hne hg hl => ?_) (fun ls hg hl => ?_) 61 0 ls (by decide) (by decide) (fun j hj => absurd hj (Nat.not_lt_zero _)) (lv_sub hl [0, 1, 2, 3, 4] rfl)
          ·
            refine lv_iconst (v := 0) hx hb dX12_column_63 (by decide) ?_
            exact W.zret (v := 0) hx hb hr (by decide) (fun t ht hW => ⟨⟨0, u, rfl, (by unfold mColumn; rw [if_pos b_1, if_pos b_3, if_pos b_5, if_pos c_7, if_neg (bne (mBare_f hlt hne))]), by rw [ht]; exact hP, hD⟩, hS.F ht⟩) hS.2.2 dX12_column_64
          ·
            refine lv_aload_n hx hb dX12_column_71 rfl (lv_at hl 1 rfl) ?_
            refine va_get (D := (dC, dI)) (ci := 11) (v := .ref (v 0)) (C := RX12) (T := TX12) (N := 52) hx hb hts (by decide +kernel) hown hK hP 0 rfl rfl 0 (by decide) (hts (.fieldLink RX12 7 "PageOneModel" "lines" "[I") (by decide +kernel)) (fun _ h9 => h9) rfl dX12_column_72 ?_
            refine lv_bipush (v := 8) hx hb dX12_column_75 (by decide) ?_
            refine lv_iload_n hx hb dX12_column_77 rfl (lv_at hl 2 rfl) ?_
            refine lv_imul hx hb dX12_column_78 ?_
            refine lv_iload_n hx hb dX12_column_79 rfl (lv_at hl 3 rfl) ?_
            refine lv_iadd hx hb dX12_column_80 ?_
            refine lv_iload_n hx hb dX12_column_81 rfl (lv_at hl 4 rfl) ?_
            refine va_iast hx hb hK hP hD hS 1 0 rfl rfl (vin8 b_1 b_3) dX12_column_82 (fun H locs hP hD hS => ?_)
            obtain ⟨u_8, eu_8⟩ : ∃ zz : mS, zz = mst u 0 ((8 * p0) + p1) p2 := ⟨_, rfl⟩
            have hP : va_P (dC, dI) vwCl (mW h0 v cI cZ u_8) H := by rw [eu_8]; exact hP
            have hD : va_D A (mW h0 v cI cZ u_8) := by rw [eu_8]; exact hD
            refine lv_iconst (v := 1) hx hb dX12_column_83 (by decide) ?_
            exact W.zret (v := 1) hx hb hr (by decide) (fun t ht hW => ⟨⟨1, u_8, rfl, (by rw [eu_8]; unfold mColumn; rw [if_pos b_1, if_pos b_3, if_pos b_5, if_pos c_7, if_pos (mBare_t hg)]), by rw [ht]; exact hP, hD⟩, hS.F ht⟩) hS.2.2 dX12_column_84
        ·
          refine lv_iconst (v := 0) hx hb dX12_column_34 (by decide) ?_
          exact W.zret (v := 0) hx hb hr (by decide) (fun t ht hW => ⟨⟨0, u, rfl, (by unfold mColumn; rw [if_pos b_1, if_pos b_3, if_pos b_5, if_neg c_7]), by rw [ht]; exact hP, hD⟩, hS.F ht⟩) hS.2.2 dX12_column_35
      ·
        obtain rfl : r = 0 := b_f hw b_5
        refine lv_if_eq (tgt := 34) hx hb dX12_column_24 (by decide) (fun c_9 => ?_) (fun c_9 => absurd (by decide) c_9)
        refine lv_iconst (v := 0) hx hb dX12_column_34 (by decide) ?_
        exact W.zret (v := 0) hx hb hr (by decide) (fun t ht hW => ⟨⟨0, u, rfl, (by unfold mColumn; rw [if_pos b_1, if_pos b_3, if_neg (bne b_5)]), by rw [ht]; exact hP, hD⟩, hS.F ht⟩) hS.2.2 dX12_column_35
    ·
      obtain rfl : r = 0 := b_f hw b_3
      refine lv_if_eq (tgt := 34) hx hb dX12_column_14 (by decide) (fun c_10 => ?_) (fun c_10 => absurd (by decide) c_10)
      refine lv_iconst (v := 0) hx hb dX12_column_34 (by decide) ?_
      exact W.zret (v := 0) hx hb hr (by decide) (fun t ht hW => ⟨⟨0, u, rfl, (by unfold mColumn; rw [if_pos b_1, if_neg (bne b_3)]), by rw [ht]; exact hP, hD⟩, hS.F ht⟩) hS.2.2 dX12_column_35
  ·
    obtain rfl : r = 0 := b_f hw b_1
    refine lv_if_eq (tgt := 34) hx hb dX12_column_4 (by decide) (fun c_11 => ?_) (fun c_11 => absurd (by decide) c_11)
    refine lv_iconst (v := 0) hx hb dX12_column_34 (by decide) ?_
    exact W.zret (v := 0) hx hb hr (by decide) (fun t ht hW => ⟨⟨0, u, rfl, (by unfold mColumn; rw [if_neg (bne b_1)]), by rw [ht]; exact hP, hD⟩, hS.F ht⟩) hS.2.2 dX12_column_35
