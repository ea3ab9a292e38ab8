def mCell (u : mS) (p c l : Int32) : Bool := bw p 0 11 && bw c 0 7 && bw l 0 (u.2 0 (8 * p + c).toNatClampNeg - 1)
def mThing (x : Int32) : Bool := !decide (x < 0) && !decide (x = 100)
def mNow (u : mS) (p : Int32) : Bool := !decide (u.2 40 p.toNatClampNeg = 0) && (decide (u.2 41 p.toNatClampNeg = u.1 38) && decide (u.2 42 p.toNatClampNeg = u.1 39))
def mForget (u : mS) : mS := mset (mset u 28 0) 36 0
def mActs (u : mS) (k a b c d e f : Int32) : mS :=
  let u1 := mst u 29 (u.1 28) k
  let u2 := mst u1 30 (u1.1 28) a
  let u3 := mst u2 31 (u2.1 28) b
  let u4 := mst u3 32 (u3.1 28) c
  let u5 := mst u4 33 (u4.1 28) d
  let u6 := mst u5 34 (u5.1 28) e
  let u7 := mst u6 35 (u6.1 28) f
  mset u7 28 (u7.1 28 + 1)
/-- the piece's place and size into its slot, the count, the cells -/
def mStand (u : mS) (i : Int32) (P X Y D N : Nat) : mS :=
  let k := 6 * i + u.2 22 i.toNatClampNeg
  let u5 := mst (mst (mst (mst (mst u 23 k (nI P)) 24 k (nI X)) 25 k (nI Y)) 26 k (nI D)) 27 k (nI N)
  let u6 := mst u5 22 i (u5.2 22 i.toNatClampNeg + 1)
  mput u6 2 (setR (u6.2 2) P X Y N i D)
def mUnstand (u : mS) (i : Int32) (P X Y D N : Nat) : mS :=
  let u1 := mst u 22 i (u.2 22 i.toNatClampNeg - 1)
  mput u1 2 (setR (u1.2 2) P X Y N (-2) D)
theorem vAct {n : Int32} (h : bw n 0 299 = true) : vp_in n 300 := vin h (by decide)
set_option maxHeartbeats 4000000 in
set_option maxRecDepth 100000 in
theorem m_isCell (l : Launch) (dC : Nat → ClassId) (dI : Nat → Nat → Nat) (h0 : Nat) (v : Nat → Nat) (cI cZ : ClassId) (u : mS) (p0 p1 p2 : Int32) : Met l yX12_isCell wsX12_isCell ({ frames := 2, cells := 0, slots := 0, locals := 42 }) (va_Pc [.ref h0, .int p0, .int p1, .int p2] (PW dC dI (mW h0 v cI cZ u) [(cI, .int), (cZ, .boolean)])) (vp_Si (fun r => r = bi (mCell u p0 p1 p2))) 0 0 (fun _ => False) := by
  refine Met.ofW (cc := cX12_isCell) (maxL := 4) (ret := (some .boolean)) (by decide) rfl ?_
  intro p e s m args below meth c s₁ B hml hv
  obtain ⟨rfl, hP, hK, hN⟩ := hv
  have hx := B.exec
  have hb := B.bytes
  have hr := B.returns
  have hts := atoms_spec (ws := wsX12_isCell) B.pre
  have hown : s.vm.findClass RX12 = some m.cls := findClass_of_methodNamed B.named
  have hlocks := B.notSynchronized
  have hl := lv_entry ([.ref h0, .int p0, .int p1, .int p2]) (n := 4) (Nat.le_of_ble_eq_true rfl)
  rw [lg_entry_eq]
  generalize (lg_sl ([.ref h0, .int p0, .int p1, .int p2]) ++ List.replicate (4 - (lg_sl ([.ref h0, .int p0, .int p1, .int p2])).length) Slot.unset).toArray = ls at hl ⊢
  have hl : lv_has ls 4 [(0, .ref h0), (1, .int p0), (2, .int p1), (3, .int p2)] := hl
  refine lv_iload_n hx hb dX12_isCell_0 rfl (lv_at hl 1 rfl) ?_
  refine vp_callSi (va_runS (As := [.int p0]) (rest := []) ⟨hx, hb, hml, hown, hts⟩ (m_isPage l dC dI p0) (va_cwS 1 hts gX12_isCell_X12_isPage rfl rfl rfl (by decide +kernel) ⟨Nat.le_of_ble_eq_true rfl, Nat.le_of_ble_eq_true rfl⟩) ⟨pw_fb, fun U hU hW => ⟨rfl, pw_to hU hW (hP.sub (ws' := []) [] rfl) (hK.sub (tys' := []) [] rfl) hN⟩⟩ rfl rfl hl.1 rfl (lv_room (Nat.le_of_ble_eq_true rfl)) dX12_isCell_1 ⟨Nat.le_of_ble_eq_true rfl, Nat.le_of_ble_eq_true rfl⟩).run (fun r hw => ?_)
  rcases Bool.eq_false_or_eq_true (bw p0 0 11) with b_1 | b_1
  ·
    obtain rfl : r = 1 := b_t hw b_1
    refine lv_if_eq (tgt := 42) hx hb dX12_isCell_4 (by decide) (fun c_2 => absurd c_2 (by decide)) (fun c_2 => ?_)
    refine lv_iload_n hx hb dX12_isCell_7 rfl (lv_at hl 2 rfl) ?_
    refine lv_iconst (v := 0) hx hb dX12_isCell_8 (by decide) ?_
    refine lv_bipush (v := 7) hx hb dX12_isCell_9 (by decide) ?_
    refine vp_callSi (va_runS (As := [.int p1, .int 0, .int 7]) (rest := []) ⟨hx, hb, hml, hown, hts⟩ (m_in l dC dI p1 0 7) (va_cwS 3 hts gX12_isCell_X12_in rfl rfl rfl (by decide +kernel) ⟨Nat.le_of_ble_eq_true rfl, Nat.le_of_ble_eq_true rfl⟩) ⟨pw_fb, fun U hU hW => ⟨rfl, pw_to hU hW (hP.sub (ws' := []) [] rfl) (hK.sub (tys' := []) [] rfl) hN⟩⟩ rfl rfl hl.1 rfl (lv_room (Nat.le_of_ble_eq_true rfl)) dX12_isCell_11 ⟨Nat.le_of_ble_eq_true rfl, Nat.le_of_ble_eq_true rfl⟩).run (fun r hw => ?_)
    rcases Bool.eq_false_or_eq_true (bw p1 0 7) with b_3 | b_3
    ·
      obtain rfl : r = 1 := b_t hw b_3
      refine lv_if_eq (tgt := 42) hx hb dX12_isCell_14 (by decide) (fun c_4 => absurd c_4 (by decide)) (fun c_4 => ?_)
      refine lv_iload_n hx hb dX12_isCell_17 rfl (lv_at hl 3 rfl) ?_
      refine lv_iconst (v := 0) hx hb dX12_isCell_18 (by decide) ?_
      refine lv_aload_n hx hb dX12_isCell_19 rfl (lv_at hl 0 rfl) ?_
      refine va_get (D := (dC, dI)) (ci := 11) (v := .ref (v 0)) (C := RX12) (T := TX12) (N := 52) hx hb hts (by decide +kernel) hown hK hP 0 rfl rfl 0 (by decide) (hts (.fieldLink RX12 7 "PageOneModel" "lines" "[I") (by decide +kernel)) (fun _ h9 => h9) rfl dX12_isCell_20 ?_
      refine lv_bipush (v := 8) hx hb dX12_isCell_23 (by decide) ?_
      refine lv_iload_n hx hb dX12_isCell_25 rfl (lv_at hl 1 rfl) ?_
      refine lv_imul hx hb dX12_isCell_26 ?_
      refine lv_iload_n hx hb dX12_isCell_27 rfl (lv_at hl 2 rfl) ?_
      refine lv_iadd hx hb dX12_isCell_28 ?_
      refine va_iald hx hb hK hP 1 0 rfl rfl (vin8 b_1 b_3) dX12_isCell_29 ?_
      refine lv_iconst (v := 1) hx hb dX12_isCell_30 (by decide) ?_
      refine lv_isub hx hb dX12_isCell_31 ?_
      refine vp_callSi (va_runS (As := [.int p2, .int 0, .int ((u.2 0 (((8 * p0) + p1) : Int32).toNatClampNeg) - 1)]) (rest := []) ⟨hx, hb, hml, hown, hts⟩ (m_in l dC dI p2 0 ((u.2 0 (((8 * p0) + p1) : Int32).toNatClampNeg) - 1)) (va_cwS 3 hts gX12_isCell_X12_in rfl rfl rfl (by decide +kernel) ⟨Nat.le_of_ble_eq_true rfl, Nat.le_of_ble_eq_true rfl⟩) ⟨pw_fb, fun U hU hW => ⟨rfl, pw_to hU hW (hP.sub (ws' := []) [] rfl) (hK.sub (tys' := []) [] rfl) hN⟩⟩ rfl rfl hl.1 rfl (lv_room (Nat.le_of_ble_eq_true rfl)) dX12_isCell_32 ⟨Nat.le_of_ble_eq_true rfl, Nat.le_of_ble_eq_true rfl⟩).run (fun r hw => ?_)
      rcases Bool.eq_false_or_eq_true (bw p2 0 ((u.2 0 (((8 * p0) + p1) : Int32).toNatClampNeg) - 1)) with b_5 | b_5
      ·
        obtain rfl : r = 1 := b_t hw b_5
        refine lv_if_eq (tgt := 42) hx hb dX12_isCell_35 (by decide) (fun c_6 => absurd c_6 (by decide)) (fun c_6 => ?_)
        refine lv_iconst (v := 1) hx hb dX12_isCell_38 (by decide) ?_
        refine lv_goto (tgt := 43) hx hb dX12_isCell_39 (by decide) ?_
        exact W.zret (v := 1) hx hb hr (by decide) (fun t ht hW => ⟨_, rfl, (by simp [bi, mCell, b_1, b_3, b_5]), ht⟩) (fun q h => absurd h List.not_mem_nil) dX12_isCell_43
      ·
        obtain rfl : r = 0 := b_f hw b_5
        refine lv_if_eq (tgt := 42) hx hb dX12_isCell_35 (by decide) (fun c_7 => ?_) (fun c_7 => absurd (by decide) c_7)
        refine lv_iconst (v := 0) hx hb dX12_isCell_42 (by decide) ?_
        exact W.zret (v := 0) hx hb hr (by decide) (fun t ht hW => ⟨_, rfl, (by simp [bi, mCell, b_1, b_3, b_5]), ht⟩) (fun q h => absurd h List.not_mem_nil) dX12_isCell_43
    ·
      obtain rfl : r = 0 := b_f hw b_3
      refine lv_if_eq (tgt := 42) hx hb dX12_isCell_14 (by decide) (fun c_8 => ?_) (fun c_8 => absurd (by decide) c_8)
      refine lv_iconst (v := 0) hx hb dX12_isCell_42 (by decide) ?_
      exact W.zret (v := 0) hx hb hr (by decide) (fun t ht hW => ⟨_, rfl, (by simp [bi, mCell, b_1, b_3]), ht⟩) (fun q h => absurd h List.not_mem_nil) dX12_isCell_43
  ·
    obtain rfl : r = 0 := b_f hw b_1
    refine lv_if_eq (tgt := 42) hx hb dX12_isCell_4 (by decide) (fun c_9 => ?_) (fun c_9 => absurd (by decide) c_9)
    refine lv_iconst (v := 0) hx hb dX12_isCell_42 (by decide) ?_
    exact W.zret (v := 0) hx hb hr (by decide) (fun t ht hW => ⟨_, rfl, (by simp [bi, mCell, b_1]), ht⟩) (fun q h => absurd h List.not_mem_nil) dX12_isCell_43
set_option maxHeartbeats 4000000 in
set_option maxRecDepth 100000 in
theorem m_isThing (l : Launch) (dC : Nat → ClassId) (dI : Nat → Nat → Nat) (h0 : Nat) (v : Nat → Nat) (cI cZ : ClassId) (u : mS) (p0 : Int32) : Met l yX12_isThing wsX12_isThing ({ frames := 0, cells := 0, slots := 0, locals := 0 }) (va_Pc [.ref h0, .int p0] (PW dC dI (mW h0 v cI cZ u) [(cI, .int), (cZ, .boolean)])) (vp_Si (fun r => r = bi (mThing p0))) 0 0 (fun _ => False) := by
  refine Met.ofW (cc := cX12_isThing) (maxL := 2) (ret := (some .boolean)) (by decide) rfl ?_
  intro p e s m args below meth c s₁ B hml hv
  obtain ⟨rfl, hP, hK, hN⟩ := hv
  have hx := B.exec
  have hb := B.bytes
  have hr := B.returns
  have hts := atoms_spec (ws := wsX12_isThing) B.pre
  have hown : s.vm.findClass RX12 = some m.cls := findClass_of_methodNamed B.named
  have hlocks := B.notSynchronized
  have hl := lv_entry ([.ref h0, .int p0]) (n := 2) (Nat.le_of_ble_eq_true rfl)
  rw [lg_entry_eq]
  generalize (lg_sl ([.ref h0, .int p0]) ++ List.replicate (2 - (lg_sl ([.ref h0, .int p0])).length) Slot.unset).toArray = ls at hl ⊢
  have hl : lv_has ls 2 [(0, .ref h0), (1, .int p0)] := hl
  refine lv_iload_n hx hb dX12_isThing_0 rfl (lv_at hl 1 rfl) ?_
  refine lv_if_lt (tgt := 14) hx hb dX12_isThing_1 (by decide) (fun c_1 => ?_) (fun c_1 => ?_)
  ·
    refine lv_iconst (v := 0) hx hb dX12_isThing_14 (by decide) ?_
    exact W.zret (v := 0) hx hb hr (by decide) (fun t ht hW => ⟨_, rfl, (by simp [bi, mThing, c_1]), ht⟩) (fun q h => absurd h List.not_mem_nil) dX12_isThing_15
  ·
    refine lv_iload_n hx hb dX12_isThing_4 rfl (lv_at hl 1 rfl) ?_
    refine lv_bipush (v := 100) hx hb dX12_isThing_5 (by decide) ?_
    refine lv_icmp_eq (tgt := 14) hx hb dX12_isThing_7 (by decide) (fun c_2 => ?_) (fun c_2 => ?_)
    ·
      refine lv_iconst (v := 0) hx hb dX12_isThing_14 (by decide) ?_
      exact W.zret (v := 0) hx hb hr (by decide) (fun t ht hW => ⟨_, rfl, (by simp [bi, mThing, c_1, c_2]), ht⟩) (fun q h => absurd h List.not_mem_nil) dX12_isThing_15
    ·
      refine lv_iconst (v := 1) hx hb dX12_isThing_10 (by decide) ?_
      refine lv_goto (tgt := 15) hx hb dX12_isThing_11 (by decide) ?_
      exact W.zret (v := 1) hx hb hr (by decide) (fun t ht hW => ⟨_, rfl, (by simp [bi, mThing, c_1, c_2]), ht⟩) (fun q h => absurd h List.not_mem_nil) dX12_isThing_15
set_option maxHeartbeats 4000000 in
set_option maxRecDepth 100000 in
theorem m_isNow (l : Launch) (dC : Nat → ClassId) (dI : Nat → Nat → Nat) (h0 : Nat) (v : Nat → Nat) (cI cZ : ClassId) (u : mS) (p0 : Int32) (hp : bw p0 0 11 = true) : Met l yX12_isNow wsX12_isNow ({ frames := 0, cells := 0, slots := 0, locals := 0 }) (va_Pc [.ref h0, .int p0] (PW dC dI (mW h0 v cI cZ u) [(cI, .int), (cZ, .boolean)])) (vp_Si (fun r => r = bi (mNow u p0))) 0 0 (fun _ => False) := by
  refine Met.ofW (cc := cX12_isNow) (maxL := 2) (ret := (some .boolean)) (by decide) rfl ?_
  intro p e s m args below meth c s₁ B hml hv
  obtain ⟨rfl, hP, hK, hN⟩ := hv
  have hx := B.exec
  have hb := B.bytes
  have hr := B.returns
  have hts := atoms_spec (ws := wsX12_isNow) B.pre
  have hown : s.vm.findClass RX12 = some m.cls := findClass_of_methodNamed B.named
  have hlocks := B.notSynchronized
  have hl := lv_entry ([.ref h0, .int p0]) (n := 2) (Nat.le_of_ble_eq_true rfl)
  rw [lg_entry_eq]
  generalize (lg_sl ([.ref h0, .int p0]) ++ List.replicate (2 - (lg_sl ([.ref h0, .int p0])).length) Slot.unset).toArray = ls at hl ⊢
  have hl : lv_has ls 2 [(0, .ref h0), (1, .int p0)] := hl
  refine lv_aload_n hx hb dX12_isNow_0 rfl (lv_at hl 0 rfl) ?_
  refine va_get (D := (dC, dI)) (ci := 11) (v := .ref (v 40)) (C := RX12) (T := TX12) (N := 52) hx hb hts (by decide +kernel) hown hK hP 0 rfl rfl 40 (by decide) (hts (.fieldLink RX12 116 "PageOneModel" "isPlated" "[Z") (by decide +kernel)) (fun _ h9 => h9) rfl dX12_isNow_1 ?_
  refine lv_iload_n hx hb dX12_isNow_4 rfl (lv_at hl 1 rfl) ?_
  refine va_zald hx hb hK hP 36 1 rfl rfl (vin hp (by decide)) dX12_isNow_5 ?_
  refine lv_if_eq (tgt := 39) hx hb dX12_isNow_6 (by decide) (fun c_1 => ?_) (fun c_1 => ?_)
  ·
    refine lv_iconst (v := 0) hx hb dX12_isNow_39 (by decide) ?_
    exact W.zret (v := 0) hx hb hr (by decide) (fun t ht hW => ⟨_, rfl, (by simp [bi, mNow, c_1]), ht⟩) (fun q h => absurd h List.not_mem_nil) dX12_isNow_40
  ·
    refine lv_aload_n hx hb dX12_isNow_9 rfl (lv_at hl 0 rfl) ?_
    refine va_get (D := (dC, dI)) (ci := 11) (v := .ref (v 41)) (C := RX12) (T := TX12) (N := 52) hx hb hts (by decide +kernel) hown hK hP 0 rfl rfl 41 (by decide) (hts (.fieldLink RX12 119 "PageOneModel" "plateDay" "[I") (by decide +kernel)) (fun _ h9 => h9) rfl dX12_isNow_10 ?_
    refine lv_iload_n hx hb dX12_isNow_13 rfl (lv_at hl 1 rfl) ?_
    refine va_iald hx hb hK hP 37 0 rfl rfl (vin hp (by decide)) dX12_isNow_14 ?_
    refine lv_aload_n hx hb dX12_isNow_15 rfl (lv_at hl 0 rfl) ?_
    refine va_get (D := (dC, dI)) (ci := 11) (v := .int (u.1 38)) (C := RX12) (T := TX12) (N := 52) hx hb hts (by decide +kernel) hown hK hP 0 rfl rfl 38 (by decide) (hts (.fieldLink RX12 206 "PageOneModel" "day" "I") (by decide +kernel)) (fun _ h9 => h9) rfl dX12_isNow_16 ?_
    refine lv_icmp_ne (tgt := 39) hx hb dX12_isNow_19 (by decide) (fun c_2 => ?_) (fun c_2 => ?_)
    ·
      refine lv_iconst (v := 0) hx hb dX12_isNow_39 (by decide) ?_
      exact W.zret (v := 0) hx hb hr (by decide) (fun t ht hW => ⟨_, rfl, (by simp [bi, mNow, c_1, c_2]), ht⟩) (fun q h => absurd h List.not_mem_nil) dX12_isNow_40
    ·
      refine lv_aload_n hx hb dX12_isNow_22 rfl (lv_at hl 0 rfl) ?_
      refine va_get (D := (dC, dI)) (ci := 11) (v := .ref (v 42)) (C := RX12) (T := TX12) (N := 52) hx hb hts (by decide +kernel) hown hK hP 0 rfl rfl 42 (by decide) (hts (.fieldLink RX12 122 "PageOneModel" "plateEdition" "[I") (by decide +kernel)) (fun _ h9 => h9) rfl dX12_isNow_23 ?_
      refine lv_iload_n hx hb dX12_isNow_26 rfl (lv_at hl 1 rfl) ?_
      refine va_iald hx hb hK hP 38 0 rfl rfl (vin hp (by decide)) dX12_isNow_27 ?_
      refine lv_aload_n hx hb dX12_isNow_28 rfl (lv_at hl 0 rfl) ?_
      refine va_get (D := (dC, dI)) (ci := 11) (v := .int (u.1 39)) (C := RX12) (T := TX12) (N := 52) hx hb hts (by decide +kernel) hown hK hP 0 rfl rfl 39 (by decide) (hts (.fieldLink RX12 257 "PageOneModel" "edition" "I") (by decide +kernel)) (fun _ h9 => h9) rfl dX12_isNow_29 ?_
      refine lv_icmp_ne (tgt := 39) hx hb dX12_isNow_32 (by decide) (fun c_3 => ?_) (fun c_3 => ?_)
      ·
        refine lv_iconst (v := 0) hx hb dX12_isNow_39 (by decide) ?_
        exact W.zret (v := 0) hx hb hr (by decide) (fun t ht hW => ⟨_, rfl, (by simp [bi, mNow, c_1, c_2, c_3]), ht⟩) (fun q h => absurd h List.not_mem_nil) dX12_isNow_40
      ·
        refine lv_iconst (v := 1) hx hb dX12_isNow_35 (by decide) ?_
        refine lv_goto (tgt := 40) hx hb dX12_isNow_36 (by decide) ?_
        exact W.zret (v := 1) hx hb hr (by decide) (fun t ht hW => ⟨_, rfl, (by simp [bi, mNow, c_1, c_2, c_3]), ht⟩) (fun q h => absurd h List.not_mem_nil) dX12_isNow_40
set_option maxHeartbeats 4000000 in
set_option maxRecDepth 100000 in
theorem m_forget (l : Launch) (dC : Nat → ClassId) (dI : Nat → Nat → Nat) (h0 : Nat) (v : Nat → Nat) (cI cZ : ClassId) (u : mS) (sz : Nat) : Met l yX12_forget wsX12_forget ({ frames := 0, cells := 0, slots := 0, locals := 0 }) (va_Pc [.ref h0] (fun U => U.heap.size = sz ∧ PW dC dI (mW h0 v cI cZ u) [(cI, .int), (cZ, .boolean)] U ∧ va_D (fun _ => True) (mW h0 v cI cZ u))) (va_Qv (fun u9 : mS => u9 = mForget u) (fun u9 t => va_P (dC, dI) vwCl (mW h0 v cI cZ u9) t.heap ∧ va_D (va_A (mW h0 v cI cZ u) sz) (mW h0 v cI cZ u9)) (va_A (mW h0 v cI cZ u) sz)) 0 0 (va_A (mW h0 v cI cZ u) sz) := by
  refine Met.ofW (cc := cX12_forget) (maxL := 1) (ret := none) (by decide) rfl ?_
  intro p e s m args below meth c s₁ B hml hv
  obtain ⟨rfl, hsz, ⟨hP, hK, hN⟩, hD0⟩ := hv
  have hx := B.exec
  have hb := B.bytes
  have hr := B.returns
  have hts := atoms_spec (ws := wsX12_forget) B.pre
  have hown : s.vm.findClass RX12 = some m.cls := findClass_of_methodNamed B.named
  have hlocks := B.notSynchronized
  subst hsz
  have hD := hD0.self (sz := s.heap.size)
  generalize hAe : va_A (mW h0 v cI cZ u) s.heap.size = A at hD ⊢
  have hA : ∀ q : Nat, s.heap.size ≤ q → A q := fun q h => by rw [← hAe]; exact Or.inr h
  have hS : va_S A s.heap s.heap [] := va_S.rf
  have hl := lv_entry ([.ref h0]) (n := 1) (Nat.le_of_ble_eq_true rfl)
  rw [lg_entry_eq]
  generalize (lg_sl ([.ref h0]) ++ List.replicate (1 - (lg_sl ([.ref h0])).length) Slot.unset).toArray = ls at hl ⊢
  have hl : lv_has ls 1 [(0, .ref h0)] := hl
  refine lv_aload_n hx hb dX12_forget_0 rfl (lv_at hl 0 rfl) ?_
  refine lv_iconst (v := 0) hx hb dX12_forget_1 (by decide) ?_
  refine va_put (D := (dC, dI)) (ci := 11) (v := .int 0) (ty := .int) (C := RX12) (T := TX12) (N := 52) hx hb hts (by decide +kernel) tyX12 tyX12_ok nmX12 hown hK hP hD hS 0 rfl rfl 28 (by decide) (hts (.fieldLink RX12 158 "PageOneModel" "acts" "I") (by decide +kernel)) (fun _ h9 => h9) rfl (by decide +kernel) rfl rfl (Nat.le_of_ble_eq_true rfl) dX12_forget_2 (fun H locs hP hD hS => ?_)
  obtain ⟨u_1, eu_1⟩ : ∃ zz : mS, zz = mset u 28 0 := ⟨_, rfl⟩
  have hP : va_P (dC, dI) vwCl (mW h0 v cI cZ u_1) H := by rw [eu_1]; exact hP
  have hD : va_D A (mW h0 v cI cZ u_1) := by rw [eu_1]; exact hD
  refine lv_aload_n hx hb dX12_forget_5 rfl (lv_at hl 0 rfl) ?_
  refine lv_iconst (v := 0) hx hb dX12_forget_6 (by decide) ?_
  refine va_put (D := (dC, dI)) (ci := 11) (v := .int 0) (ty := .int) (C := RX12) (T := TX12) (N := 52) hx hb hts (by decide +kernel) tyX12 tyX12_ok nmX12 hown hK hP hD hS 0 rfl rfl 36 (by decide) (hts (.fieldLink RX12 168 "PageOneModel" "filled" "I") (by decide +kernel)) (fun _ h9 => h9) rfl (by decide +kernel) rfl rfl (Nat.le_of_ble_eq_true rfl) dX12_forget_7 (fun H locs hP hD hS => ?_)
  obtain ⟨u_2, eu_2⟩ : ∃ zz : mS, zz = mset u_1 36 0 := ⟨_, rfl⟩
  have hP : va_P (dC, dI) vwCl (mW h0 v cI cZ u_2) H := by rw [eu_2]; exact hP
  have hD : va_D A (mW h0 v cI cZ u_2) := by rw [eu_2]; exact hD
  exact W.vret hx hb hr (fun t ht hW => ⟨⟨u_2, rfl, (by subst_vars; rfl), by rw [ht]; exact hP, hD⟩, hS.F ht⟩) hS.2.2 dX12_forget_10
set_option maxHeartbeats 4000000 in
set_option maxRecDepth 100000 in
theorem m_acts (l : Launch) (dC : Nat → ClassId) (dI : Nat → Nat → Nat) (h0 : Nat) (v : Nat → Nat) (cI cZ : ClassId) (u : mS) (p0 p1 p2 p3 p4 p5 p6 : Int32) (ha : bw (u.1 28) 0 299 = true) (sz : Nat) : Met l yX12_acts wsX12_acts ({ frames := 0, cells := 0, slots := 0, locals := 0 }) (va_Pc [.ref h0, .int p0, .int p1, .int p2, .int p3, .int p4, .int p5, .int p6] (fun U => U.heap.size = sz ∧ PW dC dI (mW h0 v cI cZ u) [(cI, .int), (cZ, .boolean)] U ∧ va_D (fun _ => True) (mW h0 v cI cZ u))) (va_Qv (fun u9 : mS => u9 = mActs u p0 p1 p2 p3 p4 p5 p6) (fun u9 t => va_P (dC, dI) vwCl (mW h0 v cI cZ u9) t.heap ∧ va_D (va_A (mW h0 v cI cZ u) sz) (mW h0 v cI cZ u9)) (va_A (mW h0 v cI cZ u) sz)) 0 0 (va_A (mW h0 v cI cZ u) sz) := by
  refine Met.ofW (cc := cX12_acts) (maxL := 8) (ret := none) (by decide) rfl ?_
  intro p e s m args below meth c s₁ B hml hv
  obtain ⟨rfl, hsz, ⟨hP, hK, hN⟩, hD0⟩ := hv
  have hx := B.exec
  have hb := B.bytes
  have hr := B.returns
  have hts := atoms_spec (ws := wsX12_acts) B.pre
  have hown : s.vm.findClass RX12 = some m.cls := findClass_of_methodNamed B.named
  have hlocks := B.notSynchronized
  subst hsz
  have hD := hD0.self (sz := s.heap.size)
  generalize hAe : va_A (mW h0 v cI cZ u) s.heap.size = A at hD ⊢
  have hA : ∀ q : Nat, s.heap.size ≤ q → A q := fun q h => by rw [← hAe]; exact Or.inr h
  have hS : va_S A s.heap s.heap [] := va_S.rf
  have hl := lv_entry ([.ref h0, .int p0, .int p1, .int p2, .int p3, .int p4, .int p5, .int p6]) (n := 8) (Nat.le_of_ble_eq_true rfl)
  rw [lg_entry_eq]
  generalize (lg_sl ([.ref h0, .int p0, .int p1, .int p2, .int p3, .int p4, .int p5, .int p6]) ++ List.replicate (8 - (lg_sl ([.ref h0, .int p0, .int p1, .int p2, .int p3, .int p4, .int p5, .int p6])).length) Slot.unset).toArray = ls at hl ⊢
  have hl : lv_has ls 8 [(0, .ref h0), (1, .int p0), (2, .int p1), (3, .int p2), (4, .int p3), (5, .int p4), (6, .int p5), (7, .int p6)] := hl
  refine lv_aload_n hx hb dX12_acts_0 rfl (lv_at hl 0 rfl) ?_
  refine va_get (D := (dC, dI)) (ci := 11) (v := .ref (v 29)) (C := RX12) (T := TX12) (N := 52) hx hb hts (by decide +kernel) hown hK hP 0 rfl rfl 29 (by decide) (hts (.fieldLink RX12 92 "PageOneModel" "actKind" "[I") (by decide +kernel)) (fun _ h9 => h9) rfl dX12_acts_1 ?_
  refine lv_aload_n hx hb dX12_acts_4 rfl (lv_at hl 0 rfl) ?_
  refine va_get (D := (dC, dI)) (ci := 11) (v := .int (u.1 28)) (C := RX12) (T := TX12) (N := 52) hx hb hts (by decide +kernel) hown hK hP 0 rfl rfl 28 (by decide) (hts (.fieldLink RX12 158 "PageOneModel" "acts" "I") (by decide +kernel)) (fun _ h9 => h9) rfl dX12_acts_5 ?_
  refine lv_iload_n hx hb dX12_acts_8 rfl (lv_at hl 1 rfl) ?_
  refine va_iast hx hb hK hP hD hS 28 0 rfl rfl (vAct ha) dX12_acts_9 (fun H locs hP hD hS => ?_)
  obtain ⟨u_1, eu_1⟩ : ∃ zz : mS, zz = mst u 29 (u.1 28) p0 := ⟨_, rfl⟩
  have hP : va_P (dC, dI) vwCl (mW h0 v cI cZ u_1) H := by rw [eu_1]; exact hP
  have hD : va_D A (mW h0 v cI cZ u_1) := by rw [eu_1]; exact hD
  refine lv_aload_n hx hb dX12_acts_10 rfl (lv_at hl 0 rfl) ?_
  refine va_get (D := (dC, dI)) (ci := 11) (v := .ref (v 30)) (C := RX12) (T := TX12) (N := 52) hx hb hts (by decide +kernel) hown hK hP 0 rfl rfl 30 (by decide) (hts (.fieldLink RX12 95 "PageOneModel" "actA" "[I") (by decide +kernel)) (fun _ h9 => h9) rfl dX12_acts_11 ?_
  refine lv_aload_n hx hb dX12_acts_14 rfl (lv_at hl 0 rfl) ?_
  refine va_get (D := (dC, dI)) (ci := 11) (v := .int (u_1.1 28)) (C := RX12) (T := TX12) (N := 52) hx hb hts (by decide +kernel) hown hK hP 0 rfl rfl 28 (by decide) (hts (.fieldLink RX12 158 "PageOneModel" "acts" "I") (by decide +kernel)) (fun _ h9 => h9) rfl dX12_acts_15 ?_
  refine lv_iload_n hx hb dX12_acts_18 rfl (lv_at hl 2 rfl) ?_
  refine va_iast hx hb hK hP hD hS 29 0 rfl rfl (by subst_vars; exact vAct ha) dX12_acts_19 (fun H locs hP hD hS => ?_)
  obtain ⟨u_2, eu_2⟩ : ∃ zz : mS, zz = mst u_1 30 (u_1.1 28) p1 := ⟨_, rfl⟩
  have hP : va_P (dC, dI) vwCl (mW h0 v cI cZ u_2) H := by rw [eu_2]; exact hP
  have hD : va_D A (mW h0 v cI cZ u_2) := by rw [eu_2]; exact hD
  refine lv_aload_n hx hb dX12_acts_20 rfl (lv_at hl 0 rfl) ?_
  refine va_get (D := (dC, dI)) (ci := 11) (v := .ref (v 31)) (C := RX12) (T := TX12) (N := 52) hx hb hts (by decide +kernel) hown hK hP 0 rfl rfl 31 (by decide) (hts (.fieldLink RX12 98 "PageOneModel" "actB" "[I") (by decide +kernel)) (fun _ h9 => h9) rfl dX12_acts_21 ?_
  refine lv_aload_n hx hb dX12_acts_24 rfl (lv_at hl 0 rfl) ?_
  refine va_get (D := (dC, dI)) (ci := 11) (v := .int (u_2.1 28)) (C := RX12) (T := TX12) (N := 52) hx hb hts (by decide +kernel) hown hK hP 0 rfl rfl 28 (by decide) (hts (.fieldLink RX12 158 "PageOneModel" "acts" "I") (by decide +kernel)) (fun _ h9 => h9) rfl dX12_acts_25 ?_
  refine lv_iload_n hx hb dX12_acts_28 rfl (lv_at hl 3 rfl) ?_
  refine va_iast hx hb hK hP hD hS 30 0 rfl rfl (by subst_vars; exact vAct ha) dX12_acts_29 (fun H locs hP hD hS => ?_)
  obtain ⟨u_3, eu_3⟩ : ∃ zz : mS, zz = mst u_2 31 (u_2.1 28) p2 := ⟨_, rfl⟩
  have hP : va_P (dC, dI) vwCl (mW h0 v cI cZ u_3) H := by rw [eu_3]; exact hP
  have hD : va_D A (mW h0 v cI cZ u_3) := by rw [eu_3]; exact hD
  refine lv_aload_n hx hb dX12_acts_30 rfl (lv_at hl 0 rfl) ?_
  refine va_get (D := (dC, dI)) (ci := 11) (v := .ref (v 32)) (C := RX12) (T := TX12) (N := 52) hx hb hts (by decide +kernel) hown hK hP 0 rfl rfl 32 (by decide) (hts (.fieldLink RX12 101 "PageOneModel" "actC" "[I") (by decide +kernel)) (fun _ h9 => h9) rfl dX12_acts_31 ?_
  refine lv_aload_n hx hb dX12_acts_34 rfl (lv_at hl 0 rfl) ?_
  refine va_get (D := (dC, dI)) (ci := 11) (v := .int (u_3.1 28)) (C := RX12) (T := TX12) (N := 52) hx hb hts (by decide +kernel) hown hK hP 0 rfl rfl 28 (by decide) (hts (.fieldLink RX12 158 "PageOneModel" "acts" "I") (by decide +kernel)) (fun _ h9 => h9) rfl dX12_acts_35 ?_
  refine lv_iload hx hb dX12_acts_38 (lv_at hl 4 rfl) ?_
  refine va_iast hx hb hK hP hD hS 31 0 rfl rfl (by subst_vars; exact vAct ha) dX12_acts_40 (fun H locs hP hD hS => ?_)
  obtain ⟨u_4, eu_4⟩ : ∃ zz : mS, zz = mst u_3 32 (u_3.1 28) p3 := ⟨_, rfl⟩
  have hP : va_P (dC, dI) vwCl (mW h0 v cI cZ u_4) H := by rw [eu_4]; exact hP
  have hD : va_D A (mW h0 v cI cZ u_4) := by rw [eu_4]; exact hD
  refine lv_aload_n hx hb dX12_acts_41 rfl (lv_at hl 0 rfl) ?_
  refine va_get (D := (dC, dI)) (ci := 11) (v := .ref (v 33)) (C := RX12) (T := TX12) (N := 52) hx hb hts (by decide +kernel) hown hK hP 0 rfl rfl 33 (by decide) (hts (.fieldLink RX12 104 "PageOneModel" "actD" "[I") (by decide +kernel)) (fun _ h9 => h9) rfl dX12_acts_42 ?_
  refine lv_aload_n hx hb dX12_acts_45 rfl (lv_at hl 0 rfl) ?_
  refine va_get (D := (dC, dI)) (ci := 11) (v := .int (u_4.1 28)) (C := RX12) (T := TX12) (N := 52) hx hb hts (by decide +kernel) hown hK hP 0 rfl rfl 28 (by decide) (hts (.fieldLink RX12 158 "PageOneModel" "acts" "I") (by decide +kernel)) (fun _ h9 => h9) rfl dX12_acts_46 ?_
  refine lv_iload hx hb dX12_acts_49 (lv_at hl 5 rfl) ?_
  refine va_iast hx hb hK hP hD hS 32 0 rfl rfl (by subst_vars; exact vAct ha) dX12_acts_51 (fun H locs hP hD hS => ?_)
  obtain ⟨u_5, eu_5⟩ : ∃ zz : mS, zz = mst u_4 33 (u_4.1 28) p4 := ⟨_, rfl⟩
  have hP : va_P (dC, dI) vwCl (mW h0 v cI cZ u_5) H := by rw [eu_5]; exact hP
  have hD : va_D A (mW h0 v cI cZ u_5) := by rw [eu_5]; exact hD
  refine lv_aload_n hx hb dX12_acts_52 rfl (lv_at hl 0 rfl) ?_
  refine va_get (D := (dC, dI)) (ci := 11) (v := .ref (v 34)) (C := RX12) (T := TX12) (N := 52) hx hb hts (by decide +kernel) hown hK hP 0 rfl rfl 34 (by decide) (hts (.fieldLink RX12 107 "PageOneModel" "actE" "[I") (by decide +kernel)) (fun _ h9 => h9) rfl dX12_acts_53 ?_
  refine lv_aload_n hx hb dX12_acts_56 rfl (lv_at hl 0 rfl) ?_
  refine va_get (D := (dC, dI)) (ci := 11) (v := .int (u_5.1 28)) (C := RX12) (T := TX12) (N := 52) hx hb hts (by decide +kernel) hown hK hP 0 rfl rfl 28 (by decide) (hts (.fieldLink RX12 158 "PageOneModel" "acts" "I") (by decide +kernel)) (fun _ h9 => h9) rfl dX12_acts_57 ?_
  refine lv_iload hx hb dX12_acts_60 (lv_at hl 6 rfl) ?_
  refine va_iast hx hb hK hP hD hS 33 0 rfl rfl (by subst_vars; exact vAct ha) dX12_acts_62 (fun H locs hP hD hS => ?_)
  obtain ⟨u_6, eu_6⟩ : ∃ zz : mS, zz = mst u_5 34 (u_5.1 28) p5 := ⟨_, rfl⟩
  have hP : va_P (dC, dI) vwCl (mW h0 v cI cZ u_6) H := by rw [eu_6]; exact hP
  have hD : va_D A (mW h0 v cI cZ u_6) := by rw [eu_6]; exact hD
  refine lv_aload_n hx hb dX12_acts_63 rfl (lv_at hl 0 rfl) ?_
  refine va_get (D := (dC, dI)) (ci := 11) (v := .ref (v 35)) (C := RX12) (T := TX12) (N := 52) hx hb hts (by decide +kernel) hown hK hP 0 rfl rfl 35 (by decide) (hts (.fieldLink RX12 110 "PageOneModel" "actF" "[I") (by decide +kernel)) (fun _ h9 => h9) rfl dX12_acts_64 ?_
  refine lv_aload_n hx hb dX12_acts_67 rfl (lv_at hl 0 rfl) ?_
  refine va_get (D := (dC, dI)) (ci := 11) (v := .int (u_6.1 28)) (C := RX12) (T := TX12) (N := 52) hx hb hts (by decide +kernel) hown hK hP 0 rfl rfl 28 (by decide) (hts (.fieldLink RX12 158 "PageOneModel" "acts" "I") (by decide +kernel)) (fun _ h9 => h9) rfl dX12_acts_68 ?_
  refine lv_iload hx hb dX12_acts_71 (lv_at hl 7 rfl) ?_
  refine va_iast hx hb hK hP hD hS 34 0 rfl rfl (by subst_vars; exact vAct ha) dX12_acts_73 (fun H locs hP hD hS => ?_)
  obtain ⟨u_7, eu_7⟩ : ∃ zz : mS, zz = mst u_6 35 (u_6.1 28) p6 := ⟨_, rfl⟩
  have hP : va_P (dC, dI) vwCl (mW h0 v cI cZ u_7) H := by rw [eu_7]; exact hP
  have hD : va_D A (mW h0 v cI cZ u_7) := by rw [eu_7]; exact hD
  refine lv_aload_n hx hb dX12_acts_74 rfl (lv_at hl 0 rfl) ?_
  refine lv_dup hx hb dX12_acts_75 rfl ?_
  refine va_get (D := (dC, dI)) (ci := 11) (v := .int (u_7.1 28)) (C := RX12) (T := TX12) (N := 52) hx hb hts (by decide +kernel) hown hK hP 0 rfl rfl 28 (by decide) (hts (.fieldLink RX12 158 "PageOneModel" "acts" "I") (by decide +kernel)) (fun _ h9 => h9) rfl dX12_acts_76 ?_
  refine lv_iconst (v := 1) hx hb dX12_acts_79 (by decide) ?_
  refine lv_iadd hx hb dX12_acts_80 ?_
  refine va_put (D := (dC, dI)) (ci := 11) (v := .int ((u_7.1 28) + 1)) (ty := .int) (C := RX12) (T := TX12) (N := 52) hx hb hts (by decide +kernel) tyX12 tyX12_ok nmX12 hown hK hP hD hS 0 rfl rfl 28 (by decide) (hts (.fieldLink RX12 158 "PageOneModel" "acts" "I") (by decide +kernel)) (fun _ h9 => h9) rfl (by decide +kernel) rfl rfl (Nat.le_of_ble_eq_true rfl) dX12_acts_81 (fun H locs hP hD hS => ?_)
  obtain ⟨u_8, eu_8⟩ : ∃ zz : mS, zz = mset u_7 28 ((u_7.1 28) + 1) := ⟨_, rfl⟩
  have hP : va_P (dC, dI) vwCl (mW h0 v cI cZ u_8) H := by rw [eu_8]; exact hP
  have hD : va_D A (mW h0 v cI cZ u_8) := by rw [eu_8]; exact hD
  exact W.vret hx hb hr (fun t ht hW => ⟨⟨u_8, rfl, (by subst_vars; rfl), by rw [ht]; exact hP, hD⟩, hS.F ht⟩) hS.2.2 dX12_acts_84
set_option maxHeartbeats 4000000 in
set_option maxRecDepth 100000 in
theorem m_stand (l : Launch) (dC : Nat → ClassId) (dI : Nat → Nat → Nat) (h0 : Nat) (v : Nat → Nat) (cI cZ : ClassId) (u : mS) (p0 : Int32) (P X Y D N : Nat) (hPP : P < 12) (hXW : X + D ≤ 8) (hYN : Y + N ≤ 60) (hi : bw p0 0 79 = true) (hq : bw (u.2 22 p0.toNatClampNeg) 0 5 = true) (sz : Nat) : Met l yX12_stand wsX12_stand ({ frames := 2, cells := 0, slots := 0, locals := 50 }) (va_Pc [.ref h0, .int p0, .int (nI P), .int (nI X), .int (nI Y), .int (nI D), .int (nI N)] (fun U => U.heap.size = sz ∧ PW dC dI (mW h0 v cI cZ u) [(cI, .int), (cZ, .boolean)] U ∧ va_D (fun _ => True) (mW h0 v cI cZ u))) (va_Qv (fun u9 : mS => u9 = mStand u p0 P X Y D N) (fun u9 t => va_P (dC, dI) vwCl (mW h0 v cI cZ u9) t.heap ∧ va_D (va_A (mW h0 v cI cZ u) sz) (mW h0 v cI cZ u9)) (va_A (mW h0 v cI cZ u) sz)) 0 0 (va_A (mW h0 v cI cZ u) sz) := by
  refine Met.ofW (cc := cX12_stand) (maxL := 8) (ret := none) (by decide) rfl ?_
  intro p e s m args below meth c s₁ B hml hv
  obtain ⟨rfl, hsz, ⟨hP, hK, hN⟩, hD0⟩ := hv
  have hx := B.exec
  have hb := B.bytes
  have hr := B.returns
  have hts := atoms_spec (ws := wsX12_stand) B.pre
  have hown : s.vm.findClass RX12 = some m.cls := findClass_of_methodNamed B.named
  have hlocks := B.notSynchronized
  subst hsz
  have hD := hD0.self (sz := s.heap.size)
  generalize hAe : va_A (mW h0 v cI cZ u) s.heap.size = A at hD ⊢
  have hA : ∀ q : Nat, s.heap.size ≤ q → A q := fun q h => by rw [← hAe]; exact Or.inr h
  have hS : va_S A s.heap s.heap [] := va_S.rf
  have hl := lv_entry ([.ref h0, .int p0, .int (nI P), .int (nI X), .int (nI Y), .int (nI D), .int (nI N)]) (n := 8) (Nat.le_of_ble_eq_true rfl)
  rw [lg_entry_eq]
  generalize (lg_sl ([.ref h0, .int p0, .int (nI P), .int (nI X), .int (nI Y), .int (nI D), .int (nI N)]) ++ List.replicate (8 - (lg_sl ([.ref h0, .int p0, .int (nI P), .int (nI X), .int (nI Y), .int (nI D), .int (nI N)])).length) Slot.unset).toArray = ls at hl ⊢
  have hl : lv_has ls 8 [(0, .ref h0), (1, .int p0), (2, .int (nI P)), (3, .int (nI X)), (4, .int (nI Y)), (5, .int (nI D)), (6, .int (nI N))] := hl
  refine lv_bipush (v := 6) hx hb dX12_stand_0 (by decide) ?_
  refine lv_iload_n hx hb dX12_stand_2 rfl (lv_at hl 1 rfl) ?_
  refine lv_imul hx hb dX12_stand_3 ?_
  refine lv_aload_n hx hb dX12_stand_4 rfl (lv_at hl 0 rfl) ?_
  refine va_get (D := (dC, dI)) (ci := 11) (v := .ref (v 22)) (C := RX12) (T := TX12) (N := 52) hx hb hts (by decide +kernel) hown hK hP 0 rfl rfl 22 (by decide) (hts (.fieldLink RX12 74 "PageOneModel" "pieces" "[I") (by decide +kernel)) (fun _ h9 => h9) rfl dX12_stand_5 ?_
  refine lv_iload_n hx hb dX12_stand_8 rfl (lv_at hl 1 rfl) ?_
  refine va_iald hx hb hK hP 22 0 rfl rfl (vin hi (by decide)) dX12_stand_9 ?_
  refine lv_iadd hx hb dX12_stand_10 ?_
  refine lv_topi (fun x_1 ex_1 => ?_)
  refine lv_istore (lv' := [(7, .int x_1), (0, .ref h0), (1, .int p0), (2, .int (nI P)), (3, .int (nI X)), (4, .int (nI Y)), (5, .int (nI D)), (6, .int (nI N))]) hx hb dX12_stand_11 hl (by decide) rfl (fun ls hl => ?_)
  refine lv_aload_n hx hb dX12_stand_13 rfl (lv_at hl 1 rfl) ?_
  refine va_get (D := (dC, dI)) (ci := 11) (v := .ref (v 23)) (C := RX12) (T := TX12) (N := 52) hx hb hts (by decide +kernel) hown hK hP 0 rfl rfl 23 (by decide) (hts (.fieldLink RX12 77 "PageOneModel" "pPage" "[I") (by decide +kernel)) (fun _ h9 => h9) rfl dX12_stand_14 ?_
  refine lv_iload hx hb dX12_stand_17 (lv_at hl 0 rfl) ?_
  refine lv_iload_n hx hb dX12_stand_19 rfl (lv_at hl 3 rfl) ?_
  refine va_iast hx hb hK hP hD hS 23 0 rfl rfl (v6a hi hq ex_1) dX12_stand_20 (fun H locs hP hD hS => ?_)
  obtain ⟨u_2, eu_2⟩ : ∃ zz : mS, zz = mst u 23 x_1 (nI P) := ⟨_, rfl⟩
  have hP : va_P (dC, dI) vwCl (mW h0 v cI cZ u_2) H := by rw [eu_2]; exact hP
  have hD : va_D A (mW h0 v cI cZ u_2) := by rw [eu_2]; exact hD
  refine lv_aload_n hx hb dX12_stand_21 rfl (lv_at hl 1 rfl) ?_
  refine va_get (D := (dC, dI)) (ci := 11) (v := .ref (v 24)) (C := RX12) (T := TX12) (N := 52) hx hb hts (by decide +kernel) hown hK hP 0 rfl rfl 24 (by decide) (hts (.fieldLink RX12 80 "PageOneModel" "pColumn" "[I") (by decide +kernel)) (fun _ h9 => h9) rfl dX12_stand_22 ?_
  refine lv_iload hx hb dX12_stand_25 (lv_at hl 0 rfl) ?_
  refine lv_iload_n hx hb dX12_stand_27 rfl (lv_at hl 4 rfl) ?_
  refine va_iast hx hb hK hP hD hS 24 0 rfl rfl (v6a hi hq ex_1) dX12_stand_28 (fun H locs hP hD hS => ?_)
  obtain ⟨u_3, eu_3⟩ : ∃ zz : mS, zz = mst u_2 24 x_1 (nI X) := ⟨_, rfl⟩
  have hP : va_P (dC, dI) vwCl (mW h0 v cI cZ u_3) H := by rw [eu_3]; exact hP
  have hD : va_D A (mW h0 v cI cZ u_3) := by rw [eu_3]; exact hD
  refine lv_aload_n hx hb dX12_stand_29 rfl (lv_at hl 1 rfl) ?_
  refine va_get (D := (dC, dI)) (ci := 11) (v := .ref (v 25)) (C := RX12) (T := TX12) (N := 52) hx hb hts (by decide +kernel) hown hK hP 0 rfl rfl 25 (by decide) (hts (.fieldLink RX12 83 "PageOneModel" "pLine" "[I") (by decide +kernel)) (fun _ h9 => h9) rfl dX12_stand_30 ?_
  refine lv_iload hx hb dX12_stand_33 (lv_at hl 0 rfl) ?_
  refine lv_iload hx hb dX12_stand_35 (lv_at hl 5 rfl) ?_
  refine va_iast hx hb hK hP hD hS 25 0 rfl rfl (v6a hi hq ex_1) dX12_stand_37 (fun H locs hP hD hS => ?_)
  obtain ⟨u_4, eu_4⟩ : ∃ zz : mS, zz = mst u_3 25 x_1 (nI Y) := ⟨_, rfl⟩
  have hP : va_P (dC, dI) vwCl (mW h0 v cI cZ u_4) H := by rw [eu_4]; exact hP
  have hD : va_D A (mW h0 v cI cZ u_4) := by rw [eu_4]; exact hD
  refine lv_aload_n hx hb dX12_stand_38 rfl (lv_at hl 1 rfl) ?_
  refine va_get (D := (dC, dI)) (ci := 11) (v := .ref (v 26)) (C := RX12) (T := TX12) (N := 52) hx hb hts (by decide +kernel) hown hK hP 0 rfl rfl 26 (by decide) (hts (.fieldLink RX12 86 "PageOneModel" "pWide" "[I") (by decide +kernel)) (fun _ h9 => h9) rfl dX12_stand_39 ?_
  refine lv_iload hx hb dX12_stand_42 (lv_at hl 0 rfl) ?_
  refine lv_iload hx hb dX12_stand_44 (lv_at hl 6 rfl) ?_
  refine va_iast hx hb hK hP hD hS 26 0 rfl rfl (v6a hi hq ex_1) dX12_stand_46 (fun H locs hP hD hS => ?_)
  obtain ⟨u_5, eu_5⟩ : ∃ zz : mS, zz = mst u_4 26 x_1 (nI D) := ⟨_, rfl⟩
  have hP : va_P (dC, dI) vwCl (mW h0 v cI cZ u_5) H := by rw [eu_5]; exact hP
  have hD : va_D A (mW h0 v cI cZ u_5) := by rw [eu_5]; exact hD
  refine lv_aload_n hx hb dX12_stand_47 rfl (lv_at hl 1 rfl) ?_
  refine va_get (D := (dC, dI)) (ci := 11) (v := .ref (v 27)) (C := RX12) (T := TX12) (N := 52) hx hb hts (by decide +kernel) hown hK hP 0 rfl rfl 27 (by decide) (hts (.fieldLink RX12 89 "PageOneModel" "pHigh" "[I") (by decide +kernel)) (fun _ h9 => h9) rfl dX12_stand_48 ?_
  refine lv_iload hx hb dX12_stand_51 (lv_at hl 0 rfl) ?_
  refine lv_iload hx hb dX12_stand_53 (lv_at hl 7 rfl) ?_
  refine va_iast hx hb hK hP hD hS 27 0 rfl rfl (v6a hi hq ex_1) dX12_stand_55 (fun H locs hP hD hS => ?_)
  obtain ⟨u_6, eu_6⟩ : ∃ zz : mS, zz = mst u_5 27 x_1 (nI N) := ⟨_, rfl⟩
  have hP : va_P (dC, dI) vwCl (mW h0 v cI cZ u_6) H := by rw [eu_6]; exact hP
  have hD : va_D A (mW h0 v cI cZ u_6) := by rw [eu_6]; exact hD
  refine lv_aload_n hx hb dX12_stand_56 rfl (lv_at hl 1 rfl) ?_
  refine va_get (D := (dC, dI)) (ci := 11) (v := .ref (v 22)) (C := RX12) (T := TX12) (N := 52) hx hb hts (by decide +kernel) hown hK hP 0 rfl rfl 22 (by decide) (hts (.fieldLink RX12 74 "PageOneModel" "pieces" "[I") (by decide +kernel)) (fun _ h9 => h9) rfl dX12_stand_57 ?_
  refine lv_iload_n hx hb dX12_stand_60 rfl (lv_at hl 2 rfl) ?_
  refine lv_dup2_11 hx hb dX12_stand_61 rfl rfl ?_
  refine va_iald hx hb hK hP 22 0 rfl rfl (vin hi (by decide)) dX12_stand_62 ?_
  refine lv_iconst (v := 1) hx hb dX12_stand_63 (by decide) ?_
  refine lv_iadd hx hb dX12_stand_64 ?_
  refine va_iast hx hb hK hP hD hS 22 0 rfl rfl (vin hi (by decide)) dX12_stand_65 (fun H locs hP hD hS => ?_)
  obtain ⟨u_7, eu_7⟩ : ∃ zz : mS, zz = mst u_6 22 p0 ((u_6.2 22 (p0 : Int32).toNatClampNeg) + 1) := ⟨_, rfl⟩
  have hP : va_P (dC, dI) vwCl (mW h0 v cI cZ u_7) H := by rw [eu_7]; exact hP
  have hD : va_D A (mW h0 v cI cZ u_7) := by rw [eu_7]; exact hD
  refine lv_aload_n hx hb dX12_stand_66 rfl (lv_at hl 1 rfl) ?_
  refine lv_iload_n hx hb dX12_stand_67 rfl (lv_at hl 3 rfl) ?_
  refine lv_iload_n hx hb dX12_stand_68 rfl (lv_at hl 4 rfl) ?_
  refine lv_iload hx hb dX12_stand_69 (lv_at hl 5 rfl) ?_
  refine lv_iload hx hb dX12_stand_71 (lv_at hl 6 rfl) ?_
  refine lv_iload hx hb dX12_stand_73 (lv_at hl 7 rfl) ?_
  refine lv_iload_n hx hb dX12_stand_75 rfl (lv_at hl 2 rfl) ?_
  have hFc := fr_all hD hS hA
  refine va_callv (va_runV (As := [.int (nI P), .int (nI X), .int (nI Y), .int (nI D), .int (nI N), .int p0]) (rest := []) ⟨hx, hb, hml, hown, hts⟩ (m_sets l dC dI h0 v cI cZ u_7 P X Y D N p0 hPP hXW hYN H.size) (cwV 6 hts gX12_stand_X12_sets rfl rfl rfl (by decide +kernel) ⟨Nat.le_of_ble_eq_true rfl, Nat.le_of_ble_eq_true rfl⟩) ⟨gw_fb, va_recv hK hP (ci := 11) (q0 := 0) rfl rfl, fun U hU hW => ⟨rfl, by rw [hU], pw_to hU hW hP hK hN, hD.weaken (fun _ _ _ _ => trivial)⟩⟩ rfl rfl hl.1 rfl (lv_room (Nat.le_of_ble_eq_true rfl)) dX12_stand_76 ⟨Nat.le_of_ble_eq_true rfl, Nat.le_of_ble_eq_true rfl⟩) hS (fun q _ h => hFc q h) hFc (fun u_8 t H1 locs ht hvm hw hB hz1 hk1 hS => ?_)
  obtain ⟨hP, hD1⟩ := hB
  rw [ht] at hP
  have hD := hD1.weaken (fun _ q _ h => hFc q.1 h)
  generalize H1 = H at hP hS ⊢
  have eu_8 := hw
  exact W.vret hx hb hr (fun t ht hW => ⟨⟨u_8, rfl, (by subst_vars; rfl), by rw [ht]; exact hP, hD⟩, hS.F ht⟩) hS.2.2 dX12_stand_79
set_option maxHeartbeats 4000000 in
set_option maxRecDepth 100000 in
theorem m_unstand (l : Launch) (dC : Nat → ClassId) (dI : Nat → Nat → Nat) (h0 : Nat) (v : Nat → Nat) (cI cZ : ClassId) (u : mS) (p0 : Int32) (P X Y D N : Nat) (hPP : P < 12) (hXW : X + D ≤ 8) (hYN : Y + N ≤ 60) (hi : bw p0 0 79 = true) (hq : bw (u.2 22 p0.toNatClampNeg - 1) 0 5 = true) (e23 : u.2 23 (6 * p0 + (u.2 22 p0.toNatClampNeg - 1)).toNatClampNeg = nI P) (e24 : u.2 24 (6 * p0 + (u.2 22 p0.toNatClampNeg - 1)).toNatClampNeg = nI X) (e25 : u.2 25 (6 * p0 + (u.2 22 p0.toNatClampNeg - 1)).toNatClampNeg = nI Y) (e26 : u.2 26 (6 * p0 + (u.2 22 p0.toNatClampNeg - 1)).toNatClampNeg = nI D) (e27 : u.2 27 (6 * p0 + (u.2 22 p0.toNatClampNeg - 1)).toNatClampNeg = nI N) (sz : Nat) : Met l yX12_unstand wsX12_unstand ({ frames := 2, cells := 0, slots := 0, locals := 50 }) (va_Pc [.ref h0, .int p0] (fun U => U.heap.size = sz ∧ PW dC dI (mW h0 v cI cZ u) [(cI, .int), (cZ, .boolean)] U ∧ va_D (fun _ => True) (mW h0 v cI cZ u))) (va_Qv (fun u9 : mS => u9 = mUnstand u p0 P X Y D N) (fun u9 t => va_P (dC, dI) vwCl (mW h0 v cI cZ u9) t.heap ∧ va_D (va_A (mW h0 v cI cZ u) sz) (mW h0 v cI cZ u9)) (va_A (mW h0 v cI cZ u) sz)) 0 0 (va_A (mW h0 v cI cZ u) sz) := by
  refine Met.ofW (cc := cX12_unstand) (maxL := 3) (ret := none) (by decide) rfl ?_
  intro p e s m args below meth c s₁ B hml hv
  obtain ⟨rfl, hsz, ⟨hP, hK, hN⟩, hD0⟩ := hv
  have hx := B.exec
  have hb := B.bytes
  have hr := B.returns
  have hts := atoms_spec (ws := wsX12_unstand) B.pre
  have hown : s.vm.findClass RX12 = some m.cls := findClass_of_methodNamed B.named
  have hlocks := B.notSynchronized
  subst hsz
  have hD := hD0.self (sz := s.heap.size)
  generalize hAe : va_A (mW h0 v cI cZ u) s.heap.size = A at hD ⊢
  have hA : ∀ q : Nat, s.heap.size ≤ q → A q := fun q h => by rw [← hAe]; exact Or.inr h
  have hS : va_S A s.heap s.heap [] := va_S.rf
  have hl := lv_entry ([.ref h0, .int p0]) (n := 3) (Nat.le_of_ble_eq_true rfl)
  rw [lg_entry_eq]
  generalize (lg_sl ([.ref h0, .int p0]) ++ List.replicate (3 - (lg_sl ([.ref h0, .int p0])).length) Slot.unset).toArray = ls at hl ⊢
  have hl : lv_has ls 3 [(0, .ref h0), (1, .int p0)] := hl
  refine lv_aload_n hx hb dX12_unstand_0 rfl (lv_at hl 0 rfl) ?_
  refine va_get (D := (dC, dI)) (ci := 11) (v := .ref (v 22)) (C := RX12) (T := TX12) (N := 52) hx hb hts (by decide +kernel) hown hK hP 0 rfl rfl 22 (by decide) (hts (.fieldLink RX12 74 "PageOneModel" "pieces" "[I") (by decide +kernel)) (fun _ h9 => h9) rfl dX12_unstand_1 ?_
  refine lv_iload_n hx hb dX12_unstand_4 rfl (lv_at hl 1 rfl) ?_
  refine lv_dup2_11 hx hb dX12_unstand_5 rfl rfl ?_
  refine va_iald hx hb hK hP 22 0 rfl rfl (vin hi (by decide)) dX12_unstand_6 ?_
  refine lv_iconst (v := 1) hx hb dX12_unstand_7 (by decide) ?_
  refine lv_isub hx hb dX12_unstand_8 ?_
  refine va_iast hx hb hK hP hD hS 22 0 rfl rfl (vin hi (by decide)) dX12_unstand_9 (fun H locs hP hD hS => ?_)
  obtain ⟨u_1, eu_1⟩ : ∃ zz : mS, zz = mst u 22 p0 ((u.2 22 (p0 : Int32).toNatClampNeg) - 1) := ⟨_, rfl⟩
  have hP : va_P (dC, dI) vwCl (mW h0 v cI cZ u_1) H := by rw [eu_1]; exact hP
  have hD : va_D A (mW h0 v cI cZ u_1) := by rw [eu_1]; exact hD
  refine lv_bipush (v := 6) hx hb dX12_unstand_10 (by decide) ?_
  refine lv_iload_n hx hb dX12_unstand_12 rfl (lv_at hl 1 rfl) ?_
  refine lv_imul hx hb dX12_unstand_13 ?_
  refine lv_aload_n hx hb dX12_unstand_14 rfl (lv_at hl 0 rfl) ?_
  refine va_get (D := (dC, dI)) (ci := 11) (v := .ref (v 22)) (C := RX12) (T := TX12) (N := 52) hx hb hts (by decide +kernel) hown hK hP 0 rfl rfl 22 (by decide) (hts (.fieldLink RX12 74 "PageOneModel" "pieces" "[I") (by decide +kernel)) (fun _ h9 => h9) rfl dX12_unstand_15 ?_
  refine lv_iload_n hx hb dX12_unstand_18 rfl (lv_at hl 1 rfl) ?_
  refine va_iald hx hb hK hP 22 0 rfl rfl (vin hi (by decide)) dX12_unstand_19 ?_
  refine lv_iadd hx hb dX12_unstand_20 ?_
  refine lv_topi (fun x_2 ex_2 => ?_)
  refine lv_istore_n (lv' := [(2, .int x_2), (0, .ref h0), (1, .int p0)]) hx hb dX12_unstand_21 rfl hl (by decide) rfl (fun ls hl => ?_)
  have ex9 : x_2 = 6 * p0 + (u.2 22 p0.toNatClampNeg - 1) := by rw [ex_2, eu_1, mst_same]
  refine lv_aload_n hx hb dX12_unstand_22 rfl (lv_at hl 1 rfl) ?_
  refine lv_aload_n hx hb dX12_unstand_23 rfl (lv_at hl 1 rfl) ?_
  refine va_get (D := (dC, dI)) (ci := 11) (v := .ref (v 23)) (C := RX12) (T := TX12) (N := 52) hx hb hts (by decide +kernel) hown hK hP 0 rfl rfl 23 (by decide) (hts (.fieldLink RX12 77 "PageOneModel" "pPage" "[I") (by decide +kernel)) (fun _ h9 => h9) rfl dX12_unstand_24 ?_
  refine lv_iload_n hx hb dX12_unstand_27 rfl (lv_at hl 0 rfl) ?_
  refine va_iald hx hb hK hP 23 0 rfl rfl (v6a hi hq ex9) dX12_unstand_28 ?_
  refine lv_topi (fun y_3 ey_3 => ?_)
  obtain rfl : y_3 = nI P := by rw [ey_3, eu_1, mst_other (by decide), ex9, e23]
  refine lv_aload_n hx hb dX12_unstand_29 rfl (lv_at hl 1 rfl) ?_
  refine va_get (D := (dC, dI)) (ci := 11) (v := .ref (v 24)) (C := RX12) (T := TX12) (N := 52) hx hb hts (by decide +kernel) hown hK hP 0 rfl rfl 24 (by decide) (hts (.fieldLink RX12 80 "PageOneModel" "pColumn" "[I") (by decide +kernel)) (fun _ h9 => h9) rfl dX12_unstand_30 ?_
  refine lv_iload_n hx hb dX12_unstand_33 rfl (lv_at hl 0 rfl) ?_
  refine va_iald hx hb hK hP 24 0 rfl rfl (v6a hi hq ex9) dX12_unstand_34 ?_
  refine lv_topi (fun y_4 ey_4 => ?_)
  obtain rfl : y_4 = nI X := by rw [ey_4, eu_1, mst_other (by decide), ex9, e24]
  refine lv_aload_n hx hb dX12_unstand_35 rfl (lv_at hl 1 rfl) ?_
  refine va_get (D := (dC, dI)) (ci := 11) (v := .ref (v 25)) (C := RX12) (T := TX12) (N := 52) hx hb hts (by decide +kernel) hown hK hP 0 rfl rfl 25 (by decide) (hts (.fieldLink RX12 83 "PageOneModel" "pLine" "[I") (by decide +kernel)) (fun _ h9 => h9) rfl dX12_unstand_36 ?_
  refine lv_iload_n hx hb dX12_unstand_39 rfl (lv_at hl 0 rfl) ?_
  refine va_iald hx hb hK hP 25 0 rfl rfl (v6a hi hq ex9) dX12_unstand_40 ?_
  refine lv_topi (fun y_5 ey_5 => ?_)
  obtain rfl : y_5 = nI Y := by rw [ey_5, eu_1, mst_other (by decide), ex9, e25]
  refine lv_aload_n hx hb dX12_unstand_41 rfl (lv_at hl 1 rfl) ?_
  refine va_get (D := (dC, dI)) (ci := 11) (v := .ref (v 26)) (C := RX12) (T := TX12) (N := 52) hx hb hts (by decide +kernel) hown hK hP 0 rfl rfl 26 (by decide) (hts (.fieldLink RX12 86 "PageOneModel" "pWide" "[I") (by decide +kernel)) (fun _ h9 => h9) rfl dX12_unstand_42 ?_
  refine lv_iload_n hx hb dX12_unstand_45 rfl (lv_at hl 0 rfl) ?_
  refine va_iald hx hb hK hP 26 0 rfl rfl (v6a hi hq ex9) dX12_unstand_46 ?_
  refine lv_topi (fun y_6 ey_6 => ?_)
  obtain rfl : y_6 = nI D := by rw [ey_6, eu_1, mst_other (by decide), ex9, e26]
  refine lv_aload_n hx hb dX12_unstand_47 rfl (lv_at hl 1 rfl) ?_
  refine va_get (D := (dC, dI)) (ci := 11) (v := .ref (v 27)) (C := RX12) (T := TX12) (N := 52) hx hb hts (by decide +kernel) hown hK hP 0 rfl rfl 27 (by decide) (hts (.fieldLink RX12 89 "PageOneModel" "pHigh" "[I") (by decide +kernel)) (fun _ h9 => h9) rfl dX12_unstand_48 ?_
  refine lv_iload_n hx hb dX12_unstand_51 rfl (lv_at hl 0 rfl) ?_
  refine va_iald hx hb hK hP 27 0 rfl rfl (v6a hi hq ex9) dX12_unstand_52 ?_
  refine lv_topi (fun y_7 ey_7 => ?_)
  obtain rfl : y_7 = nI N := by rw [ey_7, eu_1, mst_other (by decide), ex9, e27]
  refine lv_bipush (v := (-2)) hx hb dX12_unstand_53 (by decide) ?_
  have hFc := fr_all hD hS hA
  refine va_callv (va_runV (As := [.int (nI P), .int (nI X), .int (nI Y), .int (nI D), .int (nI N), .int (-2)]) (rest := []) ⟨hx, hb, hml, hown, hts⟩ (m_sets l dC dI h0 v cI cZ u_1 P X Y D N (-2) hPP hXW hYN H.size) (cwV 6 hts gX12_unstand_X12_sets rfl rfl rfl (by decide +kernel) ⟨Nat.le_of_ble_eq_true rfl, Nat.le_of_ble_eq_true rfl⟩) ⟨gw_fb, va_recv hK hP (ci := 11) (q0 := 0) rfl rfl, fun U hU hW => ⟨rfl, by rw [hU], pw_to hU hW hP hK hN, hD.weaken (fun _ _ _ _ => trivial)⟩⟩ rfl rfl hl.1 rfl (lv_room (Nat.le_of_ble_eq_true rfl)) dX12_unstand_55 ⟨Nat.le_of_ble_eq_true rfl, Nat.le_of_ble_eq_true rfl⟩) hS (fun q _ h => hFc q h) hFc (fun u_8 t H1 locs ht hvm hw hB hz1 hk1 hS => ?_)
  obtain ⟨hP, hD1⟩ := hB
  rw [ht] at hP
  have hD := hD1.weaken (fun _ q _ h => hFc q.1 h)
  generalize H1 = H at hP hS ⊢
  have eu_8 := hw
  exact W.vret hx hb hr (fun t ht hW => ⟨⟨u_8, rfl, (by subst_vars; rfl), by rw [ht]; exact hP, hD⟩, hS.F ht⟩) hS.2.2 dX12_unstand_58
