/-- the reference's state: its ints and its rows, by their slots -/
abbrev mS : Type := (Nat → Int32) × (Nat → Nat → Int32)
def mput (u : mS) (k : Nat) (g : Nat → Int32) : mS := (u.1, fun j => if j = k then g else u.2 j)
def mset (u : mS) (k : Nat) (x : Int32) : mS := (fun j => if j = k then x else u.1 j, u.2)
def mst (u : mS) (k : Nat) (i x : Int32) : mS := mput u k (upd (u.2 k) i.toNatClampNeg x)
/-- its cells -/
abbrev mW (h0 : Nat) (v : Nat → Nat) (cI cZ : ClassId) (u : mS) : va_W := [(h0, .inr (11, mO v (u.1 3) (u.1 28) (u.1 36) (u.1 38) (u.1 39) (u.1 49) (u.1 50) (u.1 51))), (v 0, .inl (cI, 96, .inl (u.2 0))), (v 1, .inl (cI, 12, .inl (u.2 1))), (v 2, .inl (cI, 5760, .inl (u.2 2))), (v 4, .inl (cI, 80, .inl (u.2 4))), (v 5, .inl (cI, 80, .inl (u.2 5))), (v 6, .inl (cI, 80, .inl (u.2 6))), (v 7, .inl (cI, 80, .inl (u.2 7))), (v 8, .inl (cI, 80, .inl (u.2 8))), (v 9, .inl (cI, 80, .inl (u.2 9))), (v 10, .inl (cI, 80, .inl (u.2 10))), (v 11, .inl (cI, 80, .inl (u.2 11))), (v 12, .inl (cI, 80, .inl (u.2 12))), (v 13, .inl (cI, 80, .inl (u.2 13))), (v 14, .inl (cI, 80, .inl (u.2 14))), (v 15, .inl (cI, 80, .inl (u.2 15))), (v 16, .inl (cI, 6400, .inl (u.2 16))), (v 17, .inl (cI, 80, .inl (u.2 17))), (v 18, .inl (cI, 320, .inl (u.2 18))), (v 19, .inl (cI, 320, .inl (u.2 19))), (v 20, .inl (cZ, 100, .inl (u.2 20))), (v 21, .inl (cZ, 800, .inl (u.2 21))), (v 22, .inl (cI, 80, .inl (u.2 22))), (v 23, .inl (cI, 480, .inl (u.2 23))), (v 24, .inl (cI, 480, .inl (u.2 24))), (v 25, .inl (cI, 480, .inl (u.2 25))), (v 26, .inl (cI, 480, .inl (u.2 26))), (v 27, .inl (cI, 480, .inl (u.2 27))), (v 29, .inl (cI, 300, .inl (u.2 29))), (v 30, .inl (cI, 300, .inl (u.2 30))), (v 31, .inl (cI, 300, .inl (u.2 31))), (v 32, .inl (cI, 300, .inl (u.2 32))), (v 33, .inl (cI, 300, .inl (u.2 33))), (v 34, .inl (cI, 300, .inl (u.2 34))), (v 35, .inl (cI, 300, .inl (u.2 35))), (v 37, .inl (cI, 700, .inl (u.2 37))), (v 40, .inl (cZ, 12, .inl (u.2 40))), (v 41, .inl (cI, 12, .inl (u.2 41))), (v 42, .inl (cI, 12, .inl (u.2 42))), (v 43, .inl (cI, 96, .inl (u.2 43))), (v 44, .inl (cI, 5760, .inl (u.2 44))), (v 45, .inl (cI, 960, .inl (u.2 45))), (v 46, .inl (cI, 960, .inl (u.2 46))), (v 47, .inl (cI, 400, .inl (u.2 47))), (v 48, .inl (cZ, 32000, .inl (u.2 48)))]
theorem fr_all {A : Nat → Prop} {ws : va_W} {H0 H : Heap} {locs : List Loc} (hD : va_D A ws) (hS : va_S A H0 H locs) (hA : ∀ q, H0.size ≤ q → A q) : ∀ q, va_A ws H.size q → A q := by
  intro q h
  rcases h with ⟨k, e, hk⟩ | h
  · exact hD.2 k _ hk
  · exact hA q (Nat.le_trans hS.1 h)
theorem bne {b : Bool} (h : b = false) : ¬ b = true := by rw [h]; decide
theorem band {a b : Bool} (h : (a && b) = true) : a = true ∧ b = true := Bool.and_eq_true_iff.mp h
theorem i0 : (0 : Int32).toInt = 0 := rfl
theorem i1 : (1 : Int32).toInt = 1 := rfl
theorem subI {x y : Int32} (h1 : -2147483648 ≤ x.toInt - y.toInt) (h2 : x.toInt - y.toInt < 2147483648) : (x - y).toInt = x.toInt - y.toInt := by
  rw [Int32.toInt_sub]; exact Int.bmod_eq_of_le (by omega) (by omega)
/-- an item's number lies in the rows of 80 -/
theorem vIt {n i : Int32} (hn : bw n 0 80 = true) (h : bw i 0 (n - 1) = true) : vp_in i 80 := by
  have h80 : (80 : Int32).toInt = 80 := rfl
  have h1 := bw_iff.mp hn
  have h2 := bw_iff.mp h
  rw [i0, h80] at h1
  rw [i0, subI (by rw [i1]; omega) (by rw [i1]; omega), i1] at h2
  rw [vp_in_iff]; omega
theorem vNew {n : Int32} (hn : bw n 0 80 = true) (h : ¬ n = 80) : vp_in n 80 := by
  have h80 : (80 : Int32).toInt = 80 := rfl
  have h1 := bw_iff.mp hn
  rw [i0, h80] at h1
  have h3 : ¬ n.toInt = 80 := fun e => h (sw_in e.symm h80)
  rw [vp_in_iff]; omega
theorem vLine {n i c : Int32} (hn : bw n 0 80 = true) (h : bw i 0 (n - 1) = true) (hc : bw c 0 80 = true) (h8 : ¬ c = 80) : vp_in (80 * i + c) 6400 := by
  have h80 : (80 : Int32).toInt = 80 := rfl
  have h1 := vp_in_iff.mp (vIt hn h)
  have h2 := vp_in_iff.mp (vNew hc h8)
  have e1 : (80 * i).toInt = 80 * i.toInt := by rw [mulI (by rw [h80]; omega) (by rw [h80]; omega), h80]
  rw [vp_in_iff, addI (by rw [e1]; omega) (by rw [e1]; omega), e1]; omega
theorem vSize {n i c : Int32} (hn : bw n 0 80 = true) (h : bw i 0 (n - 1) = true) (hc : bw c 0 4 = true) (h8 : ¬ c = 4) : vp_in (4 * i + c) 320 := by
  have h4 : (4 : Int32).toInt = 4 := rfl
  have h1 := vp_in_iff.mp (vIt hn h)
  have h2 := bw_iff.mp hc
  rw [i0, h4] at h2
  have h3 : ¬ c.toInt = 4 := fun e => h8 (sw_in e.symm h4)
  have e1 : (4 * i).toInt = 4 * i.toInt := by rw [mulI (by rw [h4]; omega) (by rw [h4]; omega), h4]
  rw [vp_in_iff, addI (by rw [e1]; omega) (by rw [e1]; omega), e1]; omega
theorem vName {n i b : Int32} (hn : bw n 0 80 = true) (h : bw i 0 (n - 1) = true) (hb : bw b 0 9 = true) : vp_in (10 * i + b) 800 := by
  have h10 : (10 : Int32).toInt = 10 := rfl
  have h9 : (9 : Int32).toInt = 9 := rfl
  have h1 := vp_in_iff.mp (vIt hn h)
  have h2 := bw_iff.mp hb
  rw [i0, h9] at h2
  have e1 : (10 * i).toInt = 10 * i.toInt := by rw [mulI (by rw [h10]; omega) (by rw [h10]; omega), h10]
  rw [vp_in_iff, addI (by rw [e1]; omega) (by rw [e1]; omega), e1]; omega
theorem vlt {i : Int32} {n : Nat} (h : vp_in i n) : i.toNatClampNeg < n := Nat.lt_of_not_le (fun q => h (Or.inr q))
theorem zb (b : Bool) : narrow .boolean (.int (bi b)) = .int (bi b) := by cases b <;> rfl
set_option maxHeartbeats 4000000 in
set_option maxRecDepth 100000 in
theorem m_in (l : Launch) (dC : Nat → ClassId) (dI : Nat → Nat → Nat) (p0 p1 p2 : Int32) : Met l yX12_in wsX12_in ({ frames := 0, cells := 0, slots := 0, locals := 0 }) (va_Pc [.int p0, .int p1, .int p2] (PW dC dI [] [])) (vp_Si (fun r => r = bi (bw p0 p1 p2))) 0 0 (fun _ => False) := by
  refine Met.ofW (cc := cX12_in) (maxL := 3) (ret := (some .boolean)) (by decide) rfl ?_
  intro p e s m args below meth c s₁ B hml hv
  obtain ⟨rfl, hP, hK, hN⟩ := hv
  have hx := B.exec
  have hb := B.bytes
  have hr := B.returns
  have hts := atoms_spec (ws := wsX12_in) B.pre
  have hown : s.vm.findClass RX12 = some m.cls := findClass_of_methodNamed B.named
  have hlocks := B.notSynchronized
  have hl := lv_entry ([.int p0, .int p1, .int p2]) (n := 3) (Nat.le_of_ble_eq_true rfl)
  rw [lg_entry_eq]
  generalize (lg_sl ([.int p0, .int p1, .int p2]) ++ List.replicate (3 - (lg_sl ([.int p0, .int p1, .int p2])).length) Slot.unset).toArray = ls at hl ⊢
  have hl : lv_has ls 3 [(0, .int p0), (1, .int p1), (2, .int p2)] := hl
  refine lv_iload_n hx hb dX12_in_0 rfl (lv_at hl 0 rfl) ?_
  refine lv_iload_n hx hb dX12_in_1 rfl (lv_at hl 1 rfl) ?_
  refine lv_icmp_lt (tgt := 14) hx hb dX12_in_2 (by decide) (fun c_1 => ?_) (fun c_1 => ?_)
  ·
    refine lv_iconst (v := 0) hx hb dX12_in_14 (by decide) ?_
    exact W.zret (v := 0) hx hb hr (by decide) (fun t ht hW => ⟨_, rfl, bw0a c_1, ht⟩) (fun q h => absurd h List.not_mem_nil) dX12_in_15
  ·
    refine lv_iload_n hx hb dX12_in_5 rfl (lv_at hl 0 rfl) ?_
    refine lv_iload_n hx hb dX12_in_6 rfl (lv_at hl 2 rfl) ?_
    refine lv_icmp_gt (tgt := 14) hx hb dX12_in_7 (by decide) (fun c_2 => ?_) (fun c_2 => ?_)
    ·
      refine lv_iconst (v := 0) hx hb dX12_in_14 (by decide) ?_
      exact W.zret (v := 0) hx hb hr (by decide) (fun t ht hW => ⟨_, rfl, bw0b c_2, ht⟩) (fun q h => absurd h List.not_mem_nil) dX12_in_15
    ·
      refine lv_iconst (v := 1) hx hb dX12_in_10 (by decide) ?_
      refine lv_goto (tgt := 15) hx hb dX12_in_11 (by decide) ?_
      exact W.zret (v := 1) hx hb hr (by decide) (fun t ht hW => ⟨_, rfl, bw1 c_1 c_2, ht⟩) (fun q h => absurd h List.not_mem_nil) dX12_in_15
set_option maxHeartbeats 4000000 in
set_option maxRecDepth 100000 in
theorem m_isPage (l : Launch) (dC : Nat → ClassId) (dI : Nat → Nat → Nat) (p0 : Int32) : Met l yX12_isPage wsX12_isPage ({ frames := 1, cells := 0, slots := 0, locals := 22 }) (va_Pc [.int p0] (PW dC dI [] [])) (vp_Si (fun r => r = bi (bw p0 0 11))) 0 0 (fun _ => False) := by
  refine Met.ofW (cc := cX12_isPage) (maxL := 1) (ret := (some .boolean)) (by decide) rfl ?_
  intro p e s m args below meth c s₁ B hml hv
  obtain ⟨rfl, hP, hK, hN⟩ := hv
  have hx := B.exec
  have hb := B.bytes
  have hr := B.returns
  have hts := atoms_spec (ws := wsX12_isPage) B.pre
  have hown : s.vm.findClass RX12 = some m.cls := findClass_of_methodNamed B.named
  have hlocks := B.notSynchronized
  have hl := lv_entry ([.int p0]) (n := 1) (Nat.le_of_ble_eq_true rfl)
  rw [lg_entry_eq]
  generalize (lg_sl ([.int p0]) ++ List.replicate (1 - (lg_sl ([.int p0])).length) Slot.unset).toArray = ls at hl ⊢
  have hl : lv_has ls 1 [(0, .int p0)] := hl
  refine lv_iload_n hx hb dX12_isPage_0 rfl (lv_at hl 0 rfl) ?_
  refine lv_iconst (v := 0) hx hb dX12_isPage_1 (by decide) ?_
  refine lv_bipush (v := 11) hx hb dX12_isPage_2 (by decide) ?_
  refine vp_callSi (va_runS (As := [.int p0, .int 0, .int 11]) (rest := []) ⟨hx, hb, hml, hown, hts⟩ (m_in l dC dI p0 0 11) (va_cwS 3 hts gX12_isPage_X12_in rfl rfl rfl (by decide +kernel) ⟨Nat.le_of_ble_eq_true rfl, Nat.le_of_ble_eq_true rfl⟩) ⟨pw_fb, fun U hU hW => ⟨rfl, pw_to hU hW (hP.sub (ws' := []) [] rfl) (hK.sub (tys' := []) [] rfl) hN⟩⟩ rfl rfl hl.1 rfl (lv_room (Nat.le_of_ble_eq_true rfl)) dX12_isPage_4 ⟨Nat.le_of_ble_eq_true rfl, Nat.le_of_ble_eq_true rfl⟩).run (fun r hw => ?_)
  rcases Bool.eq_false_or_eq_true (bw p0 0 11) with b_1 | b_1
  ·
    obtain rfl : r = 1 := b_t hw b_1
    exact W.zret (v := 1) hx hb hr (by decide) (fun t ht hW => ⟨_, rfl, (by simp [bi, b_1]), ht⟩) (fun q h => absurd h List.not_mem_nil) dX12_isPage_7
  ·
    obtain rfl : r = 0 := b_f hw b_1
    exact W.zret (v := 0) hx hb hr (by decide) (fun t ht hW => ⟨_, rfl, (by simp [bi, b_1]), ht⟩) (fun q h => absurd h List.not_mem_nil) dX12_isPage_7
set_option maxHeartbeats 4000000 in
set_option maxRecDepth 100000 in
theorem m_isBuyer (l : Launch) (dC : Nat → ClassId) (dI : Nat → Nat → Nat) (p0 : Int32) : Met l yX12_isBuyer wsX12_isBuyer ({ frames := 1, cells := 0, slots := 0, locals := 22 }) (va_Pc [.int p0] (PW dC dI [] [])) (vp_Si (fun r => r = bi (bw p0 0 9))) 0 0 (fun _ => False) := by
  refine Met.ofW (cc := cX12_isBuyer) (maxL := 1) (ret := (some .boolean)) (by decide) rfl ?_
  intro p e s m args below meth c s₁ B hml hv
  obtain ⟨rfl, hP, hK, hN⟩ := hv
  have hx := B.exec
  have hb := B.bytes
  have hr := B.returns
  have hts := atoms_spec (ws := wsX12_isBuyer) B.pre
  have hown : s.vm.findClass RX12 = some m.cls := findClass_of_methodNamed B.named
  have hlocks := B.notSynchronized
  have hl := lv_entry ([.int p0]) (n := 1) (Nat.le_of_ble_eq_true rfl)
  rw [lg_entry_eq]
  generalize (lg_sl ([.int p0]) ++ List.replicate (1 - (lg_sl ([.int p0])).length) Slot.unset).toArray = ls at hl ⊢
  have hl : lv_has ls 1 [(0, .int p0)] := hl
  refine lv_iload_n hx hb dX12_isBuyer_0 rfl (lv_at hl 0 rfl) ?_
  refine lv_iconst (v := 0) hx hb dX12_isBuyer_1 (by decide) ?_
  refine lv_bipush (v := 9) hx hb dX12_isBuyer_2 (by decide) ?_
  refine vp_callSi (va_runS (As := [.int p0, .int 0, .int 9]) (rest := []) ⟨hx, hb, hml, hown, hts⟩ (m_in l dC dI p0 0 9) (va_cwS 3 hts gX12_isBuyer_X12_in rfl rfl rfl (by decide +kernel) ⟨Nat.le_of_ble_eq_true rfl, Nat.le_of_ble_eq_true rfl⟩) ⟨pw_fb, fun U hU hW => ⟨rfl, pw_to hU hW (hP.sub (ws' := []) [] rfl) (hK.sub (tys' := []) [] rfl) hN⟩⟩ rfl rfl hl.1 rfl (lv_room (Nat.le_of_ble_eq_true rfl)) dX12_isBuyer_4 ⟨Nat.le_of_ble_eq_true rfl, Nat.le_of_ble_eq_true rfl⟩).run (fun r hw => ?_)
  rcases Bool.eq_false_or_eq_true (bw p0 0 9) with b_1 | b_1
  ·
    obtain rfl : r = 1 := b_t hw b_1
    exact W.zret (v := 1) hx hb hr (by decide) (fun t ht hW => ⟨_, rfl, (by simp [bi, b_1]), ht⟩) (fun q h => absurd h List.not_mem_nil) dX12_isBuyer_7
  ·
    obtain rfl : r = 0 := b_f hw b_1
    exact W.zret (v := 0) hx hb hr (by decide) (fun t ht hW => ⟨_, rfl, (by simp [bi, b_1]), ht⟩) (fun q h => absurd h List.not_mem_nil) dX12_isBuyer_7
set_option maxHeartbeats 4000000 in
set_option maxRecDepth 100000 in
theorem m_at (l : Launch) (dC : Nat → ClassId) (dI : Nat → Nat → Nat) (p0 p1 p2 : Int32) : Met l yX12_at wsX12_at ({ frames := 0, cells := 0, slots := 0, locals := 0 }) (va_Pc [.int p0, .int p1, .int p2] (PW dC dI [] [])) (vp_Si (fun r => r = 480 * p0 + 60 * p1 + p2)) 0 0 (fun _ => False) := by
  refine Met.ofW (cc := cX12_at) (maxL := 3) (ret := (some .int)) (by decide) rfl ?_
  intro p e s m args below meth c s₁ B hml hv
  obtain ⟨rfl, hP, hK, hN⟩ := hv
  have hx := B.exec
  have hb := B.bytes
  have hr := B.returns
  have hts := atoms_spec (ws := wsX12_at) B.pre
  have hown : s.vm.findClass RX12 = some m.cls := findClass_of_methodNamed B.named
  have hlocks := B.notSynchronized
  have hl := lv_entry ([.int p0, .int p1, .int p2]) (n := 3) (Nat.le_of_ble_eq_true rfl)
  rw [lg_entry_eq]
  generalize (lg_sl ([.int p0, .int p1, .int p2]) ++ List.replicate (3 - (lg_sl ([.int p0, .int p1, .int p2])).length) Slot.unset).toArray = ls at hl ⊢
  have hl : lv_has ls 3 [(0, .int p0), (1, .int p1), (2, .int p2)] := hl
  refine lv_sipush (v := 480) hx hb dX12_at_0 (by decide) ?_
  refine lv_iload_n hx hb dX12_at_3 rfl (lv_at hl 0 rfl) ?_
  refine lv_imul hx hb dX12_at_4 ?_
  refine lv_bipush (v := 60) hx hb dX12_at_5 (by decide) ?_
  refine lv_iload_n hx hb dX12_at_7 rfl (lv_at hl 1 rfl) ?_
  refine lv_imul hx hb dX12_at_8 ?_
  refine lv_iadd hx hb dX12_at_9 ?_
  refine lv_iload_n hx hb dX12_at_10 rfl (lv_at hl 2 rfl) ?_
  refine lv_iadd hx hb dX12_at_11 ?_
  exact W.iret (v := (((480 * p0) + (60 * p1)) + p2)) hx hb hr (fun t ht hW => ⟨_, rfl, rfl, ht⟩) (fun q h => absurd h List.not_mem_nil) dX12_at_12
set_option maxHeartbeats 4000000 in
set_option maxRecDepth 100000 in
theorem m_isItem (l : Launch) (dC : Nat → ClassId) (dI : Nat → Nat → Nat) (h0 : Nat) (v : Nat → Nat) (cI cZ : ClassId) (u : mS) (p0 : Int32) : Met l yX12_isItem wsX12_isItem ({ frames := 1, cells := 0, slots := 0, locals := 22 }) (va_Pc [.ref h0, .int p0] (PW dC dI (mW h0 v cI cZ u) [(cI, .int), (cZ, .boolean)])) (vp_Si (fun r => r = bi (bw p0 0 (u.1 3 - 1)))) 0 0 (fun _ => False) := by
  refine Met.ofW (cc := cX12_isItem) (maxL := 2) (ret := (some .boolean)) (by decide) rfl ?_
  intro p e s m args below meth c s₁ B hml hv
  obtain ⟨rfl, hP, hK, hN⟩ := hv
  have hx := B.exec
  have hb := B.bytes
  have hr := B.returns
  have hts := atoms_spec (ws := wsX12_isItem) B.pre
  have hown : s.vm.findClass RX12 = some m.cls := findClass_of_methodNamed B.named
  have hlocks := B.notSynchronized
  have hl := lv_entry ([.ref h0, .int p0]) (n := 2) (Nat.le_of_ble_eq_true rfl)
  rw [lg_entry_eq]
  generalize (lg_sl ([.ref h0, .int p0]) ++ List.replicate (2 - (lg_sl ([.ref h0, .int p0])).length) Slot.unset).toArray = ls at hl ⊢
  have hl : lv_has ls 2 [(0, .ref h0), (1, .int p0)] := hl
  refine lv_iload_n hx hb dX12_isItem_0 rfl (lv_at hl 1 rfl) ?_
  refine lv_iconst (v := 0) hx hb dX12_isItem_1 (by decide) ?_
  refine lv_aload_n hx hb dX12_isItem_2 rfl (lv_at hl 0 rfl) ?_
  refine va_get (D := (dC, dI)) (ci := 11) (v := .int (u.1 3)) (C := RX12) (T := TX12) (N := 52) hx hb hts (by decide +kernel) hown hK hP 0 rfl rfl 3 (by decide) (hts (.fieldLink RX12 147 "PageOneModel" "items" "I") (by decide +kernel)) (fun _ h9 => h9) rfl dX12_isItem_3 ?_
  refine lv_iconst (v := 1) hx hb dX12_isItem_6 (by decide) ?_
  refine lv_isub hx hb dX12_isItem_7 ?_
  refine vp_callSi (va_runS (As := [.int p0, .int 0, .int ((u.1 3) - 1)]) (rest := []) ⟨hx, hb, hml, hown, hts⟩ (m_in l dC dI p0 0 ((u.1 3) - 1)) (va_cwS 3 hts gX12_isItem_X12_in rfl rfl rfl (by decide +kernel) ⟨Nat.le_of_ble_eq_true rfl, Nat.le_of_ble_eq_true rfl⟩) ⟨pw_fb, fun U hU hW => ⟨rfl, pw_to hU hW (hP.sub (ws' := []) [] rfl) (hK.sub (tys' := []) [] rfl) hN⟩⟩ rfl rfl hl.1 rfl (lv_room (Nat.le_of_ble_eq_true rfl)) dX12_isItem_8 ⟨Nat.le_of_ble_eq_true rfl, Nat.le_of_ble_eq_true rfl⟩).run (fun r hw => ?_)
  rcases Bool.eq_false_or_eq_true (bw p0 0 ((u.1 3) - 1)) with b_1 | b_1
  ·
    obtain rfl : r = 1 := b_t hw b_1
    exact W.zret (v := 1) hx hb hr (by decide) (fun t ht hW => ⟨_, rfl, (by simp [bi, b_1]), ht⟩) (fun q h => absurd h List.not_mem_nil) dX12_isItem_11
  ·
    obtain rfl : r = 0 := b_f hw b_1
    exact W.zret (v := 0) hx hb hr (by decide) (fun t ht hW => ⟨_, rfl, (by simp [bi, b_1]), ht⟩) (fun q h => absurd h List.not_mem_nil) dX12_isItem_11
set_option maxHeartbeats 4000000 in
set_option maxRecDepth 100000 in
theorem m_isKind (l : Launch) (dC : Nat → ClassId) (dI : Nat → Nat → Nat) (h0 : Nat) (v : Nat → Nat) (cI cZ : ClassId) (u : mS) (p0 p1 : Int32) (hn : bw (u.1 3) 0 80 = true) : Met l yX12_isKind wsX12_isKind ({ frames := 2, cells := 0, slots := 0, locals := 43 }) (va_Pc [.ref h0, .int p0, .int p1] (PW dC dI (mW h0 v cI cZ u) [(cI, .int), (cZ, .boolean)])) (vp_Si (fun r => r = bi (bw p0 0 (u.1 3 - 1) && decide (u.2 4 (p0 : Int32).toNatClampNeg = p1)))) 0 0 (fun _ => False) := by
  refine Met.ofW (cc := cX12_isKind) (maxL := 3) (ret := (some .boolean)) (by decide) rfl ?_
  intro p e s m args below meth c s₁ B hml hv
  obtain ⟨rfl, hP, hK, hN⟩ := hv
  have hx := B.exec
  have hb := B.bytes
  have hr := B.returns
  have hts := atoms_spec (ws := wsX12_isKind) B.pre
  have hown : s.vm.findClass RX12 = some m.cls := findClass_of_methodNamed B.named
  have hlocks := B.notSynchronized
  have hl := lv_entry ([.ref h0, .int p0, .int p1]) (n := 3) (Nat.le_of_ble_eq_true rfl)
  rw [lg_entry_eq]
  generalize (lg_sl ([.ref h0, .int p0, .int p1]) ++ List.replicate (3 - (lg_sl ([.ref h0, .int p0, .int p1])).length) Slot.unset).toArray = ls at hl ⊢
  have hl : lv_has ls 3 [(0, .ref h0), (1, .int p0), (2, .int p1)] := hl
  refine lv_aload_n hx hb dX12_isKind_0 rfl (lv_at hl 0 rfl) ?_
  refine lv_iload_n hx hb dX12_isKind_1 rfl (lv_at hl 1 rfl) ?_
  refine vp_callSi (va_runV (As := [.int p0]) (rest := []) ⟨hx, hb, hml, hown, hts⟩ (m_isItem l dC dI h0 v cI cZ u p0) (cwV 1 hts gX12_isKind_X12_isItem rfl rfl rfl (by decide +kernel) ⟨Nat.le_of_ble_eq_true rfl, Nat.le_of_ble_eq_true rfl⟩) ⟨pw_fb, va_recv hK hP (ci := 11) (q0 := 0) rfl rfl, fun U hU hW => ⟨rfl, pw_to hU hW hP hK hN⟩⟩ rfl rfl hl.1 rfl (lv_room (Nat.le_of_ble_eq_true rfl)) dX12_isKind_2 ⟨Nat.le_of_ble_eq_true rfl, Nat.le_of_ble_eq_true rfl⟩).run (fun r hw => ?_)
  rcases Bool.eq_false_or_eq_true (bw p0 0 (u.1 3 - 1)) with b_1 | b_1
  ·
    obtain rfl : r = 1 := b_t hw b_1
    refine lv_if_eq (tgt := 22) hx hb dX12_isKind_5 (by decide) (fun c_2 => absurd c_2 (by decide)) (fun c_2 => ?_)
    refine lv_aload_n hx hb dX12_isKind_8 rfl (lv_at hl 0 rfl) ?_
    refine va_get (D := (dC, dI)) (ci := 11) (v := .ref (v 4)) (C := RX12) (T := TX12) (N := 52) hx hb hts (by decide +kernel) hown hK hP 0 rfl rfl 4 (by decide) (hts (.fieldLink RX12 19 "PageOneModel" "kind" "[I") (by decide +kernel)) (fun _ h9 => h9) rfl dX12_isKind_9 ?_
    refine lv_iload_n hx hb dX12_isKind_12 rfl (lv_at hl 1 rfl) ?_
    refine va_iald hx hb hK hP 4 0 rfl rfl (vIt hn b_1) dX12_isKind_13 ?_
    refine lv_iload_n hx hb dX12_isKind_14 rfl (lv_at hl 2 rfl) ?_
    refine lv_icmp_ne (tgt := 22) hx hb dX12_isKind_15 (by decide) (fun c_3 => ?_) (fun c_3 => ?_)
    ·
      refine lv_iconst (v := 0) hx hb dX12_isKind_22 (by decide) ?_
      exact W.zret (v := 0) hx hb hr (by decide) (fun t ht hW => ⟨_, rfl, (by simp [bi, b_1, c_3]), ht⟩) (fun q h => absurd h List.not_mem_nil) dX12_isKind_23
    ·
      refine lv_iconst (v := 1) hx hb dX12_isKind_18 (by decide) ?_
      refine lv_goto (tgt := 23) hx hb dX12_isKind_19 (by decide) ?_
      exact W.zret (v := 1) hx hb hr (by decide) (fun t ht hW => ⟨_, rfl, (by simp [bi, b_1, c_3]), ht⟩) (fun q h => absurd h List.not_mem_nil) dX12_isKind_23
  ·
    obtain rfl : r = 0 := b_f hw b_1
    refine lv_if_eq (tgt := 22) hx hb dX12_isKind_5 (by decide) (fun c_4 => ?_) (fun c_4 => absurd (by decide) c_4)
    refine lv_iconst (v := 0) hx hb dX12_isKind_22 (by decide) ?_
    exact W.zret (v := 0) hx hb hr (by decide) (fun t ht hW => ⟨_, rfl, (by simp [bi, b_1]), ht⟩) (fun q h => absurd h List.not_mem_nil) dX12_isKind_23
