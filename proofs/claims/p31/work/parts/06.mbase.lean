/-- the reference's state: its ints and its rows, by their slots -/
abbrev mS : Type := (Nat → Int32) × (Nat → Nat → Int32)
def mput (u : mS) (k : Nat) (g : Nat → Int32) : mS := (u.1, fun j => if j = k then g else u.2 j)
def mset (u : mS) (k : Nat) (x : Int32) : mS := (fun j => if j = k then x else u.1 j, u.2)
def mst (u : mS) (k : Nat) (i x : Int32) : mS := mput u k (upd (u.2 k) i.toNatClampNeg x)
/-- its cells -/
abbrev mW (h0 : Nat) (v : Nat → Nat) (cI cZ : ClassId) (u : mS) : va_W := [(h0, .inr (11, mO v (u.1 3) (u.1 28) (u.1 36) (u.1 38) (u.1 39) (u.1 49) (u.1 50) (u.1 51))), (v 0, .inl (cI, 96, .inl (u.2 0))), (v 1, .inl (cI, 12, .inl (u.2 1))), (v 2, .inl (cI, 5760, .inl (u.2 2))), (v 4, .inl (cI, 80, .inl (u.2 4))), (v 5, .inl (cI, 80, .inl (u.2 5))), (v 6, .inl (cI, 80, .inl (u.2 6))), (v 7, .inl (cI, 80, .inl (u.2 7))), (v 8, .inl (cI, 80, .inl (u.2 8))), (v 9, .inl (cI, 80, .inl (u.2 9))), (v 10, .inl (cI, 80, .inl (u.2 10))), (v 11, .inl (cI, 80, .inl (u.2 11))), (v 12, .inl (cI, 80, .inl (u.2 12))), (v 13, .inl (cI, 80, .inl (u.2 13))), (v 14, .inl (cI, 80, .inl (u.2 14))), (v 15, .inl (cI, 80, .inl (u.2 15))), (v 16, .inl (cI, 6400, .inl (u.2 16))), (v 17, .inl (cI, 80, .inl (u.2 17))), (v 18, .inl (cI, 320, .inl (u.2 18))), (v 19, .inl (cI, 320, .inl (u.2 19))), (v 20, .inl (cZ, 100, .inl (u.2 20))), (v 21, .inl (cZ, 800, .inl (u.2 21))), (v 22, .inl (cI, 80, .inl (u.2 22))), (v 23, .inl (cI, 480, .inl (u.2 23))), (v 24, .inl (cI, 480, .inl (u.2 24))), (v 25, .inl (cI, 480, .inl (u.2 25))), (v 26, .inl (cI, 480, .inl (u.2 26))), (v 27, .inl (cI, 480, .inl (u.2 27))), (v 29, .inl (cI, 300, .inl (u.2 29))), (v 30, .inl (cI, 300, .inl (u.2 30))), (v 31, .inl (cI, 300, .inl (u.2 31))), (v 32, .inl (cI, 300, .inl (u.2 32))), (v 33, .inl (cI, 300, .inl (u.2 33))), (v 34, .inl (cI, 300, .inl (u.2 34))), (v 35, .inl (cI, 300, .inl (u.2 35))), (v 37, .inl (cI, 700, .inl (u.2 37))), (v 40, .inl (cZ, 12, .inl (u.2 40))), (v 41, .inl (cI, 12, .inl (u.2 41))), (v 42, .inl (cI, 12, .inl (u.2 42))), (v 43, .inl (cI, 96, .inl (u.2 43))), (v 44, .inl (cI, 5760, .inl (u.2 44))), (v 45, .inl (cI, 960, .inl (u.2 45))), (v 46, .inl (cI, 960, .inl (u.2 46))), (v 47, .inl (cI, 400, .inl (u.2 47))), (v 48, .inl (cZ, 32000, .inl (u.2 48)))]
theorem fr_all {A : Nat → Prop} {ws : va_W} {H0 H : Heap} {locs : List Loc} (hD : va_D A ws) (hS : va_S A H0 H locs) (hA : ∀ q, H0.size ≤ q → A q) : ∀ q, va_A ws H.size q → A q := by
  intro q h
  rcases h with ⟨k, e, hk⟩ | h
  · exact hD.2 k _ hk
  · exact hA q (Nat.le_trans hS.1 h)
theorem bne {b : Bool} (h : b = false) : ¬ b = true := by rw [h]; decide
theorem band {a b : Bool} (h : (a && b) = true) : a = true ∧ b = true := Bool.and_eq_true_iff.mp h
theorem i0 : (0 : Int32).toInt = 0 := rfl
theorem i1 : (1 : Int32).toInt = 1 := rfl
theorem subI {x y : Int32} (h1 : -2147483648 ≤ x.toInt - y.toInt) (h2 : x.toInt - y.toInt < 2147483648) : (x - y).toInt = x.toInt - y.toInt := by
  rw [Int32.toInt_sub]; exact Int.bmod_eq_of_le (by omega) (by omega)
/-- an item's number lies in the rows of 80 -/
theorem vIt {n i : Int32} (hn : bw n 0 80 = true) (h : bw i 0 (n - 1) = true) : vp_in i 80 := by
  have h80 : (80 : Int32).toInt = 80 := rfl
  have h1 := bw_iff.mp hn
  have h2 := bw_iff.mp h
  rw [i0, h80] at h1
  rw [i0, subI (by rw [i1]; omega) (by rw [i1]; omega), i1] at h2
  rw [vp_in_iff]; omega
theorem vNew {n : Int32} (hn : bw n 0 80 = true) (h : ¬ n = 80) : vp_in n 80 := by
  have h80 : (80 : Int32).toInt = 80 := rfl
  have h1 := bw_iff.mp hn
  rw [i0, h80] at h1
  have h3 : ¬ n.toInt = 80 := fun e => h (sw_in e.symm h80)
  rw [vp_in_iff]; omega
theorem vLine {n i c : Int32} (hn : bw n 0 80 = true) (h : bw i 0 (n - 1) = true) (hc : bw c 0 80 = true) (h8 : ¬ c = 80) : vp_in (80 * i + c) 6400 := by
  have h80 : (80 : Int32).toInt = 80 := rfl
  have h1 := vp_in_iff.mp (vIt hn h)
  have h2 := vp_in_iff.mp (vNew hc h8)
  have e1 : (80 * i).toInt = 80 * i.toInt := by rw [mulI (by rw [h80]; omega) (by rw [h80]; omega), h80]
  rw [vp_in_iff, addI (by rw [e1]; omega) (by rw [e1]; omega), e1]; omega
theorem vSize {n i c : Int32} (hn : bw n 0 80 = true) (h : bw i 0 (n - 1) = true) (hc : bw c 0 4 = true) (h8 : ¬ c = 4) : vp_in (4 * i + c) 320 := by
  have h4 : (4 : Int32).toInt = 4 := rfl
  have h1 := vp_in_iff.mp (vIt hn h)
  have h2 := bw_iff.mp hc
  rw [i0, h4] at h2
  have h3 : ¬ c.toInt = 4 := fun e => h8 (sw_in e.symm h4)
  have e1 : (4 * i).toInt = 4 * i.toInt := by rw [mulI (by rw [h4]; omega) (by rw [h4]; omega), h4]
  rw [vp_in_iff, addI (by rw [e1]; omega) (by rw [e1]; omega), e1]; omega
theorem vName {n i b : Int32} (hn : bw n 0 80 = true) (h : bw i 0 (n - 1) = true) (hb : bw b 0 9 = true) : vp_in (10 * i + b) 800 := by
  have h10 : (10 : Int32).toInt = 10 := rfl
  have h9 : (9 : Int32).toInt = 9 := rfl
  have h1 := vp_in_iff.mp (vIt hn h)
  have h2 := bw_iff.mp hb
  rw [i0, h9] at h2
  have e1 : (10 * i).toInt = 10 * i.toInt := by rw [mulI (by rw [h10]; omega) (by rw [h10]; omega), h10]
  rw [vp_in_iff, addI (by rw [e1]; omega) (by rw [e1]; omega), e1]; omega
theorem vlt {i : Int32} {n : Nat} (h : vp_in i n) : i.toNatClampNeg < n := Nat.lt_of_not_le (fun q => h (Or.inr q))
theorem zb (b : Bool) : narrow .boolean (.int (bi b)) = .int (bi b) := by cases b <;> rfl
set_option maxHeartbeats 4000000 in
set_option maxRecDepth 100000 in
theorem m_in (l : Launch) (dC : Nat → ClassId) (dI : Nat → Nat → Nat) (p0 p1 p2 : Int32) : Met l yX12_in wsX12_in ({ frames := 0, cells := 0, slots := 0, locals := 0 }) (va_Pc [.int p0, .int p1, .int p2] (PW dC dI [] [])) (vp_Si (fun r => r = bi (bw p0 p1 p2))) 0 0 (fun _ => False) := by
  refine Met.ofW (cc := cX12_in) (maxL := 3) (ret := (some .boolean)) (by decide) rfl ?_
  intro p e s m args below meth c s₁ B hml hv
  obtain ⟨rfl, hP, hK, hN⟩ := hv
  have hx := B.exec
  have hb := B.bytes
  have hr := B.returns
  have hts := atoms_spec (ws := wsX12_in) B.pre
  have hown : s.vm.findClass RX12 = some m.cls := findClass_of_methodNamed B.named
  have hlocks := B.notSynchronized
  have hl := lv_entry ([.int p0, .int p1, .int p2]) (n := 3) (Nat.le_of_ble_eq_true rfl)
  rw [lg_entry_eq]
  generalize (lg_sl ([.int p0, .int p1, .int p2]) ++ List.replicate (3 - (lg_sl ([.int p0, .int p1, .int p2])).length) Slot.unset).toArray = ls at hl ⊢
  have hl : lv_has ls 3 [(0, .int p0), (1, .int p1), (2, .int p2)] := hl
  refine lv_iload_n hx hb dX12_in_0 rfl (lv_at hl 0 rfl) ?_
  refine lv_iload_n hx hb dX12_in_1 rfl (lv_at hl 1 rfl) ?_
  refine lv_icmp_lt (tgt := 14) hx hb dX12_in_2 (by decide) (fun c_1 => ?_) (fun c_1 => ?_)
  ·
    refine lv_iconst (v := 0) hx hb dX12_in_14 (by decide) ?_
    exact W.zret (v := 0) hx hb hr (by decide) (fun t ht hW => ⟨_, rfl, bw0a c_1, ht⟩) (fun q h => absurd h List.not_mem_nil) dX12_in_15
  ·
    refine lv_iload_n hx hb dX12_in_5 rfl (lv_at hl 0 rfl) ?_
    refine lv_iload_n hx hb dX12_in_6 rfl (lv_at hl 2 rfl) ?_
    refine lv_icmp_gt (tgt := 14) hx hb dX12_in_7 (by decide) (fun c_2 => ?_) (fun c_2 => ?_)
    ·
      refine lv_iconst (v := 0) hx hb dX12_in_14 (by decide) ?_
      exact W.zret (v := 0) hx hb hr (by decide) (fun t ht hW => ⟨_, rfl, bw0b c_2, ht⟩) (fun q h => absurd h List.not_mem_nil) dX12_in_15
    ·
      refine lv_iconst (v := 1) hx hb dX12_in_10 (by decide) ?_
      refine lv_goto (tgt := 15) hx hb dX12_in_11 (by decide) ?_
      exact W.zret (v := 1) hx hb hr (by decide) (fun t ht hW => ⟨_, rfl, bw1 c_1 c_2, ht⟩) (fun q h => absurd h List.not_mem_nil) dX12_in_15
set_option maxHeartbeats 4000000 in
set_option maxRecDepth 100000 in
theorem m_isPage (l : Launch) (dC : Nat → ClassId) (dI : Nat → Nat → Nat) (p0 : Int32) : Met l yX12_isPage wsX12_isPage ({ frames := 1, cells := 0, slots := 0, locals := 22 }) (va_Pc [.int p0] (PW dC dI [] [])) (vp_Si (fun r => r = bi (bw p0 0 11))) 0 0 (fun _ => False) := by
  refine Met.ofW (cc := cX12_isPage) (maxL := 1) (ret := (some .boolean)) (by decide) rfl ?_
  intro p e s m args below meth c s₁ B hml hv
  obtain ⟨rfl, hP, hK, hN⟩ := hv
  have hx := B.exec
  have hb := B.bytes
  have hr := B.returns
  have hts := atoms_spec (ws := wsX12_isPage) B.pre
  have hown : s.vm.findClass RX12 = some m.cls := findClass_of_methodNamed B.named
  have hlocks := B.notSynchronized
  have hl := lv_entry ([.int p0]) (n := 1) (Nat.le_of_ble_eq_true rfl)
  rw [lg_entry_eq]
  generalize (lg_sl ([.int p0]) ++ List.replicate (1 - (lg_sl ([.int p0])).length) Slot.unset).toArray = ls at hl ⊢
  have hl : lv_has ls 1 [(0, .int p0)] := hl
  refine lv_iload_n hx hb dX12_isPage_0 rfl (lv_at hl 0 rfl) ?_
  refine lv_iconst (v := 0) hx hb dX12_isPage_1 (by decide) ?_
  refine lv_bipush (v := 11) hx hb dX12_isPage_2 (by decide) ?_
  refine vp_callSi (va_runS (As := [.int p0, .int 0, .int 11]) (rest := []) ⟨hx, hb, hml, hown, hts⟩ (m_in l dC dI p0 0 11) (va_cwS 3 hts gX12_isPage_X12_in rfl rfl rfl zh_X12_in_0 ⟨Nat.le_of_ble_eq_true rfl, Nat.le_of_ble_eq_true rfl⟩) ⟨pw_fb, fun U hU hW => ⟨rfl, pw_to hU hW (hP.sub (ws' := []) [] rfl) (hK.sub (tys' := []) [] rfl) hN⟩⟩ rfl rfl hl.1 rfl (lv_room (Nat.le_of_ble_eq_true rfl)) dX12_isPage_4 ⟨Nat.le_of_ble_eq_true rfl, Nat.le_of_ble_eq_true rfl⟩).run (fun r hw => ?_)
  rcases Bool.eq_false_or_eq_true (bw p0 0 11) with b_1 | b_1
  ·
    obtain rfl : r = 1 := b_t hw b_1
    exact W.zret (v := 1) hx hb hr (by decide) (fun t ht hW => ⟨_, rfl, (by simp [bi, b_1]), ht⟩) (fun q h => absurd h List.not_mem_nil) dX12_isPage_7
  ·
    obtain rfl : r = 0 := b_f hw b_1
    exact W.zret (v := 0) hx hb hr (by decide) (fun t ht hW => ⟨_, rfl, (by simp [bi, b_1]), ht⟩) (fun q h => absurd h List.not_mem_nil) dX12_isPage_7
set_option maxHeartbeats 4000000 in
set_option maxRecDepth 100000 in
theorem m_isBuyer (l : Launch) (dC : Nat → ClassId) (dI : Nat → Nat → Nat) (p0 : Int32) : Met l yX12_isBuyer wsX12_isBuyer ({ frames := 1, cells := 0, slots := 0, locals := 22 }) (va_Pc [.int p0] (PW dC dI [] [])) (vp_Si (fun r => r = bi (bw p0 0 9))) 0 0 (fun _ => False) := by
  refine Met.ofW (cc := cX12_isBuyer) (maxL := 1) (ret := (some .boolean)) (by decide) rfl ?_
  intro p e s m args below meth c s₁ B hml hv
  obtain ⟨rfl, hP, hK, hN⟩ := hv
  have hx := B.exec
  have hb := B.bytes
  have hr := B.returns
  have hts := atoms_spec (ws := wsX12_isBuyer) B.pre
  have hown : s.vm.findClass RX12 = some m.cls := findClass_of_methodNamed B.named
  have hlocks := B.notSynchronized
  have hl := lv_entry ([.int p0]) (n := 1) (Nat.le_of_ble_eq_true rfl)
  rw [lg_entry_eq]
  generalize (lg_sl ([.int p0]) ++ List.replicate (1 - (lg_sl ([.int p0])).length) Slot.unset).toArray = ls at hl ⊢
  have hl : lv_has ls 1 [(0, .int p0)] := hl
  refine lv_iload_n hx hb dX12_isBuyer_0 rfl (lv_at hl 0 rfl) ?_
  refine lv_iconst (v := 0) hx hb dX12_isBuyer_1 (by decide) ?_
  refine lv_bipush (v := 9) hx hb dX12_isBuyer_2 (by decide) ?_
  refine vp_callSi (va_runS (As := [.int p0, .int 0, .int 9]) (rest := []) ⟨hx, hb, hml, hown, hts⟩ (m_in l dC dI p0 0 9) (va_cwS 3 hts gX12_isBuyer_X12_in rfl rfl rfl zh_X12_in_0 ⟨Nat.le_of_ble_eq_true rfl, Nat.le_of_ble_eq_true rfl⟩) ⟨pw_fb, fun U hU hW => ⟨rfl, pw_to hU hW (hP.sub (ws' := []) [] rfl) (hK.sub (tys' := []) [] rfl) hN⟩⟩ rfl rfl hl.1 rfl (lv_room (Nat.le_of_ble_eq_true rfl)) dX12_isBuyer_4 ⟨Nat.le_of_ble_eq_true rfl, Nat.le_of_ble_eq_true rfl⟩).run (fun r hw => ?_)
  rcases Bool.eq_false_or_eq_true (bw p0 0 9) with b_1 | b_1
  ·
    obtain rfl : r = 1 := b_t hw b_1
    exact W.zret (v := 1) hx hb hr (by decide) (fun t ht hW => ⟨_, rfl, (by simp [bi, b_1]), ht⟩) (fun q h => absurd h List.not_mem_nil) dX12_isBuyer_7
  ·
    obtain rfl : r = 0 := b_f hw b_1
    exact W.zret (v := 0) hx hb hr (by decide) (fun t ht hW => ⟨_, rfl, (by simp [bi, b_1]), ht⟩) (fun q h => absurd h List.not_mem_nil) dX12_isBuyer_7
set_option maxHeartbeats 4000000 in
set_option maxRecDepth 100000 in
theorem m_at (l : Launch) (dC : Nat → ClassId) (dI : Nat → Nat → Nat) (p0 p1 p2 : Int32) : Met l yX12_at wsX12_at ({ frames := 0, cells := 0, slots := 0, locals := 0 }) (va_Pc [.int p0, .int p1, .int p2] (PW dC dI [] [])) (vp_Si (fun r => r = 480 * p0 + 60 * p1 + p2)) 0 0 (fun _ => False) := by
  refine Met.ofW (cc := cX12_at) (maxL := 3) (ret := (some .int)) (by decide) rfl ?_
  intro p e s m args below meth c s₁ B hml hv
  obtain ⟨rfl, hP, hK, hN⟩ := hv
  have hx := B.exec
  have hb := B.bytes
  have hr := B.returns
  have hts := atoms_spec (ws := wsX12_at) B.pre
  have hown : s.vm.findClass RX12 = some m.cls := findClass_of_methodNamed B.named
  have hlocks := B.notSynchronized
  have hl := lv_entry ([.int p0, .int p1, .int p2]) (n := 3) (Nat.le_of_ble_eq_true rfl)
  rw [lg_entry_eq]
  generalize (lg_sl ([.int p0, .int p1, .int p2]) ++ List.replicate (3 - (lg_sl ([.int p0, .int p1, .int p2])).length) Slot.unset).toArray = ls at hl ⊢
  have hl : lv_has ls 3 [(0, .int p0), (1, .int p1), (2, .int p2)] := hl
  refine lv_sipush (v := 480) hx hb dX12_at_0 (by decide) ?_
  refine lv_iload_n hx hb dX12_at_3 rfl (lv_at hl 0 rfl) ?_
  refine lv_imul hx hb dX12_at_4 ?_
  refine lv_bipush (v := 60) hx hb dX12_at_5 (by decide) ?_
  refine lv_iload_n hx hb dX12_at_7 rfl (lv_at hl 1 rfl) ?_
  refine lv_imul hx hb dX12_at_8 ?_
  refine lv_iadd hx hb dX12_at_9 ?_
  refine lv_iload_n hx hb dX12_at_10 rfl (lv_at hl 2 rfl) ?_
  refine lv_iadd hx hb dX12_at_11 ?_
  exact W.iret (v := (((480 * p0) + (60 * p1)) + p2)) hx hb hr (fun t ht hW => ⟨_, rfl, rfl, ht⟩) (fun q h => absurd h List.not_mem_nil) dX12_at_12
set_option maxHeartbeats 4000000 in
set_option maxRecDepth 100000 in
theorem m_isItem (l : Launch) (dC : Nat → ClassId) (dI : Nat → Nat → Nat) (h0 : Nat) (v : Nat → Nat) (cI cZ : ClassId) (u : mS) (p0 : Int32) : Met l yX12_isItem wsX12_isItem ({ frames := 1, cells := 0, slots := 0, locals := 22 }) (va_Pc [.ref h0, .int p0] (PW dC dI (mW h0 v cI cZ u) [(cI, .int), (cZ, .boolean)])) (vp_Si (fun r => r = bi (bw p0 0 (u.1 3 - 1)))) 0 0 (fun _ => False) := by
  refine Met.ofW (cc := cX12_isItem) (maxL := 2) (ret := (some .boolean)) (by decide) rfl ?_
  intro p e s m args below meth c s₁ B hml hv
  obtain ⟨rfl, hP, hK, hN⟩ := hv
  have hx := B.exec
  have hb := B.bytes
  have hr := B.returns
  have hts := atoms_spec (ws := wsX12_isItem) B.pre
  have hown : s.vm.findClass RX12 = some m.cls := findClass_of_methodNamed B.named
  have hlocks := B.notSynchronized
  have hl := lv_entry ([.ref h0, .int p0]) (n := 2) (Nat.le_of_ble_eq_true rfl)
  rw [lg_entry_eq]
  generalize (lg_sl ([.ref h0, .int p0]) ++ List.replicate (2 - (lg_sl ([.ref h0, .int p0])).length) Slot.unset).toArray = ls at hl ⊢
  have hl : lv_has ls 2 [(0, .ref h0), (1, .int p0)] := hl
  refine lv_iload_n hx hb dX12_isItem_0 rfl (lv_at hl 1 rfl) ?_
  refine lv_iconst (v := 0) hx hb dX12_isItem_1 (by decide) ?_
  refine lv_aload_n hx hb dX12_isItem_2 rfl (lv_at hl 0 rfl) ?_
  refine va_get (D := (dC, dI)) (ci := 11) (v := .int (u.1 3)) (C := RX12) (T := TX12) (N := 52) hx hb hts zl_X12_isItem_X12 hown hK hP 0 rfl rfl 3 (by decide) (hts (.fieldLink RX12 147 "PageOneModel" "items" "I") (zat q_wsX12_isItem k_wsX12_isItem 885 rfl (by decide +kernel))) (fun _ h9 => h9) rfl dX12_isItem_3 ?_
  refine lv_iconst (v := 1) hx hb dX12_isItem_6 (by decide) ?_
  refine lv_isub hx hb dX12_isItem_7 ?_
  refine vp_callSi (va_runS (As := [.int p0, .int 0, .int ((u.1 3) - 1)]) (rest := []) ⟨hx, hb, hml, hown, hts⟩ (m_in l dC dI p0 0 ((u.1 3) - 1)) (va_cwS 3 hts gX12_isItem_X12_in rfl rfl rfl zh_X12_in_0 ⟨Nat.le_of_ble_eq_true rfl, Nat.le_of_ble_eq_true rfl⟩) ⟨pw_fb, fun U hU hW => ⟨rfl, pw_to hU hW (hP.sub (ws' := []) [] rfl) (hK.sub (tys' := []) [] rfl) hN⟩⟩ rfl rfl hl.1 rfl (lv_room (Nat.le_of_ble_eq_true rfl)) dX12_isItem_8 ⟨Nat.le_of_ble_eq_true rfl, Nat.le_of_ble_eq_true rfl⟩).run (fun r hw => ?_)
  rcases Bool.eq_false_or_eq_true (bw p0 0 ((u.1 3) - 1)) with b_1 | b_1
  ·
    obtain rfl : r = 1 := b_t hw b_1
    exact W.zret (v := 1) hx hb hr (by decide) (fun t ht hW => ⟨_, rfl, (by simp [bi, b_1]), ht⟩) (fun q h => absurd h List.not_mem_nil) dX12_isItem_11
  ·
    obtain rfl : r = 0 := b_f hw b_1
    exact W.zret (v := 0) hx hb hr (by decide) (fun t ht hW => ⟨_, rfl, (by simp [bi, b_1]), ht⟩) (fun q h => absurd h List.not_mem_nil) dX12_isItem_11
set_option maxHeartbeats 4000000 in
set_option maxRecDepth 100000 in
theorem m_isKind (l : Launch) (dC : Nat → ClassId) (dI : Nat → Nat → Nat) (h0 : Nat) (v : Nat → Nat) (cI cZ : ClassId) (u : mS) (p0 p1 : Int32) (hn : bw (u.1 3) 0 80 = true) : Met l yX12_isKind wsX12_isKind ({ frames := 2, cells := 0, slots := 0, locals := 43 }) (va_Pc [.ref h0, .int p0, .int p1] (PW dC dI (mW h0 v cI cZ u) [(cI, .int), (cZ, .boolean)])) (vp_Si (fun r => r = bi (bw p0 0 (u.1 3 - 1) && decide (u.2 4 (p0 : Int32).toNatClampNeg = p1)))) 0 0 (fun _ => False) := by
  refine Met.ofW (cc := cX12_isKind) (maxL := 3) (ret := (some .boolean)) (by decide) rfl ?_
  intro p e s m args below meth c s₁ B hml hv
  obtain ⟨rfl, hP, hK, hN⟩ := hv
  have hx := B.exec
  have hb := B.bytes
  have hr := B.returns
  have hts := atoms_spec (ws := wsX12_isKind) B.pre
  have hown : s.vm.findClass RX12 = some m.cls := findClass_of_methodNamed B.named
  have hlocks := B.notSynchronized
  have hl := lv_entry ([.ref h0, .int p0, .int p1]) (n := 3) (Nat.le_of_ble_eq_true rfl)
  rw [lg_entry_eq]
  generalize (lg_sl ([.ref h0, .int p0, .int p1]) ++ List.replicate (3 - (lg_sl ([.ref h0, .int p0, .int p1])).length) Slot.unset).toArray = ls at hl ⊢
  have hl : lv_has ls 3 [(0, .ref h0), (1, .int p0), (2, .int p1)] := hl
  refine lv_aload_n hx hb dX12_isKind_0 rfl (lv_at hl 0 rfl) ?_
  refine lv_iload_n hx hb dX12_isKind_1 rfl (lv_at hl 1 rfl) ?_
  refine vp_callSi (va_runV (As := [.int p0]) (rest := []) ⟨hx, hb, hml, hown, hts⟩ (m_isItem l dC dI h0 v cI cZ u p0) (cwV 1 hts gX12_isKind_X12_isItem rfl rfl rfl zh_X12_isItem_1 ⟨Nat.le_of_ble_eq_true rfl, Nat.le_of_ble_eq_true rfl⟩) ⟨pw_fb, va_recv hK hP (ci := 11) (q0 := 0) rfl rfl, fun U hU hW => ⟨rfl, pw_to hU hW hP hK hN⟩⟩ rfl rfl hl.1 rfl (lv_room (Nat.le_of_ble_eq_true rfl)) dX12_isKind_2 ⟨Nat.le_of_ble_eq_true rfl, Nat.le_of_ble_eq_true rfl⟩).run (fun r hw => ?_)
  rcases Bool.eq_false_or_eq_true (bw p0 0 (u.1 3 - 1)) with b_1 | b_1
  ·
    obtain rfl : r = 1 := b_t hw b_1
    refine lv_if_eq (tgt := 22) hx hb dX12_isKind_5 (by decide) (fun c_2 => absurd c_2 (by decide)) (fun c_2 => ?_)
    refine lv_aload_n hx hb dX12_isKind_8 rfl (lv_at hl 0 rfl) ?_
    refine va_get (D := (dC, dI)) (ci := 11) (v := .ref (v 4)) (C := RX12) (T := TX12) (N := 52) hx hb hts zl_X12_isKind_X12 hown hK hP 0 rfl rfl 4 (by decide) (hts (.fieldLink RX12 19 "PageOneModel" "kind" "[I") (zat q_wsX12_isKind k_wsX12_isKind 886 rfl (by decide +kernel))) (fun _ h9 => h9) rfl dX12_isKind_9 ?_
    refine lv_iload_n hx hb dX12_isKind_12 rfl (lv_at hl 1 rfl) ?_
    refine va_iald hx hb hK hP 4 0 rfl rfl (vIt hn b_1) dX12_isKind_13 ?_
    refine lv_iload_n hx hb dX12_isKind_14 rfl (lv_at hl 2 rfl) ?_
    refine lv_icmp_ne (tgt := 22) hx hb dX12_isKind_15 (by decide) (fun c_3 => ?_) (fun c_3 => ?_)
    ·
      refine lv_iconst (v := 0) hx hb dX12_isKind_22 (by decide) ?_
      exact W.zret (v := 0) hx hb hr (by decide) (fun t ht hW => ⟨_, rfl, (by simp [bi, b_1, c_3]), ht⟩) (fun q h => absurd h List.not_mem_nil) dX12_isKind_23
    ·
      refine lv_iconst (v := 1) hx hb dX12_isKind_18 (by decide) ?_
      refine lv_goto (tgt := 23) hx hb dX12_isKind_19 (by decide) ?_
      exact W.zret (v := 1) hx hb hr (by decide) (fun t ht hW => ⟨_, rfl, (by simp [bi, b_1, c_3]), ht⟩) (fun q h => absurd h List.not_mem_nil) dX12_isKind_23
  ·
    obtain rfl : r = 0 := b_f hw b_1
    refine lv_if_eq (tgt := 22) hx hb dX12_isKind_5 (by decide) (fun c_4 => ?_) (fun c_4 => absurd (by decide) c_4)
    refine lv_iconst (v := 0) hx hb dX12_isKind_22 (by decide) ?_
    exact W.zret (v := 0) hx hb hr (by decide) (fun t ht hW => ⟨_, rfl, (by simp [bi, b_1]), ht⟩) (fun q h => absurd h List.not_mem_nil) dX12_isKind_23
/-- made(k): a new item -/
def mMade (u : mS) (k : Int32) : mS :=
  let w := mst (mst (mst (mst (mst (mst (mst (mst (mst (mst u 4 (u.1 3) k) 5 (u.1 3) 0) 6 (u.1 3) 0) 7 (u.1 3) 0) 8 (u.1 3) 0) 9 (u.1 3) (-1)) 10 (u.1 3) (-1)) 15 (u.1 3) 0) 17 (u.1 3) 0) 22 (u.1 3) 0
  mset w 3 (w.1 3 + 1)
def mStory (u : mS) (n : Int32) : Int32 × mS := if u.1 3 = 80 then (-1, u) else if bw n 1 80 = true then (u.1 3, mst (mMade u 0) 5 (u.1 3) n) else (-1, u)
def mKind (u : mS) (i k : Int32) : Bool := bw i 0 (u.1 3 - 1) && decide (u.2 4 i.toNatClampNeg = k)
def mLine (u : mS) (i w : Int32) : Int32 × mS := if mKind u i 0 = true then (if bw w 1 200 = true then (if u.2 15 i.toNatClampNeg = 80 then (-1, u) else
  let u1 := mst u 16 (80 * i + u.2 15 i.toNatClampNeg) w
  let u2 := mst u1 15 i (u1.2 15 i.toNatClampNeg + 1)
  (u2.2 15 i.toNatClampNeg, u2)) else (-1, u)) else (-1, u)
def mHead (u : mS) (s w h : Int32) : Int32 × mS := if u.1 3 = 80 then (-1, u) else if mKind u s 0 = true then (if bw w 1 8 = true then (if bw h 1 9 = true then (u.1 3, mst (mst (mst (mMade u 1) 9 (u.1 3) s) 7 (u.1 3) w) 8 (u.1 3) h) else (-1, u)) else (-1, u)) else (-1, u)
def mPicture (u : mS) : Int32 × mS := if u.1 3 = 80 then (-1, u) else (u.1 3, mMade u 2)
def mSize (u : mS) (i w h : Int32) : Int32 × mS := if mKind u i 2 = true then (if bw w 1 8 = true then (if bw h 1 60 = true then (if u.2 17 i.toNatClampNeg = 4 then (-1, u) else
  let u1 := mst u 18 (4 * i + u.2 17 i.toNatClampNeg) w
  let u2 := mst u1 19 (4 * i + u1.2 17 i.toNatClampNeg) h
  let u3 := mst u2 17 i (u2.2 17 i.toNatClampNeg + 1)
  (u3.2 17 i.toNatClampNeg, u3)) else (-1, u)) else (-1, u)) else (-1, u)
def mFiller (u : mS) (a b : Int32) : Int32 × mS := if u.1 3 = 80 then (-1, u) else if bw a 1 60 = true then (if bw b a 60 = true then (u.1 3, mst (mst (mMade u 4) 5 (u.1 3) a) 6 (u.1 3) b) else (-1, u)) else (-1, u)
def mPaid (u : mS) (b p c l w h m : Int32) : Int32 × mS := if u.1 3 = 80 then (-1, u) else if (bw b 0 9 && (bw p 0 11 && bw c 0 7 && bw l 0 59) && (bw w 1 8 && bw h 1 60) && !decide (8 < c + w) && !decide (60 < l + h) && bw m 0 1000) = true then (u.1 3, mst (mst (mst (mst (mst (mst (mst (mMade u 3) 10 (u.1 3) b) 11 (u.1 3) p) 12 (u.1 3) c) 13 (u.1 3) l) 7 (u.1 3) w) 8 (u.1 3) h) 14 (u.1 3) m) else (-1, u)
def mRival (u : mS) (a b : Int32) : Int32 × mS := if bw a 0 9 = true then (if bw b 0 9 = true then (if a = b then (0, u) else if u.2 20 (10 * a + b).toNatClampNeg = 0 then (1, mst (mst u 20 (10 * a + b) (vp_nar .boolean 1)) 20 (10 * b + a) (vp_nar .boolean 1)) else (0, u)) else (0, u)) else (0, u)
def mNames (u : mS) (s b : Int32) : Int32 × mS := if mKind u s 0 = true then (if bw b 0 9 = true then (if u.2 21 (10 * s + b).toNatClampNeg = 0 then (1, mst u 21 (10 * s + b) (vp_nar .boolean 1)) else (0, u)) else (0, u)) else (0, u)
set_option maxHeartbeats 4000000 in
set_option maxRecDepth 100000 in
theorem m_made (l : Launch) (dC : Nat → ClassId) (dI : Nat → Nat → Nat) (h0 : Nat) (v : Nat → Nat) (cI cZ : ClassId) (u : mS) (p0 : Int32) (hn : bw (u.1 3) 0 80 = true) (h8 : ¬ u.1 3 = 80) (sz : Nat) : Met l yX12_made wsX12_made ({ frames := 0, cells := 0, slots := 0, locals := 0 }) (va_Pc [.ref h0, .int p0] (fun U => U.heap.size = sz ∧ PW dC dI (mW h0 v cI cZ u) [(cI, .int), (cZ, .boolean)] U ∧ va_D (fun _ => True) (mW h0 v cI cZ u))) (va_Qi (fun (r : Int32) (u9 : mS) => r = u.1 3 ∧ u9 = mMade u p0) (fun u9 t => va_P (dC, dI) vwCl (mW h0 v cI cZ u9) t.heap ∧ va_D (va_A (mW h0 v cI cZ u) sz) (mW h0 v cI cZ u9)) (va_A (mW h0 v cI cZ u) sz)) 0 0 (va_A (mW h0 v cI cZ u) sz) := by
  refine Met.ofW (cc := cX12_made) (maxL := 3) (ret := (some .int)) (by decide) rfl ?_
  intro p e s m args below meth c s₁ B hml hv
  obtain ⟨rfl, hsz, ⟨hP, hK, hN⟩, hD0⟩ := hv
  have hx := B.exec
  have hb := B.bytes
  have hr := B.returns
  have hts := atoms_spec (ws := wsX12_made) B.pre
  have hown : s.vm.findClass RX12 = some m.cls := findClass_of_methodNamed B.named
  have hlocks := B.notSynchronized
  subst hsz
  have hD := hD0.self (sz := s.heap.size)
  generalize hAe : va_A (mW h0 v cI cZ u) s.heap.size = A at hD ⊢
  have hA : ∀ q : Nat, s.heap.size ≤ q → A q := fun q h => by rw [← hAe]; exact Or.inr h
  have hS : va_S A s.heap s.heap [] := va_S.rf
  have hl := lv_entry ([.ref h0, .int p0]) (n := 3) (Nat.le_of_ble_eq_true rfl)
  rw [lg_entry_eq]
  generalize (lg_sl ([.ref h0, .int p0]) ++ List.replicate (3 - (lg_sl ([.ref h0, .int p0])).length) Slot.unset).toArray = ls at hl ⊢
  have hl : lv_has ls 3 [(0, .ref h0), (1, .int p0)] := hl
  refine lv_aload_n hx hb dX12_made_0 rfl (lv_at hl 0 rfl) ?_
  refine va_get (D := (dC, dI)) (ci := 11) (v := .int (u.1 3)) (C := RX12) (T := TX12) (N := 52) hx hb hts zl_X12_made_X12 hown hK hP 0 rfl rfl 3 (by decide) (hts (.fieldLink RX12 147 "PageOneModel" "items" "I") (zat q_wsX12_made k_wsX12_made 885 rfl (by decide +kernel))) (fun _ h9 => h9) rfl dX12_made_1 ?_
  refine lv_istore_n (lv' := [(2, .int (u.1 3)), (0, .ref h0), (1, .int p0)]) hx hb dX12_made_4 rfl hl (by decide) rfl (fun ls hl => ?_)
  refine lv_aload_n hx hb dX12_made_5 rfl (lv_at hl 1 rfl) ?_
  refine va_get (D := (dC, dI)) (ci := 11) (v := .ref (v 4)) (C := RX12) (T := TX12) (N := 52) hx hb hts zl_X12_made_X12 hown hK hP 0 rfl rfl 4 (by decide) (hts (.fieldLink RX12 19 "PageOneModel" "kind" "[I") (zat q_wsX12_made k_wsX12_made 886 rfl (by decide +kernel))) (fun _ h9 => h9) rfl dX12_made_6 ?_
  refine lv_iload_n hx hb dX12_made_9 rfl (lv_at hl 0 rfl) ?_
  refine lv_iload_n hx hb dX12_made_10 rfl (lv_at hl 2 rfl) ?_
  refine va_iast hx hb hK hP hD hS 4 0 rfl rfl (vNew hn h8) dX12_made_11 (fun H locs hP hD hS => ?_)
  obtain ⟨u_1, eu_1⟩ : ∃ zz : mS, zz = mst u 4 (u.1 3) p0 := ⟨_, rfl⟩
  have hP : va_P (dC, dI) vwCl (mW h0 v cI cZ u_1) H := by rw [eu_1]; exact hP
  have hD : va_D A (mW h0 v cI cZ u_1) := by rw [eu_1]; exact hD
  refine lv_aload_n hx hb dX12_made_12 rfl (lv_at hl 1 rfl) ?_
  refine va_get (D := (dC, dI)) (ci := 11) (v := .ref (v 5)) (C := RX12) (T := TX12) (N := 52) hx hb hts zl_X12_made_X12 hown hK hP 0 rfl rfl 5 (by decide) (hts (.fieldLink RX12 22 "PageOneModel" "least" "[I") (zat q_wsX12_made k_wsX12_made 887 rfl (by decide +kernel))) (fun _ h9 => h9) rfl dX12_made_13 ?_
  refine lv_iload_n hx hb dX12_made_16 rfl (lv_at hl 0 rfl) ?_
  refine lv_iconst (v := 0) hx hb dX12_made_17 (by decide) ?_
  refine va_iast hx hb hK hP hD hS 5 0 rfl rfl (vNew hn h8) dX12_made_18 (fun H locs hP hD hS => ?_)
  obtain ⟨u_2, eu_2⟩ : ∃ zz : mS, zz = mst u_1 5 (u.1 3) 0 := ⟨_, rfl⟩
  have hP : va_P (dC, dI) vwCl (mW h0 v cI cZ u_2) H := by rw [eu_2]; exact hP
  have hD : va_D A (mW h0 v cI cZ u_2) := by rw [eu_2]; exact hD
  refine lv_aload_n hx hb dX12_made_19 rfl (lv_at hl 1 rfl) ?_
  refine va_get (D := (dC, dI)) (ci := 11) (v := .ref (v 6)) (C := RX12) (T := TX12) (N := 52) hx hb hts zl_X12_made_X12 hown hK hP 0 rfl rfl 6 (by decide) (hts (.fieldLink RX12 25 "PageOneModel" "most" "[I") (zat q_wsX12_made k_wsX12_made 888 rfl (by decide +kernel))) (fun _ h9 => h9) rfl dX12_made_20 ?_
  refine lv_iload_n hx hb dX12_made_23 rfl (lv_at hl 0 rfl) ?_
  refine lv_iconst (v := 0) hx hb dX12_made_24 (by decide) ?_
  refine va_iast hx hb hK hP hD hS 6 0 rfl rfl (vNew hn h8) dX12_made_25 (fun H locs hP hD hS => ?_)
  obtain ⟨u_3, eu_3⟩ : ∃ zz : mS, zz = mst u_2 6 (u.1 3) 0 := ⟨_, rfl⟩
  have hP : va_P (dC, dI) vwCl (mW h0 v cI cZ u_3) H := by rw [eu_3]; exact hP
  have hD : va_D A (mW h0 v cI cZ u_3) := by rw [eu_3]; exact hD
  refine lv_aload_n hx hb dX12_made_26 rfl (lv_at hl 1 rfl) ?_
  refine va_get (D := (dC, dI)) (ci := 11) (v := .ref (v 7)) (C := RX12) (T := TX12) (N := 52) hx hb hts zl_X12_made_X12 hown hK hP 0 rfl rfl 7 (by decide) (hts (.fieldLink RX12 28 "PageOneModel" "wide" "[I") (zat q_wsX12_made k_wsX12_made 889 rfl (by decide +kernel))) (fun _ h9 => h9) rfl dX12_made_27 ?_
  refine lv_iload_n hx hb dX12_made_30 rfl (lv_at hl 0 rfl) ?_
  refine lv_iconst (v := 0) hx hb dX12_made_31 (by decide) ?_
  refine va_iast hx hb hK hP hD hS 7 0 rfl rfl (vNew hn h8) dX12_made_32 (fun H locs hP hD hS => ?_)
  obtain ⟨u_4, eu_4⟩ : ∃ zz : mS, zz = mst u_3 7 (u.1 3) 0 := ⟨_, rfl⟩
  have hP : va_P (dC, dI) vwCl (mW h0 v cI cZ u_4) H := by rw [eu_4]; exact hP
  have hD : va_D A (mW h0 v cI cZ u_4) := by rw [eu_4]; exact hD
  refine lv_aload_n hx hb dX12_made_33 rfl (lv_at hl 1 rfl) ?_
  refine va_get (D := (dC, dI)) (ci := 11) (v := .ref (v 8)) (C := RX12) (T := TX12) (N := 52) hx hb hts zl_X12_made_X12 hown hK hP 0 rfl rfl 8 (by decide) (hts (.fieldLink RX12 31 "PageOneModel" "high" "[I") (zat q_wsX12_made k_wsX12_made 890 rfl (by decide +kernel))) (fun _ h9 => h9) rfl dX12_made_34 ?_
  refine lv_iload_n hx hb dX12_made_37 rfl (lv_at hl 0 rfl) ?_
  refine lv_iconst (v := 0) hx hb dX12_made_38 (by decide) ?_
  refine va_iast hx hb hK hP hD hS 8 0 rfl rfl (vNew hn h8) dX12_made_39 (fun H locs hP hD hS => ?_)
  obtain ⟨u_5, eu_5⟩ : ∃ zz : mS, zz = mst u_4 8 (u.1 3) 0 := ⟨_, rfl⟩
  have hP : va_P (dC, dI) vwCl (mW h0 v cI cZ u_5) H := by rw [eu_5]; exact hP
  have hD : va_D A (mW h0 v cI cZ u_5) := by rw [eu_5]; exact hD
  refine lv_aload_n hx hb dX12_made_40 rfl (lv_at hl 1 rfl) ?_
  refine va_get (D := (dC, dI)) (ci := 11) (v := .ref (v 9)) (C := RX12) (T := TX12) (N := 52) hx hb hts zl_X12_made_X12 hown hK hP 0 rfl rfl 9 (by decide) (hts (.fieldLink RX12 34 "PageOneModel" "of" "[I") (zat q_wsX12_made k_wsX12_made 891 rfl (by decide +kernel))) (fun _ h9 => h9) rfl dX12_made_41 ?_
  refine lv_iload_n hx hb dX12_made_44 rfl (lv_at hl 0 rfl) ?_
  refine lv_iconst (v := (-1)) hx hb dX12_made_45 (by decide) ?_
  refine va_iast hx hb hK hP hD hS 9 0 rfl rfl (vNew hn h8) dX12_made_46 (fun H locs hP hD hS => ?_)
  obtain ⟨u_6, eu_6⟩ : ∃ zz : mS, zz = mst u_5 9 (u.1 3) (-1) := ⟨_, rfl⟩
  have hP : va_P (dC, dI) vwCl (mW h0 v cI cZ u_6) H := by rw [eu_6]; exact hP
  have hD : va_D A (mW h0 v cI cZ u_6) := by rw [eu_6]; exact hD
  refine lv_aload_n hx hb dX12_made_47 rfl (lv_at hl 1 rfl) ?_
  refine va_get (D := (dC, dI)) (ci := 11) (v := .ref (v 10)) (C := RX12) (T := TX12) (N := 52) hx hb hts zl_X12_made_X12 hown hK hP 0 rfl rfl 10 (by decide) (hts (.fieldLink RX12 37 "PageOneModel" "buyer" "[I") (zat q_wsX12_made k_wsX12_made 892 rfl (by decide +kernel))) (fun _ h9 => h9) rfl dX12_made_48 ?_
  refine lv_iload_n hx hb dX12_made_51 rfl (lv_at hl 0 rfl) ?_
  refine lv_iconst (v := (-1)) hx hb dX12_made_52 (by decide) ?_
  refine va_iast hx hb hK hP hD hS 10 0 rfl rfl (vNew hn h8) dX12_made_53 (fun H locs hP hD hS => ?_)
  obtain ⟨u_7, eu_7⟩ : ∃ zz : mS, zz = mst u_6 10 (u.1 3) (-1) := ⟨_, rfl⟩
  have hP : va_P (dC, dI) vwCl (mW h0 v cI cZ u_7) H := by rw [eu_7]; exact hP
  have hD : va_D A (mW h0 v cI cZ u_7) := by rw [eu_7]; exact hD
  refine lv_aload_n hx hb dX12_made_54 rfl (lv_at hl 1 rfl) ?_
  refine va_get (D := (dC, dI)) (ci := 11) (v := .ref (v 15)) (C := RX12) (T := TX12) (N := 52) hx hb hts zl_X12_made_X12 hown hK hP 0 rfl rfl 15 (by decide) (hts (.fieldLink RX12 52 "PageOneModel" "come" "[I") (zat q_wsX12_made k_wsX12_made 897 rfl (by decide +kernel))) (fun _ h9 => h9) rfl dX12_made_55 ?_
  refine lv_iload_n hx hb dX12_made_58 rfl (lv_at hl 0 rfl) ?_
  refine lv_iconst (v := 0) hx hb dX12_made_59 (by decide) ?_
  refine va_iast hx hb hK hP hD hS 15 0 rfl rfl (vNew hn h8) dX12_made_60 (fun H locs hP hD hS => ?_)
  obtain ⟨u_8, eu_8⟩ : ∃ zz : mS, zz = mst u_7 15 (u.1 3) 0 := ⟨_, rfl⟩
  have hP : va_P (dC, dI) vwCl (mW h0 v cI cZ u_8) H := by rw [eu_8]; exact hP
  have hD : va_D A (mW h0 v cI cZ u_8) := by rw [eu_8]; exact hD
  refine lv_aload_n hx hb dX12_made_61 rfl (lv_at hl 1 rfl) ?_
  refine va_get (D := (dC, dI)) (ci := 11) (v := .ref (v 17)) (C := RX12) (T := TX12) (N := 52) hx hb hts zl_X12_made_X12 hown hK hP 0 rfl rfl 17 (by decide) (hts (.fieldLink RX12 58 "PageOneModel" "sizes" "[I") (zat q_wsX12_made k_wsX12_made 899 rfl (by decide +kernel))) (fun _ h9 => h9) rfl dX12_made_62 ?_
  refine lv_iload_n hx hb dX12_made_65 rfl (lv_at hl 0 rfl) ?_
  refine lv_iconst (v := 0) hx hb dX12_made_66 (by decide) ?_
  refine va_iast hx hb hK hP hD hS 17 0 rfl rfl (vNew hn h8) dX12_made_67 (fun H locs hP hD hS => ?_)
  obtain ⟨u_9, eu_9⟩ : ∃ zz : mS, zz = mst u_8 17 (u.1 3) 0 := ⟨_, rfl⟩
  have hP : va_P (dC, dI) vwCl (mW h0 v cI cZ u_9) H := by rw [eu_9]; exact hP
  have hD : va_D A (mW h0 v cI cZ u_9) := by rw [eu_9]; exact hD
  refine lv_aload_n hx hb dX12_made_68 rfl (lv_at hl 1 rfl) ?_
  refine va_get (D := (dC, dI)) (ci := 11) (v := .ref (v 22)) (C := RX12) (T := TX12) (N := 52) hx hb hts zl_X12_made_X12 hown hK hP 0 rfl rfl 22 (by decide) (hts (.fieldLink RX12 74 "PageOneModel" "pieces" "[I") (zat q_wsX12_made k_wsX12_made 904 rfl (by decide +kernel))) (fun _ h9 => h9) rfl dX12_made_69 ?_
  refine lv_iload_n hx hb dX12_made_72 rfl (lv_at hl 0 rfl) ?_
  refine lv_iconst (v := 0) hx hb dX12_made_73 (by decide) ?_
  refine va_iast hx hb hK hP hD hS 22 0 rfl rfl (vNew hn h8) dX12_made_74 (fun H locs hP hD hS => ?_)
  obtain ⟨u_10, eu_10⟩ : ∃ zz : mS, zz = mst u_9 22 (u.1 3) 0 := ⟨_, rfl⟩
  have hP : va_P (dC, dI) vwCl (mW h0 v cI cZ u_10) H := by rw [eu_10]; exact hP
  have hD : va_D A (mW h0 v cI cZ u_10) := by rw [eu_10]; exact hD
  refine lv_aload_n hx hb dX12_made_75 rfl (lv_at hl 1 rfl) ?_
  refine lv_dup hx hb dX12_made_76 rfl ?_
  refine va_get (D := (dC, dI)) (ci := 11) (v := .int (u_10.1 3)) (C := RX12) (T := TX12) (N := 52) hx hb hts zl_X12_made_X12 hown hK hP 0 rfl rfl 3 (by decide) (hts (.fieldLink RX12 147 "PageOneModel" "items" "I") (zat q_wsX12_made k_wsX12_made 885 rfl (by decide +kernel))) (fun _ h9 => h9) rfl dX12_made_77 ?_
  refine lv_iconst (v := 1) hx hb dX12_made_80 (by decide) ?_
  refine lv_iadd hx hb dX12_made_81 ?_
  refine va_put (D := (dC, dI)) (ci := 11) (v := .int ((u_10.1 3) + 1)) (ty := .int) (C := RX12) (T := TX12) (N := 52) hx hb hts zl_X12_made_X12 tyX12 tyX12_ok nmX12 hown hK hP hD hS 0 rfl rfl 3 (by decide) (hts (.fieldLink RX12 147 "PageOneModel" "items" "I") (zat q_wsX12_made k_wsX12_made 885 rfl (by decide +kernel))) (fun _ h9 => h9) rfl (tyX12_ok 3 (by decide)) rfl rfl (Nat.le_of_ble_eq_true rfl) dX12_made_82 (fun H locs hP hD hS => ?_)
  obtain ⟨u_11, eu_11⟩ : ∃ zz : mS, zz = mset u_10 3 ((u_10.1 3) + 1) := ⟨_, rfl⟩
  have hP : va_P (dC, dI) vwCl (mW h0 v cI cZ u_11) H := by rw [eu_11]; exact hP
  have hD : va_D A (mW h0 v cI cZ u_11) := by rw [eu_11]; exact hD
  refine lv_iload_n hx hb dX12_made_85 rfl (lv_at hl 0 rfl) ?_
  exact W.iret (v := (u.1 3)) hx hb hr (fun t ht hW => ⟨⟨(u.1 3), u_11, rfl, ⟨rfl, by subst eu_1 eu_2 eu_3 eu_4 eu_5 eu_6 eu_7 eu_8 eu_9 eu_10 eu_11; rfl⟩, by rw [ht]; exact hP, hD⟩, hS.F ht⟩) hS.2.2 dX12_made_86
set_option maxHeartbeats 4000000 in
set_option maxRecDepth 100000 in
theorem m_story (l : Launch) (dC : Nat → ClassId) (dI : Nat → Nat → Nat) (h0 : Nat) (v : Nat → Nat) (cI cZ : ClassId) (u : mS) (p0 : Int32) (hn : bw (u.1 3) 0 80 = true) (sz : Nat) : Met l yX12_story wsX12_story ({ frames := 1, cells := 0, slots := 0, locals := 22 }) (va_Pc [.ref h0, .int p0] (fun U => U.heap.size = sz ∧ PW dC dI (mW h0 v cI cZ u) [(cI, .int), (cZ, .boolean)] U ∧ va_D (fun _ => True) (mW h0 v cI cZ u))) (va_Qi (fun (r : Int32) (u9 : mS) => (r, u9) = mStory u p0) (fun u9 t => va_P (dC, dI) vwCl (mW h0 v cI cZ u9) t.heap ∧ va_D (va_A (mW h0 v cI cZ u) sz) (mW h0 v cI cZ u9)) (va_A (mW h0 v cI cZ u) sz)) 0 0 (va_A (mW h0 v cI cZ u) sz) := by
  refine Met.ofW (cc := cX12_story) (maxL := 3) (ret := (some .int)) (by decide) rfl ?_
  intro p e s m args below meth c s₁ B hml hv
  obtain ⟨rfl, hsz, ⟨hP, hK, hN⟩, hD0⟩ := hv
  have hx := B.exec
  have hb := B.bytes
  have hr := B.returns
  have hts := atoms_spec (ws := wsX12_story) B.pre
  have hown : s.vm.findClass RX12 = some m.cls := findClass_of_methodNamed B.named
  have hlocks := B.notSynchronized
  subst hsz
  have hD := hD0.self (sz := s.heap.size)
  generalize hAe : va_A (mW h0 v cI cZ u) s.heap.size = A at hD ⊢
  have hA : ∀ q : Nat, s.heap.size ≤ q → A q := fun q h => by rw [← hAe]; exact Or.inr h
  have hS : va_S A s.heap s.heap [] := va_S.rf
  have hl := lv_entry ([.ref h0, .int p0]) (n := 3) (Nat.le_of_ble_eq_true rfl)
  rw [lg_entry_eq]
  generalize (lg_sl ([.ref h0, .int p0]) ++ List.replicate (3 - (lg_sl ([.ref h0, .int p0])).length) Slot.unset).toArray = ls at hl ⊢
  have hl : lv_has ls 3 [(0, .ref h0), (1, .int p0)] := hl
  refine lv_aload_n hx hb dX12_story_0 rfl (lv_at hl 0 rfl) ?_
  refine va_get (D := (dC, dI)) (ci := 11) (v := .int (u.1 3)) (C := RX12) (T := TX12) (N := 52) hx hb hts zl_X12_story_X12 hown hK hP 0 rfl rfl 3 (by decide) (hts (.fieldLink RX12 147 "PageOneModel" "items" "I") (zat q_wsX12_story k_wsX12_story 885 rfl (by decide +kernel))) (fun _ h9 => h9) rfl dX12_story_1 ?_
  refine lv_bipush (v := 80) hx hb dX12_story_4 (by decide) ?_
  refine lv_icmp_eq (tgt := 19) hx hb dX12_story_6 (by decide) (fun c_1 => ?_) (fun c_1 => ?_)
  ·
    refine lv_iconst (v := (-1)) hx hb dX12_story_19 (by decide) ?_
    exact W.iret (v := (-1)) hx hb hr (fun t ht hW => ⟨⟨(-1), u, rfl, (by first | (unfold mStory; rw [if_pos c_1]; done) | (unfold mStory; rw [if_pos c_1]; rfl) | (simp [mStory, c_1]; done)), by rw [ht]; exact hP, hD⟩, hS.F ht⟩) hS.2.2 dX12_story_20
  ·
    refine lv_iload_n hx hb dX12_story_9 rfl (lv_at hl 1 rfl) ?_
    refine lv_iconst (v := 1) hx hb dX12_story_10 (by decide) ?_
    refine lv_bipush (v := 80) hx hb dX12_story_11 (by decide) ?_
    refine vp_callSi (va_runS (As := [.int p0, .int 1, .int 80]) (rest := []) ⟨hx, hb, hml, hown, hts⟩ (m_in l dC dI p0 1 80) (va_cwS 3 hts gX12_story_X12_in rfl rfl rfl zh_X12_in_0 ⟨Nat.le_of_ble_eq_true rfl, Nat.le_of_ble_eq_true rfl⟩) ⟨pw_fb, fun U hU hW => ⟨rfl, pw_to hU hW (hP.sub (ws' := []) [] rfl) (hK.sub (tys' := []) [] rfl) hN⟩⟩ rfl rfl hl.1 rfl (lv_room (Nat.le_of_ble_eq_true rfl)) dX12_story_13 ⟨Nat.le_of_ble_eq_true rfl, Nat.le_of_ble_eq_true rfl⟩).run (fun r hw => ?_)
    rcases Bool.eq_false_or_eq_true (bw p0 1 80) with b_2 | b_2
    ·
      obtain rfl : r = 1 := b_t hw b_2
      refine lv_if_ne (tgt := 21) hx hb dX12_story_16 (by decide) (fun c_3 => ?_) (fun c_3 => absurd c_3 (by decide))
      refine lv_aload_n hx hb dX12_story_21 rfl (lv_at hl 0 rfl) ?_
      refine lv_iconst (v := 0) hx hb dX12_story_22 (by decide) ?_
      have hFc := fr_all hD hS hA
      refine va_calli (va_runV (As := [.int 0]) (rest := []) ⟨hx, hb, hml, hown, hts⟩ (m_made l dC dI h0 v cI cZ u 0 hn c_1 s.heap.size) (cwV 1 hts gX12_story_X12_made rfl rfl rfl zh_X12_made_2 ⟨Nat.le_of_ble_eq_true rfl, Nat.le_of_ble_eq_true rfl⟩) ⟨gw_fb, va_recv hK hP (ci := 11) (q0 := 0) rfl rfl, fun U hU hW => ⟨rfl, by rw [hU], pw_to hU hW hP hK hN, hD.weaken (fun _ _ _ _ => trivial)⟩⟩ rfl rfl hl.1 rfl (lv_room (Nat.le_of_ble_eq_true rfl)) dX12_story_23 ⟨Nat.le_of_ble_eq_true rfl, Nat.le_of_ble_eq_true rfl⟩) hS (fun q _ h => hFc q h) hFc (fun r u_4 t H1 locs ht hvm hw hB hz1 hk1 hS => ?_)
      obtain ⟨hP, hD1⟩ := hB
      rw [ht] at hP
      have hD := hD1.weaken (fun _ q _ h => hFc q.1 h)
      generalize H1 = H at hP hS ⊢
      obtain ⟨rfl, eu_4⟩ := hw
      refine lv_istore_n (lv' := [(2, .int (u.1 3)), (0, .ref h0), (1, .int p0)]) hx hb dX12_story_26 rfl hl (by decide) rfl (fun ls hl => ?_)
      refine lv_aload_n hx hb dX12_story_27 rfl (lv_at hl 1 rfl) ?_
      refine va_get (D := (dC, dI)) (ci := 11) (v := .ref (v 5)) (C := RX12) (T := TX12) (N := 52) hx hb hts zl_X12_story_X12 hown hK hP 0 rfl rfl 5 (by decide) (hts (.fieldLink RX12 22 "PageOneModel" "least" "[I") (zat q_wsX12_story k_wsX12_story 887 rfl (by decide +kernel))) (fun _ h9 => h9) rfl dX12_story_28 ?_
      refine lv_iload_n hx hb dX12_story_31 rfl (lv_at hl 0 rfl) ?_
      refine lv_iload_n hx hb dX12_story_32 rfl (lv_at hl 2 rfl) ?_
      refine va_iast hx hb hK hP hD hS 5 0 rfl rfl (vNew hn c_1) dX12_story_33 (fun H locs hP hD hS => ?_)
      obtain ⟨u_5, eu_5⟩ : ∃ zz : mS, zz = mst u_4 5 (u.1 3) p0 := ⟨_, rfl⟩
      have hP : va_P (dC, dI) vwCl (mW h0 v cI cZ u_5) H := by rw [eu_5]; exact hP
      have hD : va_D A (mW h0 v cI cZ u_5) := by rw [eu_5]; exact hD
      refine lv_iload_n hx hb dX12_story_34 rfl (lv_at hl 0 rfl) ?_
      exact W.iret (v := (u.1 3)) hx hb hr (fun t ht hW => ⟨⟨(u.1 3), u_5, rfl, (by subst eu_4 eu_5; first | (unfold mStory; rw [if_neg c_1, if_pos b_2]; done) | (unfold mStory; rw [if_neg c_1, if_pos b_2]; rfl) | (simp [mStory, b_2, c_1]; done)), by rw [ht]; exact hP, hD⟩, hS.F ht⟩) hS.2.2 dX12_story_35
    ·
      obtain rfl : r = 0 := b_f hw b_2
      refine lv_if_ne (tgt := 21) hx hb dX12_story_16 (by decide) (fun c_6 => absurd (by decide) c_6) (fun c_6 => ?_)
      refine lv_iconst (v := (-1)) hx hb dX12_story_19 (by decide) ?_
      exact W.iret (v := (-1)) hx hb hr (fun t ht hW => ⟨⟨(-1), u, rfl, (by first | (unfold mStory; rw [if_neg c_1, if_neg (bne b_2)]; done) | (unfold mStory; rw [if_neg c_1, if_neg (bne b_2)]; rfl) | (simp [mStory, b_2, c_1]; done)), by rw [ht]; exact hP, hD⟩, hS.F ht⟩) hS.2.2 dX12_story_20
set_option maxHeartbeats 4000000 in
set_option maxRecDepth 100000 in
theorem m_picture (l : Launch) (dC : Nat → ClassId) (dI : Nat → Nat → Nat) (h0 : Nat) (v : Nat → Nat) (cI cZ : ClassId) (u : mS) (hn : bw (u.1 3) 0 80 = true) (sz : Nat) : Met l yX12_picture wsX12_picture ({ frames := 1, cells := 0, slots := 0, locals := 22 }) (va_Pc [.ref h0] (fun U => U.heap.size = sz ∧ PW dC dI (mW h0 v cI cZ u) [(cI, .int), (cZ, .boolean)] U ∧ va_D (fun _ => True) (mW h0 v cI cZ u))) (va_Qi (fun (r : Int32) (u9 : mS) => (r, u9) = mPicture u ) (fun u9 t => va_P (dC, dI) vwCl (mW h0 v cI cZ u9) t.heap ∧ va_D (va_A (mW h0 v cI cZ u) sz) (mW h0 v cI cZ u9)) (va_A (mW h0 v cI cZ u) sz)) 0 0 (va_A (mW h0 v cI cZ u) sz) := by
  refine Met.ofW (cc := cX12_picture) (maxL := 1) (ret := (some .int)) (by decide) rfl ?_
  intro p e s m args below meth c s₁ B hml hv
  obtain ⟨rfl, hsz, ⟨hP, hK, hN⟩, hD0⟩ := hv
  have hx := B.exec
  have hb := B.bytes
  have hr := B.returns
  have hts := atoms_spec (ws := wsX12_picture) B.pre
  have hown : s.vm.findClass RX12 = some m.cls := findClass_of_methodNamed B.named
  have hlocks := B.notSynchronized
  subst hsz
  have hD := hD0.self (sz := s.heap.size)
  generalize hAe : va_A (mW h0 v cI cZ u) s.heap.size = A at hD ⊢
  have hA : ∀ q : Nat, s.heap.size ≤ q → A q := fun q h => by rw [← hAe]; exact Or.inr h
  have hS : va_S A s.heap s.heap [] := va_S.rf
  have hl := lv_entry ([.ref h0]) (n := 1) (Nat.le_of_ble_eq_true rfl)
  rw [lg_entry_eq]
  generalize (lg_sl ([.ref h0]) ++ List.replicate (1 - (lg_sl ([.ref h0])).length) Slot.unset).toArray = ls at hl ⊢
  have hl : lv_has ls 1 [(0, .ref h0)] := hl
  refine lv_aload_n hx hb dX12_picture_0 rfl (lv_at hl 0 rfl) ?_
  refine va_get (D := (dC, dI)) (ci := 11) (v := .int (u.1 3)) (C := RX12) (T := TX12) (N := 52) hx hb hts zl_X12_picture_X12 hown hK hP 0 rfl rfl 3 (by decide) (hts (.fieldLink RX12 147 "PageOneModel" "items" "I") (zat q_wsX12_picture k_wsX12_picture 885 rfl (by decide +kernel))) (fun _ h9 => h9) rfl dX12_picture_1 ?_
  refine lv_bipush (v := 80) hx hb dX12_picture_4 (by decide) ?_
  refine lv_icmp_ne (tgt := 13) hx hb dX12_picture_6 (by decide) (fun c_1 => ?_) (fun c_1 => ?_)
  ·
    refine lv_aload_n hx hb dX12_picture_13 rfl (lv_at hl 0 rfl) ?_
    refine lv_iconst (v := 2) hx hb dX12_picture_14 (by decide) ?_
    have hFc := fr_all hD hS hA
    refine va_calli (va_runV (As := [.int 2]) (rest := []) ⟨hx, hb, hml, hown, hts⟩ (m_made l dC dI h0 v cI cZ u 2 hn c_1 s.heap.size) (cwV 1 hts gX12_picture_X12_made rfl rfl rfl zh_X12_made_2 ⟨Nat.le_of_ble_eq_true rfl, Nat.le_of_ble_eq_true rfl⟩) ⟨gw_fb, va_recv hK hP (ci := 11) (q0 := 0) rfl rfl, fun U hU hW => ⟨rfl, by rw [hU], pw_to hU hW hP hK hN, hD.weaken (fun _ _ _ _ => trivial)⟩⟩ rfl rfl hl.1 rfl (lv_room (Nat.le_of_ble_eq_true rfl)) dX12_picture_15 ⟨Nat.le_of_ble_eq_true rfl, Nat.le_of_ble_eq_true rfl⟩) hS (fun q _ h => hFc q h) hFc (fun r u_2 t H1 locs ht hvm hw hB hz1 hk1 hS => ?_)
    obtain ⟨hP, hD1⟩ := hB
    rw [ht] at hP
    have hD := hD1.weaken (fun _ q _ h => hFc q.1 h)
    generalize H1 = H at hP hS ⊢
    obtain ⟨rfl, eu_2⟩ := hw
    exact W.iret (v := (u.1 3)) hx hb hr (fun t ht hW => ⟨⟨(u.1 3), u_2, rfl, (by subst eu_2; first | (unfold mPicture; rw [if_neg c_1]; done) | (unfold mPicture; rw [if_neg c_1]; rfl) | (simp [mPicture, c_1]; done)), by rw [ht]; exact hP, hD⟩, hS.F ht⟩) hS.2.2 dX12_picture_18
  ·
    refine lv_iconst (v := (-1)) hx hb dX12_picture_9 (by decide) ?_
    refine lv_goto (tgt := 18) hx hb dX12_picture_10 (by decide) ?_
    exact W.iret (v := (-1)) hx hb hr (fun t ht hW => ⟨⟨(-1), u, rfl, (by first | (unfold mPicture; rw [if_pos c_1]; done) | (unfold mPicture; rw [if_pos c_1]; rfl) | (simp [mPicture, c_1]; done)), by rw [ht]; exact hP, hD⟩, hS.F ht⟩) hS.2.2 dX12_picture_18
set_option maxHeartbeats 4000000 in
set_option maxRecDepth 100000 in
theorem m_head (l : Launch) (dC : Nat → ClassId) (dI : Nat → Nat → Nat) (h0 : Nat) (v : Nat → Nat) (cI cZ : ClassId) (u : mS) (p0 p1 p2 : Int32) (hn : bw (u.1 3) 0 80 = true) (sz : Nat) : Met l yX12_head wsX12_head ({ frames := 3, cells := 0, slots := 0, locals := 65 }) (va_Pc [.ref h0, .int p0, .int p1, .int p2] (fun U => U.heap.size = sz ∧ PW dC dI (mW h0 v cI cZ u) [(cI, .int), (cZ, .boolean)] U ∧ va_D (fun _ => True) (mW h0 v cI cZ u))) (va_Qi (fun (r : Int32) (u9 : mS) => (r, u9) = mHead u p0 p1 p2) (fun u9 t => va_P (dC, dI) vwCl (mW h0 v cI cZ u9) t.heap ∧ va_D (va_A (mW h0 v cI cZ u) sz) (mW h0 v cI cZ u9)) (va_A (mW h0 v cI cZ u) sz)) 0 0 (va_A (mW h0 v cI cZ u) sz) := by
  refine Met.ofW (cc := cX12_head) (maxL := 5) (ret := (some .int)) (by decide) rfl ?_
  intro p e s m args below meth c s₁ B hml hv
  obtain ⟨rfl, hsz, ⟨hP, hK, hN⟩, hD0⟩ := hv
  have hx := B.exec
  have hb := B.bytes
  have hr := B.returns
  have hts := atoms_spec (ws := wsX12_head) B.pre
  have hown : s.vm.findClass RX12 = some m.cls := findClass_of_methodNamed B.named
  have hlocks := B.notSynchronized
  subst hsz
  have hD := hD0.self (sz := s.heap.size)
  generalize hAe : va_A (mW h0 v cI cZ u) s.heap.size = A at hD ⊢
  have hA : ∀ q : Nat, s.heap.size ≤ q → A q := fun q h => by rw [← hAe]; exact Or.inr h
  have hS : va_S A s.heap s.heap [] := va_S.rf
  have hl := lv_entry ([.ref h0, .int p0, .int p1, .int p2]) (n := 5) (Nat.le_of_ble_eq_true rfl)
  rw [lg_entry_eq]
  generalize (lg_sl ([.ref h0, .int p0, .int p1, .int p2]) ++ List.replicate (5 - (lg_sl ([.ref h0, .int p0, .int p1, .int p2])).length) Slot.unset).toArray = ls at hl ⊢
  have hl : lv_has ls 5 [(0, .ref h0), (1, .int p0), (2, .int p1), (3, .int p2)] := hl
  refine lv_aload_n hx hb dX12_head_0 rfl (lv_at hl 0 rfl) ?_
  refine va_get (D := (dC, dI)) (ci := 11) (v := .int (u.1 3)) (C := RX12) (T := TX12) (N := 52) hx hb hts zl_X12_head_X12 hown hK hP 0 rfl rfl 3 (by decide) (hts (.fieldLink RX12 147 "PageOneModel" "items" "I") (zat q_wsX12_head k_wsX12_head 885 rfl (by decide +kernel))) (fun _ h9 => h9) rfl dX12_head_1 ?_
  refine lv_bipush (v := 80) hx hb dX12_head_4 (by decide) ?_
  refine lv_icmp_eq (tgt := 38) hx hb dX12_head_6 (by decide) (fun c_1 => ?_) (fun c_1 => ?_)
  ·
    refine lv_iconst (v := (-1)) hx hb dX12_head_38 (by decide) ?_
    exact W.iret (v := (-1)) hx hb hr (fun t ht hW => ⟨⟨(-1), u, rfl, (by first | (unfold mHead; rw [if_pos c_1]; done) | (unfold mHead; rw [if_pos c_1]; rfl) | (simp [mHead, c_1]; done)), by rw [ht]; exact hP, hD⟩, hS.F ht⟩) hS.2.2 dX12_head_39
  ·
    refine lv_aload_n hx hb dX12_head_9 rfl (lv_at hl 0 rfl) ?_
    refine lv_iload_n hx hb dX12_head_10 rfl (lv_at hl 1 rfl) ?_
    refine lv_iconst (v := 0) hx hb dX12_head_11 (by decide) ?_
    refine vp_callSi (va_runV (As := [.int p0, .int 0]) (rest := []) ⟨hx, hb, hml, hown, hts⟩ (m_isKind l dC dI h0 v cI cZ u p0 0 hn) (cwV 2 hts gX12_head_X12_isKind rfl rfl rfl zh_X12_isKind_3 ⟨Nat.le_of_ble_eq_true rfl, Nat.le_of_ble_eq_true rfl⟩) ⟨pw_fb, va_recv hK hP (ci := 11) (q0 := 0) rfl rfl, fun U hU hW => ⟨rfl, pw_to hU hW hP hK hN⟩⟩ rfl rfl hl.1 rfl (lv_room (Nat.le_of_ble_eq_true rfl)) dX12_head_12 ⟨Nat.le_of_ble_eq_true rfl, Nat.le_of_ble_eq_true rfl⟩).run (fun r hw => ?_)
    rcases Bool.eq_false_or_eq_true (mKind u p0 0) with b_2 | b_2
    ·
      obtain rfl : r = 1 := b_t hw b_2
      obtain ⟨b_3, d_4⟩ := band b_2
      refine lv_if_eq (tgt := 38) hx hb dX12_head_15 (by decide) (fun c_5 => absurd c_5 (by decide)) (fun c_5 => ?_)
      refine lv_iload_n hx hb dX12_head_18 rfl (lv_at hl 2 rfl) ?_
      refine lv_iconst (v := 1) hx hb dX12_head_19 (by decide) ?_
      refine lv_bipush (v := 8) hx hb dX12_head_20 (by decide) ?_
      refine vp_callSi (va_runS (As := [.int p1, .int 1, .int 8]) (rest := []) ⟨hx, hb, hml, hown, hts⟩ (m_in l dC dI p1 1 8) (va_cwS 3 hts gX12_head_X12_in rfl rfl rfl zh_X12_in_0 ⟨Nat.le_of_ble_eq_true rfl, Nat.le_of_ble_eq_true rfl⟩) ⟨pw_fb, fun U hU hW => ⟨rfl, pw_to hU hW (hP.sub (ws' := []) [] rfl) (hK.sub (tys' := []) [] rfl) hN⟩⟩ rfl rfl hl.1 rfl (lv_room (Nat.le_of_ble_eq_true rfl)) dX12_head_22 ⟨Nat.le_of_ble_eq_true rfl, Nat.le_of_ble_eq_true rfl⟩).run (fun r hw => ?_)
      rcases Bool.eq_false_or_eq_true (bw p1 1 8) with b_6 | b_6
      ·
        obtain rfl : r = 1 := b_t hw b_6
        refine lv_if_eq (tgt := 38) hx hb dX12_head_25 (by decide) (fun c_7 => absurd c_7 (by decide)) (fun c_7 => ?_)
        refine lv_iload_n hx hb dX12_head_28 rfl (lv_at hl 3 rfl) ?_
        refine lv_iconst (v := 1) hx hb dX12_head_29 (by decide) ?_
        refine lv_bipush (v := 9) hx hb dX12_head_30 (by decide) ?_
        refine vp_callSi (va_runS (As := [.int p2, .int 1, .int 9]) (rest := []) ⟨hx, hb, hml, hown, hts⟩ (m_in l dC dI p2 1 9) (va_cwS 3 hts gX12_head_X12_in rfl rfl rfl zh_X12_in_0 ⟨Nat.le_of_ble_eq_true rfl, Nat.le_of_ble_eq_true rfl⟩) ⟨pw_fb, fun U hU hW => ⟨rfl, pw_to hU hW (hP.sub (ws' := []) [] rfl) (hK.sub (tys' := []) [] rfl) hN⟩⟩ rfl rfl hl.1 rfl (lv_room (Nat.le_of_ble_eq_true rfl)) dX12_head_32 ⟨Nat.le_of_ble_eq_true rfl, Nat.le_of_ble_eq_true rfl⟩).run (fun r hw => ?_)
        rcases Bool.eq_false_or_eq_true (bw p2 1 9) with b_8 | b_8
        ·
          obtain rfl : r = 1 := b_t hw b_8
          refine lv_if_ne (tgt := 40) hx hb dX12_head_35 (by decide) (fun c_9 => ?_) (fun c_9 => absurd c_9 (by decide))
          refine lv_aload_n hx hb dX12_head_40 rfl (lv_at hl 0 rfl) ?_
          refine lv_iconst (v := 1) hx hb dX12_head_41 (by decide) ?_
          have hFc := fr_all hD hS hA
          refine va_calli (va_runV (As := [.int 1]) (rest := []) ⟨hx, hb, hml, hown, hts⟩ (m_made l dC dI h0 v cI cZ u 1 hn c_1 s.heap.size) (cwV 1 hts gX12_head_X12_made rfl rfl rfl zh_X12_made_2 ⟨Nat.le_of_ble_eq_true rfl, Nat.le_of_ble_eq_true rfl⟩) ⟨gw_fb, va_recv hK hP (ci := 11) (q0 := 0) rfl rfl, fun U hU hW => ⟨rfl, by rw [hU], pw_to hU hW hP hK hN, hD.weaken (fun _ _ _ _ => trivial)⟩⟩ rfl rfl hl.1 rfl (lv_room (Nat.le_of_ble_eq_true rfl)) dX12_head_42 ⟨Nat.le_of_ble_eq_true rfl, Nat.le_of_ble_eq_true rfl⟩) hS (fun q _ h => hFc q h) hFc (fun r u_10 t H1 locs ht hvm hw hB hz1 hk1 hS => ?_)
          obtain ⟨hP, hD1⟩ := hB
          rw [ht] at hP
          have hD := hD1.weaken (fun _ q _ h => hFc q.1 h)
          generalize H1 = H at hP hS ⊢
          obtain ⟨rfl, eu_10⟩ := hw
          refine lv_istore (lv' := [(4, .int (u.1 3)), (0, .ref h0), (1, .int p0), (2, .int p1), (3, .int p2)]) hx hb dX12_head_45 hl (by decide) rfl (fun ls hl => ?_)
          refine lv_aload_n hx hb dX12_head_47 rfl (lv_at hl 1 rfl) ?_
          refine va_get (D := (dC, dI)) (ci := 11) (v := .ref (v 9)) (C := RX12) (T := TX12) (N := 52) hx hb hts zl_X12_head_X12 hown hK hP 0 rfl rfl 9 (by decide) (hts (.fieldLink RX12 34 "PageOneModel" "of" "[I") (zat q_wsX12_head k_wsX12_head 891 rfl (by decide +kernel))) (fun _ h9 => h9) rfl dX12_head_48 ?_
          refine lv_iload hx hb dX12_head_51 (lv_at hl 0 rfl) ?_
          refine lv_iload_n hx hb dX12_head_53 rfl (lv_at hl 2 rfl) ?_
          refine va_iast hx hb hK hP hD hS 9 0 rfl rfl (vNew hn c_1) dX12_head_54 (fun H locs hP hD hS => ?_)
          obtain ⟨u_11, eu_11⟩ : ∃ zz : mS, zz = mst u_10 9 (u.1 3) p0 := ⟨_, rfl⟩
          have hP : va_P (dC, dI) vwCl (mW h0 v cI cZ u_11) H := by rw [eu_11]; exact hP
          have hD : va_D A (mW h0 v cI cZ u_11) := by rw [eu_11]; exact hD
          refine lv_aload_n hx hb dX12_head_55 rfl (lv_at hl 1 rfl) ?_
          refine va_get (D := (dC, dI)) (ci := 11) (v := .ref (v 7)) (C := RX12) (T := TX12) (N := 52) hx hb hts zl_X12_head_X12 hown hK hP 0 rfl rfl 7 (by decide) (hts (.fieldLink RX12 28 "PageOneModel" "wide" "[I") (zat q_wsX12_head k_wsX12_head 889 rfl (by decide +kernel))) (fun _ h9 => h9) rfl dX12_head_56 ?_
          refine lv_iload hx hb dX12_head_59 (lv_at hl 0 rfl) ?_
          refine lv_iload_n hx hb dX12_head_61 rfl (lv_at hl 3 rfl) ?_
          refine va_iast hx hb hK hP hD hS 7 0 rfl rfl (vNew hn c_1) dX12_head_62 (fun H locs hP hD hS => ?_)
          obtain ⟨u_12, eu_12⟩ : ∃ zz : mS, zz = mst u_11 7 (u.1 3) p1 := ⟨_, rfl⟩
          have hP : va_P (dC, dI) vwCl (mW h0 v cI cZ u_12) H := by rw [eu_12]; exact hP
          have hD : va_D A (mW h0 v cI cZ u_12) := by rw [eu_12]; exact hD
          refine lv_aload_n hx hb dX12_head_63 rfl (lv_at hl 1 rfl) ?_
          refine va_get (D := (dC, dI)) (ci := 11) (v := .ref (v 8)) (C := RX12) (T := TX12) (N := 52) hx hb hts zl_X12_head_X12 hown hK hP 0 rfl rfl 8 (by decide) (hts (.fieldLink RX12 31 "PageOneModel" "high" "[I") (zat q_wsX12_head k_wsX12_head 890 rfl (by decide +kernel))) (fun _ h9 => h9) rfl dX12_head_64 ?_
          refine lv_iload hx hb dX12_head_67 (lv_at hl 0 rfl) ?_
          refine lv_iload_n hx hb dX12_head_69 rfl (lv_at hl 4 rfl) ?_
          refine va_iast hx hb hK hP hD hS 8 0 rfl rfl (vNew hn c_1) dX12_head_70 (fun H locs hP hD hS => ?_)
          obtain ⟨u_13, eu_13⟩ : ∃ zz : mS, zz = mst u_12 8 (u.1 3) p2 := ⟨_, rfl⟩
          have hP : va_P (dC, dI) vwCl (mW h0 v cI cZ u_13) H := by rw [eu_13]; exact hP
          have hD : va_D A (mW h0 v cI cZ u_13) := by rw [eu_13]; exact hD
          refine lv_iload hx hb dX12_head_71 (lv_at hl 0 rfl) ?_
          exact W.iret (v := (u.1 3)) hx hb hr (fun t ht hW => ⟨⟨(u.1 3), u_13, rfl, (by subst eu_10 eu_11 eu_12 eu_13; first | (unfold mHead; rw [if_neg c_1, if_pos b_2, if_pos b_6, if_pos b_8]; done) | (unfold mHead; rw [if_neg c_1, if_pos b_2, if_pos b_6, if_pos b_8]; rfl) | (simp [mHead, b_2, b_3, b_6, b_8, c_1]; done)), by rw [ht]; exact hP, hD⟩, hS.F ht⟩) hS.2.2 dX12_head_73
        ·
          obtain rfl : r = 0 := b_f hw b_8
          refine lv_if_ne (tgt := 40) hx hb dX12_head_35 (by decide) (fun c_14 => absurd (by decide) c_14) (fun c_14 => ?_)
          refine lv_iconst (v := (-1)) hx hb dX12_head_38 (by decide) ?_
          exact W.iret (v := (-1)) hx hb hr (fun t ht hW => ⟨⟨(-1), u, rfl, (by first | (unfold mHead; rw [if_neg c_1, if_pos b_2, if_pos b_6, if_neg (bne b_8)]; done) | (unfold mHead; rw [if_neg c_1, if_pos b_2, if_pos b_6, if_neg (bne b_8)]; rfl) | (simp [mHead, b_2, b_3, b_6, b_8, c_1]; done)), by rw [ht]; exact hP, hD⟩, hS.F ht⟩) hS.2.2 dX12_head_39
      ·
        obtain rfl : r = 0 := b_f hw b_6
        refine lv_if_eq (tgt := 38) hx hb dX12_head_25 (by decide) (fun c_15 => ?_) (fun c_15 => absurd (by decide) c_15)
        refine lv_iconst (v := (-1)) hx hb dX12_head_38 (by decide) ?_
        exact W.iret (v := (-1)) hx hb hr (fun t ht hW => ⟨⟨(-1), u, rfl, (by first | (unfold mHead; rw [if_neg c_1, if_pos b_2, if_neg (bne b_6)]; done) | (unfold mHead; rw [if_neg c_1, if_pos b_2, if_neg (bne b_6)]; rfl) | (simp [mHead, b_2, b_3, b_6, c_1]; done)), by rw [ht]; exact hP, hD⟩, hS.F ht⟩) hS.2.2 dX12_head_39
    ·
      obtain rfl : r = 0 := b_f hw b_2
      refine lv_if_eq (tgt := 38) hx hb dX12_head_15 (by decide) (fun c_16 => ?_) (fun c_16 => absurd (by decide) c_16)
      refine lv_iconst (v := (-1)) hx hb dX12_head_38 (by decide) ?_
      exact W.iret (v := (-1)) hx hb hr (fun t ht hW => ⟨⟨(-1), u, rfl, (by first | (unfold mHead; rw [if_neg c_1, if_neg (bne b_2)]; done) | (unfold mHead; rw [if_neg c_1, if_neg (bne b_2)]; rfl) | (simp [mHead, b_2, c_1]; done)), by rw [ht]; exact hP, hD⟩, hS.F ht⟩) hS.2.2 dX12_head_39
set_option maxHeartbeats 4000000 in
set_option maxRecDepth 100000 in
theorem m_filler (l : Launch) (dC : Nat → ClassId) (dI : Nat → Nat → Nat) (h0 : Nat) (v : Nat → Nat) (cI cZ : ClassId) (u : mS) (p0 p1 : Int32) (hn : bw (u.1 3) 0 80 = true) (sz : Nat) : Met l yX12_filler wsX12_filler ({ frames := 1, cells := 0, slots := 0, locals := 22 }) (va_Pc [.ref h0, .int p0, .int p1] (fun U => U.heap.size = sz ∧ PW dC dI (mW h0 v cI cZ u) [(cI, .int), (cZ, .boolean)] U ∧ va_D (fun _ => True) (mW h0 v cI cZ u))) (va_Qi (fun (r : Int32) (u9 : mS) => (r, u9) = mFiller u p0 p1) (fun u9 t => va_P (dC, dI) vwCl (mW h0 v cI cZ u9) t.heap ∧ va_D (va_A (mW h0 v cI cZ u) sz) (mW h0 v cI cZ u9)) (va_A (mW h0 v cI cZ u) sz)) 0 0 (va_A (mW h0 v cI cZ u) sz) := by
  refine Met.ofW (cc := cX12_filler) (maxL := 4) (ret := (some .int)) (by decide) rfl ?_
  intro p e s m args below meth c s₁ B hml hv
  obtain ⟨rfl, hsz, ⟨hP, hK, hN⟩, hD0⟩ := hv
  have hx := B.exec
  have hb := B.bytes
  have hr := B.returns
  have hts := atoms_spec (ws := wsX12_filler) B.pre
  have hown : s.vm.findClass RX12 = some m.cls := findClass_of_methodNamed B.named
  have hlocks := B.notSynchronized
  subst hsz
  have hD := hD0.self (sz := s.heap.size)
  generalize hAe : va_A (mW h0 v cI cZ u) s.heap.size = A at hD ⊢
  have hA : ∀ q : Nat, s.heap.size ≤ q → A q := fun q h => by rw [← hAe]; exact Or.inr h
  have hS : va_S A s.heap s.heap [] := va_S.rf
  have hl := lv_entry ([.ref h0, .int p0, .int p1]) (n := 4) (Nat.le_of_ble_eq_true rfl)
  rw [lg_entry_eq]
  generalize (lg_sl ([.ref h0, .int p0, .int p1]) ++ List.replicate (4 - (lg_sl ([.ref h0, .int p0, .int p1])).length) Slot.unset).toArray = ls at hl ⊢
  have hl : lv_has ls 4 [(0, .ref h0), (1, .int p0), (2, .int p1)] := hl
  refine lv_aload_n hx hb dX12_filler_0 rfl (lv_at hl 0 rfl) ?_
  refine va_get (D := (dC, dI)) (ci := 11) (v := .int (u.1 3)) (C := RX12) (T := TX12) (N := 52) hx hb hts zl_X12_filler_X12 hown hK hP 0 rfl rfl 3 (by decide) (hts (.fieldLink RX12 147 "PageOneModel" "items" "I") (zat q_wsX12_filler k_wsX12_filler 885 rfl (by decide +kernel))) (fun _ h9 => h9) rfl dX12_filler_1 ?_
  refine lv_bipush (v := 80) hx hb dX12_filler_4 (by decide) ?_
  refine lv_icmp_eq (tgt := 29) hx hb dX12_filler_6 (by decide) (fun c_1 => ?_) (fun c_1 => ?_)
  ·
    refine lv_iconst (v := (-1)) hx hb dX12_filler_29 (by decide) ?_
    exact W.iret (v := (-1)) hx hb hr (fun t ht hW => ⟨⟨(-1), u, rfl, (by first | (unfold mFiller; rw [if_pos c_1]; done) | (unfold mFiller; rw [if_pos c_1]; rfl) | (simp [mFiller, c_1]; done)), by rw [ht]; exact hP, hD⟩, hS.F ht⟩) hS.2.2 dX12_filler_30
  ·
    refine lv_iload_n hx hb dX12_filler_9 rfl (lv_at hl 1 rfl) ?_
    refine lv_iconst (v := 1) hx hb dX12_filler_10 (by decide) ?_
    refine lv_bipush (v := 60) hx hb dX12_filler_11 (by decide) ?_
    refine vp_callSi (va_runS (As := [.int p0, .int 1, .int 60]) (rest := []) ⟨hx, hb, hml, hown, hts⟩ (m_in l dC dI p0 1 60) (va_cwS 3 hts gX12_filler_X12_in rfl rfl rfl zh_X12_in_0 ⟨Nat.le_of_ble_eq_true rfl, Nat.le_of_ble_eq_true rfl⟩) ⟨pw_fb, fun U hU hW => ⟨rfl, pw_to hU hW (hP.sub (ws' := []) [] rfl) (hK.sub (tys' := []) [] rfl) hN⟩⟩ rfl rfl hl.1 rfl (lv_room (Nat.le_of_ble_eq_true rfl)) dX12_filler_13 ⟨Nat.le_of_ble_eq_true rfl, Nat.le_of_ble_eq_true rfl⟩).run (fun r hw => ?_)
    rcases Bool.eq_false_or_eq_true (bw p0 1 60) with b_2 | b_2
    ·
      obtain rfl : r = 1 := b_t hw b_2
      refine lv_if_eq (tgt := 29) hx hb dX12_filler_16 (by decide) (fun c_3 => absurd c_3 (by decide)) (fun c_3 => ?_)
      refine lv_iload_n hx hb dX12_filler_19 rfl (lv_at hl 2 rfl) ?_
      refine lv_iload_n hx hb dX12_filler_20 rfl (lv_at hl 1 rfl) ?_
      refine lv_bipush (v := 60) hx hb dX12_filler_21 (by decide) ?_
      refine vp_callSi (va_runS (As := [.int p1, .int p0, .int 60]) (rest := []) ⟨hx, hb, hml, hown, hts⟩ (m_in l dC dI p1 p0 60) (va_cwS 3 hts gX12_filler_X12_in rfl rfl rfl zh_X12_in_0 ⟨Nat.le_of_ble_eq_true rfl, Nat.le_of_ble_eq_true rfl⟩) ⟨pw_fb, fun U hU hW => ⟨rfl, pw_to hU hW (hP.sub (ws' := []) [] rfl) (hK.sub (tys' := []) [] rfl) hN⟩⟩ rfl rfl hl.1 rfl (lv_room (Nat.le_of_ble_eq_true rfl)) dX12_filler_23 ⟨Nat.le_of_ble_eq_true rfl, Nat.le_of_ble_eq_true rfl⟩).run (fun r hw => ?_)
      rcases Bool.eq_false_or_eq_true (bw p1 p0 60) with b_4 | b_4
      ·
        obtain rfl : r = 1 := b_t hw b_4
        refine lv_if_ne (tgt := 31) hx hb dX12_filler_26 (by decide) (fun c_5 => ?_) (fun c_5 => absurd c_5 (by decide))
        refine lv_aload_n hx hb dX12_filler_31 rfl (lv_at hl 0 rfl) ?_
        refine lv_iconst (v := 4) hx hb dX12_filler_32 (by decide) ?_
        have hFc := fr_all hD hS hA
        refine va_calli (va_runV (As := [.int 4]) (rest := []) ⟨hx, hb, hml, hown, hts⟩ (m_made l dC dI h0 v cI cZ u 4 hn c_1 s.heap.size) (cwV 1 hts gX12_filler_X12_made rfl rfl rfl zh_X12_made_2 ⟨Nat.le_of_ble_eq_true rfl, Nat.le_of_ble_eq_true rfl⟩) ⟨gw_fb, va_recv hK hP (ci := 11) (q0 := 0) rfl rfl, fun U hU hW => ⟨rfl, by rw [hU], pw_to hU hW hP hK hN, hD.weaken (fun _ _ _ _ => trivial)⟩⟩ rfl rfl hl.1 rfl (lv_room (Nat.le_of_ble_eq_true rfl)) dX12_filler_33 ⟨Nat.le_of_ble_eq_true rfl, Nat.le_of_ble_eq_true rfl⟩) hS (fun q _ h => hFc q h) hFc (fun r u_6 t H1 locs ht hvm hw hB hz1 hk1 hS => ?_)
        obtain ⟨hP, hD1⟩ := hB
        rw [ht] at hP
        have hD := hD1.weaken (fun _ q _ h => hFc q.1 h)
        generalize H1 = H at hP hS ⊢
        obtain ⟨rfl, eu_6⟩ := hw
        refine lv_istore_n (lv' := [(3, .int (u.1 3)), (0, .ref h0), (1, .int p0), (2, .int p1)]) hx hb dX12_filler_36 rfl hl (by decide) rfl (fun ls hl => ?_)
        refine lv_aload_n hx hb dX12_filler_37 rfl (lv_at hl 1 rfl) ?_
        refine va_get (D := (dC, dI)) (ci := 11) (v := .ref (v 5)) (C := RX12) (T := TX12) (N := 52) hx hb hts zl_X12_filler_X12 hown hK hP 0 rfl rfl 5 (by decide) (hts (.fieldLink RX12 22 "PageOneModel" "least" "[I") (zat q_wsX12_filler k_wsX12_filler 887 rfl (by decide +kernel))) (fun _ h9 => h9) rfl dX12_filler_38 ?_
        refine lv_iload_n hx hb dX12_filler_41 rfl (lv_at hl 0 rfl) ?_
        refine lv_iload_n hx hb dX12_filler_42 rfl (lv_at hl 2 rfl) ?_
        refine va_iast hx hb hK hP hD hS 5 0 rfl rfl (vNew hn c_1) dX12_filler_43 (fun H locs hP hD hS => ?_)
        obtain ⟨u_7, eu_7⟩ : ∃ zz : mS, zz = mst u_6 5 (u.1 3) p0 := ⟨_, rfl⟩
        have hP : va_P (dC, dI) vwCl (mW h0 v cI cZ u_7) H := by rw [eu_7]; exact hP
        have hD : va_D A (mW h0 v cI cZ u_7) := by rw [eu_7]; exact hD
        refine lv_aload_n hx hb dX12_filler_44 rfl (lv_at hl 1 rfl) ?_
        refine va_get (D := (dC, dI)) (ci := 11) (v := .ref (v 6)) (C := RX12) (T := TX12) (N := 52) hx hb hts zl_X12_filler_X12 hown hK hP 0 rfl rfl 6 (by decide) (hts (.fieldLink RX12 25 "PageOneModel" "most" "[I") (zat q_wsX12_filler k_wsX12_filler 888 rfl (by decide +kernel))) (fun _ h9 => h9) rfl dX12_filler_45 ?_
        refine lv_iload_n hx hb dX12_filler_48 rfl (lv_at hl 0 rfl) ?_
        refine lv_iload_n hx hb dX12_filler_49 rfl (lv_at hl 3 rfl) ?_
        refine va_iast hx hb hK hP hD hS 6 0 rfl rfl (vNew hn c_1) dX12_filler_50 (fun H locs hP hD hS => ?_)
        obtain ⟨u_8, eu_8⟩ : ∃ zz : mS, zz = mst u_7 6 (u.1 3) p1 := ⟨_, rfl⟩
        have hP : va_P (dC, dI) vwCl (mW h0 v cI cZ u_8) H := by rw [eu_8]; exact hP
        have hD : va_D A (mW h0 v cI cZ u_8) := by rw [eu_8]; exact hD
        refine lv_iload_n hx hb dX12_filler_51 rfl (lv_at hl 0 rfl) ?_
        exact W.iret (v := (u.1 3)) hx hb hr (fun t ht hW => ⟨⟨(u.1 3), u_8, rfl, (by subst eu_6 eu_7 eu_8; first | (unfold mFiller; rw [if_neg c_1, if_pos b_2, if_pos b_4]; done) | (unfold mFiller; rw [if_neg c_1, if_pos b_2, if_pos b_4]; rfl) | (simp [mFiller, b_2, b_4, c_1]; done)), by rw [ht]; exact hP, hD⟩, hS.F ht⟩) hS.2.2 dX12_filler_52
      ·
        obtain rfl : r = 0 := b_f hw b_4
        refine lv_if_ne (tgt := 31) hx hb dX12_filler_26 (by decide) (fun c_9 => absurd (by decide) c_9) (fun c_9 => ?_)
        refine lv_iconst (v := (-1)) hx hb dX12_filler_29 (by decide) ?_
        exact W.iret (v := (-1)) hx hb hr (fun t ht hW => ⟨⟨(-1), u, rfl, (by first | (unfold mFiller; rw [if_neg c_1, if_pos b_2, if_neg (bne b_4)]; done) | (unfold mFiller; rw [if_neg c_1, if_pos b_2, if_neg (bne b_4)]; rfl) | (simp [mFiller, b_2, b_4, c_1]; done)), by rw [ht]; exact hP, hD⟩, hS.F ht⟩) hS.2.2 dX12_filler_30
    ·
      obtain rfl : r = 0 := b_f hw b_2
      refine lv_if_eq (tgt := 29) hx hb dX12_filler_16 (by decide) (fun c_10 => ?_) (fun c_10 => absurd (by decide) c_10)
      refine lv_iconst (v := (-1)) hx hb dX12_filler_29 (by decide) ?_
      exact W.iret (v := (-1)) hx hb hr (fun t ht hW => ⟨⟨(-1), u, rfl, (by first | (unfold mFiller; rw [if_neg c_1, if_neg (bne b_2)]; done) | (unfold mFiller; rw [if_neg c_1, if_neg (bne b_2)]; rfl) | (simp [mFiller, b_2, c_1]; done)), by rw [ht]; exact hP, hD⟩, hS.F ht⟩) hS.2.2 dX12_filler_30
set_option maxHeartbeats 4000000 in
set_option maxRecDepth 100000 in
theorem m_paid (l : Launch) (dC : Nat → ClassId) (dI : Nat → Nat → Nat) (h0 : Nat) (v : Nat → Nat) (cI cZ : ClassId) (u : mS) (p0 p1 p2 p3 p4 p5 p6 : Int32) (hn : bw (u.1 3) 0 80 = true) (sz : Nat) : Met l yX12_paid wsX12_paid ({ frames := 2, cells := 0, slots := 0, locals := 42 }) (va_Pc [.ref h0, .int p0, .int p1, .int p2, .int p3, .int p4, .int p5, .int p6] (fun U => U.heap.size = sz ∧ PW dC dI (mW h0 v cI cZ u) [(cI, .int), (cZ, .boolean)] U ∧ va_D (fun _ => True) (mW h0 v cI cZ u))) (va_Qi (fun (r : Int32) (u9 : mS) => (r, u9) = mPaid u p0 p1 p2 p3 p4 p5 p6) (fun u9 t => va_P (dC, dI) vwCl (mW h0 v cI cZ u9) t.heap ∧ va_D (va_A (mW h0 v cI cZ u) sz) (mW h0 v cI cZ u9)) (va_A (mW h0 v cI cZ u) sz)) 0 0 (va_A (mW h0 v cI cZ u) sz) := by
  refine Met.ofW (cc := cX12_paid) (maxL := 11) (ret := (some .int)) (by decide) rfl ?_
  intro p e s m args below meth c s₁ B hml hv
  obtain ⟨rfl, hsz, ⟨hP, hK, hN⟩, hD0⟩ := hv
  have hx := B.exec
  have hb := B.bytes
  have hr := B.returns
  have hts := atoms_spec (ws := wsX12_paid) B.pre
  have hown : s.vm.findClass RX12 = some m.cls := findClass_of_methodNamed B.named
  have hlocks := B.notSynchronized
  subst hsz
  have hD := hD0.self (sz := s.heap.size)
  generalize hAe : va_A (mW h0 v cI cZ u) s.heap.size = A at hD ⊢
  have hA : ∀ q : Nat, s.heap.size ≤ q → A q := fun q h => by rw [← hAe]; exact Or.inr h
  have hS : va_S A s.heap s.heap [] := va_S.rf
  have hl := lv_entry ([.ref h0, .int p0, .int p1, .int p2, .int p3, .int p4, .int p5, .int p6]) (n := 11) (Nat.le_of_ble_eq_true rfl)
  rw [lg_entry_eq]
  generalize (lg_sl ([.ref h0, .int p0, .int p1, .int p2, .int p3, .int p4, .int p5, .int p6]) ++ List.replicate (11 - (lg_sl ([.ref h0, .int p0, .int p1, .int p2, .int p3, .int p4, .int p5, .int p6])).length) Slot.unset).toArray = ls at hl ⊢
  have hl : lv_has ls 11 [(0, .ref h0), (1, .int p0), (2, .int p1), (3, .int p2), (4, .int p3), (5, .int p4), (6, .int p5), (7, .int p6)] := hl
  refine lv_iload_n hx hb dX12_paid_0 rfl (lv_at hl 2 rfl) ?_
  refine vp_callSi (va_runS (As := [.int p1]) (rest := []) ⟨hx, hb, hml, hown, hts⟩ (m_isPage l dC dI p1) (va_cwS 1 hts gX12_paid_X12_isPage rfl rfl rfl zh_X12_isPage_4 ⟨Nat.le_of_ble_eq_true rfl, Nat.le_of_ble_eq_true rfl⟩) ⟨pw_fb, fun U hU hW => ⟨rfl, pw_to hU hW (hP.sub (ws' := []) [] rfl) (hK.sub (tys' := []) [] rfl) hN⟩⟩ rfl rfl hl.1 rfl (lv_room (Nat.le_of_ble_eq_true rfl)) dX12_paid_1 ⟨Nat.le_of_ble_eq_true rfl, Nat.le_of_ble_eq_true rfl⟩).run (fun r hw => ?_)
  rcases Bool.eq_false_or_eq_true (bw p1 0 11) with b_1 | b_1
  ·
    obtain rfl : r = 1 := b_t hw b_1
    refine lv_if_eq (tgt := 32) hx hb dX12_paid_4 (by decide) (fun c_2 => absurd c_2 (by decide)) (fun c_2 => ?_)
    refine lv_iload_n hx hb dX12_paid_7 rfl (lv_at hl 3 rfl) ?_
    refine lv_iconst (v := 0) hx hb dX12_paid_8 (by decide) ?_
    refine lv_bipush (v := 7) hx hb dX12_paid_9 (by decide) ?_
    refine vp_callSi (va_runS (As := [.int p2, .int 0, .int 7]) (rest := []) ⟨hx, hb, hml, hown, hts⟩ (m_in l dC dI p2 0 7) (va_cwS 3 hts gX12_paid_X12_in rfl rfl rfl zh_X12_in_0 ⟨Nat.le_of_ble_eq_true rfl, Nat.le_of_ble_eq_true rfl⟩) ⟨pw_fb, fun U hU hW => ⟨rfl, pw_to hU hW (hP.sub (ws' := []) [] rfl) (hK.sub (tys' := []) [] rfl) hN⟩⟩ rfl rfl hl.1 rfl (lv_room (Nat.le_of_ble_eq_true rfl)) dX12_paid_11 ⟨Nat.le_of_ble_eq_true rfl, Nat.le_of_ble_eq_true rfl⟩).run (fun r hw => ?_)
    rcases Bool.eq_false_or_eq_true (bw p2 0 7) with b_3 | b_3
    ·
      obtain rfl : r = 1 := b_t hw b_3
      refine lv_if_eq (tgt := 32) hx hb dX12_paid_14 (by decide) (fun c_4 => absurd c_4 (by decide)) (fun c_4 => ?_)
      refine lv_iload hx hb dX12_paid_17 (lv_at hl 4 rfl) ?_
      refine lv_iconst (v := 0) hx hb dX12_paid_19 (by decide) ?_
      refine lv_bipush (v := 59) hx hb dX12_paid_20 (by decide) ?_
      refine vp_callSi (va_runS (As := [.int p3, .int 0, .int 59]) (rest := []) ⟨hx, hb, hml, hown, hts⟩ (m_in l dC dI p3 0 59) (va_cwS 3 hts gX12_paid_X12_in rfl rfl rfl zh_X12_in_0 ⟨Nat.le_of_ble_eq_true rfl, Nat.le_of_ble_eq_true rfl⟩) ⟨pw_fb, fun U hU hW => ⟨rfl, pw_to hU hW (hP.sub (ws' := []) [] rfl) (hK.sub (tys' := []) [] rfl) hN⟩⟩ rfl rfl hl.1 rfl (lv_room (Nat.le_of_ble_eq_true rfl)) dX12_paid_22 ⟨Nat.le_of_ble_eq_true rfl, Nat.le_of_ble_eq_true rfl⟩).run (fun r hw => ?_)
      rcases Bool.eq_false_or_eq_true (bw p3 0 59) with b_5 | b_5
      ·
        obtain rfl : r = 1 := b_t hw b_5
        refine lv_if_eq (tgt := 32) hx hb dX12_paid_25 (by decide) (fun c_6 => absurd c_6 (by decide)) (fun c_6 => ?_)
        refine lv_iconst (v := 1) hx hb dX12_paid_28 (by decide) ?_
        refine lv_goto (tgt := 33) hx hb dX12_paid_29 (by decide) ?_
        refine lv_istore (lv' := [(8, .int 1), (0, .ref h0), (1, .int p0), (2, .int p1), (3, .int p2), (4, .int p3), (5, .int p4), (6, .int p5), (7, .int p6)]) hx hb dX12_paid_33 hl (by decide) rfl (fun ls hl => ?_)
        refine lv_iload hx hb dX12_paid_35 (lv_at hl 6 rfl) ?_
        refine lv_iconst (v := 1) hx hb dX12_paid_37 (by decide) ?_
        refine lv_bipush (v := 8) hx hb dX12_paid_38 (by decide) ?_
        refine vp_callSi (va_runS (As := [.int p4, .int 1, .int 8]) (rest := []) ⟨hx, hb, hml, hown, hts⟩ (m_in l dC dI p4 1 8) (va_cwS 3 hts gX12_paid_X12_in rfl rfl rfl zh_X12_in_0 ⟨Nat.le_of_ble_eq_true rfl, Nat.le_of_ble_eq_true rfl⟩) ⟨pw_fb, fun U hU hW => ⟨rfl, pw_to hU hW (hP.sub (ws' := []) [] rfl) (hK.sub (tys' := []) [] rfl) hN⟩⟩ rfl rfl hl.1 rfl (lv_room (Nat.le_of_ble_eq_true rfl)) dX12_paid_40 ⟨Nat.le_of_ble_eq_true rfl, Nat.le_of_ble_eq_true rfl⟩).run (fun r hw => ?_)
        rcases Bool.eq_false_or_eq_true (bw p4 1 8) with b_7 | b_7
        ·
          obtain rfl : r = 1 := b_t hw b_7
          refine lv_if_eq (tgt := 61) hx hb dX12_paid_43 (by decide) (fun c_8 => absurd c_8 (by decide)) (fun c_8 => ?_)
          refine lv_iload hx hb dX12_paid_46 (lv_at hl 7 rfl) ?_
          refine lv_iconst (v := 1) hx hb dX12_paid_48 (by decide) ?_
          refine lv_bipush (v := 60) hx hb dX12_paid_49 (by decide) ?_
          refine vp_callSi (va_runS (As := [.int p5, .int 1, .int 60]) (rest := []) ⟨hx, hb, hml, hown, hts⟩ (m_in l dC dI p5 1 60) (va_cwS 3 hts gX12_paid_X12_in rfl rfl rfl zh_X12_in_0 ⟨Nat.le_of_ble_eq_true rfl, Nat.le_of_ble_eq_true rfl⟩) ⟨pw_fb, fun U hU hW => ⟨rfl, pw_to hU hW (hP.sub (ws' := []) [] rfl) (hK.sub (tys' := []) [] rfl) hN⟩⟩ rfl rfl hl.1 rfl (lv_room (Nat.le_of_ble_eq_true rfl)) dX12_paid_51 ⟨Nat.le_of_ble_eq_true rfl, Nat.le_of_ble_eq_true rfl⟩).run (fun r hw => ?_)
          rcases Bool.eq_false_or_eq_true (bw p5 1 60) with b_9 | b_9
          ·
            obtain rfl : r = 1 := b_t hw b_9
            refine lv_if_eq (tgt := 61) hx hb dX12_paid_54 (by decide) (fun c_10 => absurd c_10 (by decide)) (fun c_10 => ?_)
            refine lv_iconst (v := 1) hx hb dX12_paid_57 (by decide) ?_
            refine lv_goto (tgt := 62) hx hb dX12_paid_58 (by decide) ?_
            refine lv_istore (lv' := [(9, .int 1), (8, .int 1), (0, .ref h0), (1, .int p0), (2, .int p1), (3, .int p2), (4, .int p3), (5, .int p4), (6, .int p5), (7, .int p6)]) hx hb dX12_paid_62 hl (by decide) rfl (fun ls hl => ?_)
            refine lv_aload_n hx hb dX12_paid_64 rfl (lv_at hl 2 rfl) ?_
            refine va_get (D := (dC, dI)) (ci := 11) (v := .int (u.1 3)) (C := RX12) (T := TX12) (N := 52) hx hb hts zl_X12_paid_X12 hown hK hP 0 rfl rfl 3 (by decide) (hts (.fieldLink RX12 147 "PageOneModel" "items" "I") (zat q_wsX12_paid k_wsX12_paid 885 rfl (by decide +kernel))) (fun _ h9 => h9) rfl dX12_paid_65 ?_
            refine lv_bipush (v := 80) hx hb dX12_paid_68 (by decide) ?_
            refine lv_icmp_eq (tgt := 121) hx hb dX12_paid_70 (by decide) (fun c_11 => ?_) (fun c_11 => ?_)
            ·
              refine lv_iconst (v := (-1)) hx hb dX12_paid_121 (by decide) ?_
              exact W.iret (v := (-1)) hx hb hr (fun t ht hW => ⟨⟨(-1), u, rfl, (by first | (unfold mPaid; rw [if_pos b_1, if_pos b_3, if_pos b_5, if_pos b_7, if_pos b_9, if_pos c_11]; done) | (unfold mPaid; rw [if_pos b_1, if_pos b_3, if_pos b_5, if_pos b_7, if_pos b_9, if_pos c_11]; rfl) | (simp [mPaid, b_1, b_3, b_5, b_7, b_9, c_11]; done)), by rw [ht]; exact hP, hD⟩, hS.F ht⟩) hS.2.2 dX12_paid_122
            ·
              refine lv_iload_n hx hb dX12_paid_73 rfl (lv_at hl 3 rfl) ?_
              refine vp_callSi (va_runS (As := [.int p0]) (rest := []) ⟨hx, hb, hml, hown, hts⟩ (m_isBuyer l dC dI p0) (va_cwS 1 hts gX12_paid_X12_isBuyer rfl rfl rfl zh_X12_isBuyer_5 ⟨Nat.le_of_ble_eq_true rfl, Nat.le_of_ble_eq_true rfl⟩) ⟨pw_fb, fun U hU hW => ⟨rfl, pw_to hU hW (hP.sub (ws' := []) [] rfl) (hK.sub (tys' := []) [] rfl) hN⟩⟩ rfl rfl hl.1 rfl (lv_room (Nat.le_of_ble_eq_true rfl)) dX12_paid_74 ⟨Nat.le_of_ble_eq_true rfl, Nat.le_of_ble_eq_true rfl⟩).run (fun r hw => ?_)
              rcases Bool.eq_false_or_eq_true (bw p0 0 9) with b_12 | b_12
              ·
                obtain rfl : r = 1 := b_t hw b_12
                refine lv_if_eq (tgt := 121) hx hb dX12_paid_77 (by decide) (fun c_13 => absurd c_13 (by decide)) (fun c_13 => ?_)
                refine lv_iload hx hb dX12_paid_80 (lv_at hl 1 rfl) ?_
                refine lv_if_eq (tgt := 121) hx hb dX12_paid_82 (by decide) (fun c_14 => absurd c_14 (by decide)) (fun c_14 => ?_)
                refine lv_iload hx hb dX12_paid_85 (lv_at hl 0 rfl) ?_
                refine lv_if_eq (tgt := 121) hx hb dX12_paid_87 (by decide) (fun c_15 => absurd c_15 (by decide)) (fun c_15 => ?_)
                refine lv_iload_n hx hb dX12_paid_90 rfl (lv_at hl 5 rfl) ?_
                refine lv_iload hx hb dX12_paid_91 (lv_at hl 7 rfl) ?_
                refine lv_iadd hx hb dX12_paid_93 ?_
                refine lv_bipush (v := 8) hx hb dX12_paid_94 (by decide) ?_
                refine lv_icmp_gt (tgt := 121) hx hb dX12_paid_96 (by decide) (fun c_16 => ?_) (fun c_16 => ?_)
                ·
                  refine lv_iconst (v := (-1)) hx hb dX12_paid_121 (by decide) ?_
                  exact W.iret (v := (-1)) hx hb hr (fun t ht hW => ⟨⟨(-1), u, rfl, (by first | (unfold mPaid; rw [if_pos b_1, if_pos b_3, if_pos b_5, if_pos b_7, if_pos b_9, if_neg c_11, if_pos b_12, if_pos c_16]; done) | (unfold mPaid; rw [if_pos b_1, if_pos b_3, if_pos b_5, if_pos b_7, if_pos b_9, if_neg c_11, if_pos b_12, if_pos c_16]; rfl) | (simp [mPaid, b_1, b_3, b_5, b_7, b_9, b_12, c_11, c_16]; done)), by rw [ht]; exact hP, hD⟩, hS.F ht⟩) hS.2.2 dX12_paid_122
                ·
                  refine lv_iload hx hb dX12_paid_99 (lv_at hl 6 rfl) ?_
                  refine lv_iload hx hb dX12_paid_101 (lv_at hl 8 rfl) ?_
                  refine lv_iadd hx hb dX12_paid_103 ?_
                  refine lv_bipush (v := 60) hx hb dX12_paid_104 (by decide) ?_
                  refine lv_icmp_gt (tgt := 121) hx hb dX12_paid_106 (by decide) (fun c_17 => ?_) (fun c_17 => ?_)
                  ·
                    refine lv_iconst (v := (-1)) hx hb dX12_paid_121 (by decide) ?_
                    exact W.iret (v := (-1)) hx hb hr (fun t ht hW => ⟨⟨(-1), u, rfl, (by first | (unfold mPaid; rw [if_pos b_1, if_pos b_3, if_pos b_5, if_pos b_7, if_pos b_9, if_neg c_11, if_pos b_12, if_neg c_16, if_pos c_17]; done) | (unfold mPaid; rw [if_pos b_1, if_pos b_3, if_pos b_5, if_pos b_7, if_pos b_9, if_neg c_11, if_pos b_12, if_neg c_16, if_pos c_17]; rfl) | (simp [mPaid, b_1, b_3, b_5, b_7, b_9, b_12, c_11, c_16, c_17]; done)), by rw [ht]; exact hP, hD⟩, hS.F ht⟩) hS.2.2 dX12_paid_122
                  ·
                    refine lv_iload hx hb dX12_paid_109 (lv_at hl 9 rfl) ?_
                    refine lv_iconst (v := 0) hx hb dX12_paid_111 (by decide) ?_
                    refine lv_sipush (v := 1000) hx hb dX12_paid_112 (by decide) ?_
                    refine vp_callSi (va_runS (As := [.int p6, .int 0, .int 1000]) (rest := []) ⟨hx, hb, hml, hown, hts⟩ (m_in l dC dI p6 0 1000) (va_cwS 3 hts gX12_paid_X12_in rfl rfl rfl zh_X12_in_0 ⟨Nat.le_of_ble_eq_true rfl, Nat.le_of_ble_eq_true rfl⟩) ⟨pw_fb, fun U hU hW => ⟨rfl, pw_to hU hW (hP.sub (ws' := []) [] rfl) (hK.sub (tys' := []) [] rfl) hN⟩⟩ rfl rfl hl.1 rfl (lv_room (Nat.le_of_ble_eq_true rfl)) dX12_paid_115 ⟨Nat.le_of_ble_eq_true rfl, Nat.le_of_ble_eq_true rfl⟩).run (fun r hw => ?_)
                    rcases Bool.eq_false_or_eq_true (bw p6 0 1000) with b_18 | b_18
                    ·
                      obtain rfl : r = 1 := b_t hw b_18
                      refine lv_if_ne (tgt := 123) hx hb dX12_paid_118 (by decide) (fun c_19 => ?_) (fun c_19 => absurd c_19 (by decide))
                      refine lv_aload_n hx hb dX12_paid_123 rfl (lv_at hl 2 rfl) ?_
                      refine lv_iconst (v := 3) hx hb dX12_paid_124 (by decide) ?_
                      have hFc := fr_all hD hS hA
                      refine va_calli (va_runV (As := [.int 3]) (rest := []) ⟨hx, hb, hml, hown, hts⟩ (m_made l dC dI h0 v cI cZ u 3 hn c_11 s.heap.size) (cwV 1 hts gX12_paid_X12_made rfl rfl rfl zh_X12_made_2 ⟨Nat.le_of_ble_eq_true rfl, Nat.le_of_ble_eq_true rfl⟩) ⟨gw_fb, va_recv hK hP (ci := 11) (q0 := 0) rfl rfl, fun U hU hW => ⟨rfl, by rw [hU], pw_to hU hW hP hK hN, hD.weaken (fun _ _ _ _ => trivial)⟩⟩ rfl rfl hl.1 rfl (lv_room (Nat.le_of_ble_eq_true rfl)) dX12_paid_125 ⟨Nat.le_of_ble_eq_true rfl, Nat.le_of_ble_eq_true rfl⟩) hS (fun q _ h => hFc q h) hFc (fun r u_20 t H1 locs ht hvm hw hB hz1 hk1 hS => ?_)
                      obtain ⟨hP, hD1⟩ := hB
                      rw [ht] at hP
                      have hD := hD1.weaken (fun _ q _ h => hFc q.1 h)
                      generalize H1 = H at hP hS ⊢
                      obtain ⟨rfl, eu_20⟩ := hw
                      refine lv_istore (lv' := [(10, .int (u.1 3)), (9, .int 1), (8, .int 1), (0, .ref h0), (1, .int p0), (2, .int p1), (3, .int p2), (4, .int p3), (5, .int p4), (6, .int p5), (7, .int p6)]) hx hb dX12_paid_128 hl (by decide) rfl (fun ls hl => ?_)
                      refine lv_aload_n hx hb dX12_paid_130 rfl (lv_at hl 3 rfl) ?_
                      refine va_get (D := (dC, dI)) (ci := 11) (v := .ref (v 10)) (C := RX12) (T := TX12) (N := 52) hx hb hts zl_X12_paid_X12 hown hK hP 0 rfl rfl 10 (by decide) (hts (.fieldLink RX12 37 "PageOneModel" "buyer" "[I") (zat q_wsX12_paid k_wsX12_paid 892 rfl (by decide +kernel))) (fun _ h9 => h9) rfl dX12_paid_131 ?_
                      refine lv_iload hx hb dX12_paid_134 (lv_at hl 0 rfl) ?_
                      refine lv_iload_n hx hb dX12_paid_136 rfl (lv_at hl 4 rfl) ?_
                      refine va_iast hx hb hK hP hD hS 10 0 rfl rfl (vNew hn c_11) dX12_paid_137 (fun H locs hP hD hS => ?_)
                      obtain ⟨u_21, eu_21⟩ : ∃ zz : mS, zz = mst u_20 10 (u.1 3) p0 := ⟨_, rfl⟩
                      have hP : va_P (dC, dI) vwCl (mW h0 v cI cZ u_21) H := by rw [eu_21]; exact hP
                      have hD : va_D A (mW h0 v cI cZ u_21) := by rw [eu_21]; exact hD
                      refine lv_aload_n hx hb dX12_paid_138 rfl (lv_at hl 3 rfl) ?_
                      refine va_get (D := (dC, dI)) (ci := 11) (v := .ref (v 11)) (C := RX12) (T := TX12) (N := 52) hx hb hts zl_X12_paid_X12 hown hK hP 0 rfl rfl 11 (by decide) (hts (.fieldLink RX12 40 "PageOneModel" "soldPage" "[I") (zat q_wsX12_paid k_wsX12_paid 893 rfl (by decide +kernel))) (fun _ h9 => h9) rfl dX12_paid_139 ?_
                      refine lv_iload hx hb dX12_paid_142 (lv_at hl 0 rfl) ?_
                      refine lv_iload_n hx hb dX12_paid_144 rfl (lv_at hl 5 rfl) ?_
                      refine va_iast hx hb hK hP hD hS 11 0 rfl rfl (vNew hn c_11) dX12_paid_145 (fun H locs hP hD hS => ?_)
                      obtain ⟨u_22, eu_22⟩ : ∃ zz : mS, zz = mst u_21 11 (u.1 3) p1 := ⟨_, rfl⟩
                      have hP : va_P (dC, dI) vwCl (mW h0 v cI cZ u_22) H := by rw [eu_22]; exact hP
                      have hD : va_D A (mW h0 v cI cZ u_22) := by rw [eu_22]; exact hD
                      refine lv_aload_n hx hb dX12_paid_146 rfl (lv_at hl 3 rfl) ?_
                      refine va_get (D := (dC, dI)) (ci := 11) (v := .ref (v 12)) (C := RX12) (T := TX12) (N := 52) hx hb hts zl_X12_paid_X12 hown hK hP 0 rfl rfl 12 (by decide) (hts (.fieldLink RX12 43 "PageOneModel" "soldColumn" "[I") (zat q_wsX12_paid k_wsX12_paid 894 rfl (by decide +kernel))) (fun _ h9 => h9) rfl dX12_paid_147 ?_
                      refine lv_iload hx hb dX12_paid_150 (lv_at hl 0 rfl) ?_
                      refine lv_iload_n hx hb dX12_paid_152 rfl (lv_at hl 6 rfl) ?_
                      refine va_iast hx hb hK hP hD hS 12 0 rfl rfl (vNew hn c_11) dX12_paid_153 (fun H locs hP hD hS => ?_)
                      obtain ⟨u_23, eu_23⟩ : ∃ zz : mS, zz = mst u_22 12 (u.1 3) p2 := ⟨_, rfl⟩
                      have hP : va_P (dC, dI) vwCl (mW h0 v cI cZ u_23) H := by rw [eu_23]; exact hP
                      have hD : va_D A (mW h0 v cI cZ u_23) := by rw [eu_23]; exact hD
                      refine lv_aload_n hx hb dX12_paid_154 rfl (lv_at hl 3 rfl) ?_
                      refine va_get (D := (dC, dI)) (ci := 11) (v := .ref (v 13)) (C := RX12) (T := TX12) (N := 52) hx hb hts zl_X12_paid_X12 hown hK hP 0 rfl rfl 13 (by decide) (hts (.fieldLink RX12 46 "PageOneModel" "soldLine" "[I") (zat q_wsX12_paid k_wsX12_paid 895 rfl (by decide +kernel))) (fun _ h9 => h9) rfl dX12_paid_155 ?_
                      refine lv_iload hx hb dX12_paid_158 (lv_at hl 0 rfl) ?_
                      refine lv_iload hx hb dX12_paid_160 (lv_at hl 7 rfl) ?_
                      refine va_iast hx hb hK hP hD hS 13 0 rfl rfl (vNew hn c_11) dX12_paid_162 (fun H locs hP hD hS => ?_)
                      obtain ⟨u_24, eu_24⟩ : ∃ zz : mS, zz = mst u_23 13 (u.1 3) p3 := ⟨_, rfl⟩
                      have hP : va_P (dC, dI) vwCl (mW h0 v cI cZ u_24) H := by rw [eu_24]; exact hP
                      have hD : va_D A (mW h0 v cI cZ u_24) := by rw [eu_24]; exact hD
                      refine lv_aload_n hx hb dX12_paid_163 rfl (lv_at hl 3 rfl) ?_
                      refine va_get (D := (dC, dI)) (ci := 11) (v := .ref (v 7)) (C := RX12) (T := TX12) (N := 52) hx hb hts zl_X12_paid_X12 hown hK hP 0 rfl rfl 7 (by decide) (hts (.fieldLink RX12 28 "PageOneModel" "wide" "[I") (zat q_wsX12_paid k_wsX12_paid 889 rfl (by decide +kernel))) (fun _ h9 => h9) rfl dX12_paid_164 ?_
                      refine lv_iload hx hb dX12_paid_167 (lv_at hl 0 rfl) ?_
                      refine lv_iload hx hb dX12_paid_169 (lv_at hl 8 rfl) ?_
                      refine va_iast hx hb hK hP hD hS 7 0 rfl rfl (vNew hn c_11) dX12_paid_171 (fun H locs hP hD hS => ?_)
                      obtain ⟨u_25, eu_25⟩ : ∃ zz : mS, zz = mst u_24 7 (u.1 3) p4 := ⟨_, rfl⟩
                      have hP : va_P (dC, dI) vwCl (mW h0 v cI cZ u_25) H := by rw [eu_25]; exact hP
                      have hD : va_D A (mW h0 v cI cZ u_25) := by rw [eu_25]; exact hD
                      refine lv_aload_n hx hb dX12_paid_172 rfl (lv_at hl 3 rfl) ?_
                      refine va_get (D := (dC, dI)) (ci := 11) (v := .ref (v 8)) (C := RX12) (T := TX12) (N := 52) hx hb hts zl_X12_paid_X12 hown hK hP 0 rfl rfl 8 (by decide) (hts (.fieldLink RX12 31 "PageOneModel" "high" "[I") (zat q_wsX12_paid k_wsX12_paid 890 rfl (by decide +kernel))) (fun _ h9 => h9) rfl dX12_paid_173 ?_
                      refine lv_iload hx hb dX12_paid_176 (lv_at hl 0 rfl) ?_
                      refine lv_iload hx hb dX12_paid_178 (lv_at hl 9 rfl) ?_
                      refine va_iast hx hb hK hP hD hS 8 0 rfl rfl (vNew hn c_11) dX12_paid_180 (fun H locs hP hD hS => ?_)
                      obtain ⟨u_26, eu_26⟩ : ∃ zz : mS, zz = mst u_25 8 (u.1 3) p5 := ⟨_, rfl⟩
                      have hP : va_P (dC, dI) vwCl (mW h0 v cI cZ u_26) H := by rw [eu_26]; exact hP
                      have hD : va_D A (mW h0 v cI cZ u_26) := by rw [eu_26]; exact hD
                      refine lv_aload_n hx hb dX12_paid_181 rfl (lv_at hl 3 rfl) ?_
                      refine va_get (D := (dC, dI)) (ci := 11) (v := .ref (v 14)) (C := RX12) (T := TX12) (N := 52) hx hb hts zl_X12_paid_X12 hown hK hP 0 rfl rfl 14 (by decide) (hts (.fieldLink RX12 49 "PageOneModel" "price" "[I") (zat q_wsX12_paid k_wsX12_paid 896 rfl (by decide +kernel))) (fun _ h9 => h9) rfl dX12_paid_182 ?_
                      refine lv_iload hx hb dX12_paid_185 (lv_at hl 0 rfl) ?_
                      refine lv_iload hx hb dX12_paid_187 (lv_at hl 10 rfl) ?_
                      refine va_iast hx hb hK hP hD hS 14 0 rfl rfl (vNew hn c_11) dX12_paid_189 (fun H locs hP hD hS => ?_)
                      obtain ⟨u_27, eu_27⟩ : ∃ zz : mS, zz = mst u_26 14 (u.1 3) p6 := ⟨_, rfl⟩
                      have hP : va_P (dC, dI) vwCl (mW h0 v cI cZ u_27) H := by rw [eu_27]; exact hP
                      have hD : va_D A (mW h0 v cI cZ u_27) := by rw [eu_27]; exact hD
                      refine lv_iload hx hb dX12_paid_190 (lv_at hl 0 rfl) ?_
                      exact W.iret (v := (u.1 3)) hx hb hr (fun t ht hW => ⟨⟨(u.1 3), u_27, rfl, (by subst eu_20 eu_21 eu_22 eu_23 eu_24 eu_25 eu_26 eu_27; first | (unfold mPaid; rw [if_pos b_1, if_pos b_3, if_pos b_5, if_pos b_7, if_pos b_9, if_neg c_11, if_pos b_12, if_neg c_16, if_neg c_17, if_pos b_18]; done) | (unfold mPaid; rw [if_pos b_1, if_pos b_3, if_pos b_5, if_pos b_7, if_pos b_9, if_neg c_11, if_pos b_12, if_neg c_16, if_neg c_17, if_pos b_18]; rfl) | (simp [mPaid, b_1, b_3, b_5, b_7, b_9, b_12, b_18, c_11, c_16, c_17]; done)), by rw [ht]; exact hP, hD⟩, hS.F ht⟩) hS.2.2 dX12_paid_192
                    ·
                      obtain rfl : r = 0 := b_f hw b_18
                      refine lv_if_ne (tgt := 123) hx hb dX12_paid_118 (by decide) (fun c_28 => absurd (by decide) c_28) (fun c_28 => ?_)
                      refine lv_iconst (v := (-1)) hx hb dX12_paid_121 (by decide) ?_
                      exact W.iret (v := (-1)) hx hb hr (fun t ht hW => ⟨⟨(-1), u, rfl, (by first | (unfold mPaid; rw [if_pos b_1, if_pos b_3, if_pos b_5, if_pos b_7, if_pos b_9, if_neg c_11, if_pos b_12, if_neg c_16, if_neg c_17, if_neg (bne b_18)]; done) | (unfold mPaid; rw [if_pos b_1, if_pos b_3, if_pos b_5, if_pos b_7, if_pos b_9, if_neg c_11, if_pos b_12, if_neg c_16, if_neg c_17, if_neg (bne b_18)]; rfl) | (simp [mPaid, b_1, b_3, b_5, b_7, b_9, b_12, b_18, c_11, c_16, c_17]; done)), by rw [ht]; exact hP, hD⟩, hS.F ht⟩) hS.2.2 dX12_paid_122
              ·
                obtain rfl : r = 0 := b_f hw b_12
                refine lv_if_eq (tgt := 121) hx hb dX12_paid_77 (by decide) (fun c_29 => ?_) (fun c_29 => absurd (by decide) c_29)
                refine lv_iconst (v := (-1)) hx hb dX12_paid_121 (by decide) ?_
                exact W.iret (v := (-1)) hx hb hr (fun t ht hW => ⟨⟨(-1), u, rfl, (by first | (unfold mPaid; rw [if_pos b_1, if_pos b_3, if_pos b_5, if_pos b_7, if_pos b_9, if_neg c_11, if_neg (bne b_12)]; done) | (unfold mPaid; rw [if_pos b_1, if_pos b_3, if_pos b_5, if_pos b_7, if_pos b_9, if_neg c_11, if_neg (bne b_12)]; rfl) | (simp [mPaid, b_1, b_3, b_5, b_7, b_9, b_12, c_11]; done)), by rw [ht]; exact hP, hD⟩, hS.F ht⟩) hS.2.2 dX12_paid_122
          ·
            obtain rfl : r = 0 := b_f hw b_9
            refine lv_if_eq (tgt := 61) hx hb dX12_paid_54 (by decide) (fun c_30 => ?_) (fun c_30 => absurd (by decide) c_30)
            refine lv_iconst (v := 0) hx hb dX12_paid_61 (by decide) ?_
            refine lv_istore (lv' := [(9, .int 0), (8, .int 1), (0, .ref h0), (1, .int p0), (2, .int p1), (3, .int p2), (4, .int p3), (5, .int p4), (6, .int p5), (7, .int p6)]) hx hb dX12_paid_62 hl (by decide) rfl (fun ls hl => ?_)
            refine lv_aload_n hx hb dX12_paid_64 rfl (lv_at hl 2 rfl) ?_
            refine va_get (D := (dC, dI)) (ci := 11) (v := .int (u.1 3)) (C := RX12) (T := TX12) (N := 52) hx hb hts zl_X12_paid_X12 hown hK hP 0 rfl rfl 3 (by decide) (hts (.fieldLink RX12 147 "PageOneModel" "items" "I") (zat q_wsX12_paid k_wsX12_paid 885 rfl (by decide +kernel))) (fun _ h9 => h9) rfl dX12_paid_65 ?_
            refine lv_bipush (v := 80) hx hb dX12_paid_68 (by decide) ?_
            refine lv_icmp_eq (tgt := 121) hx hb dX12_paid_70 (by decide) (fun c_31 => ?_) (fun c_31 => ?_)
            ·
              refine lv_iconst (v := (-1)) hx hb dX12_paid_121 (by decide) ?_
              exact W.iret (v := (-1)) hx hb hr (fun t ht hW => ⟨⟨(-1), u, rfl, (by first | (unfold mPaid; rw [if_pos b_1, if_pos b_3, if_pos b_5, if_pos b_7, if_neg (bne b_9), if_pos c_31]; done) | (unfold mPaid; rw [if_pos b_1, if_pos b_3, if_pos b_5, if_pos b_7, if_neg (bne b_9), if_pos c_31]; rfl) | (simp [mPaid, b_1, b_3, b_5, b_7, b_9, c_31]; done)), by rw [ht]; exact hP, hD⟩, hS.F ht⟩) hS.2.2 dX12_paid_122
            ·
              refine lv_iload_n hx hb dX12_paid_73 rfl (lv_at hl 3 rfl) ?_
              refine vp_callSi (va_runS (As := [.int p0]) (rest := []) ⟨hx, hb, hml, hown, hts⟩ (m_isBuyer l dC dI p0) (va_cwS 1 hts gX12_paid_X12_isBuyer rfl rfl rfl zh_X12_isBuyer_5 ⟨Nat.le_of_ble_eq_true rfl, Nat.le_of_ble_eq_true rfl⟩) ⟨pw_fb, fun U hU hW => ⟨rfl, pw_to hU hW (hP.sub (ws' := []) [] rfl) (hK.sub (tys' := []) [] rfl) hN⟩⟩ rfl rfl hl.1 rfl (lv_room (Nat.le_of_ble_eq_true rfl)) dX12_paid_74 ⟨Nat.le_of_ble_eq_true rfl, Nat.le_of_ble_eq_true rfl⟩).run (fun r hw => ?_)
              rcases Bool.eq_false_or_eq_true (bw p0 0 9) with b_32 | b_32
              ·
                obtain rfl : r = 1 := b_t hw b_32
                refine lv_if_eq (tgt := 121) hx hb dX12_paid_77 (by decide) (fun c_33 => absurd c_33 (by decide)) (fun c_33 => ?_)
                refine lv_iload hx hb dX12_paid_80 (lv_at hl 1 rfl) ?_
                refine lv_if_eq (tgt := 121) hx hb dX12_paid_82 (by decide) (fun c_34 => absurd c_34 (by decide)) (fun c_34 => ?_)
                refine lv_iload hx hb dX12_paid_85 (lv_at hl 0 rfl) ?_
                refine lv_if_eq (tgt := 121) hx hb dX12_paid_87 (by decide) (fun c_35 => ?_) (fun c_35 => absurd (by decide) c_35)
                refine lv_iconst (v := (-1)) hx hb dX12_paid_121 (by decide) ?_
                exact W.iret (v := (-1)) hx hb hr (fun t ht hW => ⟨⟨(-1), u, rfl, (by first | (unfold mPaid; rw [if_pos b_1, if_pos b_3, if_pos b_5, if_pos b_7, if_neg (bne b_9), if_neg c_31, if_pos b_32]; done) | (unfold mPaid; rw [if_pos b_1, if_pos b_3, if_pos b_5, if_pos b_7, if_neg (bne b_9), if_neg c_31, if_pos b_32]; rfl) | (simp [mPaid, b_1, b_3, b_5, b_7, b_9, b_32, c_31]; done)), by rw [ht]; exact hP, hD⟩, hS.F ht⟩) hS.2.2 dX12_paid_122
              ·
                obtain rfl : r = 0 := b_f hw b_32
                refine lv_if_eq (tgt := 121) hx hb dX12_paid_77 (by decide) (fun c_36 => ?_) (fun c_36 => absurd (by decide) c_36)
                refine lv_iconst (v := (-1)) hx hb dX12_paid_121 (by decide) ?_
                exact W.iret (v := (-1)) hx hb hr (fun t ht hW => ⟨⟨(-1), u, rfl, (by first | (unfold mPaid; rw [if_pos b_1, if_pos b_3, if_pos b_5, if_pos b_7, if_neg (bne b_9), if_neg c_31, if_neg (bne b_32)]; done) | (unfold mPaid; rw [if_pos b_1, if_pos b_3, if_pos b_5, if_pos b_7, if_neg (bne b_9), if_neg c_31, if_neg (bne b_32)]; rfl) | (simp [mPaid, b_1, b_3, b_5, b_7, b_9, b_32, c_31]; done)), by rw [ht]; exact hP, hD⟩, hS.F ht⟩) hS.2.2 dX12_paid_122
        ·
          obtain rfl : r = 0 := b_f hw b_7
          refine lv_if_eq (tgt := 61) hx hb dX12_paid_43 (by decide) (fun c_37 => ?_) (fun c_37 => absurd (by decide) c_37)
          refine lv_iconst (v := 0) hx hb dX12_paid_61 (by decide) ?_
          refine lv_istore (lv' := [(9, .int 0), (8, .int 1), (0, .ref h0), (1, .int p0), (2, .int p1), (3, .int p2), (4, .int p3), (5, .int p4), (6, .int p5), (7, .int p6)]) hx hb dX12_paid_62 hl (by decide) rfl (fun ls hl => ?_)
          refine lv_aload_n hx hb dX12_paid_64 rfl (lv_at hl 2 rfl) ?_
          refine va_get (D := (dC, dI)) (ci := 11) (v := .int (u.1 3)) (C := RX12) (T := TX12) (N := 52) hx hb hts zl_X12_paid_X12 hown hK hP 0 rfl rfl 3 (by decide) (hts (.fieldLink RX12 147 "PageOneModel" "items" "I") (zat q_wsX12_paid k_wsX12_paid 885 rfl (by decide +kernel))) (fun _ h9 => h9) rfl dX12_paid_65 ?_
          refine lv_bipush (v := 80) hx hb dX12_paid_68 (by decide) ?_
          refine lv_icmp_eq (tgt := 121) hx hb dX12_paid_70 (by decide) (fun c_38 => ?_) (fun c_38 => ?_)
          ·
            refine lv_iconst (v := (-1)) hx hb dX12_paid_121 (by decide) ?_
            exact W.iret (v := (-1)) hx hb hr (fun t ht hW => ⟨⟨(-1), u, rfl, (by first | (unfold mPaid; rw [if_pos b_1, if_pos b_3, if_pos b_5, if_neg (bne b_7), if_pos c_38]; done) | (unfold mPaid; rw [if_pos b_1, if_pos b_3, if_pos b_5, if_neg (bne b_7), if_pos c_38]; rfl) | (simp [mPaid, b_1, b_3, b_5, b_7, c_38]; done)), by rw [ht]; exact hP, hD⟩, hS.F ht⟩) hS.2.2 dX12_paid_122
          ·
            refine lv_iload_n hx hb dX12_paid_73 rfl (lv_at hl 3 rfl) ?_
            refine vp_callSi (va_runS (As := [.int p0]) (rest := []) ⟨hx, hb, hml, hown, hts⟩ (m_isBuyer l dC dI p0) (va_cwS 1 hts gX12_paid_X12_isBuyer rfl rfl rfl zh_X12_isBuyer_5 ⟨Nat.le_of_ble_eq_true rfl, Nat.le_of_ble_eq_true rfl⟩) ⟨pw_fb, fun U hU hW => ⟨rfl, pw_to hU hW (hP.sub (ws' := []) [] rfl) (hK.sub (tys' := []) [] rfl) hN⟩⟩ rfl rfl hl.1 rfl (lv_room (Nat.le_of_ble_eq_true rfl)) dX12_paid_74 ⟨Nat.le_of_ble_eq_true rfl, Nat.le_of_ble_eq_true rfl⟩).run (fun r hw => ?_)
            rcases Bool.eq_false_or_eq_true (bw p0 0 9) with b_39 | b_39
            ·
              obtain rfl : r = 1 := b_t hw b_39
              refine lv_if_eq (tgt := 121) hx hb dX12_paid_77 (by decide) (fun c_40 => absurd c_40 (by decide)) (fun c_40 => ?_)
              refine lv_iload hx hb dX12_paid_80 (lv_at hl 1 rfl) ?_
              refine lv_if_eq (tgt := 121) hx hb dX12_paid_82 (by decide) (fun c_41 => absurd c_41 (by decide)) (fun c_41 => ?_)
              refine lv_iload hx hb dX12_paid_85 (lv_at hl 0 rfl) ?_
              refine lv_if_eq (tgt := 121) hx hb dX12_paid_87 (by decide) (fun c_42 => ?_) (fun c_42 => absurd (by decide) c_42)
              refine lv_iconst (v := (-1)) hx hb dX12_paid_121 (by decide) ?_
              exact W.iret (v := (-1)) hx hb hr (fun t ht hW => ⟨⟨(-1), u, rfl, (by first | (unfold mPaid; rw [if_pos b_1, if_pos b_3, if_pos b_5, if_neg (bne b_7), if_neg c_38, if_pos b_39]; done) | (unfold mPaid; rw [if_pos b_1, if_pos b_3, if_pos b_5, if_neg (bne b_7), if_neg c_38, if_pos b_39]; rfl) | (simp [mPaid, b_1, b_3, b_5, b_7, b_39, c_38]; done)), by rw [ht]; exact hP, hD⟩, hS.F ht⟩) hS.2.2 dX12_paid_122
            ·
              obtain rfl : r = 0 := b_f hw b_39
              refine lv_if_eq (tgt := 121) hx hb dX12_paid_77 (by decide) (fun c_43 => ?_) (fun c_43 => absurd (by decide) c_43)
              refine lv_iconst (v := (-1)) hx hb dX12_paid_121 (by decide) ?_
              exact W.iret (v := (-1)) hx hb hr (fun t ht hW => ⟨⟨(-1), u, rfl, (by first | (unfold mPaid; rw [if_pos b_1, if_pos b_3, if_pos b_5, if_neg (bne b_7), if_neg c_38, if_neg (bne b_39)]; done) | (unfold mPaid; rw [if_pos b_1, if_pos b_3, if_pos b_5, if_neg (bne b_7), if_neg c_38, if_neg (bne b_39)]; rfl) | (simp [mPaid, b_1, b_3, b_5, b_7, b_39, c_38]; done)), by rw [ht]; exact hP, hD⟩, hS.F ht⟩) hS.2.2 dX12_paid_122
      ·
        obtain rfl : r = 0 := b_f hw b_5
        refine lv_if_eq (tgt := 32) hx hb dX12_paid_25 (by decide) (fun c_44 => ?_) (fun c_44 => absurd (by decide) c_44)
        refine lv_iconst (v := 0) hx hb dX12_paid_32 (by decide) ?_
        refine lv_istore (lv' := [(8, .int 0), (0, .ref h0), (1, .int p0), (2, .int p1), (3, .int p2), (4, .int p3), (5, .int p4), (6, .int p5), (7, .int p6)]) hx hb dX12_paid_33 hl (by decide) rfl (fun ls hl => ?_)
        refine lv_iload hx hb dX12_paid_35 (lv_at hl 6 rfl) ?_
        refine lv_iconst (v := 1) hx hb dX12_paid_37 (by decide) ?_
        refine lv_bipush (v := 8) hx hb dX12_paid_38 (by decide) ?_
        refine vp_callSi (va_runS (As := [.int p4, .int 1, .int 8]) (rest := []) ⟨hx, hb, hml, hown, hts⟩ (m_in l dC dI p4 1 8) (va_cwS 3 hts gX12_paid_X12_in rfl rfl rfl zh_X12_in_0 ⟨Nat.le_of_ble_eq_true rfl, Nat.le_of_ble_eq_true rfl⟩) ⟨pw_fb, fun U hU hW => ⟨rfl, pw_to hU hW (hP.sub (ws' := []) [] rfl) (hK.sub (tys' := []) [] rfl) hN⟩⟩ rfl rfl hl.1 rfl (lv_room (Nat.le_of_ble_eq_true rfl)) dX12_paid_40 ⟨Nat.le_of_ble_eq_true rfl, Nat.le_of_ble_eq_true rfl⟩).run (fun r hw => ?_)
        rcases Bool.eq_false_or_eq_true (bw p4 1 8) with b_45 | b_45
        ·
          obtain rfl : r = 1 := b_t hw b_45
          refine lv_if_eq (tgt := 61) hx hb dX12_paid_43 (by decide) (fun c_46 => absurd c_46 (by decide)) (fun c_46 => ?_)
          refine lv_iload hx hb dX12_paid_46 (lv_at hl 7 rfl) ?_
          refine lv_iconst (v := 1) hx hb dX12_paid_48 (by decide) ?_
          refine lv_bipush (v := 60) hx hb dX12_paid_49 (by decide) ?_
          refine vp_callSi (va_runS (As := [.int p5, .int 1, .int 60]) (rest := []) ⟨hx, hb, hml, hown, hts⟩ (m_in l dC dI p5 1 60) (va_cwS 3 hts gX12_paid_X12_in rfl rfl rfl zh_X12_in_0 ⟨Nat.le_of_ble_eq_true rfl, Nat.le_of_ble_eq_true rfl⟩) ⟨pw_fb, fun U hU hW => ⟨rfl, pw_to hU hW (hP.sub (ws' := []) [] rfl) (hK.sub (tys' := []) [] rfl) hN⟩⟩ rfl rfl hl.1 rfl (lv_room (Nat.le_of_ble_eq_true rfl)) dX12_paid_51 ⟨Nat.le_of_ble_eq_true rfl, Nat.le_of_ble_eq_true rfl⟩).run (fun r hw => ?_)
          rcases Bool.eq_false_or_eq_true (bw p5 1 60) with b_47 | b_47
          ·
            obtain rfl : r = 1 := b_t hw b_47
            refine lv_if_eq (tgt := 61) hx hb dX12_paid_54 (by decide) (fun c_48 => absurd c_48 (by decide)) (fun c_48 => ?_)
            refine lv_iconst (v := 1) hx hb dX12_paid_57 (by decide) ?_
            refine lv_goto (tgt := 62) hx hb dX12_paid_58 (by decide) ?_
            refine lv_istore (lv' := [(9, .int 1), (8, .int 0), (0, .ref h0), (1, .int p0), (2, .int p1), (3, .int p2), (4, .int p3), (5, .int p4), (6, .int p5), (7, .int p6)]) hx hb dX12_paid_62 hl (by decide) rfl (fun ls hl => ?_)
            refine lv_aload_n hx hb dX12_paid_64 rfl (lv_at hl 2 rfl) ?_
            refine va_get (D := (dC, dI)) (ci := 11) (v := .int (u.1 3)) (C := RX12) (T := TX12) (N := 52) hx hb hts zl_X12_paid_X12 hown hK hP 0 rfl rfl 3 (by decide) (hts (.fieldLink RX12 147 "PageOneModel" "items" "I") (zat q_wsX12_paid k_wsX12_paid 885 rfl (by decide +kernel))) (fun _ h9 => h9) rfl dX12_paid_65 ?_
            refine lv_bipush (v := 80) hx hb dX12_paid_68 (by decide) ?_
            refine lv_icmp_eq (tgt := 121) hx hb dX12_paid_70 (by decide) (fun c_49 => ?_) (fun c_49 => ?_)
            ·
              refine lv_iconst (v := (-1)) hx hb dX12_paid_121 (by decide) ?_
              exact W.iret (v := (-1)) hx hb hr (fun t ht hW => ⟨⟨(-1), u, rfl, (by first | (unfold mPaid; rw [if_pos b_1, if_pos b_3, if_neg (bne b_5), if_pos b_45, if_pos b_47, if_pos c_49]; done) | (unfold mPaid; rw [if_pos b_1, if_pos b_3, if_neg (bne b_5), if_pos b_45, if_pos b_47, if_pos c_49]; rfl) | (simp [mPaid, b_1, b_3, b_5, b_45, b_47, c_49]; done)), by rw [ht]; exact hP, hD⟩, hS.F ht⟩) hS.2.2 dX12_paid_122
            ·
              refine lv_iload_n hx hb dX12_paid_73 rfl (lv_at hl 3 rfl) ?_
              refine vp_callSi (va_runS (As := [.int p0]) (rest := []) ⟨hx, hb, hml, hown, hts⟩ (m_isBuyer l dC dI p0) (va_cwS 1 hts gX12_paid_X12_isBuyer rfl rfl rfl zh_X12_isBuyer_5 ⟨Nat.le_of_ble_eq_true rfl, Nat.le_of_ble_eq_true rfl⟩) ⟨pw_fb, fun U hU hW => ⟨rfl, pw_to hU hW (hP.sub (ws' := []) [] rfl) (hK.sub (tys' := []) [] rfl) hN⟩⟩ rfl rfl hl.1 rfl (lv_room (Nat.le_of_ble_eq_true rfl)) dX12_paid_74 ⟨Nat.le_of_ble_eq_true rfl, Nat.le_of_ble_eq_true rfl⟩).run (fun r hw => ?_)
              rcases Bool.eq_false_or_eq_true (bw p0 0 9) with b_50 | b_50
              ·
                obtain rfl : r = 1 := b_t hw b_50
                refine lv_if_eq (tgt := 121) hx hb dX12_paid_77 (by decide) (fun c_51 => absurd c_51 (by decide)) (fun c_51 => ?_)
                refine lv_iload hx hb dX12_paid_80 (lv_at hl 1 rfl) ?_
                refine lv_if_eq (tgt := 121) hx hb dX12_paid_82 (by decide) (fun c_52 => ?_) (fun c_52 => absurd (by decide) c_52)
                refine lv_iconst (v := (-1)) hx hb dX12_paid_121 (by decide) ?_
                exact W.iret (v := (-1)) hx hb hr (fun t ht hW => ⟨⟨(-1), u, rfl, (by first | (unfold mPaid; rw [if_pos b_1, if_pos b_3, if_neg (bne b_5), if_pos b_45, if_pos b_47, if_neg c_49, if_pos b_50]; done) | (unfold mPaid; rw [if_pos b_1, if_pos b_3, if_neg (bne b_5), if_pos b_45, if_pos b_47, if_neg c_49, if_pos b_50]; rfl) | (simp [mPaid, b_1, b_3, b_5, b_45, b_47, b_50, c_49]; done)), by rw [ht]; exact hP, hD⟩, hS.F ht⟩) hS.2.2 dX12_paid_122
              ·
                obtain rfl : r = 0 := b_f hw b_50
                refine lv_if_eq (tgt := 121) hx hb dX12_paid_77 (by decide) (fun c_53 => ?_) (fun c_53 => absurd (by decide) c_53)
                refine lv_iconst (v := (-1)) hx hb dX12_paid_121 (by decide) ?_
                exact W.iret (v := (-1)) hx hb hr (fun t ht hW => ⟨⟨(-1), u, rfl, (by first | (unfold mPaid; rw [if_pos b_1, if_pos b_3, if_neg (bne b_5), if_pos b_45, if_pos b_47, if_neg c_49, if_neg (bne b_50)]; done) | (unfold mPaid; rw [if_pos b_1, if_pos b_3, if_neg (bne b_5), if_pos b_45, if_pos b_47, if_neg c_49, if_neg (bne b_50)]; rfl) | (simp [mPaid, b_1, b_3, b_5, b_45, b_47, b_50, c_49]; done)), by rw [ht]; exact hP, hD⟩, hS.F ht⟩) hS.2.2 dX12_paid_122
          ·
            obtain rfl : r = 0 := b_f hw b_47
            refine lv_if_eq (tgt := 61) hx hb dX12_paid_54 (by decide) (fun c_54 => ?_) (fun c_54 => absurd (by decide) c_54)
            refine lv_iconst (v := 0) hx hb dX12_paid_61 (by decide) ?_
            refine lv_istore (lv' := [(9, .int 0), (8, .int 0), (0, .ref h0), (1, .int p0), (2, .int p1), (3, .int p2), (4, .int p3), (5, .int p4), (6, .int p5), (7, .int p6)]) hx hb dX12_paid_62 hl (by decide) rfl (fun ls hl => ?_)
            refine lv_aload_n hx hb dX12_paid_64 rfl (lv_at hl 2 rfl) ?_
            refine va_get (D := (dC, dI)) (ci := 11) (v := .int (u.1 3)) (C := RX12) (T := TX12) (N := 52) hx hb hts zl_X12_paid_X12 hown hK hP 0 rfl rfl 3 (by decide) (hts (.fieldLink RX12 147 "PageOneModel" "items" "I") (zat q_wsX12_paid k_wsX12_paid 885 rfl (by decide +kernel))) (fun _ h9 => h9) rfl dX12_paid_65 ?_
            refine lv_bipush (v := 80) hx hb dX12_paid_68 (by decide) ?_
            refine lv_icmp_eq (tgt := 121) hx hb dX12_paid_70 (by decide) (fun c_55 => ?_) (fun c_55 => ?_)
            ·
              refine lv_iconst (v := (-1)) hx hb dX12_paid_121 (by decide) ?_
              exact W.iret (v := (-1)) hx hb hr (fun t ht hW => ⟨⟨(-1), u, rfl, (by first | (unfold mPaid; rw [if_pos b_1, if_pos b_3, if_neg (bne b_5), if_pos b_45, if_neg (bne b_47), if_pos c_55]; done) | (unfold mPaid; rw [if_pos b_1, if_pos b_3, if_neg (bne b_5), if_pos b_45, if_neg (bne b_47), if_pos c_55]; rfl) | (simp [mPaid, b_1, b_3, b_5, b_45, b_47, c_55]; done)), by rw [ht]; exact hP, hD⟩, hS.F ht⟩) hS.2.2 dX12_paid_122
            ·
              refine lv_iload_n hx hb dX12_paid_73 rfl (lv_at hl 3 rfl) ?_
              refine vp_callSi (va_runS (As := [.int p0]) (rest := []) ⟨hx, hb, hml, hown, hts⟩ (m_isBuyer l dC dI p0) (va_cwS 1 hts gX12_paid_X12_isBuyer rfl rfl rfl zh_X12_isBuyer_5 ⟨Nat.le_of_ble_eq_true rfl, Nat.le_of_ble_eq_true rfl⟩) ⟨pw_fb, fun U hU hW => ⟨rfl, pw_to hU hW (hP.sub (ws' := []) [] rfl) (hK.sub (tys' := []) [] rfl) hN⟩⟩ rfl rfl hl.1 rfl (lv_room (Nat.le_of_ble_eq_true rfl)) dX12_paid_74 ⟨Nat.le_of_ble_eq_true rfl, Nat.le_of_ble_eq_true rfl⟩).run (fun r hw => ?_)
              rcases Bool.eq_false_or_eq_true (bw p0 0 9) with b_56 | b_56
              ·
                obtain rfl : r = 1 := b_t hw b_56
                refine lv_if_eq (tgt := 121) hx hb dX12_paid_77 (by decide) (fun c_57 => absurd c_57 (by decide)) (fun c_57 => ?_)
                refine lv_iload hx hb dX12_paid_80 (lv_at hl 1 rfl) ?_
                refine lv_if_eq (tgt := 121) hx hb dX12_paid_82 (by decide) (fun c_58 => ?_) (fun c_58 => absurd (by decide) c_58)
                refine lv_iconst (v := (-1)) hx hb dX12_paid_121 (by decide) ?_
                exact W.iret (v := (-1)) hx hb hr (fun t ht hW => ⟨⟨(-1), u, rfl, (by first | (unfold mPaid; rw [if_pos b_1, if_pos b_3, if_neg (bne b_5), if_pos b_45, if_neg (bne b_47), if_neg c_55, if_pos b_56]; done) | (unfold mPaid; rw [if_pos b_1, if_pos b_3, if_neg (bne b_5), if_pos b_45, if_neg (bne b_47), if_neg c_55, if_pos b_56]; rfl) | (simp [mPaid, b_1, b_3, b_5, b_45, b_47, b_56, c_55]; done)), by rw [ht]; exact hP, hD⟩, hS.F ht⟩) hS.2.2 dX12_paid_122
              ·
                obtain rfl : r = 0 := b_f hw b_56
                refine lv_if_eq (tgt := 121) hx hb dX12_paid_77 (by decide) (fun c_59 => ?_) (fun c_59 => absurd (by decide) c_59)
                refine lv_iconst (v := (-1)) hx hb dX12_paid_121 (by decide) ?_
                exact W.iret (v := (-1)) hx hb hr (fun t ht hW => ⟨⟨(-1), u, rfl, (by first | (unfold mPaid; rw [if_pos b_1, if_pos b_3, if_neg (bne b_5), if_pos b_45, if_neg (bne b_47), if_neg c_55, if_neg (bne b_56)]; done) | (unfold mPaid; rw [if_pos b_1, if_pos b_3, if_neg (bne b_5), if_pos b_45, if_neg (bne b_47), if_neg c_55, if_neg (bne b_56)]; rfl) | (simp [mPaid, b_1, b_3, b_5, b_45, b_47, b_56, c_55]; done)), by rw [ht]; exact hP, hD⟩, hS.F ht⟩) hS.2.2 dX12_paid_122
        ·
          obtain rfl : r = 0 := b_f hw b_45
          refine lv_if_eq (tgt := 61) hx hb dX12_paid_43 (by decide) (fun c_60 => ?_) (fun c_60 => absurd (by decide) c_60)
          refine lv_iconst (v := 0) hx hb dX12_paid_61 (by decide) ?_
          refine lv_istore (lv' := [(9, .int 0), (8, .int 0), (0, .ref h0), (1, .int p0), (2, .int p1), (3, .int p2), (4, .int p3), (5, .int p4), (6, .int p5), (7, .int p6)]) hx hb dX12_paid_62 hl (by decide) rfl (fun ls hl => ?_)
          refine lv_aload_n hx hb dX12_paid_64 rfl (lv_at hl 2 rfl) ?_
          refine va_get (D := (dC, dI)) (ci := 11) (v := .int (u.1 3)) (C := RX12) (T := TX12) (N := 52) hx hb hts zl_X12_paid_X12 hown hK hP 0 rfl rfl 3 (by decide) (hts (.fieldLink RX12 147 "PageOneModel" "items" "I") (zat q_wsX12_paid k_wsX12_paid 885 rfl (by decide +kernel))) (fun _ h9 => h9) rfl dX12_paid_65 ?_
          refine lv_bipush (v := 80) hx hb dX12_paid_68 (by decide) ?_
          refine lv_icmp_eq (tgt := 121) hx hb dX12_paid_70 (by decide) (fun c_61 => ?_) (fun c_61 => ?_)
          ·
            refine lv_iconst (v := (-1)) hx hb dX12_paid_121 (by decide) ?_
            exact W.iret (v := (-1)) hx hb hr (fun t ht hW => ⟨⟨(-1), u, rfl, (by first | (unfold mPaid; rw [if_pos b_1, if_pos b_3, if_neg (bne b_5), if_neg (bne b_45), if_pos c_61]; done) | (unfold mPaid; rw [if_pos b_1, if_pos b_3, if_neg (bne b_5), if_neg (bne b_45), if_pos c_61]; rfl) | (simp [mPaid, b_1, b_3, b_5, b_45, c_61]; done)), by rw [ht]; exact hP, hD⟩, hS.F ht⟩) hS.2.2 dX12_paid_122
          ·
            refine lv_iload_n hx hb dX12_paid_73 rfl (lv_at hl 3 rfl) ?_
            refine vp_callSi (va_runS (As := [.int p0]) (rest := []) ⟨hx, hb, hml, hown, hts⟩ (m_isBuyer l dC dI p0) (va_cwS 1 hts gX12_paid_X12_isBuyer rfl rfl rfl zh_X12_isBuyer_5 ⟨Nat.le_of_ble_eq_true rfl, Nat.le_of_ble_eq_true rfl⟩) ⟨pw_fb, fun U hU hW => ⟨rfl, pw_to hU hW (hP.sub (ws' := []) [] rfl) (hK.sub (tys' := []) [] rfl) hN⟩⟩ rfl rfl hl.1 rfl (lv_room (Nat.le_of_ble_eq_true rfl)) dX12_paid_74 ⟨Nat.le_of_ble_eq_true rfl, Nat.le_of_ble_eq_true rfl⟩).run (fun r hw => ?_)
            rcases Bool.eq_false_or_eq_true (bw p0 0 9) with b_62 | b_62
            ·
              obtain rfl : r = 1 := b_t hw b_62
              refine lv_if_eq (tgt := 121) hx hb dX12_paid_77 (by decide) (fun c_63 => absurd c_63 (by decide)) (fun c_63 => ?_)
              refine lv_iload hx hb dX12_paid_80 (lv_at hl 1 rfl) ?_
              refine lv_if_eq (tgt := 121) hx hb dX12_paid_82 (by decide) (fun c_64 => ?_) (fun c_64 => absurd (by decide) c_64)
              refine lv_iconst (v := (-1)) hx hb dX12_paid_121 (by decide) ?_
              exact W.iret (v := (-1)) hx hb hr (fun t ht hW => ⟨⟨(-1), u, rfl, (by first | (unfold mPaid; rw [if_pos b_1, if_pos b_3, if_neg (bne b_5), if_neg (bne b_45), if_neg c_61, if_pos b_62]; done) | (unfold mPaid; rw [if_pos b_1, if_pos b_3, if_neg (bne b_5), if_neg (bne b_45), if_neg c_61, if_pos b_62]; rfl) | (simp [mPaid, b_1, b_3, b_5, b_45, b_62, c_61]; done)), by rw [ht]; exact hP, hD⟩, hS.F ht⟩) hS.2.2 dX12_paid_122
            ·
              obtain rfl : r = 0 := b_f hw b_62
              refine lv_if_eq (tgt := 121) hx hb dX12_paid_77 (by decide) (fun c_65 => ?_) (fun c_65 => absurd (by decide) c_65)
              refine lv_iconst (v := (-1)) hx hb dX12_paid_121 (by decide) ?_
              exact W.iret (v := (-1)) hx hb hr (fun t ht hW => ⟨⟨(-1), u, rfl, (by first | (unfold mPaid; rw [if_pos b_1, if_pos b_3, if_neg (bne b_5), if_neg (bne b_45), if_neg c_61, if_neg (bne b_62)]; done) | (unfold mPaid; rw [if_pos b_1, if_pos b_3, if_neg (bne b_5), if_neg (bne b_45), if_neg c_61, if_neg (bne b_62)]; rfl) | (simp [mPaid, b_1, b_3, b_5, b_45, b_62, c_61]; done)), by rw [ht]; exact hP, hD⟩, hS.F ht⟩) hS.2.2 dX12_paid_122
    ·
      obtain rfl : r = 0 := b_f hw b_3
      refine lv_if_eq (tgt := 32) hx hb dX12_paid_14 (by decide) (fun c_66 => ?_) (fun c_66 => absurd (by decide) c_66)
      refine lv_iconst (v := 0) hx hb dX12_paid_32 (by decide) ?_
      refine lv_istore (lv' := [(8, .int 0), (0, .ref h0), (1, .int p0), (2, .int p1), (3, .int p2), (4, .int p3), (5, .int p4), (6, .int p5), (7, .int p6)]) hx hb dX12_paid_33 hl (by decide) rfl (fun ls hl => ?_)
      refine lv_iload hx hb dX12_paid_35 (lv_at hl 6 rfl) ?_
      refine lv_iconst (v := 1) hx hb dX12_paid_37 (by decide) ?_
      refine lv_bipush (v := 8) hx hb dX12_paid_38 (by decide) ?_
      refine vp_callSi (va_runS (As := [.int p4, .int 1, .int 8]) (rest := []) ⟨hx, hb, hml, hown, hts⟩ (m_in l dC dI p4 1 8) (va_cwS 3 hts gX12_paid_X12_in rfl rfl rfl zh_X12_in_0 ⟨Nat.le_of_ble_eq_true rfl, Nat.le_of_ble_eq_true rfl⟩) ⟨pw_fb, fun U hU hW => ⟨rfl, pw_to hU hW (hP.sub (ws' := []) [] rfl) (hK.sub (tys' := []) [] rfl) hN⟩⟩ rfl rfl hl.1 rfl (lv_room (Nat.le_of_ble_eq_true rfl)) dX12_paid_40 ⟨Nat.le_of_ble_eq_true rfl, Nat.le_of_ble_eq_true rfl⟩).run (fun r hw => ?_)
      rcases Bool.eq_false_or_eq_true (bw p4 1 8) with b_67 | b_67
      ·
        obtain rfl : r = 1 := b_t hw b_67
        refine lv_if_eq (tgt := 61) hx hb dX12_paid_43 (by decide) (fun c_68 => absurd c_68 (by decide)) (fun c_68 => ?_)
        refine lv_iload hx hb dX12_paid_46 (lv_at hl 7 rfl) ?_
        refine lv_iconst (v := 1) hx hb dX12_paid_48 (by decide) ?_
        refine lv_bipush (v := 60) hx hb dX12_paid_49 (by decide) ?_
        refine vp_callSi (va_runS (As := [.int p5, .int 1, .int 60]) (rest := []) ⟨hx, hb, hml, hown, hts⟩ (m_in l dC dI p5 1 60) (va_cwS 3 hts gX12_paid_X12_in rfl rfl rfl zh_X12_in_0 ⟨Nat.le_of_ble_eq_true rfl, Nat.le_of_ble_eq_true rfl⟩) ⟨pw_fb, fun U hU hW => ⟨rfl, pw_to hU hW (hP.sub (ws' := []) [] rfl) (hK.sub (tys' := []) [] rfl) hN⟩⟩ rfl rfl hl.1 rfl (lv_room (Nat.le_of_ble_eq_true rfl)) dX12_paid_51 ⟨Nat.le_of_ble_eq_true rfl, Nat.le_of_ble_eq_true rfl⟩).run (fun r hw => ?_)
        rcases Bool.eq_false_or_eq_true (bw p5 1 60) with b_69 | b_69
        ·
          obtain rfl : r = 1 := b_t hw b_69
          refine lv_if_eq (tgt := 61) hx hb dX12_paid_54 (by decide) (fun c_70 => absurd c_70 (by decide)) (fun c_70 => ?_)
          refine lv_iconst (v := 1) hx hb dX12_paid_57 (by decide) ?_
          refine lv_goto (tgt := 62) hx hb dX12_paid_58 (by decide) ?_
          refine lv_istore (lv' := [(9, .int 1), (8, .int 0), (0, .ref h0), (1, .int p0), (2, .int p1), (3, .int p2), (4, .int p3), (5, .int p4), (6, .int p5), (7, .int p6)]) hx hb dX12_paid_62 hl (by decide) rfl (fun ls hl => ?_)
          refine lv_aload_n hx hb dX12_paid_64 rfl (lv_at hl 2 rfl) ?_
          refine va_get (D := (dC, dI)) (ci := 11) (v := .int (u.1 3)) (C := RX12) (T := TX12) (N := 52) hx hb hts zl_X12_paid_X12 hown hK hP 0 rfl rfl 3 (by decide) (hts (.fieldLink RX12 147 "PageOneModel" "items" "I") (zat q_wsX12_paid k_wsX12_paid 885 rfl (by decide +kernel))) (fun _ h9 => h9) rfl dX12_paid_65 ?_
          refine lv_bipush (v := 80) hx hb dX12_paid_68 (by decide) ?_
          refine lv_icmp_eq (tgt := 121) hx hb dX12_paid_70 (by decide) (fun c_71 => ?_) (fun c_71 => ?_)
          ·
            refine lv_iconst (v := (-1)) hx hb dX12_paid_121 (by decide) ?_
            exact W.iret (v := (-1)) hx hb hr (fun t ht hW => ⟨⟨(-1), u, rfl, (by first | (unfold mPaid; rw [if_pos b_1, if_neg (bne b_3), if_pos b_67, if_pos b_69, if_pos c_71]; done) | (unfold mPaid; rw [if_pos b_1, if_neg (bne b_3), if_pos b_67, if_pos b_69, if_pos c_71]; rfl) | (simp [mPaid, b_1, b_3, b_67, b_69, c_71]; done)), by rw [ht]; exact hP, hD⟩, hS.F ht⟩) hS.2.2 dX12_paid_122
          ·
            refine lv_iload_n hx hb dX12_paid_73 rfl (lv_at hl 3 rfl) ?_
            refine vp_callSi (va_runS (As := [.int p0]) (rest := []) ⟨hx, hb, hml, hown, hts⟩ (m_isBuyer l dC dI p0) (va_cwS 1 hts gX12_paid_X12_isBuyer rfl rfl rfl zh_X12_isBuyer_5 ⟨Nat.le_of_ble_eq_true rfl, Nat.le_of_ble_eq_true rfl⟩) ⟨pw_fb, fun U hU hW => ⟨rfl, pw_to hU hW (hP.sub (ws' := []) [] rfl) (hK.sub (tys' := []) [] rfl) hN⟩⟩ rfl rfl hl.1 rfl (lv_room (Nat.le_of_ble_eq_true rfl)) dX12_paid_74 ⟨Nat.le_of_ble_eq_true rfl, Nat.le_of_ble_eq_true rfl⟩).run (fun r hw => ?_)
            rcases Bool.eq_false_or_eq_true (bw p0 0 9) with b_72 | b_72
            ·
              obtain rfl : r = 1 := b_t hw b_72
              refine lv_if_eq (tgt := 121) hx hb dX12_paid_77 (by decide) (fun c_73 => absurd c_73 (by decide)) (fun c_73 => ?_)
              refine lv_iload hx hb dX12_paid_80 (lv_at hl 1 rfl) ?_
              refine lv_if_eq (tgt := 121) hx hb dX12_paid_82 (by decide) (fun c_74 => ?_) (fun c_74 => absurd (by decide) c_74)
              refine lv_iconst (v := (-1)) hx hb dX12_paid_121 (by decide) ?_
              exact W.iret (v := (-1)) hx hb hr (fun t ht hW => ⟨⟨(-1), u, rfl, (by first | (unfold mPaid; rw [if_pos b_1, if_neg (bne b_3), if_pos b_67, if_pos b_69, if_neg c_71, if_pos b_72]; done) | (unfold mPaid; rw [if_pos b_1, if_neg (bne b_3), if_pos b_67, if_pos b_69, if_neg c_71, if_pos b_72]; rfl) | (simp [mPaid, b_1, b_3, b_67, b_69, b_72, c_71]; done)), by rw [ht]; exact hP, hD⟩, hS.F ht⟩) hS.2.2 dX12_paid_122
            ·
              obtain rfl : r = 0 := b_f hw b_72
              refine lv_if_eq (tgt := 121) hx hb dX12_paid_77 (by decide) (fun c_75 => ?_) (fun c_75 => absurd (by decide) c_75)
              refine lv_iconst (v := (-1)) hx hb dX12_paid_121 (by decide) ?_
              exact W.iret (v := (-1)) hx hb hr (fun t ht hW => ⟨⟨(-1), u, rfl, (by first | (unfold mPaid; rw [if_pos b_1, if_neg (bne b_3), if_pos b_67, if_pos b_69, if_neg c_71, if_neg (bne b_72)]; done) | (unfold mPaid; rw [if_pos b_1, if_neg (bne b_3), if_pos b_67, if_pos b_69, if_neg c_71, if_neg (bne b_72)]; rfl) | (simp [mPaid, b_1, b_3, b_67, b_69, b_72, c_71]; done)), by rw [ht]; exact hP, hD⟩, hS.F ht⟩) hS.2.2 dX12_paid_122
        ·
          obtain rfl : r = 0 := b_f hw b_69
          refine lv_if_eq (tgt := 61) hx hb dX12_paid_54 (by decide) (fun c_76 => ?_) (fun c_76 => absurd (by decide) c_76)
          refine lv_iconst (v := 0) hx hb dX12_paid_61 (by decide) ?_
          refine lv_istore (lv' := [(9, .int 0), (8, .int 0), (0, .ref h0), (1, .int p0), (2, .int p1), (3, .int p2), (4, .int p3), (5, .int p4), (6, .int p5), (7, .int p6)]) hx hb dX12_paid_62 hl (by decide) rfl (fun ls hl => ?_)
          refine lv_aload_n hx hb dX12_paid_64 rfl (lv_at hl 2 rfl) ?_
          refine va_get (D := (dC, dI)) (ci := 11) (v := .int (u.1 3)) (C := RX12) (T := TX12) (N := 52) hx hb hts zl_X12_paid_X12 hown hK hP 0 rfl rfl 3 (by decide) (hts (.fieldLink RX12 147 "PageOneModel" "items" "I") (zat q_wsX12_paid k_wsX12_paid 885 rfl (by decide +kernel))) (fun _ h9 => h9) rfl dX12_paid_65 ?_
          refine lv_bipush (v := 80) hx hb dX12_paid_68 (by decide) ?_
          refine lv_icmp_eq (tgt := 121) hx hb dX12_paid_70 (by decide) (fun c_77 => ?_) (fun c_77 => ?_)
          ·
            refine lv_iconst (v := (-1)) hx hb dX12_paid_121 (by decide) ?_
            exact W.iret (v := (-1)) hx hb hr (fun t ht hW => ⟨⟨(-1), u, rfl, (by first | (unfold mPaid; rw [if_pos b_1, if_neg (bne b_3), if_pos b_67, if_neg (bne b_69), if_pos c_77]; done) | (unfold mPaid; rw [if_pos b_1, if_neg (bne b_3), if_pos b_67, if_neg (bne b_69), if_pos c_77]; rfl) | (simp [mPaid, b_1, b_3, b_67, b_69, c_77]; done)), by rw [ht]; exact hP, hD⟩, hS.F ht⟩) hS.2.2 dX12_paid_122
          ·
            refine lv_iload_n hx hb dX12_paid_73 rfl (lv_at hl 3 rfl) ?_
            refine vp_callSi (va_runS (As := [.int p0]) (rest := []) ⟨hx, hb, hml, hown, hts⟩ (m_isBuyer l dC dI p0) (va_cwS 1 hts gX12_paid_X12_isBuyer rfl rfl rfl zh_X12_isBuyer_5 ⟨Nat.le_of_ble_eq_true rfl, Nat.le_of_ble_eq_true rfl⟩) ⟨pw_fb, fun U hU hW => ⟨rfl, pw_to hU hW (hP.sub (ws' := []) [] rfl) (hK.sub (tys' := []) [] rfl) hN⟩⟩ rfl rfl hl.1 rfl (lv_room (Nat.le_of_ble_eq_true rfl)) dX12_paid_74 ⟨Nat.le_of_ble_eq_true rfl, Nat.le_of_ble_eq_true rfl⟩).run (fun r hw => ?_)
            rcases Bool.eq_false_or_eq_true (bw p0 0 9) with b_78 | b_78
            ·
              obtain rfl : r = 1 := b_t hw b_78
              refine lv_if_eq (tgt := 121) hx hb dX12_paid_77 (by decide) (fun c_79 => absurd c_79 (by decide)) (fun c_79 => ?_)
              refine lv_iload hx hb dX12_paid_80 (lv_at hl 1 rfl) ?_
              refine lv_if_eq (tgt := 121) hx hb dX12_paid_82 (by decide) (fun c_80 => ?_) (fun c_80 => absurd (by decide) c_80)
              refine lv_iconst (v := (-1)) hx hb dX12_paid_121 (by decide) ?_
              exact W.iret (v := (-1)) hx hb hr (fun t ht hW => ⟨⟨(-1), u, rfl, (by first | (unfold mPaid; rw [if_pos b_1, if_neg (bne b_3), if_pos b_67, if_neg (bne b_69), if_neg c_77, if_pos b_78]; done) | (unfold mPaid; rw [if_pos b_1, if_neg (bne b_3), if_pos b_67, if_neg (bne b_69), if_neg c_77, if_pos b_78]; rfl) | (simp [mPaid, b_1, b_3, b_67, b_69, b_78, c_77]; done)), by rw [ht]; exact hP, hD⟩, hS.F ht⟩) hS.2.2 dX12_paid_122
            ·
              obtain rfl : r = 0 := b_f hw b_78
              refine lv_if_eq (tgt := 121) hx hb dX12_paid_77 (by decide) (fun c_81 => ?_) (fun c_81 => absurd (by decide) c_81)
              refine lv_iconst (v := (-1)) hx hb dX12_paid_121 (by decide) ?_
              exact W.iret (v := (-1)) hx hb hr (fun t ht hW => ⟨⟨(-1), u, rfl, (by first | (unfold mPaid; rw [if_pos b_1, if_neg (bne b_3), if_pos b_67, if_neg (bne b_69), if_neg c_77, if_neg (bne b_78)]; done) | (unfold mPaid; rw [if_pos b_1, if_neg (bne b_3), if_pos b_67, if_neg (bne b_69), if_neg c_77, if_neg (bne b_78)]; rfl) | (simp [mPaid, b_1, b_3, b_67, b_69, b_78, c_77]; done)), by rw [ht]; exact hP, hD⟩, hS.F ht⟩) hS.2.2 dX12_paid_122
      ·
        obtain rfl : r = 0 := b_f hw b_67
        refine lv_if_eq (tgt := 61) hx hb dX12_paid_43 (by decide) (fun c_82 => ?_) (fun c_82 => absurd (by decide) c_82)
        refine lv_iconst (v := 0) hx hb dX12_paid_61 (by decide) ?_
        refine lv_istore (lv' := [(9, .int 0), (8, .int 0), (0, .ref h0), (1, .int p0), (2, .int p1), (3, .int p2), (4, .int p3), (5, .int p4), (6, .int p5), (7, .int p6)]) hx hb dX12_paid_62 hl (by decide) rfl (fun ls hl => ?_)
        refine lv_aload_n hx hb dX12_paid_64 rfl (lv_at hl 2 rfl) ?_
        refine va_get (D := (dC, dI)) (ci := 11) (v := .int (u.1 3)) (C := RX12) (T := TX12) (N := 52) hx hb hts zl_X12_paid_X12 hown hK hP 0 rfl rfl 3 (by decide) (hts (.fieldLink RX12 147 "PageOneModel" "items" "I") (zat q_wsX12_paid k_wsX12_paid 885 rfl (by decide +kernel))) (fun _ h9 => h9) rfl dX12_paid_65 ?_
        refine lv_bipush (v := 80) hx hb dX12_paid_68 (by decide) ?_
        refine lv_icmp_eq (tgt := 121) hx hb dX12_paid_70 (by decide) (fun c_83 => ?_) (fun c_83 => ?_)
        ·
          refine lv_iconst (v := (-1)) hx hb dX12_paid_121 (by decide) ?_
          exact W.iret (v := (-1)) hx hb hr (fun t ht hW => ⟨⟨(-1), u, rfl, (by first | (unfold mPaid; rw [if_pos b_1, if_neg (bne b_3), if_neg (bne b_67), if_pos c_83]; done) | (unfold mPaid; rw [if_pos b_1, if_neg (bne b_3), if_neg (bne b_67), if_pos c_83]; rfl) | (simp [mPaid, b_1, b_3, b_67, c_83]; done)), by rw [ht]; exact hP, hD⟩, hS.F ht⟩) hS.2.2 dX12_paid_122
        ·
          refine lv_iload_n hx hb dX12_paid_73 rfl (lv_at hl 3 rfl) ?_
          refine vp_callSi (va_runS (As := [.int p0]) (rest := []) ⟨hx, hb, hml, hown, hts⟩ (m_isBuyer l dC dI p0) (va_cwS 1 hts gX12_paid_X12_isBuyer rfl rfl rfl zh_X12_isBuyer_5 ⟨Nat.le_of_ble_eq_true rfl, Nat.le_of_ble_eq_true rfl⟩) ⟨pw_fb, fun U hU hW => ⟨rfl, pw_to hU hW (hP.sub (ws' := []) [] rfl) (hK.sub (tys' := []) [] rfl) hN⟩⟩ rfl rfl hl.1 rfl (lv_room (Nat.le_of_ble_eq_true rfl)) dX12_paid_74 ⟨Nat.le_of_ble_eq_true rfl, Nat.le_of_ble_eq_true rfl⟩).run (fun r hw => ?_)
          rcases Bool.eq_false_or_eq_true (bw p0 0 9) with b_84 | b_84
          ·
            obtain rfl : r = 1 := b_t hw b_84
            refine lv_if_eq (tgt := 121) hx hb dX12_paid_77 (by decide) (fun c_85 => absurd c_85 (by decide)) (fun c_85 => ?_)
            refine lv_iload hx hb dX12_paid_80 (lv_at hl 1 rfl) ?_
            refine lv_if_eq (tgt := 121) hx hb dX12_paid_82 (by decide) (fun c_86 => ?_) (fun c_86 => absurd (by decide) c_86)
            refine lv_iconst (v := (-1)) hx hb dX12_paid_121 (by decide) ?_
            exact W.iret (v := (-1)) hx hb hr (fun t ht hW => ⟨⟨(-1), u, rfl, (by first | (unfold mPaid; rw [if_pos b_1, if_neg (bne b_3), if_neg (bne b_67), if_neg c_83, if_pos b_84]; done) | (unfold mPaid; rw [if_pos b_1, if_neg (bne b_3), if_neg (bne b_67), if_neg c_83, if_pos b_84]; rfl) | (simp [mPaid, b_1, b_3, b_67, b_84, c_83]; done)), by rw [ht]; exact hP, hD⟩, hS.F ht⟩) hS.2.2 dX12_paid_122
          ·
            obtain rfl : r = 0 := b_f hw b_84
            refine lv_if_eq (tgt := 121) hx hb dX12_paid_77 (by decide) (fun c_87 => ?_) (fun c_87 => absurd (by decide) c_87)
            refine lv_iconst (v := (-1)) hx hb dX12_paid_121 (by decide) ?_
            exact W.iret (v := (-1)) hx hb hr (fun t ht hW => ⟨⟨(-1), u, rfl, (by first | (unfold mPaid; rw [if_pos b_1, if_neg (bne b_3), if_neg (bne b_67), if_neg c_83, if_neg (bne b_84)]; done) | (unfold mPaid; rw [if_pos b_1, if_neg (bne b_3), if_neg (bne b_67), if_neg c_83, if_neg (bne b_84)]; rfl) | (simp [mPaid, b_1, b_3, b_67, b_84, c_83]; done)), by rw [ht]; exact hP, hD⟩, hS.F ht⟩) hS.2.2 dX12_paid_122
  ·
    obtain rfl : r = 0 := b_f hw b_1
    refine lv_if_eq (tgt := 32) hx hb dX12_paid_4 (by decide) (fun c_88 => ?_) (fun c_88 => absurd (by decide) c_88)
    refine lv_iconst (v := 0) hx hb dX12_paid_32 (by decide) ?_
    refine lv_istore (lv' := [(8, .int 0), (0, .ref h0), (1, .int p0), (2, .int p1), (3, .int p2), (4, .int p3), (5, .int p4), (6, .int p5), (7, .int p6)]) hx hb dX12_paid_33 hl (by decide) rfl (fun ls hl => ?_)
    refine lv_iload hx hb dX12_paid_35 (lv_at hl 6 rfl) ?_
    refine lv_iconst (v := 1) hx hb dX12_paid_37 (by decide) ?_
    refine lv_bipush (v := 8) hx hb dX12_paid_38 (by decide) ?_
    refine vp_callSi (va_runS (As := [.int p4, .int 1, .int 8]) (rest := []) ⟨hx, hb, hml, hown, hts⟩ (m_in l dC dI p4 1 8) (va_cwS 3 hts gX12_paid_X12_in rfl rfl rfl zh_X12_in_0 ⟨Nat.le_of_ble_eq_true rfl, Nat.le_of_ble_eq_true rfl⟩) ⟨pw_fb, fun U hU hW => ⟨rfl, pw_to hU hW (hP.sub (ws' := []) [] rfl) (hK.sub (tys' := []) [] rfl) hN⟩⟩ rfl rfl hl.1 rfl (lv_room (Nat.le_of_ble_eq_true rfl)) dX12_paid_40 ⟨Nat.le_of_ble_eq_true rfl, Nat.le_of_ble_eq_true rfl⟩).run (fun r hw => ?_)
    rcases Bool.eq_false_or_eq_true (bw p4 1 8) with b_89 | b_89
    ·
      obtain rfl : r = 1 := b_t hw b_89
      refine lv_if_eq (tgt := 61) hx hb dX12_paid_43 (by decide) (fun c_90 => absurd c_90 (by decide)) (fun c_90 => ?_)
      refine lv_iload hx hb dX12_paid_46 (lv_at hl 7 rfl) ?_
      refine lv_iconst (v := 1) hx hb dX12_paid_48 (by decide) ?_
      refine lv_bipush (v := 60) hx hb dX12_paid_49 (by decide) ?_
      refine vp_callSi (va_runS (As := [.int p5, .int 1, .int 60]) (rest := []) ⟨hx, hb, hml, hown, hts⟩ (m_in l dC dI p5 1 60) (va_cwS 3 hts gX12_paid_X12_in rfl rfl rfl zh_X12_in_0 ⟨Nat.le_of_ble_eq_true rfl, Nat.le_of_ble_eq_true rfl⟩) ⟨pw_fb, fun U hU hW => ⟨rfl, pw_to hU hW (hP.sub (ws' := []) [] rfl) (hK.sub (tys' := []) [] rfl) hN⟩⟩ rfl rfl hl.1 rfl (lv_room (Nat.le_of_ble_eq_true rfl)) dX12_paid_51 ⟨Nat.le_of_ble_eq_true rfl, Nat.le_of_ble_eq_true rfl⟩).run (fun r hw => ?_)
      rcases Bool.eq_false_or_eq_true (bw p5 1 60) with b_91 | b_91
      ·
        obtain rfl : r = 1 := b_t hw b_91
        refine lv_if_eq (tgt := 61) hx hb dX12_paid_54 (by decide) (fun c_92 => absurd c_92 (by decide)) (fun c_92 => ?_)
        refine lv_iconst (v := 1) hx hb dX12_paid_57 (by decide) ?_
        refine lv_goto (tgt := 62) hx hb dX12_paid_58 (by decide) ?_
        refine lv_istore (lv' := [(9, .int 1), (8, .int 0), (0, .ref h0), (1, .int p0), (2, .int p1), (3, .int p2), (4, .int p3), (5, .int p4), (6, .int p5), (7, .int p6)]) hx hb dX12_paid_62 hl (by decide) rfl (fun ls hl => ?_)
        refine lv_aload_n hx hb dX12_paid_64 rfl (lv_at hl 2 rfl) ?_
        refine va_get (D := (dC, dI)) (ci := 11) (v := .int (u.1 3)) (C := RX12) (T := TX12) (N := 52) hx hb hts zl_X12_paid_X12 hown hK hP 0 rfl rfl 3 (by decide) (hts (.fieldLink RX12 147 "PageOneModel" "items" "I") (zat q_wsX12_paid k_wsX12_paid 885 rfl (by decide +kernel))) (fun _ h9 => h9) rfl dX12_paid_65 ?_
        refine lv_bipush (v := 80) hx hb dX12_paid_68 (by decide) ?_
        refine lv_icmp_eq (tgt := 121) hx hb dX12_paid_70 (by decide) (fun c_93 => ?_) (fun c_93 => ?_)
        ·
          refine lv_iconst (v := (-1)) hx hb dX12_paid_121 (by decide) ?_
          exact W.iret (v := (-1)) hx hb hr (fun t ht hW => ⟨⟨(-1), u, rfl, (by first | (unfold mPaid; rw [if_neg (bne b_1), if_pos b_89, if_pos b_91, if_pos c_93]; done) | (unfold mPaid; rw [if_neg (bne b_1), if_pos b_89, if_pos b_91, if_pos c_93]; rfl) | (simp [mPaid, b_1, b_89, b_91, c_93]; done)), by rw [ht]; exact hP, hD⟩, hS.F ht⟩) hS.2.2 dX12_paid_122
        ·
          refine lv_iload_n hx hb dX12_paid_73 rfl (lv_at hl 3 rfl) ?_
          refine vp_callSi (va_runS (As := [.int p0]) (rest := []) ⟨hx, hb, hml, hown, hts⟩ (m_isBuyer l dC dI p0) (va_cwS 1 hts gX12_paid_X12_isBuyer rfl rfl rfl zh_X12_isBuyer_5 ⟨Nat.le_of_ble_eq_true rfl, Nat.le_of_ble_eq_true rfl⟩) ⟨pw_fb, fun U hU hW => ⟨rfl, pw_to hU hW (hP.sub (ws' := []) [] rfl) (hK.sub (tys' := []) [] rfl) hN⟩⟩ rfl rfl hl.1 rfl (lv_room (Nat.le_of_ble_eq_true rfl)) dX12_paid_74 ⟨Nat.le_of_ble_eq_true rfl, Nat.le_of_ble_eq_true rfl⟩).run (fun r hw => ?_)
          rcases Bool.eq_false_or_eq_true (bw p0 0 9) with b_94 | b_94
          ·
            obtain rfl : r = 1 := b_t hw b_94
            refine lv_if_eq (tgt := 121) hx hb dX12_paid_77 (by decide) (fun c_95 => absurd c_95 (by decide)) (fun c_95 => ?_)
            refine lv_iload hx hb dX12_paid_80 (lv_at hl 1 rfl) ?_
            refine lv_if_eq (tgt := 121) hx hb dX12_paid_82 (by decide) (fun c_96 => ?_) (fun c_96 => absurd (by decide) c_96)
            refine lv_iconst (v := (-1)) hx hb dX12_paid_121 (by decide) ?_
            exact W.iret (v := (-1)) hx hb hr (fun t ht hW => ⟨⟨(-1), u, rfl, (by first | (unfold mPaid; rw [if_neg (bne b_1), if_pos b_89, if_pos b_91, if_neg c_93, if_pos b_94]; done) | (unfold mPaid; rw [if_neg (bne b_1), if_pos b_89, if_pos b_91, if_neg c_93, if_pos b_94]; rfl) | (simp [mPaid, b_1, b_89, b_91, b_94, c_93]; done)), by rw [ht]; exact hP, hD⟩, hS.F ht⟩) hS.2.2 dX12_paid_122
          ·
            obtain rfl : r = 0 := b_f hw b_94
            refine lv_if_eq (tgt := 121) hx hb dX12_paid_77 (by decide) (fun c_97 => ?_) (fun c_97 => absurd (by decide) c_97)
            refine lv_iconst (v := (-1)) hx hb dX12_paid_121 (by decide) ?_
            exact W.iret (v := (-1)) hx hb hr (fun t ht hW => ⟨⟨(-1), u, rfl, (by first | (unfold mPaid; rw [if_neg (bne b_1), if_pos b_89, if_pos b_91, if_neg c_93, if_neg (bne b_94)]; done) | (unfold mPaid; rw [if_neg (bne b_1), if_pos b_89, if_pos b_91, if_neg c_93, if_neg (bne b_94)]; rfl) | (simp [mPaid, b_1, b_89, b_91, b_94, c_93]; done)), by rw [ht]; exact hP, hD⟩, hS.F ht⟩) hS.2.2 dX12_paid_122
      ·
        obtain rfl : r = 0 := b_f hw b_91
        refine lv_if_eq (tgt := 61) hx hb dX12_paid_54 (by decide) (fun c_98 => ?_) (fun c_98 => absurd (by decide) c_98)
        refine lv_iconst (v := 0) hx hb dX12_paid_61 (by decide) ?_
        refine lv_istore (lv' := [(9, .int 0), (8, .int 0), (0, .ref h0), (1, .int p0), (2, .int p1), (3, .int p2), (4, .int p3), (5, .int p4), (6, .int p5), (7, .int p6)]) hx hb dX12_paid_62 hl (by decide) rfl (fun ls hl => ?_)
        refine lv_aload_n hx hb dX12_paid_64 rfl (lv_at hl 2 rfl) ?_
        refine va_get (D := (dC, dI)) (ci := 11) (v := .int (u.1 3)) (C := RX12) (T := TX12) (N := 52) hx hb hts zl_X12_paid_X12 hown hK hP 0 rfl rfl 3 (by decide) (hts (.fieldLink RX12 147 "PageOneModel" "items" "I") (zat q_wsX12_paid k_wsX12_paid 885 rfl (by decide +kernel))) (fun _ h9 => h9) rfl dX12_paid_65 ?_
        refine lv_bipush (v := 80) hx hb dX12_paid_68 (by decide) ?_
        refine lv_icmp_eq (tgt := 121) hx hb dX12_paid_70 (by decide) (fun c_99 => ?_) (fun c_99 => ?_)
        ·
          refine lv_iconst (v := (-1)) hx hb dX12_paid_121 (by decide) ?_
          exact W.iret (v := (-1)) hx hb hr (fun t ht hW => ⟨⟨(-1), u, rfl, (by first | (unfold mPaid; rw [if_neg (bne b_1), if_pos b_89, if_neg (bne b_91), if_pos c_99]; done) | (unfold mPaid; rw [if_neg (bne b_1), if_pos b_89, if_neg (bne b_91), if_pos c_99]; rfl) | (simp [mPaid, b_1, b_89, b_91, c_99]; done)), by rw [ht]; exact hP, hD⟩, hS.F ht⟩) hS.2.2 dX12_paid_122
        ·
          refine lv_iload_n hx hb dX12_paid_73 rfl (lv_at hl 3 rfl) ?_
          refine vp_callSi (va_runS (As := [.int p0]) (rest := []) ⟨hx, hb, hml, hown, hts⟩ (m_isBuyer l dC dI p0) (va_cwS 1 hts gX12_paid_X12_isBuyer rfl rfl rfl zh_X12_isBuyer_5 ⟨Nat.le_of_ble_eq_true rfl, Nat.le_of_ble_eq_true rfl⟩) ⟨pw_fb, fun U hU hW => ⟨rfl, pw_to hU hW (hP.sub (ws' := []) [] rfl) (hK.sub (tys' := []) [] rfl) hN⟩⟩ rfl rfl hl.1 rfl (lv_room (Nat.le_of_ble_eq_true rfl)) dX12_paid_74 ⟨Nat.le_of_ble_eq_true rfl, Nat.le_of_ble_eq_true rfl⟩).run (fun r hw => ?_)
          rcases Bool.eq_false_or_eq_true (bw p0 0 9) with b_100 | b_100
          ·
            obtain rfl : r = 1 := b_t hw b_100
            refine lv_if_eq (tgt := 121) hx hb dX12_paid_77 (by decide) (fun c_101 => absurd c_101 (by decide)) (fun c_101 => ?_)
            refine lv_iload hx hb dX12_paid_80 (lv_at hl 1 rfl) ?_
            refine lv_if_eq (tgt := 121) hx hb dX12_paid_82 (by decide) (fun c_102 => ?_) (fun c_102 => absurd (by decide) c_102)
            refine lv_iconst (v := (-1)) hx hb dX12_paid_121 (by decide) ?_
            exact W.iret (v := (-1)) hx hb hr (fun t ht hW => ⟨⟨(-1), u, rfl, (by first | (unfold mPaid; rw [if_neg (bne b_1), if_pos b_89, if_neg (bne b_91), if_neg c_99, if_pos b_100]; done) | (unfold mPaid; rw [if_neg (bne b_1), if_pos b_89, if_neg (bne b_91), if_neg c_99, if_pos b_100]; rfl) | (simp [mPaid, b_1, b_89, b_91, b_100, c_99]; done)), by rw [ht]; exact hP, hD⟩, hS.F ht⟩) hS.2.2 dX12_paid_122
          ·
            obtain rfl : r = 0 := b_f hw b_100
            refine lv_if_eq (tgt := 121) hx hb dX12_paid_77 (by decide) (fun c_103 => ?_) (fun c_103 => absurd (by decide) c_103)
            refine lv_iconst (v := (-1)) hx hb dX12_paid_121 (by decide) ?_
            exact W.iret (v := (-1)) hx hb hr (fun t ht hW => ⟨⟨(-1), u, rfl, (by first | (unfold mPaid; rw [if_neg (bne b_1), if_pos b_89, if_neg (bne b_91), if_neg c_99, if_neg (bne b_100)]; done) | (unfold mPaid; rw [if_neg (bne b_1), if_pos b_89, if_neg (bne b_91), if_neg c_99, if_neg (bne b_100)]; rfl) | (simp [mPaid, b_1, b_89, b_91, b_100, c_99]; done)), by rw [ht]; exact hP, hD⟩, hS.F ht⟩) hS.2.2 dX12_paid_122
    ·
      obtain rfl : r = 0 := b_f hw b_89
      refine lv_if_eq (tgt := 61) hx hb dX12_paid_43 (by decide) (fun c_104 => ?_) (fun c_104 => absurd (by decide) c_104)
      refine lv_iconst (v := 0) hx hb dX12_paid_61 (by decide) ?_
      refine lv_istore (lv' := [(9, .int 0), (8, .int 0), (0, .ref h0), (1, .int p0), (2, .int p1), (3, .int p2), (4, .int p3), (5, .int p4), (6, .int p5), (7, .int p6)]) hx hb dX12_paid_62 hl (by decide) rfl (fun ls hl => ?_)
      refine lv_aload_n hx hb dX12_paid_64 rfl (lv_at hl 2 rfl) ?_
      refine va_get (D := (dC, dI)) (ci := 11) (v := .int (u.1 3)) (C := RX12) (T := TX12) (N := 52) hx hb hts zl_X12_paid_X12 hown hK hP 0 rfl rfl 3 (by decide) (hts (.fieldLink RX12 147 "PageOneModel" "items" "I") (zat q_wsX12_paid k_wsX12_paid 885 rfl (by decide +kernel))) (fun _ h9 => h9) rfl dX12_paid_65 ?_
      refine lv_bipush (v := 80) hx hb dX12_paid_68 (by decide) ?_
      refine lv_icmp_eq (tgt := 121) hx hb dX12_paid_70 (by decide) (fun c_105 => ?_) (fun c_105 => ?_)
      ·
        refine lv_iconst (v := (-1)) hx hb dX12_paid_121 (by decide) ?_
        exact W.iret (v := (-1)) hx hb hr (fun t ht hW => ⟨⟨(-1), u, rfl, (by first | (unfold mPaid; rw [if_neg (bne b_1), if_neg (bne b_89), if_pos c_105]; done) | (unfold mPaid; rw [if_neg (bne b_1), if_neg (bne b_89), if_pos c_105]; rfl) | (simp [mPaid, b_1, b_89, c_105]; done)), by rw [ht]; exact hP, hD⟩, hS.F ht⟩) hS.2.2 dX12_paid_122
      ·
        refine lv_iload_n hx hb dX12_paid_73 rfl (lv_at hl 3 rfl) ?_
        refine vp_callSi (va_runS (As := [.int p0]) (rest := []) ⟨hx, hb, hml, hown, hts⟩ (m_isBuyer l dC dI p0) (va_cwS 1 hts gX12_paid_X12_isBuyer rfl rfl rfl zh_X12_isBuyer_5 ⟨Nat.le_of_ble_eq_true rfl, Nat.le_of_ble_eq_true rfl⟩) ⟨pw_fb, fun U hU hW => ⟨rfl, pw_to hU hW (hP.sub (ws' := []) [] rfl) (hK.sub (tys' := []) [] rfl) hN⟩⟩ rfl rfl hl.1 rfl (lv_room (Nat.le_of_ble_eq_true rfl)) dX12_paid_74 ⟨Nat.le_of_ble_eq_true rfl, Nat.le_of_ble_eq_true rfl⟩).run (fun r hw => ?_)
        rcases Bool.eq_false_or_eq_true (bw p0 0 9) with b_106 | b_106
        ·
          obtain rfl : r = 1 := b_t hw b_106
          refine lv_if_eq (tgt := 121) hx hb dX12_paid_77 (by decide) (fun c_107 => absurd c_107 (by decide)) (fun c_107 => ?_)
          refine lv_iload hx hb dX12_paid_80 (lv_at hl 1 rfl) ?_
          refine lv_if_eq (tgt := 121) hx hb dX12_paid_82 (by decide) (fun c_108 => ?_) (fun c_108 => absurd (by decide) c_108)
          refine lv_iconst (v := (-1)) hx hb dX12_paid_121 (by decide) ?_
          exact W.iret (v := (-1)) hx hb hr (fun t ht hW => ⟨⟨(-1), u, rfl, (by first | (unfold mPaid; rw [if_neg (bne b_1), if_neg (bne b_89), if_neg c_105, if_pos b_106]; done) | (unfold mPaid; rw [if_neg (bne b_1), if_neg (bne b_89), if_neg c_105, if_pos b_106]; rfl) | (simp [mPaid, b_1, b_89, b_106, c_105]; done)), by rw [ht]; exact hP, hD⟩, hS.F ht⟩) hS.2.2 dX12_paid_122
        ·
          obtain rfl : r = 0 := b_f hw b_106
          refine lv_if_eq (tgt := 121) hx hb dX12_paid_77 (by decide) (fun c_109 => ?_) (fun c_109 => absurd (by decide) c_109)
          refine lv_iconst (v := (-1)) hx hb dX12_paid_121 (by decide) ?_
          exact W.iret (v := (-1)) hx hb hr (fun t ht hW => ⟨⟨(-1), u, rfl, (by first | (unfold mPaid; rw [if_neg (bne b_1), if_neg (bne b_89), if_neg c_105, if_neg (bne b_106)]; done) | (unfold mPaid; rw [if_neg (bne b_1), if_neg (bne b_89), if_neg c_105, if_neg (bne b_106)]; rfl) | (simp [mPaid, b_1, b_89, b_106, c_105]; done)), by rw [ht]; exact hP, hD⟩, hS.F ht⟩) hS.2.2 dX12_paid_122
set_option maxHeartbeats 4000000 in
set_option maxRecDepth 100000 in
theorem m_line (l : Launch) (dC : Nat → ClassId) (dI : Nat → Nat → Nat) (h0 : Nat) (v : Nat → Nat) (cI cZ : ClassId) (u : mS) (p0 p1 : Int32) (hn : bw (u.1 3) 0 80 = true) (hc : ∀ j, j < 80 → bw (u.2 15 j) 0 80 = true) (sz : Nat) : Met l yX12_line wsX12_line ({ frames := 3, cells := 0, slots := 0, locals := 65 }) (va_Pc [.ref h0, .int p0, .int p1] (fun U => U.heap.size = sz ∧ PW dC dI (mW h0 v cI cZ u) [(cI, .int), (cZ, .boolean)] U ∧ va_D (fun _ => True) (mW h0 v cI cZ u))) (va_Qi (fun (r : Int32) (u9 : mS) => (r, u9) = mLine u p0 p1) (fun u9 t => va_P (dC, dI) vwCl (mW h0 v cI cZ u9) t.heap ∧ va_D (va_A (mW h0 v cI cZ u) sz) (mW h0 v cI cZ u9)) (va_A (mW h0 v cI cZ u) sz)) 0 0 (va_A (mW h0 v cI cZ u) sz) := by
  refine Met.ofW (cc := cX12_line) (maxL := 3) (ret := (some .int)) (by decide) rfl ?_
  intro p e s m args below meth c s₁ B hml hv
  obtain ⟨rfl, hsz, ⟨hP, hK, hN⟩, hD0⟩ := hv
  have hx := B.exec
  have hb := B.bytes
  have hr := B.returns
  have hts := atoms_spec (ws := wsX12_line) B.pre
  have hown : s.vm.findClass RX12 = some m.cls := findClass_of_methodNamed B.named
  have hlocks := B.notSynchronized
  subst hsz
  have hD := hD0.self (sz := s.heap.size)
  generalize hAe : va_A (mW h0 v cI cZ u) s.heap.size = A at hD ⊢
  have hA : ∀ q : Nat, s.heap.size ≤ q → A q := fun q h => by rw [← hAe]; exact Or.inr h
  have hS : va_S A s.heap s.heap [] := va_S.rf
  have hl := lv_entry ([.ref h0, .int p0, .int p1]) (n := 3) (Nat.le_of_ble_eq_true rfl)
  rw [lg_entry_eq]
  generalize (lg_sl ([.ref h0, .int p0, .int p1]) ++ List.replicate (3 - (lg_sl ([.ref h0, .int p0, .int p1])).length) Slot.unset).toArray = ls at hl ⊢
  have hl : lv_has ls 3 [(0, .ref h0), (1, .int p0), (2, .int p1)] := hl
  refine lv_aload_n hx hb dX12_line_0 rfl (lv_at hl 0 rfl) ?_
  refine lv_iload_n hx hb dX12_line_1 rfl (lv_at hl 1 rfl) ?_
  refine lv_iconst (v := 0) hx hb dX12_line_2 (by decide) ?_
  refine vp_callSi (va_runV (As := [.int p0, .int 0]) (rest := []) ⟨hx, hb, hml, hown, hts⟩ (m_isKind l dC dI h0 v cI cZ u p0 0 hn) (cwV 2 hts gX12_line_X12_isKind rfl rfl rfl zh_X12_isKind_3 ⟨Nat.le_of_ble_eq_true rfl, Nat.le_of_ble_eq_true rfl⟩) ⟨pw_fb, va_recv hK hP (ci := 11) (q0 := 0) rfl rfl, fun U hU hW => ⟨rfl, pw_to hU hW hP hK hN⟩⟩ rfl rfl hl.1 rfl (lv_room (Nat.le_of_ble_eq_true rfl)) dX12_line_3 ⟨Nat.le_of_ble_eq_true rfl, Nat.le_of_ble_eq_true rfl⟩).run (fun r hw => ?_)
  rcases Bool.eq_false_or_eq_true (mKind u p0 0) with b_1 | b_1
  ·
    obtain rfl : r = 1 := b_t hw b_1
    obtain ⟨b_2, d_3⟩ := band b_1
    refine lv_if_eq (tgt := 31) hx hb dX12_line_6 (by decide) (fun c_4 => absurd c_4 (by decide)) (fun c_4 => ?_)
    refine lv_iload_n hx hb dX12_line_9 rfl (lv_at hl 2 rfl) ?_
    refine lv_iconst (v := 1) hx hb dX12_line_10 (by decide) ?_
    refine lv_sipush (v := 200) hx hb dX12_line_11 (by decide) ?_
    refine vp_callSi (va_runS (As := [.int p1, .int 1, .int 200]) (rest := []) ⟨hx, hb, hml, hown, hts⟩ (m_in l dC dI p1 1 200) (va_cwS 3 hts gX12_line_X12_in rfl rfl rfl zh_X12_in_0 ⟨Nat.le_of_ble_eq_true rfl, Nat.le_of_ble_eq_true rfl⟩) ⟨pw_fb, fun U hU hW => ⟨rfl, pw_to hU hW (hP.sub (ws' := []) [] rfl) (hK.sub (tys' := []) [] rfl) hN⟩⟩ rfl rfl hl.1 rfl (lv_room (Nat.le_of_ble_eq_true rfl)) dX12_line_14 ⟨Nat.le_of_ble_eq_true rfl, Nat.le_of_ble_eq_true rfl⟩).run (fun r hw => ?_)
    rcases Bool.eq_false_or_eq_true (bw p1 1 200) with b_5 | b_5
    ·
      obtain rfl : r = 1 := b_t hw b_5
      refine lv_if_eq (tgt := 31) hx hb dX12_line_17 (by decide) (fun c_6 => absurd c_6 (by decide)) (fun c_6 => ?_)
      refine lv_aload_n hx hb dX12_line_20 rfl (lv_at hl 0 rfl) ?_
      refine va_get (D := (dC, dI)) (ci := 11) (v := .ref (v 15)) (C := RX12) (T := TX12) (N := 52) hx hb hts zl_X12_line_X12 hown hK hP 0 rfl rfl 15 (by decide) (hts (.fieldLink RX12 52 "PageOneModel" "come" "[I") (zat q_wsX12_line k_wsX12_line 897 rfl (by decide +kernel))) (fun _ h9 => h9) rfl dX12_line_21 ?_
      refine lv_iload_n hx hb dX12_line_24 rfl (lv_at hl 1 rfl) ?_
      refine va_iald hx hb hK hP 15 0 rfl rfl (vIt hn b_2) dX12_line_25 ?_
      refine lv_bipush (v := 80) hx hb dX12_line_26 (by decide) ?_
      refine lv_icmp_ne (tgt := 33) hx hb dX12_line_28 (by decide) (fun c_7 => ?_) (fun c_7 => ?_)
      ·
        refine lv_aload_n hx hb dX12_line_33 rfl (lv_at hl 0 rfl) ?_
        refine va_get (D := (dC, dI)) (ci := 11) (v := .ref (v 16)) (C := RX12) (T := TX12) (N := 52) hx hb hts zl_X12_line_X12 hown hK hP 0 rfl rfl 16 (by decide) (hts (.fieldLink RX12 55 "PageOneModel" "width" "[I") (zat q_wsX12_line k_wsX12_line 898 rfl (by decide +kernel))) (fun _ h9 => h9) rfl dX12_line_34 ?_
        refine lv_bipush (v := 80) hx hb dX12_line_37 (by decide) ?_
        refine lv_iload_n hx hb dX12_line_39 rfl (lv_at hl 1 rfl) ?_
        refine lv_imul hx hb dX12_line_40 ?_
        refine lv_aload_n hx hb dX12_line_41 rfl (lv_at hl 0 rfl) ?_
        refine va_get (D := (dC, dI)) (ci := 11) (v := .ref (v 15)) (C := RX12) (T := TX12) (N := 52) hx hb hts zl_X12_line_X12 hown hK hP 0 rfl rfl 15 (by decide) (hts (.fieldLink RX12 52 "PageOneModel" "come" "[I") (zat q_wsX12_line k_wsX12_line 897 rfl (by decide +kernel))) (fun _ h9 => h9) rfl dX12_line_42 ?_
        refine lv_iload_n hx hb dX12_line_45 rfl (lv_at hl 1 rfl) ?_
        refine va_iald hx hb hK hP 15 0 rfl rfl (vIt hn b_2) dX12_line_46 ?_
        refine lv_iadd hx hb dX12_line_47 ?_
        refine lv_iload_n hx hb dX12_line_48 rfl (lv_at hl 2 rfl) ?_
        refine va_iast hx hb hK hP hD hS 16 0 rfl rfl (vLine hn b_2 (hc p0.toNatClampNeg (vlt (vIt hn b_2))) c_7) dX12_line_49 (fun H locs hP hD hS => ?_)
        obtain ⟨u_8, eu_8⟩ : ∃ zz : mS, zz = mst u 16 ((80 * p0) + (u.2 15 (p0 : Int32).toNatClampNeg)) p1 := ⟨_, rfl⟩
        have hP : va_P (dC, dI) vwCl (mW h0 v cI cZ u_8) H := by rw [eu_8]; exact hP
        have hD : va_D A (mW h0 v cI cZ u_8) := by rw [eu_8]; exact hD
        refine lv_aload_n hx hb dX12_line_50 rfl (lv_at hl 0 rfl) ?_
        refine va_get (D := (dC, dI)) (ci := 11) (v := .ref (v 15)) (C := RX12) (T := TX12) (N := 52) hx hb hts zl_X12_line_X12 hown hK hP 0 rfl rfl 15 (by decide) (hts (.fieldLink RX12 52 "PageOneModel" "come" "[I") (zat q_wsX12_line k_wsX12_line 897 rfl (by decide +kernel))) (fun _ h9 => h9) rfl dX12_line_51 ?_
        refine lv_iload_n hx hb dX12_line_54 rfl (lv_at hl 1 rfl) ?_
        refine lv_dup2_11 hx hb dX12_line_55 rfl rfl ?_
        refine va_iald hx hb hK hP 15 0 rfl rfl (vIt hn b_2) dX12_line_56 ?_
        refine lv_iconst (v := 1) hx hb dX12_line_57 (by decide) ?_
        refine lv_iadd hx hb dX12_line_58 ?_
        refine va_iast hx hb hK hP hD hS 15 0 rfl rfl (vIt hn b_2) dX12_line_59 (fun H locs hP hD hS => ?_)
        obtain ⟨u_9, eu_9⟩ : ∃ zz : mS, zz = mst u_8 15 p0 ((u_8.2 15 (p0 : Int32).toNatClampNeg) + 1) := ⟨_, rfl⟩
        have hP : va_P (dC, dI) vwCl (mW h0 v cI cZ u_9) H := by rw [eu_9]; exact hP
        have hD : va_D A (mW h0 v cI cZ u_9) := by rw [eu_9]; exact hD
        refine lv_aload_n hx hb dX12_line_60 rfl (lv_at hl 0 rfl) ?_
        refine va_get (D := (dC, dI)) (ci := 11) (v := .ref (v 15)) (C := RX12) (T := TX12) (N := 52) hx hb hts zl_X12_line_X12 hown hK hP 0 rfl rfl 15 (by decide) (hts (.fieldLink RX12 52 "PageOneModel" "come" "[I") (zat q_wsX12_line k_wsX12_line 897 rfl (by decide +kernel))) (fun _ h9 => h9) rfl dX12_line_61 ?_
        refine lv_iload_n hx hb dX12_line_64 rfl (lv_at hl 1 rfl) ?_
        refine va_iald hx hb hK hP 15 0 rfl rfl (vIt hn b_2) dX12_line_65 ?_
        exact W.iret (v := (u_9.2 15 (p0 : Int32).toNatClampNeg)) hx hb hr (fun t ht hW => ⟨⟨(u_9.2 15 (p0 : Int32).toNatClampNeg), u_9, rfl, (by subst eu_8 eu_9; first | (unfold mLine; rw [if_pos b_1, if_pos b_5, if_neg c_7]; done) | (unfold mLine; rw [if_pos b_1, if_pos b_5, if_neg c_7]; rfl) | (simp [mLine, b_1, b_2, b_5, c_7]; done)), by rw [ht]; exact hP, hD⟩, hS.F ht⟩) hS.2.2 dX12_line_66
      ·
        refine lv_iconst (v := (-1)) hx hb dX12_line_31 (by decide) ?_
        exact W.iret (v := (-1)) hx hb hr (fun t ht hW => ⟨⟨(-1), u, rfl, (by first | (unfold mLine; rw [if_pos b_1, if_pos b_5, if_pos c_7]; done) | (unfold mLine; rw [if_pos b_1, if_pos b_5, if_pos c_7]; rfl) | (simp [mLine, b_1, b_2, b_5, c_7]; done)), by rw [ht]; exact hP, hD⟩, hS.F ht⟩) hS.2.2 dX12_line_32
    ·
      obtain rfl : r = 0 := b_f hw b_5
      refine lv_if_eq (tgt := 31) hx hb dX12_line_17 (by decide) (fun c_10 => ?_) (fun c_10 => absurd (by decide) c_10)
      refine lv_iconst (v := (-1)) hx hb dX12_line_31 (by decide) ?_
      exact W.iret (v := (-1)) hx hb hr (fun t ht hW => ⟨⟨(-1), u, rfl, (by first | (unfold mLine; rw [if_pos b_1, if_neg (bne b_5)]; done) | (unfold mLine; rw [if_pos b_1, if_neg (bne b_5)]; rfl) | (simp [mLine, b_1, b_2, b_5]; done)), by rw [ht]; exact hP, hD⟩, hS.F ht⟩) hS.2.2 dX12_line_32
  ·
    obtain rfl : r = 0 := b_f hw b_1
    refine lv_if_eq (tgt := 31) hx hb dX12_line_6 (by decide) (fun c_11 => ?_) (fun c_11 => absurd (by decide) c_11)
    refine lv_iconst (v := (-1)) hx hb dX12_line_31 (by decide) ?_
    exact W.iret (v := (-1)) hx hb hr (fun t ht hW => ⟨⟨(-1), u, rfl, (by first | (unfold mLine; rw [if_neg (bne b_1)]; done) | (unfold mLine; rw [if_neg (bne b_1)]; rfl) | (simp [mLine, b_1]; done)), by rw [ht]; exact hP, hD⟩, hS.F ht⟩) hS.2.2 dX12_line_32
set_option maxHeartbeats 4000000 in
set_option maxRecDepth 100000 in
theorem m_size (l : Launch) (dC : Nat → ClassId) (dI : Nat → Nat → Nat) (h0 : Nat) (v : Nat → Nat) (cI cZ : ClassId) (u : mS) (p0 p1 p2 : Int32) (hn : bw (u.1 3) 0 80 = true) (hc : ∀ j, j < 80 → bw (u.2 17 j) 0 4 = true) (sz : Nat) : Met l yX12_size wsX12_size ({ frames := 3, cells := 0, slots := 0, locals := 65 }) (va_Pc [.ref h0, .int p0, .int p1, .int p2] (fun U => U.heap.size = sz ∧ PW dC dI (mW h0 v cI cZ u) [(cI, .int), (cZ, .boolean)] U ∧ va_D (fun _ => True) (mW h0 v cI cZ u))) (va_Qi (fun (r : Int32) (u9 : mS) => (r, u9) = mSize u p0 p1 p2) (fun u9 t => va_P (dC, dI) vwCl (mW h0 v cI cZ u9) t.heap ∧ va_D (va_A (mW h0 v cI cZ u) sz) (mW h0 v cI cZ u9)) (va_A (mW h0 v cI cZ u) sz)) 0 0 (va_A (mW h0 v cI cZ u) sz) := by
  refine Met.ofW (cc := cX12_size) (maxL := 4) (ret := (some .int)) (by decide) rfl ?_
  intro p e s m args below meth c s₁ B hml hv
  obtain ⟨rfl, hsz, ⟨hP, hK, hN⟩, hD0⟩ := hv
  have hx := B.exec
  have hb := B.bytes
  have hr := B.returns
  have hts := atoms_spec (ws := wsX12_size) B.pre
  have hown : s.vm.findClass RX12 = some m.cls := findClass_of_methodNamed B.named
  have hlocks := B.notSynchronized
  subst hsz
  have hD := hD0.self (sz := s.heap.size)
  generalize hAe : va_A (mW h0 v cI cZ u) s.heap.size = A at hD ⊢
  have hA : ∀ q : Nat, s.heap.size ≤ q → A q := fun q h => by rw [← hAe]; exact Or.inr h
  have hS : va_S A s.heap s.heap [] := va_S.rf
  have hl := lv_entry ([.ref h0, .int p0, .int p1, .int p2]) (n := 4) (Nat.le_of_ble_eq_true rfl)
  rw [lg_entry_eq]
  generalize (lg_sl ([.ref h0, .int p0, .int p1, .int p2]) ++ List.replicate (4 - (lg_sl ([.ref h0, .int p0, .int p1, .int p2])).length) Slot.unset).toArray = ls at hl ⊢
  have hl : lv_has ls 4 [(0, .ref h0), (1, .int p0), (2, .int p1), (3, .int p2)] := hl
  refine lv_aload_n hx hb dX12_size_0 rfl (lv_at hl 0 rfl) ?_
  refine lv_iload_n hx hb dX12_size_1 rfl (lv_at hl 1 rfl) ?_
  refine lv_iconst (v := 2) hx hb dX12_size_2 (by decide) ?_
  refine vp_callSi (va_runV (As := [.int p0, .int 2]) (rest := []) ⟨hx, hb, hml, hown, hts⟩ (m_isKind l dC dI h0 v cI cZ u p0 2 hn) (cwV 2 hts gX12_size_X12_isKind rfl rfl rfl zh_X12_isKind_3 ⟨Nat.le_of_ble_eq_true rfl, Nat.le_of_ble_eq_true rfl⟩) ⟨pw_fb, va_recv hK hP (ci := 11) (q0 := 0) rfl rfl, fun U hU hW => ⟨rfl, pw_to hU hW hP hK hN⟩⟩ rfl rfl hl.1 rfl (lv_room (Nat.le_of_ble_eq_true rfl)) dX12_size_3 ⟨Nat.le_of_ble_eq_true rfl, Nat.le_of_ble_eq_true rfl⟩).run (fun r hw => ?_)
  rcases Bool.eq_false_or_eq_true (mKind u p0 2) with b_1 | b_1
  ·
    obtain rfl : r = 1 := b_t hw b_1
    obtain ⟨b_2, d_3⟩ := band b_1
    refine lv_if_eq (tgt := 39) hx hb dX12_size_6 (by decide) (fun c_4 => absurd c_4 (by decide)) (fun c_4 => ?_)
    refine lv_iload_n hx hb dX12_size_9 rfl (lv_at hl 2 rfl) ?_
    refine lv_iconst (v := 1) hx hb dX12_size_10 (by decide) ?_
    refine lv_bipush (v := 8) hx hb dX12_size_11 (by decide) ?_
    refine vp_callSi (va_runS (As := [.int p1, .int 1, .int 8]) (rest := []) ⟨hx, hb, hml, hown, hts⟩ (m_in l dC dI p1 1 8) (va_cwS 3 hts gX12_size_X12_in rfl rfl rfl zh_X12_in_0 ⟨Nat.le_of_ble_eq_true rfl, Nat.le_of_ble_eq_true rfl⟩) ⟨pw_fb, fun U hU hW => ⟨rfl, pw_to hU hW (hP.sub (ws' := []) [] rfl) (hK.sub (tys' := []) [] rfl) hN⟩⟩ rfl rfl hl.1 rfl (lv_room (Nat.le_of_ble_eq_true rfl)) dX12_size_13 ⟨Nat.le_of_ble_eq_true rfl, Nat.le_of_ble_eq_true rfl⟩).run (fun r hw => ?_)
    rcases Bool.eq_false_or_eq_true (bw p1 1 8) with b_5 | b_5
    ·
      obtain rfl : r = 1 := b_t hw b_5
      refine lv_if_eq (tgt := 39) hx hb dX12_size_16 (by decide) (fun c_6 => absurd c_6 (by decide)) (fun c_6 => ?_)
      refine lv_iload_n hx hb dX12_size_19 rfl (lv_at hl 3 rfl) ?_
      refine lv_iconst (v := 1) hx hb dX12_size_20 (by decide) ?_
      refine lv_bipush (v := 60) hx hb dX12_size_21 (by decide) ?_
      refine vp_callSi (va_runS (As := [.int p2, .int 1, .int 60]) (rest := []) ⟨hx, hb, hml, hown, hts⟩ (m_in l dC dI p2 1 60) (va_cwS 3 hts gX12_size_X12_in rfl rfl rfl zh_X12_in_0 ⟨Nat.le_of_ble_eq_true rfl, Nat.le_of_ble_eq_true rfl⟩) ⟨pw_fb, fun U hU hW => ⟨rfl, pw_to hU hW (hP.sub (ws' := []) [] rfl) (hK.sub (tys' := []) [] rfl) hN⟩⟩ rfl rfl hl.1 rfl (lv_room (Nat.le_of_ble_eq_true rfl)) dX12_size_23 ⟨Nat.le_of_ble_eq_true rfl, Nat.le_of_ble_eq_true rfl⟩).run (fun r hw => ?_)
      rcases Bool.eq_false_or_eq_true (bw p2 1 60) with b_7 | b_7
      ·
        obtain rfl : r = 1 := b_t hw b_7
        refine lv_if_eq (tgt := 39) hx hb dX12_size_26 (by decide) (fun c_8 => absurd c_8 (by decide)) (fun c_8 => ?_)
        refine lv_aload_n hx hb dX12_size_29 rfl (lv_at hl 0 rfl) ?_
        refine va_get (D := (dC, dI)) (ci := 11) (v := .ref (v 17)) (C := RX12) (T := TX12) (N := 52) hx hb hts zl_X12_size_X12 hown hK hP 0 rfl rfl 17 (by decide) (hts (.fieldLink RX12 58 "PageOneModel" "sizes" "[I") (zat q_wsX12_size k_wsX12_size 899 rfl (by decide +kernel))) (fun _ h9 => h9) rfl dX12_size_30 ?_
        refine lv_iload_n hx hb dX12_size_33 rfl (lv_at hl 1 rfl) ?_
        refine va_iald hx hb hK hP 17 0 rfl rfl (vIt hn b_2) dX12_size_34 ?_
        refine lv_iconst (v := 4) hx hb dX12_size_35 (by decide) ?_
        refine lv_icmp_ne (tgt := 41) hx hb dX12_size_36 (by decide) (fun c_9 => ?_) (fun c_9 => ?_)
        ·
          refine lv_aload_n hx hb dX12_size_41 rfl (lv_at hl 0 rfl) ?_
          refine va_get (D := (dC, dI)) (ci := 11) (v := .ref (v 18)) (C := RX12) (T := TX12) (N := 52) hx hb hts zl_X12_size_X12 hown hK hP 0 rfl rfl 18 (by decide) (hts (.fieldLink RX12 61 "PageOneModel" "sizeW" "[I") (zat q_wsX12_size k_wsX12_size 900 rfl (by decide +kernel))) (fun _ h9 => h9) rfl dX12_size_42 ?_
          refine lv_iconst (v := 4) hx hb dX12_size_45 (by decide) ?_
          refine lv_iload_n hx hb dX12_size_46 rfl (lv_at hl 1 rfl) ?_
          refine lv_imul hx hb dX12_size_47 ?_
          refine lv_aload_n hx hb dX12_size_48 rfl (lv_at hl 0 rfl) ?_
          refine va_get (D := (dC, dI)) (ci := 11) (v := .ref (v 17)) (C := RX12) (T := TX12) (N := 52) hx hb hts zl_X12_size_X12 hown hK hP 0 rfl rfl 17 (by decide) (hts (.fieldLink RX12 58 "PageOneModel" "sizes" "[I") (zat q_wsX12_size k_wsX12_size 899 rfl (by decide +kernel))) (fun _ h9 => h9) rfl dX12_size_49 ?_
          refine lv_iload_n hx hb dX12_size_52 rfl (lv_at hl 1 rfl) ?_
          refine va_iald hx hb hK hP 17 0 rfl rfl (vIt hn b_2) dX12_size_53 ?_
          refine lv_iadd hx hb dX12_size_54 ?_
          refine lv_iload_n hx hb dX12_size_55 rfl (lv_at hl 2 rfl) ?_
          refine va_iast hx hb hK hP hD hS 18 0 rfl rfl (vSize hn b_2 (hc p0.toNatClampNeg (vlt (vIt hn b_2))) c_9) dX12_size_56 (fun H locs hP hD hS => ?_)
          obtain ⟨u_10, eu_10⟩ : ∃ zz : mS, zz = mst u 18 ((4 * p0) + (u.2 17 (p0 : Int32).toNatClampNeg)) p1 := ⟨_, rfl⟩
          have hP : va_P (dC, dI) vwCl (mW h0 v cI cZ u_10) H := by rw [eu_10]; exact hP
          have hD : va_D A (mW h0 v cI cZ u_10) := by rw [eu_10]; exact hD
          refine lv_aload_n hx hb dX12_size_57 rfl (lv_at hl 0 rfl) ?_
          refine va_get (D := (dC, dI)) (ci := 11) (v := .ref (v 19)) (C := RX12) (T := TX12) (N := 52) hx hb hts zl_X12_size_X12 hown hK hP 0 rfl rfl 19 (by decide) (hts (.fieldLink RX12 64 "PageOneModel" "sizeH" "[I") (zat q_wsX12_size k_wsX12_size 901 rfl (by decide +kernel))) (fun _ h9 => h9) rfl dX12_size_58 ?_
          refine lv_iconst (v := 4) hx hb dX12_size_61 (by decide) ?_
          refine lv_iload_n hx hb dX12_size_62 rfl (lv_at hl 1 rfl) ?_
          refine lv_imul hx hb dX12_size_63 ?_
          refine lv_aload_n hx hb dX12_size_64 rfl (lv_at hl 0 rfl) ?_
          refine va_get (D := (dC, dI)) (ci := 11) (v := .ref (v 17)) (C := RX12) (T := TX12) (N := 52) hx hb hts zl_X12_size_X12 hown hK hP 0 rfl rfl 17 (by decide) (hts (.fieldLink RX12 58 "PageOneModel" "sizes" "[I") (zat q_wsX12_size k_wsX12_size 899 rfl (by decide +kernel))) (fun _ h9 => h9) rfl dX12_size_65 ?_
          refine lv_iload_n hx hb dX12_size_68 rfl (lv_at hl 1 rfl) ?_
          refine va_iald hx hb hK hP 17 0 rfl rfl (vIt hn b_2) dX12_size_69 ?_
          refine lv_iadd hx hb dX12_size_70 ?_
          refine lv_iload_n hx hb dX12_size_71 rfl (lv_at hl 3 rfl) ?_
          refine va_iast hx hb hK hP hD hS 19 0 rfl rfl (by have h := (vSize hn b_2 (hc p0.toNatClampNeg (vlt (vIt hn b_2))) c_9); rw [show (u_10.2 17 (p0 : Int32).toNatClampNeg) = u.2 17 p0.toNatClampNeg from by rw [eu_10]; rfl]; exact h) dX12_size_72 (fun H locs hP hD hS => ?_)
          obtain ⟨u_11, eu_11⟩ : ∃ zz : mS, zz = mst u_10 19 ((4 * p0) + (u_10.2 17 (p0 : Int32).toNatClampNeg)) p2 := ⟨_, rfl⟩
          have hP : va_P (dC, dI) vwCl (mW h0 v cI cZ u_11) H := by rw [eu_11]; exact hP
          have hD : va_D A (mW h0 v cI cZ u_11) := by rw [eu_11]; exact hD
          refine lv_aload_n hx hb dX12_size_73 rfl (lv_at hl 0 rfl) ?_
          refine va_get (D := (dC, dI)) (ci := 11) (v := .ref (v 17)) (C := RX12) (T := TX12) (N := 52) hx hb hts zl_X12_size_X12 hown hK hP 0 rfl rfl 17 (by decide) (hts (.fieldLink RX12 58 "PageOneModel" "sizes" "[I") (zat q_wsX12_size k_wsX12_size 899 rfl (by decide +kernel))) (fun _ h9 => h9) rfl dX12_size_74 ?_
          refine lv_iload_n hx hb dX12_size_77 rfl (lv_at hl 1 rfl) ?_
          refine lv_dup2_11 hx hb dX12_size_78 rfl rfl ?_
          refine va_iald hx hb hK hP 17 0 rfl rfl (vIt hn b_2) dX12_size_79 ?_
          refine lv_iconst (v := 1) hx hb dX12_size_80 (by decide) ?_
          refine lv_iadd hx hb dX12_size_81 ?_
          refine va_iast hx hb hK hP hD hS 17 0 rfl rfl (vIt hn b_2) dX12_size_82 (fun H locs hP hD hS => ?_)
          obtain ⟨u_12, eu_12⟩ : ∃ zz : mS, zz = mst u_11 17 p0 ((u_11.2 17 (p0 : Int32).toNatClampNeg) + 1) := ⟨_, rfl⟩
          have hP : va_P (dC, dI) vwCl (mW h0 v cI cZ u_12) H := by rw [eu_12]; exact hP
          have hD : va_D A (mW h0 v cI cZ u_12) := by rw [eu_12]; exact hD
          refine lv_aload_n hx hb dX12_size_83 rfl (lv_at hl 0 rfl) ?_
          refine va_get (D := (dC, dI)) (ci := 11) (v := .ref (v 17)) (C := RX12) (T := TX12) (N := 52) hx hb hts zl_X12_size_X12 hown hK hP 0 rfl rfl 17 (by decide) (hts (.fieldLink RX12 58 "PageOneModel" "sizes" "[I") (zat q_wsX12_size k_wsX12_size 899 rfl (by decide +kernel))) (fun _ h9 => h9) rfl dX12_size_84 ?_
          refine lv_iload_n hx hb dX12_size_87 rfl (lv_at hl 1 rfl) ?_
          refine va_iald hx hb hK hP 17 0 rfl rfl (vIt hn b_2) dX12_size_88 ?_
          exact W.iret (v := (u_12.2 17 (p0 : Int32).toNatClampNeg)) hx hb hr (fun t ht hW => ⟨⟨(u_12.2 17 (p0 : Int32).toNatClampNeg), u_12, rfl, (by subst eu_10 eu_11 eu_12; first | (unfold mSize; rw [if_pos b_1, if_pos b_5, if_pos b_7, if_neg c_9]; done) | (unfold mSize; rw [if_pos b_1, if_pos b_5, if_pos b_7, if_neg c_9]; rfl) | (simp [mSize, b_1, b_2, b_5, b_7, c_9]; done)), by rw [ht]; exact hP, hD⟩, hS.F ht⟩) hS.2.2 dX12_size_89
        ·
          refine lv_iconst (v := (-1)) hx hb dX12_size_39 (by decide) ?_
          exact W.iret (v := (-1)) hx hb hr (fun t ht hW => ⟨⟨(-1), u, rfl, (by first | (unfold mSize; rw [if_pos b_1, if_pos b_5, if_pos b_7, if_pos c_9]; done) | (unfold mSize; rw [if_pos b_1, if_pos b_5, if_pos b_7, if_pos c_9]; rfl) | (simp [mSize, b_1, b_2, b_5, b_7, c_9]; done)), by rw [ht]; exact hP, hD⟩, hS.F ht⟩) hS.2.2 dX12_size_40
      ·
        obtain rfl : r = 0 := b_f hw b_7
        refine lv_if_eq (tgt := 39) hx hb dX12_size_26 (by decide) (fun c_13 => ?_) (fun c_13 => absurd (by decide) c_13)
        refine lv_iconst (v := (-1)) hx hb dX12_size_39 (by decide) ?_
        exact W.iret (v := (-1)) hx hb hr (fun t ht hW => ⟨⟨(-1), u, rfl, (by first | (unfold mSize; rw [if_pos b_1, if_pos b_5, if_neg (bne b_7)]; done) | (unfold mSize; rw [if_pos b_1, if_pos b_5, if_neg (bne b_7)]; rfl) | (simp [mSize, b_1, b_2, b_5, b_7]; done)), by rw [ht]; exact hP, hD⟩, hS.F ht⟩) hS.2.2 dX12_size_40
    ·
      obtain rfl : r = 0 := b_f hw b_5
      refine lv_if_eq (tgt := 39) hx hb dX12_size_16 (by decide) (fun c_14 => ?_) (fun c_14 => absurd (by decide) c_14)
      refine lv_iconst (v := (-1)) hx hb dX12_size_39 (by decide) ?_
      exact W.iret (v := (-1)) hx hb hr (fun t ht hW => ⟨⟨(-1), u, rfl, (by first | (unfold mSize; rw [if_pos b_1, if_neg (bne b_5)]; done) | (unfold mSize; rw [if_pos b_1, if_neg (bne b_5)]; rfl) | (simp [mSize, b_1, b_2, b_5]; done)), by rw [ht]; exact hP, hD⟩, hS.F ht⟩) hS.2.2 dX12_size_40
  ·
    obtain rfl : r = 0 := b_f hw b_1
    refine lv_if_eq (tgt := 39) hx hb dX12_size_6 (by decide) (fun c_15 => ?_) (fun c_15 => absurd (by decide) c_15)
    refine lv_iconst (v := (-1)) hx hb dX12_size_39 (by decide) ?_
    exact W.iret (v := (-1)) hx hb hr (fun t ht hW => ⟨⟨(-1), u, rfl, (by first | (unfold mSize; rw [if_neg (bne b_1)]; done) | (unfold mSize; rw [if_neg (bne b_1)]; rfl) | (simp [mSize, b_1]; done)), by rw [ht]; exact hP, hD⟩, hS.F ht⟩) hS.2.2 dX12_size_40
set_option maxHeartbeats 4000000 in
set_option maxRecDepth 100000 in
theorem m_rival (l : Launch) (dC : Nat → ClassId) (dI : Nat → Nat → Nat) (h0 : Nat) (v : Nat → Nat) (cI cZ : ClassId) (u : mS) (p0 p1 : Int32) (hn : bw (u.1 3) 0 80 = true) (sz : Nat) : Met l yX12_rival wsX12_rival ({ frames := 2, cells := 0, slots := 0, locals := 42 }) (va_Pc [.ref h0, .int p0, .int p1] (fun U => U.heap.size = sz ∧ PW dC dI (mW h0 v cI cZ u) [(cI, .int), (cZ, .boolean)] U ∧ va_D (fun _ => True) (mW h0 v cI cZ u))) (va_Qi (fun (r : Int32) (u9 : mS) => (r, u9) = mRival u p0 p1) (fun u9 t => va_P (dC, dI) vwCl (mW h0 v cI cZ u9) t.heap ∧ va_D (va_A (mW h0 v cI cZ u) sz) (mW h0 v cI cZ u9)) (va_A (mW h0 v cI cZ u) sz)) 0 0 (va_A (mW h0 v cI cZ u) sz) := by
  refine Met.ofW (cc := cX12_rival) (maxL := 3) (ret := (some .boolean)) (by decide) rfl ?_
  intro p e s m args below meth c s₁ B hml hv
  obtain ⟨rfl, hsz, ⟨hP, hK, hN⟩, hD0⟩ := hv
  have hx := B.exec
  have hb := B.bytes
  have hr := B.returns
  have hts := atoms_spec (ws := wsX12_rival) B.pre
  have hown : s.vm.findClass RX12 = some m.cls := findClass_of_methodNamed B.named
  have hlocks := B.notSynchronized
  subst hsz
  have hD := hD0.self (sz := s.heap.size)
  generalize hAe : va_A (mW h0 v cI cZ u) s.heap.size = A at hD ⊢
  have hA : ∀ q : Nat, s.heap.size ≤ q → A q := fun q h => by rw [← hAe]; exact Or.inr h
  have hS : va_S A s.heap s.heap [] := va_S.rf
  have hl := lv_entry ([.ref h0, .int p0, .int p1]) (n := 3) (Nat.le_of_ble_eq_true rfl)
  rw [lg_entry_eq]
  generalize (lg_sl ([.ref h0, .int p0, .int p1]) ++ List.replicate (3 - (lg_sl ([.ref h0, .int p0, .int p1])).length) Slot.unset).toArray = ls at hl ⊢
  have hl : lv_has ls 3 [(0, .ref h0), (1, .int p0), (2, .int p1)] := hl
  refine lv_iload_n hx hb dX12_rival_0 rfl (lv_at hl 1 rfl) ?_
  refine vp_callSi (va_runS (As := [.int p0]) (rest := []) ⟨hx, hb, hml, hown, hts⟩ (m_isBuyer l dC dI p0) (va_cwS 1 hts gX12_rival_X12_isBuyer rfl rfl rfl zh_X12_isBuyer_5 ⟨Nat.le_of_ble_eq_true rfl, Nat.le_of_ble_eq_true rfl⟩) ⟨pw_fb, fun U hU hW => ⟨rfl, pw_to hU hW (hP.sub (ws' := []) [] rfl) (hK.sub (tys' := []) [] rfl) hN⟩⟩ rfl rfl hl.1 rfl (lv_room (Nat.le_of_ble_eq_true rfl)) dX12_rival_1 ⟨Nat.le_of_ble_eq_true rfl, Nat.le_of_ble_eq_true rfl⟩).run (fun r hw => ?_)
  rcases Bool.eq_false_or_eq_true (bw p0 0 9) with b_1 | b_1
  ·
    obtain rfl : r = 1 := b_t hw b_1
    refine lv_if_eq (tgt := 33) hx hb dX12_rival_4 (by decide) (fun c_2 => absurd c_2 (by decide)) (fun c_2 => ?_)
    refine lv_iload_n hx hb dX12_rival_7 rfl (lv_at hl 2 rfl) ?_
    refine vp_callSi (va_runS (As := [.int p1]) (rest := []) ⟨hx, hb, hml, hown, hts⟩ (m_isBuyer l dC dI p1) (va_cwS 1 hts gX12_rival_X12_isBuyer rfl rfl rfl zh_X12_isBuyer_5 ⟨Nat.le_of_ble_eq_true rfl, Nat.le_of_ble_eq_true rfl⟩) ⟨pw_fb, fun U hU hW => ⟨rfl, pw_to hU hW (hP.sub (ws' := []) [] rfl) (hK.sub (tys' := []) [] rfl) hN⟩⟩ rfl rfl hl.1 rfl (lv_room (Nat.le_of_ble_eq_true rfl)) dX12_rival_8 ⟨Nat.le_of_ble_eq_true rfl, Nat.le_of_ble_eq_true rfl⟩).run (fun r hw => ?_)
    rcases Bool.eq_false_or_eq_true (bw p1 0 9) with b_3 | b_3
    ·
      obtain rfl : r = 1 := b_t hw b_3
      refine lv_if_eq (tgt := 33) hx hb dX12_rival_11 (by decide) (fun c_4 => absurd c_4 (by decide)) (fun c_4 => ?_)
      refine lv_iload_n hx hb dX12_rival_14 rfl (lv_at hl 1 rfl) ?_
      refine lv_iload_n hx hb dX12_rival_15 rfl (lv_at hl 2 rfl) ?_
      refine lv_icmp_eq (tgt := 33) hx hb dX12_rival_16 (by decide) (fun c_5 => ?_) (fun c_5 => ?_)
      ·
        refine lv_iconst (v := 0) hx hb dX12_rival_33 (by decide) ?_
        exact W.zret (v := 0) hx hb hr (by decide) (fun t ht hW => ⟨⟨0, u, rfl, (by first | (unfold mRival; rw [if_pos b_1, if_pos b_3, if_pos c_5]; done) | (unfold mRival; rw [if_pos b_1, if_pos b_3, if_pos c_5]; rfl) | (simp [mRival, b_1, b_3, c_5]; done)), by rw [ht]; exact hP, hD⟩, hS.F ht⟩) hS.2.2 dX12_rival_34
      ·
        refine lv_aload_n hx hb dX12_rival_19 rfl (lv_at hl 0 rfl) ?_
        refine va_get (D := (dC, dI)) (ci := 11) (v := .ref (v 20)) (C := RX12) (T := TX12) (N := 52) hx hb hts zl_X12_rival_X12 hown hK hP 0 rfl rfl 20 (by decide) (hts (.fieldLink RX12 67 "PageOneModel" "isRival" "[Z") (zat q_wsX12_rival k_wsX12_rival 902 rfl (by decide +kernel))) (fun _ h9 => h9) rfl dX12_rival_20 ?_
        refine lv_bipush (v := 10) hx hb dX12_rival_23 (by decide) ?_
        refine lv_iload_n hx hb dX12_rival_25 rfl (lv_at hl 1 rfl) ?_
        refine lv_imul hx hb dX12_rival_26 ?_
        refine lv_iload_n hx hb dX12_rival_27 rfl (lv_at hl 2 rfl) ?_
        refine lv_iadd hx hb dX12_rival_28 ?_
        refine va_zald hx hb hK hP 20 1 rfl rfl (vin10 b_1 b_3) dX12_rival_29 ?_
        refine lv_if_eq (tgt := 35) hx hb dX12_rival_30 (by decide) (fun c_6 => ?_) (fun c_6 => ?_)
        ·
          refine lv_aload_n hx hb dX12_rival_35 rfl (lv_at hl 0 rfl) ?_
          refine va_get (D := (dC, dI)) (ci := 11) (v := .ref (v 20)) (C := RX12) (T := TX12) (N := 52) hx hb hts zl_X12_rival_X12 hown hK hP 0 rfl rfl 20 (by decide) (hts (.fieldLink RX12 67 "PageOneModel" "isRival" "[Z") (zat q_wsX12_rival k_wsX12_rival 902 rfl (by decide +kernel))) (fun _ h9 => h9) rfl dX12_rival_36 ?_
          refine lv_bipush (v := 10) hx hb dX12_rival_39 (by decide) ?_
          refine lv_iload_n hx hb dX12_rival_41 rfl (lv_at hl 1 rfl) ?_
          refine lv_imul hx hb dX12_rival_42 ?_
          refine lv_iload_n hx hb dX12_rival_43 rfl (lv_at hl 2 rfl) ?_
          refine lv_iadd hx hb dX12_rival_44 ?_
          refine lv_iconst (v := 1) hx hb dX12_rival_45 (by decide) ?_
          refine va_zast hx hb hK hP hD hS 20 1 rfl rfl (vin10 b_1 b_3) dX12_rival_46 (fun H locs hP hD hS => ?_)
          obtain ⟨u_7, eu_7⟩ : ∃ zz : mS, zz = mst u 20 ((10 * p0) + p1) (vp_nar .boolean 1) := ⟨_, rfl⟩
          have hP : va_P (dC, dI) vwCl (mW h0 v cI cZ u_7) H := by rw [eu_7]; exact hP
          have hD : va_D A (mW h0 v cI cZ u_7) := by rw [eu_7]; exact hD
          refine lv_aload_n hx hb dX12_rival_47 rfl (lv_at hl 0 rfl) ?_
          refine va_get (D := (dC, dI)) (ci := 11) (v := .ref (v 20)) (C := RX12) (T := TX12) (N := 52) hx hb hts zl_X12_rival_X12 hown hK hP 0 rfl rfl 20 (by decide) (hts (.fieldLink RX12 67 "PageOneModel" "isRival" "[Z") (zat q_wsX12_rival k_wsX12_rival 902 rfl (by decide +kernel))) (fun _ h9 => h9) rfl dX12_rival_48 ?_
          refine lv_bipush (v := 10) hx hb dX12_rival_51 (by decide) ?_
          refine lv_iload_n hx hb dX12_rival_53 rfl (lv_at hl 2 rfl) ?_
          refine lv_imul hx hb dX12_rival_54 ?_
          refine lv_iload_n hx hb dX12_rival_55 rfl (lv_at hl 1 rfl) ?_
          refine lv_iadd hx hb dX12_rival_56 ?_
          refine lv_iconst (v := 1) hx hb dX12_rival_57 (by decide) ?_
          refine va_zast hx hb hK hP hD hS 20 1 rfl rfl (vin10 b_3 b_1) dX12_rival_58 (fun H locs hP hD hS => ?_)
          obtain ⟨u_8, eu_8⟩ : ∃ zz : mS, zz = mst u_7 20 ((10 * p1) + p0) (vp_nar .boolean 1) := ⟨_, rfl⟩
          have hP : va_P (dC, dI) vwCl (mW h0 v cI cZ u_8) H := by rw [eu_8]; exact hP
          have hD : va_D A (mW h0 v cI cZ u_8) := by rw [eu_8]; exact hD
          refine lv_iconst (v := 1) hx hb dX12_rival_59 (by decide) ?_
          exact W.zret (v := 1) hx hb hr (by decide) (fun t ht hW => ⟨⟨1, u_8, rfl, (by subst eu_7 eu_8; first | (unfold mRival; rw [if_pos b_1, if_pos b_3, if_neg c_5, if_pos c_6]; done) | (unfold mRival; rw [if_pos b_1, if_pos b_3, if_neg c_5, if_pos c_6]; rfl) | (simp [mRival, b_1, b_3, c_5, c_6]; done)), by rw [ht]; exact hP, hD⟩, hS.F ht⟩) hS.2.2 dX12_rival_60
        ·
          refine lv_iconst (v := 0) hx hb dX12_rival_33 (by decide) ?_
          exact W.zret (v := 0) hx hb hr (by decide) (fun t ht hW => ⟨⟨0, u, rfl, (by first | (unfold mRival; rw [if_pos b_1, if_pos b_3, if_neg c_5, if_neg c_6]; done) | (unfold mRival; rw [if_pos b_1, if_pos b_3, if_neg c_5, if_neg c_6]; rfl) | (simp [mRival, b_1, b_3, c_5, c_6]; done)), by rw [ht]; exact hP, hD⟩, hS.F ht⟩) hS.2.2 dX12_rival_34
    ·
      obtain rfl : r = 0 := b_f hw b_3
      refine lv_if_eq (tgt := 33) hx hb dX12_rival_11 (by decide) (fun c_9 => ?_) (fun c_9 => absurd (by decide) c_9)
      refine lv_iconst (v := 0) hx hb dX12_rival_33 (by decide) ?_
      exact W.zret (v := 0) hx hb hr (by decide) (fun t ht hW => ⟨⟨0, u, rfl, (by first | (unfold mRival; rw [if_pos b_1, if_neg (bne b_3)]; done) | (unfold mRival; rw [if_pos b_1, if_neg (bne b_3)]; rfl) | (simp [mRival, b_1, b_3]; done)), by rw [ht]; exact hP, hD⟩, hS.F ht⟩) hS.2.2 dX12_rival_34
  ·
    obtain rfl : r = 0 := b_f hw b_1
    refine lv_if_eq (tgt := 33) hx hb dX12_rival_4 (by decide) (fun c_10 => ?_) (fun c_10 => absurd (by decide) c_10)
    refine lv_iconst (v := 0) hx hb dX12_rival_33 (by decide) ?_
    exact W.zret (v := 0) hx hb hr (by decide) (fun t ht hW => ⟨⟨0, u, rfl, (by first | (unfold mRival; rw [if_neg (bne b_1)]; done) | (unfold mRival; rw [if_neg (bne b_1)]; rfl) | (simp [mRival, b_1]; done)), by rw [ht]; exact hP, hD⟩, hS.F ht⟩) hS.2.2 dX12_rival_34
set_option maxHeartbeats 4000000 in
set_option maxRecDepth 100000 in
theorem m_names (l : Launch) (dC : Nat → ClassId) (dI : Nat → Nat → Nat) (h0 : Nat) (v : Nat → Nat) (cI cZ : ClassId) (u : mS) (p0 p1 : Int32) (hn : bw (u.1 3) 0 80 = true) (sz : Nat) : Met l yX12_names wsX12_names ({ frames := 3, cells := 0, slots := 0, locals := 65 }) (va_Pc [.ref h0, .int p0, .int p1] (fun U => U.heap.size = sz ∧ PW dC dI (mW h0 v cI cZ u) [(cI, .int), (cZ, .boolean)] U ∧ va_D (fun _ => True) (mW h0 v cI cZ u))) (va_Qi (fun (r : Int32) (u9 : mS) => (r, u9) = mNames u p0 p1) (fun u9 t => va_P (dC, dI) vwCl (mW h0 v cI cZ u9) t.heap ∧ va_D (va_A (mW h0 v cI cZ u) sz) (mW h0 v cI cZ u9)) (va_A (mW h0 v cI cZ u) sz)) 0 0 (va_A (mW h0 v cI cZ u) sz) := by
  refine Met.ofW (cc := cX12_names) (maxL := 3) (ret := (some .boolean)) (by decide) rfl ?_
  intro p e s m args below meth c s₁ B hml hv
  obtain ⟨rfl, hsz, ⟨hP, hK, hN⟩, hD0⟩ := hv
  have hx := B.exec
  have hb := B.bytes
  have hr := B.returns
  have hts := atoms_spec (ws := wsX12_names) B.pre
  have hown : s.vm.findClass RX12 = some m.cls := findClass_of_methodNamed B.named
  have hlocks := B.notSynchronized
  subst hsz
  have hD := hD0.self (sz := s.heap.size)
  generalize hAe : va_A (mW h0 v cI cZ u) s.heap.size = A at hD ⊢
  have hA : ∀ q : Nat, s.heap.size ≤ q → A q := fun q h => by rw [← hAe]; exact Or.inr h
  have hS : va_S A s.heap s.heap [] := va_S.rf
  have hl := lv_entry ([.ref h0, .int p0, .int p1]) (n := 3) (Nat.le_of_ble_eq_true rfl)
  rw [lg_entry_eq]
  generalize (lg_sl ([.ref h0, .int p0, .int p1]) ++ List.replicate (3 - (lg_sl ([.ref h0, .int p0, .int p1])).length) Slot.unset).toArray = ls at hl ⊢
  have hl : lv_has ls 3 [(0, .ref h0), (1, .int p0), (2, .int p1)] := hl
  refine lv_aload_n hx hb dX12_names_0 rfl (lv_at hl 0 rfl) ?_
  refine lv_iload_n hx hb dX12_names_1 rfl (lv_at hl 1 rfl) ?_
  refine lv_iconst (v := 0) hx hb dX12_names_2 (by decide) ?_
  refine vp_callSi (va_runV (As := [.int p0, .int 0]) (rest := []) ⟨hx, hb, hml, hown, hts⟩ (m_isKind l dC dI h0 v cI cZ u p0 0 hn) (cwV 2 hts gX12_names_X12_isKind rfl rfl rfl zh_X12_isKind_3 ⟨Nat.le_of_ble_eq_true rfl, Nat.le_of_ble_eq_true rfl⟩) ⟨pw_fb, va_recv hK hP (ci := 11) (q0 := 0) rfl rfl, fun U hU hW => ⟨rfl, pw_to hU hW hP hK hN⟩⟩ rfl rfl hl.1 rfl (lv_room (Nat.le_of_ble_eq_true rfl)) dX12_names_3 ⟨Nat.le_of_ble_eq_true rfl, Nat.le_of_ble_eq_true rfl⟩).run (fun r hw => ?_)
  rcases Bool.eq_false_or_eq_true (mKind u p0 0) with b_1 | b_1
  ·
    obtain rfl : r = 1 := b_t hw b_1
    obtain ⟨b_2, d_3⟩ := band b_1
    refine lv_if_eq (tgt := 30) hx hb dX12_names_6 (by decide) (fun c_4 => absurd c_4 (by decide)) (fun c_4 => ?_)
    refine lv_iload_n hx hb dX12_names_9 rfl (lv_at hl 2 rfl) ?_
    refine vp_callSi (va_runS (As := [.int p1]) (rest := []) ⟨hx, hb, hml, hown, hts⟩ (m_isBuyer l dC dI p1) (va_cwS 1 hts gX12_names_X12_isBuyer rfl rfl rfl zh_X12_isBuyer_5 ⟨Nat.le_of_ble_eq_true rfl, Nat.le_of_ble_eq_true rfl⟩) ⟨pw_fb, fun U hU hW => ⟨rfl, pw_to hU hW (hP.sub (ws' := []) [] rfl) (hK.sub (tys' := []) [] rfl) hN⟩⟩ rfl rfl hl.1 rfl (lv_room (Nat.le_of_ble_eq_true rfl)) dX12_names_10 ⟨Nat.le_of_ble_eq_true rfl, Nat.le_of_ble_eq_true rfl⟩).run (fun r hw => ?_)
    rcases Bool.eq_false_or_eq_true (bw p1 0 9) with b_5 | b_5
    ·
      obtain rfl : r = 1 := b_t hw b_5
      refine lv_if_eq (tgt := 30) hx hb dX12_names_13 (by decide) (fun c_6 => absurd c_6 (by decide)) (fun c_6 => ?_)
      refine lv_aload_n hx hb dX12_names_16 rfl (lv_at hl 0 rfl) ?_
      refine va_get (D := (dC, dI)) (ci := 11) (v := .ref (v 21)) (C := RX12) (T := TX12) (N := 52) hx hb hts zl_X12_names_X12 hown hK hP 0 rfl rfl 21 (by decide) (hts (.fieldLink RX12 71 "PageOneModel" "isNamed" "[Z") (zat q_wsX12_names k_wsX12_names 903 rfl (by decide +kernel))) (fun _ h9 => h9) rfl dX12_names_17 ?_
      refine lv_bipush (v := 10) hx hb dX12_names_20 (by decide) ?_
      refine lv_iload_n hx hb dX12_names_22 rfl (lv_at hl 1 rfl) ?_
      refine lv_imul hx hb dX12_names_23 ?_
      refine lv_iload_n hx hb dX12_names_24 rfl (lv_at hl 2 rfl) ?_
      refine lv_iadd hx hb dX12_names_25 ?_
      refine va_zald hx hb hK hP 21 1 rfl rfl (vName hn b_2 b_5) dX12_names_26 ?_
      refine lv_if_eq (tgt := 32) hx hb dX12_names_27 (by decide) (fun c_7 => ?_) (fun c_7 => ?_)
      ·
        refine lv_aload_n hx hb dX12_names_32 rfl (lv_at hl 0 rfl) ?_
        refine va_get (D := (dC, dI)) (ci := 11) (v := .ref (v 21)) (C := RX12) (T := TX12) (N := 52) hx hb hts zl_X12_names_X12 hown hK hP 0 rfl rfl 21 (by decide) (hts (.fieldLink RX12 71 "PageOneModel" "isNamed" "[Z") (zat q_wsX12_names k_wsX12_names 903 rfl (by decide +kernel))) (fun _ h9 => h9) rfl dX12_names_33 ?_
        refine lv_bipush (v := 10) hx hb dX12_names_36 (by decide) ?_
        refine lv_iload_n hx hb dX12_names_38 rfl (lv_at hl 1 rfl) ?_
        refine lv_imul hx hb dX12_names_39 ?_
        refine lv_iload_n hx hb dX12_names_40 rfl (lv_at hl 2 rfl) ?_
        refine lv_iadd hx hb dX12_names_41 ?_
        refine lv_iconst (v := 1) hx hb dX12_names_42 (by decide) ?_
        refine va_zast hx hb hK hP hD hS 21 1 rfl rfl (vName hn b_2 b_5) dX12_names_43 (fun H locs hP hD hS => ?_)
        obtain ⟨u_8, eu_8⟩ : ∃ zz : mS, zz = mst u 21 ((10 * p0) + p1) (vp_nar .boolean 1) := ⟨_, rfl⟩
        have hP : va_P (dC, dI) vwCl (mW h0 v cI cZ u_8) H := by rw [eu_8]; exact hP
        have hD : va_D A (mW h0 v cI cZ u_8) := by rw [eu_8]; exact hD
        refine lv_iconst (v := 1) hx hb dX12_names_44 (by decide) ?_
        exact W.zret (v := 1) hx hb hr (by decide) (fun t ht hW => ⟨⟨1, u_8, rfl, (by subst eu_8; first | (unfold mNames; rw [if_pos b_1, if_pos b_5, if_pos c_7]; done) | (unfold mNames; rw [if_pos b_1, if_pos b_5, if_pos c_7]; rfl) | (simp [mNames, b_1, b_2, b_5, c_7]; done)), by rw [ht]; exact hP, hD⟩, hS.F ht⟩) hS.2.2 dX12_names_45
      ·
        refine lv_iconst (v := 0) hx hb dX12_names_30 (by decide) ?_
        exact W.zret (v := 0) hx hb hr (by decide) (fun t ht hW => ⟨⟨0, u, rfl, (by first | (unfold mNames; rw [if_pos b_1, if_pos b_5, if_neg c_7]; done) | (unfold mNames; rw [if_pos b_1, if_pos b_5, if_neg c_7]; rfl) | (simp [mNames, b_1, b_2, b_5, c_7]; done)), by rw [ht]; exact hP, hD⟩, hS.F ht⟩) hS.2.2 dX12_names_31
    ·
      obtain rfl : r = 0 := b_f hw b_5
      refine lv_if_eq (tgt := 30) hx hb dX12_names_13 (by decide) (fun c_9 => ?_) (fun c_9 => absurd (by decide) c_9)
      refine lv_iconst (v := 0) hx hb dX12_names_30 (by decide) ?_
      exact W.zret (v := 0) hx hb hr (by decide) (fun t ht hW => ⟨⟨0, u, rfl, (by first | (unfold mNames; rw [if_pos b_1, if_neg (bne b_5)]; done) | (unfold mNames; rw [if_pos b_1, if_neg (bne b_5)]; rfl) | (simp [mNames, b_1, b_2, b_5]; done)), by rw [ht]; exact hP, hD⟩, hS.F ht⟩) hS.2.2 dX12_names_31
  ·
    obtain rfl : r = 0 := b_f hw b_1
    refine lv_if_eq (tgt := 30) hx hb dX12_names_6 (by decide) (fun c_10 => ?_) (fun c_10 => absurd (by decide) c_10)
    refine lv_iconst (v := 0) hx hb dX12_names_30 (by decide) ?_
    exact W.zret (v := 0) hx hb hr (by decide) (fun t ht hW => ⟨⟨0, u, rfl, (by first | (unfold mNames; rw [if_neg (bne b_1)]; done) | (unfold mNames; rw [if_neg (bne b_1)]; rfl) | (simp [mNames, b_1]; done)), by rw [ht]; exact hP, hD⟩, hS.F ht⟩) hS.2.2 dX12_names_31
/-- takes(i, k) -/
def mTakes (u : mS) (i k : Int32) : Int32 :=
  let n1 := if k ≤ 0 then u.2 27 (6 * i + k).toNatClampNeg else if u.2 23 (6 * i + k - 1).toNatClampNeg = u.2 23 (6 * i + k).toNatClampNeg then u.2 27 (6 * i + k).toNatClampNeg else u.2 27 (6 * i + k).toNatClampNeg + (-1)
  if u.2 22 i.toNatClampNeg ≤ k + 1 then n1 else if u.2 23 (6 * i + k + 1).toNatClampNeg = u.2 23 (6 * i + k).toNatClampNeg then n1 else n1 + (-1)
def mFrom (u : mS) (i : Int32) : Nat → Int32
  | 0 => 0
  | n + 1 => mFrom u i n + mTakes u i (nI n)
theorem v6 {i k : Int32} (hi : bw i 0 79 = true) (hk : bw k 0 5 = true) : (6 * i + k).toInt = 6 * i.toInt + k.toInt ∧ 0 ≤ i.toInt ∧ i.toInt ≤ 79 ∧ 0 ≤ k.toInt ∧ k.toInt ≤ 5 := by
  have h6 : (6 : Int32).toInt = 6 := rfl
  have h79 : (79 : Int32).toInt = 79 := rfl
  have h5 : (5 : Int32).toInt = 5 := rfl
  have h1 := bw_iff.mp hi
  have h2 := bw_iff.mp hk
  rw [i0] at h1 h2
  rw [h79] at h1
  rw [h5] at h2
  have e1 : (6 * i).toInt = 6 * i.toInt := by rw [mulI (by rw [h6]; omega) (by rw [h6]; omega), h6]
  exact ⟨by rw [addI (by rw [e1]; omega) (by rw [e1]; omega), e1], h1.1, h1.2, h2.1, h2.2⟩
theorem v6a {i k x : Int32} (hi : bw i 0 79 = true) (hk : bw k 0 5 = true) (ex : x = 6 * i + k) : vp_in x 480 := by
  have h := v6 hi hk
  rw [ex, vp_in_iff, h.1]; omega
theorem v6m {i k x : Int32} (hi : bw i 0 79 = true) (hk : bw k 0 5 = true) (ex : x = 6 * i + k) (h0 : ¬ k ≤ 0) : vp_in (x - 1) 480 := by
  have h := v6 hi hk
  rw [i32_le, i0] at h0
  rw [ex, vp_in_iff, subI (by rw [h.1, i1]; omega) (by rw [h.1, i1]; omega), h.1, i1]; omega
theorem v6p {i k x n : Int32} (hi : bw i 0 79 = true) (hk : bw k 0 5 = true) (ex : x = 6 * i + k) (hn : bw n 0 6 = true) (h0 : ¬ n ≤ k + 1) : vp_in (x + 1) 480 := by
  have h := v6 hi hk
  have h6 : (6 : Int32).toInt = 6 := rfl
  have h2 := bw_iff.mp hn
  rw [i0, h6] at h2
  rw [i32_le, addI (by rw [i1]; omega) (by rw [i1]; omega), i1] at h0
  rw [ex, vp_in_iff, addI (by rw [h.1, i1]; omega) (by rw [h.1, i1]; omega), h.1, i1]; omega
set_option maxHeartbeats 4000000 in
set_option maxRecDepth 100000 in
theorem m_takes (l : Launch) (dC : Nat → ClassId) (dI : Nat → Nat → Nat) (h0 : Nat) (v : Nat → Nat) (cI cZ : ClassId) (u : mS) (p0 p1 : Int32) (hi : bw p0 0 79 = true) (hk : bw p1 0 5 = true) (hc : bw (u.2 22 p0.toNatClampNeg) 0 6 = true) : Met l yX12_takes wsX12_takes ({ frames := 0, cells := 0, slots := 0, locals := 0 }) (va_Pc [.ref h0, .int p0, .int p1] (PW dC dI (mW h0 v cI cZ u) [(cI, .int), (cZ, .boolean)])) (vp_Si (fun r => r = mTakes u p0 p1)) 0 0 (fun _ => False) := by
  refine Met.ofW (cc := cX12_takes) (maxL := 5) (ret := (some .int)) (by decide) rfl ?_
  intro p e s m args below meth c s₁ B hml hv
  obtain ⟨rfl, hP, hK, hN⟩ := hv
  have hx := B.exec
  have hb := B.bytes
  have hr := B.returns
  have hts := atoms_spec (ws := wsX12_takes) B.pre
  have hown : s.vm.findClass RX12 = some m.cls := findClass_of_methodNamed B.named
  have hlocks := B.notSynchronized
  have hl := lv_entry ([.ref h0, .int p0, .int p1]) (n := 5) (Nat.le_of_ble_eq_true rfl)
  rw [lg_entry_eq]
  generalize (lg_sl ([.ref h0, .int p0, .int p1]) ++ List.replicate (5 - (lg_sl ([.ref h0, .int p0, .int p1])).length) Slot.unset).toArray = ls at hl ⊢
  have hl : lv_has ls 5 [(0, .ref h0), (1, .int p0), (2, .int p1)] := hl
  refine lv_bipush (v := 6) hx hb dX12_takes_0 (by decide) ?_
  refine lv_iload_n hx hb dX12_takes_2 rfl (lv_at hl 1 rfl) ?_
  refine lv_imul hx hb dX12_takes_3 ?_
  refine lv_iload_n hx hb dX12_takes_4 rfl (lv_at hl 2 rfl) ?_
  refine lv_iadd hx hb dX12_takes_5 ?_
  refine lv_topi (fun x_1 ex_1 => ?_)
  refine lv_istore_n (lv' := [(3, .int x_1), (0, .ref h0), (1, .int p0), (2, .int p1)]) hx hb dX12_takes_6 rfl hl (by decide) rfl (fun ls hl => ?_)
  refine lv_aload_n hx hb dX12_takes_7 rfl (lv_at hl 1 rfl) ?_
  refine va_get (D := (dC, dI)) (ci := 11) (v := .ref (v 27)) (C := RX12) (T := TX12) (N := 52) hx hb hts zl_X12_takes_X12 hown hK hP 0 rfl rfl 27 (by decide) (hts (.fieldLink RX12 89 "PageOneModel" "pHigh" "[I") (zat q_wsX12_takes k_wsX12_takes 909 rfl (by decide +kernel))) (fun _ h9 => h9) rfl dX12_takes_8 ?_
  refine lv_iload_n hx hb dX12_takes_11 rfl (lv_at hl 0 rfl) ?_
  refine va_iald hx hb hK hP 27 0 rfl rfl (v6a hi hk ex_1) dX12_takes_12 ?_
  refine lv_topi (fun x_2 ex_2 => ?_)
  refine lv_istore (lv' := [(4, .int x_2), (3, .int x_1), (0, .ref h0), (1, .int p0), (2, .int p1)]) hx hb dX12_takes_13 hl (by decide) rfl (fun ls hl => ?_)
  refine lv_iload_n hx hb dX12_takes_15 rfl (lv_at hl 4 rfl) ?_
  refine lv_if_le (tgt := 39) hx hb dX12_takes_16 (by decide) (fun c_3 => ?_) (fun c_3 => ?_)
  ·
    refine lv_iload_n hx hb dX12_takes_39 rfl (lv_at hl 4 rfl) ?_
    refine lv_iconst (v := 1) hx hb dX12_takes_40 (by decide) ?_
    refine lv_iadd hx hb dX12_takes_41 ?_
    refine lv_aload_n hx hb dX12_takes_42 rfl (lv_at hl 2 rfl) ?_
    refine va_get (D := (dC, dI)) (ci := 11) (v := .ref (v 22)) (C := RX12) (T := TX12) (N := 52) hx hb hts zl_X12_takes_X12 hown hK hP 0 rfl rfl 22 (by decide) (hts (.fieldLink RX12 74 "PageOneModel" "pieces" "[I") (zat q_wsX12_takes k_wsX12_takes 904 rfl (by decide +kernel))) (fun _ h9 => h9) rfl dX12_takes_43 ?_
    refine lv_iload_n hx hb dX12_takes_46 rfl (lv_at hl 3 rfl) ?_
    refine va_iald hx hb hK hP 22 0 rfl rfl (vin hi (by decide)) dX12_takes_47 ?_
    refine lv_icmp_ge (tgt := 71) hx hb dX12_takes_48 (by decide) (fun c_4 => ?_) (fun c_4 => ?_)
    ·
      refine lv_iload hx hb dX12_takes_71 (lv_at hl 0 rfl) ?_
      exact W.iret (v := x_2) hx hb hr (fun t ht hW => ⟨_, rfl, (by subst_vars; first | (simp only [mTakes, if_pos c_3, if_pos c_4]; done) | (simp only [mTakes]; rw [if_pos c_3, if_pos c_4]; rfl)), ht⟩) (fun q h => absurd h List.not_mem_nil) dX12_takes_73
    ·
      refine lv_aload_n hx hb dX12_takes_51 rfl (lv_at hl 2 rfl) ?_
      refine va_get (D := (dC, dI)) (ci := 11) (v := .ref (v 23)) (C := RX12) (T := TX12) (N := 52) hx hb hts zl_X12_takes_X12 hown hK hP 0 rfl rfl 23 (by decide) (hts (.fieldLink RX12 77 "PageOneModel" "pPage" "[I") (zat q_wsX12_takes k_wsX12_takes 905 rfl (by decide +kernel))) (fun _ h9 => h9) rfl dX12_takes_52 ?_
      refine lv_iload_n hx hb dX12_takes_55 rfl (lv_at hl 1 rfl) ?_
      refine lv_iconst (v := 1) hx hb dX12_takes_56 (by decide) ?_
      refine lv_iadd hx hb dX12_takes_57 ?_
      refine va_iald hx hb hK hP 23 0 rfl rfl (v6p hi hk ex_1 hc c_4) dX12_takes_58 ?_
      refine lv_aload_n hx hb dX12_takes_59 rfl (lv_at hl 2 rfl) ?_
      refine va_get (D := (dC, dI)) (ci := 11) (v := .ref (v 23)) (C := RX12) (T := TX12) (N := 52) hx hb hts zl_X12_takes_X12 hown hK hP 0 rfl rfl 23 (by decide) (hts (.fieldLink RX12 77 "PageOneModel" "pPage" "[I") (zat q_wsX12_takes k_wsX12_takes 905 rfl (by decide +kernel))) (fun _ h9 => h9) rfl dX12_takes_60 ?_
      refine lv_iload_n hx hb dX12_takes_63 rfl (lv_at hl 1 rfl) ?_
      refine va_iald hx hb hK hP 23 0 rfl rfl (v6a hi hk ex_1) dX12_takes_64 ?_
      refine lv_icmp_eq (tgt := 71) hx hb dX12_takes_65 (by decide) (fun c_5 => ?_) (fun c_5 => ?_)
      ·
        refine lv_iload hx hb dX12_takes_71 (lv_at hl 0 rfl) ?_
        exact W.iret (v := x_2) hx hb hr (fun t ht hW => ⟨_, rfl, (by subst_vars; first | (simp only [mTakes, if_pos c_3, if_neg c_4, if_pos c_5]; done) | (simp only [mTakes]; rw [if_pos c_3, if_neg c_4, if_pos c_5]; rfl)), ht⟩) (fun q h => absurd h List.not_mem_nil) dX12_takes_73
      ·
        obtain ⟨x_6, ex_6⟩ : ∃ y : Int32, y = x_2 + (-1) := ⟨_, rfl⟩
        refine lv_iinc (v := x_6) (lv' := [(4, .int x_6), (3, .int x_1), (0, .ref h0), (1, .int p0), (2, .int p1)]) hx hb dX12_takes_68 hl (k := 0) rfl (by rw [ex_6]; rfl) (by decide) rfl (fun ls hl => ?_)
        refine lv_iload hx hb dX12_takes_71 (lv_at hl 0 rfl) ?_
        exact W.iret (v := x_6) hx hb hr (fun t ht hW => ⟨_, rfl, (by subst_vars; first | (simp only [mTakes, if_pos c_3, if_neg c_4, if_neg c_5]; done) | (simp only [mTakes]; rw [if_pos c_3, if_neg c_4, if_neg c_5]; rfl)), ht⟩) (fun q h => absurd h List.not_mem_nil) dX12_takes_73
  ·
    refine lv_aload_n hx hb dX12_takes_19 rfl (lv_at hl 2 rfl) ?_
    refine va_get (D := (dC, dI)) (ci := 11) (v := .ref (v 23)) (C := RX12) (T := TX12) (N := 52) hx hb hts zl_X12_takes_X12 hown hK hP 0 rfl rfl 23 (by decide) (hts (.fieldLink RX12 77 "PageOneModel" "pPage" "[I") (zat q_wsX12_takes k_wsX12_takes 905 rfl (by decide +kernel))) (fun _ h9 => h9) rfl dX12_takes_20 ?_
    refine lv_iload_n hx hb dX12_takes_23 rfl (lv_at hl 1 rfl) ?_
    refine lv_iconst (v := 1) hx hb dX12_takes_24 (by decide) ?_
    refine lv_isub hx hb dX12_takes_25 ?_
    refine va_iald hx hb hK hP 23 0 rfl rfl (v6m hi hk ex_1 c_3) dX12_takes_26 ?_
    refine lv_aload_n hx hb dX12_takes_27 rfl (lv_at hl 2 rfl) ?_
    refine va_get (D := (dC, dI)) (ci := 11) (v := .ref (v 23)) (C := RX12) (T := TX12) (N := 52) hx hb hts zl_X12_takes_X12 hown hK hP 0 rfl rfl 23 (by decide) (hts (.fieldLink RX12 77 "PageOneModel" "pPage" "[I") (zat q_wsX12_takes k_wsX12_takes 905 rfl (by decide +kernel))) (fun _ h9 => h9) rfl dX12_takes_28 ?_
    refine lv_iload_n hx hb dX12_takes_31 rfl (lv_at hl 1 rfl) ?_
    refine va_iald hx hb hK hP 23 0 rfl rfl (v6a hi hk ex_1) dX12_takes_32 ?_
    refine lv_icmp_eq (tgt := 39) hx hb dX12_takes_33 (by decide) (fun c_7 => ?_) (fun c_7 => ?_)
    ·
      refine lv_iload_n hx hb dX12_takes_39 rfl (lv_at hl 4 rfl) ?_
      refine lv_iconst (v := 1) hx hb dX12_takes_40 (by decide) ?_
      refine lv_iadd hx hb dX12_takes_41 ?_
      refine lv_aload_n hx hb dX12_takes_42 rfl (lv_at hl 2 rfl) ?_
      refine va_get (D := (dC, dI)) (ci := 11) (v := .ref (v 22)) (C := RX12) (T := TX12) (N := 52) hx hb hts zl_X12_takes_X12 hown hK hP 0 rfl rfl 22 (by decide) (hts (.fieldLink RX12 74 "PageOneModel" "pieces" "[I") (zat q_wsX12_takes k_wsX12_takes 904 rfl (by decide +kernel))) (fun _ h9 => h9) rfl dX12_takes_43 ?_
      refine lv_iload_n hx hb dX12_takes_46 rfl (lv_at hl 3 rfl) ?_
      refine va_iald hx hb hK hP 22 0 rfl rfl (vin hi (by decide)) dX12_takes_47 ?_
      refine lv_icmp_ge (tgt := 71) hx hb dX12_takes_48 (by decide) (fun c_8 => ?_) (fun c_8 => ?_)
      ·
        refine lv_iload hx hb dX12_takes_71 (lv_at hl 0 rfl) ?_
        exact W.iret (v := x_2) hx hb hr (fun t ht hW => ⟨_, rfl, (by subst_vars; first | (simp only [mTakes, if_neg c_3, if_pos c_7, if_pos c_8]; done) | (simp only [mTakes]; rw [if_neg c_3, if_pos c_7, if_pos c_8]; rfl)), ht⟩) (fun q h => absurd h List.not_mem_nil) dX12_takes_73
      ·
        refine lv_aload_n hx hb dX12_takes_51 rfl (lv_at hl 2 rfl) ?_
        refine va_get (D := (dC, dI)) (ci := 11) (v := .ref (v 23)) (C := RX12) (T := TX12) (N := 52) hx hb hts zl_X12_takes_X12 hown hK hP 0 rfl rfl 23 (by decide) (hts (.fieldLink RX12 77 "PageOneModel" "pPage" "[I") (zat q_wsX12_takes k_wsX12_takes 905 rfl (by decide +kernel))) (fun _ h9 => h9) rfl dX12_takes_52 ?_
        refine lv_iload_n hx hb dX12_takes_55 rfl (lv_at hl 1 rfl) ?_
        refine lv_iconst (v := 1) hx hb dX12_takes_56 (by decide) ?_
        refine lv_iadd hx hb dX12_takes_57 ?_
        refine va_iald hx hb hK hP 23 0 rfl rfl (v6p hi hk ex_1 hc c_8) dX12_takes_58 ?_
        refine lv_aload_n hx hb dX12_takes_59 rfl (lv_at hl 2 rfl) ?_
        refine va_get (D := (dC, dI)) (ci := 11) (v := .ref (v 23)) (C := RX12) (T := TX12) (N := 52) hx hb hts zl_X12_takes_X12 hown hK hP 0 rfl rfl 23 (by decide) (hts (.fieldLink RX12 77 "PageOneModel" "pPage" "[I") (zat q_wsX12_takes k_wsX12_takes 905 rfl (by decide +kernel))) (fun _ h9 => h9) rfl dX12_takes_60 ?_
        refine lv_iload_n hx hb dX12_takes_63 rfl (lv_at hl 1 rfl) ?_
        refine va_iald hx hb hK hP 23 0 rfl rfl (v6a hi hk ex_1) dX12_takes_64 ?_
        refine lv_icmp_eq (tgt := 71) hx hb dX12_takes_65 (by decide) (fun c_9 => ?_) (fun c_9 => ?_)
        ·
          refine lv_iload hx hb dX12_takes_71 (lv_at hl 0 rfl) ?_
          exact W.iret (v := x_2) hx hb hr (fun t ht hW => ⟨_, rfl, (by subst_vars; first | (simp only [mTakes, if_neg c_3, if_pos c_7, if_neg c_8, if_pos c_9]; done) | (simp only [mTakes]; rw [if_neg c_3, if_pos c_7, if_neg c_8, if_pos c_9]; rfl)), ht⟩) (fun q h => absurd h List.not_mem_nil) dX12_takes_73
        ·
          obtain ⟨x_10, ex_10⟩ : ∃ y : Int32, y = x_2 + (-1) := ⟨_, rfl⟩
          refine lv_iinc (v := x_10) (lv' := [(4, .int x_10), (3, .int x_1), (0, .ref h0), (1, .int p0), (2, .int p1)]) hx hb dX12_takes_68 hl (k := 0) rfl (by rw [ex_10]; rfl) (by decide) rfl (fun ls hl => ?_)
          refine lv_iload hx hb dX12_takes_71 (lv_at hl 0 rfl) ?_
          exact W.iret (v := x_10) hx hb hr (fun t ht hW => ⟨_, rfl, (by subst_vars; first | (simp only [mTakes, if_neg c_3, if_pos c_7, if_neg c_8, if_neg c_9]; done) | (simp only [mTakes]; rw [if_neg c_3, if_pos c_7, if_neg c_8, if_neg c_9]; rfl)), ht⟩) (fun q h => absurd h List.not_mem_nil) dX12_takes_73
    ·
      obtain ⟨x_11, ex_11⟩ : ∃ y : Int32, y = x_2 + (-1) := ⟨_, rfl⟩
      refine lv_iinc (v := x_11) (lv' := [(4, .int x_11), (3, .int x_1), (0, .ref h0), (1, .int p0), (2, .int p1)]) hx hb dX12_takes_36 hl (k := 0) rfl (by rw [ex_11]; rfl) (by decide) rfl (fun ls hl => ?_)
      refine lv_iload_n hx hb dX12_takes_39 rfl (lv_at hl 4 rfl) ?_
      refine lv_iconst (v := 1) hx hb dX12_takes_40 (by decide) ?_
      refine lv_iadd hx hb dX12_takes_41 ?_
      refine lv_aload_n hx hb dX12_takes_42 rfl (lv_at hl 2 rfl) ?_
      refine va_get (D := (dC, dI)) (ci := 11) (v := .ref (v 22)) (C := RX12) (T := TX12) (N := 52) hx hb hts zl_X12_takes_X12 hown hK hP 0 rfl rfl 22 (by decide) (hts (.fieldLink RX12 74 "PageOneModel" "pieces" "[I") (zat q_wsX12_takes k_wsX12_takes 904 rfl (by decide +kernel))) (fun _ h9 => h9) rfl dX12_takes_43 ?_
      refine lv_iload_n hx hb dX12_takes_46 rfl (lv_at hl 3 rfl) ?_
      refine va_iald hx hb hK hP 22 0 rfl rfl (vin hi (by decide)) dX12_takes_47 ?_
      refine lv_icmp_ge (tgt := 71) hx hb dX12_takes_48 (by decide) (fun c_12 => ?_) (fun c_12 => ?_)
      ·
        refine lv_iload hx hb dX12_takes_71 (lv_at hl 0 rfl) ?_
        exact W.iret (v := x_11) hx hb hr (fun t ht hW => ⟨_, rfl, (by subst_vars; first | (simp only [mTakes, if_neg c_3, if_neg c_7, if_pos c_12]; done) | (simp only [mTakes]; rw [if_neg c_3, if_neg c_7, if_pos c_12]; rfl)), ht⟩) (fun q h => absurd h List.not_mem_nil) dX12_takes_73
      ·
        refine lv_aload_n hx hb dX12_takes_51 rfl (lv_at hl 2 rfl) ?_
        refine va_get (D := (dC, dI)) (ci := 11) (v := .ref (v 23)) (C := RX12) (T := TX12) (N := 52) hx hb hts zl_X12_takes_X12 hown hK hP 0 rfl rfl 23 (by decide) (hts (.fieldLink RX12 77 "PageOneModel" "pPage" "[I") (zat q_wsX12_takes k_wsX12_takes 905 rfl (by decide +kernel))) (fun _ h9 => h9) rfl dX12_takes_52 ?_
        refine lv_iload_n hx hb dX12_takes_55 rfl (lv_at hl 1 rfl) ?_
        refine lv_iconst (v := 1) hx hb dX12_takes_56 (by decide) ?_
        refine lv_iadd hx hb dX12_takes_57 ?_
        refine va_iald hx hb hK hP 23 0 rfl rfl (v6p hi hk ex_1 hc c_12) dX12_takes_58 ?_
        refine lv_aload_n hx hb dX12_takes_59 rfl (lv_at hl 2 rfl) ?_
        refine va_get (D := (dC, dI)) (ci := 11) (v := .ref (v 23)) (C := RX12) (T := TX12) (N := 52) hx hb hts zl_X12_takes_X12 hown hK hP 0 rfl rfl 23 (by decide) (hts (.fieldLink RX12 77 "PageOneModel" "pPage" "[I") (zat q_wsX12_takes k_wsX12_takes 905 rfl (by decide +kernel))) (fun _ h9 => h9) rfl dX12_takes_60 ?_
        refine lv_iload_n hx hb dX12_takes_63 rfl (lv_at hl 1 rfl) ?_
        refine va_iald hx hb hK hP 23 0 rfl rfl (v6a hi hk ex_1) dX12_takes_64 ?_
        refine lv_icmp_eq (tgt := 71) hx hb dX12_takes_65 (by decide) (fun c_13 => ?_) (fun c_13 => ?_)
        ·
          refine lv_iload hx hb dX12_takes_71 (lv_at hl 0 rfl) ?_
          exact W.iret (v := x_11) hx hb hr (fun t ht hW => ⟨_, rfl, (by subst_vars; first | (simp only [mTakes, if_neg c_3, if_neg c_7, if_neg c_12, if_pos c_13]; done) | (simp only [mTakes]; rw [if_neg c_3, if_neg c_7, if_neg c_12, if_pos c_13]; rfl)), ht⟩) (fun q h => absurd h List.not_mem_nil) dX12_takes_73
        ·
          obtain ⟨x_14, ex_14⟩ : ∃ y : Int32, y = x_11 + (-1) := ⟨_, rfl⟩
          refine lv_iinc (v := x_14) (lv' := [(4, .int x_14), (3, .int x_1), (0, .ref h0), (1, .int p0), (2, .int p1)]) hx hb dX12_takes_68 hl (k := 0) rfl (by rw [ex_14]; rfl) (by decide) rfl (fun ls hl => ?_)
          refine lv_iload hx hb dX12_takes_71 (lv_at hl 0 rfl) ?_
          exact W.iret (v := x_14) hx hb hr (fun t ht hW => ⟨_, rfl, (by subst_vars; first | (simp only [mTakes, if_neg c_3, if_neg c_7, if_neg c_12, if_neg c_13]; done) | (simp only [mTakes]; rw [if_neg c_3, if_neg c_7, if_neg c_12, if_neg c_13]; rfl)), ht⟩) (fun q h => absurd h List.not_mem_nil) dX12_takes_73
theorem bwN {n : Nat} {hi : Int32} (h : (n : Int) ≤ hi.toInt) (hn : n < 2 ^ 31) : bw (nI n) 0 hi = true := by
  rw [bw_iff, nI_toInt hn, i0]; omega
set_option maxHeartbeats 4000000 in
set_option maxRecDepth 100000 in
theorem m_from_loop {p : Program} {l : Launch} {e : Env} {R : Room} {s : State} {m : MethodId} {args : Array Value} {below : List Frame} {meth : Method} {c : Code} {Q : State → Prop} {cells slots : Nat} {dC : Nat → ClassId} {dI : Nat → Nat → Nat} {h0 : Nat} {v : Nat → Nat} {cI cZ : ClassId} {H : Heap} {locs : List Loc} {u : mS} (hx : p.tables.exec = Jvm.exec) (hb : c.code = cX12_from) (hml : c.maxLocals = 5) (hts : ∀ w ∈ wsX12_from, w.before args s = true) (hown : s.vm.findClass RX12 = some m.cls) (hN : NN s) (hK : va_K (dC, dI) vwCl [(cI, .int), (cZ, .boolean)] s) (hRf : 1 ≤ R.frames) (hRl : 24 ≤ R.locals) (hRc : cells ≤ R.cells) (hRs : slots ≤ R.slots) (hP : va_P (dC, dI) vwCl (mW h0 v cI cZ u) H) {p0 : Int32} {N : Nat} (hi0 : bw p0 0 79 = true) (hN6 : N ≤ 6) (hc : bw (u.2 22 p0.toNatClampNeg) 0 6 = true) (kx : ∀ (a : Int32) (ls : Array Slot), a = mFrom u p0 N → lv_has ls 5 [(4, .int (nI N)), (3, .int a), (0, .ref h0), (1, .int p0), (2, .int (nI N))] → W p l e R s m args below meth c H locs cells slots Q (F0 m 27 ls [])) : ∀ (k i : Nat) (a : Int32) (ls : Array Slot), i ≤ N → N - i < k → a = mFrom u p0 i → lv_has ls 5 [(4, .int (nI i)), (3, .int a), (0, .ref h0), (1, .int p0), (2, .int (nI N))] → W p l e R s m args below meth c H locs cells slots Q (F0 m 5 ls []) := by
  intro k
  induction k with
  | zero => intro i a ls h1 h2; exact absurd h2 (Nat.not_lt_zero _)
  | succ k ih =>
    intro i a ls hi hk hg hl
    refine lv_iload hx hb dX12_from_5 (lv_at hl 0 rfl) ?_
    refine lv_iload_n hx hb dX12_from_7 rfl (lv_at hl 4 rfl) ?_
    refine lv_icmp_ge (tgt := 27) hx hb dX12_from_8 (by decide) (fun c_1 => ?_) (fun c_1 => ?_)
    ·
      have hie : i = N := lp_eq rfl (by omega) hi c_1
      rw [hie] at hg hl
      exact kx _ ls hg (lv_sub hl [0, 1, 2, 3, 4] rfl)
    ·
      have hlt : i < N := lp_lt rfl (by omega) hi c_1
      refine lv_iload_n hx hb dX12_from_11 rfl (lv_at hl 1 rfl) ?_
      refine lv_aload_n hx hb dX12_from_12 rfl (lv_at hl 2 rfl) ?_
      refine lv_iload_n hx hb dX12_from_13 rfl (lv_at hl 3 rfl) ?_
      refine lv_iload hx hb dX12_from_14 (lv_at hl 0 rfl) ?_
      refine vp_callSi (va_runV (As := [.int p0, .int (nI i)]) (rest := [.int a]) ⟨hx, hb, hml, hown, hts⟩ (m_takes l dC dI h0 v cI cZ u p0 (nI i) hi0 (bwN (by have h5 : (5 : Int32).toInt = 5 := rfl; rw [h5]; omega) (by omega)) hc) (cwV 2 hts gX12_from_X12_takes rfl rfl rfl zh_X12_takes_6 ⟨hRf, hRl⟩) ⟨pw_fb, va_recv hK hP (ci := 11) (q0 := 0) rfl rfl, fun U hU hW => ⟨rfl, pw_to hU hW hP hK hN⟩⟩ rfl rfl hl.1 rfl (lv_room (Nat.le_of_ble_eq_true rfl)) dX12_from_16 ⟨hRc, hRs⟩).run (fun r hw => ?_)
      obtain rfl : r = (mTakes u p0 (nI i)) := hw
      refine lv_iadd hx hb dX12_from_19 ?_
      refine lv_topi (fun x_2 ex_2 => ?_)
      refine lv_istore_n (lv' := [(3, .int x_2), (4, .int (nI i)), (0, .ref h0), (1, .int p0), (2, .int (nI N))]) hx hb dX12_from_20 rfl hl (by decide) rfl (fun ls hl => ?_)
      refine lv_iinc (v := (nI (i + 1))) (lv' := [(4, .int (nI (i + 1))), (3, .int x_2), (0, .ref h0), (1, .int p0), (2, .int (nI N))]) hx hb dX12_from_21 hl (k := 1) rfl (nI_1 i) (by decide) rfl (fun ls hl => ?_)
      refine lv_goto (tgt := 5) hx hb dX12_from_24 (by decide) ?_
      exact ih (i + 1) _ ls (by omega) (by omega) (by subst_vars; rfl) (lv_sub hl [0, 1, 2, 3, 4] rfl)
set_option maxHeartbeats 4000000 in
set_option maxRecDepth 100000 in
theorem m_from (l : Launch) (dC : Nat → ClassId) (dI : Nat → Nat → Nat) (h0 : Nat) (v : Nat → Nat) (cI cZ : ClassId) (u : mS) (p0 : Int32) (N : Nat) (hi : bw p0 0 79 = true) (hN6 : N ≤ 6) (hc : bw (u.2 22 p0.toNatClampNeg) 0 6 = true) : Met l yX12_from wsX12_from ({ frames := 1, cells := 0, slots := 0, locals := 24 }) (va_Pc [.ref h0, .int p0, .int (nI N)] (PW dC dI (mW h0 v cI cZ u) [(cI, .int), (cZ, .boolean)])) (vp_Si (fun r => r = mFrom u p0 N)) 0 0 (fun _ => False) := by
  refine Met.ofW (cc := cX12_from) (maxL := 5) (ret := (some .int)) (by decide) rfl ?_
  intro p e s m args below meth c s₁ B hml hv
  obtain ⟨rfl, hP, hK, hN⟩ := hv
  have hx := B.exec
  have hb := B.bytes
  have hr := B.returns
  have hts := atoms_spec (ws := wsX12_from) B.pre
  have hown : s.vm.findClass RX12 = some m.cls := findClass_of_methodNamed B.named
  have hlocks := B.notSynchronized
  have hl := lv_entry ([.ref h0, .int p0, .int (nI N)]) (n := 5) (Nat.le_of_ble_eq_true rfl)
  rw [lg_entry_eq]
  generalize (lg_sl ([.ref h0, .int p0, .int (nI N)]) ++ List.replicate (5 - (lg_sl ([.ref h0, .int p0, .int (nI N)])).length) Slot.unset).toArray = ls at hl ⊢
  have hl : lv_has ls 5 [(0, .ref h0), (1, .int p0), (2, .int (nI N))] := hl
  refine lv_iconst (v := 0) hx hb dX12_from_0 (by decide) ?_
  refine lv_istore_n (lv' := [(3, .int 0), (0, .ref h0), (1, .int p0), (2, .int (nI N))]) hx hb dX12_from_1 rfl hl (by decide) rfl (fun ls hl => ?_)
  refine lv_iconst (v := 0) hx hb dX12_from_2 (by decide) ?_
  refine lv_istore (lv' := [(4, .int 0), (3, .int 0), (0, .ref h0), (1, .int p0), (2, .int (nI N))]) hx hb dX12_from_3 hl (by decide) rfl (fun ls hl => ?_)
  refine m_from_loop hx hb hml hts hown hN hK (Nat.le_of_ble_eq_true rfl) (Nat.le_of_ble_eq_true rfl) (Nat.le_of_ble_eq_true rfl) (Nat.le_of_ble_eq_true rfl) hP hi hN6 hc (fun a ls hg hl => ?_) (N + 1) 0 0 ls (Nat.zero_le _) (by omega) rfl (lv_sub hl [0, 1, 2, 3, 4] rfl)
  refine lv_iload_n hx hb dX12_from_27 rfl (lv_at hl 1 rfl) ?_
  exact W.iret (v := a) hx hb hr (fun t ht hW => ⟨_, rfl, hg, ht⟩) (fun q h => absurd h List.not_mem_nil) dX12_from_28
theorem idxN {P x y : Nat} (hP : P < 12) (hx : x < 8) (hy : y < 60) : 480 * nI P + 60 * nI x + nI y = nI (480 * P + 60 * x + y) := by
  rw [show (480 : Int32) = nI 480 from rfl, show (60 : Int32) = nI 60 from rfl, pk_mul, pk_mul, nI_add, nI_add]
theorem idxV {P x y : Nat} (hP : P < 12) (hx : x < 8) (hy : y < 60) : vp_in (480 * nI P + 60 * nI x + nI y) 5760 := by
  rw [idxN hP hx hy]; exact vp_in_nI (by omega) (by decide)
/-- a stretch of a column -/
def setC (f : Nat → Int32) (P x Y n : Nat) (z : Int32) : Nat → Int32 := fun j => if 480 * P + 60 * x + Y ≤ j ∧ j < 480 * P + 60 * x + Y + n then z else f j
/-- a rectangle -/
def setR (f : Nat → Int32) (P X : Nat) (Y n : Nat) (z : Int32) : Nat → Nat → Int32
  | 0 => f
  | D + 1 => setC (setR f P X Y n z D) P (X + D) Y n z
theorem setC_0 (f : Nat → Int32) (P x Y : Nat) (z : Int32) : setC f P x Y 0 z = f := by
  funext j; unfold setC; rw [if_neg (by omega)]
theorem setC_step (u0 : mS) {P x Y i : Nat} (hP : P < 12) (hx : x < 8) (hy : Y + i < 60) (z : Int32) : mst (mput u0 2 (setC (u0.2 2) P x Y i z)) 2 (480 * nI P + 60 * nI x + nI (Y + i)) z = mput u0 2 (setC (u0.2 2) P x Y (i + 1) z) := by
  unfold mst
  rw [idxN hP hx hy, nI_clamp (by omega)]
  unfold mput
  refine Prod.ext rfl ?_
  funext j
  dsimp only
  by_cases e : j = 2
  · subst e
    rw [if_pos rfl, if_pos rfl, if_pos rfl]
    funext q
    unfold upd setC
    by_cases e1 : q = 480 * P + 60 * x + (Y + i)
    · rw [if_pos e1, if_pos (by omega)]
    · rw [if_neg e1]
      by_cases e2 : 480 * P + 60 * x + Y ≤ q ∧ q < 480 * P + 60 * x + Y + i
      · rw [if_pos e2, if_pos (by omega)]
      · rw [if_neg e2, if_neg (by omega)]
  · rw [if_neg e, if_neg e, if_neg e]
theorem mput_id (u : mS) : mput u 2 (u.2 2) = u := by
  refine Prod.ext rfl ?_
  funext j
  unfold mput
  dsimp only
  by_cases e : j = 2
  · rw [if_pos e, e]
  · rw [if_neg e]
theorem mput_2 (u : mS) (f g : Nat → Int32) : mput (mput u 2 f) 2 g = mput u 2 g := by
  refine Prod.ext rfl ?_
  funext j
  unfold mput
  dsimp only
  by_cases e : j = 2
  · rw [if_pos e, if_pos e]
  · rw [if_neg e, if_neg e, if_neg e]
theorem mst_same (u : mS) (k : Nat) (i x : Int32) : (mst u k i x).2 k i.toNatClampNeg = x := by
  unfold mst mput upd; dsimp only; rw [if_pos rfl, if_pos rfl]
theorem mst_other {u : mS} {k j : Nat} {i x : Int32} (h : j ≠ k) : (mst u k i x).2 j = u.2 j := by
  unfold mst mput; dsimp only; rw [if_neg h]
theorem mput_at (u : mS) (f : Nat → Int32) : (mput u 2 f).2 2 = f := rfl
set_option maxHeartbeats 4000000 in
set_option maxRecDepth 100000 in
theorem m_sets_in {p : Program} {l : Launch} {e : Env} {R : Room} {s : State} {m : MethodId} {args : Array Value} {below : List Frame} {meth : Method} {c : Code} {Q : State → Prop} {cells slots : Nat} {dC : Nat → ClassId} {dI : Nat → Nat → Nat} {h0 : Nat} {v : Nat → Nat} {cI cZ : ClassId} {P X Y D N : Nat} {z : Int32} (hPP : P < 12) (hXW : X + D ≤ 8) (hYN : Y + N ≤ 60) {x : Nat} {u0 : mS} (hx8 : x < 8) {A : Nat → Prop} {H0 : Heap} (hx : p.tables.exec = Jvm.exec) (hb : c.code = cX12_sets) (hml : c.maxLocals = 9) (hts : ∀ w ∈ wsX12_sets, w.before args s = true) (hown : s.vm.findClass RX12 = some m.cls) (hN : NN s) (hK : va_K (dC, dI) vwCl [(cI, .int), (cZ, .boolean)] s) (hRf : 1 ≤ R.frames) (hRl : 22 ≤ R.locals) (hRc : cells ≤ R.cells) (hRs : slots ≤ R.slots) (hA : ∀ q : Nat, H0.size ≤ q → A q) (kx : ∀ (u : mS) (H : Heap) (locs : List Loc) (ls : Array Slot), u = mput u0 2 (setC (u0.2 2) P x Y N z) → va_P (dC, dI) vwCl (mW h0 v cI cZ u) H → va_D A (mW h0 v cI cZ u) → va_S A H0 H locs → lv_has ls 9 [(8, .int (nI (Y + N))), (7, .int (nI x)), (0, .ref h0), (1, .int (nI P)), (2, .int (nI X)), (3, .int (nI Y)), (4, .int (nI D)), (5, .int (nI N)), (6, .int z)] → W p l e R s m args below meth c H locs cells slots Q (F0 m 45 ls [])) : ∀ (k i : Nat) (u : mS) (H : Heap) (locs : List Loc) (ls : Array Slot), i ≤ N → N - i < k → u = mput u0 2 (setC (u0.2 2) P x Y i z) → va_P (dC, dI) vwCl (mW h0 v cI cZ u) H → va_D A (mW h0 v cI cZ u) → va_S A H0 H locs → lv_has ls 9 [(8, .int (nI (Y + i))), (7, .int (nI x)), (0, .ref h0), (1, .int (nI P)), (2, .int (nI X)), (3, .int (nI Y)), (4, .int (nI D)), (5, .int (nI N)), (6, .int z)] → W p l e R s m args below meth c H locs cells slots Q (F0 m 15 ls []) := by
  intro k
  induction k with
  | zero => intro i u H locs ls h1 h2; exact absurd h2 (Nat.not_lt_zero _)
  | succ k ih =>
    intro i u H locs ls hi hk hg hP hD hS hl
    refine lv_iload hx hb dX12_sets_15 (lv_at hl 0 rfl) ?_
    refine lv_iload_n hx hb dX12_sets_17 rfl (lv_at hl 5 rfl) ?_
    refine lv_iload hx hb dX12_sets_18 (lv_at hl 7 rfl) ?_
    refine lv_iadd hx hb dX12_sets_20 ?_
    refine lv_icmp_ge (tgt := 45) hx hb dX12_sets_21 (by decide) (fun c_1 => ?_) (fun c_1 => ?_)
    ·
      have hie : i = N := by have := lp_eq (nI_add Y N) (by omega) (by omega) c_1; omega
      rw [hie] at hg hl
      exact kx _ _ _ ls hg hP hD hS (lv_sub hl [0, 1, 2, 3, 4, 5, 6, 7, 8] rfl)
    ·
      have hlt : Y + i < Y + N := lp_lt (nI_add Y N) (by omega) (by omega) c_1
      refine lv_aload_n hx hb dX12_sets_24 rfl (lv_at hl 2 rfl) ?_
      refine va_get (D := (dC, dI)) (ci := 11) (v := .ref (v 2)) (C := RX12) (T := TX12) (N := 52) hx hb hts zl_X12_sets_X12 hown hK hP 0 rfl rfl 2 (by decide) (hts (.fieldLink RX12 16 "PageOneModel" "cell" "[I") (zat q_wsX12_sets k_wsX12_sets 884 rfl (by decide +kernel))) (fun _ h9 => h9) rfl dX12_sets_25 ?_
      refine lv_iload_n hx hb dX12_sets_28 rfl (lv_at hl 3 rfl) ?_
      refine lv_iload hx hb dX12_sets_29 (lv_at hl 1 rfl) ?_
      refine lv_iload hx hb dX12_sets_31 (lv_at hl 0 rfl) ?_
      refine vp_callSi (va_runS (As := [.int (nI P), .int (nI x), .int (nI (Y + i))]) (rest := [.ref (v 2)]) ⟨hx, hb, hml, hown, hts⟩ (m_at l dC dI (nI P) (nI x) (nI (Y + i))) (va_cwS 3 hts gX12_sets_X12_at rfl rfl rfl zh_X12_at_7 ⟨hRf, hRl⟩) ⟨pw_fb, fun U hU hW => ⟨rfl, pw_to hU hW (hP.sub (ws' := []) [] rfl) (hK.sub (tys' := []) [] rfl) hN⟩⟩ rfl rfl hl.1 rfl (lv_room (Nat.le_of_ble_eq_true rfl)) dX12_sets_33 ⟨hRc, hRs⟩).run (fun r hw => ?_)
      obtain rfl : r = (480 * (nI P) + 60 * (nI x) + (nI (Y + i))) := hw
      refine lv_iload hx hb dX12_sets_36 (lv_at hl 8 rfl) ?_
      refine va_iast hx hb hK hP hD hS 3 0 rfl rfl (idxV hPP hx8 (by omega)) dX12_sets_38 (fun H locs hP hD hS => ?_)
      obtain ⟨u_2, eu_2⟩ : ∃ zz : mS, zz = mst u 2 (480 * (nI P) + 60 * (nI x) + (nI (Y + i))) z := ⟨_, rfl⟩
      have hP : va_P (dC, dI) vwCl (mW h0 v cI cZ u_2) H := by rw [eu_2]; exact hP
      have hD : va_D A (mW h0 v cI cZ u_2) := by rw [eu_2]; exact hD
      refine lv_iinc (v := (nI (Y + i + 1))) (lv' := [(8, .int (nI (Y + i + 1))), (7, .int (nI x)), (0, .ref h0), (1, .int (nI P)), (2, .int (nI X)), (3, .int (nI Y)), (4, .int (nI D)), (5, .int (nI N)), (6, .int z)]) hx hb dX12_sets_39 hl (k := 0) rfl (nI_1 _) (by decide) rfl (fun ls hl => ?_)
      refine lv_goto (tgt := 15) hx hb dX12_sets_42 (by decide) ?_
      exact ih (i + 1) _ _ _ ls (by omega) (by omega) (by subst_vars; exact setC_step u0 hPP hx8 (by omega) z) hP hD hS (lv_sub hl [0, 1, 2, 3, 4, 5, 6, 7, 8] rfl)
set_option maxHeartbeats 4000000 in
set_option maxRecDepth 100000 in
theorem m_sets_out {p : Program} {l : Launch} {e : Env} {R : Room} {s : State} {m : MethodId} {args : Array Value} {below : List Frame} {meth : Method} {c : Code} {Q : State → Prop} {cells slots : Nat} {dC : Nat → ClassId} {dI : Nat → Nat → Nat} {h0 : Nat} {v : Nat → Nat} {cI cZ : ClassId} {P X Y D N : Nat} {z : Int32} (hPP : P < 12) (hXW : X + D ≤ 8) (hYN : Y + N ≤ 60) {u0 : mS} {A : Nat → Prop} {H0 : Heap} (hx : p.tables.exec = Jvm.exec) (hb : c.code = cX12_sets) (hml : c.maxLocals = 9) (hts : ∀ w ∈ wsX12_sets, w.before args s = true) (hown : s.vm.findClass RX12 = some m.cls) (hN : NN s) (hK : va_K (dC, dI) vwCl [(cI, .int), (cZ, .boolean)] s) (hRf : 1 ≤ R.frames) (hRl : 22 ≤ R.locals) (hRc : cells ≤ R.cells) (hRs : slots ≤ R.slots) (hA : ∀ q : Nat, H0.size ≤ q → A q) (kx : ∀ (u : mS) (H : Heap) (locs : List Loc) (ls : Array Slot), u = mput u0 2 (setR (u0.2 2) P X Y N z D) → va_P (dC, dI) vwCl (mW h0 v cI cZ u) H → va_D A (mW h0 v cI cZ u) → va_S A H0 H locs → lv_has ls 9 [(7, .int (nI (X + D))), (0, .ref h0), (1, .int (nI P)), (2, .int (nI X)), (3, .int (nI Y)), (4, .int (nI D)), (5, .int (nI N)), (6, .int z)] → W p l e R s m args below meth c H locs cells slots Q (F0 m 51 ls [])) : ∀ (k i : Nat) (u : mS) (H : Heap) (locs : List Loc) (ls : Array Slot), i ≤ D → D - i < k → u = mput u0 2 (setR (u0.2 2) P X Y N z i) → va_P (dC, dI) vwCl (mW h0 v cI cZ u) H → va_D A (mW h0 v cI cZ u) → va_S A H0 H locs → lv_has ls 9 [(7, .int (nI (X + i))), (0, .ref h0), (1, .int (nI P)), (2, .int (nI X)), (3, .int (nI Y)), (4, .int (nI D)), (5, .int (nI N)), (6, .int z)] → W p l e R s m args below meth c H locs cells slots Q (F0 m 3 ls []) := by
  intro k
  induction k with
  | zero => intro i u H locs ls h1 h2; exact absurd h2 (Nat.not_lt_zero _)
  | succ k ih =>
    intro i u H locs ls hi hk hg hP hD hS hl
    refine lv_iload hx hb dX12_sets_3 (lv_at hl 0 rfl) ?_
    refine lv_iload_n hx hb dX12_sets_5 rfl (lv_at hl 3 rfl) ?_
    refine lv_iload hx hb dX12_sets_6 (lv_at hl 5 rfl) ?_
    refine lv_iadd hx hb dX12_sets_8 ?_
    refine lv_icmp_ge (tgt := 51) hx hb dX12_sets_9 (by decide) (fun c_1 => ?_) (fun c_1 => ?_)
    ·
      have hie : i = D := by have := lp_eq (nI_add X D) (by omega) (by omega) c_1; omega
      rw [hie] at hg hl
      exact kx _ _ _ ls hg hP hD hS (lv_sub hl [0, 1, 2, 3, 4, 5, 6, 7] rfl)
    ·
      have hlt : X + i < X + D := lp_lt (nI_add X D) (by omega) (by omega) c_1
      refine lv_iload_n hx hb dX12_sets_12 rfl (lv_at hl 4 rfl) ?_
      refine lv_istore (lv' := [(8, .int (nI Y)), (7, .int (nI (X + i))), (0, .ref h0), (1, .int (nI P)), (2, .int (nI X)), (3, .int (nI Y)), (4, .int (nI D)), (5, .int (nI N)), (6, .int z)]) hx hb dX12_sets_13 hl (by decide) rfl (fun ls hl => ?_)
      refine m_sets_in (x := X + i) (u0 := u) (Y := Y) (N := N) (X := X) (D := D) (P := P) (z := z) hPP hXW hYN (by omega) hx hb hml hts hown hN hK hRf hRl hRc hRs hA (fun u2 H locs ls hg2 hP hD hS hl => ?_) (N + 1) 0 u _ _ ls (Nat.zero_le _) (by omega) (by rw [setC_0, mput_id]) hP hD hS (lv_sub hl [0, 1, 2, 3, 4, 5, 6, 7, 8] rfl)
      refine lv_iinc (v := (nI (X + i + 1))) (lv' := [(7, .int (nI (X + i + 1))), (8, .int (nI (Y + N))), (0, .ref h0), (1, .int (nI P)), (2, .int (nI X)), (3, .int (nI Y)), (4, .int (nI D)), (5, .int (nI N)), (6, .int z)]) hx hb dX12_sets_45 hl (k := 1) rfl (nI_1 _) (by decide) rfl (fun ls hl => ?_)
      refine lv_goto (tgt := 3) hx hb dX12_sets_48 (by decide) ?_
      exact ih (i + 1) _ _ _ ls (by omega) (by omega) (by subst_vars; rw [mput_at, mput_2]; rfl) hP hD hS (lv_sub hl [0, 2, 3, 4, 5, 6, 7, 8] rfl)
set_option maxHeartbeats 4000000 in
set_option maxRecDepth 100000 in
theorem m_sets (l : Launch) (dC : Nat → ClassId) (dI : Nat → Nat → Nat) (h0 : Nat) (v : Nat → Nat) (cI cZ : ClassId) (u : mS) (P X Y D N : Nat) (z : Int32) (hPP : P < 12) (hXW : X + D ≤ 8) (hYN : Y + N ≤ 60) (sz : Nat) : Met l yX12_sets wsX12_sets ({ frames := 1, cells := 0, slots := 0, locals := 22 }) (va_Pc [.ref h0, .int (nI P), .int (nI X), .int (nI Y), .int (nI D), .int (nI N), .int z] (fun U => U.heap.size = sz ∧ PW dC dI (mW h0 v cI cZ u) [(cI, .int), (cZ, .boolean)] U ∧ va_D (fun _ => True) (mW h0 v cI cZ u))) (va_Qv (fun u9 : mS => u9 = mput u 2 (setR (u.2 2) P X Y N z D)) (fun u9 t => va_P (dC, dI) vwCl (mW h0 v cI cZ u9) t.heap ∧ va_D (va_A (mW h0 v cI cZ u) sz) (mW h0 v cI cZ u9)) (va_A (mW h0 v cI cZ u) sz)) 0 0 (va_A (mW h0 v cI cZ u) sz) := by
  refine Met.ofW (cc := cX12_sets) (maxL := 9) (ret := none) (by decide) rfl ?_
  intro p e s m args below meth c s₁ B hml hv
  obtain ⟨rfl, hsz, ⟨hP, hK, hN⟩, hD0⟩ := hv
  have hx := B.exec
  have hb := B.bytes
  have hr := B.returns
  have hts := atoms_spec (ws := wsX12_sets) B.pre
  have hown : s.vm.findClass RX12 = some m.cls := findClass_of_methodNamed B.named
  have hlocks := B.notSynchronized
  subst hsz
  have hD := hD0.self (sz := s.heap.size)
  generalize hAe : va_A (mW h0 v cI cZ u) s.heap.size = A at hD ⊢
  have hA : ∀ q : Nat, s.heap.size ≤ q → A q := fun q h => by rw [← hAe]; exact Or.inr h
  have hS : va_S A s.heap s.heap [] := va_S.rf
  have hl := lv_entry ([.ref h0, .int (nI P), .int (nI X), .int (nI Y), .int (nI D), .int (nI N), .int z]) (n := 9) (Nat.le_of_ble_eq_true rfl)
  rw [lg_entry_eq]
  generalize (lg_sl ([.ref h0, .int (nI P), .int (nI X), .int (nI Y), .int (nI D), .int (nI N), .int z]) ++ List.replicate (9 - (lg_sl ([.ref h0, .int (nI P), .int (nI X), .int (nI Y), .int (nI D), .int (nI N), .int z])).length) Slot.unset).toArray = ls at hl ⊢
  have hl : lv_has ls 9 [(0, .ref h0), (1, .int (nI P)), (2, .int (nI X)), (3, .int (nI Y)), (4, .int (nI D)), (5, .int (nI N)), (6, .int z)] := hl
  refine lv_iload_n hx hb dX12_sets_0 rfl (lv_at hl 2 rfl) ?_
  refine lv_istore (lv' := [(7, .int (nI X)), (0, .ref h0), (1, .int (nI P)), (2, .int (nI X)), (3, .int (nI Y)), (4, .int (nI D)), (5, .int (nI N)), (6, .int z)]) hx hb dX12_sets_1 hl (by decide) rfl (fun ls hl => ?_)
  refine m_sets_out (u0 := u) (X := X) (D := D) (Y := Y) (N := N) (P := P) (z := z) hPP hXW hYN hx hb hml hts hown hN hK (Nat.le_of_ble_eq_true rfl) (Nat.le_of_ble_eq_true rfl) (Nat.le_of_ble_eq_true rfl) (Nat.le_of_ble_eq_true rfl) hA (fun u2 H locs ls hg hP hD hS hl => ?_) (D + 1) 0 u _ _ ls (Nat.zero_le _) (by omega) (mput_id u).symm hP hD hS (lv_sub hl [0, 1, 2, 3, 4, 5, 6, 7] rfl)
  exact W.vret hx hb hr (fun t ht hW => ⟨⟨u2, rfl, hg, by rw [ht]; exact hP, hD⟩, hS.F ht⟩) hS.2.2 dX12_sets_51
def mCell (u : mS) (p c l : Int32) : Bool := bw p 0 11 && bw c 0 7 && bw l 0 (u.2 0 (8 * p + c).toNatClampNeg - 1)
def mThing (x : Int32) : Bool := !decide (x < 0) && !decide (x = 100)
def mNow (u : mS) (p : Int32) : Bool := !decide (u.2 40 p.toNatClampNeg = 0) && (decide (u.2 41 p.toNatClampNeg = u.1 38) && decide (u.2 42 p.toNatClampNeg = u.1 39))
def mForget (u : mS) : mS := mset (mset u 28 0) 36 0
def mActs (u : mS) (k a b c d e f : Int32) : mS :=
  let u1 := mst u 29 (u.1 28) k
  let u2 := mst u1 30 (u1.1 28) a
  let u3 := mst u2 31 (u2.1 28) b
  let u4 := mst u3 32 (u3.1 28) c
  let u5 := mst u4 33 (u4.1 28) d
  let u6 := mst u5 34 (u5.1 28) e
  let u7 := mst u6 35 (u6.1 28) f
  mset u7 28 (u7.1 28 + 1)
/-- the piece's place and size into its slot, the count, the cells -/
def mStand (u : mS) (i : Int32) (P X Y D N : Nat) : mS :=
  let k := 6 * i + u.2 22 i.toNatClampNeg
  let u5 := mst (mst (mst (mst (mst u 23 k (nI P)) 24 k (nI X)) 25 k (nI Y)) 26 k (nI D)) 27 k (nI N)
  let u6 := mst u5 22 i (u5.2 22 i.toNatClampNeg + 1)
  mput u6 2 (setR (u6.2 2) P X Y N i D)
def mUnstand (u : mS) (i : Int32) (P X Y D N : Nat) : mS :=
  let u1 := mst u 22 i (u.2 22 i.toNatClampNeg - 1)
  mput u1 2 (setR (u1.2 2) P X Y N (-2) D)
theorem vAct {n : Int32} (h : bw n 0 299 = true) : vp_in n 300 := vin h (by decide)
set_option maxHeartbeats 4000000 in
set_option maxRecDepth 100000 in
theorem m_isCell (l : Launch) (dC : Nat → ClassId) (dI : Nat → Nat → Nat) (h0 : Nat) (v : Nat → Nat) (cI cZ : ClassId) (u : mS) (p0 p1 p2 : Int32) : Met l yX12_isCell wsX12_isCell ({ frames := 2, cells := 0, slots := 0, locals := 42 }) (va_Pc [.ref h0, .int p0, .int p1, .int p2] (PW dC dI (mW h0 v cI cZ u) [(cI, .int), (cZ, .boolean)])) (vp_Si (fun r => r = bi (mCell u p0 p1 p2))) 0 0 (fun _ => False) := by
  refine Met.ofW (cc := cX12_isCell) (maxL := 4) (ret := (some .boolean)) (by decide) rfl ?_
  intro p e s m args below meth c s₁ B hml hv
  obtain ⟨rfl, hP, hK, hN⟩ := hv
  have hx := B.exec
  have hb := B.bytes
  have hr := B.returns
  have hts := atoms_spec (ws := wsX12_isCell) B.pre
  have hown : s.vm.findClass RX12 = some m.cls := findClass_of_methodNamed B.named
  have hlocks := B.notSynchronized
  have hl := lv_entry ([.ref h0, .int p0, .int p1, .int p2]) (n := 4) (Nat.le_of_ble_eq_true rfl)
  rw [lg_entry_eq]
  generalize (lg_sl ([.ref h0, .int p0, .int p1, .int p2]) ++ List.replicate (4 - (lg_sl ([.ref h0, .int p0, .int p1, .int p2])).length) Slot.unset).toArray = ls at hl ⊢
  have hl : lv_has ls 4 [(0, .ref h0), (1, .int p0), (2, .int p1), (3, .int p2)] := hl
  refine lv_iload_n hx hb dX12_isCell_0 rfl (lv_at hl 1 rfl) ?_
  refine vp_callSi (va_runS (As := [.int p0]) (rest := []) ⟨hx, hb, hml, hown, hts⟩ (m_isPage l dC dI p0) (va_cwS 1 hts gX12_isCell_X12_isPage rfl rfl rfl zh_X12_isPage_4 ⟨Nat.le_of_ble_eq_true rfl, Nat.le_of_ble_eq_true rfl⟩) ⟨pw_fb, fun U hU hW => ⟨rfl, pw_to hU hW (hP.sub (ws' := []) [] rfl) (hK.sub (tys' := []) [] rfl) hN⟩⟩ rfl rfl hl.1 rfl (lv_room (Nat.le_of_ble_eq_true rfl)) dX12_isCell_1 ⟨Nat.le_of_ble_eq_true rfl, Nat.le_of_ble_eq_true rfl⟩).run (fun r hw => ?_)
  rcases Bool.eq_false_or_eq_true (bw p0 0 11) with b_1 | b_1
  ·
    obtain rfl : r = 1 := b_t hw b_1
    refine lv_if_eq (tgt := 42) hx hb dX12_isCell_4 (by decide) (fun c_2 => absurd c_2 (by decide)) (fun c_2 => ?_)
    refine lv_iload_n hx hb dX12_isCell_7 rfl (lv_at hl 2 rfl) ?_
    refine lv_iconst (v := 0) hx hb dX12_isCell_8 (by decide) ?_
    refine lv_bipush (v := 7) hx hb dX12_isCell_9 (by decide) ?_
    refine vp_callSi (va_runS (As := [.int p1, .int 0, .int 7]) (rest := []) ⟨hx, hb, hml, hown, hts⟩ (m_in l dC dI p1 0 7) (va_cwS 3 hts gX12_isCell_X12_in rfl rfl rfl zh_X12_in_0 ⟨Nat.le_of_ble_eq_true rfl, Nat.le_of_ble_eq_true rfl⟩) ⟨pw_fb, fun U hU hW => ⟨rfl, pw_to hU hW (hP.sub (ws' := []) [] rfl) (hK.sub (tys' := []) [] rfl) hN⟩⟩ rfl rfl hl.1 rfl (lv_room (Nat.le_of_ble_eq_true rfl)) dX12_isCell_11 ⟨Nat.le_of_ble_eq_true rfl, Nat.le_of_ble_eq_true rfl⟩).run (fun r hw => ?_)
    rcases Bool.eq_false_or_eq_true (bw p1 0 7) with b_3 | b_3
    ·
      obtain rfl : r = 1 := b_t hw b_3
      refine lv_if_eq (tgt := 42) hx hb dX12_isCell_14 (by decide) (fun c_4 => absurd c_4 (by decide)) (fun c_4 => ?_)
      refine lv_iload_n hx hb dX12_isCell_17 rfl (lv_at hl 3 rfl) ?_
      refine lv_iconst (v := 0) hx hb dX12_isCell_18 (by decide) ?_
      refine lv_aload_n hx hb dX12_isCell_19 rfl (lv_at hl 0 rfl) ?_
      refine va_get (D := (dC, dI)) (ci := 11) (v := .ref (v 0)) (C := RX12) (T := TX12) (N := 52) hx hb hts zl_X12_isCell_X12 hown hK hP 0 rfl rfl 0 (by decide) (hts (.fieldLink RX12 7 "PageOneModel" "lines" "[I") (zat q_wsX12_isCell k_wsX12_isCell 882 rfl (by decide +kernel))) (fun _ h9 => h9) rfl dX12_isCell_20 ?_
      refine lv_bipush (v := 8) hx hb dX12_isCell_23 (by decide) ?_
      refine lv_iload_n hx hb dX12_isCell_25 rfl (lv_at hl 1 rfl) ?_
      refine lv_imul hx hb dX12_isCell_26 ?_
      refine lv_iload_n hx hb dX12_isCell_27 rfl (lv_at hl 2 rfl) ?_
      refine lv_iadd hx hb dX12_isCell_28 ?_
      refine va_iald hx hb hK hP 1 0 rfl rfl (vin8 b_1 b_3) dX12_isCell_29 ?_
      refine lv_iconst (v := 1) hx hb dX12_isCell_30 (by decide) ?_
      refine lv_isub hx hb dX12_isCell_31 ?_
      refine vp_callSi (va_runS (As := [.int p2, .int 0, .int ((u.2 0 (((8 * p0) + p1) : Int32).toNatClampNeg) - 1)]) (rest := []) ⟨hx, hb, hml, hown, hts⟩ (m_in l dC dI p2 0 ((u.2 0 (((8 * p0) + p1) : Int32).toNatClampNeg) - 1)) (va_cwS 3 hts gX12_isCell_X12_in rfl rfl rfl zh_X12_in_0 ⟨Nat.le_of_ble_eq_true rfl, Nat.le_of_ble_eq_true rfl⟩) ⟨pw_fb, fun U hU hW => ⟨rfl, pw_to hU hW (hP.sub (ws' := []) [] rfl) (hK.sub (tys' := []) [] rfl) hN⟩⟩ rfl rfl hl.1 rfl (lv_room (Nat.le_of_ble_eq_true rfl)) dX12_isCell_32 ⟨Nat.le_of_ble_eq_true rfl, Nat.le_of_ble_eq_true rfl⟩).run (fun r hw => ?_)
      rcases Bool.eq_false_or_eq_true (bw p2 0 ((u.2 0 (((8 * p0) + p1) : Int32).toNatClampNeg) - 1)) with b_5 | b_5
      ·
        obtain rfl : r = 1 := b_t hw b_5
        refine lv_if_eq (tgt := 42) hx hb dX12_isCell_35 (by decide) (fun c_6 => absurd c_6 (by decide)) (fun c_6 => ?_)
        refine lv_iconst (v := 1) hx hb dX12_isCell_38 (by decide) ?_
        refine lv_goto (tgt := 43) hx hb dX12_isCell_39 (by decide) ?_
        exact W.zret (v := 1) hx hb hr (by decide) (fun t ht hW => ⟨_, rfl, (by simp [bi, mCell, b_1, b_3, b_5]), ht⟩) (fun q h => absurd h List.not_mem_nil) dX12_isCell_43
      ·
        obtain rfl : r = 0 := b_f hw b_5
        refine lv_if_eq (tgt := 42) hx hb dX12_isCell_35 (by decide) (fun c_7 => ?_) (fun c_7 => absurd (by decide) c_7)
        refine lv_iconst (v := 0) hx hb dX12_isCell_42 (by decide) ?_
        exact W.zret (v := 0) hx hb hr (by decide) (fun t ht hW => ⟨_, rfl, (by simp [bi, mCell, b_1, b_3, b_5]), ht⟩) (fun q h => absurd h List.not_mem_nil) dX12_isCell_43
    ·
      obtain rfl : r = 0 := b_f hw b_3
      refine lv_if_eq (tgt := 42) hx hb dX12_isCell_14 (by decide) (fun c_8 => ?_) (fun c_8 => absurd (by decide) c_8)
      refine lv_iconst (v := 0) hx hb dX12_isCell_42 (by decide) ?_
      exact W.zret (v := 0) hx hb hr (by decide) (fun t ht hW => ⟨_, rfl, (by simp [bi, mCell, b_1, b_3]), ht⟩) (fun q h => absurd h List.not_mem_nil) dX12_isCell_43
  ·
    obtain rfl : r = 0 := b_f hw b_1
    refine lv_if_eq (tgt := 42) hx hb dX12_isCell_4 (by decide) (fun c_9 => ?_) (fun c_9 => absurd (by decide) c_9)
    refine lv_iconst (v := 0) hx hb dX12_isCell_42 (by decide) ?_
    exact W.zret (v := 0) hx hb hr (by decide) (fun t ht hW => ⟨_, rfl, (by simp [bi, mCell, b_1]), ht⟩) (fun q h => absurd h List.not_mem_nil) dX12_isCell_43
set_option maxHeartbeats 4000000 in
set_option maxRecDepth 100000 in
theorem m_isThing (l : Launch) (dC : Nat → ClassId) (dI : Nat → Nat → Nat) (h0 : Nat) (v : Nat → Nat) (cI cZ : ClassId) (u : mS) (p0 : Int32) : Met l yX12_isThing wsX12_isThing ({ frames := 0, cells := 0, slots := 0, locals := 0 }) (va_Pc [.ref h0, .int p0] (PW dC dI (mW h0 v cI cZ u) [(cI, .int), (cZ, .boolean)])) (vp_Si (fun r => r = bi (mThing p0))) 0 0 (fun _ => False) := by
  refine Met.ofW (cc := cX12_isThing) (maxL := 2) (ret := (some .boolean)) (by decide) rfl ?_
  intro p e s m args below meth c s₁ B hml hv
  obtain ⟨rfl, hP, hK, hN⟩ := hv
  have hx := B.exec
  have hb := B.bytes
  have hr := B.returns
  have hts := atoms_spec (ws := wsX12_isThing) B.pre
  have hown : s.vm.findClass RX12 = some m.cls := findClass_of_methodNamed B.named
  have hlocks := B.notSynchronized
  have hl := lv_entry ([.ref h0, .int p0]) (n := 2) (Nat.le_of_ble_eq_true rfl)
  rw [lg_entry_eq]
  generalize (lg_sl ([.ref h0, .int p0]) ++ List.replicate (2 - (lg_sl ([.ref h0, .int p0])).length) Slot.unset).toArray = ls at hl ⊢
  have hl : lv_has ls 2 [(0, .ref h0), (1, .int p0)] := hl
  refine lv_iload_n hx hb dX12_isThing_0 rfl (lv_at hl 1 rfl) ?_
  refine lv_if_lt (tgt := 14) hx hb dX12_isThing_1 (by decide) (fun c_1 => ?_) (fun c_1 => ?_)
  ·
    refine lv_iconst (v := 0) hx hb dX12_isThing_14 (by decide) ?_
    exact W.zret (v := 0) hx hb hr (by decide) (fun t ht hW => ⟨_, rfl, (by simp [bi, mThing, c_1]), ht⟩) (fun q h => absurd h List.not_mem_nil) dX12_isThing_15
  ·
    refine lv_iload_n hx hb dX12_isThing_4 rfl (lv_at hl 1 rfl) ?_
    refine lv_bipush (v := 100) hx hb dX12_isThing_5 (by decide) ?_
    refine lv_icmp_eq (tgt := 14) hx hb dX12_isThing_7 (by decide) (fun c_2 => ?_) (fun c_2 => ?_)
    ·
      refine lv_iconst (v := 0) hx hb dX12_isThing_14 (by decide) ?_
      exact W.zret (v := 0) hx hb hr (by decide) (fun t ht hW => ⟨_, rfl, (by simp [bi, mThing, c_1, c_2]), ht⟩) (fun q h => absurd h List.not_mem_nil) dX12_isThing_15
    ·
      refine lv_iconst (v := 1) hx hb dX12_isThing_10 (by decide) ?_
      refine lv_goto (tgt := 15) hx hb dX12_isThing_11 (by decide) ?_
      exact W.zret (v := 1) hx hb hr (by decide) (fun t ht hW => ⟨_, rfl, (by simp [bi, mThing, c_1, c_2]), ht⟩) (fun q h => absurd h List.not_mem_nil) dX12_isThing_15
set_option maxHeartbeats 4000000 in
set_option maxRecDepth 100000 in
theorem m_isNow (l : Launch) (dC : Nat → ClassId) (dI : Nat → Nat → Nat) (h0 : Nat) (v : Nat → Nat) (cI cZ : ClassId) (u : mS) (p0 : Int32) (hp : bw p0 0 11 = true) : Met l yX12_isNow wsX12_isNow ({ frames := 0, cells := 0, slots := 0, locals := 0 }) (va_Pc [.ref h0, .int p0] (PW dC dI (mW h0 v cI cZ u) [(cI, .int), (cZ, .boolean)])) (vp_Si (fun r => r = bi (mNow u p0))) 0 0 (fun _ => False) := by
  refine Met.ofW (cc := cX12_isNow) (maxL := 2) (ret := (some .boolean)) (by decide) rfl ?_
  intro p e s m args below meth c s₁ B hml hv
  obtain ⟨rfl, hP, hK, hN⟩ := hv
  have hx := B.exec
  have hb := B.bytes
  have hr := B.returns
  have hts := atoms_spec (ws := wsX12_isNow) B.pre
  have hown : s.vm.findClass RX12 = some m.cls := findClass_of_methodNamed B.named
  have hlocks := B.notSynchronized
  have hl := lv_entry ([.ref h0, .int p0]) (n := 2) (Nat.le_of_ble_eq_true rfl)
  rw [lg_entry_eq]
  generalize (lg_sl ([.ref h0, .int p0]) ++ List.replicate (2 - (lg_sl ([.ref h0, .int p0])).length) Slot.unset).toArray = ls at hl ⊢
  have hl : lv_has ls 2 [(0, .ref h0), (1, .int p0)] := hl
  refine lv_aload_n hx hb dX12_isNow_0 rfl (lv_at hl 0 rfl) ?_
  refine va_get (D := (dC, dI)) (ci := 11) (v := .ref (v 40)) (C := RX12) (T := TX12) (N := 52) hx hb hts zl_X12_isNow_X12 hown hK hP 0 rfl rfl 40 (by decide) (hts (.fieldLink RX12 116 "PageOneModel" "isPlated" "[Z") (zat q_wsX12_isNow k_wsX12_isNow 922 rfl (by decide +kernel))) (fun _ h9 => h9) rfl dX12_isNow_1 ?_
  refine lv_iload_n hx hb dX12_isNow_4 rfl (lv_at hl 1 rfl) ?_
  refine va_zald hx hb hK hP 36 1 rfl rfl (vin hp (by decide)) dX12_isNow_5 ?_
  refine lv_if_eq (tgt := 39) hx hb dX12_isNow_6 (by decide) (fun c_1 => ?_) (fun c_1 => ?_)
  ·
    refine lv_iconst (v := 0) hx hb dX12_isNow_39 (by decide) ?_
    exact W.zret (v := 0) hx hb hr (by decide) (fun t ht hW => ⟨_, rfl, (by simp [bi, mNow, c_1]), ht⟩) (fun q h => absurd h List.not_mem_nil) dX12_isNow_40
  ·
    refine lv_aload_n hx hb dX12_isNow_9 rfl (lv_at hl 0 rfl) ?_
    refine va_get (D := (dC, dI)) (ci := 11) (v := .ref (v 41)) (C := RX12) (T := TX12) (N := 52) hx hb hts zl_X12_isNow_X12 hown hK hP 0 rfl rfl 41 (by decide) (hts (.fieldLink RX12 119 "PageOneModel" "plateDay" "[I") (zat q_wsX12_isNow k_wsX12_isNow 923 rfl (by decide +kernel))) (fun _ h9 => h9) rfl dX12_isNow_10 ?_
    refine lv_iload_n hx hb dX12_isNow_13 rfl (lv_at hl 1 rfl) ?_
    refine va_iald hx hb hK hP 37 0 rfl rfl (vin hp (by decide)) dX12_isNow_14 ?_
    refine lv_aload_n hx hb dX12_isNow_15 rfl (lv_at hl 0 rfl) ?_
    refine va_get (D := (dC, dI)) (ci := 11) (v := .int (u.1 38)) (C := RX12) (T := TX12) (N := 52) hx hb hts zl_X12_isNow_X12 hown hK hP 0 rfl rfl 38 (by decide) (hts (.fieldLink RX12 206 "PageOneModel" "day" "I") (zat q_wsX12_isNow k_wsX12_isNow 920 rfl (by decide +kernel))) (fun _ h9 => h9) rfl dX12_isNow_16 ?_
    refine lv_icmp_ne (tgt := 39) hx hb dX12_isNow_19 (by decide) (fun c_2 => ?_) (fun c_2 => ?_)
    ·
      refine lv_iconst (v := 0) hx hb dX12_isNow_39 (by decide) ?_
      exact W.zret (v := 0) hx hb hr (by decide) (fun t ht hW => ⟨_, rfl, (by simp [bi, mNow, c_1, c_2]), ht⟩) (fun q h => absurd h List.not_mem_nil) dX12_isNow_40
    ·
      refine lv_aload_n hx hb dX12_isNow_22 rfl (lv_at hl 0 rfl) ?_
      refine va_get (D := (dC, dI)) (ci := 11) (v := .ref (v 42)) (C := RX12) (T := TX12) (N := 52) hx hb hts zl_X12_isNow_X12 hown hK hP 0 rfl rfl 42 (by decide) (hts (.fieldLink RX12 122 "PageOneModel" "plateEdition" "[I") (zat q_wsX12_isNow k_wsX12_isNow 924 rfl (by decide +kernel))) (fun _ h9 => h9) rfl dX12_isNow_23 ?_
      refine lv_iload_n hx hb dX12_isNow_26 rfl (lv_at hl 1 rfl) ?_
      refine va_iald hx hb hK hP 38 0 rfl rfl (vin hp (by decide)) dX12_isNow_27 ?_
      refine lv_aload_n hx hb dX12_isNow_28 rfl (lv_at hl 0 rfl) ?_
      refine va_get (D := (dC, dI)) (ci := 11) (v := .int (u.1 39)) (C := RX12) (T := TX12) (N := 52) hx hb hts zl_X12_isNow_X12 hown hK hP 0 rfl rfl 39 (by decide) (hts (.fieldLink RX12 257 "PageOneModel" "edition" "I") (zat q_wsX12_isNow k_wsX12_isNow 921 rfl (by decide +kernel))) (fun _ h9 => h9) rfl dX12_isNow_29 ?_
      refine lv_icmp_ne (tgt := 39) hx hb dX12_isNow_32 (by decide) (fun c_3 => ?_) (fun c_3 => ?_)
      ·
        refine lv_iconst (v := 0) hx hb dX12_isNow_39 (by decide) ?_
        exact W.zret (v := 0) hx hb hr (by decide) (fun t ht hW => ⟨_, rfl, (by simp [bi, mNow, c_1, c_2, c_3]), ht⟩) (fun q h => absurd h List.not_mem_nil) dX12_isNow_40
      ·
        refine lv_iconst (v := 1) hx hb dX12_isNow_35 (by decide) ?_
        refine lv_goto (tgt := 40) hx hb dX12_isNow_36 (by decide) ?_
        exact W.zret (v := 1) hx hb hr (by decide) (fun t ht hW => ⟨_, rfl, (by simp [bi, mNow, c_1, c_2, c_3]), ht⟩) (fun q h => absurd h List.not_mem_nil) dX12_isNow_40
set_option maxHeartbeats 4000000 in
set_option maxRecDepth 100000 in
theorem m_forget (l : Launch) (dC : Nat → ClassId) (dI : Nat → Nat → Nat) (h0 : Nat) (v : Nat → Nat) (cI cZ : ClassId) (u : mS) (sz : Nat) : Met l yX12_forget wsX12_forget ({ frames := 0, cells := 0, slots := 0, locals := 0 }) (va_Pc [.ref h0] (fun U => U.heap.size = sz ∧ PW dC dI (mW h0 v cI cZ u) [(cI, .int), (cZ, .boolean)] U ∧ va_D (fun _ => True) (mW h0 v cI cZ u))) (va_Qv (fun u9 : mS => u9 = mForget u) (fun u9 t => va_P (dC, dI) vwCl (mW h0 v cI cZ u9) t.heap ∧ va_D (va_A (mW h0 v cI cZ u) sz) (mW h0 v cI cZ u9)) (va_A (mW h0 v cI cZ u) sz)) 0 0 (va_A (mW h0 v cI cZ u) sz) := by
  refine Met.ofW (cc := cX12_forget) (maxL := 1) (ret := none) (by decide) rfl ?_
  intro p e s m args below meth c s₁ B hml hv
  obtain ⟨rfl, hsz, ⟨hP, hK, hN⟩, hD0⟩ := hv
  have hx := B.exec
  have hb := B.bytes
  have hr := B.returns
  have hts := atoms_spec (ws := wsX12_forget) B.pre
  have hown : s.vm.findClass RX12 = some m.cls := findClass_of_methodNamed B.named
  have hlocks := B.notSynchronized
  subst hsz
  have hD := hD0.self (sz := s.heap.size)
  generalize hAe : va_A (mW h0 v cI cZ u) s.heap.size = A at hD ⊢
  have hA : ∀ q : Nat, s.heap.size ≤ q → A q := fun q h => by rw [← hAe]; exact Or.inr h
  have hS : va_S A s.heap s.heap [] := va_S.rf
  have hl := lv_entry ([.ref h0]) (n := 1) (Nat.le_of_ble_eq_true rfl)
  rw [lg_entry_eq]
  generalize (lg_sl ([.ref h0]) ++ List.replicate (1 - (lg_sl ([.ref h0])).length) Slot.unset).toArray = ls at hl ⊢
  have hl : lv_has ls 1 [(0, .ref h0)] := hl
  refine lv_aload_n hx hb dX12_forget_0 rfl (lv_at hl 0 rfl) ?_
  refine lv_iconst (v := 0) hx hb dX12_forget_1 (by decide) ?_
  refine va_put (D := (dC, dI)) (ci := 11) (v := .int 0) (ty := .int) (C := RX12) (T := TX12) (N := 52) hx hb hts zl_X12_forget_X12 tyX12 tyX12_ok nmX12 hown hK hP hD hS 0 rfl rfl 28 (by decide) (hts (.fieldLink RX12 158 "PageOneModel" "acts" "I") (zat q_wsX12_forget k_wsX12_forget 910 rfl (by decide +kernel))) (fun _ h9 => h9) rfl (tyX12_ok 28 (by decide)) rfl rfl (Nat.le_of_ble_eq_true rfl) dX12_forget_2 (fun H locs hP hD hS => ?_)
  obtain ⟨u_1, eu_1⟩ : ∃ zz : mS, zz = mset u 28 0 := ⟨_, rfl⟩
  have hP : va_P (dC, dI) vwCl (mW h0 v cI cZ u_1) H := by rw [eu_1]; exact hP
  have hD : va_D A (mW h0 v cI cZ u_1) := by rw [eu_1]; exact hD
  refine lv_aload_n hx hb dX12_forget_5 rfl (lv_at hl 0 rfl) ?_
  refine lv_iconst (v := 0) hx hb dX12_forget_6 (by decide) ?_
  refine va_put (D := (dC, dI)) (ci := 11) (v := .int 0) (ty := .int) (C := RX12) (T := TX12) (N := 52) hx hb hts zl_X12_forget_X12 tyX12 tyX12_ok nmX12 hown hK hP hD hS 0 rfl rfl 36 (by decide) (hts (.fieldLink RX12 168 "PageOneModel" "filled" "I") (zat q_wsX12_forget k_wsX12_forget 918 rfl (by decide +kernel))) (fun _ h9 => h9) rfl (tyX12_ok 36 (by decide)) rfl rfl (Nat.le_of_ble_eq_true rfl) dX12_forget_7 (fun H locs hP hD hS => ?_)
  obtain ⟨u_2, eu_2⟩ : ∃ zz : mS, zz = mset u_1 36 0 := ⟨_, rfl⟩
  have hP : va_P (dC, dI) vwCl (mW h0 v cI cZ u_2) H := by rw [eu_2]; exact hP
  have hD : va_D A (mW h0 v cI cZ u_2) := by rw [eu_2]; exact hD
  exact W.vret hx hb hr (fun t ht hW => ⟨⟨u_2, rfl, (by subst_vars; rfl), by rw [ht]; exact hP, hD⟩, hS.F ht⟩) hS.2.2 dX12_forget_10
set_option maxHeartbeats 4000000 in
set_option maxRecDepth 100000 in
theorem m_acts (l : Launch) (dC : Nat → ClassId) (dI : Nat → Nat → Nat) (h0 : Nat) (v : Nat → Nat) (cI cZ : ClassId) (u : mS) (p0 p1 p2 p3 p4 p5 p6 : Int32) (ha : bw (u.1 28) 0 299 = true) (sz : Nat) : Met l yX12_acts wsX12_acts ({ frames := 0, cells := 0, slots := 0, locals := 0 }) (va_Pc [.ref h0, .int p0, .int p1, .int p2, .int p3, .int p4, .int p5, .int p6] (fun U => U.heap.size = sz ∧ PW dC dI (mW h0 v cI cZ u) [(cI, .int), (cZ, .boolean)] U ∧ va_D (fun _ => True) (mW h0 v cI cZ u))) (va_Qv (fun u9 : mS => u9 = mActs u p0 p1 p2 p3 p4 p5 p6) (fun u9 t => va_P (dC, dI) vwCl (mW h0 v cI cZ u9) t.heap ∧ va_D (va_A (mW h0 v cI cZ u) sz) (mW h0 v cI cZ u9)) (va_A (mW h0 v cI cZ u) sz)) 0 0 (va_A (mW h0 v cI cZ u) sz) := by
  refine Met.ofW (cc := cX12_acts) (maxL := 8) (ret := none) (by decide) rfl ?_
  intro p e s m args below meth c s₁ B hml hv
  obtain ⟨rfl, hsz, ⟨hP, hK, hN⟩, hD0⟩ := hv
  have hx := B.exec
  have hb := B.bytes
  have hr := B.returns
  have hts := atoms_spec (ws := wsX12_acts) B.pre
  have hown : s.vm.findClass RX12 = some m.cls := findClass_of_methodNamed B.named
  have hlocks := B.notSynchronized
  subst hsz
  have hD := hD0.self (sz := s.heap.size)
  generalize hAe : va_A (mW h0 v cI cZ u) s.heap.size = A at hD ⊢
  have hA : ∀ q : Nat, s.heap.size ≤ q → A q := fun q h => by rw [← hAe]; exact Or.inr h
  have hS : va_S A s.heap s.heap [] := va_S.rf
  have hl := lv_entry ([.ref h0, .int p0, .int p1, .int p2, .int p3, .int p4, .int p5, .int p6]) (n := 8) (Nat.le_of_ble_eq_true rfl)
  rw [lg_entry_eq]
  generalize (lg_sl ([.ref h0, .int p0, .int p1, .int p2, .int p3, .int p4, .int p5, .int p6]) ++ List.replicate (8 - (lg_sl ([.ref h0, .int p0, .int p1, .int p2, .int p3, .int p4, .int p5, .int p6])).length) Slot.unset).toArray = ls at hl ⊢
  have hl : lv_has ls 8 [(0, .ref h0), (1, .int p0), (2, .int p1), (3, .int p2), (4, .int p3), (5, .int p4), (6, .int p5), (7, .int p6)] := hl
  refine lv_aload_n hx hb dX12_acts_0 rfl (lv_at hl 0 rfl) ?_
  refine va_get (D := (dC, dI)) (ci := 11) (v := .ref (v 29)) (C := RX12) (T := TX12) (N := 52) hx hb hts zl_X12_acts_X12 hown hK hP 0 rfl rfl 29 (by decide) (hts (.fieldLink RX12 92 "PageOneModel" "actKind" "[I") (zat q_wsX12_acts k_wsX12_acts 911 rfl (by decide +kernel))) (fun _ h9 => h9) rfl dX12_acts_1 ?_
  refine lv_aload_n hx hb dX12_acts_4 rfl (lv_at hl 0 rfl) ?_
  refine va_get (D := (dC, dI)) (ci := 11) (v := .int (u.1 28)) (C := RX12) (T := TX12) (N := 52) hx hb hts zl_X12_acts_X12 hown hK hP 0 rfl rfl 28 (by decide) (hts (.fieldLink RX12 158 "PageOneModel" "acts" "I") (zat q_wsX12_acts k_wsX12_acts 910 rfl (by decide +kernel))) (fun _ h9 => h9) rfl dX12_acts_5 ?_
  refine lv_iload_n hx hb dX12_acts_8 rfl (lv_at hl 1 rfl) ?_
  refine va_iast hx hb hK hP hD hS 28 0 rfl rfl (vAct ha) dX12_acts_9 (fun H locs hP hD hS => ?_)
  obtain ⟨u_1, eu_1⟩ : ∃ zz : mS, zz = mst u 29 (u.1 28) p0 := ⟨_, rfl⟩
  have hP : va_P (dC, dI) vwCl (mW h0 v cI cZ u_1) H := by rw [eu_1]; exact hP
  have hD : va_D A (mW h0 v cI cZ u_1) := by rw [eu_1]; exact hD
  refine lv_aload_n hx hb dX12_acts_10 rfl (lv_at hl 0 rfl) ?_
  refine va_get (D := (dC, dI)) (ci := 11) (v := .ref (v 30)) (C := RX12) (T := TX12) (N := 52) hx hb hts zl_X12_acts_X12 hown hK hP 0 rfl rfl 30 (by decide) (hts (.fieldLink RX12 95 "PageOneModel" "actA" "[I") (zat q_wsX12_acts k_wsX12_acts 912 rfl (by decide +kernel))) (fun _ h9 => h9) rfl dX12_acts_11 ?_
  refine lv_aload_n hx hb dX12_acts_14 rfl (lv_at hl 0 rfl) ?_
  refine va_get (D := (dC, dI)) (ci := 11) (v := .int (u_1.1 28)) (C := RX12) (T := TX12) (N := 52) hx hb hts zl_X12_acts_X12 hown hK hP 0 rfl rfl 28 (by decide) (hts (.fieldLink RX12 158 "PageOneModel" "acts" "I") (zat q_wsX12_acts k_wsX12_acts 910 rfl (by decide +kernel))) (fun _ h9 => h9) rfl dX12_acts_15 ?_
  refine lv_iload_n hx hb dX12_acts_18 rfl (lv_at hl 2 rfl) ?_
  refine va_iast hx hb hK hP hD hS 29 0 rfl rfl (by subst_vars; exact vAct ha) dX12_acts_19 (fun H locs hP hD hS => ?_)
  obtain ⟨u_2, eu_2⟩ : ∃ zz : mS, zz = mst u_1 30 (u_1.1 28) p1 := ⟨_, rfl⟩
  have hP : va_P (dC, dI) vwCl (mW h0 v cI cZ u_2) H := by rw [eu_2]; exact hP
  have hD : va_D A (mW h0 v cI cZ u_2) := by rw [eu_2]; exact hD
  refine lv_aload_n hx hb dX12_acts_20 rfl (lv_at hl 0 rfl) ?_
  refine va_get (D := (dC, dI)) (ci := 11) (v := .ref (v 31)) (C := RX12) (T := TX12) (N := 52) hx hb hts zl_X12_acts_X12 hown hK hP 0 rfl rfl 31 (by decide) (hts (.fieldLink RX12 98 "PageOneModel" "actB" "[I") (zat q_wsX12_acts k_wsX12_acts 913 rfl (by decide +kernel))) (fun _ h9 => h9) rfl dX12_acts_21 ?_
  refine lv_aload_n hx hb dX12_acts_24 rfl (lv_at hl 0 rfl) ?_
  refine va_get (D := (dC, dI)) (ci := 11) (v := .int (u_2.1 28)) (C := RX12) (T := TX12) (N := 52) hx hb hts zl_X12_acts_X12 hown hK hP 0 rfl rfl 28 (by decide) (hts (.fieldLink RX12 158 "PageOneModel" "acts" "I") (zat q_wsX12_acts k_wsX12_acts 910 rfl (by decide +kernel))) (fun _ h9 => h9) rfl dX12_acts_25 ?_
  refine lv_iload_n hx hb dX12_acts_28 rfl (lv_at hl 3 rfl) ?_
  refine va_iast hx hb hK hP hD hS 30 0 rfl rfl (by subst_vars; exact vAct ha) dX12_acts_29 (fun H locs hP hD hS => ?_)
  obtain ⟨u_3, eu_3⟩ : ∃ zz : mS, zz = mst u_2 31 (u_2.1 28) p2 := ⟨_, rfl⟩
  have hP : va_P (dC, dI) vwCl (mW h0 v cI cZ u_3) H := by rw [eu_3]; exact hP
  have hD : va_D A (mW h0 v cI cZ u_3) := by rw [eu_3]; exact hD
  refine lv_aload_n hx hb dX12_acts_30 rfl (lv_at hl 0 rfl) ?_
  refine va_get (D := (dC, dI)) (ci := 11) (v := .ref (v 32)) (C := RX12) (T := TX12) (N := 52) hx hb hts zl_X12_acts_X12 hown hK hP 0 rfl rfl 32 (by decide) (hts (.fieldLink RX12 101 "PageOneModel" "actC" "[I") (zat q_wsX12_acts k_wsX12_acts 914 rfl (by decide +kernel))) (fun _ h9 => h9) rfl dX12_acts_31 ?_
  refine lv_aload_n hx hb dX12_acts_34 rfl (lv_at hl 0 rfl) ?_
  refine va_get (D := (dC, dI)) (ci := 11) (v := .int (u_3.1 28)) (C := RX12) (T := TX12) (N := 52) hx hb hts zl_X12_acts_X12 hown hK hP 0 rfl rfl 28 (by decide) (hts (.fieldLink RX12 158 "PageOneModel" "acts" "I") (zat q_wsX12_acts k_wsX12_acts 910 rfl (by decide +kernel))) (fun _ h9 => h9) rfl dX12_acts_35 ?_
  refine lv_iload hx hb dX12_acts_38 (lv_at hl 4 rfl) ?_
  refine va_iast hx hb hK hP hD hS 31 0 rfl rfl (by subst_vars; exact vAct ha) dX12_acts_40 (fun H locs hP hD hS => ?_)
  obtain ⟨u_4, eu_4⟩ : ∃ zz : mS, zz = mst u_3 32 (u_3.1 28) p3 := ⟨_, rfl⟩
  have hP : va_P (dC, dI) vwCl (mW h0 v cI cZ u_4) H := by rw [eu_4]; exact hP
  have hD : va_D A (mW h0 v cI cZ u_4) := by rw [eu_4]; exact hD
  refine lv_aload_n hx hb dX12_acts_41 rfl (lv_at hl 0 rfl) ?_
  refine va_get (D := (dC, dI)) (ci := 11) (v := .ref (v 33)) (C := RX12) (T := TX12) (N := 52) hx hb hts zl_X12_acts_X12 hown hK hP 0 rfl rfl 33 (by decide) (hts (.fieldLink RX12 104 "PageOneModel" "actD" "[I") (zat q_wsX12_acts k_wsX12_acts 915 rfl (by decide +kernel))) (fun _ h9 => h9) rfl dX12_acts_42 ?_
  refine lv_aload_n hx hb dX12_acts_45 rfl (lv_at hl 0 rfl) ?_
  refine va_get (D := (dC, dI)) (ci := 11) (v := .int (u_4.1 28)) (C := RX12) (T := TX12) (N := 52) hx hb hts zl_X12_acts_X12 hown hK hP 0 rfl rfl 28 (by decide) (hts (.fieldLink RX12 158 "PageOneModel" "acts" "I") (zat q_wsX12_acts k_wsX12_acts 910 rfl (by decide +kernel))) (fun _ h9 => h9) rfl dX12_acts_46 ?_
  refine lv_iload hx hb dX12_acts_49 (lv_at hl 5 rfl) ?_
  refine va_iast hx hb hK hP hD hS 32 0 rfl rfl (by subst_vars; exact vAct ha) dX12_acts_51 (fun H locs hP hD hS => ?_)
  obtain ⟨u_5, eu_5⟩ : ∃ zz : mS, zz = mst u_4 33 (u_4.1 28) p4 := ⟨_, rfl⟩
  have hP : va_P (dC, dI) vwCl (mW h0 v cI cZ u_5) H := by rw [eu_5]; exact hP
  have hD : va_D A (mW h0 v cI cZ u_5) := by rw [eu_5]; exact hD
  refine lv_aload_n hx hb dX12_acts_52 rfl (lv_at hl 0 rfl) ?_
  refine va_get (D := (dC, dI)) (ci := 11) (v := .ref (v 34)) (C := RX12) (T := TX12) (N := 52) hx hb hts zl_X12_acts_X12 hown hK hP 0 rfl rfl 34 (by decide) (hts (.fieldLink RX12 107 "PageOneModel" "actE" "[I") (zat q_wsX12_acts k_wsX12_acts 916 rfl (by decide +kernel))) (fun _ h9 => h9) rfl dX12_acts_53 ?_
  refine lv_aload_n hx hb dX12_acts_56 rfl (lv_at hl 0 rfl) ?_
  refine va_get (D := (dC, dI)) (ci := 11) (v := .int (u_5.1 28)) (C := RX12) (T := TX12) (N := 52) hx hb hts zl_X12_acts_X12 hown hK hP 0 rfl rfl 28 (by decide) (hts (.fieldLink RX12 158 "PageOneModel" "acts" "I") (zat q_wsX12_acts k_wsX12_acts 910 rfl (by decide +kernel))) (fun _ h9 => h9) rfl dX12_acts_57 ?_
  refine lv_iload hx hb dX12_acts_60 (lv_at hl 6 rfl) ?_
  refine va_iast hx hb hK hP hD hS 33 0 rfl rfl (by subst_vars; exact vAct ha) dX12_acts_62 (fun H locs hP hD hS => ?_)
  obtain ⟨u_6, eu_6⟩ : ∃ zz : mS, zz = mst u_5 34 (u_5.1 28) p5 := ⟨_, rfl⟩
  have hP : va_P (dC, dI) vwCl (mW h0 v cI cZ u_6) H := by rw [eu_6]; exact hP
  have hD : va_D A (mW h0 v cI cZ u_6) := by rw [eu_6]; exact hD
  refine lv_aload_n hx hb dX12_acts_63 rfl (lv_at hl 0 rfl) ?_
  refine va_get (D := (dC, dI)) (ci := 11) (v := .ref (v 35)) (C := RX12) (T := TX12) (N := 52) hx hb hts zl_X12_acts_X12 hown hK hP 0 rfl rfl 35 (by decide) (hts (.fieldLink RX12 110 "PageOneModel" "actF" "[I") (zat q_wsX12_acts k_wsX12_acts 917 rfl (by decide +kernel))) (fun _ h9 => h9) rfl dX12_acts_64 ?_
  refine lv_aload_n hx hb dX12_acts_67 rfl (lv_at hl 0 rfl) ?_
  refine va_get (D := (dC, dI)) (ci := 11) (v := .int (u_6.1 28)) (C := RX12) (T := TX12) (N := 52) hx hb hts zl_X12_acts_X12 hown hK hP 0 rfl rfl 28 (by decide) (hts (.fieldLink RX12 158 "PageOneModel" "acts" "I") (zat q_wsX12_acts k_wsX12_acts 910 rfl (by decide +kernel))) (fun _ h9 => h9) rfl dX12_acts_68 ?_
  refine lv_iload hx hb dX12_acts_71 (lv_at hl 7 rfl) ?_
  refine va_iast hx hb hK hP hD hS 34 0 rfl rfl (by subst_vars; exact vAct ha) dX12_acts_73 (fun H locs hP hD hS => ?_)
  obtain ⟨u_7, eu_7⟩ : ∃ zz : mS, zz = mst u_6 35 (u_6.1 28) p6 := ⟨_, rfl⟩
  have hP : va_P (dC, dI) vwCl (mW h0 v cI cZ u_7) H := by rw [eu_7]; exact hP
  have hD : va_D A (mW h0 v cI cZ u_7) := by rw [eu_7]; exact hD
  refine lv_aload_n hx hb dX12_acts_74 rfl (lv_at hl 0 rfl) ?_
  refine lv_dup hx hb dX12_acts_75 rfl ?_
  refine va_get (D := (dC, dI)) (ci := 11) (v := .int (u_7.1 28)) (C := RX12) (T := TX12) (N := 52) hx hb hts zl_X12_acts_X12 hown hK hP 0 rfl rfl 28 (by decide) (hts (.fieldLink RX12 158 "PageOneModel" "acts" "I") (zat q_wsX12_acts k_wsX12_acts 910 rfl (by decide +kernel))) (fun _ h9 => h9) rfl dX12_acts_76 ?_
  refine lv_iconst (v := 1) hx hb dX12_acts_79 (by decide) ?_
  refine lv_iadd hx hb dX12_acts_80 ?_
  refine va_put (D := (dC, dI)) (ci := 11) (v := .int ((u_7.1 28) + 1)) (ty := .int) (C := RX12) (T := TX12) (N := 52) hx hb hts zl_X12_acts_X12 tyX12 tyX12_ok nmX12 hown hK hP hD hS 0 rfl rfl 28 (by decide) (hts (.fieldLink RX12 158 "PageOneModel" "acts" "I") (zat q_wsX12_acts k_wsX12_acts 910 rfl (by decide +kernel))) (fun _ h9 => h9) rfl (tyX12_ok 28 (by decide)) rfl rfl (Nat.le_of_ble_eq_true rfl) dX12_acts_81 (fun H locs hP hD hS => ?_)
  obtain ⟨u_8, eu_8⟩ : ∃ zz : mS, zz = mset u_7 28 ((u_7.1 28) + 1) := ⟨_, rfl⟩
  have hP : va_P (dC, dI) vwCl (mW h0 v cI cZ u_8) H := by rw [eu_8]; exact hP
  have hD : va_D A (mW h0 v cI cZ u_8) := by rw [eu_8]; exact hD
  exact W.vret hx hb hr (fun t ht hW => ⟨⟨u_8, rfl, (by subst_vars; rfl), by rw [ht]; exact hP, hD⟩, hS.F ht⟩) hS.2.2 dX12_acts_84
set_option maxHeartbeats 4000000 in
set_option maxRecDepth 100000 in
theorem m_stand (l : Launch) (dC : Nat → ClassId) (dI : Nat → Nat → Nat) (h0 : Nat) (v : Nat → Nat) (cI cZ : ClassId) (u : mS) (p0 : Int32) (P X Y D N : Nat) (hPP : P < 12) (hXW : X + D ≤ 8) (hYN : Y + N ≤ 60) (hi : bw p0 0 79 = true) (hq : bw (u.2 22 p0.toNatClampNeg) 0 5 = true) (sz : Nat) : Met l yX12_stand wsX12_stand ({ frames := 2, cells := 0, slots := 0, locals := 50 }) (va_Pc [.ref h0, .int p0, .int (nI P), .int (nI X), .int (nI Y), .int (nI D), .int (nI N)] (fun U => U.heap.size = sz ∧ PW dC dI (mW h0 v cI cZ u) [(cI, .int), (cZ, .boolean)] U ∧ va_D (fun _ => True) (mW h0 v cI cZ u))) (va_Qv (fun u9 : mS => u9 = mStand u p0 P X Y D N) (fun u9 t => va_P (dC, dI) vwCl (mW h0 v cI cZ u9) t.heap ∧ va_D (va_A (mW h0 v cI cZ u) sz) (mW h0 v cI cZ u9)) (va_A (mW h0 v cI cZ u) sz)) 0 0 (va_A (mW h0 v cI cZ u) sz) := by
  refine Met.ofW (cc := cX12_stand) (maxL := 8) (ret := none) (by decide) rfl ?_
  intro p e s m args below meth c s₁ B hml hv
  obtain ⟨rfl, hsz, ⟨hP, hK, hN⟩, hD0⟩ := hv
  have hx := B.exec
  have hb := B.bytes
  have hr := B.returns
  have hts := atoms_spec (ws := wsX12_stand) B.pre
  have hown : s.vm.findClass RX12 = some m.cls := findClass_of_methodNamed B.named
  have hlocks := B.notSynchronized
  subst hsz
  have hD := hD0.self (sz := s.heap.size)
  generalize hAe : va_A (mW h0 v cI cZ u) s.heap.size = A at hD ⊢
  have hA : ∀ q : Nat, s.heap.size ≤ q → A q := fun q h => by rw [← hAe]; exact Or.inr h
  have hS : va_S A s.heap s.heap [] := va_S.rf
  have hl := lv_entry ([.ref h0, .int p0, .int (nI P), .int (nI X), .int (nI Y), .int (nI D), .int (nI N)]) (n := 8) (Nat.le_of_ble_eq_true rfl)
  rw [lg_entry_eq]
  generalize (lg_sl ([.ref h0, .int p0, .int (nI P), .int (nI X), .int (nI Y), .int (nI D), .int (nI N)]) ++ List.replicate (8 - (lg_sl ([.ref h0, .int p0, .int (nI P), .int (nI X), .int (nI Y), .int (nI D), .int (nI N)])).length) Slot.unset).toArray = ls at hl ⊢
  have hl : lv_has ls 8 [(0, .ref h0), (1, .int p0), (2, .int (nI P)), (3, .int (nI X)), (4, .int (nI Y)), (5, .int (nI D)), (6, .int (nI N))] := hl
  refine lv_bipush (v := 6) hx hb dX12_stand_0 (by decide) ?_
  refine lv_iload_n hx hb dX12_stand_2 rfl (lv_at hl 1 rfl) ?_
  refine lv_imul hx hb dX12_stand_3 ?_
  refine lv_aload_n hx hb dX12_stand_4 rfl (lv_at hl 0 rfl) ?_
  refine va_get (D := (dC, dI)) (ci := 11) (v := .ref (v 22)) (C := RX12) (T := TX12) (N := 52) hx hb hts zl_X12_stand_X12 hown hK hP 0 rfl rfl 22 (by decide) (hts (.fieldLink RX12 74 "PageOneModel" "pieces" "[I") (zat q_wsX12_stand k_wsX12_stand 904 rfl (by decide +kernel))) (fun _ h9 => h9) rfl dX12_stand_5 ?_
  refine lv_iload_n hx hb dX12_stand_8 rfl (lv_at hl 1 rfl) ?_
  refine va_iald hx hb hK hP 22 0 rfl rfl (vin hi (by decide)) dX12_stand_9 ?_
  refine lv_iadd hx hb dX12_stand_10 ?_
  refine lv_topi (fun x_1 ex_1 => ?_)
  refine lv_istore (lv' := [(7, .int x_1), (0, .ref h0), (1, .int p0), (2, .int (nI P)), (3, .int (nI X)), (4, .int (nI Y)), (5, .int (nI D)), (6, .int (nI N))]) hx hb dX12_stand_11 hl (by decide) rfl (fun ls hl => ?_)
  refine lv_aload_n hx hb dX12_stand_13 rfl (lv_at hl 1 rfl) ?_
  refine va_get (D := (dC, dI)) (ci := 11) (v := .ref (v 23)) (C := RX12) (T := TX12) (N := 52) hx hb hts zl_X12_stand_X12 hown hK hP 0 rfl rfl 23 (by decide) (hts (.fieldLink RX12 77 "PageOneModel" "pPage" "[I") (zat q_wsX12_stand k_wsX12_stand 905 rfl (by decide +kernel))) (fun _ h9 => h9) rfl dX12_stand_14 ?_
  refine lv_iload hx hb dX12_stand_17 (lv_at hl 0 rfl) ?_
  refine lv_iload_n hx hb dX12_stand_19 rfl (lv_at hl 3 rfl) ?_
  refine va_iast hx hb hK hP hD hS 23 0 rfl rfl (v6a hi hq ex_1) dX12_stand_20 (fun H locs hP hD hS => ?_)
  obtain ⟨u_2, eu_2⟩ : ∃ zz : mS, zz = mst u 23 x_1 (nI P) := ⟨_, rfl⟩
  have hP : va_P (dC, dI) vwCl (mW h0 v cI cZ u_2) H := by rw [eu_2]; exact hP
  have hD : va_D A (mW h0 v cI cZ u_2) := by rw [eu_2]; exact hD
  refine lv_aload_n hx hb dX12_stand_21 rfl (lv_at hl 1 rfl) ?_
  refine va_get (D := (dC, dI)) (ci := 11) (v := .ref (v 24)) (C := RX12) (T := TX12) (N := 52) hx hb hts zl_X12_stand_X12 hown hK hP 0 rfl rfl 24 (by decide) (hts (.fieldLink RX12 80 "PageOneModel" "pColumn" "[I") (zat q_wsX12_stand k_wsX12_stand 906 rfl (by decide +kernel))) (fun _ h9 => h9) rfl dX12_stand_22 ?_
  refine lv_iload hx hb dX12_stand_25 (lv_at hl 0 rfl) ?_
  refine lv_iload_n hx hb dX12_stand_27 rfl (lv_at hl 4 rfl) ?_
  refine va_iast hx hb hK hP hD hS 24 0 rfl rfl (v6a hi hq ex_1) dX12_stand_28 (fun H locs hP hD hS => ?_)
  obtain ⟨u_3, eu_3⟩ : ∃ zz : mS, zz = mst u_2 24 x_1 (nI X) := ⟨_, rfl⟩
  have hP : va_P (dC, dI) vwCl (mW h0 v cI cZ u_3) H := by rw [eu_3]; exact hP
  have hD : va_D A (mW h0 v cI cZ u_3) := by rw [eu_3]; exact hD
  refine lv_aload_n hx hb dX12_stand_29 rfl (lv_at hl 1 rfl) ?_
  refine va_get (D := (dC, dI)) (ci := 11) (v := .ref (v 25)) (C := RX12) (T := TX12) (N := 52) hx hb hts zl_X12_stand_X12 hown hK hP 0 rfl rfl 25 (by decide) (hts (.fieldLink RX12 83 "PageOneModel" "pLine" "[I") (zat q_wsX12_stand k_wsX12_stand 907 rfl (by decide +kernel))) (fun _ h9 => h9) rfl dX12_stand_30 ?_
  refine lv_iload hx hb dX12_stand_33 (lv_at hl 0 rfl) ?_
  refine lv_iload hx hb dX12_stand_35 (lv_at hl 5 rfl) ?_
  refine va_iast hx hb hK hP hD hS 25 0 rfl rfl (v6a hi hq ex_1) dX12_stand_37 (fun H locs hP hD hS => ?_)
  obtain ⟨u_4, eu_4⟩ : ∃ zz : mS, zz = mst u_3 25 x_1 (nI Y) := ⟨_, rfl⟩
  have hP : va_P (dC, dI) vwCl (mW h0 v cI cZ u_4) H := by rw [eu_4]; exact hP
  have hD : va_D A (mW h0 v cI cZ u_4) := by rw [eu_4]; exact hD
  refine lv_aload_n hx hb dX12_stand_38 rfl (lv_at hl 1 rfl) ?_
  refine va_get (D := (dC, dI)) (ci := 11) (v := .ref (v 26)) (C := RX12) (T := TX12) (N := 52) hx hb hts zl_X12_stand_X12 hown hK hP 0 rfl rfl 26 (by decide) (hts (.fieldLink RX12 86 "PageOneModel" "pWide" "[I") (zat q_wsX12_stand k_wsX12_stand 908 rfl (by decide +kernel))) (fun _ h9 => h9) rfl dX12_stand_39 ?_
  refine lv_iload hx hb dX12_stand_42 (lv_at hl 0 rfl) ?_
  refine lv_iload hx hb dX12_stand_44 (lv_at hl 6 rfl) ?_
  refine va_iast hx hb hK hP hD hS 26 0 rfl rfl (v6a hi hq ex_1) dX12_stand_46 (fun H locs hP hD hS => ?_)
  obtain ⟨u_5, eu_5⟩ : ∃ zz : mS, zz = mst u_4 26 x_1 (nI D) := ⟨_, rfl⟩
  have hP : va_P (dC, dI) vwCl (mW h0 v cI cZ u_5) H := by rw [eu_5]; exact hP
  have hD : va_D A (mW h0 v cI cZ u_5) := by rw [eu_5]; exact hD
  refine lv_aload_n hx hb dX12_stand_47 rfl (lv_at hl 1 rfl) ?_
  refine va_get (D := (dC, dI)) (ci := 11) (v := .ref (v 27)) (C := RX12) (T := TX12) (N := 52) hx hb hts zl_X12_stand_X12 hown hK hP 0 rfl rfl 27 (by decide) (hts (.fieldLink RX12 89 "PageOneModel" "pHigh" "[I") (zat q_wsX12_stand k_wsX12_stand 909 rfl (by decide +kernel))) (fun _ h9 => h9) rfl dX12_stand_48 ?_
  refine lv_iload hx hb dX12_stand_51 (lv_at hl 0 rfl) ?_
  refine lv_iload hx hb dX12_stand_53 (lv_at hl 7 rfl) ?_
  refine va_iast hx hb hK hP hD hS 27 0 rfl rfl (v6a hi hq ex_1) dX12_stand_55 (fun H locs hP hD hS => ?_)
  obtain ⟨u_6, eu_6⟩ : ∃ zz : mS, zz = mst u_5 27 x_1 (nI N) := ⟨_, rfl⟩
  have hP : va_P (dC, dI) vwCl (mW h0 v cI cZ u_6) H := by rw [eu_6]; exact hP
  have hD : va_D A (mW h0 v cI cZ u_6) := by rw [eu_6]; exact hD
  refine lv_aload_n hx hb dX12_stand_56 rfl (lv_at hl 1 rfl) ?_
  refine va_get (D := (dC, dI)) (ci := 11) (v := .ref (v 22)) (C := RX12) (T := TX12) (N := 52) hx hb hts zl_X12_stand_X12 hown hK hP 0 rfl rfl 22 (by decide) (hts (.fieldLink RX12 74 "PageOneModel" "pieces" "[I") (zat q_wsX12_stand k_wsX12_stand 904 rfl (by decide +kernel))) (fun _ h9 => h9) rfl dX12_stand_57 ?_
  refine lv_iload_n hx hb dX12_stand_60 rfl (lv_at hl 2 rfl) ?_
  refine lv_dup2_11 hx hb dX12_stand_61 rfl rfl ?_
  refine va_iald hx hb hK hP 22 0 rfl rfl (vin hi (by decide)) dX12_stand_62 ?_
  refine lv_iconst (v := 1) hx hb dX12_stand_63 (by decide) ?_
  refine lv_iadd hx hb dX12_stand_64 ?_
  refine va_iast hx hb hK hP hD hS 22 0 rfl rfl (vin hi (by decide)) dX12_stand_65 (fun H locs hP hD hS => ?_)
  obtain ⟨u_7, eu_7⟩ : ∃ zz : mS, zz = mst u_6 22 p0 ((u_6.2 22 (p0 : Int32).toNatClampNeg) + 1) := ⟨_, rfl⟩
  have hP : va_P (dC, dI) vwCl (mW h0 v cI cZ u_7) H := by rw [eu_7]; exact hP
  have hD : va_D A (mW h0 v cI cZ u_7) := by rw [eu_7]; exact hD
  refine lv_aload_n hx hb dX12_stand_66 rfl (lv_at hl 1 rfl) ?_
  refine lv_iload_n hx hb dX12_stand_67 rfl (lv_at hl 3 rfl) ?_
  refine lv_iload_n hx hb dX12_stand_68 rfl (lv_at hl 4 rfl) ?_
  refine lv_iload hx hb dX12_stand_69 (lv_at hl 5 rfl) ?_
  refine lv_iload hx hb dX12_stand_71 (lv_at hl 6 rfl) ?_
  refine lv_iload hx hb dX12_stand_73 (lv_at hl 7 rfl) ?_
  refine lv_iload_n hx hb dX12_stand_75 rfl (lv_at hl 2 rfl) ?_
  have hFc := fr_all hD hS hA
  refine va_callv (va_runV (As := [.int (nI P), .int (nI X), .int (nI Y), .int (nI D), .int (nI N), .int p0]) (rest := []) ⟨hx, hb, hml, hown, hts⟩ (m_sets l dC dI h0 v cI cZ u_7 P X Y D N p0 hPP hXW hYN H.size) (cwV 6 hts gX12_stand_X12_sets rfl rfl rfl zh_X12_sets_8 ⟨Nat.le_of_ble_eq_true rfl, Nat.le_of_ble_eq_true rfl⟩) ⟨gw_fb, va_recv hK hP (ci := 11) (q0 := 0) rfl rfl, fun U hU hW => ⟨rfl, by rw [hU], pw_to hU hW hP hK hN, hD.weaken (fun _ _ _ _ => trivial)⟩⟩ rfl rfl hl.1 rfl (lv_room (Nat.le_of_ble_eq_true rfl)) dX12_stand_76 ⟨Nat.le_of_ble_eq_true rfl, Nat.le_of_ble_eq_true rfl⟩) hS (fun q _ h => hFc q h) hFc (fun u_8 t H1 locs ht hvm hw hB hz1 hk1 hS => ?_)
  obtain ⟨hP, hD1⟩ := hB
  rw [ht] at hP
  have hD := hD1.weaken (fun _ q _ h => hFc q.1 h)
  generalize H1 = H at hP hS ⊢
  have eu_8 := hw
  exact W.vret hx hb hr (fun t ht hW => ⟨⟨u_8, rfl, (by subst_vars; rfl), by rw [ht]; exact hP, hD⟩, hS.F ht⟩) hS.2.2 dX12_stand_79
set_option maxHeartbeats 4000000 in
set_option maxRecDepth 100000 in
theorem m_unstand (l : Launch) (dC : Nat → ClassId) (dI : Nat → Nat → Nat) (h0 : Nat) (v : Nat → Nat) (cI cZ : ClassId) (u : mS) (p0 : Int32) (P X Y D N : Nat) (hPP : P < 12) (hXW : X + D ≤ 8) (hYN : Y + N ≤ 60) (hi : bw p0 0 79 = true) (hq : bw (u.2 22 p0.toNatClampNeg - 1) 0 5 = true) (e23 : u.2 23 (6 * p0 + (u.2 22 p0.toNatClampNeg - 1)).toNatClampNeg = nI P) (e24 : u.2 24 (6 * p0 + (u.2 22 p0.toNatClampNeg - 1)).toNatClampNeg = nI X) (e25 : u.2 25 (6 * p0 + (u.2 22 p0.toNatClampNeg - 1)).toNatClampNeg = nI Y) (e26 : u.2 26 (6 * p0 + (u.2 22 p0.toNatClampNeg - 1)).toNatClampNeg = nI D) (e27 : u.2 27 (6 * p0 + (u.2 22 p0.toNatClampNeg - 1)).toNatClampNeg = nI N) (sz : Nat) : Met l yX12_unstand wsX12_unstand ({ frames := 2, cells := 0, slots := 0, locals := 50 }) (va_Pc [.ref h0, .int p0] (fun U => U.heap.size = sz ∧ PW dC dI (mW h0 v cI cZ u) [(cI, .int), (cZ, .boolean)] U ∧ va_D (fun _ => True) (mW h0 v cI cZ u))) (va_Qv (fun u9 : mS => u9 = mUnstand u p0 P X Y D N) (fun u9 t => va_P (dC, dI) vwCl (mW h0 v cI cZ u9) t.heap ∧ va_D (va_A (mW h0 v cI cZ u) sz) (mW h0 v cI cZ u9)) (va_A (mW h0 v cI cZ u) sz)) 0 0 (va_A (mW h0 v cI cZ u) sz) := by
  refine Met.ofW (cc := cX12_unstand) (maxL := 3) (ret := none) (by decide) rfl ?_
  intro p e s m args below meth c s₁ B hml hv
  obtain ⟨rfl, hsz, ⟨hP, hK, hN⟩, hD0⟩ := hv
  have hx := B.exec
  have hb := B.bytes
  have hr := B.returns
  have hts := atoms_spec (ws := wsX12_unstand) B.pre
  have hown : s.vm.findClass RX12 = some m.cls := findClass_of_methodNamed B.named
  have hlocks := B.notSynchronized
  subst hsz
  have hD := hD0.self (sz := s.heap.size)
  generalize hAe : va_A (mW h0 v cI cZ u) s.heap.size = A at hD ⊢
  have hA : ∀ q : Nat, s.heap.size ≤ q → A q := fun q h => by rw [← hAe]; exact Or.inr h
  have hS : va_S A s.heap s.heap [] := va_S.rf
  have hl := lv_entry ([.ref h0, .int p0]) (n := 3) (Nat.le_of_ble_eq_true rfl)
  rw [lg_entry_eq]
  generalize (lg_sl ([.ref h0, .int p0]) ++ List.replicate (3 - (lg_sl ([.ref h0, .int p0])).length) Slot.unset).toArray = ls at hl ⊢
  have hl : lv_has ls 3 [(0, .ref h0), (1, .int p0)] := hl
  refine lv_aload_n hx hb dX12_unstand_0 rfl (lv_at hl 0 rfl) ?_
  refine va_get (D := (dC, dI)) (ci := 11) (v := .ref (v 22)) (C := RX12) (T := TX12) (N := 52) hx hb hts zl_X12_unstand_X12 hown hK hP 0 rfl rfl 22 (by decide) (hts (.fieldLink RX12 74 "PageOneModel" "pieces" "[I") (zat q_wsX12_unstand k_wsX12_unstand 904 rfl (by decide +kernel))) (fun _ h9 => h9) rfl dX12_unstand_1 ?_
  refine lv_iload_n hx hb dX12_unstand_4 rfl (lv_at hl 1 rfl) ?_
  refine lv_dup2_11 hx hb dX12_unstand_5 rfl rfl ?_
  refine va_iald hx hb hK hP 22 0 rfl rfl (vin hi (by decide)) dX12_unstand_6 ?_
  refine lv_iconst (v := 1) hx hb dX12_unstand_7 (by decide) ?_
  refine lv_isub hx hb dX12_unstand_8 ?_
  refine va_iast hx hb hK hP hD hS 22 0 rfl rfl (vin hi (by decide)) dX12_unstand_9 (fun H locs hP hD hS => ?_)
  obtain ⟨u_1, eu_1⟩ : ∃ zz : mS, zz = mst u 22 p0 ((u.2 22 (p0 : Int32).toNatClampNeg) - 1) := ⟨_, rfl⟩
  have hP : va_P (dC, dI) vwCl (mW h0 v cI cZ u_1) H := by rw [eu_1]; exact hP
  have hD : va_D A (mW h0 v cI cZ u_1) := by rw [eu_1]; exact hD
  refine lv_bipush (v := 6) hx hb dX12_unstand_10 (by decide) ?_
  refine lv_iload_n hx hb dX12_unstand_12 rfl (lv_at hl 1 rfl) ?_
  refine lv_imul hx hb dX12_unstand_13 ?_
  refine lv_aload_n hx hb dX12_unstand_14 rfl (lv_at hl 0 rfl) ?_
  refine va_get (D := (dC, dI)) (ci := 11) (v := .ref (v 22)) (C := RX12) (T := TX12) (N := 52) hx hb hts zl_X12_unstand_X12 hown hK hP 0 rfl rfl 22 (by decide) (hts (.fieldLink RX12 74 "PageOneModel" "pieces" "[I") (zat q_wsX12_unstand k_wsX12_unstand 904 rfl (by decide +kernel))) (fun _ h9 => h9) rfl dX12_unstand_15 ?_
  refine lv_iload_n hx hb dX12_unstand_18 rfl (lv_at hl 1 rfl) ?_
  refine va_iald hx hb hK hP 22 0 rfl rfl (vin hi (by decide)) dX12_unstand_19 ?_
  refine lv_iadd hx hb dX12_unstand_20 ?_
  refine lv_topi (fun x_2 ex_2 => ?_)
  refine lv_istore_n (lv' := [(2, .int x_2), (0, .ref h0), (1, .int p0)]) hx hb dX12_unstand_21 rfl hl (by decide) rfl (fun ls hl => ?_)
  have ex9 : x_2 = 6 * p0 + (u.2 22 p0.toNatClampNeg - 1) := by rw [ex_2, eu_1, mst_same]
  refine lv_aload_n hx hb dX12_unstand_22 rfl (lv_at hl 1 rfl) ?_
  refine lv_aload_n hx hb dX12_unstand_23 rfl (lv_at hl 1 rfl) ?_
  refine va_get (D := (dC, dI)) (ci := 11) (v := .ref (v 23)) (C := RX12) (T := TX12) (N := 52) hx hb hts zl_X12_unstand_X12 hown hK hP 0 rfl rfl 23 (by decide) (hts (.fieldLink RX12 77 "PageOneModel" "pPage" "[I") (zat q_wsX12_unstand k_wsX12_unstand 905 rfl (by decide +kernel))) (fun _ h9 => h9) rfl dX12_unstand_24 ?_
  refine lv_iload_n hx hb dX12_unstand_27 rfl (lv_at hl 0 rfl) ?_
  refine va_iald hx hb hK hP 23 0 rfl rfl (v6a hi hq ex9) dX12_unstand_28 ?_
  refine lv_topi (fun y_3 ey_3 => ?_)
  obtain rfl : y_3 = nI P := by rw [ey_3, eu_1, mst_other (by decide), ex9, e23]
  refine lv_aload_n hx hb dX12_unstand_29 rfl (lv_at hl 1 rfl) ?_
  refine va_get (D := (dC, dI)) (ci := 11) (v := .ref (v 24)) (C := RX12) (T := TX12) (N := 52) hx hb hts zl_X12_unstand_X12 hown hK hP 0 rfl rfl 24 (by decide) (hts (.fieldLink RX12 80 "PageOneModel" "pColumn" "[I") (zat q_wsX12_unstand k_wsX12_unstand 906 rfl (by decide +kernel))) (fun _ h9 => h9) rfl dX12_unstand_30 ?_
  refine lv_iload_n hx hb dX12_unstand_33 rfl (lv_at hl 0 rfl) ?_
  refine va_iald hx hb hK hP 24 0 rfl rfl (v6a hi hq ex9) dX12_unstand_34 ?_
  refine lv_topi (fun y_4 ey_4 => ?_)
  obtain rfl : y_4 = nI X := by rw [ey_4, eu_1, mst_other (by decide), ex9, e24]
  refine lv_aload_n hx hb dX12_unstand_35 rfl (lv_at hl 1 rfl) ?_
  refine va_get (D := (dC, dI)) (ci := 11) (v := .ref (v 25)) (C := RX12) (T := TX12) (N := 52) hx hb hts zl_X12_unstand_X12 hown hK hP 0 rfl rfl 25 (by decide) (hts (.fieldLink RX12 83 "PageOneModel" "pLine" "[I") (zat q_wsX12_unstand k_wsX12_unstand 907 rfl (by decide +kernel))) (fun _ h9 => h9) rfl dX12_unstand_36 ?_
  refine lv_iload_n hx hb dX12_unstand_39 rfl (lv_at hl 0 rfl) ?_
  refine va_iald hx hb hK hP 25 0 rfl rfl (v6a hi hq ex9) dX12_unstand_40 ?_
  refine lv_topi (fun y_5 ey_5 => ?_)
  obtain rfl : y_5 = nI Y := by rw [ey_5, eu_1, mst_other (by decide), ex9, e25]
  refine lv_aload_n hx hb dX12_unstand_41 rfl (lv_at hl 1 rfl) ?_
  refine va_get (D := (dC, dI)) (ci := 11) (v := .ref (v 26)) (C := RX12) (T := TX12) (N := 52) hx hb hts zl_X12_unstand_X12 hown hK hP 0 rfl rfl 26 (by decide) (hts (.fieldLink RX12 86 "PageOneModel" "pWide" "[I") (zat q_wsX12_unstand k_wsX12_unstand 908 rfl (by decide +kernel))) (fun _ h9 => h9) rfl dX12_unstand_42 ?_
  refine lv_iload_n hx hb dX12_unstand_45 rfl (lv_at hl 0 rfl) ?_
  refine va_iald hx hb hK hP 26 0 rfl rfl (v6a hi hq ex9) dX12_unstand_46 ?_
  refine lv_topi (fun y_6 ey_6 => ?_)
  obtain rfl : y_6 = nI D := by rw [ey_6, eu_1, mst_other (by decide), ex9, e26]
  refine lv_aload_n hx hb dX12_unstand_47 rfl (lv_at hl 1 rfl) ?_
  refine va_get (D := (dC, dI)) (ci := 11) (v := .ref (v 27)) (C := RX12) (T := TX12) (N := 52) hx hb hts zl_X12_unstand_X12 hown hK hP 0 rfl rfl 27 (by decide) (hts (.fieldLink RX12 89 "PageOneModel" "pHigh" "[I") (zat q_wsX12_unstand k_wsX12_unstand 909 rfl (by decide +kernel))) (fun _ h9 => h9) rfl dX12_unstand_48 ?_
  refine lv_iload_n hx hb dX12_unstand_51 rfl (lv_at hl 0 rfl) ?_
  refine va_iald hx hb hK hP 27 0 rfl rfl (v6a hi hq ex9) dX12_unstand_52 ?_
  refine lv_topi (fun y_7 ey_7 => ?_)
  obtain rfl : y_7 = nI N := by rw [ey_7, eu_1, mst_other (by decide), ex9, e27]
  refine lv_bipush (v := (-2)) hx hb dX12_unstand_53 (by decide) ?_
  have hFc := fr_all hD hS hA
  refine va_callv (va_runV (As := [.int (nI P), .int (nI X), .int (nI Y), .int (nI D), .int (nI N), .int (-2)]) (rest := []) ⟨hx, hb, hml, hown, hts⟩ (m_sets l dC dI h0 v cI cZ u_1 P X Y D N (-2) hPP hXW hYN H.size) (cwV 6 hts gX12_unstand_X12_sets rfl rfl rfl zh_X12_sets_8 ⟨Nat.le_of_ble_eq_true rfl, Nat.le_of_ble_eq_true rfl⟩) ⟨gw_fb, va_recv hK hP (ci := 11) (q0 := 0) rfl rfl, fun U hU hW => ⟨rfl, by rw [hU], pw_to hU hW hP hK hN, hD.weaken (fun _ _ _ _ => trivial)⟩⟩ rfl rfl hl.1 rfl (lv_room (Nat.le_of_ble_eq_true rfl)) dX12_unstand_55 ⟨Nat.le_of_ble_eq_true rfl, Nat.le_of_ble_eq_true rfl⟩) hS (fun q _ h => hFc q h) hFc (fun u_8 t H1 locs ht hvm hw hB hz1 hk1 hS => ?_)
  obtain ⟨hP, hD1⟩ := hB
  rw [ht] at hP
  have hD := hD1.weaken (fun _ q _ h => hFc q.1 h)
  generalize H1 = H at hP hS ⊢
  have eu_8 := hw
  exact W.vret hx hb hr (fun t ht hW => ⟨⟨u_8, rfl, (by subst_vars; rfl), by rw [ht]; exact hP, hD⟩, hS.F ht⟩) hS.2.2 dX12_unstand_58
theorem vCell {u : mS} (hln : ∀ j, j < 96 → bw (u.2 0 j) 0 60 = true) {p c l : Int32} (h : mCell u p c l = true) : vp_in (480 * p + 60 * c + l) 5760 := by
  unfold mCell at h
  obtain ⟨h1, h3⟩ := band h
  obtain ⟨h1, h2⟩ := band h1
  have h60 : (60 : Int32).toInt = 60 := rfl
  have h480 : (480 : Int32).toInt = 480 := rfl
  have h11 : (11 : Int32).toInt = 11 := rfl
  have h7 : (7 : Int32).toInt = 7 := rfl
  have hl := bw_iff.mp (hln _ (vlt (vin8 h1 h2)))
  have g1 := bw_iff.mp h1
  have g2 := bw_iff.mp h2
  have g3 := bw_iff.mp h3
  rw [i0] at g1 g2 g3 hl
  rw [h11] at g1
  rw [h7] at g2
  rw [h60] at hl
  rw [subI (by rw [i1]; omega) (by rw [i1]; omega), i1] at g3
  have e1 : (480 * p).toInt = 480 * p.toInt := by rw [mulI (by rw [h480]; omega) (by rw [h480]; omega), h480]
  have e2 : (60 * c).toInt = 60 * c.toInt := by rw [mulI (by rw [h60]; omega) (by rw [h60]; omega), h60]
  have e3 : (480 * p + 60 * c).toInt = 480 * p.toInt + 60 * c.toInt := by rw [addI (by rw [e1, e2]; omega) (by rw [e1, e2]; omega), e1, e2]
  rw [vp_in_iff, addI (by rw [e3]; omega) (by rw [e3]; omega), e3]; omega
def mCellAt (u : mS) (p c l : Int32) : Int32 := if mCell u p c l = true then u.2 2 (480 * p + 60 * c + l).toNatClampNeg else (-1)
def mRule (u : mS) (p c l : Int32) : Int32 × mS := if mCell u p c l = true then (if u.2 2 (480 * p + 60 * c + l).toNatClampNeg = (-2) then (if u.1 28 = 300 then (0, u) else (1, mActs (mst u 2 (480 * p + 60 * c + l) 100) 2 p c l 0 0 0)) else (0, u)) else (0, u)
theorem v300 {n : Int32} (h : bw n 0 300 = true) (h3 : ¬ n = 300) : bw n 0 299 = true := by
  have h300 : (300 : Int32).toInt = 300 := rfl
  have h299 : (299 : Int32).toInt = 299 := rfl
  have h1 := bw_iff.mp h
  rw [i0, h300] at h1
  have h2 : ¬ n.toInt = 300 := fun e => h3 (sw_in e.symm h300)
  rw [bw_iff, i0, h299]; omega
def mPlateOf (u : mS) (p w : Int32) : Int32 := if bw p 0 11 = true then (if u.2 40 p.toNatClampNeg = 0 then (-1) else if w = 0 then u.2 41 p.toNatClampNeg else if w = 1 then u.2 42 p.toNatClampNeg else (-1)) else (-1)
set_option maxHeartbeats 4000000 in
set_option maxRecDepth 100000 in
theorem m_cell (l : Launch) (dC : Nat → ClassId) (dI : Nat → Nat → Nat) (h0 : Nat) (v : Nat → Nat) (cI cZ : ClassId) (u : mS) (p0 p1 p2 : Int32) (hln : ∀ j, j < 96 → bw (u.2 0 j) 0 60 = true) : Met l yX12_cell wsX12_cell ({ frames := 3, cells := 0, slots := 0, locals := 65 }) (va_Pc [.ref h0, .int p0, .int p1, .int p2] (PW dC dI (mW h0 v cI cZ u) [(cI, .int), (cZ, .boolean)])) (vp_Si (fun r => r = mCellAt u p0 p1 p2)) 0 0 (fun _ => False) := by
  refine Met.ofW (cc := cX12_cell) (maxL := 4) (ret := (some .int)) (by decide) rfl ?_
  intro p e s m args below meth c s₁ B hml hv
  obtain ⟨rfl, hP, hK, hN⟩ := hv
  have hx := B.exec
  have hb := B.bytes
  have hr := B.returns
  have hts := atoms_spec (ws := wsX12_cell) B.pre
  have hown : s.vm.findClass RX12 = some m.cls := findClass_of_methodNamed B.named
  have hlocks := B.notSynchronized
  have hl := lv_entry ([.ref h0, .int p0, .int p1, .int p2]) (n := 4) (Nat.le_of_ble_eq_true rfl)
  rw [lg_entry_eq]
  generalize (lg_sl ([.ref h0, .int p0, .int p1, .int p2]) ++ List.replicate (4 - (lg_sl ([.ref h0, .int p0, .int p1, .int p2])).length) Slot.unset).toArray = ls at hl ⊢
  have hl : lv_has ls 4 [(0, .ref h0), (1, .int p0), (2, .int p1), (3, .int p2)] := hl
  refine lv_aload_n hx hb dX12_cell_0 rfl (lv_at hl 0 rfl) ?_
  refine lv_iload_n hx hb dX12_cell_1 rfl (lv_at hl 1 rfl) ?_
  refine lv_iload_n hx hb dX12_cell_2 rfl (lv_at hl 2 rfl) ?_
  refine lv_iload_n hx hb dX12_cell_3 rfl (lv_at hl 3 rfl) ?_
  refine vp_callSi (va_runV (As := [.int p0, .int p1, .int p2]) (rest := []) ⟨hx, hb, hml, hown, hts⟩ (m_isCell l dC dI h0 v cI cZ u p0 p1 p2) (cwV 3 hts gX12_cell_X12_isCell rfl rfl rfl zh_X12_isCell_9 ⟨Nat.le_of_ble_eq_true rfl, Nat.le_of_ble_eq_true rfl⟩) ⟨pw_fb, va_recv hK hP (ci := 11) (q0 := 0) rfl rfl, fun U hU hW => ⟨rfl, pw_to hU hW hP hK hN⟩⟩ rfl rfl hl.1 rfl (lv_room (Nat.le_of_ble_eq_true rfl)) dX12_cell_4 ⟨Nat.le_of_ble_eq_true rfl, Nat.le_of_ble_eq_true rfl⟩).run (fun r hw => ?_)
  rcases Bool.eq_false_or_eq_true (mCell u p0 p1 p2) with b_1 | b_1
  ·
    obtain rfl : r = 1 := b_t hw b_1
    refine lv_if_eq (tgt := 24) hx hb dX12_cell_7 (by decide) (fun c_2 => absurd c_2 (by decide)) (fun c_2 => ?_)
    refine lv_aload_n hx hb dX12_cell_10 rfl (lv_at hl 0 rfl) ?_
    refine va_get (D := (dC, dI)) (ci := 11) (v := .ref (v 2)) (C := RX12) (T := TX12) (N := 52) hx hb hts zl_X12_cell_X12 hown hK hP 0 rfl rfl 2 (by decide) (hts (.fieldLink RX12 16 "PageOneModel" "cell" "[I") (zat q_wsX12_cell k_wsX12_cell 884 rfl (by decide +kernel))) (fun _ h9 => h9) rfl dX12_cell_11 ?_
    refine lv_iload_n hx hb dX12_cell_14 rfl (lv_at hl 1 rfl) ?_
    refine lv_iload_n hx hb dX12_cell_15 rfl (lv_at hl 2 rfl) ?_
    refine lv_iload_n hx hb dX12_cell_16 rfl (lv_at hl 3 rfl) ?_
    refine vp_callSi (va_runS (As := [.int p0, .int p1, .int p2]) (rest := [.ref (v 2)]) ⟨hx, hb, hml, hown, hts⟩ (m_at l dC dI p0 p1 p2) (va_cwS 3 hts gX12_cell_X12_at rfl rfl rfl zh_X12_at_7 ⟨Nat.le_of_ble_eq_true rfl, Nat.le_of_ble_eq_true rfl⟩) ⟨pw_fb, fun U hU hW => ⟨rfl, pw_to hU hW (hP.sub (ws' := []) [] rfl) (hK.sub (tys' := []) [] rfl) hN⟩⟩ rfl rfl hl.1 rfl (lv_room (Nat.le_of_ble_eq_true rfl)) dX12_cell_17 ⟨Nat.le_of_ble_eq_true rfl, Nat.le_of_ble_eq_true rfl⟩).run (fun r hw => ?_)
    obtain rfl : r = (480 * p0 + 60 * p1 + p2) := hw
    refine va_iald hx hb hK hP 3 0 rfl rfl (vCell hln b_1) dX12_cell_20 ?_
    refine lv_goto (tgt := 25) hx hb dX12_cell_21 (by decide) ?_
    exact W.iret (v := (u.2 2 ((480 * p0 + 60 * p1 + p2) : Int32).toNatClampNeg)) hx hb hr (fun t ht hW => ⟨_, rfl, (by first | (unfold mCellAt; rw [if_pos b_1]; done) | (unfold mCellAt; rw [if_pos b_1]; rfl) | (simp [mCellAt, b_1]; done)), ht⟩) (fun q h => absurd h List.not_mem_nil) dX12_cell_25
  ·
    obtain rfl : r = 0 := b_f hw b_1
    refine lv_if_eq (tgt := 24) hx hb dX12_cell_7 (by decide) (fun c_3 => ?_) (fun c_3 => absurd (by decide) c_3)
    refine lv_iconst (v := (-1)) hx hb dX12_cell_24 (by decide) ?_
    exact W.iret (v := (-1)) hx hb hr (fun t ht hW => ⟨_, rfl, (by first | (unfold mCellAt; rw [if_neg (bne b_1)]; done) | (unfold mCellAt; rw [if_neg (bne b_1)]; rfl) | (simp [mCellAt, b_1]; done)), ht⟩) (fun q h => absurd h List.not_mem_nil) dX12_cell_25
set_option maxHeartbeats 4000000 in
set_option maxRecDepth 100000 in
theorem m_rule (l : Launch) (dC : Nat → ClassId) (dI : Nat → Nat → Nat) (h0 : Nat) (v : Nat → Nat) (cI cZ : ClassId) (u : mS) (p0 p1 p2 : Int32) (hln : ∀ j, j < 96 → bw (u.2 0 j) 0 60 = true) (ha : bw (u.1 28) 0 300 = true) (sz : Nat) : Met l yX12_rule wsX12_rule ({ frames := 3, cells := 0, slots := 0, locals := 65 }) (va_Pc [.ref h0, .int p0, .int p1, .int p2] (fun U => U.heap.size = sz ∧ PW dC dI (mW h0 v cI cZ u) [(cI, .int), (cZ, .boolean)] U ∧ va_D (fun _ => True) (mW h0 v cI cZ u))) (va_Qi (fun (r : Int32) (u9 : mS) => (r, u9) = mRule u p0 p1 p2) (fun u9 t => va_P (dC, dI) vwCl (mW h0 v cI cZ u9) t.heap ∧ va_D (va_A (mW h0 v cI cZ u) sz) (mW h0 v cI cZ u9)) (va_A (mW h0 v cI cZ u) sz)) 0 0 (va_A (mW h0 v cI cZ u) sz) := by
  refine Met.ofW (cc := cX12_rule) (maxL := 4) (ret := (some .boolean)) (by decide) rfl ?_
  intro p e s m args below meth c s₁ B hml hv
  obtain ⟨rfl, hsz, ⟨hP, hK, hN⟩, hD0⟩ := hv
  have hx := B.exec
  have hb := B.bytes
  have hr := B.returns
  have hts := atoms_spec (ws := wsX12_rule) B.pre
  have hown : s.vm.findClass RX12 = some m.cls := findClass_of_methodNamed B.named
  have hlocks := B.notSynchronized
  subst hsz
  have hD := hD0.self (sz := s.heap.size)
  generalize hAe : va_A (mW h0 v cI cZ u) s.heap.size = A at hD ⊢
  have hA : ∀ q : Nat, s.heap.size ≤ q → A q := fun q h => by rw [← hAe]; exact Or.inr h
  have hS : va_S A s.heap s.heap [] := va_S.rf
  have hl := lv_entry ([.ref h0, .int p0, .int p1, .int p2]) (n := 4) (Nat.le_of_ble_eq_true rfl)
  rw [lg_entry_eq]
  generalize (lg_sl ([.ref h0, .int p0, .int p1, .int p2]) ++ List.replicate (4 - (lg_sl ([.ref h0, .int p0, .int p1, .int p2])).length) Slot.unset).toArray = ls at hl ⊢
  have hl : lv_has ls 4 [(0, .ref h0), (1, .int p0), (2, .int p1), (3, .int p2)] := hl
  refine lv_aload_n hx hb dX12_rule_0 rfl (lv_at hl 0 rfl) ?_
  refine lv_iload_n hx hb dX12_rule_1 rfl (lv_at hl 1 rfl) ?_
  refine lv_iload_n hx hb dX12_rule_2 rfl (lv_at hl 2 rfl) ?_
  refine lv_iload_n hx hb dX12_rule_3 rfl (lv_at hl 3 rfl) ?_
  refine vp_callSi (va_runV (As := [.int p0, .int p1, .int p2]) (rest := []) ⟨hx, hb, hml, hown, hts⟩ (m_isCell l dC dI h0 v cI cZ u p0 p1 p2) (cwV 3 hts gX12_rule_X12_isCell rfl rfl rfl zh_X12_isCell_9 ⟨Nat.le_of_ble_eq_true rfl, Nat.le_of_ble_eq_true rfl⟩) ⟨pw_fb, va_recv hK hP (ci := 11) (q0 := 0) rfl rfl, fun U hU hW => ⟨rfl, pw_to hU hW hP hK hN⟩⟩ rfl rfl hl.1 rfl (lv_room (Nat.le_of_ble_eq_true rfl)) dX12_rule_4 ⟨Nat.le_of_ble_eq_true rfl, Nat.le_of_ble_eq_true rfl⟩).run (fun r hw => ?_)
  rcases Bool.eq_false_or_eq_true (mCell u p0 p1 p2) with b_1 | b_1
  ·
    obtain rfl : r = 1 := b_t hw b_1
    refine lv_if_eq (tgt := 36) hx hb dX12_rule_7 (by decide) (fun c_2 => absurd c_2 (by decide)) (fun c_2 => ?_)
    refine lv_aload_n hx hb dX12_rule_10 rfl (lv_at hl 0 rfl) ?_
    refine va_get (D := (dC, dI)) (ci := 11) (v := .ref (v 2)) (C := RX12) (T := TX12) (N := 52) hx hb hts zl_X12_rule_X12 hown hK hP 0 rfl rfl 2 (by decide) (hts (.fieldLink RX12 16 "PageOneModel" "cell" "[I") (zat q_wsX12_rule k_wsX12_rule 884 rfl (by decide +kernel))) (fun _ h9 => h9) rfl dX12_rule_11 ?_
    refine lv_iload_n hx hb dX12_rule_14 rfl (lv_at hl 1 rfl) ?_
    refine lv_iload_n hx hb dX12_rule_15 rfl (lv_at hl 2 rfl) ?_
    refine lv_iload_n hx hb dX12_rule_16 rfl (lv_at hl 3 rfl) ?_
    refine vp_callSi (va_runS (As := [.int p0, .int p1, .int p2]) (rest := [.ref (v 2)]) ⟨hx, hb, hml, hown, hts⟩ (m_at l dC dI p0 p1 p2) (va_cwS 3 hts gX12_rule_X12_at rfl rfl rfl zh_X12_at_7 ⟨Nat.le_of_ble_eq_true rfl, Nat.le_of_ble_eq_true rfl⟩) ⟨pw_fb, fun U hU hW => ⟨rfl, pw_to hU hW (hP.sub (ws' := []) [] rfl) (hK.sub (tys' := []) [] rfl) hN⟩⟩ rfl rfl hl.1 rfl (lv_room (Nat.le_of_ble_eq_true rfl)) dX12_rule_17 ⟨Nat.le_of_ble_eq_true rfl, Nat.le_of_ble_eq_true rfl⟩).run (fun r hw => ?_)
    obtain rfl : r = (480 * p0 + 60 * p1 + p2) := hw
    refine va_iald hx hb hK hP 3 0 rfl rfl (vCell hln b_1) dX12_rule_20 ?_
    refine lv_bipush (v := (-2)) hx hb dX12_rule_21 (by decide) ?_
    refine lv_icmp_ne (tgt := 36) hx hb dX12_rule_23 (by decide) (fun c_3 => ?_) (fun c_3 => ?_)
    ·
      refine lv_iconst (v := 0) hx hb dX12_rule_36 (by decide) ?_
      exact W.zret (v := 0) hx hb hr (by decide) (fun t ht hW => ⟨⟨0, u, rfl, (by unfold mRule; rw [if_pos b_1, if_neg c_3]), by rw [ht]; exact hP, hD⟩, hS.F ht⟩) hS.2.2 dX12_rule_37
    ·
      refine lv_aload_n hx hb dX12_rule_26 rfl (lv_at hl 0 rfl) ?_
      refine va_get (D := (dC, dI)) (ci := 11) (v := .int (u.1 28)) (C := RX12) (T := TX12) (N := 52) hx hb hts zl_X12_rule_X12 hown hK hP 0 rfl rfl 28 (by decide) (hts (.fieldLink RX12 158 "PageOneModel" "acts" "I") (zat q_wsX12_rule k_wsX12_rule 910 rfl (by decide +kernel))) (fun _ h9 => h9) rfl dX12_rule_27 ?_
      refine lv_sipush (v := 300) hx hb dX12_rule_30 (by decide) ?_
      refine lv_icmp_ne (tgt := 38) hx hb dX12_rule_33 (by decide) (fun c_4 => ?_) (fun c_4 => ?_)
      ·
        refine lv_aload_n hx hb dX12_rule_38 rfl (lv_at hl 0 rfl) ?_
        refine va_get (D := (dC, dI)) (ci := 11) (v := .ref (v 2)) (C := RX12) (T := TX12) (N := 52) hx hb hts zl_X12_rule_X12 hown hK hP 0 rfl rfl 2 (by decide) (hts (.fieldLink RX12 16 "PageOneModel" "cell" "[I") (zat q_wsX12_rule k_wsX12_rule 884 rfl (by decide +kernel))) (fun _ h9 => h9) rfl dX12_rule_39 ?_
        refine lv_iload_n hx hb dX12_rule_42 rfl (lv_at hl 1 rfl) ?_
        refine lv_iload_n hx hb dX12_rule_43 rfl (lv_at hl 2 rfl) ?_
        refine lv_iload_n hx hb dX12_rule_44 rfl (lv_at hl 3 rfl) ?_
        refine vp_callSi (va_runS (As := [.int p0, .int p1, .int p2]) (rest := [.ref (v 2)]) ⟨hx, hb, hml, hown, hts⟩ (m_at l dC dI p0 p1 p2) (va_cwS 3 hts gX12_rule_X12_at rfl rfl rfl zh_X12_at_7 ⟨Nat.le_of_ble_eq_true rfl, Nat.le_of_ble_eq_true rfl⟩) ⟨pw_fb, fun U hU hW => ⟨rfl, pw_to hU hW (hP.sub (ws' := []) [] rfl) (hK.sub (tys' := []) [] rfl) hN⟩⟩ rfl rfl hl.1 rfl (lv_room (Nat.le_of_ble_eq_true rfl)) dX12_rule_45 ⟨Nat.le_of_ble_eq_true rfl, Nat.le_of_ble_eq_true rfl⟩).run (fun r hw => ?_)
        obtain rfl : r = (480 * p0 + 60 * p1 + p2) := hw
        refine lv_bipush (v := 100) hx hb dX12_rule_48 (by decide) ?_
        refine va_iast hx hb hK hP hD hS 3 0 rfl rfl (vCell hln b_1) dX12_rule_50 (fun H locs hP hD hS => ?_)
        obtain ⟨u_5, eu_5⟩ : ∃ zz : mS, zz = mst u 2 (480 * p0 + 60 * p1 + p2) 100 := ⟨_, rfl⟩
        have hP : va_P (dC, dI) vwCl (mW h0 v cI cZ u_5) H := by rw [eu_5]; exact hP
        have hD : va_D A (mW h0 v cI cZ u_5) := by rw [eu_5]; exact hD
        refine lv_aload_n hx hb dX12_rule_51 rfl (lv_at hl 0 rfl) ?_
        refine lv_iconst (v := 2) hx hb dX12_rule_52 (by decide) ?_
        refine lv_iload_n hx hb dX12_rule_53 rfl (lv_at hl 1 rfl) ?_
        refine lv_iload_n hx hb dX12_rule_54 rfl (lv_at hl 2 rfl) ?_
        refine lv_iload_n hx hb dX12_rule_55 rfl (lv_at hl 3 rfl) ?_
        refine lv_iconst (v := 0) hx hb dX12_rule_56 (by decide) ?_
        refine lv_iconst (v := 0) hx hb dX12_rule_57 (by decide) ?_
        refine lv_iconst (v := 0) hx hb dX12_rule_58 (by decide) ?_
        have hFc := fr_all hD hS hA
        refine va_callv (va_runV (As := [.int 2, .int p0, .int p1, .int p2, .int 0, .int 0, .int 0]) (rest := []) ⟨hx, hb, hml, hown, hts⟩ (m_acts l dC dI h0 v cI cZ u_5 2 p0 p1 p2 0 0 0 (by subst_vars; exact v300 ha c_4) H.size) (cwV 7 hts gX12_rule_X12_acts rfl rfl rfl zh_X12_acts_10 ⟨Nat.le_of_ble_eq_true rfl, Nat.le_of_ble_eq_true rfl⟩) ⟨gw_fb, va_recv hK hP (ci := 11) (q0 := 0) rfl rfl, fun U hU hW => ⟨rfl, by rw [hU], pw_to hU hW hP hK hN, hD.weaken (fun _ _ _ _ => trivial)⟩⟩ rfl rfl hl.1 rfl (lv_room (Nat.le_of_ble_eq_true rfl)) dX12_rule_59 ⟨Nat.le_of_ble_eq_true rfl, Nat.le_of_ble_eq_true rfl⟩) hS (fun q _ h => hFc q h) hFc (fun u_6 t H1 locs ht hvm hw hB hz1 hk1 hS => ?_)
        obtain ⟨hP, hD1⟩ := hB
        rw [ht] at hP
        have hD := hD1.weaken (fun _ q _ h => hFc q.1 h)
        generalize H1 = H at hP hS ⊢
        have eu_6 := hw
        refine lv_iconst (v := 1) hx hb dX12_rule_62 (by decide) ?_
        exact W.zret (v := 1) hx hb hr (by decide) (fun t ht hW => ⟨⟨1, u_6, rfl, (by rw [eu_6, eu_5]; unfold mRule; rw [if_pos b_1, if_pos c_3, if_neg c_4]), by rw [ht]; exact hP, hD⟩, hS.F ht⟩) hS.2.2 dX12_rule_63
      ·
        refine lv_iconst (v := 0) hx hb dX12_rule_36 (by decide) ?_
        exact W.zret (v := 0) hx hb hr (by decide) (fun t ht hW => ⟨⟨0, u, rfl, (by unfold mRule; rw [if_pos b_1, if_pos c_3, if_pos c_4]), by rw [ht]; exact hP, hD⟩, hS.F ht⟩) hS.2.2 dX12_rule_37
  ·
    obtain rfl : r = 0 := b_f hw b_1
    refine lv_if_eq (tgt := 36) hx hb dX12_rule_7 (by decide) (fun c_7 => ?_) (fun c_7 => absurd (by decide) c_7)
    refine lv_iconst (v := 0) hx hb dX12_rule_36 (by decide) ?_
    exact W.zret (v := 0) hx hb hr (by decide) (fun t ht hW => ⟨⟨0, u, rfl, (by unfold mRule; rw [if_neg (bne b_1)]), by rw [ht]; exact hP, hD⟩, hS.F ht⟩) hS.2.2 dX12_rule_37
set_option maxHeartbeats 4000000 in
set_option maxRecDepth 100000 in
theorem m_plateOf (l : Launch) (dC : Nat → ClassId) (dI : Nat → Nat → Nat) (h0 : Nat) (v : Nat → Nat) (cI cZ : ClassId) (u : mS) (p0 p1 : Int32) : Met l yX12_plateOf wsX12_plateOf ({ frames := 2, cells := 0, slots := 0, locals := 42 }) (va_Pc [.ref h0, .int p0, .int p1] (PW dC dI (mW h0 v cI cZ u) [(cI, .int), (cZ, .boolean)])) (vp_Si (fun r => r = mPlateOf u p0 p1)) 0 0 (fun _ => False) := by
  refine Met.ofW (cc := cX12_plateOf) (maxL := 3) (ret := (some .int)) (by decide) rfl ?_
  intro p e s m args below meth c s₁ B hml hv
  obtain ⟨rfl, hP, hK, hN⟩ := hv
  have hx := B.exec
  have hb := B.bytes
  have hr := B.returns
  have hts := atoms_spec (ws := wsX12_plateOf) B.pre
  have hown : s.vm.findClass RX12 = some m.cls := findClass_of_methodNamed B.named
  have hlocks := B.notSynchronized
  have hl := lv_entry ([.ref h0, .int p0, .int p1]) (n := 3) (Nat.le_of_ble_eq_true rfl)
  rw [lg_entry_eq]
  generalize (lg_sl ([.ref h0, .int p0, .int p1]) ++ List.replicate (3 - (lg_sl ([.ref h0, .int p0, .int p1])).length) Slot.unset).toArray = ls at hl ⊢
  have hl : lv_has ls 3 [(0, .ref h0), (1, .int p0), (2, .int p1)] := hl
  refine lv_iload_n hx hb dX12_plateOf_0 rfl (lv_at hl 1 rfl) ?_
  refine vp_callSi (va_runS (As := [.int p0]) (rest := []) ⟨hx, hb, hml, hown, hts⟩ (m_isPage l dC dI p0) (va_cwS 1 hts gX12_plateOf_X12_isPage rfl rfl rfl zh_X12_isPage_4 ⟨Nat.le_of_ble_eq_true rfl, Nat.le_of_ble_eq_true rfl⟩) ⟨pw_fb, fun U hU hW => ⟨rfl, pw_to hU hW (hP.sub (ws' := []) [] rfl) (hK.sub (tys' := []) [] rfl) hN⟩⟩ rfl rfl hl.1 rfl (lv_room (Nat.le_of_ble_eq_true rfl)) dX12_plateOf_1 ⟨Nat.le_of_ble_eq_true rfl, Nat.le_of_ble_eq_true rfl⟩).run (fun r hw => ?_)
  rcases Bool.eq_false_or_eq_true (bw p0 0 11) with b_1 | b_1
  ·
    obtain rfl : r = 1 := b_t hw b_1
    refine lv_if_eq (tgt := 16) hx hb dX12_plateOf_4 (by decide) (fun c_2 => absurd c_2 (by decide)) (fun c_2 => ?_)
    refine lv_aload_n hx hb dX12_plateOf_7 rfl (lv_at hl 0 rfl) ?_
    refine va_get (D := (dC, dI)) (ci := 11) (v := .ref (v 40)) (C := RX12) (T := TX12) (N := 52) hx hb hts zl_X12_plateOf_X12 hown hK hP 0 rfl rfl 40 (by decide) (hts (.fieldLink RX12 116 "PageOneModel" "isPlated" "[Z") (zat q_wsX12_plateOf k_wsX12_plateOf 922 rfl (by decide +kernel))) (fun _ h9 => h9) rfl dX12_plateOf_8 ?_
    refine lv_iload_n hx hb dX12_plateOf_11 rfl (lv_at hl 1 rfl) ?_
    refine va_zald hx hb hK hP 36 1 rfl rfl (vin b_1 (by decide)) dX12_plateOf_12 ?_
    refine lv_if_ne (tgt := 18) hx hb dX12_plateOf_13 (by decide) (fun c_3 => ?_) (fun c_3 => ?_)
    ·
      refine lv_iload_n hx hb dX12_plateOf_18 rfl (lv_at hl 2 rfl) ?_
      refine lv_if_ne (tgt := 31) hx hb dX12_plateOf_19 (by decide) (fun c_4 => ?_) (fun c_4 => ?_)
      ·
        refine lv_iload_n hx hb dX12_plateOf_31 rfl (lv_at hl 2 rfl) ?_
        refine lv_iconst (v := 1) hx hb dX12_plateOf_32 (by decide) ?_
        refine lv_icmp_ne (tgt := 45) hx hb dX12_plateOf_33 (by decide) (fun c_5 => ?_) (fun c_5 => ?_)
        ·
          refine lv_iconst (v := (-1)) hx hb dX12_plateOf_45 (by decide) ?_
          exact W.iret (v := (-1)) hx hb hr (fun t ht hW => ⟨_, rfl, (by first | (unfold mPlateOf; rw [if_pos b_1, if_neg c_3, if_neg c_4, if_neg c_5]; done) | (unfold mPlateOf; rw [if_pos b_1, if_neg c_3, if_neg c_4, if_neg c_5]; rfl) | (simp [mPlateOf, b_1, c_3, c_4, c_5]; done)), ht⟩) (fun q h => absurd h List.not_mem_nil) dX12_plateOf_46
        ·
          refine lv_aload_n hx hb dX12_plateOf_36 rfl (lv_at hl 0 rfl) ?_
          refine va_get (D := (dC, dI)) (ci := 11) (v := .ref (v 42)) (C := RX12) (T := TX12) (N := 52) hx hb hts zl_X12_plateOf_X12 hown hK hP 0 rfl rfl 42 (by decide) (hts (.fieldLink RX12 122 "PageOneModel" "plateEdition" "[I") (zat q_wsX12_plateOf k_wsX12_plateOf 924 rfl (by decide +kernel))) (fun _ h9 => h9) rfl dX12_plateOf_37 ?_
          refine lv_iload_n hx hb dX12_plateOf_40 rfl (lv_at hl 1 rfl) ?_
          refine va_iald hx hb hK hP 38 0 rfl rfl (vin b_1 (by decide)) dX12_plateOf_41 ?_
          refine lv_goto (tgt := 46) hx hb dX12_plateOf_42 (by decide) ?_
          exact W.iret (v := (u.2 42 (p0 : Int32).toNatClampNeg)) hx hb hr (fun t ht hW => ⟨_, rfl, (by first | (unfold mPlateOf; rw [if_pos b_1, if_neg c_3, if_neg c_4, if_pos c_5]; done) | (unfold mPlateOf; rw [if_pos b_1, if_neg c_3, if_neg c_4, if_pos c_5]; rfl) | (simp [mPlateOf, b_1, c_3, c_4, c_5]; done)), ht⟩) (fun q h => absurd h List.not_mem_nil) dX12_plateOf_46
      ·
        refine lv_aload_n hx hb dX12_plateOf_22 rfl (lv_at hl 0 rfl) ?_
        refine va_get (D := (dC, dI)) (ci := 11) (v := .ref (v 41)) (C := RX12) (T := TX12) (N := 52) hx hb hts zl_X12_plateOf_X12 hown hK hP 0 rfl rfl 41 (by decide) (hts (.fieldLink RX12 119 "PageOneModel" "plateDay" "[I") (zat q_wsX12_plateOf k_wsX12_plateOf 923 rfl (by decide +kernel))) (fun _ h9 => h9) rfl dX12_plateOf_23 ?_
        refine lv_iload_n hx hb dX12_plateOf_26 rfl (lv_at hl 1 rfl) ?_
        refine va_iald hx hb hK hP 37 0 rfl rfl (vin b_1 (by decide)) dX12_plateOf_27 ?_
        refine lv_goto (tgt := 46) hx hb dX12_plateOf_28 (by decide) ?_
        exact W.iret (v := (u.2 41 (p0 : Int32).toNatClampNeg)) hx hb hr (fun t ht hW => ⟨_, rfl, (by first | (unfold mPlateOf; rw [if_pos b_1, if_neg c_3, if_pos c_4]; done) | (unfold mPlateOf; rw [if_pos b_1, if_neg c_3, if_pos c_4]; rfl) | (simp [mPlateOf, b_1, c_3, c_4]; done)), ht⟩) (fun q h => absurd h List.not_mem_nil) dX12_plateOf_46
    ·
      refine lv_iconst (v := (-1)) hx hb dX12_plateOf_16 (by decide) ?_
      exact W.iret (v := (-1)) hx hb hr (fun t ht hW => ⟨_, rfl, (by first | (unfold mPlateOf; rw [if_pos b_1, if_pos c_3]; done) | (unfold mPlateOf; rw [if_pos b_1, if_pos c_3]; rfl) | (simp [mPlateOf, b_1, c_3]; done)), ht⟩) (fun q h => absurd h List.not_mem_nil) dX12_plateOf_17
  ·
    obtain rfl : r = 0 := b_f hw b_1
    refine lv_if_eq (tgt := 16) hx hb dX12_plateOf_4 (by decide) (fun c_6 => ?_) (fun c_6 => absurd (by decide) c_6)
    refine lv_iconst (v := (-1)) hx hb dX12_plateOf_16 (by decide) ?_
    exact W.iret (v := (-1)) hx hb hr (fun t ht hW => ⟨_, rfl, (by first | (unfold mPlateOf; rw [if_neg (bne b_1)]; done) | (unfold mPlateOf; rw [if_neg (bne b_1)]; rfl) | (simp [mPlateOf, b_1]; done)), ht⟩) (fun q h => absurd h List.not_mem_nil) dX12_plateOf_17
