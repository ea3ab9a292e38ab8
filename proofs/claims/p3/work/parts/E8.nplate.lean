/-- a plate in the making: all but the rows 43 to 46 -/
def plA (u0 : mS) (P : Nat) (u : mS) : Prop := (∀ k, k ≠ 49 → k ≠ 50 → k ≠ 51 → u.1 k = u0.1 k) ∧ (∀ r, r < 40 ∨ 46 < r → u.2 r = u0.2 r) ∧ (∀ j, u.2 40 j = if j = P then 1 else u0.2 40 j) ∧ (∀ j, u.2 41 j = if j = P then u0.1 38 else u0.2 41 j) ∧ ∀ j, u.2 42 j = if j = P then u0.1 39 else u0.2 42 j
def plC (u0 u : mS) (P n : Nat) : Prop := ∀ j, u.2 44 j = if 480 * P ≤ j ∧ j < 480 * P + n then u0.2 2 j else u0.2 44 j
def plL (u0 u : mS) (P n : Nat) : Prop := ∀ j, u.2 43 j = if 8 * P ≤ j ∧ j < 8 * P + n then u0.2 0 j else u0.2 43 j
theorem plA_st {u0 u : mS} {P : Nat} (h : plA u0 P u) {k : Nat} (hk : 43 ≤ k ∧ k ≤ 46) (i x : Int32) : plA u0 P (mst u k i x) := by
  obtain ⟨a1, a2, a3, a4, a5⟩ := h
  refine ⟨fun j q1 q2 q3 => (congrFun (mst_1 u k i x) j).trans (a1 j q1 q2 q3), fun r hr => by rw [mst_other (by omega)]; exact a2 r hr, fun j => by rw [mst_other (by omega)]; exact a3 j, fun j => by rw [mst_other (by omega)]; exact a4 j, fun j => by rw [mst_other (by omega)]; exact a5 j⟩
theorem plA_3 {u0 v : mS} {P : Nat} {p0 x y z : Int32} (h : mE u0 v) (hP : P < 12) (eP : p0 = nI P) (hx : x = 1) (hy : y = u0.1 38) (hz : z = u0.1 39) : plA u0 P (mst (mst (mst v 40 p0 x) 41 p0 y) 42 p0 z) := by
  have ep : p0.toNatClampNeg = P := by rw [eP, nI_clamp (by omega)]
  refine ⟨fun k q1 q2 q3 => ?_, fun r hr => ?_, fun j => ?_, fun j => ?_, fun j => ?_⟩
  · rw [mst_1, mst_1, mst_1]; exact h.2 k q1 q2 q3
  · rw [mst_other (by omega), mst_other (by omega), mst_other (by omega), h.1]
  · rw [mst_other (by decide), mst_other (by decide), mst_at, ep, hx, h.1]
  · rw [mst_other (by decide), mst_at, ep, hy, mst_other (by decide), h.1]
  · rw [mst_at, ep, hz, mst_other (by decide), mst_other (by decide), h.1]
theorem pl3_o {u0 v : mS} {p0 x y z : Int32} (h : mE u0 v) {r : Nat} (hr : 43 ≤ r) : (mst (mst (mst v 40 p0 x) 41 p0 y) 42 p0 z).2 r = u0.2 r := by
  rw [mst_other (by omega), mst_other (by omega), mst_other (by omega), h.1]
theorem plC_0 {u0 u : mS} {P : Nat} (h : u.2 44 = u0.2 44) : plC u0 u P 0 := fun j => by rw [h, if_neg (by omega)]
theorem plL_0 {u0 u : mS} {P : Nat} (h : u.2 43 = u0.2 43) : plL u0 u P 0 := fun j => by rw [h, if_neg (by omega)]
theorem i480 {P i : Nat} (hP : P < 12) (hi : i < 480) : (480 * nI P + nI i).toNatClampNeg = 480 * P + i := by
  rw [show (480 : Int32) = nI 480 from rfl, pk_mul, nI_add, nI_clamp (by omega)]
theorem i6k {j k : Nat} (hj : j < 80) (hk : k < 6) : (6 * nI j + nI k).toNatClampNeg = 6 * j + k := by
  rw [show (6 : Int32) = nI 6 from rfl, pk_mul, nI_add, nI_clamp (by omega)]
theorem plC_s {u0 u : mS} {P i : Nat} {p0 x : Int32} (h : plC u0 u P i) (hP : P < 12) (eP : p0 = nI P) (hi : i < 480) (hx : x = u0.2 2 (480 * P + i)) : plC u0 (mst u 44 (480 * p0 + nI i) x) P (i + 1) := fun j => by
  rw [mst_at, eP, i480 hP hi, hx, h j]
  by_cases e : j = 480 * P + i
  · rw [if_pos e, if_pos (by omega), e]
  · rw [if_neg e]
    by_cases q : 480 * P ≤ j ∧ j < 480 * P + i
    · rw [if_pos q, if_pos (by omega)]
    · rw [if_neg q, if_neg (by omega)]
theorem plL_s {u0 u : mS} {P i : Nat} {p0 x : Int32} (h : plL u0 u P i) (hP : P < 12) (eP : p0 = nI P) (hi : i < 8) (hx : x = u0.2 0 (8 * P + i)) : plL u0 (mst u 43 (8 * p0 + nI i) x) P (i + 1) := fun j => by
  rw [mst_at, eP, idx8 hP hi, hx, h j]
  by_cases e : j = 8 * P + i
  · rw [if_pos e, if_pos (by omega), e]
  · rw [if_neg e]
    by_cases q : 8 * P ≤ j ∧ j < 8 * P + i
    · rw [if_pos q, if_pos (by omega)]
    · rw [if_neg q, if_neg (by omega)]
/-- the first of an item's pieces lo .. hi that is on page P -/
def pgK (u : mS) (P t k : Nat) : Prop := u.2 23 (6 * t + k) = nI P
def plR (u : mS) (P t lo hi : Nat) (x y : Int32) : Prop := (x = (-1) ∧ ∀ k, lo ≤ k → k < hi → ¬ pgK u P t k) ∨ ∃ k, lo ≤ k ∧ k < hi ∧ pgK u P t k ∧ (∀ k', lo ≤ k' → k' < k → ¬ pgK u P t k') ∧ x = u.2 24 (6 * t + k) ∧ y = u.2 25 (6 * t + k)
theorem plR_o {u : mS} {P t lo hi : Nat} {x y : Int32} (h : plR u P t (lo + 1) hi x y) (hn : ¬ pgK u P t lo) : plR u P t lo hi x y := by
  rcases h with ⟨h1, h2⟩ | ⟨k, h1, h2, h3, h4, h5⟩
  · refine Or.inl ⟨h1, fun k q1 q2 => ?_⟩
    by_cases e : k = lo
    · rw [e]; exact hn
    · exact h2 k (by omega) q2
  · refine Or.inr ⟨k, by omega, h2, h3, fun k' q1 q2 => ?_, h5⟩
    by_cases e : k' = lo
    · rw [e]; exact hn
    · exact h4 k' (by omega) q2
theorem plR_n {u : mS} {P t lo hi : Nat} (hl : lo < hi) (hp : pgK u P t lo) : plR u P t lo hi (u.2 24 (6 * t + lo)) (u.2 25 (6 * t + lo)) := Or.inr ⟨lo, Nat.le_refl _, hl, hp, fun k' q1 q2 => absurd q1 (by omega), rfl, rfl⟩
/-- how many pieces item t has -/
def ptN (u : mS) (t : Nat) : Nat := if t < (u.1 3).toNatClampNeg then (u.2 22 t).toNatClampNeg else 0
def plB (u0 : mS) (P : Nat) (u : mS) : Prop := plA u0 P u ∧ plC u0 u P 480 ∧ plL u0 u P 8
theorem plB_st {u0 u : mS} {P : Nat} (h : plB u0 P u) {k : Nat} (hk : k = 45 ∨ k = 46) (i x : Int32) : plB u0 P (mst u k i x) := ⟨plA_st h.1 (by omega) i x, fun j => by rw [mst_other (by omega)]; exact h.2.1 j, fun j => by rw [mst_other (by omega)]; exact h.2.2 j⟩
/-- the items before i are told -/
def plI9 (u0 : mS) (P : Nat) (u : mS) (i : Nat) : Prop := (∀ j, j < 80 * P ∨ 80 * P + i ≤ j → u.2 45 j = u0.2 45 j ∧ u.2 46 j = u0.2 46 j) ∧ ∀ t, t < i → plR u0 P t 0 (ptN u0 t) (u.2 45 (80 * P + t)) (u.2 46 (80 * P + t))
/-- item j9 in the making -/
def plK9 (u0 ub : mS) (P : Nat) (u : mS) (j9 lo hi : Nat) : Prop := (∀ j, j ≠ 80 * P + j9 → u.2 45 j = ub.2 45 j ∧ u.2 46 j = ub.2 46 j) ∧ plR u0 P j9 lo hi (u.2 45 (80 * P + j9)) (u.2 46 (80 * P + j9))
theorem plK_s {u0 ub u : mS} {P j9 lo hi : Nat} {p0 x y : Int32} (h : plK9 u0 ub P u j9 (lo + 1) hi) (hP : P < 12) (hj : j9 < 80) (eP : p0 = nI P) (hl : lo < hi) (hp : pgK u0 P j9 lo) (hx : x = u0.2 24 (6 * j9 + lo)) (hy : y = u0.2 25 (6 * j9 + lo)) : plK9 u0 ub P (mst (mst u 45 (80 * p0 + nI j9) x) 46 (80 * p0 + nI j9) y) j9 lo hi := by
  have e8 : (80 * p0 + nI j9).toNatClampNeg = 80 * P + j9 := by rw [eP]; exact i80 (by omega) hj
  refine ⟨fun j hj => ?_, ?_⟩
  · rw [mst_at, mst_other (by decide), mst_at, mst_other (by decide), e8, if_neg hj, if_neg hj]; exact h.1 j hj
  · rw [mst_at, mst_other (by decide), mst_at, e8, if_pos rfl, if_pos rfl, hx, hy]
    exact plR_n hl hp
theorem plK_0 {u0 u : mS} {P j9 K : Nat} {p0 : Int32} (hP : P < 12) (hj : j9 < 80) (eP : p0 = nI P) : plK9 u0 u P (mst u 45 (80 * p0 + nI j9) (-1)) j9 K K := by
  have e8 : (80 * p0 + nI j9).toNatClampNeg = 80 * P + j9 := by rw [eP]; exact i80 (by omega) hj
  refine ⟨fun j hj => ?_, Or.inl ⟨?_, fun k q1 q2 => absurd q1 (by omega)⟩⟩
  · rw [mst_at, mst_other (by decide), e8, if_neg hj]; exact ⟨rfl, rfl⟩
  · rw [mst_at, e8, if_pos rfl]
theorem plI_s {u0 u w : mS} {P i : Nat} (h : plI9 u0 P u i) (hk : plK9 u0 u P w i 0 (ptN u0 i)) : plI9 u0 P w (i + 1) := by
  refine ⟨fun j hj => ?_, fun t ht => ?_⟩
  · have q := hk.1 j (by omega)
    rw [q.1, q.2]; exact h.1 j (by omega)
  · by_cases e : t = i
    · rw [e]; exact hk.2
    · have q := hk.1 (80 * P + t) (by omega)
      rw [q.1, q.2]; exact h.2 t (by omega)
/-- how many cells a page has -/
def plS (u : mS) (p0 : Int32) : Nat → Int32
  | 0 => 0
  | n + 1 => plS u p0 n + u.2 0 (8 * p0 + nI n).toNatClampNeg
set_option maxHeartbeats 4000000 in
set_option maxRecDepth 100000 in
theorem n_pl_in {p : Program} {l : Launch} {e : Env} {R : Room} {s : State} {m : MethodId} {args : Array Value} {below : List Frame} {meth : Method} {c : Code} {Q : State → Prop} {cells slots : Nat} {dC : Nat → ClassId} {dI : Nat → Nat → Nat} {h0 : Nat} {v : Nat → Nat} {cI cZ : ClassId} {H : Heap} {locs : List Loc} {u : mS} (hx : p.tables.exec = Jvm.exec) (hb : c.code = cX12_plate) (hml : c.maxLocals = 5) (hts : ∀ w ∈ wsX12_plate, w.before args s = true) (hown : s.vm.findClass RX12 = some m.cls) (hN : NN s) (hK : va_K (dC, dI) vwCl [(cI, .int), (cZ, .boolean)] s) (hRf : 1 ≤ R.frames) (hRl : 22 ≤ R.locals) (hRc : cells ≤ R.cells) (hRs : slots ≤ R.slots) (hP : va_P (dC, dI) vwCl (mW h0 v cI cZ u) H) {p0 a0 : Int32} {c9 K : Nat} (hp : bw p0 0 11 = true) (hc8 : c9 < 8) (eK : u.2 0 (8 * p0 + nI c9).toNatClampNeg = nI K) (hK6 : K ≤ 60) (kx55 : ∀ (i : Nat) (a : Int32) (ls : Array Slot), i < K → (u.2 2 (480 * p0 + 60 * nI c9 + nI i).toNatClampNeg) = (-2) → (a = a0 + nI i ∧ ∀ t, t < i → ¬ (u.2 2 (480 * p0 + 60 * nI c9 + nI t).toNatClampNeg) = (-2)) → lv_has ls 5 [(4, .int (nI i)), (2, .int a), (3, .int (nI c9)), (0, .ref h0), (1, .int p0)] → W p l e R s m args below meth c H locs cells slots Q (F0 m 55 ls [])) (kx : ∀ (a : Int32) (ls : Array Slot), (a = a0 + nI K ∧ ∀ t, t < K → ¬ (u.2 2 (480 * p0 + 60 * nI c9 + nI t).toNatClampNeg) = (-2)) → lv_has ls 5 [(4, .int (nI K)), (2, .int a), (3, .int (nI c9)), (0, .ref h0), (1, .int p0)] → W p l e R s m args below meth c H locs cells slots Q (F0 m 66 ls [])) : ∀ (k i : Nat) (a : Int32) (ls : Array Slot), i ≤ K → K - i < k → (a = a0 + nI i ∧ ∀ t, t < i → ¬ (u.2 2 (480 * p0 + 60 * nI c9 + nI t).toNatClampNeg) = (-2)) → lv_has ls 5 [(4, .int (nI i)), (2, .int a), (3, .int (nI c9)), (0, .ref h0), (1, .int p0)] → W p l e R s m args below meth c H locs cells slots Q (F0 m 22 ls []) := by
  intro k
  induction k with
  | zero => intro i a ls h1 h2; exact absurd h2 (Nat.not_lt_zero _)
  | succ k ih =>
    intro i a ls hi hk hg hl
    refine lv_iload hx hb dX12_plate_22 (lv_at hl 0 rfl) ?_
    refine lv_aload_n hx hb dX12_plate_24 rfl (lv_at hl 3 rfl) ?_
    refine va_get (D := (dC, dI)) (ci := 11) (v := .ref (v 0)) (C := RX12) (T := TX12) (N := 52) hx hb hts (by decide +kernel) hown hK hP 0 rfl rfl 0 (by decide) (hts (.fieldLink RX12 7 "PageOneModel" "lines" "[I") (by decide +kernel)) (fun _ h9 => h9) rfl dX12_plate_25 ?_
    refine lv_bipush (v := 8) hx hb dX12_plate_28 (by decide) ?_
    refine lv_iload_n hx hb dX12_plate_30 rfl (lv_at hl 4 rfl) ?_
    refine lv_imul hx hb dX12_plate_31 ?_
    refine lv_iload_n hx hb dX12_plate_32 rfl (lv_at hl 2 rfl) ?_
    refine lv_iadd hx hb dX12_plate_33 ?_
    refine va_iald hx hb hK hP 1 0 rfl rfl (vin8 hp (bw7 hc8)) dX12_plate_34 ?_
    refine lv_topi (fun y_1 ey_1 => ?_)
    obtain rfl : y_1 = (nI K) := ey_1.trans (eK)
    refine lv_icmp_ge (tgt := 66) hx hb dX12_plate_35 (by decide) (fun c_2 => ?_) (fun c_2 => ?_)
    ·
      have hie : i = K := lp_eq rfl (by omega) hi c_2
      rw [hie] at hg hl
      exact kx _ ls hg (lv_sub hl [0, 1, 2, 3, 4] rfl)
    ·
      have hlt : i < K := lp_lt rfl (by omega) hi c_2
      refine lv_aload_n hx hb dX12_plate_38 rfl (lv_at hl 3 rfl) ?_
      refine va_get (D := (dC, dI)) (ci := 11) (v := .ref (v 2)) (C := RX12) (T := TX12) (N := 52) hx hb hts (by decide +kernel) hown hK hP 0 rfl rfl 2 (by decide) (hts (.fieldLink RX12 16 "PageOneModel" "cell" "[I") (by decide +kernel)) (fun _ h9 => h9) rfl dX12_plate_39 ?_
      refine lv_iload_n hx hb dX12_plate_42 rfl (lv_at hl 4 rfl) ?_
      refine lv_iload_n hx hb dX12_plate_43 rfl (lv_at hl 2 rfl) ?_
      refine lv_iload hx hb dX12_plate_44 (lv_at hl 0 rfl) ?_
      refine vp_callSi (va_runS (As := [.int p0, .int (nI c9), .int (nI i)]) (rest := [.ref (v 2)]) ⟨hx, hb, hml, hown, hts⟩ (m_at l dC dI p0 (nI c9) (nI i)) (va_cwS 3 hts gX12_plate_X12_at rfl rfl rfl (by decide +kernel) ⟨Nat.le_trans (Nat.le_of_ble_eq_true rfl) hRf, Nat.le_trans (Nat.le_of_ble_eq_true rfl) hRl⟩) ⟨pw_fb, fun U hU hW => ⟨rfl, pw_to hU hW (hP.sub (ws' := []) [] rfl) (hK.sub (tys' := []) [] rfl) hN⟩⟩ rfl rfl hl.1 rfl (lv_room (Nat.le_of_ble_eq_true rfl)) dX12_plate_46 ⟨hRc, hRs⟩).run (fun r hw => ?_)
      obtain rfl : r = (480 * p0 + 60 * (nI c9) + (nI i)) := hw
      refine va_iald hx hb hK hP 3 0 rfl rfl (vinC hp (bw7 hc8) (by omega)) dX12_plate_49 ?_
      refine lv_bipush (v := (-2)) hx hb dX12_plate_50 (by decide) ?_
      refine lv_icmp_ne (tgt := 57) hx hb dX12_plate_52 (by decide) (fun c_3 => ?_) (fun c_3 => ?_)
      ·
        obtain ⟨x_4, ex_4⟩ : ∃ y : Int32, y = a + 1 := ⟨_, rfl⟩
        refine lv_iinc (v := x_4) (lv' := [(2, .int x_4), (4, .int (nI i)), (3, .int (nI c9)), (0, .ref h0), (1, .int p0)]) hx hb dX12_plate_57 hl (k := 1) rfl (by rw [ex_4]; rfl) (by decide) rfl (fun ls hl => ?_)
        refine lv_iinc (v := (nI (i + 1))) (lv' := [(4, .int (nI (i + 1))), (2, .int x_4), (3, .int (nI c9)), (0, .ref h0), (1, .int p0)]) hx hb dX12_plate_60 hl (k := 1) rfl (nI_1 i) (by decide) rfl (fun ls hl => ?_)
        refine lv_goto (tgt := 22) hx hb dX12_plate_63 (by decide) ?_
        exact ih (i + 1) _ ls (by omega) (by omega) ⟨by rw [ex_4, hg.1, Int32.add_assoc, nI_1], fun t ht => if h3 : t = i then by rw [h3]; exact c_3 else hg.2 t (by omega)⟩ (lv_sub hl [0, 1, 2, 3, 4] rfl)
      ·
        exact kx55 i _ ls hlt c_3 hg (lv_sub hl [0, 1, 2, 3, 4] rfl)
set_option maxHeartbeats 4000000 in
set_option maxRecDepth 100000 in
theorem n_pl_out {p : Program} {l : Launch} {e : Env} {R : Room} {s : State} {m : MethodId} {args : Array Value} {below : List Frame} {meth : Method} {c : Code} {Q : State → Prop} {cells slots : Nat} {dC : Nat → ClassId} {dI : Nat → Nat → Nat} {h0 : Nat} {v : Nat → Nat} {cI cZ : ClassId} {H : Heap} {locs : List Loc} {u : mS} (hx : p.tables.exec = Jvm.exec) (hb : c.code = cX12_plate) (hml : c.maxLocals = 5) (hts : ∀ w ∈ wsX12_plate, w.before args s = true) (hown : s.vm.findClass RX12 = some m.cls) (hN : NN s) (hK : va_K (dC, dI) vwCl [(cI, .int), (cZ, .boolean)] s) (hRf : 1 ≤ R.frames) (hRl : 22 ≤ R.locals) (hRc : cells ≤ R.cells) (hRs : slots ≤ R.slots) (hP : va_P (dC, dI) vwCl (mW h0 v cI cZ u) H) {p0 : Int32} (hp : bw p0 0 11 = true) (hln : ∀ j, j < 96 → bw (u.2 0 j) 0 60 = true) (kx55 : ∀ (i : Nat) (a : Int32) (ls : Array Slot), i < 8 → (∃ c l, c < 8 ∧ l < lnN u p0 c ∧ u.2 2 (480 * p0 + 60 * nI c + nI l).toNatClampNeg = (-2)) → lv_has ls 5 [(3, .int (nI i)), (2, .int a), (0, .ref h0), (1, .int p0)] → W p l e R s m args below meth c H locs cells slots Q (F0 m 55 ls [])) (kx : ∀ (a : Int32) (ls : Array Slot), (a = plS u p0 8 ∧ (∀ c l, c < 8 → l < lnN u p0 c → ¬ u.2 2 (480 * p0 + 60 * nI c + nI l).toNatClampNeg = (-2))) → lv_has ls 5 [(3, .int (nI 8)), (2, .int a), (0, .ref h0), (1, .int p0)] → W p l e R s m args below meth c H locs cells slots Q (F0 m 72 ls [])) : ∀ (k i : Nat) (a : Int32) (ls : Array Slot), i ≤ 8 → 8 - i < k → (a = plS u p0 i ∧ (∀ c l, c < i → l < lnN u p0 c → ¬ u.2 2 (480 * p0 + 60 * nI c + nI l).toNatClampNeg = (-2))) → lv_has ls 5 [(3, .int (nI i)), (2, .int a), (0, .ref h0), (1, .int p0)] → W p l e R s m args below meth c H locs cells slots Q (F0 m 13 ls []) := by
  intro k
  induction k with
  | zero => intro i a ls h1 h2; exact absurd h2 (Nat.not_lt_zero _)
  | succ k ih =>
    intro i a ls hi hk hg hl
    refine lv_iload_n hx hb dX12_plate_13 rfl (lv_at hl 0 rfl) ?_
    refine lv_bipush (v := 8) hx hb dX12_plate_14 (by decide) ?_
    refine lv_icmp_ge (tgt := 72) hx hb dX12_plate_16 (by decide) (fun c_1 => ?_) (fun c_1 => ?_)
    ·
      have hie : i = 8 := lp_eq rfl (by decide) hi c_1
      subst hie
      exact kx _ ls hg (lv_sub hl [0, 1, 2, 3] rfl)
    ·
      have hlt : i < 8 := lp_lt rfl (by decide) hi c_1
      refine lv_iconst (v := 0) hx hb dX12_plate_19 (by decide) ?_
      refine lv_istore (lv' := [(4, .int 0), (3, .int (nI i)), (2, .int a), (0, .ref h0), (1, .int p0)]) hx hb dX12_plate_20 hl (by decide) rfl (fun ls hl => ?_)
      obtain ⟨eK, eK2, eK3⟩ := nI_of_bw (hln _ (vlt (vin8 hp (bw7 hlt))))
      have h60 : (60 : Int32).toInt = 60 := rfl
      refine n_pl_in (a0 := a) (c9 := i) (K := (u.2 0 (8 * p0 + nI i).toNatClampNeg).toNatClampNeg) hx hb hml hts hown hN hK hRf hRl hRc hRs hP hp hlt eK (by omega) (fun j b ls hj he _ hl => kx55 i b ls hlt ⟨i, j, hlt, hj, he⟩ (lv_sub hl [2, 1, 3, 4] rfl)) (fun b ls hg2 hl => ?_) _ 0 _ ls (Nat.zero_le _) (Nat.lt_succ_self _) ⟨(Int32.add_zero a).symm, fun t ht => absurd ht (Nat.not_lt_zero _)⟩ (lv_sub hl [0, 2, 1, 3, 4] rfl)
      have hg9 : b = plS u p0 (i + 1) ∧ (∀ c l, c < (i + 1) → l < lnN u p0 c → ¬ u.2 2 (480 * p0 + 60 * nI c + nI l).toNatClampNeg = (-2)) := ⟨by rw [hg2.1, hg.1, ← eK]; rfl, fun c l h1 h2 => if h3 : c = i then by rw [h3] at h2 ⊢; exact hg2.2 l h2 else hg.2 c l (by omega) h2⟩
      refine lv_iinc (v := (nI (i + 1))) (lv' := [(3, .int (nI (i + 1))), (4, .int (nI (u.2 0 (8 * p0 + nI i).toNatClampNeg).toNatClampNeg)), (2, .int b), (0, .ref h0), (1, .int p0)]) hx hb dX12_plate_66 hl (k := 2) rfl (nI_1 i) (by decide) rfl (fun ls hl => ?_)
      refine lv_goto (tgt := 13) hx hb dX12_plate_69 (by decide) ?_
      exact ih (i + 1) _ ls (by omega) (by omega) hg9 (lv_sub hl [0, 2, 3, 4] rfl)
set_option maxHeartbeats 4000000 in
set_option maxRecDepth 100000 in
theorem n_pl_c {p : Program} {l : Launch} {e : Env} {R : Room} {s : State} {m : MethodId} {args : Array Value} {below : List Frame} {meth : Method} {c : Code} {Q : State → Prop} {cells slots : Nat} {dC : Nat → ClassId} {dI : Nat → Nat → Nat} {h0 : Nat} {v : Nat → Nat} {cI cZ : ClassId} {u0 : mS} {p0 b9 : Int32} {P : Nat} (hp : bw p0 0 11 = true) (hP12 : P < 12) (eP : p0 = nI P) {A : Nat → Prop} {H0 : Heap} (hx : p.tables.exec = Jvm.exec) (hb : c.code = cX12_plate) (hml : c.maxLocals = 5) (hts : ∀ w ∈ wsX12_plate, w.before args s = true) (hown : s.vm.findClass RX12 = some m.cls) (hN : NN s) (hK : va_K (dC, dI) vwCl [(cI, .int), (cZ, .boolean)] s) (hA : ∀ q : Nat, H0.size ≤ q → A q) (kx : ∀ (u : mS) (H : Heap) (locs : List Loc) (ls : Array Slot), (plA u0 P u ∧ plC u0 u P 480 ∧ u.2 43 = u0.2 43 ∧ u.2 45 = u0.2 45 ∧ u.2 46 = u0.2 46) → va_P (dC, dI) vwCl (mW h0 v cI cZ u) H → va_D A (mW h0 v cI cZ u) → va_S A H0 H locs → lv_has ls 5 [(3, .int (nI 480)), (2, .int b9), (0, .ref h0), (1, .int p0)] → W p l e R s m args below meth c H locs cells slots Q (F0 m 156 ls [])) : ∀ (k i : Nat) (u : mS) (H : Heap) (locs : List Loc) (ls : Array Slot), i ≤ 480 → 480 - i < k → (plA u0 P u ∧ plC u0 u P i ∧ u.2 43 = u0.2 43 ∧ u.2 45 = u0.2 45 ∧ u.2 46 = u0.2 46) → va_P (dC, dI) vwCl (mW h0 v cI cZ u) H → va_D A (mW h0 v cI cZ u) → va_S A H0 H locs → lv_has ls 5 [(3, .int (nI i)), (2, .int b9), (0, .ref h0), (1, .int p0)] → W p l e R s m args below meth c H locs cells slots Q (F0 m 119 ls []) := by
  intro k
  induction k with
  | zero => intro i u H locs ls h1 h2; exact absurd h2 (Nat.not_lt_zero _)
  | succ k ih =>
    intro i u H locs ls hi hk hg hP hD hS hl
    refine lv_iload_n hx hb dX12_plate_119 rfl (lv_at hl 0 rfl) ?_
    refine lv_sipush (v := 480) hx hb dX12_plate_120 (by decide) ?_
    refine lv_icmp_ge (tgt := 156) hx hb dX12_plate_123 (by decide) (fun c_1 => ?_) (fun c_1 => ?_)
    ·
      have hie : i = 480 := lp_eq rfl (by decide) hi c_1
      subst hie
      exact kx _ _ _ ls hg hP hD hS (lv_sub hl [0, 1, 2, 3] rfl)
    ·
      have hlt : i < 480 := lp_lt rfl (by decide) hi c_1
      refine lv_aload_n hx hb dX12_plate_126 rfl (lv_at hl 2 rfl) ?_
      refine va_get (D := (dC, dI)) (ci := 11) (v := .ref (v 44)) (C := RX12) (T := TX12) (N := 52) hx hb hts (by decide +kernel) hown hK hP 0 rfl rfl 44 (by decide) (hts (.fieldLink RX12 128 "PageOneModel" "plateCell" "[I") (by decide +kernel)) (fun _ h9 => h9) rfl dX12_plate_127 ?_
      refine lv_sipush (v := 480) hx hb dX12_plate_130 (by decide) ?_
      refine lv_iload_n hx hb dX12_plate_133 rfl (lv_at hl 3 rfl) ?_
      refine lv_imul hx hb dX12_plate_134 ?_
      refine lv_iload_n hx hb dX12_plate_135 rfl (lv_at hl 0 rfl) ?_
      refine lv_iadd hx hb dX12_plate_136 ?_
      refine lv_aload_n hx hb dX12_plate_137 rfl (lv_at hl 2 rfl) ?_
      refine va_get (D := (dC, dI)) (ci := 11) (v := .ref (v 2)) (C := RX12) (T := TX12) (N := 52) hx hb hts (by decide +kernel) hown hK hP 0 rfl rfl 2 (by decide) (hts (.fieldLink RX12 16 "PageOneModel" "cell" "[I") (by decide +kernel)) (fun _ h9 => h9) rfl dX12_plate_138 ?_
      refine lv_sipush (v := 480) hx hb dX12_plate_141 (by decide) ?_
      refine lv_iload_n hx hb dX12_plate_144 rfl (lv_at hl 3 rfl) ?_
      refine lv_imul hx hb dX12_plate_145 ?_
      refine lv_iload_n hx hb dX12_plate_146 rfl (lv_at hl 0 rfl) ?_
      refine lv_iadd hx hb dX12_plate_147 ?_
      refine va_iald hx hb hK hP 3 0 rfl rfl (vinP hp hlt) dX12_plate_148 ?_
      refine va_iast hx hb hK hP hD hS 40 0 rfl rfl (vinP hp hlt) dX12_plate_149 (fun H locs hP hD hS => ?_)
      obtain ⟨u_2, eu_2⟩ : ∃ zz : mS, zz = mst u 44 ((480 * p0) + (nI i)) (u.2 2 (((480 * p0) + (nI i)) : Int32).toNatClampNeg) := ⟨_, rfl⟩
      have hP : va_P (dC, dI) vwCl (mW h0 v cI cZ u_2) H := by rw [eu_2]; exact hP
      have hD : va_D A (mW h0 v cI cZ u_2) := by rw [eu_2]; exact hD
      refine lv_iinc (v := (nI (i + 1))) (lv' := [(3, .int (nI (i + 1))), (2, .int b9), (0, .ref h0), (1, .int p0)]) hx hb dX12_plate_150 hl (k := 0) rfl (nI_1 i) (by decide) rfl (fun ls hl => ?_)
      refine lv_goto (tgt := 119) hx hb dX12_plate_153 (by decide) ?_
      exact ih (i + 1) _ _ _ ls (by omega) (by omega) (by rw [eu_2]; exact ⟨plA_st hg.1 (by decide) _ _, plC_s hg.2.1 hP12 eP hlt (by rw [hg.1.2.1 2 (Or.inl (by decide)), eP, i480 hP12 hlt]), (mst_other (by decide)).trans hg.2.2.1, (mst_other (by decide)).trans hg.2.2.2.1, (mst_other (by decide)).trans hg.2.2.2.2⟩) hP hD hS (lv_sub hl [0, 1, 2, 3] rfl)
set_option maxHeartbeats 4000000 in
set_option maxRecDepth 100000 in
theorem n_pl_l {p : Program} {l : Launch} {e : Env} {R : Room} {s : State} {m : MethodId} {args : Array Value} {below : List Frame} {meth : Method} {c : Code} {Q : State → Prop} {cells slots : Nat} {dC : Nat → ClassId} {dI : Nat → Nat → Nat} {h0 : Nat} {v : Nat → Nat} {cI cZ : ClassId} {u0 : mS} {p0 b9 : Int32} {P : Nat} (hp : bw p0 0 11 = true) (hP12 : P < 12) (eP : p0 = nI P) {A : Nat → Prop} {H0 : Heap} (hx : p.tables.exec = Jvm.exec) (hb : c.code = cX12_plate) (hml : c.maxLocals = 5) (hts : ∀ w ∈ wsX12_plate, w.before args s = true) (hown : s.vm.findClass RX12 = some m.cls) (hN : NN s) (hK : va_K (dC, dI) vwCl [(cI, .int), (cZ, .boolean)] s) (hA : ∀ q : Nat, H0.size ≤ q → A q) (kx : ∀ (u : mS) (H : Heap) (locs : List Loc) (ls : Array Slot), (plA u0 P u ∧ plC u0 u P 480 ∧ plL u0 u P 8 ∧ u.2 45 = u0.2 45 ∧ u.2 46 = u0.2 46) → va_P (dC, dI) vwCl (mW h0 v cI cZ u) H → va_D A (mW h0 v cI cZ u) → va_S A H0 H locs → lv_has ls 5 [(3, .int (nI 8)), (2, .int b9), (0, .ref h0), (1, .int p0)] → W p l e R s m args below meth c H locs cells slots Q (F0 m 192 ls [])) : ∀ (k i : Nat) (u : mS) (H : Heap) (locs : List Loc) (ls : Array Slot), i ≤ 8 → 8 - i < k → (plA u0 P u ∧ plC u0 u P 480 ∧ plL u0 u P i ∧ u.2 45 = u0.2 45 ∧ u.2 46 = u0.2 46) → va_P (dC, dI) vwCl (mW h0 v cI cZ u) H → va_D A (mW h0 v cI cZ u) → va_S A H0 H locs → lv_has ls 5 [(3, .int (nI i)), (2, .int b9), (0, .ref h0), (1, .int p0)] → W p l e R s m args below meth c H locs cells slots Q (F0 m 158 ls []) := by
  intro k
  induction k with
  | zero => intro i u H locs ls h1 h2; exact absurd h2 (Nat.not_lt_zero _)
  | succ k ih =>
    intro i u H locs ls hi hk hg hP hD hS hl
    refine lv_iload_n hx hb dX12_plate_158 rfl (lv_at hl 0 rfl) ?_
    refine lv_bipush (v := 8) hx hb dX12_plate_159 (by decide) ?_
    refine lv_icmp_ge (tgt := 192) hx hb dX12_plate_161 (by decide) (fun c_1 => ?_) (fun c_1 => ?_)
    ·
      have hie : i = 8 := lp_eq rfl (by decide) hi c_1
      subst hie
      exact kx _ _ _ ls hg hP hD hS (lv_sub hl [0, 1, 2, 3] rfl)
    ·
      have hlt : i < 8 := lp_lt rfl (by decide) hi c_1
      refine lv_aload_n hx hb dX12_plate_164 rfl (lv_at hl 2 rfl) ?_
      refine va_get (D := (dC, dI)) (ci := 11) (v := .ref (v 43)) (C := RX12) (T := TX12) (N := 52) hx hb hts (by decide +kernel) hown hK hP 0 rfl rfl 43 (by decide) (hts (.fieldLink RX12 125 "PageOneModel" "plateLines" "[I") (by decide +kernel)) (fun _ h9 => h9) rfl dX12_plate_165 ?_
      refine lv_bipush (v := 8) hx hb dX12_plate_168 (by decide) ?_
      refine lv_iload_n hx hb dX12_plate_170 rfl (lv_at hl 3 rfl) ?_
      refine lv_imul hx hb dX12_plate_171 ?_
      refine lv_iload_n hx hb dX12_plate_172 rfl (lv_at hl 0 rfl) ?_
      refine lv_iadd hx hb dX12_plate_173 ?_
      refine lv_aload_n hx hb dX12_plate_174 rfl (lv_at hl 2 rfl) ?_
      refine va_get (D := (dC, dI)) (ci := 11) (v := .ref (v 0)) (C := RX12) (T := TX12) (N := 52) hx hb hts (by decide +kernel) hown hK hP 0 rfl rfl 0 (by decide) (hts (.fieldLink RX12 7 "PageOneModel" "lines" "[I") (by decide +kernel)) (fun _ h9 => h9) rfl dX12_plate_175 ?_
      refine lv_bipush (v := 8) hx hb dX12_plate_178 (by decide) ?_
      refine lv_iload_n hx hb dX12_plate_180 rfl (lv_at hl 3 rfl) ?_
      refine lv_imul hx hb dX12_plate_181 ?_
      refine lv_iload_n hx hb dX12_plate_182 rfl (lv_at hl 0 rfl) ?_
      refine lv_iadd hx hb dX12_plate_183 ?_
      refine va_iald hx hb hK hP 1 0 rfl rfl (vin8 hp (bw7 hlt)) dX12_plate_184 ?_
      refine va_iast hx hb hK hP hD hS 39 0 rfl rfl (vin8 hp (bw7 hlt)) dX12_plate_185 (fun H locs hP hD hS => ?_)
      obtain ⟨u_2, eu_2⟩ : ∃ zz : mS, zz = mst u 43 ((8 * p0) + (nI i)) (u.2 0 (((8 * p0) + (nI i)) : Int32).toNatClampNeg) := ⟨_, rfl⟩
      have hP : va_P (dC, dI) vwCl (mW h0 v cI cZ u_2) H := by rw [eu_2]; exact hP
      have hD : va_D A (mW h0 v cI cZ u_2) := by rw [eu_2]; exact hD
      refine lv_iinc (v := (nI (i + 1))) (lv' := [(3, .int (nI (i + 1))), (2, .int b9), (0, .ref h0), (1, .int p0)]) hx hb dX12_plate_186 hl (k := 0) rfl (nI_1 i) (by decide) rfl (fun ls hl => ?_)
      refine lv_goto (tgt := 158) hx hb dX12_plate_189 (by decide) ?_
      exact ih (i + 1) _ _ _ ls (by omega) (by omega) (by rw [eu_2]; exact ⟨plA_st hg.1 (by decide) _ _, fun j => by rw [mst_other (by decide)]; exact hg.2.1 j, plL_s hg.2.2.1 hP12 eP hlt (by rw [hg.1.2.1 0 (Or.inl (by decide)), eP, idx8 hP12 hlt]), (mst_other (by decide)).trans hg.2.2.2.1, (mst_other (by decide)).trans hg.2.2.2.2⟩) hP hD hS (lv_sub hl [0, 1, 2, 3] rfl)
set_option maxHeartbeats 4000000 in
set_option maxRecDepth 100000 in
theorem n_pl_k {p : Program} {l : Launch} {e : Env} {R : Room} {s : State} {m : MethodId} {args : Array Value} {below : List Frame} {meth : Method} {c : Code} {Q : State → Prop} {cells slots : Nat} {dC : Nat → ClassId} {dI : Nat → Nat → Nat} {h0 : Nat} {v : Nat → Nat} {cI cZ : ClassId} {u0 ub : mS} {p0 b9 : Int32} {P j9 K : Nat} (hP12 : P < 12) (eP : p0 = nI P) (hj9 : j9 < 80) (hK6 : K ≤ 6) {A : Nat → Prop} {H0 : Heap} (hx : p.tables.exec = Jvm.exec) (hb : c.code = cX12_plate) (hml : c.maxLocals = 5) (hts : ∀ w ∈ wsX12_plate, w.before args s = true) (hown : s.vm.findClass RX12 = some m.cls) (hN : NN s) (hK : va_K (dC, dI) vwCl [(cI, .int), (cZ, .boolean)] s) (hA : ∀ q : Nat, H0.size ≤ q → A q) (kx : ∀ (u : mS) (H : Heap) (locs : List Loc) (ls : Array Slot), (plB u0 P u ∧ plK9 u0 ub P u j9 (K - K) K) → va_P (dC, dI) vwCl (mW h0 v cI cZ u) H → va_D A (mW h0 v cI cZ u) → va_S A H0 H locs → lv_has ls 5 [(4, .int (nI (K - K) - 1)), (3, .int (nI j9)), (2, .int b9), (0, .ref h0), (1, .int p0)] → W p l e R s m args below meth c H locs cells slots Q (F0 m 307 ls [])) : ∀ (k i : Nat) (u : mS) (H : Heap) (locs : List Loc) (ls : Array Slot), i ≤ K → K - i < k → (plB u0 P u ∧ plK9 u0 ub P u j9 (K - i) K) → va_P (dC, dI) vwCl (mW h0 v cI cZ u) H → va_D A (mW h0 v cI cZ u) → va_S A H0 H locs → lv_has ls 5 [(4, .int (nI (K - i) - 1)), (3, .int (nI j9)), (2, .int b9), (0, .ref h0), (1, .int p0)] → W p l e R s m args below meth c H locs cells slots Q (F0 m 234 ls []) := by
  intro k
  induction k with
  | zero => intro i u H locs ls h1 h2; exact absurd h2 (Nat.not_lt_zero _)
  | succ k ih =>
    intro i u H locs ls hi hk hg hP hD hS hl
    refine lv_iload hx hb dX12_plate_234 (lv_at hl 0 rfl) ?_
    refine lv_if_lt (tgt := 307) hx hb dX12_plate_236 (by decide) (fun c_1 => ?_) (fun c_1 => ?_)
    ·
      have hie : i = K := by have := dn_z (m := K - i) (by omega) c_1; omega
      rw [hie] at hg hl
      exact kx _ _ _ ls hg hP hD hS (lv_sub hl [0, 1, 2, 3, 4] rfl)
    ·
      have hlt : i < K := by have := dn_p (m := K - i) (by omega) c_1; omega
      rw [dn_e (m := K - i) (by omega)] at hl
      refine lv_aload_n hx hb dX12_plate_239 rfl (lv_at hl 3 rfl) ?_
      refine va_get (D := (dC, dI)) (ci := 11) (v := .ref (v 23)) (C := RX12) (T := TX12) (N := 52) hx hb hts (by decide +kernel) hown hK hP 0 rfl rfl 23 (by decide) (hts (.fieldLink RX12 77 "PageOneModel" "pPage" "[I") (by decide +kernel)) (fun _ h9 => h9) rfl dX12_plate_240 ?_
      refine lv_bipush (v := 6) hx hb dX12_plate_243 (by decide) ?_
      refine lv_iload_n hx hb dX12_plate_245 rfl (lv_at hl 1 rfl) ?_
      refine lv_imul hx hb dX12_plate_246 ?_
      refine lv_iload hx hb dX12_plate_247 (lv_at hl 0 rfl) ?_
      refine lv_iadd hx hb dX12_plate_249 ?_
      refine va_iald hx hb hK hP 23 0 rfl rfl (v6n hj9 (by omega)) dX12_plate_250 ?_
      refine lv_iload_n hx hb dX12_plate_251 rfl (lv_at hl 4 rfl) ?_
      refine lv_icmp_ne (tgt := 301) hx hb dX12_plate_252 (by decide) (fun c_2 => ?_) (fun c_2 => ?_)
      ·
        refine lv_iinc (v := (nI (K - (i + 1)) - 1)) (lv' := [(4, .int (nI (K - (i + 1)) - 1)), (3, .int (nI j9)), (2, .int b9), (0, .ref h0), (1, .int p0)]) hx hb dX12_plate_301 hl (k := 0) rfl (by rw [dec1, Nat.sub_sub]) (by decide) rfl (fun ls hl => ?_)
        refine lv_goto (tgt := 234) hx hb dX12_plate_304 (by decide) ?_
        exact ih (i + 1) _ _ _ ls (by omega) (by omega) ⟨hg.1, hg.2.1, plR_o (by rw [← (show K - i = (K - (i + 1)) + 1 by omega)]; exact hg.2.2) (fun q => c_2 (by rw [hg.1.1.2.1 23 (Or.inl (by decide)), i6k hj9 (by omega), show K - i - 1 = K - (i + 1) by omega, eP]; exact q))⟩ hP hD hS (lv_sub hl [0, 1, 2, 3, 4] rfl)
      ·
        refine lv_aload_n hx hb dX12_plate_255 rfl (lv_at hl 3 rfl) ?_
        refine va_get (D := (dC, dI)) (ci := 11) (v := .ref (v 45)) (C := RX12) (T := TX12) (N := 52) hx hb hts (by decide +kernel) hown hK hP 0 rfl rfl 45 (by decide) (hts (.fieldLink RX12 131 "PageOneModel" "plateColumn" "[I") (by decide +kernel)) (fun _ h9 => h9) rfl dX12_plate_256 ?_
        refine lv_bipush (v := 80) hx hb dX12_plate_259 (by decide) ?_
        refine lv_iload_n hx hb dX12_plate_261 rfl (lv_at hl 4 rfl) ?_
        refine lv_imul hx hb dX12_plate_262 ?_
        refine lv_iload_n hx hb dX12_plate_263 rfl (lv_at hl 1 rfl) ?_
        refine lv_iadd hx hb dX12_plate_264 ?_
        refine lv_aload_n hx hb dX12_plate_265 rfl (lv_at hl 3 rfl) ?_
        refine va_get (D := (dC, dI)) (ci := 11) (v := .ref (v 24)) (C := RX12) (T := TX12) (N := 52) hx hb hts (by decide +kernel) hown hK hP 0 rfl rfl 24 (by decide) (hts (.fieldLink RX12 80 "PageOneModel" "pColumn" "[I") (by decide +kernel)) (fun _ h9 => h9) rfl dX12_plate_266 ?_
        refine lv_bipush (v := 6) hx hb dX12_plate_269 (by decide) ?_
        refine lv_iload_n hx hb dX12_plate_271 rfl (lv_at hl 1 rfl) ?_
        refine lv_imul hx hb dX12_plate_272 ?_
        refine lv_iload hx hb dX12_plate_273 (lv_at hl 0 rfl) ?_
        refine lv_iadd hx hb dX12_plate_275 ?_
        refine va_iald hx hb hK hP 24 0 rfl rfl (v6n hj9 (by omega)) dX12_plate_276 ?_
        refine va_iast hx hb hK hP hD hS 41 0 rfl rfl (by have h := vPl (i := nI j9) (bw79 hj9) hP12; rw [← eP] at h; exact h) dX12_plate_277 (fun H locs hP hD hS => ?_)
        obtain ⟨u_3, eu_3⟩ : ∃ zz : mS, zz = mst u 45 ((80 * p0) + (nI j9)) (u.2 24 (((6 * (nI j9)) + (nI (K - i - 1))) : Int32).toNatClampNeg) := ⟨_, rfl⟩
        have hP : va_P (dC, dI) vwCl (mW h0 v cI cZ u_3) H := by rw [eu_3]; exact hP
        have hD : va_D A (mW h0 v cI cZ u_3) := by rw [eu_3]; exact hD
        refine lv_aload_n hx hb dX12_plate_278 rfl (lv_at hl 3 rfl) ?_
        refine va_get (D := (dC, dI)) (ci := 11) (v := .ref (v 46)) (C := RX12) (T := TX12) (N := 52) hx hb hts (by decide +kernel) hown hK hP 0 rfl rfl 46 (by decide) (hts (.fieldLink RX12 134 "PageOneModel" "plateLine" "[I") (by decide +kernel)) (fun _ h9 => h9) rfl dX12_plate_279 ?_
        refine lv_bipush (v := 80) hx hb dX12_plate_282 (by decide) ?_
        refine lv_iload_n hx hb dX12_plate_284 rfl (lv_at hl 4 rfl) ?_
        refine lv_imul hx hb dX12_plate_285 ?_
        refine lv_iload_n hx hb dX12_plate_286 rfl (lv_at hl 1 rfl) ?_
        refine lv_iadd hx hb dX12_plate_287 ?_
        refine lv_aload_n hx hb dX12_plate_288 rfl (lv_at hl 3 rfl) ?_
        refine va_get (D := (dC, dI)) (ci := 11) (v := .ref (v 25)) (C := RX12) (T := TX12) (N := 52) hx hb hts (by decide +kernel) hown hK hP 0 rfl rfl 25 (by decide) (hts (.fieldLink RX12 83 "PageOneModel" "pLine" "[I") (by decide +kernel)) (fun _ h9 => h9) rfl dX12_plate_289 ?_
        refine lv_bipush (v := 6) hx hb dX12_plate_292 (by decide) ?_
        refine lv_iload_n hx hb dX12_plate_294 rfl (lv_at hl 1 rfl) ?_
        refine lv_imul hx hb dX12_plate_295 ?_
        refine lv_iload hx hb dX12_plate_296 (lv_at hl 0 rfl) ?_
        refine lv_iadd hx hb dX12_plate_298 ?_
        refine va_iald hx hb hK hP 25 0 rfl rfl (v6n hj9 (by omega)) dX12_plate_299 ?_
        refine va_iast hx hb hK hP hD hS 42 0 rfl rfl (by have h := vPl (i := nI j9) (bw79 hj9) hP12; rw [← eP] at h; exact h) dX12_plate_300 (fun H locs hP hD hS => ?_)
        obtain ⟨u_4, eu_4⟩ : ∃ zz : mS, zz = mst u_3 46 ((80 * p0) + (nI j9)) (u_3.2 25 (((6 * (nI j9)) + (nI (K - i - 1))) : Int32).toNatClampNeg) := ⟨_, rfl⟩
        have hP : va_P (dC, dI) vwCl (mW h0 v cI cZ u_4) H := by rw [eu_4]; exact hP
        have hD : va_D A (mW h0 v cI cZ u_4) := by rw [eu_4]; exact hD
        refine lv_iinc (v := (nI (K - (i + 1)) - 1)) (lv' := [(4, .int (nI (K - (i + 1)) - 1)), (3, .int (nI j9)), (2, .int b9), (0, .ref h0), (1, .int p0)]) hx hb dX12_plate_301 hl (k := 0) rfl (by rw [dec1, Nat.sub_sub]) (by decide) rfl (fun ls hl => ?_)
        refine lv_goto (tgt := 234) hx hb dX12_plate_304 (by decide) ?_
        exact ih (i + 1) _ _ _ ls (by omega) (by omega) (by rw [eu_4, eu_3]; exact ⟨plB_st (plB_st hg.1 (Or.inl rfl) _ _) (Or.inr rfl) _ _, plK_s (by rw [← (show K - i = (K - (i + 1)) + 1 by omega)]; exact hg.2) hP12 hj9 eP (by omega) (by have z := c_2; rw [hg.1.1.2.1 23 (Or.inl (by decide)), i6k hj9 (by omega), show K - i - 1 = K - (i + 1) by omega, eP] at z; exact z) (by rw [hg.1.1.2.1 24 (Or.inl (by decide)), i6k hj9 (by omega), show K - i - 1 = K - (i + 1) by omega]) (by rw [mst_other (by decide), hg.1.1.2.1 25 (Or.inl (by decide)), i6k hj9 (by omega), show K - i - 1 = K - (i + 1) by omega])⟩) hP hD hS (lv_sub hl [0, 1, 2, 3, 4] rfl)
theorem nigt {n : Int32} {i : Nat} (hn : bw n 0 80 = true) (hi : i < n.toNatClampNeg) : ¬ n ≤ nI i := fun h => by
  obtain ⟨a, b, c⟩ := nI_of_bw hn
  have h80 : (80 : Int32).toInt = 80 := rfl
  rw [i32_le, nI_toInt (by omega)] at h
  omega
theorem nile {n : Int32} {i : Nat} (hn : bw n 0 80 = true) (hi8 : i < 80) (hi : ¬ i < n.toNatClampNeg) : n ≤ nI i := by
  obtain ⟨a, b, c⟩ := nI_of_bw hn
  rw [i32_le, nI_toInt (by omega)]
  omega
set_option maxHeartbeats 4000000 in
set_option maxRecDepth 100000 in
theorem n_pl_i {p : Program} {l : Launch} {e : Env} {R : Room} {s : State} {m : MethodId} {args : Array Value} {below : List Frame} {meth : Method} {c : Code} {Q : State → Prop} {cells slots : Nat} {dC : Nat → ClassId} {dI : Nat → Nat → Nat} {h0 : Nat} {v : Nat → Nat} {cI cZ : ClassId} {u0 : mS} {p0 b9 : Int32} {P : Nat} (hP12 : P < 12) (eP : p0 = nI P) (hn0 : bw (u0.1 3) 0 80 = true) (hpc0 : ∀ j, j < 80 → bw (u0.2 22 j) 0 6 = true) {A : Nat → Prop} {H0 : Heap} (hx : p.tables.exec = Jvm.exec) (hb : c.code = cX12_plate) (hml : c.maxLocals = 5) (hts : ∀ w ∈ wsX12_plate, w.before args s = true) (hown : s.vm.findClass RX12 = some m.cls) (hN : NN s) (hK : va_K (dC, dI) vwCl [(cI, .int), (cZ, .boolean)] s) (hA : ∀ q : Nat, H0.size ≤ q → A q) (kx : ∀ (u : mS) (H : Heap) (locs : List Loc) (ls : Array Slot), (plB u0 P u ∧ plI9 u0 P u 80) → va_P (dC, dI) vwCl (mW h0 v cI cZ u) H → va_D A (mW h0 v cI cZ u) → va_S A H0 H locs → lv_has ls 5 [(3, .int (nI 80)), (2, .int b9), (0, .ref h0), (1, .int p0)] → W p l e R s m args below meth c H locs cells slots Q (F0 m 313 ls [])) : ∀ (k i : Nat) (u : mS) (H : Heap) (locs : List Loc) (ls : Array Slot), i ≤ 80 → 80 - i < k → (plB u0 P u ∧ plI9 u0 P u i) → va_P (dC, dI) vwCl (mW h0 v cI cZ u) H → va_D A (mW h0 v cI cZ u) → va_S A H0 H locs → lv_has ls 5 [(3, .int (nI i)), (2, .int b9), (0, .ref h0), (1, .int p0)] → W p l e R s m args below meth c H locs cells slots Q (F0 m 194 ls []) := by
  intro k
  induction k with
  | zero => intro i u H locs ls h1 h2; exact absurd h2 (Nat.not_lt_zero _)
  | succ k ih =>
    intro i u H locs ls hi hk hg hP hD hS hl
    refine lv_iload_n hx hb dX12_plate_194 rfl (lv_at hl 0 rfl) ?_
    refine lv_bipush (v := 80) hx hb dX12_plate_195 (by decide) ?_
    refine lv_icmp_ge (tgt := 313) hx hb dX12_plate_197 (by decide) (fun c_1 => ?_) (fun c_1 => ?_)
    ·
      have hie : i = 80 := lp_eq rfl (by decide) hi c_1
      subst hie
      exact kx _ _ _ ls hg hP hD hS (lv_sub hl [0, 1, 2, 3] rfl)
    ·
      have hlt : i < 80 := lp_lt rfl (by decide) hi c_1
      obtain ⟨eK, eK2, eK3⟩ := nI_of_bw (hpc0 (nI i).toNatClampNeg (by rw [nI_clamp (by omega)]; omega))
      refine lv_aload_n hx hb dX12_plate_200 rfl (lv_at hl 2 rfl) ?_
      refine va_get (D := (dC, dI)) (ci := 11) (v := .ref (v 45)) (C := RX12) (T := TX12) (N := 52) hx hb hts (by decide +kernel) hown hK hP 0 rfl rfl 45 (by decide) (hts (.fieldLink RX12 131 "PageOneModel" "plateColumn" "[I") (by decide +kernel)) (fun _ h9 => h9) rfl dX12_plate_201 ?_
      refine lv_bipush (v := 80) hx hb dX12_plate_204 (by decide) ?_
      refine lv_iload_n hx hb dX12_plate_206 rfl (lv_at hl 3 rfl) ?_
      refine lv_imul hx hb dX12_plate_207 ?_
      refine lv_iload_n hx hb dX12_plate_208 rfl (lv_at hl 0 rfl) ?_
      refine lv_iadd hx hb dX12_plate_209 ?_
      refine lv_iconst (v := (-1)) hx hb dX12_plate_210 (by decide) ?_
      refine va_iast hx hb hK hP hD hS 41 0 rfl rfl (by have h := vPl (i := nI i) (bw79 hlt) hP12; rw [← eP] at h; exact h) dX12_plate_211 (fun H locs hP hD hS => ?_)
      obtain ⟨u_2, eu_2⟩ : ∃ zz : mS, zz = mst u 45 ((80 * p0) + (nI i)) (-1) := ⟨_, rfl⟩
      have hP : va_P (dC, dI) vwCl (mW h0 v cI cZ u_2) H := by rw [eu_2]; exact hP
      have hD : va_D A (mW h0 v cI cZ u_2) := by rw [eu_2]; exact hD
      refine lv_iload_n hx hb dX12_plate_212 rfl (lv_at hl 0 rfl) ?_
      refine lv_aload_n hx hb dX12_plate_213 rfl (lv_at hl 2 rfl) ?_
      refine va_get (D := (dC, dI)) (ci := 11) (v := .int (u_2.1 3)) (C := RX12) (T := TX12) (N := 52) hx hb hts (by decide +kernel) hown hK hP 0 rfl rfl 3 (by decide) (hts (.fieldLink RX12 147 "PageOneModel" "items" "I") (by decide +kernel)) (fun _ h9 => h9) rfl dX12_plate_214 ?_
      refine lv_icmp_ge (tgt := 229) hx hb dX12_plate_217 (by decide) (fun c_3 => ?_) (fun c_3 => ?_)
      ·
        refine lv_iconst (v := 0) hx hb dX12_plate_229 (by decide) ?_
        refine lv_iconst (v := 1) hx hb dX12_plate_230 (by decide) ?_
        refine lv_isub hx hb dX12_plate_231 ?_
        refine lv_topi (fun k_4 ek_4 => ?_)
        obtain rfl : k_4 = (-1) := ek_4.trans (by decide)
        refine lv_istore (lv' := [(4, .int (-1)), (3, .int (nI i)), (2, .int b9), (0, .ref h0), (1, .int p0)]) hx hb dX12_plate_232 hl (by decide) rfl (fun ls hl => ?_)
        have hpt : ptN u0 i = 0 := by unfold ptN; exact if_neg (fun q => nigt hn0 q (by rw [eu_2] at c_3; rw [mst_1, hg.1.1.1 3 (by decide) (by decide) (by decide)] at c_3; exact c_3))
        have hk9 : plB u0 P u_2 ∧ plI9 u0 P u_2 (i + 1) := ⟨by rw [eu_2]; exact plB_st hg.1 (Or.inl rfl) _ _, plI_s hg.2 (by rw [hpt, eu_2]; exact plK_0 hP12 hlt eP)⟩
        refine lv_iload hx hb dX12_plate_234 (lv_at hl 0 rfl) ?_
        refine lv_if_lt (tgt := 307) hx hb dX12_plate_236 (by decide) (fun c_5 => ?_) (fun c_5 => absurd (by decide) c_5)
        refine lv_iinc (v := (nI (i + 1))) (lv' := [(3, .int (nI (i + 1))), (4, .int (-1)), (2, .int b9), (0, .ref h0), (1, .int p0)]) hx hb dX12_plate_307 hl (k := 1) rfl (nI_1 i) (by decide) rfl (fun ls hl => ?_)
        refine lv_goto (tgt := 194) hx hb dX12_plate_310 (by decide) ?_
        exact ih (i + 1) _ _ _ ls (by omega) (by omega) hk9 hP hD hS (lv_sub hl [0, 2, 3, 4] rfl)
      ·
        refine lv_aload_n hx hb dX12_plate_220 rfl (lv_at hl 2 rfl) ?_
        refine va_get (D := (dC, dI)) (ci := 11) (v := .ref (v 22)) (C := RX12) (T := TX12) (N := 52) hx hb hts (by decide +kernel) hown hK hP 0 rfl rfl 22 (by decide) (hts (.fieldLink RX12 74 "PageOneModel" "pieces" "[I") (by decide +kernel)) (fun _ h9 => h9) rfl dX12_plate_221 ?_
        refine lv_iload_n hx hb dX12_plate_224 rfl (lv_at hl 0 rfl) ?_
        refine va_iald hx hb hK hP 22 0 rfl rfl (vp_in_nI (by omega) (by decide)) dX12_plate_225 ?_
        refine lv_topi (fun y_6 ey_6 => ?_)
        obtain rfl : y_6 = (nI (u0.2 22 (nI i).toNatClampNeg).toNatClampNeg) := ey_6.trans ((by rw [eu_2, mst_other (by decide), hg.1.1.2.1 22 (Or.inl (by decide))]; exact eK))
        refine lv_goto (tgt := 230) hx hb dX12_plate_226 (by decide) ?_
        refine lv_iconst (v := 1) hx hb dX12_plate_230 (by decide) ?_
        refine lv_isub hx hb dX12_plate_231 ?_
        refine lv_topi (fun x_7 ex_7 => ?_)
        refine lv_istore (lv' := [(4, .int x_7), (3, .int (nI i)), (2, .int b9), (0, .ref h0), (1, .int p0)]) hx hb dX12_plate_232 hl (by decide) rfl (fun ls hl => ?_)
        subst ex_7
        have h6 : (6 : Int32).toInt = 6 := rfl
        have hpt : ptN u0 i = (u0.2 22 (nI i).toNatClampNeg).toNatClampNeg := by unfold ptN; rw [if_pos (Classical.byContradiction (fun q => c_3 (by rw [eu_2, mst_1, hg.1.1.1 3 (by decide) (by decide) (by decide)]; exact nile hn0 (by omega) q))), nI_clamp (n := i) (by omega)]
        have hgI := hg.2
        have hg : plB u0 P u_2 ∧ plK9 u0 u P u_2 i ((u0.2 22 (nI i).toNatClampNeg).toNatClampNeg - 0) (u0.2 22 (nI i).toNatClampNeg).toNatClampNeg := ⟨by rw [eu_2]; exact plB_st hg.1 (Or.inl rfl) _ _, by rw [eu_2]; exact plK_0 hP12 hlt eP⟩
        refine n_pl_k (u0 := u0) (ub := u) (P := P) (j9 := i) (K := (u0.2 22 (nI i).toNatClampNeg).toNatClampNeg) hP12 eP (by omega) (by omega) hx hb hml hts hown hN hK hA (fun u2 H locs ls hg hP hD hS hl => ?_) _ 0 u_2 _ _ ls (Nat.zero_le _) (Nat.lt_succ_self _) hg hP hD hS (lv_sub hl [0, 1, 2, 3, 4] rfl)
        have hk9 : plB u0 P u2 ∧ plI9 u0 P u2 (i + 1) := ⟨hg.1, plI_s hgI (by rw [hpt]; have z := hg.2; rw [Nat.sub_self] at z; exact z)⟩
        refine lv_iinc (v := (nI (i + 1))) (lv' := [(3, .int (nI (i + 1))), (4, .int (nI ((u0.2 22 (nI i).toNatClampNeg).toNatClampNeg - (u0.2 22 (nI i).toNatClampNeg).toNatClampNeg) - 1)), (2, .int b9), (0, .ref h0), (1, .int p0)]) hx hb dX12_plate_307 hl (k := 1) rfl (nI_1 i) (by decide) rfl (fun ls hl => ?_)
        refine lv_goto (tgt := 194) hx hb dX12_plate_310 (by decide) ?_
        exact ih (i + 1) _ _ _ ls (by omega) (by omega) hk9 hP hD hS (lv_sub hl [0, 2, 3, 4] rfl)
