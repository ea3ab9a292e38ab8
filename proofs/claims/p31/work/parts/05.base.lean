theorem pos_in {big : List Cond} {w : Cond} (i : Nat) (h : big[i]? = some w) : w ∈ big := List.mem_of_getElem? h
/-- what the tables say beside a method's words: links between nest mates, array classes, casts -/
def NN (U : State) : Prop := va_Nw (.methodLinkNest RX4 25 yX11_isWithin "PageOne") U ∧ va_Nw (.methodLinkNest RX9 34 yX11_isColumn "PageOne") U ∧ va_Nw (.methodLinkNest RX9 38 yX11_isWithin "PageOne") U ∧ va_Nw (.methodLinkNest RX9 50 yX11_isSquare "PageOne") U ∧ va_Nw (.methodLinkNest RX7 22 yX11_isWithin "PageOne") U ∧ va_Nw (.methodLinkNest RX2 18 yX11_isWithin "PageOne") U ∧ va_Nw (.methodLinkNest RX10 26 yX11_isWithin "PageOne") U ∧ va_Nw (.methodLinkNest RX5 23 yX11_isWithin "PageOne") U ∧ va_AO "PageOne$Sheet" U ∧ va_AO "PageOne$Item" U ∧ va_AO "PageOne$Act" U ∧ va_AO "PageOne$Piece" U ∧ va_Nw (.castable RX2 "PageOne$Item") U ∧ va_Nw (.castable RX3 "PageOne$Item") U ∧ va_Nw (.castable RX5 "PageOne$Item") U ∧ va_Nw (.castable RX6 "PageOne$Item") U ∧ va_Nw (.castable RX7 "PageOne$Item") U ∧ va_Nw (.castable RX10 "PageOne$Item") U
theorem NN.n_RX4_25 {U : State} (h : NN U) : va_Nw (.methodLinkNest RX4 25 yX11_isWithin "PageOne") U := h.1
theorem NN.n_RX9_34 {U : State} (h : NN U) : va_Nw (.methodLinkNest RX9 34 yX11_isColumn "PageOne") U := h.2.1
theorem NN.n_RX9_38 {U : State} (h : NN U) : va_Nw (.methodLinkNest RX9 38 yX11_isWithin "PageOne") U := h.2.2.1
theorem NN.n_RX9_50 {U : State} (h : NN U) : va_Nw (.methodLinkNest RX9 50 yX11_isSquare "PageOne") U := h.2.2.2.1
theorem NN.n_RX7_22 {U : State} (h : NN U) : va_Nw (.methodLinkNest RX7 22 yX11_isWithin "PageOne") U := h.2.2.2.2.1
theorem NN.n_RX2_18 {U : State} (h : NN U) : va_Nw (.methodLinkNest RX2 18 yX11_isWithin "PageOne") U := h.2.2.2.2.2.1
theorem NN.n_RX10_26 {U : State} (h : NN U) : va_Nw (.methodLinkNest RX10 26 yX11_isWithin "PageOne") U := h.2.2.2.2.2.2.1
theorem NN.n_RX5_23 {U : State} (h : NN U) : va_Nw (.methodLinkNest RX5 23 yX11_isWithin "PageOne") U := h.2.2.2.2.2.2.2.1
theorem NN.ao_Sheet {U : State} (h : NN U) : va_AO "PageOne$Sheet" U := h.2.2.2.2.2.2.2.2.1
theorem NN.ao_Item {U : State} (h : NN U) : va_AO "PageOne$Item" U := h.2.2.2.2.2.2.2.2.2.1
theorem NN.ao_Act {U : State} (h : NN U) : va_AO "PageOne$Act" U := h.2.2.2.2.2.2.2.2.2.2.1
theorem NN.ao_Piece {U : State} (h : NN U) : va_AO "PageOne$Piece" U := h.2.2.2.2.2.2.2.2.2.2.2.1
theorem NN.cast_X2 {U : State} (h : NN U) : va_Nw (.castable RX2 "PageOne$Item") U := h.2.2.2.2.2.2.2.2.2.2.2.2.1
theorem NN.cast_X3 {U : State} (h : NN U) : va_Nw (.castable RX3 "PageOne$Item") U := h.2.2.2.2.2.2.2.2.2.2.2.2.2.1
theorem NN.cast_X5 {U : State} (h : NN U) : va_Nw (.castable RX5 "PageOne$Item") U := h.2.2.2.2.2.2.2.2.2.2.2.2.2.2.1
theorem NN.cast_X6 {U : State} (h : NN U) : va_Nw (.castable RX6 "PageOne$Item") U := h.2.2.2.2.2.2.2.2.2.2.2.2.2.2.2.1
theorem NN.cast_X7 {U : State} (h : NN U) : va_Nw (.castable RX7 "PageOne$Item") U := h.2.2.2.2.2.2.2.2.2.2.2.2.2.2.2.2.1
theorem NN.cast_X10 {U : State} (h : NN U) : va_Nw (.castable RX10 "PageOne$Item") U := h.2.2.2.2.2.2.2.2.2.2.2.2.2.2.2.2.2
theorem NN.moved {s U : State} (hW : s.WarmedH U.vm) (h : NN s) : NN U := ⟨va_Nw.warmM hW h.n_RX4_25, va_Nw.warmM hW h.n_RX9_34, va_Nw.warmM hW h.n_RX9_38, va_Nw.warmM hW h.n_RX9_50, va_Nw.warmM hW h.n_RX7_22, va_Nw.warmM hW h.n_RX2_18, va_Nw.warmM hW h.n_RX10_26, va_Nw.warmM hW h.n_RX5_23, va_AO.moved hW.alike h.ao_Sheet, va_AO.moved hW.alike h.ao_Item, va_AO.moved hW.alike h.ao_Act, va_AO.moved hW.alike h.ao_Piece, va_Nw.warmC hW h.cast_X2, va_Nw.warmC hW h.cast_X3, va_Nw.warmC hW h.cast_X5, va_Nw.warmC hW h.cast_X6, va_Nw.warmC hW h.cast_X7, va_Nw.warmC hW h.cast_X10⟩
theorem NN.same {s U : State} (hv : s.vm = U.vm) (h : NN s) : NN U := ⟨va_Nw.same rfl hv h.n_RX4_25, va_Nw.same rfl hv h.n_RX9_34, va_Nw.same rfl hv h.n_RX9_38, va_Nw.same rfl hv h.n_RX9_50, va_Nw.same rfl hv h.n_RX7_22, va_Nw.same rfl hv h.n_RX2_18, va_Nw.same rfl hv h.n_RX10_26, va_Nw.same rfl hv h.n_RX5_23, va_AO.moved (by rw [hv]; exact Vm.Alike.refl _) h.ao_Sheet, va_AO.moved (by rw [hv]; exact Vm.Alike.refl _) h.ao_Item, va_AO.moved (by rw [hv]; exact Vm.Alike.refl _) h.ao_Act, va_AO.moved (by rw [hv]; exact Vm.Alike.refl _) h.ao_Piece, va_Nw.same rfl hv h.cast_X2, va_Nw.same rfl hv h.cast_X3, va_Nw.same rfl hv h.cast_X5, va_Nw.same rfl hv h.cast_X6, va_Nw.same rfl hv h.cast_X7, va_Nw.same rfl hv h.cast_X10⟩
set_option maxRecDepth 100000 in
theorem NN.of {args : Array Value} {s : State} (hts : ∀ w ∈ lw_tbl, w.before args s = true) : NN s := ⟨va_Nw.of rfl (hts (.methodLinkNest RX4 25 yX11_isWithin "PageOne") (pos_in 170 rfl)), va_Nw.of rfl (hts (.methodLinkNest RX9 34 yX11_isColumn "PageOne") (pos_in 425 rfl)), va_Nw.of rfl (hts (.methodLinkNest RX9 38 yX11_isWithin "PageOne") (pos_in 426 rfl)), va_Nw.of rfl (hts (.methodLinkNest RX9 50 yX11_isSquare "PageOne") (pos_in 527 rfl)), va_Nw.of rfl (hts (.methodLinkNest RX7 22 yX11_isWithin "PageOne") (pos_in 487 rfl)), va_Nw.of rfl (hts (.methodLinkNest RX2 18 yX11_isWithin "PageOne") (pos_in 496 rfl)), va_Nw.of rfl (hts (.methodLinkNest RX10 26 yX11_isWithin "PageOne") (pos_in 512 rfl)), va_Nw.of rfl (hts (.methodLinkNest RX5 23 yX11_isWithin "PageOne") (pos_in 536 rfl)), va_AO.of (hts (.arrayOver (.object "PageOne$Sheet")) (pos_in 77 rfl)), va_AO.of (hts (.arrayOver (.object "PageOne$Item")) (pos_in 79 rfl)), va_AO.of (hts (.arrayOver (.object "PageOne$Act")) (pos_in 81 rfl)), va_AO.of (hts (.arrayOver (.object "PageOne$Piece")) (pos_in 172 rfl)), va_Nw.of rfl (hts (.castable RX2 "PageOne$Item") (pos_in 1283 rfl)), va_Nw.of rfl (hts (.castable RX3 "PageOne$Item") (pos_in 1280 rfl)), va_Nw.of rfl (hts (.castable RX5 "PageOne$Item") (pos_in 1284 rfl)), va_Nw.of rfl (hts (.castable RX6 "PageOne$Item") (pos_in 1282 rfl)), va_Nw.of rfl (hts (.castable RX7 "PageOne$Item") (pos_in 1281 rfl)), va_Nw.of rfl (hts (.castable RX10 "PageOne$Item") (pos_in 1279 rfl))⟩
/-- a contract's start: these cells, these array classes, the tables -/
def PW (dC : Nat → ClassId) (dI : Nat → Nat → Nat) (ws : va_W) (tys : List (ClassId × FieldType)) (U : State) : Prop := va_P (dC, dI) vwCl ws U.heap ∧ va_K (dC, dI) vwCl tys U ∧ NN U
theorem pw_fb {av : List Value} {dC : Nat → ClassId} {dI : Nat → Nat → Nat} {ws : va_W} {tys : List (ClassId × FieldType)} : FrameBlind (va_Pc av (PW dC dI ws tys)) := fun a U g mk q => ⟨q.1, q.2.1, va_K.moved (u := U) (U := U.calling g mk a) (Vm.Alike.refl U.vm) q.2.2.1, NN.same (s := U) (U := U.calling g mk a) rfl q.2.2.2⟩
theorem gw_fb {av : List Value} {dC : Nat → ClassId} {dI : Nat → Nat → Nat} {ws ws' : va_W} {tys : List (ClassId × FieldType)} {sz : Nat} : FrameBlind (va_Pc av (fun U => U.heap.size = sz ∧ PW dC dI ws tys U ∧ va_D (fun _ => True) ws')) := fun a U g mk q => ⟨q.1, q.2.1, ⟨q.2.2.1.1, va_K.moved (u := U) (U := U.calling g mk a) (Vm.Alike.refl U.vm) q.2.2.1.2.1, NN.same (s := U) (U := U.calling g mk a) rfl q.2.2.1.2.2⟩, q.2.2.2⟩
theorem pw_to {dC : Nat → ClassId} {dI : Nat → Nat → Nat} {ws : va_W} {tys : List (ClassId × FieldType)} {s U : State} {H : Heap} (hU : U.heap = H) (hW : s.WarmedH U.vm) (hP : va_P (dC, dI) vwCl ws H) (hK : va_K (dC, dI) vwCl tys s) (hN : NN s) : PW dC dI ws tys U := ⟨by rw [hU]; exact hP, va_K.moved hW.alike hK, hN.moved hW⟩
/-- x lies from lo to hi -/
def bw (x lo hi : Int32) : Bool := decide (lo ≤ x) && decide (x ≤ hi)
def bi (b : Bool) : Int32 := if b then 1 else 0
theorem i32_lt (a b : Int32) : a < b ↔ a.toInt < b.toInt := Int32.lt_iff_toInt_lt
theorem i32_le (a b : Int32) : a ≤ b ↔ a.toInt ≤ b.toInt := Int32.le_iff_toInt_le
theorem bw_iff {x lo hi : Int32} : bw x lo hi = true ↔ lo.toInt ≤ x.toInt ∧ x.toInt ≤ hi.toInt := by
  unfold bw; rw [Bool.and_eq_true, decide_eq_true_iff, decide_eq_true_iff, i32_le, i32_le]
theorem bw_false {x lo hi : Int32} : bw x lo hi = false ↔ x.toInt < lo.toInt ∨ hi.toInt < x.toInt := by
  rw [← Bool.not_eq_true, bw_iff]; omega
theorem bw0a {x lo hi : Int32} (h : x < lo) : (0 : Int32) = bi (bw x lo hi) := by
  rw [show bw x lo hi = false from bw_false.mpr (Or.inl ((i32_lt _ _).mp h))]; rfl
theorem bw0b {x lo hi : Int32} (h : hi < x) : (0 : Int32) = bi (bw x lo hi) := by
  rw [show bw x lo hi = false from bw_false.mpr (Or.inr ((i32_lt _ _).mp h))]; rfl
theorem bw1 {x lo hi : Int32} (h1 : ¬ x < lo) (h2 : ¬ hi < x) : (1 : Int32) = bi (bw x lo hi) := by
  rw [i32_lt] at h1 h2
  rw [show bw x lo hi = true from bw_iff.mpr ⟨by omega, by omega⟩]; rfl
theorem b_t {b : Bool} {r : Int32} (h : r = bi b) (hb : b = true) : r = 1 := by rw [h, hb]; rfl
theorem b_f {b : Bool} {r : Int32} (h : r = bi b) (hb : b = false) : r = 0 := by rw [h, hb]; rfl
/-- arrays that agree below their length are one cell -/
theorem cell_ext (cA : ClassId) (n : Nat) {f g : Nat → Int32} (h : ∀ j, j < n → f j = g j) : vp_cell cA (n, .inl f) = vp_cell cA (n, .inl g) := by
  show arrV cA n (fun j => .int (f j)) = arrV cA n (fun j => .int (g j))
  have e : (Array.ofFn (n := n) fun j : Fin n => Value.int (f j.val)) = Array.ofFn (n := n) fun j : Fin n => Value.int (g j.val) := by
    congr 1; funext j; rw [h j.val j.isLt]
  unfold arrV; rw [e]
theorem vaP_ext {D : va_G} {cl : List vw_C} {ws : va_W} {H : Heap} (hP : va_P D cl ws H) (k : Nat) {a : Nat} {cA : ClassId} {n : Nat} {f g : Nat → Int32} (hk : ws[k]? = some (a, .inl (cA, n, .inl f))) (h : ∀ j, j < n → f j = g j) : va_P D cl (ws.set k (a, .inl (cA, n, .inl g))) H := by
  intro i q hq
  rw [List.getElem?_set] at hq
  by_cases e : k = i
  · subst e
    rw [if_pos rfl] at hq
    by_cases hl : k < ws.length
    · rw [if_pos hl] at hq
      obtain rfl := Option.some.inj hq
      have h1 := hP k _ hk
      unfold va_at at h1 ⊢
      dsimp only at h1 ⊢
      rw [← cell_ext cA n h]; exact h1
    · rw [if_neg hl] at hq; cases hq
  · rw [if_neg e] at hq; exact hP i q hq
theorem cell_extq (cA : ClassId) (n : Nat) {f g : Nat → Option Nat} (h : ∀ j, j < n → f j = g j) : vp_cell cA (n, .inr (.inr (.inr (.inr f)))) = vp_cell cA (n, .inr (.inr (.inr (.inr g)))) := by
  show arrV cA n (fun j => va_rf (f j)) = arrV cA n (fun j => va_rf (g j))
  have e : (Array.ofFn (n := n) fun j : Fin n => va_rf (f j.val)) = Array.ofFn (n := n) fun j : Fin n => va_rf (g j.val) := by
    congr 1; funext j; rw [h j.val j.isLt]
  unfold arrV; rw [e]
theorem vaP_extq {D : va_G} {cl : List vw_C} {ws : va_W} {H : Heap} (hP : va_P D cl ws H) (k : Nat) {a : Nat} {cA : ClassId} {n : Nat} {f g : Nat → Option Nat} (hk : ws[k]? = some (a, .inl (cA, n, .inr (.inr (.inr (.inr f)))))) (h : ∀ j, j < n → f j = g j) : va_P D cl (ws.set k (a, .inl (cA, n, .inr (.inr (.inr (.inr g)))))) H := by
  intro i q hq
  rw [List.getElem?_set] at hq
  by_cases e : k = i
  · subst e
    rw [if_pos rfl] at hq
    by_cases hl : k < ws.length
    · rw [if_pos hl] at hq
      obtain rfl := Option.some.inj hq
      have h1 := hP k _ hk
      unfold va_at at h1 ⊢
      dsimp only at h1 ⊢
      rw [← cell_extq cA n h]; exact h1
    · rw [if_neg hl] at hq; cases hq
  · rw [if_neg e] at hq; exact hP i q hq
theorem kuniq {D : va_G} {cl : List vw_C} {tys : List (ClassId × FieldType)} {U : State} (hK : va_K D cl tys U) (i j : Nat) {a b : ClassId} {ty : FieldType} (hi : tys[i]? = some (a, ty)) (hj : tys[j]? = some (b, ty)) (hty : (match ty with | .object _ => false | _ => true) = true := by rfl) : a = b := by
  have h1 := (hK.2 i _ hi).2
  have h2 := (hK.2 j _ hj).2
  cases ty <;> simp [va_RA] at h1 h2 hty <;> exact Option.some.inj (h1.symm.trans h2)
theorem kuniqo {D : va_G} {cl : List vw_C} {tys : List (ClassId × FieldType)} {U : State} (hK : va_K D cl tys U) (i j : Nat) {a b : ClassId} {C : String} (hi : tys[i]? = some (a, .object C)) (hj : tys[j]? = some (b, .object C)) : a = b := by
  obtain ⟨_, _, _, _, _, h1⟩ := (hK.2 i _ hi).2
  obtain ⟨_, _, _, _, _, h2⟩ := (hK.2 j _ hj).2
  exact Option.some.inj (h1.symm.trans h2)
theorem vin {a hi : Int32} {n : Nat} (h : bw a 0 hi = true) (hn : hi.toInt < (n : Int)) : vp_in a n := by
  rw [vp_in_iff]
  have h0 : (0 : Int32).toInt = 0 := rfl
  have := bw_iff.mp h
  omega
theorem mulI {x y : Int32} (h1 : -2147483648 ≤ x.toInt * y.toInt) (h2 : x.toInt * y.toInt < 2147483648) : (x * y).toInt = x.toInt * y.toInt := by
  rw [Int32.toInt_mul]; exact Int.bmod_eq_of_le (by omega) (by omega)
theorem addI {x y : Int32} (h1 : -2147483648 ≤ x.toInt + y.toInt) (h2 : x.toInt + y.toInt < 2147483648) : (x + y).toInt = x.toInt + y.toInt := by
  rw [Int32.toInt_add]; exact Int.bmod_eq_of_le (by omega) (by omega)
theorem vin2 {a b : Int32} (ha : bw a 0 9 = true) (hb : bw b 0 9 = true) : vp_in (a * 10 + b) 100 := by
  have h0 : (0 : Int32).toInt = 0 := rfl
  have h9 : (9 : Int32).toInt = 9 := rfl
  have h10 : (10 : Int32).toInt = 10 := rfl
  have h1 := bw_iff.mp ha
  have h2 := bw_iff.mp hb
  have e1 : (a * 10).toInt = a.toInt * 10 := by rw [mulI (by rw [h10]; omega) (by rw [h10]; omega), h10]
  have e2 : (a * 10 + b).toInt = a.toInt * 10 + b.toInt := by rw [addI (by omega) (by omega), e1]
  rw [vp_in_iff, e2]; omega
theorem lp_lt {K : Int32} {i n : Nat} (hK : K = nI n) (hn : n < 2 ^ 31) (hi : i ≤ n) (h : ¬ K ≤ nI i) : i < n := by
  rw [hK, nI_leI hn (by omega)] at h; omega
theorem lp_eq {K : Int32} {i n : Nat} (hK : K = nI n) (hn : n < 2 ^ 31) (hi : i ≤ n) (h : K ≤ nI i) : i = n := by
  rw [hK, nI_leI hn (by omega)] at h; omega
theorem upd_step {g : Nat → Int32} {i : Nat} {v : Int32} (hi : i < 2 ^ 31) (h : ∀ j, j < i → g j = v) : ∀ j, j < i + 1 → upd g (nI i).toNatClampNeg v j = v := by
  intro j hj
  rw [nI_clamp hi]
  unfold upd
  by_cases e : j = i
  · rw [if_pos e]
  · rw [if_neg e]; exact h j (by omega)
theorem vin8 {a b : Int32} (ha : bw a 0 11 = true) (hb : bw b 0 7 = true) : vp_in (8 * a + b) 96 := by
  have h0 : (0 : Int32).toInt = 0 := rfl
  have h7 : (7 : Int32).toInt = 7 := rfl
  have h8 : (8 : Int32).toInt = 8 := rfl
  have h11 : (11 : Int32).toInt = 11 := rfl
  have h1 := bw_iff.mp ha
  have h2 := bw_iff.mp hb
  have e1 : (8 * a).toInt = 8 * a.toInt := by rw [mulI (by rw [h8]; omega) (by rw [h8]; omega), h8]
  have e2 : (8 * a + b).toInt = 8 * a.toInt + b.toInt := by rw [addI (by omega) (by omega), e1]
  rw [vp_in_iff, e2]; omega
theorem vin10 {a b : Int32} (ha : bw a 0 9 = true) (hb : bw b 0 9 = true) : vp_in (10 * a + b) 100 := by
  have h0 : (0 : Int32).toInt = 0 := rfl
  have h9 : (9 : Int32).toInt = 9 := rfl
  have h10 : (10 : Int32).toInt = 10 := rfl
  have h1 := bw_iff.mp ha
  have h2 := bw_iff.mp hb
  have e1 : (10 * a).toInt = 10 * a.toInt := by rw [mulI (by rw [h10]; omega) (by rw [h10]; omega), h10]
  have e2 : (10 * a + b).toInt = 10 * a.toInt + b.toInt := by rw [addI (by omega) (by omega), e1]
  rw [vp_in_iff, e2]; omega
theorem vinP {a : Int32} {i : Nat} (ha : bw a 0 11 = true) (hi : i < 480) : vp_in (480 * a + nI i) 5760 := by
  have h0 : (0 : Int32).toInt = 0 := rfl
  have h11 : (11 : Int32).toInt = 11 := rfl
  have h480 : (480 : Int32).toInt = 480 := rfl
  have h1 := bw_iff.mp ha
  have hn : (nI i).toInt = (i : Int) := nI_toInt (by omega)
  have e1 : (480 * a).toInt = 480 * a.toInt := by rw [mulI (by rw [h480]; omega) (by rw [h480]; omega), h480]
  have e2 : (480 * a + nI i).toInt = 480 * a.toInt + i := by rw [addI (by omega) (by omega), e1, hn]
  rw [vp_in_iff, e2]; omega
theorem vinC {a b : Int32} {i : Nat} (ha : bw a 0 11 = true) (hb : bw b 0 7 = true) (hi : i < 60) : vp_in (480 * a + 60 * b + nI i) 5760 := by
  have h0 : (0 : Int32).toInt = 0 := rfl
  have h7 : (7 : Int32).toInt = 7 := rfl
  have h11 : (11 : Int32).toInt = 11 := rfl
  have h480 : (480 : Int32).toInt = 480 := rfl
  have h60 : (60 : Int32).toInt = 60 := rfl
  have h1 := bw_iff.mp ha
  have h2 := bw_iff.mp hb
  have hn : (nI i).toInt = (i : Int) := nI_toInt (by omega)
  have e1 : (480 * a).toInt = 480 * a.toInt := by rw [mulI (by rw [h480]; omega) (by rw [h480]; omega), h480]
  have e3 : (60 * b).toInt = 60 * b.toInt := by rw [mulI (by rw [h60]; omega) (by rw [h60]; omega), h60]
  have e4 : (480 * a + 60 * b).toInt = 480 * a.toInt + 60 * b.toInt := by rw [addI (by omega) (by omega), e1, e3]
  have e2 : (480 * a + 60 * b + nI i).toInt = 480 * a.toInt + 60 * b.toInt + i := by rw [addI (by omega) (by omega), e4, hn]
  rw [vp_in_iff, e2]; omega
theorem sw_in {x : Int32} {k : Int} (hk : k = x.toInt) {y : Int32} (hy : y.toInt = k) : x = y := Int32.toInt_inj.mp (by rw [← hk, hy])
theorem sw_out4 {x : Int32} (h0 : ¬ x = 0) (h1 : ¬ x = 1) (h2 : ¬ x = 2) (h3 : ¬ x = 3) (h4 : ¬ x = 4) : x.toInt < 0 ∨ 4 < x.toInt := by
  rcases Int.lt_or_le x.toInt 0 with q | q
  · exact Or.inl q
  · rcases Int.lt_or_le 4 x.toInt with q2 | q2
    · exact Or.inr q2
    · exfalso
      have : x.toInt = 0 ∨ x.toInt = 1 ∨ x.toInt = 2 ∨ x.toInt = 3 ∨ x.toInt = 4 := by omega
      rcases this with e | e | e | e | e
      · exact h0 (sw_in e.symm rfl)
      · exact h1 (sw_in e.symm rfl)
      · exact h2 (sw_in e.symm rfl)
      · exact h3 (sw_in e.symm rfl)
      · exact h4 (sw_in e.symm rfl)
theorem karr {args : Array Value} {s : State} {ty : FieldType} (hty : (match ty with | .object _ => false | _ => true) = true) (h : (Cond.arrayClass ty).before args s = true) : ∃ cA : ClassId, ArrOfT s cA ty ∧ va_RA s cA ty := by
  obtain ⟨cA, kA, comp, h1, h2, h3⟩ := Cond.arrayClass_spec h
  refine ⟨cA, fun n z => ⟨fun k h => (by cases h), kA, h2, comp, h3⟩, ?_⟩
  cases ty <;> simp [va_RA] at hty ⊢ <;> exact h1
/-- a page of the desk: its object and its two rows -/
abbrev shC (cI : ClassId) (sa la ca : Nat → Nat) (j : Nat) : va_W := [(sa j, .inr (8, [.ref (la j), .ref (ca j), .int 100, .int (-1), .int (-1)])), (la j, .inl (cI, 8, .inl (fun _ => 0))), (ca j, .inl (cI, 480, .inl (fun _ => (-2))))]
abbrev shW (cI : ClassId) (sa la ca : Nat → Nat) : va_W := shC cI sa la ca 0 ++ shC cI sa la ca 1 ++ shC cI sa la ca 2 ++ shC cI sa la ca 3 ++ shC cI sa la ca 4 ++ shC cI sa la ca 5 ++ shC cI sa la ca 6 ++ shC cI sa la ca 7 ++ shC cI sa la ca 8 ++ shC cI sa la ca 9 ++ shC cI sa la ca 10 ++ shC cI sa la ca 11
theorem vaD_ext {A : Nat → Prop} {ws : va_W} (hD : va_D A ws) (k : Nat) {a : Nat} {e e' : va_E} (hk : ws[k]? = some (a, e)) : va_D A (ws.set k (a, e')) := va_D.set hD hk
theorem nwX0 : ∀ j, j < 4 → defaultValue (tyX0 j) = vp_V [.null, .int 0, .null, .int 0] j := by
  intro j hj
  match j, hj with
  | 0, _ => rfl
  | 1, _ => rfl
  | 2, _ => rfl
  | 3, _ => rfl
  | j + 4, h => exact absurd h (by omega)
theorem nwX1 : ∀ j, j < 3 → defaultValue (tyX1 j) = vp_V [.int 0, .int 0, .int 0] j := by
  intro j hj
  match j, hj with
  | 0, _ => rfl
  | 1, _ => rfl
  | 2, _ => rfl
  | j + 3, h => exact absurd h (by omega)
theorem nwX2 : ∀ j, j < 7 → defaultValue (tyX2 j) = vp_V [.int 0, .int 0, .null, .int 0, .null, .int 0, .int 0] j := by
  intro j hj
  match j, hj with
  | 0, _ => rfl
  | 1, _ => rfl
  | 2, _ => rfl
  | 3, _ => rfl
  | 4, _ => rfl
  | 5, _ => rfl
  | 6, _ => rfl
  | j + 7, h => exact absurd h (by omega)
theorem nwX3 : ∀ j, j < 8 → defaultValue (tyX3 j) = vp_V [.int 0, .int 0, .null, .int 0, .null, .null, .int 0, .int 0] j := by
  intro j hj
  match j, hj with
  | 0, _ => rfl
  | 1, _ => rfl
  | 2, _ => rfl
  | 3, _ => rfl
  | 4, _ => rfl
  | 5, _ => rfl
  | 6, _ => rfl
  | 7, _ => rfl
  | j + 8, h => exact absurd h (by omega)
theorem nwX5 : ∀ j, j < 7 → defaultValue (tyX5 j) = vp_V [.int 0, .int 0, .null, .int 0, .null, .null, .int 0] j := by
  intro j hj
  match j, hj with
  | 0, _ => rfl
  | 1, _ => rfl
  | 2, _ => rfl
  | 3, _ => rfl
  | 4, _ => rfl
  | 5, _ => rfl
  | 6, _ => rfl
  | j + 7, h => exact absurd h (by omega)
theorem nwX6 : ∀ j, j < 9 → defaultValue (tyX6 j) = vp_V [.int 0, .int 0, .null, .int 0, .null, .int 0, .int 0, .null, .null] j := by
  intro j hj
  match j, hj with
  | 0, _ => rfl
  | 1, _ => rfl
  | 2, _ => rfl
  | 3, _ => rfl
  | 4, _ => rfl
  | 5, _ => rfl
  | 6, _ => rfl
  | 7, _ => rfl
  | 8, _ => rfl
  | j + 9, h => exact absurd h (by omega)
theorem nwX7 : ∀ j, j < 8 → defaultValue (tyX7 j) = vp_V [.int 0, .int 0, .null, .int 0, .null, .null, .null, .int 0] j := by
  intro j hj
  match j, hj with
  | 0, _ => rfl
  | 1, _ => rfl
  | 2, _ => rfl
  | 3, _ => rfl
  | 4, _ => rfl
  | 5, _ => rfl
  | 6, _ => rfl
  | 7, _ => rfl
  | j + 8, h => exact absurd h (by omega)
theorem nwX8 : ∀ j, j < 6 → defaultValue (tyX8 j) = vp_V [.null, .int 0, .int 0, .int 0, .int 0, .int 0] j := by
  intro j hj
  match j, hj with
  | 0, _ => rfl
  | 1, _ => rfl
  | 2, _ => rfl
  | 3, _ => rfl
  | 4, _ => rfl
  | 5, _ => rfl
  | j + 6, h => exact absurd h (by omega)
theorem nwX9 : ∀ j, j < 5 → defaultValue (tyX9 j) = vp_V [.null, .null, .int 0, .int 0, .int 0] j := by
  intro j hj
  match j, hj with
  | 0, _ => rfl
  | 1, _ => rfl
  | 2, _ => rfl
  | 3, _ => rfl
  | 4, _ => rfl
  | j + 5, h => exact absurd h (by omega)
theorem nwX10 : ∀ j, j < 9 → defaultValue (tyX10 j) = vp_V [.int 0, .int 0, .null, .int 0, .null, .int 0, .null, .int 0, .null] j := by
  intro j hj
  match j, hj with
  | 0, _ => rfl
  | 1, _ => rfl
  | 2, _ => rfl
  | 3, _ => rfl
  | 4, _ => rfl
  | 5, _ => rfl
  | 6, _ => rfl
  | 7, _ => rfl
  | 8, _ => rfl
  | j + 9, h => exact absurd h (by omega)
theorem nwX11 : ∀ j, j < 9 → defaultValue (tyX11 j) = vp_V [.null, .null, .null, .int 0, .null, .int 0, .null, .int 0, .int 0] j := by
  intro j hj
  match j, hj with
  | 0, _ => rfl
  | 1, _ => rfl
  | 2, _ => rfl
  | 3, _ => rfl
  | 4, _ => rfl
  | 5, _ => rfl
  | 6, _ => rfl
  | 7, _ => rfl
  | 8, _ => rfl
  | j + 9, h => exact absurd h (by omega)
theorem nwX12 : ∀ j, j < 52 → defaultValue (tyX12 j) = vp_V [.null, .null, .null, .int 0, .null, .null, .null, .null, .null, .null, .null, .null, .null, .null, .null, .null, .null, .null, .null, .null, .null, .null, .null, .null, .null, .null, .null, .null, .int 0, .null, .null, .null, .null, .null, .null, .null, .int 0, .null, .int 0, .int 0, .null, .null, .null, .null, .null, .null, .null, .null, .null, .int 0, .int 0, .int 0] j := by
  intro j hj
  match j, hj with
  | 0, _ => rfl
  | 1, _ => rfl
  | 2, _ => rfl
  | 3, _ => rfl
  | 4, _ => rfl
  | 5, _ => rfl
  | 6, _ => rfl
  | 7, _ => rfl
  | 8, _ => rfl
  | 9, _ => rfl
  | 10, _ => rfl
  | 11, _ => rfl
  | 12, _ => rfl
  | 13, _ => rfl
  | 14, _ => rfl
  | 15, _ => rfl
  | 16, _ => rfl
  | 17, _ => rfl
  | 18, _ => rfl
  | 19, _ => rfl
  | 20, _ => rfl
  | 21, _ => rfl
  | 22, _ => rfl
  | 23, _ => rfl
  | 24, _ => rfl
  | 25, _ => rfl
  | 26, _ => rfl
  | 27, _ => rfl
  | 28, _ => rfl
  | 29, _ => rfl
  | 30, _ => rfl
  | 31, _ => rfl
  | 32, _ => rfl
  | 33, _ => rfl
  | 34, _ => rfl
  | 35, _ => rfl
  | 36, _ => rfl
  | 37, _ => rfl
  | 38, _ => rfl
  | 39, _ => rfl
  | 40, _ => rfl
  | 41, _ => rfl
  | 42, _ => rfl
  | 43, _ => rfl
  | 44, _ => rfl
  | 45, _ => rfl
  | 46, _ => rfl
  | 47, _ => rfl
  | 48, _ => rfl
  | 49, _ => rfl
  | 50, _ => rfl
  | 51, _ => rfl
  | j + 52, h => exact absurd h (by omega)
/-- the reference's object: its rows lie at v k -/
abbrev mO (v : Nat → Nat) (i3 i28 i36 i38 i39 i49 i50 i51 : Int32) : List Value := [.ref (v 0), .ref (v 1), .ref (v 2), .int i3, .ref (v 4), .ref (v 5), .ref (v 6), .ref (v 7), .ref (v 8), .ref (v 9), .ref (v 10), .ref (v 11), .ref (v 12), .ref (v 13), .ref (v 14), .ref (v 15), .ref (v 16), .ref (v 17), .ref (v 18), .ref (v 19), .ref (v 20), .ref (v 21), .ref (v 22), .ref (v 23), .ref (v 24), .ref (v 25), .ref (v 26), .ref (v 27), .int i28, .ref (v 29), .ref (v 30), .ref (v 31), .ref (v 32), .ref (v 33), .ref (v 34), .ref (v 35), .int i36, .ref (v 37), .int i38, .int i39, .ref (v 40), .ref (v 41), .ref (v 42), .ref (v 43), .ref (v 44), .ref (v 45), .ref (v 46), .ref (v 47), .ref (v 48), .int i49, .int i50, .int i51]
