/-- a piece: page, column, line, columns, lines; an item's pieces, the last one first -/
abbrev fR : Type := Nat × Nat × Nat × Nat × Nat
abbrev cfg : Type := Nat → List fR
def rOK (r : fR) : Prop := r.1 < 12 ∧ r.2.1 + r.2.2.2.1 ≤ 8 ∧ r.2.2.1 + r.2.2.2.2 ≤ 60 ∧ 1 ≤ r.2.2.2.1 ∧ 1 ≤ r.2.2.2.2
/-- whether two pages differ, as a number -/
def dfP (a b : Nat) : Int := if a = b then 0 else 1
def pvT (r : fR) : List fR → Int
  | [] => 0
  | q :: _ => dfP q.1 r.1
def nxT (r : fR) : Option Nat → Int
  | none => 0
  | some P => dfP P r.1
def tkL (nx : Option Nat) (r : fR) (l : List fR) : Int := (r.2.2.2.2 : Int) - pvT r l - nxT r nx
def lgT : Option Nat → List fR → Prop
  | _, [] => True
  | nx, r :: l => 1 ≤ tkL nx r l ∧ lgT (some r.1) l
def frL : Option Nat → List fR → Int
  | _, [] => 0
  | nx, r :: l => tkL nx r l + frL (some r.1) l
theorem dfP_b (a b : Nat) : 0 ≤ dfP a b ∧ dfP a b ≤ 1 := by
  unfold dfP; split <;> decide
theorem pvT_b (r : fR) (l : List fR) : 0 ≤ pvT r l ∧ pvT r l ≤ 1 := by
  cases l with
  | nil => exact ⟨Int.le_refl 0, (by decide : (0 : Int) ≤ 1)⟩
  | cons q l => exact dfP_b _ _
theorem nxT_b (r : fR) (nx : Option Nat) : 0 ≤ nxT r nx ∧ nxT r nx ≤ 1 := by
  cases nx with
  | none => exact ⟨Int.le_refl 0, (by decide : (0 : Int) ≤ 1)⟩
  | some q => exact dfP_b _ _
theorem tkL_b {r : fR} (hr : rOK r) (nx : Option Nat) (l : List fR) : -1 ≤ tkL nx r l ∧ tkL nx r l ≤ 60 := by
  have h1 := pvT_b r l
  have h2 := nxT_b r nx
  have h3 := hr.2.2
  unfold tkL; omega
theorem lgT_none {nx : Option Nat} {l : List fR} (h : lgT nx l) : lgT none l := by
  cases l with
  | nil => trivial
  | cons r l =>
    refine ⟨?_, h.2⟩
    have h1 := h.1
    have h2 := nxT_b r nx
    have h3 : nxT r none = 0 := rfl
    unfold tkL at h1 ⊢
    omega
theorem frL_w : ∀ (l : List fR) (nx : Option Nat), (∀ r ∈ l, rOK r) → -(60 * (l.length : Int)) ≤ frL nx l ∧ frL nx l ≤ 60 * (l.length : Int)
  | [], _, _ => ⟨(by decide : -(60 * ((0 : Nat) : Int)) ≤ 0), (by decide : (0 : Int) ≤ 60 * ((0 : Nat) : Int))⟩
  | r :: l, nx, h => by
    have h1 := frL_w l (some r.1) (fun q hq => h q (List.mem_cons_of_mem _ hq))
    have h2 := tkL_b (h r List.mem_cons_self) nx l
    have h3 : frL nx (r :: l) = tkL nx r l + frL (some r.1) l := rfl
    rw [h3, List.length_cons]
    omega
theorem frL_p : ∀ (l : List fR) (nx : Option Nat), lgT nx l → 0 ≤ frL nx l
  | [], _, _ => Int.le_refl 0
  | r :: l, nx, h => by
    have h1 := frL_p l (some r.1) h.2
    have h2 := h.1
    have h3 : frL nx (r :: l) = tkL nx r l + frL (some r.1) l := rfl
    omega
/-- the slot k holds the piece -/
def slE (u : mS) (k : Nat) (r : fR) : Prop := u.2 23 k = nI r.1 ∧ u.2 24 k = nI r.2.1 ∧ u.2 25 k = nI r.2.2.1 ∧ u.2 26 k = nI r.2.2.2.1 ∧ u.2 27 k = nI r.2.2.2.2
def slM (u : mS) (a : Nat) : List fR → Prop
  | [] => True
  | r :: l => slE u (6 * a + l.length) r ∧ slM u a l
theorem nI_inj {a b : Nat} (ha : a < 2 ^ 31) (hb : b < 2 ^ 31) : nI a = nI b ↔ a = b := by
  constructor
  · intro h
    have h2 : (nI a).toInt = (nI b).toInt := by rw [h]
    rw [nI_toInt ha, nI_toInt hb] at h2
    omega
  · intro h; rw [h]
def tk1 (u : mS) (i k : Int32) : Int32 := if k ≤ 0 then u.2 27 (6 * i + k).toNatClampNeg else if u.2 23 (6 * i + k - 1).toNatClampNeg = u.2 23 (6 * i + k).toNatClampNeg then u.2 27 (6 * i + k).toNatClampNeg else u.2 27 (6 * i + k).toNatClampNeg + (-1)
theorem mTakes_eq (u : mS) (i k : Int32) : mTakes u i k = if u.2 22 i.toNatClampNeg ≤ k + 1 then tk1 u i k else if u.2 23 (6 * i + k + 1).toNatClampNeg = u.2 23 (6 * i + k).toNatClampNeg then tk1 u i k else tk1 u i k + (-1) := rfl
theorem m1I {x : Int32} (h : -1000 ≤ x.toInt) (h2 : x.toInt ≤ 1000) : (x + (-1)).toInt = x.toInt - 1 := by
  have e : (-1 : Int32).toInt = -1 := rfl
  rw [addI (by rw [e]; omega) (by rw [e]; omega), e]; omega
theorem ix6 (a k : Nat) : 6 * nI a + nI k = nI (6 * a + k) := by
  rw [show (6 : Int32) = nI 6 from rfl, pk_mul, nI_add]
theorem tk1_v {u : mS} {a : Nat} (ha : a < 80) {r : fR} {l : List fR} (hl : l.length ≤ 5) (hr : rOK r) (hr2 : ∀ q ∈ l, rOK q) (h : slM u a (r :: l)) : (tk1 u (nI a) (nI l.length)).toInt = (r.2.2.2.2 : Int) - pvT r l := by
  obtain ⟨⟨h23, -, -, -, h27⟩, h2⟩ := h
  have hN := hr.2.2
  have hP := hr.1
  unfold tk1
  rw [ix6, nI_clamp (by omega), h27]
  cases l with
  | nil =>
    rw [if_pos (by decide), nI_toInt (by omega)]
    show _ = (r.2.2.2.2 : Int) - 0
    omega
  | cons q l2 =>
    have hq := (hr2 q List.mem_cons_self).1
    obtain ⟨⟨g23, -⟩, -⟩ := h2
    rw [List.length_cons] at hl h23 h27 ⊢
    rw [if_neg (by rw [i32_le, nI_toInt (by omega), i0]; omega), dn_e (by omega), nI_clamp (by omega), show 6 * a + (l2.length + 1) - 1 = 6 * a + l2.length from by omega, g23, h23]
    show _ = (r.2.2.2.2 : Int) - dfP q.1 r.1
    unfold dfP
    by_cases e : q.1 = r.1
    · rw [if_pos (by rw [e]), if_pos e, nI_toInt (by omega)]; omega
    · rw [if_neg (fun h => e ((nI_inj (by omega) (by omega)).mp h)), if_neg e, m1I (by rw [nI_toInt (by omega)]; omega) (by rw [nI_toInt (by omega)]; omega), nI_toInt (by omega)]
theorem mTk0 {u : mS} {a : Nat} (ha : a < 80) {r : fR} {l : List fR} (hl : l.length ≤ 5) (hr : rOK r) (hr2 : ∀ q ∈ l, rOK q) (h : slM u a (r :: l)) (hn : u.2 22 a = nI (l.length + 1)) : (mTakes u (nI a) (nI l.length)).toInt = tkL none r l := by
  rw [mTakes_eq, nI_clamp (by omega), hn, nI_1, if_pos (by rw [i32_le]; exact Int.le_refl _), tk1_v ha hl hr hr2 h]
  show _ = (r.2.2.2.2 : Int) - pvT r l - 0
  omega
theorem mTk1 {u : mS} {a : Nat} (ha : a < 80) {r : fR} {l : List fR} (hl : l.length ≤ 4) (hr : rOK r) (hr2 : ∀ q ∈ l, rOK q) (h : slM u a (r :: l)) {n P : Nat} (hn6 : n ≤ 6) (hn : u.2 22 a = nI n) (hln : l.length + 1 < n) (hP : P < 12) (hx : u.2 23 (6 * a + (l.length + 1)) = nI P) : (mTakes u (nI a) (nI l.length)).toInt = tkL (some P) r l := by
  have hv := tk1_v ha (by omega) hr hr2 h
  have hb := pvT_b r l
  have h23 := h.1.1
  have hN := hr.2.2
  have hP2 := hr.1
  rw [mTakes_eq, nI_clamp (by omega), hn, nI_1, if_neg (by rw [i32_le, nI_toInt (by omega), nI_toInt (by omega)]; omega), ix6, nI_1, nI_clamp (by omega), nI_clamp (by omega), h23, show 6 * a + l.length + 1 = 6 * a + (l.length + 1) from rfl, hx]
  show _ = (r.2.2.2.2 : Int) - pvT r l - dfP P r.1
  unfold dfP
  by_cases e : P = r.1
  · rw [if_pos (by rw [e]), if_pos e, hv]; omega
  · rw [if_neg (fun h => e ((nI_inj (by omega) (by omega)).mp h)), if_neg e, m1I (by rw [hv]; omega) (by rw [hv]; omega), hv]
theorem mFr {u : mS} {a n : Nat} (ha : a < 80) (hn6 : n ≤ 6) (hn : u.2 22 a = nI n) : ∀ (l : List fR) (P : Nat), (∀ q ∈ l, rOK q) → slM u a l → l.length < n → P < 12 → u.2 23 (6 * a + l.length) = nI P → (mFrom u (nI a) l.length).toInt = frL (some P) l
  | [], _, _, _, _, _, _ => rfl
  | r :: l, P, hr, h, hl, hP, hx => by
    rw [List.length_cons] at hl hx ⊢
    have hr2 : ∀ q ∈ l, rOK q := fun q hq => hr q (List.mem_cons_of_mem _ hq)
    have hr1 := hr r List.mem_cons_self
    have h1 := mFr ha hn6 hn l r.1 hr2 h.2 (by omega) hr1.1 h.1.1
    have h2 := mTk1 ha (by omega) hr1 hr2 h hn6 hn hl hP hx
    have h3 := frL_w l (some r.1) hr2
    have h4 := tkL_b hr1 (some P) l
    show (mFrom u (nI a) l.length + mTakes u (nI a) (nI l.length)).toInt = tkL (some P) r l + frL (some r.1) l
    rw [addI (by rw [h1, h2]; omega) (by rw [h1, h2]; omega), h1, h2]; omega
/-- what mayRun finds makes the longer row of pieces a good one -/
theorem runG_l {u : mS} {a : Nat} (ha : a < 80) {r : fR} {l : List fR} (hl : l.length ≤ 5) (hr : rOK r) (hr2 : ∀ q ∈ l, rOK q) (h : slM u a (r :: l)) (hn : u.2 22 a = nI (l.length + 1)) (hg : lgT none l) (hG : runG u (nI a) (nI l.length)) : lgT none (r :: l) := by
  obtain ⟨g1, g2⟩ := hG
  rw [i32_lt, mTk0 ha hl hr hr2 h hn, i1] at g1
  refine ⟨by omega, ?_⟩
  cases l with
  | nil => trivial
  | cons q l2 =>
    rw [List.length_cons] at hl g2 hn
    have hq1 := hr2 q List.mem_cons_self
    have hq2 : ∀ x ∈ l2, rOK x := fun x hx => hr2 x (List.mem_cons_of_mem _ hx)
    have g3 := g2.resolve_left (fun e => by
      have e2 : (nI (l2.length + 1)).toInt = 0 := by rw [e]; rfl
      rw [nI_toInt (by omega)] at e2; omega)
    rw [dn_e (by omega), Nat.add_sub_cancel, i32_lt, mTk1 ha (by omega) hq1 hq2 h.2 (n := l2.length + 1 + 1) (by omega) hn (by omega) hr.1 h.1.1, i1] at g3
    exact ⟨by omega, hg.2⟩
/-- and what mayRun asks of the lines ahead -/
theorem runG_f {u : mS} {a : Nat} (ha : a < 80) {r : fR} {l : List fR} (hl : l.length ≤ 5) (hr : rOK r) (hr2 : ∀ q ∈ l, rOK q) (h : slM u a (r :: l)) (hn : u.2 22 a = nI (l.length + 1)) (hg : lgT none l) (hG : runG u (nI a) (nI l.length)) : 0 ≤ (mFrom u (nI a) l.length).toInt ∧ (mFrom u (nI a) l.length).toInt ≤ 400 ∧ (mTakes u (nI a) (nI l.length)).toInt ≤ 60 := by
  have h1 := runG_l ha hl hr hr2 h hn hg hG
  rw [mFr ha (by omega) hn l r.1 hr2 h.2 (by omega) hr.1 h.1.1, mTk0 ha hl hr hr2 h hn]
  have h2 := frL_p l (some r.1) h1.2
  have h3 := frL_w l (some r.1) hr2
  have h4 := tkL_b hr none l
  omega
