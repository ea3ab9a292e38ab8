/-- a piece: page, column, line, columns, lines; an item's pieces, the last one first -/
abbrev fR : Type := Nat × Nat × Nat × Nat × Nat
abbrev cfg : Type := Nat → List fR
def rOK (r : fR) : Prop := r.1 < 12 ∧ r.2.1 + r.2.2.2.1 ≤ 8 ∧ r.2.2.1 + r.2.2.2.2 ≤ 60 ∧ 1 ≤ r.2.2.2.1 ∧ 1 ≤ r.2.2.2.2
/-- whether two pages differ, as a number -/
def dfP (a b : Nat) : Int := if a = b then 0 else 1
def pvT (r : fR) : List fR → Int
  | [] => 0
  | q :: _ => dfP q.1 r.1
def nxT (r : fR) : Option Nat → Int
  | none => 0
  | some P => dfP P r.1
def tkL (nx : Option Nat) (r : fR) (l : List fR) : Int := (r.2.2.2.2 : Int) - pvT r l - nxT r nx
def lgT : Option Nat → List fR → Prop
  | _, [] => True
  | nx, r :: l => 1 ≤ tkL nx r l ∧ lgT (some r.1) l
def frL : Option Nat → List fR → Int
  | _, [] => 0
  | nx, r :: l => tkL nx r l + frL (some r.1) l
theorem dfP_b (a b : Nat) : 0 ≤ dfP a b ∧ dfP a b ≤ 1 := by
  unfold dfP; split <;> decide
theorem pvT_b (r : fR) (l : List fR) : 0 ≤ pvT r l ∧ pvT r l ≤ 1 := by
  cases l with
  | nil => exact ⟨Int.le_refl 0, (by decide : (0 : Int) ≤ 1)⟩
  | cons q l => exact dfP_b _ _
theorem nxT_b (r : fR) (nx : Option Nat) : 0 ≤ nxT r nx ∧ nxT r nx ≤ 1 := by
  cases nx with
  | none => exact ⟨Int.le_refl 0, (by decide : (0 : Int) ≤ 1)⟩
  | some q => exact dfP_b _ _
theorem tkL_b {r : fR} (hr : rOK r) (nx : Option Nat) (l : List fR) : -1 ≤ tkL nx r l ∧ tkL nx r l ≤ 60 := by
  have h1 := pvT_b r l
  have h2 := nxT_b r nx
  have h3 := hr.2.2
  unfold tkL; omega
theorem lgT_none {nx : Option Nat} {l : List fR} (h : lgT nx l) : lgT none l := by
  cases l with
  | nil => trivial
  | cons r l =>
    refine ⟨?_, h.2⟩
    have h1 := h.1
    have h2 := nxT_b r nx
    have h3 : nxT r none = 0 := rfl
    unfold tkL at h1 ⊢
    omega
theorem frL_w : ∀ (l : List fR) (nx : Option Nat), (∀ r ∈ l, rOK r) → -(60 * (l.length : Int)) ≤ frL nx l ∧ frL nx l ≤ 60 * (l.length : Int)
  | [], _, _ => ⟨(by decide : -(60 * ((0 : Nat) : Int)) ≤ 0), (by decide : (0 : Int) ≤ 60 * ((0 : Nat) : Int))⟩
  | r :: l, nx, h => by
    have h1 := frL_w l (some r.1) (fun q hq => h q (List.mem_cons_of_mem _ hq))
    have h2 := tkL_b (h r List.mem_cons_self) nx l
    have h3 : frL nx (r :: l) = tkL nx r l + frL (some r.1) l := rfl
    rw [h3, List.length_cons]
    omega
theorem frL_p : ∀ (l : List fR) (nx : Option Nat), lgT nx l → 0 ≤ frL nx l
  | [], _, _ => Int.le_refl 0
  | r :: l, nx, h => by
    have h1 := frL_p l (some r.1) h.2
    have h2 := h.1
    have h3 : frL nx (r :: l) = tkL nx r l + frL (some r.1) l := rfl
    omega
/-- the slot k holds the piece -/
def slE (u : mS) (k : Nat) (r : fR) : Prop := u.2 23 k = nI r.1 ∧ u.2 24 k = nI r.2.1 ∧ u.2 25 k = nI r.2.2.1 ∧ u.2 26 k = nI r.2.2.2.1 ∧ u.2 27 k = nI r.2.2.2.2
def slM (u : mS) (a : Nat) : List fR → Prop
  | [] => True
  | r :: l => slE u (6 * a + l.length) r ∧ slM u a l
theorem nI_inj {a b : Nat} (ha : a < 2 ^ 31) (hb : b < 2 ^ 31) : nI a = nI b ↔ a = b := by
  constructor
  · intro h
    have h2 : (nI a).toInt = (nI b).toInt := by rw [h]
    rw [nI_toInt ha, nI_toInt hb] at h2
    omega
  · intro h; rw [h]
def tk1 (u : mS) (i k : Int32) : Int32 := if k ≤ 0 then u.2 27 (6 * i + k).toNatClampNeg else if u.2 23 (6 * i + k - 1).toNatClampNeg = u.2 23 (6 * i + k).toNatClampNeg then u.2 27 (6 * i + k).toNatClampNeg else u.2 27 (6 * i + k).toNatClampNeg + (-1)
theorem mTakes_eq (u : mS) (i k : Int32) : mTakes u i k = if u.2 22 i.toNatClampNeg ≤ k + 1 then tk1 u i k else if u.2 23 (6 * i + k + 1).toNatClampNeg = u.2 23 (6 * i + k).toNatClampNeg then tk1 u i k else tk1 u i k + (-1) := rfl
theorem m1I {x : Int32} (h : -1000 ≤ x.toInt) (h2 : x.toInt ≤ 1000) : (x + (-1)).toInt = x.toInt - 1 := by
  have e : (-1 : Int32).toInt = -1 := rfl
  rw [addI (by rw [e]; omega) (by rw [e]; omega), e]; omega
theorem ix6 (a k : Nat) : 6 * nI a + nI k = nI (6 * a + k) := by
  rw [show (6 : Int32) = nI 6 from rfl, pk_mul, nI_add]
theorem tk1_v {u : mS} {a : Nat} (ha : a < 80) {r : fR} {l : List fR} (hl : l.length ≤ 5) (hr : rOK r) (hr2 : ∀ q ∈ l, rOK q) (h : slM u a (r :: l)) : (tk1 u (nI a) (nI l.length)).toInt = (r.2.2.2.2 : Int) - pvT r l := by
  obtain ⟨⟨h23, -, -, -, h27⟩, h2⟩ := h
  have hN := hr.2.2
  have hP := hr.1
  unfold tk1
  rw [ix6, nI_clamp (by omega), h27]
  cases l with
  | nil =>
    rw [if_pos (by decide), nI_toInt (by omega)]
    show _ = (r.2.2.2.2 : Int) - 0
    omega
  | cons q l2 =>
    have hq := (hr2 q List.mem_cons_self).1
    obtain ⟨⟨g23, -⟩, -⟩ := h2
    rw [List.length_cons] at hl h23 h27 ⊢
    rw [if_neg (by rw [i32_le, nI_toInt (by omega), i0]; omega), dn_e (by omega), nI_clamp (by omega), show 6 * a + (l2.length + 1) - 1 = 6 * a + l2.length from by omega, g23, h23]
    show _ = (r.2.2.2.2 : Int) - dfP q.1 r.1
    unfold dfP
    by_cases e : q.1 = r.1
    · rw [if_pos (by rw [e]), if_pos e, nI_toInt (by omega)]; omega
    · rw [if_neg (fun h => e ((nI_inj (by omega) (by omega)).mp h)), if_neg e, m1I (by rw [nI_toInt (by omega)]; omega) (by rw [nI_toInt (by omega)]; omega), nI_toInt (by omega)]
theorem mTk0 {u : mS} {a : Nat} (ha : a < 80) {r : fR} {l : List fR} (hl : l.length ≤ 5) (hr : rOK r) (hr2 : ∀ q ∈ l, rOK q) (h : slM u a (r :: l)) (hn : u.2 22 a = nI (l.length + 1)) : (mTakes u (nI a) (nI l.length)).toInt = tkL none r l := by
  rw [mTakes_eq, nI_clamp (by omega), hn, nI_1, if_pos (by rw [i32_le]; exact Int.le_refl _), tk1_v ha hl hr hr2 h]
  show _ = (r.2.2.2.2 : Int) - pvT r l - 0
  omega
theorem mTk1 {u : mS} {a : Nat} (ha : a < 80) {r : fR} {l : List fR} (hl : l.length ≤ 4) (hr : rOK r) (hr2 : ∀ q ∈ l, rOK q) (h : slM u a (r :: l)) {n P : Nat} (hn6 : n ≤ 6) (hn : u.2 22 a = nI n) (hln : l.length + 1 < n) (hP : P < 12) (hx : u.2 23 (6 * a + (l.length + 1)) = nI P) : (mTakes u (nI a) (nI l.length)).toInt = tkL (some P) r l := by
  have hv := tk1_v ha (by omega) hr hr2 h
  have hb := pvT_b r l
  have h23 := h.1.1
  have hN := hr.2.2
  have hP2 := hr.1
  rw [mTakes_eq, nI_clamp (by omega), hn, nI_1, if_neg (by rw [i32_le, nI_toInt (by omega), nI_toInt (by omega)]; omega), ix6, nI_1, nI_clamp (by omega), nI_clamp (by omega), h23, show 6 * a + l.length + 1 = 6 * a + (l.length + 1) from rfl, hx]
  show _ = (r.2.2.2.2 : Int) - pvT r l - dfP P r.1
  unfold dfP
  by_cases e : P = r.1
  · rw [if_pos (by rw [e]), if_pos e, hv]; omega
  · rw [if_neg (fun h => e ((nI_inj (by omega) (by omega)).mp h)), if_neg e, m1I (by rw [hv]; omega) (by rw [hv]; omega), hv]
theorem mFr {u : mS} {a n : Nat} (ha : a < 80) (hn6 : n ≤ 6) (hn : u.2 22 a = nI n) : ∀ (l : List fR) (P : Nat), (∀ q ∈ l, rOK q) → slM u a l → l.length < n → P < 12 → u.2 23 (6 * a + l.length) = nI P → (mFrom u (nI a) l.length).toInt = frL (some P) l
  | [], _, _, _, _, _, _ => rfl
  | r :: l, P, hr, h, hl, hP, hx => by
    rw [List.length_cons] at hl hx ⊢
    have hr2 : ∀ q ∈ l, rOK q := fun q hq => hr q (List.mem_cons_of_mem _ hq)
    have hr1 := hr r List.mem_cons_self
    have h1 := mFr ha hn6 hn l r.1 hr2 h.2 (by omega) hr1.1 h.1.1
    have h2 := mTk1 ha (by omega) hr1 hr2 h hn6 hn hl hP hx
    have h3 := frL_w l (some r.1) hr2
    have h4 := tkL_b hr1 (some P) l
    show (mFrom u (nI a) l.length + mTakes u (nI a) (nI l.length)).toInt = tkL (some P) r l + frL (some r.1) l
    rw [addI (by rw [h1, h2]; omega) (by rw [h1, h2]; omega), h1, h2]; omega
/-- what mayRun finds makes the longer row of pieces a good one -/
theorem runG_l {u : mS} {a : Nat} (ha : a < 80) {r : fR} {l : List fR} (hl : l.length ≤ 5) (hr : rOK r) (hr2 : ∀ q ∈ l, rOK q) (h : slM u a (r :: l)) (hn : u.2 22 a = nI (l.length + 1)) (hg : lgT none l) (hG : runG u (nI a) (nI l.length)) : lgT none (r :: l) := by
  obtain ⟨g1, g2⟩ := hG
  rw [i32_lt, mTk0 ha hl hr hr2 h hn, i1] at g1
  refine ⟨by omega, ?_⟩
  cases l with
  | nil => trivial
  | cons q l2 =>
    rw [List.length_cons] at hl g2 hn
    have hq1 := hr2 q List.mem_cons_self
    have hq2 : ∀ x ∈ l2, rOK x := fun x hx => hr2 x (List.mem_cons_of_mem _ hx)
    have g3 := g2.resolve_left (fun e => by
      have e2 : (nI (l2.length + 1)).toInt = 0 := by rw [e]; rfl
      rw [nI_toInt (by omega)] at e2; omega)
    rw [dn_e (by omega), Nat.add_sub_cancel, i32_lt, mTk1 ha (by omega) hq1 hq2 h.2 (n := l2.length + 1 + 1) (by omega) hn (by omega) hr.1 h.1.1, i1] at g3
    exact ⟨by omega, hg.2⟩
/-- and what mayRun asks of the lines ahead -/
theorem runG_f {u : mS} {a : Nat} (ha : a < 80) {r : fR} {l : List fR} (hl : l.length ≤ 5) (hr : rOK r) (hr2 : ∀ q ∈ l, rOK q) (h : slM u a (r :: l)) (hn : u.2 22 a = nI (l.length + 1)) (hg : lgT none l) (hG : runG u (nI a) (nI l.length)) : 0 ≤ (mFrom u (nI a) l.length).toInt ∧ (mFrom u (nI a) l.length).toInt ≤ 400 ∧ (mTakes u (nI a) (nI l.length)).toInt ≤ 60 := by
  have h1 := runG_l ha hl hr hr2 h hn hg hG
  rw [mFr ha (by omega) hn l r.1 hr2 h.2 (by omega) hr.1 h.1.1, mTk0 ha hl hr hr2 h hn]
  have h2 := frL_p l (some r.1) h1.2
  have h3 := frL_w l (some r.1) hr2
  have h4 := tkL_b hr none l
  omega
/-- the rows show the pieces -/
def cM (u : mS) (c : cfg) : Prop := ∀ a, a < 80 → u.2 22 a = nI (c a).length ∧ slM u a (c a)
def cPush (c : cfg) (a : Nat) (r : fR) : cfg := fun b => if b = a then r :: c b else c b
theorem cPush_a (c : cfg) (a : Nat) (r : fR) : cPush c a r a = r :: c a := if_pos rfl
theorem cPush_o {c : cfg} {a b : Nat} {r : fR} (h : b ≠ a) : cPush c a r b = c b := if_neg h
theorem slM_c {u w : mS} {a : Nat} : ∀ {l : List fR}, (∀ k, 6 * a ≤ k → k < 6 * a + l.length → w.2 23 k = u.2 23 k ∧ w.2 24 k = u.2 24 k ∧ w.2 25 k = u.2 25 k ∧ w.2 26 k = u.2 26 k ∧ w.2 27 k = u.2 27 k) → slM u a l → slM w a l
  | [], _, _ => trivial
  | r :: l, h, h2 => by
    obtain ⟨k1, k2, k3, k4, k5⟩ := h (6 * a + l.length) (by omega) (by rw [List.length_cons]; omega)
    obtain ⟨⟨e1, e2, e3, e4, e5⟩, h3⟩ := h2
    exact ⟨⟨k1.trans e1, k2.trans e2, k3.trans e3, k4.trans e4, k5.trans e5⟩, slM_c (fun k q1 q2 => h k q1 (by rw [List.length_cons]; omega)) h3⟩
theorem cM_rows {u w : mS} {c : cfg} (h : ∀ k, 22 ≤ k → k ≤ 27 → w.2 k = u.2 k) (hc : cM u c) : cM w c := fun a ha => ⟨by rw [h 22 (by decide) (by decide)]; exact (hc a ha).1, slM_c (fun k _ _ => ⟨by rw [h 23 (by decide) (by decide)], by rw [h 24 (by decide) (by decide)], by rw [h 25 (by decide) (by decide)], by rw [h 26 (by decide) (by decide)], by rw [h 27 (by decide) (by decide)]⟩) (hc a ha).2⟩
theorem mst_at (u : mS) (k : Nat) (i x : Int32) (j : Nat) : (mst u k i x).2 k j = if j = i.toNatClampNeg then x else u.2 k j := by
  unfold mst mput upd; dsimp only; rw [if_pos rfl]
theorem mStand_1 (u : mS) (i : Int32) (P X Y D N : Nat) : (mStand u i P X Y D N).1 = u.1 := rfl
theorem mStand_22o (u : mS) (i : Int32) (P X Y D N j : Nat) : (mStand u i P X Y D N).2 22 j = if j = i.toNatClampNeg then u.2 22 i.toNatClampNeg + 1 else u.2 22 j := by
  unfold mStand
  dsimp only
  rw [mput_other (by decide), mst_at, mst_other (by decide), mst_other (by decide), mst_other (by decide), mst_other (by decide), mst_other (by decide)]
theorem mStand_r (u : mS) (i : Int32) (P X Y D N j : Nat) : (mStand u i P X Y D N).2 23 j = (if j = (6 * i + u.2 22 i.toNatClampNeg).toNatClampNeg then nI P else u.2 23 j) ∧ (mStand u i P X Y D N).2 24 j = (if j = (6 * i + u.2 22 i.toNatClampNeg).toNatClampNeg then nI X else u.2 24 j) ∧ (mStand u i P X Y D N).2 25 j = (if j = (6 * i + u.2 22 i.toNatClampNeg).toNatClampNeg then nI Y else u.2 25 j) ∧ (mStand u i P X Y D N).2 26 j = (if j = (6 * i + u.2 22 i.toNatClampNeg).toNatClampNeg then nI D else u.2 26 j) ∧ (mStand u i P X Y D N).2 27 j = (if j = (6 * i + u.2 22 i.toNatClampNeg).toNatClampNeg then nI N else u.2 27 j) := by
  unfold mStand
  dsimp only
  refine ⟨?_, ?_, ?_, ?_, ?_⟩
  · rw [mput_other (by decide), mst_other (by decide), mst_other (by decide), mst_other (by decide), mst_other (by decide), mst_other (by decide), mst_at]
  · rw [mput_other (by decide), mst_other (by decide), mst_other (by decide), mst_other (by decide), mst_other (by decide), mst_at, mst_other (by decide)]
  · rw [mput_other (by decide), mst_other (by decide), mst_other (by decide), mst_other (by decide), mst_at, mst_other (by decide), mst_other (by decide)]
  · rw [mput_other (by decide), mst_other (by decide), mst_other (by decide), mst_at, mst_other (by decide), mst_other (by decide), mst_other (by decide)]
  · rw [mput_other (by decide), mst_other (by decide), mst_at, mst_other (by decide), mst_other (by decide), mst_other (by decide), mst_other (by decide)]
theorem mUnstand_1 (u : mS) (i : Int32) (P X Y D N : Nat) : (mUnstand u i P X Y D N).1 = u.1 := rfl
theorem mUnstand_k (u : mS) (i : Int32) (P X Y D N : Nat) {k : Nat} (h1 : k ≠ 2) (h2 : k ≠ 22) : (mUnstand u i P X Y D N).2 k = u.2 k := by
  unfold mUnstand
  dsimp only
  rw [mput_other h1, mst_other h2]
theorem mUnstand_22o (u : mS) (i : Int32) (P X Y D N j : Nat) : (mUnstand u i P X Y D N).2 22 j = if j = i.toNatClampNeg then u.2 22 i.toNatClampNeg - 1 else u.2 22 j := by
  unfold mUnstand
  dsimp only
  rw [mput_other (by decide), mst_at]
theorem cM_stand {u : mS} {c : cfg} {a : Nat} (ha : a < 80) (hl : (c a).length ≤ 5) (h6 : ∀ b, (c b).length ≤ 6) (hc : cM u c) (P X Y D N : Nat) : cM (mStand u (nI a) P X Y D N) (cPush c a (P, X, Y, D, N)) := by
  intro b hb
  have h1 := (hc a ha).1
  have hca : (nI a).toNatClampNeg = a := nI_clamp (by omega)
  have hk : (6 * nI a + u.2 22 (nI a).toNatClampNeg).toNatClampNeg = 6 * a + (c a).length := by rw [hca, h1, ix6, nI_clamp (by omega)]
  have hr := fun j => mStand_r u (nI a) P X Y D N j
  rw [hk] at hr
  have ho : ∀ k, k ≠ 6 * a + (c a).length → (mStand u (nI a) P X Y D N).2 23 k = u.2 23 k ∧ (mStand u (nI a) P X Y D N).2 24 k = u.2 24 k ∧ (mStand u (nI a) P X Y D N).2 25 k = u.2 25 k ∧ (mStand u (nI a) P X Y D N).2 26 k = u.2 26 k ∧ (mStand u (nI a) P X Y D N).2 27 k = u.2 27 k := by
    intro k hne
    obtain ⟨q1, q2, q3, q4, q5⟩ := hr k
    rw [if_neg hne] at q1 q2 q3 q4 q5
    exact ⟨q1, q2, q3, q4, q5⟩
  by_cases e : b = a
  · subst e
    rw [cPush_a]
    refine ⟨?_, ?_, ?_⟩
    · rw [mStand_22o, hca, if_pos rfl, h1, nI_1]; rfl
    · obtain ⟨q1, q2, q3, q4, q5⟩ := hr (6 * b + (c b).length)
      rw [if_pos rfl] at q1 q2 q3 q4 q5
      exact ⟨q1, q2, q3, q4, q5⟩
    · exact slM_c (fun k _ k2 => ho k (by omega)) (hc b hb).2
  · rw [cPush_o e]
    refine ⟨?_, ?_⟩
    · rw [mStand_22o, hca, if_neg e]; exact (hc b hb).1
    · exact slM_c (fun k k1 k2 => ho k (by have := h6 b; omega)) (hc b hb).2
theorem cM_unstand {u : mS} {c : cfg} {a : Nat} {r : fR} (ha : a < 80) (hl : (c a).length ≤ 5) (hc : cM u (cPush c a r)) (P X Y D N : Nat) : cM (mUnstand u (nI a) P X Y D N) c := by
  intro b hb
  have hca : (nI a).toNatClampNeg = a := nI_clamp (by omega)
  have h := hc b hb
  have hs : ∀ l, slM u b l → slM (mUnstand u (nI a) P X Y D N) b l := fun l => slM_c (fun k _ _ => ⟨by rw [mUnstand_k _ _ _ _ _ _ _ (by decide) (by decide)], by rw [mUnstand_k _ _ _ _ _ _ _ (by decide) (by decide)], by rw [mUnstand_k _ _ _ _ _ _ _ (by decide) (by decide)], by rw [mUnstand_k _ _ _ _ _ _ _ (by decide) (by decide)], by rw [mUnstand_k _ _ _ _ _ _ _ (by decide) (by decide)]⟩)
  by_cases e : b = a
  · subst e
    rw [cPush_a] at h
    refine ⟨?_, hs _ h.2.2⟩
    rw [mUnstand_22o, hca, if_pos rfl, h.1, List.length_cons, dn_e (by omega)]; rfl
  · rw [cPush_o e] at h
    refine ⟨?_, hs _ h.2⟩
    rw [mUnstand_22o, hca, if_neg e]; exact h.1
theorem cM_slR {u : mS} {c : cfg} {a P X Y D N : Nat} (ha : a < 80) (hl : (c a).length ≤ 5) (hc : cM u (cPush c a (P, X, Y, D, N))) : slR u (nI a) P X Y D N := by
  have hca : (nI a).toNatClampNeg = a := nI_clamp (by omega)
  have h := hc a ha
  rw [cPush_a] at h
  obtain ⟨h1, ⟨e1, e2, e3, e4, e5⟩, -⟩ := h
  unfold slR
  rw [hca, h1, List.length_cons, dn_e (by omega), Nat.add_sub_cancel, ix6, nI_clamp (by omega)]
  exact ⟨bwN (by have h5 : (5 : Int32).toInt = 5 := rfl; rw [h5]; omega) (by omega), e1, e2, e3, e4, e5⟩
/-- good pieces -/
def cOK (n : Nat) (kd : Nat → Int32) (c : cfg) : Prop := ∀ a, (n ≤ a → c a = []) ∧ (c a).length ≤ 6 ∧ (∀ r ∈ c a, rOK r) ∧ lgT none (c a) ∧ (kd a = 4 → (c a).length ≤ 1)
theorem cOK_nil (n : Nat) (kd : Nat → Int32) {c : cfg} (h : ∀ a, c a = []) : cOK n kd c := fun a => by
  rw [h a]
  exact ⟨fun _ => rfl, Nat.zero_le _, fun r hr => absurd hr List.not_mem_nil, trivial, fun _ => Nat.zero_le _⟩
theorem cOK_mono {n m : Nat} {kd kd2 : Nat → Int32} {c : cfg} (hm : n ≤ m) (hk : ∀ a, a < n → kd2 a = kd a) (h : cOK n kd c) : cOK m kd2 c := fun a => by
  obtain ⟨h1, h2, h3, h4, h5⟩ := h a
  refine ⟨fun q => h1 (by omega), h2, h3, h4, fun q => ?_⟩
  rcases Nat.lt_or_ge a n with e | e
  · exact h5 (by rw [← hk a e]; exact q)
  · rw [h1 e]; exact Nat.zero_le _
theorem cOK_push {n : Nat} {kd : Nat → Int32} {c : cfg} {a : Nat} {r : fR} (h : cOK n kd c) (ha : a < n) (hr : rOK r) (hl : (c a).length ≤ 5) (hg : lgT none (r :: c a)) (hk : kd a = 4 → c a = []) : cOK n kd (cPush c a r) := fun b => by
  by_cases e : b = a
  · subst e
    rw [cPush_a]
    refine ⟨fun q => absurd q (by omega), by rw [List.length_cons]; omega, ?_, hg, fun q => by rw [hk q]; exact Nat.le_refl 1⟩
    intro q hq
    rcases List.mem_cons.mp hq with e | e
    · rw [e]; exact hr
    · exact (h b).2.2.1 q e
  · rw [cPush_o e]; exact h b
theorem lg_one {r : fR} (hr : rOK r) : lgT none [r] := by
  refine ⟨?_, trivial⟩
  have h := hr.2.2
  show 1 ≤ (r.2.2.2.2 : Int) - 0 - 0
  omega
/-- a kept act: kind, item, piece or place, fillers -/
abbrev hE : Type := Nat × Nat × fR × List fX
def cFill (c : cfg) : List fX → cfg
  | [] => c
  | x :: xs => cPush (cFill c xs) x.1 (x.2.1, x.2.2.1, x.2.2.2.1, 1, x.2.2.2.2)
def xG (n : Nat) (kd : Nat → Int32) (c : cfg) : List fX → Prop
  | [] => True
  | x :: xs => xG n kd c xs ∧ x.1 < n ∧ kd x.1 = 4 ∧ cFill c xs x.1 = [] ∧ rOK (x.2.1, x.2.2.1, x.2.2.2.1, 1, x.2.2.2.2)
def eS (n : Nat) (kd : Nat → Int32) (e : hE) (c1 c : cfg) : Prop := (e.1 = 0 ∧ ∃ r, c = cPush c1 e.2.1 r) ∨ (e.1 = 1 ∧ c1 = cPush c e.2.1 e.2.2.1) ∨ (e.1 = 2 ∧ c = c1 ∧ e.2.2.1.1 < 12 ∧ e.2.2.1.2.1 < 8 ∧ e.2.2.1.2.2.1 < 60) ∨ (e.1 = 3 ∧ c = cFill c1 e.2.2.2 ∧ xG n kd c1 e.2.2.2)
def hOK (n : Nat) (kd : Nat → Int32) : List hE → cfg → Prop
  | [], c => ∀ a, c a = []
  | e :: es, c => cOK n kd c ∧ ∃ c1, hOK n kd es c1 ∧ eS n kd e c1 c
theorem hOK_c {n : Nat} {kd : Nat → Int32} {es : List hE} {c : cfg} (h : hOK n kd es c) : cOK n kd c := by
  cases es with
  | nil => exact cOK_nil n kd h
  | cons e es => exact h.1
theorem xG_mono {n m : Nat} {kd kd2 : Nat → Int32} {c : cfg} (hm : n ≤ m) (hk : ∀ a, a < n → kd2 a = kd a) : ∀ {xs : List fX}, xG n kd c xs → xG m kd2 c xs
  | [], _ => trivial
  | x :: xs, h => ⟨xG_mono hm hk h.1, by have := h.2.1; omega, (hk _ h.2.1).trans h.2.2.1, h.2.2.2.1, h.2.2.2.2⟩
theorem hOK_mono {n m : Nat} {kd kd2 : Nat → Int32} (hm : n ≤ m) (hk : ∀ a, a < n → kd2 a = kd a) : ∀ {es : List hE} {c : cfg}, hOK n kd es c → hOK m kd2 es c
  | [], _, h => h
  | e :: es, c, h => by
    obtain ⟨h1, c1, h2, h3⟩ := h
    refine ⟨cOK_mono hm hk h1, c1, hOK_mono hm hk h2, ?_⟩
    rcases h3 with q | q | q | ⟨q1, q2, q3⟩
    · exact Or.inl q
    · exact Or.inr (Or.inl q)
    · exact Or.inr (Or.inr (Or.inl q))
    · exact Or.inr (Or.inr (Or.inr ⟨q1, q2, xG_mono hm hk q3⟩))
/-- how many fillers are kept -/
def fil : List hE → Nat
  | [] => 0
  | e :: es => fil es + (if e.1 = 3 then e.2.2.2.length else 0)
def sumF (g : Nat → Nat) : Nat → Nat
  | 0 => 0
  | n + 1 => sumF g n + g n
theorem sumF_upd {g g2 : Nat → Nat} {a d : Nat} (h : ∀ b, b ≠ a → g2 b = g b) (h2 : g2 a = g a + d) : ∀ n, sumF g2 n = sumF g n + (if a < n then d else 0)
  | 0 => by show 0 = 0 + _; rw [if_neg (by omega)]
  | n + 1 => by
    have ih := sumF_upd h h2 n
    show sumF g2 n + g2 n = sumF g n + g n + _
    by_cases e : a = n
    · subst e
      rw [ih, if_neg (by omega), if_pos (by omega), h2]; omega
    · rw [ih, h n (fun q => e q.symm)]
      by_cases e2 : a < n
      · rw [if_pos e2, if_pos (by omega)]; omega
      · rw [if_neg e2, if_neg (by omega)]; omega
def stG (kd : Nat → Int32) (c : cfg) : Nat → Nat := fun a => if kd a = 4 then (c a).length else 0
theorem stF_push (n : Nat) (kd : Nat → Int32) (c : cfg) (a : Nat) (r : fR) : sumF (stG kd (cPush c a r)) n = sumF (stG kd c) n + (if a < n then (if kd a = 4 then 1 else 0) else 0) := by
  refine sumF_upd (fun b hb => ?_) ?_ n
  · unfold stG; rw [cPush_o hb]
  · unfold stG
    rw [cPush_a]
    split
    · rfl
    · rfl
theorem stF_fill {n : Nat} {kd : Nat → Int32} {c : cfg} : ∀ {xs : List fX}, xG n kd c xs → sumF (stG kd (cFill c xs)) n = sumF (stG kd c) n + xs.length
  | [], _ => rfl
  | x :: xs, h => by
    show sumF (stG kd (cPush (cFill c xs) _ _)) n = _
    rw [stF_push, stF_fill h.1, if_pos h.2.1, if_pos h.2.2.1, List.length_cons]; omega
theorem stF_le {kd : Nat → Int32} {c : cfg} (h : ∀ a, kd a = 4 → (c a).length ≤ 1) : ∀ n, sumF (stG kd c) n ≤ n
  | 0 => Nat.le_refl 0
  | n + 1 => by
    have ih := stF_le h n
    have h2 : stG kd c n ≤ 1 := by
      unfold stG
      split
      · rename_i q; exact h n q
      · exact Nat.zero_le 1
    show sumF (stG kd c) n + stG kd c n ≤ n + 1
    omega
theorem fil_b {n : Nat} {kd : Nat → Int32} : ∀ {es : List hE} {c : cfg}, hOK n kd es c → fil es ≤ sumF (stG kd c) n + es.length
  | [], _, _ => Nat.zero_le _
  | e :: es, c, h => by
    obtain ⟨-, c1, h2, h3⟩ := h
    have ih := fil_b h2
    show fil es + (if e.1 = 3 then e.2.2.2.length else 0) ≤ _
    rw [List.length_cons]
    rcases h3 with ⟨q, r, q2⟩ | ⟨q, q2⟩ | ⟨q, q2, -⟩ | ⟨q, q2, q3⟩
    · rw [if_neg (by omega), q2, stF_push]; omega
    · rw [if_neg (by omega)]
      rw [q2, stF_push] at ih
      have h9 : (if e.2.1 < n then (if kd e.2.1 = 4 then 1 else 0) else 0) ≤ 1 := by
        split
        · split
          · exact Nat.le_refl 1
          · exact Nat.zero_le 1
        · exact Nat.zero_le 1
      omega
    · rw [if_neg (by omega), q2]; omega
    · rw [if_pos q, q2, stF_fill q3]; omega
/-- good also behind a row of fillers -/
theorem cOK_fill {n : Nat} {kd : Nat → Int32} {c : cfg} (h : cOK n kd c) : ∀ {xs : List fX}, xG n kd c xs → cOK n kd (cFill c xs)
  | [], _ => h
  | x :: xs, hx => by
    have ih := cOK_fill h hx.1
    have he := hx.2.2.2.1
    refine cOK_push ih hx.2.1 hx.2.2.2.2 (by rw [he]; exact Nat.zero_le _) (by rw [he]; exact lg_one hx.2.2.2.2) (fun _ => he)
theorem fil_380 {n : Nat} {kd : Nat → Int32} {es : List hE} {c : cfg} (h : hOK n kd es c) {xs : List fX} (hx : xG n kd c xs) : fil es + xs.length ≤ n + es.length := by
  have h1 := fil_b h
  have h2 := stF_fill hx
  have h3 := stF_le (fun a => ((cOK_fill (hOK_c h) hx) a).2.2.2.2) n
  omega
/-- the rows of the acts show them -/
def fM (u : mS) (F : Nat) : List fX → Prop
  | [] => True
  | x :: xs => u.2 37 (F + xs.length) = nI x.1 ∧ fM u F xs
def eM (u : mS) (t F : Nat) (e : hE) : Prop := u.2 29 t = nI e.1 ∧ (e.1 = 0 → u.2 30 t = nI e.2.1) ∧ (e.1 = 1 → u.2 30 t = nI e.2.1 ∧ u.2 31 t = nI e.2.2.1.1 ∧ u.2 32 t = nI e.2.2.1.2.1 ∧ u.2 33 t = nI e.2.2.1.2.2.1 ∧ u.2 34 t = nI e.2.2.1.2.2.2.1 ∧ u.2 35 t = nI e.2.2.1.2.2.2.2) ∧ (e.1 = 2 → u.2 30 t = nI e.2.2.1.1 ∧ u.2 31 t = nI e.2.2.1.2.1 ∧ u.2 32 t = nI e.2.2.1.2.2.1) ∧ (e.1 = 3 → u.2 30 t = nI e.2.2.2.length ∧ fM u F e.2.2.2)
def aM (u : mS) : List hE → Prop
  | [] => True
  | e :: es => eM u es.length (fil es) e ∧ aM u es
theorem fM_c {u w : mS} {F : Nat} : ∀ {xs : List fX}, (∀ j, j < F + xs.length → w.2 37 j = u.2 37 j) → fM u F xs → fM w F xs
  | [], _, _ => trivial
  | x :: xs, h, h2 => ⟨(h _ (by rw [List.length_cons]; omega)).trans h2.1, fM_c (fun j hj => h j (by rw [List.length_cons]; omega)) h2.2⟩
theorem eM_c {u w : mS} {t F : Nat} {e : hE} (h : ∀ k, 29 ≤ k → k ≤ 35 → w.2 k t = u.2 k t) (h2 : e.1 = 3 → ∀ j, j < F + e.2.2.2.length → w.2 37 j = u.2 37 j) (he : eM u t F e) : eM w t F e := by
  unfold eM at he ⊢
  rw [h 29 (by decide) (by decide), h 30 (by decide) (by decide), h 31 (by decide) (by decide), h 32 (by decide) (by decide), h 33 (by decide) (by decide), h 34 (by decide) (by decide), h 35 (by decide) (by decide)]
  exact ⟨he.1, he.2.1, he.2.2.1, he.2.2.2.1, fun q => ⟨(he.2.2.2.2 q).1, fM_c (h2 q) (he.2.2.2.2 q).2⟩⟩
theorem aM_c {u w : mS} : ∀ {es : List hE}, (∀ k, 29 ≤ k → k ≤ 35 → ∀ t, t < es.length → w.2 k t = u.2 k t) → (∀ j, j < fil es → w.2 37 j = u.2 37 j) → aM u es → aM w es
  | [], _, _, _ => trivial
  | e :: es, h, h2, h3 => by
    have hf : fil (e :: es) = fil es + (if e.1 = 3 then e.2.2.2.length else 0) := rfl
    refine ⟨eM_c (fun k k1 k2 => h k k1 k2 es.length (by rw [List.length_cons]; omega)) (fun q j hj => h2 j (by rw [hf, if_pos q]; exact hj)) h3.1, aM_c (fun k k1 k2 t ht => h k k1 k2 t (by rw [List.length_cons]; omega)) (fun j hj => h2 j (by rw [hf]; omega)) h3.2⟩
theorem aM_rows {u w : mS} {es : List hE} (h : ∀ k, 29 ≤ k → k ≤ 37 → w.2 k = u.2 k) (h2 : aM u es) : aM w es := aM_c (fun k k1 k2 t _ => by rw [h k k1 (by omega)]) (fun j _ => by rw [h 37 (by decide) (by decide)]) h2
/-- what a kept act changes -/
theorem mActs_1 (u : mS) (k a b c d e f : Int32) (j : Nat) : (mActs u k a b c d e f).1 j = if j = 28 then u.1 28 + 1 else u.1 j := rfl
theorem mActs_k (u : mS) (k a b c d e f : Int32) {j : Nat} (h : j < 29 ∨ 35 < j) : (mActs u k a b c d e f).2 j = u.2 j := by
  unfold mActs
  dsimp only
  show (mst _ 35 _ _).2 j = _
  rw [mst_other (by omega), mst_other (by omega), mst_other (by omega), mst_other (by omega), mst_other (by omega), mst_other (by omega), mst_other (by omega)]
theorem mset_2 (u : mS) (k : Nat) (x : Int32) : (mset u k x).2 = u.2 := rfl
theorem mActs_r (u : mS) (k a b c d e f : Int32) (t : Nat) : (mActs u k a b c d e f).2 29 t = (if t = (u.1 28).toNatClampNeg then k else u.2 29 t) ∧ (mActs u k a b c d e f).2 30 t = (if t = (u.1 28).toNatClampNeg then a else u.2 30 t) ∧ (mActs u k a b c d e f).2 31 t = (if t = (u.1 28).toNatClampNeg then b else u.2 31 t) ∧ (mActs u k a b c d e f).2 32 t = (if t = (u.1 28).toNatClampNeg then c else u.2 32 t) ∧ (mActs u k a b c d e f).2 33 t = (if t = (u.1 28).toNatClampNeg then d else u.2 33 t) ∧ (mActs u k a b c d e f).2 34 t = (if t = (u.1 28).toNatClampNeg then e else u.2 34 t) ∧ (mActs u k a b c d e f).2 35 t = (if t = (u.1 28).toNatClampNeg then f else u.2 35 t) := by
  unfold mActs
  dsimp only
  refine ⟨?_, ?_, ?_, ?_, ?_, ?_, ?_⟩
  · rw [mset_2, mst_other (by decide), mst_other (by decide), mst_other (by decide), mst_other (by decide), mst_other (by decide), mst_other (by decide), mst_at]
  · rw [mset_2, mst_other (by decide), mst_other (by decide), mst_other (by decide), mst_other (by decide), mst_other (by decide), mst_at, mst_other (by decide)]; rfl
  · rw [mset_2, mst_other (by decide), mst_other (by decide), mst_other (by decide), mst_other (by decide), mst_at, mst_other (by decide), mst_other (by decide)]; rfl
  · rw [mset_2, mst_other (by decide), mst_other (by decide), mst_other (by decide), mst_at, mst_other (by decide), mst_other (by decide), mst_other (by decide)]; rfl
  · rw [mset_2, mst_other (by decide), mst_other (by decide), mst_at, mst_other (by decide), mst_other (by decide), mst_other (by decide), mst_other (by decide)]; rfl
  · rw [mset_2, mst_other (by decide), mst_at, mst_other (by decide), mst_other (by decide), mst_other (by decide), mst_other (by decide), mst_other (by decide)]; rfl
  · rw [mset_2, mst_at, mst_other (by decide), mst_other (by decide), mst_other (by decide), mst_other (by decide), mst_other (by decide), mst_other (by decide)]; rfl
/-- the history: the acts that are kept, the pieces that stand -/
def mH (u : mS) (es : List hE) (c : cfg) : Prop := es.length ≤ 300 ∧ u.1 28 = nI es.length ∧ u.1 36 = nI (fil es) ∧ hOK (u.1 3).toNatClampNeg (u.2 4) es c ∧ aM u es ∧ cM u c
/-- the rows' ranges -/
def rI (u : mS) : Prop := bw (u.1 3) 0 80 = true ∧ bw (u.1 38) 0 399 = true ∧ (∀ j, j < 96 → bw (u.2 0 j) 0 60 = true) ∧ (∀ j, j < 96 → bw (u.2 43 j) 0 60 = true) ∧ (∀ j, j < 80 → bw (u.2 15 j) 0 80 = true) ∧ (∀ j, j < 80 → bw (u.2 17 j) 0 4 = true) ∧ (∀ j, j < 5760 → mThing (u.2 2 j) = true → bw (u.2 2 j) 0 79 = true) ∧ (∀ j, j < 480 → ∃ X D : Nat, u.2 24 j = nI X ∧ u.2 26 j = nI D ∧ X + D ≤ 8)
def kB (u : mS) : Prop := ∀ j, j < 80 → u.2 4 j = 3 → bw (u.2 10 j) 0 9 = true
/-- the reference's invariant -/
def mInv (u : mS) : Prop := rI u ∧ kB u ∧ ∃ es c, mH u es c
/-- it is kept, and so are the two counters and the rivals -/
def mKp (u w : mS) : Prop := mInv w ∧ w.1 38 = u.1 38 ∧ w.1 39 = u.1 39 ∧ w.2 20 = u.2 20
theorem mKp_rf {u : mS} (h : mInv u) : mKp u u := ⟨h, rfl, rfl, rfl⟩
def kR (k : Nat) : Prop := k = 0 ∨ k = 2 ∨ k = 4 ∨ k = 10 ∨ k = 15 ∨ k = 17 ∨ (22 ≤ k ∧ k ≤ 37) ∨ k = 43
def kI (k : Nat) : Prop := k = 3 ∨ k = 28 ∨ k = 36 ∨ k = 38
theorem rI_c {u w : mS} (h : rI u) (h1 : ∀ k, kI k → w.1 k = u.1 k) (h2 : ∀ k, kR k → w.2 k = u.2 k) : rI w := by
  unfold rI at h ⊢
  rw [h1 3 (Or.inl rfl), h1 38 (Or.inr (Or.inr (Or.inr rfl))), h2 0 (by unfold kR; omega), h2 43 (by unfold kR; omega), h2 15 (by unfold kR; omega), h2 17 (by unfold kR; omega), h2 2 (by unfold kR; omega), h2 24 (by unfold kR; omega), h2 26 (by unfold kR; omega)]
  exact h
theorem kB_c {u w : mS} (h : kB u) (h4 : w.2 4 = u.2 4) (h10 : w.2 10 = u.2 10) : kB w := by
  unfold kB at h ⊢
  rw [h4, h10]; exact h
theorem mH_c {u w : mS} {es : List hE} {c : cfg} (h : mH u es c) (h3 : w.1 3 = u.1 3) (h28 : w.1 28 = u.1 28) (h36 : w.1 36 = u.1 36) (h4 : w.2 4 = u.2 4) (hr : ∀ k, 22 ≤ k → k ≤ 37 → w.2 k = u.2 k) : mH w es c := by
  obtain ⟨a1, a2, a3, a4, a5, a6⟩ := h
  refine ⟨a1, h28.trans a2, h36.trans a3, by rw [h3, h4]; exact a4, aM_rows (fun k k1 k2 => hr k (by omega) k2) a5, cM_rows (fun k k1 k2 => hr k k1 (by omega)) a6⟩
theorem mInv_c {u w : mS} (h : mInv u) (h1 : ∀ k, kI k → w.1 k = u.1 k) (h2 : ∀ k, kR k → w.2 k = u.2 k) : mInv w := by
  obtain ⟨a, b, es, c, d⟩ := h
  exact ⟨rI_c a h1 h2, kB_c b (h2 4 (by unfold kR; omega)) (h2 10 (by unfold kR; omega)), es, c, mH_c d (h1 3 (by unfold kI; omega)) (h1 28 (by unfold kI; omega)) (h1 36 (by unfold kI; omega)) (h2 4 (by unfold kR; omega)) (fun k k1 k2 => h2 k (by unfold kR; omega))⟩
theorem mKp_Pl {u w : mS} (h : mInv u) (he : mPl u w) : mKp u w := by
  obtain ⟨⟨r1, r2, r3, r4, r5, r6, r7, r8⟩, b, es, c, d⟩ := h
  have e1 := he.1
  have e2 := he.2.1
  refine ⟨⟨⟨?_, ?_, ?_, he.2.2, ?_, ?_, ?_, ?_⟩, kB_c b (e2 4 (by omega)) (e2 10 (by omega)), es, c, mH_c d (e1 3 (by decide) (by decide) (by decide)) (e1 28 (by decide) (by decide) (by decide)) (e1 36 (by decide) (by decide) (by decide)) (e2 4 (by omega)) (fun k k1 k2 => e2 k (by omega))⟩, e1 38 (by decide) (by decide) (by decide), e1 39 (by decide) (by decide) (by decide), e2 20 (by omega)⟩
  · rw [e1 3 (by decide) (by decide) (by decide)]; exact r1
  · rw [e1 38 (by decide) (by decide) (by decide)]; exact r2
  · rw [e2 0 (by omega)]; exact r3
  · rw [e2 15 (by omega)]; exact r5
  · rw [e2 17 (by omega)]; exact r6
  · rw [e2 2 (by omega)]; exact r7
  · rw [e2 24 (by omega), e2 26 (by omega)]; exact r8
/-- edition -/
theorem mInv_end {u : mS} (h : mInv u) (n : Nat) : mInv (endP u n) := mInv_c h (fun k _ => by rw [(endP_k u n).1]) (fun k hk => (endP_k u n).2 k (by unfold kR at hk; omega) (by unfold kR at hk; omega))
theorem ed_inv {u w : mS} {r : Int32} (h : mInv u) (he : (r, w) = mEdition u) : mInv w ∧ w.1 38 = u.1 38 ∧ w.2 20 = u.2 20 ∧ ((u.1 39 = 7 ∧ r = -1 ∧ w.1 39 = u.1 39) ∨ (¬ u.1 39 = 7 ∧ r = u.1 39 + 1 ∧ w.1 39 = u.1 39 + 1)) := by
  unfold mEdition at he
  split at he
  · rename_i q
    obtain ⟨e1, e2⟩ := Prod.mk.inj he
    subst e2
    exact ⟨h, rfl, rfl, Or.inl ⟨q, e1, rfl⟩⟩
  · rename_i q
    have hi := mInv_end h 12
    have hk := endP_k u 12
    generalize endP u 12 = z at he hi hk
    obtain ⟨e1, e2⟩ := Prod.mk.inj he
    subst e2
    refine ⟨mInv_c hi (fun k hk2 => ?_) (fun k _ => rfl), by rw [← hk.1]; rfl, hk.2 20 (by decide) (by decide), Or.inr ⟨q, ?_, ?_⟩⟩
    · unfold mset; exact if_neg (by unfold kI at hk2; omega)
    · rw [e1, mset_same, hk.1]
    · rw [mset_same, hk.1]
/-- day -/
theorem d399 {x : Int32} (h : bw x 0 399 = true) (h9 : ¬ x = 399) : bw (x + 1) 0 399 = true := by
  have e9 : (399 : Int32).toInt = 399 := rfl
  have h1 := bw_iff.mp h
  rw [i0, e9] at h1
  have h2 : ¬ x.toInt = 399 := fun e => h9 (sw_in e.symm e9)
  rw [bw_iff, i0, e9, addI (by rw [i1]; omega) (by rw [i1]; omega), i1]; omega
theorem dayS_k (w : mS) (K : Nat) {k : Nat} (h1 : k ≠ 2) (h2 : k ≠ 22) : (dayS w K).2 k = w.2 k := by
  unfold dayS mForget
  rw [mset_2, mset_2, mput_other h2, mput_other h1, mset_2, mset_2]
theorem dayS_2 (w : mS) (K : Nat) : (dayS w K).2 2 = fillF (w.2 2) 5760 (-2) := by
  unfold dayS mForget
  rw [mset_2, mset_2, mput_other (by decide), mput_at]
theorem dayS_22 (w : mS) (K : Nat) : (dayS w K).2 22 = fillF (w.2 22) K 0 := by
  unfold dayS mForget
  rw [mset_2, mset_2]
  unfold mput
  dsimp only
  rw [if_pos rfl]
theorem dayS_1 (w : mS) (K : Nat) : (dayS w K).1 28 = 0 ∧ (dayS w K).1 36 = 0 ∧ (dayS w K).1 38 = w.1 38 + 1 ∧ (dayS w K).1 39 = 0 ∧ (dayS w K).1 3 = w.1 3 := ⟨rfl, rfl, rfl, rfl, rfl⟩
theorem mInv_day {u : mS} (h : mInv u) (h9 : ¬ u.1 38 = 399) : mInv (dayS u (u.1 3).toNatClampNeg) := by
  obtain ⟨⟨r1, r2, r3, r4, r5, r6, r7, r8⟩, b, es, c, d⟩ := h
  obtain ⟨d1, d2, d3, d4, d5⟩ := dayS_1 u (u.1 3).toNatClampNeg
  obtain ⟨e1, e2, e3⟩ := nI_of_bw r1
  have h80 : (80 : Int32).toInt = 80 := rfl
  refine ⟨⟨?_, ?_, ?_, ?_, ?_, ?_, ?_, ?_⟩, kB_c b (dayS_k _ _ (by decide) (by decide)) (dayS_k _ _ (by decide) (by decide)), [], fun _ => [], ?_⟩
  · rw [d5]; exact r1
  · rw [d3]; exact d399 r2 h9
  · rw [dayS_k _ _ (by decide) (by decide)]; exact r3
  · rw [dayS_k _ _ (by decide) (by decide)]; exact r4
  · rw [dayS_k _ _ (by decide) (by decide)]; exact r5
  · rw [dayS_k _ _ (by decide) (by decide)]; exact r6
  · intro j hj
    rw [dayS_2]
    unfold fillF
    rw [if_pos hj]
    intro q
    exact absurd q (by decide)
  · rw [dayS_k _ _ (by decide) (by decide), dayS_k _ _ (by decide) (by decide)]; exact r8
  · refine ⟨Nat.zero_le _, d1, d2, fun _ => rfl, trivial, fun a ha => ⟨?_, trivial⟩⟩
    rw [dayS_22]
    unfold fillF
    split
    · rfl
    · rename_i q
      rw [(d.2.2.2.2.2 a ha).1, ((hOK_c d.2.2.2.1) a).1 (by omega)]
theorem day_inv {u w : mS} {r : Int32} (h : mInv u) (he : (r, w) = mDay u) : mInv w ∧ w.2 20 = u.2 20 ∧ ((u.1 38 = 399 ∧ r = -1 ∧ w.1 38 = u.1 38 ∧ w.1 39 = u.1 39) ∨ (¬ u.1 38 = 399 ∧ r = u.1 38 + 1 ∧ w.1 38 = u.1 38 + 1 ∧ w.1 39 = 0)) := by
  unfold mDay at he
  split at he
  · rename_i q
    obtain ⟨e1, e2⟩ := Prod.mk.inj he
    subst e2
    exact ⟨h, rfl, Or.inl ⟨q, e1, rfl, rfl⟩⟩
  · rename_i q
    have hi := mInv_end h 12
    have hk := endP_k u 12
    generalize endP u 12 = z at he hi hk
    obtain ⟨e1, e2⟩ := Prod.mk.inj he
    subst e2
    obtain ⟨d1, d2, d3, d4, d5⟩ := dayS_1 z (u.1 3).toNatClampNeg
    have hm := mInv_day hi (by rw [hk.1]; exact q)
    rw [hk.1] at hm
    refine ⟨hm, by rw [dayS_k _ _ (by decide) (by decide)]; exact hk.2 20 (by decide) (by decide), Or.inr ⟨q, ?_, ?_, d4⟩⟩
    · rw [e1, d3, hk.1]
    · rw [d3, hk.1]
/-- column, measure -/
theorem mKp_st {u : mS} (h : mInv u) {k : Nat} (hk : ¬ kR k) (h20 : k ≠ 20) (i x : Int32) : mKp u (mst u k i x) := ⟨mInv_c h (fun _ _ => rfl) (fun j hj => mst_other (fun e => hk (e ▸ hj))), rfl, rfl, mst_other (fun e => h20 e.symm)⟩
theorem mKp_tr {u v w : mS} (h1 : mKp u v) (h2 : mKp v w) : mKp u w := ⟨h2.1, h2.2.1.trans h1.2.1, h2.2.2.1.trans h1.2.2.1, h2.2.2.2.trans h1.2.2.2⟩
theorem rI_0 {u : mS} (h : rI u) {i x : Int32} (hx : bw x 0 60 = true) : rI (mst u 0 i x) := by
  obtain ⟨r1, r2, r3, r4, r5, r6, r7, r8⟩ := h
  refine ⟨r1, r2, fun j hj => ?_, ?_, ?_, ?_, ?_, ?_⟩
  · rw [mst_at]
    split
    · exact hx
    · exact r3 j hj
  · rw [mst_other (by decide)]; exact r4
  · rw [mst_other (by decide)]; exact r5
  · rw [mst_other (by decide)]; exact r6
  · rw [mst_other (by decide)]; exact r7
  · rw [mst_other (by decide), mst_other (by decide)]; exact r8
theorem mKp_0 {u : mS} (h : mInv u) {i x : Int32} (hx : bw x 0 60 = true) : mKp u (mst u 0 i x) := by
  obtain ⟨a, b, es, c, d⟩ := h
  exact ⟨⟨rI_0 a hx, kB_c b (mst_other (by decide)) (mst_other (by decide)), es, c, mH_c d rfl rfl rfl (mst_other (by decide)) (fun k k1 k2 => mst_other (by omega))⟩, rfl, rfl, mst_other (by decide)⟩
theorem col_inv {u w : mS} {r p c n : Int32} (h : mInv u) (he : (r, w) = mColumn u p c n) : mKp u w := by
  unfold mColumn at he
  repeat' split at he
  all_goals first
    | (obtain ⟨-, e2⟩ := Prod.mk.inj he; subst e2; exact mKp_rf h)
    | (obtain ⟨-, e2⟩ := Prod.mk.inj he; subst e2; exact mKp_0 h (by assumption))
theorem rI_15 {u : mS} (h : rI u) {i x : Int32} (hx : bw x 0 80 = true) : rI (mst u 15 i x) := by
  obtain ⟨r1, r2, r3, r4, r5, r6, r7, r8⟩ := h
  refine ⟨r1, r2, ?_, ?_, fun j hj => ?_, ?_, ?_, ?_⟩
  · rw [mst_other (by decide)]; exact r3
  · rw [mst_other (by decide)]; exact r4
  · rw [mst_at]
    split
    · exact hx
    · exact r5 j hj
  · rw [mst_other (by decide)]; exact r6
  · rw [mst_other (by decide)]; exact r7
  · rw [mst_other (by decide), mst_other (by decide)]; exact r8
theorem rI_17 {u : mS} (h : rI u) {i x : Int32} (hx : bw x 0 4 = true) : rI (mst u 17 i x) := by
  obtain ⟨r1, r2, r3, r4, r5, r6, r7, r8⟩ := h
  refine ⟨r1, r2, ?_, ?_, ?_, fun j hj => ?_, ?_, ?_⟩
  · rw [mst_other (by decide)]; exact r3
  · rw [mst_other (by decide)]; exact r4
  · rw [mst_other (by decide)]; exact r5
  · rw [mst_at]
    split
    · exact hx
    · exact r6 j hj
  · rw [mst_other (by decide)]; exact r7
  · rw [mst_other (by decide), mst_other (by decide)]; exact r8
theorem mKp_rk {u : mS} (h : mInv u) {k : Nat} (hk : k = 15 ∨ k = 17) {i x : Int32} (hx : rI (mst u k i x)) : mKp u (mst u k i x) := by
  obtain ⟨a, b, es, c, d⟩ := h
  exact ⟨⟨hx, kB_c b (mst_other (by omega)) (mst_other (by omega)), es, c, mH_c d rfl rfl rfl (mst_other (by omega)) (fun k k1 k2 => mst_other (by omega))⟩, rfl, rfl, mst_other (by omega)⟩
theorem bwp {x hi : Int32} (h : bw x 0 hi = true) (h2 : ¬ x = hi) (hh : hi.toInt < 1000) : bw (x + 1) 0 hi = true := by
  have h1 := bw_iff.mp h
  rw [i0] at h1
  have h3 : ¬ x.toInt = hi.toInt := fun e => h2 (Int32.toInt_inj.mp e)
  rw [bw_iff, i0, addI (by rw [i1]; omega) (by rw [i1]; omega), i1]; omega
theorem line_inv {u w : mS} {r i x : Int32} (h : mInv u) (he : (r, w) = mLine u i x) : mKp u w := by
  unfold mLine at he
  split at he
  · rename_i hk
    split at he
    · split at he
      · obtain ⟨-, e2⟩ := Prod.mk.inj he; subst e2; exact mKp_rf h
      · rename_i h80
        obtain ⟨-, e2⟩ := Prod.mk.inj he; subst e2
        have h1 := mKp_st h (k := 16) (by unfold kR; omega) (by decide) (80 * i + u.2 15 i.toNatClampNeg) x
        have hi := vlt (vIt h.1.1 (band hk).1)
        have hc : bw ((mst u 16 (80 * i + u.2 15 i.toNatClampNeg) x).2 15 i.toNatClampNeg + 1) 0 80 = true := by
          rw [mst_other (by decide)]
          exact bwp (h.1.2.2.2.2.1 _ hi) h80 (by decide)
        exact mKp_tr h1 (mKp_rk h1.1 (Or.inl rfl) (rI_15 h1.1.1 hc))
    · obtain ⟨-, e2⟩ := Prod.mk.inj he; subst e2; exact mKp_rf h
  · obtain ⟨-, e2⟩ := Prod.mk.inj he; subst e2; exact mKp_rf h
theorem size_inv {u w : mS} {r i x y : Int32} (h : mInv u) (he : (r, w) = mSize u i x y) : mKp u w := by
  unfold mSize at he
  split at he
  · rename_i hk
    split at he
    · split at he
      · split at he
        · obtain ⟨-, e2⟩ := Prod.mk.inj he; subst e2; exact mKp_rf h
        · rename_i h4
          dsimp only at he
          obtain ⟨-, e2⟩ := Prod.mk.inj he; subst e2
          have h1 := mKp_st h (k := 18) (by unfold kR; omega) (by decide) (4 * i + u.2 17 i.toNatClampNeg) x
          have h2 := mKp_st h1.1 (k := 19) (by unfold kR; omega) (by decide) (4 * i + (mst u 18 (4 * i + u.2 17 i.toNatClampNeg) x).2 17 i.toNatClampNeg) y
          have hi := vlt (vIt h.1.1 (band hk).1)
          refine mKp_tr h1 (mKp_tr h2 (mKp_rk h2.1 (Or.inr rfl) (rI_17 h2.1.1 ?_)))
          rw [mst_other (by decide), mst_other (by decide)]
          exact bwp (h.1.2.2.2.2.2.1 _ hi) h4 (by decide)
      · obtain ⟨-, e2⟩ := Prod.mk.inj he; subst e2; exact mKp_rf h
    · obtain ⟨-, e2⟩ := Prod.mk.inj he; subst e2; exact mKp_rf h
  · obtain ⟨-, e2⟩ := Prod.mk.inj he; subst e2; exact mKp_rf h
theorem names_inv {u w : mS} {r i x : Int32} (h : mInv u) (he : (r, w) = mNames u i x) : mKp u w := by
  unfold mNames at he
  repeat' split at he
  all_goals first
    | (obtain ⟨-, e2⟩ := Prod.mk.inj he; subst e2; exact mKp_rf h)
    | (obtain ⟨-, e2⟩ := Prod.mk.inj he; subst e2; exact mKp_st h (by unfold kR; omega) (by decide) _ _)
theorem riv_inv {u w : mS} {r a b : Int32} (h : mInv u) (he : (r, w) = mRival u a b) : mInv w ∧ w.1 38 = u.1 38 ∧ w.1 39 = u.1 39 := by
  unfold mRival at he
  repeat' split at he
  all_goals first
    | (obtain ⟨-, e2⟩ := Prod.mk.inj he; subst e2; exact ⟨h, rfl, rfl⟩)
    | (obtain ⟨-, e2⟩ := Prod.mk.inj he; subst e2; exact ⟨mInv_c h (fun _ _ => rfl) (fun j hj => by rw [mst_other (by unfold kR at hj; omega), mst_other (by unfold kR at hj; omega)]), rfl, rfl⟩)
/-- a new item -/
theorem made_1 (u : mS) (k : Int32) (j : Nat) : (mMade u k).1 j = if j = 3 then u.1 3 + 1 else u.1 j := rfl
theorem made_k (u : mS) (k : Int32) {j : Nat} (h : j ≠ 4 ∧ j ≠ 5 ∧ j ≠ 6 ∧ j ≠ 7 ∧ j ≠ 8 ∧ j ≠ 9 ∧ j ≠ 10 ∧ j ≠ 15 ∧ j ≠ 17 ∧ j ≠ 22) : (mMade u k).2 j = u.2 j := by
  unfold mMade
  dsimp only
  rw [mset_2, mst_other (by omega), mst_other (by omega), mst_other (by omega), mst_other (by omega), mst_other (by omega), mst_other (by omega), mst_other (by omega), mst_other (by omega), mst_other (by omega), mst_other (by omega)]
theorem made_4 (u : mS) (k : Int32) (j : Nat) : (mMade u k).2 4 j = if j = (u.1 3).toNatClampNeg then k else u.2 4 j := by
  unfold mMade
  dsimp only
  rw [mset_2, mst_other (by decide), mst_other (by decide), mst_other (by decide), mst_other (by decide), mst_other (by decide), mst_other (by decide), mst_other (by decide), mst_other (by decide), mst_other (by decide), mst_at]
theorem made_10 (u : mS) (k : Int32) (j : Nat) : (mMade u k).2 10 j = if j = (u.1 3).toNatClampNeg then (-1) else u.2 10 j := by
  unfold mMade
  dsimp only
  rw [mset_2, mst_other (by decide), mst_other (by decide), mst_other (by decide), mst_at, mst_other (by decide), mst_other (by decide), mst_other (by decide), mst_other (by decide), mst_other (by decide), mst_other (by decide)]
theorem made_15 (u : mS) (k : Int32) (j : Nat) : (mMade u k).2 15 j = if j = (u.1 3).toNatClampNeg then 0 else u.2 15 j := by
  unfold mMade
  dsimp only
  rw [mset_2, mst_other (by decide), mst_other (by decide), mst_at, mst_other (by decide), mst_other (by decide), mst_other (by decide), mst_other (by decide), mst_other (by decide), mst_other (by decide), mst_other (by decide)]
theorem made_17 (u : mS) (k : Int32) (j : Nat) : (mMade u k).2 17 j = if j = (u.1 3).toNatClampNeg then 0 else u.2 17 j := by
  unfold mMade
  dsimp only
  rw [mset_2, mst_other (by decide), mst_at, mst_other (by decide), mst_other (by decide), mst_other (by decide), mst_other (by decide), mst_other (by decide), mst_other (by decide), mst_other (by decide), mst_other (by decide)]
theorem made_22 (u : mS) (k : Int32) (j : Nat) : (mMade u k).2 22 j = if j = (u.1 3).toNatClampNeg then 0 else u.2 22 j := by
  unfold mMade
  dsimp only
  rw [mset_2, mst_at, mst_other (by decide), mst_other (by decide), mst_other (by decide), mst_other (by decide), mst_other (by decide), mst_other (by decide), mst_other (by decide), mst_other (by decide), mst_other (by decide)]
theorem made_rI {u : mS} (h : rI u) (h8 : ¬ u.1 3 = 80) (k : Int32) : rI (mMade u k) := by
  obtain ⟨r1, r2, r3, r4, r5, r6, r7, r8⟩ := h
  refine ⟨bwp r1 h8 (by decide), r2, ?_, ?_, fun j hj => ?_, fun j hj => ?_, ?_, ?_⟩
  · rw [made_k _ _ (by decide)]; exact r3
  · rw [made_k _ _ (by decide)]; exact r4
  · rw [made_15]
    split
    · decide
    · exact r5 j hj
  · rw [made_17]
    split
    · decide
    · exact r6 j hj
  · rw [made_k _ _ (by decide)]; exact r7
  · rw [made_k _ _ (by decide), made_k _ _ (by decide)]; exact r8
theorem made_H {u : mS} (h1 : rI u) (h8 : ¬ u.1 3 = 80) {es : List hE} {c : cfg} (h : mH u es c) (k : Int32) : mH (mMade u k) es c := by
  obtain ⟨a1, a2, a3, a4, a5, a6⟩ := h
  obtain ⟨e1, e2, e3⟩ := nI_of_bw h1.1
  have h80 : (80 : Int32).toInt = 80 := rfl
  have hn : ((mMade u k).1 3).toNatClampNeg = (u.1 3).toNatClampNeg + 1 := by
    show (u.1 3 + 1).toNatClampNeg = _
    rw [e1, nI_1, nI_clamp (by omega), nI_clamp (by omega)]
  refine ⟨a1, a2, a3, ?_, aM_rows (fun k k1 k2 => made_k _ _ (by omega)) a5, fun a ha => ⟨?_, ?_⟩⟩
  · rw [hn]
    exact hOK_mono (Nat.le_succ _) (fun a ha => by rw [made_4, if_neg (by omega)]) a4
  · rw [made_22]
    split
    · rename_i q
      rw [((hOK_c a4) a).1 (by omega)]; rfl
    · exact (a6 a ha).1
  · exact slM_c (fun k _ _ => ⟨by rw [made_k _ _ (by decide)], by rw [made_k _ _ (by decide)], by rw [made_k _ _ (by decide)], by rw [made_k _ _ (by decide)], by rw [made_k _ _ (by decide)]⟩) (a6 a ha).2
theorem made_kp {u : mS} (h : mInv u) (h8 : ¬ u.1 3 = 80) {k : Int32} (hk : ¬ k = 3) : mKp u (mMade u k) := by
  obtain ⟨a, b, es, c, d⟩ := h
  refine ⟨⟨made_rI a h8 k, fun j hj q => ?_, es, c, made_H a h8 d k⟩, rfl, rfl, made_k _ _ (by decide)⟩
  rw [made_4] at q
  rw [made_10]
  split at q
  · exact absurd q hk
  · rename_i e
    rw [if_neg e]; exact b j hj q
theorem story_inv {u w : mS} {r n : Int32} (h : mInv u) (he : (r, w) = mStory u n) : mKp u w := by
  unfold mStory at he
  split at he
  · obtain ⟨-, e2⟩ := Prod.mk.inj he; subst e2; exact mKp_rf h
  · rename_i h8
    split at he
    · obtain ⟨-, e2⟩ := Prod.mk.inj he; subst e2
      have h1 := made_kp h h8 (k := 0) (by decide)
      exact mKp_tr h1 (mKp_st h1.1 (by unfold kR; omega) (by decide) _ _)
    · obtain ⟨-, e2⟩ := Prod.mk.inj he; subst e2; exact mKp_rf h
theorem pic_inv {u w : mS} {r : Int32} (h : mInv u) (he : (r, w) = mPicture u) : mKp u w := by
  unfold mPicture at he
  split at he
  · obtain ⟨-, e2⟩ := Prod.mk.inj he; subst e2; exact mKp_rf h
  · rename_i h8
    obtain ⟨-, e2⟩ := Prod.mk.inj he; subst e2
    exact made_kp h h8 (k := 2) (by decide)
theorem head_inv {u w : mS} {r s x y : Int32} (h : mInv u) (he : (r, w) = mHead u s x y) : mKp u w := by
  unfold mHead at he
  split at he
  · obtain ⟨-, e2⟩ := Prod.mk.inj he; subst e2; exact mKp_rf h
  · rename_i h8
    have h1 := made_kp h h8 (k := 1) (by decide)
    repeat' split at he
    all_goals first
      | (obtain ⟨-, e2⟩ := Prod.mk.inj he; subst e2; exact mKp_rf h)
      | (obtain ⟨-, e2⟩ := Prod.mk.inj he; subst e2
         have h2 := mKp_st h1.1 (k := 9) (by unfold kR; omega) (by decide) (u.1 3) s
         have h3 := mKp_st h2.1 (k := 7) (by unfold kR; omega) (by decide) (u.1 3) x
         exact mKp_tr h1 (mKp_tr h2 (mKp_tr h3 (mKp_st h3.1 (by unfold kR; omega) (by decide) _ _))))
theorem fill_inv0 {u w : mS} {r x y : Int32} (h : mInv u) (he : (r, w) = mFiller u x y) : mKp u w := by
  unfold mFiller at he
  split at he
  · obtain ⟨-, e2⟩ := Prod.mk.inj he; subst e2; exact mKp_rf h
  · rename_i h8
    have h1 := made_kp h h8 (k := 4) (by decide)
    repeat' split at he
    all_goals first
      | (obtain ⟨-, e2⟩ := Prod.mk.inj he; subst e2; exact mKp_rf h)
      | (obtain ⟨-, e2⟩ := Prod.mk.inj he; subst e2
         have h2 := mKp_st h1.1 (k := 5) (by unfold kR; omega) (by decide) (u.1 3) x
         exact mKp_tr h1 (mKp_tr h2 (mKp_st h2.1 (by unfold kR; omega) (by decide) _ _)))
theorem not_inv {u w : mS} {i x : Int32} (h : mInv u) (he : w = u ∨ (¬ u.1 3 = 80 ∧ bw i 0 (u.1 3 - 1) = true ∧ w = mNotice u i x)) : mKp u w := by
  rcases he with e | ⟨h8, -, e⟩
  · rw [e]; exact mKp_rf h
  · rw [e]
    have h1 := made_kp h h8 (k := 5) (by decide)
    have h2 := mKp_st h1.1 (k := 9) (by unfold kR; omega) (by decide) (u.1 3) i
    exact mKp_tr h1 (mKp_tr h2 (mKp_st h2.1 (by unfold kR; omega) (by decide) _ _))
/-- a square that was sold -/
theorem paid_kp {u : mS} (h : mInv u) (h8 : ¬ u.1 3 = 80) {x : Int32} (hx : bw x 0 9 = true) : mKp u (mst (mMade u 3) 10 (u.1 3) x) := by
  obtain ⟨a, b, es, c, d⟩ := h
  have hr := made_rI a h8 3
  refine ⟨⟨?_, fun j hj q => ?_, es, c, mH_c (made_H a h8 d 3) rfl rfl rfl (mst_other (by decide)) (fun k k1 k2 => mst_other (by omega))⟩, rfl, rfl, ?_⟩
  · obtain ⟨r1, r2, r3, r4, r5, r6, r7, r8⟩ := hr
    refine ⟨r1, r2, ?_, ?_, ?_, ?_, ?_, ?_⟩
    · rw [mst_other (by decide)]; exact r3
    · rw [mst_other (by decide)]; exact r4
    · rw [mst_other (by decide)]; exact r5
    · rw [mst_other (by decide)]; exact r6
    · rw [mst_other (by decide)]; exact r7
    · rw [mst_other (by decide), mst_other (by decide)]; exact r8
  · rw [mst_other (by decide), made_4] at q
    rw [mst_at]
    split
    · exact hx
    · rename_i e
      rw [if_neg e] at q
      rw [made_10, if_neg e]; exact b j hj q
  · rw [mst_other (by decide)]; exact made_k _ _ (by decide)
theorem paid_inv {u w : mS} {r b p c l x y m : Int32} (h : mInv u) (he : (r, w) = mPaid u b p c l x y m) : mKp u w := by
  unfold mPaid at he
  split at he
  · obtain ⟨-, e2⟩ := Prod.mk.inj he; subst e2; exact mKp_rf h
  · rename_i h8
    split at he
    · rename_i q
      obtain ⟨-, e2⟩ := Prod.mk.inj he; subst e2
      have hb : bw b 0 9 = true := (band (band (band (band (band q).1).1).1).1).1
      have h1 := paid_kp h h8 hb
      have h2 := mKp_st h1.1 (k := 11) (by unfold kR; omega) (by decide) (u.1 3) p
      have h3 := mKp_st h2.1 (k := 12) (by unfold kR; omega) (by decide) (u.1 3) c
      have h4 := mKp_st h3.1 (k := 13) (by unfold kR; omega) (by decide) (u.1 3) l
      have h5 := mKp_st h4.1 (k := 7) (by unfold kR; omega) (by decide) (u.1 3) x
      have h6 := mKp_st h5.1 (k := 8) (by unfold kR; omega) (by decide) (u.1 3) y
      exact mKp_tr h1 (mKp_tr h2 (mKp_tr h3 (mKp_tr h4 (mKp_tr h5 (mKp_tr h6 (mKp_st h6.1 (by unfold kR; omega) (by decide) _ _))))))
    · obtain ⟨-, e2⟩ := Prod.mk.inj he; subst e2; exact mKp_rf h
theorem setR_v (f : Nat → Int32) (P X Y n : Nat) (z : Int32) : ∀ D j, setR f P X Y n z D j = f j ∨ setR f P X Y n z D j = z
  | 0, _ => Or.inl rfl
  | D + 1, j => by
    show setC (setR f P X Y n z D) P (X + D) Y n z j = f j ∨ setC (setR f P X Y n z D) P (X + D) Y n z j = z
    unfold setC
    split
    · exact Or.inr rfl
    · exact setR_v f P X Y n z D j
theorem mStand_2 (u : mS) (i : Int32) (P X Y D N : Nat) : (mStand u i P X Y D N).2 2 = setR (u.2 2) P X Y N i D := by
  unfold mStand
  dsimp only
  rw [mput_at, mst_other (by decide), mst_other (by decide), mst_other (by decide), mst_other (by decide), mst_other (by decide), mst_other (by decide)]
theorem mUnstand_2 (u : mS) (i : Int32) (P X Y D N : Nat) : (mUnstand u i P X Y D N).2 2 = setR (u.2 2) P X Y N (-2) D := by
  unfold mUnstand
  dsimp only
  rw [mput_at, mst_other (by decide)]
theorem rI_stand {u : mS} (h : rI u) {a : Nat} (ha : a < 80) {P X Y D N : Nat} (hX : X + D ≤ 8) : rI (mStand u (nI a) P X Y D N) := by
  obtain ⟨r1, r2, r3, r4, r5, r6, r7, r8⟩ := h
  refine ⟨r1, r2, ?_, ?_, ?_, ?_, fun j hj => ?_, fun j hj => ?_⟩
  · rw [mStand_k _ _ _ _ _ _ _ (nR rfl)]; exact r3
  · rw [mStand_k _ _ _ _ _ _ _ (nR rfl)]; exact r4
  · rw [mStand_k _ _ _ _ _ _ _ (nR rfl)]; exact r5
  · rw [mStand_k _ _ _ _ _ _ _ (nR rfl)]; exact r6
  · rw [mStand_2]
    rcases setR_v (u.2 2) P X Y N (nI a) D j with e | e
    · rw [e]; exact r7 j hj
    · rw [e]; exact fun _ => bw79 ha
  · obtain ⟨-, e1, -, e2, -⟩ := mStand_r u (nI a) P X Y D N j
    rw [e1, e2]
    by_cases e : j = (6 * nI a + u.2 22 (nI a).toNatClampNeg).toNatClampNeg
    · rw [if_pos e, if_pos e]; exact ⟨X, D, rfl, rfl, hX⟩
    · rw [if_neg e, if_neg e]; exact r8 j hj
theorem rI_unstand {u : mS} (h : rI u) (i : Int32) (P X Y D N : Nat) : rI (mUnstand u i P X Y D N) := by
  obtain ⟨r1, r2, r3, r4, r5, r6, r7, r8⟩ := h
  refine ⟨r1, r2, ?_, ?_, ?_, ?_, fun j hj => ?_, ?_⟩
  · rw [mUnstand_k _ _ _ _ _ _ _ (by decide) (by decide)]; exact r3
  · rw [mUnstand_k _ _ _ _ _ _ _ (by decide) (by decide)]; exact r4
  · rw [mUnstand_k _ _ _ _ _ _ _ (by decide) (by decide)]; exact r5
  · rw [mUnstand_k _ _ _ _ _ _ _ (by decide) (by decide)]; exact r6
  · rw [mUnstand_2]
    rcases setR_v (u.2 2) P X Y N (-2) D j with e | e
    · rw [e]; exact r7 j hj
    · rw [e]; exact fun q => absurd q (by decide)
  · rw [mUnstand_k _ _ _ _ _ _ _ (by decide) (by decide), mUnstand_k _ _ _ _ _ _ _ (by decide) (by decide)]; exact r8
theorem rI_m {u w : mS} (h : rI u) (h3 : w.1 3 = u.1 3) (h38 : w.1 38 = u.1 38) (hr : ∀ k, k < 29 ∨ 37 < k → w.2 k = u.2 k) : rI w := by
  unfold rI at h ⊢
  rw [h3, h38, hr 0 (by omega), hr 43 (by omega), hr 15 (by omega), hr 17 (by omega), hr 2 (by omega), hr 24 (by omega), hr 26 (by omega)]
  exact h
theorem mH_cm {u w : mS} {es : List hE} {c : cfg} (h : mH u es c) (h1 : w.1 = u.1) (h4 : w.2 4 = u.2 4) (hr : ∀ k, 29 ≤ k → k ≤ 37 → w.2 k = u.2 k) (hc : cM w c) : mH w es c := by
  obtain ⟨a1, a2, a3, a4, a5, a6⟩ := h
  refine ⟨a1, by rw [h1]; exact a2, by rw [h1]; exact a3, by rw [h1, h4]; exact a4, aM_rows (fun k k1 k2 => hr k k1 k2) a5, hc⟩
theorem mH_new {u w : mS} {es : List hE} {c c2 : cfg} {e : hE} (h : mH u es c) (hl : es.length < 300) (h3 : w.1 3 = u.1 3) (h4 : w.2 4 = u.2 4) (h28 : w.1 28 = u.1 28 + 1) (h36 : w.1 36 = nI (fil (e :: es))) (hold : ∀ k, 29 ≤ k → k ≤ 35 → ∀ t, t < es.length → w.2 k t = u.2 k t) (h37 : ∀ j, j < fil es → w.2 37 j = u.2 37 j) (he : eM w es.length (fil es) e) (hc : cM w c2) (hok : cOK (u.1 3).toNatClampNeg (u.2 4) c2) (hs : eS (u.1 3).toNatClampNeg (u.2 4) e c c2) : mH w (e :: es) c2 := by
  obtain ⟨a1, a2, a3, a4, a5, a6⟩ := h
  exact ⟨by rw [List.length_cons]; omega, by rw [h28, a2, nI_1]; rfl, h36, by rw [h3, h4]; exact ⟨hok, c, a4, hs⟩, ⟨he, aM_c hold h37 a5⟩, hc⟩
theorem mH_old {u w : mS} {es : List hE} {c c1 : cfg} {e : hE} (h : mH u (e :: es) c) (h1 : hOK (u.1 3).toNatClampNeg (u.2 4) es c1) (h3 : w.1 3 = u.1 3) (h4 : w.2 4 = u.2 4) (h28 : w.1 28 = u.1 28 - 1) (h36 : w.1 36 = nI (fil es)) (hr : ∀ k, 29 ≤ k → k ≤ 37 → w.2 k = u.2 k) (hc : cM w c1) : mH w es c1 := by
  obtain ⟨a1, a2, a3, a4, a5, a6⟩ := h
  rw [List.length_cons] at a1 a2
  exact ⟨by omega, by rw [h28, a2, dn_e (by omega)]; rfl, h36, by rw [h3, h4]; exact h1, aM_rows hr a5.2, hc⟩
theorem itN {u : mS} (h : rI u) {i : Int32} (hi : bw i 0 (u.1 3 - 1) = true) : ∃ a : Nat, i = nI a ∧ a < (u.1 3).toNatClampNeg ∧ (u.1 3).toNatClampNeg ≤ 80 := by
  obtain ⟨e1, e2, e3⟩ := nI_of_bw h.1
  have h80 : (80 : Int32).toInt = 80 := rfl
  obtain ⟨a, h1, -, e⟩ := exN hi (by decide)
  rw [subI (by rw [i1]; omega) (by rw [i1]; omega), i1] at h1
  exact ⟨a, e, by omega, by omega⟩
theorem n80 {u : mS} (h : rI u) : (u.1 3).toNatClampNeg ≤ 80 := by
  obtain ⟨e1, e2, e3⟩ := nI_of_bw h.1
  have h80 : (80 : Int32).toInt = 80 := rfl
  omega
theorem len5 {u : mS} {es : List hE} {c : cfg} (h : mH u es c) {a : Nat} (ha : a < 80) (h6 : ¬ u.2 22 a = 6) : (c a).length ≤ 5 := by
  have h1 := (h.2.2.2.2.2 a ha).1
  have h2 := ((hOK_c h.2.2.2.1) a).2.1
  rcases Nat.lt_or_ge 5 (c a).length with q | q
  · exfalso
    exact h6 (by rw [h1, show (c a).length = 6 from by omega]; rfl)
  · exact q
theorem acts300 {u : mS} {es : List hE} {c : cfg} (h : mH u es c) (h3 : ¬ u.1 28 = 300) : es.length < 300 := by
  have h1 := h.1
  have h2 := h.2.1
  rcases Nat.lt_or_ge es.length 300 with q | q
  · exact q
  · exfalso
    exact h3 (by rw [h2, show es.length = 300 from by omega]; rfl)
/-- what mayRun asks of the pieces that stand -/
theorem put_hfr {u : mS} (h : mInv u) {i : Int32} (hi : bw i 0 79 = true) (P X Y N : Nat) (hP : P < 12) (hX : X + 1 ≤ 8) (hN : 1 ≤ N) (hY : Y + N ≤ 60) (h6 : ¬ u.2 22 i.toNatClampNeg = 6) (hG : runG (mStand u i P X Y 1 N) i (u.2 22 i.toNatClampNeg)) : 0 ≤ (mFrom (mStand u i P X Y 1 N) i (u.2 22 i.toNatClampNeg).toNatClampNeg).toInt ∧ (mFrom (mStand u i P X Y 1 N) i (u.2 22 i.toNatClampNeg).toNatClampNeg).toInt ≤ 400 ∧ (mTakes (mStand u i P X Y 1 N) i (u.2 22 i.toNatClampNeg)).toInt ≤ 60 := by
  obtain ⟨-, -, es, c, d⟩ := h
  obtain ⟨a, ha, -, e⟩ := exN hi (by decide)
  have h79 : (79 : Int32).toInt = 79 := rfl
  subst e
  have ha8 : a < 80 := by omega
  have hca : (nI a).toNatClampNeg = a := nI_clamp (by omega)
  rw [hca] at h6 hG ⊢
  have hl := len5 d ha8 h6
  have hok := hOK_c d.2.2.2.1
  have hm := cM_stand ha8 hl (fun b => (hok b).2.1) d.2.2.2.2.2 P X Y 1 N
  have h1 := (d.2.2.2.2.2 a ha8).1
  rw [h1] at hG ⊢
  rw [nI_clamp (by omega)]
  have h2 := hm a ha8
  rw [cPush_a] at h2
  exact runG_f (r := (P, X, Y, 1, N)) ha8 hl ⟨hP, hX, hY, Nat.le_refl 1, hN⟩ (hok a).2.2.1 h2.2 h2.1 (hok a).2.2.2.1 hG
theorem try_H {u : mS} {es : List hE} {c : cfg} (d : mH u es c) {a : Nat} (ha : a < 80) (hl : (c a).length ≤ 5) (P X Y N : Nat) : mH (mTry u (nI a) P X Y N) es c := by
  have hok := hOK_c d.2.2.2.1
  refine mH_cm d rfl ?_ (fun k k1 k2 => ?_) (cM_unstand ha hl (cM_stand ha hl (fun b => (hok b).2.1) d.2.2.2.2.2 P X Y 1 N) P X Y 1 N)
  · unfold mTry; rw [mUnstand_k _ _ _ _ _ _ _ (by decide) (by decide), mStand_k _ _ _ _ _ _ _ (nR rfl)]
  · unfold mTry
    by_cases e : k = 37
    · subst e
      rw [mUnstand_k _ _ _ _ _ _ _ (by decide) (by decide)]
      unfold mStand
      dsimp only
      rw [mput_other (by decide), mst_other (by decide), mst_other (by decide), mst_other (by decide), mst_other (by decide), mst_other (by decide), mst_other (by decide)]
    · rw [mUnstand_k _ _ _ _ _ _ _ (by omega) (by omega), mStand_k _ _ _ _ _ _ _ (by unfold stR; omega)]
theorem mStand_k2 (u : mS) (i : Int32) (P X Y D N : Nat) {k : Nat} (h1 : k ≠ 2) (h2 : k < 22 ∨ 27 < k) : (mStand u i P X Y D N).2 k = u.2 k := by
  unfold mStand
  dsimp only
  rw [mput_other (by omega), mst_other (by omega), mst_other (by omega), mst_other (by omega), mst_other (by omega), mst_other (by omega), mst_other (by omega)]
theorem fil_no {e : hE} (es : List hE) (h : e.1 ≠ 3) : fil (e :: es) = fil es := by
  show fil es + (if e.1 = 3 then e.2.2.2.length else 0) = fil es
  rw [if_neg h]; rfl
/-- the rows of the acts behind one more -/
theorem acts_old {u : mS} {n : Nat} (h28 : (u.1 28).toNatClampNeg = n) (k a b c d e f : Int32) : ∀ j, 29 ≤ j → j ≤ 35 → ∀ t, t < n → (mActs u k a b c d e f).2 j t = u.2 j t := by
  intro j k1 k2 t ht
  obtain ⟨q1, q2, q3, q4, q5, q6, q7⟩ := mActs_r u k a b c d e f t
  rw [h28, if_neg (by omega)] at q1 q2 q3 q4 q5 q6 q7
  have hk : j = 29 ∨ j = 30 ∨ j = 31 ∨ j = 32 ∨ j = 33 ∨ j = 34 ∨ j = 35 := by omega
  rcases hk with e | e | e | e | e | e | e <;> subst e
  · exact q1
  · exact q2
  · exact q3
  · exact q4
  · exact q5
  · exact q6
  · exact q7
theorem acts_at {u : mS} {n : Nat} (h28 : (u.1 28).toNatClampNeg = n) (k a b c d e f : Int32) : (mActs u k a b c d e f).2 29 n = k ∧ (mActs u k a b c d e f).2 30 n = a ∧ (mActs u k a b c d e f).2 31 n = b ∧ (mActs u k a b c d e f).2 32 n = c ∧ (mActs u k a b c d e f).2 33 n = d ∧ (mActs u k a b c d e f).2 34 n = e ∧ (mActs u k a b c d e f).2 35 n = f := by
  obtain ⟨q1, q2, q3, q4, q5, q6, q7⟩ := mActs_r u k a b c d e f n
  rw [h28, if_pos rfl] at q1 q2 q3 q4 q5 q6 q7
  exact ⟨q1, q2, q3, q4, q5, q6, q7⟩
theorem len28 {u : mS} {es : List hE} {c : cfg} (d : mH u es c) : (u.1 28).toNatClampNeg = es.length := by rw [d.2.1, nI_clamp (by have := d.1; omega)]
def cDrop (c : cfg) (a : Nat) (l : List fR) : cfg := fun b => if b = a then l else c b
theorem cDrop_a (c : cfg) (a : Nat) (l : List fR) : cDrop c a l a = l := if_pos rfl
theorem cDrop_o {c : cfg} {a b : Nat} {l : List fR} (h : b ≠ a) : cDrop c a l b = c b := if_neg h
theorem cDrop_push {c : cfg} {a : Nat} {r : fR} {l : List fR} (h : c a = r :: l) : c = cPush (cDrop c a l) a r := by
  funext b
  by_cases e : b = a
  · subst e; rw [cPush_a, cDrop_a, h]
  · rw [cPush_o e, cDrop_o e]
theorem cOK_drop {n : Nat} {kd : Nat → Int32} {c : cfg} {a : Nat} {r : fR} {l : List fR} (h : cOK n kd c) (hc : c a = r :: l) : cOK n kd (cDrop c a l) := fun b => by
  by_cases e : b = a
  · subst e
    obtain ⟨h1, h2, h3, h4, h5⟩ := h b
    rw [hc] at h1 h2 h3 h4 h5
    rw [List.length_cons] at h2 h5
    rw [cDrop_a]
    refine ⟨fun q => absurd (h1 q) (by simp), by omega, fun q hq => h3 q (List.mem_cons_of_mem _ hq), lgT_none h4.2, fun q => by have := h5 q; omega⟩
  · rw [cDrop_o e]; exact h b
theorem fill_ind {u : mS} {es : List hE} {c : cfg} (r : rI u) (d : mH u es c) : ∀ xs, fGood u xs → xG (u.1 3).toNatClampNeg (u.2 4) c xs ∧ cM (fillR u xs) (cFill c xs) ∧ rI (fillR u xs) ∧ fM (fillR u xs) (fil es) xs ∧ ∀ j, j < fil es → (fillR u xs).2 37 j = u.2 37 j
  | [], _ => ⟨trivial, d.2.2.2.2.2, r, trivial, fun _ _ => rfl⟩
  | x :: xs, h => by
    obtain ⟨h1, h2, h3, h4, h5, h6, h7, h8⟩ := h
    obtain ⟨i1_, i2, i3, i4, i5⟩ := fill_ind r d xs h1
    have ha : x.1 < 80 := Nat.lt_of_lt_of_le h2 (n80 r)
    have hok := cOK_fill (hOK_c d.2.2.2.1) i1_
    have hb := fil_380 d.2.2.2.1 i1_
    have hn := n80 r
    have he0 := d.1
    have he : cFill c xs x.1 = [] := by
      have q1 := (i2 x.1 ha).1
      have q2 := (hok x.1).2.1
      rw [h4] at q1
      refine List.length_eq_zero_iff.mp ?_
      have e : (nI (cFill c xs x.1).length).toInt = 0 := by rw [← q1]; rfl
      rw [nI_toInt (by omega)] at e
      omega
    have hr : rOK (x.2.1, x.2.2.1, x.2.2.2.1, 1, x.2.2.2.2) := ⟨h5, h6, h7, Nat.le_refl 1, h8⟩
    have hm := cM_stand ha (by rw [he]; exact Nat.zero_le _) (fun b => (hok b).2.1) i2 x.2.1 x.2.2.1 x.2.2.2.1 1 x.2.2.2.2
    have hrI := rI_stand i3 ha (P := x.2.1) (Y := x.2.2.2.1) (N := x.2.2.2.2) h6
    have hix : ((fillR u xs).1 36 + nI xs.length).toNatClampNeg = fil es + xs.length := by
      rw [(fillR_k u xs).1, d.2.2.1, nI_add, nI_clamp (by omega)]
    have e1 : fillR u (x :: xs) = mst (mStand (fillR u xs) (nI x.1) x.2.1 x.2.2.1 x.2.2.2.1 1 x.2.2.2.2) 37 ((fillR u xs).1 36 + nI xs.length) (nI x.1) := rfl
    have s37 : (mStand (fillR u xs) (nI x.1) x.2.1 x.2.2.1 x.2.2.2.1 1 x.2.2.2.2).2 37 = (fillR u xs).2 37 := mStand_k2 _ _ _ _ _ _ _ (by decide) (by decide)
    have s1 : (mStand (fillR u xs) (nI x.1) x.2.1 x.2.2.1 x.2.2.2.1 1 x.2.2.2.2).1 = (fillR u xs).1 := rfl
    rw [e1]
    generalize mStand (fillR u xs) (nI x.1) x.2.1 x.2.2.1 x.2.2.2.1 1 x.2.2.2.2 = w at hm hrI s37 s1
    refine ⟨⟨i1_, h2, h3, he, hr⟩, cM_rows (fun k k1 k2 => mst_other (by omega)) hm, rI_m hrI rfl rfl (fun k hk => mst_other (by omega)), ⟨?_, fM_c (fun j hj => ?_) i4⟩, fun j hj => ?_⟩
    · rw [mst_at, hix, if_pos rfl]
    · rw [mst_at, hix, if_neg (by omega), s37]
    · rw [mst_at, hix, if_neg (by omega), s37]; exact i5 j hj
theorem fill_hfb {u : mS} (h : mInv u) (x : fX) (xs : List fX) (hg : fGood u (x :: xs)) : 0 ≤ (u.1 36).toInt ∧ (u.1 36).toInt + (xs.length : Int) < 700 := by
  obtain ⟨r, -, es, c, d⟩ := h
  have h1 := fil_380 d.2.2.2.1 (fill_ind r d _ hg).1
  have hn := n80 r
  have he0 := d.1
  rw [List.length_cons] at h1
  rw [d.2.2.1, nI_toInt (by omega)]
  omega
/-- undo -/
theorem back_1 (u : mS) {j : Nat} (h : j ≠ 28) : (mBack u).1 j = u.1 j := by unfold mBack mset; exact if_neg h
theorem back_28 (u : mS) : (mBack u).1 28 = u.1 28 - 1 := by unfold mBack; rw [mset_same]
theorem pop_ind {c1 : cfg} {n F : Nat} {kd : Nat → Int32} (hn : n ≤ 80) (hok1 : cOK n kd c1) : ∀ (xs : List fX) (u : mS), xG n kd c1 xs → F + xs.length ≤ 699 → u.1 36 = nI (F + xs.length) → fM u F xs → cM u (cFill c1 xs) → rI u → popOK u xs ∧ cM (popAll u xs) c1 ∧ rI (popAll u xs) ∧ (popAll u xs).1 36 = nI F ∧ (∀ k, k ≠ 36 → (popAll u xs).1 k = u.1 k) ∧ ∀ k, k ≠ 2 → k ≠ 22 → (popAll u xs).2 k = u.2 k
  | [], u, _, _, h36, _, hc, hr => ⟨trivial, hc, hr, h36, fun _ _ => rfl, fun _ _ _ => rfl⟩
  | x :: xs, u, hx, hl, h36, hf, hc, hr => by
    rw [List.length_cons] at hl h36
    obtain ⟨hx1, hx2, hx3, hx4, hx5⟩ := hx
    have ha : x.1 < 80 := by omega
    have he : (cFill c1 xs x.1).length ≤ 5 := by rw [hx4]; exact Nat.zero_le _
    have h36b : u.1 36 - 1 = nI (F + xs.length) := by rw [h36, dn_e (by omega)]; rfl
    have hs := cM_slR ha he hc
    have hc2 : cM u (cPush (cFill c1 xs) x.1 (x.2.1, x.2.2.1, x.2.2.2.1, 1, x.2.2.2.2)) := hc
    have hm : cM (mset u 36 (u.1 36 - 1)) (cPush (cFill c1 xs) x.1 (x.2.1, x.2.2.1, x.2.2.2.1, 1, x.2.2.2.2)) := cM_rows (u := u) (fun k _ _ => rfl) hc2
    have hm2 := cM_unstand ha he hm x.2.1 x.2.2.1 x.2.2.2.1 1 x.2.2.2.2
    have hr2 := rI_unstand (rI_m (w := mset u 36 (u.1 36 - 1)) hr rfl rfl (fun _ _ => rfl)) (nI x.1) x.2.1 x.2.2.1 x.2.2.2.1 1 x.2.2.2.2
    have p36 : (popS u x).1 36 = nI (F + xs.length) := by
      show (mset u 36 (u.1 36 - 1)).1 36 = _
      rw [mset_same]; exact h36b
    have p1 : ∀ k, k ≠ 36 → (popS u x).1 k = u.1 k := fun k hk => by
      show (mset u 36 (u.1 36 - 1)).1 k = _
      unfold mset; exact if_neg hk
    have p2 : ∀ k, k ≠ 2 → k ≠ 22 → (popS u x).2 k = u.2 k := fun k k1 k2 => by
      unfold popS; rw [mUnstand_k _ _ _ _ _ _ _ k1 k2]; rfl
    have hf2 : fM (popS u x) F xs := fM_c (fun j _ => by rw [p2 37 (by decide) (by decide)]) hf.2
    obtain ⟨j1, j2, j3, j4, j5, j6⟩ := pop_ind hn hok1 xs (popS u x) hx1 (by omega) p36 hf2 hm2 hr2
    refine ⟨⟨?_, ?_, ha, hx5.1, hx5.2.1, hx5.2.2.1, hs, j1⟩, j2, j3, j4, fun k hk => (j5 k hk).trans (p1 k hk), fun k k1 k2 => (j6 k k1 k2).trans (p2 k k1 k2)⟩
    · rw [h36b]; exact bwN (by have h7 : (699 : Int32).toInt = 699 := rfl; rw [h7]; omega) (by omega)
    · rw [h36b, nI_clamp (by omega)]; exact hf.1
theorem met_imp {l : Launch} {y : MethodName} {ws : List Cond} {rm : Room} {Pc : Array Value → State → Prop} {Qc Qd : Array Value → State → Outcome → State → Prop} {mc ms : Nat} {free : Addr → Prop} (hm : Met l y ws rm Pc Qc mc ms free) (h : ∀ a s o t, Qc a s o t → Qd a s o t) : Met l y ws rm Pc Qd mc ms free := fun p e h1 h2 h3 s m args below hf ha hp hk => by
  obtain ⟨n, o, q1, q2, q3, q4, q5⟩ := hm p e h1 h2 h3 s m args below hf ha hp hk
  exact ⟨n, o, q1, q2, q3, h _ _ _ _ q4, q5⟩
theorem mq {l : Launch} {y : MethodName} {ws : List Cond} {rm : Room} {Pc : Array Value → State → Prop} {S : Type} {post post2 : Int32 → S → Prop} {B : S → State → Prop} {A : Nat → Prop} {mc ms : Nat} {free : Addr → Prop} (hm : Met l y ws rm Pc (va_Qi post B A) mc ms free) (h : ∀ r u, post r u → post2 r u) : Met l y ws rm Pc (va_Qi post2 B A) mc ms free := met_imp hm (fun _ _ _ _ q => by
  obtain ⟨⟨r, u, q1, q2, q3⟩, q4⟩ := q
  exact ⟨⟨r, u, q1, h r u q2, q3⟩, q4⟩)
theorem inv_pc {u : mS} (h : mInv u) : ∀ j, j < 80 → bw (u.2 22 j) 0 6 = true := fun j hj => by
  obtain ⟨-, -, es, c, d⟩ := h
  rw [(d.2.2.2.2.2 j hj).1]
  have h1 := ((hOK_c d.2.2.2.1) j).2.1
  exact bwN (by have h6 : (6 : Int32).toInt = 6 := rfl; rw [h6]; omega) (by omega)
theorem inv_ha {u : mS} (h : mInv u) : bw (u.1 28) 0 300 = true := by
  obtain ⟨-, -, es, c, d⟩ := h
  rw [d.2.1]
  have h1 := d.1
  exact bwN (by have h6 : (300 : Int32).toInt = 300 := rfl; rw [h6]; omega) (by omega)
/-- what lies in the class's heap: the addresses; of each its tag, its owner or rank, the fields that never change -/
abbrev gS : Type := List Nat × (Nat → Nat × Nat × List Value)
abbrev xF : Type := Nat → va_E
abbrev aI (c : ClassId) (n : Nat) (g : Nat → Int32) : va_E := .inl (c, n, .inl g)
abbrev aR (c : ClassId) (n : Nat) (g : Nat → Option Nat) : va_E := .inl (c, n, .inr (.inr (.inr (.inr g))))
abbrev xT (q : Nat → ClassId) : List (ClassId × FieldType) := [(q 0, .int), (q 1, .boolean), (q 2, .object "PageOne$Sheet"), (q 3, .object "PageOne$Item"), (q 4, .object "PageOne$Act"), (q 5, .object "PageOne$Piece")]
def tg (z : gS) (a t : Nat) : Prop := a ∈ z.1 ∧ (z.2 a).1 = t
def itm (z : gS) (a : Nat) : Prop := a ∈ z.1 ∧ 10 ≤ (z.2 a).1 ∧ (z.2 a).1 ≤ 15
/-- a piece and its fields -/
def pcS (z : gS) (a : Nat) (it : Option Nat) (P X Y D N : Int32) : Prop := tg z a 22 ∧ (z.2 a).2.2 = [va_rf it, .int P, .int X, .int Y, .int D, .int N]
/-- a piece that may stand -/
def lgP (z : gS) (a : Nat) : Prop := ∃ (it : Option Nat) (P X Y D N : Int32), pcS z a it P X Y D N ∧ bw X 0 7 = true ∧ bw Y 0 60 = true ∧ bw D 0 8 = true ∧ bw N 0 60 = true
def ciT (t : Nat) : Nat := if t = 15 then 9 else t - 8
/-- what stands behind an item's five common fields, by its tag: 10 filler, 11 head, 12 notice, 13 paid, 14 picture, 15 story -/
def rsT (z : gS) (t : Nat) (rest : List Value) : Prop :=
  (t = 10 → ∃ l m : Int32, rest = [.int l, .int m]) ∧
  (t = 11 → ∃ (o : Nat) (w h : Int32), rest = [.ref o, .int w, .int h] ∧ tg z o 15) ∧
  (t = 12 → ∃ (o : Nat) (h : Int32), rest = [.ref o, .int h] ∧ itm z o) ∧
  (t = 13 → ∃ (b pr : Int32) (sp dy : Nat), rest = [.int b, .int pr, .ref sp, .ref dy] ∧ bw b 0 9 = true ∧ lgP z sp ∧ tg z dy 21) ∧
  (t = 14 → ∃ (ww hh : Nat) (sz : Int32), rest = [.ref ww, .ref hh, .int sz] ∧ tg z ww 20 ∧ tg z hh 20 ∧ bw sz 0 4 = true) ∧
  (t = 15 → ∃ (l co : Int32) (wd nm : Nat), rest = [.int l, .ref wd, .int co, .ref nm] ∧ tg z wd 18 ∧ bw co 0 80 = true ∧ tg z nm 19)
def itF (nu kd : Int32) (pa : Nat) (cn : Int32) (fa : Nat) (rest : List Value) : List Value := .int nu :: .int kd :: .ref pa :: .int cn :: .ref fa :: rest
def wItem (z : gS) (a : Nat) (e : va_E) : Prop := ∃ (nu kd cn : Int32) (pa fa : Nat) (rest : List Value), e = .inr (ciT (z.2 a).1, itF nu kd pa cn fa rest) ∧ tg z pa 16 ∧ (z.2 pa).2.1 = a ∧ tg z fa 17 ∧ rsT z (z.2 a).1 rest
def wSh (z : gS) (e : va_E) : Prop := ∃ (la ca : Nat) (m d i : Int32), e = .inr (8, [.ref la, .ref ca, .int m, .int d, .int i]) ∧ tg z la 8 ∧ tg z ca 9
def wLn (q : Nat → ClassId) (e : va_E) : Prop := ∃ g, e = aI (q 0) 8 g ∧ ∀ j, j < 8 → bw (g j) 0 60 = true
def wI (q : Nat → ClassId) (c n : Nat) (e : va_E) : Prop := ∃ g, e = aI (q c) n g
def wZ (q : Nat → ClassId) (e : va_E) : Prop := ∃ g, e = aI (q 1) 100 g ∧ ∀ j, g j = 0 ∨ g j = 1
def wPg (q : Nat → ClassId) (z : gS) (e : va_E) : Prop := ∃ g, e = aR (q 2) 12 g ∧ ∀ j, j < 12 → ∃ b, g j = some b ∧ tg z b 7
def wR (q : Nat → ClassId) (c n : Nat) (P : Nat → Prop) (e : va_E) : Prop := ∃ g, e = aR (q c) n g ∧ ∀ j, j < n → ∀ b, g j = some b → P b
def wPc (q : Nat → ClassId) (z : gS) (e : va_E) : Prop := ∃ n, 1 ≤ n ∧ n ≤ 6 ∧ wR q 5 n (lgP z) e
def wPi (z : gS) (a : Nat) (e : va_E) : Prop := e = .inr (7, (z.2 a).2.2) ∧ ∃ (it : Option Nat) (P X Y D N : Int32), (z.2 a).2.2 = [va_rf it, .int P, .int X, .int Y, .int D, .int N] ∧ bw P 0 11 = true ∧ ∀ b, it = some b → itm z b
def wAc (z : gS) (a : Nat) (e : va_E) : Prop := e = .inr (0, (z.2 a).2.2) ∧ ∃ (p : Nat) (l n : Int32) (ah : Option Nat), (z.2 a).2.2 = [.ref p, .int l, va_rf ah, .int n] ∧ lgP z p ∧ ∀ b, ah = some b → tg z b 23 ∧ (z.2 b).2.1 < (z.2 a).2.1
/-- a cell is what its tag says -/
def cO (q : Nat → ClassId) (z : gS) (a : Nat) (e : va_E) : Prop :=
  ((z.2 a).1 = 2 → wPg q z e) ∧ ((z.2 a).1 = 3 → wR q 2 12 (fun b => tg z b 7) e) ∧ ((z.2 a).1 = 4 → wR q 3 80 (itm z) e) ∧ ((z.2 a).1 = 5 → wR q 4 300 (fun b => tg z b 23) e) ∧ ((z.2 a).1 = 6 → wZ q e) ∧ ((z.2 a).1 = 7 → wSh z e) ∧ ((z.2 a).1 = 8 → wLn q e) ∧ ((z.2 a).1 = 9 → wI q 0 480 e) ∧ (10 ≤ (z.2 a).1 → (z.2 a).1 ≤ 15 → wItem z a e) ∧ ((z.2 a).1 = 16 → wPc q z e) ∧ ((z.2 a).1 = 17 → wI q 0 5 e) ∧ ((z.2 a).1 = 18 → wI q 0 80 e) ∧ ((z.2 a).1 = 19 → wI q 1 10 e) ∧ ((z.2 a).1 = 20 → wI q 0 4 e) ∧ ((z.2 a).1 = 21 → wI q 1 400 e) ∧ ((z.2 a).1 = 22 → wPi z a e) ∧ ((z.2 a).1 = 23 → wAc z a e)
/-- the desk's own fields: the rows' addresses; items, acts, today, edition -/
def dkF (d : Nat → Nat) (k : Nat → Int32) : List Value := [.ref (d 0), .ref (d 1), .ref (d 2), .int (k 0), .ref (d 3), .int (k 1), .ref (d 4), .int (k 2), .int (k 3)]
def kOK (k : Nat → Int32) : Prop := bw (k 0) 0 80 = true ∧ bw (k 1) 0 300 = true ∧ bw (k 2) 0 399 = true
def dkS (h0 : Nat) (d : Nat → Nat) (z : gS) : Prop := tg z h0 1 ∧ tg z (d 0) 2 ∧ tg z (d 1) 3 ∧ tg z (d 2) 4 ∧ tg z (d 3) 5 ∧ tg z (d 4) 6
def r1 (q : Nat → ClassId) (h0 : Nat) (d : Nat → Nat) (k : Nat → Int32) (f : xF) : Prop := f h0 = .inr (10, dkF d k) ∧ ∃ g, f (d 2) = aR (q 3) 80 g ∧ ∀ j, j < (k 0).toNatClampNeg → ∃ b, g j = some b
/-- an item's pieces: below its count there is one -/
def r2 (q : Nat → ClassId) (z : gS) (f : xF) : Prop := ∀ a, itm z a → ∀ nu kd cn pa fa rest, f a = .inr (ciT (z.2 a).1, itF nu kd pa cn fa rest) → ∃ n g, f pa = aR (q 5) n g ∧ 1 ≤ n ∧ n ≤ 6 ∧ bw cn 0 (nI n) = true ∧ ∀ j, j < cn.toNatClampNeg → ∃ b, g j = some b
/-- the class's invariant -/
def xI (q : Nat → ClassId) (h0 : Nat) (d : Nat → Nat) (k : Nat → Int32) (z : gS) (f : xF) : Prop := kOK k ∧ dkS h0 d z ∧ (∀ a, a ∈ z.1 → cO q z a (f a)) ∧ r1 q h0 d k f ∧ r2 q z f
/-- more may lie there, what lay there stays what it is -/
def zE (z w : gS) : Prop := ∀ a, a ∈ z.1 → a ∈ w.1 ∧ w.2 a = z.2 a
theorem zE_rf (z : gS) : zE z z := fun _ h => ⟨h, rfl⟩
theorem zE_tr {z w y : gS} (h1 : zE z w) (h2 : zE w y) : zE z y := fun a h => ⟨(h2 a (h1 a h).1).1, ((h2 a (h1 a h).1).2).trans (h1 a h).2⟩
theorem zE_tg {z w : gS} (h : zE z w) {a t : Nat} (ha : tg z a t) : tg w a t := ⟨(h a ha.1).1, by rw [(h a ha.1).2]; exact ha.2⟩
theorem zE_itm {z w : gS} (h : zE z w) {a : Nat} (ha : itm z a) : itm w a := ⟨(h a ha.1).1, by rw [(h a ha.1).2]; exact ha.2⟩
theorem zE_pc {z w : gS} (h : zE z w) {a : Nat} {it : Option Nat} {P X Y D N : Int32} (ha : pcS z a it P X Y D N) : pcS w a it P X Y D N := ⟨zE_tg h ha.1, by rw [(h a ha.1.1).2]; exact ha.2⟩
theorem zE_lg {z w : gS} (h : zE z w) {a : Nat} (ha : lgP z a) : lgP w a := by
  obtain ⟨it, P, X, Y, D, N, h1, h2⟩ := ha
  exact ⟨it, P, X, Y, D, N, zE_pc h h1, h2⟩
theorem tg_ne {z : gS} {a b t s : Nat} (ha : tg z a t) (hb : tg z b s) (h : t ≠ s) : a ≠ b := fun e => h (by rw [← ha.2, ← hb.2, e])
/-- reading -/
theorem x_sh {q h0 d k z f} (h : xI q h0 d k z f) {a : Nat} (ha : tg z a 7) : wSh z (f a) := (h.2.2.1 a ha.1).2.2.2.2.2.1 ha.2
theorem x_ln {q h0 d k z f} (h : xI q h0 d k z f) {a : Nat} (ha : tg z a 8) : wLn q (f a) := (h.2.2.1 a ha.1).2.2.2.2.2.2.1 ha.2
theorem x_ce {q h0 d k z f} (h : xI q h0 d k z f) {a : Nat} (ha : tg z a 9) : wI q 0 480 (f a) := (h.2.2.1 a ha.1).2.2.2.2.2.2.2.1 ha.2
theorem x_pg {q h0 d k z f} (h : xI q h0 d k z f) {a : Nat} (ha : tg z a 2) : wPg q z (f a) := (h.2.2.1 a ha.1).1 ha.2
theorem x_pl {q h0 d k z f} (h : xI q h0 d k z f) {a : Nat} (ha : tg z a 3) : wR q 2 12 (fun b => tg z b 7) (f a) := (h.2.2.1 a ha.1).2.1 ha.2
theorem x_it {q h0 d k z f} (h : xI q h0 d k z f) {a : Nat} (ha : tg z a 4) : wR q 3 80 (itm z) (f a) := (h.2.2.1 a ha.1).2.2.1 ha.2
theorem x_ac {q h0 d k z f} (h : xI q h0 d k z f) {a : Nat} (ha : tg z a 5) : wR q 4 300 (fun b => tg z b 23) (f a) := (h.2.2.1 a ha.1).2.2.2.1 ha.2
theorem x_ri {q h0 d k z f} (h : xI q h0 d k z f) {a : Nat} (ha : tg z a 6) : wZ q (f a) := (h.2.2.1 a ha.1).2.2.2.2.1 ha.2
theorem x_im {q h0 d k z f} (h : xI q h0 d k z f) {a : Nat} (ha : itm z a) : wItem z a (f a) := (h.2.2.1 a ha.1).2.2.2.2.2.2.2.2.1 ha.2.1 ha.2.2
theorem x_pc {q h0 d k z f} (h : xI q h0 d k z f) {a : Nat} (ha : tg z a 16) : wPc q z (f a) := (h.2.2.1 a ha.1).2.2.2.2.2.2.2.2.2.1 ha.2
theorem x_19 {q h0 d k z f} (h : xI q h0 d k z f) {a : Nat} (ha : tg z a 19) : wI q 1 10 (f a) := (h.2.2.1 a ha.1).2.2.2.2.2.2.2.2.2.2.2.2.1 ha.2
theorem x_20 {q h0 d k z f} (h : xI q h0 d k z f) {a : Nat} (ha : tg z a 20) : wI q 0 4 (f a) := (h.2.2.1 a ha.1).2.2.2.2.2.2.2.2.2.2.2.2.2.1 ha.2
theorem x_22 {q h0 d k z f} (h : xI q h0 d k z f) {a : Nat} (ha : tg z a 22) : wPi z a (f a) := (h.2.2.1 a ha.1).2.2.2.2.2.2.2.2.2.2.2.2.2.2.2.1 ha.2
theorem x_23 {q h0 d k z f} (h : xI q h0 d k z f) {a : Nat} (ha : tg z a 23) : wAc z a (f a) := (h.2.2.1 a ha.1).2.2.2.2.2.2.2.2.2.2.2.2.2.2.2.2 ha.2
/-- a cell of one tag: what is asked of the others is empty -/
theorem cO_of {q : Nat → ClassId} {z : gS} {a t : Nat} {e : va_E} (ht : (z.2 a).1 = t)
  (h : (t = 2 → wPg q z e) ∧ (t = 3 → wR q 2 12 (fun b => tg z b 7) e) ∧ (t = 4 → wR q 3 80 (itm z) e) ∧ (t = 5 → wR q 4 300 (fun b => tg z b 23) e) ∧ (t = 6 → wZ q e) ∧ (t = 7 → wSh z e) ∧ (t = 8 → wLn q e) ∧ (t = 9 → wI q 0 480 e) ∧ (10 ≤ t → t ≤ 15 → wItem z a e) ∧ (t = 16 → wPc q z e) ∧ (t = 17 → wI q 0 5 e) ∧ (t = 18 → wI q 0 80 e) ∧ (t = 19 → wI q 1 10 e) ∧ (t = 20 → wI q 0 4 e) ∧ (t = 21 → wI q 1 400 e) ∧ (t = 22 → wPi z a e) ∧ (t = 23 → wAc z a e)) : cO q z a e := by
  unfold cO; rw [ht]; exact h
theorem up_loc {q : Nat → ClassId} {z : gS} {f : xF} {a : Nat} {e : va_E} (h : ∀ b, b ∈ z.1 → cO q z b (f b)) (he : cO q z a e) : ∀ b, b ∈ z.1 → cO q z b (va_up f a e b) := fun b hb => by
  unfold va_up
  by_cases e1 : b = a
  · rw [if_pos e1, e1]; exact he
  · rw [if_neg e1]; exact h b hb
theorem up_o {f : xF} {a b : Nat} {e : va_E} (h : b ≠ a) : va_up f a e b = f b := if_neg h
theorem up_s {f : xF} {a : Nat} {e : va_E} : va_up f a e a = e := if_pos rfl
/-- a write that neither the desk's items nor an item's pieces see -/
theorem x_up {q h0 d k z f} (h : xI q h0 d k z f) {a t : Nat} {e : va_E} (ha : tg z a t) (ht : t ≠ 1 ∧ t ≠ 4 ∧ (t < 10 ∨ 16 < t)) (he : cO q z a e) : xI q h0 d k z (va_up f a e) := by
  obtain ⟨h1, h2, h3, ⟨g1, g, g2, g3⟩, h5⟩ := h
  refine ⟨h1, h2, up_loc h3 he, ⟨by rw [up_o (tg_ne h2.1 ha (fun e => ht.1 e.symm))]; exact g1, g, by rw [up_o (tg_ne h2.2.2.2.1 ha (fun e => ht.2.1 e.symm))]; exact g2, g3⟩, ?_⟩
  intro b hb nu kd cn pa fa rest hf
  have hne : b ≠ a := fun e => by have := hb.2; rw [e, ha.2] at this; omega
  rw [up_o hne] at hf
  obtain ⟨n, g, r1, r2⟩ := h5 b hb nu kd cn pa fa rest hf
  have hp : tg z pa 16 := by
    obtain ⟨nu2, kd2, cn2, pa2, fa2, rest2, e1, e2, -⟩ := (h3 b hb.1).2.2.2.2.2.2.2.2.1 hb.2.1 hb.2.2
    rw [hf] at e1
    have e3 : itF nu kd pa cn fa rest = itF nu2 kd2 pa2 cn2 fa2 rest2 := (Prod.mk.inj (Sum.inr.inj e1)).2
    unfold itF at e3
    have e4 : pa = pa2 := by
      simp only [List.cons.injEq, Value.ref.injEq] at e3
      exact e3.2.2.1
    rw [e4]; exact e2
  refine ⟨n, g, by rw [up_o (tg_ne hp ha (by omega))]; exact r1, r2⟩
/-- a place in the pool -/
theorem pl_at {L : List Nat} {f : xF} {a : Nat} {e : va_E} (h : a ∈ L) (hf : f a = e) : ∃ k : Nat, (va_pl L f)[k]? = some (a, e) := by
  obtain ⟨k, hk⟩ := va_pl_get (X := []) (f := f) h
  exact ⟨k, by rw [← hf]; exact hk⟩
theorem pl_set {A : Nat → Prop} {L : List Nat} {f : xF} {a k : Nat} {e e2 : va_E} (hD : va_D A (va_pl L f)) (h : a ∈ L) (hf : f a = e2) (hk : (va_pl L f)[k]? = some (a, e2)) : (va_pl L f).set k (a, e) = va_pl L (va_up f a e) := va_pl_set (X := []) hD h (by rw [hf]; exact hk)
/-- which items are not which -/
def XN (U : State) : Prop := va_Nw (.declares ⟨"PageOne$Item", "linesBy", "(I)I"⟩) U ∧ va_Nc "PageOne$Filler" "PageOne$Head" U ∧ va_Nc "PageOne$Filler" "PageOne$Notice" U ∧ va_Nc "PageOne$Filler" "PageOne$Paid" U ∧ va_Nc "PageOne$Filler" "PageOne$Picture" U ∧ va_Nc "PageOne$Filler" "PageOne$Story" U ∧ va_Nc "PageOne$Head" "PageOne$Filler" U ∧ va_Nc "PageOne$Head" "PageOne$Notice" U ∧ va_Nc "PageOne$Head" "PageOne$Paid" U ∧ va_Nc "PageOne$Head" "PageOne$Picture" U ∧ va_Nc "PageOne$Head" "PageOne$Story" U ∧ va_Nc "PageOne$Notice" "PageOne$Filler" U ∧ va_Nc "PageOne$Notice" "PageOne$Head" U ∧ va_Nc "PageOne$Notice" "PageOne$Paid" U ∧ va_Nc "PageOne$Notice" "PageOne$Picture" U ∧ va_Nc "PageOne$Notice" "PageOne$Story" U ∧ va_Nc "PageOne$Paid" "PageOne$Filler" U ∧ va_Nc "PageOne$Paid" "PageOne$Head" U ∧ va_Nc "PageOne$Paid" "PageOne$Notice" U ∧ va_Nc "PageOne$Paid" "PageOne$Picture" U ∧ va_Nc "PageOne$Paid" "PageOne$Story" U ∧ va_Nc "PageOne$Picture" "PageOne$Filler" U ∧ va_Nc "PageOne$Picture" "PageOne$Head" U ∧ va_Nc "PageOne$Picture" "PageOne$Notice" U ∧ va_Nc "PageOne$Picture" "PageOne$Paid" U ∧ va_Nc "PageOne$Picture" "PageOne$Story" U ∧ va_Nc "PageOne$Story" "PageOne$Filler" U ∧ va_Nc "PageOne$Story" "PageOne$Head" U ∧ va_Nc "PageOne$Story" "PageOne$Notice" U ∧ va_Nc "PageOne$Story" "PageOne$Paid" U ∧ va_Nc "PageOne$Story" "PageOne$Picture" U
theorem XN.moved {s U : State} (hW : s.WarmedH U.vm) (h : XN s) : XN U := by
  obtain ⟨hz, h0, h1, h2, h3, h4, h5, h6, h7, h8, h9, h10, h11, h12, h13, h14, h15, h16, h17, h18, h19, h20, h21, h22, h23, h24, h25, h26, h27, h28, h29⟩ := h
  have hv := hW.alike
  exact ⟨va_Nw.warmD hW hz, h0.moved hv, h1.moved hv, h2.moved hv, h3.moved hv, h4.moved hv, h5.moved hv, h6.moved hv, h7.moved hv, h8.moved hv, h9.moved hv, h10.moved hv, h11.moved hv, h12.moved hv, h13.moved hv, h14.moved hv, h15.moved hv, h16.moved hv, h17.moved hv, h18.moved hv, h19.moved hv, h20.moved hv, h21.moved hv, h22.moved hv, h23.moved hv, h24.moved hv, h25.moved hv, h26.moved hv, h27.moved hv, h28.moved hv, h29.moved hv⟩
theorem XN.same {s U : State} (he : s.vm = U.vm) (h : XN s) : XN U := by
  obtain ⟨hz, h0, h1, h2, h3, h4, h5, h6, h7, h8, h9, h10, h11, h12, h13, h14, h15, h16, h17, h18, h19, h20, h21, h22, h23, h24, h25, h26, h27, h28, h29⟩ := h
  have hv : s.vm.Alike U.vm := by rw [he]; exact Vm.Alike.refl _
  exact ⟨va_Nw.same rfl he hz, h0.moved hv, h1.moved hv, h2.moved hv, h3.moved hv, h4.moved hv, h5.moved hv, h6.moved hv, h7.moved hv, h8.moved hv, h9.moved hv, h10.moved hv, h11.moved hv, h12.moved hv, h13.moved hv, h14.moved hv, h15.moved hv, h16.moved hv, h17.moved hv, h18.moved hv, h19.moved hv, h20.moved hv, h21.moved hv, h22.moved hv, h23.moved hv, h24.moved hv, h25.moved hv, h26.moved hv, h27.moved hv, h28.moved hv, h29.moved hv⟩
theorem XN.n_X2_X3 {U : State} (h : XN U) : va_Nc RX2 RX3 U := h.2.1
theorem XN.n_X2_X5 {U : State} (h : XN U) : va_Nc RX2 RX5 U := h.2.2.1
theorem XN.n_X2_X6 {U : State} (h : XN U) : va_Nc RX2 RX6 U := h.2.2.2.1
theorem XN.n_X2_X7 {U : State} (h : XN U) : va_Nc RX2 RX7 U := h.2.2.2.2.1
theorem XN.n_X2_X10 {U : State} (h : XN U) : va_Nc RX2 RX10 U := h.2.2.2.2.2.1
theorem XN.n_X3_X2 {U : State} (h : XN U) : va_Nc RX3 RX2 U := h.2.2.2.2.2.2.1
theorem XN.n_X3_X5 {U : State} (h : XN U) : va_Nc RX3 RX5 U := h.2.2.2.2.2.2.2.1
theorem XN.n_X3_X6 {U : State} (h : XN U) : va_Nc RX3 RX6 U := h.2.2.2.2.2.2.2.2.1
theorem XN.n_X3_X7 {U : State} (h : XN U) : va_Nc RX3 RX7 U := h.2.2.2.2.2.2.2.2.2.1
theorem XN.n_X3_X10 {U : State} (h : XN U) : va_Nc RX3 RX10 U := h.2.2.2.2.2.2.2.2.2.2.1
theorem XN.n_X5_X2 {U : State} (h : XN U) : va_Nc RX5 RX2 U := h.2.2.2.2.2.2.2.2.2.2.2.1
theorem XN.n_X5_X3 {U : State} (h : XN U) : va_Nc RX5 RX3 U := h.2.2.2.2.2.2.2.2.2.2.2.2.1
theorem XN.n_X5_X6 {U : State} (h : XN U) : va_Nc RX5 RX6 U := h.2.2.2.2.2.2.2.2.2.2.2.2.2.1
theorem XN.n_X5_X7 {U : State} (h : XN U) : va_Nc RX5 RX7 U := h.2.2.2.2.2.2.2.2.2.2.2.2.2.2.1
theorem XN.n_X5_X10 {U : State} (h : XN U) : va_Nc RX5 RX10 U := h.2.2.2.2.2.2.2.2.2.2.2.2.2.2.2.1
theorem XN.n_X6_X2 {U : State} (h : XN U) : va_Nc RX6 RX2 U := h.2.2.2.2.2.2.2.2.2.2.2.2.2.2.2.2.1
theorem XN.n_X6_X3 {U : State} (h : XN U) : va_Nc RX6 RX3 U := h.2.2.2.2.2.2.2.2.2.2.2.2.2.2.2.2.2.1
theorem XN.n_X6_X5 {U : State} (h : XN U) : va_Nc RX6 RX5 U := h.2.2.2.2.2.2.2.2.2.2.2.2.2.2.2.2.2.2.1
theorem XN.n_X6_X7 {U : State} (h : XN U) : va_Nc RX6 RX7 U := h.2.2.2.2.2.2.2.2.2.2.2.2.2.2.2.2.2.2.2.1
theorem XN.n_X6_X10 {U : State} (h : XN U) : va_Nc RX6 RX10 U := h.2.2.2.2.2.2.2.2.2.2.2.2.2.2.2.2.2.2.2.2.1
theorem XN.n_X7_X2 {U : State} (h : XN U) : va_Nc RX7 RX2 U := h.2.2.2.2.2.2.2.2.2.2.2.2.2.2.2.2.2.2.2.2.2.1
theorem XN.n_X7_X3 {U : State} (h : XN U) : va_Nc RX7 RX3 U := h.2.2.2.2.2.2.2.2.2.2.2.2.2.2.2.2.2.2.2.2.2.2.1
theorem XN.n_X7_X5 {U : State} (h : XN U) : va_Nc RX7 RX5 U := h.2.2.2.2.2.2.2.2.2.2.2.2.2.2.2.2.2.2.2.2.2.2.2.1
theorem XN.n_X7_X6 {U : State} (h : XN U) : va_Nc RX7 RX6 U := h.2.2.2.2.2.2.2.2.2.2.2.2.2.2.2.2.2.2.2.2.2.2.2.2.1
theorem XN.n_X7_X10 {U : State} (h : XN U) : va_Nc RX7 RX10 U := h.2.2.2.2.2.2.2.2.2.2.2.2.2.2.2.2.2.2.2.2.2.2.2.2.2.1
theorem XN.n_X10_X2 {U : State} (h : XN U) : va_Nc RX10 RX2 U := h.2.2.2.2.2.2.2.2.2.2.2.2.2.2.2.2.2.2.2.2.2.2.2.2.2.2.1
theorem XN.n_X10_X3 {U : State} (h : XN U) : va_Nc RX10 RX3 U := h.2.2.2.2.2.2.2.2.2.2.2.2.2.2.2.2.2.2.2.2.2.2.2.2.2.2.2.1
theorem XN.n_X10_X5 {U : State} (h : XN U) : va_Nc RX10 RX5 U := h.2.2.2.2.2.2.2.2.2.2.2.2.2.2.2.2.2.2.2.2.2.2.2.2.2.2.2.2.1
theorem XN.n_X10_X6 {U : State} (h : XN U) : va_Nc RX10 RX6 U := h.2.2.2.2.2.2.2.2.2.2.2.2.2.2.2.2.2.2.2.2.2.2.2.2.2.2.2.2.2.1
theorem XN.n_X10_X7 {U : State} (h : XN U) : va_Nc RX10 RX7 U := h.2.2.2.2.2.2.2.2.2.2.2.2.2.2.2.2.2.2.2.2.2.2.2.2.2.2.2.2.2.2
def PX (dC : Nat → ClassId) (dI : Nat → Nat → Nat) (ws : va_W) (tys : List (ClassId × FieldType)) (U : State) : Prop := PW dC dI ws tys U ∧ XN U
theorem px_fb {av : List Value} {dC : Nat → ClassId} {dI : Nat → Nat → Nat} {ws : va_W} {tys : List (ClassId × FieldType)} : FrameBlind (va_Pc av (PX dC dI ws tys)) := fun a U g mk q => ⟨q.1, ⟨q.2.1.1, va_K.moved (u := U) (U := U.calling g mk a) (Vm.Alike.refl U.vm) q.2.1.2.1, NN.same (s := U) (U := U.calling g mk a) rfl q.2.1.2.2⟩, XN.same (s := U) (U := U.calling g mk a) rfl q.2.2⟩
theorem gx_fb {av : List Value} {dC : Nat → ClassId} {dI : Nat → Nat → Nat} {ws ws' : va_W} {tys : List (ClassId × FieldType)} {sz : Nat} : FrameBlind (va_Pc av (fun U => U.heap.size = sz ∧ PX dC dI ws tys U ∧ va_D (fun _ => True) ws')) := fun a U g mk q => ⟨q.1, q.2.1, ⟨⟨q.2.2.1.1.1, va_K.moved (u := U) (U := U.calling g mk a) (Vm.Alike.refl U.vm) q.2.2.1.1.2.1, NN.same (s := U) (U := U.calling g mk a) rfl q.2.2.1.1.2.2⟩, XN.same (s := U) (U := U.calling g mk a) rfl q.2.2.1.2⟩, q.2.2.2⟩
theorem px_to {dC : Nat → ClassId} {dI : Nat → Nat → Nat} {ws : va_W} {tys : List (ClassId × FieldType)} {s U : State} {H : Heap} (hU : U.heap = H) (hW : s.WarmedH U.vm) (hP : va_P (dC, dI) vwCl ws H) (hK : va_K (dC, dI) vwCl tys s) (hN : NN s) (hXN : XN s) : PX dC dI ws tys U := ⟨pw_to hU hW hP hK hN, hXN.moved hW⟩
theorem w_then {p : Program} {l : Launch} {e : Env} {R : Room} {s : State} {m : MethodId} {args : Array Value} {below : List Frame} {meth : Method} {c : Code} {H : Heap} {locs : List Loc} {cells slots : Nat} {Q : State → Prop} {g : JFrame} (g2 : JFrame) (h : W p l e R s m args below meth c H locs cells slots Q g2 → W p l e R s m args below meth c H locs cells slots Q g) (h2 : W p l e R s m args below meth c H locs cells slots Q g2) : W p l e R s m args below meth c H locs cells slots Q g := h h2
/-- an item is one of six -/
theorem x_tag {z : gS} {a : Nat} (h : itm z a) : tg z a 10 ∨ tg z a 11 ∨ tg z a 12 ∨ tg z a 13 ∨ tg z a 14 ∨ tg z a 15 := by
  obtain ⟨h1, h2, h3⟩ := h
  have h4 : (z.2 a).1 = 10 ∨ (z.2 a).1 = 11 ∨ (z.2 a).1 = 12 ∨ (z.2 a).1 = 13 ∨ (z.2 a).1 = 14 ∨ (z.2 a).1 = 15 := by omega
  rcases h4 with e | e | e | e | e | e
  · exact Or.inl ⟨h1, e⟩
  · exact Or.inr (Or.inl ⟨h1, e⟩)
  · exact Or.inr (Or.inr (Or.inl ⟨h1, e⟩))
  · exact Or.inr (Or.inr (Or.inr (Or.inl ⟨h1, e⟩)))
  · exact Or.inr (Or.inr (Or.inr (Or.inr (Or.inl ⟨h1, e⟩))))
  · exact Or.inr (Or.inr (Or.inr (Or.inr (Or.inr ⟨h1, e⟩))))
theorem tg_itm {z : gS} {a t : Nat} (h : tg z a t) (h1 : 10 ≤ t ∧ t ≤ 15) : itm z a := ⟨h.1, by rw [h.2]; exact h1.1, by rw [h.2]; exact h1.2⟩
/-- a piece's fields, once known, are known for good -/
theorem x_pcS {q h0 d k z f} (h : xI q h0 d k z f) {a : Nat} (ha : tg z a 22) : ∃ (it : Option Nat) (P X Y D N : Int32), pcS z a it P X Y D N ∧ bw P 0 11 = true ∧ ∀ b, it = some b → itm z b := by
  obtain ⟨-, it, P, X, Y, D, N, h1, h2, h3⟩ := x_22 h ha
  exact ⟨it, P, X, Y, D, N, ⟨ha, h1⟩, h2, h3⟩
theorem x_pcF {q h0 d k z f} (h : xI q h0 d k z f) {a : Nat} {it : Option Nat} {P X Y D N : Int32} (ha : pcS z a it P X Y D N) : f a = .inr (7, [va_rf it, .int P, .int X, .int Y, .int D, .int N]) := by
  rw [(x_22 h ha.1).1, ha.2]
theorem x_pcB {q h0 d k z f} (h : xI q h0 d k z f) {a : Nat} {it : Option Nat} {P X Y D N : Int32} (ha : pcS z a it P X Y D N) : bw P 0 11 = true ∧ ∀ b, it = some b → itm z b := by
  obtain ⟨it2, P2, X2, Y2, D2, N2, h1, h2, h3⟩ := x_pcS h ha.1
  have e := ha.2.symm.trans h1.2
  simp only [List.cons.injEq, Value.int.injEq] at e
  refine ⟨by rw [e.2.1]; exact h2, fun b hb => ?_⟩
  have e1 := e.1
  rw [hb] at e1
  cases it2 with
  | none => exact absurd e1 (by unfold va_rf; simp)
  | some b2 =>
    have e3 : b = b2 := by unfold va_rf at e1; simpa using e1
    rw [e3]; exact h3 b2 rfl
/-- an act's -/
def acS (z : gS) (a p : Nat) (l n : Int32) (ah : Option Nat) : Prop := tg z a 23 ∧ (z.2 a).2.2 = [.ref p, .int l, va_rf ah, .int n]
theorem x_acS {q h0 d k z f} (h : xI q h0 d k z f) {a : Nat} (ha : tg z a 23) : ∃ (p : Nat) (l n : Int32) (ah : Option Nat), acS z a p l n ah ∧ f a = .inr (0, [.ref p, .int l, va_rf ah, .int n]) ∧ lgP z p ∧ ∀ b, ah = some b → tg z b 23 ∧ (z.2 b).2.1 < (z.2 a).2.1 := by
  obtain ⟨h0, p, l, n, ah, h1, h2, h3⟩ := x_23 h ha
  exact ⟨p, l, n, ah, ⟨ha, h1⟩, by rw [h0, h1], h2, h3⟩
/-- an item of a known kind -/
theorem x_ifl {q h0 d k z f} (h : xI q h0 d k z f) {a : Nat} (ha : tg z a 10) : ∃ (nu kd cn : Int32) (pa fa : Nat) (l m : Int32), f a = .inr (2, [.int nu, .int kd, .ref pa, .int cn, .ref fa, .int l, .int m]) ∧ tg z pa 16 ∧ (z.2 pa).2.1 = a ∧ tg z fa 17 := by
  obtain ⟨nu, kd, cn, pa, fa, rest, e, h1, h2, h3, h4⟩ := x_im h (tg_itm ha (by decide))
  rw [ha.2] at e h4
  obtain ⟨l, m, e2⟩ := h4.1 rfl
  exact ⟨nu, kd, cn, pa, fa, l, m, by rw [e, e2]; rfl, h1, h2, h3⟩
theorem x_ihd {q h0 d k z f} (h : xI q h0 d k z f) {a : Nat} (ha : tg z a 11) : ∃ (nu kd cn : Int32) (pa fa o : Nat) (w y : Int32), f a = .inr (3, [.int nu, .int kd, .ref pa, .int cn, .ref fa, .ref o, .int w, .int y]) ∧ tg z pa 16 ∧ (z.2 pa).2.1 = a ∧ tg z fa 17 ∧ tg z o 15 := by
  obtain ⟨nu, kd, cn, pa, fa, rest, e, h1, h2, h3, h4⟩ := x_im h (tg_itm ha (by decide))
  rw [ha.2] at e h4
  obtain ⟨o, w, y, e2, h5⟩ := h4.2.1 rfl
  exact ⟨nu, kd, cn, pa, fa, o, w, y, by rw [e, e2]; rfl, h1, h2, h3, h5⟩
theorem x_ino {q h0 d k z f} (h : xI q h0 d k z f) {a : Nat} (ha : tg z a 12) : ∃ (nu kd cn : Int32) (pa fa o : Nat) (y : Int32), f a = .inr (4, [.int nu, .int kd, .ref pa, .int cn, .ref fa, .ref o, .int y]) ∧ tg z pa 16 ∧ (z.2 pa).2.1 = a ∧ tg z fa 17 ∧ itm z o := by
  obtain ⟨nu, kd, cn, pa, fa, rest, e, h1, h2, h3, h4⟩ := x_im h (tg_itm ha (by decide))
  rw [ha.2] at e h4
  obtain ⟨o, y, e2, h5⟩ := h4.2.2.1 rfl
  exact ⟨nu, kd, cn, pa, fa, o, y, by rw [e, e2]; rfl, h1, h2, h3, h5⟩
theorem x_ipd {q h0 d k z f} (h : xI q h0 d k z f) {a : Nat} (ha : tg z a 13) : ∃ (nu kd cn : Int32) (pa fa : Nat) (b pr : Int32) (sp dy : Nat), f a = .inr (5, [.int nu, .int kd, .ref pa, .int cn, .ref fa, .int b, .int pr, .ref sp, .ref dy]) ∧ tg z pa 16 ∧ (z.2 pa).2.1 = a ∧ tg z fa 17 ∧ bw b 0 9 = true ∧ lgP z sp ∧ tg z dy 21 := by
  obtain ⟨nu, kd, cn, pa, fa, rest, e, h1, h2, h3, h4⟩ := x_im h (tg_itm ha (by decide))
  rw [ha.2] at e h4
  obtain ⟨b, pr, sp, dy, e2, h5⟩ := h4.2.2.2.1 rfl
  exact ⟨nu, kd, cn, pa, fa, b, pr, sp, dy, by rw [e, e2]; rfl, h1, h2, h3, h5⟩
theorem x_ipi {q h0 d k z f} (h : xI q h0 d k z f) {a : Nat} (ha : tg z a 14) : ∃ (nu kd cn : Int32) (pa fa ww hh : Nat) (sz : Int32), f a = .inr (6, [.int nu, .int kd, .ref pa, .int cn, .ref fa, .ref ww, .ref hh, .int sz]) ∧ tg z pa 16 ∧ (z.2 pa).2.1 = a ∧ tg z fa 17 ∧ tg z ww 20 ∧ tg z hh 20 ∧ bw sz 0 4 = true := by
  obtain ⟨nu, kd, cn, pa, fa, rest, e, h1, h2, h3, h4⟩ := x_im h (tg_itm ha (by decide))
  rw [ha.2] at e h4
  obtain ⟨ww, hh, sz, e2, h5⟩ := h4.2.2.2.2.1 rfl
  exact ⟨nu, kd, cn, pa, fa, ww, hh, sz, by rw [e, e2]; rfl, h1, h2, h3, h5⟩
theorem x_ist {q h0 d k z f} (h : xI q h0 d k z f) {a : Nat} (ha : tg z a 15) : ∃ (nu kd cn : Int32) (pa fa : Nat) (l co : Int32) (wd nm : Nat), f a = .inr (9, [.int nu, .int kd, .ref pa, .int cn, .ref fa, .int l, .ref wd, .int co, .ref nm]) ∧ tg z pa 16 ∧ (z.2 pa).2.1 = a ∧ tg z fa 17 ∧ tg z wd 18 ∧ bw co 0 80 = true ∧ tg z nm 19 := by
  obtain ⟨nu, kd, cn, pa, fa, rest, e, h1, h2, h3, h4⟩ := x_im h (tg_itm ha (by decide))
  rw [ha.2] at e h4
  obtain ⟨l, co, wd, nm, e2, h5⟩ := h4.2.2.2.2.2 rfl
  exact ⟨nu, kd, cn, pa, fa, l, co, wd, nm, by rw [e, e2]; rfl, h1, h2, h3, h5⟩
/-- an item's pieces, by its own fields -/
theorem x_pcs {q h0 d k z f} (h : xI q h0 d k z f) {a : Nat} (ha : itm z a) {c : Nat} (hc : c = ciT (z.2 a).1) {nu kd cn : Int32} {pa fa : Nat} {rest : List Value} (hf : f a = .inr (c, .int nu :: .int kd :: .ref pa :: .int cn :: .ref fa :: rest)) : ∃ n g, f pa = aR (q 5) n g ∧ 1 ≤ n ∧ n ≤ 6 ∧ bw cn 0 (nI n) = true ∧ (∀ j, j < cn.toNatClampNeg → ∃ b, g j = some b) ∧ ∀ j, j < n → ∀ b, g j = some b → lgP z b := by
  subst hc
  obtain ⟨n, g, r1, r2, r3, r4, r5⟩ := h.2.2.2.2 a ha nu kd cn pa fa rest hf
  obtain ⟨nu2, kd2, cn2, pa2, fa2, rest2, e1, e2, -⟩ := x_im h ha
  rw [hf] at e1
  have e3 : itF nu kd pa cn fa rest = itF nu2 kd2 pa2 cn2 fa2 rest2 := (Prod.mk.inj (Sum.inr.inj e1)).2
  unfold itF at e3
  have e4 : pa = pa2 := by
    simp only [List.cons.injEq, Value.ref.injEq] at e3
    exact e3.2.2.1
  rw [← e4] at e2
  obtain ⟨n2, -, -, g2, q1, q2⟩ := x_pc h e2
  have e5 := r1.symm.trans q1
  have e6 := (Prod.mk.inj (Prod.mk.inj (Sum.inl.inj e5)).2)
  obtain ⟨e7, e8⟩ := e6
  have e9 : g = g2 := Sum.inr.inj (Sum.inr.inj (Sum.inr.inj (Sum.inr.inj e8)))
  exact ⟨n, g, r1, r2, r3, r4, r5, by rw [e7, e9]; exact q2⟩
abbrev xU : Type := (Nat → Int32) × gS × xF
theorem cO_2 {q : Nat → ClassId} {z : gS} {a : Nat} {e : va_E} (h : (z.2 a).1 = 2) (w : wPg q z e) : cO q z a e := cO_of h ⟨fun _ => w, fun x => absurd x (by decide), fun x => absurd x (by decide), fun x => absurd x (by decide), fun x => absurd x (by decide), fun x => absurd x (by decide), fun x => absurd x (by decide), fun x => absurd x (by decide), fun x y => absurd x (by decide), fun x => absurd x (by decide), fun x => absurd x (by decide), fun x => absurd x (by decide), fun x => absurd x (by decide), fun x => absurd x (by decide), fun x => absurd x (by decide), fun x => absurd x (by decide), fun x => absurd x (by decide)⟩
theorem cO_3 {q : Nat → ClassId} {z : gS} {a : Nat} {e : va_E} (h : (z.2 a).1 = 3) (w : wR q 2 12 (fun b => tg z b 7) e) : cO q z a e := cO_of h ⟨fun x => absurd x (by decide), fun _ => w, fun x => absurd x (by decide), fun x => absurd x (by decide), fun x => absurd x (by decide), fun x => absurd x (by decide), fun x => absurd x (by decide), fun x => absurd x (by decide), fun x y => absurd x (by decide), fun x => absurd x (by decide), fun x => absurd x (by decide), fun x => absurd x (by decide), fun x => absurd x (by decide), fun x => absurd x (by decide), fun x => absurd x (by decide), fun x => absurd x (by decide), fun x => absurd x (by decide)⟩
theorem cO_4 {q : Nat → ClassId} {z : gS} {a : Nat} {e : va_E} (h : (z.2 a).1 = 4) (w : wR q 3 80 (itm z) e) : cO q z a e := cO_of h ⟨fun x => absurd x (by decide), fun x => absurd x (by decide), fun _ => w, fun x => absurd x (by decide), fun x => absurd x (by decide), fun x => absurd x (by decide), fun x => absurd x (by decide), fun x => absurd x (by decide), fun x y => absurd x (by decide), fun x => absurd x (by decide), fun x => absurd x (by decide), fun x => absurd x (by decide), fun x => absurd x (by decide), fun x => absurd x (by decide), fun x => absurd x (by decide), fun x => absurd x (by decide), fun x => absurd x (by decide)⟩
theorem cO_5 {q : Nat → ClassId} {z : gS} {a : Nat} {e : va_E} (h : (z.2 a).1 = 5) (w : wR q 4 300 (fun b => tg z b 23) e) : cO q z a e := cO_of h ⟨fun x => absurd x (by decide), fun x => absurd x (by decide), fun x => absurd x (by decide), fun _ => w, fun x => absurd x (by decide), fun x => absurd x (by decide), fun x => absurd x (by decide), fun x => absurd x (by decide), fun x y => absurd x (by decide), fun x => absurd x (by decide), fun x => absurd x (by decide), fun x => absurd x (by decide), fun x => absurd x (by decide), fun x => absurd x (by decide), fun x => absurd x (by decide), fun x => absurd x (by decide), fun x => absurd x (by decide)⟩
theorem cO_6 {q : Nat → ClassId} {z : gS} {a : Nat} {e : va_E} (h : (z.2 a).1 = 6) (w : wZ q e) : cO q z a e := cO_of h ⟨fun x => absurd x (by decide), fun x => absurd x (by decide), fun x => absurd x (by decide), fun x => absurd x (by decide), fun _ => w, fun x => absurd x (by decide), fun x => absurd x (by decide), fun x => absurd x (by decide), fun x y => absurd x (by decide), fun x => absurd x (by decide), fun x => absurd x (by decide), fun x => absurd x (by decide), fun x => absurd x (by decide), fun x => absurd x (by decide), fun x => absurd x (by decide), fun x => absurd x (by decide), fun x => absurd x (by decide)⟩
theorem cO_7 {q : Nat → ClassId} {z : gS} {a : Nat} {e : va_E} (h : (z.2 a).1 = 7) (w : wSh z e) : cO q z a e := cO_of h ⟨fun x => absurd x (by decide), fun x => absurd x (by decide), fun x => absurd x (by decide), fun x => absurd x (by decide), fun x => absurd x (by decide), fun _ => w, fun x => absurd x (by decide), fun x => absurd x (by decide), fun x y => absurd x (by decide), fun x => absurd x (by decide), fun x => absurd x (by decide), fun x => absurd x (by decide), fun x => absurd x (by decide), fun x => absurd x (by decide), fun x => absurd x (by decide), fun x => absurd x (by decide), fun x => absurd x (by decide)⟩
theorem cO_8 {q : Nat → ClassId} {z : gS} {a : Nat} {e : va_E} (h : (z.2 a).1 = 8) (w : wLn q e) : cO q z a e := cO_of h ⟨fun x => absurd x (by decide), fun x => absurd x (by decide), fun x => absurd x (by decide), fun x => absurd x (by decide), fun x => absurd x (by decide), fun x => absurd x (by decide), fun _ => w, fun x => absurd x (by decide), fun x y => absurd x (by decide), fun x => absurd x (by decide), fun x => absurd x (by decide), fun x => absurd x (by decide), fun x => absurd x (by decide), fun x => absurd x (by decide), fun x => absurd x (by decide), fun x => absurd x (by decide), fun x => absurd x (by decide)⟩
theorem cO_9 {q : Nat → ClassId} {z : gS} {a : Nat} {e : va_E} (h : (z.2 a).1 = 9) (w : wI q 0 480 e) : cO q z a e := cO_of h ⟨fun x => absurd x (by decide), fun x => absurd x (by decide), fun x => absurd x (by decide), fun x => absurd x (by decide), fun x => absurd x (by decide), fun x => absurd x (by decide), fun x => absurd x (by decide), fun _ => w, fun x y => absurd x (by decide), fun x => absurd x (by decide), fun x => absurd x (by decide), fun x => absurd x (by decide), fun x => absurd x (by decide), fun x => absurd x (by decide), fun x => absurd x (by decide), fun x => absurd x (by decide), fun x => absurd x (by decide)⟩
theorem cO_16 {q : Nat → ClassId} {z : gS} {a : Nat} {e : va_E} (h : (z.2 a).1 = 16) (w : wPc q z e) : cO q z a e := cO_of h ⟨fun x => absurd x (by decide), fun x => absurd x (by decide), fun x => absurd x (by decide), fun x => absurd x (by decide), fun x => absurd x (by decide), fun x => absurd x (by decide), fun x => absurd x (by decide), fun x => absurd x (by decide), fun x y => absurd y (by decide), fun _ => w, fun x => absurd x (by decide), fun x => absurd x (by decide), fun x => absurd x (by decide), fun x => absurd x (by decide), fun x => absurd x (by decide), fun x => absurd x (by decide), fun x => absurd x (by decide)⟩
theorem cO_17 {q : Nat → ClassId} {z : gS} {a : Nat} {e : va_E} (h : (z.2 a).1 = 17) (w : wI q 0 5 e) : cO q z a e := cO_of h ⟨fun x => absurd x (by decide), fun x => absurd x (by decide), fun x => absurd x (by decide), fun x => absurd x (by decide), fun x => absurd x (by decide), fun x => absurd x (by decide), fun x => absurd x (by decide), fun x => absurd x (by decide), fun x y => absurd y (by decide), fun x => absurd x (by decide), fun _ => w, fun x => absurd x (by decide), fun x => absurd x (by decide), fun x => absurd x (by decide), fun x => absurd x (by decide), fun x => absurd x (by decide), fun x => absurd x (by decide)⟩
theorem cO_18 {q : Nat → ClassId} {z : gS} {a : Nat} {e : va_E} (h : (z.2 a).1 = 18) (w : wI q 0 80 e) : cO q z a e := cO_of h ⟨fun x => absurd x (by decide), fun x => absurd x (by decide), fun x => absurd x (by decide), fun x => absurd x (by decide), fun x => absurd x (by decide), fun x => absurd x (by decide), fun x => absurd x (by decide), fun x => absurd x (by decide), fun x y => absurd y (by decide), fun x => absurd x (by decide), fun x => absurd x (by decide), fun _ => w, fun x => absurd x (by decide), fun x => absurd x (by decide), fun x => absurd x (by decide), fun x => absurd x (by decide), fun x => absurd x (by decide)⟩
theorem cO_19 {q : Nat → ClassId} {z : gS} {a : Nat} {e : va_E} (h : (z.2 a).1 = 19) (w : wI q 1 10 e) : cO q z a e := cO_of h ⟨fun x => absurd x (by decide), fun x => absurd x (by decide), fun x => absurd x (by decide), fun x => absurd x (by decide), fun x => absurd x (by decide), fun x => absurd x (by decide), fun x => absurd x (by decide), fun x => absurd x (by decide), fun x y => absurd y (by decide), fun x => absurd x (by decide), fun x => absurd x (by decide), fun x => absurd x (by decide), fun _ => w, fun x => absurd x (by decide), fun x => absurd x (by decide), fun x => absurd x (by decide), fun x => absurd x (by decide)⟩
theorem cO_20 {q : Nat → ClassId} {z : gS} {a : Nat} {e : va_E} (h : (z.2 a).1 = 20) (w : wI q 0 4 e) : cO q z a e := cO_of h ⟨fun x => absurd x (by decide), fun x => absurd x (by decide), fun x => absurd x (by decide), fun x => absurd x (by decide), fun x => absurd x (by decide), fun x => absurd x (by decide), fun x => absurd x (by decide), fun x => absurd x (by decide), fun x y => absurd y (by decide), fun x => absurd x (by decide), fun x => absurd x (by decide), fun x => absurd x (by decide), fun x => absurd x (by decide), fun _ => w, fun x => absurd x (by decide), fun x => absurd x (by decide), fun x => absurd x (by decide)⟩
theorem cO_21 {q : Nat → ClassId} {z : gS} {a : Nat} {e : va_E} (h : (z.2 a).1 = 21) (w : wI q 1 400 e) : cO q z a e := cO_of h ⟨fun x => absurd x (by decide), fun x => absurd x (by decide), fun x => absurd x (by decide), fun x => absurd x (by decide), fun x => absurd x (by decide), fun x => absurd x (by decide), fun x => absurd x (by decide), fun x => absurd x (by decide), fun x y => absurd y (by decide), fun x => absurd x (by decide), fun x => absurd x (by decide), fun x => absurd x (by decide), fun x => absurd x (by decide), fun x => absurd x (by decide), fun _ => w, fun x => absurd x (by decide), fun x => absurd x (by decide)⟩
theorem cO_22 {q : Nat → ClassId} {z : gS} {a : Nat} {e : va_E} (h : (z.2 a).1 = 22) (w : wPi z a e) : cO q z a e := cO_of h ⟨fun x => absurd x (by decide), fun x => absurd x (by decide), fun x => absurd x (by decide), fun x => absurd x (by decide), fun x => absurd x (by decide), fun x => absurd x (by decide), fun x => absurd x (by decide), fun x => absurd x (by decide), fun x y => absurd y (by decide), fun x => absurd x (by decide), fun x => absurd x (by decide), fun x => absurd x (by decide), fun x => absurd x (by decide), fun x => absurd x (by decide), fun x => absurd x (by decide), fun _ => w, fun x => absurd x (by decide)⟩
theorem cO_23 {q : Nat → ClassId} {z : gS} {a : Nat} {e : va_E} (h : (z.2 a).1 = 23) (w : wAc z a e) : cO q z a e := cO_of h ⟨fun x => absurd x (by decide), fun x => absurd x (by decide), fun x => absurd x (by decide), fun x => absurd x (by decide), fun x => absurd x (by decide), fun x => absurd x (by decide), fun x => absurd x (by decide), fun x => absurd x (by decide), fun x y => absurd y (by decide), fun x => absurd x (by decide), fun x => absurd x (by decide), fun x => absurd x (by decide), fun x => absurd x (by decide), fun x => absurd x (by decide), fun x => absurd x (by decide), fun x => absurd x (by decide), fun _ => w⟩
theorem cO_I {q : Nat → ClassId} {z : gS} {a : Nat} {e : va_E} (h : itm z a) (w : wItem z a e) : cO q z a e := by
  have h2 := h.2
  exact ⟨fun x => absurd x (by omega), fun x => absurd x (by omega), fun x => absurd x (by omega), fun x => absurd x (by omega), fun x => absurd x (by omega), fun x => absurd x (by omega), fun x => absurd x (by omega), fun x => absurd x (by omega), fun _ _ => w, fun x => absurd x (by omega), fun x => absurd x (by omega), fun x => absurd x (by omega), fun x => absurd x (by omega), fun x => absurd x (by omega), fun x => absurd x (by omega), fun x => absurd x (by omega), fun x => absurd x (by omega)⟩
theorem cO_1 {q : Nat → ClassId} {z : gS} {a : Nat} {e : va_E} (h : (z.2 a).1 = 1) : cO q z a e := cO_of h ⟨fun x => absurd x (by decide), fun x => absurd x (by decide), fun x => absurd x (by decide), fun x => absurd x (by decide), fun x => absurd x (by decide), fun x => absurd x (by decide), fun x => absurd x (by decide), fun x => absurd x (by decide), fun x y => absurd x (by decide), fun x => absurd x (by decide), fun x => absurd x (by decide), fun x => absurd x (by decide), fun x => absurd x (by decide), fun x => absurd x (by decide), fun x => absurd x (by decide), fun x => absurd x (by decide), fun x => absurd x (by decide)⟩
/-- the items' row: below the count there is one, and each is an item -/
theorem x_itm {q h0 d k z f} (h : xI q h0 d k z f) : ∃ g, f (d 2) = aR (q 3) 80 g ∧ (∀ j, j < (k 0).toNatClampNeg → ∃ b, g j = some b) ∧ ∀ j, j < 80 → ∀ b, g j = some b → itm z b := by
  obtain ⟨g, e1, e2⟩ := h.2.2.2.1.2
  obtain ⟨g2, q1, q2⟩ := x_it h h.2.1.2.2.2.1
  have e5 := e1.symm.trans q1
  have e9 : g = g2 := Sum.inr.inj (Sum.inr.inj (Sum.inr.inj (Sum.inr.inj (Prod.mk.inj (Prod.mk.inj (Sum.inl.inj e5)).2).2)))
  exact ⟨g, e1, e2, by rw [e9]; exact q2⟩
/-- the desk's ints -/
theorem x_dk {q h0 d k z f} (h : xI q h0 d k z f) {k2 : Nat → Int32} (hk : kOK k2) (h0k : (k2 0).toNatClampNeg ≤ (k 0).toNatClampNeg) : xI q h0 d k2 z (va_up f h0 (.inr (10, dkF d k2))) := by
  obtain ⟨h1, h2, h3, ⟨g1, g, g2, g3⟩, h5⟩ := h
  refine ⟨hk, h2, up_loc h3 (cO_1 h2.1.2), ⟨up_s, g, by rw [up_o (tg_ne h2.2.2.2.1 h2.1 (by decide))]; exact g2, fun j hj => g3 j (by omega)⟩, ?_⟩
  intro b hb nu kd cn pa fa rest hf
  have hne : b ≠ h0 := fun e => by have := hb.2; rw [e, h2.1.2] at this; omega
  rw [up_o hne] at hf
  obtain ⟨n, g, r1, r2⟩ := h5 b hb nu kd cn pa fa rest hf
  have hp : pa ≠ h0 := fun e => by
    obtain ⟨nu2, kd2, cn2, pa2, fa2, rest2, e1, e2, -⟩ := (h3 b hb.1).2.2.2.2.2.2.2.2.1 hb.2.1 hb.2.2
    rw [hf] at e1
    have e3 : itF nu kd pa cn fa rest = itF nu2 kd2 pa2 cn2 fa2 rest2 := (Prod.mk.inj (Sum.inr.inj e1)).2
    unfold itF at e3
    have e4 : pa = pa2 := by
      simp only [List.cons.injEq, Value.ref.injEq] at e3
      exact e3.2.2.1
    have e5 := e2.2
    rw [← e4, e, h2.1.2] at e5
    exact absurd e5 (by decide)
  exact ⟨n, g, by rw [up_o hp]; exact r1, r2⟩
set_option maxHeartbeats 4000000 in
set_option maxRecDepth 100000 in
theorem x_isWithin (l : Launch) (dC : Nat → ClassId) (dI : Nat → Nat → Nat) (p0 p1 p2 : Int32) : Met l yX11_isWithin wsX11_isWithin ({ frames := 0, cells := 0, slots := 0, locals := 0 }) (va_Pc [.int p0, .int p1, .int p2] (PW dC dI [] [])) (vp_Si (fun r => r = bi (bw p0 p1 p2))) 0 0 (fun _ => False) := by
  refine Met.ofW (cc := cX11_isWithin) (maxL := 3) (ret := (some .boolean)) (by decide) rfl ?_
  intro p e s m args below meth c s₁ B hml hv
  obtain ⟨rfl, hP, hK, hN⟩ := hv
  have hx := B.exec
  have hb := B.bytes
  have hr := B.returns
  have hts := atoms_spec (ws := wsX11_isWithin) B.pre
  have hown : s.vm.findClass RX11 = some m.cls := findClass_of_methodNamed B.named
  have hlocks := B.notSynchronized
  have hl := lv_entry ([.int p0, .int p1, .int p2]) (n := 3) (Nat.le_of_ble_eq_true rfl)
  rw [lg_entry_eq]
  generalize (lg_sl ([.int p0, .int p1, .int p2]) ++ List.replicate (3 - (lg_sl ([.int p0, .int p1, .int p2])).length) Slot.unset).toArray = ls at hl ⊢
  have hl : lv_has ls 3 [(0, .int p0), (1, .int p1), (2, .int p2)] := hl
  refine lv_iload_n hx hb dX11_isWithin_0 rfl (lv_at hl 0 rfl) ?_
  refine lv_iload_n hx hb dX11_isWithin_1 rfl (lv_at hl 1 rfl) ?_
  refine lv_icmp_lt (tgt := 14) hx hb dX11_isWithin_2 (by decide) (fun c_1 => ?_) (fun c_1 => ?_)
  ·
    refine lv_iconst (v := 0) hx hb dX11_isWithin_14 (by decide) ?_
    exact W.zret (v := 0) hx hb hr (by decide) (fun t ht hW => ⟨_, rfl, bw0a c_1, ht⟩) (fun q h => absurd h List.not_mem_nil) dX11_isWithin_15
  ·
    refine lv_iload_n hx hb dX11_isWithin_5 rfl (lv_at hl 0 rfl) ?_
    refine lv_iload_n hx hb dX11_isWithin_6 rfl (lv_at hl 2 rfl) ?_
    refine lv_icmp_gt (tgt := 14) hx hb dX11_isWithin_7 (by decide) (fun c_2 => ?_) (fun c_2 => ?_)
    ·
      refine lv_iconst (v := 0) hx hb dX11_isWithin_14 (by decide) ?_
      exact W.zret (v := 0) hx hb hr (by decide) (fun t ht hW => ⟨_, rfl, bw0b c_2, ht⟩) (fun q h => absurd h List.not_mem_nil) dX11_isWithin_15
    ·
      refine lv_iconst (v := 1) hx hb dX11_isWithin_10 (by decide) ?_
      refine lv_goto (tgt := 15) hx hb dX11_isWithin_11 (by decide) ?_
      exact W.zret (v := 1) hx hb hr (by decide) (fun t ht hW => ⟨_, rfl, bw1 c_1 c_2, ht⟩) (fun q h => absurd h List.not_mem_nil) dX11_isWithin_15
set_option maxHeartbeats 4000000 in
set_option maxRecDepth 100000 in
theorem x_isPage (l : Launch) (dC : Nat → ClassId) (dI : Nat → Nat → Nat) (p0 : Int32) : Met l yX11_isPage wsX11_isPage ({ frames := 1, cells := 0, slots := 0, locals := 22 }) (va_Pc [.int p0] (PW dC dI [] [])) (vp_Si (fun r => r = bi (bw p0 0 11))) 0 0 (fun _ => False) := by
  refine Met.ofW (cc := cX11_isPage) (maxL := 1) (ret := (some .boolean)) (by decide) rfl ?_
  intro p e s m args below meth c s₁ B hml hv
  obtain ⟨rfl, hP, hK, hN⟩ := hv
  have hx := B.exec
  have hb := B.bytes
  have hr := B.returns
  have hts := atoms_spec (ws := wsX11_isPage) B.pre
  have hown : s.vm.findClass RX11 = some m.cls := findClass_of_methodNamed B.named
  have hlocks := B.notSynchronized
  have hl := lv_entry ([.int p0]) (n := 1) (Nat.le_of_ble_eq_true rfl)
  rw [lg_entry_eq]
  generalize (lg_sl ([.int p0]) ++ List.replicate (1 - (lg_sl ([.int p0])).length) Slot.unset).toArray = ls at hl ⊢
  have hl : lv_has ls 1 [(0, .int p0)] := hl
  refine lv_iload_n hx hb dX11_isPage_0 rfl (lv_at hl 0 rfl) ?_
  refine lv_iconst (v := 0) hx hb dX11_isPage_1 (by decide) ?_
  refine lv_bipush (v := 11) hx hb dX11_isPage_2 (by decide) ?_
  refine vp_callSi (va_runS (As := [.int p0, .int 0, .int 11]) (rest := []) ⟨hx, hb, hml, hown, hts⟩ (x_isWithin l dC dI p0 0 11) (va_cwS 3 hts gX11_isPage_X11_isWithin rfl rfl rfl zh_X11_isWithin_30 ⟨Nat.le_of_ble_eq_true rfl, Nat.le_of_ble_eq_true rfl⟩) ⟨pw_fb, fun U hU hW => ⟨rfl, pw_to hU hW (hP.sub (ws' := []) [] rfl) (hK.sub (tys' := []) [] rfl) hN⟩⟩ rfl rfl hl.1 rfl (lv_room (Nat.le_of_ble_eq_true rfl)) dX11_isPage_4 ⟨Nat.le_of_ble_eq_true rfl, Nat.le_of_ble_eq_true rfl⟩).run (fun r hw => ?_)
  rcases Bool.eq_false_or_eq_true (bw p0 0 11) with b_1 | b_1
  ·
    obtain rfl : r = 1 := b_t hw b_1
    exact W.zret (v := 1) hx hb hr (by decide) (fun t ht hW => ⟨_, rfl, (by simp [bi, b_1]), ht⟩) (fun q h => absurd h List.not_mem_nil) dX11_isPage_7
  ·
    obtain rfl : r = 0 := b_f hw b_1
    exact W.zret (v := 0) hx hb hr (by decide) (fun t ht hW => ⟨_, rfl, (by simp [bi, b_1]), ht⟩) (fun q h => absurd h List.not_mem_nil) dX11_isPage_7
set_option maxHeartbeats 4000000 in
set_option maxRecDepth 100000 in
theorem x_isColumn (l : Launch) (dC : Nat → ClassId) (dI : Nat → Nat → Nat) (p0 : Int32) : Met l yX11_isColumn wsX11_isColumn ({ frames := 1, cells := 0, slots := 0, locals := 22 }) (va_Pc [.int p0] (PW dC dI [] [])) (vp_Si (fun r => r = bi (bw p0 0 7))) 0 0 (fun _ => False) := by
  refine Met.ofW (cc := cX11_isColumn) (maxL := 1) (ret := (some .boolean)) (by decide) rfl ?_
  intro p e s m args below meth c s₁ B hml hv
  obtain ⟨rfl, hP, hK, hN⟩ := hv
  have hx := B.exec
  have hb := B.bytes
  have hr := B.returns
  have hts := atoms_spec (ws := wsX11_isColumn) B.pre
  have hown : s.vm.findClass RX11 = some m.cls := findClass_of_methodNamed B.named
  have hlocks := B.notSynchronized
  have hl := lv_entry ([.int p0]) (n := 1) (Nat.le_of_ble_eq_true rfl)
  rw [lg_entry_eq]
  generalize (lg_sl ([.int p0]) ++ List.replicate (1 - (lg_sl ([.int p0])).length) Slot.unset).toArray = ls at hl ⊢
  have hl : lv_has ls 1 [(0, .int p0)] := hl
  refine lv_iload_n hx hb dX11_isColumn_0 rfl (lv_at hl 0 rfl) ?_
  refine lv_iconst (v := 0) hx hb dX11_isColumn_1 (by decide) ?_
  refine lv_bipush (v := 7) hx hb dX11_isColumn_2 (by decide) ?_
  refine vp_callSi (va_runS (As := [.int p0, .int 0, .int 7]) (rest := []) ⟨hx, hb, hml, hown, hts⟩ (x_isWithin l dC dI p0 0 7) (va_cwS 3 hts gX11_isColumn_X11_isWithin rfl rfl rfl zh_X11_isWithin_30 ⟨Nat.le_of_ble_eq_true rfl, Nat.le_of_ble_eq_true rfl⟩) ⟨pw_fb, fun U hU hW => ⟨rfl, pw_to hU hW (hP.sub (ws' := []) [] rfl) (hK.sub (tys' := []) [] rfl) hN⟩⟩ rfl rfl hl.1 rfl (lv_room (Nat.le_of_ble_eq_true rfl)) dX11_isColumn_4 ⟨Nat.le_of_ble_eq_true rfl, Nat.le_of_ble_eq_true rfl⟩).run (fun r hw => ?_)
  rcases Bool.eq_false_or_eq_true (bw p0 0 7) with b_1 | b_1
  ·
    obtain rfl : r = 1 := b_t hw b_1
    exact W.zret (v := 1) hx hb hr (by decide) (fun t ht hW => ⟨_, rfl, (by simp [bi, b_1]), ht⟩) (fun q h => absurd h List.not_mem_nil) dX11_isColumn_7
  ·
    obtain rfl : r = 0 := b_f hw b_1
    exact W.zret (v := 0) hx hb hr (by decide) (fun t ht hW => ⟨_, rfl, (by simp [bi, b_1]), ht⟩) (fun q h => absurd h List.not_mem_nil) dX11_isColumn_7
set_option maxHeartbeats 4000000 in
set_option maxRecDepth 100000 in
theorem x_isBuyer (l : Launch) (dC : Nat → ClassId) (dI : Nat → Nat → Nat) (p0 : Int32) : Met l yX11_isBuyer wsX11_isBuyer ({ frames := 1, cells := 0, slots := 0, locals := 22 }) (va_Pc [.int p0] (PW dC dI [] [])) (vp_Si (fun r => r = bi (bw p0 0 9))) 0 0 (fun _ => False) := by
  refine Met.ofW (cc := cX11_isBuyer) (maxL := 1) (ret := (some .boolean)) (by decide) rfl ?_
  intro p e s m args below meth c s₁ B hml hv
  obtain ⟨rfl, hP, hK, hN⟩ := hv
  have hx := B.exec
  have hb := B.bytes
  have hr := B.returns
  have hts := atoms_spec (ws := wsX11_isBuyer) B.pre
  have hown : s.vm.findClass RX11 = some m.cls := findClass_of_methodNamed B.named
  have hlocks := B.notSynchronized
  have hl := lv_entry ([.int p0]) (n := 1) (Nat.le_of_ble_eq_true rfl)
  rw [lg_entry_eq]
  generalize (lg_sl ([.int p0]) ++ List.replicate (1 - (lg_sl ([.int p0])).length) Slot.unset).toArray = ls at hl ⊢
  have hl : lv_has ls 1 [(0, .int p0)] := hl
  refine lv_iload_n hx hb dX11_isBuyer_0 rfl (lv_at hl 0 rfl) ?_
  refine lv_iconst (v := 0) hx hb dX11_isBuyer_1 (by decide) ?_
  refine lv_bipush (v := 9) hx hb dX11_isBuyer_2 (by decide) ?_
  refine vp_callSi (va_runS (As := [.int p0, .int 0, .int 9]) (rest := []) ⟨hx, hb, hml, hown, hts⟩ (x_isWithin l dC dI p0 0 9) (va_cwS 3 hts gX11_isBuyer_X11_isWithin rfl rfl rfl zh_X11_isWithin_30 ⟨Nat.le_of_ble_eq_true rfl, Nat.le_of_ble_eq_true rfl⟩) ⟨pw_fb, fun U hU hW => ⟨rfl, pw_to hU hW (hP.sub (ws' := []) [] rfl) (hK.sub (tys' := []) [] rfl) hN⟩⟩ rfl rfl hl.1 rfl (lv_room (Nat.le_of_ble_eq_true rfl)) dX11_isBuyer_4 ⟨Nat.le_of_ble_eq_true rfl, Nat.le_of_ble_eq_true rfl⟩).run (fun r hw => ?_)
  rcases Bool.eq_false_or_eq_true (bw p0 0 9) with b_1 | b_1
  ·
    obtain rfl : r = 1 := b_t hw b_1
    exact W.zret (v := 1) hx hb hr (by decide) (fun t ht hW => ⟨_, rfl, (by simp [bi, b_1]), ht⟩) (fun q h => absurd h List.not_mem_nil) dX11_isBuyer_7
  ·
    obtain rfl : r = 0 := b_f hw b_1
    exact W.zret (v := 0) hx hb hr (by decide) (fun t ht hW => ⟨_, rfl, (by simp [bi, b_1]), ht⟩) (fun q h => absurd h List.not_mem_nil) dX11_isBuyer_7
set_option maxHeartbeats 4000000 in
set_option maxRecDepth 100000 in
theorem x_isSquare (l : Launch) (dC : Nat → ClassId) (dI : Nat → Nat → Nat) (p0 p1 : Int32) : Met l yX11_isSquare wsX11_isSquare ({ frames := 1, cells := 0, slots := 0, locals := 22 }) (va_Pc [.int p0, .int p1] (PW dC dI [] [])) (vp_Si (fun r => r = bi (bw p0 1 8 && bw p1 1 60))) 0 0 (fun _ => False) := by
  refine Met.ofW (cc := cX11_isSquare) (maxL := 2) (ret := (some .boolean)) (by decide) rfl ?_
  intro p e s m args below meth c s₁ B hml hv
  obtain ⟨rfl, hP, hK, hN⟩ := hv
  have hx := B.exec
  have hb := B.bytes
  have hr := B.returns
  have hts := atoms_spec (ws := wsX11_isSquare) B.pre
  have hown : s.vm.findClass RX11 = some m.cls := findClass_of_methodNamed B.named
  have hlocks := B.notSynchronized
  have hl := lv_entry ([.int p0, .int p1]) (n := 2) (Nat.le_of_ble_eq_true rfl)
  rw [lg_entry_eq]
  generalize (lg_sl ([.int p0, .int p1]) ++ List.replicate (2 - (lg_sl ([.int p0, .int p1])).length) Slot.unset).toArray = ls at hl ⊢
  have hl : lv_has ls 2 [(0, .int p0), (1, .int p1)] := hl
  refine lv_iload_n hx hb dX11_isSquare_0 rfl (lv_at hl 0 rfl) ?_
  refine lv_iconst (v := 1) hx hb dX11_isSquare_1 (by decide) ?_
  refine lv_bipush (v := 8) hx hb dX11_isSquare_2 (by decide) ?_
  refine vp_callSi (va_runS (As := [.int p0, .int 1, .int 8]) (rest := []) ⟨hx, hb, hml, hown, hts⟩ (x_isWithin l dC dI p0 1 8) (va_cwS 3 hts gX11_isSquare_X11_isWithin rfl rfl rfl zh_X11_isWithin_30 ⟨Nat.le_of_ble_eq_true rfl, Nat.le_of_ble_eq_true rfl⟩) ⟨pw_fb, fun U hU hW => ⟨rfl, pw_to hU hW (hP.sub (ws' := []) [] rfl) (hK.sub (tys' := []) [] rfl) hN⟩⟩ rfl rfl hl.1 rfl (lv_room (Nat.le_of_ble_eq_true rfl)) dX11_isSquare_4 ⟨Nat.le_of_ble_eq_true rfl, Nat.le_of_ble_eq_true rfl⟩).run (fun r hw => ?_)
  rcases Bool.eq_false_or_eq_true (bw p0 1 8) with b_1 | b_1
  ·
    obtain rfl : r = 1 := b_t hw b_1
    refine lv_if_eq (tgt := 24) hx hb dX11_isSquare_7 (by decide) (fun c_2 => absurd c_2 (by decide)) (fun c_2 => ?_)
    refine lv_iload_n hx hb dX11_isSquare_10 rfl (lv_at hl 1 rfl) ?_
    refine lv_iconst (v := 1) hx hb dX11_isSquare_11 (by decide) ?_
    refine lv_bipush (v := 60) hx hb dX11_isSquare_12 (by decide) ?_
    refine vp_callSi (va_runS (As := [.int p1, .int 1, .int 60]) (rest := []) ⟨hx, hb, hml, hown, hts⟩ (x_isWithin l dC dI p1 1 60) (va_cwS 3 hts gX11_isSquare_X11_isWithin rfl rfl rfl zh_X11_isWithin_30 ⟨Nat.le_of_ble_eq_true rfl, Nat.le_of_ble_eq_true rfl⟩) ⟨pw_fb, fun U hU hW => ⟨rfl, pw_to hU hW (hP.sub (ws' := []) [] rfl) (hK.sub (tys' := []) [] rfl) hN⟩⟩ rfl rfl hl.1 rfl (lv_room (Nat.le_of_ble_eq_true rfl)) dX11_isSquare_14 ⟨Nat.le_of_ble_eq_true rfl, Nat.le_of_ble_eq_true rfl⟩).run (fun r hw => ?_)
    rcases Bool.eq_false_or_eq_true (bw p1 1 60) with b_3 | b_3
    ·
      obtain rfl : r = 1 := b_t hw b_3
      refine lv_if_eq (tgt := 24) hx hb dX11_isSquare_17 (by decide) (fun c_4 => absurd c_4 (by decide)) (fun c_4 => ?_)
      refine lv_iconst (v := 1) hx hb dX11_isSquare_20 (by decide) ?_
      refine lv_goto (tgt := 25) hx hb dX11_isSquare_21 (by decide) ?_
      exact W.zret (v := 1) hx hb hr (by decide) (fun t ht hW => ⟨_, rfl, (by simp [bi, b_1, b_3]), ht⟩) (fun q h => absurd h List.not_mem_nil) dX11_isSquare_25
    ·
      obtain rfl : r = 0 := b_f hw b_3
      refine lv_if_eq (tgt := 24) hx hb dX11_isSquare_17 (by decide) (fun c_5 => ?_) (fun c_5 => absurd (by decide) c_5)
      refine lv_iconst (v := 0) hx hb dX11_isSquare_24 (by decide) ?_
      exact W.zret (v := 0) hx hb hr (by decide) (fun t ht hW => ⟨_, rfl, (by simp [bi, b_1, b_3]), ht⟩) (fun q h => absurd h List.not_mem_nil) dX11_isSquare_25
  ·
    obtain rfl : r = 0 := b_f hw b_1
    refine lv_if_eq (tgt := 24) hx hb dX11_isSquare_7 (by decide) (fun c_6 => ?_) (fun c_6 => absurd (by decide) c_6)
    refine lv_iconst (v := 0) hx hb dX11_isSquare_24 (by decide) ?_
    exact W.zret (v := 0) hx hb hr (by decide) (fun t ht hW => ⟨_, rfl, (by simp [bi, b_1]), ht⟩) (fun q h => absurd h List.not_mem_nil) dX11_isSquare_25
theorem vin60 {a b n : Int32} (ha : bw a 0 7 = true) (hn : bw n 0 60 = true) (hb : bw b 0 (n - 1) = true) : vp_in (a * 60 + b) 480 := by
  have h60 : (60 : Int32).toInt = 60 := rfl
  have h7 : (7 : Int32).toInt = 7 := rfl
  have h1 := bw_iff.mp ha
  have h2 := bw_iff.mp hn
  have h3 := bw_iff.mp hb
  rw [i0, h7] at h1
  rw [i0, h60] at h2
  rw [i0, subI (by rw [i1]; omega) (by rw [i1]; omega), i1] at h3
  have e1 : (a * 60).toInt = a.toInt * 60 := by rw [mulI (by rw [h60]; omega) (by rw [h60]; omega), h60]
  rw [vp_in_iff, addI (by rw [e1]; omega) (by rw [e1]; omega), e1]; omega
theorem b59 {b n : Int32} (hn : bw n 0 60 = true) (hb : bw b 0 (n - 1) = true) : bw b 0 59 = true := by
  have h60 : (60 : Int32).toInt = 60 := rfl
  have h59 : (59 : Int32).toInt = 59 := rfl
  have h2 := bw_iff.mp hn
  have h3 := bw_iff.mp hb
  rw [i0, h60] at h2
  rw [i0, subI (by rw [i1]; omega) (by rw [i1]; omega), i1] at h3
  rw [bw_iff, i0, h59]; omega
theorem sq_lg {X Y D N : Int32} (h1 : (bw D 1 8 && bw N 1 60) = true) (h2 : bw X 0 7 = true) (h3 : bw Y 0 (60 - N) = true) : bw X 0 7 = true ∧ bw Y 0 60 = true ∧ bw D 0 8 = true ∧ bw N 0 60 = true := by
  obtain ⟨a, b⟩ := band h1
  have e60 : (60 : Int32).toInt = 60 := rfl
  have e8 : (8 : Int32).toInt = 8 := rfl
  have a1 := bw_iff.mp a
  have b1 := bw_iff.mp b
  have c1 := bw_iff.mp h3
  rw [i1, e8] at a1
  rw [i1, e60] at b1
  rw [i0, subI (by rw [e60]; omega) (by rw [e60]; omega), e60] at c1
  refine ⟨h2, ?_, ?_, ?_⟩
  · rw [bw_iff, i0, e60]; omega
  · rw [bw_iff, i0, e8]; omega
  · rw [bw_iff, i0, e60]; omega
/-- an item's fields are told once -/
theorem itF_inj {nu kd nu2 kd2 cn cn2 : Int32} {pa fa pa2 fa2 : Nat} {rest rest2 : List Value} {c c2 : Nat} (h : (Sum.inr (c, itF nu kd pa cn fa rest) : va_E) = .inr (c2, itF nu2 kd2 pa2 cn2 fa2 rest2)) : nu = nu2 ∧ kd = kd2 ∧ pa = pa2 ∧ cn = cn2 ∧ fa = fa2 ∧ rest = rest2 := by
  have e3 : itF nu kd pa cn fa rest = itF nu2 kd2 pa2 cn2 fa2 rest2 := (Prod.mk.inj (Sum.inr.inj h)).2
  unfold itF at e3
  simp only [List.cons.injEq, Value.ref.injEq, Value.int.injEq] at e3
  exact ⟨e3.1, e3.2.1, e3.2.2.1, e3.2.2.2.1, e3.2.2.2.2.1, e3.2.2.2.2.2⟩
theorem aR_inj {c c2 : ClassId} {n n2 : Nat} {g g2 : Nat → Option Nat} (h : aR c n g = aR c2 n2 g2) : n = n2 ∧ g = g2 := by
  have e6 := (Prod.mk.inj (Prod.mk.inj (Sum.inl.inj h)).2)
  exact ⟨e6.1, Sum.inr.inj (Sum.inr.inj (Sum.inr.inj (Sum.inr.inj e6.2)))⟩
/-- pieces and count of an item written anew, both or one -/
theorem x_pp {q h0 d k z f} (h : xI q h0 d k z f) {a : Nat} (ha : itm z a) {nu kd cn cn2 : Int32} {pa fa : Nat} {rest : List Value} (hf : f a = .inr (ciT (z.2 a).1, itF nu kd pa cn fa rest)) {n : Nat} {g g2 : Nat → Option Nat} (hp : f pa = aR (q 5) n g) (hc : bw cn2 0 (nI n) = true) (hn : ∀ j, j < cn2.toNatClampNeg → ∃ b, g2 j = some b) (hg : ∀ j, j < n → ∀ b, g2 j = some b → lgP z b) : xI q h0 d k z (va_up (va_up f pa (aR (q 5) n g2)) a (.inr (ciT (z.2 a).1, itF nu kd pa cn2 fa rest))) := by
  obtain ⟨h1, h2, h3, ⟨g1, gi, g2i, g3⟩, h5⟩ := h
  obtain ⟨nu2, kd2, cn3, pa2, fa2, rest2, e1, e2, e3, e4, e5⟩ := (h3 a ha.1).2.2.2.2.2.2.2.2.1 ha.2.1 ha.2.2
  obtain ⟨i1_, i2, i3, i4, i5, i6⟩ := itF_inj (hf.symm.trans e1)
  subst i3 i5 i6
  obtain ⟨n2, q1, q2, gx, q3, q4⟩ := (h3 pa e2.1).2.2.2.2.2.2.2.2.2.1 e2.2
  obtain ⟨j1, j2⟩ := aR_inj (hp.symm.trans q3)
  subst j1
  have hne : a ≠ pa := fun e => by have := ha.2; rw [e, e2.2] at this; omega
  have ha1 : a ≠ h0 := fun e => by have := ha.2; rw [e, h2.1.2] at this; omega
  have ha4 : a ≠ d 2 := fun e => by have := ha.2; rw [e, h2.2.2.2.1.2] at this; omega
  refine ⟨h1, h2, up_loc (up_loc h3 (cO_16 e2.2 ⟨n, q1, q2, g2, rfl, hg⟩)) (cO_I ha ⟨nu, kd, cn2, pa, fa, rest, rfl, e2, e3, e4, e5⟩), ⟨?_, gi, ?_, g3⟩, ?_⟩
  · rw [up_o (fun e => ha1 e.symm), up_o (tg_ne h2.1 e2 (by decide))]; exact g1
  · rw [up_o (fun e => ha4 e.symm), up_o (tg_ne h2.2.2.2.1 e2 (by decide))]; exact g2i
  · intro b hb mu md mn ma mf ms hm
    by_cases eb : b = a
    · subst eb
      rw [up_s] at hm
      obtain ⟨o1, o2, o3, o4, o5, o6⟩ := itF_inj hm
      subst o3 o4
      exact ⟨n, g2, by rw [up_o (fun e => hne e.symm), up_s], q1, q2, hc, hn⟩
    · rw [up_o eb] at hm
      have hbp : b ≠ pa := fun e => by have := hb.2; rw [e, e2.2] at this; omega
      rw [up_o hbp] at hm
      obtain ⟨n5, g5, r1, r2⟩ := h5 b hb mu md mn ma mf ms hm
      obtain ⟨nu7, kd7, cn7, pa7, fa7, rest7, t1, t2, t3, -⟩ := (h3 b hb.1).2.2.2.2.2.2.2.2.1 hb.2.1 hb.2.2
      obtain ⟨-, -, u3, -⟩ := itF_inj (hm.symm.trans t1)
      rw [← u3] at t2 t3
      have hma : ma ≠ pa := fun e => eb (by rw [← t3, e, e3])
      have hma2 : ma ≠ a := fun e => by have := ha.2; rw [← e, t2.2] at this; omega
      exact ⟨n5, g5, by rw [up_o hma2, up_o hma]; exact r1, r2⟩
theorem up_id {f : xF} {a : Nat} {e : va_E} (h : f a = e) : va_up f a e = f := by
  funext b
  by_cases e1 : b = a
  · rw [e1, up_s, h]
  · rw [up_o e1]
/-- the pieces alone -/
theorem x_upP {q h0 d k z f} (h : xI q h0 d k z f) {a : Nat} (ha : itm z a) {nu kd cn : Int32} {pa fa : Nat} {rest : List Value} (hf : f a = .inr (ciT (z.2 a).1, itF nu kd pa cn fa rest)) {n : Nat} {g g2 : Nat → Option Nat} (hp : f pa = aR (q 5) n g) (hpa : pa ≠ a) (hc : bw cn 0 (nI n) = true) (hn : ∀ j, j < cn.toNatClampNeg → ∃ b, g2 j = some b) (hg : ∀ j, j < n → ∀ b, g2 j = some b → lgP z b) : xI q h0 d k z (va_up f pa (aR (q 5) n g2)) := by
  have h1 := x_pp h ha hf hp hc hn hg
  rw [up_id (by rw [up_o (fun e => hpa e.symm)]; exact hf)] at h1
  exact h1
/-- the count alone -/
theorem x_upC {q h0 d k z f} (h : xI q h0 d k z f) {a : Nat} (ha : itm z a) {nu kd cn cn2 : Int32} {pa fa : Nat} {rest : List Value} (hf : f a = .inr (ciT (z.2 a).1, itF nu kd pa cn fa rest)) {n : Nat} {g : Nat → Option Nat} (hp : f pa = aR (q 5) n g) (hc : bw cn2 0 (nI n) = true) (hn : ∀ j, j < cn2.toNatClampNeg → ∃ b, g j = some b) (hg : ∀ j, j < n → ∀ b, g j = some b → lgP z b) : xI q h0 d k z (va_up f a (.inr (ciT (z.2 a).1, itF nu kd pa cn2 fa rest))) := by
  have h1 := x_pp h ha hf hp hc hn hg
  rw [up_id hp] at h1
  exact h1
theorem x_pan {q h0 d k z f} (h : xI q h0 d k z f) {a : Nat} (ha : itm z a) {pa : Nat} (hp : tg z pa 16) : pa ≠ a := fun e => by have := ha.2; rw [← e, hp.2] at this; omega
theorem nn_up {g : Nat → Option Nat} {m i : Nat} {v : Option Nat} (h : ∀ j, j < m → ∃ b, g j = some b) (hi : m ≤ i) : ∀ j, j < m → ∃ x, va_up g i v j = some x := by
  intro j hj; unfold va_up; rw [if_neg (by omega)]; exact h j hj
theorem nn_up1 {g : Nat → Option Nat} {m b : Nat} (h : ∀ j, j < m → ∃ b, g j = some b) : ∀ j, j < m + 1 → ∃ x, va_up g m (some b) j = some x := by
  intro j hj
  unfold va_up
  by_cases e : j = m
  · exact ⟨b, if_pos e⟩
  · rw [if_neg e]; exact h j (by omega)
theorem ty_up {P : Nat → Prop} {g : Nat → Option Nat} {n i : Nat} {v : Option Nat} (h : ∀ j, j < n → ∀ b, g j = some b → P b) (hv : ∀ b, v = some b → P b) : ∀ j, j < n → ∀ b, va_up g i v j = some b → P b := by
  intro j hj b hb
  unfold va_up at hb
  split at hb
  · exact hv b hb
  · exact h j hj b hb
theorem ty_s {P : Nat → Prop} {a : Nat} (h : P a) : ∀ b, some a = some b → P b := fun b e => by rw [← Option.some.inj e]; exact h
theorem ty_n {P : Nat → Prop} : ∀ b : Nat, (none : Option Nat) = some b → P b := fun b e => by cases e
theorem vcn {cn : Int32} {n : Nat} (hn : n ≤ 6) (h : bw cn 0 (nI n) = true) (h2 : ¬ nI n ≤ cn) : vp_in cn n := by
  have h1 := bw_iff.mp h
  rw [i0, nI_toInt (by omega)] at h1
  rw [i32_le, nI_toInt (by omega)] at h2
  rw [vp_in_iff]; omega
theorem bcn1 {cn x : Int32} {n : Nat} (hn : n ≤ 6) (h : bw cn 0 (nI n) = true) (h2 : ¬ nI n ≤ cn) (hx : x = cn + 1) : bw x 0 (nI n) = true ∧ x.toNatClampNeg = cn.toNatClampNeg + 1 := by
  have h1 := bw_iff.mp h
  rw [i0, nI_toInt (by omega)] at h1
  rw [i32_le, nI_toInt (by omega)] at h2
  obtain ⟨j, j1, j2, e⟩ := exN h (by decide)
  rw [nI_toInt (by omega)] at j1
  subst e
  rw [nI_toInt (by omega)] at h2 h1
  rw [hx, nI_1, nI_clamp (by omega), nI_clamp (by omega)]
  exact ⟨bwN (by rw [nI_toInt (by omega)]; omega) (by omega), rfl⟩
theorem bcm1 {cn x : Int32} {n : Nat} (hn : n ≤ 6) (h : bw cn 0 (nI n) = true) (h2 : ¬ cn ≤ 0) (hx : x = cn - 1) : bw x 0 (nI n) = true ∧ x.toNatClampNeg + 1 = cn.toNatClampNeg ∧ vp_in x n := by
  have h1 := bw_iff.mp h
  rw [i0, nI_toInt (by omega)] at h1
  rw [i32_le, i0] at h2
  obtain ⟨j, j1, j2, e⟩ := exN h (by decide)
  rw [nI_toInt (by omega)] at j1
  subst e
  rw [nI_toInt (by omega)] at h2 h1
  rw [hx, dn_e (by omega), nI_clamp (by omega), nI_clamp (by omega)]
  exact ⟨bwN (by rw [nI_toInt (by omega)]; omega) (by omega), by omega, vp_in_nI (by omega) (by omega)⟩
theorem up_comm {f : xF} {a b : Nat} {x y : va_E} (h : a ≠ b) : va_up (va_up f a x) b y = va_up (va_up f b y) a x := by
  funext c
  unfold va_up
  by_cases e1 : c = b
  · rw [if_pos e1, if_neg (fun e => h (by rw [← e, e1])), if_pos e1]
  · rw [if_neg e1]
    by_cases e2 : c = a
    · rw [if_pos e2, if_pos e2]
    · rw [if_neg e2, if_neg e2, if_neg e1]
theorem la_step {q h0 d k z f} {a0 : Nat} {nu kd : Int32} {pa fa n : Nat} {rs : List Value} {g : Nat → Option Nat} (hI : xI q h0 d k z (va_up f a0 (.inr (ciT (z.2 a0).1, itF nu kd pa 0 fa rs)))) (ha0 : itm z a0) (hne : pa ≠ a0) (hp : f pa = aR (q 5) n g) (hn1 : 1 ≤ n) (hn6 : n ≤ 6) (hg : ∀ j, j < n → ∀ b, g j = some b → lgP z b) (i : Nat) : xI q h0 d k z (va_up (va_up f pa (aR (q 5) n (va_up g i none))) a0 (.inr (ciT (z.2 a0).1, itF nu kd pa 0 fa rs))) := by
  rw [up_comm hne]
  exact x_upP hI ha0 up_s (by rw [up_o hne]; exact hp) hne (bwN (n := 0) (by rw [nI_toInt (by omega)]; omega) (by omega)) (fun j hj => absurd hj (Nat.not_lt_zero _)) (ty_up hg ty_n)
/-- an item's own fields written anew -/
theorem x_upR {q h0 d k z f} (h : xI q h0 d k z f) {a : Nat} (ha : itm z a) {nu kd cn : Int32} {pa fa : Nat} {rest rest2 : List Value} (hf : f a = .inr (ciT (z.2 a).1, itF nu kd pa cn fa rest)) (hr : rsT z (z.2 a).1 rest2) : xI q h0 d k z (va_up f a (.inr (ciT (z.2 a).1, itF nu kd pa cn fa rest2))) := by
  obtain ⟨h1, h2, h3, ⟨g1, gi, g2i, g3⟩, h5⟩ := h
  obtain ⟨nu2, kd2, cn3, pa2, fa2, rest3, e1, e2, e3, e4, e5⟩ := (h3 a ha.1).2.2.2.2.2.2.2.2.1 ha.2.1 ha.2.2
  obtain ⟨i1_, i2, i3, i4, i5, i6⟩ := itF_inj (hf.symm.trans e1)
  subst i3 i5 i6
  have hne : a ≠ pa := fun e => by have := ha.2; rw [e, e2.2] at this; omega
  have ha1 : a ≠ h0 := fun e => by have := ha.2; rw [e, h2.1.2] at this; omega
  have ha4 : a ≠ d 2 := fun e => by have := ha.2; rw [e, h2.2.2.2.1.2] at this; omega
  refine ⟨h1, h2, up_loc h3 (cO_I ha ⟨nu, kd, cn, pa, fa, rest2, rfl, e2, e3, e4, hr⟩), ⟨?_, gi, ?_, g3⟩, ?_⟩
  · rw [up_o (fun e => ha1 e.symm)]; exact g1
  · rw [up_o (fun e => ha4 e.symm)]; exact g2i
  · intro b hb mu md mn ma mf ms hm
    by_cases eb : b = a
    · subst eb
      rw [up_s] at hm
      obtain ⟨o1, o2, o3, o4, o5, o6⟩ := itF_inj hm
      subst o3 o4
      obtain ⟨n5, g5, r1, r2⟩ := h5 b hb nu kd cn pa fa _ hf
      exact ⟨n5, g5, by rw [up_o (fun e => hne e.symm)]; exact r1, r2⟩
    · rw [up_o eb] at hm
      obtain ⟨n5, g5, r1, r2⟩ := h5 b hb mu md mn ma mf ms hm
      obtain ⟨nu7, kd7, cn7, pa7, fa7, rest7, t1, t2, t3, -⟩ := (h3 b hb.1).2.2.2.2.2.2.2.2.1 hb.2.1 hb.2.2
      obtain ⟨-, -, u3, -⟩ := itF_inj (hm.symm.trans t1)
      rw [← u3] at t2
      have hma2 : ma ≠ a := fun e => by have := ha.2; rw [← e, t2.2] at this; omega
      exact ⟨n5, g5, by rw [up_o hma2]; exact r1, r2⟩
theorem x_upStory {q h0 d k z f} (h : xI q h0 d k z f) {a : Nat} (ha : tg z a 15) {nu kd cn l co co2 : Int32} {pa fa wd nm : Nat} (hf : f a = .inr (9, [.int nu, .int kd, .ref pa, .int cn, .ref fa, .int l, .ref wd, .int co, .ref nm])) (hw : tg z wd 18) (hn : tg z nm 19) (hc : bw co2 0 80 = true) : xI q h0 d k z (va_up f a (.inr (9, [.int nu, .int kd, .ref pa, .int cn, .ref fa, .int l, .ref wd, .int co2, .ref nm]))) := by
  have e : ciT (z.2 a).1 = 9 := by rw [ha.2]; rfl
  have h1 := x_upR (rest2 := [.int l, .ref wd, .int co2, .ref nm]) h (tg_itm ha (by decide)) (nu := nu) (kd := kd) (pa := pa) (cn := cn) (fa := fa) (rest := [.int l, .ref wd, .int co, .ref nm]) (by rw [e]; exact hf) (by rw [ha.2]; exact ⟨fun x => absurd x (by decide), fun x => absurd x (by decide), fun x => absurd x (by decide), fun x => absurd x (by decide), fun x => absurd x (by decide), fun _ => ⟨l, co2, wd, nm, rfl, hw, hc, hn⟩⟩)
  rw [e] at h1
  exact h1
theorem x_upPict {q h0 d k z f} (h : xI q h0 d k z f) {a : Nat} (ha : tg z a 14) {nu kd cn sz sz2 : Int32} {pa fa ww hh : Nat} (hf : f a = .inr (6, [.int nu, .int kd, .ref pa, .int cn, .ref fa, .ref ww, .ref hh, .int sz])) (hw : tg z ww 20) (hn : tg z hh 20) (hc : bw sz2 0 4 = true) : xI q h0 d k z (va_up f a (.inr (6, [.int nu, .int kd, .ref pa, .int cn, .ref fa, .ref ww, .ref hh, .int sz2]))) := by
  have e : ciT (z.2 a).1 = 6 := by rw [ha.2]; rfl
  have h1 := x_upR (rest2 := [.ref ww, .ref hh, .int sz2]) h (tg_itm ha (by decide)) (nu := nu) (kd := kd) (pa := pa) (cn := cn) (fa := fa) (rest := [.ref ww, .ref hh, .int sz]) (by rw [e]; exact hf) (by rw [ha.2]; exact ⟨fun x => absurd x (by decide), fun x => absurd x (by decide), fun x => absurd x (by decide), fun x => absurd x (by decide), fun _ => ⟨ww, hh, sz2, rfl, hw, hn, hc⟩, fun x => absurd x (by decide)⟩)
  rw [e] at h1
  exact h1
theorem vkn {p cn : Int32} {n : Nat} (hn : n ≤ 6) (hc : bw cn 0 (nI n) = true) (hp : bw p 0 (cn - 1) = true) : vp_in p n ∧ p.toNatClampNeg < cn.toNatClampNeg := by
  obtain ⟨j, j1, -, e⟩ := exN hc (by decide)
  rw [nI_toInt (by omega)] at j1
  subst e
  obtain ⟨m, m1, -, e⟩ := exN hp (by decide)
  subst e
  have h0 : 0 < j := by
    rcases Nat.eq_zero_or_pos j with z | z
    · subst z
      exfalso
      have e0 : (nI 0 - 1).toInt = -1 := rfl
      rw [e0] at m1; omega
    · exact z
  rw [dn_e h0, nI_toInt (by omega)] at m1
  rw [nI_clamp (by omega), nI_clamp (by omega)]
  exact ⟨vp_in_nI (by omega) (by omega), by omega⟩
theorem vknm {p cn : Int32} {n : Nat} (hn : n ≤ 6) (hc : bw cn 0 (nI n) = true) (hp : bw p 0 (cn - 1) = true) (h0 : ¬ p ≤ 0) : vp_in (p - 1) n ∧ (p - 1).toNatClampNeg < cn.toNatClampNeg := by
  have hb := vkn hn hc hp
  have h1 := vp_in_iff.mp hb.1
  rw [i32_le, i0] at h0
  obtain ⟨m, m1, e⟩ := nI_of (x := p) (fun q => by rw [i32_lt, i0] at q; omega)
  subst e
  rw [nI_toInt m1] at h0 h1
  have hl := hb.2
  rw [nI_clamp m1] at hl
  rw [dn_e (by omega), nI_clamp (by omega)]
  exact ⟨vp_in_nI (by omega) (by omega), by omega⟩
theorem vknp {p cn : Int32} {n : Nat} (hn : n ≤ 6) (hc : bw cn 0 (nI n) = true) (hp : bw p 0 (cn - 1) = true) (h0 : ¬ cn ≤ p + 1) : vp_in (p + 1) n ∧ (p + 1).toNatClampNeg < cn.toNatClampNeg := by
  have hb := vkn hn hc hp
  have h1 := vp_in_iff.mp hb.1
  obtain ⟨j, j1, -, e⟩ := exN hc (by decide)
  rw [nI_toInt (by omega)] at j1
  subst e
  obtain ⟨m, m1, e⟩ := nI_of (x := p) (fun q => by rw [i32_lt, i0] at q; omega)
  subst e
  rw [nI_toInt m1] at h1
  rw [nI_1] at h0 ⊢
  have h2 := nInle (by omega) (by omega) h0
  rw [nI_clamp (by omega), nI_clamp (by omega)]
  exact ⟨vp_in_nI (by omega) (by omega), h2⟩
theorem ct_b {co a n : Int32} (hc : bw co 0 80 = true) (h1 : ¬ a < 0) (h2 : ¬ n < 1) (h3 : n ≤ co - a) : ∃ A T : Nat, a = nI A ∧ n = nI T ∧ A + T ≤ 80 := by
  have e80 : (80 : Int32).toInt = 80 := rfl
  have c1 := bw_iff.mp hc
  rw [i0, e80] at c1
  obtain ⟨A, hA, eA⟩ := nI_of h1
  have hn0 : ¬ n < 0 := fun q => by rw [i32_lt, i0] at q; rw [i32_lt, i1] at h2; omega
  obtain ⟨T, hT, eT⟩ := nI_of hn0
  subst eA eT
  rw [i32_le, nI_toInt hT, subI (by rw [nI_toInt hA]; omega) (by rw [nI_toInt hA]; omega), nI_toInt hA] at h3
  exact ⟨A, T, rfl, rfl, by omega⟩
theorem vsz {p sz : Int32} (hs : bw sz 0 4 = true) (hp : bw p 0 (sz - 1) = true) : vp_in p 4 := by
  have e4 : (4 : Int32).toInt = 4 := rfl
  have h1 := bw_iff.mp hs
  have h2 := bw_iff.mp hp
  rw [i0, e4] at h1
  rw [i0, subI (by rw [i1]; omega) (by rw [i1]; omega), i1] at h2
  rw [vp_in_iff]; omega
set_option maxHeartbeats 4000000 in
set_option maxRecDepth 100000 in
theorem x_takenBy (l : Launch) (dC : Nat → ClassId) (dI : Nat → Nat → Nat) (q : Nat → ClassId) (h0 : Nat) (d : Nat → Nat) (k : Nat → Int32) (z : gS) (f : xF) (hI : xI q h0 d k z f) (a0 : Nat) (p0 : Int32) (ha0 : tg z a0 15) : Met l yX10_takenBy wsX10_takenBy ({ frames := 1, cells := 0, slots := 0, locals := 22 }) (va_Pc [.ref a0, .int p0] (PX dC dI (va_pl z.1 f) (xT q))) (vp_Si (fun r => True)) 0 0 (fun _ => False) := by
  refine Met.ofW (cc := cX10_takenBy) (maxL := 3) (ret := (some .int)) (by decide) rfl ?_
  intro p e s m args below meth c s₁ B hml hv
  obtain ⟨rfl, ⟨hP, hK, hN⟩, hXN⟩ := hv
  have hx := B.exec
  have hb := B.bytes
  have hr := B.returns
  have hts := atoms_spec (ws := wsX10_takenBy) B.pre
  have hown : s.vm.findClass RX10 = some m.cls := findClass_of_methodNamed B.named
  have hlocks := B.notSynchronized
  have hl := lv_entry ([.ref a0, .int p0]) (n := 3) (Nat.le_of_ble_eq_true rfl)
  rw [lg_entry_eq]
  generalize (lg_sl ([.ref a0, .int p0]) ++ List.replicate (3 - (lg_sl ([.ref a0, .int p0])).length) Slot.unset).toArray = ls at hl ⊢
  have hl : lv_has ls 3 [(0, .ref a0), (1, .int p0)] := hl
  refine lv_iload_n hx hb dX10_takenBy_0 rfl (lv_at hl 1 rfl) ?_
  refine lv_iconst (v := 0) hx hb dX10_takenBy_1 (by decide) ?_
  refine lv_aload_n hx hb dX10_takenBy_2 rfl (lv_at hl 0 rfl) ?_
  obtain ⟨nu_1, kd_2, cn_3, pa_4, fa_5, l_6, co_7, wd_8, nm_9, hs_10, hs_11, hs_12, hs_13, hq_14, hq_15, hq_16⟩ := x_ist hI ha0
  obtain ⟨kk_17, hk_18⟩ := pl_at ha0.1 hs_10
  refine va_get (D := (dC, dI)) (ci := 9) (v := .int cn_3) (C := RX10) (T := TX10) (N := 9) hx hb hts zl_X10_takenBy_X10 hown hK hP kk_17 hk_18 rfl 3 (by decide) (hts (.fieldLink RX10 49 "PageOne$Story" "count" "I") (zat q_wsX10_takenBy k_wsX10_takenBy 195 rfl (by decide +kernel))) (fun x9 h9 => u_same (hts (.sameField "PageOne$Story" "PageOne$Item" "count" "I") (zat q_wsX10_takenBy k_wsX10_takenBy 196 rfl (by decide +kernel))) x9 h9) rfl dX10_takenBy_3 ?_
  refine lv_iconst (v := 1) hx hb dX10_takenBy_6 (by decide) ?_
  refine lv_isub hx hb dX10_takenBy_7 ?_
  refine vp_callSi (va_runSN (As := [.int p0, .int 0, .int (cn_3 - 1)]) (rest := []) ⟨hx, hb, hml, hown, hts⟩ (x_isWithin l dC dI p0 0 (cn_3 - 1)) ⟨va_cnB (host := "PageOne") 3 hts gX10_takenBy_X11_isWithin_n26 rfl rfl rfl hN.n_RX10_26 (hts (.initialized RX11) (zat q_wsX10_takenBy k_wsX10_takenBy 53 rfl (by decide +kernel))) (by decide +kernel) ⟨Nat.le_of_ble_eq_true rfl, Nat.le_of_ble_eq_true rfl⟩, hts (.static yX11_isWithin) (zat q_wsX10_takenBy k_wsX10_takenBy 148 rfl (by decide +kernel)), trivial⟩ ⟨pw_fb, fun U hU hW => ⟨rfl, pw_to hU hW (hP.sub (ws' := []) [] rfl) (hK.sub (tys' := []) [] rfl) hN⟩⟩ rfl rfl hl.1 rfl (lv_room (Nat.le_of_ble_eq_true rfl)) dX10_takenBy_8 ⟨Nat.le_of_ble_eq_true rfl, Nat.le_of_ble_eq_true rfl⟩).run (fun r hw => ?_)
  rcases Bool.eq_false_or_eq_true (bw p0 0 (cn_3 - 1)) with b_19 | b_19
  ·
    obtain rfl : r = 1 := b_t hw b_19
    refine lv_if_ne (tgt := 16) hx hb dX10_takenBy_11 (by decide) (fun c_20 => ?_) (fun c_20 => absurd c_20 (by decide))
    refine lv_aload_n hx hb dX10_takenBy_16 rfl (lv_at hl 0 rfl) ?_
    obtain ⟨kk_21, hk_22⟩ := pl_at ha0.1 hs_10
    refine va_get (D := (dC, dI)) (ci := 9) (v := .ref pa_4) (C := RX10) (T := TX10) (N := 9) hx hb hts zl_X10_takenBy_X10 hown hK hP kk_21 hk_22 rfl 2 (by decide) (hts (.fieldLink RX10 60 "PageOne$Story" "pieces" "[LPageOne$Piece;") (zat q_wsX10_takenBy k_wsX10_takenBy 191 rfl (by decide +kernel))) (fun x9 h9 => u_same (hts (.sameField "PageOne$Story" "PageOne$Item" "pieces" "[LPageOne$Piece;") (zat q_wsX10_takenBy k_wsX10_takenBy 192 rfl (by decide +kernel))) x9 h9) rfl dX10_takenBy_17 ?_
    refine lv_iload_n hx hb dX10_takenBy_20 rfl (lv_at hl 1 rfl) ?_
    obtain ⟨n_23, g_24, hs_25, h1_26, h6_27, hc_28, hn_29, hg_30⟩ := x_pcs hI (tg_itm ha0 (by decide)) (by rw [ha0.2]; rfl) hs_10
    obtain ⟨kk_31, hk_32⟩ := pl_at hs_11.1 hs_25
    refine va_aldq hx hb hK hP kk_31 5 hk_32 rfl (vkn h6_27 hc_28 b_19).1 dX10_takenBy_21 ?_
    obtain ⟨b_33, hg_34⟩ := hn_29 (p0 : Int32).toNatClampNeg (vkn h6_27 hc_28 b_19).2
    have ht_35 := hg_30 (p0 : Int32).toNatClampNeg (vlt (vkn h6_27 hc_28 b_19).1) b_33 hg_34
    rw [hg_34]
    refine W.eq (g2 := F0 m 22 ls [.ref b_33]) rfl ?_
    have hcp := ht_35
    obtain ⟨it_36, P_37, X_38, Y_39, D_40, N_41, hp_42, hb_43, hb_44, hb_45, hb_46⟩ := hcp
    obtain ⟨kk_47, hk_48⟩ := pl_at hp_42.1.1 (x_pcF hI hp_42)
    refine va_get (D := (dC, dI)) (ci := 7) (v := .int N_41) (C := RX8) (T := TX8) (N := 6) hx hb hts zl_X10_takenBy_X8 hown hK hP kk_47 hk_48 rfl 5 (by decide) (hts (.fieldLink RX10 34 "PageOne$Piece" "h" "I") (zat q_wsX10_takenBy k_wsX10_takenBy 336 rfl (by decide +kernel))) (fun _ h9 => h9) rfl dX10_takenBy_22 ?_
    refine lv_istore_n (lv' := [(2, .int N_41), (0, .ref a0), (1, .int p0)]) hx hb dX10_takenBy_25 rfl hl (by decide) rfl (fun ls hl => ?_)
    refine lv_iload_n hx hb dX10_takenBy_26 rfl (lv_at hl 2 rfl) ?_
    refine lv_if_le (tgt := 56) hx hb dX10_takenBy_27 (by decide) (fun c_49 => ?_) (fun c_49 => ?_)
    ·
      refine lv_iload_n hx hb dX10_takenBy_56 rfl (lv_at hl 2 rfl) ?_
      refine lv_iconst (v := 1) hx hb dX10_takenBy_57 (by decide) ?_
      refine lv_iadd hx hb dX10_takenBy_58 ?_
      refine lv_aload_n hx hb dX10_takenBy_59 rfl (lv_at hl 1 rfl) ?_
      obtain ⟨kk_50, hk_51⟩ := pl_at ha0.1 hs_10
      refine va_get (D := (dC, dI)) (ci := 9) (v := .int cn_3) (C := RX10) (T := TX10) (N := 9) hx hb hts zl_X10_takenBy_X10 hown hK hP kk_50 hk_51 rfl 3 (by decide) (hts (.fieldLink RX10 49 "PageOne$Story" "count" "I") (zat q_wsX10_takenBy k_wsX10_takenBy 195 rfl (by decide +kernel))) (fun x9 h9 => u_same (hts (.sameField "PageOne$Story" "PageOne$Item" "count" "I") (zat q_wsX10_takenBy k_wsX10_takenBy 196 rfl (by decide +kernel))) x9 h9) rfl dX10_takenBy_60 ?_
      refine lv_icmp_ge (tgt := 92) hx hb dX10_takenBy_63 (by decide) (fun c_52 => ?_) (fun c_52 => ?_)
      ·
        refine lv_iload_n hx hb dX10_takenBy_92 rfl (lv_at hl 0 rfl) ?_
        exact W.iret (v := N_41) hx hb hr (fun t ht hW => ⟨_, rfl, trivial, ht⟩) (fun q h => absurd h List.not_mem_nil) dX10_takenBy_93
      ·
        refine lv_aload_n hx hb dX10_takenBy_66 rfl (lv_at hl 1 rfl) ?_
        obtain ⟨kk_53, hk_54⟩ := pl_at ha0.1 hs_10
        refine va_get (D := (dC, dI)) (ci := 9) (v := .ref pa_4) (C := RX10) (T := TX10) (N := 9) hx hb hts zl_X10_takenBy_X10 hown hK hP kk_53 hk_54 rfl 2 (by decide) (hts (.fieldLink RX10 60 "PageOne$Story" "pieces" "[LPageOne$Piece;") (zat q_wsX10_takenBy k_wsX10_takenBy 191 rfl (by decide +kernel))) (fun x9 h9 => u_same (hts (.sameField "PageOne$Story" "PageOne$Item" "pieces" "[LPageOne$Piece;") (zat q_wsX10_takenBy k_wsX10_takenBy 192 rfl (by decide +kernel))) x9 h9) rfl dX10_takenBy_67 ?_
        refine lv_iload_n hx hb dX10_takenBy_70 rfl (lv_at hl 2 rfl) ?_
        refine lv_iconst (v := 1) hx hb dX10_takenBy_71 (by decide) ?_
        refine lv_iadd hx hb dX10_takenBy_72 ?_
        obtain ⟨kk_55, hk_56⟩ := pl_at hs_11.1 hs_25
        refine va_aldq hx hb hK hP kk_55 5 hk_56 rfl (vknp h6_27 hc_28 b_19 c_52).1 dX10_takenBy_73 ?_
        obtain ⟨b_57, hg_58⟩ := hn_29 ((p0 + 1) : Int32).toNatClampNeg (vknp h6_27 hc_28 b_19 c_52).2
        have ht_59 := hg_30 ((p0 + 1) : Int32).toNatClampNeg (vlt (vknp h6_27 hc_28 b_19 c_52).1) b_57 hg_58
        rw [hg_58]
        refine W.eq (g2 := F0 m 74 ls [.ref b_57]) rfl ?_
        have hcp := ht_59
        obtain ⟨it_60, P_61, X_62, Y_63, D_64, N_65, hp_66, hb_67, hb_68, hb_69, hb_70⟩ := hcp
        obtain ⟨kk_71, hk_72⟩ := pl_at hp_66.1.1 (x_pcF hI hp_66)
        refine va_get (D := (dC, dI)) (ci := 7) (v := .int P_61) (C := RX8) (T := TX8) (N := 6) hx hb hts zl_X10_takenBy_X8 hown hK hP kk_71 hk_72 rfl 1 (by decide) (hts (.fieldLink RX10 42 "PageOne$Piece" "page" "I") (zat q_wsX10_takenBy k_wsX10_takenBy 319 rfl (by decide +kernel))) (fun _ h9 => h9) rfl dX10_takenBy_74 ?_
        refine lv_aload_n hx hb dX10_takenBy_77 rfl (lv_at hl 1 rfl) ?_
        obtain ⟨kk_73, hk_74⟩ := pl_at ha0.1 hs_10
        refine va_get (D := (dC, dI)) (ci := 9) (v := .ref pa_4) (C := RX10) (T := TX10) (N := 9) hx hb hts zl_X10_takenBy_X10 hown hK hP kk_73 hk_74 rfl 2 (by decide) (hts (.fieldLink RX10 60 "PageOne$Story" "pieces" "[LPageOne$Piece;") (zat q_wsX10_takenBy k_wsX10_takenBy 191 rfl (by decide +kernel))) (fun x9 h9 => u_same (hts (.sameField "PageOne$Story" "PageOne$Item" "pieces" "[LPageOne$Piece;") (zat q_wsX10_takenBy k_wsX10_takenBy 192 rfl (by decide +kernel))) x9 h9) rfl dX10_takenBy_78 ?_
        refine lv_iload_n hx hb dX10_takenBy_81 rfl (lv_at hl 2 rfl) ?_
        obtain ⟨kk_75, hk_76⟩ := pl_at hs_11.1 hs_25
        refine va_aldq hx hb hK hP kk_75 5 hk_76 rfl (vkn h6_27 hc_28 b_19).1 dX10_takenBy_82 ?_
        obtain ⟨b_77, hg_78⟩ := hn_29 (p0 : Int32).toNatClampNeg (vkn h6_27 hc_28 b_19).2
        have ht_79 := hg_30 (p0 : Int32).toNatClampNeg (vlt (vkn h6_27 hc_28 b_19).1) b_77 hg_78
        rw [hg_78]
        refine W.eq (g2 := F0 m 83 ls [.ref b_77, .int P_61]) rfl ?_
        have hcp := ht_79
        obtain ⟨it_80, P_81, X_82, Y_83, D_84, N_85, hp_86, hb_87, hb_88, hb_89, hb_90⟩ := hcp
        obtain ⟨kk_91, hk_92⟩ := pl_at hp_86.1.1 (x_pcF hI hp_86)
        refine va_get (D := (dC, dI)) (ci := 7) (v := .int P_81) (C := RX8) (T := TX8) (N := 6) hx hb hts zl_X10_takenBy_X8 hown hK hP kk_91 hk_92 rfl 1 (by decide) (hts (.fieldLink RX10 42 "PageOne$Piece" "page" "I") (zat q_wsX10_takenBy k_wsX10_takenBy 319 rfl (by decide +kernel))) (fun _ h9 => h9) rfl dX10_takenBy_83 ?_
        refine lv_icmp_eq (tgt := 92) hx hb dX10_takenBy_86 (by decide) (fun c_93 => ?_) (fun c_93 => ?_)
        ·
          refine lv_iload_n hx hb dX10_takenBy_92 rfl (lv_at hl 0 rfl) ?_
          exact W.iret (v := N_41) hx hb hr (fun t ht hW => ⟨_, rfl, trivial, ht⟩) (fun q h => absurd h List.not_mem_nil) dX10_takenBy_93
        ·
          obtain ⟨x_94, ex_94⟩ : ∃ y : Int32, y = N_41 + (-1) := ⟨_, rfl⟩
          refine lv_iinc (v := x_94) (lv' := [(2, .int x_94), (0, .ref a0), (1, .int p0)]) hx hb dX10_takenBy_89 hl (k := 0) rfl (by rw [ex_94]; rfl) (by decide) rfl (fun ls hl => ?_)
          refine lv_iload_n hx hb dX10_takenBy_92 rfl (lv_at hl 0 rfl) ?_
          exact W.iret (v := x_94) hx hb hr (fun t ht hW => ⟨_, rfl, trivial, ht⟩) (fun q h => absurd h List.not_mem_nil) dX10_takenBy_93
    ·
      refine lv_aload_n hx hb dX10_takenBy_30 rfl (lv_at hl 1 rfl) ?_
      obtain ⟨kk_95, hk_96⟩ := pl_at ha0.1 hs_10
      refine va_get (D := (dC, dI)) (ci := 9) (v := .ref pa_4) (C := RX10) (T := TX10) (N := 9) hx hb hts zl_X10_takenBy_X10 hown hK hP kk_95 hk_96 rfl 2 (by decide) (hts (.fieldLink RX10 60 "PageOne$Story" "pieces" "[LPageOne$Piece;") (zat q_wsX10_takenBy k_wsX10_takenBy 191 rfl (by decide +kernel))) (fun x9 h9 => u_same (hts (.sameField "PageOne$Story" "PageOne$Item" "pieces" "[LPageOne$Piece;") (zat q_wsX10_takenBy k_wsX10_takenBy 192 rfl (by decide +kernel))) x9 h9) rfl dX10_takenBy_31 ?_
      refine lv_iload_n hx hb dX10_takenBy_34 rfl (lv_at hl 2 rfl) ?_
      refine lv_iconst (v := 1) hx hb dX10_takenBy_35 (by decide) ?_
      refine lv_isub hx hb dX10_takenBy_36 ?_
      obtain ⟨kk_97, hk_98⟩ := pl_at hs_11.1 hs_25
      refine va_aldq hx hb hK hP kk_97 5 hk_98 rfl (vknm h6_27 hc_28 b_19 c_49).1 dX10_takenBy_37 ?_
      obtain ⟨b_99, hg_100⟩ := hn_29 ((p0 - 1) : Int32).toNatClampNeg (vknm h6_27 hc_28 b_19 c_49).2
      have ht_101 := hg_30 ((p0 - 1) : Int32).toNatClampNeg (vlt (vknm h6_27 hc_28 b_19 c_49).1) b_99 hg_100
      rw [hg_100]
      refine W.eq (g2 := F0 m 38 ls [.ref b_99]) rfl ?_
      have hcp := ht_101
      obtain ⟨it_102, P_103, X_104, Y_105, D_106, N_107, hp_108, hb_109, hb_110, hb_111, hb_112⟩ := hcp
      obtain ⟨kk_113, hk_114⟩ := pl_at hp_108.1.1 (x_pcF hI hp_108)
      refine va_get (D := (dC, dI)) (ci := 7) (v := .int P_103) (C := RX8) (T := TX8) (N := 6) hx hb hts zl_X10_takenBy_X8 hown hK hP kk_113 hk_114 rfl 1 (by decide) (hts (.fieldLink RX10 42 "PageOne$Piece" "page" "I") (zat q_wsX10_takenBy k_wsX10_takenBy 319 rfl (by decide +kernel))) (fun _ h9 => h9) rfl dX10_takenBy_38 ?_
      refine lv_aload_n hx hb dX10_takenBy_41 rfl (lv_at hl 1 rfl) ?_
      obtain ⟨kk_115, hk_116⟩ := pl_at ha0.1 hs_10
      refine va_get (D := (dC, dI)) (ci := 9) (v := .ref pa_4) (C := RX10) (T := TX10) (N := 9) hx hb hts zl_X10_takenBy_X10 hown hK hP kk_115 hk_116 rfl 2 (by decide) (hts (.fieldLink RX10 60 "PageOne$Story" "pieces" "[LPageOne$Piece;") (zat q_wsX10_takenBy k_wsX10_takenBy 191 rfl (by decide +kernel))) (fun x9 h9 => u_same (hts (.sameField "PageOne$Story" "PageOne$Item" "pieces" "[LPageOne$Piece;") (zat q_wsX10_takenBy k_wsX10_takenBy 192 rfl (by decide +kernel))) x9 h9) rfl dX10_takenBy_42 ?_
      refine lv_iload_n hx hb dX10_takenBy_45 rfl (lv_at hl 2 rfl) ?_
      obtain ⟨kk_117, hk_118⟩ := pl_at hs_11.1 hs_25
      refine va_aldq hx hb hK hP kk_117 5 hk_118 rfl (vkn h6_27 hc_28 b_19).1 dX10_takenBy_46 ?_
      obtain ⟨b_119, hg_120⟩ := hn_29 (p0 : Int32).toNatClampNeg (vkn h6_27 hc_28 b_19).2
      have ht_121 := hg_30 (p0 : Int32).toNatClampNeg (vlt (vkn h6_27 hc_28 b_19).1) b_119 hg_120
      rw [hg_120]
      refine W.eq (g2 := F0 m 47 ls [.ref b_119, .int P_103]) rfl ?_
      have hcp := ht_121
      obtain ⟨it_122, P_123, X_124, Y_125, D_126, N_127, hp_128, hb_129, hb_130, hb_131, hb_132⟩ := hcp
      obtain ⟨kk_133, hk_134⟩ := pl_at hp_128.1.1 (x_pcF hI hp_128)
      refine va_get (D := (dC, dI)) (ci := 7) (v := .int P_123) (C := RX8) (T := TX8) (N := 6) hx hb hts zl_X10_takenBy_X8 hown hK hP kk_133 hk_134 rfl 1 (by decide) (hts (.fieldLink RX10 42 "PageOne$Piece" "page" "I") (zat q_wsX10_takenBy k_wsX10_takenBy 319 rfl (by decide +kernel))) (fun _ h9 => h9) rfl dX10_takenBy_47 ?_
      refine lv_icmp_eq (tgt := 56) hx hb dX10_takenBy_50 (by decide) (fun c_135 => ?_) (fun c_135 => ?_)
      ·
        refine lv_iload_n hx hb dX10_takenBy_56 rfl (lv_at hl 2 rfl) ?_
        refine lv_iconst (v := 1) hx hb dX10_takenBy_57 (by decide) ?_
        refine lv_iadd hx hb dX10_takenBy_58 ?_
        refine lv_aload_n hx hb dX10_takenBy_59 rfl (lv_at hl 1 rfl) ?_
        obtain ⟨kk_136, hk_137⟩ := pl_at ha0.1 hs_10
        refine va_get (D := (dC, dI)) (ci := 9) (v := .int cn_3) (C := RX10) (T := TX10) (N := 9) hx hb hts zl_X10_takenBy_X10 hown hK hP kk_136 hk_137 rfl 3 (by decide) (hts (.fieldLink RX10 49 "PageOne$Story" "count" "I") (zat q_wsX10_takenBy k_wsX10_takenBy 195 rfl (by decide +kernel))) (fun x9 h9 => u_same (hts (.sameField "PageOne$Story" "PageOne$Item" "count" "I") (zat q_wsX10_takenBy k_wsX10_takenBy 196 rfl (by decide +kernel))) x9 h9) rfl dX10_takenBy_60 ?_
        refine lv_icmp_ge (tgt := 92) hx hb dX10_takenBy_63 (by decide) (fun c_138 => ?_) (fun c_138 => ?_)
        ·
          refine lv_iload_n hx hb dX10_takenBy_92 rfl (lv_at hl 0 rfl) ?_
          exact W.iret (v := N_41) hx hb hr (fun t ht hW => ⟨_, rfl, trivial, ht⟩) (fun q h => absurd h List.not_mem_nil) dX10_takenBy_93
        ·
          refine lv_aload_n hx hb dX10_takenBy_66 rfl (lv_at hl 1 rfl) ?_
          obtain ⟨kk_139, hk_140⟩ := pl_at ha0.1 hs_10
          refine va_get (D := (dC, dI)) (ci := 9) (v := .ref pa_4) (C := RX10) (T := TX10) (N := 9) hx hb hts zl_X10_takenBy_X10 hown hK hP kk_139 hk_140 rfl 2 (by decide) (hts (.fieldLink RX10 60 "PageOne$Story" "pieces" "[LPageOne$Piece;") (zat q_wsX10_takenBy k_wsX10_takenBy 191 rfl (by decide +kernel))) (fun x9 h9 => u_same (hts (.sameField "PageOne$Story" "PageOne$Item" "pieces" "[LPageOne$Piece;") (zat q_wsX10_takenBy k_wsX10_takenBy 192 rfl (by decide +kernel))) x9 h9) rfl dX10_takenBy_67 ?_
          refine lv_iload_n hx hb dX10_takenBy_70 rfl (lv_at hl 2 rfl) ?_
          refine lv_iconst (v := 1) hx hb dX10_takenBy_71 (by decide) ?_
          refine lv_iadd hx hb dX10_takenBy_72 ?_
          obtain ⟨kk_141, hk_142⟩ := pl_at hs_11.1 hs_25
          refine va_aldq hx hb hK hP kk_141 5 hk_142 rfl (vknp h6_27 hc_28 b_19 c_138).1 dX10_takenBy_73 ?_
          obtain ⟨b_143, hg_144⟩ := hn_29 ((p0 + 1) : Int32).toNatClampNeg (vknp h6_27 hc_28 b_19 c_138).2
          have ht_145 := hg_30 ((p0 + 1) : Int32).toNatClampNeg (vlt (vknp h6_27 hc_28 b_19 c_138).1) b_143 hg_144
          rw [hg_144]
          refine W.eq (g2 := F0 m 74 ls [.ref b_143]) rfl ?_
          have hcp := ht_145
          obtain ⟨it_146, P_147, X_148, Y_149, D_150, N_151, hp_152, hb_153, hb_154, hb_155, hb_156⟩ := hcp
          obtain ⟨kk_157, hk_158⟩ := pl_at hp_152.1.1 (x_pcF hI hp_152)
          refine va_get (D := (dC, dI)) (ci := 7) (v := .int P_147) (C := RX8) (T := TX8) (N := 6) hx hb hts zl_X10_takenBy_X8 hown hK hP kk_157 hk_158 rfl 1 (by decide) (hts (.fieldLink RX10 42 "PageOne$Piece" "page" "I") (zat q_wsX10_takenBy k_wsX10_takenBy 319 rfl (by decide +kernel))) (fun _ h9 => h9) rfl dX10_takenBy_74 ?_
          refine lv_aload_n hx hb dX10_takenBy_77 rfl (lv_at hl 1 rfl) ?_
          obtain ⟨kk_159, hk_160⟩ := pl_at ha0.1 hs_10
          refine va_get (D := (dC, dI)) (ci := 9) (v := .ref pa_4) (C := RX10) (T := TX10) (N := 9) hx hb hts zl_X10_takenBy_X10 hown hK hP kk_159 hk_160 rfl 2 (by decide) (hts (.fieldLink RX10 60 "PageOne$Story" "pieces" "[LPageOne$Piece;") (zat q_wsX10_takenBy k_wsX10_takenBy 191 rfl (by decide +kernel))) (fun x9 h9 => u_same (hts (.sameField "PageOne$Story" "PageOne$Item" "pieces" "[LPageOne$Piece;") (zat q_wsX10_takenBy k_wsX10_takenBy 192 rfl (by decide +kernel))) x9 h9) rfl dX10_takenBy_78 ?_
          refine lv_iload_n hx hb dX10_takenBy_81 rfl (lv_at hl 2 rfl) ?_
          obtain ⟨kk_161, hk_162⟩ := pl_at hs_11.1 hs_25
          refine va_aldq hx hb hK hP kk_161 5 hk_162 rfl (vkn h6_27 hc_28 b_19).1 dX10_takenBy_82 ?_
          obtain ⟨b_163, hg_164⟩ := hn_29 (p0 : Int32).toNatClampNeg (vkn h6_27 hc_28 b_19).2
          have ht_165 := hg_30 (p0 : Int32).toNatClampNeg (vlt (vkn h6_27 hc_28 b_19).1) b_163 hg_164
          rw [hg_164]
          refine W.eq (g2 := F0 m 83 ls [.ref b_163, .int P_147]) rfl ?_
          have hcp := ht_165
          obtain ⟨it_166, P_167, X_168, Y_169, D_170, N_171, hp_172, hb_173, hb_174, hb_175, hb_176⟩ := hcp
          obtain ⟨kk_177, hk_178⟩ := pl_at hp_172.1.1 (x_pcF hI hp_172)
          refine va_get (D := (dC, dI)) (ci := 7) (v := .int P_167) (C := RX8) (T := TX8) (N := 6) hx hb hts zl_X10_takenBy_X8 hown hK hP kk_177 hk_178 rfl 1 (by decide) (hts (.fieldLink RX10 42 "PageOne$Piece" "page" "I") (zat q_wsX10_takenBy k_wsX10_takenBy 319 rfl (by decide +kernel))) (fun _ h9 => h9) rfl dX10_takenBy_83 ?_
          refine lv_icmp_eq (tgt := 92) hx hb dX10_takenBy_86 (by decide) (fun c_179 => ?_) (fun c_179 => ?_)
          ·
            refine lv_iload_n hx hb dX10_takenBy_92 rfl (lv_at hl 0 rfl) ?_
            exact W.iret (v := N_41) hx hb hr (fun t ht hW => ⟨_, rfl, trivial, ht⟩) (fun q h => absurd h List.not_mem_nil) dX10_takenBy_93
          ·
            obtain ⟨x_180, ex_180⟩ : ∃ y : Int32, y = N_41 + (-1) := ⟨_, rfl⟩
            refine lv_iinc (v := x_180) (lv' := [(2, .int x_180), (0, .ref a0), (1, .int p0)]) hx hb dX10_takenBy_89 hl (k := 0) rfl (by rw [ex_180]; rfl) (by decide) rfl (fun ls hl => ?_)
            refine lv_iload_n hx hb dX10_takenBy_92 rfl (lv_at hl 0 rfl) ?_
            exact W.iret (v := x_180) hx hb hr (fun t ht hW => ⟨_, rfl, trivial, ht⟩) (fun q h => absurd h List.not_mem_nil) dX10_takenBy_93
      ·
        obtain ⟨x_181, ex_181⟩ : ∃ y : Int32, y = N_41 + (-1) := ⟨_, rfl⟩
        refine lv_iinc (v := x_181) (lv' := [(2, .int x_181), (0, .ref a0), (1, .int p0)]) hx hb dX10_takenBy_53 hl (k := 0) rfl (by rw [ex_181]; rfl) (by decide) rfl (fun ls hl => ?_)
        refine lv_iload_n hx hb dX10_takenBy_56 rfl (lv_at hl 2 rfl) ?_
        refine lv_iconst (v := 1) hx hb dX10_takenBy_57 (by decide) ?_
        refine lv_iadd hx hb dX10_takenBy_58 ?_
        refine lv_aload_n hx hb dX10_takenBy_59 rfl (lv_at hl 1 rfl) ?_
        obtain ⟨kk_182, hk_183⟩ := pl_at ha0.1 hs_10
        refine va_get (D := (dC, dI)) (ci := 9) (v := .int cn_3) (C := RX10) (T := TX10) (N := 9) hx hb hts zl_X10_takenBy_X10 hown hK hP kk_182 hk_183 rfl 3 (by decide) (hts (.fieldLink RX10 49 "PageOne$Story" "count" "I") (zat q_wsX10_takenBy k_wsX10_takenBy 195 rfl (by decide +kernel))) (fun x9 h9 => u_same (hts (.sameField "PageOne$Story" "PageOne$Item" "count" "I") (zat q_wsX10_takenBy k_wsX10_takenBy 196 rfl (by decide +kernel))) x9 h9) rfl dX10_takenBy_60 ?_
        refine lv_icmp_ge (tgt := 92) hx hb dX10_takenBy_63 (by decide) (fun c_184 => ?_) (fun c_184 => ?_)
        ·
          refine lv_iload_n hx hb dX10_takenBy_92 rfl (lv_at hl 0 rfl) ?_
          exact W.iret (v := x_181) hx hb hr (fun t ht hW => ⟨_, rfl, trivial, ht⟩) (fun q h => absurd h List.not_mem_nil) dX10_takenBy_93
        ·
          refine lv_aload_n hx hb dX10_takenBy_66 rfl (lv_at hl 1 rfl) ?_
          obtain ⟨kk_185, hk_186⟩ := pl_at ha0.1 hs_10
          refine va_get (D := (dC, dI)) (ci := 9) (v := .ref pa_4) (C := RX10) (T := TX10) (N := 9) hx hb hts zl_X10_takenBy_X10 hown hK hP kk_185 hk_186 rfl 2 (by decide) (hts (.fieldLink RX10 60 "PageOne$Story" "pieces" "[LPageOne$Piece;") (zat q_wsX10_takenBy k_wsX10_takenBy 191 rfl (by decide +kernel))) (fun x9 h9 => u_same (hts (.sameField "PageOne$Story" "PageOne$Item" "pieces" "[LPageOne$Piece;") (zat q_wsX10_takenBy k_wsX10_takenBy 192 rfl (by decide +kernel))) x9 h9) rfl dX10_takenBy_67 ?_
          refine lv_iload_n hx hb dX10_takenBy_70 rfl (lv_at hl 2 rfl) ?_
          refine lv_iconst (v := 1) hx hb dX10_takenBy_71 (by decide) ?_
          refine lv_iadd hx hb dX10_takenBy_72 ?_
          obtain ⟨kk_187, hk_188⟩ := pl_at hs_11.1 hs_25
          refine va_aldq hx hb hK hP kk_187 5 hk_188 rfl (vknp h6_27 hc_28 b_19 c_184).1 dX10_takenBy_73 ?_
          obtain ⟨b_189, hg_190⟩ := hn_29 ((p0 + 1) : Int32).toNatClampNeg (vknp h6_27 hc_28 b_19 c_184).2
          have ht_191 := hg_30 ((p0 + 1) : Int32).toNatClampNeg (vlt (vknp h6_27 hc_28 b_19 c_184).1) b_189 hg_190
          rw [hg_190]
          refine W.eq (g2 := F0 m 74 ls [.ref b_189]) rfl ?_
          have hcp := ht_191
          obtain ⟨it_192, P_193, X_194, Y_195, D_196, N_197, hp_198, hb_199, hb_200, hb_201, hb_202⟩ := hcp
          obtain ⟨kk_203, hk_204⟩ := pl_at hp_198.1.1 (x_pcF hI hp_198)
          refine va_get (D := (dC, dI)) (ci := 7) (v := .int P_193) (C := RX8) (T := TX8) (N := 6) hx hb hts zl_X10_takenBy_X8 hown hK hP kk_203 hk_204 rfl 1 (by decide) (hts (.fieldLink RX10 42 "PageOne$Piece" "page" "I") (zat q_wsX10_takenBy k_wsX10_takenBy 319 rfl (by decide +kernel))) (fun _ h9 => h9) rfl dX10_takenBy_74 ?_
          refine lv_aload_n hx hb dX10_takenBy_77 rfl (lv_at hl 1 rfl) ?_
          obtain ⟨kk_205, hk_206⟩ := pl_at ha0.1 hs_10
          refine va_get (D := (dC, dI)) (ci := 9) (v := .ref pa_4) (C := RX10) (T := TX10) (N := 9) hx hb hts zl_X10_takenBy_X10 hown hK hP kk_205 hk_206 rfl 2 (by decide) (hts (.fieldLink RX10 60 "PageOne$Story" "pieces" "[LPageOne$Piece;") (zat q_wsX10_takenBy k_wsX10_takenBy 191 rfl (by decide +kernel))) (fun x9 h9 => u_same (hts (.sameField "PageOne$Story" "PageOne$Item" "pieces" "[LPageOne$Piece;") (zat q_wsX10_takenBy k_wsX10_takenBy 192 rfl (by decide +kernel))) x9 h9) rfl dX10_takenBy_78 ?_
          refine lv_iload_n hx hb dX10_takenBy_81 rfl (lv_at hl 2 rfl) ?_
          obtain ⟨kk_207, hk_208⟩ := pl_at hs_11.1 hs_25
          refine va_aldq hx hb hK hP kk_207 5 hk_208 rfl (vkn h6_27 hc_28 b_19).1 dX10_takenBy_82 ?_
          obtain ⟨b_209, hg_210⟩ := hn_29 (p0 : Int32).toNatClampNeg (vkn h6_27 hc_28 b_19).2
          have ht_211 := hg_30 (p0 : Int32).toNatClampNeg (vlt (vkn h6_27 hc_28 b_19).1) b_209 hg_210
          rw [hg_210]
          refine W.eq (g2 := F0 m 83 ls [.ref b_209, .int P_193]) rfl ?_
          have hcp := ht_211
          obtain ⟨it_212, P_213, X_214, Y_215, D_216, N_217, hp_218, hb_219, hb_220, hb_221, hb_222⟩ := hcp
          obtain ⟨kk_223, hk_224⟩ := pl_at hp_218.1.1 (x_pcF hI hp_218)
          refine va_get (D := (dC, dI)) (ci := 7) (v := .int P_213) (C := RX8) (T := TX8) (N := 6) hx hb hts zl_X10_takenBy_X8 hown hK hP kk_223 hk_224 rfl 1 (by decide) (hts (.fieldLink RX10 42 "PageOne$Piece" "page" "I") (zat q_wsX10_takenBy k_wsX10_takenBy 319 rfl (by decide +kernel))) (fun _ h9 => h9) rfl dX10_takenBy_83 ?_
          refine lv_icmp_eq (tgt := 92) hx hb dX10_takenBy_86 (by decide) (fun c_225 => ?_) (fun c_225 => ?_)
          ·
            refine lv_iload_n hx hb dX10_takenBy_92 rfl (lv_at hl 0 rfl) ?_
            exact W.iret (v := x_181) hx hb hr (fun t ht hW => ⟨_, rfl, trivial, ht⟩) (fun q h => absurd h List.not_mem_nil) dX10_takenBy_93
          ·
            obtain ⟨x_226, ex_226⟩ : ∃ y : Int32, y = x_181 + (-1) := ⟨_, rfl⟩
            refine lv_iinc (v := x_226) (lv' := [(2, .int x_226), (0, .ref a0), (1, .int p0)]) hx hb dX10_takenBy_89 hl (k := 0) rfl (by rw [ex_226]; rfl) (by decide) rfl (fun ls hl => ?_)
            refine lv_iload_n hx hb dX10_takenBy_92 rfl (lv_at hl 0 rfl) ?_
            exact W.iret (v := x_226) hx hb hr (fun t ht hW => ⟨_, rfl, trivial, ht⟩) (fun q h => absurd h List.not_mem_nil) dX10_takenBy_93
  ·
    obtain rfl : r = 0 := b_f hw b_19
    refine lv_if_ne (tgt := 16) hx hb dX10_takenBy_11 (by decide) (fun c_227 => absurd (by decide) c_227) (fun c_227 => ?_)
    refine lv_iconst (v := 0) hx hb dX10_takenBy_14 (by decide) ?_
    exact W.iret (v := 0) hx hb hr (fun t ht hW => ⟨_, rfl, trivial, ht⟩) (fun q h => absurd h List.not_mem_nil) dX10_takenBy_15
set_option maxHeartbeats 4000000 in
set_option maxRecDepth 100000 in
theorem x_takenBefore_l {p : Program} {l : Launch} {e : Env} {R : Room} {s : State} {m : MethodId} {args : Array Value} {below : List Frame} {meth : Method} {c : Code} {Q : State → Prop} {cells slots : Nat} {dC : Nat → ClassId} {dI : Nat → Nat → Nat} {q : Nat → ClassId} {h0 : Nat} {d : Nat → Nat} {k : Nat → Int32} {z : gS} {f : xF} {H : Heap} {locs : List Loc} (hI : xI q h0 d k z f) (hx : p.tables.exec = Jvm.exec) (hb : c.code = cX10_takenBefore) (hml : c.maxLocals = 4) (hts : ∀ w ∈ wsX10_takenBefore, w.before args s = true) (hown : s.vm.findClass RX10 = some m.cls) (hN : NN s) (hXN : XN s) (hK : va_K (dC, dI) vwCl (xT q) s) (hRf : 2 ≤ R.frames) (hRl : 44 ≤ R.locals) (hRc : cells ≤ R.cells) (hRs : slots ≤ R.slots) (hP : va_P (dC, dI) vwCl (va_pl z.1 f) H) {a0 : Nat} {nu kd l9 co9 : Int32} {pa fa wd nm K : Nat} (ha0 : tg z a0 15) (hs : f a0 = .inr (9, [.int nu, .int kd, .ref pa, .int (nI K), .ref fa, .int l9, .ref wd, .int co9, .ref nm])) (hK6 : K ≤ 6) {p0 : Int32} (kx31 : ∀ (a9 : Int32) (ls : Array Slot), lv_has ls 4 [(2, .int a9), (0, .ref a0), (1, .int p0)] → W p l e R s m args below meth c H locs cells slots Q (F0 m 31 ls [])) : ∀ (kk i : Nat) (a : Int32) (ls : Array Slot), i ≤ K → K - i < kk → lv_has ls 4 [(3, .int (nI i)), (2, .int a), (0, .ref a0), (1, .int p0)] → W p l e R s m args below meth c H locs cells slots Q (F0 m 4 ls []) := by
  intro kk
  induction kk with
  | zero => intro i a ls h1 h2; exact absurd h2 (Nat.not_lt_zero _)
  | succ kk ih =>
    intro i a ls hi hkk hl
    refine lv_iload_n hx hb dX10_takenBefore_4 rfl (lv_at hl 0 rfl) ?_
    refine lv_iload_n hx hb dX10_takenBefore_5 rfl (lv_at hl 3 rfl) ?_
    refine lv_icmp_ge (tgt := 31) hx hb dX10_takenBefore_6 (by decide) (fun c_1 => ?_) (fun c_1 => ?_)
    ·
      exact kx31 _ ls (lv_sub hl [1, 2, 3] rfl)
    ·
      refine lv_iload_n hx hb dX10_takenBefore_9 rfl (lv_at hl 0 rfl) ?_
      refine lv_aload_n hx hb dX10_takenBefore_10 rfl (lv_at hl 2 rfl) ?_
      obtain ⟨kk_2, hk_3⟩ := pl_at ha0.1 hs
      refine va_get (D := (dC, dI)) (ci := 9) (v := .int (nI K)) (C := RX10) (T := TX10) (N := 9) hx hb hts zl_X10_takenBefore_X10 hown hK hP kk_2 hk_3 rfl 3 (by decide) (hts (.fieldLink RX10 49 "PageOne$Story" "count" "I") (zat q_wsX10_takenBefore k_wsX10_takenBefore 195 rfl (by decide +kernel))) (fun x9 h9 => u_same (hts (.sameField "PageOne$Story" "PageOne$Item" "count" "I") (zat q_wsX10_takenBefore k_wsX10_takenBefore 196 rfl (by decide +kernel))) x9 h9) rfl dX10_takenBefore_11 ?_
      refine lv_icmp_ge (tgt := 31) hx hb dX10_takenBefore_14 (by decide) (fun c_4 => ?_) (fun c_4 => ?_)
      ·
        have hie : i = K := lp_eq rfl (by omega) hi c_4
        exact kx31 _ ls (lv_sub hl [1, 2, 3] rfl)
      ·
        have hlt : i < K := lp_lt rfl (by omega) hi c_4
        refine lv_iload_n hx hb dX10_takenBefore_17 rfl (lv_at hl 1 rfl) ?_
        refine lv_aload_n hx hb dX10_takenBefore_18 rfl (lv_at hl 2 rfl) ?_
        refine lv_iload_n hx hb dX10_takenBefore_19 rfl (lv_at hl 0 rfl) ?_
        obtain ⟨kk_5, hk_6⟩ := pl_at ha0.1 hs
        refine vp_callSi (va_runV (As := [.int (nI i)]) (rest := [.int a]) ⟨hx, hb, hml, hown, hts⟩ (x_takenBy l dC dI q h0 d k z f hI a0 (nI i) ha0) (cwV 1 hts gX10_takenBefore_X10_takenBy rfl rfl rfl zh_X10_takenBy_38 ⟨Nat.le_trans (Nat.le_of_ble_eq_true rfl) hRf, Nat.le_trans (Nat.le_of_ble_eq_true rfl) hRl⟩) ⟨px_fb, va_recv hK hP (ci := 9) (q0 := kk_5) rfl hk_6, fun U hU hW => ⟨rfl, px_to hU hW hP hK hN hXN⟩⟩ rfl rfl hl.1 rfl (lv_room (Nat.le_of_ble_eq_true rfl)) dX10_takenBefore_20 ⟨hRc, hRs⟩).run (fun r hw => ?_)
        generalize r = zr_7 at hw ⊢
        have hzr_7 := hw
        refine lv_iadd hx hb dX10_takenBefore_23 ?_
        refine lv_topi (fun x_8 ex_8 => ?_)
        refine lv_istore_n (lv' := [(2, .int x_8), (3, .int (nI i)), (0, .ref a0), (1, .int p0)]) hx hb dX10_takenBefore_24 rfl hl (by decide) rfl (fun ls hl => ?_)
        refine lv_iinc (v := (nI (i + 1))) (lv' := [(3, .int (nI (i + 1))), (2, .int x_8), (0, .ref a0), (1, .int p0)]) hx hb dX10_takenBefore_25 hl (k := 1) rfl (nI_1 i) (by decide) rfl (fun ls hl => ?_)
        refine lv_goto (tgt := 4) hx hb dX10_takenBefore_28 (by decide) ?_
        exact ih (i + 1) _ ls (by omega) (by omega) (lv_sub hl [0, 1, 2, 3] rfl)
set_option maxHeartbeats 4000000 in
set_option maxRecDepth 100000 in
theorem x_takenBefore (l : Launch) (dC : Nat → ClassId) (dI : Nat → Nat → Nat) (q : Nat → ClassId) (h0 : Nat) (d : Nat → Nat) (k : Nat → Int32) (z : gS) (f : xF) (hI : xI q h0 d k z f) (a0 : Nat) (p0 : Int32) (ha0 : tg z a0 15) : Met l yX10_takenBefore wsX10_takenBefore ({ frames := 2, cells := 0, slots := 0, locals := 44 }) (va_Pc [.ref a0, .int p0] (PX dC dI (va_pl z.1 f) (xT q))) (vp_Si (fun r => True)) 0 0 (fun _ => False) := by
  refine Met.ofW (cc := cX10_takenBefore) (maxL := 4) (ret := (some .int)) (by decide) rfl ?_
  intro p e s m args below meth c s₁ B hml hv
  obtain ⟨rfl, ⟨hP, hK, hN⟩, hXN⟩ := hv
  have hx := B.exec
  have hb := B.bytes
  have hr := B.returns
  have hts := atoms_spec (ws := wsX10_takenBefore) B.pre
  have hown : s.vm.findClass RX10 = some m.cls := findClass_of_methodNamed B.named
  have hlocks := B.notSynchronized
  have hl := lv_entry ([.ref a0, .int p0]) (n := 4) (Nat.le_of_ble_eq_true rfl)
  rw [lg_entry_eq]
  generalize (lg_sl ([.ref a0, .int p0]) ++ List.replicate (4 - (lg_sl ([.ref a0, .int p0])).length) Slot.unset).toArray = ls at hl ⊢
  have hl : lv_has ls 4 [(0, .ref a0), (1, .int p0)] := hl
  refine lv_iconst (v := 0) hx hb dX10_takenBefore_0 (by decide) ?_
  refine lv_istore_n (lv' := [(2, .int 0), (0, .ref a0), (1, .int p0)]) hx hb dX10_takenBefore_1 rfl hl (by decide) rfl (fun ls hl => ?_)
  refine lv_iconst (v := 0) hx hb dX10_takenBefore_2 (by decide) ?_
  refine lv_istore_n (lv' := [(3, .int 0), (2, .int 0), (0, .ref a0), (1, .int p0)]) hx hb dX10_takenBefore_3 rfl hl (by decide) rfl (fun ls hl => ?_)
  obtain ⟨nu_1, kd_2, cn_3, pa_4, fa_5, l_6, co_7, wd_8, nm_9, hs_10, hs_11, hs_12, hs_13, hq_14, hq_15, hq_16⟩ := x_ist hI ha0
  obtain ⟨n_17, g_18, hs_19, h1_20, h6_21, hc_22, hn_23, hg_24⟩ := x_pcs hI (tg_itm ha0 (by decide)) (by rw [ha0.2]; rfl) hs_10
  obtain ⟨K, hK1, -, eK⟩ := exN hc_22 (by decide)
  rw [nI_toInt (by omega)] at hK1
  subst eK
  refine x_takenBefore_l hI hx hb hml hts hown hN hXN hK (Nat.le_of_ble_eq_true rfl) (Nat.le_of_ble_eq_true rfl) (Nat.le_of_ble_eq_true rfl) (Nat.le_of_ble_eq_true rfl) hP ha0 hs_10 (by omega) (fun a9 ls hl => ?_) (K + 1) 0 0 ls (Nat.zero_le _) (by omega) (lv_sub hl [0, 1, 2, 3] rfl)
  refine lv_iload_n hx hb dX10_takenBefore_31 rfl (lv_at hl 0 rfl) ?_
  exact W.iret (v := a9) hx hb hr (fun t ht hW => ⟨_, rfl, trivial, ht⟩) (fun q h => absurd h List.not_mem_nil) dX10_takenBefore_32
set_option maxHeartbeats 4000000 in
set_option maxRecDepth 100000 in
theorem x_standing (l : Launch) (dC : Nat → ClassId) (dI : Nat → Nat → Nat) (q : Nat → ClassId) (h0 : Nat) (d : Nat → Nat) (k : Nat → Int32) (z : gS) (f : xF) (hI : xI q h0 d k z f) (a0 : Nat) (ha0 : tg z a0 15) : Met l yX10_standing wsX10_standing ({ frames := 3, cells := 0, slots := 0, locals := 67 }) (va_Pc [.ref a0] (PX dC dI (va_pl z.1 f) (xT q))) (vp_Si (fun r => True)) 0 0 (fun _ => False) := by
  refine Met.ofW (cc := cX10_standing) (maxL := 1) (ret := (some .int)) (by decide) rfl ?_
  intro p e s m args below meth c s₁ B hml hv
  obtain ⟨rfl, ⟨hP, hK, hN⟩, hXN⟩ := hv
  have hx := B.exec
  have hb := B.bytes
  have hr := B.returns
  have hts := atoms_spec (ws := wsX10_standing) B.pre
  have hown : s.vm.findClass RX10 = some m.cls := findClass_of_methodNamed B.named
  have hlocks := B.notSynchronized
  have hl := lv_entry ([.ref a0]) (n := 1) (Nat.le_of_ble_eq_true rfl)
  rw [lg_entry_eq]
  generalize (lg_sl ([.ref a0]) ++ List.replicate (1 - (lg_sl ([.ref a0])).length) Slot.unset).toArray = ls at hl ⊢
  have hl : lv_has ls 1 [(0, .ref a0)] := hl
  refine lv_aload_n hx hb dX10_standing_0 rfl (lv_at hl 0 rfl) ?_
  refine lv_aload_n hx hb dX10_standing_1 rfl (lv_at hl 0 rfl) ?_
  obtain ⟨nu_1, kd_2, cn_3, pa_4, fa_5, l_6, co_7, wd_8, nm_9, hs_10, hs_11, hs_12, hs_13, hq_14, hq_15, hq_16⟩ := x_ist hI ha0
  obtain ⟨kk_17, hk_18⟩ := pl_at ha0.1 hs_10
  refine va_get (D := (dC, dI)) (ci := 9) (v := .int cn_3) (C := RX10) (T := TX10) (N := 9) hx hb hts zl_X10_standing_X10 hown hK hP kk_17 hk_18 rfl 3 (by decide) (hts (.fieldLink RX10 49 "PageOne$Story" "count" "I") (zat q_wsX10_standing k_wsX10_standing 195 rfl (by decide +kernel))) (fun x9 h9 => u_same (hts (.sameField "PageOne$Story" "PageOne$Item" "count" "I") (zat q_wsX10_standing k_wsX10_standing 196 rfl (by decide +kernel))) x9 h9) rfl dX10_standing_2 ?_
  obtain ⟨kk_19, hk_20⟩ := pl_at ha0.1 hs_10
  refine vp_callSi (va_runV (As := [.int cn_3]) (rest := []) ⟨hx, hb, hml, hown, hts⟩ (x_takenBefore l dC dI q h0 d k z f hI a0 cn_3 ha0) (cwV 1 hts gX10_standing_X10_takenBefore rfl rfl rfl zh_X10_takenBefore_39 ⟨Nat.le_of_ble_eq_true rfl, Nat.le_of_ble_eq_true rfl⟩) ⟨px_fb, va_recv hK hP (ci := 9) (q0 := kk_19) rfl hk_20, fun U hU hW => ⟨rfl, px_to hU hW hP hK hN hXN⟩⟩ rfl rfl hl.1 rfl (lv_room (Nat.le_of_ble_eq_true rfl)) dX10_standing_5 ⟨Nat.le_of_ble_eq_true rfl, Nat.le_of_ble_eq_true rfl⟩).run (fun r hw => ?_)
  generalize r = zr_21 at hw ⊢
  have hzr_21 := hw
  exact W.iret (v := zr_21) hx hb hr (fun t ht hW => ⟨_, rfl, trivial, ht⟩) (fun q h => absurd h List.not_mem_nil) dX10_standing_8
theorem vltn {co hi : Int32} {n : Nat} (h : bw co 0 hi = true) (h2 : co < hi) (hn : hi.toInt = (n : Int)) (hh : n < 1000) : vp_in co n ∧ bw (co + 1) 0 hi = true := by
  have h1 := bw_iff.mp h
  rw [i0] at h1
  rw [i32_lt] at h2
  refine ⟨by rw [vp_in_iff]; omega, ?_⟩
  rw [bw_iff, i0, addI (by rw [i1]; omega) (by rw [i1]; omega), i1]; omega
theorem sw_out3 {x : Int32} (h1 : ¬ x = 1) (h2 : ¬ x = 2) (h3 : ¬ x = 3) : x.toInt < 1 ∨ 3 < x.toInt := by
  rcases Int.lt_or_le x.toInt 1 with q | q
  · exact Or.inl q
  · rcases Int.lt_or_le 3 x.toInt with q2 | q2
    · exact Or.inr q2
    · exfalso
      have : x.toInt = 1 ∨ x.toInt = 2 ∨ x.toInt = 3 := by omega
      rcases this with e | e | e
      · exact h1 (sw_in e.symm rfl)
      · exact h2 (sw_in e.symm rfl)
      · exact h3 (sw_in e.symm rfl)
/-- a page that has a plate -/
def xPl (q : Nat → ClassId) (d : Nat → Nat) (z : gS) (f : xF) (p : Int32) : Prop := bw p 0 11 = true ∧ ∃ g b, f (d 1) = aR (q 2) 12 g ∧ g p.toNatClampNeg = some b ∧ tg z b 7
theorem vItn {n i : Int32} (hn : bw n 0 80 = true) (h : bw i 0 (n - 1) = true) : i.toNatClampNeg < n.toNatClampNeg := by
  have h80 : (80 : Int32).toInt = 80 := rfl
  have hv := vp_in_iff.mp (vIt hn h)
  obtain ⟨j, j1, -, e⟩ := exN hn (by decide)
  subst e
  obtain ⟨m, m1, e⟩ := nI_of (x := i) (fun q => by rw [i32_lt, i0] at q; omega)
  subst e
  have h2 := bw_iff.mp h
  rw [nI_toInt m1] at hv h2
  have h0 : 0 < j := by
    rcases Nat.eq_zero_or_pos j with z | z
    · subst z
      exfalso
      have e0 : (nI 0 - 1).toInt = -1 := rfl
      rw [e0, i0] at h2; omega
    · exact z
  rw [dn_e h0, nI_toInt (by omega), i0] at h2
  rw [nI_clamp (by omega), nI_clamp (by omega)]; omega
set_option maxHeartbeats 4000000 in
set_option maxRecDepth 100000 in
theorem x_itemOf (l : Launch) (dC : Nat → ClassId) (dI : Nat → Nat → Nat) (q : Nat → ClassId) (h0 : Nat) (d : Nat → Nat) (k : Nat → Int32) (z : gS) (f : xF) (hI : xI q h0 d k z f) (p0 : Int32) : Met l yX11_itemOf wsX11_itemOf ({ frames := 1, cells := 0, slots := 0, locals := 22 }) (va_Pc [.ref h0, .int p0] (PX dC dI (va_pl z.1 f) (xT q))) (va_Sq (fun r => ∀ b, r = some b → itm z b)) 0 0 (fun _ => False) := by
  refine Met.ofW (cc := cX11_itemOf) (maxL := 2) (ret := (some (.object "PageOne$Item"))) (by decide) rfl ?_
  intro p e s m args below meth c s₁ B hml hv
  obtain ⟨rfl, ⟨hP, hK, hN⟩, hXN⟩ := hv
  have hx := B.exec
  have hb := B.bytes
  have hr := B.returns
  have hts := atoms_spec (ws := wsX11_itemOf) B.pre
  have hown : s.vm.findClass RX11 = some m.cls := findClass_of_methodNamed B.named
  have hlocks := B.notSynchronized
  have hl := lv_entry ([.ref h0, .int p0]) (n := 2) (Nat.le_of_ble_eq_true rfl)
  rw [lg_entry_eq]
  generalize (lg_sl ([.ref h0, .int p0]) ++ List.replicate (2 - (lg_sl ([.ref h0, .int p0])).length) Slot.unset).toArray = ls at hl ⊢
  have hl : lv_has ls 2 [(0, .ref h0), (1, .int p0)] := hl
  refine lv_iload_n hx hb dX11_itemOf_0 rfl (lv_at hl 1 rfl) ?_
  refine lv_iconst (v := 0) hx hb dX11_itemOf_1 (by decide) ?_
  refine lv_aload_n hx hb dX11_itemOf_2 rfl (lv_at hl 0 rfl) ?_
  obtain ⟨kk_1, hk_2⟩ := pl_at hI.2.1.1.1 hI.2.2.2.1.1
  refine va_get (D := (dC, dI)) (ci := 10) (v := .int (k 0)) (C := RX11) (T := TX11) (N := 9) hx hb hts zl_X11_itemOf_X11 hown hK hP kk_1 hk_2 rfl 3 (by decide) (hts (.fieldLink RX11 24 "PageOne" "itemCount" "I") (zat q_wsX11_itemOf k_wsX11_itemOf 115 rfl (by decide +kernel))) (fun _ h9 => h9) rfl dX11_itemOf_3 ?_
  refine lv_iconst (v := 1) hx hb dX11_itemOf_6 (by decide) ?_
  refine lv_isub hx hb dX11_itemOf_7 ?_
  refine vp_callSi (va_runS (As := [.int p0, .int 0, .int ((k 0) - 1)]) (rest := []) ⟨hx, hb, hml, hown, hts⟩ (x_isWithin l dC dI p0 0 ((k 0) - 1)) (va_cwS 3 hts gX11_itemOf_X11_isWithin rfl rfl rfl zh_X11_isWithin_30 ⟨Nat.le_of_ble_eq_true rfl, Nat.le_of_ble_eq_true rfl⟩) ⟨pw_fb, fun U hU hW => ⟨rfl, pw_to hU hW (hP.sub (ws' := []) [] rfl) (hK.sub (tys' := []) [] rfl) hN⟩⟩ rfl rfl hl.1 rfl (lv_room (Nat.le_of_ble_eq_true rfl)) dX11_itemOf_8 ⟨Nat.le_of_ble_eq_true rfl, Nat.le_of_ble_eq_true rfl⟩).run (fun r hw => ?_)
  rcases Bool.eq_false_or_eq_true (bw p0 0 ((k 0) - 1)) with b_3 | b_3
  ·
    obtain rfl : r = 1 := b_t hw b_3
    refine lv_if_eq (tgt := 23) hx hb dX11_itemOf_11 (by decide) (fun c_4 => absurd c_4 (by decide)) (fun c_4 => ?_)
    refine lv_aload_n hx hb dX11_itemOf_14 rfl (lv_at hl 0 rfl) ?_
    obtain ⟨kk_5, hk_6⟩ := pl_at hI.2.1.1.1 hI.2.2.2.1.1
    refine va_get (D := (dC, dI)) (ci := 10) (v := .ref (d 2)) (C := RX11) (T := TX11) (N := 9) hx hb hts zl_X11_itemOf_X11 hown hK hP kk_5 hk_6 rfl 2 (by decide) (hts (.fieldLink RX11 20 "PageOne" "items" "[LPageOne$Item;") (zat q_wsX11_itemOf k_wsX11_itemOf 114 rfl (by decide +kernel))) (fun _ h9 => h9) rfl dX11_itemOf_15 ?_
    refine lv_iload_n hx hb dX11_itemOf_18 rfl (lv_at hl 1 rfl) ?_
    obtain ⟨g_7, hs_8, hn_9, hg_10⟩ := x_itm hI
    obtain ⟨kk_11, hk_12⟩ := pl_at hI.2.1.2.2.2.1.1 hs_8
    refine va_aldq hx hb hK hP kk_11 3 hk_12 rfl (vIt hI.1.1 b_3) dX11_itemOf_19 ?_
    obtain ⟨b_13, hg_14⟩ := hn_9 (p0 : Int32).toNatClampNeg (vItn hI.1.1 b_3)
    have ht_15 := hg_10 (p0 : Int32).toNatClampNeg (vlt (vIt hI.1.1 b_3)) b_13 hg_14
    rw [hg_14]
    refine W.eq (g2 := F0 m 20 ls [.ref b_13]) rfl ?_
    refine lv_goto (tgt := 24) hx hb dX11_itemOf_20 (by decide) ?_
    exact W.aret (v := .ref b_13) hx hb hr (Or.inl ⟨_, rfl⟩) (Or.inr ⟨_, rfl⟩) (fun t ht hW => ⟨some b_13, rfl, (ty_s ht_15), ht⟩) (fun q h => absurd h List.not_mem_nil) dX11_itemOf_24
  ·
    obtain rfl : r = 0 := b_f hw b_3
    refine lv_if_eq (tgt := 23) hx hb dX11_itemOf_11 (by decide) (fun c_16 => ?_) (fun c_16 => absurd (by decide) c_16)
    refine lv_null hx hb dX11_itemOf_23 ?_
    exact W.aret (v := .null) hx hb hr (Or.inl ⟨_, rfl⟩) (Or.inl rfl) (fun t ht hW => ⟨none, rfl, ty_n, ht⟩) (fun q h => absurd h List.not_mem_nil) dX11_itemOf_24
theorem z_up {g : Nat → Int32} {i : Nat} (h : ∀ j, g j = 0 ∨ g j = 1) : ∀ j, upd g i (vp_nar .boolean 1) j = 0 ∨ upd g i (vp_nar .boolean 1) j = 1 := by
  intro j
  unfold upd
  split
  · exact Or.inr rfl
  · exact h j
set_option maxHeartbeats 4000000 in
set_option maxRecDepth 100000 in
theorem x_ownerOf (l : Launch) (dC : Nat → ClassId) (dI : Nat → Nat → Nat) (q : Nat → ClassId) (h0 : Nat) (d : Nat → Nat) (k : Nat → Int32) (z : gS) (f : xF) (hI : xI q h0 d k z f) (c0 : Nat) (hc0 : itm z c0) : Met l yX11_ownerOf wsX11_ownerOf ({ frames := 0, cells := 0, slots := 0, locals := 0 }) (va_Pc [.ref h0, .ref c0] (PX dC dI (va_pl z.1 f) (xT q))) (vp_Si (fun r => True)) 0 0 (fun _ => False) := by
  refine Met.ofW (cc := cX11_ownerOf) (maxL := 3) (ret := (some .int)) (by decide) rfl ?_
  intro p e s m args below meth c s₁ B hml hv
  obtain ⟨rfl, ⟨hP, hK, hN⟩, hXN⟩ := hv
  have hx := B.exec
  have hb := B.bytes
  have hr := B.returns
  have hts := atoms_spec (ws := wsX11_ownerOf) B.pre
  have hown : s.vm.findClass RX11 = some m.cls := findClass_of_methodNamed B.named
  have hlocks := B.notSynchronized
  have hl := lv_entry ([.ref h0, .ref c0]) (n := 3) (Nat.le_of_ble_eq_true rfl)
  rw [lg_entry_eq]
  generalize (lg_sl ([.ref h0, .ref c0]) ++ List.replicate (3 - (lg_sl ([.ref h0, .ref c0])).length) Slot.unset).toArray = ls at hl ⊢
  have hl : lv_has ls 3 [(0, .ref h0), (1, .ref c0)] := hl
  refine lv_aload_n hx hb dX11_ownerOf_0 rfl (lv_at hl 1 rfl) ?_
  rcases Classical.em (tg z c0 11) with ht9 | ht9
  ·
    have ht_1 := ht9
    obtain ⟨nu_3, kd_4, cn_5, pa_6, fa_7, o_8, w_9, y_10, hs_11, hs_12, hs_13, hs_14, hq_15⟩ := x_ihd hI ht_1
    obtain ⟨kk_16, hk_17⟩ := pl_at ht_1.1 hs_11
    refine va_instS hx hb hown (hts (.classLink RX11 83 "PageOne$Head") (zat q_wsX11_ownerOf k_wsX11_ownerOf 242 rfl (by decide +kernel))) (hK.1 3 (RX3, TX3, 8) rfl).2 (va_recv hK hP (ci := 3) (q0 := kk_16) rfl hk_17) dX11_ownerOf_1 ?_
    refine lv_if_eq (tgt := 20) hx hb dX11_ownerOf_4 (by decide) (fun c_18 => absurd c_18 (by decide)) (fun c_18 => ?_)
    refine lv_aload_n hx hb dX11_ownerOf_7 rfl (lv_at hl 1 rfl) ?_
    obtain ⟨kk_19, hk_20⟩ := pl_at ht_1.1 hs_11
    refine va_castS hx hb hown (hts (.classLink RX11 83 "PageOne$Head") (zat q_wsX11_ownerOf k_wsX11_ownerOf 242 rfl (by decide +kernel))) (hK.1 3 (RX3, TX3, 8) rfl).2 (va_recv hK hP (ci := 3) (q0 := kk_19) rfl hk_20) dX11_ownerOf_8 ?_
    refine lv_astore_n (lv' := [(2, .ref c0), (0, .ref h0), (1, .ref c0)]) hx hb dX11_ownerOf_11 rfl hl (by decide) rfl (fun ls hl => ?_)
    refine lv_aload_n hx hb dX11_ownerOf_12 rfl (lv_at hl 0 rfl) ?_
    obtain ⟨kk_21, hk_22⟩ := pl_at ht_1.1 hs_11
    refine va_get (D := (dC, dI)) (ci := 3) (v := .ref o_8) (C := RX3) (T := TX3) (N := 8) hx hb hts zl_X11_ownerOf_X3 hown hK hP kk_21 hk_22 rfl 5 (by decide) (hts (.fieldLink RX11 292 "PageOne$Head" "owner" "LPageOne$Story;") (zat q_wsX11_ownerOf k_wsX11_ownerOf 249 rfl (by decide +kernel))) (fun _ h9 => h9) rfl dX11_ownerOf_13 ?_
    obtain ⟨nu_23, kd_24, cn_25, pa_26, fa_27, l_28, co_29, wd_30, nm_31, hs_32, hs_33, hs_34, hs_35, hq_36, hq_37, hq_38⟩ := x_ist hI hq_15
    obtain ⟨kk_39, hk_40⟩ := pl_at hq_15.1 hs_32
    refine va_get (D := (dC, dI)) (ci := 9) (v := .int nu_23) (C := RX10) (T := TX10) (N := 9) hx hb hts zl_X11_ownerOf_X10 hown hK hP kk_39 hk_40 rfl 0 (by decide) (hts (.fieldLink RX11 296 "PageOne$Story" "number" "I") (zat q_wsX11_ownerOf k_wsX11_ownerOf 184 rfl (by decide +kernel))) (fun x9 h9 => u_same (hts (.sameField "PageOne$Story" "PageOne$Item" "number" "I") (zat q_wsX11_ownerOf k_wsX11_ownerOf 185 rfl (by decide +kernel))) x9 h9) rfl dX11_ownerOf_16 ?_
    exact W.iret (v := nu_23) hx hb hr (fun t ht hW => ⟨_, rfl, trivial, ht⟩) (fun q h => absurd h List.not_mem_nil) dX11_ownerOf_19
  ·
    have hn_2 := ht9
    refine w_then (F0 m 4 ls [.int 0]) (fun hgo => ?_) ?_
    ·
      rcases x_tag hc0 with ht8 | ht8 | ht8 | ht8 | ht8 | ht8
      ·
        obtain ⟨nu_41, kd_42, cn_43, pa_44, fa_45, l_46, m_47, hs_48, hs_49, hs_50, hs_51⟩ := x_ifl hI ht8
        obtain ⟨kk_52, hk_53⟩ := pl_at ht8.1 hs_48
        exact va_instNo hx hb hown (hts (.classLink RX11 83 "PageOne$Head") (zat q_wsX11_ownerOf k_wsX11_ownerOf 242 rfl (by decide +kernel))) hXN.n_X2_X3 (va_recv hK hP (ci := 2) (q0 := kk_52) rfl hk_53) dX11_ownerOf_1 hgo
      ·
        exact absurd ht8 ht9
      ·
        obtain ⟨nu_54, kd_55, cn_56, pa_57, fa_58, o_59, y_60, hs_61, hs_62, hs_63, hs_64, hq_65⟩ := x_ino hI ht8
        obtain ⟨kk_66, hk_67⟩ := pl_at ht8.1 hs_61
        exact va_instNo hx hb hown (hts (.classLink RX11 83 "PageOne$Head") (zat q_wsX11_ownerOf k_wsX11_ownerOf 242 rfl (by decide +kernel))) hXN.n_X5_X3 (va_recv hK hP (ci := 4) (q0 := kk_66) rfl hk_67) dX11_ownerOf_1 hgo
      ·
        obtain ⟨nu_68, kd_69, cn_70, pa_71, fa_72, b_73, pr_74, sp_75, dy_76, hs_77, hs_78, hs_79, hs_80, hq_81, hq_82, hq_83⟩ := x_ipd hI ht8
        obtain ⟨kk_84, hk_85⟩ := pl_at ht8.1 hs_77
        exact va_instNo hx hb hown (hts (.classLink RX11 83 "PageOne$Head") (zat q_wsX11_ownerOf k_wsX11_ownerOf 242 rfl (by decide +kernel))) hXN.n_X6_X3 (va_recv hK hP (ci := 5) (q0 := kk_84) rfl hk_85) dX11_ownerOf_1 hgo
      ·
        obtain ⟨nu_86, kd_87, cn_88, pa_89, fa_90, ww_91, hh_92, sz_93, hs_94, hs_95, hs_96, hs_97, hq_98, hq_99, hq_100⟩ := x_ipi hI ht8
        obtain ⟨kk_101, hk_102⟩ := pl_at ht8.1 hs_94
        exact va_instNo hx hb hown (hts (.classLink RX11 83 "PageOne$Head") (zat q_wsX11_ownerOf k_wsX11_ownerOf 242 rfl (by decide +kernel))) hXN.n_X7_X3 (va_recv hK hP (ci := 6) (q0 := kk_101) rfl hk_102) dX11_ownerOf_1 hgo
      ·
        obtain ⟨nu_103, kd_104, cn_105, pa_106, fa_107, l_108, co_109, wd_110, nm_111, hs_112, hs_113, hs_114, hs_115, hq_116, hq_117, hq_118⟩ := x_ist hI ht8
        obtain ⟨kk_119, hk_120⟩ := pl_at ht8.1 hs_112
        exact va_instNo hx hb hown (hts (.classLink RX11 83 "PageOne$Head") (zat q_wsX11_ownerOf k_wsX11_ownerOf 242 rfl (by decide +kernel))) hXN.n_X10_X3 (va_recv hK hP (ci := 9) (q0 := kk_119) rfl hk_120) dX11_ownerOf_1 hgo
    ·
      refine lv_if_eq (tgt := 20) hx hb dX11_ownerOf_4 (by decide) (fun c_121 => ?_) (fun c_121 => absurd (by decide) c_121)
      refine lv_aload_n hx hb dX11_ownerOf_20 rfl (lv_at hl 1 rfl) ?_
      rcases Classical.em (tg z c0 12) with ht9 | ht9
      ·
        have ht_122 := ht9
        obtain ⟨nu_124, kd_125, cn_126, pa_127, fa_128, o_129, y_130, hs_131, hs_132, hs_133, hs_134, hq_135⟩ := x_ino hI ht_122
        obtain ⟨kk_136, hk_137⟩ := pl_at ht_122.1 hs_131
        refine va_instS hx hb hown (hts (.classLink RX11 119 RX5) (zat q_wsX11_ownerOf k_wsX11_ownerOf 404 rfl (by decide +kernel))) (hK.1 4 (RX5, TX5, 7) rfl).2 (va_recv hK hP (ci := 4) (q0 := kk_136) rfl hk_137) dX11_ownerOf_21 ?_
        refine lv_if_eq (tgt := 42) hx hb dX11_ownerOf_24 (by decide) (fun c_138 => absurd c_138 (by decide)) (fun c_138 => ?_)
        refine lv_aload_n hx hb dX11_ownerOf_27 rfl (lv_at hl 1 rfl) ?_
        obtain ⟨kk_139, hk_140⟩ := pl_at ht_122.1 hs_131
        refine va_castS hx hb hown (hts (.classLink RX11 119 RX5) (zat q_wsX11_ownerOf k_wsX11_ownerOf 404 rfl (by decide +kernel))) (hK.1 4 (RX5, TX5, 7) rfl).2 (va_recv hK hP (ci := 4) (q0 := kk_139) rfl hk_140) dX11_ownerOf_28 ?_
        refine lv_astore_n (lv' := [(2, .ref c0), (0, .ref h0), (1, .ref c0)]) hx hb dX11_ownerOf_31 rfl hl (by decide) rfl (fun ls hl => ?_)
        refine lv_aload_n hx hb dX11_ownerOf_32 rfl (lv_at hl 0 rfl) ?_
        obtain ⟨kk_141, hk_142⟩ := pl_at ht_122.1 hs_131
        refine va_get (D := (dC, dI)) (ci := 4) (v := .ref o_129) (C := RX5) (T := TX5) (N := 7) hx hb hts zl_X11_ownerOf_X5 hown hK hP kk_141 hk_142 rfl 5 (by decide) (hts (.fieldLink RX11 288 "PageOne$Notice" "mended" "LPageOne$Item;") (zat q_wsX11_ownerOf k_wsX11_ownerOf 441 rfl (by decide +kernel))) (fun _ h9 => h9) rfl dX11_ownerOf_33 ?_
        obtain ⟨nu_143, kd_144, cn_145, pa_146, fa_147, rs_148, hs_149, hs_150, hs_151, hs_152, hs_153⟩ := x_im hI hq_135
        obtain ⟨kk_154, hk_155⟩ := pl_at hq_135.1 hs_149
        refine w_then (F0 m 39 ls [.int nu_143]) (fun hgo => ?_) ?_
        ·
          rcases x_tag hq_135 with ht9 | ht9 | ht9 | ht9 | ht9 | ht9
          ·
            rw [ht9.2] at hk_155
            exact va_get (D := (dC, dI)) (ci := 2) (v := .int nu_143) (C := RX2) (T := TX2) (N := 7) hx hb hts zl_X11_ownerOf_X2 hown hK hP kk_154 hk_155 rfl 0 (by decide) (hts (.fieldLink RX11 285 "PageOne$Item" "number" "I") (zat q_wsX11_ownerOf k_wsX11_ownerOf 183 rfl (by decide +kernel))) (fun _ h9 => h9) rfl dX11_ownerOf_36 hgo
          ·
            rw [ht9.2] at hk_155
            exact va_get (D := (dC, dI)) (ci := 3) (v := .int nu_143) (C := RX3) (T := TX3) (N := 8) hx hb hts zl_X11_ownerOf_X3 hown hK hP kk_154 hk_155 rfl 0 (by decide) (hts (.fieldLink RX11 285 "PageOne$Item" "number" "I") (zat q_wsX11_ownerOf k_wsX11_ownerOf 183 rfl (by decide +kernel))) (fun _ h9 => h9) rfl dX11_ownerOf_36 hgo
          ·
            rw [ht9.2] at hk_155
            exact va_get (D := (dC, dI)) (ci := 4) (v := .int nu_143) (C := RX5) (T := TX5) (N := 7) hx hb hts zl_X11_ownerOf_X5 hown hK hP kk_154 hk_155 rfl 0 (by decide) (hts (.fieldLink RX11 285 "PageOne$Item" "number" "I") (zat q_wsX11_ownerOf k_wsX11_ownerOf 183 rfl (by decide +kernel))) (fun _ h9 => h9) rfl dX11_ownerOf_36 hgo
          ·
            rw [ht9.2] at hk_155
            exact va_get (D := (dC, dI)) (ci := 5) (v := .int nu_143) (C := RX6) (T := TX6) (N := 9) hx hb hts zl_X11_ownerOf_X6 hown hK hP kk_154 hk_155 rfl 0 (by decide) (hts (.fieldLink RX11 285 "PageOne$Item" "number" "I") (zat q_wsX11_ownerOf k_wsX11_ownerOf 183 rfl (by decide +kernel))) (fun _ h9 => h9) rfl dX11_ownerOf_36 hgo
          ·
            rw [ht9.2] at hk_155
            exact va_get (D := (dC, dI)) (ci := 6) (v := .int nu_143) (C := RX7) (T := TX7) (N := 8) hx hb hts zl_X11_ownerOf_X7 hown hK hP kk_154 hk_155 rfl 0 (by decide) (hts (.fieldLink RX11 285 "PageOne$Item" "number" "I") (zat q_wsX11_ownerOf k_wsX11_ownerOf 183 rfl (by decide +kernel))) (fun _ h9 => h9) rfl dX11_ownerOf_36 hgo
          ·
            rw [ht9.2] at hk_155
            exact va_get (D := (dC, dI)) (ci := 9) (v := .int nu_143) (C := RX10) (T := TX10) (N := 9) hx hb hts zl_X11_ownerOf_X10 hown hK hP kk_154 hk_155 rfl 0 (by decide) (hts (.fieldLink RX11 285 "PageOne$Item" "number" "I") (zat q_wsX11_ownerOf k_wsX11_ownerOf 183 rfl (by decide +kernel))) (fun _ h9 => h9) rfl dX11_ownerOf_36 hgo
        ·
          refine lv_goto (tgt := 43) hx hb dX11_ownerOf_39 (by decide) ?_
          exact W.iret (v := nu_143) hx hb hr (fun t ht hW => ⟨_, rfl, trivial, ht⟩) (fun q h => absurd h List.not_mem_nil) dX11_ownerOf_43
      ·
        have hn_123 := ht9
        refine w_then (F0 m 24 ls [.int 0]) (fun hgo => ?_) ?_
        ·
          rcases x_tag hc0 with ht8 | ht8 | ht8 | ht8 | ht8 | ht8
          ·
            obtain ⟨nu_156, kd_157, cn_158, pa_159, fa_160, l_161, m_162, hs_163, hs_164, hs_165, hs_166⟩ := x_ifl hI ht8
            obtain ⟨kk_167, hk_168⟩ := pl_at ht8.1 hs_163
            exact va_instNo hx hb hown (hts (.classLink RX11 119 RX5) (zat q_wsX11_ownerOf k_wsX11_ownerOf 404 rfl (by decide +kernel))) hXN.n_X2_X5 (va_recv hK hP (ci := 2) (q0 := kk_167) rfl hk_168) dX11_ownerOf_21 hgo
          ·
            obtain ⟨nu_169, kd_170, cn_171, pa_172, fa_173, o_174, w_175, y_176, hs_177, hs_178, hs_179, hs_180, hq_181⟩ := x_ihd hI ht8
            obtain ⟨kk_182, hk_183⟩ := pl_at ht8.1 hs_177
            exact va_instNo hx hb hown (hts (.classLink RX11 119 RX5) (zat q_wsX11_ownerOf k_wsX11_ownerOf 404 rfl (by decide +kernel))) hXN.n_X3_X5 (va_recv hK hP (ci := 3) (q0 := kk_182) rfl hk_183) dX11_ownerOf_21 hgo
          ·
            exact absurd ht8 ht9
          ·
            obtain ⟨nu_184, kd_185, cn_186, pa_187, fa_188, b_189, pr_190, sp_191, dy_192, hs_193, hs_194, hs_195, hs_196, hq_197, hq_198, hq_199⟩ := x_ipd hI ht8
            obtain ⟨kk_200, hk_201⟩ := pl_at ht8.1 hs_193
            exact va_instNo hx hb hown (hts (.classLink RX11 119 RX5) (zat q_wsX11_ownerOf k_wsX11_ownerOf 404 rfl (by decide +kernel))) hXN.n_X6_X5 (va_recv hK hP (ci := 5) (q0 := kk_200) rfl hk_201) dX11_ownerOf_21 hgo
          ·
            obtain ⟨nu_202, kd_203, cn_204, pa_205, fa_206, ww_207, hh_208, sz_209, hs_210, hs_211, hs_212, hs_213, hq_214, hq_215, hq_216⟩ := x_ipi hI ht8
            obtain ⟨kk_217, hk_218⟩ := pl_at ht8.1 hs_210
            exact va_instNo hx hb hown (hts (.classLink RX11 119 RX5) (zat q_wsX11_ownerOf k_wsX11_ownerOf 404 rfl (by decide +kernel))) hXN.n_X7_X5 (va_recv hK hP (ci := 6) (q0 := kk_217) rfl hk_218) dX11_ownerOf_21 hgo
          ·
            obtain ⟨nu_219, kd_220, cn_221, pa_222, fa_223, l_224, co_225, wd_226, nm_227, hs_228, hs_229, hs_230, hs_231, hq_232, hq_233, hq_234⟩ := x_ist hI ht8
            obtain ⟨kk_235, hk_236⟩ := pl_at ht8.1 hs_228
            exact va_instNo hx hb hown (hts (.classLink RX11 119 RX5) (zat q_wsX11_ownerOf k_wsX11_ownerOf 404 rfl (by decide +kernel))) hXN.n_X10_X5 (va_recv hK hP (ci := 9) (q0 := kk_235) rfl hk_236) dX11_ownerOf_21 hgo
        ·
          refine lv_if_eq (tgt := 42) hx hb dX11_ownerOf_24 (by decide) (fun c_237 => ?_) (fun c_237 => absurd (by decide) c_237)
          refine lv_iconst (v := (-1)) hx hb dX11_ownerOf_42 (by decide) ?_
          exact W.iret (v := (-1)) hx hb hr (fun t ht hW => ⟨_, rfl, trivial, ht⟩) (fun q h => absurd h List.not_mem_nil) dX11_ownerOf_43
theorem ln_up {g : Nat → Int32} {i x : Int32} (h : ∀ j, j < 8 → bw (g j) 0 60 = true) (hx : bw x 0 60 = true) : ∀ j, j < 8 → bw (upd g i.toNatClampNeg x j) 0 60 = true := by
  intro j hj
  unfold upd
  split
  · exact hx
  · exact h j hj
def kup (k : Nat → Int32) (j : Nat) (x : Int32) : Nat → Int32 := fun i => if i = j then x else k i
theorem kup_s (k : Nat → Int32) (j : Nat) (x : Int32) : kup k j x j = x := if_pos rfl
theorem kup_o {k : Nat → Int32} {i j : Nat} {x : Int32} (h : i ≠ j) : kup k j x i = k i := if_neg h
/-- the items' row -/
theorem x_upI {q h0 d k z f} (h : xI q h0 d k z f) {g : Nat → Option Nat} (hn : ∀ j, j < (k 0).toNatClampNeg → ∃ b, g j = some b) (hg : ∀ j, j < 80 → ∀ b, g j = some b → itm z b) : xI q h0 d k z (va_up f (d 2) (aR (q 3) 80 g)) := by
  obtain ⟨h1, h2, h3, ⟨g1, gi, g2i, g3⟩, h5⟩ := h
  have h4 := h2.2.2.2.1
  refine ⟨h1, h2, up_loc h3 (cO_4 h4.2 ⟨g, rfl, hg⟩), ⟨by rw [up_o (tg_ne h2.1 h4 (by decide))]; exact g1, g, up_s, hn⟩, ?_⟩
  intro b hb nu kd cn pa fa rest hf
  have hne : b ≠ d 2 := fun e => by have := hb.2; rw [e, h4.2] at this; omega
  rw [up_o hne] at hf
  obtain ⟨n, g, r1, r2⟩ := h5 b hb nu kd cn pa fa rest hf
  obtain ⟨nu2, kd2, cn2, pa2, fa2, rest2, e1, e2, -⟩ := (h3 b hb.1).2.2.2.2.2.2.2.2.1 hb.2.1 hb.2.2
  obtain ⟨-, -, e3, -⟩ := itF_inj (hf.symm.trans e1)
  rw [← e3] at e2
  exact ⟨n, g, by rw [up_o (tg_ne e2 h4 (by decide))]; exact r1, r2⟩
/-- one item more -/
theorem x_dkI {q h0 d k z f} (h : xI q h0 d k z f) {k2 : Nat → Int32} (hk : kOK k2) {g : Nat → Option Nat} (hg : f (d 2) = aR (q 3) 80 g) (hn : ∀ j, j < (k2 0).toNatClampNeg → ∃ b, g j = some b) : xI q h0 d k2 z (va_up f h0 (.inr (10, dkF d k2))) := by
  obtain ⟨h1, h2, h3, ⟨g1, gi, g2i, g3⟩, h5⟩ := h
  refine ⟨hk, h2, up_loc h3 (cO_1 h2.1.2), ⟨up_s, g, by rw [up_o (tg_ne h2.2.2.2.1 h2.1 (by decide))]; exact hg, hn⟩, ?_⟩
  intro b hb nu kd cn pa fa rest hf
  have hne : b ≠ h0 := fun e => by have := hb.2; rw [e, h2.1.2] at this; omega
  rw [up_o hne] at hf
  obtain ⟨n, g, r1, r2⟩ := h5 b hb nu kd cn pa fa rest hf
  obtain ⟨nu2, kd2, cn2, pa2, fa2, rest2, e1, e2, -⟩ := (h3 b hb.1).2.2.2.2.2.2.2.2.1 hb.2.1 hb.2.2
  obtain ⟨-, -, e3, -⟩ := itF_inj (hf.symm.trans e1)
  rw [← e3] at e2
  exact ⟨n, g, by rw [up_o (tg_ne e2 h2.1 (by decide))]; exact r1, r2⟩
theorem vAc {n : Int32} (h : bw n 0 300 = true) (h2 : ¬ 300 ≤ n) : vp_in n 300 ∧ bw (n + 1) 0 300 = true := by
  have e3 : (300 : Int32).toInt = 300 := rfl
  have h1 := bw_iff.mp h
  rw [i0, e3] at h1
  rw [i32_le, e3] at h2
  refine ⟨by rw [vp_in_iff]; omega, ?_⟩
  rw [bw_iff, i0, e3, addI (by rw [i1]; omega) (by rw [i1]; omega), i1]; omega
theorem vAm {n x : Int32} (h : bw n 0 300 = true) (h2 : ¬ n = 0) (hx : x = n - 1) : vp_in x 300 ∧ bw x 0 300 = true := by
  have e3 : (300 : Int32).toInt = 300 := rfl
  have h1 := bw_iff.mp h
  rw [i0, e3] at h1
  have h3 : ¬ n.toInt = 0 := fun e => h2 (sw_in e.symm i0)
  rw [hx, vp_in_iff, bw_iff, i0, e3, subI (by rw [i1]; omega) (by rw [i1]; omega), i1]
  omega
theorem vIn8 {n : Int32} (h : bw n 0 80 = true) (h2 : n < 80) : vp_in n 80 ∧ bw (n + 1) 0 80 = true ∧ (n + 1).toNatClampNeg = n.toNatClampNeg + 1 := by
  have e3 : (80 : Int32).toInt = 80 := rfl
  have h1 := bw_iff.mp h
  rw [i0, e3] at h1
  rw [i32_lt, e3] at h2
  obtain ⟨j, j1, -, e⟩ := exN h (by decide)
  subst e
  rw [nI_toInt (by omega)] at h2
  rw [nI_1, nI_clamp (by omega), nI_clamp (by omega)]
  exact ⟨vp_in_nI (by omega) (by decide), bwN (by rw [e3]; omega) (by omega), rfl⟩
/-- a page's plate stays where nothing is written into the plates' row -/
theorem xPl_up {q d z f} {p : Int32} (h : xPl q d z f p) {a : Nat} {e : va_E} (hne : d 1 ≠ a) : xPl q d z (va_up f a e) p := by
  obtain ⟨h1, g, b, h2, h3⟩ := h
  exact ⟨h1, g, b, by rw [up_o hne]; exact h2, h3⟩
theorem vTd {t : Int32} (h : bw t 0 399 = true) : vp_in t 400 := vin h (by decide)
theorem cpy_b {f g : Nat → Int32} (hf : ∀ j, j < 8 → bw (f j) 0 60 = true) (hg : ∀ j, j < 8 → bw (g j) 0 60 = true) : ∀ j, j < 8 → bw (va_cpy f g (0 : Int32).toNatClampNeg (0 : Int32).toNatClampNeg (8 : Int32).toNatClampNeg j) 0 60 = true := by
  intro j hj
  unfold va_cpy
  split
  · exact hf _ (by have h0 : (0 : Int32).toNatClampNeg = 0 := rfl; rw [h0]; omega)
  · exact hg j hj
theorem d399b {x : Int32} (h : bw x 0 399 = true) (h9 : x < 399) : bw (x + 1) 0 399 = true := d399 h (fun e => by rw [e] at h9; exact absurd h9 (by decide))
set_option maxHeartbeats 4000000 in
set_option maxRecDepth 100000 in
theorem x_item (l : Launch) (dC : Nat → ClassId) (dI : Nat → Nat → Nat) (q : Nat → ClassId) (h0 : Nat) (d : Nat → Nat) (k : Nat → Int32) (z : gS) (f : xF) (hI : xI q h0 d k z f) (p0 p1 : Int32) : Met l yX11_item wsX11_item ({ frames := 4, cells := 0, slots := 0, locals := 87 }) (va_Pc [.ref h0, .int p0, .int p1] (PX dC dI (va_pl z.1 f) (xT q))) (vp_Si (fun r => True)) 0 0 (fun _ => False) := by
  refine Met.ofW (cc := cX11_item) (maxL := 5) (ret := (some .int)) (by decide) rfl ?_
  intro p e s m args below meth c s₁ B hml hv
  obtain ⟨rfl, ⟨hP, hK, hN⟩, hXN⟩ := hv
  have hx := B.exec
  have hb := B.bytes
  have hr := B.returns
  have hts := atoms_spec (ws := wsX11_item) B.pre
  have hown : s.vm.findClass RX11 = some m.cls := findClass_of_methodNamed B.named
  have hlocks := B.notSynchronized
  have hl := lv_entry ([.ref h0, .int p0, .int p1]) (n := 5) (Nat.le_of_ble_eq_true rfl)
  rw [lg_entry_eq]
  generalize (lg_sl ([.ref h0, .int p0, .int p1]) ++ List.replicate (5 - (lg_sl ([.ref h0, .int p0, .int p1])).length) Slot.unset).toArray = ls at hl ⊢
  have hl : lv_has ls 5 [(0, .ref h0), (1, .int p0), (2, .int p1)] := hl
  refine lv_aload_n hx hb dX11_item_0 rfl (lv_at hl 0 rfl) ?_
  refine lv_iload_n hx hb dX11_item_1 rfl (lv_at hl 1 rfl) ?_
  obtain ⟨kk_1, hk_2⟩ := pl_at hI.2.1.1.1 hI.2.2.2.1.1
  refine va_csq (va_runV (As := [.int p0]) (rest := []) ⟨hx, hb, hml, hown, hts⟩ (x_itemOf l dC dI q h0 d k z f hI p0) (cwV 1 hts gX11_item_X11_itemOf rfl rfl rfl zh_X11_itemOf_49 ⟨Nat.le_of_ble_eq_true rfl, Nat.le_of_ble_eq_true rfl⟩) ⟨px_fb, va_recv hK hP (ci := 10) (q0 := kk_1) rfl hk_2, fun U hU hW => ⟨rfl, px_to hU hW hP hK hN hXN⟩⟩ rfl rfl hl.1 rfl (lv_room (Nat.le_of_ble_eq_true rfl)) dX11_item_2 ⟨Nat.le_of_ble_eq_true rfl, Nat.le_of_ble_eq_true rfl⟩).run (fun r hw => ?_)
  rcases r with _ | b_3
  ·
    refine W.eq (g2 := F0 m 5 ls [.null]) rfl ?_
    refine lv_astore_nN (lv' := [(3, .null), (0, .ref h0), (1, .int p0), (2, .int p1)]) hx hb dX11_item_5 rfl hl (by decide) rfl (fun ls hl => ?_)
    refine lv_aload_nN hx hb dX11_item_6 rfl (lv_at hl 0 rfl) ?_
    refine lv_ifnonnullN hx hb dX11_item_7 ?_
    refine lv_iconst (v := (-1)) hx hb dX11_item_10 (by decide) ?_
    exact W.iret (v := (-1)) hx hb hr (fun t ht hW => ⟨_, rfl, trivial, ht⟩) (fun q h => absurd h List.not_mem_nil) dX11_item_11
  ·
    have ht_4 := hw b_3 rfl
    refine W.eq (g2 := F0 m 5 ls [.ref b_3]) rfl ?_
    refine lv_astore_n (lv' := [(3, .ref b_3), (0, .ref h0), (1, .int p0), (2, .int p1)]) hx hb dX11_item_5 rfl hl (by decide) rfl (fun ls hl => ?_)
    refine lv_aload_n hx hb dX11_item_6 rfl (lv_at hl 0 rfl) ?_
    refine lv_ifnonnull (tgt := 12) hx hb dX11_item_7 (by decide) ?_
    refine lv_iload_n hx hb dX11_item_12 rfl (lv_at hl 3 rfl) ?_
    rcases Classical.em (p1 = 0) with s_5 | s_5
    ·
      subst s_5
      refine lv_tableIn (tgt := 52) (off := 39) hx hb dX11_item_13 (by decide) (by decide) (by decide) (by decide) ?_
      refine lv_aload_n hx hb dX11_item_52 rfl (lv_at hl 0 rfl) ?_
      obtain ⟨nu_6, kd_7, cn_8, pa_9, fa_10, rs_11, hs_12, hs_13, hs_14, hs_15, hs_16⟩ := x_im hI ht_4
      obtain ⟨kk_17, hk_18⟩ := pl_at ht_4.1 hs_12
      refine w_then (F0 m 56 ls [.int kd_7]) (fun hgo => ?_) ?_
      ·
        rcases x_tag ht_4 with ht9 | ht9 | ht9 | ht9 | ht9 | ht9
        ·
          rw [ht9.2] at hk_18
          exact va_get (D := (dC, dI)) (ci := 2) (v := .int kd_7) (C := RX2) (T := TX2) (N := 7) hx hb hts zl_X11_item_X2 hown hK hP kk_17 hk_18 rfl 1 (by decide) (hts (.fieldLink RX11 250 "PageOne$Item" "kind" "I") (zat q_wsX11_item k_wsX11_item 189 rfl (by decide +kernel))) (fun _ h9 => h9) rfl dX11_item_53 hgo
        ·
          rw [ht9.2] at hk_18
          exact va_get (D := (dC, dI)) (ci := 3) (v := .int kd_7) (C := RX3) (T := TX3) (N := 8) hx hb hts zl_X11_item_X3 hown hK hP kk_17 hk_18 rfl 1 (by decide) (hts (.fieldLink RX11 250 "PageOne$Item" "kind" "I") (zat q_wsX11_item k_wsX11_item 189 rfl (by decide +kernel))) (fun _ h9 => h9) rfl dX11_item_53 hgo
        ·
          rw [ht9.2] at hk_18
          exact va_get (D := (dC, dI)) (ci := 4) (v := .int kd_7) (C := RX5) (T := TX5) (N := 7) hx hb hts zl_X11_item_X5 hown hK hP kk_17 hk_18 rfl 1 (by decide) (hts (.fieldLink RX11 250 "PageOne$Item" "kind" "I") (zat q_wsX11_item k_wsX11_item 189 rfl (by decide +kernel))) (fun _ h9 => h9) rfl dX11_item_53 hgo
        ·
          rw [ht9.2] at hk_18
          exact va_get (D := (dC, dI)) (ci := 5) (v := .int kd_7) (C := RX6) (T := TX6) (N := 9) hx hb hts zl_X11_item_X6 hown hK hP kk_17 hk_18 rfl 1 (by decide) (hts (.fieldLink RX11 250 "PageOne$Item" "kind" "I") (zat q_wsX11_item k_wsX11_item 189 rfl (by decide +kernel))) (fun _ h9 => h9) rfl dX11_item_53 hgo
        ·
          rw [ht9.2] at hk_18
          exact va_get (D := (dC, dI)) (ci := 6) (v := .int kd_7) (C := RX7) (T := TX7) (N := 8) hx hb hts zl_X11_item_X7 hown hK hP kk_17 hk_18 rfl 1 (by decide) (hts (.fieldLink RX11 250 "PageOne$Item" "kind" "I") (zat q_wsX11_item k_wsX11_item 189 rfl (by decide +kernel))) (fun _ h9 => h9) rfl dX11_item_53 hgo
        ·
          rw [ht9.2] at hk_18
          exact va_get (D := (dC, dI)) (ci := 9) (v := .int kd_7) (C := RX10) (T := TX10) (N := 9) hx hb hts zl_X11_item_X10 hown hK hP kk_17 hk_18 rfl 1 (by decide) (hts (.fieldLink RX11 250 "PageOne$Item" "kind" "I") (zat q_wsX11_item k_wsX11_item 189 rfl (by decide +kernel))) (fun _ h9 => h9) rfl dX11_item_53 hgo
      ·
        exact W.iret (v := kd_7) hx hb hr (fun t ht hW => ⟨_, rfl, trivial, ht⟩) (fun q h => absurd h List.not_mem_nil) dX11_item_56
    ·
      rcases Classical.em (p1 = 1) with s_19 | s_19
      ·
        subst s_19
        refine lv_tableIn (tgt := 57) (off := 44) hx hb dX11_item_13 (by decide) (by decide) (by decide) (by decide) ?_
        refine lv_aload_n hx hb dX11_item_57 rfl (lv_at hl 0 rfl) ?_
        obtain ⟨nu_20, kd_21, cn_22, pa_23, fa_24, rs_25, hs_26, hs_27, hs_28, hs_29, hs_30⟩ := x_im hI ht_4
        obtain ⟨kk_31, hk_32⟩ := pl_at ht_4.1 hs_26
        refine w_then (F0 m 61 ls [.int cn_22]) (fun hgo => ?_) ?_
        ·
          rcases x_tag ht_4 with ht9 | ht9 | ht9 | ht9 | ht9 | ht9
          ·
            rw [ht9.2] at hk_32
            exact va_get (D := (dC, dI)) (ci := 2) (v := .int cn_22) (C := RX2) (T := TX2) (N := 7) hx hb hts zl_X11_item_X2 hown hK hP kk_31 hk_32 rfl 3 (by decide) (hts (.fieldLink RX11 170 "PageOne$Item" "count" "I") (zat q_wsX11_item k_wsX11_item 197 rfl (by decide +kernel))) (fun _ h9 => h9) rfl dX11_item_58 hgo
          ·
            rw [ht9.2] at hk_32
            exact va_get (D := (dC, dI)) (ci := 3) (v := .int cn_22) (C := RX3) (T := TX3) (N := 8) hx hb hts zl_X11_item_X3 hown hK hP kk_31 hk_32 rfl 3 (by decide) (hts (.fieldLink RX11 170 "PageOne$Item" "count" "I") (zat q_wsX11_item k_wsX11_item 197 rfl (by decide +kernel))) (fun _ h9 => h9) rfl dX11_item_58 hgo
          ·
            rw [ht9.2] at hk_32
            exact va_get (D := (dC, dI)) (ci := 4) (v := .int cn_22) (C := RX5) (T := TX5) (N := 7) hx hb hts zl_X11_item_X5 hown hK hP kk_31 hk_32 rfl 3 (by decide) (hts (.fieldLink RX11 170 "PageOne$Item" "count" "I") (zat q_wsX11_item k_wsX11_item 197 rfl (by decide +kernel))) (fun _ h9 => h9) rfl dX11_item_58 hgo
          ·
            rw [ht9.2] at hk_32
            exact va_get (D := (dC, dI)) (ci := 5) (v := .int cn_22) (C := RX6) (T := TX6) (N := 9) hx hb hts zl_X11_item_X6 hown hK hP kk_31 hk_32 rfl 3 (by decide) (hts (.fieldLink RX11 170 "PageOne$Item" "count" "I") (zat q_wsX11_item k_wsX11_item 197 rfl (by decide +kernel))) (fun _ h9 => h9) rfl dX11_item_58 hgo
          ·
            rw [ht9.2] at hk_32
            exact va_get (D := (dC, dI)) (ci := 6) (v := .int cn_22) (C := RX7) (T := TX7) (N := 8) hx hb hts zl_X11_item_X7 hown hK hP kk_31 hk_32 rfl 3 (by decide) (hts (.fieldLink RX11 170 "PageOne$Item" "count" "I") (zat q_wsX11_item k_wsX11_item 197 rfl (by decide +kernel))) (fun _ h9 => h9) rfl dX11_item_58 hgo
          ·
            rw [ht9.2] at hk_32
            exact va_get (D := (dC, dI)) (ci := 9) (v := .int cn_22) (C := RX10) (T := TX10) (N := 9) hx hb hts zl_X11_item_X10 hown hK hP kk_31 hk_32 rfl 3 (by decide) (hts (.fieldLink RX11 170 "PageOne$Item" "count" "I") (zat q_wsX11_item k_wsX11_item 197 rfl (by decide +kernel))) (fun _ h9 => h9) rfl dX11_item_58 hgo
        ·
          exact W.iret (v := cn_22) hx hb hr (fun t ht hW => ⟨_, rfl, trivial, ht⟩) (fun q h => absurd h List.not_mem_nil) dX11_item_61
      ·
        rcases Classical.em (p1 = 2) with s_33 | s_33
        ·
          subst s_33
          refine lv_tableIn (tgt := 62) (off := 49) hx hb dX11_item_13 (by decide) (by decide) (by decide) (by decide) ?_
          refine lv_aload_n hx hb dX11_item_62 rfl (lv_at hl 0 rfl) ?_
          rcases Classical.em (tg z b_3 15) with ht9 | ht9
          ·
            have ht_34 := ht9
            obtain ⟨nu_36, kd_37, cn_38, pa_39, fa_40, l_41, co_42, wd_43, nm_44, hs_45, hs_46, hs_47, hs_48, hq_49, hq_50, hq_51⟩ := x_ist hI ht_34
            obtain ⟨kk_52, hk_53⟩ := pl_at ht_34.1 hs_45
            refine va_instS hx hb hown (hts (.classLink RX11 66 "PageOne$Story") (zat q_wsX11_item k_wsX11_item 161 rfl (by decide +kernel))) (hK.1 9 (RX10, TX10, 9) rfl).2 (va_recv hK hP (ci := 9) (q0 := kk_52) rfl hk_53) dX11_item_63 ?_
            refine lv_if_eq (tgt := 83) hx hb dX11_item_66 (by decide) (fun c_54 => absurd c_54 (by decide)) (fun c_54 => ?_)
            refine lv_aload_n hx hb dX11_item_69 rfl (lv_at hl 0 rfl) ?_
            obtain ⟨kk_55, hk_56⟩ := pl_at ht_34.1 hs_45
            refine va_castS hx hb hown (hts (.classLink RX11 66 "PageOne$Story") (zat q_wsX11_item k_wsX11_item 161 rfl (by decide +kernel))) (hK.1 9 (RX10, TX10, 9) rfl).2 (va_recv hK hP (ci := 9) (q0 := kk_55) rfl hk_56) dX11_item_70 ?_
            refine lv_astore (lv' := [(4, .ref b_3), (3, .ref b_3), (0, .ref h0), (1, .int p0), (2, .int 2)]) hx hb dX11_item_73 hl (by decide) rfl (fun ls hl => ?_)
            refine lv_aload hx hb dX11_item_75 (lv_at hl 0 rfl) ?_
            obtain ⟨kk_57, hk_58⟩ := pl_at ht_34.1 hs_45
            refine va_get (D := (dC, dI)) (ci := 9) (v := .int co_42) (C := RX10) (T := TX10) (N := 9) hx hb hts zl_X11_item_X10 hown hK hP kk_57 hk_58 rfl 7 (by decide) (hts (.fieldLink RX11 251 "PageOne$Story" "come" "I") (zat q_wsX11_item k_wsX11_item 178 rfl (by decide +kernel))) (fun _ h9 => h9) rfl dX11_item_77 ?_
            refine lv_goto (tgt := 84) hx hb dX11_item_80 (by decide) ?_
            exact W.iret (v := co_42) hx hb hr (fun t ht hW => ⟨_, rfl, trivial, ht⟩) (fun q h => absurd h List.not_mem_nil) dX11_item_84
          ·
            have hn_35 := ht9
            refine w_then (F0 m 66 ls [.int 0]) (fun hgo => ?_) ?_
            ·
              rcases x_tag ht_4 with ht8 | ht8 | ht8 | ht8 | ht8 | ht8
              ·
                obtain ⟨nu_59, kd_60, cn_61, pa_62, fa_63, l_64, m_65, hs_66, hs_67, hs_68, hs_69⟩ := x_ifl hI ht8
                obtain ⟨kk_70, hk_71⟩ := pl_at ht8.1 hs_66
                exact va_instNo hx hb hown (hts (.classLink RX11 66 "PageOne$Story") (zat q_wsX11_item k_wsX11_item 161 rfl (by decide +kernel))) hXN.n_X2_X10 (va_recv hK hP (ci := 2) (q0 := kk_70) rfl hk_71) dX11_item_63 hgo
              ·
                obtain ⟨nu_72, kd_73, cn_74, pa_75, fa_76, o_77, w_78, y_79, hs_80, hs_81, hs_82, hs_83, hq_84⟩ := x_ihd hI ht8
                obtain ⟨kk_85, hk_86⟩ := pl_at ht8.1 hs_80
                exact va_instNo hx hb hown (hts (.classLink RX11 66 "PageOne$Story") (zat q_wsX11_item k_wsX11_item 161 rfl (by decide +kernel))) hXN.n_X3_X10 (va_recv hK hP (ci := 3) (q0 := kk_85) rfl hk_86) dX11_item_63 hgo
              ·
                obtain ⟨nu_87, kd_88, cn_89, pa_90, fa_91, o_92, y_93, hs_94, hs_95, hs_96, hs_97, hq_98⟩ := x_ino hI ht8
                obtain ⟨kk_99, hk_100⟩ := pl_at ht8.1 hs_94
                exact va_instNo hx hb hown (hts (.classLink RX11 66 "PageOne$Story") (zat q_wsX11_item k_wsX11_item 161 rfl (by decide +kernel))) hXN.n_X5_X10 (va_recv hK hP (ci := 4) (q0 := kk_99) rfl hk_100) dX11_item_63 hgo
              ·
                obtain ⟨nu_101, kd_102, cn_103, pa_104, fa_105, b_106, pr_107, sp_108, dy_109, hs_110, hs_111, hs_112, hs_113, hq_114, hq_115, hq_116⟩ := x_ipd hI ht8
                obtain ⟨kk_117, hk_118⟩ := pl_at ht8.1 hs_110
                exact va_instNo hx hb hown (hts (.classLink RX11 66 "PageOne$Story") (zat q_wsX11_item k_wsX11_item 161 rfl (by decide +kernel))) hXN.n_X6_X10 (va_recv hK hP (ci := 5) (q0 := kk_117) rfl hk_118) dX11_item_63 hgo
              ·
                obtain ⟨nu_119, kd_120, cn_121, pa_122, fa_123, ww_124, hh_125, sz_126, hs_127, hs_128, hs_129, hs_130, hq_131, hq_132, hq_133⟩ := x_ipi hI ht8
                obtain ⟨kk_134, hk_135⟩ := pl_at ht8.1 hs_127
                exact va_instNo hx hb hown (hts (.classLink RX11 66 "PageOne$Story") (zat q_wsX11_item k_wsX11_item 161 rfl (by decide +kernel))) hXN.n_X7_X10 (va_recv hK hP (ci := 6) (q0 := kk_134) rfl hk_135) dX11_item_63 hgo
              ·
                exact absurd ht8 ht9
            ·
              refine lv_if_eq (tgt := 83) hx hb dX11_item_66 (by decide) (fun c_136 => ?_) (fun c_136 => absurd (by decide) c_136)
              refine lv_iconst (v := (-1)) hx hb dX11_item_83 (by decide) ?_
              exact W.iret (v := (-1)) hx hb hr (fun t ht hW => ⟨_, rfl, trivial, ht⟩) (fun q h => absurd h List.not_mem_nil) dX11_item_84
        ·
          rcases Classical.em (p1 = 3) with s_137 | s_137
          ·
            subst s_137
            refine lv_tableIn (tgt := 85) (off := 72) hx hb dX11_item_13 (by decide) (by decide) (by decide) (by decide) ?_
            refine lv_aload_n hx hb dX11_item_85 rfl (lv_at hl 0 rfl) ?_
            rcases Classical.em (tg z b_3 15) with ht9 | ht9
            ·
              have ht_138 := ht9
              obtain ⟨nu_140, kd_141, cn_142, pa_143, fa_144, l_145, co_146, wd_147, nm_148, hs_149, hs_150, hs_151, hs_152, hq_153, hq_154, hq_155⟩ := x_ist hI ht_138
              obtain ⟨kk_156, hk_157⟩ := pl_at ht_138.1 hs_149
              refine va_instS hx hb hown (hts (.classLink RX11 66 "PageOne$Story") (zat q_wsX11_item k_wsX11_item 161 rfl (by decide +kernel))) (hK.1 9 (RX10, TX10, 9) rfl).2 (va_recv hK hP (ci := 9) (q0 := kk_156) rfl hk_157) dX11_item_86 ?_
              refine lv_if_eq (tgt := 106) hx hb dX11_item_89 (by decide) (fun c_158 => absurd c_158 (by decide)) (fun c_158 => ?_)
              refine lv_aload_n hx hb dX11_item_92 rfl (lv_at hl 0 rfl) ?_
              obtain ⟨kk_159, hk_160⟩ := pl_at ht_138.1 hs_149
              refine va_castS hx hb hown (hts (.classLink RX11 66 "PageOne$Story") (zat q_wsX11_item k_wsX11_item 161 rfl (by decide +kernel))) (hK.1 9 (RX10, TX10, 9) rfl).2 (va_recv hK hP (ci := 9) (q0 := kk_159) rfl hk_160) dX11_item_93 ?_
              refine lv_astore (lv' := [(4, .ref b_3), (3, .ref b_3), (0, .ref h0), (1, .int p0), (2, .int 3)]) hx hb dX11_item_96 hl (by decide) rfl (fun ls hl => ?_)
              refine lv_aload hx hb dX11_item_98 (lv_at hl 0 rfl) ?_
              obtain ⟨kk_161, hk_162⟩ := pl_at ht_138.1 hs_149
              refine vp_callSi (va_runV (As := []) (rest := []) ⟨hx, hb, hml, hown, hts⟩ (x_standing l dC dI q h0 d k z f hI b_3 ht_138) (cwV 0 hts gX11_item_X10_standing rfl rfl rfl zh_X10_standing_42 ⟨Nat.le_of_ble_eq_true rfl, Nat.le_of_ble_eq_true rfl⟩) ⟨px_fb, va_recv hK hP (ci := 9) (q0 := kk_161) rfl hk_162, fun U hU hW => ⟨rfl, px_to hU hW hP hK hN hXN⟩⟩ rfl rfl hl.1 rfl (lv_room (Nat.le_of_ble_eq_true rfl)) dX11_item_100 ⟨Nat.le_of_ble_eq_true rfl, Nat.le_of_ble_eq_true rfl⟩).run (fun r hw => ?_)
              generalize r = zr_163 at hw ⊢
              have hzr_163 := hw
              refine lv_goto (tgt := 107) hx hb dX11_item_103 (by decide) ?_
              exact W.iret (v := zr_163) hx hb hr (fun t ht hW => ⟨_, rfl, trivial, ht⟩) (fun q h => absurd h List.not_mem_nil) dX11_item_107
            ·
              have hn_139 := ht9
              refine w_then (F0 m 89 ls [.int 0]) (fun hgo => ?_) ?_
              ·
                rcases x_tag ht_4 with ht8 | ht8 | ht8 | ht8 | ht8 | ht8
                ·
                  obtain ⟨nu_164, kd_165, cn_166, pa_167, fa_168, l_169, m_170, hs_171, hs_172, hs_173, hs_174⟩ := x_ifl hI ht8
                  obtain ⟨kk_175, hk_176⟩ := pl_at ht8.1 hs_171
                  exact va_instNo hx hb hown (hts (.classLink RX11 66 "PageOne$Story") (zat q_wsX11_item k_wsX11_item 161 rfl (by decide +kernel))) hXN.n_X2_X10 (va_recv hK hP (ci := 2) (q0 := kk_175) rfl hk_176) dX11_item_86 hgo
                ·
                  obtain ⟨nu_177, kd_178, cn_179, pa_180, fa_181, o_182, w_183, y_184, hs_185, hs_186, hs_187, hs_188, hq_189⟩ := x_ihd hI ht8
                  obtain ⟨kk_190, hk_191⟩ := pl_at ht8.1 hs_185
                  exact va_instNo hx hb hown (hts (.classLink RX11 66 "PageOne$Story") (zat q_wsX11_item k_wsX11_item 161 rfl (by decide +kernel))) hXN.n_X3_X10 (va_recv hK hP (ci := 3) (q0 := kk_190) rfl hk_191) dX11_item_86 hgo
                ·
                  obtain ⟨nu_192, kd_193, cn_194, pa_195, fa_196, o_197, y_198, hs_199, hs_200, hs_201, hs_202, hq_203⟩ := x_ino hI ht8
                  obtain ⟨kk_204, hk_205⟩ := pl_at ht8.1 hs_199
                  exact va_instNo hx hb hown (hts (.classLink RX11 66 "PageOne$Story") (zat q_wsX11_item k_wsX11_item 161 rfl (by decide +kernel))) hXN.n_X5_X10 (va_recv hK hP (ci := 4) (q0 := kk_204) rfl hk_205) dX11_item_86 hgo
                ·
                  obtain ⟨nu_206, kd_207, cn_208, pa_209, fa_210, b_211, pr_212, sp_213, dy_214, hs_215, hs_216, hs_217, hs_218, hq_219, hq_220, hq_221⟩ := x_ipd hI ht8
                  obtain ⟨kk_222, hk_223⟩ := pl_at ht8.1 hs_215
                  exact va_instNo hx hb hown (hts (.classLink RX11 66 "PageOne$Story") (zat q_wsX11_item k_wsX11_item 161 rfl (by decide +kernel))) hXN.n_X6_X10 (va_recv hK hP (ci := 5) (q0 := kk_222) rfl hk_223) dX11_item_86 hgo
                ·
                  obtain ⟨nu_224, kd_225, cn_226, pa_227, fa_228, ww_229, hh_230, sz_231, hs_232, hs_233, hs_234, hs_235, hq_236, hq_237, hq_238⟩ := x_ipi hI ht8
                  obtain ⟨kk_239, hk_240⟩ := pl_at ht8.1 hs_232
                  exact va_instNo hx hb hown (hts (.classLink RX11 66 "PageOne$Story") (zat q_wsX11_item k_wsX11_item 161 rfl (by decide +kernel))) hXN.n_X7_X10 (va_recv hK hP (ci := 6) (q0 := kk_239) rfl hk_240) dX11_item_86 hgo
                ·
                  exact absurd ht8 ht9
              ·
                refine lv_if_eq (tgt := 106) hx hb dX11_item_89 (by decide) (fun c_241 => ?_) (fun c_241 => absurd (by decide) c_241)
                refine lv_iconst (v := (-1)) hx hb dX11_item_106 (by decide) ?_
                exact W.iret (v := (-1)) hx hb hr (fun t ht hW => ⟨_, rfl, trivial, ht⟩) (fun q h => absurd h List.not_mem_nil) dX11_item_107
          ·
            rcases Classical.em (p1 = 4) with s_242 | s_242
            ·
              subst s_242
              refine lv_tableIn (tgt := 108) (off := 95) hx hb dX11_item_13 (by decide) (by decide) (by decide) (by decide) ?_
              refine lv_aload_n hx hb dX11_item_108 rfl (lv_at hl 1 rfl) ?_
              refine lv_aload_n hx hb dX11_item_109 rfl (lv_at hl 0 rfl) ?_
              obtain ⟨kk_243, hk_244⟩ := pl_at hI.2.1.1.1 hI.2.2.2.1.1
              refine vp_callSi (va_runV (As := [.ref b_3]) (rest := []) ⟨hx, hb, hml, hown, hts⟩ (x_ownerOf l dC dI q h0 d k z f hI b_3 ht_4) (cwV 1 hts gX11_item_X11_ownerOf rfl rfl rfl zh_X11_ownerOf_74 ⟨Nat.le_of_ble_eq_true rfl, Nat.le_of_ble_eq_true rfl⟩) ⟨px_fb, va_recv hK hP (ci := 10) (q0 := kk_243) rfl hk_244, fun U hU hW => ⟨rfl, px_to hU hW hP hK hN hXN⟩⟩ rfl rfl hl.1 rfl (lv_room (Nat.le_of_ble_eq_true rfl)) dX11_item_110 ⟨Nat.le_of_ble_eq_true rfl, Nat.le_of_ble_eq_true rfl⟩).run (fun r hw => ?_)
              generalize r = zr_245 at hw ⊢
              have hzr_245 := hw
              exact W.iret (v := zr_245) hx hb hr (fun t ht hW => ⟨_, rfl, trivial, ht⟩) (fun q h => absurd h List.not_mem_nil) dX11_item_113
            ·
              rcases Classical.em (p1 = 5) with s_246 | s_246
              ·
                subst s_246
                refine lv_tableIn (tgt := 114) (off := 101) hx hb dX11_item_13 (by decide) (by decide) (by decide) (by decide) ?_
                refine lv_aload_n hx hb dX11_item_114 rfl (lv_at hl 0 rfl) ?_
                rcases Classical.em (tg z b_3 13) with ht9 | ht9
                ·
                  have ht_247 := ht9
                  obtain ⟨nu_249, kd_250, cn_251, pa_252, fa_253, b_254, pr_255, sp_256, dy_257, hs_258, hs_259, hs_260, hs_261, hq_262, hq_263, hq_264⟩ := x_ipd hI ht_247
                  obtain ⟨kk_265, hk_266⟩ := pl_at ht_247.1 hs_258
                  refine va_instS hx hb hown (hts (.classLink RX11 104 "PageOne$Paid") (zat q_wsX11_item k_wsX11_item 307 rfl (by decide +kernel))) (hK.1 5 (RX6, TX6, 9) rfl).2 (va_recv hK hP (ci := 5) (q0 := kk_265) rfl hk_266) dX11_item_115 ?_
                  refine lv_if_eq (tgt := 135) hx hb dX11_item_118 (by decide) (fun c_267 => absurd c_267 (by decide)) (fun c_267 => ?_)
                  refine lv_aload_n hx hb dX11_item_121 rfl (lv_at hl 0 rfl) ?_
                  obtain ⟨kk_268, hk_269⟩ := pl_at ht_247.1 hs_258
                  refine va_castS hx hb hown (hts (.classLink RX11 104 "PageOne$Paid") (zat q_wsX11_item k_wsX11_item 307 rfl (by decide +kernel))) (hK.1 5 (RX6, TX6, 9) rfl).2 (va_recv hK hP (ci := 5) (q0 := kk_268) rfl hk_269) dX11_item_122 ?_
                  refine lv_astore (lv' := [(4, .ref b_3), (3, .ref b_3), (0, .ref h0), (1, .int p0), (2, .int 5)]) hx hb dX11_item_125 hl (by decide) rfl (fun ls hl => ?_)
                  refine lv_aload hx hb dX11_item_127 (lv_at hl 0 rfl) ?_
                  obtain ⟨kk_270, hk_271⟩ := pl_at ht_247.1 hs_258
                  refine va_get (D := (dC, dI)) (ci := 5) (v := .int b_254) (C := RX6) (T := TX6) (N := 9) hx hb hts zl_X11_item_X6 hown hK hP kk_270 hk_271 rfl 5 (by decide) (hts (.fieldLink RX11 260 "PageOne$Paid" "buyer" "I") (zat q_wsX11_item k_wsX11_item 356 rfl (by decide +kernel))) (fun _ h9 => h9) rfl dX11_item_129 ?_
                  refine lv_goto (tgt := 136) hx hb dX11_item_132 (by decide) ?_
                  exact W.iret (v := b_254) hx hb hr (fun t ht hW => ⟨_, rfl, trivial, ht⟩) (fun q h => absurd h List.not_mem_nil) dX11_item_136
                ·
                  have hn_248 := ht9
                  refine w_then (F0 m 118 ls [.int 0]) (fun hgo => ?_) ?_
                  ·
                    rcases x_tag ht_4 with ht8 | ht8 | ht8 | ht8 | ht8 | ht8
                    ·
                      obtain ⟨nu_272, kd_273, cn_274, pa_275, fa_276, l_277, m_278, hs_279, hs_280, hs_281, hs_282⟩ := x_ifl hI ht8
                      obtain ⟨kk_283, hk_284⟩ := pl_at ht8.1 hs_279
                      exact va_instNo hx hb hown (hts (.classLink RX11 104 "PageOne$Paid") (zat q_wsX11_item k_wsX11_item 307 rfl (by decide +kernel))) hXN.n_X2_X6 (va_recv hK hP (ci := 2) (q0 := kk_283) rfl hk_284) dX11_item_115 hgo
                    ·
                      obtain ⟨nu_285, kd_286, cn_287, pa_288, fa_289, o_290, w_291, y_292, hs_293, hs_294, hs_295, hs_296, hq_297⟩ := x_ihd hI ht8
                      obtain ⟨kk_298, hk_299⟩ := pl_at ht8.1 hs_293
                      exact va_instNo hx hb hown (hts (.classLink RX11 104 "PageOne$Paid") (zat q_wsX11_item k_wsX11_item 307 rfl (by decide +kernel))) hXN.n_X3_X6 (va_recv hK hP (ci := 3) (q0 := kk_298) rfl hk_299) dX11_item_115 hgo
                    ·
                      obtain ⟨nu_300, kd_301, cn_302, pa_303, fa_304, o_305, y_306, hs_307, hs_308, hs_309, hs_310, hq_311⟩ := x_ino hI ht8
                      obtain ⟨kk_312, hk_313⟩ := pl_at ht8.1 hs_307
                      exact va_instNo hx hb hown (hts (.classLink RX11 104 "PageOne$Paid") (zat q_wsX11_item k_wsX11_item 307 rfl (by decide +kernel))) hXN.n_X5_X6 (va_recv hK hP (ci := 4) (q0 := kk_312) rfl hk_313) dX11_item_115 hgo
                    ·
                      exact absurd ht8 ht9
                    ·
                      obtain ⟨nu_314, kd_315, cn_316, pa_317, fa_318, ww_319, hh_320, sz_321, hs_322, hs_323, hs_324, hs_325, hq_326, hq_327, hq_328⟩ := x_ipi hI ht8
                      obtain ⟨kk_329, hk_330⟩ := pl_at ht8.1 hs_322
                      exact va_instNo hx hb hown (hts (.classLink RX11 104 "PageOne$Paid") (zat q_wsX11_item k_wsX11_item 307 rfl (by decide +kernel))) hXN.n_X7_X6 (va_recv hK hP (ci := 6) (q0 := kk_329) rfl hk_330) dX11_item_115 hgo
                    ·
                      obtain ⟨nu_331, kd_332, cn_333, pa_334, fa_335, l_336, co_337, wd_338, nm_339, hs_340, hs_341, hs_342, hs_343, hq_344, hq_345, hq_346⟩ := x_ist hI ht8
                      obtain ⟨kk_347, hk_348⟩ := pl_at ht8.1 hs_340
                      exact va_instNo hx hb hown (hts (.classLink RX11 104 "PageOne$Paid") (zat q_wsX11_item k_wsX11_item 307 rfl (by decide +kernel))) hXN.n_X10_X6 (va_recv hK hP (ci := 9) (q0 := kk_347) rfl hk_348) dX11_item_115 hgo
                  ·
                    refine lv_if_eq (tgt := 135) hx hb dX11_item_118 (by decide) (fun c_349 => ?_) (fun c_349 => absurd (by decide) c_349)
                    refine lv_iconst (v := (-1)) hx hb dX11_item_135 (by decide) ?_
                    exact W.iret (v := (-1)) hx hb hr (fun t ht hW => ⟨_, rfl, trivial, ht⟩) (fun q h => absurd h List.not_mem_nil) dX11_item_136
              ·
                refine lv_tableOut (tgt := 137) hx hb dX11_item_13 (sw_out5 s_5 s_19 s_33 s_137 s_242 s_246) (by decide) ?_
                refine lv_iconst (v := (-1)) hx hb dX11_item_137 (by decide) ?_
                exact W.iret (v := (-1)) hx hb hr (fun t ht hW => ⟨_, rfl, trivial, ht⟩) (fun q h => absurd h List.not_mem_nil) dX11_item_138
theorem zE_o {z w : gS} (h : zE z w) {a : Nat} (ha : a ∈ z.1) : w.2 a = z.2 a := (h a ha).2
theorem wR_mono {q : Nat → ClassId} {c n : Nat} {P P2 : Nat → Prop} {e : va_E} (hP : ∀ b, P b → P2 b) (h : wR q c n P e) : wR q c n P2 e := by
  obtain ⟨g, e1, e2⟩ := h
  exact ⟨g, e1, fun j hj b hb => hP b (e2 j hj b hb)⟩
theorem rsT_mono {z w : gS} (h : zE z w) {t : Nat} {rest : List Value} (hr : rsT z t rest) : rsT w t rest := by
  obtain ⟨a1, a2, a3, a4, a5, a6⟩ := hr
  refine ⟨a1, fun e => ?_, fun e => ?_, fun e => ?_, fun e => ?_, fun e => ?_⟩
  · obtain ⟨o, x, y, b1, b2⟩ := a2 e
    exact ⟨o, x, y, b1, zE_tg h b2⟩
  · obtain ⟨o, y, b1, b2⟩ := a3 e
    exact ⟨o, y, b1, zE_itm h b2⟩
  · obtain ⟨b, pr, sp, dy, b1, b2, b3, b4⟩ := a4 e
    exact ⟨b, pr, sp, dy, b1, b2, zE_lg h b3, zE_tg h b4⟩
  · obtain ⟨ww, hh, sz, b1, b2, b3, b4⟩ := a5 e
    exact ⟨ww, hh, sz, b1, zE_tg h b2, zE_tg h b3, b4⟩
  · obtain ⟨l, co, wd, nm, b1, b2, b3, b4⟩ := a6 e
    exact ⟨l, co, wd, nm, b1, zE_tg h b2, b3, zE_tg h b4⟩
theorem cO_mono {q : Nat → ClassId} {z w : gS} (h : zE z w) {a : Nat} (ha : a ∈ z.1) {e : va_E} (hc : cO q z a e) : cO q w a e := by
  have ea := zE_o h ha
  obtain ⟨c2, c3, c4, c5, c6, c7, c8, c9, cI, c16, c17, c18, c19, c20, c21, c22, c23⟩ := hc
  unfold cO
  rw [ea]
  refine ⟨fun x => ?_, fun x => wR_mono (fun b hb => zE_tg h hb) (c3 x), fun x => wR_mono (fun b hb => zE_itm h hb) (c4 x), fun x => wR_mono (fun b hb => zE_tg h hb) (c5 x), c6, fun x => ?_, c8, c9, fun x y => ?_, fun x => ?_, c17, c18, c19, c20, c21, fun x => ?_, fun x => ?_⟩
  · obtain ⟨g, e1, e2⟩ := c2 x
    exact ⟨g, e1, fun j hj => by obtain ⟨b, b1, b2⟩ := e2 j hj; exact ⟨b, b1, zE_tg h b2⟩⟩
  · obtain ⟨la, ca, m, d, i, e1, e2, e3⟩ := c7 x
    exact ⟨la, ca, m, d, i, e1, zE_tg h e2, zE_tg h e3⟩
  · obtain ⟨nu, kd, cn, pa, fa, rest, e1, e2, e3, e4, e5⟩ := cI x y
    exact ⟨nu, kd, cn, pa, fa, rest, by rw [ea]; exact e1, zE_tg h e2, by rw [zE_o h e2.1]; exact e3, zE_tg h e4, by rw [ea]; exact rsT_mono h e5⟩
  · obtain ⟨n, n1, n6, hr⟩ := c16 x
    exact ⟨n, n1, n6, wR_mono (fun b hb => zE_lg h hb) hr⟩
  · obtain ⟨e0, it, P, X, Y, D, N, e1, e2, e3⟩ := c22 x
    exact ⟨by rw [ea]; exact e0, it, P, X, Y, D, N, by rw [ea]; exact e1, e2, fun b hb => zE_itm h (e3 b hb)⟩
  · obtain ⟨e0, p, l, n, ah, e1, e2, e3⟩ := c23 x
    exact ⟨by rw [ea]; exact e0, p, l, n, ah, by rw [ea]; exact e1, zE_lg h e2, fun b hb => by obtain ⟨q1, q2⟩ := e3 b hb; exact ⟨zE_tg h q1, by rw [ea, zE_o h q1.1]; exact q2⟩⟩
/-- one more lies there -/
def pz (z : gS) (a : Nat) (x : Nat × Nat × List Value) : gS := (z.1 ++ [a], fun b => if b = a then x else z.2 b)
theorem pz_s (z : gS) (a : Nat) (x : Nat × Nat × List Value) : (pz z a x).2 a = x := if_pos rfl
theorem pz_o {z : gS} {a b : Nat} {x : Nat × Nat × List Value} (h : b ≠ a) : (pz z a x).2 b = z.2 b := if_neg h
theorem pz_m (z : gS) (a : Nat) (x : Nat × Nat × List Value) : a ∈ (pz z a x).1 := List.mem_append_right _ List.mem_cons_self
theorem pz_t (z : gS) (a : Nat) (x : Nat × Nat × List Value) : tg (pz z a x) a x.1 := ⟨pz_m z a x, by rw [pz_s]⟩
theorem pz_E {z : gS} {a : Nat} (ha : a ∉ z.1) (x : Nat × Nat × List Value) : zE z (pz z a x) := fun b hb => ⟨List.mem_append_left _ hb, pz_o (fun e => ha (by rw [← e]; exact hb))⟩
theorem x_push {q h0 d k z f} (h : xI q h0 d k z f) {a : Nat} (ha : a ∉ z.1) {x : Nat × Nat × List Value} {e : va_E} (hx : x.1 < 10 ∨ 15 < x.1) (he : cO q (pz z a x) a e) : xI q h0 d k (pz z a x) (va_up f a e) := by
  obtain ⟨h1, h2, h3, ⟨g1, gi, g2i, g3⟩, h5⟩ := h
  have hE := pz_E ha x
  have hne : ∀ {b : Nat}, b ∈ z.1 → b ≠ a := fun hb e => ha (by rw [← e]; exact hb)
  refine ⟨h1, ⟨zE_tg hE h2.1, zE_tg hE h2.2.1, zE_tg hE h2.2.2.1, zE_tg hE h2.2.2.2.1, zE_tg hE h2.2.2.2.2.1, zE_tg hE h2.2.2.2.2.2⟩, fun b hb => ?_, ⟨by rw [up_o (hne h2.1.1)]; exact g1, gi, by rw [up_o (hne h2.2.2.2.1.1)]; exact g2i, g3⟩, ?_⟩
  · rcases List.mem_append.mp hb with hb | hb
    · rw [up_o (hne hb)]; exact cO_mono hE hb (h3 b hb)
    · have e1 : b = a := by simpa using hb
      rw [e1, up_s]; exact he
  · intro b hb nu kd cn pa fa rest hf
    have hba : b ≠ a := fun e1 => by have := hb.2; rw [e1, pz_s] at this; omega
    have hbz : b ∈ z.1 := by
      rcases List.mem_append.mp hb.1 with y | y
      · exact y
      · exact absurd (by simpa using y) hba
    rw [up_o hba, pz_o hba] at hf
    have hbi : itm z b := ⟨hbz, by have := hb.2; rw [pz_o hba] at this; exact this⟩
    obtain ⟨n, g, r1, r2⟩ := h5 b hbi nu kd cn pa fa rest hf
    obtain ⟨nu2, kd2, cn2, pa2, fa2, rest2, e1, e2, -⟩ := (h3 b hbz).2.2.2.2.2.2.2.2.1 hbi.2.1 hbi.2.2
    obtain ⟨-, -, e3, -⟩ := itF_inj (hf.symm.trans e1)
    rw [← e3] at e2
    exact ⟨n, g, by rw [up_o (hne e2.1)]; exact r1, r2⟩
/-- the new cell ahead of the pool, and into it -/
theorem vaP_swap {D : va_G} {cl : List vw_C} {w1 w2 : va_W} {H : Heap} (h : va_P D cl (w1 ++ w2) H) : va_P D cl (w2 ++ w1) H := by
  intro k q hk
  rcases List.mem_append.mp (List.mem_of_getElem? hk) with y | y
  · obtain ⟨i, hi⟩ := List.getElem?_of_mem (List.mem_append_right w1 y)
    exact h i q hi
  · obtain ⟨i, hi⟩ := List.getElem?_of_mem (List.mem_append_left w2 y)
    exact h i q hi
theorem vaP_r {D : va_G} {cl : List vw_C} {w1 w2 : va_W} {H : Heap} (h : va_P D cl (w1 ++ w2) H) : va_P D cl w2 H := by
  intro k q hk
  obtain ⟨i, hi⟩ := List.getElem?_of_mem (List.mem_append_right w1 (List.mem_of_getElem? hk))
  exact h i q hi
theorem vaP_l {D : va_G} {cl : List vw_C} {w1 w2 : va_W} {H : Heap} (h : va_P D cl (w1 ++ w2) H) : va_P D cl w1 H := by
  intro k q hk
  obtain ⟨i, hi⟩ := List.getElem?_of_mem (List.mem_append_left w2 (List.mem_of_getElem? hk))
  exact h i q hi
theorem vaD_rot {A : Nat → Prop} {c : Nat × va_E} {r : va_W} (h : va_D A (c :: r)) : va_D A (r ++ [c]) := by
  refine va_D.by h (fun k => if k < r.length then k + 1 else 0) (fun k q hk => ?_) (fun i j hi hj hij => ?_)
  · by_cases e : k < r.length
    · rw [if_pos e, List.getElem?_cons_succ]
      rw [List.getElem?_append_left e] at hk; exact hk
    · rw [if_neg e]
      rw [List.getElem?_append_right (by omega)] at hk
      have hz : k - r.length < 1 := (List.getElem?_eq_some_iff.mp hk).1
      rw [show k - r.length = 0 by omega] at hk
      exact hk
  · simp only [List.length_append, List.length_cons, List.length_nil] at hi hj
    by_cases e1 : i < r.length
    · rw [if_pos e1] at hij
      by_cases e2 : j < r.length
      · rw [if_pos e2] at hij; omega
      · rw [if_neg e2] at hij; omega
    · rw [if_neg e1] at hij
      by_cases e2 : j < r.length
      · rw [if_pos e2] at hij; omega
      · omega
theorem vaD_rotR {A : Nat → Prop} {c : Nat × va_E} {r : va_W} (h : va_D A (r ++ [c])) : va_D A (c :: r) := by
  refine va_D.by h (fun k => if k = 0 then r.length else k - 1) (fun k q hk => ?_) (fun i j hi hj hij => ?_)
  · by_cases e : k = 0
    · rw [if_pos e, List.getElem?_append_right (Nat.le_refl _), Nat.sub_self]
      rw [e] at hk; exact hk
    · rw [if_neg e]
      obtain ⟨m, rfl⟩ : ∃ m, k = m + 1 := ⟨k - 1, by omega⟩
      rw [List.getElem?_cons_succ] at hk
      have hm : m < r.length := (List.getElem?_eq_some_iff.mp hk).1
      rw [Nat.add_sub_cancel, List.getElem?_append_left hm]; exact hk
  · simp only [List.length_cons] at hi hj
    by_cases e1 : i = 0
    · rw [if_pos e1] at hij
      by_cases e2 : j = 0
      · omega
      · rw [if_neg e2] at hij; omega
    · rw [if_neg e1] at hij
      by_cases e2 : j = 0
      · rw [if_pos e2] at hij; omega
      · rw [if_neg e2] at hij; omega
theorem pushC {A : Nat → Prop} {D : va_G} {cl : List vw_C} {H : Heap} {q : Nat} {e : va_E} {cs : va_W} {L : List Nat} {f : xF} (hP : va_P D cl ((q, e) :: (cs ++ va_pl L f)) H) (hD : va_D A ((q, e) :: (cs ++ va_pl L f))) : q ∉ L ∧ va_P D cl (cs ++ va_pl (L ++ [q]) (va_up f q e)) H ∧ va_D A (cs ++ va_pl (L ++ [q]) (va_up f q e)) := by
  have hq : q ∉ L := fun hm => by
    obtain ⟨k, hk⟩ := va_pl_get (X := cs) (f := f) hm
    have h1 : ((q, e) :: (cs ++ va_pl L f))[k + 1]? = some (q, f q) := by rw [List.getElem?_cons_succ]; exact hk
    have h2 := hD.1 0 (k + 1) (q, e) (q, f q) rfl h1 rfl
    omega
  have e1 : cs ++ va_pl (L ++ [q]) (va_up f q e) = (cs ++ va_pl L f) ++ [(q, e)] := by rw [← va_pl_push hq, List.append_assoc]
  refine ⟨hq, ?_, ?_⟩
  · rw [e1]; exact vaP_swap (w1 := [(q, e)]) hP
  · rw [e1]; exact vaD_rot hD
theorem fr_part {A : Nat → Prop} {w1 w2 : va_W} {H0 H : Heap} {locs : List Loc} (hD : va_D A (w1 ++ w2)) (hS : va_S A H0 H locs) (hA : ∀ q, H0.size ≤ q → A q) : ∀ q, va_A w2 H.size q → A q := by
  intro q h
  rcases h with ⟨k, e, hk⟩ | h
  · obtain ⟨i, hi⟩ := List.getElem?_of_mem (List.mem_append_right w1 (List.mem_of_getElem? hk))
    exact hD.2 i _ hi
  · exact hA q (Nat.le_trans hS.1 h)
theorem vaD_r {A : Nat → Prop} {w1 w2 : va_W} (h : va_D A (w1 ++ w2)) : va_D A w2 := by
  refine va_D.by h (fun k => w1.length + k) (fun k q hk => ?_) (fun i j hi hj hij => by omega)
  rw [List.getElem?_append_right (by omega), Nat.add_sub_cancel_left]; exact hk
set_option maxHeartbeats 4000000 in
set_option maxRecDepth 100000 in
theorem x_PieceN (l : Launch) (dC : Nat → ClassId) (dI : Nat → Nat → Nat) (h0 : Nat) (p0 p1 p2 p3 p4 : Int32) (sz : Nat) : Met l yX8_init wsX8_init ({ frames := 1, cells := 0, slots := 0, locals := 12 }) (va_Pc [.ref h0, .null, .int p0, .int p1, .int p2, .int p3, .int p4] (fun U => U.heap.size = sz ∧ PW dC dI [(h0, .inr (7, [.null, .int 0, .int 0, .int 0, .int 0, .int 0]))] [] U ∧ va_D (fun _ => True) [(h0, .inr (7, [.null, .int 0, .int 0, .int 0, .int 0, .int 0]))])) (va_Qv (fun _ : Unit => True) (fun _ t => va_P (dC, dI) vwCl [(h0, .inr (7, [.null, .int p0, .int p1, .int p2, .int p3, .int p4]))] t.heap ∧ va_D (va_A [(h0, .inr (7, [.null, .int 0, .int 0, .int 0, .int 0, .int 0]))] sz) [(h0, .inr (7, [.null, .int p0, .int p1, .int p2, .int p3, .int p4]))]) (va_A [(h0, .inr (7, [.null, .int 0, .int 0, .int 0, .int 0, .int 0]))] sz)) 0 0 (va_A [(h0, .inr (7, [.null, .int 0, .int 0, .int 0, .int 0, .int 0]))] sz) := by
  refine Met.ofW (cc := cX8_init) (maxL := 7) (ret := none) (by decide) rfl ?_
  intro p e s m args below meth c s₁ B hml hv
  obtain ⟨rfl, hsz, ⟨hP, hK, hN⟩, hD0⟩ := hv
  have hx := B.exec
  have hb := B.bytes
  have hr := B.returns
  have hts := atoms_spec (ws := wsX8_init) B.pre
  have hown : s.vm.findClass RX8 = some m.cls := findClass_of_methodNamed B.named
  have hlocks := B.notSynchronized
  have hin : meth.name = "<init>" := (name_of_methodNamed B.named B.method).1
  subst hsz
  have hD := hD0.self (sz := s.heap.size)
  generalize hAe : va_A [(h0, .inr (7, [.null, .int 0, .int 0, .int 0, .int 0, .int 0]))] s.heap.size = A at hD ⊢
  have hA : ∀ q : Nat, s.heap.size ≤ q → A q := fun q h => by rw [← hAe]; exact Or.inr h
  have hS : va_S A s.heap s.heap [] := va_S.rf
  have hP : va_P (dC, dI) vwCl [(h0, .inr (7, [.null, .int 0, .int 0, .int 0, .int 0, .int 0]))] s.heap := hP
  have hl := lv_entry ([.ref h0, .null, .int p0, .int p1, .int p2, .int p3, .int p4]) (n := 7) (Nat.le_of_ble_eq_true rfl)
  rw [lg_entry_eq]
  generalize (lg_sl ([.ref h0, .null, .int p0, .int p1, .int p2, .int p3, .int p4]) ++ List.replicate (7 - (lg_sl ([.ref h0, .null, .int p0, .int p1, .int p2, .int p3, .int p4])).length) Slot.unset).toArray = ls at hl ⊢
  have hl : lv_has ls 7 [(0, .ref h0), (1, .null), (2, .int p0), (3, .int p1), (4, .int p2), (5, .int p3), (6, .int p4)] := hl
  refine lv_aload_n hx hb dX8_init_0 rfl (lv_at hl 0 rfl) ?_
  refine W.objInit hx hb hown (hts (.methodLink RX8 3 objectInit) (zat q_wsX8_init k_wsX8_init 314 rfl (by decide +kernel))) (hts (.instanceMethod objectInit) (zat q_wsX8_init k_wsX8_init 74 rfl (by decide +kernel))) (hts (.code objectInit ⟨#[0xb1]⟩ 1 none) (zat q_wsX8_init k_wsX8_init 75 rfl (by decide +kernel))) rfl (by rw [hml]; exact hl.1) rfl dX8_init_1 (Nat.le_of_ble_eq_true rfl) (Nat.le_of_ble_eq_true rfl) ?_
  refine W.eq (g2 := F0 m 4 ls []) rfl ?_
  refine lv_aload_n hx hb dX8_init_4 rfl (lv_at hl 0 rfl) ?_
  refine lv_aload_nN hx hb dX8_init_5 rfl (lv_at hl 1 rfl) ?_
  refine va_putF (D := (dC, dI)) (ci := 7) (v := .null) (ty := .object "PageOne$Item") (C := RX8) (T := TX8) (N := 6) hx hb hts zl_X8_init_X8 tyX8 tyX8_ok nmX8 hown hK hP hD hS 0 rfl rfl 0 (by decide) (hts (.fieldLink RX8 9 "PageOne$Piece" "item" "LPageOne$Item;") (zat q_wsX8_init k_wsX8_init 315 rfl (by decide +kernel))) (fun _ h9 => h9) rfl hin rfl (tyX8_ok 0 (by decide)) rfl rfl (Nat.le_of_ble_eq_true rfl) dX8_init_6 (fun H locs hP hD hS => ?_)
  have hP : va_P (dC, dI) vwCl [(h0, .inr (7, [.null, .int 0, .int 0, .int 0, .int 0, .int 0]))] H := hP
  have hD : va_D A [(h0, .inr (7, [.null, .int 0, .int 0, .int 0, .int 0, .int 0]))] := hD
  refine lv_aload_n hx hb dX8_init_9 rfl (lv_at hl 0 rfl) ?_
  refine lv_iload_n hx hb dX8_init_10 rfl (lv_at hl 2 rfl) ?_
  refine va_putF (D := (dC, dI)) (ci := 7) (v := .int p0) (ty := .int) (C := RX8) (T := TX8) (N := 6) hx hb hts zl_X8_init_X8 tyX8 tyX8_ok nmX8 hown hK hP hD hS 0 rfl rfl 1 (by decide) (hts (.fieldLink RX8 15 "PageOne$Piece" "page" "I") (zat q_wsX8_init k_wsX8_init 317 rfl (by decide +kernel))) (fun _ h9 => h9) rfl hin rfl (tyX8_ok 1 (by decide)) rfl rfl (Nat.le_of_ble_eq_true rfl) dX8_init_11 (fun H locs hP hD hS => ?_)
  have hP : va_P (dC, dI) vwCl [(h0, .inr (7, [.null, .int p0, .int 0, .int 0, .int 0, .int 0]))] H := hP
  have hD : va_D A [(h0, .inr (7, [.null, .int p0, .int 0, .int 0, .int 0, .int 0]))] := hD
  refine lv_aload_n hx hb dX8_init_14 rfl (lv_at hl 0 rfl) ?_
  refine lv_iload_n hx hb dX8_init_15 rfl (lv_at hl 3 rfl) ?_
  refine va_putF (D := (dC, dI)) (ci := 7) (v := .int p1) (ty := .int) (C := RX8) (T := TX8) (N := 6) hx hb hts zl_X8_init_X8 tyX8 tyX8_ok nmX8 hown hK hP hD hS 0 rfl rfl 2 (by decide) (hts (.fieldLink RX8 19 "PageOne$Piece" "column" "I") (zat q_wsX8_init k_wsX8_init 322 rfl (by decide +kernel))) (fun _ h9 => h9) rfl hin rfl (tyX8_ok 2 (by decide)) rfl rfl (Nat.le_of_ble_eq_true rfl) dX8_init_16 (fun H locs hP hD hS => ?_)
  have hP : va_P (dC, dI) vwCl [(h0, .inr (7, [.null, .int p0, .int p1, .int 0, .int 0, .int 0]))] H := hP
  have hD : va_D A [(h0, .inr (7, [.null, .int p0, .int p1, .int 0, .int 0, .int 0]))] := hD
  refine lv_aload_n hx hb dX8_init_19 rfl (lv_at hl 0 rfl) ?_
  refine lv_iload hx hb dX8_init_20 (lv_at hl 4 rfl) ?_
  refine va_putF (D := (dC, dI)) (ci := 7) (v := .int p2) (ty := .int) (C := RX8) (T := TX8) (N := 6) hx hb hts zl_X8_init_X8 tyX8 tyX8_ok nmX8 hown hK hP hD hS 0 rfl rfl 3 (by decide) (hts (.fieldLink RX8 22 "PageOne$Piece" "line" "I") (zat q_wsX8_init k_wsX8_init 326 rfl (by decide +kernel))) (fun _ h9 => h9) rfl hin rfl (tyX8_ok 3 (by decide)) rfl rfl (Nat.le_of_ble_eq_true rfl) dX8_init_22 (fun H locs hP hD hS => ?_)
  have hP : va_P (dC, dI) vwCl [(h0, .inr (7, [.null, .int p0, .int p1, .int p2, .int 0, .int 0]))] H := hP
  have hD : va_D A [(h0, .inr (7, [.null, .int p0, .int p1, .int p2, .int 0, .int 0]))] := hD
  refine lv_aload_n hx hb dX8_init_25 rfl (lv_at hl 0 rfl) ?_
  refine lv_iload hx hb dX8_init_26 (lv_at hl 5 rfl) ?_
  refine va_putF (D := (dC, dI)) (ci := 7) (v := .int p3) (ty := .int) (C := RX8) (T := TX8) (N := 6) hx hb hts zl_X8_init_X8 tyX8 tyX8_ok nmX8 hown hK hP hD hS 0 rfl rfl 4 (by decide) (hts (.fieldLink RX8 25 "PageOne$Piece" "w" "I") (zat q_wsX8_init k_wsX8_init 329 rfl (by decide +kernel))) (fun _ h9 => h9) rfl hin rfl (tyX8_ok 4 (by decide)) rfl rfl (Nat.le_of_ble_eq_true rfl) dX8_init_28 (fun H locs hP hD hS => ?_)
  have hP : va_P (dC, dI) vwCl [(h0, .inr (7, [.null, .int p0, .int p1, .int p2, .int p3, .int 0]))] H := hP
  have hD : va_D A [(h0, .inr (7, [.null, .int p0, .int p1, .int p2, .int p3, .int 0]))] := hD
  refine lv_aload_n hx hb dX8_init_31 rfl (lv_at hl 0 rfl) ?_
  refine lv_iload hx hb dX8_init_32 (lv_at hl 6 rfl) ?_
  refine va_putF (D := (dC, dI)) (ci := 7) (v := .int p4) (ty := .int) (C := RX8) (T := TX8) (N := 6) hx hb hts zl_X8_init_X8 tyX8 tyX8_ok nmX8 hown hK hP hD hS 0 rfl rfl 5 (by decide) (hts (.fieldLink RX8 28 "PageOne$Piece" "h" "I") (zat q_wsX8_init k_wsX8_init 333 rfl (by decide +kernel))) (fun _ h9 => h9) rfl hin rfl (tyX8_ok 5 (by decide)) rfl rfl (Nat.le_of_ble_eq_true rfl) dX8_init_34 (fun H locs hP hD hS => ?_)
  have hP : va_P (dC, dI) vwCl [(h0, .inr (7, [.null, .int p0, .int p1, .int p2, .int p3, .int p4]))] H := hP
  have hD : va_D A [(h0, .inr (7, [.null, .int p0, .int p1, .int p2, .int p3, .int p4]))] := hD
  exact W.vret hx hb hr (fun t ht hW => ⟨⟨(), rfl, trivial, ⟨by rw [ht]; exact hP.sub [0] rfl, hD.sub [0] (by decide) rfl⟩⟩, hS.F ht⟩) hS.2.2 dX8_init_37
set_option maxHeartbeats 4000000 in
set_option maxRecDepth 100000 in
theorem x_PieceI (l : Launch) (dC : Nat → ClassId) (dI : Nat → Nat → Nat) (h0 : Nat) (io : Nat) (p0 p1 p2 p3 p4 : Int32) (sz : Nat) : Met l yX8_init wsX8_init ({ frames := 1, cells := 0, slots := 0, locals := 12 }) (va_Pc [.ref h0, .ref io, .int p0, .int p1, .int p2, .int p3, .int p4] (fun U => U.heap.size = sz ∧ PW dC dI [(h0, .inr (7, [.null, .int 0, .int 0, .int 0, .int 0, .int 0]))] [] U ∧ va_D (fun _ => True) [(h0, .inr (7, [.null, .int 0, .int 0, .int 0, .int 0, .int 0]))])) (va_Qv (fun _ : Unit => True) (fun _ t => va_P (dC, dI) vwCl [(h0, .inr (7, [.ref io, .int p0, .int p1, .int p2, .int p3, .int p4]))] t.heap ∧ va_D (va_A [(h0, .inr (7, [.null, .int 0, .int 0, .int 0, .int 0, .int 0]))] sz) [(h0, .inr (7, [.ref io, .int p0, .int p1, .int p2, .int p3, .int p4]))]) (va_A [(h0, .inr (7, [.null, .int 0, .int 0, .int 0, .int 0, .int 0]))] sz)) 0 0 (va_A [(h0, .inr (7, [.null, .int 0, .int 0, .int 0, .int 0, .int 0]))] sz) := by
  refine Met.ofW (cc := cX8_init) (maxL := 7) (ret := none) (by decide) rfl ?_
  intro p e s m args below meth c s₁ B hml hv
  obtain ⟨rfl, hsz, ⟨hP, hK, hN⟩, hD0⟩ := hv
  have hx := B.exec
  have hb := B.bytes
  have hr := B.returns
  have hts := atoms_spec (ws := wsX8_init) B.pre
  have hown : s.vm.findClass RX8 = some m.cls := findClass_of_methodNamed B.named
  have hlocks := B.notSynchronized
  have hin : meth.name = "<init>" := (name_of_methodNamed B.named B.method).1
  subst hsz
  have hD := hD0.self (sz := s.heap.size)
  generalize hAe : va_A [(h0, .inr (7, [.null, .int 0, .int 0, .int 0, .int 0, .int 0]))] s.heap.size = A at hD ⊢
  have hA : ∀ q : Nat, s.heap.size ≤ q → A q := fun q h => by rw [← hAe]; exact Or.inr h
  have hS : va_S A s.heap s.heap [] := va_S.rf
  have hP : va_P (dC, dI) vwCl [(h0, .inr (7, [.null, .int 0, .int 0, .int 0, .int 0, .int 0]))] s.heap := hP
  have hl := lv_entry ([.ref h0, .ref io, .int p0, .int p1, .int p2, .int p3, .int p4]) (n := 7) (Nat.le_of_ble_eq_true rfl)
  rw [lg_entry_eq]
  generalize (lg_sl ([.ref h0, .ref io, .int p0, .int p1, .int p2, .int p3, .int p4]) ++ List.replicate (7 - (lg_sl ([.ref h0, .ref io, .int p0, .int p1, .int p2, .int p3, .int p4])).length) Slot.unset).toArray = ls at hl ⊢
  have hl : lv_has ls 7 [(0, .ref h0), (1, .ref io), (2, .int p0), (3, .int p1), (4, .int p2), (5, .int p3), (6, .int p4)] := hl
  refine lv_aload_n hx hb dX8_init_0 rfl (lv_at hl 0 rfl) ?_
  refine W.objInit hx hb hown (hts (.methodLink RX8 3 objectInit) (zat q_wsX8_init k_wsX8_init 314 rfl (by decide +kernel))) (hts (.instanceMethod objectInit) (zat q_wsX8_init k_wsX8_init 74 rfl (by decide +kernel))) (hts (.code objectInit ⟨#[0xb1]⟩ 1 none) (zat q_wsX8_init k_wsX8_init 75 rfl (by decide +kernel))) rfl (by rw [hml]; exact hl.1) rfl dX8_init_1 (Nat.le_of_ble_eq_true rfl) (Nat.le_of_ble_eq_true rfl) ?_
  refine W.eq (g2 := F0 m 4 ls []) rfl ?_
  refine lv_aload_n hx hb dX8_init_4 rfl (lv_at hl 0 rfl) ?_
  refine lv_aload_n hx hb dX8_init_5 rfl (lv_at hl 1 rfl) ?_
  refine va_putF (D := (dC, dI)) (ci := 7) (v := .ref io) (ty := .object "PageOne$Item") (C := RX8) (T := TX8) (N := 6) hx hb hts zl_X8_init_X8 tyX8 tyX8_ok nmX8 hown hK hP hD hS 0 rfl rfl 0 (by decide) (hts (.fieldLink RX8 9 "PageOne$Piece" "item" "LPageOne$Item;") (zat q_wsX8_init k_wsX8_init 315 rfl (by decide +kernel))) (fun _ h9 => h9) rfl hin rfl (tyX8_ok 0 (by decide)) rfl rfl (Nat.le_of_ble_eq_true rfl) dX8_init_6 (fun H locs hP hD hS => ?_)
  have hP : va_P (dC, dI) vwCl [(h0, .inr (7, [.ref io, .int 0, .int 0, .int 0, .int 0, .int 0]))] H := hP
  have hD : va_D A [(h0, .inr (7, [.ref io, .int 0, .int 0, .int 0, .int 0, .int 0]))] := hD
  refine lv_aload_n hx hb dX8_init_9 rfl (lv_at hl 0 rfl) ?_
  refine lv_iload_n hx hb dX8_init_10 rfl (lv_at hl 2 rfl) ?_
  refine va_putF (D := (dC, dI)) (ci := 7) (v := .int p0) (ty := .int) (C := RX8) (T := TX8) (N := 6) hx hb hts zl_X8_init_X8 tyX8 tyX8_ok nmX8 hown hK hP hD hS 0 rfl rfl 1 (by decide) (hts (.fieldLink RX8 15 "PageOne$Piece" "page" "I") (zat q_wsX8_init k_wsX8_init 317 rfl (by decide +kernel))) (fun _ h9 => h9) rfl hin rfl (tyX8_ok 1 (by decide)) rfl rfl (Nat.le_of_ble_eq_true rfl) dX8_init_11 (fun H locs hP hD hS => ?_)
  have hP : va_P (dC, dI) vwCl [(h0, .inr (7, [.ref io, .int p0, .int 0, .int 0, .int 0, .int 0]))] H := hP
  have hD : va_D A [(h0, .inr (7, [.ref io, .int p0, .int 0, .int 0, .int 0, .int 0]))] := hD
  refine lv_aload_n hx hb dX8_init_14 rfl (lv_at hl 0 rfl) ?_
  refine lv_iload_n hx hb dX8_init_15 rfl (lv_at hl 3 rfl) ?_
  refine va_putF (D := (dC, dI)) (ci := 7) (v := .int p1) (ty := .int) (C := RX8) (T := TX8) (N := 6) hx hb hts zl_X8_init_X8 tyX8 tyX8_ok nmX8 hown hK hP hD hS 0 rfl rfl 2 (by decide) (hts (.fieldLink RX8 19 "PageOne$Piece" "column" "I") (zat q_wsX8_init k_wsX8_init 322 rfl (by decide +kernel))) (fun _ h9 => h9) rfl hin rfl (tyX8_ok 2 (by decide)) rfl rfl (Nat.le_of_ble_eq_true rfl) dX8_init_16 (fun H locs hP hD hS => ?_)
  have hP : va_P (dC, dI) vwCl [(h0, .inr (7, [.ref io, .int p0, .int p1, .int 0, .int 0, .int 0]))] H := hP
  have hD : va_D A [(h0, .inr (7, [.ref io, .int p0, .int p1, .int 0, .int 0, .int 0]))] := hD
  refine lv_aload_n hx hb dX8_init_19 rfl (lv_at hl 0 rfl) ?_
  refine lv_iload hx hb dX8_init_20 (lv_at hl 4 rfl) ?_
  refine va_putF (D := (dC, dI)) (ci := 7) (v := .int p2) (ty := .int) (C := RX8) (T := TX8) (N := 6) hx hb hts zl_X8_init_X8 tyX8 tyX8_ok nmX8 hown hK hP hD hS 0 rfl rfl 3 (by decide) (hts (.fieldLink RX8 22 "PageOne$Piece" "line" "I") (zat q_wsX8_init k_wsX8_init 326 rfl (by decide +kernel))) (fun _ h9 => h9) rfl hin rfl (tyX8_ok 3 (by decide)) rfl rfl (Nat.le_of_ble_eq_true rfl) dX8_init_22 (fun H locs hP hD hS => ?_)
  have hP : va_P (dC, dI) vwCl [(h0, .inr (7, [.ref io, .int p0, .int p1, .int p2, .int 0, .int 0]))] H := hP
  have hD : va_D A [(h0, .inr (7, [.ref io, .int p0, .int p1, .int p2, .int 0, .int 0]))] := hD
  refine lv_aload_n hx hb dX8_init_25 rfl (lv_at hl 0 rfl) ?_
  refine lv_iload hx hb dX8_init_26 (lv_at hl 5 rfl) ?_
  refine va_putF (D := (dC, dI)) (ci := 7) (v := .int p3) (ty := .int) (C := RX8) (T := TX8) (N := 6) hx hb hts zl_X8_init_X8 tyX8 tyX8_ok nmX8 hown hK hP hD hS 0 rfl rfl 4 (by decide) (hts (.fieldLink RX8 25 "PageOne$Piece" "w" "I") (zat q_wsX8_init k_wsX8_init 329 rfl (by decide +kernel))) (fun _ h9 => h9) rfl hin rfl (tyX8_ok 4 (by decide)) rfl rfl (Nat.le_of_ble_eq_true rfl) dX8_init_28 (fun H locs hP hD hS => ?_)
  have hP : va_P (dC, dI) vwCl [(h0, .inr (7, [.ref io, .int p0, .int p1, .int p2, .int p3, .int 0]))] H := hP
  have hD : va_D A [(h0, .inr (7, [.ref io, .int p0, .int p1, .int p2, .int p3, .int 0]))] := hD
  refine lv_aload_n hx hb dX8_init_31 rfl (lv_at hl 0 rfl) ?_
  refine lv_iload hx hb dX8_init_32 (lv_at hl 6 rfl) ?_
  refine va_putF (D := (dC, dI)) (ci := 7) (v := .int p4) (ty := .int) (C := RX8) (T := TX8) (N := 6) hx hb hts zl_X8_init_X8 tyX8 tyX8_ok nmX8 hown hK hP hD hS 0 rfl rfl 5 (by decide) (hts (.fieldLink RX8 28 "PageOne$Piece" "h" "I") (zat q_wsX8_init k_wsX8_init 333 rfl (by decide +kernel))) (fun _ h9 => h9) rfl hin rfl (tyX8_ok 5 (by decide)) rfl rfl (Nat.le_of_ble_eq_true rfl) dX8_init_34 (fun H locs hP hD hS => ?_)
  have hP : va_P (dC, dI) vwCl [(h0, .inr (7, [.ref io, .int p0, .int p1, .int p2, .int p3, .int p4]))] H := hP
  have hD : va_D A [(h0, .inr (7, [.ref io, .int p0, .int p1, .int p2, .int p3, .int p4]))] := hD
  exact W.vret hx hb hr (fun t ht hW => ⟨⟨(), rfl, trivial, ⟨by rw [ht]; exact hP.sub [0] rfl, hD.sub [0] (by decide) rfl⟩⟩, hS.F ht⟩) hS.2.2 dX8_init_37
set_option maxHeartbeats 4000000 in
set_option maxRecDepth 100000 in
theorem x_Breach (l : Launch) (dC : Nat → ClassId) (dI : Nat → Nat → Nat) (h0 : Nat) (p0 p1 p2 : Int32) (sz : Nat) : Met l yX1_init wsX1_init ({ frames := 1, cells := 0, slots := 0, locals := 12 }) (va_Pc [.ref h0, .int p0, .int p1, .int p2] (fun U => U.heap.size = sz ∧ PW dC dI [(h0, .inr (1, [.int 0, .int 0, .int 0]))] [] U ∧ va_D (fun _ => True) [(h0, .inr (1, [.int 0, .int 0, .int 0]))])) (va_Qv (fun _ : Unit => True) (fun _ t => va_P (dC, dI) vwCl [(h0, .inr (1, [.int p0, .int p1, .int p2]))] t.heap ∧ va_D (va_A [(h0, .inr (1, [.int 0, .int 0, .int 0]))] sz) [(h0, .inr (1, [.int p0, .int p1, .int p2]))]) (va_A [(h0, .inr (1, [.int 0, .int 0, .int 0]))] sz)) 0 0 (va_A [(h0, .inr (1, [.int 0, .int 0, .int 0]))] sz) := by
  refine Met.ofW (cc := cX1_init) (maxL := 4) (ret := none) (by decide) rfl ?_
  intro p e s m args below meth c s₁ B hml hv
  obtain ⟨rfl, hsz, ⟨hP, hK, hN⟩, hD0⟩ := hv
  have hx := B.exec
  have hb := B.bytes
  have hr := B.returns
  have hts := atoms_spec (ws := wsX1_init) B.pre
  have hown : s.vm.findClass RX1 = some m.cls := findClass_of_methodNamed B.named
  have hlocks := B.notSynchronized
  have hin : meth.name = "<init>" := (name_of_methodNamed B.named B.method).1
  subst hsz
  have hD := hD0.self (sz := s.heap.size)
  generalize hAe : va_A [(h0, .inr (1, [.int 0, .int 0, .int 0]))] s.heap.size = A at hD ⊢
  have hA : ∀ q : Nat, s.heap.size ≤ q → A q := fun q h => by rw [← hAe]; exact Or.inr h
  have hS : va_S A s.heap s.heap [] := va_S.rf
  have hP : va_P (dC, dI) vwCl [(h0, .inr (1, [.int 0, .int 0, .int 0]))] s.heap := hP
  have hl := lv_entry ([.ref h0, .int p0, .int p1, .int p2]) (n := 4) (Nat.le_of_ble_eq_true rfl)
  rw [lg_entry_eq]
  generalize (lg_sl ([.ref h0, .int p0, .int p1, .int p2]) ++ List.replicate (4 - (lg_sl ([.ref h0, .int p0, .int p1, .int p2])).length) Slot.unset).toArray = ls at hl ⊢
  have hl : lv_has ls 4 [(0, .ref h0), (1, .int p0), (2, .int p1), (3, .int p2)] := hl
  refine lv_aload_n hx hb dX1_init_0 rfl (lv_at hl 0 rfl) ?_
  refine W.objInit hx hb hown (hts (.methodLink RX1 1 objectInit) (zat q_wsX1_init k_wsX1_init 746 rfl (by decide +kernel))) (hts (.instanceMethod objectInit) (zat q_wsX1_init k_wsX1_init 74 rfl (by decide +kernel))) (hts (.code objectInit ⟨#[0xb1]⟩ 1 none) (zat q_wsX1_init k_wsX1_init 75 rfl (by decide +kernel))) rfl (by rw [hml]; exact hl.1) rfl dX1_init_1 (Nat.le_of_ble_eq_true rfl) (Nat.le_of_ble_eq_true rfl) ?_
  refine W.eq (g2 := F0 m 4 ls []) rfl ?_
  refine lv_aload_n hx hb dX1_init_4 rfl (lv_at hl 0 rfl) ?_
  refine lv_iload_n hx hb dX1_init_5 rfl (lv_at hl 1 rfl) ?_
  refine va_putF (D := (dC, dI)) (ci := 1) (v := .int p0) (ty := .int) (C := RX1) (T := TX1) (N := 3) hx hb hts zl_X1_init_X1 tyX1 tyX1_ok nmX1 hown hK hP hD hS 0 rfl rfl 0 (by decide) (hts (.fieldLink RX1 7 "PageOne$Breach" "kind" "I") (zat q_wsX1_init k_wsX1_init 747 rfl (by decide +kernel))) (fun _ h9 => h9) rfl hin rfl (tyX1_ok 0 (by decide)) rfl rfl (Nat.le_of_ble_eq_true rfl) dX1_init_6 (fun H locs hP hD hS => ?_)
  have hP : va_P (dC, dI) vwCl [(h0, .inr (1, [.int p0, .int 0, .int 0]))] H := hP
  have hD : va_D A [(h0, .inr (1, [.int p0, .int 0, .int 0]))] := hD
  refine lv_aload_n hx hb dX1_init_9 rfl (lv_at hl 0 rfl) ?_
  refine lv_iload_n hx hb dX1_init_10 rfl (lv_at hl 2 rfl) ?_
  refine va_putF (D := (dC, dI)) (ci := 1) (v := .int p1) (ty := .int) (C := RX1) (T := TX1) (N := 3) hx hb hts zl_X1_init_X1 tyX1 tyX1_ok nmX1 hown hK hP hD hS 0 rfl rfl 1 (by decide) (hts (.fieldLink RX1 13 "PageOne$Breach" "first" "I") (zat q_wsX1_init k_wsX1_init 749 rfl (by decide +kernel))) (fun _ h9 => h9) rfl hin rfl (tyX1_ok 1 (by decide)) rfl rfl (Nat.le_of_ble_eq_true rfl) dX1_init_11 (fun H locs hP hD hS => ?_)
  have hP : va_P (dC, dI) vwCl [(h0, .inr (1, [.int p0, .int p1, .int 0]))] H := hP
  have hD : va_D A [(h0, .inr (1, [.int p0, .int p1, .int 0]))] := hD
  refine lv_aload_n hx hb dX1_init_14 rfl (lv_at hl 0 rfl) ?_
  refine lv_iload_n hx hb dX1_init_15 rfl (lv_at hl 3 rfl) ?_
  refine va_putF (D := (dC, dI)) (ci := 1) (v := .int p2) (ty := .int) (C := RX1) (T := TX1) (N := 3) hx hb hts zl_X1_init_X1 tyX1 tyX1_ok nmX1 hown hK hP hD hS 0 rfl rfl 2 (by decide) (hts (.fieldLink RX1 16 "PageOne$Breach" "other" "I") (zat q_wsX1_init k_wsX1_init 751 rfl (by decide +kernel))) (fun _ h9 => h9) rfl hin rfl (tyX1_ok 2 (by decide)) rfl rfl (Nat.le_of_ble_eq_true rfl) dX1_init_16 (fun H locs hP hD hS => ?_)
  have hP : va_P (dC, dI) vwCl [(h0, .inr (1, [.int p0, .int p1, .int p2]))] H := hP
  have hD : va_D A [(h0, .inr (1, [.int p0, .int p1, .int p2]))] := hD
  exact W.vret hx hb hr (fun t ht hW => ⟨⟨(), rfl, trivial, ⟨by rw [ht]; exact hP.sub [0] rfl, hD.sub [0] (by decide) rfl⟩⟩, hS.F ht⟩) hS.2.2 dX1_init_19
set_option maxHeartbeats 4000000 in
set_option maxRecDepth 100000 in
theorem x_ActP (l : Launch) (dC : Nat → ClassId) (dI : Nat → Nat → Nat) (h0 : Nat) (po : Nat) (sz : Nat) : Met l yX0_init wsX0_init ({ frames := 1, cells := 0, slots := 0, locals := 12 }) (va_Pc [.ref h0, .ref po, .int 0, .null] (fun U => U.heap.size = sz ∧ PW dC dI [(h0, .inr (0, [.null, .int 0, .null, .int 0]))] [] U ∧ va_D (fun _ => True) [(h0, .inr (0, [.null, .int 0, .null, .int 0]))])) (va_Qv (fun _ : Unit => True) (fun _ t => va_P (dC, dI) vwCl [(h0, .inr (0, [.ref po, .int 0, .null, .int 1]))] t.heap ∧ va_D (va_A [(h0, .inr (0, [.null, .int 0, .null, .int 0]))] sz) [(h0, .inr (0, [.ref po, .int 0, .null, .int 1]))]) (va_A [(h0, .inr (0, [.null, .int 0, .null, .int 0]))] sz)) 0 0 (va_A [(h0, .inr (0, [.null, .int 0, .null, .int 0]))] sz) := by
  refine Met.ofW (cc := cX0_init) (maxL := 4) (ret := none) (by decide) rfl ?_
  intro p e s m args below meth c s₁ B hml hv
  obtain ⟨rfl, hsz, ⟨hP, hK, hN⟩, hD0⟩ := hv
  have hx := B.exec
  have hb := B.bytes
  have hr := B.returns
  have hts := atoms_spec (ws := wsX0_init) B.pre
  have hown : s.vm.findClass RX0 = some m.cls := findClass_of_methodNamed B.named
  have hlocks := B.notSynchronized
  have hin : meth.name = "<init>" := (name_of_methodNamed B.named B.method).1
  subst hsz
  have hD := hD0.self (sz := s.heap.size)
  generalize hAe : va_A [(h0, .inr (0, [.null, .int 0, .null, .int 0]))] s.heap.size = A at hD ⊢
  have hA : ∀ q : Nat, s.heap.size ≤ q → A q := fun q h => by rw [← hAe]; exact Or.inr h
  have hS : va_S A s.heap s.heap [] := va_S.rf
  have hP : va_P (dC, dI) vwCl [(h0, .inr (0, [.null, .int 0, .null, .int 0]))] s.heap := hP
  have hl := lv_entry ([.ref h0, .ref po, .int 0, .null]) (n := 4) (Nat.le_of_ble_eq_true rfl)
  rw [lg_entry_eq]
  generalize (lg_sl ([.ref h0, .ref po, .int 0, .null]) ++ List.replicate (4 - (lg_sl ([.ref h0, .ref po, .int 0, .null])).length) Slot.unset).toArray = ls at hl ⊢
  have hl : lv_has ls 4 [(0, .ref h0), (1, .ref po), (2, .int 0), (3, .null)] := hl
  refine lv_aload_n hx hb dX0_init_0 rfl (lv_at hl 0 rfl) ?_
  refine W.objInit hx hb hown (hts (.methodLink RX0 1 objectInit) (zat q_wsX0_init k_wsX0_init 602 rfl (by decide +kernel))) (hts (.instanceMethod objectInit) (zat q_wsX0_init k_wsX0_init 74 rfl (by decide +kernel))) (hts (.code objectInit ⟨#[0xb1]⟩ 1 none) (zat q_wsX0_init k_wsX0_init 75 rfl (by decide +kernel))) rfl (by rw [hml]; exact hl.1) rfl dX0_init_1 (Nat.le_of_ble_eq_true rfl) (Nat.le_of_ble_eq_true rfl) ?_
  refine W.eq (g2 := F0 m 4 ls []) rfl ?_
  refine lv_aload_n hx hb dX0_init_4 rfl (lv_at hl 0 rfl) ?_
  refine lv_aload_n hx hb dX0_init_5 rfl (lv_at hl 1 rfl) ?_
  refine va_putF (D := (dC, dI)) (ci := 0) (v := .ref po) (ty := .object "PageOne$Piece") (C := RX0) (T := TX0) (N := 4) hx hb hts zl_X0_init_X0 tyX0 tyX0_ok nmX0 hown hK hP hD hS 0 rfl rfl 0 (by decide) (hts (.fieldLink RX0 7 "PageOne$Act" "piece" "LPageOne$Piece;") (zat q_wsX0_init k_wsX0_init 603 rfl (by decide +kernel))) (fun _ h9 => h9) rfl hin rfl (tyX0_ok 0 (by decide)) rfl rfl (Nat.le_of_ble_eq_true rfl) dX0_init_6 (fun H locs hP hD hS => ?_)
  have hP : va_P (dC, dI) vwCl [(h0, .inr (0, [.ref po, .int 0, .null, .int 0]))] H := hP
  have hD : va_D A [(h0, .inr (0, [.ref po, .int 0, .null, .int 0]))] := hD
  refine lv_aload_n hx hb dX0_init_9 rfl (lv_at hl 0 rfl) ?_
  refine lv_iload_n hx hb dX0_init_10 rfl (lv_at hl 2 rfl) ?_
  refine va_putF (D := (dC, dI)) (ci := 0) (v := .int 0) (ty := .boolean) (C := RX0) (T := TX0) (N := 4) hx hb hts zl_X0_init_X0 tyX0 tyX0_ok nmX0 hown hK hP hD hS 0 rfl rfl 1 (by decide) (hts (.fieldLink RX0 13 "PageOne$Act" "lifted" "Z") (zat q_wsX0_init k_wsX0_init 605 rfl (by decide +kernel))) (fun _ h9 => h9) rfl hin rfl (tyX0_ok 1 (by decide)) rfl rfl (Nat.le_of_ble_eq_true rfl) dX0_init_11 (fun H locs hP hD hS => ?_)
  have hP : va_P (dC, dI) vwCl [(h0, .inr (0, [.ref po, .int 0, .null, .int 0]))] H := hP
  have hD : va_D A [(h0, .inr (0, [.ref po, .int 0, .null, .int 0]))] := hD
  refine lv_aload_n hx hb dX0_init_14 rfl (lv_at hl 0 rfl) ?_
  refine lv_aload_nN hx hb dX0_init_15 rfl (lv_at hl 3 rfl) ?_
  refine va_putF (D := (dC, dI)) (ci := 0) (v := .null) (ty := .object "PageOne$Act") (C := RX0) (T := TX0) (N := 4) hx hb hts zl_X0_init_X0 tyX0 tyX0_ok nmX0 hown hK hP hD hS 0 rfl rfl 2 (by decide) (hts (.fieldLink RX0 17 "PageOne$Act" "ahead" "LPageOne$Act;") (zat q_wsX0_init k_wsX0_init 607 rfl (by decide +kernel))) (fun _ h9 => h9) rfl hin rfl (tyX0_ok 2 (by decide)) rfl rfl (Nat.le_of_ble_eq_true rfl) dX0_init_16 (fun H locs hP hD hS => ?_)
  have hP : va_P (dC, dI) vwCl [(h0, .inr (0, [.ref po, .int 0, .null, .int 0]))] H := hP
  have hD : va_D A [(h0, .inr (0, [.ref po, .int 0, .null, .int 0]))] := hD
  refine lv_aload_n hx hb dX0_init_19 rfl (lv_at hl 0 rfl) ?_
  refine lv_aload_nN hx hb dX0_init_20 rfl (lv_at hl 3 rfl) ?_
  refine lv_ifnonnullN hx hb dX0_init_21 ?_
  refine lv_iconst (v := 1) hx hb dX0_init_24 (by decide) ?_
  refine lv_goto (tgt := 34) hx hb dX0_init_25 (by decide) ?_
  refine va_putF (D := (dC, dI)) (ci := 0) (v := .int 1) (ty := .int) (C := RX0) (T := TX0) (N := 4) hx hb hts zl_X0_init_X0 tyX0 tyX0_ok nmX0 hown hK hP hD hS 0 rfl rfl 3 (by decide) (hts (.fieldLink RX0 21 "PageOne$Act" "parts" "I") (zat q_wsX0_init k_wsX0_init 609 rfl (by decide +kernel))) (fun _ h9 => h9) rfl hin rfl (tyX0_ok 3 (by decide)) rfl rfl (Nat.le_of_ble_eq_true rfl) dX0_init_34 (fun H locs hP hD hS => ?_)
  have hP : va_P (dC, dI) vwCl [(h0, .inr (0, [.ref po, .int 0, .null, .int 1]))] H := hP
  have hD : va_D A [(h0, .inr (0, [.ref po, .int 0, .null, .int 1]))] := hD
  exact W.vret hx hb hr (fun t ht hW => ⟨⟨(), rfl, trivial, ⟨by rw [ht]; exact hP.sub [0] rfl, hD.sub [0] (by decide) rfl⟩⟩, hS.F ht⟩) hS.2.2 dX0_init_37
set_option maxHeartbeats 4000000 in
set_option maxRecDepth 100000 in
theorem x_ActL (l : Launch) (dC : Nat → ClassId) (dI : Nat → Nat → Nat) (h0 : Nat) (po : Nat) (sz : Nat) : Met l yX0_init wsX0_init ({ frames := 1, cells := 0, slots := 0, locals := 12 }) (va_Pc [.ref h0, .ref po, .int 1, .null] (fun U => U.heap.size = sz ∧ PW dC dI [(h0, .inr (0, [.null, .int 0, .null, .int 0]))] [] U ∧ va_D (fun _ => True) [(h0, .inr (0, [.null, .int 0, .null, .int 0]))])) (va_Qv (fun _ : Unit => True) (fun _ t => va_P (dC, dI) vwCl [(h0, .inr (0, [.ref po, .int 1, .null, .int 1]))] t.heap ∧ va_D (va_A [(h0, .inr (0, [.null, .int 0, .null, .int 0]))] sz) [(h0, .inr (0, [.ref po, .int 1, .null, .int 1]))]) (va_A [(h0, .inr (0, [.null, .int 0, .null, .int 0]))] sz)) 0 0 (va_A [(h0, .inr (0, [.null, .int 0, .null, .int 0]))] sz) := by
  refine Met.ofW (cc := cX0_init) (maxL := 4) (ret := none) (by decide) rfl ?_
  intro p e s m args below meth c s₁ B hml hv
  obtain ⟨rfl, hsz, ⟨hP, hK, hN⟩, hD0⟩ := hv
  have hx := B.exec
  have hb := B.bytes
  have hr := B.returns
  have hts := atoms_spec (ws := wsX0_init) B.pre
  have hown : s.vm.findClass RX0 = some m.cls := findClass_of_methodNamed B.named
  have hlocks := B.notSynchronized
  have hin : meth.name = "<init>" := (name_of_methodNamed B.named B.method).1
  subst hsz
  have hD := hD0.self (sz := s.heap.size)
  generalize hAe : va_A [(h0, .inr (0, [.null, .int 0, .null, .int 0]))] s.heap.size = A at hD ⊢
  have hA : ∀ q : Nat, s.heap.size ≤ q → A q := fun q h => by rw [← hAe]; exact Or.inr h
  have hS : va_S A s.heap s.heap [] := va_S.rf
  have hP : va_P (dC, dI) vwCl [(h0, .inr (0, [.null, .int 0, .null, .int 0]))] s.heap := hP
  have hl := lv_entry ([.ref h0, .ref po, .int 1, .null]) (n := 4) (Nat.le_of_ble_eq_true rfl)
  rw [lg_entry_eq]
  generalize (lg_sl ([.ref h0, .ref po, .int 1, .null]) ++ List.replicate (4 - (lg_sl ([.ref h0, .ref po, .int 1, .null])).length) Slot.unset).toArray = ls at hl ⊢
  have hl : lv_has ls 4 [(0, .ref h0), (1, .ref po), (2, .int 1), (3, .null)] := hl
  refine lv_aload_n hx hb dX0_init_0 rfl (lv_at hl 0 rfl) ?_
  refine W.objInit hx hb hown (hts (.methodLink RX0 1 objectInit) (zat q_wsX0_init k_wsX0_init 602 rfl (by decide +kernel))) (hts (.instanceMethod objectInit) (zat q_wsX0_init k_wsX0_init 74 rfl (by decide +kernel))) (hts (.code objectInit ⟨#[0xb1]⟩ 1 none) (zat q_wsX0_init k_wsX0_init 75 rfl (by decide +kernel))) rfl (by rw [hml]; exact hl.1) rfl dX0_init_1 (Nat.le_of_ble_eq_true rfl) (Nat.le_of_ble_eq_true rfl) ?_
  refine W.eq (g2 := F0 m 4 ls []) rfl ?_
  refine lv_aload_n hx hb dX0_init_4 rfl (lv_at hl 0 rfl) ?_
  refine lv_aload_n hx hb dX0_init_5 rfl (lv_at hl 1 rfl) ?_
  refine va_putF (D := (dC, dI)) (ci := 0) (v := .ref po) (ty := .object "PageOne$Piece") (C := RX0) (T := TX0) (N := 4) hx hb hts zl_X0_init_X0 tyX0 tyX0_ok nmX0 hown hK hP hD hS 0 rfl rfl 0 (by decide) (hts (.fieldLink RX0 7 "PageOne$Act" "piece" "LPageOne$Piece;") (zat q_wsX0_init k_wsX0_init 603 rfl (by decide +kernel))) (fun _ h9 => h9) rfl hin rfl (tyX0_ok 0 (by decide)) rfl rfl (Nat.le_of_ble_eq_true rfl) dX0_init_6 (fun H locs hP hD hS => ?_)
  have hP : va_P (dC, dI) vwCl [(h0, .inr (0, [.ref po, .int 0, .null, .int 0]))] H := hP
  have hD : va_D A [(h0, .inr (0, [.ref po, .int 0, .null, .int 0]))] := hD
  refine lv_aload_n hx hb dX0_init_9 rfl (lv_at hl 0 rfl) ?_
  refine lv_iload_n hx hb dX0_init_10 rfl (lv_at hl 2 rfl) ?_
  refine va_putF (D := (dC, dI)) (ci := 0) (v := .int 1) (ty := .boolean) (C := RX0) (T := TX0) (N := 4) hx hb hts zl_X0_init_X0 tyX0 tyX0_ok nmX0 hown hK hP hD hS 0 rfl rfl 1 (by decide) (hts (.fieldLink RX0 13 "PageOne$Act" "lifted" "Z") (zat q_wsX0_init k_wsX0_init 605 rfl (by decide +kernel))) (fun _ h9 => h9) rfl hin rfl (tyX0_ok 1 (by decide)) rfl rfl (Nat.le_of_ble_eq_true rfl) dX0_init_11 (fun H locs hP hD hS => ?_)
  have hP : va_P (dC, dI) vwCl [(h0, .inr (0, [.ref po, .int 1, .null, .int 0]))] H := hP
  have hD : va_D A [(h0, .inr (0, [.ref po, .int 1, .null, .int 0]))] := hD
  refine lv_aload_n hx hb dX0_init_14 rfl (lv_at hl 0 rfl) ?_
  refine lv_aload_nN hx hb dX0_init_15 rfl (lv_at hl 3 rfl) ?_
  refine va_putF (D := (dC, dI)) (ci := 0) (v := .null) (ty := .object "PageOne$Act") (C := RX0) (T := TX0) (N := 4) hx hb hts zl_X0_init_X0 tyX0 tyX0_ok nmX0 hown hK hP hD hS 0 rfl rfl 2 (by decide) (hts (.fieldLink RX0 17 "PageOne$Act" "ahead" "LPageOne$Act;") (zat q_wsX0_init k_wsX0_init 607 rfl (by decide +kernel))) (fun _ h9 => h9) rfl hin rfl (tyX0_ok 2 (by decide)) rfl rfl (Nat.le_of_ble_eq_true rfl) dX0_init_16 (fun H locs hP hD hS => ?_)
  have hP : va_P (dC, dI) vwCl [(h0, .inr (0, [.ref po, .int 1, .null, .int 0]))] H := hP
  have hD : va_D A [(h0, .inr (0, [.ref po, .int 1, .null, .int 0]))] := hD
  refine lv_aload_n hx hb dX0_init_19 rfl (lv_at hl 0 rfl) ?_
  refine lv_aload_nN hx hb dX0_init_20 rfl (lv_at hl 3 rfl) ?_
  refine lv_ifnonnullN hx hb dX0_init_21 ?_
  refine lv_iconst (v := 1) hx hb dX0_init_24 (by decide) ?_
  refine lv_goto (tgt := 34) hx hb dX0_init_25 (by decide) ?_
  refine va_putF (D := (dC, dI)) (ci := 0) (v := .int 1) (ty := .int) (C := RX0) (T := TX0) (N := 4) hx hb hts zl_X0_init_X0 tyX0 tyX0_ok nmX0 hown hK hP hD hS 0 rfl rfl 3 (by decide) (hts (.fieldLink RX0 21 "PageOne$Act" "parts" "I") (zat q_wsX0_init k_wsX0_init 609 rfl (by decide +kernel))) (fun _ h9 => h9) rfl hin rfl (tyX0_ok 3 (by decide)) rfl rfl (Nat.le_of_ble_eq_true rfl) dX0_init_34 (fun H locs hP hD hS => ?_)
  have hP : va_P (dC, dI) vwCl [(h0, .inr (0, [.ref po, .int 1, .null, .int 1]))] H := hP
  have hD : va_D A [(h0, .inr (0, [.ref po, .int 1, .null, .int 1]))] := hD
  exact W.vret hx hb hr (fun t ht hW => ⟨⟨(), rfl, trivial, ⟨by rw [ht]; exact hP.sub [0] rfl, hD.sub [0] (by decide) rfl⟩⟩, hS.F ht⟩) hS.2.2 dX0_init_37
theorem cO_pc {q : Nat → ClassId} {z : gS} {a : Nat} {it : Option Nat} {P X Y D N : Int32} (hP : bw P 0 11 = true) (hit : ∀ b, it = some b → itm z b) (ha : a ∉ z.1) : cO q (pz z a (22, 0, [va_rf it, .int P, .int X, .int Y, .int D, .int N])) a (.inr (7, [va_rf it, .int P, .int X, .int Y, .int D, .int N])) := by
  refine cO_22 (by rw [pz_s]) ⟨by rw [pz_s], it, P, X, Y, D, N, by rw [pz_s], hP, fun b hb => zE_itm (pz_E ha _) (hit b hb)⟩
theorem cO_ac {q : Nat → ClassId} {z : gS} {a p : Nat} {l n : Int32} (hp : lgP z p) (ha : a ∉ z.1) : cO q (pz z a (23, 0, [.ref p, .int l, va_rf none, .int n])) a (.inr (0, [.ref p, .int l, va_rf none, .int n])) := by
  refine cO_23 (by rw [pz_s]) ⟨by rw [pz_s], p, l, n, none, by rw [pz_s], zE_lg (pz_E ha _) hp, ty_n⟩
theorem lg_of {z : gS} {a : Nat} {it : Option Nat} {P X Y D N : Int32} (h : pcS z a it P X Y D N) (h2 : bw X 0 7 = true ∧ bw Y 0 60 = true ∧ bw D 0 8 = true ∧ bw N 0 60 = true) : lgP z a := ⟨it, P, X, Y, D, N, h, h2⟩
