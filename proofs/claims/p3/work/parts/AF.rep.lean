/-- an entry of the address book d: index x, tag t -/
def nO (d : Nat → Nat) (z : gS) (x t : Nat) : Prop := tg z (d x) t ∧ (z.2 (d x)).2.1 = x ∧ t ≠ 16
theorem nO_ne {d : Nat → Nat} {z : gS} {x y t s : Nat} (h : nO d z x t) (h2 : nO d z y s) (hxy : x ≠ y) : d x ≠ d y := fun e => hxy (by rw [← h.2.1, ← h2.2.1, e])
theorem nO_E {d : Nat → Nat} {z w : gS} (hE : zE z w) {x t : Nat} (h : nO d z x t) : nO d w x t := ⟨zE_tg hE h.1, by rw [zE_o hE h.1.1]; exact h.2⟩
/-- a row shows a stretch of a row -/
def eqR (n : Nat) (g h : Nat → Int32) (o : Nat) : Prop := ∀ j, j < n → g j = h (o + j)
/-- the sheet at s with its rows at la, ca: lines as h0 from o0 on, cells as h1 from o1 on -/
def shR (q : Nat → ClassId) (f : xF) (s la ca : Nat) (m dd ii : Int32) (r0 r1 : Nat → Int32) (o0 o1 : Nat) : Prop := f s = .inr (8, [.ref la, .ref ca, .int m, .int dd, .int ii]) ∧ (∃ gl, f la = aI (q 0) 8 gl ∧ eqR 8 gl r0 o0) ∧ ∃ gc, f ca = aI (q 0) 480 gc ∧ eqR 480 gc r1 o1
/-- the pages -/
def rPg (q : Nat → ClassId) (d : Nat → Nat) (u : mS) (z : gS) (f : xF) : Prop := (∃ g, f (d 0) = aR (q 2) 12 g ∧ ∀ p, p < 12 → g p = some (d (10 + p))) ∧ ∀ p, p < 12 → nO d z (10 + p) 7 ∧ nO d z (30 + p) 8 ∧ nO d z (50 + p) 9 ∧ ∃ dd ii, shR q f (d (10 + p)) (d (30 + p)) (d (50 + p)) (u.2 1 p) dd ii (u.2 0) (u.2 2) (8 * p) (480 * p)
/-- the plates -/
def rPl (q : Nat → ClassId) (d : Nat → Nat) (u : mS) (z : gS) (f : xF) : Prop := ∃ g, f (d 1) = aR (q 2) 12 g ∧ ∀ p, p < 12 → (u.2 40 p = 0 ∧ g p = none) ∨ (u.2 40 p = 1 ∧ g p = some (d (1000 + p)) ∧ nO d z (1000 + p) 7 ∧ nO d z (1020 + p) 8 ∧ nO d z (1040 + p) 9 ∧ ∃ m, shR q f (d (1000 + p)) (d (1020 + p)) (d (1040 + p)) m (u.2 41 p) (u.2 42 p) (u.2 43) (u.2 44) (8 * p) (480 * p))
/-- a kind's tag -/
def kT (k : Int32) : Nat := if k = 0 then 15 else if k = 1 then 11 else if k = 2 then 14 else if k = 3 then 13 else if k = 4 then 10 else 12
/-- what stands behind an item's common fields, by its kind -/
def rRs (q : Nat → ClassId) (d : Nat → Nat) (u : mS) (z : gS) (f : xF) (i : Nat) (rs : List Value) : Prop :=
  (u.2 4 i = 0 → rs = [.int (u.2 5 i), .ref (d (5000 + i)), .int (u.2 15 i), .ref (d (6000 + i))] ∧ nO d z (5000 + i) 18 ∧ nO d z (6000 + i) 19 ∧ (∃ g, f (d (5000 + i)) = aI (q 0) 80 g ∧ eqR 80 g (u.2 16) (80 * i)) ∧ ∃ g, f (d (6000 + i)) = aI (q 1) 10 g ∧ eqR 10 g (u.2 21) (10 * i)) ∧
  (u.2 4 i = 1 → ∃ o, o < (u.1 3).toNatClampNeg ∧ u.2 9 i = nI o ∧ u.2 4 o = 0 ∧ rs = [.ref (d (2000 + o)), .int (u.2 7 i), .int (u.2 8 i)]) ∧
  (u.2 4 i = 2 → rs = [.ref (d (5000 + i)), .ref (d (6000 + i)), .int (u.2 17 i)] ∧ nO d z (5000 + i) 20 ∧ nO d z (6000 + i) 20 ∧ (∃ g, f (d (5000 + i)) = aI (q 0) 4 g ∧ eqR 4 g (u.2 18) (4 * i)) ∧ ∃ g, f (d (6000 + i)) = aI (q 0) 4 g ∧ eqR 4 g (u.2 19) (4 * i)) ∧
  (u.2 4 i = 3 → rs = [.int (u.2 10 i), .int (u.2 14 i), .ref (d (5000 + i)), .ref (d (6000 + i))] ∧ pcS z (d (5000 + i)) none (u.2 11 i) (u.2 12 i) (u.2 13 i) (u.2 7 i) (u.2 8 i) ∧ nO d z (6000 + i) 21 ∧ ∃ g, f (d (6000 + i)) = aI (q 1) 400 g ∧ ∀ j, j < 400 → g j = u.2 48 (80 * j + i)) ∧
  (u.2 4 i = 4 → rs = [.int (u.2 5 i), .int (u.2 6 i)]) ∧
  (u.2 4 i = 5 → ∃ o, o < (u.1 3).toNatClampNeg ∧ u.2 9 i = nI o ∧ rs = [.ref (d (2000 + o)), .int (u.2 8 i)])
/-- an item's pieces as the reference has them -/
def pR (u : mS) (i : Nat) : Nat → Nat → Int32 := fun k j => u.2 (23 + j) (6 * i + k)
/-- where an item's pieces lie -/
def t3 (d : Nat → Nat) (z : gS) (i : Nat) : Prop := tg z (d (3000 + i)) 16 ∧ i < 1000
/-- item i -/
def rIt (q : Nat → ClassId) (d : Nat → Nat) (u : mS) (z : gS) (f : xF) (i : Nat) : Prop := nO d z (2000 + i) (kT (u.2 4 i)) ∧ t3 d z i ∧ nO d z (4000 + i) 17 ∧ (0 ≤ u.2 4 i ∧ u.2 4 i ≤ 5) ∧ ∃ rs g fg, f (d (2000 + i)) = .inr (ciT (z.2 (d (2000 + i))).1, itF (nI i) (u.2 4 i) (d (3000 + i)) (u.2 22 i) (d (4000 + i)) rs) ∧ f (d (3000 + i)) = aR (q 5) (if u.2 4 i = 0 then 6 else 1) g ∧ (∀ k, k < (u.2 22 i).toNatClampNeg → ∃ b, g k = some b ∧ pcS z b (some (d (2000 + i))) (pR u i k 0) (pR u i k 1) (pR u i k 2) (pR u i k 3) (pR u i k 4)) ∧ f (d (4000 + i)) = aI (q 0) 5 fg ∧ eqR 5 fg (u.2 47) (5 * i) ∧ rRs q d u z f i rs
def rIs (q : Nat → ClassId) (d : Nat → Nat) (u : mS) (z : gS) (f : xF) : Prop := (∃ g, f (d 2) = aR (q 3) 80 g ∧ ∀ i, i < (u.1 3).toNatClampNeg → g i = some (d (2000 + i))) ∧ ∀ i, i < (u.1 3).toNatClampNeg → rIt q d u z f i
/-- the rivals -/
def rRv (q : Nat → ClassId) (d : Nat → Nat) (u : mS) (f : xF) : Prop := ∃ g, f (d 4) = aI (q 1) 100 g ∧ eqR 100 g (u.2 20) 0
/-- the desk's numbers -/
def kU (u : mS) : Nat → Int32 := fun j => if j = 0 then u.1 3 else if j = 1 then u.1 28 else if j = 2 then u.1 38 else u.1 39
/-- the class's heap shows u, but for the acts -/
def rep (q : Nat → ClassId) (d : Nat → Nat) (u : mS) (z : gS) (f : xF) : Prop := rPg q d u z f ∧ rPl q d u z f ∧ rIs q d u z f ∧ rRv q d u f ∧ (nO d z 0 2 ∧ nO d z 1 3 ∧ nO d z 2 4 ∧ nO d z 3 5 ∧ nO d z 4 6)
theorem aI_inj {c c2 : ClassId} {n n2 : Nat} {g g2 : Nat → Int32} (h : aI c n g = aI c2 n2 g2) : n = n2 ∧ g = g2 := by
  have e6 := (Prod.mk.inj (Prod.mk.inj (Sum.inl.inj h)).2)
  exact ⟨e6.1, Sum.inl.inj e6.2⟩
theorem sh_inj {la ca la2 ca2 : Nat} {m dd ii m2 dd2 ii2 : Int32} (h : (Sum.inr (8, [.ref la, .ref ca, .int m, .int dd, .int ii]) : va_E) = .inr (8, [.ref la2, .ref ca2, .int m2, .int dd2, .int ii2])) : la = la2 ∧ ca = ca2 ∧ m = m2 ∧ dd = dd2 ∧ ii = ii2 := by
  have e := (Prod.mk.inj (Sum.inr.inj h)).2
  simp only [List.cons.injEq, Value.ref.injEq, Value.int.injEq] at e
  exact ⟨e.1, e.2.1, e.2.2.1, e.2.2.2.1, e.2.2.2.2.1⟩
/-- a page that is read: its sheet is the book's, its rows the reference's -/
theorem rp_pg {q d u z f} (h : rPg q d u z f) {g : Nat → Option Nat} (hg : f (d 0) = aR (q 2) 12 g) {p b : Nat} (hp : p < 12) (hb : g p = some b) {la ca : Nat} {m dd ii : Int32} (hs : f b = .inr (8, [.ref la, .ref ca, .int m, .int dd, .int ii])) : b = d (10 + p) ∧ la = d (30 + p) ∧ ca = d (50 + p) ∧ m = u.2 1 p ∧ (∀ gl, f la = aI (q 0) 8 gl → eqR 8 gl (u.2 0) (8 * p)) ∧ ∀ gc, f ca = aI (q 0) 480 gc → eqR 480 gc (u.2 2) (480 * p) := by
  obtain ⟨⟨g2, a1, a2⟩, a3⟩ := h
  obtain ⟨n1, n2, n3, dd2, ii2, s1, ⟨gl, s2, s3⟩, gc, s4, s5⟩ := a3 p hp
  have eg := (aR_inj (hg.symm.trans a1)).2
  have eb : b = d (10 + p) := Option.some.inj (hb.symm.trans (by rw [eg]; exact a2 p hp))
  subst eb
  obtain ⟨e1, e2, e3, e4, e5⟩ := sh_inj (hs.symm.trans s1)
  subst e1 e2
  exact ⟨rfl, rfl, rfl, e3, fun gl2 hl => by rw [(aI_inj (hl.symm.trans s2)).2]; exact s3, fun gc2 hc => by rw [(aI_inj (hc.symm.trans s4)).2]; exact s5⟩
/-- a sheet's cell, by the reference's rows -/
theorem shAt_eq {gl gc : Nat → Int32} {u : mS} {p : Nat} (hp : p < 12) (hl : eqR 8 gl (u.2 0) (8 * p)) (hc : eqR 480 gc (u.2 2) (480 * p)) (hb : ∀ j, j < 8 → bw (gl j) 0 60 = true) (c l : Int32) : shAt gl gc c l = mCellAt u (nI p) c l := by
  unfold shAt mCellAt mCell
  rw [bw11 hp, Bool.true_and]
  by_cases h1 : bw c 0 7 = true
  · obtain ⟨C, hC, -, eC⟩ := exN h1 (by decide)
    have h7 : (7 : Int32).toInt = 7 := rfl
    subst eC
    have e0 : (8 * nI p + nI C).toNatClampNeg = 8 * p + C := by rw [show (8 : Int32) = nI 8 from rfl, pk_mul, nI_add, nI_clamp (by omega)]
    rw [if_pos h1, h1, Bool.true_and, nI_clamp (by omega), hl C (by omega), e0]
    by_cases h2 : bw l 0 (u.2 0 (8 * p + C) - 1) = true
    · rw [if_pos h2, if_pos h2]
      have hb1 := hb C (by omega)
      rw [hl C (by omega)] at hb1
      have hl59 := b59 hb1 h2
      obtain ⟨L, hL, -, eL⟩ := exN hl59 (by decide)
      have h59 : (59 : Int32).toInt = 59 := rfl
      subst eL
      have e1 : (nI C * 60 + nI L).toNatClampNeg = 60 * C + L := by rw [show (60 : Int32) = nI 60 from rfl, pk_mul, nI_add, nI_clamp (by omega)]; omega
      have e2 : (480 * nI p + 60 * nI C + nI L).toNatClampNeg = 480 * p + (60 * C + L) := by rw [idxN hp (by omega) (by omega), nI_clamp (by omega)]; omega
      rw [e1, e2]
      exact hc _ (by omega)
    · rw [if_neg h2, if_neg h2]
  · rw [if_neg h1, if_neg (fun h => h1 (by rw [Bool.and_eq_true] at h; exact h.1))]
