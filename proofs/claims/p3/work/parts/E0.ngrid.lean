/-- a cell of a rectangle, by its place in the row of cells -/
def inR (r : fR) (j : Nat) : Prop := ∃ x y, x < r.2.2.2.1 ∧ y < r.2.2.2.2 ∧ j = 480 * r.1 + 60 * (r.2.1 + x) + (r.2.2.1 + y)
def setF (G : Nat → Int32) (r : fR) (x : Int32) : Nat → Int32 := setR G r.1 r.2.1 r.2.2.1 r.2.2.2.2 x r.2.2.2.1
theorem setF_in {G : Nat → Int32} {r : fR} {x : Int32} {j : Nat} (h : inR r j) : setF G r x j = x := by
  obtain ⟨a, b, ha, hb, e⟩ := h
  rw [e]; exact setR_in _ _ _ _ _ _ _ _ _ ha hb
theorem setF_out {G : Nat → Int32} {r : fR} {x : Int32} {j : Nat} (h : ¬ inR r j) : setF G r x j = G j := setR_out (fun a b ha hb e => h ⟨a, b, ha, hb, e⟩)
theorem inR_lt {r : fR} (hr : rOK r) {j : Nat} (h : inR r j) : j < 5760 := by
  obtain ⟨h1, h2, h3, -, -⟩ := hr
  obtain ⟨a, b, ha, hb, e⟩ := h
  omega
/-- the rectangle is free -/
def frG (G : Nat → Int32) (r : fR) : Prop := ∀ j, inR r j → G j = (-2)
theorem setF_re {G : Nat → Int32} {r : fR} {x y : Int32} (h : ∀ j, inR r j → G j = x) : setF (setF G r y) r x = G := by
  funext j
  by_cases hj : inR r j
  · rw [setF_in hj, h j hj]
  · rw [setF_out hj, setF_out hj]
theorem setF_ff {G : Nat → Int32} {r : fR} {x y : Int32} : setF (setF G r y) r x = setF G r x := by
  funext j
  by_cases hj : inR r j
  · rw [setF_in hj, setF_in hj]
  · rw [setF_out hj, setF_out hj, setF_out hj]
def dj (r s : fR) : Prop := ∀ j, inR r j → ¬ inR s j
/-- cells and pieces agree -/
def agr (c : cfg) (G : Nat → Int32) : Prop := (∀ j, j < 5760 → ∀ a, a < 80 → (G j = nI a ↔ ∃ r, r ∈ c a ∧ inR r j)) ∧ (∀ j, j < 5760 → G j = (-2) ∨ G j = 100 ∨ ∃ a, a < 80 ∧ G j = nI a) ∧ ∀ a, List.Pairwise dj (c a)
theorem nI_n2 {a : Nat} (ha : a < 80) : ¬ nI a = (-2) := fun e => by
  have h := congrArg Int32.toInt e
  rw [nI_toInt (by omega)] at h
  have h2 : (-2 : Int32).toInt = -2 := rfl
  omega
theorem nI_100 {a : Nat} (ha : a < 80) : ¬ nI a = 100 := fun e => by
  have h := congrArg Int32.toInt e
  rw [nI_toInt (by omega)] at h
  have h2 : (100 : Int32).toInt = 100 := rfl
  omega
theorem agr_push {c : cfg} {G : Nat → Int32} {a : Nat} {r : fR} (h : agr c G) (ha : a < 80) (hr : rOK r) (hf : frG G r) : agr (cPush c a r) (setF G r (nI a)) := by
  obtain ⟨h1, h2, h3⟩ := h
  refine ⟨fun j hj b hb => ?_, fun j hj => ?_, fun b => ?_⟩
  · by_cases hi : inR r j
    · rw [setF_in hi]
      by_cases e : b = a
      · rw [e]
        exact ⟨fun _ => ⟨r, by rw [cPush_a]; exact List.mem_cons_self, hi⟩, fun _ => rfl⟩
      · refine ⟨fun q => absurd ((nI_inj (by omega) (by omega)).mp q).symm e, fun ⟨s, hs, hs2⟩ => ?_⟩
        rw [cPush_o e] at hs
        have q := (h1 j hj b hb).mpr ⟨s, hs, hs2⟩
        rw [hf j hi] at q
        exact absurd q.symm (nI_n2 hb)
    · rw [setF_out hi]
      by_cases e : b = a
      · rw [e, cPush_a]
        refine ⟨fun q => ?_, fun ⟨s, hs, hs2⟩ => ?_⟩
        · obtain ⟨s, hs, hs2⟩ := (h1 j hj a ha).mp q
          exact ⟨s, List.mem_cons_of_mem _ hs, hs2⟩
        · rcases List.mem_cons.mp hs with q | q
          · exact absurd (q ▸ hs2) hi
          · exact (h1 j hj a ha).mpr ⟨s, q, hs2⟩
      · rw [cPush_o e]; exact h1 j hj b hb
  · by_cases hi : inR r j
    · rw [setF_in hi]; exact Or.inr (Or.inr ⟨a, ha, rfl⟩)
    · rw [setF_out hi]; exact h2 j hj
  · by_cases e : b = a
    · rw [e, cPush_a]
      refine List.Pairwise.cons (fun s hs j hj hj2 => ?_) (h3 a)
      have q := (h1 j (inR_lt hr hj) a ha).mpr ⟨s, hs, hj2⟩
      rw [hf j hj] at q
      exact absurd q.symm (nI_n2 ha)
    · rw [cPush_o e]; exact h3 b
theorem agr_pop {c : cfg} {G : Nat → Int32} {a : Nat} {r : fR} (h : agr (cPush c a r) G) (ha : a < 80) : agr c (setF G r (-2)) := by
  obtain ⟨h1, h2, h3⟩ := h
  have h3a := h3 a
  rw [cPush_a] at h3a
  obtain ⟨h4, h5⟩ := List.pairwise_cons.mp h3a
  refine ⟨fun j hj b hb => ?_, fun j hj => ?_, fun b => ?_⟩
  · by_cases hi : inR r j
    · rw [setF_in hi]
      refine ⟨fun q => absurd q.symm (nI_n2 hb), fun ⟨s, hs, hs2⟩ => ?_⟩
      by_cases e : b = a
      · rw [e] at hs
        exact absurd hs2 (h4 s hs j hi)
      · have q := (h1 j hj b hb).mpr ⟨s, by rw [cPush_o e]; exact hs, hs2⟩
        have q2 := (h1 j hj a ha).mpr ⟨r, by rw [cPush_a]; exact List.mem_cons_self, hi⟩
        exact absurd ((nI_inj (by omega) (by omega)).mp (q.symm.trans q2)) e
    · rw [setF_out hi]
      by_cases e : b = a
      · rw [e]
        have q := h1 j hj a ha
        rw [cPush_a] at q
        refine ⟨fun q2 => ?_, fun ⟨s, hs, hs2⟩ => q.mpr ⟨s, List.mem_cons_of_mem _ hs, hs2⟩⟩
        obtain ⟨s, hs, hs2⟩ := q.mp q2
        rcases List.mem_cons.mp hs with q3 | q3
        · exact absurd (q3 ▸ hs2) hi
        · exact ⟨s, q3, hs2⟩
      · have q := h1 j hj b hb
        rw [cPush_o e] at q; exact q
  · by_cases hi : inR r j
    · rw [setF_in hi]; exact Or.inl rfl
    · rw [setF_out hi]; exact h2 j hj
  · by_cases e : b = a
    · rw [e]; exact h5
    · have q := h3 b
      rw [cPush_o e] at q; exact q
theorem agr_rule {c : cfg} {G : Nat → Int32} {r : fR} (h : agr c G) (hf : frG G r) : agr c (setF G r 100) := by
  obtain ⟨h1, h2, h3⟩ := h
  refine ⟨fun j hj b hb => ?_, fun j hj => ?_, h3⟩
  · by_cases hi : inR r j
    · rw [setF_in hi]
      refine ⟨fun q => absurd q.symm (nI_100 hb), fun q => ?_⟩
      have q2 := (h1 j hj b hb).mpr q
      rw [hf j hi] at q2
      exact absurd q2.symm (nI_n2 hb)
    · rw [setF_out hi]; exact h1 j hj b hb
  · by_cases hi : inR r j
    · rw [setF_in hi]; exact Or.inr (Or.inl rfl)
    · rw [setF_out hi]; exact h2 j hj
theorem agr_top {c : cfg} {G : Nat → Int32} {a : Nat} {r : fR} (h : agr (cPush c a r) G) (ha : a < 80) (hr : rOK r) : ∀ j, inR r j → G j = nI a := fun j hj => (h.1 j (inR_lt hr hj) a ha).mpr ⟨r, by rw [cPush_a]; exact List.mem_cons_self, hj⟩
theorem agr_nil {c : cfg} {G : Nat → Int32} (h : ∀ a, c a = []) (hG : ∀ j, j < 5760 → G j = (-2)) : agr c G := by
  refine ⟨fun j hj b hb => ?_, fun j hj => Or.inl (hG j hj), fun b => by rw [h b]; exact List.Pairwise.nil⟩
  rw [hG j hj, h b]
  exact ⟨fun q => absurd q.symm (nI_n2 hb), fun ⟨s, hs, _⟩ => absurd hs (List.not_mem_nil)⟩
/-- the lines hold the rectangle -/
def rLn (u : mS) (r : fR) : Prop := ∀ x, x < r.2.2.2.1 → r.2.2.1 + r.2.2.2.2 ≤ (u.2 0 (8 * r.1 + (r.2.1 + x))).toNatClampNeg
/-- r stands behind s -/
def bhd (r s : fR) : Prop := s.1 < r.1 ∨ (s.1 = r.1 ∧ (s.2.1 < r.2.1 ∨ (s.2.1 = r.2.1 ∧ s.2.2.1 + s.2.2.2.2 ≤ r.2.2.1)))
theorem bhd_tr {r s t : fR} (h1 : bhd r s) (h2 : bhd s t) : bhd r t := by
  unfold bhd at *; omega
/-- what the pieces of an item keep -/
def cX (u : mS) (c : cfg) : Prop := ∀ a, a < (u.1 3).toNatClampNeg → (∀ r, r ∈ c a → rLn u r) ∧ (¬ u.2 4 a = 0 → (c a).length ≤ 1) ∧ (u.2 4 a = 0 → (∀ r, r ∈ c a → r.2.2.2.1 = 1) ∧ List.Pairwise bhd (c a)) ∧ (u.2 4 a = 3 → ∀ r, r ∈ c a → u.2 11 a = nI r.1)
theorem cX_pop {u : mS} {c : cfg} {a : Nat} {r : fR} (h : cX u (cPush c a r)) : cX u c := fun b hb => by
  by_cases e : b = a
  · have q := h b hb
    rw [e] at q ⊢
    rw [cPush_a] at q
    refine ⟨fun s hs => q.1 s (List.mem_cons_of_mem _ hs), fun k => by have q2 := q.2.1 k; rw [List.length_cons] at q2; omega, fun k => ⟨fun s hs => (q.2.2.1 k).1 s (List.mem_cons_of_mem _ hs), (List.pairwise_cons.mp (q.2.2.1 k).2).2⟩, fun k s hs => q.2.2.2 k s (List.mem_cons_of_mem _ hs)⟩
  · have q := h b hb
    rw [cPush_o e] at q; exact q
theorem cX_push {u : mS} {c : cfg} {a : Nat} {r : fR} (h : cX u c) (ha : a < (u.1 3).toNatClampNeg) (h1 : rLn u r) (h2 : ¬ u.2 4 a = 0 → c a = []) (h3 : u.2 4 a = 0 → r.2.2.2.1 = 1 ∧ ∀ s, s ∈ c a → bhd r s) (h4 : u.2 4 a = 3 → u.2 11 a = nI r.1) : cX u (cPush c a r) := fun b hb => by
  by_cases e : b = a
  · rw [e, cPush_a]
    have q := h a ha
    refine ⟨fun s hs => ?_, fun k => by rw [h2 k]; exact Nat.le_refl _, fun k => ⟨fun s hs => ?_, List.Pairwise.cons (h3 k).2 (q.2.2.1 k).2⟩, fun k s hs => ?_⟩
    · rcases List.mem_cons.mp hs with g | g
      · rw [g]; exact h1
      · exact q.1 s g
    · rcases List.mem_cons.mp hs with g | g
      · rw [g]; exact (h3 k).1
      · exact (q.2.2.1 k).1 s g
    · rcases List.mem_cons.mp hs with g | g
      · rw [g]; exact h4 k
      · exact q.2.2.2 k s g
  · rw [cPush_o e]; exact h b hb
theorem cX_nil {u : mS} {c : cfg} (h : ∀ a, c a = []) : cX u c := fun b _ => by
  rw [h b]
  exact ⟨fun s hs => absurd hs List.not_mem_nil, fun _ => Nat.zero_le _, fun _ => ⟨fun s hs => absurd hs List.not_mem_nil, List.Pairwise.nil⟩, fun _ s hs => absurd hs List.not_mem_nil⟩
/-- new items, other numbers: what cX reads is the same -/
theorem cX_c {u w : mS} {c : cfg} (h : cX u c) (hn : (u.1 3).toNatClampNeg ≤ (w.1 3).toNatClampNeg) (h0 : w.2 0 = u.2 0) (h4 : ∀ a, a < (u.1 3).toNatClampNeg → w.2 4 a = u.2 4 a ∧ w.2 11 a = u.2 11 a) (hc : ∀ a, (u.1 3).toNatClampNeg ≤ a → c a = []) : cX w c := fun b hb => by
  by_cases e : b < (u.1 3).toNatClampNeg
  · have q := h b e
    unfold rLn at *
    rw [h0, (h4 b e).1, (h4 b e).2]; exact q
  · rw [hc b (by omega)]
    exact ⟨fun s hs => absurd hs List.not_mem_nil, fun _ => Nat.zero_le _, fun _ => ⟨fun s hs => absurd hs List.not_mem_nil, List.Pairwise.nil⟩, fun _ s hs => absurd hs List.not_mem_nil⟩
/-- a filler's rectangle -/
def xR (x : fX) : fR := (x.2.1, x.2.2.1, x.2.2.2.1, 1, x.2.2.2.2)
def gFill (G : Nat → Int32) : List fX → Nat → Int32
  | [] => G
  | x :: xs => setF (gFill G xs) (xR x) (nI x.1)
def frL9 (G : Nat → Int32) : List fX → Prop
  | [] => True
  | x :: xs => frL9 G xs ∧ frG (gFill G xs) (xR x)
def ruR (e : hE) : fR := (e.2.2.1.1, e.2.2.1.2.1, e.2.2.1.2.2.1, 1, 1)
/-- what an act does to pieces and cells -/
def gS9 (e : hE) (c1 : cfg) (G1 : Nat → Int32) (c : cfg) (G : Nat → Int32) : Prop := (e.1 = 0 ∧ c = cPush c1 e.2.1 e.2.2.1 ∧ G = setF G1 e.2.2.1 (nI e.2.1) ∧ frG G1 e.2.2.1 ∧ rOK e.2.2.1) ∨ (e.1 = 1 ∧ c1 = cPush c e.2.1 e.2.2.1 ∧ G = setF G1 e.2.2.1 (-2) ∧ rOK e.2.2.1) ∨ (e.1 = 2 ∧ c = c1 ∧ G = setF G1 (ruR e) 100 ∧ frG G1 (ruR e)) ∨ (e.1 = 3 ∧ c = cFill c1 e.2.2.2 ∧ G = gFill G1 e.2.2.2 ∧ frL9 G1 e.2.2.2)
/-- the history with its cells -/
def gH (u : mS) : List hE → cfg → (Nat → Int32) → Prop
  | [], c, G => (∀ a, c a = []) ∧ ∀ j, j < 5760 → G j = (-2)
  | e :: es, c, G => cX u c ∧ agr c G ∧ cOK (u.1 3).toNatClampNeg (u.2 4) c ∧ (e.1 ≠ 3 → e.1 ≠ 2 → e.2.1 < (u.1 3).toNatClampNeg) ∧ (e.1 = 2 → rLn u (ruR e)) ∧ ∃ c1 G1, gH u es c1 G1 ∧ eS (u.1 3).toNatClampNeg (u.2 4) e c1 c ∧ gS9 e c1 G1 c G
theorem gH_agr {u : mS} {es : List hE} {c : cfg} {G : Nat → Int32} (h : gH u es c G) : agr c G := by
  cases es with
  | nil => exact agr_nil h.1 h.2
  | cons e es => exact h.2.1
theorem gH_cX {u : mS} {es : List hE} {c : cfg} {G : Nat → Int32} (h : gH u es c G) : cX u c := by
  cases es with
  | nil => exact cX_nil h.1
  | cons e es => exact h.1
