/-- the rows show the pieces -/
def cM (u : mS) (c : cfg) : Prop := ∀ a, a < 80 → u.2 22 a = nI (c a).length ∧ slM u a (c a)
def cPush (c : cfg) (a : Nat) (r : fR) : cfg := fun b => if b = a then r :: c b else c b
theorem cPush_a (c : cfg) (a : Nat) (r : fR) : cPush c a r a = r :: c a := if_pos rfl
theorem cPush_o {c : cfg} {a b : Nat} {r : fR} (h : b ≠ a) : cPush c a r b = c b := if_neg h
theorem slM_c {u w : mS} {a : Nat} : ∀ {l : List fR}, (∀ k, 6 * a ≤ k → k < 6 * a + l.length → w.2 23 k = u.2 23 k ∧ w.2 24 k = u.2 24 k ∧ w.2 25 k = u.2 25 k ∧ w.2 26 k = u.2 26 k ∧ w.2 27 k = u.2 27 k) → slM u a l → slM w a l
  | [], _, _ => trivial
  | r :: l, h, h2 => by
    obtain ⟨k1, k2, k3, k4, k5⟩ := h (6 * a + l.length) (by omega) (by rw [List.length_cons]; omega)
    obtain ⟨⟨e1, e2, e3, e4, e5⟩, h3⟩ := h2
    exact ⟨⟨k1.trans e1, k2.trans e2, k3.trans e3, k4.trans e4, k5.trans e5⟩, slM_c (fun k q1 q2 => h k q1 (by rw [List.length_cons]; omega)) h3⟩
theorem cM_rows {u w : mS} {c : cfg} (h : ∀ k, 22 ≤ k → k ≤ 27 → w.2 k = u.2 k) (hc : cM u c) : cM w c := fun a ha => ⟨by rw [h 22 (by decide) (by decide)]; exact (hc a ha).1, slM_c (fun k _ _ => ⟨by rw [h 23 (by decide) (by decide)], by rw [h 24 (by decide) (by decide)], by rw [h 25 (by decide) (by decide)], by rw [h 26 (by decide) (by decide)], by rw [h 27 (by decide) (by decide)]⟩) (hc a ha).2⟩
theorem mst_at (u : mS) (k : Nat) (i x : Int32) (j : Nat) : (mst u k i x).2 k j = if j = i.toNatClampNeg then x else u.2 k j := by
  unfold mst mput upd; dsimp only; rw [if_pos rfl]
theorem mStand_1 (u : mS) (i : Int32) (P X Y D N : Nat) : (mStand u i P X Y D N).1 = u.1 := rfl
theorem mStand_22o (u : mS) (i : Int32) (P X Y D N j : Nat) : (mStand u i P X Y D N).2 22 j = if j = i.toNatClampNeg then u.2 22 i.toNatClampNeg + 1 else u.2 22 j := by
  unfold mStand
  dsimp only
  rw [mput_other (by decide), mst_at, mst_other (by decide), mst_other (by decide), mst_other (by decide), mst_other (by decide), mst_other (by decide)]
theorem mStand_r (u : mS) (i : Int32) (P X Y D N j : Nat) : (mStand u i P X Y D N).2 23 j = (if j = (6 * i + u.2 22 i.toNatClampNeg).toNatClampNeg then nI P else u.2 23 j) ∧ (mStand u i P X Y D N).2 24 j = (if j = (6 * i + u.2 22 i.toNatClampNeg).toNatClampNeg then nI X else u.2 24 j) ∧ (mStand u i P X Y D N).2 25 j = (if j = (6 * i + u.2 22 i.toNatClampNeg).toNatClampNeg then nI Y else u.2 25 j) ∧ (mStand u i P X Y D N).2 26 j = (if j = (6 * i + u.2 22 i.toNatClampNeg).toNatClampNeg then nI D else u.2 26 j) ∧ (mStand u i P X Y D N).2 27 j = (if j = (6 * i + u.2 22 i.toNatClampNeg).toNatClampNeg then nI N else u.2 27 j) := by
  unfold mStand
  dsimp only
  refine ⟨?_, ?_, ?_, ?_, ?_⟩
  · rw [mput_other (by decide), mst_other (by decide), mst_other (by decide), mst_other (by decide), mst_other (by decide), mst_other (by decide), mst_at]
  · rw [mput_other (by decide), mst_other (by decide), mst_other (by decide), mst_other (by decide), mst_other (by decide), mst_at, mst_other (by decide)]
  · rw [mput_other (by decide), mst_other (by decide), mst_other (by decide), mst_other (by decide), mst_at, mst_other (by decide), mst_other (by decide)]
  · rw [mput_other (by decide), mst_other (by decide), mst_other (by decide), mst_at, mst_other (by decide), mst_other (by decide), mst_other (by decide)]
  · rw [mput_other (by decide), mst_other (by decide), mst_at, mst_other (by decide), mst_other (by decide), mst_other (by decide), mst_other (by decide)]
theorem mUnstand_1 (u : mS) (i : Int32) (P X Y D N : Nat) : (mUnstand u i P X Y D N).1 = u.1 := rfl
theorem mUnstand_k (u : mS) (i : Int32) (P X Y D N : Nat) {k : Nat} (h1 : k ≠ 2) (h2 : k ≠ 22) : (mUnstand u i P X Y D N).2 k = u.2 k := by
  unfold mUnstand
  dsimp only
  rw [mput_other h1, mst_other h2]
theorem mUnstand_22o (u : mS) (i : Int32) (P X Y D N j : Nat) : (mUnstand u i P X Y D N).2 22 j = if j = i.toNatClampNeg then u.2 22 i.toNatClampNeg - 1 else u.2 22 j := by
  unfold mUnstand
  dsimp only
  rw [mput_other (by decide), mst_at]
theorem cM_stand {u : mS} {c : cfg} {a : Nat} (ha : a < 80) (hl : (c a).length ≤ 5) (h6 : ∀ b, (c b).length ≤ 6) (hc : cM u c) (P X Y D N : Nat) : cM (mStand u (nI a) P X Y D N) (cPush c a (P, X, Y, D, N)) := by
  intro b hb
  have h1 := (hc a ha).1
  have hca : (nI a).toNatClampNeg = a := nI_clamp (by omega)
  have hk : (6 * nI a + u.2 22 (nI a).toNatClampNeg).toNatClampNeg = 6 * a + (c a).length := by rw [hca, h1, ix6, nI_clamp (by omega)]
  have hr := fun j => mStand_r u (nI a) P X Y D N j
  rw [hk] at hr
  have ho : ∀ k, k ≠ 6 * a + (c a).length → (mStand u (nI a) P X Y D N).2 23 k = u.2 23 k ∧ (mStand u (nI a) P X Y D N).2 24 k = u.2 24 k ∧ (mStand u (nI a) P X Y D N).2 25 k = u.2 25 k ∧ (mStand u (nI a) P X Y D N).2 26 k = u.2 26 k ∧ (mStand u (nI a) P X Y D N).2 27 k = u.2 27 k := by
    intro k hne
    obtain ⟨q1, q2, q3, q4, q5⟩ := hr k
    rw [if_neg hne] at q1 q2 q3 q4 q5
    exact ⟨q1, q2, q3, q4, q5⟩
  by_cases e : b = a
  · subst e
    rw [cPush_a]
    refine ⟨?_, ?_, ?_⟩
    · rw [mStand_22o, hca, if_pos rfl, h1, nI_1]; rfl
    · obtain ⟨q1, q2, q3, q4, q5⟩ := hr (6 * b + (c b).length)
      rw [if_pos rfl] at q1 q2 q3 q4 q5
      exact ⟨q1, q2, q3, q4, q5⟩
    · exact slM_c (fun k _ k2 => ho k (by omega)) (hc b hb).2
  · rw [cPush_o e]
    refine ⟨?_, ?_⟩
    · rw [mStand_22o, hca, if_neg e]; exact (hc b hb).1
    · exact slM_c (fun k k1 k2 => ho k (by have := h6 b; omega)) (hc b hb).2
theorem cM_unstand {u : mS} {c : cfg} {a : Nat} {r : fR} (ha : a < 80) (hl : (c a).length ≤ 5) (hc : cM u (cPush c a r)) (P X Y D N : Nat) : cM (mUnstand u (nI a) P X Y D N) c := by
  intro b hb
  have hca : (nI a).toNatClampNeg = a := nI_clamp (by omega)
  have h := hc b hb
  have hs : ∀ l, slM u b l → slM (mUnstand u (nI a) P X Y D N) b l := fun l => slM_c (fun k _ _ => ⟨by rw [mUnstand_k _ _ _ _ _ _ _ (by decide) (by decide)], by rw [mUnstand_k _ _ _ _ _ _ _ (by decide) (by decide)], by rw [mUnstand_k _ _ _ _ _ _ _ (by decide) (by decide)], by rw [mUnstand_k _ _ _ _ _ _ _ (by decide) (by decide)], by rw [mUnstand_k _ _ _ _ _ _ _ (by decide) (by decide)]⟩)
  by_cases e : b = a
  · subst e
    rw [cPush_a] at h
    refine ⟨?_, hs _ h.2.2⟩
    rw [mUnstand_22o, hca, if_pos rfl, h.1, List.length_cons, dn_e (by omega)]; rfl
  · rw [cPush_o e] at h
    refine ⟨?_, hs _ h.2⟩
    rw [mUnstand_22o, hca, if_neg e]; exact h.1
theorem cM_slR {u : mS} {c : cfg} {a P X Y D N : Nat} (ha : a < 80) (hl : (c a).length ≤ 5) (hc : cM u (cPush c a (P, X, Y, D, N))) : slR u (nI a) P X Y D N := by
  have hca : (nI a).toNatClampNeg = a := nI_clamp (by omega)
  have h := hc a ha
  rw [cPush_a] at h
  obtain ⟨h1, ⟨e1, e2, e3, e4, e5⟩, -⟩ := h
  unfold slR
  rw [hca, h1, List.length_cons, dn_e (by omega), Nat.add_sub_cancel, ix6, nI_clamp (by omega)]
  exact ⟨bwN (by have h5 : (5 : Int32).toInt = 5 := rfl; rw [h5]; omega) (by omega), e1, e2, e3, e4, e5⟩
/-- good pieces -/
def cOK (n : Nat) (kd : Nat → Int32) (c : cfg) : Prop := ∀ a, (n ≤ a → c a = []) ∧ (c a).length ≤ 6 ∧ (∀ r ∈ c a, rOK r) ∧ lgT none (c a) ∧ (kd a = 4 → (c a).length ≤ 1)
theorem cOK_nil (n : Nat) (kd : Nat → Int32) {c : cfg} (h : ∀ a, c a = []) : cOK n kd c := fun a => by
  rw [h a]
  exact ⟨fun _ => rfl, Nat.zero_le _, fun r hr => absurd hr List.not_mem_nil, trivial, fun _ => Nat.zero_le _⟩
theorem cOK_mono {n m : Nat} {kd kd2 : Nat → Int32} {c : cfg} (hm : n ≤ m) (hk : ∀ a, a < n → kd2 a = kd a) (h : cOK n kd c) : cOK m kd2 c := fun a => by
  obtain ⟨h1, h2, h3, h4, h5⟩ := h a
  refine ⟨fun q => h1 (by omega), h2, h3, h4, fun q => ?_⟩
  rcases Nat.lt_or_ge a n with e | e
  · exact h5 (by rw [← hk a e]; exact q)
  · rw [h1 e]; exact Nat.zero_le _
theorem cOK_push {n : Nat} {kd : Nat → Int32} {c : cfg} {a : Nat} {r : fR} (h : cOK n kd c) (ha : a < n) (hr : rOK r) (hl : (c a).length ≤ 5) (hg : lgT none (r :: c a)) (hk : kd a = 4 → c a = []) : cOK n kd (cPush c a r) := fun b => by
  by_cases e : b = a
  · subst e
    rw [cPush_a]
    refine ⟨fun q => absurd q (by omega), by rw [List.length_cons]; omega, ?_, hg, fun q => by rw [hk q]; exact Nat.le_refl 1⟩
    intro q hq
    rcases List.mem_cons.mp hq with e | e
    · rw [e]; exact hr
    · exact (h b).2.2.1 q e
  · rw [cPush_o e]; exact h b
theorem lg_one {r : fR} (hr : rOK r) : lgT none [r] := by
  refine ⟨?_, trivial⟩
  have h := hr.2.2
  show 1 ≤ (r.2.2.2.2 : Int) - 0 - 0
  omega
