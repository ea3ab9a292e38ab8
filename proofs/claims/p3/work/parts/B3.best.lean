/-- the wrongs: the least of all that were found -/
abbrev tr3 : Type := Int32 × Int32 × Int32
def wr3 (u : mS) : tr3 := (u.1 49, u.1 50, u.1 51)
def trN (k a b : Int32) : tr3 := (k, if b < 0 then a else if a ≤ b then a else b, if b < 0 then b else if a ≤ b then b else a)
def le3 (a b : tr3) : Prop := a.1.toInt < b.1.toInt ∨ (a.1.toInt = b.1.toInt ∧ (a.2.1.toInt < b.2.1.toInt ∨ (a.2.1.toInt = b.2.1.toInt ∧ a.2.2.toInt ≤ b.2.2.toInt)))
theorem le3_rf (a : tr3) : le3 a a := by unfold le3; omega
theorem le3_tr {a b c : tr3} (h1 : le3 a b) (h2 : le3 b c) : le3 a c := by unfold le3 at *; omega
theorem le3_an {a b : tr3} (h1 : le3 a b) (h2 : le3 b a) : a = b := by
  unfold le3 at h1 h2
  exact Prod.ext (Int32.toInt_inj.mp (by omega)) (Prod.ext (Int32.toInt_inj.mp (by omega)) (Int32.toInt_inj.mp (by omega)))
def best (S : tr3 → Prop) (w : tr3) : Prop := (w = (0, -1, -1) ∧ ∀ t, ¬ S t) ∨ (¬ w.1 = 0 ∧ S w ∧ ∀ t, S t → le3 w t)
theorem best_u {S : tr3 → Prop} {w w2 : tr3} (h : best S w) (h2 : best S w2) : w = w2 := by
  rcases h with ⟨a1, a2⟩ | ⟨a1, a2, a3⟩
  · rcases h2 with ⟨b1, b2⟩ | ⟨b1, b2, b3⟩
    · rw [a1, b1]
    · exact absurd b2 (a2 _)
  · rcases h2 with ⟨b1, b2⟩ | ⟨b1, b2, b3⟩
    · exact absurd a2 (b2 _)
    · exact le3_an (a3 _ b2) (b3 _ a2)
theorem best_c {S T : tr3 → Prop} {w : tr3} (h : best S w) (e : ∀ t, S t ↔ T t) : best T w := by
  rcases h with ⟨a1, a2⟩ | ⟨a1, a2, a3⟩
  · exact Or.inl ⟨a1, fun t ht => a2 t ((e t).mpr ht)⟩
  · exact Or.inr ⟨a1, (e w).mp a2, fun t ht => a3 t ((e t).mpr ht)⟩
theorem best_new {S : tr3 → Prop} {w t0 : tr3} (h : best S w) (hk : ¬ t0.1 = 0) (hlt : w.1 = 0 ∨ le3 t0 w) : best (fun t => S t ∨ t = t0) t0 := by
  refine Or.inr ⟨hk, Or.inr rfl, fun t ht => ?_⟩
  rcases ht with ht | ht
  · rcases h with ⟨a1, a2⟩ | ⟨a1, a2, a3⟩
    · exact absurd ht (a2 t)
    · rcases hlt with x | x
      · exact absurd x a1
      · exact le3_tr x (a3 t ht)
  · rw [ht]; exact le3_rf _
theorem best_old {S : tr3 → Prop} {w t0 : tr3} (h : best S w) (hw : ¬ w.1 = 0) (hle : le3 w t0) : best (fun t => S t ∨ t = t0) w := by
  rcases h with ⟨a1, a2⟩ | ⟨a1, a2, a3⟩
  · exact absurd (by rw [a1]) hw
  · refine Or.inr ⟨a1, Or.inl a2, fun t ht => ?_⟩
    rcases ht with ht | ht
    · exact a3 t ht
    · rw [ht]; exact hle
theorem i32n {a b : Int32} (h : ¬ a < b) (h2 : ¬ a = b) : b.toInt < a.toInt := by
  rw [i32_lt] at h
  have h3 : ¬ a.toInt = b.toInt := fun e => h2 (Int32.toInt_inj.mp e)
  omega
theorem best_wr {S : tr3 → Prop} {u : mS} {k a b : Int32} (h : best S (wr3 u)) (hk : ¬ k = 0) : best (fun t => S t ∨ t = trN k a b) (wr3 (mWrongs u k a b)) := by
  have hw : ∀ lo ot : Int32, wr3 (mset (mset (mset u 49 k) 50 lo) 51 ot) = (k, lo, ot) := fun lo ot => by
    unfold wr3 mset
    dsimp only
    rw [if_neg (by decide), if_neg (by decide), if_pos rfl, if_neg (by decide), if_pos rfl, if_pos rfl]
  unfold mWrongs
  dsimp only
  generalize hlo : (if b < 0 then a else if a ≤ b then a else b) = lo
  generalize hot : (if b < 0 then b else if a ≤ b then b else a) = ot
  have ht : trN k a b = (k, lo, ot) := by unfold trN; rw [hlo, hot]
  rw [ht]
  by_cases c1 : u.1 49 = 0
  · rw [if_pos c1, hw]; exact best_new h hk (Or.inl c1)
  · rw [if_neg c1]
    have hz : ¬ (wr3 u).1 = 0 := c1
    by_cases c2 : k < u.1 49
    · rw [if_pos c2, hw]; exact best_new h hk (Or.inr (Or.inl (by rw [i32_lt] at c2; exact c2)))
    · rw [if_neg c2]
      by_cases c3 : k = u.1 49
      · rw [if_pos c3]
        by_cases c4 : lo < u.1 50
        · rw [if_pos c4, hw]; exact best_new h hk (Or.inr (Or.inr ⟨by rw [c3]; rfl, Or.inl (by rw [i32_lt] at c4; exact c4)⟩))
        · rw [if_neg c4]
          by_cases c5 : lo = u.1 50
          · rw [if_pos c5]
            by_cases c6 : u.1 51 ≤ ot
            · rw [if_pos c6]; exact best_old h hz (Or.inr ⟨by rw [c3]; rfl, Or.inr ⟨by rw [c5]; rfl, by rw [i32_le] at c6; exact c6⟩⟩)
            · rw [if_neg c6, hw]; exact best_new h hk (Or.inr (Or.inr ⟨by rw [c3]; rfl, Or.inr ⟨by rw [c5]; rfl, by rw [i32_le] at c6; show ot.toInt ≤ (u.1 51).toInt; omega⟩⟩))
          · rw [if_neg c5]; exact best_old h hz (Or.inr ⟨by rw [c3]; rfl, Or.inl (i32n c4 c5)⟩)
      · rw [if_neg c3]; exact best_old h hz (Or.inl (i32n c2 c3))
