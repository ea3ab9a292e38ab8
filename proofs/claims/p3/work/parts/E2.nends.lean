theorem itI {u : mS} (h : rI u) {i : Nat} (hi : i < (u.1 3).toNatClampNeg) : bw (nI i) 0 (u.1 3 - 1) = true := by
  obtain ⟨X, hX, -, eX⟩ := exN h.1 (by decide)
  have h8 : (80 : Int32).toInt = 80 := rfl
  rw [eX] at hi ⊢
  rw [nI_clamp (by omega)] at hi
  rw [dn_e (by omega)]
  exact bwN (by rw [nI_toInt (by omega)]; omega) (by omega)
theorem mst_f1 (u : mS) (k : Nat) (i x : Int32) : (mst u k i x).1 = u.1 := rfl
theorem mS_x {a b : mS} (h1 : a.1 = b.1) (h2 : ∀ r j, a.2 r j = b.2 r j) : a = b := Prod.ext h1 (funext fun r => funext fun j => h2 r j)
/-- the facts of a first printing on page p -/
def enV (w : mS) (p i t : Nat) : Int32 := if t = 0 then w.1 38 else if t = 1 then w.1 39 else if t = 2 then nI p else if t = 3 then w.2 45 (80 * p + i) else w.2 46 (80 * p + i)
noncomputable def en47 (w : mS) (p : Nat) (S : Nat → Prop) : Nat → Int32 := fun j => @ite Int32 (S (j / 5) ∧ w.2 47 (5 * (j / 5)) < 0) (Classical.propDecidable _) (enV w p (j / 5) (j % 5)) (w.2 47 j)
noncomputable def en48 (w : mS) (S : Nat → Prop) : Nat → Int32 := fun j => @ite Int32 (80 * (w.1 38).toNatClampNeg ≤ j ∧ S (j - 80 * (w.1 38).toNatClampNeg)) (Classical.propDecidable _) (vp_nar .boolean 1) (w.2 48 j)
/-- the items of S are written down for page p -/
noncomputable def enS (w : mS) (p : Nat) (S : Nat → Prop) : mS := mput (mput w 47 (en47 w p S)) 48 (en48 w S)
theorem enS_1 (w : mS) (p : Nat) (S : Nat → Prop) : (enS w p S).1 = w.1 := rfl
theorem enS_47 (w : mS) (p : Nat) (S : Nat → Prop) : (enS w p S).2 47 = en47 w p S := rfl
theorem enS_48 (w : mS) (p : Nat) (S : Nat → Prop) : (enS w p S).2 48 = en48 w S := rfl
theorem enS_o (w : mS) (p : Nat) (S : Nat → Prop) {r : Nat} (h1 : r ≠ 47) (h2 : r ≠ 48) : (enS w p S).2 r = w.2 r := by
  show (if r = 48 then _ else if r = 47 then _ else w.2 r) = w.2 r
  rw [if_neg h2, if_neg h1]
theorem enS_cg {w : mS} {p : Nat} {S T : Nat → Prop} (h : ∀ i, S i ↔ T i) : enS w p S = enS w p T := by
  have e : S = T := funext fun i => propext (h i)
  rw [e]
theorem enS_nil {w : mS} {p : Nat} {S : Nat → Prop} (h : ∀ i, ¬ S i) : enS w p S = w := by
  refine mS_x rfl (fun r j => ?_)
  by_cases h1 : r = 47
  · rw [h1, enS_47]; unfold en47; rw [if_neg (fun q => h _ q.1)]
  · by_cases h2 : r = 48
    · rw [h2, enS_48]; unfold en48; rw [if_neg (fun q => h _ q.2)]
    · rw [enS_o w p S h1 h2]
/-- five writes, one after the other -/
theorem w5 {g : Nat → Int32} {m j : Nat} {v0 v1 v2 v3 v4 : Int32} : (if j = 5 * m + 4 then v4 else if j = 5 * m + 3 then v3 else if j = 5 * m + 2 then v2 else if j = 5 * m + 1 then v1 else if j = 5 * m then v0 else g j) = if j / 5 = m then (if j % 5 = 0 then v0 else if j % 5 = 1 then v1 else if j % 5 = 2 then v2 else if j % 5 = 3 then v3 else v4) else g j := by
  by_cases h : j / 5 = m
  · rw [if_pos h]
    rcases (by omega : j % 5 = 0 ∨ j % 5 = 1 ∨ j % 5 = 2 ∨ j % 5 = 3 ∨ j % 5 = 4) with q | q | q | q | q
    · rw [if_neg (by omega), if_neg (by omega), if_neg (by omega), if_neg (by omega), if_pos (by omega), if_pos q]
    · rw [if_neg (by omega), if_neg (by omega), if_neg (by omega), if_pos (by omega), if_neg (by omega), if_pos q]
    · rw [if_neg (by omega), if_neg (by omega), if_pos (by omega), if_neg (by omega), if_neg (by omega), if_pos q]
    · rw [if_neg (by omega), if_pos (by omega), if_neg (by omega), if_neg (by omega), if_neg (by omega), if_pos q]
    · rw [if_pos (by omega), if_neg (by omega), if_neg (by omega), if_neg (by omega), if_neg (by omega)]
  · rw [if_neg h, if_neg (by omega), if_neg (by omega), if_neg (by omega), if_neg (by omega), if_neg (by omega)]
theorem i80 {p m : Nat} (hp : p < 400) (hm : m < 80) : (80 * nI p + nI m).toNatClampNeg = 80 * p + m := by
  rw [show (80 : Int32) = nI 80 from rfl, pk_mul, nI_add, nI_clamp (by omega)]
theorem i5 {m t : Nat} (hm : m < 80) (ht : t < 5) : (5 * nI m + nI t).toNatClampNeg = 5 * m + t := by
  rw [show (5 : Int32) = nI 5 from rfl, pk_mul, nI_add, nI_clamp (by omega)]
theorem i50 {m : Nat} (hm : m < 80) : (5 * nI m).toNatClampNeg = 5 * m := by
  rw [show (5 : Int32) = nI 5 from rfl, pk_mul, nI_clamp (by omega)]
/-- row 48 behind one more item -/
theorem en48_n {w : mS} {S : Nat → Prop} {m j : Nat} : (if j = 80 * (w.1 38).toNatClampNeg + m then vp_nar .boolean 1 else en48 w S j) = en48 w (fun i => S i ∨ i = m) j := by
  unfold en48
  by_cases h : j = 80 * (w.1 38).toNatClampNeg + m
  · rw [if_pos h, if_pos ⟨by omega, Or.inr (by omega)⟩]
  · rw [if_neg h]
    by_cases h2 : 80 * (w.1 38).toNatClampNeg ≤ j ∧ S (j - 80 * (w.1 38).toNatClampNeg)
    · rw [if_pos h2, if_pos ⟨h2.1, Or.inl h2.2⟩]
    · rw [if_neg h2, if_neg (fun q => q.2.elim (fun z => h2 ⟨q.1, z⟩) (fun z => h (by have := q.1; omega)))]
/-- row 47 behind one more item whose first printing stood already -/
theorem en47_o {w : mS} {p : Nat} {S : Nat → Prop} {m j : Nat} (h : S m ∨ ¬ w.2 47 (5 * m) < 0) : en47 w p S j = en47 w p (fun i => S i ∨ i = m) j := by
  unfold en47
  by_cases h2 : S (j / 5) ∧ w.2 47 (5 * (j / 5)) < 0
  · rw [if_pos h2, if_pos ⟨Or.inl h2.1, h2.2⟩]
  · rw [if_neg h2, if_neg (fun q => q.1.elim (fun z => h2 ⟨z, q.2⟩) (fun z => by
      rw [z] at q h2
      exact h.elim (fun g => h2 ⟨g, q.2⟩) (fun g => g q.2)))]
/-- row 47 behind one more item that is printed for the first time -/
theorem en47_n {w : mS} {p : Nat} {S : Nat → Prop} {m j : Nat} (h : w.2 47 (5 * m) < 0) : (if j / 5 = m then enV w p m (j % 5) else en47 w p S j) = en47 w p (fun i => S i ∨ i = m) j := by
  unfold en47
  by_cases h1 : j / 5 = m
  · rw [if_pos h1, if_pos ⟨Or.inr h1, by rw [h1]; exact h⟩, h1]
  · rw [if_neg h1]
    by_cases h2 : S (j / 5) ∧ w.2 47 (5 * (j / 5)) < 0
    · rw [if_pos h2, if_pos ⟨Or.inl h2.1, h2.2⟩]
    · rw [if_neg h2, if_neg (fun q => q.1.elim (fun z => h2 ⟨z, q.2⟩) h1)]
theorem nn0 {x : Int32} (h : 0 ≤ x) : ¬ x < 0 := fun q => by
  rw [i32_le] at h; rw [i32_lt] at q; rw [i0] at *; omega
theorem en47_at {w : mS} {p : Nat} {S : Nat → Prop} {m : Nat} (h : ¬ S m) : en47 w p S (5 * m) = w.2 47 (5 * m) := by
  unfold en47
  rw [if_neg (fun q => h (by have e : 5 * m / 5 = m := by omega
                             rw [e] at q; exact q.1))]
theorem lt_nn {x : Int32} (h : ¬ 0 ≤ x) : x < 0 := by
  rw [i32_le] at h; rw [i32_lt]; rw [i0] at *; omega
/-- the reference's step -/
theorem endI_s {w : mS} {p m : Nat} {S : Nat → Prop} (hp : p < 12) (hm : m < 80) (hd : bw (w.1 38) 0 399 = true) (hS : ¬ S m) : endI (enS w p S) (nI p) (nI m) = enS w p (fun i => S i ∨ (i = m ∧ 0 ≤ w.2 45 (80 * p + m))) := by
  unfold endI
  rw [i80 (by omega) hm, enS_o w p S (by decide) (by decide)]
  by_cases ho : 0 ≤ w.2 45 (80 * p + m)
  · rw [if_pos ho]
    rw [enS_cg (T := fun i => S i ∨ i = m) (fun i => ⟨fun q => q.elim Or.inl (fun z => Or.inr z.1), fun q => q.elim Or.inl (fun z => Or.inr ⟨z, ho⟩)⟩)]
    dsimp only
    rw [i50 hm, mst_other (by decide), enS_47, en47_at hS]
    have e48 : ∀ j, (mst (enS w p S) 48 (80 * (enS w p S).1 38 + nI m) (vp_nar .boolean 1)).2 48 j = en48 w (fun i => S i ∨ i = m) j := fun j => by
      rw [mst_at, enS_1, e48i hm hd, enS_48]; exact en48_n
    by_cases hf : 0 ≤ w.2 47 (5 * m)
    · rw [if_pos hf]
      refine mS_x rfl (fun r j => ?_)
      by_cases h1 : r = 47
      · rw [h1, mst_other (by decide), enS_47, enS_47]; exact en47_o (Or.inr (nn0 hf))
      · by_cases h2 : r = 48
        · rw [h2, e48, enS_48]
        · rw [mst_other h2, enS_o w p _ h1 h2, enS_o w p _ h1 h2]
    · rw [if_neg hf]
      refine mS_x rfl (fun r j => ?_)
      by_cases h1 : r = 47
      · subst h1
        rw [mst_at, mst_at, mst_at, mst_at, mst_at, mst_other (by decide), mst_other (by decide), mst_other (by decide), mst_other (by decide), mst_other (by decide), mst_other (by decide), mst_other (by decide), mst_other (by decide), mst_other (by decide), mst_other (by decide)]
        rw [show (4 : Int32) = nI 4 from rfl, show (3 : Int32) = nI 3 from rfl, show (2 : Int32) = nI 2 from rfl, show (1 : Int32) = nI 1 from rfl, i5 hm (by decide), i5 hm (by decide), i5 hm (by decide), i5 hm (by decide), i50 hm, w5, enS_47, enS_47, ← en47_n (lt_nn hf)]
        congr 1
      · by_cases h2 : r = 48
        · subst h2
          rw [mst_other (by decide), mst_other (by decide), mst_other (by decide), mst_other (by decide), mst_other (by decide), e48, enS_48]
        · rw [mst_other h1, mst_other h1, mst_other h1, mst_other h1, mst_other h1, mst_other h2, enS_o w p _ h1 h2, enS_o w p _ h1 h2]
  · rw [if_neg ho]
    exact enS_cg (fun i => ⟨Or.inl, fun q => q.elim id (fun z => absurd z.2 ho)⟩)
theorem endL_s {w : mS} {p : Nat} (hp : p < 12) (hd : bw (w.1 38) 0 399 = true) : ∀ n, n ≤ 80 → endL w (nI p) n = enS w p (fun i => i < n ∧ 0 ≤ w.2 45 (80 * p + i))
  | 0, _ => (enS_nil (fun i q => absurd q.1 (Nat.not_lt_zero _))).symm
  | n + 1, h => by
    show endI (endL w (nI p) n) (nI p) (nI n) = _
    rw [endL_s hp hd n (by omega), endI_s hp (by omega) hd (fun q => absurd q.1 (by omega))]
    refine enS_cg (fun i => ⟨fun q => ?_, fun q => ?_⟩)
    · rcases q with q | q
      · exact ⟨by omega, q.2⟩
      · exact ⟨by omega, by rw [q.1]; exact q.2⟩
    · by_cases e : i = n
      · exact Or.inr ⟨e, by rw [← e]; exact q.2⟩
      · exact Or.inl ⟨by omega, q.2⟩
/-- the cells before (c, l) of plate p -/
def seen (w : mS) (p c l i : Nat) : Prop := ∃ c' l', c' < 8 ∧ l' < (w.2 43 (8 * p + c')).toNatClampNeg ∧ (c' < c ∨ (c' = c ∧ l' < l)) ∧ w.2 44 (480 * p + (60 * c' + l')) = nI i
def Sx (w : mS) (p n c l i : Nat) : Prop := i < n ∧ seen w p c l i
/-- the class's step -/
theorem wdS_s {w : mS} {p c l : Nat} (hr : rI w) (hp : p < 12) (hc : c < 8) (hl : l < (w.2 43 (8 * p + c)).toNatClampNeg) (hl6 : l < 60) (hpl : plI w) (hfi : fiI w) (h40 : w.2 40 p = 1) (h41 : w.2 41 p = w.1 38) (h42 : w.2 42 p = w.1 39) : wdS p c l (enS w p (Sx w p (w.1 3).toNatClampNeg c l)) = enS w p (Sx w p (w.1 3).toNatClampNeg c (l + 1)) := by
  have hd := hr.2.1
  have hn := n80 hr
  unfold wdS
  rw [enS_o w p _ (by decide) (by decide), enS_1]
  by_cases hb : bw (w.2 44 (480 * p + (60 * c + l))) 0 (w.1 3 - 1) = true
  · rw [if_pos hb]
    obtain ⟨i, ei, hi, -⟩ := itN hr hb
    have hi8 : i < 80 := by omega
    rw [ei, nI_clamp (by omega)]
    rw [enS_cg (S := Sx w p (w.1 3).toNatClampNeg c (l + 1)) (T := fun j => Sx w p (w.1 3).toNatClampNeg c l j ∨ j = i) (fun j => ⟨fun q => by
      obtain ⟨q1, c', l', a1, a2, a3, a4⟩ := q
      by_cases e : c' = c ∧ l' = l
      · rw [e.1, e.2, ei] at a4
        exact Or.inr ((nI_inj (by omega) (by omega)).mp a4).symm
      · exact Or.inl ⟨q1, c', l', a1, a2, by omega, a4⟩, fun q => by
      rcases q with ⟨q1, c', l', a1, a2, a3, a4⟩ | q
      · exact ⟨q1, c', l', a1, a2, by omega, a4⟩
      · rw [q]; exact ⟨hi, c, l, hc, hl, Or.inr ⟨rfl, by omega⟩, ei⟩⟩)]
    generalize hS : Sx w p (w.1 3).toNatClampNeg c l = S
    have e48 : ∀ v : mS, v.2 48 = en48 w S → v.1 = w.1 → ∀ j, (mst v 48 (nI (80 * (w.1 38).toNatClampNeg + i)) (vp_nar .boolean 1)).2 48 j = en48 w (fun i9 => S i9 ∨ i9 = i) j := fun v h1 h2 j => by
      have hd9 : (w.1 38).toNatClampNeg < 400 := by
        obtain ⟨X, hX, -, eX⟩ := exN hd (by decide)
        have h3 : (399 : Int32).toInt = 399 := rfl
        rw [eX, nI_clamp (by omega)]; omega
      rw [mst_at, nI_clamp (by omega), h1]; exact en48_n
    unfold wdU
    rw [enS_47, enS_1]
    by_cases hs : S i
    · have hne : ¬ en47 w p S (5 * i) = (-1) := by
        unfold en47
        have e5 : 5 * i / 5 = i := by omega
        rw [e5]
        by_cases hf : w.2 47 (5 * i) < 0
        · rw [if_pos ⟨hs, hf⟩, show 5 * i % 5 = 0 by omega]
          intro q
          have q2 : w.1 38 = (-1) := q
          have h3 := (bw_iff.mp hd).1
          rw [q2] at h3
          exact absurd h3 (by decide)
        · rw [if_neg (fun q => hf q.2)]
          intro q; rw [q] at hf; exact hf (by decide)
      rw [if_neg hne]
      refine mS_x rfl (fun r j => ?_)
      by_cases h1 : r = 47
      · rw [h1, mst_other (by decide), enS_47, enS_47]; exact en47_o (Or.inl hs)
      · by_cases h2 : r = 48
        · rw [h2, e48 _ (enS_48 w p S) rfl, enS_48]
        · rw [mst_other h2, enS_o w p _ h1 h2, enS_o w p _ h1 h2]
    · rw [en47_at hs]
      have hfirst : w.2 45 (80 * p + i) = nI c ∧ w.2 46 (80 * p + i) = nI l := by
        rcases hpl p hp h40 i hi8 with ⟨-, hN⟩ | ⟨c', l', b1, b2, b3, b4, b5, b6⟩
        · exact absurd ei (hN c l hc hl)
        · have h1 : ¬ (c' < c ∨ (c' = c ∧ l' < l)) := fun q => hs (by rw [← hS]; exact ⟨hi, c', l', b3, b4, q, b5⟩)
          have h2 : ¬ (c < c' ∨ (c = c' ∧ l < l')) := fun q => b6 c l hc hl q ei
          have h3 : c' = c ∧ l' = l := by omega
          rw [← h3.1, ← h3.2]; exact ⟨b1, b2⟩
      by_cases hf : w.2 47 (5 * i) = (-1)
      · rw [if_pos hf]
        have hneg : w.2 47 (5 * i) < 0 := by rw [hf]; decide
        refine mS_x (((mst_f1 _ _ _ _).trans (wdF_1 (enS w p S) i (nI p) (nI (60 * c + l)) 5)).trans (enS_1 w p S)) (fun r j => ?_)
        by_cases h1 : r = 47
        · subst h1
          rw [mst_other (by decide), enS_47, ← en47_n hneg]
          unfold wdF wdF wdF wdF wdF wdF
          rw [mst_at, mst_at, mst_at, mst_at, mst_at, nI_clamp (by omega), nI_clamp (by omega), nI_clamp (by omega), nI_clamp (by omega), nI_clamp (by omega), Nat.add_zero (5 * i), w5, enS_47]
          congr 1
          have q6 := q60 ⟨c, hc⟩ ⟨l, hl6⟩
          have m0 : mPF (enS w p S) (nI p) (nI (60 * c + l)) (nI 0) = w.1 38 := by unfold mPF; rw [if_pos (by decide), nI_clamp (by omega), enS_o w p _ (by decide) (by decide), h41]
          have m1 : mPF (enS w p S) (nI p) (nI (60 * c + l)) (nI 1) = w.1 39 := by unfold mPF; rw [if_neg (by decide), if_pos (by decide), nI_clamp (by omega), enS_o w p _ (by decide) (by decide), h42]
          have m2 : mPF (enS w p S) (nI p) (nI (60 * c + l)) (nI 2) = nI p := by unfold mPF; rw [if_neg (by decide), if_neg (by decide), if_pos (by decide)]
          have m3 : mPF (enS w p S) (nI p) (nI (60 * c + l)) (nI 3) = w.2 45 (80 * p + i) := by unfold mPF; rw [if_neg (by decide), if_neg (by decide), if_neg (by decide), if_pos (by decide), hfirst.1]; exact q6.1
          have m4 : mPF (enS w p S) (nI p) (nI (60 * c + l)) (nI 4) = w.2 46 (80 * p + i) := by unfold mPF; rw [if_neg (by decide), if_neg (by decide), if_neg (by decide), if_neg (by decide), if_pos (by decide), hfirst.2]; exact q6.2
          rw [m0, m1, m2, m3, m4]
          rfl
        · by_cases h2 : r = 48
          · subst h2
            rw [e48 _ ?_ ?_, enS_48]
            · unfold wdF wdF wdF wdF wdF wdF
              rw [mst_other (by decide), mst_other (by decide), mst_other (by decide), mst_other (by decide), mst_other (by decide), enS_48]
            · exact (wdF_1 (enS w p S) i (nI p) (nI (60 * c + l)) 5).trans (enS_1 w p S)
          · rw [mst_other h2]
            unfold wdF wdF wdF wdF wdF wdF
            rw [mst_other h1, mst_other h1, mst_other h1, mst_other h1, mst_other h1, enS_o w p _ h1 h2, enS_o w p _ h1 h2]
      · rw [if_neg hf]
        have hnn : ¬ w.2 47 (5 * i) < 0 := fun q => by
          have h9 := hfi i hi8
          have e1 : (-1 : Int32).toInt = -1 := rfl
          rw [i32_lt, e1] at h9
          rw [i32_lt, i0] at q
          exact hf (Int32.toInt_inj.mp (by rw [e1]; omega))
        refine mS_x rfl (fun r j => ?_)
        by_cases h1 : r = 47
        · rw [h1, mst_other (by decide), enS_47, enS_47]; exact en47_o (Or.inr hnn)
        · by_cases h2 : r = 48
          · rw [h2, e48 _ (enS_48 w p S) rfl, enS_48]
          · rw [mst_other h2, enS_o w p _ h1 h2, enS_o w p _ h1 h2]
  · rw [if_neg hb]
    refine enS_cg (fun j => ⟨fun q => ?_, fun q => ?_⟩)
    · obtain ⟨q1, c', l', a1, a2, a3, a4⟩ := q
      exact ⟨q1, c', l', a1, a2, by omega, a4⟩
    · obtain ⟨q1, c', l', a1, a2, a3, a4⟩ := q
      by_cases e : c' = c ∧ l' = l
      · rw [e.1, e.2] at a4
        exact absurd (by rw [a4]; exact itI hr q1) hb
      · exact ⟨q1, c', l', a1, a2, by omega, a4⟩
theorem wdC_s {w : mS} {p c : Nat} (hr : rI w) (hp : p < 12) (hc : c < 8) (h6 : (w.2 43 (8 * p + c)).toNatClampNeg ≤ 60) (hpl : plI w) (hfi : fiI w) (h40 : w.2 40 p = 1) (h41 : w.2 41 p = w.1 38) (h42 : w.2 42 p = w.1 39) : ∀ l, l ≤ (w.2 43 (8 * p + c)).toNatClampNeg → wdC p c (enS w p (Sx w p (w.1 3).toNatClampNeg c 0)) l = enS w p (Sx w p (w.1 3).toNatClampNeg c l)
  | 0, _ => rfl
  | l + 1, h => by
    show wdS p c l (wdC p c (enS w p (Sx w p (w.1 3).toNatClampNeg c 0)) l) = _
    rw [wdC_s hr hp hc h6 hpl hfi h40 h41 h42 l (by omega)]
    exact wdS_s hr hp hc (by omega) (by omega) hpl hfi h40 h41 h42
theorem wdP_s {w : mS} {p : Nat} (hr : rI w) (hp : p < 12) (hpl : plI w) (hfi : fiI w) (h40 : w.2 40 p = 1) (h41 : w.2 41 p = w.1 38) (h42 : w.2 42 p = w.1 39) : ∀ c, c ≤ 8 → wdP p w c = enS w p (Sx w p (w.1 3).toNatClampNeg c 0)
  | 0, _ => (enS_nil (fun i q => by
      obtain ⟨-, c', l', a1, a2, a3, a4⟩ := q
      omega)).symm
  | c + 1, h => by
    have h6 : (w.2 43 (8 * p + c)).toNatClampNeg ≤ 60 := by
      obtain ⟨e1, e2, e3⟩ := nI_of_bw (hr.2.2.2.1 (8 * p + c) (by omega))
      have h60 : (60 : Int32).toInt = 60 := rfl
      omega
    show wdC p c (wdP p w c) (w.2 43 (8 * p + c)).toNatClampNeg = _
    rw [wdP_s hr hp hpl hfi h40 h41 h42 c (by omega), wdC_s hr hp (by omega) h6 hpl hfi h40 h41 h42 _ (Nat.le_refl _)]
    refine enS_cg (fun i => ⟨fun q => ?_, fun q => ?_⟩)
    · obtain ⟨q1, c', l', a1, a2, a3, a4⟩ := q
      exact ⟨q1, c', l', a1, a2, by omega, a4⟩
    · obtain ⟨q1, c', l', a1, a2, a3, a4⟩ := q
      refine ⟨q1, c', l', a1, a2, ?_, a4⟩
      by_cases e : c' = c
      · rw [e] at a2
        exact Or.inr ⟨e, a2⟩
      · exact Or.inl (by omega)
/-- what is on a plate: its first cell is told -/
theorem seen_45 {w : mS} {p i : Nat} (hp : p < 12) (hi : i < 80) (hpl : plI w) (h40 : w.2 40 p = 1) : seen w p 8 0 i ↔ 0 ≤ w.2 45 (80 * p + i) := by
  rcases hpl p hp h40 i hi with ⟨e, hN⟩ | ⟨c, l, e1, e2, f1, f2, f3, f4⟩
  · rw [e]
    exact ⟨fun ⟨c', l', a1, a2, a3, a4⟩ => absurd a4 (hN c' l' a1 a2), fun q => absurd q (by decide)⟩
  · rw [e1]
    refine ⟨fun _ => ?_, fun _ => ⟨c, l, f1, f2, Or.inl f1, f3⟩⟩
    rw [i32_le, i0, nI_toInt (by omega)]; omega
theorem wdP_e {w : mS} {p : Nat} (hr : rI w) (hp : p < 12) (hpl : plI w) (hfi : fiI w) (h40 : w.2 40 p = 1) (h41 : w.2 41 p = w.1 38) (h42 : w.2 42 p = w.1 39) : wdP p w 8 = endL w (nI p) (w.1 3).toNatClampNeg := by
  have hn := n80 hr
  rw [wdP_s hr hp hpl hfi h40 h41 h42 8 (Nat.le_refl _), endL_s hp hr.2.1 _ hn]
  refine enS_cg (fun i => ⟨fun q => ⟨q.1, (seen_45 hp (by have := q.1; omega) hpl h40).mp q.2⟩, fun q => ⟨q.1, (seen_45 hp (by have := q.1; omega) hpl h40).mpr q.2⟩⟩)
theorem mNow_3 {w : mS} {p : Nat} (hp : p < 12) (hpl : w.2 40 p = 0 ∨ w.2 40 p = 1) (h : mNow w (nI p) = true) : w.2 40 p = 1 ∧ w.2 41 p = w.1 38 ∧ w.2 42 p = w.1 39 := by
  unfold mNow at h
  rw [nI_clamp (by omega)] at h
  obtain ⟨h1, h2⟩ := band h
  obtain ⟨h2, h3⟩ := band h2
  refine ⟨?_, of_decide_eq_true h2, of_decide_eq_true h3⟩
  rcases hpl with q | q
  · rw [q] at h1; exact absurd h1 (by decide)
  · exact q
theorem enV_nn {w : mS} {p i : Nat} (hd : bw (w.1 38) 0 399 = true) : ¬ enV w p i 0 < (-1) := fun q => by
  have q2 : w.1 38 < (-1) := q
  have h := (bw_iff.mp hd).1
  have e1 : (-1 : Int32).toInt = -1 := rfl
  rw [i32_lt, e1] at q2
  rw [i0] at h
  omega
theorem fiI_L {w : mS} {p : Nat} (hp : p < 12) (hd : bw (w.1 38) 0 399 = true) (h : fiI w) {n : Nat} (hn : n ≤ 80) : fiI (endL w (nI p) n) := by
  intro i hi
  rw [endL_s hp hd n hn, enS_47]
  unfold en47
  have e5 : 5 * i / 5 = i := by omega
  have e6 : 5 * i % 5 = 0 := by omega
  rw [e5, e6]
  split
  · exact enV_nn hd
  · exact h i hi
/-- closing an edition: class and reference leave the same -/
theorem clE_e {u : mS} (hr : rI u) (hpl : plI u) (hfi : fiI u) (h40 : ∀ p, p < 12 → u.2 40 p = 0 ∨ u.2 40 p = 1) : ∀ n, n ≤ 12 → clE u n = endP u n ∧ fiI (endP u n)
  | 0, _ => ⟨rfl, hfi⟩
  | n + 1, h => by
    obtain ⟨h1, h2⟩ := clE_e hr hpl hfi h40 n (by omega)
    have hk := endP_k u n
    have hr2 : rI (endP u n) := rI_c hr (fun k _ => by rw [hk.1]) (fun k hk2 => hk.2 k (by unfold kR at hk2; omega) (by unfold kR at hk2; omega))
    have hpl2 : plI (endP u n) := plI_c hpl (fun r r1 r2 => hk.2 r (by omega) (by omega))
    show (if mNow (clE u n) (nI n) = true then wdP n (clE u n) 8 else clE u n) = (if mNow (endP u n) (nI n) = true then endL (endP u n) (nI n) ((u.1 3).toNatClampNeg) else endP u n) ∧ fiI (if mNow (endP u n) (nI n) = true then endL (endP u n) (nI n) ((u.1 3).toNatClampNeg) else endP u n)
    rw [h1]
    have e3 : (endP u n).1 3 = u.1 3 := by rw [hk.1]
    by_cases hn : mNow (endP u n) (nI n) = true
    · rw [if_pos hn, if_pos hn]
      obtain ⟨n1, n2, n3⟩ := mNow_3 (by omega) (by rw [hk.2 40 (by decide) (by decide)]; exact h40 n (by omega)) hn
      have e := wdP_e hr2 (by omega) hpl2 h2 n1 n2 n3
      rw [e3] at e
      refine ⟨e, fiI_L (by omega) hr2.2.1 h2 (by rw [← e3]; exact n80 hr2)⟩
    · rw [if_neg hn, if_neg hn]
      exact ⟨rfl, h2⟩
