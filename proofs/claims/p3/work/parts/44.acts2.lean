/-- the rows of the acts behind one more -/
theorem acts_old {u : mS} {n : Nat} (h28 : (u.1 28).toNatClampNeg = n) (k a b c d e f : Int32) : ∀ j, 29 ≤ j → j ≤ 35 → ∀ t, t < n → (mActs u k a b c d e f).2 j t = u.2 j t := by
  intro j k1 k2 t ht
  obtain ⟨q1, q2, q3, q4, q5, q6, q7⟩ := mActs_r u k a b c d e f t
  rw [h28, if_neg (by omega)] at q1 q2 q3 q4 q5 q6 q7
  have hk : j = 29 ∨ j = 30 ∨ j = 31 ∨ j = 32 ∨ j = 33 ∨ j = 34 ∨ j = 35 := by omega
  rcases hk with e | e | e | e | e | e | e <;> subst e
  · exact q1
  · exact q2
  · exact q3
  · exact q4
  · exact q5
  · exact q6
  · exact q7
theorem acts_at {u : mS} {n : Nat} (h28 : (u.1 28).toNatClampNeg = n) (k a b c d e f : Int32) : (mActs u k a b c d e f).2 29 n = k ∧ (mActs u k a b c d e f).2 30 n = a ∧ (mActs u k a b c d e f).2 31 n = b ∧ (mActs u k a b c d e f).2 32 n = c ∧ (mActs u k a b c d e f).2 33 n = d ∧ (mActs u k a b c d e f).2 34 n = e ∧ (mActs u k a b c d e f).2 35 n = f := by
  obtain ⟨q1, q2, q3, q4, q5, q6, q7⟩ := mActs_r u k a b c d e f n
  rw [h28, if_pos rfl] at q1 q2 q3 q4 q5 q6 q7
  exact ⟨q1, q2, q3, q4, q5, q6, q7⟩
theorem len28 {u : mS} {es : List hE} {c : cfg} (d : mH u es c) : (u.1 28).toNatClampNeg = es.length := by rw [d.2.1, nI_clamp (by have := d.1; omega)]
def cDrop (c : cfg) (a : Nat) (l : List fR) : cfg := fun b => if b = a then l else c b
theorem cDrop_a (c : cfg) (a : Nat) (l : List fR) : cDrop c a l a = l := if_pos rfl
theorem cDrop_o {c : cfg} {a b : Nat} {l : List fR} (h : b ≠ a) : cDrop c a l b = c b := if_neg h
theorem cDrop_push {c : cfg} {a : Nat} {r : fR} {l : List fR} (h : c a = r :: l) : c = cPush (cDrop c a l) a r := by
  funext b
  by_cases e : b = a
  · subst e; rw [cPush_a, cDrop_a, h]
  · rw [cPush_o e, cDrop_o e]
theorem cOK_drop {n : Nat} {kd : Nat → Int32} {c : cfg} {a : Nat} {r : fR} {l : List fR} (h : cOK n kd c) (hc : c a = r :: l) : cOK n kd (cDrop c a l) := fun b => by
  by_cases e : b = a
  · subst e
    obtain ⟨h1, h2, h3, h4, h5⟩ := h b
    rw [hc] at h1 h2 h3 h4 h5
    rw [List.length_cons] at h2 h5
    rw [cDrop_a]
    refine ⟨fun q => absurd (h1 q) (by simp), by omega, fun q hq => h3 q (List.mem_cons_of_mem _ hq), lgT_none h4.2, fun q => by have := h5 q; omega⟩
  · rw [cDrop_o e]; exact h b
/-- lift -/
theorem lift_kp {u : mS} (h : mInv u) {es : List hE} {c : cfg} (d : mH u es c) (h3 : ¬ u.1 28 = 300) {a : Nat} (ha : a < 80) {P X Y D N : Nat} {l : List fR} (hc : c a = (P, X, Y, D, N) :: l) : mKp u (mUnstand (mActs u 1 (nI a) (nI P) (nI X) (nI Y) (nI D) (nI N)) (nI a) P X Y D N) := by
  obtain ⟨r, b, -, -, -⟩ := h
  have hok := hOK_c d.2.2.2.1
  have hl : (cDrop c a l a).length ≤ 5 := by
    rw [cDrop_a]
    have h1 := (hok a).2.1
    rw [hc, List.length_cons] at h1
    omega
  have hp := cDrop_push hc
  have hm : cM (mActs u 1 (nI a) (nI P) (nI X) (nI Y) (nI D) (nI N)) (cPush (cDrop c a l) a (P, X, Y, D, N)) := by
    rw [← hp]; exact cM_rows (fun k k1 k2 => mActs_k _ _ _ _ _ _ _ _ (by omega)) d.2.2.2.2.2
  have h28 := len28 d
  have hx := acts_at h28 1 (nI a) (nI P) (nI X) (nI Y) (nI D) (nI N)
  have ho := acts_old h28 1 (nI a) (nI P) (nI X) (nI Y) (nI D) (nI N)
  have i3 : ∀ j, j ≠ 28 → (mActs u 1 (nI a) (nI P) (nI X) (nI Y) (nI D) (nI N)).1 j = u.1 j := fun j hj => by rw [mActs_1, if_neg hj]
  have i28 : (mActs u 1 (nI a) (nI P) (nI X) (nI Y) (nI D) (nI N)).1 28 = u.1 28 + 1 := by rw [mActs_1, if_pos rfl]
  have k4 : ∀ k, k < 29 ∨ 35 < k → (mActs u 1 (nI a) (nI P) (nI X) (nI Y) (nI D) (nI N)).2 k = u.2 k := fun k hk => mActs_k _ _ _ _ _ _ _ _ hk
  generalize mActs u 1 (nI a) (nI P) (nI X) (nI Y) (nI D) (nI N) = w at hm hx ho i3 i28 k4
  have uk : ∀ k, k ≠ 2 → k ≠ 22 → (mUnstand w (nI a) P X Y D N).2 k = w.2 k := fun k h1 h2 => mUnstand_k _ _ _ _ _ _ _ h1 h2
  have hrI := rI_unstand (rI_m r (i3 3 (by decide)) (i3 38 (by decide)) (fun k hk => k4 k (by omega))) (nI a) P X Y D N
  have hcM := cM_unstand ha hl hm P X Y D N
  have u1 : (mUnstand w (nI a) P X Y D N).1 = w.1 := rfl
  generalize mUnstand w (nI a) P X Y D N = z at uk hrI hcM u1
  refine ⟨⟨hrI, kB_c b ?_ ?_, (1, a, (P, X, Y, D, N), []) :: es, cDrop c a l, ?_⟩, by rw [u1]; exact i3 38 (by decide), by rw [u1]; exact i3 39 (by decide), ?_⟩
  · rw [uk 4 (by decide) (by decide)]; exact k4 4 (by decide)
  · rw [uk 10 (by decide) (by decide)]; exact k4 10 (by decide)
  · refine mH_new d (acts300 d h3) (by rw [u1]; exact i3 3 (by decide)) ?_ (by rw [u1]; exact i28) (by rw [u1, i3 36 (by decide), fil_no _ (by decide : (1 : Nat) ≠ 3)]; exact d.2.2.1) (fun k k1 k2 t ht => ?_) (fun j _ => ?_) ?_ hcM (cOK_drop hok hc) (Or.inr (Or.inl ⟨rfl, hp⟩))
    · rw [uk 4 (by decide) (by decide)]; exact k4 4 (by decide)
    · rw [uk k (by omega) (by omega)]; exact ho k k1 k2 t ht
    · rw [uk 37 (by decide) (by decide), k4 37 (by decide)]
    · unfold eM
      rw [uk 29 (by decide) (by decide), uk 30 (by decide) (by decide), uk 31 (by decide) (by decide), uk 32 (by decide) (by decide), uk 33 (by decide) (by decide), uk 34 (by decide) (by decide), uk 35 (by decide) (by decide)]
      obtain ⟨q1, q2, q3, q4, q5, q6, q7⟩ := hx
      exact ⟨q1, fun q => absurd q (by decide : ¬ (1 : Nat) = 0), fun _ => ⟨q2, q3, q4, q5, q6, q7⟩, fun q => absurd q (by decide : ¬ (1 : Nat) = 2), fun q => absurd q (by decide : ¬ (1 : Nat) = 3)⟩
  · rw [uk 20 (by decide) (by decide)]; exact k4 20 (by decide)
/-- rule -/
theorem rule_inv {u w : mS} {r p c l : Int32} (h : mInv u) (he : (r, w) = mRule u p c l) : mKp u w := by
  unfold mRule at he
  split at he
  · rename_i hcell
    split at he
    · split at he
      · obtain ⟨-, e2⟩ := Prod.mk.inj he; subst e2; exact mKp_rf h
      · rename_i h3
        obtain ⟨-, e2⟩ := Prod.mk.inj he; subst e2
        obtain ⟨rr, b, es, cc, d⟩ := h
        have h11 : (11 : Int32).toInt = 11 := rfl
        have h7 : (7 : Int32).toInt = 7 := rfl
        obtain ⟨q1, q2, q3⟩ := mCell_c hcell
        obtain ⟨P, hP, -, eP⟩ := exN q1 (by decide)
        obtain ⟨X, hX, -, eX⟩ := exN q2 (by decide)
        obtain ⟨Y, hY, eY⟩ := exL rr.2.2.1 hcell
        subst eP eX eY
        generalize hi : 480 * nI P + 60 * nI X + nI Y = ix
        have hr2 : rI (mst u 2 ix 100) := by
          obtain ⟨r1, r2, r3, r4, r5, r6, r7, r8⟩ := rr
          refine ⟨r1, r2, ?_, ?_, ?_, ?_, fun j hj => ?_, ?_⟩
          · rw [mst_other (by decide)]; exact r3
          · rw [mst_other (by decide)]; exact r4
          · rw [mst_other (by decide)]; exact r5
          · rw [mst_other (by decide)]; exact r6
          · rw [mst_at]
            split
            · exact fun q => absurd q (by decide)
            · exact r7 j hj
          · rw [mst_other (by decide), mst_other (by decide)]; exact r8
        have s2 : ∀ k, k ≠ 2 → (mst u 2 ix 100).2 k = u.2 k := fun k hk => mst_other hk
        have s1 : (mst u 2 ix 100).1 = u.1 := rfl
        generalize mst u 2 ix 100 = z at hr2 s2 s1
        have h28 : (z.1 28).toNatClampNeg = es.length := by rw [s1]; exact len28 d
        have hx := acts_at h28 2 (nI P) (nI X) (nI Y) 0 0 0
        have ho := acts_old h28 2 (nI P) (nI X) (nI Y) 0 0 0
        have i3 : ∀ j, j ≠ 28 → (mActs z 2 (nI P) (nI X) (nI Y) 0 0 0).1 j = u.1 j := fun j hj => by rw [mActs_1, if_neg hj, s1]
        have i28 : (mActs z 2 (nI P) (nI X) (nI Y) 0 0 0).1 28 = u.1 28 + 1 := by rw [mActs_1, if_pos rfl, s1]
        have k4 : ∀ k, k < 29 ∨ 35 < k → (mActs z 2 (nI P) (nI X) (nI Y) 0 0 0).2 k = z.2 k := fun k hk => mActs_k _ _ _ _ _ _ _ _ hk
        generalize mActs z 2 (nI P) (nI X) (nI Y) 0 0 0 = w at hx ho i3 i28 k4
        refine ⟨⟨rI_m hr2 (by rw [s1]; exact i3 3 (by decide)) (by rw [s1]; exact i3 38 (by decide)) (fun k hk => k4 k (by omega)), kB_c b ?_ ?_, (2, 0, (P, X, Y, 0, 0), []) :: es, cc, ?_⟩, i3 38 (by decide), i3 39 (by decide), ?_⟩
        · rw [k4 4 (by decide), s2 4 (by decide)]
        · rw [k4 10 (by decide), s2 10 (by decide)]
        · refine mH_new d (acts300 d h3) (i3 3 (by decide)) ?_ i28 (by rw [i3 36 (by decide), fil_no _ (by decide : (2 : Nat) ≠ 3)]; exact d.2.2.1) (fun k k1 k2 t ht => ?_) (fun j _ => ?_) ?_ (cM_rows (fun k k1 k2 => by rw [k4 k (by omega), s2 k (by omega)]) d.2.2.2.2.2) (hOK_c d.2.2.2.1) (Or.inr (Or.inr (Or.inl ⟨rfl, rfl, by show P < 12; omega, by show X < 8; omega, hY⟩)))
          · rw [k4 4 (by decide), s2 4 (by decide)]
          · rw [ho k k1 k2 t ht, s2 k (by omega)]
          · rw [k4 37 (by decide), s2 37 (by decide)]
          · obtain ⟨q1, q2, q3, q4, -⟩ := hx
            exact ⟨q1, fun q => absurd q (by decide : ¬ (2 : Nat) = 0), fun q => absurd q (by decide : ¬ (2 : Nat) = 1), fun _ => ⟨q2, q3, q4⟩, fun q => absurd q (by decide : ¬ (2 : Nat) = 3)⟩
        · rw [k4 20 (by decide), s2 20 (by decide)]
    · obtain ⟨-, e2⟩ := Prod.mk.inj he; subst e2; exact mKp_rf h
  · obtain ⟨-, e2⟩ := Prod.mk.inj he; subst e2; exact mKp_rf h
