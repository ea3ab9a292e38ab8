theorem zE_o {z w : gS} (h : zE z w) {a : Nat} (ha : a ∈ z.1) : w.2 a = z.2 a := (h a ha).2
theorem wR_mono {q : Nat → ClassId} {c n : Nat} {P P2 : Nat → Prop} {e : va_E} (hP : ∀ b, P b → P2 b) (h : wR q c n P e) : wR q c n P2 e := by
  obtain ⟨g, e1, e2⟩ := h
  exact ⟨g, e1, fun j hj b hb => hP b (e2 j hj b hb)⟩
theorem rsT_mono {z w : gS} (h : zE z w) {t : Nat} {rest : List Value} (hr : rsT z t rest) : rsT w t rest := by
  obtain ⟨a1, a2, a3, a4, a5, a6⟩ := hr
  refine ⟨a1, fun e => ?_, fun e => ?_, fun e => ?_, fun e => ?_, fun e => ?_⟩
  · obtain ⟨o, x, y, b1, b2⟩ := a2 e
    exact ⟨o, x, y, b1, zE_tg h b2⟩
  · obtain ⟨o, y, b1, b2⟩ := a3 e
    exact ⟨o, y, b1, zE_itm h b2⟩
  · obtain ⟨b, pr, sp, dy, b1, b2, b3, b4⟩ := a4 e
    exact ⟨b, pr, sp, dy, b1, b2, zE_lg h b3, zE_tg h b4⟩
  · obtain ⟨ww, hh, sz, b1, b2, b3, b4⟩ := a5 e
    exact ⟨ww, hh, sz, b1, zE_tg h b2, zE_tg h b3, b4⟩
  · obtain ⟨l, co, wd, nm, b1, b2, b3, b4⟩ := a6 e
    exact ⟨l, co, wd, nm, b1, zE_tg h b2, b3, zE_tg h b4⟩
theorem cO_mono {q : Nat → ClassId} {z w : gS} (h : zE z w) {a : Nat} (ha : a ∈ z.1) {e : va_E} (hc : cO q z a e) : cO q w a e := by
  have ea := zE_o h ha
  obtain ⟨c2, c3, c4, c5, c6, c7, c8, c9, cI, c16, c17, c18, c19, c20, c21, c22, c23⟩ := hc
  unfold cO
  rw [ea]
  refine ⟨fun x => ?_, fun x => wR_mono (fun b hb => zE_tg h hb) (c3 x), fun x => wR_mono (fun b hb => zE_itm h hb) (c4 x), fun x => wR_mono (fun b hb => zE_tg h hb) (c5 x), c6, fun x => ?_, c8, c9, fun x y => ?_, fun x => ?_, c17, c18, c19, c20, c21, fun x => ?_, fun x => ?_⟩
  · obtain ⟨g, e1, e2⟩ := c2 x
    exact ⟨g, e1, fun j hj => by obtain ⟨b, b1, b2⟩ := e2 j hj; exact ⟨b, b1, zE_tg h b2⟩⟩
  · obtain ⟨la, ca, m, d, i, e1, e2, e3⟩ := c7 x
    exact ⟨la, ca, m, d, i, e1, zE_tg h e2, zE_tg h e3⟩
  · obtain ⟨nu, kd, cn, pa, fa, rest, e1, e2, e3, e4, e5⟩ := cI x y
    exact ⟨nu, kd, cn, pa, fa, rest, by rw [ea]; exact e1, zE_tg h e2, by rw [zE_o h e2.1]; exact e3, zE_tg h e4, by rw [ea]; exact rsT_mono h e5⟩
  · obtain ⟨n, n1, n6, hr⟩ := c16 x
    exact ⟨n, n1, n6, wR_mono (fun b hb => zE_lg h hb) hr⟩
  · obtain ⟨e0, it, P, X, Y, D, N, e1, e2, e3⟩ := c22 x
    exact ⟨by rw [ea]; exact e0, it, P, X, Y, D, N, by rw [ea]; exact e1, e2, fun b hb => zE_itm h (e3 b hb)⟩
  · obtain ⟨e0, p, l, n, ah, e1, e2, e3⟩ := c23 x
    exact ⟨by rw [ea]; exact e0, p, l, n, ah, by rw [ea]; exact e1, zE_lg h e2, fun b hb => by obtain ⟨q1, q2⟩ := e3 b hb; exact ⟨zE_tg h q1, by rw [ea, zE_o h q1.1]; exact q2⟩⟩
/-- one more lies there -/
def pz (z : gS) (a : Nat) (x : Nat × Nat × List Value) : gS := (z.1 ++ [a], fun b => if b = a then x else z.2 b)
theorem pz_s (z : gS) (a : Nat) (x : Nat × Nat × List Value) : (pz z a x).2 a = x := if_pos rfl
theorem pz_o {z : gS} {a b : Nat} {x : Nat × Nat × List Value} (h : b ≠ a) : (pz z a x).2 b = z.2 b := if_neg h
theorem pz_m (z : gS) (a : Nat) (x : Nat × Nat × List Value) : a ∈ (pz z a x).1 := List.mem_append_right _ List.mem_cons_self
theorem pz_t (z : gS) (a : Nat) (x : Nat × Nat × List Value) : tg (pz z a x) a x.1 := ⟨pz_m z a x, by rw [pz_s]⟩
theorem pz_E {z : gS} {a : Nat} (ha : a ∉ z.1) (x : Nat × Nat × List Value) : zE z (pz z a x) := fun b hb => ⟨List.mem_append_left _ hb, pz_o (fun e => ha (by rw [← e]; exact hb))⟩
theorem x_push {q h0 d k z f} (h : xI q h0 d k z f) {a : Nat} (ha : a ∉ z.1) {x : Nat × Nat × List Value} {e : va_E} (hx : x.1 < 10 ∨ 15 < x.1) (he : cO q (pz z a x) a e) : xI q h0 d k (pz z a x) (va_up f a e) := by
  obtain ⟨h1, h2, h3, ⟨g1, gi, g2i, g3⟩, h5⟩ := h
  have hE := pz_E ha x
  have hne : ∀ {b : Nat}, b ∈ z.1 → b ≠ a := fun hb e => ha (by rw [← e]; exact hb)
  refine ⟨h1, ⟨zE_tg hE h2.1, zE_tg hE h2.2.1, zE_tg hE h2.2.2.1, zE_tg hE h2.2.2.2.1, zE_tg hE h2.2.2.2.2.1, zE_tg hE h2.2.2.2.2.2⟩, fun b hb => ?_, ⟨by rw [up_o (hne h2.1.1)]; exact g1, gi, by rw [up_o (hne h2.2.2.2.1.1)]; exact g2i, g3⟩, ?_⟩
  · rcases List.mem_append.mp hb with hb | hb
    · rw [up_o (hne hb)]; exact cO_mono hE hb (h3 b hb)
    · have e1 : b = a := by simpa using hb
      rw [e1, up_s]; exact he
  · intro b hb nu kd cn pa fa rest hf
    have hba : b ≠ a := fun e1 => by have := hb.2; rw [e1, pz_s] at this; omega
    have hbz : b ∈ z.1 := by
      rcases List.mem_append.mp hb.1 with y | y
      · exact y
      · exact absurd (by simpa using y) hba
    rw [up_o hba, pz_o hba] at hf
    have hbi : itm z b := ⟨hbz, by have := hb.2; rw [pz_o hba] at this; exact this⟩
    obtain ⟨n, g, r1, r2⟩ := h5 b hbi nu kd cn pa fa rest hf
    obtain ⟨nu2, kd2, cn2, pa2, fa2, rest2, e1, e2, -⟩ := (h3 b hbz).2.2.2.2.2.2.2.2.1 hbi.2.1 hbi.2.2
    obtain ⟨-, -, e3, -⟩ := itF_inj (hf.symm.trans e1)
    rw [← e3] at e2
    exact ⟨n, g, by rw [up_o (hne e2.1)]; exact r1, r2⟩
/-- an item with its pieces' row, new -/
theorem x_pushI {q h0 d k z f} (h : xI q h0 d k z f) {a : Nat} (ha : a ∉ z.1) {t : Nat} (ht : 10 ≤ t ∧ t ≤ 15) {nu kd : Int32} {pa fa n : Nat} {rest : List Value} (hpa : tg z pa 16) (ho : (z.2 pa).2.1 = a) (hfa : tg z fa 17) (hp : f pa = aR (q 5) n (fun _ => none)) (hn : 1 ≤ n ∧ n ≤ 6) (hr : rsT (pz z a (t, 0, [])) t rest) : xI q h0 d k (pz z a (t, 0, [])) (va_up f a (.inr (ciT t, itF nu kd pa 0 fa rest))) := by
  obtain ⟨h1, h2, h3, ⟨g1, gi, g2i, g3⟩, h5⟩ := h
  have hE := pz_E ha (t, 0, [])
  have hne : ∀ {b : Nat}, b ∈ z.1 → b ≠ a := fun hb e => ha (by rw [← e]; exact hb)
  have hs : (pz z a (t, 0, [])).2 a = (t, 0, []) := pz_s _ _ _
  refine ⟨h1, ⟨zE_tg hE h2.1, zE_tg hE h2.2.1, zE_tg hE h2.2.2.1, zE_tg hE h2.2.2.2.1, zE_tg hE h2.2.2.2.2.1, zE_tg hE h2.2.2.2.2.2⟩, fun b hb => ?_, ⟨by rw [up_o (hne h2.1.1)]; exact g1, gi, by rw [up_o (hne h2.2.2.2.1.1)]; exact g2i, g3⟩, ?_⟩
  · rcases List.mem_append.mp hb with hb | hb
    · rw [up_o (hne hb)]; exact cO_mono hE hb (h3 b hb)
    · have e1 : b = a := by simpa using hb
      rw [e1, up_s]
      refine cO_I ⟨pz_m _ _ _, by rw [hs]; exact ht⟩ ⟨nu, kd, 0, pa, fa, rest, by rw [hs], zE_tg hE hpa, by rw [zE_o hE hpa.1]; exact ho, zE_tg hE hfa, by rw [hs]; exact hr⟩
  · intro b hb mu md mn ma mf ms hf
    by_cases hba : b = a
    · subst hba
      rw [up_s, hs] at hf
      obtain ⟨o1, o2, o3, o4, o5, o6⟩ := itF_inj hf
      subst o3 o4
      exact ⟨n, _, by rw [up_o (hne hpa.1)]; exact hp, hn.1, hn.2, bwN (n := 0) (by rw [nI_toInt (by omega)]; omega) (by omega), fun j hj => absurd hj (Nat.not_lt_zero _)⟩
    · have hbz : b ∈ z.1 := by
        rcases List.mem_append.mp hb.1 with y | y
        · exact y
        · exact absurd (by simpa using y) hba
      rw [up_o hba, pz_o hba] at hf
      have hbi : itm z b := ⟨hbz, by have := hb.2; rw [pz_o hba] at this; exact this⟩
      obtain ⟨n5, g5, r1, r2⟩ := h5 b hbi mu md mn ma mf ms hf
      obtain ⟨nu2, kd2, cn2, pa2, fa2, rest2, e1, e2, -⟩ := (h3 b hbz).2.2.2.2.2.2.2.2.1 hbi.2.1 hbi.2.2
      obtain ⟨-, -, e3, -⟩ := itF_inj (hf.symm.trans e1)
      rw [← e3] at e2
      exact ⟨n5, g5, by rw [up_o (hne e2.1)]; exact r1, r2⟩
/-- the new cell ahead of the pool, and into it -/
theorem vaP_swap {D : va_G} {cl : List vw_C} {w1 w2 : va_W} {H : Heap} (h : va_P D cl (w1 ++ w2) H) : va_P D cl (w2 ++ w1) H := by
  intro k q hk
  rcases List.mem_append.mp (List.mem_of_getElem? hk) with y | y
  · obtain ⟨i, hi⟩ := List.getElem?_of_mem (List.mem_append_right w1 y)
    exact h i q hi
  · obtain ⟨i, hi⟩ := List.getElem?_of_mem (List.mem_append_left w2 y)
    exact h i q hi
theorem vaP_r {D : va_G} {cl : List vw_C} {w1 w2 : va_W} {H : Heap} (h : va_P D cl (w1 ++ w2) H) : va_P D cl w2 H := by
  intro k q hk
  obtain ⟨i, hi⟩ := List.getElem?_of_mem (List.mem_append_right w1 (List.mem_of_getElem? hk))
  exact h i q hi
theorem vaP_l {D : va_G} {cl : List vw_C} {w1 w2 : va_W} {H : Heap} (h : va_P D cl (w1 ++ w2) H) : va_P D cl w1 H := by
  intro k q hk
  obtain ⟨i, hi⟩ := List.getElem?_of_mem (List.mem_append_left w2 (List.mem_of_getElem? hk))
  exact h i q hi
theorem vaD_rot {A : Nat → Prop} {c : Nat × va_E} {r : va_W} (h : va_D A (c :: r)) : va_D A (r ++ [c]) := by
  refine va_D.by h (fun k => if k < r.length then k + 1 else 0) (fun k q hk => ?_) (fun i j hi hj hij => ?_)
  · by_cases e : k < r.length
    · rw [if_pos e, List.getElem?_cons_succ]
      rw [List.getElem?_append_left e] at hk; exact hk
    · rw [if_neg e]
      rw [List.getElem?_append_right (by omega)] at hk
      have hz : k - r.length < 1 := (List.getElem?_eq_some_iff.mp hk).1
      rw [show k - r.length = 0 by omega] at hk
      exact hk
  · simp only [List.length_append, List.length_cons, List.length_nil] at hi hj
    by_cases e1 : i < r.length
    · rw [if_pos e1] at hij
      by_cases e2 : j < r.length
      · rw [if_pos e2] at hij; omega
      · rw [if_neg e2] at hij; omega
    · rw [if_neg e1] at hij
      by_cases e2 : j < r.length
      · rw [if_pos e2] at hij; omega
      · omega
theorem vaD_rotR {A : Nat → Prop} {c : Nat × va_E} {r : va_W} (h : va_D A (r ++ [c])) : va_D A (c :: r) := by
  refine va_D.by h (fun k => if k = 0 then r.length else k - 1) (fun k q hk => ?_) (fun i j hi hj hij => ?_)
  · by_cases e : k = 0
    · rw [if_pos e, List.getElem?_append_right (Nat.le_refl _), Nat.sub_self]
      rw [e] at hk; exact hk
    · rw [if_neg e]
      obtain ⟨m, rfl⟩ : ∃ m, k = m + 1 := ⟨k - 1, by omega⟩
      rw [List.getElem?_cons_succ] at hk
      have hm : m < r.length := (List.getElem?_eq_some_iff.mp hk).1
      rw [Nat.add_sub_cancel, List.getElem?_append_left hm]; exact hk
  · simp only [List.length_cons] at hi hj
    by_cases e1 : i = 0
    · rw [if_pos e1] at hij
      by_cases e2 : j = 0
      · omega
      · rw [if_neg e2] at hij; omega
    · rw [if_neg e1] at hij
      by_cases e2 : j = 0
      · rw [if_pos e2] at hij; omega
      · rw [if_neg e2] at hij; omega
theorem pushC {A : Nat → Prop} {D : va_G} {cl : List vw_C} {H : Heap} {q : Nat} {e : va_E} {cs : va_W} {L : List Nat} {f : xF} (hP : va_P D cl ((q, e) :: (cs ++ va_pl L f)) H) (hD : va_D A ((q, e) :: (cs ++ va_pl L f))) : q ∉ L ∧ va_P D cl (cs ++ va_pl (L ++ [q]) (va_up f q e)) H ∧ va_D A (cs ++ va_pl (L ++ [q]) (va_up f q e)) := by
  have hq : q ∉ L := fun hm => by
    obtain ⟨k, hk⟩ := va_pl_get (X := cs) (f := f) hm
    have h1 : ((q, e) :: (cs ++ va_pl L f))[k + 1]? = some (q, f q) := by rw [List.getElem?_cons_succ]; exact hk
    have h2 := hD.1 0 (k + 1) (q, e) (q, f q) rfl h1 rfl
    omega
  have e1 : cs ++ va_pl (L ++ [q]) (va_up f q e) = (cs ++ va_pl L f) ++ [(q, e)] := by rw [← va_pl_push hq, List.append_assoc]
  refine ⟨hq, ?_, ?_⟩
  · rw [e1]; exact vaP_swap (w1 := [(q, e)]) hP
  · rw [e1]; exact vaD_rot hD
theorem fr_part {A : Nat → Prop} {w1 w2 : va_W} {H0 H : Heap} {locs : List Loc} (hD : va_D A (w1 ++ w2)) (hS : va_S A H0 H locs) (hA : ∀ q, H0.size ≤ q → A q) : ∀ q, va_A w2 H.size q → A q := by
  intro q h
  rcases h with ⟨k, e, hk⟩ | h
  · obtain ⟨i, hi⟩ := List.getElem?_of_mem (List.mem_append_right w1 (List.mem_of_getElem? hk))
    exact hD.2 i _ hi
  · exact hA q (Nat.le_trans hS.1 h)
theorem vaD_r {A : Nat → Prop} {w1 w2 : va_W} (h : va_D A (w1 ++ w2)) : va_D A w2 := by
  refine va_D.by h (fun k => w1.length + k) (fun k q hk => ?_) (fun i j hi hj hij => by omega)
  rw [List.getElem?_append_right (by omega), Nat.add_sub_cancel_left]; exact hk
