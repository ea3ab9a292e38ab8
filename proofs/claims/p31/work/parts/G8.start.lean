abbrev shT9 (sa la ca : Nat → Nat) (j : Nat) : List (Nat × Nat × Nat × List Value) := [(sa j, 7, 10 + j, []), (la j, 8, 30 + j, []), (ca j, 9, 50 + j, [])]
abbrev tg9 (h0 : Nat) (d sa la ca : Nat → Nat) : List (Nat × Nat × Nat × List Value) := [(h0, 1, 0, []), (d 0, 2, 0, []), (d 1, 3, 1, []), (d 2, 4, 2, []), (d 3, 5, 3, []), (d 4, 6, 4, [])] ++ (shT9 sa la ca 0 ++ shT9 sa la ca 1 ++ shT9 sa la ca 2 ++ shT9 sa la ca 3 ++ shT9 sa la ca 4 ++ shT9 sa la ca 5 ++ shT9 sa la ca 6 ++ shT9 sa la ca 7 ++ shT9 sa la ca 8 ++ shT9 sa la ca 9 ++ shT9 sa la ca 10 ++ shT9 sa la ca 11)
theorem shT_mem9 {sa la ca : Nat → Nat} {x : Nat × Nat × Nat × List Value} {h0 : Nat} {d : Nat → Nat} {j : Nat} (hj : j < 12) (h : x ∈ shT9 sa la ca j) : x ∈ tg9 h0 d sa la ca := by
  refine List.mem_append_right _ ?_
  rw [show (shT9 sa la ca 0 ++ shT9 sa la ca 1 ++ shT9 sa la ca 2 ++ shT9 sa la ca 3 ++ shT9 sa la ca 4 ++ shT9 sa la ca 5 ++ shT9 sa la ca 6 ++ shT9 sa la ca 7 ++ shT9 sa la ca 8 ++ shT9 sa la ca 9 ++ shT9 sa la ca 10 ++ shT9 sa la ca 11) = (List.range 12).flatMap (shT9 sa la ca) from rfl]
  exact List.mem_flatMap.mpr ⟨j, List.mem_range.mpr hj, h⟩
set_option maxRecDepth 100000 in
theorem RR_start {q : Nat → ClassId} {A : Nat → Prop} {h0 : Nat} {d sa la ca : Nat → Nat} (hD : va_D A (st0 q h0 d sa la ca)) (hd : ∀ p, p < 12 → d (10 + p) = sa p ∧ d (30 + p) = la p ∧ d (50 + p) = ca p) {u : mS} (hm : mZ0 u ∧ (∀ j, j < 12 → u.2 1 j = 100) ∧ (∀ j, j < 5760 → u.2 2 j = (-2)) ∧ ∀ j, j < 400 → u.2 47 j = (-1)) : ∃ (z : gS) (f : xF), va_pl z.1 f = st0 q h0 d sa la ca ∧ RR q h0 d (fun _ => 0) z f u := by
  obtain ⟨f, hf⟩ := assoc (.inr (0, []) : va_E) (st0 q h0 d sa la ca) (fun i j p q hp hq he => hD.1 i j p q hp hq he)
  have em : (tg9 h0 d sa la ca).map Prod.fst = (st0 q h0 d sa la ca).map Prod.fst := rfl
  obtain ⟨g, hg⟩ := assoc ((0, 0, []) : Nat × Nat × List Value) (tg9 h0 d sa la ca) (fun i j p r hp hr he => by
    have h1 : ((tg9 h0 d sa la ca).map Prod.fst)[i]? = some p.1 := by rw [List.getElem?_map, hp]; rfl
    have h2 : ((tg9 h0 d sa la ca).map Prod.fst)[j]? = some r.1 := by rw [List.getElem?_map, hr]; rfl
    rw [em, List.getElem?_map] at h1 h2
    obtain ⟨a, a1, a2⟩ := Option.map_eq_some_iff.mp h1
    obtain ⟨b, b1, b2⟩ := Option.map_eq_some_iff.mp h2
    exact hD.1 i j a b a1 b1 (by rw [a2, b2, he]))
  have hm9 : ∀ x ∈ tg9 h0 d sa la ca, x.1 ∈ (st0 q h0 d sa la ca).map Prod.fst := fun x hx => by rw [← em]; exact List.mem_map_of_mem hx
  have ht9 : ∀ (a t o : Nat), (a, t, o, []) ∈ tg9 h0 d sa la ca → tg ((st0 q h0 d sa la ca).map Prod.fst, g) a t ∧ (g a).2.1 = o := fun a t o h => ⟨⟨hm9 _ h, by show (g a).1 = t; rw [hg _ h]⟩, by rw [hg _ h]⟩
  have hs : ∀ j, j < 12 → tg ((st0 q h0 d sa la ca).map Prod.fst, g) (sa j) 7 := fun j hj => (ht9 _ _ _ (shT_mem9 hj List.mem_cons_self)).1
  have hl : ∀ j, j < 12 → tg ((st0 q h0 d sa la ca).map Prod.fst, g) (la j) 8 := fun j hj => (ht9 _ _ _ (shT_mem9 hj (List.mem_cons_of_mem _ List.mem_cons_self))).1
  have hc : ∀ j, j < 12 → tg ((st0 q h0 d sa la ca).map Prod.fst, g) (ca j) 9 := fun j hj => (ht9 _ _ _ (shT_mem9 hj (List.mem_cons_of_mem _ (List.mem_cons_of_mem _ List.mem_cons_self)))).1
  have t19 := ht9 h0 1 0 (List.mem_append_left _ List.mem_cons_self)
  have t1 := t19.1
  have t29 := ht9 (d 0) 2 0 (List.mem_append_left _ (List.mem_cons_of_mem _ List.mem_cons_self))
  have t2 := t29.1
  have t39 := ht9 (d 1) 3 1 (List.mem_append_left _ (List.mem_cons_of_mem _ (List.mem_cons_of_mem _ List.mem_cons_self)))
  have t3 := t39.1
  have t49 := ht9 (d 2) 4 2 (List.mem_append_left _ (List.mem_cons_of_mem _ (List.mem_cons_of_mem _ (List.mem_cons_of_mem _ List.mem_cons_self))))
  have t4 := t49.1
  have t59 := ht9 (d 3) 5 3 (List.mem_append_left _ (List.mem_cons_of_mem _ (List.mem_cons_of_mem _ (List.mem_cons_of_mem _ (List.mem_cons_of_mem _ List.mem_cons_self)))))
  have t5 := t59.1
  have t69 := ht9 (d 4) 6 4 (List.mem_append_left _ (List.mem_cons_of_mem _ (List.mem_cons_of_mem _ (List.mem_cons_of_mem _ (List.mem_cons_of_mem _ (List.mem_cons_of_mem _ List.mem_cons_self))))))
  have t6 := t69.1
  have f1 : f h0 = .inr (10, dkF d (fun _ => 0)) := hf _ (List.mem_append_left _ List.mem_cons_self)
  have f4 : f (d 2) = aR (q 3) 80 (fun _ => none) := hf _ (List.mem_append_left _ (List.mem_cons_of_mem _ (List.mem_cons_of_mem _ (List.mem_cons_of_mem _ List.mem_cons_self))))
  /- every address: what lies there, and its tag -/
  have hall : ∀ a, a ∈ (st0 q h0 d sa la ca).map Prod.fst → cO q ((st0 q h0 d sa la ca).map Prod.fst, g) a (f a) ∧ (g a).1 < 10 := by
    intro a ha
    obtain ⟨x, hx, rfl⟩ := List.mem_map.mp ha
    have hfx := hf x hx
    rcases List.mem_append.mp hx with y | y
    · rcases List.mem_cons.mp y with e | y
      · rw [e] at hfx ⊢; exact ⟨cO_1 t1.2, by show ((((st0 q h0 d sa la ca).map Prod.fst, g) : gS).2 h0).1 < 10; rw [t1.2]; decide⟩
      rcases List.mem_cons.mp y with e | y
      · rw [e] at hfx ⊢; exact ⟨by rw [hfx]; exact cO_2 t2.2 ⟨_, rfl, fun j hj => ⟨sa j, rfl, hs j hj⟩⟩, by show ((((st0 q h0 d sa la ca).map Prod.fst, g) : gS).2 (d 0)).1 < 10; rw [t2.2]; decide⟩
      rcases List.mem_cons.mp y with e | y
      · rw [e] at hfx ⊢; exact ⟨by rw [hfx]; exact cO_3 t3.2 ⟨_, rfl, fun _ _ b hb => by cases hb⟩, by show ((((st0 q h0 d sa la ca).map Prod.fst, g) : gS).2 (d 1)).1 < 10; rw [t3.2]; decide⟩
      rcases List.mem_cons.mp y with e | y
      · rw [e] at hfx ⊢; exact ⟨by rw [hfx]; exact cO_4 t4.2 ⟨_, rfl, fun _ _ b hb => by cases hb⟩, by show ((((st0 q h0 d sa la ca).map Prod.fst, g) : gS).2 (d 2)).1 < 10; rw [t4.2]; decide⟩
      rcases List.mem_cons.mp y with e | y
      · rw [e] at hfx ⊢; exact ⟨by rw [hfx]; exact cO_5 t5.2 ⟨_, rfl, fun _ _ b hb => by cases hb⟩, by show ((((st0 q h0 d sa la ca).map Prod.fst, g) : gS).2 (d 3)).1 < 10; rw [t5.2]; decide⟩
      rcases List.mem_cons.mp y with e | y
      · rw [e] at hfx ⊢; exact ⟨by rw [hfx]; exact cO_6 t6.2 ⟨_, rfl, fun _ => Or.inl rfl⟩, by show ((((st0 q h0 d sa la ca).map Prod.fst, g) : gS).2 (d 4)).1 < 10; rw [t6.2]; decide⟩
      exact absurd y List.not_mem_nil
    · obtain ⟨j, hj, y⟩ := shW_mem y
      rcases List.mem_cons.mp y with e | y
      · rw [e] at hfx ⊢; exact ⟨by rw [hfx]; exact cO_7 (hs j hj).2 ⟨_, _, _, _, _, rfl, hl j hj, hc j hj⟩, by show ((((st0 q h0 d sa la ca).map Prod.fst, g) : gS).2 (sa j)).1 < 10; rw [(hs j hj).2]; decide⟩
      rcases List.mem_cons.mp y with e | y
      · rw [e] at hfx ⊢; exact ⟨by rw [hfx]; exact cO_8 (hl j hj).2 ⟨_, rfl, fun _ _ => b00⟩, by show ((((st0 q h0 d sa la ca).map Prod.fst, g) : gS).2 (la j)).1 < 10; rw [(hl j hj).2]; decide⟩
      rcases List.mem_cons.mp y with e | y
      · rw [e] at hfx ⊢; exact ⟨by rw [hfx]; exact cO_9 (hc j hj).2 ⟨_, rfl⟩, by show ((((st0 q h0 d sa la ca).map Prod.fst, g) : gS).2 (ca j)).1 < 10; rw [(hc j hj).2]; decide⟩
      exact absurd y List.not_mem_nil
  have hIx : xI q h0 d (fun _ => 0) ((st0 q h0 d sa la ca).map Prod.fst, g) f := by
    refine ⟨⟨by decide, by decide, by decide⟩, ⟨t1, t2, t3, t4, t5, t6⟩, fun a ha => (hall a ha).1, ⟨f1, _, f4, fun j hj => absurd hj (Nat.not_lt_zero _)⟩, ?_⟩
    intro a ha
    have h1 := (hall a ha.1).2
    have h2 := ha.2.1
    exact absurd (show 10 ≤ (g a).1 from h2) (by omega)
  have f0 : f (d 0) = aR (q 2) 12 (fun j => some (sa j)) := hf _ (List.mem_append_left _ (List.mem_cons_of_mem _ List.mem_cons_self))
  have fp : f (d 1) = aR (q 2) 12 (fun _ => none) := hf _ (List.mem_append_left _ (List.mem_cons_of_mem _ (List.mem_cons_of_mem _ List.mem_cons_self)))
  have fa : f (d 3) = aR (q 4) 300 (fun _ => none) := hf _ (List.mem_append_left _ (List.mem_cons_of_mem _ (List.mem_cons_of_mem _ (List.mem_cons_of_mem _ (List.mem_cons_of_mem _ List.mem_cons_self)))))
  have fr : f (d 4) = aI (q 1) 100 (fun _ => 0) := hf _ (List.mem_append_left _ (List.mem_cons_of_mem _ (List.mem_cons_of_mem _ (List.mem_cons_of_mem _ (List.mem_cons_of_mem _ (List.mem_cons_of_mem _ List.mem_cons_self))))))
  have fs : ∀ j, j < 12 → f (sa j) = .inr (8, [.ref (la j), .ref (ca j), .int 100, .int (-1), .int (-1)]) ∧ f (la j) = aI (q 0) 8 (fun _ => 0) ∧ f (ca j) = aI (q 0) 480 (fun _ => (-2)) := fun j hj => by
    have hmem : ∀ x, x ∈ shC (q 0) sa la ca j → x ∈ st0 q h0 d sa la ca := fun x hx => List.mem_append_right _ (by
      rw [show shW (q 0) sa la ca = (List.range 12).flatMap (shC (q 0) sa la ca) from rfl]
      exact List.mem_flatMap.mpr ⟨j, List.mem_range.mpr hj, hx⟩)
    exact ⟨hf _ (hmem _ List.mem_cons_self), hf _ (hmem _ (List.mem_cons_of_mem _ List.mem_cons_self)), hf _ (hmem _ (List.mem_cons_of_mem _ (List.mem_cons_of_mem _ List.mem_cons_self)))⟩
  have os : ∀ j, j < 12 → (g (sa j)).2.1 = 10 + j ∧ (g (la j)).2.1 = 30 + j ∧ (g (ca j)).2.1 = 50 + j := fun j hj => ⟨(ht9 _ _ _ (shT_mem9 hj List.mem_cons_self)).2, (ht9 _ _ _ (shT_mem9 hj (List.mem_cons_of_mem _ List.mem_cons_self))).2, (ht9 _ _ _ (shT_mem9 hj (List.mem_cons_of_mem _ (List.mem_cons_of_mem _ List.mem_cons_self)))).2⟩
  obtain ⟨⟨u1, u2⟩, m1, m2, m3⟩ := hm
  have uz : ∀ k, k ≠ 1 → k ≠ 2 → k ≠ 47 → u.2 k = fun _ => 0 := u2
  have hmi := m_start ⟨u1, u2⟩ m2
  have n0 : (u.1 3).toNatClampNeg = 0 := by rw [u1]; rfl
  refine ⟨((st0 q h0 d sa la ca).map Prod.fst, g), f, ?_, hIx, ⟨⟨⟨_, f0, fun p hp => by rw [(hd p hp).1]⟩, fun p hp => ?_⟩, ⟨_, fp, fun p hp => Or.inl ⟨by rw [uz 40 (by decide) (by decide) (by decide)], rfl⟩⟩, ⟨⟨_, f4, fun i hi => absurd hi (by rw [n0]; exact Nat.not_lt_zero _)⟩, fun i hi => absurd hi (by rw [n0]; exact Nat.not_lt_zero _)⟩, ⟨_, fr, fun j hj => by rw [uz 20 (by decide) (by decide) (by decide)]⟩, ⟨t2, t29.2, by decide⟩, ⟨t3, t39.2, by decide⟩, ⟨t4, t49.2, by decide⟩, ⟨t5, t59.2, by decide⟩, ⟨t6, t69.2, by decide⟩⟩, by rw [u1]; exact ⟨rfl, rfl, rfl, rfl⟩, t19.2, [], fun _ => [], _, ?_, fa, trivial⟩
  · show ((st0 q h0 d sa la ca).map Prod.fst).map (fun a => (a, f a)) = st0 q h0 d sa la ca
    rw [List.map_map]
    refine (List.map_congr_left (fun x hx => ?_)).trans (List.map_id _)
    show (x.1, f x.1) = x
    rw [hf x hx]
  · obtain ⟨d1, d2, d3⟩ := hd p hp
    obtain ⟨s1, s2, s3⟩ := fs p hp
    obtain ⟨o1, o2, o3⟩ := os p hp
    refine ⟨⟨by rw [d1]; exact hs p hp, by rw [d1]; exact o1, by decide⟩, ⟨by rw [d2]; exact hl p hp, by rw [d2]; exact o2, by decide⟩, ⟨by rw [d3]; exact hc p hp, by rw [d3]; exact o3, by decide⟩, -1, -1, ?_, ⟨_, by rw [d2]; exact s2, fun j hj => by rw [uz 0 (by decide) (by decide) (by decide)]⟩, _, by rw [d3]; exact s3, fun j hj => (m2 _ (by omega)).symm⟩
    rw [d1, d2, d3, m1 p hp]; exact s1
  · have e40 : ∀ p, ¬ u.2 40 p = 1 := fun p z => by rw [uz 40 (by decide) (by decide) (by decide)] at z; exact absurd (show (0 : Int32) = 1 from z) (by decide)
    refine ⟨hmi.1, hmi.2.1, ⟨Nat.zero_le _, by rw [u1]; rfl, by rw [u1]; rfl, fun _ => rfl, trivial, fun a _ => ⟨by rw [uz 22 (by decide) (by decide) (by decide)]; rfl, trivial⟩⟩, ⟨fun _ => rfl, m2⟩, fun i hi h8 => ?_, fun p hp z => absurd z (e40 p), fun p hp z => absurd z (e40 p), fun p hp z => absurd z (e40 p), fun i hi => Or.inl ⟨m3 _ (by omega), fun d _ => by rw [uz 48 (by decide) (by decide) (by decide)]⟩, fun x y _ _ => by rw [uz 20 (by decide) (by decide) (by decide)], by rw [u1]; decide⟩
    exact ⟨fun t ht => m3 _ (by omega), fun t _ => by rw [uz 16 (by decide) (by decide) (by decide)], fun t _ => by rw [uz 18 (by decide) (by decide) (by decide), uz 19 (by decide) (by decide) (by decide)]; exact ⟨rfl, rfl⟩, fun t _ => by rw [uz 21 (by decide) (by decide) (by decide)], fun t _ => by rw [uz 48 (by decide) (by decide) (by decide)]⟩
