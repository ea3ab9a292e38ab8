theorem rng_map {B : Type} (l : List B) : (List.range l.length).map (fun i => l[i]?) = l.map some := by
  refine List.ext_getElem (by simp) (fun i h1 h2 => ?_)
  have h3 : i < l.length := by simpa using h2
  rw [List.getElem_map, List.getElem_range, List.getElem_map]
  exact List.getElem?_eq_getElem h3
/-- a call that takes the left part of the world -/
theorem jn {A0 : Nat → Prop} {D : va_G} {cl : List vw_C} {w1 w2 w3 : va_W} {H H1 : Heap} (hP : va_P D cl (w1 ++ w2) H) (hD : va_D A0 (w1 ++ w2)) (hk : ∀ q : Nat, q < H.size → ¬ va_A w1 H.size q → H1[q]? = H[q]?) (hF : ∀ q, va_A w1 H.size q → A0 q) (hP1 : va_P D cl w3 H1) (hD1 : va_D (va_A w1 H.size) w3) : va_P D cl (w3 ++ w2) H1 ∧ va_D A0 (w3 ++ w2) :=
  va_joinQ (X := w1) (cx := w1) (wr := []) (w1 := w3) (pl := w2) hP hD (List.range w1.length) [] (rng_map w1) rfl rfl (fun i hi => absurd hi List.not_mem_nil) hk hF hP1 hD1
theorem vaD_swap {A : Nat → Prop} {w1 w2 : va_W} (h : va_D A (w1 ++ w2)) : va_D A (w2 ++ w1) := by
  refine va_D.by h (fun k => if k < w2.length then w1.length + k else k - w2.length) (fun k q hk => ?_) (fun i j hi hj hij => ?_)
  · by_cases e : k < w2.length
    · rw [if_pos e, List.getElem?_append_right (by omega), Nat.add_sub_cancel_left]
      rw [List.getElem?_append_left e] at hk; exact hk
    · rw [if_neg e]
      rw [List.getElem?_append_right (by omega)] at hk
      rw [List.getElem?_append_left (List.getElem?_eq_some_iff.mp hk).1]; exact hk
  · simp only [List.length_append] at hi hj
    by_cases e1 : i < w2.length
    · rw [if_pos e1] at hij
      by_cases e2 : j < w2.length
      · rw [if_pos e2] at hij; omega
      · rw [if_neg e2] at hij; omega
    · rw [if_neg e1] at hij
      by_cases e2 : j < w2.length
      · rw [if_pos e2] at hij; omega
      · rw [if_neg e2] at hij; omega
theorem vaD_l {A : Nat → Prop} {w1 w2 : va_W} (h : va_D A (w1 ++ w2)) : va_D A w1 := vaD_r (vaD_swap h)
theorem fr_left {A : Nat → Prop} {w1 w2 : va_W} {H0 H : Heap} {locs : List Loc} (hD : va_D A (w1 ++ w2)) (hS : va_S A H0 H locs) (hA : ∀ q, H0.size ≤ q → A q) : ∀ q, va_A w1 H.size q → A q := fr_part (vaD_swap hD) hS hA
theorem assoc {B : Type} (d : B) (l : List (Nat × B)) (h : ∀ (i j : Nat) (p q : Nat × B), l[i]? = some p → l[j]? = some q → p.1 = q.1 → i = j) : ∃ g : Nat → B, ∀ p ∈ l, g p.1 = p.2 := by
  refine ⟨fun a => ((l.find? (fun p => p.1 == a)).map Prod.snd).getD d, fun p hp => ?_⟩
  show ((l.find? (fun x => x.1 == p.1)).map Prod.snd).getD d = p.2
  rcases hf : l.find? (fun x => x.1 == p.1) with _ | q
  · have h1 := List.find?_eq_none.mp hf p hp
    exact absurd (beq_self_eq_true p.1) h1
  · have h1 := List.find?_some hf
    have h2 : q.1 = p.1 := eq_of_beq h1
    obtain ⟨i, hi⟩ := List.getElem?_of_mem (List.mem_of_find?_eq_some hf)
    obtain ⟨j, hj⟩ := List.getElem?_of_mem hp
    have h3 := h i j q p hi hj h2
    rw [h3, hj] at hi
    rw [hf]
    show q.2 = p.2
    rw [Option.some.inj hi]
/-- the desk as it is made -/
abbrev st0 (q : Nat → ClassId) (h0 : Nat) (d sa la ca : Nat → Nat) : va_W := [(h0, .inr (10, dkF d (fun _ => 0))), (d 0, aR (q 2) 12 (fun j => some (sa j))), (d 1, aR (q 2) 12 (fun _ => none)), (d 2, aR (q 3) 80 (fun _ => none)), (d 3, aR (q 4) 300 (fun _ => none)), (d 4, aI (q 1) 100 (fun _ => 0))] ++ shW (q 0) sa la ca
abbrev shT (sa la ca : Nat → Nat) (j : Nat) : List (Nat × Nat × Nat × List Value) := [(sa j, 7, 0, []), (la j, 8, 0, []), (ca j, 9, 0, [])]
abbrev tg0 (h0 : Nat) (d sa la ca : Nat → Nat) : List (Nat × Nat × Nat × List Value) := [(h0, 1, 0, []), (d 0, 2, 0, []), (d 1, 3, 0, []), (d 2, 4, 0, []), (d 3, 5, 0, []), (d 4, 6, 0, [])] ++ (shT sa la ca 0 ++ shT sa la ca 1 ++ shT sa la ca 2 ++ shT sa la ca 3 ++ shT sa la ca 4 ++ shT sa la ca 5 ++ shT sa la ca 6 ++ shT sa la ca 7 ++ shT sa la ca 8 ++ shT sa la ca 9 ++ shT sa la ca 10 ++ shT sa la ca 11)
theorem shT_mem {sa la ca : Nat → Nat} {x : Nat × Nat × Nat × List Value} {h0 : Nat} {d : Nat → Nat} {j : Nat} (hj : j < 12) (h : x ∈ shT sa la ca j) : x ∈ tg0 h0 d sa la ca := by
  refine List.mem_append_right _ ?_
  rw [show (shT sa la ca 0 ++ shT sa la ca 1 ++ shT sa la ca 2 ++ shT sa la ca 3 ++ shT sa la ca 4 ++ shT sa la ca 5 ++ shT sa la ca 6 ++ shT sa la ca 7 ++ shT sa la ca 8 ++ shT sa la ca 9 ++ shT sa la ca 10 ++ shT sa la ca 11) = (List.range 12).flatMap (shT sa la ca) from rfl]
  exact List.mem_flatMap.mpr ⟨j, List.mem_range.mpr hj, h⟩
theorem shW_mem {q : Nat → ClassId} {sa la ca : Nat → Nat} {x : Nat × va_E} (h : x ∈ shW (q 0) sa la ca) : ∃ j, j < 12 ∧ x ∈ shC (q 0) sa la ca j := by
  rw [show shW (q 0) sa la ca = (List.range 12).flatMap (shC (q 0) sa la ca) from rfl] at h
  obtain ⟨j, h1, h2⟩ := List.mem_flatMap.mp h
  exact ⟨j, List.mem_range.mp h1, h2⟩
set_option maxRecDepth 100000 in
theorem x_start {q : Nat → ClassId} {A : Nat → Prop} {h0 : Nat} {d sa la ca : Nat → Nat} (hD : va_D A (st0 q h0 d sa la ca)) : ∃ (z : gS) (f : xF), va_pl z.1 f = st0 q h0 d sa la ca ∧ xI q h0 d (fun _ => 0) z f := by
  obtain ⟨f, hf⟩ := assoc (.inr (0, []) : va_E) (st0 q h0 d sa la ca) (fun i j p q hp hq he => hD.1 i j p q hp hq he)
  have em : (tg0 h0 d sa la ca).map Prod.fst = (st0 q h0 d sa la ca).map Prod.fst := rfl
  obtain ⟨g, hg⟩ := assoc ((0, 0, []) : Nat × Nat × List Value) (tg0 h0 d sa la ca) (fun i j p r hp hr he => by
    have h1 : ((tg0 h0 d sa la ca).map Prod.fst)[i]? = some p.1 := by rw [List.getElem?_map, hp]; rfl
    have h2 : ((tg0 h0 d sa la ca).map Prod.fst)[j]? = some r.1 := by rw [List.getElem?_map, hr]; rfl
    rw [em, List.getElem?_map] at h1 h2
    obtain ⟨a, a1, a2⟩ := Option.map_eq_some_iff.mp h1
    obtain ⟨b, b1, b2⟩ := Option.map_eq_some_iff.mp h2
    exact hD.1 i j a b a1 b1 (by rw [a2, b2, he]))
  have hm : ∀ x ∈ tg0 h0 d sa la ca, x.1 ∈ (st0 q h0 d sa la ca).map Prod.fst := fun x hx => by rw [← em]; exact List.mem_map_of_mem hx
  have ht : ∀ (a t : Nat), (a, t, 0, []) ∈ tg0 h0 d sa la ca → tg ((st0 q h0 d sa la ca).map Prod.fst, g) a t := fun a t h => ⟨hm _ h, by show (g a).1 = t; rw [hg _ h]⟩
  have hs : ∀ j, j < 12 → tg ((st0 q h0 d sa la ca).map Prod.fst, g) (sa j) 7 := fun j hj => ht _ _ (shT_mem hj List.mem_cons_self)
  have hl : ∀ j, j < 12 → tg ((st0 q h0 d sa la ca).map Prod.fst, g) (la j) 8 := fun j hj => ht _ _ (shT_mem hj (List.mem_cons_of_mem _ List.mem_cons_self))
  have hc : ∀ j, j < 12 → tg ((st0 q h0 d sa la ca).map Prod.fst, g) (ca j) 9 := fun j hj => ht _ _ (shT_mem hj (List.mem_cons_of_mem _ (List.mem_cons_of_mem _ List.mem_cons_self)))
  have t1 := ht h0 1 (List.mem_append_left _ List.mem_cons_self)
  have t2 := ht (d 0) 2 (List.mem_append_left _ (List.mem_cons_of_mem _ List.mem_cons_self))
  have t3 := ht (d 1) 3 (List.mem_append_left _ (List.mem_cons_of_mem _ (List.mem_cons_of_mem _ List.mem_cons_self)))
  have t4 := ht (d 2) 4 (List.mem_append_left _ (List.mem_cons_of_mem _ (List.mem_cons_of_mem _ (List.mem_cons_of_mem _ List.mem_cons_self))))
  have t5 := ht (d 3) 5 (List.mem_append_left _ (List.mem_cons_of_mem _ (List.mem_cons_of_mem _ (List.mem_cons_of_mem _ (List.mem_cons_of_mem _ List.mem_cons_self)))))
  have t6 := ht (d 4) 6 (List.mem_append_left _ (List.mem_cons_of_mem _ (List.mem_cons_of_mem _ (List.mem_cons_of_mem _ (List.mem_cons_of_mem _ (List.mem_cons_of_mem _ List.mem_cons_self))))))
  have f1 : f h0 = .inr (10, dkF d (fun _ => 0)) := hf _ (List.mem_append_left _ List.mem_cons_self)
  have f4 : f (d 2) = aR (q 3) 80 (fun _ => none) := hf _ (List.mem_append_left _ (List.mem_cons_of_mem _ (List.mem_cons_of_mem _ (List.mem_cons_of_mem _ List.mem_cons_self))))
  /- every address: what lies there, and its tag -/
  have hall : ∀ a, a ∈ (st0 q h0 d sa la ca).map Prod.fst → cO q ((st0 q h0 d sa la ca).map Prod.fst, g) a (f a) ∧ (g a).1 < 10 := by
    intro a ha
    obtain ⟨x, hx, rfl⟩ := List.mem_map.mp ha
    have hfx := hf x hx
    rcases List.mem_append.mp hx with y | y
    · rcases List.mem_cons.mp y with e | y
      · rw [e] at hfx ⊢; exact ⟨cO_1 t1.2, by show ((((st0 q h0 d sa la ca).map Prod.fst, g) : gS).2 h0).1 < 10; rw [t1.2]; decide⟩
      rcases List.mem_cons.mp y with e | y
      · rw [e] at hfx ⊢; exact ⟨by rw [hfx]; exact cO_2 t2.2 ⟨_, rfl, fun j hj => ⟨sa j, rfl, hs j hj⟩⟩, by show ((((st0 q h0 d sa la ca).map Prod.fst, g) : gS).2 (d 0)).1 < 10; rw [t2.2]; decide⟩
      rcases List.mem_cons.mp y with e | y
      · rw [e] at hfx ⊢; exact ⟨by rw [hfx]; exact cO_3 t3.2 ⟨_, rfl, fun _ _ b hb => by cases hb⟩, by show ((((st0 q h0 d sa la ca).map Prod.fst, g) : gS).2 (d 1)).1 < 10; rw [t3.2]; decide⟩
      rcases List.mem_cons.mp y with e | y
      · rw [e] at hfx ⊢; exact ⟨by rw [hfx]; exact cO_4 t4.2 ⟨_, rfl, fun _ _ b hb => by cases hb⟩, by show ((((st0 q h0 d sa la ca).map Prod.fst, g) : gS).2 (d 2)).1 < 10; rw [t4.2]; decide⟩
      rcases List.mem_cons.mp y with e | y
      · rw [e] at hfx ⊢; exact ⟨by rw [hfx]; exact cO_5 t5.2 ⟨_, rfl, fun _ _ b hb => by cases hb⟩, by show ((((st0 q h0 d sa la ca).map Prod.fst, g) : gS).2 (d 3)).1 < 10; rw [t5.2]; decide⟩
      rcases List.mem_cons.mp y with e | y
      · rw [e] at hfx ⊢; exact ⟨by rw [hfx]; exact cO_6 t6.2 ⟨_, rfl, fun _ => Or.inl rfl⟩, by show ((((st0 q h0 d sa la ca).map Prod.fst, g) : gS).2 (d 4)).1 < 10; rw [t6.2]; decide⟩
      exact absurd y List.not_mem_nil
    · obtain ⟨j, hj, y⟩ := shW_mem y
      rcases List.mem_cons.mp y with e | y
      · rw [e] at hfx ⊢; exact ⟨by rw [hfx]; exact cO_7 (hs j hj).2 ⟨_, _, _, _, _, rfl, hl j hj, hc j hj⟩, by show ((((st0 q h0 d sa la ca).map Prod.fst, g) : gS).2 (sa j)).1 < 10; rw [(hs j hj).2]; decide⟩
      rcases List.mem_cons.mp y with e | y
      · rw [e] at hfx ⊢; exact ⟨by rw [hfx]; exact cO_8 (hl j hj).2 ⟨_, rfl, fun _ _ => b00⟩, by show ((((st0 q h0 d sa la ca).map Prod.fst, g) : gS).2 (la j)).1 < 10; rw [(hl j hj).2]; decide⟩
      rcases List.mem_cons.mp y with e | y
      · rw [e] at hfx ⊢; exact ⟨by rw [hfx]; exact cO_9 (hc j hj).2 ⟨_, rfl⟩, by show ((((st0 q h0 d sa la ca).map Prod.fst, g) : gS).2 (ca j)).1 < 10; rw [(hc j hj).2]; decide⟩
      exact absurd y List.not_mem_nil
  refine ⟨((st0 q h0 d sa la ca).map Prod.fst, g), f, ?_, ⟨by decide, by decide, by decide⟩, ⟨t1, t2, t3, t4, t5, t6⟩, fun a ha => (hall a ha).1, ⟨f1, _, f4, fun j hj => absurd hj (Nat.not_lt_zero _)⟩, ?_⟩
  · show ((st0 q h0 d sa la ca).map Prod.fst).map (fun a => (a, f a)) = st0 q h0 d sa la ca
    rw [List.map_map]
    refine (List.map_congr_left (fun x hx => ?_)).trans (List.map_id _)
    show (x.1, f x.1) = x
    rw [hf x hx]
  · intro a ha
    have h1 := (hall a ha.1).2
    have h2 := ha.2.1
    exact absurd (show 10 ≤ (g a).1 from h2) (by omega)
theorem karrO {C : String} {s : State} (h : va_AO C s) : ∃ cA : ClassId, ArrOfT s cA (.object C) ∧ va_RA s cA (.object C) := by
  obtain ⟨comp, c, k, h1, h2, h3, h4, h5⟩ := Cond.arrayOver_spec h
  exact ⟨c, fun N z => ⟨(fun k h => by cases h), k, h3, comp, h4⟩, k, comp, h3, h4, h1, h5⟩
set_option maxRecDepth 100000 in
theorem XN.of {args : Array Value} {s : State} (hts : ∀ w ∈ lw_tbl, w.before args s = true) (hg : (Jvm.Cond.and given_1 narrow_1).before args s = true) : XN s := by
  have hs := flat_of_before _ hg
  exact ⟨va_Nw.of rfl (hts (.declares ⟨"PageOne$Item", "linesBy", "(I)I"⟩) (pos_in 491 rfl)), va_Nc.of (hs (.not (.castable "PageOne$Filler" "PageOne$Head")) (by decide +kernel)), va_Nc.of (hs (.not (.castable "PageOne$Filler" "PageOne$Notice")) (by decide +kernel)), va_Nc.of (hs (.not (.castable "PageOne$Filler" "PageOne$Paid")) (by decide +kernel)), va_Nc.of (hs (.not (.castable "PageOne$Filler" "PageOne$Picture")) (by decide +kernel)), va_Nc.of (hs (.not (.castable "PageOne$Filler" "PageOne$Story")) (by decide +kernel)), va_Nc.of (hs (.not (.castable "PageOne$Head" "PageOne$Filler")) (by decide +kernel)), va_Nc.of (hs (.not (.castable "PageOne$Head" "PageOne$Notice")) (by decide +kernel)), va_Nc.of (hs (.not (.castable "PageOne$Head" "PageOne$Paid")) (by decide +kernel)), va_Nc.of (hs (.not (.castable "PageOne$Head" "PageOne$Picture")) (by decide +kernel)), va_Nc.of (hs (.not (.castable "PageOne$Head" "PageOne$Story")) (by decide +kernel)), va_Nc.of (hs (.not (.castable "PageOne$Notice" "PageOne$Filler")) (by decide +kernel)), va_Nc.of (hs (.not (.castable "PageOne$Notice" "PageOne$Head")) (by decide +kernel)), va_Nc.of (hs (.not (.castable "PageOne$Notice" "PageOne$Paid")) (by decide +kernel)), va_Nc.of (hs (.not (.castable "PageOne$Notice" "PageOne$Picture")) (by decide +kernel)), va_Nc.of (hs (.not (.castable "PageOne$Notice" "PageOne$Story")) (by decide +kernel)), va_Nc.of (hs (.not (.castable "PageOne$Paid" "PageOne$Filler")) (by decide +kernel)), va_Nc.of (hs (.not (.castable "PageOne$Paid" "PageOne$Head")) (by decide +kernel)), va_Nc.of (hs (.not (.castable "PageOne$Paid" "PageOne$Notice")) (by decide +kernel)), va_Nc.of (hs (.not (.castable "PageOne$Paid" "PageOne$Picture")) (by decide +kernel)), va_Nc.of (hs (.not (.castable "PageOne$Paid" "PageOne$Story")) (by decide +kernel)), va_Nc.of (hs (.not (.castable "PageOne$Picture" "PageOne$Filler")) (by decide +kernel)), va_Nc.of (hs (.not (.castable "PageOne$Picture" "PageOne$Head")) (by decide +kernel)), va_Nc.of (hs (.not (.castable "PageOne$Picture" "PageOne$Notice")) (by decide +kernel)), va_Nc.of (hs (.not (.castable "PageOne$Picture" "PageOne$Paid")) (by decide +kernel)), va_Nc.of (hs (.not (.castable "PageOne$Picture" "PageOne$Story")) (by decide +kernel)), va_Nc.of (hs (.not (.castable "PageOne$Story" "PageOne$Filler")) (by decide +kernel)), va_Nc.of (hs (.not (.castable "PageOne$Story" "PageOne$Head")) (by decide +kernel)), va_Nc.of (hs (.not (.castable "PageOne$Story" "PageOne$Notice")) (by decide +kernel)), va_Nc.of (hs (.not (.castable "PageOne$Story" "PageOne$Paid")) (by decide +kernel)), va_Nc.of (hs (.not (.castable "PageOne$Story" "PageOne$Picture")) (by decide +kernel))⟩
theorem nI_k (a c : Nat) {x : Int32} (hx : x = nI c) : nI a + x = nI (a + c) := by rw [hx]; exact nI_add a c
theorem lw_in {L i : Nat} (hL : L ≤ 4096) (hi : i ≤ 512) (h : ¬ (Int32.ofNat L - 8 : Int32) < nI (8 * i)) : 8 * i + 8 ≤ L := by
  have e8 : (8 : Int32).toInt = 8 := rfl
  have eL : (Int32.ofNat L).toInt = (L : Int) := nI_toInt (n := L) (by omega)
  rw [i32_lt, subI (by rw [eL, e8]; omega) (by rw [eL, e8]; omega), eL, e8, nI_toInt (by omega)] at h
  omega
/-- what both hold: the day, the edition -/
def rel (k : Nat → Int32) (u : mS) : Prop := k 2 = u.1 38 ∧ k 3 = u.1 39 ∧ bw (k 3) 0 7 = true
theorem rel_kp {k k1 : Nat → Int32} {u u1 : mS} (h : rel k u) (h2 : k1 2 = k 2) (h3 : k1 3 = k 3) (hm : u1.1 38 = u.1 38 ∧ u1.1 39 = u.1 39) : rel k1 u1 := ⟨by rw [h2, hm.1]; exact h.1, by rw [h3, hm.2]; exact h.2.1, by rw [h3]; exact h.2.2⟩
theorem ed_7 {x : Int32} (h : bw x 0 7 = true) : (¬ x < 7 ↔ x = 7) ∧ (x < 7 → bw (x + 1) 0 7 = true) := by
  have e7 : (7 : Int32).toInt = 7 := rfl
  have h1 := bw_iff.mp h
  rw [i0, e7] at h1
  refine ⟨⟨fun h => sw_in (k := 7) (by rw [i32_lt, e7] at h; omega) rfl, fun e => by rw [e]; decide⟩, fun h2 => ?_⟩
  rw [i32_lt, e7] at h2
  rw [bw_iff, i0, e7, addI (by rw [i1]; omega) (by rw [i1]; omega), i1]; omega
theorem dy_399 {x : Int32} (h : bw x 0 399 = true) : ¬ x < 399 ↔ x = 399 := by
  have e7 : (399 : Int32).toInt = 399 := rfl
  have h1 := bw_iff.mp h
  rw [i0, e7] at h1
  exact ⟨fun h => sw_in (k := 399) (by rw [i32_lt, e7] at h; omega) rfl, fun e => by rw [e]; decide⟩
theorem rel_ed {k k1 : Nat → Int32} {u u1 : mS} {r r1 : Int32} (h : rel k u) (hx : (¬ k 3 < 7 ∧ r = -1 ∧ k1 = k) ∨ (k 3 < 7 ∧ r = k 3 + 1 ∧ k1 = kup k 3 (k 3 + 1))) (h8 : u1.1 38 = u.1 38) (hm : (u.1 39 = 7 ∧ r1 = -1 ∧ u1.1 39 = u.1 39) ∨ (¬ u.1 39 = 7 ∧ r1 = u.1 39 + 1 ∧ u1.1 39 = u.1 39 + 1)) : r = r1 ∧ rel k1 u1 := by
  obtain ⟨a1, a2, a3⟩ := h
  have hd := ed_7 a3
  rcases hx with ⟨b1, b2, b3⟩ | ⟨b1, b2, b3⟩
  · rcases hm with ⟨c1, c2, c3⟩ | ⟨c1, c2, c3⟩
    · exact ⟨by rw [b2, c2], by rw [b3]; exact ⟨by rw [h8]; exact a1, by rw [c3]; exact a2, a3⟩⟩
    · exact absurd (by rw [← a2]; exact hd.1.mp b1) c1
  · rcases hm with ⟨c1, c2, c3⟩ | ⟨c1, c2, c3⟩
    · exact absurd b1 (hd.1.mpr (by rw [a2]; exact c1))
    · exact ⟨by rw [b2, c2, a2], by rw [b3]; exact ⟨by rw [h8]; exact a1, by rw [kup_s, c3, a2], by rw [kup_s]; exact hd.2 b1⟩⟩
theorem rel_dy {k k1 : Nat → Int32} {u u1 : mS} {r r1 : Int32} (h : rel k u) (hb : bw (k 2) 0 399 = true) (hx : (¬ k 2 < 399 ∧ r = -1 ∧ k1 = k) ∨ (k 2 < 399 ∧ r = k 2 + 1 ∧ k1 2 = k 2 + 1 ∧ k1 3 = 0)) (hm : (u.1 38 = 399 ∧ r1 = -1 ∧ u1.1 38 = u.1 38 ∧ u1.1 39 = u.1 39) ∨ (¬ u.1 38 = 399 ∧ r1 = u.1 38 + 1 ∧ u1.1 38 = u.1 38 + 1 ∧ u1.1 39 = 0)) : r = r1 ∧ rel k1 u1 := by
  obtain ⟨a1, a2, a3⟩ := h
  have hd := dy_399 hb
  rcases hx with ⟨b1, b2, b3⟩ | ⟨b1, b2, b3, b4⟩
  · rcases hm with ⟨c1, c2, c3, c4⟩ | ⟨c1, c2, c3, c4⟩
    · exact ⟨by rw [b2, c2], by rw [b3]; exact ⟨by rw [c3]; exact a1, by rw [c4]; exact a2, a3⟩⟩
    · exact absurd (by rw [← a1]; exact hd.mp b1) c1
  · rcases hm with ⟨c1, c2, c3, c4⟩ | ⟨c1, c2, c3, c4⟩
    · exact absurd b1 (hd.mpr (by rw [a1]; exact c1))
    · exact ⟨by rw [b2, c2, a1], ⟨by rw [b3, c3, a1], by rw [b4, c4], by rw [b4]; decide⟩⟩
