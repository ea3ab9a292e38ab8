/-- the reference as it is made: all 0, but the measures, the cells and the first printings -/
def mZ0 (u : mS) : Prop := u.1 = (fun _ => 0) ∧ ∀ k, k ≠ 1 → k ≠ 2 → k ≠ 47 → u.2 k = fun _ => 0
theorem mz_st {u : mS} (h : mZ0 u) {k : Nat} (hk : k = 1 ∨ k = 2 ∨ k = 47) (i x : Int32) : mZ0 (mst u k i x) := ⟨h.1, fun j h1 h2 h3 => by rw [mst_other (by omega)]; exact h.2 j h1 h2 h3⟩
theorem m_start {u : mS} (h : mZ0 u) (hc : ∀ j, j < 5760 → u.2 2 j = (-2)) : mInv u := by
  obtain ⟨h1, h2⟩ := h
  refine ⟨⟨?_, ?_, fun j _ => ?_, fun j _ => ?_, fun j _ => ?_, fun j _ => ?_, fun j hj ht => ?_, fun j _ => ⟨0, 0, ?_, ?_, by omega⟩⟩, fun j _ e => ?_, [], fun _ => [], ?_, ?_, ?_, fun _ => rfl, trivial, fun a _ => ⟨?_, trivial⟩⟩
  · rw [h1]; show bw 0 0 80 = true; decide
  · rw [h1]; show bw 0 0 399 = true; decide
  · rw [h2 0 (by decide) (by decide) (by decide)]; show bw 0 0 60 = true; decide
  · rw [h2 43 (by decide) (by decide) (by decide)]; show bw 0 0 60 = true; decide
  · rw [h2 15 (by decide) (by decide) (by decide)]; show bw 0 0 80 = true; decide
  · rw [h2 17 (by decide) (by decide) (by decide)]; show bw 0 0 4 = true; decide
  · rw [hc j hj] at ht; exact absurd ht (by decide)
  · rw [h2 24 (by decide) (by decide) (by decide)]; rfl
  · rw [h2 26 (by decide) (by decide) (by decide)]; rfl
  · rw [h2 4 (by decide) (by decide) (by decide)] at e; exact absurd (show (0 : Int32) = 3 from e) (by decide)
  · exact Nat.zero_le _
  · rw [h1]; rfl
  · rw [h1]; rfl
  · rw [h2 22 (by decide) (by decide) (by decide)]; rfl
theorem rng_map {B : Type} (l : List B) : (List.range l.length).map (fun i => l[i]?) = l.map some := by
  refine List.ext_getElem (by simp) (fun i h1 h2 => ?_)
  have h3 : i < l.length := by simpa using h2
  rw [List.getElem_map, List.getElem_range, List.getElem_map]
  exact List.getElem?_eq_getElem h3
/-- a call that takes the left part of the world -/
theorem jn {A0 : Nat → Prop} {D : va_G} {cl : List vw_C} {w1 w2 w3 : va_W} {H H1 : Heap} (hP : va_P D cl (w1 ++ w2) H) (hD : va_D A0 (w1 ++ w2)) (hk : ∀ q : Nat, q < H.size → ¬ va_A w1 H.size q → H1[q]? = H[q]?) (hF : ∀ q, va_A w1 H.size q → A0 q) (hP1 : va_P D cl w3 H1) (hD1 : va_D (va_A w1 H.size) w3) : va_P D cl (w3 ++ w2) H1 ∧ va_D A0 (w3 ++ w2) :=
  va_joinQ (X := w1) (cx := w1) (wr := []) (w1 := w3) (pl := w2) hP hD (List.range w1.length) [] (rng_map w1) rfl rfl (fun i hi => absurd hi List.not_mem_nil) hk hF hP1 hD1
theorem vaD_swap {A : Nat → Prop} {w1 w2 : va_W} (h : va_D A (w1 ++ w2)) : va_D A (w2 ++ w1) := by
  refine va_D.by h (fun k => if k < w2.length then w1.length + k else k - w2.length) (fun k q hk => ?_) (fun i j hi hj hij => ?_)
  · by_cases e : k < w2.length
    · rw [if_pos e, List.getElem?_append_right (by omega), Nat.add_sub_cancel_left]
      rw [List.getElem?_append_left e] at hk; exact hk
    · rw [if_neg e]
      rw [List.getElem?_append_right (by omega)] at hk
      rw [List.getElem?_append_left (List.getElem?_eq_some_iff.mp hk).1]; exact hk
  · simp only [List.length_append] at hi hj
    by_cases e1 : i < w2.length
    · rw [if_pos e1] at hij
      by_cases e2 : j < w2.length
      · rw [if_pos e2] at hij; omega
      · rw [if_neg e2] at hij; omega
    · rw [if_neg e1] at hij
      by_cases e2 : j < w2.length
      · rw [if_pos e2] at hij; omega
      · rw [if_neg e2] at hij; omega
theorem vaD_l {A : Nat → Prop} {w1 w2 : va_W} (h : va_D A (w1 ++ w2)) : va_D A w1 := vaD_r (vaD_swap h)
theorem fr_left {A : Nat → Prop} {w1 w2 : va_W} {H0 H : Heap} {locs : List Loc} (hD : va_D A (w1 ++ w2)) (hS : va_S A H0 H locs) (hA : ∀ q, H0.size ≤ q → A q) : ∀ q, va_A w1 H.size q → A q := fr_part (vaD_swap hD) hS hA
theorem assoc {B : Type} (d : B) (l : List (Nat × B)) (h : ∀ (i j : Nat) (p q : Nat × B), l[i]? = some p → l[j]? = some q → p.1 = q.1 → i = j) : ∃ g : Nat → B, ∀ p ∈ l, g p.1 = p.2 := by
  refine ⟨fun a => ((l.find? (fun p => p.1 == a)).map Prod.snd).getD d, fun p hp => ?_⟩
  show ((l.find? (fun x => x.1 == p.1)).map Prod.snd).getD d = p.2
  rcases hf : l.find? (fun x => x.1 == p.1) with _ | q
  · have h1 := List.find?_eq_none.mp hf p hp
    exact absurd (beq_self_eq_true p.1) h1
  · have h1 := List.find?_some hf
    have h2 : q.1 = p.1 := eq_of_beq h1
    obtain ⟨i, hi⟩ := List.getElem?_of_mem (List.mem_of_find?_eq_some hf)
    obtain ⟨j, hj⟩ := List.getElem?_of_mem hp
    have h3 := h i j q p hi hj h2
    rw [h3, hj] at hi
    rw [hf]
    show q.2 = p.2
    rw [Option.some.inj hi]
/-- the desk as it is made -/
abbrev st0 (q : Nat → ClassId) (h0 : Nat) (d sa la ca : Nat → Nat) : va_W := [(h0, .inr (10, dkF d (fun _ => 0))), (d 0, aR (q 2) 12 (fun j => some (sa j))), (d 1, aR (q 2) 12 (fun _ => none)), (d 2, aR (q 3) 80 (fun _ => none)), (d 3, aR (q 4) 300 (fun _ => none)), (d 4, aI (q 1) 100 (fun _ => 0))] ++ shW (q 0) sa la ca
theorem shW_mem {q : Nat → ClassId} {sa la ca : Nat → Nat} {x : Nat × va_E} (h : x ∈ shW (q 0) sa la ca) : ∃ j, j < 12 ∧ x ∈ shC (q 0) sa la ca j := by
  rw [show shW (q 0) sa la ca = (List.range 12).flatMap (shC (q 0) sa la ca) from rfl] at h
  obtain ⟨j, h1, h2⟩ := List.mem_flatMap.mp h
  exact ⟨j, List.mem_range.mp h1, h2⟩
theorem karrO {C : String} {s : State} (h : va_AO C s) : ∃ cA : ClassId, ArrOfT s cA (.object C) ∧ va_RA s cA (.object C) := by
  obtain ⟨comp, c, k, h1, h2, h3, h4, h5⟩ := Cond.arrayOver_spec h
  exact ⟨c, fun N z => ⟨(fun k h => by cases h), k, h3, comp, h4⟩, k, comp, h3, h4, h1, h5⟩
set_option maxRecDepth 100000 in
theorem XN.of {args : Array Value} {s : State} (hts : ∀ w ∈ lw_tbl, w.before args s = true) (hg : (Jvm.Cond.and given_1 narrow_1).before args s = true) : XN s := by
  have hs := flat_of_before _ hg
  exact ⟨va_Nw.of rfl (hts (.declares ⟨"PageOne$Item", "linesBy", "(I)I"⟩) (pos_in 491 rfl)), va_Nc.of (hs (.not (.castable "PageOne$Filler" "PageOne$Head")) (by decide +kernel)), va_Nc.of (hs (.not (.castable "PageOne$Filler" "PageOne$Notice")) (by decide +kernel)), va_Nc.of (hs (.not (.castable "PageOne$Filler" "PageOne$Paid")) (by decide +kernel)), va_Nc.of (hs (.not (.castable "PageOne$Filler" "PageOne$Picture")) (by decide +kernel)), va_Nc.of (hs (.not (.castable "PageOne$Filler" "PageOne$Story")) (by decide +kernel)), va_Nc.of (hs (.not (.castable "PageOne$Head" "PageOne$Filler")) (by decide +kernel)), va_Nc.of (hs (.not (.castable "PageOne$Head" "PageOne$Notice")) (by decide +kernel)), va_Nc.of (hs (.not (.castable "PageOne$Head" "PageOne$Paid")) (by decide +kernel)), va_Nc.of (hs (.not (.castable "PageOne$Head" "PageOne$Picture")) (by decide +kernel)), va_Nc.of (hs (.not (.castable "PageOne$Head" "PageOne$Story")) (by decide +kernel)), va_Nc.of (hs (.not (.castable "PageOne$Notice" "PageOne$Filler")) (by decide +kernel)), va_Nc.of (hs (.not (.castable "PageOne$Notice" "PageOne$Head")) (by decide +kernel)), va_Nc.of (hs (.not (.castable "PageOne$Notice" "PageOne$Paid")) (by decide +kernel)), va_Nc.of (hs (.not (.castable "PageOne$Notice" "PageOne$Picture")) (by decide +kernel)), va_Nc.of (hs (.not (.castable "PageOne$Notice" "PageOne$Story")) (by decide +kernel)), va_Nc.of (hs (.not (.castable "PageOne$Paid" "PageOne$Filler")) (by decide +kernel)), va_Nc.of (hs (.not (.castable "PageOne$Paid" "PageOne$Head")) (by decide +kernel)), va_Nc.of (hs (.not (.castable "PageOne$Paid" "PageOne$Notice")) (by decide +kernel)), va_Nc.of (hs (.not (.castable "PageOne$Paid" "PageOne$Picture")) (by decide +kernel)), va_Nc.of (hs (.not (.castable "PageOne$Paid" "PageOne$Story")) (by decide +kernel)), va_Nc.of (hs (.not (.castable "PageOne$Picture" "PageOne$Filler")) (by decide +kernel)), va_Nc.of (hs (.not (.castable "PageOne$Picture" "PageOne$Head")) (by decide +kernel)), va_Nc.of (hs (.not (.castable "PageOne$Picture" "PageOne$Notice")) (by decide +kernel)), va_Nc.of (hs (.not (.castable "PageOne$Picture" "PageOne$Paid")) (by decide +kernel)), va_Nc.of (hs (.not (.castable "PageOne$Picture" "PageOne$Story")) (by decide +kernel)), va_Nc.of (hs (.not (.castable "PageOne$Story" "PageOne$Filler")) (by decide +kernel)), va_Nc.of (hs (.not (.castable "PageOne$Story" "PageOne$Head")) (by decide +kernel)), va_Nc.of (hs (.not (.castable "PageOne$Story" "PageOne$Notice")) (by decide +kernel)), va_Nc.of (hs (.not (.castable "PageOne$Story" "PageOne$Paid")) (by decide +kernel)), va_Nc.of (hs (.not (.castable "PageOne$Story" "PageOne$Picture")) (by decide +kernel))⟩
theorem nI_k (a c : Nat) {x : Int32} (hx : x = nI c) : nI a + x = nI (a + c) := by rw [hx]; exact nI_add a c
theorem lw_in {L i : Nat} (hL : L ≤ 4096) (hi : i ≤ 512) (h : ¬ (Int32.ofNat L - 8 : Int32) < nI (8 * i)) : 8 * i + 8 ≤ L := by
  have e8 : (8 : Int32).toInt = 8 := rfl
  have eL : (Int32.ofNat L).toInt = (L : Int) := nI_toInt (n := L) (by omega)
  rw [i32_lt, subI (by rw [eL, e8]; omega) (by rw [eL, e8]; omega), eL, e8, nI_toInt (by omega)] at h
  omega
theorem ed_7 {x : Int32} (h : bw x 0 7 = true) : (¬ x < 7 ↔ x = 7) ∧ (x < 7 → bw (x + 1) 0 7 = true) := by
  have e7 : (7 : Int32).toInt = 7 := rfl
  have h1 := bw_iff.mp h
  rw [i0, e7] at h1
  refine ⟨⟨fun h => sw_in (k := 7) (by rw [i32_lt, e7] at h; omega) rfl, fun e => by rw [e]; decide⟩, fun h2 => ?_⟩
  rw [i32_lt, e7] at h2
  rw [bw_iff, i0, e7, addI (by rw [i1]; omega) (by rw [i1]; omega), i1]; omega
theorem dy_399 {x : Int32} (h : bw x 0 399 = true) : ¬ x < 399 ↔ x = 399 := by
  have e7 : (399 : Int32).toInt = 399 := rfl
  have h1 := bw_iff.mp h
  rw [i0, e7] at h1
  exact ⟨fun h => sw_in (k := 399) (by rw [i32_lt, e7] at h; omega) rfl, fun e => by rw [e]; decide⟩
