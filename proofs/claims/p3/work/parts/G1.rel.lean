/-- the class's acts are the reference's -/
def acL (z : gS) (d : Nat → Nat) (g : Nat → Option Nat) : List hE → Prop
  | [] => True
  | e :: es => (∃ a, g es.length = some a ∧ acE z d a e) ∧ acL z d g es
/-- class and reference stand alike -/
def RR (q : Nat → ClassId) (h0 : Nat) (d : Nat → Nat) (k : Nat → Int32) (z : gS) (f : xF) (u : mS) : Prop := xI q h0 d k z f ∧ rep q d u z f ∧ (k 0 = u.1 3 ∧ k 1 = u.1 28 ∧ k 2 = u.1 38 ∧ k 3 = u.1 39) ∧ (z.2 h0).2.1 = 0 ∧ ∃ es c g, uI u es c ∧ f (d 3) = aR (q 4) 300 g ∧ acL z d g es
def itL (n : Nat) : List hE → Prop
  | [] => True
  | e :: es => ((e.1 ≠ 3 → e.1 ≠ 2 → e.2.1 < n) ∧ (e.1 = 3 → ∀ x, x ∈ e.2.2.2 → x.1 < n)) ∧ itL n es
theorem xG_it {n : Nat} {kd : Nat → Int32} {c : cfg} : ∀ {xs : List fX}, xG n kd c xs → ∀ x, x ∈ xs → x.1 < n
  | [], _, x, hx => absurd hx List.not_mem_nil
  | y :: xs, h, x, hx => by
    rcases List.mem_cons.mp hx with q | q
    · rw [q]; exact h.2.1
    · exact xG_it h.1 x q
theorem gH_it {u : mS} : ∀ {es : List hE} {c : cfg} {G : Nat → Int32}, gH u es c G → itL (u.1 3).toNatClampNeg es
  | [], _, _, _ => trivial
  | e :: es, c, G, h => by
    obtain ⟨-, -, -, h4, -, c1, G1, h6, h7, -⟩ := h
    refine ⟨⟨h4, fun q x hx => ?_⟩, gH_it h6⟩
    rcases h7 with z | z | z | z
    · exact absurd (z.1.symm.trans q) (by decide)
    · exact absurd (z.1.symm.trans q) (by decide)
    · exact absurd (z.1.symm.trans q) (by decide)
    · exact xG_it z.2.2 x hx
theorem acS_E {z w : gS} (hEz : zE z w) {a p : Nat} {l n : Int32} {ah : Option Nat} (h : acS z a p l n ah) : acS w a p l n ah := ⟨zE_tg hEz h.1, by rw [zE_o hEz h.1.1]; exact h.2⟩
theorem acF_d {z w : gS} {d d2 : Nat → Nat} {n : Nat} (hEz : zE z w) (hd : ∀ j, j < n → d2 (2000 + j) = d (2000 + j)) : ∀ {xs : List fX} {o : Option Nat}, (∀ x, x ∈ xs → x.1 < n) → acF z d o xs → acF w d2 o xs
  | [], _, _, h => h
  | x :: xs, _, hx, ⟨a, pp, ah, h1, h2, h3, h4⟩ => ⟨a, pp, ah, h1, acS_E hEz h2, by rw [hd x.1 (hx x List.mem_cons_self)]; exact zE_pc hEz h3, acF_d hEz hd (fun y hy => hx y (List.mem_cons_of_mem _ hy)) h4⟩
theorem acE_d {z w : gS} {d d2 : Nat → Nat} {n a : Nat} {e : hE} (hEz : zE z w) (hd : ∀ j, j < n → d2 (2000 + j) = d (2000 + j)) (hi : (e.1 ≠ 3 → e.1 ≠ 2 → e.2.1 < n) ∧ (e.1 = 3 → ∀ x, x ∈ e.2.2.2 → x.1 < n)) (h : acE z d a e) : acE w d2 a e := by
  rcases h with ⟨q, pp, h1, h2⟩ | ⟨q, pp, h1, h2⟩ | ⟨q, pp, h1, h2⟩ | ⟨q, h1⟩
  · exact Or.inl ⟨q, pp, acS_E hEz h1, by rw [hd _ (hi.1 (by omega) (by omega))]; exact zE_pc hEz h2⟩
  · exact Or.inr (Or.inl ⟨q, pp, acS_E hEz h1, by rw [hd _ (hi.1 (by omega) (by omega))]; exact zE_pc hEz h2⟩)
  · exact Or.inr (Or.inr (Or.inl ⟨q, pp, acS_E hEz h1, zE_pc hEz h2⟩))
  · exact Or.inr (Or.inr (Or.inr ⟨q, acF_d hEz hd (hi.2 q) h1⟩))
theorem acL_m {z w : gS} {d d2 : Nat → Nat} {n : Nat} {g g2 : Nat → Option Nat} (hEz : zE z w) (hd : ∀ j, j < n → d2 (2000 + j) = d (2000 + j)) : ∀ {es : List hE}, (∀ t, t < es.length → g2 t = g t) → itL n es → acL z d g es → acL w d2 g2 es
  | [], _, _, _ => trivial
  | e :: es, hg, hi, h => by
    obtain ⟨⟨a, a1, a2⟩, h2⟩ := h
    exact ⟨⟨a, (hg es.length (by rw [List.length_cons]; omega)).trans a1, acE_d hEz hd hi.1 a2⟩, acL_m hEz hd (fun t ht => hg t (by rw [List.length_cons]; omega)) hi.2 h2⟩
theorem acE_tg {z : gS} {d : Nat → Nat} {a : Nat} {e : hE} (h : acE z d a e) : tg z a 23 := by
  rcases h with ⟨q, pp, h1, h2⟩ | ⟨q, pp, h1, h2⟩ | ⟨q, pp, h1, h2⟩ | ⟨q, h1⟩
  · exact h1.1
  · exact h1.1
  · exact h1.1
  · revert h1
    cases e.2.2.2 with
    | nil => intro h1; exact absurd h1 (fun z => by cases z)
    | cons x xs =>
      rintro ⟨a2, pp, ah, h1, h2, -⟩
      rw [Option.some.inj h1]; exact h2.1
theorem hz_E {z w : gS} {q : Nat → ClassId} {h0 : Nat} {d : Nat → Nat} {k : Nat → Int32} {f : xF} (hI : xI q h0 d k z f) (hEz : zE z w) (h : (z.2 h0).2.1 = 0) : (w.2 h0).2.1 = 0 := by
  rw [zE_o hEz hI.2.1.1.1]; exact h
theorem zE_eq {z w : gS} (h : w = z) : zE z w := fun a ha => by rw [h]; exact ⟨ha, rfl⟩
theorem RR_30 {q : Nat → ClassId} {h0 : Nat} {d : Nat → Nat} {k : Nat → Int32} {z : gS} {f : xF} {u : mS} (h : RR q h0 d k z f u) : rep q d u z f := h.2.1
/-- nothing is kept anew: the acts stay -/
theorem RR_st {q : Nat → ClassId} {h0 : Nat} {d d2 : Nat → Nat} {k : Nat → Int32} {z : gS} {f : xF} {u : mS} {w : xU} {u9 : mS} {es : List hE} {c : cfg} {g : Nat → Option Nat} (hI0 : xI q h0 d k z f) (hz : (z.2 h0).2.1 = 0) (hu : uI u es c) (hg : f (d 3) = aR (q 4) 300 g) (hL : acL z d g es) (hEz : zE z w.2.1) (hI : xI q h0 d2 w.1 w.2.1 w.2.2) (hrp : rep q d2 u9 w.2.1 w.2.2) (hk : w.1 0 = u9.1 3 ∧ w.1 1 = u9.1 28 ∧ w.1 2 = u9.1 38 ∧ w.1 3 = u9.1 39) (hd3 : w.2.2 (d 3) = f (d 3)) (hdd : d2 3 = d 3) (hdi : ∀ j, j < (u.1 3).toNatClampNeg → d2 (2000 + j) = d (2000 + j)) (hu9 : uI u9 es c) : RR q h0 d2 w.1 w.2.1 w.2.2 u9 := ⟨hI, hrp, hk, hz_E hI0 hEz hz, es, c, g, hu9, by rw [hdd, hd3]; exact hg, acL_m hEz hdi (fun _ _ => rfl) (gH_it hu.2.2.2.1) hL⟩
/-- the small writers -/
theorem step_small {q : Nat → ClassId} {h0 : Nat} {d : Nat → Nat} {k : Nat → Int32} {z : gS} {f : xF} {u : mS} {w : xU} {r : Int32} {R9 : Int32 × mS} (h : RR q h0 d k z f u) (hx : w.2.2 (d 3) = f (d 3) ∧ w.1 = k ∧ w.2.1 = z ∧ xI q h0 d k z w.2.2 ∧ r = R9.1 ∧ rep q d R9.2 z w.2.2) (h1 : R9.2.1 = u.1) (hu9 : ∀ es c, uI u es c → uI R9.2 es c) : r = R9.1 ∧ RR q h0 d w.1 w.2.1 w.2.2 R9.2 := by
  obtain ⟨hI, hrp, hk, hz, es, c, g, hu, hg, hL⟩ := h
  obtain ⟨x1, x2, x3, x4, x5, x6⟩ := hx
  refine ⟨x5, RR_st hI hz hu hg hL (zE_eq x3) (by rw [x2, x3]; exact x4) (by rw [x3]; exact x6) (by rw [x2, h1]; exact hk) x1 rfl (fun _ _ => rfl) (hu9 es c hu)⟩
theorem line_1 (u : mS) (i x : Int32) : (mLine u i x).2.1 = u.1 := by
  unfold mLine
  repeat' split
  all_goals rfl
theorem size_1 (u : mS) (i x y : Int32) : (mSize u i x y).2.1 = u.1 := by
  unfold mSize
  repeat' split
  all_goals rfl
theorem names_1 (u : mS) (i x : Int32) : (mNames u i x).2.1 = u.1 := by
  unfold mNames
  repeat' split
  all_goals rfl
theorem rival_1 (u : mS) (i x : Int32) : (mRival u i x).2.1 = u.1 := by
  unfold mRival
  repeat' split
  all_goals rfl
theorem column_1 (u : mS) (i x y : Int32) : (mColumn u i x y).2.1 = u.1 := by
  unfold mColumn
  repeat' split
  all_goals rfl
theorem measure_1 (u : mS) (i x : Int32) : (mMeasure u i x).2.1 = u.1 := by
  unfold mMeasure
  repeat' split
  all_goals rfl
/-- the makers -/
theorem step_mk {q : Nat → ClassId} {h0 : Nat} {d : Nat → Nat} {k : Nat → Int32} {z : gS} {f : xF} {u : mS} {w : xU} {r : Int32} {R9 : Int32 × mS} (h : RR q h0 d k z f u) (hx : mkP q h0 d k z f u R9 r w) (h1 : ∀ j, j ≠ 3 → R9.2.1 j = u.1 j) (hu9 : ∀ es c, uI u es c → uI R9.2 es c) : r = R9.1 ∧ ∃ d2, RR q h0 d2 w.1 w.2.1 w.2.2 R9.2 := by
  obtain ⟨hI, hrp, hk, hz, es, c, g, hu, hg, hL⟩ := h
  obtain ⟨d2, x1, x2, x3, x4, x5, x6, x7, x8, x9⟩ := hx
  refine ⟨x5, d2, RR_st hI hz hu hg hL x3 x4 x6 ⟨x7, ?_, ?_, ?_⟩ x9 (x1 3 (by decide)) (fun j hj => (x2 j hj).1) (hu9 es c hu)⟩
  · rw [x8 1 (by decide), h1 28 (by decide)]; exact hk.2.1
  · rw [x8 2 (by decide), h1 38 (by decide)]; exact hk.2.2.1
  · rw [x8 3 (by decide), h1 39 (by decide)]; exact hk.2.2.2
theorem made_o {u : mS} {k : Int32} {j : Nat} (h : j ≠ 3) : (mMade u k).1 j = u.1 j := by rw [made_1, if_neg h]
theorem story_1 (u : mS) (n : Int32) {j : Nat} (h : j ≠ 3) : (mStory u n).2.1 j = u.1 j := by
  unfold mStory
  repeat' split
  all_goals first | rfl | exact made_o h
theorem head_1 (u : mS) (a b c : Int32) {j : Nat} (h : j ≠ 3) : (mHead u a b c).2.1 j = u.1 j := by
  unfold mHead
  repeat' split
  all_goals first | rfl | exact made_o h
theorem picture_1 (u : mS) {j : Nat} (h : j ≠ 3) : (mPicture u).2.1 j = u.1 j := by
  unfold mPicture
  repeat' split
  all_goals first | rfl | exact made_o h
theorem filler_1 (u : mS) (a b : Int32) {j : Nat} (h : j ≠ 3) : (mFiller u a b).2.1 j = u.1 j := by
  unfold mFiller
  repeat' split
  all_goals first | rfl | exact made_o h
theorem paid_1 (u : mS) (b p x l y z m : Int32) {j : Nat} (h : j ≠ 3) : (mPaid u b p x l y z m).2.1 j = u.1 j := by
  unfold mPaid
  repeat' split
  all_goals first | rfl | exact made_o h
theorem notice_1 (u : mS) (a b : Int32) {j : Nat} (h : j ≠ 3) : (mNoticeX u a b).2.1 j = u.1 j := by
  unfold mNoticeX
  repeat' split
  all_goals first | rfl | exact made_o h
/-- edition -/
theorem step_ed {q : Nat → ClassId} {h0 : Nat} {d : Nat → Nat} {k : Nat → Int32} {z : gS} {f : xF} {u : mS} {w : xU} {r r2 : Int32} {u9 : mS} (h : RR q h0 d k z f u) (hx : edP q h0 d k z f u r w) (hm : (r2, u9) = mEdition u) (h40 : ∀ p, p < 12 → u.2 40 p = 0 ∨ u.2 40 p = 1) : r = r2 ∧ RR q h0 d w.1 w.2.1 w.2.2 u9 := by
  obtain ⟨hI, hrp, hk, hz, es, c, g, hu, hg, hL⟩ := h
  have he := (clE_e hu.1 hu.2.2.2.2.2.1 (uI_fi hu) h40 12 (Nat.le_refl _)).1
  have hu9 := uI_edition hu
  have hed := hu.2.2.2.2.2.2.2.2.2.2
  obtain ⟨e1, e2⟩ := Prod.mk.inj hm
  rw [← eqP (mEdition u)] at hm
  obtain ⟨m1, m2⟩ := Prod.mk.inj hm
  rw [← m2] at hu9
  have hup : mEdition u = if u.1 39 = 7 then (-1, u) else ((mset (endP u 12) 39 ((endP u 12).1 39 + 1)).1 39, mset (endP u 12) 39 ((endP u 12).1 39 + 1)) := rfl
  rcases hx with ⟨x1, x2, x3⟩ | ⟨x1, x2, x3, x4, x5, x6, x7⟩
  · have h7 : u.1 39 = 7 := (ed_7 hed).1.mp (by rw [← hk.2.2.2]; exact x1)
    rw [hup, if_pos h7] at m1 m2
    rw [m1, x2, m2, x3]
    exact ⟨rfl, hI, hrp, hk, hz, es, c, g, hu, hg, hL⟩
  · have h7 : ¬ u.1 39 = 7 := fun q => (ed_7 hed).1.mpr q (by rw [← hk.2.2.2]; exact x1)
    have ep := endP_k u 12
    rw [hup, if_neg h7] at m1 m2
    generalize endP u 12 = v at m1 m2 he ep
    have w1 : ∀ j, j ≠ 39 → u9.1 j = u.1 j := fun j q => by rw [m2]; show (if j = 39 then _ else v.1 j) = _; rw [if_neg q, ep.1]
    have w39 : u9.1 39 = u.1 39 + 1 := by rw [m2]; show (mset v 39 (v.1 39 + 1)).1 39 = _; rw [mset_same, ep.1]
    refine ⟨?_, RR_st hI hz hu hg hL (zE_eq x4) (by rw [x4]; exact x5) ?_ ?_ x7 rfl (fun _ _ => rfl) hu9⟩
    · rw [x2, m1, hk.2.2.2]
      show _ = (mset v 39 (v.1 39 + 1)).1 39
      rw [mset_same, ep.1]
    · rw [x4]
      rw [he] at x6
      exact rep_rows x6 (by rw [w1 3 (by decide), ep.1]) (fun r _ => by rw [m2]; rfl)
    · rw [x3]
      refine ⟨?_, ?_, ?_, ?_⟩
      · rw [w1 3 (by decide)]; exact hk.1
      · rw [w1 28 (by decide)]; exact hk.2.1
      · rw [w1 38 (by decide)]; exact hk.2.2.1
      · rw [w39, ← hk.2.2.2]; rfl
theorem step_dy {q : Nat → ClassId} {h0 : Nat} {d : Nat → Nat} {k : Nat → Int32} {z : gS} {f : xF} {u : mS} {w : xU} {r r2 : Int32} {u9 : mS} (h : RR q h0 d k z f u) (hx : dyP q h0 d k z f u r w) (hm : (r2, u9) = mDay u) (h40 : ∀ p, p < 12 → u.2 40 p = 0 ∨ u.2 40 p = 1) : r = r2 ∧ RR q h0 d w.1 w.2.1 w.2.2 u9 := by
  obtain ⟨hI, hrp, hk, hz, es, c, g, hu, hg, hL⟩ := h
  have he := (clE_e hu.1 hu.2.2.2.2.2.1 (uI_fi hu) h40 12 (Nat.le_refl _)).1
  have hdy := uI_day hu
  have hup : mDay u = if u.1 38 = 399 then (-1, u) else ((dayS (endP u 12) (u.1 3).toNatClampNeg).1 38, dayS (endP u 12) (u.1 3).toNatClampNeg) := rfl
  have m2 : u9 = (mDay u).2 := by rw [← hm]
  have m1 : r2 = (mDay u).1 := by rw [← hm]
  rcases hx with ⟨x1, x2, x3⟩ | ⟨x1, x2, x3, x4, x5, x6, g9, x7⟩
  · have h7 : u.1 38 = 399 := (dy_399 hu.1.2.1).mp (by rw [← hk.2.2.1]; exact x1)
    rw [hup, if_pos h7] at m1 m2
    rw [m1, x2, m2, x3]
    exact ⟨rfl, hI, hrp, hk, hz, es, c, g, hu, hg, hL⟩
  · have h7 : ¬ u.1 38 = 399 := fun q => (dy_399 hu.1.2.1).mpr q (by rw [← hk.2.2.1]; exact x1)
    rcases hdy with ⟨q, -⟩ | ⟨-, d1, d2⟩
    · exact absurd q h7
    · rw [← m2] at d2
      rw [d1] at m2
      have ep := endP_k u 12
      rw [hup, if_neg h7] at m1
      have e3 : (endP u 12).1 3 = u.1 3 := by rw [ep.1]
      generalize endP u 12 = v at m1 m2 he ep e3
      obtain ⟨s1, s2, s3, s4, s5⟩ := dayS_1 v (u.1 3).toNatClampNeg
      refine ⟨?_, by rw [x4]; exact x5, ?_, ?_, by rw [x4]; exact hz, [], fun _ => [], g9, d2, x7, trivial⟩
      · rw [x2, m1, hk.2.2.1]
        show _ = (dayS v (u.1 3).toNatClampNeg).1 38
        rw [s3, ep.1]
      · rw [x4, m2]
        rw [he] at x6
        have z9 := rep_dayS x6
        rw [e3] at z9
        exact z9
      · rw [x3, m2, s5, s1, s3, s4, ep.1]
        refine ⟨hk.1, rfl, ?_, rfl⟩
        rw [← hk.2.2.1]; rfl
