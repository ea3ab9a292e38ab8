theorem s1_ne {x : Int32} (h : bw x 0 300 = true) : ¬ x + 1 = x := fun e => by
  have h1 := bw_iff.mp h
  have h3 : (300 : Int32).toInt = 300 := rfl
  rw [i0, h3] at h1
  have e2 := congrArg Int32.toInt e
  rw [addI (by rw [i1]; omega) (by rw [i1]; omega), i1] at e2
  omega
/-- a call that keeps no act -/
theorem act_no {q : Nat → ClassId} {h0 : Nat} {d : Nat → Nat} {k : Nat → Int32} {z : gS} {f : xF} {u : mS} {w : xU} {R9 : Int32 × mS} {E : hE → Prop} {r : Int32} {u9 : mS} (h : RR q h0 d k z f u) (hx : actP q h0 d k z f R9 E r w) (h28 : R9.2.1 28 = u.1 28) (hrp9 : rep q d u9 w.2.1 w.2.2) (h9 : u9.1 3 = u.1 3 ∧ u9.1 28 = u.1 28 ∧ u9.1 38 = u.1 38 ∧ u9.1 39 = u.1 39) (hu9 : ∀ es c, uI u es c → uI u9 es c) : RR q h0 d w.1 w.2.1 w.2.2 u9 := by
  obtain ⟨hI, hrp, hk, hz, es, c, g, hu, hg, hL⟩ := h
  obtain ⟨x1, x2, x3, x4, x5, x6, x7⟩ := hx
  have hd3 : w.2.2 (d 3) = f (d 3) := by
    rcases x7 with ⟨y, -⟩ | ⟨g2, a, e, y1, y2, y3, -⟩
    · exact y
    · exact absurd (by rw [← y3, x6, h28, hk.2.1]) (s1_ne hI.1.2.1)
  refine RR_st hI hz hu hg hL x1 x2 hrp9 ⟨?_, ?_, ?_, ?_⟩ hd3 rfl (fun _ _ => rfl) (hu9 es c hu)
  · rw [x5 0 (by decide), h9.1]; exact hk.1
  · rw [x6, h28, h9.2.1]
  · rw [x5 2 (by decide), h9.2.2.1]; exact hk.2.2.1
  · rw [x5 3 (by decide), h9.2.2.2]; exact hk.2.2.2
/-- a call that keeps one more act -/
theorem act_ye {q : Nat → ClassId} {h0 : Nat} {d : Nat → Nat} {k : Nat → Int32} {z : gS} {f : xF} {u : mS} {w : xU} {R9 : Int32 × mS} {E : hE → Prop} {r : Int32} {u9 : mS} {e9 : hE} (h : RR q h0 d k z f u) (hx : actP q h0 d k z f R9 E r w) (h28 : R9.2.1 28 = u.1 28 + 1) (hE9 : ∀ e, E e → e = e9) (hrp9 : rep q d u9 w.2.1 w.2.2) (h9 : u9.1 3 = u.1 3 ∧ u9.1 28 = u.1 28 + 1 ∧ u9.1 38 = u.1 38 ∧ u9.1 39 = u.1 39) (hu9 : ∀ es c, uI u es c → ∃ c2, uI u9 (e9 :: es) c2) : RR q h0 d w.1 w.2.1 w.2.2 u9 := by
  obtain ⟨hI, hrp, hk, hz, es, c, g, hu, hg, hL⟩ := h
  obtain ⟨x1, x2, x3, x4, x5, x6, x7⟩ := hx
  obtain ⟨c2, hu2⟩ := hu9 es c hu
  rcases x7 with ⟨y, y2⟩ | ⟨g2, a, e, y1, y2, y3, y4, y5⟩
  · exact absurd (by rw [hk.2.1, ← h28, ← x6, y2, hk.2.1]) (s1_ne hI.1.2.1)
  · have eg : g2 = g := (aR_inj (y1.symm.trans hg)).2
    have ek : (k 1).toNatClampNeg = es.length := by rw [hk.2.1]; exact len28 hu.2.2.1
    rw [hE9 e y5] at y4
    rw [eg, ek] at y2
    refine ⟨x2, hrp9, ⟨?_, ?_, ?_, ?_⟩, hz_E hI x1 hz, e9 :: es, c2, va_up g es.length (some a), hu2, y2, ⟨a, if_pos rfl, y4⟩, acL_m x1 (fun _ _ => rfl) (fun t ht => if_neg (by omega)) (gH_it hu.2.2.2.1) hL⟩
    · rw [x5 0 (by decide), h9.1]; exact hk.1
    · rw [x6, h28, h9.2.1]
    · rw [x5 2 (by decide), h9.2.2.1]; exact hk.2.2.1
    · rw [x5 3 (by decide), h9.2.2.2]; exact hk.2.2.2
theorem acts28 {u : mS} {a b c d e f g : Int32} : (mActs u a b c d e f g).1 28 = u.1 28 + 1 := by rw [mActs_1, if_pos rfl]
theorem acts_o {u : mS} {a b c d e f g : Int32} {j : Nat} (h : j ≠ 28) : (mActs u a b c d e f g).1 j = u.1 j := by rw [mActs_1, if_neg h]
/-- rule -/
theorem step_rule {q : Nat → ClassId} {h0 : Nat} {d : Nat → Nat} {k : Nat → Int32} {z : gS} {f : xF} {u : mS} {w : xU} {p0 p1 p2 r r2 : Int32} {u9 : mS} (h : RR q h0 d k z f u) (hx : actP q h0 d k z f (mRule u p0 p1 p2) (fun e => ∃ P2 X2 Y2, e = (2, 0, (P2, X2, Y2, 1, 1), []) ∧ p0 = nI P2 ∧ p1 = nI X2 ∧ p2 = nI Y2 ∧ P2 < 12 ∧ X2 < 8 ∧ Y2 < 60) r w) (hm : (r2, u9) = mRule u p0 p1 p2) : r = r2 ∧ RR q h0 d w.1 w.2.1 w.2.2 u9 := by
  have e1 : r2 = (mRule u p0 p1 p2).1 := by rw [← hm]
  have e2 : u9 = (mRule u p0 p1 p2).2 := by rw [← hm]
  refine ⟨by rw [e1]; exact hx.2.2.1, ?_⟩
  have hrp9 : rep q d u9 w.2.1 w.2.2 := by rw [e2]; exact hx.2.2.2.1
  by_cases hc : mCell u p0 p1 p2 = true ∧ u.2 2 (480 * p0 + 60 * p1 + p2).toNatClampNeg = (-2) ∧ ¬ u.1 28 = 300
  · have em : mRule u p0 p1 p2 = (1, mActs (mst u 2 (480 * p0 + 60 * p1 + p2) 100) 2 p0 p1 p2 0 0 0) := by
      unfold mRule
      rw [if_pos hc.1, if_pos hc.2.1, if_neg hc.2.2]
    rw [em] at e2 hx
    have e2 : u9 = mActs (mst u 2 (480 * p0 + 60 * p1 + p2) 100) 2 p0 p1 p2 0 0 0 := e2
    obtain ⟨hI, hrp, hk, hz, es0, c0, g0, hu0, -⟩ := id h
    obtain ⟨q1, q2, q3⟩ := mCell_c hc.1
    obtain ⟨P, hP, -, eP⟩ := exN q1 (by decide)
    obtain ⟨X, hX, -, eX⟩ := exN q2 (by decide)
    obtain ⟨Y, hY, eY⟩ := exL hu0.1.2.2.1 hc.1
    have h11 : (11 : Int32).toInt = 11 := rfl
    have h7 : (7 : Int32).toInt = 7 := rfl
    subst eP eX eY
    refine act_ye (e9 := (2, 0, (P, X, Y, 1, 1), [])) h hx acts28 (fun e ⟨P2, X2, Y2, a1, a2, a3, a4, a5, a6, a7⟩ => ?_) hrp9 ?_ (fun es c hu => ⟨c, ?_⟩)
    · rw [a1, (nI_inj (by omega) (by omega)).mp a2, (nI_inj (by omega) (by omega)).mp a3, (nI_inj (by omega) (by omega)).mp a4]
    · rw [e2]
      exact ⟨acts_o (by decide), acts28, acts_o (by decide), acts_o (by decide)⟩
    · rw [e2]
      have hcel := (mC_cel hu.1 (by omega) (by omega) (by omega)).mp hc.1
      exact uI_rule hu hc.2.2 (by omega) hcel.1 hcel.2 (by rw [← ix_c (by omega) (by omega) hY]; exact hc.2.1)
  · have em : (mRule u p0 p1 p2).2 = u := by
      unfold mRule
      by_cases a : mCell u p0 p1 p2 = true
      · rw [if_pos a]
        by_cases b : u.2 2 (480 * p0 + 60 * p1 + p2).toNatClampNeg = (-2)
        · rw [if_pos b]
          by_cases e : u.1 28 = 300
          · rw [if_pos e]
          · exact absurd ⟨a, b, e⟩ hc
        · rw [if_neg b]
      · rw [if_neg a]
    rw [em] at e2
    exact act_no h hx (by rw [em]) hrp9 (by rw [e2]; exact ⟨rfl, rfl, rfl, rfl⟩) (fun es c hu => by rw [e2]; exact hu)
/-- lift -/
theorem step_lift {q : Nat → ClassId} {h0 : Nat} {d : Nat → Nat} {k : Nat → Int32} {z : gS} {f : xF} {u : mS} {w : xU} {p0 r r2 : Int32} {u9 : mS} {P X Y D N : Nat} (h : RR q h0 d k z f u) (hx : actP q h0 d k z f (mLift u p0 P X Y D N) (fun e => e = (1, p0.toNatClampNeg, (P, X, Y, D, N), [])) r w) (hA : lfA u p0 P X Y D N) (hm : (r2, u9) = mLift u p0 P X Y D N) : r = r2 ∧ RR q h0 d w.1 w.2.1 w.2.2 u9 := by
  have e1 : r2 = (mLift u p0 P X Y D N).1 := by rw [← hm]
  have e2 : u9 = (mLift u p0 P X Y D N).2 := by rw [← hm]
  refine ⟨by rw [e1]; exact hx.2.2.1, ?_⟩
  have hrp9 : rep q d u9 w.2.1 w.2.2 := by rw [e2]; exact hx.2.2.2.1
  by_cases hc : bw p0 0 (u.1 3 - 1) = true ∧ ¬ u.2 22 p0.toNatClampNeg = 0 ∧ ¬ u.1 28 = 300
  · obtain ⟨hI, hrp, hk, hz, es0, c0, g0, hu0, -⟩ := id h
    have hn := n80 hu0.1
    obtain ⟨a, ea, ha, -⟩ := itN hu0.1 hc.1
    obtain ⟨hin, f1, f2, f3, f4, f5⟩ := hA hc.1 hc.2.1
    subst ea
    rw [nI_clamp (n := a) (by omega)] at f1 f2 f3 f4 f5 hc hx
    have em : (mLift u (nI a) P X Y D N).2 = mUnstand (mActs u 1 (nI a) (nI P) (nI X) (nI Y) (nI D) (nI N)) (nI a) P X Y D N := by
      unfold mLift
      rw [if_pos hc.1, nI_clamp (n := a) (by omega), if_neg hc.2.1, if_neg hc.2.2]
      dsimp only
      rw [add_sub1, f1, f2, f3, f4, f5]
    have key : ∀ es c, uI u es c → ∃ l, c a = (P, X, Y, D, N) :: l := fun es c hu => by
      have g := uI_g hu
      have ec := g.2.2.2.1 a (by omega)
      cases hl : c a with
      | nil =>
        rw [hl] at ec
        exact absurd ec.1 hc.2.1
      | cons s l =>
        refine ⟨l, ?_⟩
        rw [hl, List.length_cons] at ec
        have h6 := g.2.2.2.2.2 a
        rw [hl, List.length_cons] at h6
        have ks := (g.2.2.1 a s (by rw [hl]; exact List.mem_cons_self)).1
        rw [ec.1, dn_e (by omega), Nat.add_sub_cancel, ix6, nI_clamp (by omega)] at f1 f2 f3 f4 f5
        rw [slE_u (r := s) (s := (P, X, Y, D, N)) ks ⟨hin.1, hin.2.1, hin.2.2.2.1, hin.2.2.1, hin.2.2.2.2.1⟩ ec.2.1 ⟨f1, f2, f3, f4, f5⟩]
    refine act_ye (e9 := (1, a, (P, X, Y, D, N), [])) h hx (by rw [em]; exact acts28) (fun e q => q) hrp9 ?_ (fun es c hu => ?_)
    · rw [e2, em, mUnstand_1]
      exact ⟨acts_o (by decide), acts28, acts_o (by decide), acts_o (by decide)⟩
    · obtain ⟨l, hl⟩ := key es c hu
      rw [e2, em]
      exact ⟨_, uI_lift hu hc.2.2 ha hl⟩
  · have em : (mLift u p0 P X Y D N).2 = u := by
      unfold mLift
      by_cases a : bw p0 0 (u.1 3 - 1) = true
      · rw [if_pos a]
        by_cases b : u.2 22 p0.toNatClampNeg = 0
        · rw [if_pos b]
        · rw [if_neg b]
          by_cases e : u.1 28 = 300
          · rw [if_pos e]
          · exact absurd ⟨a, b, e⟩ hc
      · rw [if_neg a]
    rw [em] at e2
    exact act_no h hx (by rw [em]) hrp9 (by rw [e2]; exact ⟨rfl, rfl, rfl, rfl⟩) (fun es c hu => by rw [e2]; exact hu)
/-- fill -/
theorem step_fill {q : Nat → ClassId} {h0 : Nat} {d : Nat → Nat} {k : Nat → Int32} {z : gS} {f : xF} {u : mS} {w : xU} {p0 r r2 : Int32} {u9 : mS} (h : RR q h0 d k z f u) (hx : flP q h0 d k z f u p0 r w) (hm : flX u p0 r2 u9) : r = r2 ∧ RR q h0 d w.1 w.2.1 w.2.2 u9 := by
  rcases hx with ⟨x1, x2, x3⟩ | ⟨x1, x2, v, xs, x3, x4⟩
  · rcases hm with ⟨-, m2, m3⟩ | ⟨m1, m2, -⟩
    · rw [x2, m2, x3, m3]; exact ⟨rfl, h⟩
    · rcases x1 with q | q
      · exact absurd m1 q
      · exact absurd q m2
  · rcases hm with ⟨m1, -⟩ | ⟨-, -, vc, ys, m3, m4, m5, m6⟩
    · rcases m1 with q | q
      · exact absurd x1 q
      · exact absurd q x2
    · have e := m3.symm.trans x3
      obtain ⟨ev, ex⟩ := Prod.mk.inj e
      subst ev ex
      obtain ⟨hI, hrp, hk, hz, es0, c0, g0, hu0, -⟩ := id h
      obtain ⟨P, hP, -, eP⟩ := exN x1 (by decide)
      have h11 : (11 : Int32).toInt = 11 := rfl
      have hPc : p0.toNatClampNeg = P := by rw [eP, nI_clamp (by omega)]
      rw [hPc] at m3
      obtain ⟨f0, f2, f3, f4⟩ := flN_Q hu0.1 (P := P) (by omega) 8 (Nat.le_refl _)
      rw [m3] at f0 f2 f3 f4
      have ek := fillR_k u ys
      rcases m6 with ⟨y1, y2, y3⟩ | ⟨y1, y2, y3⟩
      · rcases x4 with ⟨-, x5⟩ | ⟨z1, -⟩
        · have ev : rep q d u w.2.1 w.2.2 := by
            rw [y1] at m4
            exact rep_rows x5.2.2.2.1 (congrFun m4.1 3) (fun r hr => m4.2 r (by omega))
          rw [y2, y3]
          have h28 : vc.1 28 = u.1 28 := by rw [← m4.1, ek.1]
          exact ⟨x5.2.2.1, act_no h x5 h28 ev ⟨rfl, rfl, rfl, rfl⟩ (fun _ _ hu => hu)⟩
        · exact absurd y1 z1
      · rcases x4 with ⟨z1, -⟩ | ⟨-, x5⟩
        · exact absurd z1 y1
        · rw [y2, y3]
          have h1 : ∀ j, vc.1 j = u.1 j := fun j => by rw [← m4.1, ek.1]
          have f1 : ∀ j, j ≠ 28 → j ≠ 36 → (mFillE u ys).1 j = u.1 j := fun j j1 j2 => by
            unfold mFillE mset
            dsimp only
            rw [if_neg j2, mActs_1, if_neg j1, ek.1]
          have f28 : (mFillE u ys).1 28 = u.1 28 + 1 := by
            unfold mFillE mset
            dsimp only
            rw [if_neg (by decide), mActs_1, if_pos rfl, ek.1]
          refine ⟨x5.2.2.1, act_ye (e9 := (3, 0, (0, 0, 0, 0, 0), ys)) h x5 (by rw [acts28, h1]) (fun e q => q) ?_ ⟨f1 3 (by decide) (by decide), f28, f1 38 (by decide) (by decide), f1 39 (by decide) (by decide)⟩ (fun es c hu => ⟨_, uI_fill hu x2 m5 f3 f4⟩)⟩
          refine rep_rows x5.2.2.2.1 ?_ (fun r hr => ?_)
          · rw [f1 3 (by decide) (by decide), acts_o (by decide), h1]
          · unfold mFillE
            rw [mset_2, mActs_k _ _ _ _ _ _ _ _ (by omega), mActs_k _ _ _ _ _ _ _ _ (by omega)]
            exact m4.2 r (by omega)
