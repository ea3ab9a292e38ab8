theorem nlt_le {a b : Int32} : ¬ a < b ↔ b ≤ a := by
  rw [i32_lt, i32_le]; omega
theorem canT_n {a n p2 co : Int32} {gw : Nat → Int32} {u : mS} {i : Nat} (ha : -1000 ≤ a.toInt ∧ a.toInt ≤ 1000) (hn : -1000 ≤ n.toInt ∧ n.toInt ≤ 1000) (hc : 0 ≤ co.toInt ∧ co.toInt ≤ 80) (hg : eqR 80 gw (u.2 16) (80 * i)) : s_canT a n p2 co gw ↔ 0 ≤ a.toInt ∧ 1 ≤ n.toInt ∧ a.toInt + n.toInt ≤ co.toInt ∧ ∀ j : Nat, (j : Int) < n.toInt → u.2 16 (80 * i + (a.toInt.toNat + j)) ≤ p2 := by
  unfold s_canT
  rw [i32_lt, i32_lt, i32_le, i0, i1, subI (by omega) (by omega)]
  have e2 : ∀ j : Nat, j < 1000 → 0 ≤ a.toInt → (a + nI j).toNatClampNeg = a.toInt.toNat + j := fun j hj h0 => by
    show (a + nI j).toInt.toNat = _
    rw [addI (by rw [nI_toInt (by omega)]; omega) (by rw [nI_toInt (by omega)]; omega), nI_toInt (by omega)]
    omega
  have en : n.toNatClampNeg = n.toInt.toNat := rfl
  rw [en]
  constructor
  · rintro ⟨h1, h2, h3, h4⟩
    refine ⟨by omega, by omega, by omega, fun j hj => ?_⟩
    have q := h4 j (by omega)
    rw [e2 j (by omega) (by omega), hg _ (by omega)] at q
    exact q
  · rintro ⟨h1, h2, h3, h4⟩
    refine ⟨by omega, by omega, by omega, fun j hj => ?_⟩
    rw [e2 j (by omega) (by omega), hg _ (by omega)]
    exact h4 j (by omega)
theorem rX_n {A M co p2 : Int32} {u : mS} {i : Nat} (hi : i < 80) (hA : 0 ≤ A.toInt ∧ A.toInt ≤ 400) (hM : 1 ≤ M.toInt ∧ M.toInt ≤ 60) : (¬ co < A + M ∧ ∀ t, t < M.toNatClampNeg → ¬ p2 < u.2 16 (80 * nI i + nI (A.toNatClampNeg + t)).toNatClampNeg) ↔ A.toInt + M.toInt ≤ co.toInt ∧ ∀ j : Nat, (j : Int) < M.toInt → u.2 16 (80 * i + (A.toInt.toNat + j)) ≤ p2 := by
  have eA : A.toNatClampNeg = A.toInt.toNat := rfl
  have eM : M.toNatClampNeg = M.toInt.toNat := rfl
  rw [eA, eM, i32_lt, addI (by omega) (by omega)]
  have ei : ∀ t : Nat, t < 60 → (80 * nI i + nI (A.toInt.toNat + t)).toNatClampNeg = 80 * i + (A.toInt.toNat + t) := fun t ht => by
    rw [show (80 : Int32) = nI 80 from rfl, pk_mul, nI_add, nI_clamp (by omega)]
  constructor
  · rintro ⟨h1, h2⟩
    refine ⟨by omega, fun j hj => ?_⟩
    have q := h2 j (by omega)
    rw [ei j (by omega), nlt_le] at q
    exact q
  · rintro ⟨h1, h2⟩
    refine ⟨by omega, fun t ht => ?_⟩
    rw [ei t (by omega), nlt_le]
    exact h2 t (by omega)
theorem dfP_c (a b : Nat) : dfP a b = dfP b a := by
  unfold dfP
  by_cases e : a = b
  · rw [if_pos e, if_pos e.symm]
  · rw [if_neg e, if_neg (fun h => e h.symm)]
theorem bP_iff {P : Prop} : ¬ bP P = 0 ↔ P := ⟨fun h => bP_nz rfl h, fun h => by rw [bP_t h]; decide⟩
/-- behind, in the reference's words -/
theorem bh_iff {P X Y D N P2 X2 Y2 D2 N2 : Int32} : ¬ s_isBehind P X Y D N P2 X2 Y2 D2 N2 = 0 ↔ P2 < P ∨ (P = P2 ∧ (X2 < X ∨ (X = X2 ∧ ¬ Y < Y2 + N2))) := by
  unfold s_isBehind
  by_cases e : P = P2
  · rw [if_pos e]
    have hn : ¬ P2 < P := by rw [e, i32_lt]; omega
    by_cases a : X2 < X
    · rw [if_pos a]; exact ⟨fun _ => Or.inr ⟨e, Or.inl a⟩, fun _ => by decide⟩
    · rw [if_neg a]
      by_cases b : X = X2
      · rw [if_pos b]
        by_cases d : Y < Y2 + N2
        · rw [if_pos d]
          exact ⟨fun q => absurd rfl q, fun q => absurd q (by rintro (q | ⟨_, q | ⟨_, q⟩⟩); exact hn q; exact a q; exact q d)⟩
        · rw [if_neg d]; exact ⟨fun _ => Or.inr ⟨e, Or.inr ⟨b, d⟩⟩, fun _ => by decide⟩
      · rw [if_neg b]
        exact ⟨fun q => absurd rfl q, fun q => absurd q (by rintro (q | ⟨_, q | ⟨q, _⟩⟩); exact hn q; exact a q; exact b q)⟩
  · rw [if_neg e]
    by_cases a : P ≤ P2
    · rw [if_pos a]
      exact ⟨fun q => absurd rfl q, fun q => absurd q (by rintro (q | ⟨q, _⟩); rw [← nlt_le] at a; exact a q; exact e q)⟩
    · rw [if_neg a]
      exact ⟨fun _ => Or.inl (by rw [← nlt_le] at a; exact Classical.byContradiction a), fun _ => by decide⟩
set_option maxHeartbeats 2000000 in
/-- a story's piece: the class lets it sit where the reference lets it run -/
theorem sit_run {u : mS} {c : cfg} {n i P X Y N : Nat} {kd : Nat → Int32} (r0 : rI u) (hM : cM u c) (hok : cOK n kd c) (hi : i < 80) (hl : (c i).length ≤ 5) (hP : P < 12) (hX : X + 1 ≤ 8) (hY : Y + N ≤ 60) (hN : 1 ≤ N) {gw : Nat → Int32} (hg : eqR 80 gw (u.2 16) (80 * i)) : ¬ s_sitS (nI P) (nI X) (nI Y) 1 (nI N) (u.2 1 P) (u.2 22 i) (u.2 15 i) (pR u i) gw = 0 ↔ runX u (nI i) P X Y N := by
  have hr : rOK (P, X, Y, 1, N) := ⟨hP, hX, hY, Nat.le_refl 1, hN⟩
  have hr2 := (hok i).2.2.1
  have hlg := (hok i).2.2.2.1
  have hw := cM_stand hi hl (fun b => (hok b).2.1) hM P X Y 1 N
  obtain ⟨w22, wsl⟩ := hw i hi
  rw [cPush_a] at w22 wsl
  rw [List.length_cons] at w22
  have e22 := (hM i hi).1
  have hT := mTk0 hi hl hr hr2 wsl w22
  have w15 : (mStand u (nI i) P X Y 1 N).2 15 = u.2 15 := mStand_k2 _ _ _ _ _ _ _ (by decide) (by decide)
  have w1 : (mStand u (nI i) P X Y 1 N).2 1 = u.2 1 := mStand_k2 _ _ _ _ _ _ _ (by decide) (by decide)
  have w16 : (mStand u (nI i) P X Y 1 N).2 16 = u.2 16 := mStand_k2 _ _ _ _ _ _ _ (by decide) (by decide)
  have hco := bw_iff.mp (r0.2.2.2.2.1 i hi)
  have h80 : (80 : Int32).toInt = 80 := rfl
  rw [i0, h80] at hco
  have hFr : (mFrom (mStand u (nI i) P X Y 1 N) (nI i) (c i).length).toInt = frL (some P) (c i) := mFr hi (n := (c i).length + 1) (by omega) w22 (c i) P hr2 wsl.2 (by omega) hP wsl.1.1
  have h6 : ¬ u.2 22 i = 6 := fun q => by
    have q2 := congrArg Int32.toInt (e22.symm.trans q)
    rw [nI_toInt (by omega)] at q2
    have h6 : (6 : Int32).toInt = 6 := rfl
    omega
  generalize hw9 : mStand u (nI i) P X Y 1 N = w at *
  unfold runX bhR rX runG
  rw [hw9, nI_clamp (n := i) (by omega), nI_clamp (n := P) (by omega), w15, w1, w16, e22, nI_clamp (n := (c i).length) (by omega)]
  have hTb := tkL_b hr none (c i)
  cases hL : c i with
  | nil =>
    rw [hL] at hT hFr
    have hT : (mTakes w (nI i) (nI 0)).toInt = (N : Int) - 0 - 0 := hT
    have hF : (mFrom w (nI i) 0).toInt = 0 := hFr
    show ¬ s_sitS (nI P) (nI X) (nI Y) 1 (nI N) (u.2 1 P) (nI 0) (u.2 15 i) (pR u i) gw = 0 ↔ ¬ nI 0 = 6 ∧ (nI 0 ≤ 0 ∨ bhK u P X Y (6 * nI i + nI 0 - 1)) ∧ (¬ mTakes w (nI i) (nI 0) < 1 ∧ (nI 0 = 0 ∨ ¬ mTakes w (nI i) (nI 0 - 1) < 1)) ∧ ¬ u.2 15 i < mFrom w (nI i) 0 + mTakes w (nI i) (nI 0) ∧ ∀ t, t < (mTakes w (nI i) (nI 0)).toNatClampNeg → ¬ u.2 1 P < u.2 16 (80 * nI i + nI ((mFrom w (nI i) 0).toNatClampNeg + t)).toNatClampNeg
    unfold s_sitS
    rw [if_pos (by decide), bP_iff, canT_n (by decide) (by rw [nI_toInt (by omega)]; omega) hco hg, nI_toInt (by omega), i0, rX_n hi (by omega) (by omega), hF, hT]
    constructor
    · rintro ⟨-, q1, q2, q3⟩
      exact ⟨by decide, Or.inl (by decide), ⟨by rw [i32_lt, hT, i1]; omega, Or.inl rfl⟩, by omega, fun j hj => q3 j (by omega)⟩
    · rintro ⟨-, -, -, q1, q2⟩
      exact ⟨by decide, by omega, by omega, fun j hj => q2 j (by omega)⟩
  | cons q l =>
    rw [hL] at hT hFr hl hr2 hlg e22 wsl hTb w22
    rw [List.length_cons] at hl e22 w22 hT hFr
    have hq := hr2 q List.mem_cons_self
    have hq2 : ∀ x ∈ l, rOK x := fun x hx => hr2 x (List.mem_cons_of_mem _ hx)
    have usl := (hM i hi).2
    rw [hL] at usl
    have hT1 : (mTakes w (nI i) (nI l.length)).toInt = tkL (some P) q l := mTk1 hi (by omega) hq hq2 wsl.2 (n := l.length + 1 + 1) (by omega) w22 (by omega) hP wsl.1.1
    have uT : (mTakes u (nI i) (nI l.length)).toInt = tkL none q l := mTk0 hi (by omega) hq hq2 usl e22
    have uF : (mFrom u (nI i) l.length).toInt = frL (some q.1) l := mFr hi (n := l.length + 1) (by omega) e22 l q.1 hq2 usl.2 (by omega) hq.1 usl.1.1
    have b1 := tkL_b hq none l
    have b2 := frL_w l (some q.1) hq2
    have b3 := tkL_b hq (some P) l
    have p1 := frL_p l (some q.1) hlg.2
    -- the class's numbers
    have hcb : bw (u.2 22 i) 0 6 = true := by rw [e22]; exact bwN (by have h7 : (6 : Int32).toInt = 6 := rfl; rw [h7]; omega) (by omega)
    have hcn : u.2 22 i - 1 = nI l.length := by rw [e22, dn_e (by omega)]; rfl
    have hst : s_taken (u.2 22 i - 1) (u.2 22 i) (pR u i) = mTakes u (nI i) (nI l.length) := by
      rw [hcn]
      exact s_taken_m hi (by omega) (by rw [hcn]; exact bwN (by rw [nI_toInt (by omega)]; omega) (by omega))
    have hsd : (s_standing (u.2 22 i) (pR u i)).toInt = tkL none q l + frL (some q.1) l := by
      rw [s_standing_m hi hcb]
      unfold mStanding
      rw [nI_clamp (n := i) (by omega), e22, nI_clamp (by omega)]
      show (mFrom u (nI i) l.length + mTakes u (nI i) (nI l.length)).toInt = _
      rw [addI (by omega) (by omega), uF, uT]; omega
    rw [e22] at hst hcn hsd
    have eFr : frL (some P) (q :: l) = tkL (some P) q l + frL (some q.1) l := rfl
    have eT1 : tkL (some P) q l = tkL none q l - dfP P q.1 := by
      show (q.2.2.2.2 : Int) - pvT q l - dfP P q.1 = (q.2.2.2.2 : Int) - pvT q l - 0 - dfP P q.1
      omega
    have eT0 : tkL none (P, X, Y, 1, N) (q :: l) = (N : Int) - dfP q.1 P - 0 := rfl
    rw [eFr] at hFr
    rw [eT0] at hT
    have r0' : pR u i l.length 0 = nI q.1 := usl.1.1
    have r1' : pR u i l.length 1 = nI q.2.1 := usl.1.2.1
    have r2' : pR u i l.length 2 = nI q.2.2.1 := usl.1.2.2.1
    have r3' : pR u i l.length 3 = nI q.2.2.2.1 := usl.1.2.2.2.1
    have r4' : pR u i l.length 4 = nI q.2.2.2.2 := usl.1.2.2.2.2
    have hbk : bhK u P X Y (6 * nI i + nI (l.length + 1) - 1) ↔ ¬ s_isBehind (nI P) (nI X) (nI Y) 1 (nI N) (nI q.1) (nI q.2.1) (nI q.2.2.1) (nI q.2.2.2.1) (nI q.2.2.2.2) = 0 := by
      rw [bh_iff, add_sub1, dn_e (by omega), Nat.add_sub_cancel]
      unfold bhK
      rw [ix6, nI_clamp (by omega), usl.1.1, usl.1.2.1, usl.1.2.2.1, usl.1.2.2.2.2]
    rw [List.length_cons]
    unfold s_sitS
    rw [if_neg (by rw [i32_le, nI_toInt (by omega), i0]; omega), hst, hcn, nI_clamp (n := l.length) (by omega), r0', r1', r2', r3', r4']
    have h60 : ¬ nI (l.length + 1) = 6 := fun z => by rw [e22] at h6; exact h6 z
    have hz0 : ¬ nI (l.length + 1) ≤ 0 := by rw [i32_le, nI_toInt (by omega), i0]; omega
    have hz1 : ¬ nI (l.length + 1) = 0 := fun z => hz0 (by rw [z]; decide)
    have n1 : (nI N).toInt = (N : Int) := nI_toInt (by omega)
    have hN6 : N ≤ 60 := by omega
    have hle := hl
    have b4 : -300 ≤ frL (some q.1) l ∧ frL (some q.1) l ≤ 300 := by omega
    by_cases e : P = q.1
    · have ed : dfP q.1 P = 0 := by unfold dfP; exact if_pos e.symm
      have ed2 : dfP P q.1 = 0 := by unfold dfP; exact if_pos e
      rw [if_pos (by rw [e])]
      rw [ed] at hT
      rw [ed2] at eT1
      have s1 : (s_standing (nI (l.length + 1)) (pR u i) - 0).toInt = tkL none q l + frL (some q.1) l := by rw [subI (by rw [i0]; omega) (by rw [i0]; omega), i0, hsd]; omega
      have s2 : (nI N - 0).toInt = (N : Int) := by rw [subI (by rw [i0]; omega) (by rw [i0]; omega), i0, n1]; omega
      have s3 : (mTakes u (nI i) (nI l.length) - 0).toInt = tkL none q l := by rw [subI (by rw [i0]; omega) (by rw [i0]; omega), i0, uT]; omega
      constructor
      · intro z
        by_cases c1 : s_isBehind (nI P) (nI X) (nI Y) 1 (nI N) (nI q.1) (nI q.2.1) (nI q.2.2.1) (nI q.2.2.2.1) (nI q.2.2.2.2) = 0
        · rw [if_pos c1] at z; exact absurd rfl z
        · rw [if_neg c1] at z
          by_cases c2 : 1 ≤ mTakes u (nI i) (nI l.length) - 0
          · rw [if_pos c2, bP_iff, canT_n (by omega) (by omega) hco hg, s1, s2] at z
            rw [i32_le, s3, i1] at c2
            refine ⟨h60, Or.inr (hbk.mpr c1), ⟨by rw [i32_lt, hT, i1]; omega, Or.inr (by rw [i32_lt, hT1, i1]; omega)⟩, ?_⟩
            rw [rX_n hi (by omega) (by omega), hFr, hT, eT1]
            refine ⟨by omega, fun j hj => ?_⟩
            have z4 := z.2.2.2 j (by omega)
            rw [show tkL none q l - 0 + frL (some q.1) l = tkL none q l + frL (some q.1) l by omega]
            exact z4
          · rw [if_neg c2] at z; exact absurd rfl z
      · rintro ⟨-, z1, ⟨z2, z3⟩, z4⟩
        have c1 := hbk.mp (z1.resolve_left hz0)
        have z3 := z3.resolve_left hz1
        rw [i32_lt, hT1, i1] at z3
        rw [i32_lt, hT, i1] at z2
        rw [rX_n hi (by omega) (by omega), hFr, hT, eT1] at z4
        rw [if_neg c1, if_pos (by rw [i32_le, s3, i1]; omega), bP_iff, canT_n (by omega) (by omega) hco hg, s1, s2]
        refine ⟨by omega, by omega, by omega, fun j hj => ?_⟩
        have z5 := z4.2 j (by omega)
        rw [show tkL none q l - 0 + frL (some q.1) l = tkL none q l + frL (some q.1) l by omega] at z5
        exact z5
    · have ed : dfP q.1 P = 1 := by unfold dfP; exact if_neg (fun h => e h.symm)
      have ed2 : dfP P q.1 = 1 := by unfold dfP; exact if_neg e
      rw [if_neg (fun h => e ((nI_inj (by omega) (by have := hq.1; omega)).mp h))]
      rw [ed] at hT
      rw [ed2] at eT1
      have s1 : (s_standing (nI (l.length + 1)) (pR u i) - 1).toInt = tkL none q l + frL (some q.1) l - 1 := by rw [subI (by rw [i1]; omega) (by rw [i1]; omega), i1, hsd]
      have s2 : (nI N - 1).toInt = (N : Int) - 1 := by rw [subI (by rw [i1]; omega) (by rw [i1]; omega), i1, n1]
      have s3 : (mTakes u (nI i) (nI l.length) - 1).toInt = tkL none q l - 1 := by rw [subI (by rw [i1]; omega) (by rw [i1]; omega), i1, uT]
      constructor
      · intro z
        by_cases c1 : s_isBehind (nI P) (nI X) (nI Y) 1 (nI N) (nI q.1) (nI q.2.1) (nI q.2.2.1) (nI q.2.2.2.1) (nI q.2.2.2.2) = 0
        · rw [if_pos c1] at z; exact absurd rfl z
        · rw [if_neg c1] at z
          by_cases c2 : 1 ≤ mTakes u (nI i) (nI l.length) - 1
          · rw [if_pos c2, bP_iff, canT_n (by omega) (by omega) hco hg, s1, s2] at z
            rw [i32_le, s3, i1] at c2
            refine ⟨h60, Or.inr (hbk.mpr c1), ⟨by rw [i32_lt, hT, i1]; omega, Or.inr (by rw [i32_lt, hT1, i1]; omega)⟩, ?_⟩
            rw [rX_n hi (by omega) (by omega), hFr, hT, eT1]
            refine ⟨by omega, fun j hj => ?_⟩
            have z4 := z.2.2.2 j (by omega)
            rw [show tkL none q l - 1 + frL (some q.1) l = tkL none q l + frL (some q.1) l - 1 by omega]
            exact z4
          · rw [if_neg c2] at z; exact absurd rfl z
      · rintro ⟨-, z1, ⟨z2, z3⟩, z4⟩
        have c1 := hbk.mp (z1.resolve_left hz0)
        have z3 := z3.resolve_left hz1
        rw [i32_lt, hT1, i1] at z3
        rw [i32_lt, hT, i1] at z2
        rw [rX_n hi (by omega) (by omega), hFr, hT, eT1] at z4
        rw [if_neg c1, if_pos (by rw [i32_le, s3, i1]; omega), bP_iff, canT_n (by omega) (by omega) hco hg, s1, s2]
        refine ⟨by omega, by omega, by omega, fun j hj => ?_⟩
        have z5 := z4.2 j (by omega)
        rw [show tkL none q l - 1 + frL (some q.1) l = tkL none q l + frL (some q.1) l - 1 by omega] at z5
        exact z5
