theorem free_G {u : mS} {P X Y D N : Nat} (r : rI u) (hP : P < 12) (hX : X + D ≤ 8) (hY : Y + N ≤ 60) (h : mFreeP u (nI P) (nI X) (nI Y) (nI D) (nI N)) : (∀ j, inR (P, X, Y, D, N) j → u.2 2 j = (-2)) ∧ (1 ≤ D → 1 ≤ N → rIn u P X Y D N) := by
  obtain ⟨h1, h2, h3, h4⟩ := h
  rw [nI_clamp (n := D) (by omega), nI_clamp (n := N) (by omega)] at h4
  have cl : ∀ a, a < D → ∀ b, b < N → cel u P (X + a) (Y + b) ∧ u.2 2 (480 * P + 60 * (X + a) + (Y + b)) = (-2) := fun a ha b hb => by
    have z := h4 a ha b hb
    unfold frB at z
    obtain ⟨z1, z2⟩ := band z
    rw [nI_add, nI_add] at z1
    rw [nI_add, nI_add, ix_c hP (by omega) (by omega)] at z2
    exact ⟨(mC_cel r hP (by omega) (by omega)).mp z1, of_decide_eq_true z2⟩
  refine ⟨fun j ⟨a, b, ha, hb, e⟩ => ?_, fun hD hN => ⟨hP, hX, hD, hY, hN, fun a ha => ?_⟩⟩
  · rw [e]; exact (cl a ha b hb).2
  · have z := (cl a ha (N - 1) (by omega)).1.2
    omega
/-- what the class's maySit answers is what the reference asks -/
theorem stV_sit {u : mS} {es : List hE} {c : cfg} {i : Nat} {p1 p2 p3 p4 v : Int32} (h : uI u es c) (hi : i < (u.1 3).toNatClampNeg) (hk : 0 ≤ u.2 4 i ∧ u.2 4 i ≤ 5) (hrm : rmP u i) (hf : mFreeP u p1 p2 p3 (cpW u i p4) (cpH u i p4)) (hs : stV u i p1 p2 p3 (cpW u i p4) (cpH u i p4) v) : ¬ v = 0 ↔ sitP u i p1 p2 p3 (cpH u i p4) := by
  have hn := n80 h.1
  have g := uI_g h
  obtain ⟨s0, s3, s5, s1⟩ := hs
  have h6 := g.2.2.2.2.2 i
  have ec := cnt_e g (i := i) (by omega)
  unfold sitP
  have hkk : u.2 4 i = 0 ∨ u.2 4 i = 3 ∨ u.2 4 i = 5 ∨ (u.2 4 i = 1 ∨ u.2 4 i = 2 ∨ u.2 4 i = 4) := by
    have a := hk.1
    have b := hk.2
    rw [i32_le] at a b
    have e5 : (5 : Int32).toInt = 5 := rfl
    rw [i0] at a
    rw [e5] at b
    rcases (by omega : (u.2 4 i).toInt = 0 ∨ (u.2 4 i).toInt = 1 ∨ (u.2 4 i).toInt = 2 ∨ (u.2 4 i).toInt = 3 ∨ (u.2 4 i).toInt = 4 ∨ (u.2 4 i).toInt = 5) with z | z | z | z | z | z
    · exact Or.inl (Int32.toInt_inj.mp z)
    · exact Or.inr (Or.inr (Or.inr (Or.inl (Int32.toInt_inj.mp z))))
    · exact Or.inr (Or.inr (Or.inr (Or.inr (Or.inl (Int32.toInt_inj.mp z)))))
    · exact Or.inr (Or.inl (Int32.toInt_inj.mp z))
    · exact Or.inr (Or.inr (Or.inr (Or.inr (Or.inr (Int32.toInt_inj.mp z)))))
    · exact Or.inr (Or.inr (Or.inl (Int32.toInt_inj.mp z)))
  rcases hkk with k0 | k0 | k0 | k0
  · obtain ⟨gw, hg, hv⟩ := s0 k0
    rw [cpW_0 (Or.inl k0)] at hf hv
    obtain ⟨P, X, Y, D, N, eP, eX, eY, eD, eN, hP, hX, hY, hD, hN⟩ := free_rect h.1.2.2.1 hf
    have hl : (c i).length ≤ 5 := by
      unfold rmP at hrm
      rw [if_pos k0, ec] at hrm
      omega
    have eD : D = 1 := ((nI_inj (by omega) (by omega)).mp (show nI 1 = nI D from eD)).symm
    rw [eN] at hv
    rw [hv, eP, eX, eY, eN, nI_clamp (n := P) (by omega), nI_clamp (n := X) (by omega), nI_clamp (n := Y) (by omega), nI_clamp (n := N) (by omega)]
    have key := sit_run (X := X) h.1 h.2.2.1.2.2.2.2.2 (uI_ok h) (by omega) hl hP (by omega) hY hN hg
    rw [key]
    exact ⟨fun z => ⟨fun _ => z, fun q => absurd (k0.symm.trans q) (by decide), fun q => absurd (k0.symm.trans q) (by decide)⟩, fun z => z.1 k0⟩
  · rw [s3 k0]
    unfold s_sitP s_startsWith
    constructor
    · intro z
      refine ⟨fun q => absurd (k0.symm.trans q) (by decide), fun _ => ?_, fun q => absurd (k0.symm.trans q) (by decide)⟩
      by_cases a : p1 = u.2 11 i
      · rw [if_pos a] at z
        by_cases b : p2 = u.2 12 i
        · rw [if_pos b] at z
          by_cases e : p3 = u.2 13 i
          · exact ⟨a, b, e⟩
          · rw [if_neg e] at z; exact absurd rfl z
        · rw [if_neg b] at z; exact absurd rfl z
      · rw [if_neg a] at z; exact absurd rfl z
    · rintro ⟨-, z, -⟩
      obtain ⟨a, b, e⟩ := z k0
      rw [if_pos a, if_pos b, if_pos e]; decide
  · obtain ⟨o, g5, gm, ho, e9, hg5, hgm, hv⟩ := s5 k0
    rw [hv, sit_mend h.1 h.2.2.2.2.2.2.2.2.1 (by omega) ho e9 hg5 hgm]
    exact ⟨fun z => ⟨fun q => absurd (k0.symm.trans q) (by decide), fun q => absurd (k0.symm.trans q) (by decide), fun _ => z⟩, fun z => z.2.2 k0⟩
  · rw [s1 k0]
    refine ⟨fun _ => ⟨fun q => ?_, fun q => ?_, fun q => ?_⟩, fun _ => by decide⟩
    · rcases k0 with e | e | e <;> exact absurd (e.symm.trans q) (by decide)
    · rcases k0 with e | e | e <;> exact absurd (e.symm.trans q) (by decide)
    · rcases k0 with e | e | e <;> exact absurd (e.symm.trans q) (by decide)
theorem bhd_all {l : List fR} {r q : fR} (h : bhd r q) (hp : List.Pairwise bhd (q :: l)) : ∀ s, s ∈ q :: l → bhd r s := fun s hs => by
  rcases List.mem_cons.mp hs with e | e
  · rw [e]; exact h
  · exact bhd_tr h ((List.pairwise_cons.mp hp).1 s e)
/-- what a put that is let leaves of the invariant -/
theorem put_uI {u : mS} {es : List hE} {c : cfg} {i P X Y D N : Nat} {p4 : Int32} (h : uI u es c) (hi : i < (u.1 3).toNatClampNeg) (h3 : ¬ u.1 28 = 300) (hrm : rmP u i) (hP : P < 12) (hX : X + D ≤ 8) (hY : Y + N ≤ 60) (hD : 1 ≤ D) (hN : 1 ≤ N) (hf : mFreeP u (nI P) (nI X) (nI Y) (nI D) (nI N)) (eW : cpW u i p4 = nI D) (eH : cpH u i p4 = nI N) (hs : sitP u i (nI P) (nI X) (nI Y) (nI N)) : uI (mActs (mStand u (nI i) P X Y D N) 0 (nI i) 0 0 0 0 0) ((0, i, (P, X, Y, D, N), []) :: es) (cPush c i (P, X, Y, D, N)) := by
  have hn := n80 h.1
  have g := uI_g h
  have hok := uI_ok h
  obtain ⟨hG, hin⟩ := free_G h.1 hP hX hY hf
  have ec := cnt_e g (i := i) (by omega)
  have h6 := g.2.2.2.2.2 i
  have hr : rOK (P, X, Y, D, N) := ⟨hP, hX, hY, hD, hN⟩
  by_cases k0 : u.2 4 i = 0
  · have hl : (c i).length ≤ 5 := by
      unfold rmP at hrm
      rw [if_pos k0, ec] at hrm
      omega
    rw [cpW_0 (Or.inl k0)] at eW
    have eD : D = 1 := ((nI_inj (by omega) (by omega)).mp (show nI 1 = nI D from eW)).symm
    subst eD
    have hrun := hs.1 k0
    rw [nI_clamp (n := P) (by omega), nI_clamp (n := X) (by omega), nI_clamp (n := Y) (by omega), nI_clamp (n := N) (by omega)] at hrun
    obtain ⟨r1, r2, r3, -, -⟩ := hrun
    have e22 := (g.2.2.2.1 i (by omega)).1
    have usl := (g.2.2.2.1 i (by omega)).2
    rw [nI_clamp (n := i) (by omega), e22] at r3
    have hw := cM_stand (a := i) (by omega) hl (fun b => (hok b).2.1) h.2.2.1.2.2.2.2.2 P X Y 1 N
    obtain ⟨w22, wsl⟩ := hw i (by omega)
    rw [cPush_a] at w22 wsl
    rw [List.length_cons] at w22
    have hlg := runG_l (by omega) hl hr (hok i).2.2.1 wsl w22 (hok i).2.2.2.1 r3
    refine uI_put h h3 hi (hin hD hN) hG hl hlg (fun q => absurd k0 q) (fun _ => ⟨rfl, ?_⟩) (fun q => absurd (k0.symm.trans q) (by decide))
    have hpw := ((gH_cX h.2.2.2.1) i hi).2.2.1 k0
    cases hL : c i with
    | nil => intro s hs; exact absurd hs List.not_mem_nil
    | cons q l =>
      rw [hL] at hpw usl e22 hl h6
      rw [List.length_cons] at e22 hl h6
      refine bhd_all ?_ hpw.2
      have kq := (g.2.2.1 i q (by rw [hL]; exact List.mem_cons_self)).1
      unfold bhR at r2
      rw [nI_clamp (n := i) (by omega), e22] at r2
      rcases r2 with z | z
      · rw [i32_le, nI_toInt (by omega), i0] at z; omega
      · unfold bhK at z
        obtain ⟨m1, m2, m3, m4, m5⟩ := kq
        rw [add_sub1, dn_e (by omega), Nat.add_sub_cancel, ix6, nI_clamp (by omega), usl.1.1, usl.1.2.1, usl.1.2.2.1, usl.1.2.2.2.2, nI_add, i32_lt, i32_lt, i32_lt, nI_inj (a := P) (b := q.1) (by omega) (by omega), nI_inj (a := X) (b := q.2.1) (by omega) (by omega), nI_toInt (n := P) (by omega), nI_toInt (n := q.1) (by omega), nI_toInt (n := X) (by omega), nI_toInt (n := q.2.1) (by omega), nI_toInt (n := Y) (by omega), nI_toInt (n := q.2.2.1 + q.2.2.2.2) (by omega)] at z
        unfold bhd
        show q.1 < P ∨ (q.1 = P ∧ (q.2.1 < X ∨ (q.2.1 = X ∧ q.2.2.1 + q.2.2.2.2 ≤ Y)))
        omega
  · have hl : c i = [] := by
      unfold rmP at hrm
      rw [if_neg k0, ec] at hrm
      exact List.length_eq_zero_iff.mp (by omega)
    refine uI_put h h3 hi (hin hD hN) hG (by rw [hl]; exact Nat.zero_le _) (by rw [hl]; exact lg_one hr) (fun _ => hl) (fun q => absurd q k0) (fun k3 => ?_)
    exact ((hs.2.1 k3).1).symm
/-- put -/
theorem step_put {q : Nat → ClassId} {h0 : Nat} {d : Nat → Nat} {k : Nat → Int32} {z : gS} {f : xF} {u : mS} {w : xU} {p0 p1 p2 p3 p4 r r2 W H : Int32} {u9 : mS} {ok : Prop} (h : RR q h0 d k z f u) (hx : putP q h0 d k z f u p0 p1 p2 p3 p4 r w) (hok0 : ok → bw p0 0 (u.1 3 - 1) = true) (hok : ∀ i, p0 = nI i → i < (u.1 3).toNatClampNeg → (ok ↔ okU u i p1 p2 p3 p4)) (hWH : ∀ i, p0 = nI i → i < (u.1 3).toNatClampNeg → ok → W = cpW u i p4 ∧ H = cpH u i p4) (hm : rPut u p0 p1 p2 p3 W H ok r2 u9) : r = r2 ∧ RR q h0 d w.1 w.2.1 w.2.2 u9 := by
  obtain ⟨hI, hrp, hk, hz, es0, c0, g0, hu0, -⟩ := id h
  have hn := n80 hu0.1
  rcases hx with ⟨hno, hx⟩ | ⟨i, P, X, Y, D, N, hye, hx⟩
  · have nok : ¬ ok := fun o => by
      obtain ⟨i, ei, hi, -⟩ := itN hu0.1 (hok0 o)
      obtain ⟨o1, o2, o3, o4⟩ := (hok i ei hi).mp o
      rcases hno with z | z | z | ⟨j, ej, hj, z⟩
      · exact z (hok0 o)
      · exact z (mCell_c o3.1).1
      · exact o1 z
      · have eij : j = i := (nI_inj (by omega) (by omega)).mp (ej.symm.trans ei)
        subst eij
        rcases z with z | z | z
        · exact z o2
        · exact z o3
        · have hk5 := (hrp.2.2.1.2 j hj).2.2.2.1
          exact (stV_sit hu0 hj hk5 o2 o3 z).mpr o4 rfl
    rcases hm with ⟨m1, -, m3⟩ | ⟨m1, -⟩
    · refine ⟨by rw [m1]; exact hx.2.2.1, ?_⟩
      rcases m3 with e | ⟨b1, P, X, Y, N, e1, e2, e3, hP, hX, hY, hN, hf, h6, e⟩
      · rw [e]
        exact act_no h hx rfl hx.2.2.2.1 ⟨rfl, rfl, rfl, rfl⟩ (fun _ _ hu => hu)
      · obtain ⟨i, ei, hi, -⟩ := itN hu0.1 b1
        subst ei
        rw [nI_clamp (n := i) (by omega)] at h6
        have hG := (free_G (D := 1) hu0.1 hP hX hY hf).1
        rw [e]
        refine act_no h hx rfl (rep_try hu0 hx.2.2.2.1 (by omega) (len5 hu0.2.2.1 (by omega) h6) hG) ⟨rfl, rfl, rfl, rfl⟩ (fun es c hu => uI_try hu (by omega) (len5 hu.2.2.1 (by omega) h6) hX hG)
    · exact absurd m1 nok
  · obtain ⟨y1, y2, y3, y4, y5, y6, y7, y8, y9, y10, y11, ⟨v, v1, v2⟩, y12⟩ := hye
    have hk5 := (hrp.2.2.1.2 i y2).2.2.2.1
    have hsit := (stV_sit hu0 y2 hk5 y10 y11 v2).mp v1
    have o : ok := (hok i y1 y2).mpr ⟨y8, y10, y11, hsit⟩
    obtain ⟨i1, i2, i3, i4, i5, i6⟩ := y9
    rcases hm with ⟨-, m2, -⟩ | ⟨-, m2, P', X', Y', D', N', e1, e2, e3, e4, e5, hP, hX, hY, hD, hN, m3⟩
    · exact absurd o m2
    · obtain ⟨w1, w2⟩ := hWH i y1 y2 o
      have eP : P' = P := (nI_inj (by omega) (by omega)).mp (e1.symm.trans y3)
      have eX : X' = X := (nI_inj (by omega) (by omega)).mp (e2.symm.trans y4)
      have eY : Y' = Y := (nI_inj (by omega) (by omega)).mp (e3.symm.trans y5)
      have eD : D' = D := (nI_inj (by omega) (by omega)).mp (e4.symm.trans (w1.trans y6))
      have eN : N' = N := (nI_inj (by omega) (by omega)).mp (e5.symm.trans (w2.trans y7))
      subst eP eX eY eD eN y1
      rw [y3, y4, y5, y6, y7] at y11
      have hG := (free_G hu0.1 hP hX hY y11).1
      have e9 : u9 = mActs (mStand u (nI i) P' X' Y' D' N') 0 (nI i) 0 0 0 0 0 := by
        rcases m3 with z | ⟨-, z⟩
        · exact z
        · rw [z, try_stand (by omega) (fun j ⟨a, b, ha, hb, ej⟩ => hG j ⟨a, b, by have ha : a < 1 := ha; show a < D'; omega, hb, ej⟩)]
      rw [nI_clamp (n := i) (by omega)] at m2
      refine ⟨by rw [m2]; exact hx.2.2.1, ?_⟩
      rw [y3, y4, y5, y7] at hsit
      refine act_ye (e9 := (0, i, (P', X', Y', D', N'), [])) h hx (by rw [acts28, mStand_1]) (fun e z => z) (by rw [e9]; exact hx.2.2.2.1) ?_ (fun es c hu => ⟨_, by rw [e9]; exact put_uI hu y2 y8 y10 hP hX hY hD hN y11 y6 y7 hsit⟩)
      rw [e9]
      exact ⟨acts_o (by decide), acts28, acts_o (by decide), acts_o (by decide)⟩
