theorem free_G {u : mS} {P X Y D N : Nat} (r : rI u) (hP : P < 12) (hX : X + D ≤ 8) (hY : Y + N ≤ 60) (h : mFreeP u (nI P) (nI X) (nI Y) (nI D) (nI N)) : (∀ j, inR (P, X, Y, D, N) j → u.2 2 j = (-2)) ∧ (1 ≤ D → 1 ≤ N → rIn u P X Y D N) := by
  obtain ⟨h1, h2, h3, h4⟩ := h
  rw [nI_clamp (n := D) (by omega), nI_clamp (n := N) (by omega)] at h4
  have cl : ∀ a, a < D → ∀ b, b < N → cel u P (X + a) (Y + b) ∧ u.2 2 (480 * P + 60 * (X + a) + (Y + b)) = (-2) := fun a ha b hb => by
    have z := h4 a ha b hb
    unfold frB at z
    obtain ⟨z1, z2⟩ := band z
    rw [nI_add, nI_add] at z1
    rw [nI_add, nI_add, ix_c hP (by omega) (by omega)] at z2
    exact ⟨(mC_cel r hP (by omega) (by omega)).mp z1, of_decide_eq_true z2⟩
  refine ⟨fun j ⟨a, b, ha, hb, e⟩ => ?_, fun hD hN => ⟨hP, hX, hD, hY, hN, fun a ha => ?_⟩⟩
  · rw [e]; exact (cl a ha b hb).2
  · have z := (cl a ha (N - 1) (by omega)).1.2
    omega
/-- what the class's maySit answers is what the reference asks -/
theorem stV_sit {u : mS} {es : List hE} {c : cfg} {i : Nat} {p1 p2 p3 p4 v : Int32} (h : uI u es c) (hi : i < (u.1 3).toNatClampNeg) (hk : 0 ≤ u.2 4 i ∧ u.2 4 i ≤ 5) (hrm : rmP u i) (hf : mFreeP u p1 p2 p3 (cpW u i p4) (cpH u i p4)) (hs : stV u i p1 p2 p3 (cpW u i p4) (cpH u i p4) v) : ¬ v = 0 ↔ sitP u i p1 p2 p3 (cpH u i p4) := by
  have hn := n80 h.1
  have g := uI_g h
  obtain ⟨s0, s3, s5, s1⟩ := hs
  have h6 := g.2.2.2.2.2 i
  have ec := cnt_e g (i := i) (by omega)
  unfold sitP
  have hkk : u.2 4 i = 0 ∨ u.2 4 i = 3 ∨ u.2 4 i = 5 ∨ (u.2 4 i = 1 ∨ u.2 4 i = 2 ∨ u.2 4 i = 4) := by
    have a := hk.1
    have b := hk.2
    rw [i32_le] at a b
    have e5 : (5 : Int32).toInt = 5 := rfl
    rw [i0] at a
    rw [e5] at b
    rcases (by omega : (u.2 4 i).toInt = 0 ∨ (u.2 4 i).toInt = 1 ∨ (u.2 4 i).toInt = 2 ∨ (u.2 4 i).toInt = 3 ∨ (u.2 4 i).toInt = 4 ∨ (u.2 4 i).toInt = 5) with z | z | z | z | z | z
    · exact Or.inl (Int32.toInt_inj.mp z)
    · exact Or.inr (Or.inr (Or.inr (Or.inl (Int32.toInt_inj.mp z))))
    · exact Or.inr (Or.inr (Or.inr (Or.inr (Or.inl (Int32.toInt_inj.mp z)))))
    · exact Or.inr (Or.inl (Int32.toInt_inj.mp z))
    · exact Or.inr (Or.inr (Or.inr (Or.inr (Or.inr (Int32.toInt_inj.mp z)))))
    · exact Or.inr (Or.inr (Or.inl (Int32.toInt_inj.mp z)))
  rcases hkk with k0 | k0 | k0 | k0
  · obtain ⟨gw, hg, hv⟩ := s0 k0
    rw [cpW_0 (Or.inl k0)] at hf hv
    obtain ⟨P, X, Y, D, N, eP, eX, eY, eD, eN, hP, hX, hY, hD, hN⟩ := free_rect h.1.2.2.1 hf
    have hl : (c i).length ≤ 5 := by
      unfold rmP at hrm
      rw [if_pos k0, ec] at hrm
      omega
    have eD : D = 1 := ((nI_inj (by omega) (by omega)).mp (show nI 1 = nI D from eD)).symm
    rw [eN] at hv
    rw [hv, eP, eX, eY, eN, nI_clamp (n := P) (by omega), nI_clamp (n := X) (by omega), nI_clamp (n := Y) (by omega), nI_clamp (n := N) (by omega)]
    have key := sit_run (X := X) h.1 h.2.2.1.2.2.2.2.2 (uI_ok h) (by omega) hl hP (by omega) hY hN hg
    rw [key]
    exact ⟨fun z => ⟨fun _ => z, fun q => absurd (k0.symm.trans q) (by decide), fun q => absurd (k0.symm.trans q) (by decide)⟩, fun z => z.1 k0⟩
  · rw [s3 k0]
    unfold s_sitP s_startsWith
    constructor
    · intro z
      refine ⟨fun q => absurd (k0.symm.trans q) (by decide), fun _ => ?_, fun q => absurd (k0.symm.trans q) (by decide)⟩
      by_cases a : p1 = u.2 11 i
      · rw [if_pos a] at z
        by_cases b : p2 = u.2 12 i
        · rw [if_pos b] at z
          by_cases e : p3 = u.2 13 i
          · exact ⟨a, b, e⟩
          · rw [if_neg e] at z; exact absurd rfl z
        · rw [if_neg b] at z; exact absurd rfl z
      · rw [if_neg a] at z; exact absurd rfl z
    · rintro ⟨-, z, -⟩
      obtain ⟨a, b, e⟩ := z k0
      rw [if_pos a, if_pos b, if_pos e]; decide
  · obtain ⟨o, g5, gm, ho, e9, hg5, hgm, hv⟩ := s5 k0
    rw [hv, sit_mend h.1 h.2.2.2.2.2.2.2.2.1 (by omega) ho e9 hg5 hgm]
    exact ⟨fun z => ⟨fun q => absurd (k0.symm.trans q) (by decide), fun q => absurd (k0.symm.trans q) (by decide), fun _ => z⟩, fun z => z.2.2 k0⟩
  · rw [s1 k0]
    refine ⟨fun _ => ⟨fun q => ?_, fun q => ?_, fun q => ?_⟩, fun _ => by decide⟩
    · rcases k0 with e | e | e <;> exact absurd (e.symm.trans q) (by decide)
    · rcases k0 with e | e | e <;> exact absurd (e.symm.trans q) (by decide)
    · rcases k0 with e | e | e <;> exact absurd (e.symm.trans q) (by decide)
theorem bhd_all {l : List fR} {r q : fR} (h : bhd r q) (hp : List.Pairwise bhd (q :: l)) : ∀ s, s ∈ q :: l → bhd r s := fun s hs => by
  rcases List.mem_cons.mp hs with e | e
  · rw [e]; exact h
  · exact bhd_tr h ((List.pairwise_cons.mp hp).1 s e)
/-- what a put that is let leaves of the invariant -/
theorem put_uI {u : mS} {es : List hE} {c : cfg} {i P X Y D N : Nat} {p4 : Int32} (h : uI u es c) (hi : i < (u.1 3).toNatClampNeg) (h3 : ¬ u.1 28 = 300) (hrm : rmP u i) (hP : P < 12) (hX : X + D ≤ 8) (hY : Y + N ≤ 60) (hD : 1 ≤ D) (hN : 1 ≤ N) (hf : mFreeP u (nI P) (nI X) (nI Y) (nI D) (nI N)) (eW : cpW u i p4 = nI D) (eH : cpH u i p4 = nI N) (hs : sitP u i (nI P) (nI X) (nI Y) (nI N)) : uI (mActs (mStand u (nI i) P X Y D N) 0 (nI i) 0 0 0 0 0) ((0, i, (P, X, Y, D, N), []) :: es) (cPush c i (P, X, Y, D, N)) := by
  have hn := n80 h.1
  have g := uI_g h
  have hok := uI_ok h
  obtain ⟨hG, hin⟩ := free_G h.1 hP hX hY hf
  have ec := cnt_e g (i := i) (by omega)
  have h6 := g.2.2.2.2.2 i
  have hr : rOK (P, X, Y, D, N) := ⟨hP, hX, hY, hD, hN⟩
  by_cases k0 : u.2 4 i = 0
  · have hl : (c i).length ≤ 5 := by
      unfold rmP at hrm
      rw [if_pos k0, ec] at hrm
      omega
    rw [cpW_0 (Or.inl k0)] at eW
    have eD : D = 1 := ((nI_inj (by omega) (by omega)).mp (show nI 1 = nI D from eW)).symm
    subst eD
    have hrun := hs.1 k0
    rw [nI_clamp (n := P) (by omega), nI_clamp (n := X) (by omega), nI_clamp (n := Y) (by omega), nI_clamp (n := N) (by omega)] at hrun
    obtain ⟨r1, r2, r3, -, -⟩ := hrun
    have e22 := (g.2.2.2.1 i (by omega)).1
    have usl := (g.2.2.2.1 i (by omega)).2
    rw [nI_clamp (n := i) (by omega), e22] at r3
    have hw := cM_stand (a := i) (by omega) hl (fun b => (hok b).2.1) h.2.2.1.2.2.2.2.2 P X Y 1 N
    obtain ⟨w22, wsl⟩ := hw i (by omega)
    rw [cPush_a] at w22 wsl
    rw [List.length_cons] at w22
    have hlg := runG_l (by omega) hl hr (hok i).2.2.1 wsl w22 (hok i).2.2.2.1 r3
    refine uI_put h h3 hi (hin hD hN) hG hl hlg (fun q => absurd k0 q) (fun _ => ⟨rfl, ?_⟩) (fun q => absurd (k0.symm.trans q) (by decide))
    have hpw := ((gH_cX h.2.2.2.1) i hi).2.2.1 k0
    cases hL : c i with
    | nil => intro s hs; exact absurd hs List.not_mem_nil
    | cons q l =>
      rw [hL] at hpw usl e22 hl h6
      rw [List.length_cons] at e22 hl h6
      refine bhd_all ?_ hpw.2
      have kq := (g.2.2.1 i q (by rw [hL]; exact List.mem_cons_self)).1
      unfold bhR at r2
      rw [nI_clamp (n := i) (by omega), e22] at r2
      rcases r2 with z | z
      · rw [i32_le, nI_toInt (by omega), i0] at z; omega
      · unfold bhK at z
        obtain ⟨m1, m2, m3, m4, m5⟩ := kq
        rw [add_sub1, dn_e (by omega), Nat.add_sub_cancel, ix6, nI_clamp (by omega), usl.1.1, usl.1.2.1, usl.1.2.2.1, usl.1.2.2.2.2, nI_add, i32_lt, i32_lt, i32_lt, nI_inj (a := P) (b := q.1) (by omega) (by omega), nI_inj (a := X) (b := q.2.1) (by omega) (by omega), nI_toInt (n := P) (by omega), nI_toInt (n := q.1) (by omega), nI_toInt (n := X) (by omega), nI_toInt (n := q.2.1) (by omega), nI_toInt (n := Y) (by omega), nI_toInt (n := q.2.2.1 + q.2.2.2.2) (by omega)] at z
        unfold bhd
        show q.1 < P ∨ (q.1 = P ∧ (q.2.1 < X ∨ (q.2.1 = X ∧ q.2.2.1 + q.2.2.2.2 ≤ Y)))
        omega
  · have hl : c i = [] := by
      unfold rmP at hrm
      rw [if_neg k0, ec] at hrm
      exact List.length_eq_zero_iff.mp (by omega)
    refine uI_put h h3 hi (hin hD hN) hG (by rw [hl]; exact Nat.zero_le _) (by rw [hl]; exact lg_one hr) (fun _ => hl) (fun q => absurd q k0) (fun k3 => ?_)
    exact ((hs.2.1 k3).1).symm
/-- put -/
theorem step_put {q : Nat → ClassId} {h0 : Nat} {d : Nat → Nat} {k : Nat → Int32} {z : gS} {f : xF} {u : mS} {w : xU} {p0 p1 p2 p3 p4 r r2 W H : Int32} {u9 : mS} {ok : Prop} (h : RR q h0 d k z f u) (hx : putP q h0 d k z f u p0 p1 p2 p3 p4 r w) (hok0 : ok → bw p0 0 (u.1 3 - 1) = true) (hok : ∀ i, p0 = nI i → i < (u.1 3).toNatClampNeg → (ok ↔ okU u i p1 p2 p3 p4)) (hWH : ∀ i, p0 = nI i → i < (u.1 3).toNatClampNeg → ok → W = cpW u i p4 ∧ H = cpH u i p4) (hm : rPut u p0 p1 p2 p3 W H ok r2 u9) : r = r2 ∧ RR q h0 d w.1 w.2.1 w.2.2 u9 := by
  obtain ⟨hI, hrp, hk, hz, es0, c0, g0, hu0, -⟩ := id h
  have hn := n80 hu0.1
  rcases hx with ⟨hno, hx⟩ | ⟨i, P, X, Y, D, N, hye, hx⟩
  · have nok : ¬ ok := fun o => by
      obtain ⟨i, ei, hi, -⟩ := itN hu0.1 (hok0 o)
      obtain ⟨o1, o2, o3, o4⟩ := (hok i ei hi).mp o
      rcases hno with z | z | z | ⟨j, ej, hj, z⟩
      · exact z (hok0 o)
      · exact z (mCell_c o3.1).1
      · exact o1 z
      · have eij : j = i := (nI_inj (by omega) (by omega)).mp (ej.symm.trans ei)
        subst eij
        rcases z with z | z | z
        · exact z o2
        · exact z o3
        · have hk5 := (hrp.2.2.1.2 j hj).2.2.2.1
          exact (stV_sit hu0 hj hk5 o2 o3 z).mpr o4 rfl
    rcases hm with ⟨m1, -, m3⟩ | ⟨m1, -⟩
    · refine ⟨by rw [m1]; exact hx.2.2.1, ?_⟩
      rcases m3 with e | ⟨b1, P, X, Y, N, e1, e2, e3, hP, hX, hY, hN, hf, h6, e⟩
      · rw [e]
        exact act_no h hx rfl hx.2.2.2.1 ⟨rfl, rfl, rfl, rfl⟩ (fun _ _ hu => hu)
      · obtain ⟨i, ei, hi, -⟩ := itN hu0.1 b1
        subst ei
        rw [nI_clamp (n := i) (by omega)] at h6
        have hG := (free_G (D := 1) hu0.1 hP hX hY hf).1
        rw [e]
        refine act_no h hx rfl (rep_try hu0 hx.2.2.2.1 (by omega) (len5 hu0.2.2.1 (by omega) h6) hG) ⟨rfl, rfl, rfl, rfl⟩ (fun es c hu => uI_try hu (by omega) (len5 hu.2.2.1 (by omega) h6) hX hG)
    · exact absurd m1 nok
  · obtain ⟨y1, y2, y3, y4, y5, y6, y7, y8, y9, y10, y11, ⟨v, v1, v2⟩, y12⟩ := hye
    have hk5 := (hrp.2.2.1.2 i y2).2.2.2.1
    have hsit := (stV_sit hu0 y2 hk5 y10 y11 v2).mp v1
    have o : ok := (hok i y1 y2).mpr ⟨y8, y10, y11, hsit⟩
    obtain ⟨i1, i2, i3, i4, i5, i6⟩ := y9
    rcases hm with ⟨-, m2, -⟩ | ⟨-, m2, P', X', Y', D', N', e1, e2, e3, e4, e5, hP, hX, hY, hD, hN, m3⟩
    · exact absurd o m2
    · obtain ⟨w1, w2⟩ := hWH i y1 y2 o
      have eP : P' = P := (nI_inj (by omega) (by omega)).mp (e1.symm.trans y3)
      have eX : X' = X := (nI_inj (by omega) (by omega)).mp (e2.symm.trans y4)
      have eY : Y' = Y := (nI_inj (by omega) (by omega)).mp (e3.symm.trans y5)
      have eD : D' = D := (nI_inj (by omega) (by omega)).mp (e4.symm.trans (w1.trans y6))
      have eN : N' = N := (nI_inj (by omega) (by omega)).mp (e5.symm.trans (w2.trans y7))
      subst eP eX eY eD eN y1
      rw [y3, y4, y5, y6, y7] at y11
      have hG := (free_G hu0.1 hP hX hY y11).1
      have e9 : u9 = mActs (mStand u (nI i) P' X' Y' D' N') 0 (nI i) 0 0 0 0 0 := by
        rcases m3 with z | ⟨-, z⟩
        · exact z
        · rw [z, try_stand (by omega) (fun j ⟨a, b, ha, hb, ej⟩ => hG j ⟨a, b, by have ha : a < 1 := ha; show a < D'; omega, hb, ej⟩)]
      rw [nI_clamp (n := i) (by omega)] at m2
      refine ⟨by rw [m2]; exact hx.2.2.1, ?_⟩
      rw [y3, y4, y5, y7] at hsit
      refine act_ye (e9 := (0, i, (P', X', Y', D', N'), [])) h hx (by rw [acts28, mStand_1]) (fun e z => z) (by rw [e9]; exact hx.2.2.2.1) ?_ (fun es c hu => ⟨_, by rw [e9]; exact put_uI hu y2 y8 y10 hP hX hY hD hN y11 y6 y7 hsit⟩)
      rw [e9]
      exact ⟨acts_o (by decide), acts28, acts_o (by decide), acts_o (by decide)⟩
set_option maxHeartbeats 4000000 in
set_option maxRecDepth 100000 in
theorem o_put1 (l : Launch) (dC : Nat → ClassId) (dI : Nat → Nat → Nat) (h0 : Nat) (v : Nat → Nat) (cI cZ : ClassId) (u : mS) (p0 p1 p2 p3 p4 : Int32) (hn : bw (u.1 3) 0 80 = true) (hln : ∀ j, j < 96 → bw (u.2 0 j) 0 60 = true) (hd : bw (u.1 38) 0 399 = true) (ha : bw (u.1 28) 0 300 = true) (hpc : ∀ j, j < 80 → bw (u.2 22 j) 0 6 = true) (hcm : ∀ j, j < 80 → bw (u.2 15 j) 0 80 = true) (hsz : ∀ j, j < 80 → bw (u.2 17 j) 0 4 = true) (hfr : bw p0 0 79 = true → ∀ P X Y N : Nat, P < 12 → X + 1 ≤ 8 → 1 ≤ N → Y + N ≤ 60 → ¬ u.2 22 p0.toNatClampNeg = 6 → runG (mStand u p0 P X Y 1 N) p0 (u.2 22 p0.toNatClampNeg) → 0 ≤ (mFrom (mStand u p0 P X Y 1 N) p0 (u.2 22 p0.toNatClampNeg).toNatClampNeg).toInt ∧ (mFrom (mStand u p0 P X Y 1 N) p0 (u.2 22 p0.toNatClampNeg).toNatClampNeg).toInt ≤ 400 ∧ (mTakes (mStand u p0 P X Y 1 N) p0 (u.2 22 p0.toNatClampNeg)).toInt ≤ 60) (hK9 : bw p0 0 (u.1 3 - 1) = true → u.2 4 p0.toNatClampNeg = 1) (sz : Nat) : Met l yX12_put wsX12_put ({ frames := 4, cells := 0, slots := 0, locals := 106 }) (va_Pc [.ref h0, .int p0, .int p1, .int p2, .int p3, .int p4] (fun U => U.heap.size = sz ∧ PW dC dI (mW h0 v cI cZ u) [(cI, .int), (cZ, .boolean)] U ∧ va_D (fun _ => True) (mW h0 v cI cZ u))) (va_Qi (fun (r : Int32) (u9 : mS) => rPut u p0 p1 p2 p3 (u.2 7 p0.toNatClampNeg) (u.2 8 p0.toNatClampNeg) (okP1 u p0 p1 p2 p3 p4) r u9) (fun u9 t => va_P (dC, dI) vwCl (mW h0 v cI cZ u9) t.heap ∧ va_D (va_A (mW h0 v cI cZ u) sz) (mW h0 v cI cZ u9)) (va_A (mW h0 v cI cZ u) sz)) 0 0 (va_A (mW h0 v cI cZ u) sz) := by
  refine Met.ofW (cc := cX12_put) (maxL := 10) (ret := (some .int)) (by decide) rfl ?_
  intro p e s m args below meth c s₁ B hml hv
  obtain ⟨rfl, hsz, ⟨hP, hK, hN⟩, hD0⟩ := hv
  have hx := B.exec
  have hb := B.bytes
  have hr := B.returns
  have hts := atoms_spec (ws := wsX12_put) B.pre
  have hown : s.vm.findClass RX12 = some m.cls := findClass_of_methodNamed B.named
  have hlocks := B.notSynchronized
  subst hsz
  have hD := hD0.self (sz := s.heap.size)
  generalize hAe : va_A (mW h0 v cI cZ u) s.heap.size = A at hD ⊢
  have hA : ∀ q : Nat, s.heap.size ≤ q → A q := fun q h => by rw [← hAe]; exact Or.inr h
  have hS : va_S A s.heap s.heap [] := va_S.rf
  have hl := lv_entry ([.ref h0, .int p0, .int p1, .int p2, .int p3, .int p4]) (n := 10) (Nat.le_of_ble_eq_true rfl)
  rw [lg_entry_eq]
  generalize (lg_sl ([.ref h0, .int p0, .int p1, .int p2, .int p3, .int p4]) ++ List.replicate (10 - (lg_sl ([.ref h0, .int p0, .int p1, .int p2, .int p3, .int p4])).length) Slot.unset).toArray = ls at hl ⊢
  have hl : lv_has ls 10 [(0, .ref h0), (1, .int p0), (2, .int p1), (3, .int p2), (4, .int p3), (5, .int p4)] := hl
  refine lv_aload_n hx hb dX12_put_0 rfl (lv_at hl 0 rfl) ?_
  refine lv_iload_n hx hb dX12_put_1 rfl (lv_at hl 1 rfl) ?_
  refine vp_callSi (va_runV (As := [.int p0]) (rest := []) ⟨hx, hb, hml, hown, hts⟩ (m_isItem l dC dI h0 v cI cZ u p0) (cwV 1 hts gX12_put_X12_isItem rfl rfl rfl (by decide +kernel) ⟨Nat.le_of_ble_eq_true rfl, Nat.le_of_ble_eq_true rfl⟩) ⟨pw_fb, va_recv hK hP (ci := 11) (q0 := 0) rfl rfl, fun U hU hW => ⟨rfl, pw_to hU hW hP hK hN⟩⟩ rfl rfl hl.1 rfl (lv_room (Nat.le_of_ble_eq_true rfl)) dX12_put_2 ⟨Nat.le_of_ble_eq_true rfl, Nat.le_of_ble_eq_true rfl⟩).run (fun r hw => ?_)
  rcases Bool.eq_false_or_eq_true (bw p0 0 (u.1 3 - 1)) with b_1 | b_1
  ·
    obtain rfl : r = 1 := b_t hw b_1
    refine lv_if_eq (tgt := 18) hx hb dX12_put_5 (by decide) (fun c_2 => absurd c_2 (by decide)) (fun c_2 => ?_)
    refine lv_aload_n hx hb dX12_put_8 rfl (lv_at hl 0 rfl) ?_
    refine va_get (D := (dC, dI)) (ci := 11) (v := .int (u.1 28)) (C := RX12) (T := TX12) (N := 52) hx hb hts (by decide +kernel) hown hK hP 0 rfl rfl 28 (by decide) (hts (.fieldLink RX12 158 "PageOneModel" "acts" "I") (by decide +kernel)) (fun _ h9 => h9) rfl dX12_put_9 ?_
    refine lv_sipush (v := 300) hx hb dX12_put_12 (by decide) ?_
    refine lv_icmp_ne (tgt := 20) hx hb dX12_put_15 (by decide) (fun c_3 => ?_) (fun c_3 => ?_)
    ·
      refine lv_aload_n hx hb dX12_put_20 rfl (lv_at hl 0 rfl) ?_
      refine va_get (D := (dC, dI)) (ci := 11) (v := .ref (v 4)) (C := RX12) (T := TX12) (N := 52) hx hb hts (by decide +kernel) hown hK hP 0 rfl rfl 4 (by decide) (hts (.fieldLink RX12 19 "PageOneModel" "kind" "[I") (by decide +kernel)) (fun _ h9 => h9) rfl dX12_put_21 ?_
      refine lv_iload_n hx hb dX12_put_24 rfl (lv_at hl 1 rfl) ?_
      refine va_iald hx hb hK hP 4 0 rfl rfl (vin (it79 hn b_1) (by decide)) dX12_put_25 ?_
      refine lv_topi (fun y_4 ey_4 => ?_)
      obtain rfl : y_4 = 1 := ey_4.trans (hK9 b_1)
      refine lv_istore (lv' := [(6, .int 1), (0, .ref h0), (1, .int p0), (2, .int p1), (3, .int p2), (4, .int p3), (5, .int p4)]) hx hb dX12_put_26 hl (by decide) rfl (fun ls hl => ?_)
      refine lv_iload hx hb dX12_put_28 (lv_at hl 0 rfl) ?_
      refine lv_iconst (v := 1) hx hb dX12_put_30 (by decide) ?_
      refine lv_icmp_eq (tgt := 40) hx hb dX12_put_31 (by decide) (fun c_5 => ?_) (fun c_5 => absurd (by decide) c_5)
      refine lv_aload_n hx hb dX12_put_40 rfl (lv_at hl 1 rfl) ?_
      refine va_get (D := (dC, dI)) (ci := 11) (v := .ref (v 7)) (C := RX12) (T := TX12) (N := 52) hx hb hts (by decide +kernel) hown hK hP 0 rfl rfl 7 (by decide) (hts (.fieldLink RX12 28 "PageOneModel" "wide" "[I") (by decide +kernel)) (fun _ h9 => h9) rfl dX12_put_41 ?_
      refine lv_iload_n hx hb dX12_put_44 rfl (lv_at hl 2 rfl) ?_
      refine va_iald hx hb hK hP 7 0 rfl rfl (vin (it79 hn b_1) (by decide)) dX12_put_45 ?_
      refine lv_goto (tgt := 50) hx hb dX12_put_46 (by decide) ?_
      refine lv_istore (lv' := [(7, .int (u.2 7 (p0 : Int32).toNatClampNeg)), (6, .int 1), (0, .ref h0), (1, .int p0), (2, .int p1), (3, .int p2), (4, .int p3), (5, .int p4)]) hx hb dX12_put_50 hl (by decide) rfl (fun ls hl => ?_)
      refine lv_iload hx hb dX12_put_52 (lv_at hl 1 rfl) ?_
      refine lv_if_eq (tgt := 63) hx hb dX12_put_54 (by decide) (fun c_6 => absurd c_6 (by decide)) (fun c_6 => ?_)
      refine lv_iload hx hb dX12_put_57 (lv_at hl 1 rfl) ?_
      refine lv_iconst (v := 4) hx hb dX12_put_59 (by decide) ?_
      refine lv_icmp_ne (tgt := 68) hx hb dX12_put_60 (by decide) (fun c_7 => ?_) (fun c_7 => absurd c_7 (by decide))
      refine lv_aload_n hx hb dX12_put_68 rfl (lv_at hl 2 rfl) ?_
      refine va_get (D := (dC, dI)) (ci := 11) (v := .ref (v 8)) (C := RX12) (T := TX12) (N := 52) hx hb hts (by decide +kernel) hown hK hP 0 rfl rfl 8 (by decide) (hts (.fieldLink RX12 31 "PageOneModel" "high" "[I") (by decide +kernel)) (fun _ h9 => h9) rfl dX12_put_69 ?_
      refine lv_iload_n hx hb dX12_put_72 rfl (lv_at hl 3 rfl) ?_
      refine va_iald hx hb hK hP 8 0 rfl rfl (vin (it79 hn b_1) (by decide)) dX12_put_73 ?_
      refine lv_istore (lv' := [(8, .int (u.2 8 (p0 : Int32).toNatClampNeg)), (7, .int (u.2 7 (p0 : Int32).toNatClampNeg)), (6, .int 1), (0, .ref h0), (1, .int p0), (2, .int p1), (3, .int p2), (4, .int p3), (5, .int p4)]) hx hb dX12_put_74 hl (by decide) rfl (fun ls hl => ?_)
      refine lv_iload hx hb dX12_put_76 (lv_at hl 2 rfl) ?_
      refine lv_iconst (v := 2) hx hb dX12_put_78 (by decide) ?_
      refine lv_icmp_ne (tgt := 127) hx hb dX12_put_79 (by decide) (fun c_8 => ?_) (fun c_8 => absurd c_8 (by decide))
      refine lv_iload hx hb dX12_put_127 (lv_at hl 2 rfl) ?_
      refine lv_if_eq (tgt := 149) hx hb dX12_put_129 (by decide) (fun c_9 => absurd c_9 (by decide)) (fun c_9 => ?_)
      refine lv_iload hx hb dX12_put_132 (lv_at hl 2 rfl) ?_
      refine lv_iconst (v := 4) hx hb dX12_put_134 (by decide) ?_
      refine lv_icmp_eq (tgt := 149) hx hb dX12_put_135 (by decide) (fun c_10 => absurd c_10 (by decide)) (fun c_10 => ?_)
      refine lv_iload hx hb dX12_put_138 (lv_at hl 2 rfl) ?_
      refine lv_iconst (v := 2) hx hb dX12_put_140 (by decide) ?_
      refine lv_icmp_eq (tgt := 149) hx hb dX12_put_141 (by decide) (fun c_11 => absurd c_11 (by decide)) (fun c_11 => ?_)
      refine lv_iload hx hb dX12_put_144 (lv_at hl 8 rfl) ?_
      refine lv_if_ne (tgt := 153) hx hb dX12_put_146 (by decide) (fun c_12 => ?_) (fun c_12 => ?_)
      ·
        refine lv_iconst (v := 0) hx hb dX12_put_153 (by decide) ?_
        refine lv_istore (lv' := [(9, .int 0), (8, .int (u.2 8 (p0 : Int32).toNatClampNeg)), (7, .int (u.2 7 (p0 : Int32).toNatClampNeg)), (6, .int 1), (0, .ref h0), (1, .int p0), (2, .int p1), (3, .int p2), (4, .int p3), (5, .int p4)]) hx hb dX12_put_154 hl (by decide) rfl (fun ls hl => ?_)
        refine lv_iload hx hb dX12_put_156 (lv_at hl 0 rfl) ?_
        refine lv_if_eq (tgt := 200) hx hb dX12_put_158 (by decide) (fun c_13 => ?_) (fun c_13 => absurd (by decide) c_13)
        refine lv_iconst (v := 0) hx hb dX12_put_200 (by decide) ?_
        refine lv_istore (lv' := [(9, .int 0), (8, .int (u.2 8 (p0 : Int32).toNatClampNeg)), (7, .int (u.2 7 (p0 : Int32).toNatClampNeg)), (6, .int 1), (0, .ref h0), (1, .int p0), (2, .int p1), (3, .int p2), (4, .int p3), (5, .int p4)]) hx hb dX12_put_201 hl (by decide) rfl (fun ls hl => ?_)
        refine lv_iload hx hb dX12_put_203 (lv_at hl 0 rfl) ?_
        refine lv_if_ne (tgt := 210) hx hb dX12_put_205 (by decide) (fun c_14 => absurd (by decide) c_14) (fun c_14 => ?_)
        refine lv_iconst (v := (-1)) hx hb dX12_put_208 (by decide) ?_
        exact W.iret (v := (-1)) hx hb hr (fun t ht hW => ⟨⟨(-1), u, rfl, (Or.inl ⟨rfl, (fun h => c_12 h.2.2.1), Or.inl rfl⟩), by rw [ht]; exact hP, hD⟩, hS.F ht⟩) hS.2.2 dX12_put_209
      ·
        refine lv_iconst (v := 1) hx hb dX12_put_149 (by decide) ?_
        refine lv_goto (tgt := 154) hx hb dX12_put_150 (by decide) ?_
        refine lv_istore (lv' := [(9, .int 1), (8, .int (u.2 8 (p0 : Int32).toNatClampNeg)), (7, .int (u.2 7 (p0 : Int32).toNatClampNeg)), (6, .int 1), (0, .ref h0), (1, .int p0), (2, .int p1), (3, .int p2), (4, .int p3), (5, .int p4)]) hx hb dX12_put_154 hl (by decide) rfl (fun ls hl => ?_)
        refine lv_iload hx hb dX12_put_156 (lv_at hl 0 rfl) ?_
        refine lv_if_eq (tgt := 200) hx hb dX12_put_158 (by decide) (fun c_15 => absurd c_15 (by decide)) (fun c_15 => ?_)
        refine lv_iload hx hb dX12_put_161 (lv_at hl 1 rfl) ?_
        refine lv_iconst (v := 1) hx hb dX12_put_163 (by decide) ?_
        refine lv_icmp_lt (tgt := 200) hx hb dX12_put_164 (by decide) (fun c_16 => ?_) (fun c_16 => ?_)
        ·
          refine lv_iconst (v := 0) hx hb dX12_put_200 (by decide) ?_
          refine lv_istore (lv' := [(9, .int 0), (8, .int (u.2 8 (p0 : Int32).toNatClampNeg)), (7, .int (u.2 7 (p0 : Int32).toNatClampNeg)), (6, .int 1), (0, .ref h0), (1, .int p0), (2, .int p1), (3, .int p2), (4, .int p3), (5, .int p4)]) hx hb dX12_put_201 hl (by decide) rfl (fun ls hl => ?_)
          refine lv_iload hx hb dX12_put_203 (lv_at hl 0 rfl) ?_
          refine lv_if_ne (tgt := 210) hx hb dX12_put_205 (by decide) (fun c_17 => absurd (by decide) c_17) (fun c_17 => ?_)
          refine lv_iconst (v := (-1)) hx hb dX12_put_208 (by decide) ?_
          exact W.iret (v := (-1)) hx hb hr (fun t ht hW => ⟨⟨(-1), u, rfl, (Or.inl ⟨rfl, (fun h => h.2.2.2.1 c_16), Or.inl rfl⟩), by rw [ht]; exact hP, hD⟩, hS.F ht⟩) hS.2.2 dX12_put_209
        ·
          refine lv_iload hx hb dX12_put_167 (lv_at hl 3 rfl) ?_
          refine lv_if_eq (tgt := 181) hx hb dX12_put_169 (by decide) (fun c_18 => absurd c_18 (by decide)) (fun c_18 => ?_)
          refine lv_aload_n hx hb dX12_put_172 rfl (lv_at hl 4 rfl) ?_
          refine va_get (D := (dC, dI)) (ci := 11) (v := .ref (v 22)) (C := RX12) (T := TX12) (N := 52) hx hb hts (by decide +kernel) hown hK hP 0 rfl rfl 22 (by decide) (hts (.fieldLink RX12 74 "PageOneModel" "pieces" "[I") (by decide +kernel)) (fun _ h9 => h9) rfl dX12_put_173 ?_
          refine lv_iload_n hx hb dX12_put_176 rfl (lv_at hl 5 rfl) ?_
          refine va_iald hx hb hK hP 22 0 rfl rfl (vin (it79 hn b_1) (by decide)) dX12_put_177 ?_
          refine lv_if_ne (tgt := 200) hx hb dX12_put_178 (by decide) (fun c_19 => ?_) (fun c_19 => ?_)
          ·
            refine lv_iconst (v := 0) hx hb dX12_put_200 (by decide) ?_
            refine lv_istore (lv' := [(9, .int 0), (8, .int (u.2 8 (p0 : Int32).toNatClampNeg)), (7, .int (u.2 7 (p0 : Int32).toNatClampNeg)), (6, .int 1), (0, .ref h0), (1, .int p0), (2, .int p1), (3, .int p2), (4, .int p3), (5, .int p4)]) hx hb dX12_put_201 hl (by decide) rfl (fun ls hl => ?_)
            refine lv_iload hx hb dX12_put_203 (lv_at hl 0 rfl) ?_
            refine lv_if_ne (tgt := 210) hx hb dX12_put_205 (by decide) (fun c_20 => absurd (by decide) c_20) (fun c_20 => ?_)
            refine lv_iconst (v := (-1)) hx hb dX12_put_208 (by decide) ?_
            exact W.iret (v := (-1)) hx hb hr (fun t ht hW => ⟨⟨(-1), u, rfl, (Or.inl ⟨rfl, (fun h => c_19 h.2.2.2.2.1), Or.inl rfl⟩), by rw [ht]; exact hP, hD⟩, hS.F ht⟩) hS.2.2 dX12_put_209
          ·
            refine lv_aload_n hx hb dX12_put_181 rfl (lv_at hl 4 rfl) ?_
            refine lv_iload_n hx hb dX12_put_182 rfl (lv_at hl 6 rfl) ?_
            refine lv_iload_n hx hb dX12_put_183 rfl (lv_at hl 7 rfl) ?_
            refine lv_iload hx hb dX12_put_184 (lv_at hl 8 rfl) ?_
            refine lv_iload hx hb dX12_put_186 (lv_at hl 2 rfl) ?_
            refine lv_iload hx hb dX12_put_188 (lv_at hl 1 rfl) ?_
            refine vp_callSi (va_runV (As := [.int p1, .int p2, .int p3, .int (u.2 7 (p0 : Int32).toNatClampNeg), .int (u.2 8 (p0 : Int32).toNatClampNeg)]) (rest := []) ⟨hx, hb, hml, hown, hts⟩ (m_isFree l dC dI h0 v cI cZ u p1 p2 p3 (u.2 7 (p0 : Int32).toNatClampNeg) (u.2 8 (p0 : Int32).toNatClampNeg) hln) (cwV 5 hts gX12_put_X12_isFree rfl rfl rfl (by decide +kernel) ⟨Nat.le_of_ble_eq_true rfl, Nat.le_of_ble_eq_true rfl⟩) ⟨pw_fb, va_recv hK hP (ci := 11) (q0 := 0) rfl rfl, fun U hU hW => ⟨rfl, pw_to hU hW hP hK hN⟩⟩ rfl rfl hl.1 rfl (lv_room (Nat.le_of_ble_eq_true rfl)) dX12_put_190 ⟨Nat.le_of_ble_eq_true rfl, Nat.le_of_ble_eq_true rfl⟩).run (fun r hw => ?_)
            have hit := b_1
            have hi := it79 hn hit
            have h300 := c_3
            rcases hw with ⟨hw, hfree⟩ | ⟨hw, hfree⟩
            ·
              subst hw
              have hfree0 := hfree
              obtain ⟨P, X, Y, D, N, eP, eX, eY, eD, eN, hPP, hXW, hYN, hDD1, hN1⟩ := free_rect hln hfree
              subst eP eX eY
              rw [eD] at hl
              rw [eN] at hl
              refine lv_if_eq (tgt := 200) hx hb dX12_put_193 (by decide) (fun c_21 => absurd c_21 (by decide)) (fun c_21 => ?_)
              refine lv_iconst (v := 1) hx hb dX12_put_196 (by decide) ?_
              refine lv_goto (tgt := 201) hx hb dX12_put_197 (by decide) ?_
              refine lv_istore (lv' := [(9, .int 1), (8, .int (nI N)), (7, .int (nI D)), (6, .int 1), (0, .ref h0), (1, .int p0), (2, .int (nI P)), (3, .int (nI X)), (4, .int (nI Y)), (5, .int p4)]) hx hb dX12_put_201 hl (by decide) rfl (fun ls hl => ?_)
              refine lv_iload hx hb dX12_put_203 (lv_at hl 0 rfl) ?_
              refine lv_if_ne (tgt := 210) hx hb dX12_put_205 (by decide) (fun c_22 => ?_) (fun c_22 => absurd c_22 (by decide))
              refine lv_iload hx hb dX12_put_210 (lv_at hl 3 rfl) ?_
              refine lv_tableIn (tgt := 343) (off := 131) hx hb dX12_put_212 (by decide) (by decide) (by decide) (by decide) ?_
              refine lv_iload hx hb dX12_put_343 (lv_at hl 0 rfl) ?_
              refine lv_if_ne (tgt := 350) hx hb dX12_put_345 (by decide) (fun c_23 => ?_) (fun c_23 => absurd c_23 (by decide))
              refine lv_aload_n hx hb dX12_put_350 rfl (lv_at hl 4 rfl) ?_
              refine lv_iload_n hx hb dX12_put_351 rfl (lv_at hl 5 rfl) ?_
              refine lv_iload_n hx hb dX12_put_352 rfl (lv_at hl 6 rfl) ?_
              refine lv_iload_n hx hb dX12_put_353 rfl (lv_at hl 7 rfl) ?_
              refine lv_iload hx hb dX12_put_354 (lv_at hl 8 rfl) ?_
              refine lv_iload hx hb dX12_put_356 (lv_at hl 2 rfl) ?_
              refine lv_iload hx hb dX12_put_358 (lv_at hl 1 rfl) ?_
              have hFc := fr_all hD hS hA
              refine va_callv (va_runV (As := [.int p0, .int (nI P), .int (nI X), .int (nI Y), .int (nI D), .int (nI N)]) (rest := []) ⟨hx, hb, hml, hown, hts⟩ (m_stand l dC dI h0 v cI cZ u p0 P X Y D N hPP hXW hYN hi (z05 c_19) s.heap.size) (cwV 6 hts gX12_put_X12_stand rfl rfl rfl (by decide +kernel) ⟨Nat.le_of_ble_eq_true rfl, Nat.le_of_ble_eq_true rfl⟩) ⟨gw_fb, va_recv hK hP (ci := 11) (q0 := 0) rfl rfl, fun U hU hW => ⟨rfl, by rw [hU], pw_to hU hW hP hK hN, hD.weaken (fun _ _ _ _ => trivial)⟩⟩ rfl rfl hl.1 rfl (lv_room (Nat.le_of_ble_eq_true rfl)) dX12_put_360 ⟨Nat.le_of_ble_eq_true rfl, Nat.le_of_ble_eq_true rfl⟩) hS (fun q _ h => hFc q h) hFc (fun u_24 t H1 locs ht hvm hw hB hz1 hk1 hS => ?_)
              obtain ⟨hP, hD1⟩ := hB
              rw [ht] at hP
              have hD := hD1.weaken (fun _ q _ h => hFc q.1 h)
              generalize H1 = H at hP hS ⊢
              have eu_24 := hw
              refine lv_aload_n hx hb dX12_put_363 rfl (lv_at hl 4 rfl) ?_
              refine lv_iconst (v := 0) hx hb dX12_put_364 (by decide) ?_
              refine lv_iload_n hx hb dX12_put_365 rfl (lv_at hl 5 rfl) ?_
              refine lv_iconst (v := 0) hx hb dX12_put_366 (by decide) ?_
              refine lv_iconst (v := 0) hx hb dX12_put_367 (by decide) ?_
              refine lv_iconst (v := 0) hx hb dX12_put_368 (by decide) ?_
              refine lv_iconst (v := 0) hx hb dX12_put_369 (by decide) ?_
              refine lv_iconst (v := 0) hx hb dX12_put_370 (by decide) ?_
              have hFc := fr_all hD hS hA
              refine va_callv (va_runV (As := [.int 0, .int p0, .int 0, .int 0, .int 0, .int 0, .int 0]) (rest := []) ⟨hx, hb, hml, hown, hts⟩ (m_acts l dC dI h0 v cI cZ u_24 0 p0 0 0 0 0 0 (by rw [eu_24]; show bw (u.1 28) 0 299 = true; exact v300 ha h300) H.size) (cwV 7 hts gX12_put_X12_acts rfl rfl rfl (by decide +kernel) ⟨Nat.le_of_ble_eq_true rfl, Nat.le_of_ble_eq_true rfl⟩) ⟨gw_fb, va_recv hK hP (ci := 11) (q0 := 0) rfl rfl, fun U hU hW => ⟨rfl, by rw [hU], pw_to hU hW hP hK hN, hD.weaken (fun _ _ _ _ => trivial)⟩⟩ rfl rfl hl.1 rfl (lv_room (Nat.le_of_ble_eq_true rfl)) dX12_put_371 ⟨Nat.le_of_ble_eq_true rfl, Nat.le_of_ble_eq_true rfl⟩) hS (fun q _ h => hFc q h) hFc (fun u_25 t H1 locs ht hvm hw hB hz1 hk1 hS => ?_)
              obtain ⟨hP, hD1⟩ := hB
              rw [ht] at hP
              have hD := hD1.weaken (fun _ q _ h => hFc q.1 h)
              generalize H1 = H at hP hS ⊢
              have eu_25 := hw
              refine lv_aload_n hx hb dX12_put_374 rfl (lv_at hl 4 rfl) ?_
              refine va_get (D := (dC, dI)) (ci := 11) (v := .ref (v 22)) (C := RX12) (T := TX12) (N := 52) hx hb hts (by decide +kernel) hown hK hP 0 rfl rfl 22 (by decide) (hts (.fieldLink RX12 74 "PageOneModel" "pieces" "[I") (by decide +kernel)) (fun _ h9 => h9) rfl dX12_put_375 ?_
              refine lv_iload_n hx hb dX12_put_378 rfl (lv_at hl 5 rfl) ?_
              refine va_iald hx hb hK hP 22 0 rfl rfl (vin (it79 hn b_1) (by decide)) dX12_put_379 ?_
              exact W.iret (v := (u_25.2 22 (p0 : Int32).toNatClampNeg)) hx hb hr (fun t ht hW => ⟨⟨(u_25.2 22 (p0 : Int32).toNatClampNeg), u_25, rfl, (Or.inr ⟨⟨hit, h300, c_12, c_16, c_19, hfree0, trivial⟩, (by rw [eu_25, eu_24, putR]), P, X, Y, D, N, rfl, rfl, rfl, eD, eN, hPP, hXW, hYN, hDD1, hN1, (Or.inl (by rw [eu_25, eu_24]))⟩), by rw [ht]; exact hP, hD⟩, hS.F ht⟩) hS.2.2 dX12_put_380
            ·
              subst hw
              refine lv_if_eq (tgt := 200) hx hb dX12_put_193 (by decide) (fun c_26 => ?_) (fun c_26 => absurd (by decide) c_26)
              refine lv_iconst (v := 0) hx hb dX12_put_200 (by decide) ?_
              refine lv_istore (lv' := [(9, .int 0), (8, .int (u.2 8 (p0 : Int32).toNatClampNeg)), (7, .int (u.2 7 (p0 : Int32).toNatClampNeg)), (6, .int 1), (0, .ref h0), (1, .int p0), (2, .int p1), (3, .int p2), (4, .int p3), (5, .int p4)]) hx hb dX12_put_201 hl (by decide) rfl (fun ls hl => ?_)
              refine lv_iload hx hb dX12_put_203 (lv_at hl 0 rfl) ?_
              refine lv_if_ne (tgt := 210) hx hb dX12_put_205 (by decide) (fun c_27 => absurd (by decide) c_27) (fun c_27 => ?_)
              refine lv_iconst (v := (-1)) hx hb dX12_put_208 (by decide) ?_
              exact W.iret (v := (-1)) hx hb hr (fun t ht hW => ⟨⟨(-1), u, rfl, (Or.inl ⟨rfl, (fun h => hfree h.2.2.2.2.2.1), Or.inl rfl⟩), by rw [ht]; exact hP, hD⟩, hS.F ht⟩) hS.2.2 dX12_put_209
    ·
      refine lv_iconst (v := (-1)) hx hb dX12_put_18 (by decide) ?_
      exact W.iret (v := (-1)) hx hb hr (fun t ht hW => ⟨⟨(-1), u, rfl, (Or.inl ⟨rfl, (fun h => h.2.1 c_3), Or.inl rfl⟩), by rw [ht]; exact hP, hD⟩, hS.F ht⟩) hS.2.2 dX12_put_19
  ·
    obtain rfl : r = 0 := b_f hw b_1
    refine lv_if_eq (tgt := 18) hx hb dX12_put_5 (by decide) (fun c_28 => ?_) (fun c_28 => absurd (by decide) c_28)
    refine lv_iconst (v := (-1)) hx hb dX12_put_18 (by decide) ?_
    exact W.iret (v := (-1)) hx hb hr (fun t ht hW => ⟨⟨(-1), u, rfl, (Or.inl ⟨rfl, (fun h => bne b_1 h.1), Or.inl rfl⟩), by rw [ht]; exact hP, hD⟩, hS.F ht⟩) hS.2.2 dX12_put_19
set_option maxHeartbeats 4000000 in
set_option maxRecDepth 100000 in
theorem o_put2 (l : Launch) (dC : Nat → ClassId) (dI : Nat → Nat → Nat) (h0 : Nat) (v : Nat → Nat) (cI cZ : ClassId) (u : mS) (p0 p1 p2 p3 p4 : Int32) (hn : bw (u.1 3) 0 80 = true) (hln : ∀ j, j < 96 → bw (u.2 0 j) 0 60 = true) (hd : bw (u.1 38) 0 399 = true) (ha : bw (u.1 28) 0 300 = true) (hpc : ∀ j, j < 80 → bw (u.2 22 j) 0 6 = true) (hcm : ∀ j, j < 80 → bw (u.2 15 j) 0 80 = true) (hsz : ∀ j, j < 80 → bw (u.2 17 j) 0 4 = true) (hfr : bw p0 0 79 = true → ∀ P X Y N : Nat, P < 12 → X + 1 ≤ 8 → 1 ≤ N → Y + N ≤ 60 → ¬ u.2 22 p0.toNatClampNeg = 6 → runG (mStand u p0 P X Y 1 N) p0 (u.2 22 p0.toNatClampNeg) → 0 ≤ (mFrom (mStand u p0 P X Y 1 N) p0 (u.2 22 p0.toNatClampNeg).toNatClampNeg).toInt ∧ (mFrom (mStand u p0 P X Y 1 N) p0 (u.2 22 p0.toNatClampNeg).toNatClampNeg).toInt ≤ 400 ∧ (mTakes (mStand u p0 P X Y 1 N) p0 (u.2 22 p0.toNatClampNeg)).toInt ≤ 60) (hK9 : bw p0 0 (u.1 3 - 1) = true → u.2 4 p0.toNatClampNeg = 2) (sz : Nat) : Met l yX12_put wsX12_put ({ frames := 4, cells := 0, slots := 0, locals := 106 }) (va_Pc [.ref h0, .int p0, .int p1, .int p2, .int p3, .int p4] (fun U => U.heap.size = sz ∧ PW dC dI (mW h0 v cI cZ u) [(cI, .int), (cZ, .boolean)] U ∧ va_D (fun _ => True) (mW h0 v cI cZ u))) (va_Qi (fun (r : Int32) (u9 : mS) => rPut u p0 p1 p2 p3 (u.2 18 (4 * p0 + p4).toNatClampNeg) (u.2 19 (4 * p0 + p4).toNatClampNeg) (okP2 u p0 p1 p2 p3 p4) r u9) (fun u9 t => va_P (dC, dI) vwCl (mW h0 v cI cZ u9) t.heap ∧ va_D (va_A (mW h0 v cI cZ u) sz) (mW h0 v cI cZ u9)) (va_A (mW h0 v cI cZ u) sz)) 0 0 (va_A (mW h0 v cI cZ u) sz) := by
  refine Met.ofW (cc := cX12_put) (maxL := 10) (ret := (some .int)) (by decide) rfl ?_
  intro p e s m args below meth c s₁ B hml hv
  obtain ⟨rfl, hsz, ⟨hP, hK, hN⟩, hD0⟩ := hv
  have hx := B.exec
  have hb := B.bytes
  have hr := B.returns
  have hts := atoms_spec (ws := wsX12_put) B.pre
  have hown : s.vm.findClass RX12 = some m.cls := findClass_of_methodNamed B.named
  have hlocks := B.notSynchronized
  subst hsz
  have hD := hD0.self (sz := s.heap.size)
  generalize hAe : va_A (mW h0 v cI cZ u) s.heap.size = A at hD ⊢
  have hA : ∀ q : Nat, s.heap.size ≤ q → A q := fun q h => by rw [← hAe]; exact Or.inr h
  have hS : va_S A s.heap s.heap [] := va_S.rf
  have hl := lv_entry ([.ref h0, .int p0, .int p1, .int p2, .int p3, .int p4]) (n := 10) (Nat.le_of_ble_eq_true rfl)
  rw [lg_entry_eq]
  generalize (lg_sl ([.ref h0, .int p0, .int p1, .int p2, .int p3, .int p4]) ++ List.replicate (10 - (lg_sl ([.ref h0, .int p0, .int p1, .int p2, .int p3, .int p4])).length) Slot.unset).toArray = ls at hl ⊢
  have hl : lv_has ls 10 [(0, .ref h0), (1, .int p0), (2, .int p1), (3, .int p2), (4, .int p3), (5, .int p4)] := hl
  refine lv_aload_n hx hb dX12_put_0 rfl (lv_at hl 0 rfl) ?_
  refine lv_iload_n hx hb dX12_put_1 rfl (lv_at hl 1 rfl) ?_
  refine vp_callSi (va_runV (As := [.int p0]) (rest := []) ⟨hx, hb, hml, hown, hts⟩ (m_isItem l dC dI h0 v cI cZ u p0) (cwV 1 hts gX12_put_X12_isItem rfl rfl rfl (by decide +kernel) ⟨Nat.le_of_ble_eq_true rfl, Nat.le_of_ble_eq_true rfl⟩) ⟨pw_fb, va_recv hK hP (ci := 11) (q0 := 0) rfl rfl, fun U hU hW => ⟨rfl, pw_to hU hW hP hK hN⟩⟩ rfl rfl hl.1 rfl (lv_room (Nat.le_of_ble_eq_true rfl)) dX12_put_2 ⟨Nat.le_of_ble_eq_true rfl, Nat.le_of_ble_eq_true rfl⟩).run (fun r hw => ?_)
  rcases Bool.eq_false_or_eq_true (bw p0 0 (u.1 3 - 1)) with b_1 | b_1
  ·
    obtain rfl : r = 1 := b_t hw b_1
    refine lv_if_eq (tgt := 18) hx hb dX12_put_5 (by decide) (fun c_2 => absurd c_2 (by decide)) (fun c_2 => ?_)
    refine lv_aload_n hx hb dX12_put_8 rfl (lv_at hl 0 rfl) ?_
    refine va_get (D := (dC, dI)) (ci := 11) (v := .int (u.1 28)) (C := RX12) (T := TX12) (N := 52) hx hb hts (by decide +kernel) hown hK hP 0 rfl rfl 28 (by decide) (hts (.fieldLink RX12 158 "PageOneModel" "acts" "I") (by decide +kernel)) (fun _ h9 => h9) rfl dX12_put_9 ?_
    refine lv_sipush (v := 300) hx hb dX12_put_12 (by decide) ?_
    refine lv_icmp_ne (tgt := 20) hx hb dX12_put_15 (by decide) (fun c_3 => ?_) (fun c_3 => ?_)
    ·
      refine lv_aload_n hx hb dX12_put_20 rfl (lv_at hl 0 rfl) ?_
      refine va_get (D := (dC, dI)) (ci := 11) (v := .ref (v 4)) (C := RX12) (T := TX12) (N := 52) hx hb hts (by decide +kernel) hown hK hP 0 rfl rfl 4 (by decide) (hts (.fieldLink RX12 19 "PageOneModel" "kind" "[I") (by decide +kernel)) (fun _ h9 => h9) rfl dX12_put_21 ?_
      refine lv_iload_n hx hb dX12_put_24 rfl (lv_at hl 1 rfl) ?_
      refine va_iald hx hb hK hP 4 0 rfl rfl (vin (it79 hn b_1) (by decide)) dX12_put_25 ?_
      refine lv_topi (fun y_4 ey_4 => ?_)
      obtain rfl : y_4 = 2 := ey_4.trans (hK9 b_1)
      refine lv_istore (lv' := [(6, .int 2), (0, .ref h0), (1, .int p0), (2, .int p1), (3, .int p2), (4, .int p3), (5, .int p4)]) hx hb dX12_put_26 hl (by decide) rfl (fun ls hl => ?_)
      refine lv_iload hx hb dX12_put_28 (lv_at hl 0 rfl) ?_
      refine lv_iconst (v := 1) hx hb dX12_put_30 (by decide) ?_
      refine lv_icmp_eq (tgt := 40) hx hb dX12_put_31 (by decide) (fun c_5 => absurd c_5 (by decide)) (fun c_5 => ?_)
      refine lv_iload hx hb dX12_put_34 (lv_at hl 0 rfl) ?_
      refine lv_iconst (v := 3) hx hb dX12_put_36 (by decide) ?_
      refine lv_icmp_ne (tgt := 49) hx hb dX12_put_37 (by decide) (fun c_6 => ?_) (fun c_6 => absurd c_6 (by decide))
      refine lv_iconst (v := 1) hx hb dX12_put_49 (by decide) ?_
      refine lv_istore (lv' := [(7, .int 1), (6, .int 2), (0, .ref h0), (1, .int p0), (2, .int p1), (3, .int p2), (4, .int p3), (5, .int p4)]) hx hb dX12_put_50 hl (by decide) rfl (fun ls hl => ?_)
      refine lv_iload hx hb dX12_put_52 (lv_at hl 1 rfl) ?_
      refine lv_if_eq (tgt := 63) hx hb dX12_put_54 (by decide) (fun c_7 => absurd c_7 (by decide)) (fun c_7 => ?_)
      refine lv_iload hx hb dX12_put_57 (lv_at hl 1 rfl) ?_
      refine lv_iconst (v := 4) hx hb dX12_put_59 (by decide) ?_
      refine lv_icmp_ne (tgt := 68) hx hb dX12_put_60 (by decide) (fun c_8 => ?_) (fun c_8 => absurd c_8 (by decide))
      refine lv_aload_n hx hb dX12_put_68 rfl (lv_at hl 2 rfl) ?_
      refine va_get (D := (dC, dI)) (ci := 11) (v := .ref (v 8)) (C := RX12) (T := TX12) (N := 52) hx hb hts (by decide +kernel) hown hK hP 0 rfl rfl 8 (by decide) (hts (.fieldLink RX12 31 "PageOneModel" "high" "[I") (by decide +kernel)) (fun _ h9 => h9) rfl dX12_put_69 ?_
      refine lv_iload_n hx hb dX12_put_72 rfl (lv_at hl 3 rfl) ?_
      refine va_iald hx hb hK hP 8 0 rfl rfl (vin (it79 hn b_1) (by decide)) dX12_put_73 ?_
      refine lv_istore (lv' := [(8, .int (u.2 8 (p0 : Int32).toNatClampNeg)), (7, .int 1), (6, .int 2), (0, .ref h0), (1, .int p0), (2, .int p1), (3, .int p2), (4, .int p3), (5, .int p4)]) hx hb dX12_put_74 hl (by decide) rfl (fun ls hl => ?_)
      refine lv_iload hx hb dX12_put_76 (lv_at hl 2 rfl) ?_
      refine lv_iconst (v := 2) hx hb dX12_put_78 (by decide) ?_
      refine lv_icmp_ne (tgt := 127) hx hb dX12_put_79 (by decide) (fun c_9 => absurd (by decide) c_9) (fun c_9 => ?_)
      refine lv_iload hx hb dX12_put_82 (lv_at hl 8 rfl) ?_
      refine lv_iconst (v := 0) hx hb dX12_put_84 (by decide) ?_
      refine lv_aload_n hx hb dX12_put_85 rfl (lv_at hl 3 rfl) ?_
      refine va_get (D := (dC, dI)) (ci := 11) (v := .ref (v 17)) (C := RX12) (T := TX12) (N := 52) hx hb hts (by decide +kernel) hown hK hP 0 rfl rfl 17 (by decide) (hts (.fieldLink RX12 58 "PageOneModel" "sizes" "[I") (by decide +kernel)) (fun _ h9 => h9) rfl dX12_put_86 ?_
      refine lv_iload_n hx hb dX12_put_89 rfl (lv_at hl 4 rfl) ?_
      refine va_iald hx hb hK hP 17 0 rfl rfl (vin (it79 hn b_1) (by decide)) dX12_put_90 ?_
      refine lv_iconst (v := 1) hx hb dX12_put_91 (by decide) ?_
      refine lv_isub hx hb dX12_put_92 ?_
      refine vp_callSi (va_runS (As := [.int p4, .int 0, .int ((u.2 17 (p0 : Int32).toNatClampNeg) - 1)]) (rest := []) ⟨hx, hb, hml, hown, hts⟩ (m_in l dC dI p4 0 ((u.2 17 (p0 : Int32).toNatClampNeg) - 1)) (va_cwS 3 hts gX12_put_X12_in rfl rfl rfl (by decide +kernel) ⟨Nat.le_of_ble_eq_true rfl, Nat.le_of_ble_eq_true rfl⟩) ⟨pw_fb, fun U hU hW => ⟨rfl, pw_to hU hW (hP.sub (ws' := []) [] rfl) (hK.sub (tys' := []) [] rfl) hN⟩⟩ rfl rfl hl.1 rfl (lv_room (Nat.le_of_ble_eq_true rfl)) dX12_put_93 ⟨Nat.le_of_ble_eq_true rfl, Nat.le_of_ble_eq_true rfl⟩).run (fun r hw => ?_)
      rcases Bool.eq_false_or_eq_true (bw p4 0 ((u.2 17 (p0 : Int32).toNatClampNeg) - 1)) with b_10 | b_10
      ·
        obtain rfl : r = 1 := b_t hw b_10
        refine lv_if_ne (tgt := 101) hx hb dX12_put_96 (by decide) (fun c_11 => ?_) (fun c_11 => absurd c_11 (by decide))
        refine lv_aload_n hx hb dX12_put_101 rfl (lv_at hl 3 rfl) ?_
        refine va_get (D := (dC, dI)) (ci := 11) (v := .ref (v 18)) (C := RX12) (T := TX12) (N := 52) hx hb hts (by decide +kernel) hown hK hP 0 rfl rfl 18 (by decide) (hts (.fieldLink RX12 61 "PageOneModel" "sizeW" "[I") (by decide +kernel)) (fun _ h9 => h9) rfl dX12_put_102 ?_
        refine lv_iconst (v := 4) hx hb dX12_put_105 (by decide) ?_
        refine lv_iload_n hx hb dX12_put_106 rfl (lv_at hl 4 rfl) ?_
        refine lv_imul hx hb dX12_put_107 ?_
        refine lv_iload hx hb dX12_put_108 (lv_at hl 8 rfl) ?_
        refine lv_iadd hx hb dX12_put_110 ?_
        refine va_iald hx hb hK hP 18 0 rfl rfl (vSz (it79 hn b_1) (hsz _ (vlt (vin (it79 hn b_1) (by decide)))) b_10) dX12_put_111 ?_
        refine lv_istore (lv' := [(7, .int (u.2 18 (((4 * p0) + p4) : Int32).toNatClampNeg)), (8, .int (u.2 8 (p0 : Int32).toNatClampNeg)), (6, .int 2), (0, .ref h0), (1, .int p0), (2, .int p1), (3, .int p2), (4, .int p3), (5, .int p4)]) hx hb dX12_put_112 hl (by decide) rfl (fun ls hl => ?_)
        refine lv_aload_n hx hb dX12_put_114 rfl (lv_at hl 3 rfl) ?_
        refine va_get (D := (dC, dI)) (ci := 11) (v := .ref (v 19)) (C := RX12) (T := TX12) (N := 52) hx hb hts (by decide +kernel) hown hK hP 0 rfl rfl 19 (by decide) (hts (.fieldLink RX12 64 "PageOneModel" "sizeH" "[I") (by decide +kernel)) (fun _ h9 => h9) rfl dX12_put_115 ?_
        refine lv_iconst (v := 4) hx hb dX12_put_118 (by decide) ?_
        refine lv_iload_n hx hb dX12_put_119 rfl (lv_at hl 4 rfl) ?_
        refine lv_imul hx hb dX12_put_120 ?_
        refine lv_iload hx hb dX12_put_121 (lv_at hl 8 rfl) ?_
        refine lv_iadd hx hb dX12_put_123 ?_
        refine va_iald hx hb hK hP 19 0 rfl rfl (vSz (it79 hn b_1) (hsz _ (vlt (vin (it79 hn b_1) (by decide)))) b_10) dX12_put_124 ?_
        refine lv_istore (lv' := [(8, .int (u.2 19 (((4 * p0) + p4) : Int32).toNatClampNeg)), (7, .int (u.2 18 (((4 * p0) + p4) : Int32).toNatClampNeg)), (6, .int 2), (0, .ref h0), (1, .int p0), (2, .int p1), (3, .int p2), (4, .int p3), (5, .int p4)]) hx hb dX12_put_125 hl (by decide) rfl (fun ls hl => ?_)
        refine lv_iload hx hb dX12_put_127 (lv_at hl 2 rfl) ?_
        refine lv_if_eq (tgt := 149) hx hb dX12_put_129 (by decide) (fun c_12 => absurd c_12 (by decide)) (fun c_12 => ?_)
        refine lv_iload hx hb dX12_put_132 (lv_at hl 2 rfl) ?_
        refine lv_iconst (v := 4) hx hb dX12_put_134 (by decide) ?_
        refine lv_icmp_eq (tgt := 149) hx hb dX12_put_135 (by decide) (fun c_13 => absurd c_13 (by decide)) (fun c_13 => ?_)
        refine lv_iload hx hb dX12_put_138 (lv_at hl 2 rfl) ?_
        refine lv_iconst (v := 2) hx hb dX12_put_140 (by decide) ?_
        refine lv_icmp_eq (tgt := 149) hx hb dX12_put_141 (by decide) (fun c_14 => ?_) (fun c_14 => absurd (by decide) c_14)
        refine lv_iconst (v := 1) hx hb dX12_put_149 (by decide) ?_
        refine lv_goto (tgt := 154) hx hb dX12_put_150 (by decide) ?_
        refine lv_istore (lv' := [(9, .int 1), (8, .int (u.2 19 (((4 * p0) + p4) : Int32).toNatClampNeg)), (7, .int (u.2 18 (((4 * p0) + p4) : Int32).toNatClampNeg)), (6, .int 2), (0, .ref h0), (1, .int p0), (2, .int p1), (3, .int p2), (4, .int p3), (5, .int p4)]) hx hb dX12_put_154 hl (by decide) rfl (fun ls hl => ?_)
        refine lv_iload hx hb dX12_put_156 (lv_at hl 0 rfl) ?_
        refine lv_if_eq (tgt := 200) hx hb dX12_put_158 (by decide) (fun c_15 => absurd c_15 (by decide)) (fun c_15 => ?_)
        refine lv_iload hx hb dX12_put_161 (lv_at hl 1 rfl) ?_
        refine lv_iconst (v := 1) hx hb dX12_put_163 (by decide) ?_
        refine lv_icmp_lt (tgt := 200) hx hb dX12_put_164 (by decide) (fun c_16 => ?_) (fun c_16 => ?_)
        ·
          refine lv_iconst (v := 0) hx hb dX12_put_200 (by decide) ?_
          refine lv_istore (lv' := [(9, .int 0), (8, .int (u.2 19 (((4 * p0) + p4) : Int32).toNatClampNeg)), (7, .int (u.2 18 (((4 * p0) + p4) : Int32).toNatClampNeg)), (6, .int 2), (0, .ref h0), (1, .int p0), (2, .int p1), (3, .int p2), (4, .int p3), (5, .int p4)]) hx hb dX12_put_201 hl (by decide) rfl (fun ls hl => ?_)
          refine lv_iload hx hb dX12_put_203 (lv_at hl 0 rfl) ?_
          refine lv_if_ne (tgt := 210) hx hb dX12_put_205 (by decide) (fun c_17 => absurd (by decide) c_17) (fun c_17 => ?_)
          refine lv_iconst (v := (-1)) hx hb dX12_put_208 (by decide) ?_
          exact W.iret (v := (-1)) hx hb hr (fun t ht hW => ⟨⟨(-1), u, rfl, (Or.inl ⟨rfl, (fun h => h.2.2.2.1 c_16), Or.inl rfl⟩), by rw [ht]; exact hP, hD⟩, hS.F ht⟩) hS.2.2 dX12_put_209
        ·
          refine lv_iload hx hb dX12_put_167 (lv_at hl 3 rfl) ?_
          refine lv_if_eq (tgt := 181) hx hb dX12_put_169 (by decide) (fun c_18 => absurd c_18 (by decide)) (fun c_18 => ?_)
          refine lv_aload_n hx hb dX12_put_172 rfl (lv_at hl 4 rfl) ?_
          refine va_get (D := (dC, dI)) (ci := 11) (v := .ref (v 22)) (C := RX12) (T := TX12) (N := 52) hx hb hts (by decide +kernel) hown hK hP 0 rfl rfl 22 (by decide) (hts (.fieldLink RX12 74 "PageOneModel" "pieces" "[I") (by decide +kernel)) (fun _ h9 => h9) rfl dX12_put_173 ?_
          refine lv_iload_n hx hb dX12_put_176 rfl (lv_at hl 5 rfl) ?_
          refine va_iald hx hb hK hP 22 0 rfl rfl (vin (it79 hn b_1) (by decide)) dX12_put_177 ?_
          refine lv_if_ne (tgt := 200) hx hb dX12_put_178 (by decide) (fun c_19 => ?_) (fun c_19 => ?_)
          ·
            refine lv_iconst (v := 0) hx hb dX12_put_200 (by decide) ?_
            refine lv_istore (lv' := [(9, .int 0), (8, .int (u.2 19 (((4 * p0) + p4) : Int32).toNatClampNeg)), (7, .int (u.2 18 (((4 * p0) + p4) : Int32).toNatClampNeg)), (6, .int 2), (0, .ref h0), (1, .int p0), (2, .int p1), (3, .int p2), (4, .int p3), (5, .int p4)]) hx hb dX12_put_201 hl (by decide) rfl (fun ls hl => ?_)
            refine lv_iload hx hb dX12_put_203 (lv_at hl 0 rfl) ?_
            refine lv_if_ne (tgt := 210) hx hb dX12_put_205 (by decide) (fun c_20 => absurd (by decide) c_20) (fun c_20 => ?_)
            refine lv_iconst (v := (-1)) hx hb dX12_put_208 (by decide) ?_
            exact W.iret (v := (-1)) hx hb hr (fun t ht hW => ⟨⟨(-1), u, rfl, (Or.inl ⟨rfl, (fun h => c_19 h.2.2.2.2.1), Or.inl rfl⟩), by rw [ht]; exact hP, hD⟩, hS.F ht⟩) hS.2.2 dX12_put_209
          ·
            refine lv_aload_n hx hb dX12_put_181 rfl (lv_at hl 4 rfl) ?_
            refine lv_iload_n hx hb dX12_put_182 rfl (lv_at hl 6 rfl) ?_
            refine lv_iload_n hx hb dX12_put_183 rfl (lv_at hl 7 rfl) ?_
            refine lv_iload hx hb dX12_put_184 (lv_at hl 8 rfl) ?_
            refine lv_iload hx hb dX12_put_186 (lv_at hl 2 rfl) ?_
            refine lv_iload hx hb dX12_put_188 (lv_at hl 1 rfl) ?_
            refine vp_callSi (va_runV (As := [.int p1, .int p2, .int p3, .int (u.2 18 (((4 * p0) + p4) : Int32).toNatClampNeg), .int (u.2 19 (((4 * p0) + p4) : Int32).toNatClampNeg)]) (rest := []) ⟨hx, hb, hml, hown, hts⟩ (m_isFree l dC dI h0 v cI cZ u p1 p2 p3 (u.2 18 (((4 * p0) + p4) : Int32).toNatClampNeg) (u.2 19 (((4 * p0) + p4) : Int32).toNatClampNeg) hln) (cwV 5 hts gX12_put_X12_isFree rfl rfl rfl (by decide +kernel) ⟨Nat.le_of_ble_eq_true rfl, Nat.le_of_ble_eq_true rfl⟩) ⟨pw_fb, va_recv hK hP (ci := 11) (q0 := 0) rfl rfl, fun U hU hW => ⟨rfl, pw_to hU hW hP hK hN⟩⟩ rfl rfl hl.1 rfl (lv_room (Nat.le_of_ble_eq_true rfl)) dX12_put_190 ⟨Nat.le_of_ble_eq_true rfl, Nat.le_of_ble_eq_true rfl⟩).run (fun r hw => ?_)
            have hit := b_1
            have hi := it79 hn hit
            have h300 := c_3
            rcases hw with ⟨hw, hfree⟩ | ⟨hw, hfree⟩
            ·
              subst hw
              have hfree0 := hfree
              obtain ⟨P, X, Y, D, N, eP, eX, eY, eD, eN, hPP, hXW, hYN, hDD1, hN1⟩ := free_rect hln hfree
              subst eP eX eY
              rw [eD] at hl
              rw [eN] at hl
              refine lv_if_eq (tgt := 200) hx hb dX12_put_193 (by decide) (fun c_21 => absurd c_21 (by decide)) (fun c_21 => ?_)
              refine lv_iconst (v := 1) hx hb dX12_put_196 (by decide) ?_
              refine lv_goto (tgt := 201) hx hb dX12_put_197 (by decide) ?_
              refine lv_istore (lv' := [(9, .int 1), (8, .int (nI N)), (7, .int (nI D)), (6, .int 2), (0, .ref h0), (1, .int p0), (2, .int (nI P)), (3, .int (nI X)), (4, .int (nI Y)), (5, .int p4)]) hx hb dX12_put_201 hl (by decide) rfl (fun ls hl => ?_)
              refine lv_iload hx hb dX12_put_203 (lv_at hl 0 rfl) ?_
              refine lv_if_ne (tgt := 210) hx hb dX12_put_205 (by decide) (fun c_22 => ?_) (fun c_22 => absurd c_22 (by decide))
              refine lv_iload hx hb dX12_put_210 (lv_at hl 3 rfl) ?_
              refine lv_tableIn (tgt := 343) (off := 131) hx hb dX12_put_212 (by decide) (by decide) (by decide) (by decide) ?_
              refine lv_iload hx hb dX12_put_343 (lv_at hl 0 rfl) ?_
              refine lv_if_ne (tgt := 350) hx hb dX12_put_345 (by decide) (fun c_23 => ?_) (fun c_23 => absurd c_23 (by decide))
              refine lv_aload_n hx hb dX12_put_350 rfl (lv_at hl 4 rfl) ?_
              refine lv_iload_n hx hb dX12_put_351 rfl (lv_at hl 5 rfl) ?_
              refine lv_iload_n hx hb dX12_put_352 rfl (lv_at hl 6 rfl) ?_
              refine lv_iload_n hx hb dX12_put_353 rfl (lv_at hl 7 rfl) ?_
              refine lv_iload hx hb dX12_put_354 (lv_at hl 8 rfl) ?_
              refine lv_iload hx hb dX12_put_356 (lv_at hl 2 rfl) ?_
              refine lv_iload hx hb dX12_put_358 (lv_at hl 1 rfl) ?_
              have hFc := fr_all hD hS hA
              refine va_callv (va_runV (As := [.int p0, .int (nI P), .int (nI X), .int (nI Y), .int (nI D), .int (nI N)]) (rest := []) ⟨hx, hb, hml, hown, hts⟩ (m_stand l dC dI h0 v cI cZ u p0 P X Y D N hPP hXW hYN hi (z05 c_19) s.heap.size) (cwV 6 hts gX12_put_X12_stand rfl rfl rfl (by decide +kernel) ⟨Nat.le_of_ble_eq_true rfl, Nat.le_of_ble_eq_true rfl⟩) ⟨gw_fb, va_recv hK hP (ci := 11) (q0 := 0) rfl rfl, fun U hU hW => ⟨rfl, by rw [hU], pw_to hU hW hP hK hN, hD.weaken (fun _ _ _ _ => trivial)⟩⟩ rfl rfl hl.1 rfl (lv_room (Nat.le_of_ble_eq_true rfl)) dX12_put_360 ⟨Nat.le_of_ble_eq_true rfl, Nat.le_of_ble_eq_true rfl⟩) hS (fun q _ h => hFc q h) hFc (fun u_24 t H1 locs ht hvm hw hB hz1 hk1 hS => ?_)
              obtain ⟨hP, hD1⟩ := hB
              rw [ht] at hP
              have hD := hD1.weaken (fun _ q _ h => hFc q.1 h)
              generalize H1 = H at hP hS ⊢
              have eu_24 := hw
              refine lv_aload_n hx hb dX12_put_363 rfl (lv_at hl 4 rfl) ?_
              refine lv_iconst (v := 0) hx hb dX12_put_364 (by decide) ?_
              refine lv_iload_n hx hb dX12_put_365 rfl (lv_at hl 5 rfl) ?_
              refine lv_iconst (v := 0) hx hb dX12_put_366 (by decide) ?_
              refine lv_iconst (v := 0) hx hb dX12_put_367 (by decide) ?_
              refine lv_iconst (v := 0) hx hb dX12_put_368 (by decide) ?_
              refine lv_iconst (v := 0) hx hb dX12_put_369 (by decide) ?_
              refine lv_iconst (v := 0) hx hb dX12_put_370 (by decide) ?_
              have hFc := fr_all hD hS hA
              refine va_callv (va_runV (As := [.int 0, .int p0, .int 0, .int 0, .int 0, .int 0, .int 0]) (rest := []) ⟨hx, hb, hml, hown, hts⟩ (m_acts l dC dI h0 v cI cZ u_24 0 p0 0 0 0 0 0 (by rw [eu_24]; show bw (u.1 28) 0 299 = true; exact v300 ha h300) H.size) (cwV 7 hts gX12_put_X12_acts rfl rfl rfl (by decide +kernel) ⟨Nat.le_of_ble_eq_true rfl, Nat.le_of_ble_eq_true rfl⟩) ⟨gw_fb, va_recv hK hP (ci := 11) (q0 := 0) rfl rfl, fun U hU hW => ⟨rfl, by rw [hU], pw_to hU hW hP hK hN, hD.weaken (fun _ _ _ _ => trivial)⟩⟩ rfl rfl hl.1 rfl (lv_room (Nat.le_of_ble_eq_true rfl)) dX12_put_371 ⟨Nat.le_of_ble_eq_true rfl, Nat.le_of_ble_eq_true rfl⟩) hS (fun q _ h => hFc q h) hFc (fun u_25 t H1 locs ht hvm hw hB hz1 hk1 hS => ?_)
              obtain ⟨hP, hD1⟩ := hB
              rw [ht] at hP
              have hD := hD1.weaken (fun _ q _ h => hFc q.1 h)
              generalize H1 = H at hP hS ⊢
              have eu_25 := hw
              refine lv_aload_n hx hb dX12_put_374 rfl (lv_at hl 4 rfl) ?_
              refine va_get (D := (dC, dI)) (ci := 11) (v := .ref (v 22)) (C := RX12) (T := TX12) (N := 52) hx hb hts (by decide +kernel) hown hK hP 0 rfl rfl 22 (by decide) (hts (.fieldLink RX12 74 "PageOneModel" "pieces" "[I") (by decide +kernel)) (fun _ h9 => h9) rfl dX12_put_375 ?_
              refine lv_iload_n hx hb dX12_put_378 rfl (lv_at hl 5 rfl) ?_
              refine va_iald hx hb hK hP 22 0 rfl rfl (vin (it79 hn b_1) (by decide)) dX12_put_379 ?_
              exact W.iret (v := (u_25.2 22 (p0 : Int32).toNatClampNeg)) hx hb hr (fun t ht hW => ⟨⟨(u_25.2 22 (p0 : Int32).toNatClampNeg), u_25, rfl, (Or.inr ⟨⟨hit, h300, b_10, c_16, c_19, hfree0, trivial⟩, (by rw [eu_25, eu_24, putR]), P, X, Y, D, N, rfl, rfl, rfl, eD, eN, hPP, hXW, hYN, hDD1, hN1, (Or.inl (by rw [eu_25, eu_24]))⟩), by rw [ht]; exact hP, hD⟩, hS.F ht⟩) hS.2.2 dX12_put_380
            ·
              subst hw
              refine lv_if_eq (tgt := 200) hx hb dX12_put_193 (by decide) (fun c_26 => ?_) (fun c_26 => absurd (by decide) c_26)
              refine lv_iconst (v := 0) hx hb dX12_put_200 (by decide) ?_
              refine lv_istore (lv' := [(9, .int 0), (8, .int (u.2 19 (((4 * p0) + p4) : Int32).toNatClampNeg)), (7, .int (u.2 18 (((4 * p0) + p4) : Int32).toNatClampNeg)), (6, .int 2), (0, .ref h0), (1, .int p0), (2, .int p1), (3, .int p2), (4, .int p3), (5, .int p4)]) hx hb dX12_put_201 hl (by decide) rfl (fun ls hl => ?_)
              refine lv_iload hx hb dX12_put_203 (lv_at hl 0 rfl) ?_
              refine lv_if_ne (tgt := 210) hx hb dX12_put_205 (by decide) (fun c_27 => absurd (by decide) c_27) (fun c_27 => ?_)
              refine lv_iconst (v := (-1)) hx hb dX12_put_208 (by decide) ?_
              exact W.iret (v := (-1)) hx hb hr (fun t ht hW => ⟨⟨(-1), u, rfl, (Or.inl ⟨rfl, (fun h => hfree h.2.2.2.2.2.1), Or.inl rfl⟩), by rw [ht]; exact hP, hD⟩, hS.F ht⟩) hS.2.2 dX12_put_209
      ·
        obtain rfl : r = 0 := b_f hw b_10
        refine lv_if_ne (tgt := 101) hx hb dX12_put_96 (by decide) (fun c_28 => absurd (by decide) c_28) (fun c_28 => ?_)
        refine lv_iconst (v := (-1)) hx hb dX12_put_99 (by decide) ?_
        exact W.iret (v := (-1)) hx hb hr (fun t ht hW => ⟨⟨(-1), u, rfl, (Or.inl ⟨rfl, (fun h => bne b_10 h.2.2.1), Or.inl rfl⟩), by rw [ht]; exact hP, hD⟩, hS.F ht⟩) hS.2.2 dX12_put_100
    ·
      refine lv_iconst (v := (-1)) hx hb dX12_put_18 (by decide) ?_
      exact W.iret (v := (-1)) hx hb hr (fun t ht hW => ⟨⟨(-1), u, rfl, (Or.inl ⟨rfl, (fun h => h.2.1 c_3), Or.inl rfl⟩), by rw [ht]; exact hP, hD⟩, hS.F ht⟩) hS.2.2 dX12_put_19
  ·
    obtain rfl : r = 0 := b_f hw b_1
    refine lv_if_eq (tgt := 18) hx hb dX12_put_5 (by decide) (fun c_29 => ?_) (fun c_29 => absurd (by decide) c_29)
    refine lv_iconst (v := (-1)) hx hb dX12_put_18 (by decide) ?_
    exact W.iret (v := (-1)) hx hb hr (fun t ht hW => ⟨⟨(-1), u, rfl, (Or.inl ⟨rfl, (fun h => bne b_1 h.1), Or.inl rfl⟩), by rw [ht]; exact hP, hD⟩, hS.F ht⟩) hS.2.2 dX12_put_19
set_option maxHeartbeats 4000000 in
set_option maxRecDepth 100000 in
theorem o_put3 (l : Launch) (dC : Nat → ClassId) (dI : Nat → Nat → Nat) (h0 : Nat) (v : Nat → Nat) (cI cZ : ClassId) (u : mS) (p0 p1 p2 p3 p4 : Int32) (hn : bw (u.1 3) 0 80 = true) (hln : ∀ j, j < 96 → bw (u.2 0 j) 0 60 = true) (hd : bw (u.1 38) 0 399 = true) (ha : bw (u.1 28) 0 300 = true) (hpc : ∀ j, j < 80 → bw (u.2 22 j) 0 6 = true) (hcm : ∀ j, j < 80 → bw (u.2 15 j) 0 80 = true) (hsz : ∀ j, j < 80 → bw (u.2 17 j) 0 4 = true) (hfr : bw p0 0 79 = true → ∀ P X Y N : Nat, P < 12 → X + 1 ≤ 8 → 1 ≤ N → Y + N ≤ 60 → ¬ u.2 22 p0.toNatClampNeg = 6 → runG (mStand u p0 P X Y 1 N) p0 (u.2 22 p0.toNatClampNeg) → 0 ≤ (mFrom (mStand u p0 P X Y 1 N) p0 (u.2 22 p0.toNatClampNeg).toNatClampNeg).toInt ∧ (mFrom (mStand u p0 P X Y 1 N) p0 (u.2 22 p0.toNatClampNeg).toNatClampNeg).toInt ≤ 400 ∧ (mTakes (mStand u p0 P X Y 1 N) p0 (u.2 22 p0.toNatClampNeg)).toInt ≤ 60) (hK9 : bw p0 0 (u.1 3 - 1) = true → u.2 4 p0.toNatClampNeg = 3) (sz : Nat) : Met l yX12_put wsX12_put ({ frames := 4, cells := 0, slots := 0, locals := 106 }) (va_Pc [.ref h0, .int p0, .int p1, .int p2, .int p3, .int p4] (fun U => U.heap.size = sz ∧ PW dC dI (mW h0 v cI cZ u) [(cI, .int), (cZ, .boolean)] U ∧ va_D (fun _ => True) (mW h0 v cI cZ u))) (va_Qi (fun (r : Int32) (u9 : mS) => rPut u p0 p1 p2 p3 (u.2 7 p0.toNatClampNeg) (u.2 8 p0.toNatClampNeg) (okP3 u p0 p1 p2 p3 p4) r u9) (fun u9 t => va_P (dC, dI) vwCl (mW h0 v cI cZ u9) t.heap ∧ va_D (va_A (mW h0 v cI cZ u) sz) (mW h0 v cI cZ u9)) (va_A (mW h0 v cI cZ u) sz)) 0 0 (va_A (mW h0 v cI cZ u) sz) := by
  refine Met.ofW (cc := cX12_put) (maxL := 10) (ret := (some .int)) (by decide) rfl ?_
  intro p e s m args below meth c s₁ B hml hv
  obtain ⟨rfl, hsz, ⟨hP, hK, hN⟩, hD0⟩ := hv
  have hx := B.exec
  have hb := B.bytes
  have hr := B.returns
  have hts := atoms_spec (ws := wsX12_put) B.pre
  have hown : s.vm.findClass RX12 = some m.cls := findClass_of_methodNamed B.named
  have hlocks := B.notSynchronized
  subst hsz
  have hD := hD0.self (sz := s.heap.size)
  generalize hAe : va_A (mW h0 v cI cZ u) s.heap.size = A at hD ⊢
  have hA : ∀ q : Nat, s.heap.size ≤ q → A q := fun q h => by rw [← hAe]; exact Or.inr h
  have hS : va_S A s.heap s.heap [] := va_S.rf
  have hl := lv_entry ([.ref h0, .int p0, .int p1, .int p2, .int p3, .int p4]) (n := 10) (Nat.le_of_ble_eq_true rfl)
  rw [lg_entry_eq]
  generalize (lg_sl ([.ref h0, .int p0, .int p1, .int p2, .int p3, .int p4]) ++ List.replicate (10 - (lg_sl ([.ref h0, .int p0, .int p1, .int p2, .int p3, .int p4])).length) Slot.unset).toArray = ls at hl ⊢
  have hl : lv_has ls 10 [(0, .ref h0), (1, .int p0), (2, .int p1), (3, .int p2), (4, .int p3), (5, .int p4)] := hl
  refine lv_aload_n hx hb dX12_put_0 rfl (lv_at hl 0 rfl) ?_
  refine lv_iload_n hx hb dX12_put_1 rfl (lv_at hl 1 rfl) ?_
  refine vp_callSi (va_runV (As := [.int p0]) (rest := []) ⟨hx, hb, hml, hown, hts⟩ (m_isItem l dC dI h0 v cI cZ u p0) (cwV 1 hts gX12_put_X12_isItem rfl rfl rfl (by decide +kernel) ⟨Nat.le_of_ble_eq_true rfl, Nat.le_of_ble_eq_true rfl⟩) ⟨pw_fb, va_recv hK hP (ci := 11) (q0 := 0) rfl rfl, fun U hU hW => ⟨rfl, pw_to hU hW hP hK hN⟩⟩ rfl rfl hl.1 rfl (lv_room (Nat.le_of_ble_eq_true rfl)) dX12_put_2 ⟨Nat.le_of_ble_eq_true rfl, Nat.le_of_ble_eq_true rfl⟩).run (fun r hw => ?_)
  rcases Bool.eq_false_or_eq_true (bw p0 0 (u.1 3 - 1)) with b_1 | b_1
  ·
    obtain rfl : r = 1 := b_t hw b_1
    refine lv_if_eq (tgt := 18) hx hb dX12_put_5 (by decide) (fun c_2 => absurd c_2 (by decide)) (fun c_2 => ?_)
    refine lv_aload_n hx hb dX12_put_8 rfl (lv_at hl 0 rfl) ?_
    refine va_get (D := (dC, dI)) (ci := 11) (v := .int (u.1 28)) (C := RX12) (T := TX12) (N := 52) hx hb hts (by decide +kernel) hown hK hP 0 rfl rfl 28 (by decide) (hts (.fieldLink RX12 158 "PageOneModel" "acts" "I") (by decide +kernel)) (fun _ h9 => h9) rfl dX12_put_9 ?_
    refine lv_sipush (v := 300) hx hb dX12_put_12 (by decide) ?_
    refine lv_icmp_ne (tgt := 20) hx hb dX12_put_15 (by decide) (fun c_3 => ?_) (fun c_3 => ?_)
    ·
      refine lv_aload_n hx hb dX12_put_20 rfl (lv_at hl 0 rfl) ?_
      refine va_get (D := (dC, dI)) (ci := 11) (v := .ref (v 4)) (C := RX12) (T := TX12) (N := 52) hx hb hts (by decide +kernel) hown hK hP 0 rfl rfl 4 (by decide) (hts (.fieldLink RX12 19 "PageOneModel" "kind" "[I") (by decide +kernel)) (fun _ h9 => h9) rfl dX12_put_21 ?_
      refine lv_iload_n hx hb dX12_put_24 rfl (lv_at hl 1 rfl) ?_
      refine va_iald hx hb hK hP 4 0 rfl rfl (vin (it79 hn b_1) (by decide)) dX12_put_25 ?_
      refine lv_topi (fun y_4 ey_4 => ?_)
      obtain rfl : y_4 = 3 := ey_4.trans (hK9 b_1)
      refine lv_istore (lv' := [(6, .int 3), (0, .ref h0), (1, .int p0), (2, .int p1), (3, .int p2), (4, .int p3), (5, .int p4)]) hx hb dX12_put_26 hl (by decide) rfl (fun ls hl => ?_)
      refine lv_iload hx hb dX12_put_28 (lv_at hl 0 rfl) ?_
      refine lv_iconst (v := 1) hx hb dX12_put_30 (by decide) ?_
      refine lv_icmp_eq (tgt := 40) hx hb dX12_put_31 (by decide) (fun c_5 => absurd c_5 (by decide)) (fun c_5 => ?_)
      refine lv_iload hx hb dX12_put_34 (lv_at hl 0 rfl) ?_
      refine lv_iconst (v := 3) hx hb dX12_put_36 (by decide) ?_
      refine lv_icmp_ne (tgt := 49) hx hb dX12_put_37 (by decide) (fun c_6 => absurd (by decide) c_6) (fun c_6 => ?_)
      refine lv_aload_n hx hb dX12_put_40 rfl (lv_at hl 1 rfl) ?_
      refine va_get (D := (dC, dI)) (ci := 11) (v := .ref (v 7)) (C := RX12) (T := TX12) (N := 52) hx hb hts (by decide +kernel) hown hK hP 0 rfl rfl 7 (by decide) (hts (.fieldLink RX12 28 "PageOneModel" "wide" "[I") (by decide +kernel)) (fun _ h9 => h9) rfl dX12_put_41 ?_
      refine lv_iload_n hx hb dX12_put_44 rfl (lv_at hl 2 rfl) ?_
      refine va_iald hx hb hK hP 7 0 rfl rfl (vin (it79 hn b_1) (by decide)) dX12_put_45 ?_
      refine lv_goto (tgt := 50) hx hb dX12_put_46 (by decide) ?_
      refine lv_istore (lv' := [(7, .int (u.2 7 (p0 : Int32).toNatClampNeg)), (6, .int 3), (0, .ref h0), (1, .int p0), (2, .int p1), (3, .int p2), (4, .int p3), (5, .int p4)]) hx hb dX12_put_50 hl (by decide) rfl (fun ls hl => ?_)
      refine lv_iload hx hb dX12_put_52 (lv_at hl 1 rfl) ?_
      refine lv_if_eq (tgt := 63) hx hb dX12_put_54 (by decide) (fun c_7 => absurd c_7 (by decide)) (fun c_7 => ?_)
      refine lv_iload hx hb dX12_put_57 (lv_at hl 1 rfl) ?_
      refine lv_iconst (v := 4) hx hb dX12_put_59 (by decide) ?_
      refine lv_icmp_ne (tgt := 68) hx hb dX12_put_60 (by decide) (fun c_8 => ?_) (fun c_8 => absurd c_8 (by decide))
      refine lv_aload_n hx hb dX12_put_68 rfl (lv_at hl 2 rfl) ?_
      refine va_get (D := (dC, dI)) (ci := 11) (v := .ref (v 8)) (C := RX12) (T := TX12) (N := 52) hx hb hts (by decide +kernel) hown hK hP 0 rfl rfl 8 (by decide) (hts (.fieldLink RX12 31 "PageOneModel" "high" "[I") (by decide +kernel)) (fun _ h9 => h9) rfl dX12_put_69 ?_
      refine lv_iload_n hx hb dX12_put_72 rfl (lv_at hl 3 rfl) ?_
      refine va_iald hx hb hK hP 8 0 rfl rfl (vin (it79 hn b_1) (by decide)) dX12_put_73 ?_
      refine lv_istore (lv' := [(8, .int (u.2 8 (p0 : Int32).toNatClampNeg)), (7, .int (u.2 7 (p0 : Int32).toNatClampNeg)), (6, .int 3), (0, .ref h0), (1, .int p0), (2, .int p1), (3, .int p2), (4, .int p3), (5, .int p4)]) hx hb dX12_put_74 hl (by decide) rfl (fun ls hl => ?_)
      refine lv_iload hx hb dX12_put_76 (lv_at hl 2 rfl) ?_
      refine lv_iconst (v := 2) hx hb dX12_put_78 (by decide) ?_
      refine lv_icmp_ne (tgt := 127) hx hb dX12_put_79 (by decide) (fun c_9 => ?_) (fun c_9 => absurd c_9 (by decide))
      refine lv_iload hx hb dX12_put_127 (lv_at hl 2 rfl) ?_
      refine lv_if_eq (tgt := 149) hx hb dX12_put_129 (by decide) (fun c_10 => absurd c_10 (by decide)) (fun c_10 => ?_)
      refine lv_iload hx hb dX12_put_132 (lv_at hl 2 rfl) ?_
      refine lv_iconst (v := 4) hx hb dX12_put_134 (by decide) ?_
      refine lv_icmp_eq (tgt := 149) hx hb dX12_put_135 (by decide) (fun c_11 => absurd c_11 (by decide)) (fun c_11 => ?_)
      refine lv_iload hx hb dX12_put_138 (lv_at hl 2 rfl) ?_
      refine lv_iconst (v := 2) hx hb dX12_put_140 (by decide) ?_
      refine lv_icmp_eq (tgt := 149) hx hb dX12_put_141 (by decide) (fun c_12 => absurd c_12 (by decide)) (fun c_12 => ?_)
      refine lv_iload hx hb dX12_put_144 (lv_at hl 8 rfl) ?_
      refine lv_if_ne (tgt := 153) hx hb dX12_put_146 (by decide) (fun c_13 => ?_) (fun c_13 => ?_)
      ·
        refine lv_iconst (v := 0) hx hb dX12_put_153 (by decide) ?_
        refine lv_istore (lv' := [(9, .int 0), (8, .int (u.2 8 (p0 : Int32).toNatClampNeg)), (7, .int (u.2 7 (p0 : Int32).toNatClampNeg)), (6, .int 3), (0, .ref h0), (1, .int p0), (2, .int p1), (3, .int p2), (4, .int p3), (5, .int p4)]) hx hb dX12_put_154 hl (by decide) rfl (fun ls hl => ?_)
        refine lv_iload hx hb dX12_put_156 (lv_at hl 0 rfl) ?_
        refine lv_if_eq (tgt := 200) hx hb dX12_put_158 (by decide) (fun c_14 => ?_) (fun c_14 => absurd (by decide) c_14)
        refine lv_iconst (v := 0) hx hb dX12_put_200 (by decide) ?_
        refine lv_istore (lv' := [(9, .int 0), (8, .int (u.2 8 (p0 : Int32).toNatClampNeg)), (7, .int (u.2 7 (p0 : Int32).toNatClampNeg)), (6, .int 3), (0, .ref h0), (1, .int p0), (2, .int p1), (3, .int p2), (4, .int p3), (5, .int p4)]) hx hb dX12_put_201 hl (by decide) rfl (fun ls hl => ?_)
        refine lv_iload hx hb dX12_put_203 (lv_at hl 0 rfl) ?_
        refine lv_if_ne (tgt := 210) hx hb dX12_put_205 (by decide) (fun c_15 => absurd (by decide) c_15) (fun c_15 => ?_)
        refine lv_iconst (v := (-1)) hx hb dX12_put_208 (by decide) ?_
        exact W.iret (v := (-1)) hx hb hr (fun t ht hW => ⟨⟨(-1), u, rfl, (Or.inl ⟨rfl, (fun h => c_13 h.2.2.1), Or.inl rfl⟩), by rw [ht]; exact hP, hD⟩, hS.F ht⟩) hS.2.2 dX12_put_209
      ·
        refine lv_iconst (v := 1) hx hb dX12_put_149 (by decide) ?_
        refine lv_goto (tgt := 154) hx hb dX12_put_150 (by decide) ?_
        refine lv_istore (lv' := [(9, .int 1), (8, .int (u.2 8 (p0 : Int32).toNatClampNeg)), (7, .int (u.2 7 (p0 : Int32).toNatClampNeg)), (6, .int 3), (0, .ref h0), (1, .int p0), (2, .int p1), (3, .int p2), (4, .int p3), (5, .int p4)]) hx hb dX12_put_154 hl (by decide) rfl (fun ls hl => ?_)
        refine lv_iload hx hb dX12_put_156 (lv_at hl 0 rfl) ?_
        refine lv_if_eq (tgt := 200) hx hb dX12_put_158 (by decide) (fun c_16 => absurd c_16 (by decide)) (fun c_16 => ?_)
        refine lv_iload hx hb dX12_put_161 (lv_at hl 1 rfl) ?_
        refine lv_iconst (v := 1) hx hb dX12_put_163 (by decide) ?_
        refine lv_icmp_lt (tgt := 200) hx hb dX12_put_164 (by decide) (fun c_17 => ?_) (fun c_17 => ?_)
        ·
          refine lv_iconst (v := 0) hx hb dX12_put_200 (by decide) ?_
          refine lv_istore (lv' := [(9, .int 0), (8, .int (u.2 8 (p0 : Int32).toNatClampNeg)), (7, .int (u.2 7 (p0 : Int32).toNatClampNeg)), (6, .int 3), (0, .ref h0), (1, .int p0), (2, .int p1), (3, .int p2), (4, .int p3), (5, .int p4)]) hx hb dX12_put_201 hl (by decide) rfl (fun ls hl => ?_)
          refine lv_iload hx hb dX12_put_203 (lv_at hl 0 rfl) ?_
          refine lv_if_ne (tgt := 210) hx hb dX12_put_205 (by decide) (fun c_18 => absurd (by decide) c_18) (fun c_18 => ?_)
          refine lv_iconst (v := (-1)) hx hb dX12_put_208 (by decide) ?_
          exact W.iret (v := (-1)) hx hb hr (fun t ht hW => ⟨⟨(-1), u, rfl, (Or.inl ⟨rfl, (fun h => h.2.2.2.1 c_17), Or.inl rfl⟩), by rw [ht]; exact hP, hD⟩, hS.F ht⟩) hS.2.2 dX12_put_209
        ·
          refine lv_iload hx hb dX12_put_167 (lv_at hl 3 rfl) ?_
          refine lv_if_eq (tgt := 181) hx hb dX12_put_169 (by decide) (fun c_19 => absurd c_19 (by decide)) (fun c_19 => ?_)
          refine lv_aload_n hx hb dX12_put_172 rfl (lv_at hl 4 rfl) ?_
          refine va_get (D := (dC, dI)) (ci := 11) (v := .ref (v 22)) (C := RX12) (T := TX12) (N := 52) hx hb hts (by decide +kernel) hown hK hP 0 rfl rfl 22 (by decide) (hts (.fieldLink RX12 74 "PageOneModel" "pieces" "[I") (by decide +kernel)) (fun _ h9 => h9) rfl dX12_put_173 ?_
          refine lv_iload_n hx hb dX12_put_176 rfl (lv_at hl 5 rfl) ?_
          refine va_iald hx hb hK hP 22 0 rfl rfl (vin (it79 hn b_1) (by decide)) dX12_put_177 ?_
          refine lv_if_ne (tgt := 200) hx hb dX12_put_178 (by decide) (fun c_20 => ?_) (fun c_20 => ?_)
          ·
            refine lv_iconst (v := 0) hx hb dX12_put_200 (by decide) ?_
            refine lv_istore (lv' := [(9, .int 0), (8, .int (u.2 8 (p0 : Int32).toNatClampNeg)), (7, .int (u.2 7 (p0 : Int32).toNatClampNeg)), (6, .int 3), (0, .ref h0), (1, .int p0), (2, .int p1), (3, .int p2), (4, .int p3), (5, .int p4)]) hx hb dX12_put_201 hl (by decide) rfl (fun ls hl => ?_)
            refine lv_iload hx hb dX12_put_203 (lv_at hl 0 rfl) ?_
            refine lv_if_ne (tgt := 210) hx hb dX12_put_205 (by decide) (fun c_21 => absurd (by decide) c_21) (fun c_21 => ?_)
            refine lv_iconst (v := (-1)) hx hb dX12_put_208 (by decide) ?_
            exact W.iret (v := (-1)) hx hb hr (fun t ht hW => ⟨⟨(-1), u, rfl, (Or.inl ⟨rfl, (fun h => c_20 h.2.2.2.2.1), Or.inl rfl⟩), by rw [ht]; exact hP, hD⟩, hS.F ht⟩) hS.2.2 dX12_put_209
          ·
            refine lv_aload_n hx hb dX12_put_181 rfl (lv_at hl 4 rfl) ?_
            refine lv_iload_n hx hb dX12_put_182 rfl (lv_at hl 6 rfl) ?_
            refine lv_iload_n hx hb dX12_put_183 rfl (lv_at hl 7 rfl) ?_
            refine lv_iload hx hb dX12_put_184 (lv_at hl 8 rfl) ?_
            refine lv_iload hx hb dX12_put_186 (lv_at hl 2 rfl) ?_
            refine lv_iload hx hb dX12_put_188 (lv_at hl 1 rfl) ?_
            refine vp_callSi (va_runV (As := [.int p1, .int p2, .int p3, .int (u.2 7 (p0 : Int32).toNatClampNeg), .int (u.2 8 (p0 : Int32).toNatClampNeg)]) (rest := []) ⟨hx, hb, hml, hown, hts⟩ (m_isFree l dC dI h0 v cI cZ u p1 p2 p3 (u.2 7 (p0 : Int32).toNatClampNeg) (u.2 8 (p0 : Int32).toNatClampNeg) hln) (cwV 5 hts gX12_put_X12_isFree rfl rfl rfl (by decide +kernel) ⟨Nat.le_of_ble_eq_true rfl, Nat.le_of_ble_eq_true rfl⟩) ⟨pw_fb, va_recv hK hP (ci := 11) (q0 := 0) rfl rfl, fun U hU hW => ⟨rfl, pw_to hU hW hP hK hN⟩⟩ rfl rfl hl.1 rfl (lv_room (Nat.le_of_ble_eq_true rfl)) dX12_put_190 ⟨Nat.le_of_ble_eq_true rfl, Nat.le_of_ble_eq_true rfl⟩).run (fun r hw => ?_)
            have hit := b_1
            have hi := it79 hn hit
            have h300 := c_3
            rcases hw with ⟨hw, hfree⟩ | ⟨hw, hfree⟩
            ·
              subst hw
              have hfree0 := hfree
              obtain ⟨P, X, Y, D, N, eP, eX, eY, eD, eN, hPP, hXW, hYN, hDD1, hN1⟩ := free_rect hln hfree
              subst eP eX eY
              rw [eD] at hl
              rw [eN] at hl
              refine lv_if_eq (tgt := 200) hx hb dX12_put_193 (by decide) (fun c_22 => absurd c_22 (by decide)) (fun c_22 => ?_)
              refine lv_iconst (v := 1) hx hb dX12_put_196 (by decide) ?_
              refine lv_goto (tgt := 201) hx hb dX12_put_197 (by decide) ?_
              refine lv_istore (lv' := [(9, .int 1), (8, .int (nI N)), (7, .int (nI D)), (6, .int 3), (0, .ref h0), (1, .int p0), (2, .int (nI P)), (3, .int (nI X)), (4, .int (nI Y)), (5, .int p4)]) hx hb dX12_put_201 hl (by decide) rfl (fun ls hl => ?_)
              refine lv_iload hx hb dX12_put_203 (lv_at hl 0 rfl) ?_
              refine lv_if_ne (tgt := 210) hx hb dX12_put_205 (by decide) (fun c_23 => ?_) (fun c_23 => absurd c_23 (by decide))
              refine lv_iload hx hb dX12_put_210 (lv_at hl 3 rfl) ?_
              refine lv_tableIn (tgt := 268) (off := 56) hx hb dX12_put_212 (by decide) (by decide) (by decide) (by decide) ?_
              refine lv_iload_n hx hb dX12_put_268 rfl (lv_at hl 6 rfl) ?_
              refine lv_aload_n hx hb dX12_put_269 rfl (lv_at hl 4 rfl) ?_
              refine va_get (D := (dC, dI)) (ci := 11) (v := .ref (v 11)) (C := RX12) (T := TX12) (N := 52) hx hb hts (by decide +kernel) hown hK hP 0 rfl rfl 11 (by decide) (hts (.fieldLink RX12 40 "PageOneModel" "soldPage" "[I") (by decide +kernel)) (fun _ h9 => h9) rfl dX12_put_270 ?_
              refine lv_iload_n hx hb dX12_put_273 rfl (lv_at hl 5 rfl) ?_
              refine va_iald hx hb hK hP 11 0 rfl rfl (vin (it79 hn b_1) (by decide)) dX12_put_274 ?_
              refine lv_icmp_ne (tgt := 303) hx hb dX12_put_275 (by decide) (fun c_24 => ?_) (fun c_24 => ?_)
              ·
                refine lv_iconst (v := 0) hx hb dX12_put_303 (by decide) ?_
                refine lv_istore (lv' := [(9, .int 0), (8, .int (nI N)), (7, .int (nI D)), (6, .int 3), (0, .ref h0), (1, .int p0), (2, .int (nI P)), (3, .int (nI X)), (4, .int (nI Y)), (5, .int p4)]) hx hb dX12_put_304 hl (by decide) rfl (fun ls hl => ?_)
                refine lv_goto (tgt := 343) hx hb dX12_put_306 (by decide) ?_
                refine lv_iload hx hb dX12_put_343 (lv_at hl 0 rfl) ?_
                refine lv_if_ne (tgt := 350) hx hb dX12_put_345 (by decide) (fun c_25 => absurd (by decide) c_25) (fun c_25 => ?_)
                refine lv_iconst (v := (-1)) hx hb dX12_put_348 (by decide) ?_
                exact W.iret (v := (-1)) hx hb hr (fun t ht hW => ⟨⟨(-1), u, rfl, (Or.inl ⟨rfl, (fun h => c_24 h.2.2.2.2.2.2.1), Or.inl rfl⟩), by rw [ht]; exact hP, hD⟩, hS.F ht⟩) hS.2.2 dX12_put_349
              ·
                refine lv_iload_n hx hb dX12_put_278 rfl (lv_at hl 7 rfl) ?_
                refine lv_aload_n hx hb dX12_put_279 rfl (lv_at hl 4 rfl) ?_
                refine va_get (D := (dC, dI)) (ci := 11) (v := .ref (v 12)) (C := RX12) (T := TX12) (N := 52) hx hb hts (by decide +kernel) hown hK hP 0 rfl rfl 12 (by decide) (hts (.fieldLink RX12 43 "PageOneModel" "soldColumn" "[I") (by decide +kernel)) (fun _ h9 => h9) rfl dX12_put_280 ?_
                refine lv_iload_n hx hb dX12_put_283 rfl (lv_at hl 5 rfl) ?_
                refine va_iald hx hb hK hP 12 0 rfl rfl (vin (it79 hn b_1) (by decide)) dX12_put_284 ?_
                refine lv_icmp_ne (tgt := 303) hx hb dX12_put_285 (by decide) (fun c_26 => ?_) (fun c_26 => ?_)
                ·
                  refine lv_iconst (v := 0) hx hb dX12_put_303 (by decide) ?_
                  refine lv_istore (lv' := [(9, .int 0), (8, .int (nI N)), (7, .int (nI D)), (6, .int 3), (0, .ref h0), (1, .int p0), (2, .int (nI P)), (3, .int (nI X)), (4, .int (nI Y)), (5, .int p4)]) hx hb dX12_put_304 hl (by decide) rfl (fun ls hl => ?_)
                  refine lv_goto (tgt := 343) hx hb dX12_put_306 (by decide) ?_
                  refine lv_iload hx hb dX12_put_343 (lv_at hl 0 rfl) ?_
                  refine lv_if_ne (tgt := 350) hx hb dX12_put_345 (by decide) (fun c_27 => absurd (by decide) c_27) (fun c_27 => ?_)
                  refine lv_iconst (v := (-1)) hx hb dX12_put_348 (by decide) ?_
                  exact W.iret (v := (-1)) hx hb hr (fun t ht hW => ⟨⟨(-1), u, rfl, (Or.inl ⟨rfl, (fun h => c_26 h.2.2.2.2.2.2.2.1), Or.inl rfl⟩), by rw [ht]; exact hP, hD⟩, hS.F ht⟩) hS.2.2 dX12_put_349
                ·
                  refine lv_iload hx hb dX12_put_288 (lv_at hl 8 rfl) ?_
                  refine lv_aload_n hx hb dX12_put_290 rfl (lv_at hl 4 rfl) ?_
                  refine va_get (D := (dC, dI)) (ci := 11) (v := .ref (v 13)) (C := RX12) (T := TX12) (N := 52) hx hb hts (by decide +kernel) hown hK hP 0 rfl rfl 13 (by decide) (hts (.fieldLink RX12 46 "PageOneModel" "soldLine" "[I") (by decide +kernel)) (fun _ h9 => h9) rfl dX12_put_291 ?_
                  refine lv_iload_n hx hb dX12_put_294 rfl (lv_at hl 5 rfl) ?_
                  refine va_iald hx hb hK hP 13 0 rfl rfl (vin (it79 hn b_1) (by decide)) dX12_put_295 ?_
                  refine lv_icmp_ne (tgt := 303) hx hb dX12_put_296 (by decide) (fun c_28 => ?_) (fun c_28 => ?_)
                  ·
                    refine lv_iconst (v := 0) hx hb dX12_put_303 (by decide) ?_
                    refine lv_istore (lv' := [(9, .int 0), (8, .int (nI N)), (7, .int (nI D)), (6, .int 3), (0, .ref h0), (1, .int p0), (2, .int (nI P)), (3, .int (nI X)), (4, .int (nI Y)), (5, .int p4)]) hx hb dX12_put_304 hl (by decide) rfl (fun ls hl => ?_)
                    refine lv_goto (tgt := 343) hx hb dX12_put_306 (by decide) ?_
                    refine lv_iload hx hb dX12_put_343 (lv_at hl 0 rfl) ?_
                    refine lv_if_ne (tgt := 350) hx hb dX12_put_345 (by decide) (fun c_29 => absurd (by decide) c_29) (fun c_29 => ?_)
                    refine lv_iconst (v := (-1)) hx hb dX12_put_348 (by decide) ?_
                    exact W.iret (v := (-1)) hx hb hr (fun t ht hW => ⟨⟨(-1), u, rfl, (Or.inl ⟨rfl, (fun h => c_28 h.2.2.2.2.2.2.2.2), Or.inl rfl⟩), by rw [ht]; exact hP, hD⟩, hS.F ht⟩) hS.2.2 dX12_put_349
                  ·
                    refine lv_iconst (v := 1) hx hb dX12_put_299 (by decide) ?_
                    refine lv_goto (tgt := 304) hx hb dX12_put_300 (by decide) ?_
                    refine lv_istore (lv' := [(9, .int 1), (8, .int (nI N)), (7, .int (nI D)), (6, .int 3), (0, .ref h0), (1, .int p0), (2, .int (nI P)), (3, .int (nI X)), (4, .int (nI Y)), (5, .int p4)]) hx hb dX12_put_304 hl (by decide) rfl (fun ls hl => ?_)
                    refine lv_goto (tgt := 343) hx hb dX12_put_306 (by decide) ?_
                    refine lv_iload hx hb dX12_put_343 (lv_at hl 0 rfl) ?_
                    refine lv_if_ne (tgt := 350) hx hb dX12_put_345 (by decide) (fun c_30 => ?_) (fun c_30 => absurd c_30 (by decide))
                    refine lv_aload_n hx hb dX12_put_350 rfl (lv_at hl 4 rfl) ?_
                    refine lv_iload_n hx hb dX12_put_351 rfl (lv_at hl 5 rfl) ?_
                    refine lv_iload_n hx hb dX12_put_352 rfl (lv_at hl 6 rfl) ?_
                    refine lv_iload_n hx hb dX12_put_353 rfl (lv_at hl 7 rfl) ?_
                    refine lv_iload hx hb dX12_put_354 (lv_at hl 8 rfl) ?_
                    refine lv_iload hx hb dX12_put_356 (lv_at hl 2 rfl) ?_
                    refine lv_iload hx hb dX12_put_358 (lv_at hl 1 rfl) ?_
                    have hFc := fr_all hD hS hA
                    refine va_callv (va_runV (As := [.int p0, .int (nI P), .int (nI X), .int (nI Y), .int (nI D), .int (nI N)]) (rest := []) ⟨hx, hb, hml, hown, hts⟩ (m_stand l dC dI h0 v cI cZ u p0 P X Y D N hPP hXW hYN hi (z05 c_20) s.heap.size) (cwV 6 hts gX12_put_X12_stand rfl rfl rfl (by decide +kernel) ⟨Nat.le_of_ble_eq_true rfl, Nat.le_of_ble_eq_true rfl⟩) ⟨gw_fb, va_recv hK hP (ci := 11) (q0 := 0) rfl rfl, fun U hU hW => ⟨rfl, by rw [hU], pw_to hU hW hP hK hN, hD.weaken (fun _ _ _ _ => trivial)⟩⟩ rfl rfl hl.1 rfl (lv_room (Nat.le_of_ble_eq_true rfl)) dX12_put_360 ⟨Nat.le_of_ble_eq_true rfl, Nat.le_of_ble_eq_true rfl⟩) hS (fun q _ h => hFc q h) hFc (fun u_31 t H1 locs ht hvm hw hB hz1 hk1 hS => ?_)
                    obtain ⟨hP, hD1⟩ := hB
                    rw [ht] at hP
                    have hD := hD1.weaken (fun _ q _ h => hFc q.1 h)
                    generalize H1 = H at hP hS ⊢
                    have eu_31 := hw
                    refine lv_aload_n hx hb dX12_put_363 rfl (lv_at hl 4 rfl) ?_
                    refine lv_iconst (v := 0) hx hb dX12_put_364 (by decide) ?_
                    refine lv_iload_n hx hb dX12_put_365 rfl (lv_at hl 5 rfl) ?_
                    refine lv_iconst (v := 0) hx hb dX12_put_366 (by decide) ?_
                    refine lv_iconst (v := 0) hx hb dX12_put_367 (by decide) ?_
                    refine lv_iconst (v := 0) hx hb dX12_put_368 (by decide) ?_
                    refine lv_iconst (v := 0) hx hb dX12_put_369 (by decide) ?_
                    refine lv_iconst (v := 0) hx hb dX12_put_370 (by decide) ?_
                    have hFc := fr_all hD hS hA
                    refine va_callv (va_runV (As := [.int 0, .int p0, .int 0, .int 0, .int 0, .int 0, .int 0]) (rest := []) ⟨hx, hb, hml, hown, hts⟩ (m_acts l dC dI h0 v cI cZ u_31 0 p0 0 0 0 0 0 (by rw [eu_31]; show bw (u.1 28) 0 299 = true; exact v300 ha h300) H.size) (cwV 7 hts gX12_put_X12_acts rfl rfl rfl (by decide +kernel) ⟨Nat.le_of_ble_eq_true rfl, Nat.le_of_ble_eq_true rfl⟩) ⟨gw_fb, va_recv hK hP (ci := 11) (q0 := 0) rfl rfl, fun U hU hW => ⟨rfl, by rw [hU], pw_to hU hW hP hK hN, hD.weaken (fun _ _ _ _ => trivial)⟩⟩ rfl rfl hl.1 rfl (lv_room (Nat.le_of_ble_eq_true rfl)) dX12_put_371 ⟨Nat.le_of_ble_eq_true rfl, Nat.le_of_ble_eq_true rfl⟩) hS (fun q _ h => hFc q h) hFc (fun u_32 t H1 locs ht hvm hw hB hz1 hk1 hS => ?_)
                    obtain ⟨hP, hD1⟩ := hB
                    rw [ht] at hP
                    have hD := hD1.weaken (fun _ q _ h => hFc q.1 h)
                    generalize H1 = H at hP hS ⊢
                    have eu_32 := hw
                    refine lv_aload_n hx hb dX12_put_374 rfl (lv_at hl 4 rfl) ?_
                    refine va_get (D := (dC, dI)) (ci := 11) (v := .ref (v 22)) (C := RX12) (T := TX12) (N := 52) hx hb hts (by decide +kernel) hown hK hP 0 rfl rfl 22 (by decide) (hts (.fieldLink RX12 74 "PageOneModel" "pieces" "[I") (by decide +kernel)) (fun _ h9 => h9) rfl dX12_put_375 ?_
                    refine lv_iload_n hx hb dX12_put_378 rfl (lv_at hl 5 rfl) ?_
                    refine va_iald hx hb hK hP 22 0 rfl rfl (vin (it79 hn b_1) (by decide)) dX12_put_379 ?_
                    exact W.iret (v := (u_32.2 22 (p0 : Int32).toNatClampNeg)) hx hb hr (fun t ht hW => ⟨⟨(u_32.2 22 (p0 : Int32).toNatClampNeg), u_32, rfl, (Or.inr ⟨⟨hit, h300, c_13, c_17, c_20, hfree0, ⟨c_24, c_26, c_28⟩⟩, (by rw [eu_32, eu_31, putR]), P, X, Y, D, N, rfl, rfl, rfl, eD, eN, hPP, hXW, hYN, hDD1, hN1, (Or.inl (by rw [eu_32, eu_31]))⟩), by rw [ht]; exact hP, hD⟩, hS.F ht⟩) hS.2.2 dX12_put_380
            ·
              subst hw
              refine lv_if_eq (tgt := 200) hx hb dX12_put_193 (by decide) (fun c_33 => ?_) (fun c_33 => absurd (by decide) c_33)
              refine lv_iconst (v := 0) hx hb dX12_put_200 (by decide) ?_
              refine lv_istore (lv' := [(9, .int 0), (8, .int (u.2 8 (p0 : Int32).toNatClampNeg)), (7, .int (u.2 7 (p0 : Int32).toNatClampNeg)), (6, .int 3), (0, .ref h0), (1, .int p0), (2, .int p1), (3, .int p2), (4, .int p3), (5, .int p4)]) hx hb dX12_put_201 hl (by decide) rfl (fun ls hl => ?_)
              refine lv_iload hx hb dX12_put_203 (lv_at hl 0 rfl) ?_
              refine lv_if_ne (tgt := 210) hx hb dX12_put_205 (by decide) (fun c_34 => absurd (by decide) c_34) (fun c_34 => ?_)
              refine lv_iconst (v := (-1)) hx hb dX12_put_208 (by decide) ?_
              exact W.iret (v := (-1)) hx hb hr (fun t ht hW => ⟨⟨(-1), u, rfl, (Or.inl ⟨rfl, (fun h => hfree h.2.2.2.2.2.1), Or.inl rfl⟩), by rw [ht]; exact hP, hD⟩, hS.F ht⟩) hS.2.2 dX12_put_209
    ·
      refine lv_iconst (v := (-1)) hx hb dX12_put_18 (by decide) ?_
      exact W.iret (v := (-1)) hx hb hr (fun t ht hW => ⟨⟨(-1), u, rfl, (Or.inl ⟨rfl, (fun h => h.2.1 c_3), Or.inl rfl⟩), by rw [ht]; exact hP, hD⟩, hS.F ht⟩) hS.2.2 dX12_put_19
  ·
    obtain rfl : r = 0 := b_f hw b_1
    refine lv_if_eq (tgt := 18) hx hb dX12_put_5 (by decide) (fun c_35 => ?_) (fun c_35 => absurd (by decide) c_35)
    refine lv_iconst (v := (-1)) hx hb dX12_put_18 (by decide) ?_
    exact W.iret (v := (-1)) hx hb hr (fun t ht hW => ⟨⟨(-1), u, rfl, (Or.inl ⟨rfl, (fun h => bne b_1 h.1), Or.inl rfl⟩), by rw [ht]; exact hP, hD⟩, hS.F ht⟩) hS.2.2 dX12_put_19
set_option maxHeartbeats 4000000 in
set_option maxRecDepth 100000 in
theorem o_put4 (l : Launch) (dC : Nat → ClassId) (dI : Nat → Nat → Nat) (h0 : Nat) (v : Nat → Nat) (cI cZ : ClassId) (u : mS) (p0 p1 p2 p3 p4 : Int32) (hn : bw (u.1 3) 0 80 = true) (hln : ∀ j, j < 96 → bw (u.2 0 j) 0 60 = true) (hd : bw (u.1 38) 0 399 = true) (ha : bw (u.1 28) 0 300 = true) (hpc : ∀ j, j < 80 → bw (u.2 22 j) 0 6 = true) (hcm : ∀ j, j < 80 → bw (u.2 15 j) 0 80 = true) (hsz : ∀ j, j < 80 → bw (u.2 17 j) 0 4 = true) (hfr : bw p0 0 79 = true → ∀ P X Y N : Nat, P < 12 → X + 1 ≤ 8 → 1 ≤ N → Y + N ≤ 60 → ¬ u.2 22 p0.toNatClampNeg = 6 → runG (mStand u p0 P X Y 1 N) p0 (u.2 22 p0.toNatClampNeg) → 0 ≤ (mFrom (mStand u p0 P X Y 1 N) p0 (u.2 22 p0.toNatClampNeg).toNatClampNeg).toInt ∧ (mFrom (mStand u p0 P X Y 1 N) p0 (u.2 22 p0.toNatClampNeg).toNatClampNeg).toInt ≤ 400 ∧ (mTakes (mStand u p0 P X Y 1 N) p0 (u.2 22 p0.toNatClampNeg)).toInt ≤ 60) (hK9 : bw p0 0 (u.1 3 - 1) = true → u.2 4 p0.toNatClampNeg = 4) (sz : Nat) : Met l yX12_put wsX12_put ({ frames := 4, cells := 0, slots := 0, locals := 106 }) (va_Pc [.ref h0, .int p0, .int p1, .int p2, .int p3, .int p4] (fun U => U.heap.size = sz ∧ PW dC dI (mW h0 v cI cZ u) [(cI, .int), (cZ, .boolean)] U ∧ va_D (fun _ => True) (mW h0 v cI cZ u))) (va_Qi (fun (r : Int32) (u9 : mS) => rPut u p0 p1 p2 p3 1 p4 (okP4 u p0 p1 p2 p3 p4) r u9) (fun u9 t => va_P (dC, dI) vwCl (mW h0 v cI cZ u9) t.heap ∧ va_D (va_A (mW h0 v cI cZ u) sz) (mW h0 v cI cZ u9)) (va_A (mW h0 v cI cZ u) sz)) 0 0 (va_A (mW h0 v cI cZ u) sz) := by
  refine Met.ofW (cc := cX12_put) (maxL := 10) (ret := (some .int)) (by decide) rfl ?_
  intro p e s m args below meth c s₁ B hml hv
  obtain ⟨rfl, hsz, ⟨hP, hK, hN⟩, hD0⟩ := hv
  have hx := B.exec
  have hb := B.bytes
  have hr := B.returns
  have hts := atoms_spec (ws := wsX12_put) B.pre
  have hown : s.vm.findClass RX12 = some m.cls := findClass_of_methodNamed B.named
  have hlocks := B.notSynchronized
  subst hsz
  have hD := hD0.self (sz := s.heap.size)
  generalize hAe : va_A (mW h0 v cI cZ u) s.heap.size = A at hD ⊢
  have hA : ∀ q : Nat, s.heap.size ≤ q → A q := fun q h => by rw [← hAe]; exact Or.inr h
  have hS : va_S A s.heap s.heap [] := va_S.rf
  have hl := lv_entry ([.ref h0, .int p0, .int p1, .int p2, .int p3, .int p4]) (n := 10) (Nat.le_of_ble_eq_true rfl)
  rw [lg_entry_eq]
  generalize (lg_sl ([.ref h0, .int p0, .int p1, .int p2, .int p3, .int p4]) ++ List.replicate (10 - (lg_sl ([.ref h0, .int p0, .int p1, .int p2, .int p3, .int p4])).length) Slot.unset).toArray = ls at hl ⊢
  have hl : lv_has ls 10 [(0, .ref h0), (1, .int p0), (2, .int p1), (3, .int p2), (4, .int p3), (5, .int p4)] := hl
  refine lv_aload_n hx hb dX12_put_0 rfl (lv_at hl 0 rfl) ?_
  refine lv_iload_n hx hb dX12_put_1 rfl (lv_at hl 1 rfl) ?_
  refine vp_callSi (va_runV (As := [.int p0]) (rest := []) ⟨hx, hb, hml, hown, hts⟩ (m_isItem l dC dI h0 v cI cZ u p0) (cwV 1 hts gX12_put_X12_isItem rfl rfl rfl (by decide +kernel) ⟨Nat.le_of_ble_eq_true rfl, Nat.le_of_ble_eq_true rfl⟩) ⟨pw_fb, va_recv hK hP (ci := 11) (q0 := 0) rfl rfl, fun U hU hW => ⟨rfl, pw_to hU hW hP hK hN⟩⟩ rfl rfl hl.1 rfl (lv_room (Nat.le_of_ble_eq_true rfl)) dX12_put_2 ⟨Nat.le_of_ble_eq_true rfl, Nat.le_of_ble_eq_true rfl⟩).run (fun r hw => ?_)
  rcases Bool.eq_false_or_eq_true (bw p0 0 (u.1 3 - 1)) with b_1 | b_1
  ·
    obtain rfl : r = 1 := b_t hw b_1
    refine lv_if_eq (tgt := 18) hx hb dX12_put_5 (by decide) (fun c_2 => absurd c_2 (by decide)) (fun c_2 => ?_)
    refine lv_aload_n hx hb dX12_put_8 rfl (lv_at hl 0 rfl) ?_
    refine va_get (D := (dC, dI)) (ci := 11) (v := .int (u.1 28)) (C := RX12) (T := TX12) (N := 52) hx hb hts (by decide +kernel) hown hK hP 0 rfl rfl 28 (by decide) (hts (.fieldLink RX12 158 "PageOneModel" "acts" "I") (by decide +kernel)) (fun _ h9 => h9) rfl dX12_put_9 ?_
    refine lv_sipush (v := 300) hx hb dX12_put_12 (by decide) ?_
    refine lv_icmp_ne (tgt := 20) hx hb dX12_put_15 (by decide) (fun c_3 => ?_) (fun c_3 => ?_)
    ·
      refine lv_aload_n hx hb dX12_put_20 rfl (lv_at hl 0 rfl) ?_
      refine va_get (D := (dC, dI)) (ci := 11) (v := .ref (v 4)) (C := RX12) (T := TX12) (N := 52) hx hb hts (by decide +kernel) hown hK hP 0 rfl rfl 4 (by decide) (hts (.fieldLink RX12 19 "PageOneModel" "kind" "[I") (by decide +kernel)) (fun _ h9 => h9) rfl dX12_put_21 ?_
      refine lv_iload_n hx hb dX12_put_24 rfl (lv_at hl 1 rfl) ?_
      refine va_iald hx hb hK hP 4 0 rfl rfl (vin (it79 hn b_1) (by decide)) dX12_put_25 ?_
      refine lv_topi (fun y_4 ey_4 => ?_)
      obtain rfl : y_4 = 4 := ey_4.trans (hK9 b_1)
      refine lv_istore (lv' := [(6, .int 4), (0, .ref h0), (1, .int p0), (2, .int p1), (3, .int p2), (4, .int p3), (5, .int p4)]) hx hb dX12_put_26 hl (by decide) rfl (fun ls hl => ?_)
      refine lv_iload hx hb dX12_put_28 (lv_at hl 0 rfl) ?_
      refine lv_iconst (v := 1) hx hb dX12_put_30 (by decide) ?_
      refine lv_icmp_eq (tgt := 40) hx hb dX12_put_31 (by decide) (fun c_5 => absurd c_5 (by decide)) (fun c_5 => ?_)
      refine lv_iload hx hb dX12_put_34 (lv_at hl 0 rfl) ?_
      refine lv_iconst (v := 3) hx hb dX12_put_36 (by decide) ?_
      refine lv_icmp_ne (tgt := 49) hx hb dX12_put_37 (by decide) (fun c_6 => ?_) (fun c_6 => absurd c_6 (by decide))
      refine lv_iconst (v := 1) hx hb dX12_put_49 (by decide) ?_
      refine lv_istore (lv' := [(7, .int 1), (6, .int 4), (0, .ref h0), (1, .int p0), (2, .int p1), (3, .int p2), (4, .int p3), (5, .int p4)]) hx hb dX12_put_50 hl (by decide) rfl (fun ls hl => ?_)
      refine lv_iload hx hb dX12_put_52 (lv_at hl 1 rfl) ?_
      refine lv_if_eq (tgt := 63) hx hb dX12_put_54 (by decide) (fun c_7 => absurd c_7 (by decide)) (fun c_7 => ?_)
      refine lv_iload hx hb dX12_put_57 (lv_at hl 1 rfl) ?_
      refine lv_iconst (v := 4) hx hb dX12_put_59 (by decide) ?_
      refine lv_icmp_ne (tgt := 68) hx hb dX12_put_60 (by decide) (fun c_8 => absurd (by decide) c_8) (fun c_8 => ?_)
      refine lv_iload hx hb dX12_put_63 (lv_at hl 7 rfl) ?_
      refine lv_goto (tgt := 74) hx hb dX12_put_65 (by decide) ?_
      refine lv_istore (lv' := [(8, .int p4), (7, .int 1), (6, .int 4), (0, .ref h0), (1, .int p0), (2, .int p1), (3, .int p2), (4, .int p3), (5, .int p4)]) hx hb dX12_put_74 hl (by decide) rfl (fun ls hl => ?_)
      refine lv_iload hx hb dX12_put_76 (lv_at hl 2 rfl) ?_
      refine lv_iconst (v := 2) hx hb dX12_put_78 (by decide) ?_
      refine lv_icmp_ne (tgt := 127) hx hb dX12_put_79 (by decide) (fun c_9 => ?_) (fun c_9 => absurd c_9 (by decide))
      refine lv_iload hx hb dX12_put_127 (lv_at hl 2 rfl) ?_
      refine lv_if_eq (tgt := 149) hx hb dX12_put_129 (by decide) (fun c_10 => absurd c_10 (by decide)) (fun c_10 => ?_)
      refine lv_iload hx hb dX12_put_132 (lv_at hl 2 rfl) ?_
      refine lv_iconst (v := 4) hx hb dX12_put_134 (by decide) ?_
      refine lv_icmp_eq (tgt := 149) hx hb dX12_put_135 (by decide) (fun c_11 => ?_) (fun c_11 => absurd (by decide) c_11)
      refine lv_iconst (v := 1) hx hb dX12_put_149 (by decide) ?_
      refine lv_goto (tgt := 154) hx hb dX12_put_150 (by decide) ?_
      refine lv_istore (lv' := [(9, .int 1), (8, .int p4), (7, .int 1), (6, .int 4), (0, .ref h0), (1, .int p0), (2, .int p1), (3, .int p2), (4, .int p3), (5, .int p4)]) hx hb dX12_put_154 hl (by decide) rfl (fun ls hl => ?_)
      refine lv_iload hx hb dX12_put_156 (lv_at hl 0 rfl) ?_
      refine lv_if_eq (tgt := 200) hx hb dX12_put_158 (by decide) (fun c_12 => absurd c_12 (by decide)) (fun c_12 => ?_)
      refine lv_iload hx hb dX12_put_161 (lv_at hl 1 rfl) ?_
      refine lv_iconst (v := 1) hx hb dX12_put_163 (by decide) ?_
      refine lv_icmp_lt (tgt := 200) hx hb dX12_put_164 (by decide) (fun c_13 => ?_) (fun c_13 => ?_)
      ·
        refine lv_iconst (v := 0) hx hb dX12_put_200 (by decide) ?_
        refine lv_istore (lv' := [(9, .int 0), (8, .int p4), (7, .int 1), (6, .int 4), (0, .ref h0), (1, .int p0), (2, .int p1), (3, .int p2), (4, .int p3), (5, .int p4)]) hx hb dX12_put_201 hl (by decide) rfl (fun ls hl => ?_)
        refine lv_iload hx hb dX12_put_203 (lv_at hl 0 rfl) ?_
        refine lv_if_ne (tgt := 210) hx hb dX12_put_205 (by decide) (fun c_14 => absurd (by decide) c_14) (fun c_14 => ?_)
        refine lv_iconst (v := (-1)) hx hb dX12_put_208 (by decide) ?_
        exact W.iret (v := (-1)) hx hb hr (fun t ht hW => ⟨⟨(-1), u, rfl, (Or.inl ⟨rfl, (fun h => h.2.2.2.1 c_13), Or.inl rfl⟩), by rw [ht]; exact hP, hD⟩, hS.F ht⟩) hS.2.2 dX12_put_209
      ·
        refine lv_iload hx hb dX12_put_167 (lv_at hl 3 rfl) ?_
        refine lv_if_eq (tgt := 181) hx hb dX12_put_169 (by decide) (fun c_15 => absurd c_15 (by decide)) (fun c_15 => ?_)
        refine lv_aload_n hx hb dX12_put_172 rfl (lv_at hl 4 rfl) ?_
        refine va_get (D := (dC, dI)) (ci := 11) (v := .ref (v 22)) (C := RX12) (T := TX12) (N := 52) hx hb hts (by decide +kernel) hown hK hP 0 rfl rfl 22 (by decide) (hts (.fieldLink RX12 74 "PageOneModel" "pieces" "[I") (by decide +kernel)) (fun _ h9 => h9) rfl dX12_put_173 ?_
        refine lv_iload_n hx hb dX12_put_176 rfl (lv_at hl 5 rfl) ?_
        refine va_iald hx hb hK hP 22 0 rfl rfl (vin (it79 hn b_1) (by decide)) dX12_put_177 ?_
        refine lv_if_ne (tgt := 200) hx hb dX12_put_178 (by decide) (fun c_16 => ?_) (fun c_16 => ?_)
        ·
          refine lv_iconst (v := 0) hx hb dX12_put_200 (by decide) ?_
          refine lv_istore (lv' := [(9, .int 0), (8, .int p4), (7, .int 1), (6, .int 4), (0, .ref h0), (1, .int p0), (2, .int p1), (3, .int p2), (4, .int p3), (5, .int p4)]) hx hb dX12_put_201 hl (by decide) rfl (fun ls hl => ?_)
          refine lv_iload hx hb dX12_put_203 (lv_at hl 0 rfl) ?_
          refine lv_if_ne (tgt := 210) hx hb dX12_put_205 (by decide) (fun c_17 => absurd (by decide) c_17) (fun c_17 => ?_)
          refine lv_iconst (v := (-1)) hx hb dX12_put_208 (by decide) ?_
          exact W.iret (v := (-1)) hx hb hr (fun t ht hW => ⟨⟨(-1), u, rfl, (Or.inl ⟨rfl, (fun h => c_16 h.2.2.2.2.1), Or.inl rfl⟩), by rw [ht]; exact hP, hD⟩, hS.F ht⟩) hS.2.2 dX12_put_209
        ·
          refine lv_aload_n hx hb dX12_put_181 rfl (lv_at hl 4 rfl) ?_
          refine lv_iload_n hx hb dX12_put_182 rfl (lv_at hl 6 rfl) ?_
          refine lv_iload_n hx hb dX12_put_183 rfl (lv_at hl 7 rfl) ?_
          refine lv_iload hx hb dX12_put_184 (lv_at hl 8 rfl) ?_
          refine lv_iload hx hb dX12_put_186 (lv_at hl 2 rfl) ?_
          refine lv_iload hx hb dX12_put_188 (lv_at hl 1 rfl) ?_
          refine vp_callSi (va_runV (As := [.int p1, .int p2, .int p3, .int 1, .int p4]) (rest := []) ⟨hx, hb, hml, hown, hts⟩ (m_isFree l dC dI h0 v cI cZ u p1 p2 p3 1 p4 hln) (cwV 5 hts gX12_put_X12_isFree rfl rfl rfl (by decide +kernel) ⟨Nat.le_of_ble_eq_true rfl, Nat.le_of_ble_eq_true rfl⟩) ⟨pw_fb, va_recv hK hP (ci := 11) (q0 := 0) rfl rfl, fun U hU hW => ⟨rfl, pw_to hU hW hP hK hN⟩⟩ rfl rfl hl.1 rfl (lv_room (Nat.le_of_ble_eq_true rfl)) dX12_put_190 ⟨Nat.le_of_ble_eq_true rfl, Nat.le_of_ble_eq_true rfl⟩).run (fun r hw => ?_)
          have hit := b_1
          have hi := it79 hn hit
          have h300 := c_3
          rcases hw with ⟨hw, hfree⟩ | ⟨hw, hfree⟩
          ·
            subst hw
            have hfree0 := hfree
            obtain ⟨P, X, Y, D, N, eP, eX, eY, eD, eN, hPP, hXW, hYN, hDD1, hN1⟩ := free_rect hln hfree
            subst eP eX eY
            obtain rfl : D = 1 := (nI_inj (by omega) (by decide)).mp (show nI D = nI 1 from eD.symm)
            subst eN
            refine lv_if_eq (tgt := 200) hx hb dX12_put_193 (by decide) (fun c_18 => absurd c_18 (by decide)) (fun c_18 => ?_)
            refine lv_iconst (v := 1) hx hb dX12_put_196 (by decide) ?_
            refine lv_goto (tgt := 201) hx hb dX12_put_197 (by decide) ?_
            refine lv_istore (lv' := [(9, .int 1), (8, .int (nI N)), (7, .int 1), (6, .int 4), (0, .ref h0), (1, .int p0), (2, .int (nI P)), (3, .int (nI X)), (4, .int (nI Y)), (5, .int (nI N))]) hx hb dX12_put_201 hl (by decide) rfl (fun ls hl => ?_)
            refine lv_iload hx hb dX12_put_203 (lv_at hl 0 rfl) ?_
            refine lv_if_ne (tgt := 210) hx hb dX12_put_205 (by decide) (fun c_19 => ?_) (fun c_19 => absurd c_19 (by decide))
            refine lv_iload hx hb dX12_put_210 (lv_at hl 3 rfl) ?_
            refine lv_tableIn (tgt := 309) (off := 97) hx hb dX12_put_212 (by decide) (by decide) (by decide) (by decide) ?_
            refine lv_iload hx hb dX12_put_309 (lv_at hl 1 rfl) ?_
            refine lv_aload_n hx hb dX12_put_311 rfl (lv_at hl 4 rfl) ?_
            refine va_get (D := (dC, dI)) (ci := 11) (v := .ref (v 5)) (C := RX12) (T := TX12) (N := 52) hx hb hts (by decide +kernel) hown hK hP 0 rfl rfl 5 (by decide) (hts (.fieldLink RX12 22 "PageOneModel" "least" "[I") (by decide +kernel)) (fun _ h9 => h9) rfl dX12_put_312 ?_
            refine lv_iload_n hx hb dX12_put_315 rfl (lv_at hl 5 rfl) ?_
            refine va_iald hx hb hK hP 5 0 rfl rfl (vin (it79 hn b_1) (by decide)) dX12_put_316 ?_
            refine lv_aload_n hx hb dX12_put_317 rfl (lv_at hl 4 rfl) ?_
            refine va_get (D := (dC, dI)) (ci := 11) (v := .ref (v 6)) (C := RX12) (T := TX12) (N := 52) hx hb hts (by decide +kernel) hown hK hP 0 rfl rfl 6 (by decide) (hts (.fieldLink RX12 25 "PageOneModel" "most" "[I") (by decide +kernel)) (fun _ h9 => h9) rfl dX12_put_318 ?_
            refine lv_iload_n hx hb dX12_put_321 rfl (lv_at hl 5 rfl) ?_
            refine va_iald hx hb hK hP 6 0 rfl rfl (vin (it79 hn b_1) (by decide)) dX12_put_322 ?_
            refine vp_callSi (va_runS (As := [.int (nI N), .int (u.2 5 (p0 : Int32).toNatClampNeg), .int (u.2 6 (p0 : Int32).toNatClampNeg)]) (rest := []) ⟨hx, hb, hml, hown, hts⟩ (m_in l dC dI (nI N) (u.2 5 (p0 : Int32).toNatClampNeg) (u.2 6 (p0 : Int32).toNatClampNeg)) (va_cwS 3 hts gX12_put_X12_in rfl rfl rfl (by decide +kernel) ⟨Nat.le_of_ble_eq_true rfl, Nat.le_of_ble_eq_true rfl⟩) ⟨pw_fb, fun U hU hW => ⟨rfl, pw_to hU hW (hP.sub (ws' := []) [] rfl) (hK.sub (tys' := []) [] rfl) hN⟩⟩ rfl rfl hl.1 rfl (lv_room (Nat.le_of_ble_eq_true rfl)) dX12_put_323 ⟨Nat.le_of_ble_eq_true rfl, Nat.le_of_ble_eq_true rfl⟩).run (fun r hw => ?_)
            rcases Bool.eq_false_or_eq_true (bw (nI N) (u.2 5 (p0 : Int32).toNatClampNeg) (u.2 6 (p0 : Int32).toNatClampNeg)) with b_20 | b_20
            ·
              obtain rfl : r = 1 := b_t hw b_20
              refine lv_istore (lv' := [(9, .int 1), (8, .int (nI N)), (7, .int 1), (6, .int 4), (0, .ref h0), (1, .int p0), (2, .int (nI P)), (3, .int (nI X)), (4, .int (nI Y)), (5, .int (nI N))]) hx hb dX12_put_326 hl (by decide) rfl (fun ls hl => ?_)
              refine lv_goto (tgt := 343) hx hb dX12_put_328 (by decide) ?_
              refine lv_iload hx hb dX12_put_343 (lv_at hl 0 rfl) ?_
              refine lv_if_ne (tgt := 350) hx hb dX12_put_345 (by decide) (fun c_21 => ?_) (fun c_21 => absurd c_21 (by decide))
              refine lv_aload_n hx hb dX12_put_350 rfl (lv_at hl 4 rfl) ?_
              refine lv_iload_n hx hb dX12_put_351 rfl (lv_at hl 5 rfl) ?_
              refine lv_iload_n hx hb dX12_put_352 rfl (lv_at hl 6 rfl) ?_
              refine lv_iload_n hx hb dX12_put_353 rfl (lv_at hl 7 rfl) ?_
              refine lv_iload hx hb dX12_put_354 (lv_at hl 8 rfl) ?_
              refine lv_iload hx hb dX12_put_356 (lv_at hl 2 rfl) ?_
              refine lv_iload hx hb dX12_put_358 (lv_at hl 1 rfl) ?_
              have hFc := fr_all hD hS hA
              refine va_callv (va_runV (As := [.int p0, .int (nI P), .int (nI X), .int (nI Y), .int 1, .int (nI N)]) (rest := []) ⟨hx, hb, hml, hown, hts⟩ (m_stand l dC dI h0 v cI cZ u p0 P X Y 1 N hPP hXW hYN hi (z05 c_16) s.heap.size) (cwV 6 hts gX12_put_X12_stand rfl rfl rfl (by decide +kernel) ⟨Nat.le_of_ble_eq_true rfl, Nat.le_of_ble_eq_true rfl⟩) ⟨gw_fb, va_recv hK hP (ci := 11) (q0 := 0) rfl rfl, fun U hU hW => ⟨rfl, by rw [hU], pw_to hU hW hP hK hN, hD.weaken (fun _ _ _ _ => trivial)⟩⟩ rfl rfl hl.1 rfl (lv_room (Nat.le_of_ble_eq_true rfl)) dX12_put_360 ⟨Nat.le_of_ble_eq_true rfl, Nat.le_of_ble_eq_true rfl⟩) hS (fun q _ h => hFc q h) hFc (fun u_22 t H1 locs ht hvm hw hB hz1 hk1 hS => ?_)
              obtain ⟨hP, hD1⟩ := hB
              rw [ht] at hP
              have hD := hD1.weaken (fun _ q _ h => hFc q.1 h)
              generalize H1 = H at hP hS ⊢
              have eu_22 := hw
              refine lv_aload_n hx hb dX12_put_363 rfl (lv_at hl 4 rfl) ?_
              refine lv_iconst (v := 0) hx hb dX12_put_364 (by decide) ?_
              refine lv_iload_n hx hb dX12_put_365 rfl (lv_at hl 5 rfl) ?_
              refine lv_iconst (v := 0) hx hb dX12_put_366 (by decide) ?_
              refine lv_iconst (v := 0) hx hb dX12_put_367 (by decide) ?_
              refine lv_iconst (v := 0) hx hb dX12_put_368 (by decide) ?_
              refine lv_iconst (v := 0) hx hb dX12_put_369 (by decide) ?_
              refine lv_iconst (v := 0) hx hb dX12_put_370 (by decide) ?_
              have hFc := fr_all hD hS hA
              refine va_callv (va_runV (As := [.int 0, .int p0, .int 0, .int 0, .int 0, .int 0, .int 0]) (rest := []) ⟨hx, hb, hml, hown, hts⟩ (m_acts l dC dI h0 v cI cZ u_22 0 p0 0 0 0 0 0 (by rw [eu_22]; show bw (u.1 28) 0 299 = true; exact v300 ha h300) H.size) (cwV 7 hts gX12_put_X12_acts rfl rfl rfl (by decide +kernel) ⟨Nat.le_of_ble_eq_true rfl, Nat.le_of_ble_eq_true rfl⟩) ⟨gw_fb, va_recv hK hP (ci := 11) (q0 := 0) rfl rfl, fun U hU hW => ⟨rfl, by rw [hU], pw_to hU hW hP hK hN, hD.weaken (fun _ _ _ _ => trivial)⟩⟩ rfl rfl hl.1 rfl (lv_room (Nat.le_of_ble_eq_true rfl)) dX12_put_371 ⟨Nat.le_of_ble_eq_true rfl, Nat.le_of_ble_eq_true rfl⟩) hS (fun q _ h => hFc q h) hFc (fun u_23 t H1 locs ht hvm hw hB hz1 hk1 hS => ?_)
              obtain ⟨hP, hD1⟩ := hB
              rw [ht] at hP
              have hD := hD1.weaken (fun _ q _ h => hFc q.1 h)
              generalize H1 = H at hP hS ⊢
              have eu_23 := hw
              refine lv_aload_n hx hb dX12_put_374 rfl (lv_at hl 4 rfl) ?_
              refine va_get (D := (dC, dI)) (ci := 11) (v := .ref (v 22)) (C := RX12) (T := TX12) (N := 52) hx hb hts (by decide +kernel) hown hK hP 0 rfl rfl 22 (by decide) (hts (.fieldLink RX12 74 "PageOneModel" "pieces" "[I") (by decide +kernel)) (fun _ h9 => h9) rfl dX12_put_375 ?_
              refine lv_iload_n hx hb dX12_put_378 rfl (lv_at hl 5 rfl) ?_
              refine va_iald hx hb hK hP 22 0 rfl rfl (vin (it79 hn b_1) (by decide)) dX12_put_379 ?_
              exact W.iret (v := (u_23.2 22 (p0 : Int32).toNatClampNeg)) hx hb hr (fun t ht hW => ⟨⟨(u_23.2 22 (p0 : Int32).toNatClampNeg), u_23, rfl, (Or.inr ⟨⟨hit, h300, trivial, c_13, c_16, hfree0, b_20⟩, (by rw [eu_23, eu_22, putR]), P, X, Y, 1, N, rfl, rfl, rfl, rfl, rfl, hPP, hXW, hYN, hDD1, hN1, (Or.inl (by rw [eu_23, eu_22]))⟩), by rw [ht]; exact hP, hD⟩, hS.F ht⟩) hS.2.2 dX12_put_380
            ·
              obtain rfl : r = 0 := b_f hw b_20
              refine lv_istore (lv' := [(9, .int 0), (8, .int (nI N)), (7, .int 1), (6, .int 4), (0, .ref h0), (1, .int p0), (2, .int (nI P)), (3, .int (nI X)), (4, .int (nI Y)), (5, .int (nI N))]) hx hb dX12_put_326 hl (by decide) rfl (fun ls hl => ?_)
              refine lv_goto (tgt := 343) hx hb dX12_put_328 (by decide) ?_
              refine lv_iload hx hb dX12_put_343 (lv_at hl 0 rfl) ?_
              refine lv_if_ne (tgt := 350) hx hb dX12_put_345 (by decide) (fun c_24 => absurd (by decide) c_24) (fun c_24 => ?_)
              refine lv_iconst (v := (-1)) hx hb dX12_put_348 (by decide) ?_
              exact W.iret (v := (-1)) hx hb hr (fun t ht hW => ⟨⟨(-1), u, rfl, (Or.inl ⟨rfl, (fun h => bne b_20 h.2.2.2.2.2.2), Or.inl rfl⟩), by rw [ht]; exact hP, hD⟩, hS.F ht⟩) hS.2.2 dX12_put_349
          ·
            subst hw
            refine lv_if_eq (tgt := 200) hx hb dX12_put_193 (by decide) (fun c_25 => ?_) (fun c_25 => absurd (by decide) c_25)
            refine lv_iconst (v := 0) hx hb dX12_put_200 (by decide) ?_
            refine lv_istore (lv' := [(9, .int 0), (8, .int p4), (7, .int 1), (6, .int 4), (0, .ref h0), (1, .int p0), (2, .int p1), (3, .int p2), (4, .int p3), (5, .int p4)]) hx hb dX12_put_201 hl (by decide) rfl (fun ls hl => ?_)
            refine lv_iload hx hb dX12_put_203 (lv_at hl 0 rfl) ?_
            refine lv_if_ne (tgt := 210) hx hb dX12_put_205 (by decide) (fun c_26 => absurd (by decide) c_26) (fun c_26 => ?_)
            refine lv_iconst (v := (-1)) hx hb dX12_put_208 (by decide) ?_
            exact W.iret (v := (-1)) hx hb hr (fun t ht hW => ⟨⟨(-1), u, rfl, (Or.inl ⟨rfl, (fun h => hfree h.2.2.2.2.2.1), Or.inl rfl⟩), by rw [ht]; exact hP, hD⟩, hS.F ht⟩) hS.2.2 dX12_put_209
    ·
      refine lv_iconst (v := (-1)) hx hb dX12_put_18 (by decide) ?_
      exact W.iret (v := (-1)) hx hb hr (fun t ht hW => ⟨⟨(-1), u, rfl, (Or.inl ⟨rfl, (fun h => h.2.1 c_3), Or.inl rfl⟩), by rw [ht]; exact hP, hD⟩, hS.F ht⟩) hS.2.2 dX12_put_19
  ·
    obtain rfl : r = 0 := b_f hw b_1
    refine lv_if_eq (tgt := 18) hx hb dX12_put_5 (by decide) (fun c_27 => ?_) (fun c_27 => absurd (by decide) c_27)
    refine lv_iconst (v := (-1)) hx hb dX12_put_18 (by decide) ?_
    exact W.iret (v := (-1)) hx hb hr (fun t ht hW => ⟨⟨(-1), u, rfl, (Or.inl ⟨rfl, (fun h => bne b_1 h.1), Or.inl rfl⟩), by rw [ht]; exact hP, hD⟩, hS.F ht⟩) hS.2.2 dX12_put_19
set_option maxHeartbeats 4000000 in
set_option maxRecDepth 100000 in
theorem o_put5 (l : Launch) (dC : Nat → ClassId) (dI : Nat → Nat → Nat) (h0 : Nat) (v : Nat → Nat) (cI cZ : ClassId) (u : mS) (p0 p1 p2 p3 p4 : Int32) (hn : bw (u.1 3) 0 80 = true) (hln : ∀ j, j < 96 → bw (u.2 0 j) 0 60 = true) (hd : bw (u.1 38) 0 399 = true) (ha : bw (u.1 28) 0 300 = true) (hpc : ∀ j, j < 80 → bw (u.2 22 j) 0 6 = true) (hcm : ∀ j, j < 80 → bw (u.2 15 j) 0 80 = true) (hsz : ∀ j, j < 80 → bw (u.2 17 j) 0 4 = true) (hfr : bw p0 0 79 = true → ∀ P X Y N : Nat, P < 12 → X + 1 ≤ 8 → 1 ≤ N → Y + N ≤ 60 → ¬ u.2 22 p0.toNatClampNeg = 6 → runG (mStand u p0 P X Y 1 N) p0 (u.2 22 p0.toNatClampNeg) → 0 ≤ (mFrom (mStand u p0 P X Y 1 N) p0 (u.2 22 p0.toNatClampNeg).toNatClampNeg).toInt ∧ (mFrom (mStand u p0 P X Y 1 N) p0 (u.2 22 p0.toNatClampNeg).toNatClampNeg).toInt ≤ 400 ∧ (mTakes (mStand u p0 P X Y 1 N) p0 (u.2 22 p0.toNatClampNeg)).toInt ≤ 60) (hK9 : bw p0 0 (u.1 3 - 1) = true → u.2 4 p0.toNatClampNeg = 5) (sz : Nat) : Met l yX12_put wsX12_put ({ frames := 4, cells := 0, slots := 0, locals := 106 }) (va_Pc [.ref h0, .int p0, .int p1, .int p2, .int p3, .int p4] (fun U => U.heap.size = sz ∧ PW dC dI (mW h0 v cI cZ u) [(cI, .int), (cZ, .boolean)] U ∧ va_D (fun _ => True) (mW h0 v cI cZ u))) (va_Qi (fun (r : Int32) (u9 : mS) => rPut u p0 p1 p2 p3 1 (u.2 8 p0.toNatClampNeg) (okP5 u p0 p1 p2 p3 p4) r u9) (fun u9 t => va_P (dC, dI) vwCl (mW h0 v cI cZ u9) t.heap ∧ va_D (va_A (mW h0 v cI cZ u) sz) (mW h0 v cI cZ u9)) (va_A (mW h0 v cI cZ u) sz)) 0 0 (va_A (mW h0 v cI cZ u) sz) := by
  refine Met.ofW (cc := cX12_put) (maxL := 10) (ret := (some .int)) (by decide) rfl ?_
  intro p e s m args below meth c s₁ B hml hv
  obtain ⟨rfl, hsz, ⟨hP, hK, hN⟩, hD0⟩ := hv
  have hx := B.exec
  have hb := B.bytes
  have hr := B.returns
  have hts := atoms_spec (ws := wsX12_put) B.pre
  have hown : s.vm.findClass RX12 = some m.cls := findClass_of_methodNamed B.named
  have hlocks := B.notSynchronized
  subst hsz
  have hD := hD0.self (sz := s.heap.size)
  generalize hAe : va_A (mW h0 v cI cZ u) s.heap.size = A at hD ⊢
  have hA : ∀ q : Nat, s.heap.size ≤ q → A q := fun q h => by rw [← hAe]; exact Or.inr h
  have hS : va_S A s.heap s.heap [] := va_S.rf
  have hl := lv_entry ([.ref h0, .int p0, .int p1, .int p2, .int p3, .int p4]) (n := 10) (Nat.le_of_ble_eq_true rfl)
  rw [lg_entry_eq]
  generalize (lg_sl ([.ref h0, .int p0, .int p1, .int p2, .int p3, .int p4]) ++ List.replicate (10 - (lg_sl ([.ref h0, .int p0, .int p1, .int p2, .int p3, .int p4])).length) Slot.unset).toArray = ls at hl ⊢
  have hl : lv_has ls 10 [(0, .ref h0), (1, .int p0), (2, .int p1), (3, .int p2), (4, .int p3), (5, .int p4)] := hl
  refine lv_aload_n hx hb dX12_put_0 rfl (lv_at hl 0 rfl) ?_
  refine lv_iload_n hx hb dX12_put_1 rfl (lv_at hl 1 rfl) ?_
  refine vp_callSi (va_runV (As := [.int p0]) (rest := []) ⟨hx, hb, hml, hown, hts⟩ (m_isItem l dC dI h0 v cI cZ u p0) (cwV 1 hts gX12_put_X12_isItem rfl rfl rfl (by decide +kernel) ⟨Nat.le_of_ble_eq_true rfl, Nat.le_of_ble_eq_true rfl⟩) ⟨pw_fb, va_recv hK hP (ci := 11) (q0 := 0) rfl rfl, fun U hU hW => ⟨rfl, pw_to hU hW hP hK hN⟩⟩ rfl rfl hl.1 rfl (lv_room (Nat.le_of_ble_eq_true rfl)) dX12_put_2 ⟨Nat.le_of_ble_eq_true rfl, Nat.le_of_ble_eq_true rfl⟩).run (fun r hw => ?_)
  rcases Bool.eq_false_or_eq_true (bw p0 0 (u.1 3 - 1)) with b_1 | b_1
  ·
    obtain rfl : r = 1 := b_t hw b_1
    refine lv_if_eq (tgt := 18) hx hb dX12_put_5 (by decide) (fun c_2 => absurd c_2 (by decide)) (fun c_2 => ?_)
    refine lv_aload_n hx hb dX12_put_8 rfl (lv_at hl 0 rfl) ?_
    refine va_get (D := (dC, dI)) (ci := 11) (v := .int (u.1 28)) (C := RX12) (T := TX12) (N := 52) hx hb hts (by decide +kernel) hown hK hP 0 rfl rfl 28 (by decide) (hts (.fieldLink RX12 158 "PageOneModel" "acts" "I") (by decide +kernel)) (fun _ h9 => h9) rfl dX12_put_9 ?_
    refine lv_sipush (v := 300) hx hb dX12_put_12 (by decide) ?_
    refine lv_icmp_ne (tgt := 20) hx hb dX12_put_15 (by decide) (fun c_3 => ?_) (fun c_3 => ?_)
    ·
      refine lv_aload_n hx hb dX12_put_20 rfl (lv_at hl 0 rfl) ?_
      refine va_get (D := (dC, dI)) (ci := 11) (v := .ref (v 4)) (C := RX12) (T := TX12) (N := 52) hx hb hts (by decide +kernel) hown hK hP 0 rfl rfl 4 (by decide) (hts (.fieldLink RX12 19 "PageOneModel" "kind" "[I") (by decide +kernel)) (fun _ h9 => h9) rfl dX12_put_21 ?_
      refine lv_iload_n hx hb dX12_put_24 rfl (lv_at hl 1 rfl) ?_
      refine va_iald hx hb hK hP 4 0 rfl rfl (vin (it79 hn b_1) (by decide)) dX12_put_25 ?_
      refine lv_topi (fun y_4 ey_4 => ?_)
      obtain rfl : y_4 = 5 := ey_4.trans (hK9 b_1)
      refine lv_istore (lv' := [(6, .int 5), (0, .ref h0), (1, .int p0), (2, .int p1), (3, .int p2), (4, .int p3), (5, .int p4)]) hx hb dX12_put_26 hl (by decide) rfl (fun ls hl => ?_)
      refine lv_iload hx hb dX12_put_28 (lv_at hl 0 rfl) ?_
      refine lv_iconst (v := 1) hx hb dX12_put_30 (by decide) ?_
      refine lv_icmp_eq (tgt := 40) hx hb dX12_put_31 (by decide) (fun c_5 => absurd c_5 (by decide)) (fun c_5 => ?_)
      refine lv_iload hx hb dX12_put_34 (lv_at hl 0 rfl) ?_
      refine lv_iconst (v := 3) hx hb dX12_put_36 (by decide) ?_
      refine lv_icmp_ne (tgt := 49) hx hb dX12_put_37 (by decide) (fun c_6 => ?_) (fun c_6 => absurd c_6 (by decide))
      refine lv_iconst (v := 1) hx hb dX12_put_49 (by decide) ?_
      refine lv_istore (lv' := [(7, .int 1), (6, .int 5), (0, .ref h0), (1, .int p0), (2, .int p1), (3, .int p2), (4, .int p3), (5, .int p4)]) hx hb dX12_put_50 hl (by decide) rfl (fun ls hl => ?_)
      refine lv_iload hx hb dX12_put_52 (lv_at hl 1 rfl) ?_
      refine lv_if_eq (tgt := 63) hx hb dX12_put_54 (by decide) (fun c_7 => absurd c_7 (by decide)) (fun c_7 => ?_)
      refine lv_iload hx hb dX12_put_57 (lv_at hl 1 rfl) ?_
      refine lv_iconst (v := 4) hx hb dX12_put_59 (by decide) ?_
      refine lv_icmp_ne (tgt := 68) hx hb dX12_put_60 (by decide) (fun c_8 => ?_) (fun c_8 => absurd c_8 (by decide))
      refine lv_aload_n hx hb dX12_put_68 rfl (lv_at hl 2 rfl) ?_
      refine va_get (D := (dC, dI)) (ci := 11) (v := .ref (v 8)) (C := RX12) (T := TX12) (N := 52) hx hb hts (by decide +kernel) hown hK hP 0 rfl rfl 8 (by decide) (hts (.fieldLink RX12 31 "PageOneModel" "high" "[I") (by decide +kernel)) (fun _ h9 => h9) rfl dX12_put_69 ?_
      refine lv_iload_n hx hb dX12_put_72 rfl (lv_at hl 3 rfl) ?_
      refine va_iald hx hb hK hP 8 0 rfl rfl (vin (it79 hn b_1) (by decide)) dX12_put_73 ?_
      refine lv_istore (lv' := [(8, .int (u.2 8 (p0 : Int32).toNatClampNeg)), (7, .int 1), (6, .int 5), (0, .ref h0), (1, .int p0), (2, .int p1), (3, .int p2), (4, .int p3), (5, .int p4)]) hx hb dX12_put_74 hl (by decide) rfl (fun ls hl => ?_)
      refine lv_iload hx hb dX12_put_76 (lv_at hl 2 rfl) ?_
      refine lv_iconst (v := 2) hx hb dX12_put_78 (by decide) ?_
      refine lv_icmp_ne (tgt := 127) hx hb dX12_put_79 (by decide) (fun c_9 => ?_) (fun c_9 => absurd c_9 (by decide))
      refine lv_iload hx hb dX12_put_127 (lv_at hl 2 rfl) ?_
      refine lv_if_eq (tgt := 149) hx hb dX12_put_129 (by decide) (fun c_10 => absurd c_10 (by decide)) (fun c_10 => ?_)
      refine lv_iload hx hb dX12_put_132 (lv_at hl 2 rfl) ?_
      refine lv_iconst (v := 4) hx hb dX12_put_134 (by decide) ?_
      refine lv_icmp_eq (tgt := 149) hx hb dX12_put_135 (by decide) (fun c_11 => absurd c_11 (by decide)) (fun c_11 => ?_)
      refine lv_iload hx hb dX12_put_138 (lv_at hl 2 rfl) ?_
      refine lv_iconst (v := 2) hx hb dX12_put_140 (by decide) ?_
      refine lv_icmp_eq (tgt := 149) hx hb dX12_put_141 (by decide) (fun c_12 => absurd c_12 (by decide)) (fun c_12 => ?_)
      refine lv_iload hx hb dX12_put_144 (lv_at hl 8 rfl) ?_
      refine lv_if_ne (tgt := 153) hx hb dX12_put_146 (by decide) (fun c_13 => ?_) (fun c_13 => ?_)
      ·
        refine lv_iconst (v := 0) hx hb dX12_put_153 (by decide) ?_
        refine lv_istore (lv' := [(9, .int 0), (8, .int (u.2 8 (p0 : Int32).toNatClampNeg)), (7, .int 1), (6, .int 5), (0, .ref h0), (1, .int p0), (2, .int p1), (3, .int p2), (4, .int p3), (5, .int p4)]) hx hb dX12_put_154 hl (by decide) rfl (fun ls hl => ?_)
        refine lv_iload hx hb dX12_put_156 (lv_at hl 0 rfl) ?_
        refine lv_if_eq (tgt := 200) hx hb dX12_put_158 (by decide) (fun c_14 => ?_) (fun c_14 => absurd (by decide) c_14)
        refine lv_iconst (v := 0) hx hb dX12_put_200 (by decide) ?_
        refine lv_istore (lv' := [(9, .int 0), (8, .int (u.2 8 (p0 : Int32).toNatClampNeg)), (7, .int 1), (6, .int 5), (0, .ref h0), (1, .int p0), (2, .int p1), (3, .int p2), (4, .int p3), (5, .int p4)]) hx hb dX12_put_201 hl (by decide) rfl (fun ls hl => ?_)
        refine lv_iload hx hb dX12_put_203 (lv_at hl 0 rfl) ?_
        refine lv_if_ne (tgt := 210) hx hb dX12_put_205 (by decide) (fun c_15 => absurd (by decide) c_15) (fun c_15 => ?_)
        refine lv_iconst (v := (-1)) hx hb dX12_put_208 (by decide) ?_
        exact W.iret (v := (-1)) hx hb hr (fun t ht hW => ⟨⟨(-1), u, rfl, (Or.inl ⟨rfl, (fun h => c_13 h.2.2.1), Or.inl rfl⟩), by rw [ht]; exact hP, hD⟩, hS.F ht⟩) hS.2.2 dX12_put_209
      ·
        refine lv_iconst (v := 1) hx hb dX12_put_149 (by decide) ?_
        refine lv_goto (tgt := 154) hx hb dX12_put_150 (by decide) ?_
        refine lv_istore (lv' := [(9, .int 1), (8, .int (u.2 8 (p0 : Int32).toNatClampNeg)), (7, .int 1), (6, .int 5), (0, .ref h0), (1, .int p0), (2, .int p1), (3, .int p2), (4, .int p3), (5, .int p4)]) hx hb dX12_put_154 hl (by decide) rfl (fun ls hl => ?_)
        refine lv_iload hx hb dX12_put_156 (lv_at hl 0 rfl) ?_
        refine lv_if_eq (tgt := 200) hx hb dX12_put_158 (by decide) (fun c_16 => absurd c_16 (by decide)) (fun c_16 => ?_)
        refine lv_iload hx hb dX12_put_161 (lv_at hl 1 rfl) ?_
        refine lv_iconst (v := 1) hx hb dX12_put_163 (by decide) ?_
        refine lv_icmp_lt (tgt := 200) hx hb dX12_put_164 (by decide) (fun c_17 => ?_) (fun c_17 => ?_)
        ·
          refine lv_iconst (v := 0) hx hb dX12_put_200 (by decide) ?_
          refine lv_istore (lv' := [(9, .int 0), (8, .int (u.2 8 (p0 : Int32).toNatClampNeg)), (7, .int 1), (6, .int 5), (0, .ref h0), (1, .int p0), (2, .int p1), (3, .int p2), (4, .int p3), (5, .int p4)]) hx hb dX12_put_201 hl (by decide) rfl (fun ls hl => ?_)
          refine lv_iload hx hb dX12_put_203 (lv_at hl 0 rfl) ?_
          refine lv_if_ne (tgt := 210) hx hb dX12_put_205 (by decide) (fun c_18 => absurd (by decide) c_18) (fun c_18 => ?_)
          refine lv_iconst (v := (-1)) hx hb dX12_put_208 (by decide) ?_
          exact W.iret (v := (-1)) hx hb hr (fun t ht hW => ⟨⟨(-1), u, rfl, (Or.inl ⟨rfl, (fun h => h.2.2.2.1 c_17), Or.inl rfl⟩), by rw [ht]; exact hP, hD⟩, hS.F ht⟩) hS.2.2 dX12_put_209
        ·
          refine lv_iload hx hb dX12_put_167 (lv_at hl 3 rfl) ?_
          refine lv_if_eq (tgt := 181) hx hb dX12_put_169 (by decide) (fun c_19 => absurd c_19 (by decide)) (fun c_19 => ?_)
          refine lv_aload_n hx hb dX12_put_172 rfl (lv_at hl 4 rfl) ?_
          refine va_get (D := (dC, dI)) (ci := 11) (v := .ref (v 22)) (C := RX12) (T := TX12) (N := 52) hx hb hts (by decide +kernel) hown hK hP 0 rfl rfl 22 (by decide) (hts (.fieldLink RX12 74 "PageOneModel" "pieces" "[I") (by decide +kernel)) (fun _ h9 => h9) rfl dX12_put_173 ?_
          refine lv_iload_n hx hb dX12_put_176 rfl (lv_at hl 5 rfl) ?_
          refine va_iald hx hb hK hP 22 0 rfl rfl (vin (it79 hn b_1) (by decide)) dX12_put_177 ?_
          refine lv_if_ne (tgt := 200) hx hb dX12_put_178 (by decide) (fun c_20 => ?_) (fun c_20 => ?_)
          ·
            refine lv_iconst (v := 0) hx hb dX12_put_200 (by decide) ?_
            refine lv_istore (lv' := [(9, .int 0), (8, .int (u.2 8 (p0 : Int32).toNatClampNeg)), (7, .int 1), (6, .int 5), (0, .ref h0), (1, .int p0), (2, .int p1), (3, .int p2), (4, .int p3), (5, .int p4)]) hx hb dX12_put_201 hl (by decide) rfl (fun ls hl => ?_)
            refine lv_iload hx hb dX12_put_203 (lv_at hl 0 rfl) ?_
            refine lv_if_ne (tgt := 210) hx hb dX12_put_205 (by decide) (fun c_21 => absurd (by decide) c_21) (fun c_21 => ?_)
            refine lv_iconst (v := (-1)) hx hb dX12_put_208 (by decide) ?_
            exact W.iret (v := (-1)) hx hb hr (fun t ht hW => ⟨⟨(-1), u, rfl, (Or.inl ⟨rfl, (fun h => c_20 h.2.2.2.2.1), Or.inl rfl⟩), by rw [ht]; exact hP, hD⟩, hS.F ht⟩) hS.2.2 dX12_put_209
          ·
            refine lv_aload_n hx hb dX12_put_181 rfl (lv_at hl 4 rfl) ?_
            refine lv_iload_n hx hb dX12_put_182 rfl (lv_at hl 6 rfl) ?_
            refine lv_iload_n hx hb dX12_put_183 rfl (lv_at hl 7 rfl) ?_
            refine lv_iload hx hb dX12_put_184 (lv_at hl 8 rfl) ?_
            refine lv_iload hx hb dX12_put_186 (lv_at hl 2 rfl) ?_
            refine lv_iload hx hb dX12_put_188 (lv_at hl 1 rfl) ?_
            refine vp_callSi (va_runV (As := [.int p1, .int p2, .int p3, .int 1, .int (u.2 8 (p0 : Int32).toNatClampNeg)]) (rest := []) ⟨hx, hb, hml, hown, hts⟩ (m_isFree l dC dI h0 v cI cZ u p1 p2 p3 1 (u.2 8 (p0 : Int32).toNatClampNeg) hln) (cwV 5 hts gX12_put_X12_isFree rfl rfl rfl (by decide +kernel) ⟨Nat.le_of_ble_eq_true rfl, Nat.le_of_ble_eq_true rfl⟩) ⟨pw_fb, va_recv hK hP (ci := 11) (q0 := 0) rfl rfl, fun U hU hW => ⟨rfl, pw_to hU hW hP hK hN⟩⟩ rfl rfl hl.1 rfl (lv_room (Nat.le_of_ble_eq_true rfl)) dX12_put_190 ⟨Nat.le_of_ble_eq_true rfl, Nat.le_of_ble_eq_true rfl⟩).run (fun r hw => ?_)
            have hit := b_1
            have hi := it79 hn hit
            have h300 := c_3
            rcases hw with ⟨hw, hfree⟩ | ⟨hw, hfree⟩
            ·
              subst hw
              have hfree0 := hfree
              obtain ⟨P, X, Y, D, N, eP, eX, eY, eD, eN, hPP, hXW, hYN, hDD1, hN1⟩ := free_rect hln hfree
              subst eP eX eY
              obtain rfl : D = 1 := (nI_inj (by omega) (by decide)).mp (show nI D = nI 1 from eD.symm)
              rw [eN] at hl
              refine lv_if_eq (tgt := 200) hx hb dX12_put_193 (by decide) (fun c_22 => absurd c_22 (by decide)) (fun c_22 => ?_)
              refine lv_iconst (v := 1) hx hb dX12_put_196 (by decide) ?_
              refine lv_goto (tgt := 201) hx hb dX12_put_197 (by decide) ?_
              refine lv_istore (lv' := [(9, .int 1), (8, .int (nI N)), (7, .int 1), (6, .int 5), (0, .ref h0), (1, .int p0), (2, .int (nI P)), (3, .int (nI X)), (4, .int (nI Y)), (5, .int p4)]) hx hb dX12_put_201 hl (by decide) rfl (fun ls hl => ?_)
              refine lv_iload hx hb dX12_put_203 (lv_at hl 0 rfl) ?_
              refine lv_if_ne (tgt := 210) hx hb dX12_put_205 (by decide) (fun c_23 => ?_) (fun c_23 => absurd c_23 (by decide))
              refine lv_iload hx hb dX12_put_210 (lv_at hl 3 rfl) ?_
              refine lv_tableIn (tgt := 331) (off := 119) hx hb dX12_put_212 (by decide) (by decide) (by decide) (by decide) ?_
              refine lv_aload_n hx hb dX12_put_331 rfl (lv_at hl 4 rfl) ?_
              refine lv_iload_n hx hb dX12_put_332 rfl (lv_at hl 5 rfl) ?_
              refine lv_iload_n hx hb dX12_put_333 rfl (lv_at hl 6 rfl) ?_
              refine lv_iload_n hx hb dX12_put_334 rfl (lv_at hl 7 rfl) ?_
              refine vp_callSi (va_runV (As := [.int p0, .int (nI P), .int (nI X)]) (rest := []) ⟨hx, hb, hml, hown, hts⟩ (n_mayMend l dC dI h0 v cI cZ u p0 (nI P) (nI X) hi hn hd) (cwV 3 hts gX12_put_X12_mayMend rfl rfl rfl (by decide +kernel) ⟨Nat.le_of_ble_eq_true rfl, Nat.le_of_ble_eq_true rfl⟩) ⟨pw_fb, va_recv hK hP (ci := 11) (q0 := 0) rfl rfl, fun U hU hW => ⟨rfl, pw_to hU hW hP hK hN⟩⟩ rfl rfl hl.1 rfl (lv_room (Nat.le_of_ble_eq_true rfl)) dX12_put_335 ⟨Nat.le_of_ble_eq_true rfl, Nat.le_of_ble_eq_true rfl⟩).run (fun r hw => ?_)
              obtain rfl : r = (mMend u p0 (nI P) (nI X)) := hw
              refine lv_istore (lv' := [(9, .int (mMend u p0 (nI P) (nI X))), (8, .int (nI N)), (7, .int 1), (6, .int 5), (0, .ref h0), (1, .int p0), (2, .int (nI P)), (3, .int (nI X)), (4, .int (nI Y)), (5, .int p4)]) hx hb dX12_put_338 hl (by decide) rfl (fun ls hl => ?_)
              refine lv_goto (tgt := 343) hx hb dX12_put_340 (by decide) ?_
              refine lv_iload hx hb dX12_put_343 (lv_at hl 0 rfl) ?_
              refine lv_if_ne (tgt := 350) hx hb dX12_put_345 (by decide) (fun c_24 => ?_) (fun c_24 => ?_)
              ·
                refine lv_aload_n hx hb dX12_put_350 rfl (lv_at hl 4 rfl) ?_
                refine lv_iload_n hx hb dX12_put_351 rfl (lv_at hl 5 rfl) ?_
                refine lv_iload_n hx hb dX12_put_352 rfl (lv_at hl 6 rfl) ?_
                refine lv_iload_n hx hb dX12_put_353 rfl (lv_at hl 7 rfl) ?_
                refine lv_iload hx hb dX12_put_354 (lv_at hl 8 rfl) ?_
                refine lv_iload hx hb dX12_put_356 (lv_at hl 2 rfl) ?_
                refine lv_iload hx hb dX12_put_358 (lv_at hl 1 rfl) ?_
                have hFc := fr_all hD hS hA
                refine va_callv (va_runV (As := [.int p0, .int (nI P), .int (nI X), .int (nI Y), .int 1, .int (nI N)]) (rest := []) ⟨hx, hb, hml, hown, hts⟩ (m_stand l dC dI h0 v cI cZ u p0 P X Y 1 N hPP hXW hYN hi (z05 c_20) s.heap.size) (cwV 6 hts gX12_put_X12_stand rfl rfl rfl (by decide +kernel) ⟨Nat.le_of_ble_eq_true rfl, Nat.le_of_ble_eq_true rfl⟩) ⟨gw_fb, va_recv hK hP (ci := 11) (q0 := 0) rfl rfl, fun U hU hW => ⟨rfl, by rw [hU], pw_to hU hW hP hK hN, hD.weaken (fun _ _ _ _ => trivial)⟩⟩ rfl rfl hl.1 rfl (lv_room (Nat.le_of_ble_eq_true rfl)) dX12_put_360 ⟨Nat.le_of_ble_eq_true rfl, Nat.le_of_ble_eq_true rfl⟩) hS (fun q _ h => hFc q h) hFc (fun u_25 t H1 locs ht hvm hw hB hz1 hk1 hS => ?_)
                obtain ⟨hP, hD1⟩ := hB
                rw [ht] at hP
                have hD := hD1.weaken (fun _ q _ h => hFc q.1 h)
                generalize H1 = H at hP hS ⊢
                have eu_25 := hw
                refine lv_aload_n hx hb dX12_put_363 rfl (lv_at hl 4 rfl) ?_
                refine lv_iconst (v := 0) hx hb dX12_put_364 (by decide) ?_
                refine lv_iload_n hx hb dX12_put_365 rfl (lv_at hl 5 rfl) ?_
                refine lv_iconst (v := 0) hx hb dX12_put_366 (by decide) ?_
                refine lv_iconst (v := 0) hx hb dX12_put_367 (by decide) ?_
                refine lv_iconst (v := 0) hx hb dX12_put_368 (by decide) ?_
                refine lv_iconst (v := 0) hx hb dX12_put_369 (by decide) ?_
                refine lv_iconst (v := 0) hx hb dX12_put_370 (by decide) ?_
                have hFc := fr_all hD hS hA
                refine va_callv (va_runV (As := [.int 0, .int p0, .int 0, .int 0, .int 0, .int 0, .int 0]) (rest := []) ⟨hx, hb, hml, hown, hts⟩ (m_acts l dC dI h0 v cI cZ u_25 0 p0 0 0 0 0 0 (by rw [eu_25]; show bw (u.1 28) 0 299 = true; exact v300 ha h300) H.size) (cwV 7 hts gX12_put_X12_acts rfl rfl rfl (by decide +kernel) ⟨Nat.le_of_ble_eq_true rfl, Nat.le_of_ble_eq_true rfl⟩) ⟨gw_fb, va_recv hK hP (ci := 11) (q0 := 0) rfl rfl, fun U hU hW => ⟨rfl, by rw [hU], pw_to hU hW hP hK hN, hD.weaken (fun _ _ _ _ => trivial)⟩⟩ rfl rfl hl.1 rfl (lv_room (Nat.le_of_ble_eq_true rfl)) dX12_put_371 ⟨Nat.le_of_ble_eq_true rfl, Nat.le_of_ble_eq_true rfl⟩) hS (fun q _ h => hFc q h) hFc (fun u_26 t H1 locs ht hvm hw hB hz1 hk1 hS => ?_)
                obtain ⟨hP, hD1⟩ := hB
                rw [ht] at hP
                have hD := hD1.weaken (fun _ q _ h => hFc q.1 h)
                generalize H1 = H at hP hS ⊢
                have eu_26 := hw
                refine lv_aload_n hx hb dX12_put_374 rfl (lv_at hl 4 rfl) ?_
                refine va_get (D := (dC, dI)) (ci := 11) (v := .ref (v 22)) (C := RX12) (T := TX12) (N := 52) hx hb hts (by decide +kernel) hown hK hP 0 rfl rfl 22 (by decide) (hts (.fieldLink RX12 74 "PageOneModel" "pieces" "[I") (by decide +kernel)) (fun _ h9 => h9) rfl dX12_put_375 ?_
                refine lv_iload_n hx hb dX12_put_378 rfl (lv_at hl 5 rfl) ?_
                refine va_iald hx hb hK hP 22 0 rfl rfl (vin (it79 hn b_1) (by decide)) dX12_put_379 ?_
                exact W.iret (v := (u_26.2 22 (p0 : Int32).toNatClampNeg)) hx hb hr (fun t ht hW => ⟨⟨(u_26.2 22 (p0 : Int32).toNatClampNeg), u_26, rfl, (Or.inr ⟨⟨hit, h300, c_13, c_17, c_20, hfree0, c_24⟩, (by rw [eu_26, eu_25, putR]), P, X, Y, 1, N, rfl, rfl, rfl, rfl, eN, hPP, hXW, hYN, hDD1, hN1, (Or.inl (by rw [eu_26, eu_25]))⟩), by rw [ht]; exact hP, hD⟩, hS.F ht⟩) hS.2.2 dX12_put_380
              ·
                refine lv_iconst (v := (-1)) hx hb dX12_put_348 (by decide) ?_
                exact W.iret (v := (-1)) hx hb hr (fun t ht hW => ⟨⟨(-1), u, rfl, (Or.inl ⟨rfl, (fun h => h.2.2.2.2.2.2 c_24), Or.inl rfl⟩), by rw [ht]; exact hP, hD⟩, hS.F ht⟩) hS.2.2 dX12_put_349
            ·
              subst hw
              refine lv_if_eq (tgt := 200) hx hb dX12_put_193 (by decide) (fun c_27 => ?_) (fun c_27 => absurd (by decide) c_27)
              refine lv_iconst (v := 0) hx hb dX12_put_200 (by decide) ?_
              refine lv_istore (lv' := [(9, .int 0), (8, .int (u.2 8 (p0 : Int32).toNatClampNeg)), (7, .int 1), (6, .int 5), (0, .ref h0), (1, .int p0), (2, .int p1), (3, .int p2), (4, .int p3), (5, .int p4)]) hx hb dX12_put_201 hl (by decide) rfl (fun ls hl => ?_)
              refine lv_iload hx hb dX12_put_203 (lv_at hl 0 rfl) ?_
              refine lv_if_ne (tgt := 210) hx hb dX12_put_205 (by decide) (fun c_28 => absurd (by decide) c_28) (fun c_28 => ?_)
              refine lv_iconst (v := (-1)) hx hb dX12_put_208 (by decide) ?_
              exact W.iret (v := (-1)) hx hb hr (fun t ht hW => ⟨⟨(-1), u, rfl, (Or.inl ⟨rfl, (fun h => hfree h.2.2.2.2.2.1), Or.inl rfl⟩), by rw [ht]; exact hP, hD⟩, hS.F ht⟩) hS.2.2 dX12_put_209
    ·
      refine lv_iconst (v := (-1)) hx hb dX12_put_18 (by decide) ?_
      exact W.iret (v := (-1)) hx hb hr (fun t ht hW => ⟨⟨(-1), u, rfl, (Or.inl ⟨rfl, (fun h => h.2.1 c_3), Or.inl rfl⟩), by rw [ht]; exact hP, hD⟩, hS.F ht⟩) hS.2.2 dX12_put_19
  ·
    obtain rfl : r = 0 := b_f hw b_1
    refine lv_if_eq (tgt := 18) hx hb dX12_put_5 (by decide) (fun c_29 => ?_) (fun c_29 => absurd (by decide) c_29)
    refine lv_iconst (v := (-1)) hx hb dX12_put_18 (by decide) ?_
    exact W.iret (v := (-1)) hx hb hr (fun t ht hW => ⟨⟨(-1), u, rfl, (Or.inl ⟨rfl, (fun h => bne b_1 h.1), Or.inl rfl⟩), by rw [ht]; exact hP, hD⟩, hS.F ht⟩) hS.2.2 dX12_put_19
set_option maxHeartbeats 4000000 in
set_option maxRecDepth 100000 in
theorem n_liftN (l : Launch) (dC : Nat → ClassId) (dI : Nat → Nat → Nat) (h0 : Nat) (v : Nat → Nat) (cI cZ : ClassId) (u : mS) (p0 : Int32) (hn : bw (u.1 3) 0 80 = true) (hno : bw p0 0 (u.1 3 - 1) = true → u.2 22 p0.toNatClampNeg = 0) (sz : Nat) : Met l yX12_lift wsX12_lift ({ frames := 3, cells := 0, slots := 0, locals := 72 }) (va_Pc [.ref h0, .int p0] (fun U => U.heap.size = sz ∧ PW dC dI (mW h0 v cI cZ u) [(cI, .int), (cZ, .boolean)] U ∧ va_D (fun _ => True) (mW h0 v cI cZ u))) (va_Qi (fun (r : Int32) (u9 : mS) => r = (-1) ∧ u9 = u) (fun u9 t => va_P (dC, dI) vwCl (mW h0 v cI cZ u9) t.heap ∧ va_D (va_A (mW h0 v cI cZ u) sz) (mW h0 v cI cZ u9)) (va_A (mW h0 v cI cZ u) sz)) 0 0 (va_A (mW h0 v cI cZ u) sz) := by
  refine Met.ofW (cc := cX12_lift) (maxL := 3) (ret := (some .int)) (by decide) rfl ?_
  intro p e s m args below meth c s₁ B hml hv
  obtain ⟨rfl, hsz, ⟨hP, hK, hN⟩, hD0⟩ := hv
  have hx := B.exec
  have hb := B.bytes
  have hr := B.returns
  have hts := atoms_spec (ws := wsX12_lift) B.pre
  have hown : s.vm.findClass RX12 = some m.cls := findClass_of_methodNamed B.named
  have hlocks := B.notSynchronized
  subst hsz
  have hD := hD0.self (sz := s.heap.size)
  generalize hAe : va_A (mW h0 v cI cZ u) s.heap.size = A at hD ⊢
  have hA : ∀ q : Nat, s.heap.size ≤ q → A q := fun q h => by rw [← hAe]; exact Or.inr h
  have hS : va_S A s.heap s.heap [] := va_S.rf
  have hl := lv_entry ([.ref h0, .int p0]) (n := 3) (Nat.le_of_ble_eq_true rfl)
  rw [lg_entry_eq]
  generalize (lg_sl ([.ref h0, .int p0]) ++ List.replicate (3 - (lg_sl ([.ref h0, .int p0])).length) Slot.unset).toArray = ls at hl ⊢
  have hl : lv_has ls 3 [(0, .ref h0), (1, .int p0)] := hl
  refine lv_aload_n hx hb dX12_lift_0 rfl (lv_at hl 0 rfl) ?_
  refine lv_iload_n hx hb dX12_lift_1 rfl (lv_at hl 1 rfl) ?_
  refine vp_callSi (va_runV (As := [.int p0]) (rest := []) ⟨hx, hb, hml, hown, hts⟩ (m_isItem l dC dI h0 v cI cZ u p0) (cwV 1 hts gX12_lift_X12_isItem rfl rfl rfl (by decide +kernel) ⟨Nat.le_of_ble_eq_true rfl, Nat.le_of_ble_eq_true rfl⟩) ⟨pw_fb, va_recv hK hP (ci := 11) (q0 := 0) rfl rfl, fun U hU hW => ⟨rfl, pw_to hU hW hP hK hN⟩⟩ rfl rfl hl.1 rfl (lv_room (Nat.le_of_ble_eq_true rfl)) dX12_lift_2 ⟨Nat.le_of_ble_eq_true rfl, Nat.le_of_ble_eq_true rfl⟩).run (fun r hw => ?_)
  rcases Bool.eq_false_or_eq_true (bw p0 0 (u.1 3 - 1)) with b_1 | b_1
  ·
    obtain rfl : r = 1 := b_t hw b_1
    refine lv_if_eq (tgt := 27) hx hb dX12_lift_5 (by decide) (fun c_2 => absurd c_2 (by decide)) (fun c_2 => ?_)
    refine lv_aload_n hx hb dX12_lift_8 rfl (lv_at hl 0 rfl) ?_
    refine va_get (D := (dC, dI)) (ci := 11) (v := .ref (v 22)) (C := RX12) (T := TX12) (N := 52) hx hb hts (by decide +kernel) hown hK hP 0 rfl rfl 22 (by decide) (hts (.fieldLink RX12 74 "PageOneModel" "pieces" "[I") (by decide +kernel)) (fun _ h9 => h9) rfl dX12_lift_9 ?_
    refine lv_iload_n hx hb dX12_lift_12 rfl (lv_at hl 1 rfl) ?_
    refine va_iald hx hb hK hP 22 0 rfl rfl (vIt hn b_1) dX12_lift_13 ?_
    refine lv_if_eq (tgt := 27) hx hb dX12_lift_14 (by decide) (fun c_3 => ?_) (fun c_3 => absurd (hno b_1) c_3)
    refine lv_iconst (v := (-1)) hx hb dX12_lift_27 (by decide) ?_
    exact W.iret (v := (-1)) hx hb hr (fun t ht hW => ⟨⟨(-1), u, rfl, ⟨rfl, rfl⟩, by rw [ht]; exact hP, hD⟩, hS.F ht⟩) hS.2.2 dX12_lift_28
  ·
    obtain rfl : r = 0 := b_f hw b_1
    refine lv_if_eq (tgt := 27) hx hb dX12_lift_5 (by decide) (fun c_4 => ?_) (fun c_4 => absurd (by decide) c_4)
    refine lv_iconst (v := (-1)) hx hb dX12_lift_27 (by decide) ?_
    exact W.iret (v := (-1)) hx hb hr (fun t ht hW => ⟨⟨(-1), u, rfl, ⟨rfl, rfl⟩, by rw [ht]; exact hP, hD⟩, hS.F ht⟩) hS.2.2 dX12_lift_28
/-- put: what the reference answers, whatever the kind -/
def puX (u : mS) (p0 p1 p2 p3 p4 r : Int32) (u9 : mS) : Prop := ∃ (W H : Int32) (ok : Prop), (ok → bw p0 0 (u.1 3 - 1) = true) ∧ (∀ i, p0 = nI i → i < (u.1 3).toNatClampNeg → (ok ↔ okU u i p1 p2 p3 p4)) ∧ (∀ i, p0 = nI i → i < (u.1 3).toNatClampNeg → ok → W = cpW u i p4 ∧ H = cpH u i p4) ∧ rPut u p0 p1 p2 p3 W H ok r u9
theorem kind6 {x : Int32} (h : 0 ≤ x ∧ x ≤ 5) : x = 0 ∨ x = 1 ∨ x = 2 ∨ x = 3 ∨ x = 4 ∨ x = 5 := by
  have a := h.1
  have b := h.2
  rw [i32_le] at a b
  have e5 : (5 : Int32).toInt = 5 := rfl
  rw [i0] at a
  rw [e5] at b
  rcases (by omega : x.toInt = 0 ∨ x.toInt = 1 ∨ x.toInt = 2 ∨ x.toInt = 3 ∨ x.toInt = 4 ∨ x.toInt = 5) with z | z | z | z | z | z
  · exact Or.inl (Int32.toInt_inj.mp z)
  · exact Or.inr (Or.inl (Int32.toInt_inj.mp z))
  · exact Or.inr (Or.inr (Or.inl (Int32.toInt_inj.mp z)))
  · exact Or.inr (Or.inr (Or.inr (Or.inl (Int32.toInt_inj.mp z))))
  · exact Or.inr (Or.inr (Or.inr (Or.inr (Or.inl (Int32.toInt_inj.mp z)))))
  · exact Or.inr (Or.inr (Or.inr (Or.inr (Or.inr (Int32.toInt_inj.mp z)))))
theorem o_put (l : Launch) (dC : Nat → ClassId) (dI : Nat → Nat → Nat) (h0 : Nat) (v : Nat → Nat) (cI cZ : ClassId) (u : mS) (p0 p1 p2 p3 p4 : Int32) {es : List hE} {c : cfg} (hu : uI u es c) (hkd : ∀ i, i < (u.1 3).toNatClampNeg → 0 ≤ u.2 4 i ∧ u.2 4 i ≤ 5) (sz : Nat) : Met l yX12_put wsX12_put ({ frames := 4, cells := 0, slots := 0, locals := 106 }) (va_Pc [.ref h0, .int p0, .int p1, .int p2, .int p3, .int p4] (fun U => U.heap.size = sz ∧ PW dC dI (mW h0 v cI cZ u) [(cI, .int), (cZ, .boolean)] U ∧ va_D (fun _ => True) (mW h0 v cI cZ u))) (va_Qi (fun (r : Int32) (u9 : mS) => puX u p0 p1 p2 p3 p4 r u9) (fun u9 t => va_P (dC, dI) vwCl (mW h0 v cI cZ u9) t.heap ∧ va_D (va_A (mW h0 v cI cZ u) sz) (mW h0 v cI cZ u9)) (va_A (mW h0 v cI cZ u) sz)) 0 0 (va_A (mW h0 v cI cZ u) sz) := by
  have hn := n80 hu.1
  have hpc := inv_pc (uI_M hu)
  by_cases hit : bw p0 0 (u.1 3 - 1) = true
  · obtain ⟨i, ei, hi, -⟩ := itN hu.1 hit
    have eC : p0.toNatClampNeg = i := by rw [ei, nI_clamp (by omega)]
    have uniq : ∀ j, p0 = nI j → j < (u.1 3).toNatClampNeg → j = i := fun j ej hj => (nI_inj (by omega) (by omega)).mp (ej.symm.trans ei)
    have uniq2 : ∀ j, p0 = nI j → p0.toNatClampNeg = i := fun _ _ => eC
    rcases kind6 (hkd i hi) with k0 | k0 | k0 | k0 | k0 | k0
    · refine mq (n_put0 l dC dI h0 v cI cZ u p0 p1 p2 p3 p4 hu.1.1 hu.1.2.2.1 hu.1.2.1 (inv_ha (uI_M hu)) (inv_pc (uI_M hu)) hu.1.2.2.2.2.1 hu.1.2.2.2.2.2.1 (fun hi P X Y N hP hX hN hY h6 hG => put_hfr (uI_M hu) hi P X Y N hP hX hN hY h6 hG) (fun _ => by rw [eC]; exact k0) sz) (fun r u9 he => ⟨1, p4, okP0 u p0 p1 p2 p3 p4, fun o => o.1, fun j ej hj => ?_, fun j ej hj9 o => ?_, he⟩)
      · rw [uniq j ej hj, ei]; exact ok0 hu.1 hi (hpc i (by omega)) k0
      · have hj : j = i := uniq j ej hj9
        have kj : u.2 4 j = 0 := by rw [hj]; exact k0
        have cj : p0.toNatClampNeg = j := by rw [hj]; exact eC
        exact ⟨(cpW_0 (Or.inl kj)).symm, by rw [cpH_0 kj, if_pos o.2.2.2.2.2.1.2.2.1]⟩
    · refine mq (o_put1 l dC dI h0 v cI cZ u p0 p1 p2 p3 p4 hu.1.1 hu.1.2.2.1 hu.1.2.1 (inv_ha (uI_M hu)) (inv_pc (uI_M hu)) hu.1.2.2.2.2.1 hu.1.2.2.2.2.2.1 (fun hi P X Y N hP hX hN hY h6 hG => put_hfr (uI_M hu) hi P X Y N hP hX hN hY h6 hG) (fun _ => by rw [eC]; exact k0) sz) (fun r u9 he => ⟨(u.2 7 p0.toNatClampNeg), (u.2 8 p0.toNatClampNeg), okP1 u p0 p1 p2 p3 p4, fun o => o.1, fun j ej hj => ?_, fun j ej hj9 o => ?_, he⟩)
      · rw [uniq j ej hj, ei]; exact ok1 hu.1 hi (hpc i (by omega)) k0
      · have hj : j = i := uniq j ej hj9
        have kj : u.2 4 j = 1 := by rw [hj]; exact k0
        have cj : p0.toNatClampNeg = j := by rw [hj]; exact eC
        exact ⟨by rw [cpW_1 (Or.inl kj), if_pos o.2.2.1, cj], by rw [cpH_1 (Or.inl kj), if_pos o.2.2.1, cj]⟩
    · refine mq (o_put2 l dC dI h0 v cI cZ u p0 p1 p2 p3 p4 hu.1.1 hu.1.2.2.1 hu.1.2.1 (inv_ha (uI_M hu)) (inv_pc (uI_M hu)) hu.1.2.2.2.2.1 hu.1.2.2.2.2.2.1 (fun hi P X Y N hP hX hN hY h6 hG => put_hfr (uI_M hu) hi P X Y N hP hX hN hY h6 hG) (fun _ => by rw [eC]; exact k0) sz) (fun r u9 he => ⟨(u.2 18 (4 * p0 + p4).toNatClampNeg), (u.2 19 (4 * p0 + p4).toNatClampNeg), okP2 u p0 p1 p2 p3 p4, fun o => o.1, fun j ej hj => ?_, fun j ej hj9 o => ?_, he⟩)
      · rw [uniq j ej hj, ei]; exact ok2 hu.1 hi (hpc i (by omega)) k0
      · have hj : j = i := uniq j ej hj9
        have kj : u.2 4 j = 2 := by rw [hj]; exact k0
        have cj : p0.toNatClampNeg = j := by rw [hj]; exact eC
        have oj : bw p4 0 (u.2 17 j - 1) = true := by have z := o.2.2.1; rw [cj] at z; exact z
        exact ⟨by rw [cpW_2 kj, if_pos oj, ej, i4k hu.1 (by omega) oj], by rw [cpH_2 kj, if_pos oj, ej, i4k hu.1 (by omega) oj]⟩
    · refine mq (o_put3 l dC dI h0 v cI cZ u p0 p1 p2 p3 p4 hu.1.1 hu.1.2.2.1 hu.1.2.1 (inv_ha (uI_M hu)) (inv_pc (uI_M hu)) hu.1.2.2.2.2.1 hu.1.2.2.2.2.2.1 (fun hi P X Y N hP hX hN hY h6 hG => put_hfr (uI_M hu) hi P X Y N hP hX hN hY h6 hG) (fun _ => by rw [eC]; exact k0) sz) (fun r u9 he => ⟨(u.2 7 p0.toNatClampNeg), (u.2 8 p0.toNatClampNeg), okP3 u p0 p1 p2 p3 p4, fun o => o.1, fun j ej hj => ?_, fun j ej hj9 o => ?_, he⟩)
      · rw [uniq j ej hj, ei]; exact ok3 hu.1 hi (hpc i (by omega)) k0
      · have hj : j = i := uniq j ej hj9
        have kj : u.2 4 j = 3 := by rw [hj]; exact k0
        have cj : p0.toNatClampNeg = j := by rw [hj]; exact eC
        exact ⟨by rw [cpW_1 (Or.inr kj), if_pos o.2.2.1, cj], by rw [cpH_1 (Or.inr (Or.inl kj)), if_pos o.2.2.1, cj]⟩
    · refine mq (o_put4 l dC dI h0 v cI cZ u p0 p1 p2 p3 p4 hu.1.1 hu.1.2.2.1 hu.1.2.1 (inv_ha (uI_M hu)) (inv_pc (uI_M hu)) hu.1.2.2.2.2.1 hu.1.2.2.2.2.2.1 (fun hi P X Y N hP hX hN hY h6 hG => put_hfr (uI_M hu) hi P X Y N hP hX hN hY h6 hG) (fun _ => by rw [eC]; exact k0) sz) (fun r u9 he => ⟨1, p4, okP4 u p0 p1 p2 p3 p4, fun o => o.1, fun j ej hj => ?_, fun j ej hj9 o => ?_, he⟩)
      · rw [uniq j ej hj, ei]; exact ok4 hu.1 hi (hpc i (by omega)) k0
      · have hj : j = i := uniq j ej hj9
        have kj : u.2 4 j = 4 := by rw [hj]; exact k0
        have cj : p0.toNatClampNeg = j := by rw [hj]; exact eC
        exact ⟨(cpW_0 (Or.inr (Or.inl kj))).symm, by rw [cpH_4 kj, if_pos (by have z := o.2.2.2.2.2.2; rw [cj] at z; exact z)]⟩
    · refine mq (o_put5 l dC dI h0 v cI cZ u p0 p1 p2 p3 p4 hu.1.1 hu.1.2.2.1 hu.1.2.1 (inv_ha (uI_M hu)) (inv_pc (uI_M hu)) hu.1.2.2.2.2.1 hu.1.2.2.2.2.2.1 (fun hi P X Y N hP hX hN hY h6 hG => put_hfr (uI_M hu) hi P X Y N hP hX hN hY h6 hG) (fun _ => by rw [eC]; exact k0) sz) (fun r u9 he => ⟨1, (u.2 8 p0.toNatClampNeg), okP5 u p0 p1 p2 p3 p4, fun o => o.1, fun j ej hj => ?_, fun j ej hj9 o => ?_, he⟩)
      · rw [uniq j ej hj, ei]; exact ok5 hu.1 hi (hpc i (by omega)) k0
      · have hj : j = i := uniq j ej hj9
        have kj : u.2 4 j = 5 := by rw [hj]; exact k0
        have cj : p0.toNatClampNeg = j := by rw [hj]; exact eC
        exact ⟨(cpW_0 (Or.inr (Or.inr kj))).symm, by rw [cpH_1 (Or.inr (Or.inr kj)), if_pos o.2.2.1, cj]⟩
  · refine mq (n_put0 l dC dI h0 v cI cZ u p0 p1 p2 p3 p4 hu.1.1 hu.1.2.2.1 hu.1.2.1 (inv_ha (uI_M hu)) (inv_pc (uI_M hu)) hu.1.2.2.2.2.1 hu.1.2.2.2.2.2.1 (fun hi P X Y N hP hX hN hY h6 hG => put_hfr (uI_M hu) hi P X Y N hP hX hN hY h6 hG) (fun q => absurd q hit) sz) (fun r u9 he => ⟨1, p4, okP0 u p0 p1 p2 p3 p4, fun o => o.1, fun j ej hj => absurd (by rw [ej]; exact itI hu.1 hj) hit, fun j ej hj9 o => absurd o.1 hit, he⟩)
theorem lf_u {u : mS} {p0 : Int32} {P X Y D N P2 X2 Y2 D2 N2 : Nat} (h : lfA u p0 P X Y D N) (h2 : lfA u p0 P2 X2 Y2 D2 N2) : mLift u p0 P X Y D N = mLift u p0 P2 X2 Y2 D2 N2 := by
  by_cases hc : bw p0 0 (u.1 3 - 1) = true ∧ ¬ u.2 22 p0.toNatClampNeg = 0
  · obtain ⟨a1, a2, a3, a4, a5, a6⟩ := h hc.1 hc.2
    obtain ⟨b1, b2, b3, b4, b5, b6⟩ := h2 hc.1 hc.2
    obtain ⟨c1, c2, c3, c4, c5, -⟩ := a1
    obtain ⟨e1, e2, e3, e4, e5, -⟩ := b1
    have q1 : P = P2 := (nI_inj (by omega) (by omega)).mp (a2.symm.trans b2)
    have q2 : X = X2 := (nI_inj (by omega) (by omega)).mp (a3.symm.trans b3)
    have q3 : Y = Y2 := (nI_inj (by omega) (by omega)).mp (a4.symm.trans b4)
    have q4 : D = D2 := (nI_inj (by omega) (by omega)).mp (a5.symm.trans b5)
    have q5 : N = N2 := (nI_inj (by omega) (by omega)).mp (a6.symm.trans b6)
    rw [q1, q2, q3, q4, q5]
  · unfold mLift
    by_cases a : bw p0 0 (u.1 3 - 1) = true
    · rw [if_pos a, if_pos a]
      by_cases b : u.2 22 p0.toNatClampNeg = 0
      · rw [if_pos b, if_pos b]
      · exact absurd ⟨a, b⟩ hc
    · rw [if_neg a, if_neg a]
theorem o_lift (l9 : Launch) (dC : Nat → ClassId) (dI : Nat → Nat → Nat) (h0 : Nat) (v : Nat → Nat) (cI cZ : ClassId) (u : mS) (p0 : Int32) {es : List hE} {c : cfg} (hu : uI u es c) (sz : Nat) : Met l9 yX12_lift wsX12_lift ({ frames := 3, cells := 0, slots := 0, locals := 72 }) (va_Pc [.ref h0, .int p0] (fun U => U.heap.size = sz ∧ PW dC dI (mW h0 v cI cZ u) [(cI, .int), (cZ, .boolean)] U ∧ va_D (fun _ => True) (mW h0 v cI cZ u))) (va_Qi (fun (r : Int32) (u9 : mS) => ∃ P X Y D N, lfA u p0 P X Y D N ∧ (r, u9) = mLift u p0 P X Y D N) (fun u9 t => va_P (dC, dI) vwCl (mW h0 v cI cZ u9) t.heap ∧ va_D (va_A (mW h0 v cI cZ u) sz) (mW h0 v cI cZ u9)) (va_A (mW h0 v cI cZ u) sz)) 0 0 (va_A (mW h0 v cI cZ u) sz) := by
  have hn := n80 hu.1
  by_cases hc : bw p0 0 (u.1 3 - 1) = true ∧ ¬ u.2 22 p0.toNatClampNeg = 0
  · obtain ⟨a, ea, ha, -⟩ := itN hu.1 hc.1
    have eC : p0.toNatClampNeg = a := by rw [ea, nI_clamp (by omega)]
    have g := uI_g hu
    have h6 := g.2.2.2.2.2 a
    have ec := cnt_e g (i := a) (by omega)
    have e22 := (g.2.2.2.1 a (by omega)).1
    have hpos : 0 < (c a).length := Nat.pos_of_ne_zero (fun z => hc.2 (by rw [eC, e22, z]; rfl))
    obtain ⟨P, X, Y, D, N, hin, f1, f2, f3, f4, f5⟩ := uI_pc hu a ha ((c a).length - 1) (by omega)
    have ei : (6 * p0 + (u.2 22 p0.toNatClampNeg - 1)).toNatClampNeg = 6 * a + ((c a).length - 1) := by rw [eC, e22, dn_e hpos, ea, ix6, nI_clamp (by omega)]
    have l : lfA u p0 P X Y D N := fun _ _ => ⟨hin, by rw [ei]; exact f1, by rw [ei]; exact f2, by rw [ei]; exact f3, by rw [ei]; exact f4, by rw [ei]; exact f5⟩
    obtain ⟨l1, l2, l3, l4, l5, l6⟩ := l hc.1 hc.2
    refine mq (m_lift l9 dC dI h0 v cI cZ u p0 P X Y D N hin.1 hin.2.1 hin.2.2.2.1 hu.1.1 (inv_ha (uI_M hu)) ?_ l2 l3 l4 l5 l6 sz) (fun r u9 he => ⟨P, X, Y, D, N, l, he⟩)
    rw [eC, e22, dn_e hpos]
    exact bwN (by have h5 : (5 : Int32).toInt = 5 := rfl; rw [h5]; omega) (by omega)
  · refine mq (n_liftN l9 dC dI h0 v cI cZ u p0 hu.1.1 (fun b => Classical.byContradiction (fun q => hc ⟨b, q⟩)) sz) (fun r u9 he => ⟨0, 0, 0, 0, 0, fun b q => absurd ⟨b, q⟩ hc, ?_⟩)
    rw [he.1, he.2]
    unfold mLift
    by_cases a : bw p0 0 (u.1 3 - 1) = true
    · rw [if_pos a]
      by_cases b : u.2 22 p0.toNatClampNeg = 0
      · rw [if_pos b]
      · exact absurd ⟨a, b⟩ hc
    · rw [if_neg a]
/-- undo: what the reference answers -/
def unX (u : mS) (es : List hE) (r : Int32) (u9 : mS) : Prop := (es = [] ∧ r = (-1) ∧ u9 = u) ∨ ∃ e es', es = e :: es' ∧ r = u.1 28 - 1 ∧ u9 = refU u e
theorem o_undo (l : Launch) (dC : Nat → ClassId) (dI : Nat → Nat → Nat) (h0 : Nat) (v : Nat → Nat) (cI cZ : ClassId) (u : mS) {es : List hE} {c : cfg} (hu : uI u es c) (sz : Nat) : Met l yX12_undo wsX12_undo ({ frames := 3, cells := 0, slots := 0, locals := 77 }) (va_Pc [.ref h0] (fun U => U.heap.size = sz ∧ PW dC dI (mW h0 v cI cZ u) [(cI, .int), (cZ, .boolean)] U ∧ va_D (fun _ => True) (mW h0 v cI cZ u))) (va_Qi (fun (r : Int32) (u9 : mS) => unX u es r u9) (fun u9 t => va_P (dC, dI) vwCl (mW h0 v cI cZ u9) t.heap ∧ va_D (va_A (mW h0 v cI cZ u) sz) (mW h0 v cI cZ u9)) (va_A (mW h0 v cI cZ u) sz)) 0 0 (va_A (mW h0 v cI cZ u) sz) := by
  cases es with
  | nil => exact mq (n_undoN l dC dI h0 v cI cZ u hu.2.2.1.2.1 sz) (fun r u9 he => Or.inl ⟨rfl, he.1, he.2⟩)
  | cons e es => exact mq (n_undoH l dC dI h0 v cI cZ u e es c hu.1 hu.2.2.1 hu.2.2.2.1 sz) (fun r u9 he => Or.inr ⟨e, es, rfl, he.1, he.2⟩)
/-- the parts of the latest act -/
def bkT (es : List hE) : List bS := match es with
  | [] => []
  | e :: _ => bkL e
theorem un_pre {q : Nat → ClassId} {d : Nat → Nat} {k : Nat → Int32} {z : gS} {u : mS} {es : List hE} {c : cfg} {g : Nat → Option Nat} (hk1 : k 1 = u.1 28) (hu : uI u es c) (hL : acL z d g es) : ¬ k 1 = 0 → ∃ a9, g (k 1 - 1).toNatClampNeg = some a9 ∧ tg z a9 23 ∧ bkS z d (some a9) (bkT es) ∧ bkK (mBack u) (bkT es) := by
  intro hk
  cases es with
  | nil => exact absurd (by rw [hk1, hu.2.2.1.2.1]; rfl) hk
  | cons e es =>
    obtain ⟨⟨a, a1, a2⟩, -⟩ := hL
    have l3 := hu.2.2.1.1
    rw [List.length_cons] at l3
    have e1 : (k 1 - 1).toNatClampNeg = es.length := by
      rw [hk1, hu.2.2.1.2.1, List.length_cons, dn_e (by omega), Nat.add_sub_cancel, nI_clamp (by omega)]
    exact ⟨a, by rw [e1]; exact a1, acE_tg a2, acE_bkS a2, (undo_all hu.1 hu.2.2.1 hu.2.2.2.1).1⟩
theorem step_undo {q : Nat → ClassId} {h0 : Nat} {d : Nat → Nat} {k : Nat → Int32} {z : gS} {f : xF} {u : mS} {w : xU} {r r2 : Int32} {u9 : mS} {es : List hE} {c : cfg} {g : Nat → Option Nat} (hI : xI q h0 d k z f) (hrp : rep q d u z f) (hk : k 0 = u.1 3 ∧ k 1 = u.1 28 ∧ k 2 = u.1 38 ∧ k 3 = u.1 39) (hz : (z.2 h0).2.1 = 0) (hu : uI u es c) (hg : f (d 3) = aR (q 4) 300 g) (hL : acL z d g es) (hx : unP q h0 d k z f u (bkT es) g r w) (hm : unX u es r2 u9) : r = r2 ∧ RR q h0 d w.1 w.2.1 w.2.2 u9 := by
  cases es with
  | nil =>
    have h28 : u.1 28 = 0 := hu.2.2.1.2.1
    rcases hx with ⟨-, x2, x3⟩ | ⟨x1, -⟩
    · rcases hm with ⟨-, m2, m3⟩ | ⟨e, es', m1, -⟩
      · rw [x2, m2, x3, m3]
        exact ⟨rfl, hI, hrp, hk, hz, [], c, g, hu, hg, hL⟩
      · exact absurd m1 (by simp)
    · exact absurd (by rw [hk.2.1]; exact h28) x1
  | cons e es =>
    have l3 := hu.2.2.1.1
    rw [List.length_cons] at l3
    have e28 : u.1 28 = nI (es.length + 1) := hu.2.2.1.2.1
    have hk0 : ¬ k 1 = 0 := fun z => by
      rw [hk.2.1, e28] at z
      have z2 := congrArg Int32.toInt z
      rw [nI_toInt (by omega), i0] at z2
      omega
    rcases hx with ⟨x1, -⟩ | ⟨-, x2, x3, x4, x5, x6, x7⟩
    · exact absurd x1 hk0
    · rcases hm with ⟨m1, -⟩ | ⟨e2, es2, m1, m2, m3⟩
      · exact absurd m1 (by simp)
      · obtain ⟨m4, m5⟩ := List.cons.inj m1
        subst m4 m5
        obtain ⟨-, a2, a3, c1, a4, a5, a6, a7, a8⟩ := undo_all hu.1 hu.2.2.1 hu.2.2.2.1
        have e1 : (k 1 - 1).toNatClampNeg = es.length := by rw [hk.2.1, e28, dn_e (by omega), Nat.add_sub_cancel, nI_clamp (by omega)]
        have hu9 : uI u9 es c1 := by
          obtain ⟨b1, b2, b3, b4, b5, b6, b7, b8, b9, b10, b11⟩ := hu
          rw [m3]
          have k3 := a6 3 (by decide) (by decide)
          refine ⟨a3, kB_c b2 (a8 4 (by decide) (by decide)) (a8 10 (by decide) (by decide)), a4, a5, nwI_e b5 k3 (fun r r1 => a8 r (by omega) (by omega)), plI_c b6 (fun r r1 r2 => a8 r (by omega) (by omega)), ?_, ?_, ?_, rvI_c b10 (a8 20 (by decide) (by decide)), by rw [a6 39 (by decide) (by decide)]; exact b11⟩
          · unfold sdI at b7 ⊢
            rw [a8 40 (by decide) (by decide), a8 4 (by decide) (by decide), a8 45 (by decide) (by decide), a8 11 (by decide) (by decide)]; exact b7
          · unfold plZ at b8 ⊢
            rw [k3, a8 40 (by decide) (by decide), a8 45 (by decide) (by decide)]; exact b8
          · unfold foI at b9 ⊢
            rw [a6 38 (by decide) (by decide), a8 47 (by decide) (by decide), a8 48 (by decide) (by decide)]; exact b9
        refine ⟨by rw [x2, m2, hk.2.1], by rw [x4]; exact x5, by rw [x4, m3]; exact a2 q d z w.2.2 x6, ?_, by rw [x4]; exact hz, es, c1, _, hu9, x7, ?_⟩
        · rw [x3, m3, a6 3 (by decide) (by decide), a6 38 (by decide) (by decide), a6 39 (by decide) (by decide), a7]
          refine ⟨hk.1, ?_, hk.2.2.1, hk.2.2.2⟩
          rw [← hk.2.1]; rfl
        · rw [x4, e1]
          exact acL_m (zE_rf z) (n := (u.1 3).toNatClampNeg) (fun _ _ => rfl) (fun t ht => if_neg (by omega)) (gH_it hu.2.2.2.1).2 hL.2
