/-- where no item is, nothing is told -/
def nwI (u : mS) : Prop := ∀ i, (u.1 3).toNatClampNeg ≤ i → i < 80 → (∀ t, t < 5 → u.2 47 (5 * i + t) = (-1)) ∧ (∀ t, t < 80 → u.2 16 (80 * i + t) = 0) ∧ (∀ t, t < 4 → u.2 18 (4 * i + t) = 0 ∧ u.2 19 (4 * i + t) = 0) ∧ (∀ t, t < 10 → u.2 21 (10 * i + t) = 0) ∧ ∀ t, t < 400 → u.2 48 (80 * t + i) = 0
theorem rRs_story {q d2 W z2 f9} {n a5 a6 : Nat} {x : Int32} (e5 : d2 (5000 + n) = a5) (e6 : d2 (6000 + n) = a6) (hk : W.2 4 n = 0) (h5 : W.2 5 n = x) (h15 : W.2 15 n = 0) (c5 : nC z2 f9 a5 18 (5000 + n) (aI (q 0) 80 (fun _ => 0))) (c6 : nC z2 f9 a6 19 (6000 + n) (aI (q 1) 10 (fun _ => 0))) (h16 : ∀ t, t < 80 → W.2 16 (80 * n + t) = 0) (h21 : ∀ t, t < 10 → W.2 21 (10 * n + t) = 0) : rRs q d2 W z2 f9 n [.int x, .ref a5, .int 0, .ref a6] := by
  have no : ∀ kk : Int32, kk ≠ 0 → ¬ W.2 4 n = kk := fun kk hkk e => hkk (by rw [← e, hk])
  refine ⟨fun _ => ⟨by rw [e5, e6, h5, h15], ⟨by rw [e5]; exact c5.1, by rw [e5]; exact c5.2.1, by decide⟩, ⟨by rw [e6]; exact c6.1, by rw [e6]; exact c6.2.1, by decide⟩, ⟨fun _ => 0, by rw [e5]; exact c5.2.2, fun t ht => (h16 t ht).symm⟩, fun _ => 0, by rw [e6]; exact c6.2.2, fun t ht => (h21 t ht).symm⟩, fun e => absurd e (no 1 (by decide)), fun e => absurd e (no 2 (by decide)), fun e => absurd e (no 3 (by decide)), fun e => absurd e (no 4 (by decide)), fun e => absurd e (no 5 (by decide))⟩
theorem rRs_pict {q d2 W z2 f9} {n a5 a6 : Nat} (e5 : d2 (5000 + n) = a5) (e6 : d2 (6000 + n) = a6) (hk : W.2 4 n = 2) (h17 : W.2 17 n = 0) (c5 : nC z2 f9 a5 20 (5000 + n) (aI (q 0) 4 (fun _ => 0))) (c6 : nC z2 f9 a6 20 (6000 + n) (aI (q 0) 4 (fun _ => 0))) (h18 : ∀ t, t < 4 → W.2 18 (4 * n + t) = 0 ∧ W.2 19 (4 * n + t) = 0) : rRs q d2 W z2 f9 n [.ref a5, .ref a6, .int 0] := by
  have no : ∀ kk : Int32, kk ≠ 2 → ¬ W.2 4 n = kk := fun kk hkk e => hkk (by rw [← e, hk])
  refine ⟨fun e => absurd e (no 0 (by decide)), fun e => absurd e (no 1 (by decide)), fun _ => ⟨by rw [e5, e6, h17], ⟨by rw [e5]; exact c5.1, by rw [e5]; exact c5.2.1, by decide⟩, ⟨by rw [e6]; exact c6.1, by rw [e6]; exact c6.2.1, by decide⟩, ⟨fun _ => 0, by rw [e5]; exact c5.2.2, fun t ht => (h18 t ht).1.symm⟩, fun _ => 0, by rw [e6]; exact c6.2.2, fun t ht => (h18 t ht).2.symm⟩, fun e => absurd e (no 3 (by decide)), fun e => absurd e (no 4 (by decide)), fun e => absurd e (no 5 (by decide))⟩
theorem rRs_paid {q d2 W z2 f9} {n a5 a6 : Nat} {b pr P X Y D N : Int32} (e5 : d2 (5000 + n) = a5) (e6 : d2 (6000 + n) = a6) (hk : W.2 4 n = 3) (h10 : W.2 10 n = b) (h14 : W.2 14 n = pr) (h11 : W.2 11 n = P) (h12 : W.2 12 n = X) (h13 : W.2 13 n = Y) (h7 : W.2 7 n = D) (h8 : W.2 8 n = N) (hp : pcS z2 a5 none P X Y D N) (c6 : nC z2 f9 a6 21 (6000 + n) (aI (q 1) 400 (fun _ => 0))) (h48 : ∀ t, t < 400 → W.2 48 (80 * t + n) = 0) : rRs q d2 W z2 f9 n [.int b, .int pr, .ref a5, .ref a6] := by
  have no : ∀ kk : Int32, kk ≠ 3 → ¬ W.2 4 n = kk := fun kk hkk e => hkk (by rw [← e, hk])
  refine ⟨fun e => absurd e (no 0 (by decide)), fun e => absurd e (no 1 (by decide)), fun e => absurd e (no 2 (by decide)), fun _ => ⟨by rw [e5, e6, h10, h14], by rw [e5, h11, h12, h13, h7, h8]; exact hp, ⟨by rw [e6]; exact c6.1, by rw [e6]; exact c6.2.1, by decide⟩, fun _ => 0, by rw [e6]; exact c6.2.2, fun t ht => (h48 t ht).symm⟩, fun e => absurd e (no 4 (by decide)), fun e => absurd e (no 5 (by decide))⟩
theorem rRs_filler {q d2 W z2 f9} {n : Nat} {a b : Int32} (hk : W.2 4 n = 4) (h5 : W.2 5 n = a) (h6 : W.2 6 n = b) : rRs q d2 W z2 f9 n [.int a, .int b] := by
  have no : ∀ kk : Int32, kk ≠ 4 → ¬ W.2 4 n = kk := fun kk hkk e => hkk (by rw [← e, hk])
  refine ⟨fun e => absurd e (no 0 (by decide)), fun e => absurd e (no 1 (by decide)), fun e => absurd e (no 2 (by decide)), fun e => absurd e (no 3 (by decide)), fun _ => by rw [h5, h6], fun e => absurd e (no 5 (by decide))⟩
theorem rRs_head {q d2 W z2 f9} {n o ao : Nat} {x y : Int32} (hk : W.2 4 n = 1) (ho : o < (W.1 3).toNatClampNeg) (h9 : W.2 9 n = nI o) (hk2 : W.2 4 o = 0) (h7 : W.2 7 n = x) (h8 : W.2 8 n = y) (eo : d2 (2000 + o) = ao) : rRs q d2 W z2 f9 n [.ref ao, .int x, .int y] := by
  have no : ∀ kk : Int32, kk ≠ 1 → ¬ W.2 4 n = kk := fun kk hkk e => hkk (by rw [← e, hk])
  refine ⟨fun e => absurd e (no 0 (by decide)), fun _ => ⟨o, ho, h9, hk2, by rw [eo, h7, h8]⟩, fun e => absurd e (no 2 (by decide)), fun e => absurd e (no 3 (by decide)), fun e => absurd e (no 4 (by decide)), fun e => absurd e (no 5 (by decide))⟩
theorem rRs_notice {q d2 W z2 f9} {n o ao : Nat} {y : Int32} (hk : W.2 4 n = 5) (ho : o < (W.1 3).toNatClampNeg) (h9 : W.2 9 n = nI o) (h8 : W.2 8 n = y) (eo : d2 (2000 + o) = ao) : rRs q d2 W z2 f9 n [.ref ao, .int y] := by
  have no : ∀ kk : Int32, kk ≠ 5 → ¬ W.2 4 n = kk := fun kk hkk e => hkk (by rw [← e, hk])
  refine ⟨fun e => absurd e (no 0 (by decide)), fun e => absurd e (no 1 (by decide)), fun e => absurd e (no 2 (by decide)), fun e => absurd e (no 3 (by decide)), fun e => absurd e (no 4 (by decide)), fun _ => ⟨o, ho, h9, by rw [eo, h8]⟩⟩
theorem kT_v : kT 0 = 15 ∧ kT 1 = 11 ∧ kT 2 = 14 ∧ kT 3 = 13 ∧ kT 4 = 10 ∧ kT 5 = 12 := by decide
theorem mk_Story {q h0 d k z f u z2 f2 f3 k3} {r : Int32} {a2 a3 a4 a5 a6 : Nat} {x : Int32} (hI : xI q h0 d k z f) (hrp : rep q d u z f) (hk0 : k 0 = u.1 3) (hz0 : (z.2 h0).2.1 = 0) (hnw : nwI u) (hI3 : xI q h0 d k3 z2 f3) (hE : zE z z2) (ho : oK z f f2) (hen : enP q h0 d k r k3 a2 f2 f3 (k 0)) (c2 : nC z2 f2 a2 15 (2000 + (u.1 3).toNatClampNeg) (.inr (9, [.int (k 0), .int 0, .ref a3, .int 0, .ref a4, .int x, .ref a5, .int 0, .ref a6]))) (c3 : nC z2 f2 a3 16 a2 (aR (q 5) 6 (fun _ => none))) (c4 : nC z2 f2 a4 17 (4000 + (u.1 3).toNatClampNeg) (aI (q 0) 5 (fun _ => (-1)))) (c5 : nC z2 f2 a5 18 (5000 + (u.1 3).toNatClampNeg) (aI (q 0) 80 (fun _ => 0))) (c6 : nC z2 f2 a6 19 (6000 + (u.1 3).toNatClampNeg) (aI (q 1) 10 (fun _ => 0))) (hb : bw x 1 80 = true) : mkP q h0 d k z f u (mStory u x) r (k3, z2, f3) := by
  have hN : ∀ x : Int32, x = u.1 3 → x.toNatClampNeg = (u.1 3).toNatClampNeg := fun x e => by rw [e]
  obtain ⟨W, eW⟩ : ∃ w : mS, w = mst (mMade u 0) 5 (u.1 3) x := ⟨_, rfl⟩
  have hS : mkS u W (u.1 3).toNatClampNeg := by rw [eW]; exact mkS_mst (mkS_made u 0) rfl (by decide) x
  have w4 : W.2 4 (u.1 3).toNatClampNeg = 0 := by rw [eW, mst_other (by decide), made_4, if_pos rfl]
  have w22 : W.2 22 (u.1 3).toNatClampNeg = 0 := by rw [eW, mst_other (by decide), made_22, if_pos rfl]
  refine mk_gen (a5 := a5) (a6 := a6) (kd := 0) (W := W) hI hrp hk0 hz0 hI3 hE ho hen rfl hS w4 (by decide) w22 (fun h => (hnw _ (Nat.le_refl _) h).1) (by rw [kT_v.1]; exact c2) (by decide) (by rw [if_pos rfl]; exact c3) c4 (fun f9 hup hn => ?_) (fun e => by unfold mStory; rw [if_pos e]) (fun e => by unfold mStory; rw [if_neg e, if_pos hb, eW])
  have eN := dN_at (d := d) (n := (u.1 3).toNatClampNeg) (a2 := a2) (a3 := a3) (a4 := a4) (a5 := a5) (a6 := a6) (by omega)
  exact rRs_story eN.2.2.2.1 eN.2.2.2.2 w4 (by rw [eW, mst_same]) (by rw [eW, mst_other (by decide), made_15, if_pos rfl]) (hup _ _ _ _ c5 (by decide) (by decide)) (hup _ _ _ _ c6 (by decide) (by decide)) (fun t ht => by rw [hS.2.2 16 (by omega)]; exact (hnw _ (Nat.le_refl _) hn).2.1 t ht) (fun t ht => by rw [hS.2.2 21 (by omega)]; exact (hnw _ (Nat.le_refl _) hn).2.2.2.1 t ht)
theorem mk_Picture {q h0 d k z f u z2 f2 f3 k3} {r : Int32} {a2 a3 a4 a5 a6 : Nat} (hI : xI q h0 d k z f) (hrp : rep q d u z f) (hk0 : k 0 = u.1 3) (hz0 : (z.2 h0).2.1 = 0) (hnw : nwI u) (hI3 : xI q h0 d k3 z2 f3) (hE : zE z z2) (ho : oK z f f2) (hen : enP q h0 d k r k3 a2 f2 f3 (k 0)) (c2 : nC z2 f2 a2 14 (2000 + (u.1 3).toNatClampNeg) (.inr (6, [.int (k 0), .int 2, .ref a3, .int 0, .ref a4, .ref a5, .ref a6, .int 0]))) (c3 : nC z2 f2 a3 16 a2 (aR (q 5) 1 (fun _ => none))) (c4 : nC z2 f2 a4 17 (4000 + (u.1 3).toNatClampNeg) (aI (q 0) 5 (fun _ => (-1)))) (c5 : nC z2 f2 a5 20 (5000 + (u.1 3).toNatClampNeg) (aI (q 0) 4 (fun _ => 0))) (c6 : nC z2 f2 a6 20 (6000 + (u.1 3).toNatClampNeg) (aI (q 0) 4 (fun _ => 0))) : mkP q h0 d k z f u (mPicture u) r (k3, z2, f3) := by
  have hN : ∀ x : Int32, x = u.1 3 → x.toNatClampNeg = (u.1 3).toNatClampNeg := fun x e => by rw [e]
  obtain ⟨W, eW⟩ : ∃ w : mS, w = mMade u 2 := ⟨_, rfl⟩
  have hS : mkS u W (u.1 3).toNatClampNeg := by rw [eW]; exact mkS_made u 2
  have w4 : W.2 4 (u.1 3).toNatClampNeg = 2 := by rw [eW, made_4, if_pos rfl]
  have w22 : W.2 22 (u.1 3).toNatClampNeg = 0 := by rw [eW, made_22, if_pos rfl]
  refine mk_gen (a5 := a5) (a6 := a6) (kd := 2) (W := W) hI hrp hk0 hz0 hI3 hE ho hen rfl hS w4 (by decide) w22 (fun h => (hnw _ (Nat.le_refl _) h).1) (by rw [kT_v.2.2.1]; exact c2) (by decide) (by rw [if_neg (by decide)]; exact c3) c4 (fun f9 hup hn => ?_) (fun e => by unfold mPicture; rw [if_pos e]) (fun e => by unfold mPicture; rw [if_neg e, eW])
  have eN := dN_at (d := d) (n := (u.1 3).toNatClampNeg) (a2 := a2) (a3 := a3) (a4 := a4) (a5 := a5) (a6 := a6) (by omega)
  exact rRs_pict eN.2.2.2.1 eN.2.2.2.2 w4 (by rw [eW, made_17, if_pos rfl]) (hup _ _ _ _ c5 (by decide) (by decide)) (hup _ _ _ _ c6 (by decide) (by decide)) (fun t ht => by rw [hS.2.2 18 (by omega), hS.2.2 19 (by omega)]; exact (hnw _ (Nat.le_refl _) hn).2.2.1 t ht)
theorem mk_Filler {q h0 d k z f u z2 f2 f3 k3} {r : Int32} {a2 a3 a4 a5 a6 : Nat} {x y : Int32} (hI : xI q h0 d k z f) (hrp : rep q d u z f) (hk0 : k 0 = u.1 3) (hz0 : (z.2 h0).2.1 = 0) (hnw : nwI u) (hI3 : xI q h0 d k3 z2 f3) (hE : zE z z2) (ho : oK z f f2) (hen : enP q h0 d k r k3 a2 f2 f3 (k 0)) (c2 : nC z2 f2 a2 10 (2000 + (u.1 3).toNatClampNeg) (.inr (2, [.int (k 0), .int 4, .ref a3, .int 0, .ref a4, .int x, .int y]))) (c3 : nC z2 f2 a3 16 a2 (aR (q 5) 1 (fun _ => none))) (c4 : nC z2 f2 a4 17 (4000 + (u.1 3).toNatClampNeg) (aI (q 0) 5 (fun _ => (-1)))) (hb : bw x 1 60 = true) (hb2 : bw y x 60 = true) : mkP q h0 d k z f u (mFiller u x y) r (k3, z2, f3) := by
  have hN : ∀ x : Int32, x = u.1 3 → x.toNatClampNeg = (u.1 3).toNatClampNeg := fun x e => by rw [e]
  obtain ⟨W, eW⟩ : ∃ w : mS, w = mst (mst (mMade u 4) 5 (u.1 3) x) 6 (u.1 3) y := ⟨_, rfl⟩
  have hS : mkS u W (u.1 3).toNatClampNeg := by rw [eW]; exact mkS_mst (mkS_mst (mkS_made u 4) rfl (by decide) x) rfl (by decide) y
  have w4 : W.2 4 (u.1 3).toNatClampNeg = 4 := by rw [eW, mst_other (by decide), mst_other (by decide), made_4, if_pos rfl]
  have w22 : W.2 22 (u.1 3).toNatClampNeg = 0 := by rw [eW, mst_other (by decide), mst_other (by decide), made_22, if_pos rfl]
  refine mk_gen (a5 := 0) (a6 := 0) (kd := 4) (W := W) hI hrp hk0 hz0 hI3 hE ho hen rfl hS w4 (by decide) w22 (fun h => (hnw _ (Nat.le_refl _) h).1) (by rw [kT_v.2.2.2.2.1]; exact c2) (by decide) (by rw [if_neg (by decide)]; exact c3) c4 (fun f9 hup hn => ?_) (fun e => by unfold mFiller; rw [if_pos e]) (fun e => by unfold mFiller; rw [if_neg e, if_pos hb, if_pos hb2, eW])
  have eN := dN_at (d := d) (n := (u.1 3).toNatClampNeg) (a2 := a2) (a3 := a3) (a4 := a4) (a5 := 0) (a6 := 0) (by omega)
  exact rRs_filler w4 (by rw [eW, mst_other (by decide), mst_same]) (by rw [eW, mst_same])
theorem mk_Head {q h0 d k z f u z2 f2 f3 k3} {r : Int32} {a2 a3 a4 a5 a6 : Nat} {o : Nat} {x y : Int32} (hI : xI q h0 d k z f) (hrp : rep q d u z f) (hk0 : k 0 = u.1 3) (hz0 : (z.2 h0).2.1 = 0) (hnw : nwI u) (hI3 : xI q h0 d k3 z2 f3) (hE : zE z z2) (ho : oK z f f2) (hen : enP q h0 d k r k3 a2 f2 f3 (k 0)) (c2 : nC z2 f2 a2 11 (2000 + (u.1 3).toNatClampNeg) (.inr (3, [.int (k 0), .int 1, .ref a3, .int 0, .ref a4, .ref (d (2000 + o)), .int x, .int y]))) (c3 : nC z2 f2 a3 16 a2 (aR (q 5) 1 (fun _ => none))) (c4 : nC z2 f2 a4 17 (4000 + (u.1 3).toNatClampNeg) (aI (q 0) 5 (fun _ => (-1)))) (hio : o < (u.1 3).toNatClampNeg) (hko : u.2 4 o = 0) (hb : bw x 1 8 = true) (hb2 : bw y 1 9 = true) : mkP q h0 d k z f u (mHead u (nI o) x y) r (k3, z2, f3) := by
  have hN : ∀ x : Int32, x = u.1 3 → x.toNatClampNeg = (u.1 3).toNatClampNeg := fun x e => by rw [e]
  obtain ⟨W, eW⟩ : ∃ w : mS, w = mst (mst (mst (mMade u 1) 9 (u.1 3) (nI o)) 7 (u.1 3) x) 8 (u.1 3) y := ⟨_, rfl⟩
  have hS : mkS u W (u.1 3).toNatClampNeg := by rw [eW]; exact mkS_mst (mkS_mst (mkS_mst (mkS_made u 1) rfl (by decide) _) rfl (by decide) x) rfl (by decide) y
  have w4 : W.2 4 (u.1 3).toNatClampNeg = 1 := by rw [eW, mst_other (by decide), mst_other (by decide), mst_other (by decide), made_4, if_pos rfl]
  have w22 : W.2 22 (u.1 3).toNatClampNeg = 0 := by rw [eW, mst_other (by decide), mst_other (by decide), mst_other (by decide), made_22, if_pos rfl]
  refine mk_gen (a5 := 0) (a6 := 0) (kd := 1) (W := W) hI hrp hk0 hz0 hI3 hE ho hen rfl hS w4 (by decide) w22 (fun h => (hnw _ (Nat.le_refl _) h).1) (by rw [kT_v.2.1]; exact c2) (by decide) (by rw [if_neg (by decide)]; exact c3) c4 (fun f9 hup hn => ?_) (fun e => by unfold mHead; rw [if_pos e]) (fun e => by unfold mHead; rw [if_neg e, if_pos (by rw [mK_it (by rw [← hk0]; exact hI.1.1) hio, hko]; rfl), if_pos hb, if_pos hb2, eW])
  have eN := dN_at (d := d) (n := (u.1 3).toNatClampNeg) (a2 := a2) (a3 := a3) (a4 := a4) (a5 := 0) (a6 := 0) (by omega)
  exact rRs_head (o := o) w4 (by rw [hS.1 3, if_pos rfl]; have m4 := (n80k hI.1.1); rw [hk0] at m4; have m5 := m4.2 (fun x9 => by have e9 := m4.1 x9; rw [e9] at hn; exact absurd hn (by decide)); omega) (by rw [eW, mst_other (by decide), mst_other (by decide), mst_same]) (by rw [hS.2.1 4 o (by omega) (by omega)]; exact hko) (by rw [eW, mst_other (by decide), mst_same]) (by rw [eW, mst_same]) (dN_o (by omega) (by omega)).1
theorem mk_Paid {q h0 d k z f u z2 f2 f3 k3} {r : Int32} {a2 a3 a4 a5 a6 : Nat} {b P X Y D N pr : Int32} (hI : xI q h0 d k z f) (hrp : rep q d u z f) (hk0 : k 0 = u.1 3) (hz0 : (z.2 h0).2.1 = 0) (hnw : nwI u) (hI3 : xI q h0 d k3 z2 f3) (hE : zE z z2) (ho : oK z f f2) (hen : enP q h0 d k r k3 a2 f2 f3 (k 0)) (c2 : nC z2 f2 a2 13 (2000 + (u.1 3).toNatClampNeg) (.inr (5, [.int (k 0), .int 3, .ref a3, .int 0, .ref a4, .int b, .int pr, .ref a5, .ref a6]))) (c3 : nC z2 f2 a3 16 a2 (aR (q 5) 1 (fun _ => none))) (c4 : nC z2 f2 a4 17 (4000 + (u.1 3).toNatClampNeg) (aI (q 0) 5 (fun _ => (-1)))) (hsp : pcS z2 a5 none P X Y D N) (c6 : nC z2 f2 a6 21 (6000 + (u.1 3).toNatClampNeg) (aI (q 1) 400 (fun _ => 0))) (hb : (bw b 0 9 && (bw P 0 11 && bw X 0 7 && bw Y 0 59) && (bw D 1 8 && bw N 1 60) && !decide (8 < X + D) && !decide (60 < Y + N) && bw pr 0 1000) = true) : mkP q h0 d k z f u (mPaid u b P X Y D N pr) r (k3, z2, f3) := by
  have hN : ∀ x : Int32, x = u.1 3 → x.toNatClampNeg = (u.1 3).toNatClampNeg := fun x e => by rw [e]
  obtain ⟨W, eW⟩ : ∃ w : mS, w = mst (mst (mst (mst (mst (mst (mst (mMade u 3) 10 (u.1 3) b) 11 (u.1 3) P) 12 (u.1 3) X) 13 (u.1 3) Y) 7 (u.1 3) D) 8 (u.1 3) N) 14 (u.1 3) pr := ⟨_, rfl⟩
  have hS : mkS u W (u.1 3).toNatClampNeg := by rw [eW]; exact mkS_mst (mkS_mst (mkS_mst (mkS_mst (mkS_mst (mkS_mst (mkS_mst (mkS_made u 3) rfl (by decide) b) rfl (by decide) P) rfl (by decide) X) rfl (by decide) Y) rfl (by decide) D) rfl (by decide) N) rfl (by decide) pr
  have w4 : W.2 4 (u.1 3).toNatClampNeg = 3 := by rw [eW, mst_other (by decide), mst_other (by decide), mst_other (by decide), mst_other (by decide), mst_other (by decide), mst_other (by decide), mst_other (by decide), made_4, if_pos rfl]
  have w22 : W.2 22 (u.1 3).toNatClampNeg = 0 := by rw [eW, mst_other (by decide), mst_other (by decide), mst_other (by decide), mst_other (by decide), mst_other (by decide), mst_other (by decide), mst_other (by decide), made_22, if_pos rfl]
  refine mk_gen (a5 := a5) (a6 := a6) (kd := 3) (W := W) hI hrp hk0 hz0 hI3 hE ho hen rfl hS w4 (by decide) w22 (fun h => (hnw _ (Nat.le_refl _) h).1) (by rw [kT_v.2.2.2.1]; exact c2) (by decide) (by rw [if_neg (by decide)]; exact c3) c4 (fun f9 hup hn => ?_) (fun e => by unfold mPaid; rw [if_pos e]) (fun e => by unfold mPaid; rw [if_neg e, if_pos hb, eW])
  have eN := dN_at (d := d) (n := (u.1 3).toNatClampNeg) (a2 := a2) (a3 := a3) (a4 := a4) (a5 := a5) (a6 := a6) (by omega)
  exact rRs_paid eN.2.2.2.1 eN.2.2.2.2 w4 (by rw [eW, mst_other (by decide), mst_other (by decide), mst_other (by decide), mst_other (by decide), mst_other (by decide), mst_other (by decide), mst_same]) (by rw [eW, mst_same]) (by rw [eW, mst_other (by decide), mst_other (by decide), mst_other (by decide), mst_other (by decide), mst_other (by decide), mst_same]) (by rw [eW, mst_other (by decide), mst_other (by decide), mst_other (by decide), mst_other (by decide), mst_same]) (by rw [eW, mst_other (by decide), mst_other (by decide), mst_other (by decide), mst_same]) (by rw [eW, mst_other (by decide), mst_other (by decide), mst_same]) (by rw [eW, mst_other (by decide), mst_same]) hsp (hup _ _ _ _ c6 (by decide) (by decide)) (fun t ht => by rw [hS.2.2 48 (by omega)]; exact (hnw _ (Nat.le_refl _) hn).2.2.2.2 t ht)
theorem mk_Notice {q h0 d k z f u z2 f2 f3 k3} {r : Int32} {a2 a3 a4 a5 a6 : Nat} {o : Nat} {y : Int32} (hI : xI q h0 d k z f) (hrp : rep q d u z f) (hk0 : k 0 = u.1 3) (hz0 : (z.2 h0).2.1 = 0) (hnw : nwI u) (hI3 : xI q h0 d k3 z2 f3) (hE : zE z z2) (ho : oK z f f2) (hen : enP q h0 d k r k3 a2 f2 f3 (k 0)) (c2 : nC z2 f2 a2 12 (2000 + (u.1 3).toNatClampNeg) (.inr (4, [.int (k 0), .int 5, .ref a3, .int 0, .ref a4, .ref (d (2000 + o)), .int y]))) (c3 : nC z2 f2 a3 16 a2 (aR (q 5) 1 (fun _ => none))) (c4 : nC z2 f2 a4 17 (4000 + (u.1 3).toNatClampNeg) (aI (q 0) 5 (fun _ => (-1)))) (hio : o < (u.1 3).toNatClampNeg) (hko : ¬ u.2 4 o = 5) (hb : bw y 1 20 = true) (hpr : 0 ≤ mPr u (nI o) 0) (hno : ¬ mHasN u (nI o)) : mkP q h0 d k z f u (mNoticeX u (nI o) y) r (k3, z2, f3) := by
  have hN : ∀ x : Int32, x = u.1 3 → x.toNatClampNeg = (u.1 3).toNatClampNeg := fun x e => by rw [e]
  obtain ⟨W, eW⟩ : ∃ w : mS, w = mst (mst (mMade u 5) 9 (u.1 3) (nI o)) 8 (u.1 3) y := ⟨_, rfl⟩
  have hS : mkS u W (u.1 3).toNatClampNeg := by rw [eW]; exact mkS_mst (mkS_mst (mkS_made u 5) rfl (by decide) _) rfl (by decide) y
  have w4 : W.2 4 (u.1 3).toNatClampNeg = 5 := by rw [eW, mst_other (by decide), mst_other (by decide), made_4, if_pos rfl]
  have w22 : W.2 22 (u.1 3).toNatClampNeg = 0 := by rw [eW, mst_other (by decide), mst_other (by decide), made_22, if_pos rfl]
  refine mk_gen (a5 := 0) (a6 := 0) (kd := 5) (W := W) hI hrp hk0 hz0 hI3 hE ho hen rfl hS w4 (by decide) w22 (fun h => (hnw _ (Nat.le_refl _) h).1) (by rw [kT_v.2.2.2.2.2]; exact c2) (by decide) (by rw [if_neg (by decide)]; exact c3) c4 (fun f9 hup hn => ?_) (fun e => by unfold mNoticeX; rw [if_pos e]) (fun e => by have hb9 := bw_it (by rw [← hk0]; exact hI.1.1) hio; unfold mNoticeX; rw [if_neg e, if_pos hb9.1, if_pos hb, nI_clamp (by omega), if_neg hko, if_pos hpr, if_pos (bP_f hno), eW])
  have eN := dN_at (d := d) (n := (u.1 3).toNatClampNeg) (a2 := a2) (a3 := a3) (a4 := a4) (a5 := 0) (a6 := 0) (by omega)
  exact rRs_notice (o := o) w4 (by rw [hS.1 3, if_pos rfl]; have m4 := (n80k hI.1.1); rw [hk0] at m4; have m5 := m4.2 (fun x9 => by have e9 := m4.1 x9; rw [e9] at hn; exact absurd hn (by decide)); omega) (by rw [eW, mst_other (by decide), mst_same]) (by rw [eW, mst_same]) (dN_o (by omega) (by omega)).1
theorem st_n {u : mS} {x : Int32} (h : ¬ bw x 1 80 = true) : mStory u x = (-1, u) := by
  unfold mStory; rw [if_neg h]; split <;> rfl
theorem fl_y {x y : Int32} (h : bw y 1 60 = true) (h2 : bw x 1 y = true) : bw x 1 60 = true ∧ bw y x 60 = true := by
  have a := bw_iff.mp h
  have b := bw_iff.mp h2
  exact ⟨bw_iff.mpr (by omega), bw_iff.mpr (by omega)⟩
theorem fl_n {u : mS} {x y : Int32} (h : ¬ (bw y 1 60 = true ∧ bw x 1 y = true)) : mFiller u x y = (-1, u) := by
  unfold mFiller
  by_cases e : u.1 3 = 80
  · rw [if_pos e]
  · rw [if_neg e]
    by_cases b : bw x 1 60 = true
    · rw [if_pos b]
      by_cases c : bw y x 60 = true
      · have a1 := bw_iff.mp b
        have a2 := bw_iff.mp c
        exact absurd ⟨bw_iff.mpr (by omega), bw_iff.mpr (by omega)⟩ h
      · rw [if_neg c]
    · rw [if_neg b]
theorem hd_n {u : mS} {s w h : Int32} (e : mKind u s 0 = false) : mHead u s w h = (-1, u) := by
  unfold mHead
  by_cases h8 : u.1 3 = 80
  · rw [if_pos h8]
  · rw [if_neg h8, e, if_neg (by decide)]
theorem hd_w {u : mS} {s w h : Int32} (e : ¬ bw w 1 8 = true) : mHead u s w h = (-1, u) := by
  unfold mHead; rw [if_neg e]; repeat' split
  all_goals rfl
theorem hd_h {u : mS} {s w h : Int32} (e : ¬ bw h 1 9 = true) : mHead u s w h = (-1, u) := by
  unfold mHead; rw [if_neg e]; repeat' split
  all_goals rfl
def pdB (b P X Y D N pr : Int32) : Prop := (bw b 0 9 && (bw P 0 11 && bw X 0 7 && bw Y 0 59) && (bw D 1 8 && bw N 1 60) && !decide (8 < X + D) && !decide (60 < Y + N) && bw pr 0 1000) = true
theorem pdB_iff {b P X Y D N pr : Int32} : pdB b P X Y D N pr ↔ bw b 0 9 = true ∧ bw P 0 11 = true ∧ (bw D 1 8 && bw N 1 60) = true ∧ bw pr 0 1000 = true ∧ bw X 0 (8 - D) = true ∧ bw Y 0 (60 - N) = true := by
  unfold pdB
  rw [Bool.and_eq_true, Bool.and_eq_true, Bool.and_eq_true, Bool.and_eq_true, Bool.and_eq_true, Bool.and_eq_true, Bool.and_eq_true, Bool.not_eq_true', Bool.not_eq_true', decide_eq_false_iff_not, decide_eq_false_iff_not]
  have e8 : (8 : Int32).toInt = 8 := rfl
  have e60 : (60 : Int32).toInt = 60 := rfl
  have e7 : (7 : Int32).toInt = 7 := rfl
  have e59 : (59 : Int32).toInt = 59 := rfl
  constructor
  · rintro ⟨⟨⟨⟨⟨h1, ⟨h2, h3⟩, h4⟩, h5⟩, h6⟩, h7⟩, h8⟩
    refine ⟨h1, h2, h5, h8, ?_, ?_⟩
    · have a := bw_iff.mp h3
      have c := bw_iff.mp (ban h5).1
      rw [i1, e8] at c
      rw [i0, e7] at a
      rw [i32_lt, e8, addI (by omega) (by omega)] at h6
      rw [bw_iff, i0, subI (by rw [e8]; omega) (by rw [e8]; omega), e8]; omega
    · have a := bw_iff.mp h4
      have c := bw_iff.mp (ban h5).2
      rw [i1, e60] at c
      rw [i0, e59] at a
      rw [i32_lt, e60, addI (by omega) (by omega)] at h7
      rw [bw_iff, i0, subI (by rw [e60]; omega) (by rw [e60]; omega), e60]; omega
  · rintro ⟨h1, h2, h3, h4, h5, h6⟩
    have c := bw_iff.mp (ban h3).1
    have c2 := bw_iff.mp (ban h3).2
    rw [i1, e8] at c
    rw [i1, e60] at c2
    have a := bw_iff.mp h5
    rw [i0, subI (by rw [e8]; omega) (by rw [e8]; omega), e8] at a
    have a2 := bw_iff.mp h6
    rw [i0, subI (by rw [e60]; omega) (by rw [e60]; omega), e60] at a2
    refine ⟨⟨⟨⟨⟨h1, ⟨h2, ?_⟩, ?_⟩, h3⟩, ?_⟩, ?_⟩, h4⟩
    · rw [bw_iff, i0, e7]; omega
    · rw [bw_iff, i0, e59]; omega
    · rw [i32_lt, e8, addI (by omega) (by omega)]; omega
    · rw [i32_lt, e60, addI (by omega) (by omega)]; omega
theorem pd_n {u : mS} {b P X Y D N pr : Int32} (h : ¬ pdB b P X Y D N pr) : mPaid u b P X Y D N pr = (-1, u) := by
  unfold pdB at h
  unfold mPaid
  by_cases e : u.1 3 = 80
  · rw [if_pos e]
  · rw [if_neg e, if_neg h]
theorem nt_i {u : mS} {i h : Int32} (e : ¬ bw i 0 (u.1 3 - 1) = true) : mNoticeX u i h = (-1, u) := by
  unfold mNoticeX; rw [if_neg e]; split <;> rfl
theorem nt_k {u : mS} {i h : Int32} (e : u.2 4 i.toNatClampNeg = 5) : mNoticeX u i h = (-1, u) := by
  unfold mNoticeX; rw [if_pos e]; repeat' split
  all_goals rfl
theorem nt_h {u : mS} {i h : Int32} (e : ¬ bw h 1 20 = true) : mNoticeX u i h = (-1, u) := by
  unfold mNoticeX; rw [if_neg e]; repeat' split
  all_goals rfl
theorem nt_p {u : mS} {i h : Int32} (e : ¬ 0 ≤ mPr u i 0) : mNoticeX u i h = (-1, u) := by
  unfold mNoticeX; rw [if_neg e]; repeat' split
  all_goals rfl
theorem nt_n {u : mS} {i h : Int32} (e : mHasN u i) : mNoticeX u i h = (-1, u) := by
  unfold mNoticeX; rw [if_neg (show ¬ bP (mHasN u i) = 0 from fun x => bP_0 x e)]; repeat' split
  all_goals rfl
theorem pr_0 {u : mS} {i r : Int32} (h : mPrR u i 0 r) (hd : bw (u.1 38) 0 399 = true) : r = (-1) ∨ 0 ≤ r := by
  have z0 := bw_iff.mp hd
  rw [i0] at z0
  unfold mPrR at h
  by_cases b1 : bw i 0 (u.1 3 - 1) = true
  · rw [if_pos b1, if_pos (show bw 0 0 4 = true by decide)] at h
    by_cases b3 : u.2 47 (5 * i).toNatClampNeg < 0
    · rw [if_pos b3] at h
      rcases h with ⟨q, -, -, -, e⟩ | ⟨-, e⟩
      · refine Or.inr ?_
        rw [e]
        unfold mPrV
        rw [if_pos rfl, i32_le, i0]; exact z0.1
      · exact Or.inl e
    · rw [if_neg b3] at h
      refine Or.inr ?_
      rw [h, Int32.add_zero, i32_le, i0]
      rw [i32_lt, i0] at b3
      omega
  · rw [if_neg b1] at h; exact Or.inl h
set_option maxHeartbeats 4000000 in
set_option maxRecDepth 100000 in
theorem y_story (l : Launch) (dC : Nat → ClassId) (dI : Nat → Nat → Nat) (q : Nat → ClassId) (h0 : Nat) (d : Nat → Nat) (k : Nat → Int32) (z : gS) (f : xF) (hI : xI q h0 d k z f) (p0 : Int32) (u : mS) (hrp : rep q d u z f) (hk0 : k 0 = u.1 3) (hk1 : k 1 = u.1 28) (hk2 : k 2 = u.1 38) (hk3 : k 3 = u.1 39) (hz0 : (z.2 h0).2.1 = 0) (hnw : nwI u) (sz : Nat) : Met l yX11_story wsX11_story ({ frames := 3, cells := 5, slots := 110, locals := 68 }) (va_Pc [.ref h0, .int p0] (fun U => U.heap.size = sz ∧ PX dC dI (va_pl z.1 f) (xT q) U ∧ va_D (fun _ => True) (va_pl z.1 f))) (va_Qi (fun (r : Int32) (w : xU) => mkP q h0 d k z f u (mStory u p0) r w) (fun (w : xU) t => va_P (dC, dI) vwCl (va_pl w.2.1.1 w.2.2) t.heap ∧ va_D (va_A (va_pl z.1 f) sz) (va_pl w.2.1.1 w.2.2)) (va_A (va_pl z.1 f) sz)) 5 110 (va_A (va_pl z.1 f) sz) := by
  refine Met.ofW (cc := cX11_story) (maxL := 2) (ret := (some .int)) (by decide) rfl ?_
  intro p e s m args below meth c s₁ B hml hv
  obtain ⟨rfl, hsz, ⟨⟨hP, hK, hN⟩, hXN⟩, hD0⟩ := hv
  have hx := B.exec
  have hb := B.bytes
  have hr := B.returns
  have hts := atoms_spec (ws := wsX11_story) B.pre
  have hown : s.vm.findClass RX11 = some m.cls := findClass_of_methodNamed B.named
  have hlocks := B.notSynchronized
  subst hsz
  have hD := hD0.self (sz := s.heap.size)
  generalize hAe : va_A (va_pl z.1 f) s.heap.size = A at hD ⊢
  have hA : ∀ q : Nat, s.heap.size ≤ q → A q := fun q h => by rw [← hAe]; exact Or.inr h
  have hS : va_S A s.heap s.heap [] := va_S.rf
  have hl := lv_entry ([.ref h0, .int p0]) (n := 2) (Nat.le_of_ble_eq_true rfl)
  rw [lg_entry_eq]
  generalize (lg_sl ([.ref h0, .int p0]) ++ List.replicate (2 - (lg_sl ([.ref h0, .int p0])).length) Slot.unset).toArray = ls at hl ⊢
  have hl : lv_has ls 2 [(0, .ref h0), (1, .int p0)] := hl
  have hIo := hI
  refine lv_iload_n hx hb dX11_story_0 rfl (lv_at hl 1 rfl) ?_
  refine lv_iconst (v := 1) hx hb dX11_story_1 (by decide) ?_
  refine lv_bipush (v := 80) hx hb dX11_story_2 (by decide) ?_
  refine vp_callSi (va_runS (As := [.int p0, .int 1, .int 80]) (rest := []) ⟨hx, hb, hml, hown, hts⟩ (x_isWithin l dC dI p0 1 80) (va_cwS 3 hts gX11_story_X11_isWithin rfl rfl rfl (by decide +kernel) ⟨Nat.le_of_ble_eq_true rfl, Nat.le_of_ble_eq_true rfl⟩) ⟨pw_fb, fun U hU hW => ⟨rfl, pw_to hU hW (hP.sub (ws' := []) [] rfl) (hK.sub (tys' := []) [] rfl) hN⟩⟩ rfl rfl hl.1 rfl (lv_room (Nat.le_of_ble_eq_true rfl)) dX11_story_4 ⟨Nat.le_of_ble_eq_true rfl, Nat.le_of_ble_eq_true rfl⟩).run (fun r hw => ?_)
  rcases Bool.eq_false_or_eq_true (bw p0 1 80) with b_1 | b_1
  ·
    obtain rfl : r = 1 := b_t hw b_1
    refine lv_if_ne (tgt := 12) hx hb dX11_story_7 (by decide) (fun c_2 => ?_) (fun c_2 => absurd c_2 (by decide))
    refine lv_aload_n hx hb dX11_story_12 rfl (lv_at hl 0 rfl) ?_
    refine va_new (ci := 9) (fs := [.int 0, .int 0, .null, .int 0, .null, .int 0, .null, .int 0, .null]) (C := RX10) (T := TX10) (N := 9) hx hb hts (by decide +kernel) tyX10 tyX10_ok hown (hts (.classLink RX11 66 RX10) (by decide +kernel)) (hts (.instantiable RX10 9) (by decide +kernel)) (hts (.initialized RX10) (by decide +kernel)) hK hP hD hS hA rfl nwX10 (Nat.le_of_ble_eq_true rfl) (Nat.le_of_ble_eq_true rfl) dX11_story_13 (fun q_3 H hPn hDn hS => ?_)
    have hP := vaP_l hPn
    refine W.widen (k := 1) (n := 9) (Nat.le_of_ble_eq_true rfl) (Nat.le_of_ble_eq_true rfl) ?_
    refine lv_dup hx hb dX11_story_16 rfl ?_
    refine lv_aload_n hx hb dX11_story_17 rfl (lv_at hl 0 rfl) ?_
    obtain ⟨kk_4, hk_5⟩ := pl_at hI.2.1.1.1 hI.2.2.2.1.1
    refine va_get (D := (dC, dI)) (ci := 10) (v := .int (k 0)) (C := RX11) (T := TX11) (N := 9) hx hb hts (by decide +kernel) hown hK hP kk_4 hk_5 rfl 3 (by decide) (hts (.fieldLink RX11 24 "PageOne" "itemCount" "I") (by decide +kernel)) (fun _ h9 => h9) rfl dX11_story_18 ?_
    refine lv_iload_n hx hb dX11_story_21 rfl (lv_at hl 1 rfl) ?_
    have hPc := vaP_r hPn
    have hDc := vaD_r hDn
    have hFc := fr_part hDn hS hA
    refine va_callv (va_runI (As := [.int (k 0), .int p0]) (rest := [.ref q_3, .ref h0]) ⟨hx, hb, hml, hown, hts⟩ (xn_Story l dC dI q_3 (q 0) (q 1) (q 5) (k 0) p0 H.size) (cwI 2 hts gX11_story_X10_init rfl rfl rfl (hts (.initialized RX10) (by decide +kernel)) (hts (.methodLink RX11 68 yX10_init) (by decide +kernel)) (hts (.instanceMethod yX10_init) (by decide +kernel)) rfl (by decide +kernel) ⟨Nat.le_of_ble_eq_true rfl, Nat.le_of_ble_eq_true rfl⟩) ⟨gw_fb, fun U hU hW => ⟨rfl, by rw [hU], pw_to hU hW hPc (hK.sub (tys' := [(q 0, .int), (q 1, .boolean), (q 5, .object "PageOne$Piece")]) [0, 1, 5] rfl) hN, hDc.weaken (fun _ _ _ _ => trivial)⟩⟩ rfl rfl hl.1 rfl (lv_room (Nat.le_of_ble_eq_true rfl)) dX11_story_22 ⟨Nat.le_of_ble_eq_true rfl, Nat.le_of_ble_eq_true rfl⟩) hS (fun q _ h => hFc q h) hFc (fun u9 t H1 locs ht hvm hw hB hz1 hk1 hS => ?_)
    obtain ⟨qa_6, qa_7, qa_8, qa_9, hP1, hD1⟩ := hB
    rw [ht] at hP1
    obtain ⟨hP, hD⟩ := va_joinQ (X := [(q_3, .inr (9, [.int 0, .int 0, .null, .int 0, .null, .int 0, .null, .int 0, .null]))]) (cx := [(q_3, .inr (9, [.int 0, .int 0, .null, .int 0, .null, .int 0, .null, .int 0, .null]))]) (wr := []) (w1 := [(qa_6, aI (q 0) 5 (fun _ => (-1))), (qa_7, aR (q 5) 6 (fun _ => none)), (qa_8, aI (q 0) 80 (fun _ => 0)), (qa_9, aI (q 1) 10 (fun _ => 0)), (q_3, .inr (9, [.int (k 0), .int 0, .ref qa_7, .int 0, .ref qa_6, .int p0, .ref qa_8, .int 0, .ref qa_9]))]) (pl := va_pl z.1 f) (vaP_swap hPn) (vaD_rotR hDn) [0] [] rfl rfl rfl (fun i hi => absurd hi List.not_mem_nil) hk1 hFc hP1 hD1
    generalize H1 = H at hP hS ⊢
    obtain ⟨hnm_10, hP, hD⟩ := pushC hP hD
    obtain ⟨z_11, ez_11⟩ : ∃ y : gS, y = pz z qa_6 (17, 4000 + (u.1 3).toNatClampNeg, []) := ⟨_, rfl⟩
    obtain ⟨f_12, ef_12⟩ : ∃ y : xF, y = va_up f qa_6 (aI (q 0) 5 (fun _ => (-1))) := ⟨_, rfl⟩
    have hE_13 : zE z z_11 := by rw [ez_11]; exact pz_E hnm_10 _
    have hI : xI q h0 d k z_11 f_12 := by rw [ez_11, ef_12]; exact x_push hI hnm_10 (Or.inr (by decide : (15 : Nat) < 17)) (cO_17 (by rw [pz_s]) ⟨_, rfl⟩)
    rw [show z.1 ++ [qa_6] = z_11.1 from by rw [ez_11]; rfl, ← ef_12] at hP hD
    have ht_14 : tg z_11 qa_6 17 := by rw [ez_11]; exact pz_t _ _ _
    have hEz : zE z z_11 := zE_tr (zE_rf z) hE_13
    have hc_15 : nC z_11 f_12 qa_6 17 (4000 + (u.1 3).toNatClampNeg) (aI (q 0) 5 (fun _ => (-1))) := by rw [ez_11, ef_12]; exact nC_new
    have hoK : oK z f f_12 := by rw [ef_12]; exact oK_push (fun _ _ => rfl) (zE_rf z) hnm_10
    have hEo := hEz
    obtain ⟨hnm_16, hP, hD⟩ := pushC hP hD
    obtain ⟨z_17, ez_17⟩ : ∃ y : gS, y = pz z_11 qa_7 (16, q_3, []) := ⟨_, rfl⟩
    obtain ⟨f_18, ef_18⟩ : ∃ y : xF, y = va_up f_12 qa_7 (aR (q 5) 6 (fun _ => none)) := ⟨_, rfl⟩
    have hE_19 : zE z_11 z_17 := by rw [ez_17]; exact pz_E hnm_16 _
    have hI : xI q h0 d k z_17 f_18 := by rw [ez_17, ef_18]; exact x_push hI hnm_16 (Or.inr (by decide : (15 : Nat) < 16)) (cO_16 (by rw [pz_s]) ⟨6, by decide, by decide, _, rfl, fun _ _ b hb => by cases hb⟩)
    rw [show z_11.1 ++ [qa_7] = z_17.1 from by rw [ez_17]; rfl, ← ef_18] at hP hD
    have hpf9 : f_18 qa_7 = aR (q 5) 6 (fun _ => none) := by rw [ef_18]; exact up_s
    have ho9 : (z_17.2 qa_7).2.1 = q_3 := by rw [ez_17, pz_s]
    have ht_14 := zE_tg hE_19 ht_14
    have ht_20 : tg z_17 qa_7 16 := by rw [ez_17]; exact pz_t _ _ _
    have hEz : zE z z_17 := zE_tr hEz hE_19
    have hc_15 : nC z_17 f_18 qa_6 17 (4000 + (u.1 3).toNatClampNeg) (aI (q 0) 5 (fun _ => (-1))) := by rw [ez_17, ef_18]; exact nC_push hc_15 hnm_16
    have hc_21 : nC z_17 f_18 qa_7 16 (q_3) (aR (q 5) 6 (fun _ => none)) := by rw [ez_17, ef_18]; exact nC_new
    have hoK : oK z f f_18 := by rw [ef_18]; exact oK_push hoK hEo hnm_16
    have hEo := hEz
    obtain ⟨hnm_22, hP, hD⟩ := pushC hP hD
    obtain ⟨z_23, ez_23⟩ : ∃ y : gS, y = pz z_17 qa_8 (18, 5000 + (u.1 3).toNatClampNeg, []) := ⟨_, rfl⟩
    obtain ⟨f_24, ef_24⟩ : ∃ y : xF, y = va_up f_18 qa_8 (aI (q 0) 80 (fun _ => 0)) := ⟨_, rfl⟩
    have hE_25 : zE z_17 z_23 := by rw [ez_23]; exact pz_E hnm_22 _
    have hI : xI q h0 d k z_23 f_24 := by rw [ez_23, ef_24]; exact x_push hI hnm_22 (Or.inr (by decide : (15 : Nat) < 18)) (cO_18 (by rw [pz_s]) ⟨_, rfl⟩)
    rw [show z_17.1 ++ [qa_8] = z_23.1 from by rw [ez_23]; rfl, ← ef_24] at hP hD
    have hpf9 : f_24 qa_7 = aR (q 5) 6 (fun _ => none) := by rw [ef_24, up_o (fun e => hnm_22 (by rw [← e]; exact ht_20.1))]; exact hpf9
    have ho9 : (z_23.2 qa_7).2.1 = q_3 := by rw [zE_o hE_25 ht_20.1]; exact ho9
    have ht_14 := zE_tg hE_25 ht_14
    have ht_20 := zE_tg hE_25 ht_20
    have ht_26 : tg z_23 qa_8 18 := by rw [ez_23]; exact pz_t _ _ _
    have hEz : zE z z_23 := zE_tr hEz hE_25
    have hc_15 : nC z_23 f_24 qa_6 17 (4000 + (u.1 3).toNatClampNeg) (aI (q 0) 5 (fun _ => (-1))) := by rw [ez_23, ef_24]; exact nC_push hc_15 hnm_22
    have hc_21 : nC z_23 f_24 qa_7 16 (q_3) (aR (q 5) 6 (fun _ => none)) := by rw [ez_23, ef_24]; exact nC_push hc_21 hnm_22
    have hc_27 : nC z_23 f_24 qa_8 18 (5000 + (u.1 3).toNatClampNeg) (aI (q 0) 80 (fun _ => 0)) := by rw [ez_23, ef_24]; exact nC_new
    have hoK : oK z f f_24 := by rw [ef_24]; exact oK_push hoK hEo hnm_22
    have hEo := hEz
    obtain ⟨hnm_28, hP, hD⟩ := pushC hP hD
    obtain ⟨z_29, ez_29⟩ : ∃ y : gS, y = pz z_23 qa_9 (19, 6000 + (u.1 3).toNatClampNeg, []) := ⟨_, rfl⟩
    obtain ⟨f_30, ef_30⟩ : ∃ y : xF, y = va_up f_24 qa_9 (aI (q 1) 10 (fun _ => 0)) := ⟨_, rfl⟩
    have hE_31 : zE z_23 z_29 := by rw [ez_29]; exact pz_E hnm_28 _
    have hI : xI q h0 d k z_29 f_30 := by rw [ez_29, ef_30]; exact x_push hI hnm_28 (Or.inr (by decide : (15 : Nat) < 19)) (cO_19 (by rw [pz_s]) ⟨_, rfl⟩)
    rw [show z_23.1 ++ [qa_9] = z_29.1 from by rw [ez_29]; rfl, ← ef_30] at hP hD
    have hpf9 : f_30 qa_7 = aR (q 5) 6 (fun _ => none) := by rw [ef_30, up_o (fun e => hnm_28 (by rw [← e]; exact ht_20.1))]; exact hpf9
    have ho9 : (z_29.2 qa_7).2.1 = q_3 := by rw [zE_o hE_31 ht_20.1]; exact ho9
    have ht_14 := zE_tg hE_31 ht_14
    have ht_20 := zE_tg hE_31 ht_20
    have ht_26 := zE_tg hE_31 ht_26
    have ht_32 : tg z_29 qa_9 19 := by rw [ez_29]; exact pz_t _ _ _
    have hEz : zE z z_29 := zE_tr hEz hE_31
    have hc_15 : nC z_29 f_30 qa_6 17 (4000 + (u.1 3).toNatClampNeg) (aI (q 0) 5 (fun _ => (-1))) := by rw [ez_29, ef_30]; exact nC_push hc_15 hnm_28
    have hc_21 : nC z_29 f_30 qa_7 16 (q_3) (aR (q 5) 6 (fun _ => none)) := by rw [ez_29, ef_30]; exact nC_push hc_21 hnm_28
    have hc_27 : nC z_29 f_30 qa_8 18 (5000 + (u.1 3).toNatClampNeg) (aI (q 0) 80 (fun _ => 0)) := by rw [ez_29, ef_30]; exact nC_push hc_27 hnm_28
    have hc_33 : nC z_29 f_30 qa_9 19 (6000 + (u.1 3).toNatClampNeg) (aI (q 1) 10 (fun _ => 0)) := by rw [ez_29, ef_30]; exact nC_new
    have hoK : oK z f f_30 := by rw [ef_30]; exact oK_push hoK hEo hnm_28
    have hEo := hEz
    obtain ⟨hnm_34, hP, hD⟩ := pushC hP hD
    obtain ⟨z_35, ez_35⟩ : ∃ y : gS, y = pz z_29 q_3 (15, 2000 + (u.1 3).toNatClampNeg, []) := ⟨_, rfl⟩
    obtain ⟨f_36, ef_36⟩ : ∃ y : xF, y = va_up f_30 q_3 (.inr (9, [.int (k 0), .int 0, .ref qa_7, .int 0, .ref qa_6, .int p0, .ref qa_8, .int 0, .ref qa_9])) := ⟨_, rfl⟩
    have hE_37 : zE z_29 z_35 := by rw [ez_35]; exact pz_E hnm_34 _
    have hI : xI q h0 d k z_35 f_36 := by rw [ez_35, ef_36]; exact x_pushIo (n := 6) hI hnm_34 (by decide) ht_20 ho9 ht_14 hpf9 (by decide) ⟨fun x => absurd x (by decide), fun x => absurd x (by decide), fun x => absurd x (by decide), fun x => absurd x (by decide), fun x => absurd x (by decide), fun _ => ⟨_, _, _, _, rfl, zE_tg (pz_E hnm_34 _) ht_26, by decide, zE_tg (pz_E hnm_34 _) ht_32⟩⟩
    rw [show z_29.1 ++ [q_3] = z_35.1 from by rw [ez_35]; rfl, ← ef_36] at hP hD
    have hpf9 : f_36 qa_7 = aR (q 5) 6 (fun _ => none) := by rw [ef_36, up_o (fun e => hnm_34 (by rw [← e]; exact ht_20.1))]; exact hpf9
    have ho9 : (z_35.2 qa_7).2.1 = q_3 := by rw [zE_o hE_37 ht_20.1]; exact ho9
    have ht_14 := zE_tg hE_37 ht_14
    have ht_20 := zE_tg hE_37 ht_20
    have ht_26 := zE_tg hE_37 ht_26
    have ht_32 := zE_tg hE_37 ht_32
    have ht_38 : tg z_35 q_3 15 := by rw [ez_35]; exact pz_t _ _ _
    have hEz : zE z z_35 := zE_tr hEz hE_37
    have hc_15 : nC z_35 f_36 qa_6 17 (4000 + (u.1 3).toNatClampNeg) (aI (q 0) 5 (fun _ => (-1))) := by rw [ez_35, ef_36]; exact nC_push hc_15 hnm_34
    have hc_21 : nC z_35 f_36 qa_7 16 (q_3) (aR (q 5) 6 (fun _ => none)) := by rw [ez_35, ef_36]; exact nC_push hc_21 hnm_34
    have hc_27 : nC z_35 f_36 qa_8 18 (5000 + (u.1 3).toNatClampNeg) (aI (q 0) 80 (fun _ => 0)) := by rw [ez_35, ef_36]; exact nC_push hc_27 hnm_34
    have hc_33 : nC z_35 f_36 qa_9 19 (6000 + (u.1 3).toNatClampNeg) (aI (q 1) 10 (fun _ => 0)) := by rw [ez_35, ef_36]; exact nC_push hc_33 hnm_34
    have hc_39 : nC z_35 f_36 q_3 15 (2000 + (u.1 3).toNatClampNeg) (.inr (9, [.int (k 0), .int 0, .ref qa_7, .int 0, .ref qa_6, .int p0, .ref qa_8, .int 0, .ref qa_9])) := by rw [ez_35, ef_36]; exact nC_new
    have hoK : oK z f f_36 := by rw [ef_36]; exact oK_push hoK hEo hnm_34
    refine W.widen (k := 5) (n := 110) (Nat.le_of_ble_eq_true rfl) (Nat.le_of_ble_eq_true rfl) ?_
    refine W.eq (g2 := F0 m 25 ls [.ref q_3, .ref h0]) rfl ?_
    obtain ⟨kk_40, hk_41⟩ := pl_at hI.2.1.1.1 hI.2.2.2.1.1
    have hFc := fr_all hD hS hA
    refine va_calli (va_runV (As := [.ref q_3]) (rest := []) ⟨hx, hb, hml, hown, hts⟩ (y_enter l dC dI q h0 d k z_35 f_36 hI q_3 (tg_itm ht_38 (by decide)) (k 0) 0 0 qa_7 qa_6 [.int p0, .ref qa_8, .int 0, .ref qa_9] (by rw [hc_39.2.2, hc_39.1.2]; rfl) H.size) (cwV 1 hts gX11_story_X11_enter rfl rfl rfl (by decide +kernel) ⟨Nat.le_of_ble_eq_true rfl, Nat.le_of_ble_eq_true rfl⟩) ⟨gx_fb, va_recv hK hP (ci := 10) (q0 := kk_40) rfl hk_41, fun U hU hW => ⟨rfl, by rw [hU], px_to hU hW hP hK hN hXN, hD.weaken (fun _ _ _ _ => trivial)⟩⟩ rfl rfl hl.1 rfl (lv_room (Nat.le_of_ble_eq_true rfl)) dX11_story_25 ⟨Nat.le_of_ble_eq_true rfl, Nat.le_of_ble_eq_true rfl⟩) hS (fun q _ h => hFc q h) hFc (fun r w_42 t H1 locs ht hvm hw hB hz1 hk1 hS => ?_)
    obtain ⟨hP, hD1⟩ := hB
    rw [ht] at hP
    rw [hw.1] at hP hD1
    have hD := hD1.weaken (fun _ q _ h => hFc q.1 h)
    have hI := hw.2.1
    have hw0 := hw
    generalize w_42.1 = k_44 at hI hw0
    generalize w_42.2.2 = f_43 at hP hD hI hw0
    generalize H1 = H at hP hS ⊢
    exact W.iret (v := r) hx hb hr (fun t ht hW => ⟨⟨r, (k_44, z_35, f_43), rfl, (mk_Story hIo hrp hk0 hz0 hnw hI hEz hoK hw0.2.2 hc_39 hc_21 hc_15 hc_27 hc_33 b_1), by rw [ht]; exact hP, hD⟩, hS.F ht⟩) hS.2.2 dX11_story_28
  ·
    obtain rfl : r = 0 := b_f hw b_1
    refine lv_if_ne (tgt := 12) hx hb dX11_story_7 (by decide) (fun c_45 => absurd (by decide) c_45) (fun c_45 => ?_)
    refine lv_iconst (v := (-1)) hx hb dX11_story_10 (by decide) ?_
    refine W.widen (k := 5) (n := 110) (Nat.le_of_ble_eq_true rfl) (Nat.le_of_ble_eq_true rfl) ?_
    exact W.iret (v := (-1)) hx hb hr (fun t ht hW => ⟨⟨(-1), (k, z, f), rfl, (mkP_0 hI hrp hk0 (st_n (bne b_1))), by rw [ht]; exact hP, hD⟩, hS.F ht⟩) hS.2.2 dX11_story_11
set_option maxHeartbeats 4000000 in
set_option maxRecDepth 100000 in
theorem y_picture (l : Launch) (dC : Nat → ClassId) (dI : Nat → Nat → Nat) (q : Nat → ClassId) (h0 : Nat) (d : Nat → Nat) (k : Nat → Int32) (z : gS) (f : xF) (hI : xI q h0 d k z f) (u : mS) (hrp : rep q d u z f) (hk0 : k 0 = u.1 3) (hk1 : k 1 = u.1 28) (hk2 : k 2 = u.1 38) (hk3 : k 3 = u.1 39) (hz0 : (z.2 h0).2.1 = 0) (hnw : nwI u) (sz : Nat) : Met l yX11_picture wsX11_picture ({ frames := 3, cells := 5, slots := 22, locals := 67 }) (va_Pc [.ref h0] (fun U => U.heap.size = sz ∧ PX dC dI (va_pl z.1 f) (xT q) U ∧ va_D (fun _ => True) (va_pl z.1 f))) (va_Qi (fun (r : Int32) (w : xU) => mkP q h0 d k z f u (mPicture u) r w) (fun (w : xU) t => va_P (dC, dI) vwCl (va_pl w.2.1.1 w.2.2) t.heap ∧ va_D (va_A (va_pl z.1 f) sz) (va_pl w.2.1.1 w.2.2)) (va_A (va_pl z.1 f) sz)) 5 22 (va_A (va_pl z.1 f) sz) := by
  refine Met.ofW (cc := cX11_picture) (maxL := 1) (ret := (some .int)) (by decide) rfl ?_
  intro p e s m args below meth c s₁ B hml hv
  obtain ⟨rfl, hsz, ⟨⟨hP, hK, hN⟩, hXN⟩, hD0⟩ := hv
  have hx := B.exec
  have hb := B.bytes
  have hr := B.returns
  have hts := atoms_spec (ws := wsX11_picture) B.pre
  have hown : s.vm.findClass RX11 = some m.cls := findClass_of_methodNamed B.named
  have hlocks := B.notSynchronized
  subst hsz
  have hD := hD0.self (sz := s.heap.size)
  generalize hAe : va_A (va_pl z.1 f) s.heap.size = A at hD ⊢
  have hA : ∀ q : Nat, s.heap.size ≤ q → A q := fun q h => by rw [← hAe]; exact Or.inr h
  have hS : va_S A s.heap s.heap [] := va_S.rf
  have hl := lv_entry ([.ref h0]) (n := 1) (Nat.le_of_ble_eq_true rfl)
  rw [lg_entry_eq]
  generalize (lg_sl ([.ref h0]) ++ List.replicate (1 - (lg_sl ([.ref h0])).length) Slot.unset).toArray = ls at hl ⊢
  have hl : lv_has ls 1 [(0, .ref h0)] := hl
  have hIo := hI
  refine lv_aload_n hx hb dX11_picture_0 rfl (lv_at hl 0 rfl) ?_
  refine va_new (ci := 6) (fs := [.int 0, .int 0, .null, .int 0, .null, .null, .null, .int 0]) (C := RX7) (T := TX7) (N := 8) hx hb hts (by decide +kernel) tyX7 tyX7_ok hown (hts (.classLink RX11 88 RX7) (by decide +kernel)) (hts (.instantiable RX7 8) (by decide +kernel)) (hts (.initialized RX7) (by decide +kernel)) hK hP hD hS hA rfl nwX7 (Nat.le_of_ble_eq_true rfl) (Nat.le_of_ble_eq_true rfl) dX11_picture_1 (fun q_1 H hPn hDn hS => ?_)
  have hP := vaP_l hPn
  refine W.widen (k := 1) (n := 8) (Nat.le_of_ble_eq_true rfl) (Nat.le_of_ble_eq_true rfl) ?_
  refine lv_dup hx hb dX11_picture_4 rfl ?_
  refine lv_aload_n hx hb dX11_picture_5 rfl (lv_at hl 0 rfl) ?_
  obtain ⟨kk_2, hk_3⟩ := pl_at hI.2.1.1.1 hI.2.2.2.1.1
  refine va_get (D := (dC, dI)) (ci := 10) (v := .int (k 0)) (C := RX11) (T := TX11) (N := 9) hx hb hts (by decide +kernel) hown hK hP kk_2 hk_3 rfl 3 (by decide) (hts (.fieldLink RX11 24 "PageOne" "itemCount" "I") (by decide +kernel)) (fun _ h9 => h9) rfl dX11_picture_6 ?_
  have hPc := vaP_r hPn
  have hDc := vaD_r hDn
  have hFc := fr_part hDn hS hA
  refine va_callv (va_runI (As := [.int (k 0)]) (rest := [.ref q_1, .ref h0]) ⟨hx, hb, hml, hown, hts⟩ (xn_Picture l dC dI q_1 (q 0) (q 5) (k 0) H.size) (cwI 1 hts gX11_picture_X7_init rfl rfl rfl (hts (.initialized RX7) (by decide +kernel)) (hts (.methodLink RX11 90 yX7_init) (by decide +kernel)) (hts (.instanceMethod yX7_init) (by decide +kernel)) rfl (by decide +kernel) ⟨Nat.le_of_ble_eq_true rfl, Nat.le_of_ble_eq_true rfl⟩) ⟨gw_fb, fun U hU hW => ⟨rfl, by rw [hU], pw_to hU hW hPc (hK.sub (tys' := [(q 0, .int), (q 5, .object "PageOne$Piece")]) [0, 5] rfl) hN, hDc.weaken (fun _ _ _ _ => trivial)⟩⟩ rfl rfl hl.1 rfl (lv_room (Nat.le_of_ble_eq_true rfl)) dX11_picture_9 ⟨Nat.le_of_ble_eq_true rfl, Nat.le_of_ble_eq_true rfl⟩) hS (fun q _ h => hFc q h) hFc (fun u9 t H1 locs ht hvm hw hB hz1 hk1 hS => ?_)
  obtain ⟨qa_4, qa_5, qa_6, qa_7, hP1, hD1⟩ := hB
  rw [ht] at hP1
  obtain ⟨hP, hD⟩ := va_joinQ (X := [(q_1, .inr (6, [.int 0, .int 0, .null, .int 0, .null, .null, .null, .int 0]))]) (cx := [(q_1, .inr (6, [.int 0, .int 0, .null, .int 0, .null, .null, .null, .int 0]))]) (wr := []) (w1 := [(qa_4, aI (q 0) 5 (fun _ => (-1))), (qa_5, aR (q 5) 1 (fun _ => none)), (qa_6, aI (q 0) 4 (fun _ => 0)), (qa_7, aI (q 0) 4 (fun _ => 0)), (q_1, .inr (6, [.int (k 0), .int 2, .ref qa_5, .int 0, .ref qa_4, .ref qa_6, .ref qa_7, .int 0]))]) (pl := va_pl z.1 f) (vaP_swap hPn) (vaD_rotR hDn) [0] [] rfl rfl rfl (fun i hi => absurd hi List.not_mem_nil) hk1 hFc hP1 hD1
  generalize H1 = H at hP hS ⊢
  obtain ⟨hnm_8, hP, hD⟩ := pushC hP hD
  obtain ⟨z_9, ez_9⟩ : ∃ y : gS, y = pz z qa_4 (17, 4000 + (u.1 3).toNatClampNeg, []) := ⟨_, rfl⟩
  obtain ⟨f_10, ef_10⟩ : ∃ y : xF, y = va_up f qa_4 (aI (q 0) 5 (fun _ => (-1))) := ⟨_, rfl⟩
  have hE_11 : zE z z_9 := by rw [ez_9]; exact pz_E hnm_8 _
  have hI : xI q h0 d k z_9 f_10 := by rw [ez_9, ef_10]; exact x_push hI hnm_8 (Or.inr (by decide : (15 : Nat) < 17)) (cO_17 (by rw [pz_s]) ⟨_, rfl⟩)
  rw [show z.1 ++ [qa_4] = z_9.1 from by rw [ez_9]; rfl, ← ef_10] at hP hD
  have ht_12 : tg z_9 qa_4 17 := by rw [ez_9]; exact pz_t _ _ _
  have hEz : zE z z_9 := zE_tr (zE_rf z) hE_11
  have hc_13 : nC z_9 f_10 qa_4 17 (4000 + (u.1 3).toNatClampNeg) (aI (q 0) 5 (fun _ => (-1))) := by rw [ez_9, ef_10]; exact nC_new
  have hoK : oK z f f_10 := by rw [ef_10]; exact oK_push (fun _ _ => rfl) (zE_rf z) hnm_8
  have hEo := hEz
  obtain ⟨hnm_14, hP, hD⟩ := pushC hP hD
  obtain ⟨z_15, ez_15⟩ : ∃ y : gS, y = pz z_9 qa_5 (16, q_1, []) := ⟨_, rfl⟩
  obtain ⟨f_16, ef_16⟩ : ∃ y : xF, y = va_up f_10 qa_5 (aR (q 5) 1 (fun _ => none)) := ⟨_, rfl⟩
  have hE_17 : zE z_9 z_15 := by rw [ez_15]; exact pz_E hnm_14 _
  have hI : xI q h0 d k z_15 f_16 := by rw [ez_15, ef_16]; exact x_push hI hnm_14 (Or.inr (by decide : (15 : Nat) < 16)) (cO_16 (by rw [pz_s]) ⟨1, by decide, by decide, _, rfl, fun _ _ b hb => by cases hb⟩)
  rw [show z_9.1 ++ [qa_5] = z_15.1 from by rw [ez_15]; rfl, ← ef_16] at hP hD
  have hpf9 : f_16 qa_5 = aR (q 5) 1 (fun _ => none) := by rw [ef_16]; exact up_s
  have ho9 : (z_15.2 qa_5).2.1 = q_1 := by rw [ez_15, pz_s]
  have ht_12 := zE_tg hE_17 ht_12
  have ht_18 : tg z_15 qa_5 16 := by rw [ez_15]; exact pz_t _ _ _
  have hEz : zE z z_15 := zE_tr hEz hE_17
  have hc_13 : nC z_15 f_16 qa_4 17 (4000 + (u.1 3).toNatClampNeg) (aI (q 0) 5 (fun _ => (-1))) := by rw [ez_15, ef_16]; exact nC_push hc_13 hnm_14
  have hc_19 : nC z_15 f_16 qa_5 16 (q_1) (aR (q 5) 1 (fun _ => none)) := by rw [ez_15, ef_16]; exact nC_new
  have hoK : oK z f f_16 := by rw [ef_16]; exact oK_push hoK hEo hnm_14
  have hEo := hEz
  obtain ⟨hnm_20, hP, hD⟩ := pushC hP hD
  obtain ⟨z_21, ez_21⟩ : ∃ y : gS, y = pz z_15 qa_6 (20, 5000 + (u.1 3).toNatClampNeg, []) := ⟨_, rfl⟩
  obtain ⟨f_22, ef_22⟩ : ∃ y : xF, y = va_up f_16 qa_6 (aI (q 0) 4 (fun _ => 0)) := ⟨_, rfl⟩
  have hE_23 : zE z_15 z_21 := by rw [ez_21]; exact pz_E hnm_20 _
  have hI : xI q h0 d k z_21 f_22 := by rw [ez_21, ef_22]; exact x_push hI hnm_20 (Or.inr (by decide : (15 : Nat) < 20)) (cO_20 (by rw [pz_s]) ⟨_, rfl⟩)
  rw [show z_15.1 ++ [qa_6] = z_21.1 from by rw [ez_21]; rfl, ← ef_22] at hP hD
  have hpf9 : f_22 qa_5 = aR (q 5) 1 (fun _ => none) := by rw [ef_22, up_o (fun e => hnm_20 (by rw [← e]; exact ht_18.1))]; exact hpf9
  have ho9 : (z_21.2 qa_5).2.1 = q_1 := by rw [zE_o hE_23 ht_18.1]; exact ho9
  have ht_12 := zE_tg hE_23 ht_12
  have ht_18 := zE_tg hE_23 ht_18
  have ht_24 : tg z_21 qa_6 20 := by rw [ez_21]; exact pz_t _ _ _
  have hEz : zE z z_21 := zE_tr hEz hE_23
  have hc_13 : nC z_21 f_22 qa_4 17 (4000 + (u.1 3).toNatClampNeg) (aI (q 0) 5 (fun _ => (-1))) := by rw [ez_21, ef_22]; exact nC_push hc_13 hnm_20
  have hc_19 : nC z_21 f_22 qa_5 16 (q_1) (aR (q 5) 1 (fun _ => none)) := by rw [ez_21, ef_22]; exact nC_push hc_19 hnm_20
  have hc_25 : nC z_21 f_22 qa_6 20 (5000 + (u.1 3).toNatClampNeg) (aI (q 0) 4 (fun _ => 0)) := by rw [ez_21, ef_22]; exact nC_new
  have hoK : oK z f f_22 := by rw [ef_22]; exact oK_push hoK hEo hnm_20
  have hEo := hEz
  obtain ⟨hnm_26, hP, hD⟩ := pushC hP hD
  obtain ⟨z_27, ez_27⟩ : ∃ y : gS, y = pz z_21 qa_7 (20, 6000 + (u.1 3).toNatClampNeg, []) := ⟨_, rfl⟩
  obtain ⟨f_28, ef_28⟩ : ∃ y : xF, y = va_up f_22 qa_7 (aI (q 0) 4 (fun _ => 0)) := ⟨_, rfl⟩
  have hE_29 : zE z_21 z_27 := by rw [ez_27]; exact pz_E hnm_26 _
  have hI : xI q h0 d k z_27 f_28 := by rw [ez_27, ef_28]; exact x_push hI hnm_26 (Or.inr (by decide : (15 : Nat) < 20)) (cO_20 (by rw [pz_s]) ⟨_, rfl⟩)
  rw [show z_21.1 ++ [qa_7] = z_27.1 from by rw [ez_27]; rfl, ← ef_28] at hP hD
  have hpf9 : f_28 qa_5 = aR (q 5) 1 (fun _ => none) := by rw [ef_28, up_o (fun e => hnm_26 (by rw [← e]; exact ht_18.1))]; exact hpf9
  have ho9 : (z_27.2 qa_5).2.1 = q_1 := by rw [zE_o hE_29 ht_18.1]; exact ho9
  have ht_12 := zE_tg hE_29 ht_12
  have ht_18 := zE_tg hE_29 ht_18
  have ht_24 := zE_tg hE_29 ht_24
  have ht_30 : tg z_27 qa_7 20 := by rw [ez_27]; exact pz_t _ _ _
  have hEz : zE z z_27 := zE_tr hEz hE_29
  have hc_13 : nC z_27 f_28 qa_4 17 (4000 + (u.1 3).toNatClampNeg) (aI (q 0) 5 (fun _ => (-1))) := by rw [ez_27, ef_28]; exact nC_push hc_13 hnm_26
  have hc_19 : nC z_27 f_28 qa_5 16 (q_1) (aR (q 5) 1 (fun _ => none)) := by rw [ez_27, ef_28]; exact nC_push hc_19 hnm_26
  have hc_25 : nC z_27 f_28 qa_6 20 (5000 + (u.1 3).toNatClampNeg) (aI (q 0) 4 (fun _ => 0)) := by rw [ez_27, ef_28]; exact nC_push hc_25 hnm_26
  have hc_31 : nC z_27 f_28 qa_7 20 (6000 + (u.1 3).toNatClampNeg) (aI (q 0) 4 (fun _ => 0)) := by rw [ez_27, ef_28]; exact nC_new
  have hoK : oK z f f_28 := by rw [ef_28]; exact oK_push hoK hEo hnm_26
  have hEo := hEz
  obtain ⟨hnm_32, hP, hD⟩ := pushC hP hD
  obtain ⟨z_33, ez_33⟩ : ∃ y : gS, y = pz z_27 q_1 (14, 2000 + (u.1 3).toNatClampNeg, []) := ⟨_, rfl⟩
  obtain ⟨f_34, ef_34⟩ : ∃ y : xF, y = va_up f_28 q_1 (.inr (6, [.int (k 0), .int 2, .ref qa_5, .int 0, .ref qa_4, .ref qa_6, .ref qa_7, .int 0])) := ⟨_, rfl⟩
  have hE_35 : zE z_27 z_33 := by rw [ez_33]; exact pz_E hnm_32 _
  have hI : xI q h0 d k z_33 f_34 := by rw [ez_33, ef_34]; exact x_pushIo (n := 1) hI hnm_32 (by decide) ht_18 ho9 ht_12 hpf9 (by decide) ⟨fun x => absurd x (by decide), fun x => absurd x (by decide), fun x => absurd x (by decide), fun x => absurd x (by decide), fun _ => ⟨_, _, _, rfl, zE_tg (pz_E hnm_32 _) ht_24, zE_tg (pz_E hnm_32 _) ht_30, by decide⟩, fun x => absurd x (by decide)⟩
  rw [show z_27.1 ++ [q_1] = z_33.1 from by rw [ez_33]; rfl, ← ef_34] at hP hD
  have hpf9 : f_34 qa_5 = aR (q 5) 1 (fun _ => none) := by rw [ef_34, up_o (fun e => hnm_32 (by rw [← e]; exact ht_18.1))]; exact hpf9
  have ho9 : (z_33.2 qa_5).2.1 = q_1 := by rw [zE_o hE_35 ht_18.1]; exact ho9
  have ht_12 := zE_tg hE_35 ht_12
  have ht_18 := zE_tg hE_35 ht_18
  have ht_24 := zE_tg hE_35 ht_24
  have ht_30 := zE_tg hE_35 ht_30
  have ht_36 : tg z_33 q_1 14 := by rw [ez_33]; exact pz_t _ _ _
  have hEz : zE z z_33 := zE_tr hEz hE_35
  have hc_13 : nC z_33 f_34 qa_4 17 (4000 + (u.1 3).toNatClampNeg) (aI (q 0) 5 (fun _ => (-1))) := by rw [ez_33, ef_34]; exact nC_push hc_13 hnm_32
  have hc_19 : nC z_33 f_34 qa_5 16 (q_1) (aR (q 5) 1 (fun _ => none)) := by rw [ez_33, ef_34]; exact nC_push hc_19 hnm_32
  have hc_25 : nC z_33 f_34 qa_6 20 (5000 + (u.1 3).toNatClampNeg) (aI (q 0) 4 (fun _ => 0)) := by rw [ez_33, ef_34]; exact nC_push hc_25 hnm_32
  have hc_31 : nC z_33 f_34 qa_7 20 (6000 + (u.1 3).toNatClampNeg) (aI (q 0) 4 (fun _ => 0)) := by rw [ez_33, ef_34]; exact nC_push hc_31 hnm_32
  have hc_37 : nC z_33 f_34 q_1 14 (2000 + (u.1 3).toNatClampNeg) (.inr (6, [.int (k 0), .int 2, .ref qa_5, .int 0, .ref qa_4, .ref qa_6, .ref qa_7, .int 0])) := by rw [ez_33, ef_34]; exact nC_new
  have hoK : oK z f f_34 := by rw [ef_34]; exact oK_push hoK hEo hnm_32
  refine W.widen (k := 5) (n := 22) (Nat.le_of_ble_eq_true rfl) (Nat.le_of_ble_eq_true rfl) ?_
  refine W.eq (g2 := F0 m 12 ls [.ref q_1, .ref h0]) rfl ?_
  obtain ⟨kk_38, hk_39⟩ := pl_at hI.2.1.1.1 hI.2.2.2.1.1
  have hFc := fr_all hD hS hA
  refine va_calli (va_runV (As := [.ref q_1]) (rest := []) ⟨hx, hb, hml, hown, hts⟩ (y_enter l dC dI q h0 d k z_33 f_34 hI q_1 (tg_itm ht_36 (by decide)) (k 0) 2 0 qa_5 qa_4 [.ref qa_6, .ref qa_7, .int 0] (by rw [hc_37.2.2, hc_37.1.2]; rfl) H.size) (cwV 1 hts gX11_picture_X11_enter rfl rfl rfl (by decide +kernel) ⟨Nat.le_of_ble_eq_true rfl, Nat.le_of_ble_eq_true rfl⟩) ⟨gx_fb, va_recv hK hP (ci := 10) (q0 := kk_38) rfl hk_39, fun U hU hW => ⟨rfl, by rw [hU], px_to hU hW hP hK hN hXN, hD.weaken (fun _ _ _ _ => trivial)⟩⟩ rfl rfl hl.1 rfl (lv_room (Nat.le_of_ble_eq_true rfl)) dX11_picture_12 ⟨Nat.le_of_ble_eq_true rfl, Nat.le_of_ble_eq_true rfl⟩) hS (fun q _ h => hFc q h) hFc (fun r w_40 t H1 locs ht hvm hw hB hz1 hk1 hS => ?_)
  obtain ⟨hP, hD1⟩ := hB
  rw [ht] at hP
  rw [hw.1] at hP hD1
  have hD := hD1.weaken (fun _ q _ h => hFc q.1 h)
  have hI := hw.2.1
  have hw0 := hw
  generalize w_40.1 = k_42 at hI hw0
  generalize w_40.2.2 = f_41 at hP hD hI hw0
  generalize H1 = H at hP hS ⊢
  exact W.iret (v := r) hx hb hr (fun t ht hW => ⟨⟨r, (k_42, z_33, f_41), rfl, (mk_Picture hIo hrp hk0 hz0 hnw hI hEz hoK hw0.2.2 hc_37 hc_19 hc_13 hc_25 hc_31), by rw [ht]; exact hP, hD⟩, hS.F ht⟩) hS.2.2 dX11_picture_15
set_option maxHeartbeats 4000000 in
set_option maxRecDepth 100000 in
theorem y_filler (l : Launch) (dC : Nat → ClassId) (dI : Nat → Nat → Nat) (q : Nat → ClassId) (h0 : Nat) (d : Nat → Nat) (k : Nat → Int32) (z : gS) (f : xF) (hI : xI q h0 d k z f) (p0 p1 : Int32) (u : mS) (hrp : rep q d u z f) (hk0 : k 0 = u.1 3) (hk1 : k 1 = u.1 28) (hk2 : k 2 = u.1 38) (hk3 : k 3 = u.1 39) (hz0 : (z.2 h0).2.1 = 0) (hnw : nwI u) (sz : Nat) : Met l yX11_filler wsX11_filler ({ frames := 3, cells := 3, slots := 13, locals := 69 }) (va_Pc [.ref h0, .int p0, .int p1] (fun U => U.heap.size = sz ∧ PX dC dI (va_pl z.1 f) (xT q) U ∧ va_D (fun _ => True) (va_pl z.1 f))) (va_Qi (fun (r : Int32) (w : xU) => mkP q h0 d k z f u (mFiller u p0 p1) r w) (fun (w : xU) t => va_P (dC, dI) vwCl (va_pl w.2.1.1 w.2.2) t.heap ∧ va_D (va_A (va_pl z.1 f) sz) (va_pl w.2.1.1 w.2.2)) (va_A (va_pl z.1 f) sz)) 3 13 (va_A (va_pl z.1 f) sz) := by
  refine Met.ofW (cc := cX11_filler) (maxL := 3) (ret := (some .int)) (by decide) rfl ?_
  intro p e s m args below meth c s₁ B hml hv
  obtain ⟨rfl, hsz, ⟨⟨hP, hK, hN⟩, hXN⟩, hD0⟩ := hv
  have hx := B.exec
  have hb := B.bytes
  have hr := B.returns
  have hts := atoms_spec (ws := wsX11_filler) B.pre
  have hown : s.vm.findClass RX11 = some m.cls := findClass_of_methodNamed B.named
  have hlocks := B.notSynchronized
  subst hsz
  have hD := hD0.self (sz := s.heap.size)
  generalize hAe : va_A (va_pl z.1 f) s.heap.size = A at hD ⊢
  have hA : ∀ q : Nat, s.heap.size ≤ q → A q := fun q h => by rw [← hAe]; exact Or.inr h
  have hS : va_S A s.heap s.heap [] := va_S.rf
  have hl := lv_entry ([.ref h0, .int p0, .int p1]) (n := 3) (Nat.le_of_ble_eq_true rfl)
  rw [lg_entry_eq]
  generalize (lg_sl ([.ref h0, .int p0, .int p1]) ++ List.replicate (3 - (lg_sl ([.ref h0, .int p0, .int p1])).length) Slot.unset).toArray = ls at hl ⊢
  have hl : lv_has ls 3 [(0, .ref h0), (1, .int p0), (2, .int p1)] := hl
  have hIo := hI
  refine lv_iload_n hx hb dX11_filler_0 rfl (lv_at hl 2 rfl) ?_
  refine lv_iconst (v := 1) hx hb dX11_filler_1 (by decide) ?_
  refine lv_bipush (v := 60) hx hb dX11_filler_2 (by decide) ?_
  refine vp_callSi (va_runS (As := [.int p1, .int 1, .int 60]) (rest := []) ⟨hx, hb, hml, hown, hts⟩ (x_isWithin l dC dI p1 1 60) (va_cwS 3 hts gX11_filler_X11_isWithin rfl rfl rfl (by decide +kernel) ⟨Nat.le_of_ble_eq_true rfl, Nat.le_of_ble_eq_true rfl⟩) ⟨pw_fb, fun U hU hW => ⟨rfl, pw_to hU hW (hP.sub (ws' := []) [] rfl) (hK.sub (tys' := []) [] rfl) hN⟩⟩ rfl rfl hl.1 rfl (lv_room (Nat.le_of_ble_eq_true rfl)) dX11_filler_4 ⟨Nat.le_of_ble_eq_true rfl, Nat.le_of_ble_eq_true rfl⟩).run (fun r hw => ?_)
  rcases Bool.eq_false_or_eq_true (bw p1 1 60) with b_1 | b_1
  ·
    obtain rfl : r = 1 := b_t hw b_1
    refine lv_if_eq (tgt := 19) hx hb dX11_filler_7 (by decide) (fun c_2 => absurd c_2 (by decide)) (fun c_2 => ?_)
    refine lv_iload_n hx hb dX11_filler_10 rfl (lv_at hl 1 rfl) ?_
    refine lv_iconst (v := 1) hx hb dX11_filler_11 (by decide) ?_
    refine lv_iload_n hx hb dX11_filler_12 rfl (lv_at hl 2 rfl) ?_
    refine vp_callSi (va_runS (As := [.int p0, .int 1, .int p1]) (rest := []) ⟨hx, hb, hml, hown, hts⟩ (x_isWithin l dC dI p0 1 p1) (va_cwS 3 hts gX11_filler_X11_isWithin rfl rfl rfl (by decide +kernel) ⟨Nat.le_of_ble_eq_true rfl, Nat.le_of_ble_eq_true rfl⟩) ⟨pw_fb, fun U hU hW => ⟨rfl, pw_to hU hW (hP.sub (ws' := []) [] rfl) (hK.sub (tys' := []) [] rfl) hN⟩⟩ rfl rfl hl.1 rfl (lv_room (Nat.le_of_ble_eq_true rfl)) dX11_filler_13 ⟨Nat.le_of_ble_eq_true rfl, Nat.le_of_ble_eq_true rfl⟩).run (fun r hw => ?_)
    rcases Bool.eq_false_or_eq_true (bw p0 1 p1) with b_3 | b_3
    ·
      obtain rfl : r = 1 := b_t hw b_3
      refine lv_if_ne (tgt := 21) hx hb dX11_filler_16 (by decide) (fun c_4 => ?_) (fun c_4 => absurd c_4 (by decide))
      refine lv_aload_n hx hb dX11_filler_21 rfl (lv_at hl 0 rfl) ?_
      refine va_new (ci := 2) (fs := [.int 0, .int 0, .null, .int 0, .null, .int 0, .int 0]) (C := RX2) (T := TX2) (N := 7) hx hb hts (by decide +kernel) tyX2 tyX2_ok hown (hts (.classLink RX11 114 RX2) (by decide +kernel)) (hts (.instantiable RX2 7) (by decide +kernel)) (hts (.initialized RX2) (by decide +kernel)) hK hP hD hS hA rfl nwX2 (Nat.le_of_ble_eq_true rfl) (Nat.le_of_ble_eq_true rfl) dX11_filler_22 (fun q_5 H hPn hDn hS => ?_)
      have hP := vaP_l hPn
      refine W.widen (k := 1) (n := 7) (Nat.le_of_ble_eq_true rfl) (Nat.le_of_ble_eq_true rfl) ?_
      refine lv_dup hx hb dX11_filler_25 rfl ?_
      refine lv_aload_n hx hb dX11_filler_26 rfl (lv_at hl 0 rfl) ?_
      obtain ⟨kk_6, hk_7⟩ := pl_at hI.2.1.1.1 hI.2.2.2.1.1
      refine va_get (D := (dC, dI)) (ci := 10) (v := .int (k 0)) (C := RX11) (T := TX11) (N := 9) hx hb hts (by decide +kernel) hown hK hP kk_6 hk_7 rfl 3 (by decide) (hts (.fieldLink RX11 24 "PageOne" "itemCount" "I") (by decide +kernel)) (fun _ h9 => h9) rfl dX11_filler_27 ?_
      refine lv_iload_n hx hb dX11_filler_30 rfl (lv_at hl 1 rfl) ?_
      refine lv_iload_n hx hb dX11_filler_31 rfl (lv_at hl 2 rfl) ?_
      have hPc := vaP_r hPn
      have hDc := vaD_r hDn
      have hFc := fr_part hDn hS hA
      refine va_callv (va_runI (As := [.int (k 0), .int p0, .int p1]) (rest := [.ref q_5, .ref h0]) ⟨hx, hb, hml, hown, hts⟩ (xn_Filler l dC dI q_5 (q 0) (q 5) (k 0) p0 p1 H.size) (cwI 3 hts gX11_filler_X2_init rfl rfl rfl (hts (.initialized RX2) (by decide +kernel)) (hts (.methodLink RX11 116 yX2_init) (by decide +kernel)) (hts (.instanceMethod yX2_init) (by decide +kernel)) rfl (by decide +kernel) ⟨Nat.le_of_ble_eq_true rfl, Nat.le_of_ble_eq_true rfl⟩) ⟨gw_fb, fun U hU hW => ⟨rfl, by rw [hU], pw_to hU hW hPc (hK.sub (tys' := [(q 0, .int), (q 5, .object "PageOne$Piece")]) [0, 5] rfl) hN, hDc.weaken (fun _ _ _ _ => trivial)⟩⟩ rfl rfl hl.1 rfl (lv_room (Nat.le_of_ble_eq_true rfl)) dX11_filler_32 ⟨Nat.le_of_ble_eq_true rfl, Nat.le_of_ble_eq_true rfl⟩) hS (fun q _ h => hFc q h) hFc (fun u9 t H1 locs ht hvm hw hB hz1 hk1 hS => ?_)
      obtain ⟨qa_8, qa_9, hP1, hD1⟩ := hB
      rw [ht] at hP1
      obtain ⟨hP, hD⟩ := va_joinQ (X := [(q_5, .inr (2, [.int 0, .int 0, .null, .int 0, .null, .int 0, .int 0]))]) (cx := [(q_5, .inr (2, [.int 0, .int 0, .null, .int 0, .null, .int 0, .int 0]))]) (wr := []) (w1 := [(qa_8, aI (q 0) 5 (fun _ => (-1))), (qa_9, aR (q 5) 1 (fun _ => none)), (q_5, .inr (2, [.int (k 0), .int 4, .ref qa_9, .int 0, .ref qa_8, .int p0, .int p1]))]) (pl := va_pl z.1 f) (vaP_swap hPn) (vaD_rotR hDn) [0] [] rfl rfl rfl (fun i hi => absurd hi List.not_mem_nil) hk1 hFc hP1 hD1
      generalize H1 = H at hP hS ⊢
      obtain ⟨hnm_10, hP, hD⟩ := pushC hP hD
      obtain ⟨z_11, ez_11⟩ : ∃ y : gS, y = pz z qa_8 (17, 4000 + (u.1 3).toNatClampNeg, []) := ⟨_, rfl⟩
      obtain ⟨f_12, ef_12⟩ : ∃ y : xF, y = va_up f qa_8 (aI (q 0) 5 (fun _ => (-1))) := ⟨_, rfl⟩
      have hE_13 : zE z z_11 := by rw [ez_11]; exact pz_E hnm_10 _
      have hI : xI q h0 d k z_11 f_12 := by rw [ez_11, ef_12]; exact x_push hI hnm_10 (Or.inr (by decide : (15 : Nat) < 17)) (cO_17 (by rw [pz_s]) ⟨_, rfl⟩)
      rw [show z.1 ++ [qa_8] = z_11.1 from by rw [ez_11]; rfl, ← ef_12] at hP hD
      have ht_14 : tg z_11 qa_8 17 := by rw [ez_11]; exact pz_t _ _ _
      have hEz : zE z z_11 := zE_tr (zE_rf z) hE_13
      have hc_15 : nC z_11 f_12 qa_8 17 (4000 + (u.1 3).toNatClampNeg) (aI (q 0) 5 (fun _ => (-1))) := by rw [ez_11, ef_12]; exact nC_new
      have hoK : oK z f f_12 := by rw [ef_12]; exact oK_push (fun _ _ => rfl) (zE_rf z) hnm_10
      have hEo := hEz
      obtain ⟨hnm_16, hP, hD⟩ := pushC hP hD
      obtain ⟨z_17, ez_17⟩ : ∃ y : gS, y = pz z_11 qa_9 (16, q_5, []) := ⟨_, rfl⟩
      obtain ⟨f_18, ef_18⟩ : ∃ y : xF, y = va_up f_12 qa_9 (aR (q 5) 1 (fun _ => none)) := ⟨_, rfl⟩
      have hE_19 : zE z_11 z_17 := by rw [ez_17]; exact pz_E hnm_16 _
      have hI : xI q h0 d k z_17 f_18 := by rw [ez_17, ef_18]; exact x_push hI hnm_16 (Or.inr (by decide : (15 : Nat) < 16)) (cO_16 (by rw [pz_s]) ⟨1, by decide, by decide, _, rfl, fun _ _ b hb => by cases hb⟩)
      rw [show z_11.1 ++ [qa_9] = z_17.1 from by rw [ez_17]; rfl, ← ef_18] at hP hD
      have hpf9 : f_18 qa_9 = aR (q 5) 1 (fun _ => none) := by rw [ef_18]; exact up_s
      have ho9 : (z_17.2 qa_9).2.1 = q_5 := by rw [ez_17, pz_s]
      have ht_14 := zE_tg hE_19 ht_14
      have ht_20 : tg z_17 qa_9 16 := by rw [ez_17]; exact pz_t _ _ _
      have hEz : zE z z_17 := zE_tr hEz hE_19
      have hc_15 : nC z_17 f_18 qa_8 17 (4000 + (u.1 3).toNatClampNeg) (aI (q 0) 5 (fun _ => (-1))) := by rw [ez_17, ef_18]; exact nC_push hc_15 hnm_16
      have hc_21 : nC z_17 f_18 qa_9 16 (q_5) (aR (q 5) 1 (fun _ => none)) := by rw [ez_17, ef_18]; exact nC_new
      have hoK : oK z f f_18 := by rw [ef_18]; exact oK_push hoK hEo hnm_16
      have hEo := hEz
      obtain ⟨hnm_22, hP, hD⟩ := pushC hP hD
      obtain ⟨z_23, ez_23⟩ : ∃ y : gS, y = pz z_17 q_5 (10, 2000 + (u.1 3).toNatClampNeg, []) := ⟨_, rfl⟩
      obtain ⟨f_24, ef_24⟩ : ∃ y : xF, y = va_up f_18 q_5 (.inr (2, [.int (k 0), .int 4, .ref qa_9, .int 0, .ref qa_8, .int p0, .int p1])) := ⟨_, rfl⟩
      have hE_25 : zE z_17 z_23 := by rw [ez_23]; exact pz_E hnm_22 _
      have hI : xI q h0 d k z_23 f_24 := by rw [ez_23, ef_24]; exact x_pushIo (n := 1) hI hnm_22 (by decide) ht_20 ho9 ht_14 hpf9 (by decide) ⟨fun _ => ⟨_, _, rfl⟩, fun x => absurd x (by decide), fun x => absurd x (by decide), fun x => absurd x (by decide), fun x => absurd x (by decide), fun x => absurd x (by decide)⟩
      rw [show z_17.1 ++ [q_5] = z_23.1 from by rw [ez_23]; rfl, ← ef_24] at hP hD
      have hpf9 : f_24 qa_9 = aR (q 5) 1 (fun _ => none) := by rw [ef_24, up_o (fun e => hnm_22 (by rw [← e]; exact ht_20.1))]; exact hpf9
      have ho9 : (z_23.2 qa_9).2.1 = q_5 := by rw [zE_o hE_25 ht_20.1]; exact ho9
      have ht_14 := zE_tg hE_25 ht_14
      have ht_20 := zE_tg hE_25 ht_20
      have ht_26 : tg z_23 q_5 10 := by rw [ez_23]; exact pz_t _ _ _
      have hEz : zE z z_23 := zE_tr hEz hE_25
      have hc_15 : nC z_23 f_24 qa_8 17 (4000 + (u.1 3).toNatClampNeg) (aI (q 0) 5 (fun _ => (-1))) := by rw [ez_23, ef_24]; exact nC_push hc_15 hnm_22
      have hc_21 : nC z_23 f_24 qa_9 16 (q_5) (aR (q 5) 1 (fun _ => none)) := by rw [ez_23, ef_24]; exact nC_push hc_21 hnm_22
      have hc_27 : nC z_23 f_24 q_5 10 (2000 + (u.1 3).toNatClampNeg) (.inr (2, [.int (k 0), .int 4, .ref qa_9, .int 0, .ref qa_8, .int p0, .int p1])) := by rw [ez_23, ef_24]; exact nC_new
      have hoK : oK z f f_24 := by rw [ef_24]; exact oK_push hoK hEo hnm_22
      refine W.widen (k := 3) (n := 13) (Nat.le_of_ble_eq_true rfl) (Nat.le_of_ble_eq_true rfl) ?_
      refine W.eq (g2 := F0 m 35 ls [.ref q_5, .ref h0]) rfl ?_
      obtain ⟨kk_28, hk_29⟩ := pl_at hI.2.1.1.1 hI.2.2.2.1.1
      have hFc := fr_all hD hS hA
      refine va_calli (va_runV (As := [.ref q_5]) (rest := []) ⟨hx, hb, hml, hown, hts⟩ (y_enter l dC dI q h0 d k z_23 f_24 hI q_5 (tg_itm ht_26 (by decide)) (k 0) 4 0 qa_9 qa_8 [.int p0, .int p1] (by rw [hc_27.2.2, hc_27.1.2]; rfl) H.size) (cwV 1 hts gX11_filler_X11_enter rfl rfl rfl (by decide +kernel) ⟨Nat.le_of_ble_eq_true rfl, Nat.le_of_ble_eq_true rfl⟩) ⟨gx_fb, va_recv hK hP (ci := 10) (q0 := kk_28) rfl hk_29, fun U hU hW => ⟨rfl, by rw [hU], px_to hU hW hP hK hN hXN, hD.weaken (fun _ _ _ _ => trivial)⟩⟩ rfl rfl hl.1 rfl (lv_room (Nat.le_of_ble_eq_true rfl)) dX11_filler_35 ⟨Nat.le_of_ble_eq_true rfl, Nat.le_of_ble_eq_true rfl⟩) hS (fun q _ h => hFc q h) hFc (fun r w_30 t H1 locs ht hvm hw hB hz1 hk1 hS => ?_)
      obtain ⟨hP, hD1⟩ := hB
      rw [ht] at hP
      rw [hw.1] at hP hD1
      have hD := hD1.weaken (fun _ q _ h => hFc q.1 h)
      have hI := hw.2.1
      have hw0 := hw
      generalize w_30.1 = k_32 at hI hw0
      generalize w_30.2.2 = f_31 at hP hD hI hw0
      generalize H1 = H at hP hS ⊢
      exact W.iret (v := r) hx hb hr (fun t ht hW => ⟨⟨r, (k_32, z_23, f_31), rfl, (mk_Filler (a5 := 0) (a6 := 0) hIo hrp hk0 hz0 hnw hI hEz hoK hw0.2.2 hc_27 hc_21 hc_15 (fl_y b_1 b_3).1 (fl_y b_1 b_3).2), by rw [ht]; exact hP, hD⟩, hS.F ht⟩) hS.2.2 dX11_filler_38
    ·
      obtain rfl : r = 0 := b_f hw b_3
      refine lv_if_ne (tgt := 21) hx hb dX11_filler_16 (by decide) (fun c_33 => absurd (by decide) c_33) (fun c_33 => ?_)
      refine lv_iconst (v := (-1)) hx hb dX11_filler_19 (by decide) ?_
      refine W.widen (k := 3) (n := 13) (Nat.le_of_ble_eq_true rfl) (Nat.le_of_ble_eq_true rfl) ?_
      exact W.iret (v := (-1)) hx hb hr (fun t ht hW => ⟨⟨(-1), (k, z, f), rfl, (mkP_0 hI hrp hk0 (fl_n (fun h9 => bne b_3 h9.2))), by rw [ht]; exact hP, hD⟩, hS.F ht⟩) hS.2.2 dX11_filler_20
  ·
    obtain rfl : r = 0 := b_f hw b_1
    refine lv_if_eq (tgt := 19) hx hb dX11_filler_7 (by decide) (fun c_34 => ?_) (fun c_34 => absurd (by decide) c_34)
    refine lv_iconst (v := (-1)) hx hb dX11_filler_19 (by decide) ?_
    refine W.widen (k := 3) (n := 13) (Nat.le_of_ble_eq_true rfl) (Nat.le_of_ble_eq_true rfl) ?_
    exact W.iret (v := (-1)) hx hb hr (fun t ht hW => ⟨⟨(-1), (k, z, f), rfl, (mkP_0 hI hrp hk0 (fl_n (fun h9 => bne b_1 h9.1))), by rw [ht]; exact hP, hD⟩, hS.F ht⟩) hS.2.2 dX11_filler_20
set_option maxHeartbeats 4000000 in
set_option maxRecDepth 100000 in
theorem y_head (l : Launch) (dC : Nat → ClassId) (dI : Nat → Nat → Nat) (q : Nat → ClassId) (h0 : Nat) (d : Nat → Nat) (k : Nat → Int32) (z : gS) (f : xF) (hI : xI q h0 d k z f) (p0 p1 p2 : Int32) (u : mS) (hrp : rep q d u z f) (hk0 : k 0 = u.1 3) (hk1 : k 1 = u.1 28) (hk2 : k 2 = u.1 38) (hk3 : k 3 = u.1 39) (hz0 : (z.2 h0).2.1 = 0) (hnw : nwI u) (sz : Nat) : Met l yX11_head wsX11_head ({ frames := 3, cells := 3, slots := 14, locals := 70 }) (va_Pc [.ref h0, .int p0, .int p1, .int p2] (fun U => U.heap.size = sz ∧ PX dC dI (va_pl z.1 f) (xT q) U ∧ va_D (fun _ => True) (va_pl z.1 f))) (va_Qi (fun (r : Int32) (w : xU) => mkP q h0 d k z f u (mHead u p0 p1 p2) r w) (fun (w : xU) t => va_P (dC, dI) vwCl (va_pl w.2.1.1 w.2.2) t.heap ∧ va_D (va_A (va_pl z.1 f) sz) (va_pl w.2.1.1 w.2.2)) (va_A (va_pl z.1 f) sz)) 3 14 (va_A (va_pl z.1 f) sz) := by
  refine Met.ofW (cc := cX11_head) (maxL := 6) (ret := (some .int)) (by decide) rfl ?_
  intro p e s m args below meth c s₁ B hml hv
  obtain ⟨rfl, hsz, ⟨⟨hP, hK, hN⟩, hXN⟩, hD0⟩ := hv
  have hx := B.exec
  have hb := B.bytes
  have hr := B.returns
  have hts := atoms_spec (ws := wsX11_head) B.pre
  have hown : s.vm.findClass RX11 = some m.cls := findClass_of_methodNamed B.named
  have hlocks := B.notSynchronized
  subst hsz
  have hD := hD0.self (sz := s.heap.size)
  generalize hAe : va_A (va_pl z.1 f) s.heap.size = A at hD ⊢
  have hA : ∀ q : Nat, s.heap.size ≤ q → A q := fun q h => by rw [← hAe]; exact Or.inr h
  have hS : va_S A s.heap s.heap [] := va_S.rf
  have hl := lv_entry ([.ref h0, .int p0, .int p1, .int p2]) (n := 6) (Nat.le_of_ble_eq_true rfl)
  rw [lg_entry_eq]
  generalize (lg_sl ([.ref h0, .int p0, .int p1, .int p2]) ++ List.replicate (6 - (lg_sl ([.ref h0, .int p0, .int p1, .int p2])).length) Slot.unset).toArray = ls at hl ⊢
  have hl : lv_has ls 6 [(0, .ref h0), (1, .int p0), (2, .int p1), (3, .int p2)] := hl
  have hIo := hI
  refine lv_aload_n hx hb dX11_head_0 rfl (lv_at hl 0 rfl) ?_
  refine lv_iload_n hx hb dX11_head_1 rfl (lv_at hl 1 rfl) ?_
  obtain ⟨kk_1, hk_2⟩ := pl_at hI.2.1.1.1 hI.2.2.2.1.1
  refine va_csq (va_runV (As := [.int p0]) (rest := []) ⟨hx, hb, hml, hown, hts⟩ (y_itemOf l dC dI q h0 d k z f hI p0 u hrp hk0 hk1 hk2 hk3) (cwV 1 hts gX11_head_X11_itemOf rfl rfl rfl (by decide +kernel) ⟨Nat.le_of_ble_eq_true rfl, Nat.le_of_ble_eq_true rfl⟩) ⟨px_fb, va_recv hK hP (ci := 10) (q0 := kk_1) rfl hk_2, fun U hU hW => ⟨rfl, px_to hU hW hP hK hN hXN⟩⟩ rfl rfl hl.1 rfl (lv_room (Nat.le_of_ble_eq_true rfl)) dX11_head_2 ⟨Nat.le_of_ble_eq_true rfl, Nat.le_of_ble_eq_true rfl⟩).run (fun r hw => ?_)
  rcases hw with ⟨hr9, hn9⟩ | ⟨i_3, hi_4, ep_5, hr9⟩
  ·
    subst hr9
    have hno_25 := hn9
    refine W.eq (g2 := F0 m 5 ls [.null]) rfl ?_
    refine lv_astoreN (lv' := [(5, .null), (0, .ref h0), (1, .int p0), (2, .int p1), (3, .int p2)]) hx hb dX11_head_5 hl (by decide) rfl (fun ls hl => ?_)
    refine lv_aloadN hx hb dX11_head_7 (lv_at hl 0 rfl) ?_
    refine lv_instN hx hb dX11_head_9 ?_
    refine lv_if_eq (tgt := 42) hx hb dX11_head_12 (by decide) (fun c_26 => ?_) (fun c_26 => absurd (by decide) c_26)
    refine lv_iconst (v := (-1)) hx hb dX11_head_42 (by decide) ?_
    refine W.widen (k := 3) (n := 14) (Nat.le_of_ble_eq_true rfl) (Nat.le_of_ble_eq_true rfl) ?_
    exact W.iret (v := (-1)) hx hb hr (fun t ht hW => ⟨⟨(-1), (k, z, f), rfl, (mkP_0 hI hrp hk0 (hd_n (mK_no hno_25))), by rw [ht]; exact hP, hD⟩, hS.F ht⟩) hS.2.2 dX11_head_43
  ·
    subst hr9
    obtain ⟨rs_6, n_7, g_8, fg_9, hit_10, hs_11, hpa_12, hps_13, h1_14, h6_15, hcb_16, hpl_17, hlg_18, hnn_19, hfa_20, hfs_21, hfe_22, hrs_23, hkt_24⟩ := it_all hI hrp.2.2.1 hi_4
    refine W.eq (g2 := F0 m 5 ls [.ref (d (2000 + i_3))]) rfl ?_
    refine lv_astore (lv' := [(5, .ref (d (2000 + i_3))), (0, .ref h0), (1, .int p0), (2, .int p1), (3, .int p2)]) hx hb dX11_head_5 hl (by decide) rfl (fun ls hl => ?_)
    refine lv_aload hx hb dX11_head_7 (lv_at hl 0 rfl) ?_
    rcases Classical.em (tg z (d (2000 + i_3)) 15) with ht9 | ht9
    ·
      have ht_27 := ht9
      have hkd_29 : u.2 4 i_3 = 0 := (kT_k (kd_05 hrp.2.2.1 hi_4).1 (kd_05 hrp.2.2.1 hi_4).2).1 (hkt_24.symm.trans ht_27.2)
      obtain ⟨hx_30, hx_31, hx_32, ⟨hx_33, hx_34, hx_35⟩, hx_36, hx_37, hx_38⟩ := hrs_23.1 hkd_29
      have hs_39 : f (d (2000 + i_3)) = .inr (9, [.int (nI i_3), .int (u.2 4 i_3), .ref (d (3000 + i_3)), .int (u.2 22 i_3), .ref (d (4000 + i_3)), .int (u.2 5 i_3), .ref (d (5000 + i_3)), .int (u.2 15 i_3), .ref (d (6000 + i_3))]) := by rw [hs_11, ht_27.2, hx_30]; rfl
      obtain ⟨kk_50, hk_51⟩ := pl_at ht_27.1 hs_39
      refine va_instS hx hb hown (hts (.classLink RX11 66 "PageOne$Story") (by decide +kernel)) (hK.1 9 (RX10, TX10, 9) rfl).2 (va_recv hK hP (ci := 9) (q0 := kk_50) rfl hk_51) dX11_head_9 ?_
      refine lv_if_eq (tgt := 42) hx hb dX11_head_12 (by decide) (fun c_52 => absurd c_52 (by decide)) (fun c_52 => ?_)
      refine lv_aload hx hb dX11_head_15 (lv_at hl 0 rfl) ?_
      obtain ⟨kk_53, hk_54⟩ := pl_at ht_27.1 hs_39
      refine va_castS hx hb hown (hts (.classLink RX11 66 "PageOne$Story") (by decide +kernel)) (hK.1 9 (RX10, TX10, 9) rfl).2 (va_recv hK hP (ci := 9) (q0 := kk_53) rfl hk_54) dX11_head_17 ?_
      refine lv_astore (lv' := [(4, .ref (d (2000 + i_3))), (5, .ref (d (2000 + i_3))), (0, .ref h0), (1, .int p0), (2, .int p1), (3, .int p2)]) hx hb dX11_head_20 hl (by decide) rfl (fun ls hl => ?_)
      refine lv_iload_n hx hb dX11_head_22 rfl (lv_at hl 4 rfl) ?_
      refine lv_iconst (v := 1) hx hb dX11_head_23 (by decide) ?_
      refine lv_bipush (v := 8) hx hb dX11_head_24 (by decide) ?_
      refine vp_callSi (va_runS (As := [.int p1, .int 1, .int 8]) (rest := []) ⟨hx, hb, hml, hown, hts⟩ (x_isWithin l dC dI p1 1 8) (va_cwS 3 hts gX11_head_X11_isWithin rfl rfl rfl (by decide +kernel) ⟨Nat.le_of_ble_eq_true rfl, Nat.le_of_ble_eq_true rfl⟩) ⟨pw_fb, fun U hU hW => ⟨rfl, pw_to hU hW (hP.sub (ws' := []) [] rfl) (hK.sub (tys' := []) [] rfl) hN⟩⟩ rfl rfl hl.1 rfl (lv_room (Nat.le_of_ble_eq_true rfl)) dX11_head_26 ⟨Nat.le_of_ble_eq_true rfl, Nat.le_of_ble_eq_true rfl⟩).run (fun r hw => ?_)
      rcases Bool.eq_false_or_eq_true (bw p1 1 8) with b_55 | b_55
      ·
        obtain rfl : r = 1 := b_t hw b_55
        refine lv_if_eq (tgt := 42) hx hb dX11_head_29 (by decide) (fun c_56 => absurd c_56 (by decide)) (fun c_56 => ?_)
        refine lv_iload_n hx hb dX11_head_32 rfl (lv_at hl 5 rfl) ?_
        refine lv_iconst (v := 1) hx hb dX11_head_33 (by decide) ?_
        refine lv_bipush (v := 9) hx hb dX11_head_34 (by decide) ?_
        refine vp_callSi (va_runS (As := [.int p2, .int 1, .int 9]) (rest := []) ⟨hx, hb, hml, hown, hts⟩ (x_isWithin l dC dI p2 1 9) (va_cwS 3 hts gX11_head_X11_isWithin rfl rfl rfl (by decide +kernel) ⟨Nat.le_of_ble_eq_true rfl, Nat.le_of_ble_eq_true rfl⟩) ⟨pw_fb, fun U hU hW => ⟨rfl, pw_to hU hW (hP.sub (ws' := []) [] rfl) (hK.sub (tys' := []) [] rfl) hN⟩⟩ rfl rfl hl.1 rfl (lv_room (Nat.le_of_ble_eq_true rfl)) dX11_head_36 ⟨Nat.le_of_ble_eq_true rfl, Nat.le_of_ble_eq_true rfl⟩).run (fun r hw => ?_)
        rcases Bool.eq_false_or_eq_true (bw p2 1 9) with b_57 | b_57
        ·
          obtain rfl : r = 1 := b_t hw b_57
          refine lv_if_ne (tgt := 44) hx hb dX11_head_39 (by decide) (fun c_58 => ?_) (fun c_58 => absurd c_58 (by decide))
          refine lv_aload_n hx hb dX11_head_44 rfl (lv_at hl 2 rfl) ?_
          refine va_new (ci := 3) (fs := [.int 0, .int 0, .null, .int 0, .null, .null, .int 0, .int 0]) (C := RX3) (T := TX3) (N := 8) hx hb hts (by decide +kernel) tyX3 tyX3_ok hown (hts (.classLink RX11 83 RX3) (by decide +kernel)) (hts (.instantiable RX3 8) (by decide +kernel)) (hts (.initialized RX3) (by decide +kernel)) hK hP hD hS hA rfl nwX3 (Nat.le_of_ble_eq_true rfl) (Nat.le_of_ble_eq_true rfl) dX11_head_45 (fun q_59 H hPn hDn hS => ?_)
          have hP := vaP_l hPn
          refine W.widen (k := 1) (n := 8) (Nat.le_of_ble_eq_true rfl) (Nat.le_of_ble_eq_true rfl) ?_
          refine lv_dup hx hb dX11_head_48 rfl ?_
          refine lv_aload_n hx hb dX11_head_49 rfl (lv_at hl 2 rfl) ?_
          obtain ⟨kk_60, hk_61⟩ := pl_at hI.2.1.1.1 hI.2.2.2.1.1
          refine va_get (D := (dC, dI)) (ci := 10) (v := .int (k 0)) (C := RX11) (T := TX11) (N := 9) hx hb hts (by decide +kernel) hown hK hP kk_60 hk_61 rfl 3 (by decide) (hts (.fieldLink RX11 24 "PageOne" "itemCount" "I") (by decide +kernel)) (fun _ h9 => h9) rfl dX11_head_50 ?_
          refine lv_aload hx hb dX11_head_53 (lv_at hl 0 rfl) ?_
          refine lv_iload_n hx hb dX11_head_55 rfl (lv_at hl 4 rfl) ?_
          refine lv_iload_n hx hb dX11_head_56 rfl (lv_at hl 5 rfl) ?_
          have hPc := vaP_r hPn
          have hDc := vaD_r hDn
          have hFc := fr_part hDn hS hA
          refine va_callv (va_runI (As := [.int (k 0), .ref (d (2000 + i_3)), .int p1, .int p2]) (rest := [.ref q_59, .ref h0]) ⟨hx, hb, hml, hown, hts⟩ (xn_Head l dC dI q_59 (d (2000 + i_3)) (q 0) (q 5) (k 0) p1 p2 H.size) (cwI 4 hts gX11_head_X3_init rfl rfl rfl (hts (.initialized RX3) (by decide +kernel)) (hts (.methodLink RX11 85 yX3_init) (by decide +kernel)) (hts (.instanceMethod yX3_init) (by decide +kernel)) rfl (by decide +kernel) ⟨Nat.le_of_ble_eq_true rfl, Nat.le_of_ble_eq_true rfl⟩) ⟨gw_fb, fun U hU hW => ⟨rfl, by rw [hU], pw_to hU hW hPc (hK.sub (tys' := [(q 0, .int), (q 5, .object "PageOne$Piece")]) [0, 5] rfl) hN, hDc.weaken (fun _ _ _ _ => trivial)⟩⟩ rfl rfl hl.1 rfl (lv_room (Nat.le_of_ble_eq_true rfl)) dX11_head_57 ⟨Nat.le_of_ble_eq_true rfl, Nat.le_of_ble_eq_true rfl⟩) hS (fun q _ h => hFc q h) hFc (fun u9 t H1 locs ht hvm hw hB hz1 hk1 hS => ?_)
          obtain ⟨qa_62, qa_63, hP1, hD1⟩ := hB
          rw [ht] at hP1
          obtain ⟨hP, hD⟩ := va_joinQ (X := [(q_59, .inr (3, [.int 0, .int 0, .null, .int 0, .null, .null, .int 0, .int 0]))]) (cx := [(q_59, .inr (3, [.int 0, .int 0, .null, .int 0, .null, .null, .int 0, .int 0]))]) (wr := []) (w1 := [(qa_62, aI (q 0) 5 (fun _ => (-1))), (qa_63, aR (q 5) 1 (fun _ => none)), (q_59, .inr (3, [.int (k 0), .int 1, .ref qa_63, .int 0, .ref qa_62, .ref (d (2000 + i_3)), .int p1, .int p2]))]) (pl := va_pl z.1 f) (vaP_swap hPn) (vaD_rotR hDn) [0] [] rfl rfl rfl (fun i hi => absurd hi List.not_mem_nil) hk1 hFc hP1 hD1
          generalize H1 = H at hP hS ⊢
          obtain ⟨hnm_64, hP, hD⟩ := pushC hP hD
          obtain ⟨z_65, ez_65⟩ : ∃ y : gS, y = pz z qa_62 (17, 4000 + (u.1 3).toNatClampNeg, []) := ⟨_, rfl⟩
          obtain ⟨f_66, ef_66⟩ : ∃ y : xF, y = va_up f qa_62 (aI (q 0) 5 (fun _ => (-1))) := ⟨_, rfl⟩
          have hE_67 : zE z z_65 := by rw [ez_65]; exact pz_E hnm_64 _
          have hI : xI q h0 d k z_65 f_66 := by rw [ez_65, ef_66]; exact x_push hI hnm_64 (Or.inr (by decide : (15 : Nat) < 17)) (cO_17 (by rw [pz_s]) ⟨_, rfl⟩)
          rw [show z.1 ++ [qa_62] = z_65.1 from by rw [ez_65]; rfl, ← ef_66] at hP hD
          have ht_27 := zE_tg hE_67 ht_27
          have hpa_12 := zE_tg hE_67 hpa_12
          have hfa_20 := zE_tg hE_67 hfa_20
          have ht_68 : tg z_65 qa_62 17 := by rw [ez_65]; exact pz_t _ _ _
          have hEz : zE z z_65 := zE_tr (zE_rf z) hE_67
          have hc_69 : nC z_65 f_66 qa_62 17 (4000 + (u.1 3).toNatClampNeg) (aI (q 0) 5 (fun _ => (-1))) := by rw [ez_65, ef_66]; exact nC_new
          have hoK : oK z f f_66 := by rw [ef_66]; exact oK_push (fun _ _ => rfl) (zE_rf z) hnm_64
          have hEo := hEz
          obtain ⟨hnm_70, hP, hD⟩ := pushC hP hD
          obtain ⟨z_71, ez_71⟩ : ∃ y : gS, y = pz z_65 qa_63 (16, q_59, []) := ⟨_, rfl⟩
          obtain ⟨f_72, ef_72⟩ : ∃ y : xF, y = va_up f_66 qa_63 (aR (q 5) 1 (fun _ => none)) := ⟨_, rfl⟩
          have hE_73 : zE z_65 z_71 := by rw [ez_71]; exact pz_E hnm_70 _
          have hI : xI q h0 d k z_71 f_72 := by rw [ez_71, ef_72]; exact x_push hI hnm_70 (Or.inr (by decide : (15 : Nat) < 16)) (cO_16 (by rw [pz_s]) ⟨1, by decide, by decide, _, rfl, fun _ _ b hb => by cases hb⟩)
          rw [show z_65.1 ++ [qa_63] = z_71.1 from by rw [ez_71]; rfl, ← ef_72] at hP hD
          have hpf9 : f_72 qa_63 = aR (q 5) 1 (fun _ => none) := by rw [ef_72]; exact up_s
          have ho9 : (z_71.2 qa_63).2.1 = q_59 := by rw [ez_71, pz_s]
          have ht_27 := zE_tg hE_73 ht_27
          have hpa_12 := zE_tg hE_73 hpa_12
          have hfa_20 := zE_tg hE_73 hfa_20
          have ht_68 := zE_tg hE_73 ht_68
          have ht_74 : tg z_71 qa_63 16 := by rw [ez_71]; exact pz_t _ _ _
          have hEz : zE z z_71 := zE_tr hEz hE_73
          have hc_69 : nC z_71 f_72 qa_62 17 (4000 + (u.1 3).toNatClampNeg) (aI (q 0) 5 (fun _ => (-1))) := by rw [ez_71, ef_72]; exact nC_push hc_69 hnm_70
          have hc_75 : nC z_71 f_72 qa_63 16 (q_59) (aR (q 5) 1 (fun _ => none)) := by rw [ez_71, ef_72]; exact nC_new
          have hoK : oK z f f_72 := by rw [ef_72]; exact oK_push hoK hEo hnm_70
          have hEo := hEz
          obtain ⟨hnm_76, hP, hD⟩ := pushC hP hD
          obtain ⟨z_77, ez_77⟩ : ∃ y : gS, y = pz z_71 q_59 (11, 2000 + (u.1 3).toNatClampNeg, []) := ⟨_, rfl⟩
          obtain ⟨f_78, ef_78⟩ : ∃ y : xF, y = va_up f_72 q_59 (.inr (3, [.int (k 0), .int 1, .ref qa_63, .int 0, .ref qa_62, .ref (d (2000 + i_3)), .int p1, .int p2])) := ⟨_, rfl⟩
          have hE_79 : zE z_71 z_77 := by rw [ez_77]; exact pz_E hnm_76 _
          have hI : xI q h0 d k z_77 f_78 := by rw [ez_77, ef_78]; exact x_pushIo (n := 1) hI hnm_76 (by decide) ht_74 ho9 ht_68 hpf9 (by decide) ⟨fun x => absurd x (by decide), fun _ => ⟨_, _, _, rfl, zE_tg (pz_E hnm_76 _) ht_27⟩, fun x => absurd x (by decide), fun x => absurd x (by decide), fun x => absurd x (by decide), fun x => absurd x (by decide)⟩
          rw [show z_71.1 ++ [q_59] = z_77.1 from by rw [ez_77]; rfl, ← ef_78] at hP hD
          have hpf9 : f_78 qa_63 = aR (q 5) 1 (fun _ => none) := by rw [ef_78, up_o (fun e => hnm_76 (by rw [← e]; exact ht_74.1))]; exact hpf9
          have ho9 : (z_77.2 qa_63).2.1 = q_59 := by rw [zE_o hE_79 ht_74.1]; exact ho9
          have ht_27 := zE_tg hE_79 ht_27
          have hpa_12 := zE_tg hE_79 hpa_12
          have hfa_20 := zE_tg hE_79 hfa_20
          have ht_68 := zE_tg hE_79 ht_68
          have ht_74 := zE_tg hE_79 ht_74
          have ht_80 : tg z_77 q_59 11 := by rw [ez_77]; exact pz_t _ _ _
          have hEz : zE z z_77 := zE_tr hEz hE_79
          have hc_69 : nC z_77 f_78 qa_62 17 (4000 + (u.1 3).toNatClampNeg) (aI (q 0) 5 (fun _ => (-1))) := by rw [ez_77, ef_78]; exact nC_push hc_69 hnm_76
          have hc_75 : nC z_77 f_78 qa_63 16 (q_59) (aR (q 5) 1 (fun _ => none)) := by rw [ez_77, ef_78]; exact nC_push hc_75 hnm_76
          have hc_81 : nC z_77 f_78 q_59 11 (2000 + (u.1 3).toNatClampNeg) (.inr (3, [.int (k 0), .int 1, .ref qa_63, .int 0, .ref qa_62, .ref (d (2000 + i_3)), .int p1, .int p2])) := by rw [ez_77, ef_78]; exact nC_new
          have hoK : oK z f f_78 := by rw [ef_78]; exact oK_push hoK hEo hnm_76
          refine W.widen (k := 3) (n := 14) (Nat.le_of_ble_eq_true rfl) (Nat.le_of_ble_eq_true rfl) ?_
          refine W.eq (g2 := F0 m 60 ls [.ref q_59, .ref h0]) rfl ?_
          obtain ⟨kk_82, hk_83⟩ := pl_at hI.2.1.1.1 hI.2.2.2.1.1
          have hFc := fr_all hD hS hA
          refine va_calli (va_runV (As := [.ref q_59]) (rest := []) ⟨hx, hb, hml, hown, hts⟩ (y_enter l dC dI q h0 d k z_77 f_78 hI q_59 (tg_itm ht_80 (by decide)) (k 0) 1 0 qa_63 qa_62 [.ref (d (2000 + i_3)), .int p1, .int p2] (by rw [hc_81.2.2, hc_81.1.2]; rfl) H.size) (cwV 1 hts gX11_head_X11_enter rfl rfl rfl (by decide +kernel) ⟨Nat.le_of_ble_eq_true rfl, Nat.le_of_ble_eq_true rfl⟩) ⟨gx_fb, va_recv hK hP (ci := 10) (q0 := kk_82) rfl hk_83, fun U hU hW => ⟨rfl, by rw [hU], px_to hU hW hP hK hN hXN, hD.weaken (fun _ _ _ _ => trivial)⟩⟩ rfl rfl hl.1 rfl (lv_room (Nat.le_of_ble_eq_true rfl)) dX11_head_60 ⟨Nat.le_of_ble_eq_true rfl, Nat.le_of_ble_eq_true rfl⟩) hS (fun q _ h => hFc q h) hFc (fun r w_84 t H1 locs ht hvm hw hB hz1 hk1 hS => ?_)
          obtain ⟨hP, hD1⟩ := hB
          rw [ht] at hP
          rw [hw.1] at hP hD1
          have hD := hD1.weaken (fun _ q _ h => hFc q.1 h)
          have hI := hw.2.1
          have hw0 := hw
          generalize w_84.1 = k_86 at hI hw0
          generalize w_84.2.2 = f_85 at hP hD hI hw0
          generalize H1 = H at hP hS ⊢
          exact W.iret (v := r) hx hb hr (fun t ht hW => ⟨⟨r, (k_86, z_77, f_85), rfl, (by rw [ep_5]; exact mk_Head (a5 := 0) (a6 := 0) hIo hrp hk0 hz0 hnw hI hEz hoK hw0.2.2 hc_81 hc_75 hc_69 hi_4 hkd_29 b_55 b_57), by rw [ht]; exact hP, hD⟩, hS.F ht⟩) hS.2.2 dX11_head_63
        ·
          obtain rfl : r = 0 := b_f hw b_57
          refine lv_if_ne (tgt := 44) hx hb dX11_head_39 (by decide) (fun c_87 => absurd (by decide) c_87) (fun c_87 => ?_)
          refine lv_iconst (v := (-1)) hx hb dX11_head_42 (by decide) ?_
          refine W.widen (k := 3) (n := 14) (Nat.le_of_ble_eq_true rfl) (Nat.le_of_ble_eq_true rfl) ?_
          exact W.iret (v := (-1)) hx hb hr (fun t ht hW => ⟨⟨(-1), (k, z, f), rfl, (mkP_0 hI hrp hk0 (hd_h (bne b_57))), by rw [ht]; exact hP, hD⟩, hS.F ht⟩) hS.2.2 dX11_head_43
      ·
        obtain rfl : r = 0 := b_f hw b_55
        refine lv_if_eq (tgt := 42) hx hb dX11_head_29 (by decide) (fun c_88 => ?_) (fun c_88 => absurd (by decide) c_88)
        refine lv_iconst (v := (-1)) hx hb dX11_head_42 (by decide) ?_
        refine W.widen (k := 3) (n := 14) (Nat.le_of_ble_eq_true rfl) (Nat.le_of_ble_eq_true rfl) ?_
        exact W.iret (v := (-1)) hx hb hr (fun t ht hW => ⟨⟨(-1), (k, z, f), rfl, (mkP_0 hI hrp hk0 (hd_w (bne b_55))), by rw [ht]; exact hP, hD⟩, hS.F ht⟩) hS.2.2 dX11_head_43
    ·
      have hn_28 := ht9
      have hkd_29 : ¬ u.2 4 i_3 = 0 := fun e9 => ht9 ⟨hit_10.1, by rw [hkt_24, e9]; rfl⟩
      refine w_then (F0 m 12 ls [.int 0]) (fun hgo => ?_) ?_
      ·
        rcases x_tag hit_10 with ht8 | ht8 | ht8 | ht8 | ht8 | ht8
        ·
          obtain ⟨nu_89, kd_90, cn_91, pa_92, fa_93, l_94, m_95, hs_96, hs_97, hs_98, hs_99⟩ := x_ifl hI ht8
          obtain ⟨kk_100, hk_101⟩ := pl_at ht8.1 hs_96
          exact va_instNo hx hb hown (hts (.classLink RX11 66 "PageOne$Story") (by decide +kernel)) hXN.n_X2_X10 (va_recv hK hP (ci := 2) (q0 := kk_100) rfl hk_101) dX11_head_9 hgo
        ·
          obtain ⟨nu_102, kd_103, cn_104, pa_105, fa_106, o_107, w_108, y_109, hs_110, hs_111, hs_112, hs_113, hq_114⟩ := x_ihd hI ht8
          obtain ⟨kk_115, hk_116⟩ := pl_at ht8.1 hs_110
          exact va_instNo hx hb hown (hts (.classLink RX11 66 "PageOne$Story") (by decide +kernel)) hXN.n_X3_X10 (va_recv hK hP (ci := 3) (q0 := kk_115) rfl hk_116) dX11_head_9 hgo
        ·
          obtain ⟨nu_117, kd_118, cn_119, pa_120, fa_121, o_122, y_123, hs_124, hs_125, hs_126, hs_127, hq_128⟩ := x_ino hI ht8
          obtain ⟨kk_129, hk_130⟩ := pl_at ht8.1 hs_124
          exact va_instNo hx hb hown (hts (.classLink RX11 66 "PageOne$Story") (by decide +kernel)) hXN.n_X5_X10 (va_recv hK hP (ci := 4) (q0 := kk_129) rfl hk_130) dX11_head_9 hgo
        ·
          obtain ⟨nu_131, kd_132, cn_133, pa_134, fa_135, b_136, pr_137, sp_138, dy_139, hs_140, hs_141, hs_142, hs_143, hq_144, hq_145, hq_146⟩ := x_ipd hI ht8
          obtain ⟨kk_147, hk_148⟩ := pl_at ht8.1 hs_140
          exact va_instNo hx hb hown (hts (.classLink RX11 66 "PageOne$Story") (by decide +kernel)) hXN.n_X6_X10 (va_recv hK hP (ci := 5) (q0 := kk_147) rfl hk_148) dX11_head_9 hgo
        ·
          obtain ⟨nu_149, kd_150, cn_151, pa_152, fa_153, ww_154, hh_155, sz_156, hs_157, hs_158, hs_159, hs_160, hq_161, hq_162, hq_163⟩ := x_ipi hI ht8
          obtain ⟨kk_164, hk_165⟩ := pl_at ht8.1 hs_157
          exact va_instNo hx hb hown (hts (.classLink RX11 66 "PageOne$Story") (by decide +kernel)) hXN.n_X7_X10 (va_recv hK hP (ci := 6) (q0 := kk_164) rfl hk_165) dX11_head_9 hgo
        ·
          exact absurd ht8 ht9
      ·
        refine lv_if_eq (tgt := 42) hx hb dX11_head_12 (by decide) (fun c_166 => ?_) (fun c_166 => absurd (by decide) c_166)
        refine lv_iconst (v := (-1)) hx hb dX11_head_42 (by decide) ?_
        refine W.widen (k := 3) (n := 14) (Nat.le_of_ble_eq_true rfl) (Nat.le_of_ble_eq_true rfl) ?_
        exact W.iret (v := (-1)) hx hb hr (fun t ht hW => ⟨⟨(-1), (k, z, f), rfl, (mkP_0 hI hrp hk0 (hd_n (by rw [ep_5, mK_it (by rw [← hk0]; exact hI.1.1) hi_4]; exact decide_eq_false hkd_29))), by rw [ht]; exact hP, hD⟩, hS.F ht⟩) hS.2.2 dX11_head_43
set_option maxHeartbeats 4000000 in
set_option maxRecDepth 100000 in
theorem y_paid (l : Launch) (dC : Nat → ClassId) (dI : Nat → Nat → Nat) (q : Nat → ClassId) (h0 : Nat) (d : Nat → Nat) (k : Nat → Int32) (z : gS) (f : xF) (hI : xI q h0 d k z f) (p0 p1 p2 p3 p4 p5 p6 : Int32) (u : mS) (hrp : rep q d u z f) (hk0 : k 0 = u.1 3) (hk1 : k 1 = u.1 28) (hk2 : k 2 = u.1 38) (hk3 : k 3 = u.1 39) (hz0 : (z.2 h0).2.1 = 0) (hnw : nwI u) (sz : Nat) : Met l yX11_paid wsX11_paid ({ frames := 3, cells := 5, slots := 421, locals := 70 }) (va_Pc [.ref h0, .int p0, .int p1, .int p2, .int p3, .int p4, .int p5, .int p6] (fun U => U.heap.size = sz ∧ PX dC dI (va_pl z.1 f) (xT q) U ∧ va_D (fun _ => True) (va_pl z.1 f))) (va_Qi (fun (r : Int32) (w : xU) => mkP q h0 d k z f u (mPaid u p0 p1 p2 p3 p4 p5 p6) r w) (fun (w : xU) t => va_P (dC, dI) vwCl (va_pl w.2.1.1 w.2.2) t.heap ∧ va_D (va_A (va_pl z.1 f) sz) (va_pl w.2.1.1 w.2.2)) (va_A (va_pl z.1 f) sz)) 5 421 (va_A (va_pl z.1 f) sz) := by
  refine Met.ofW (cc := cX11_paid) (maxL := 8) (ret := (some .int)) (by decide) rfl ?_
  intro p e s m args below meth c s₁ B hml hv
  obtain ⟨rfl, hsz, ⟨⟨hP, hK, hN⟩, hXN⟩, hD0⟩ := hv
  have hx := B.exec
  have hb := B.bytes
  have hr := B.returns
  have hts := atoms_spec (ws := wsX11_paid) B.pre
  have hown : s.vm.findClass RX11 = some m.cls := findClass_of_methodNamed B.named
  have hlocks := B.notSynchronized
  subst hsz
  have hD := hD0.self (sz := s.heap.size)
  generalize hAe : va_A (va_pl z.1 f) s.heap.size = A at hD ⊢
  have hA : ∀ q : Nat, s.heap.size ≤ q → A q := fun q h => by rw [← hAe]; exact Or.inr h
  have hS : va_S A s.heap s.heap [] := va_S.rf
  have hl := lv_entry ([.ref h0, .int p0, .int p1, .int p2, .int p3, .int p4, .int p5, .int p6]) (n := 8) (Nat.le_of_ble_eq_true rfl)
  rw [lg_entry_eq]
  generalize (lg_sl ([.ref h0, .int p0, .int p1, .int p2, .int p3, .int p4, .int p5, .int p6]) ++ List.replicate (8 - (lg_sl ([.ref h0, .int p0, .int p1, .int p2, .int p3, .int p4, .int p5, .int p6])).length) Slot.unset).toArray = ls at hl ⊢
  have hl : lv_has ls 8 [(0, .ref h0), (1, .int p0), (2, .int p1), (3, .int p2), (4, .int p3), (5, .int p4), (6, .int p5), (7, .int p6)] := hl
  have hIo := hI
  refine lv_iload_n hx hb dX11_paid_0 rfl (lv_at hl 1 rfl) ?_
  refine vp_callSi (va_runS (As := [.int p0]) (rest := []) ⟨hx, hb, hml, hown, hts⟩ (x_isBuyer l dC dI p0) (va_cwS 1 hts gX11_paid_X11_isBuyer rfl rfl rfl (by decide +kernel) ⟨Nat.le_of_ble_eq_true rfl, Nat.le_of_ble_eq_true rfl⟩) ⟨pw_fb, fun U hU hW => ⟨rfl, pw_to hU hW (hP.sub (ws' := []) [] rfl) (hK.sub (tys' := []) [] rfl) hN⟩⟩ rfl rfl hl.1 rfl (lv_room (Nat.le_of_ble_eq_true rfl)) dX11_paid_1 ⟨Nat.le_of_ble_eq_true rfl, Nat.le_of_ble_eq_true rfl⟩).run (fun r hw => ?_)
  rcases Bool.eq_false_or_eq_true (bw p0 0 9) with b_1 | b_1
  ·
    obtain rfl : r = 1 := b_t hw b_1
    refine lv_if_eq (tgt := 36) hx hb dX11_paid_4 (by decide) (fun c_2 => absurd c_2 (by decide)) (fun c_2 => ?_)
    refine lv_iload_n hx hb dX11_paid_7 rfl (lv_at hl 2 rfl) ?_
    refine vp_callSi (va_runS (As := [.int p1]) (rest := []) ⟨hx, hb, hml, hown, hts⟩ (x_isPage l dC dI p1) (va_cwS 1 hts gX11_paid_X11_isPage rfl rfl rfl (by decide +kernel) ⟨Nat.le_of_ble_eq_true rfl, Nat.le_of_ble_eq_true rfl⟩) ⟨pw_fb, fun U hU hW => ⟨rfl, pw_to hU hW (hP.sub (ws' := []) [] rfl) (hK.sub (tys' := []) [] rfl) hN⟩⟩ rfl rfl hl.1 rfl (lv_room (Nat.le_of_ble_eq_true rfl)) dX11_paid_8 ⟨Nat.le_of_ble_eq_true rfl, Nat.le_of_ble_eq_true rfl⟩).run (fun r hw => ?_)
    rcases Bool.eq_false_or_eq_true (bw p1 0 11) with b_3 | b_3
    ·
      obtain rfl : r = 1 := b_t hw b_3
      refine lv_if_eq (tgt := 36) hx hb dX11_paid_11 (by decide) (fun c_4 => absurd c_4 (by decide)) (fun c_4 => ?_)
      refine lv_iload hx hb dX11_paid_14 (lv_at hl 5 rfl) ?_
      refine lv_iload hx hb dX11_paid_16 (lv_at hl 6 rfl) ?_
      refine vp_callSi (va_runS (As := [.int p4, .int p5]) (rest := []) ⟨hx, hb, hml, hown, hts⟩ (x_isSquare l dC dI p4 p5) (va_cwS 2 hts gX11_paid_X11_isSquare rfl rfl rfl (by decide +kernel) ⟨Nat.le_of_ble_eq_true rfl, Nat.le_of_ble_eq_true rfl⟩) ⟨pw_fb, fun U hU hW => ⟨rfl, pw_to hU hW (hP.sub (ws' := []) [] rfl) (hK.sub (tys' := []) [] rfl) hN⟩⟩ rfl rfl hl.1 rfl (lv_room (Nat.le_of_ble_eq_true rfl)) dX11_paid_18 ⟨Nat.le_of_ble_eq_true rfl, Nat.le_of_ble_eq_true rfl⟩).run (fun r hw => ?_)
      rcases Bool.eq_false_or_eq_true ((bw p4 1 8 && bw p5 1 60)) with b_5 | b_5
      ·
        obtain rfl : r = 1 := b_t hw b_5
        refine lv_if_eq (tgt := 36) hx hb dX11_paid_21 (by decide) (fun c_6 => absurd c_6 (by decide)) (fun c_6 => ?_)
        refine lv_iload hx hb dX11_paid_24 (lv_at hl 7 rfl) ?_
        refine lv_iconst (v := 0) hx hb dX11_paid_26 (by decide) ?_
        refine lv_sipush (v := 1000) hx hb dX11_paid_27 (by decide) ?_
        refine vp_callSi (va_runS (As := [.int p6, .int 0, .int 1000]) (rest := []) ⟨hx, hb, hml, hown, hts⟩ (x_isWithin l dC dI p6 0 1000) (va_cwS 3 hts gX11_paid_X11_isWithin rfl rfl rfl (by decide +kernel) ⟨Nat.le_of_ble_eq_true rfl, Nat.le_of_ble_eq_true rfl⟩) ⟨pw_fb, fun U hU hW => ⟨rfl, pw_to hU hW (hP.sub (ws' := []) [] rfl) (hK.sub (tys' := []) [] rfl) hN⟩⟩ rfl rfl hl.1 rfl (lv_room (Nat.le_of_ble_eq_true rfl)) dX11_paid_30 ⟨Nat.le_of_ble_eq_true rfl, Nat.le_of_ble_eq_true rfl⟩).run (fun r hw => ?_)
        rcases Bool.eq_false_or_eq_true (bw p6 0 1000) with b_7 | b_7
        ·
          obtain rfl : r = 1 := b_t hw b_7
          refine lv_if_ne (tgt := 38) hx hb dX11_paid_33 (by decide) (fun c_8 => ?_) (fun c_8 => absurd c_8 (by decide))
          refine lv_iload_n hx hb dX11_paid_38 rfl (lv_at hl 3 rfl) ?_
          refine lv_iconst (v := 0) hx hb dX11_paid_39 (by decide) ?_
          refine lv_bipush (v := 8) hx hb dX11_paid_40 (by decide) ?_
          refine lv_iload hx hb dX11_paid_42 (lv_at hl 5 rfl) ?_
          refine lv_isub hx hb dX11_paid_44 ?_
          refine vp_callSi (va_runS (As := [.int p2, .int 0, .int (8 - p4)]) (rest := []) ⟨hx, hb, hml, hown, hts⟩ (x_isWithin l dC dI p2 0 (8 - p4)) (va_cwS 3 hts gX11_paid_X11_isWithin rfl rfl rfl (by decide +kernel) ⟨Nat.le_of_ble_eq_true rfl, Nat.le_of_ble_eq_true rfl⟩) ⟨pw_fb, fun U hU hW => ⟨rfl, pw_to hU hW (hP.sub (ws' := []) [] rfl) (hK.sub (tys' := []) [] rfl) hN⟩⟩ rfl rfl hl.1 rfl (lv_room (Nat.le_of_ble_eq_true rfl)) dX11_paid_45 ⟨Nat.le_of_ble_eq_true rfl, Nat.le_of_ble_eq_true rfl⟩).run (fun r hw => ?_)
          rcases Bool.eq_false_or_eq_true (bw p2 0 (8 - p4)) with b_9 | b_9
          ·
            obtain rfl : r = 1 := b_t hw b_9
            refine lv_if_eq (tgt := 65) hx hb dX11_paid_48 (by decide) (fun c_10 => absurd c_10 (by decide)) (fun c_10 => ?_)
            refine lv_iload hx hb dX11_paid_51 (lv_at hl 4 rfl) ?_
            refine lv_iconst (v := 0) hx hb dX11_paid_53 (by decide) ?_
            refine lv_bipush (v := 60) hx hb dX11_paid_54 (by decide) ?_
            refine lv_iload hx hb dX11_paid_56 (lv_at hl 6 rfl) ?_
            refine lv_isub hx hb dX11_paid_58 ?_
            refine vp_callSi (va_runS (As := [.int p3, .int 0, .int (60 - p5)]) (rest := []) ⟨hx, hb, hml, hown, hts⟩ (x_isWithin l dC dI p3 0 (60 - p5)) (va_cwS 3 hts gX11_paid_X11_isWithin rfl rfl rfl (by decide +kernel) ⟨Nat.le_of_ble_eq_true rfl, Nat.le_of_ble_eq_true rfl⟩) ⟨pw_fb, fun U hU hW => ⟨rfl, pw_to hU hW (hP.sub (ws' := []) [] rfl) (hK.sub (tys' := []) [] rfl) hN⟩⟩ rfl rfl hl.1 rfl (lv_room (Nat.le_of_ble_eq_true rfl)) dX11_paid_59 ⟨Nat.le_of_ble_eq_true rfl, Nat.le_of_ble_eq_true rfl⟩).run (fun r hw => ?_)
            rcases Bool.eq_false_or_eq_true (bw p3 0 (60 - p5)) with b_11 | b_11
            ·
              obtain rfl : r = 1 := b_t hw b_11
              refine lv_if_ne (tgt := 67) hx hb dX11_paid_62 (by decide) (fun c_12 => ?_) (fun c_12 => absurd c_12 (by decide))
              refine lv_aload_n hx hb dX11_paid_67 rfl (lv_at hl 0 rfl) ?_
              refine va_new (ci := 5) (fs := [.int 0, .int 0, .null, .int 0, .null, .int 0, .int 0, .null, .null]) (C := RX6) (T := TX6) (N := 9) hx hb hts (by decide +kernel) tyX6 tyX6_ok hown (hts (.classLink RX11 104 RX6) (by decide +kernel)) (hts (.instantiable RX6 9) (by decide +kernel)) (hts (.initialized RX6) (by decide +kernel)) hK hP hD hS hA rfl nwX6 (Nat.le_of_ble_eq_true rfl) (Nat.le_of_ble_eq_true rfl) dX11_paid_68 (fun q_13 H hPn hDn hS => ?_)
              have hP := vaP_l hPn
              refine W.widen (k := 1) (n := 9) (Nat.le_of_ble_eq_true rfl) (Nat.le_of_ble_eq_true rfl) ?_
              refine lv_dup hx hb dX11_paid_71 rfl ?_
              refine lv_aload_n hx hb dX11_paid_72 rfl (lv_at hl 0 rfl) ?_
              obtain ⟨kk_14, hk_15⟩ := pl_at hI.2.1.1.1 hI.2.2.2.1.1
              refine va_get (D := (dC, dI)) (ci := 10) (v := .int (k 0)) (C := RX11) (T := TX11) (N := 9) hx hb hts (by decide +kernel) hown hK hP kk_14 hk_15 rfl 3 (by decide) (hts (.fieldLink RX11 24 "PageOne" "itemCount" "I") (by decide +kernel)) (fun _ h9 => h9) rfl dX11_paid_73 ?_
              refine lv_iload_n hx hb dX11_paid_76 rfl (lv_at hl 1 rfl) ?_
              refine lv_iload hx hb dX11_paid_77 (lv_at hl 7 rfl) ?_
              refine va_new (ci := 7) (fs := [.null, .int 0, .int 0, .int 0, .int 0, .int 0]) (C := RX8) (T := TX8) (N := 6) hx hb hts (by decide +kernel) tyX8 tyX8_ok hown (hts (.classLink RX11 106 RX8) (by decide +kernel)) (hts (.instantiable RX8 6) (by decide +kernel)) (hts (.initialized RX8) (by decide +kernel)) hK hPn hDn hS hA rfl nwX8 (Nat.le_of_ble_eq_true rfl) (Nat.le_of_ble_eq_true rfl) dX11_paid_79 (fun q_16 H hPm hDm hS => ?_)
              refine W.widen (k := 2) (n := 15) (Nat.le_of_ble_eq_true rfl) (Nat.le_of_ble_eq_true rfl) ?_
              refine lv_dup hx hb dX11_paid_82 rfl ?_
              refine lv_null hx hb dX11_paid_83 ?_
              refine lv_iload_n hx hb dX11_paid_84 rfl (lv_at hl 2 rfl) ?_
              refine lv_iload_n hx hb dX11_paid_85 rfl (lv_at hl 3 rfl) ?_
              refine lv_iload hx hb dX11_paid_86 (lv_at hl 4 rfl) ?_
              refine lv_iload hx hb dX11_paid_88 (lv_at hl 5 rfl) ?_
              refine lv_iload hx hb dX11_paid_90 (lv_at hl 6 rfl) ?_
              have hPc := vaP_r hPm
              have hDc := vaD_r hDm
              have hFc := fr_part hDm hS hA
              refine va_callv (va_runI (As := [.null, .int p1, .int p2, .int p3, .int p4, .int p5]) (rest := [.ref q_16, .int p6, .int p0, .int (k 0), .ref q_13, .ref q_13, .ref h0]) ⟨hx, hb, hml, hown, hts⟩ (x_PieceN l dC dI q_16 p1 p2 p3 p4 p5 H.size) (cwI 6 hts gX11_paid_X8_init rfl rfl rfl (hts (.initialized RX8) (by decide +kernel)) (hts (.methodLink RX11 108 yX8_init) (by decide +kernel)) (hts (.instanceMethod yX8_init) (by decide +kernel)) rfl (by decide +kernel) ⟨Nat.le_of_ble_eq_true rfl, Nat.le_of_ble_eq_true rfl⟩) ⟨gw_fb, fun U hU hW => ⟨rfl, by rw [hU], pw_to hU hW hPc (hK.sub (tys' := []) [] rfl) hN, hDc.weaken (fun _ _ _ _ => trivial)⟩⟩ rfl rfl hl.1 rfl (lv_room (Nat.le_of_ble_eq_true rfl)) dX11_paid_92 ⟨Nat.le_of_ble_eq_true rfl, Nat.le_of_ble_eq_true rfl⟩) hS (fun q _ h => hFc q h) hFc (fun u9 t H1 locs ht hvm hw hB hz1 hk1 hS => ?_)
              obtain ⟨hP1, hD1⟩ := hB
              rw [ht] at hP1
              obtain ⟨hP, hD⟩ := va_joinQ (X := [(q_16, .inr (7, [.null, .int 0, .int 0, .int 0, .int 0, .int 0]))]) (cx := [(q_16, .inr (7, [.null, .int 0, .int 0, .int 0, .int 0, .int 0]))]) (wr := []) (w1 := [(q_16, .inr (7, [va_rf none, .int p1, .int p2, .int p3, .int p4, .int p5]))]) (pl := va_pl z.1 f ++ [(q_13, .inr (5, [.int 0, .int 0, .null, .int 0, .null, .int 0, .int 0, .null, .null]))]) (vaP_swap hPm) (vaD_rotR hDm) [0] [] rfl rfl rfl (fun i hi => absurd hi List.not_mem_nil) hk1 hFc hP1 hD1
              have hP := vaP_3 hP
              have hD := vaD_3 hD
              generalize H1 = H at hP hS ⊢
              obtain ⟨hnm_17, hP, hD⟩ := pushC hP hD
              obtain ⟨z_18, ez_18⟩ : ∃ y : gS, y = pz z q_16 (22, 0, [va_rf none, .int p1, .int p2, .int p3, .int p4, .int p5]) := ⟨_, rfl⟩
              obtain ⟨f_19, ef_19⟩ : ∃ y : xF, y = va_up f q_16 (.inr (7, [va_rf none, .int p1, .int p2, .int p3, .int p4, .int p5])) := ⟨_, rfl⟩
              have hE_20 : zE z z_18 := by rw [ez_18]; exact pz_E hnm_17 _
              have hI : xI q h0 d k z_18 f_19 := by rw [ez_18, ef_19]; exact x_push hI hnm_17 (Or.inr (by decide : (15 : Nat) < 22)) (cO_pc b_3 ty_n hnm_17)
              rw [show z.1 ++ [q_16] = z_18.1 from by rw [ez_18]; rfl, ← ef_19] at hP hD
              have ht_21 : tg z_18 q_16 22 := by rw [ez_18]; exact pz_t _ _ _
              have hEz : zE z z_18 := zE_tr (zE_rf z) hE_20
              have hc_22 : nC z_18 f_19 q_16 22 (0) (.inr (7, [va_rf none, .int p1, .int p2, .int p3, .int p4, .int p5])) := by rw [ez_18, ef_19]; exact nC_new
              have hoK : oK z f f_19 := by rw [ef_19]; exact oK_push (fun _ _ => rfl) (zE_rf z) hnm_17
              have hPn := vaP_swap hP
              have hDn := vaD_rot hD
              have hP := vaP_l hPn
              refine W.eq (g2 := F0 m 95 ls [.ref q_16, .int p6, .int p0, .int (k 0), .ref q_13, .ref q_13, .ref h0]) rfl ?_
              have hp_23 : pcS z_18 q_16 none p1 p2 p3 p4 p5 := ⟨ht_21, by rw [ez_18, pz_s]⟩
              have hlg_24 := lg_of hp_23 ⟨b87 b_9 rfl (ban b_5).1, b60 b_11 rfl (ban b_5).2, b1to0 (ban b_5).1, b1to0 (ban b_5).2⟩
              have hPc := vaP_r hPn
              have hDc := vaD_r hDn
              have hFc := fr_part hDn hS hA
              refine va_callv (va_runI (As := [.int (k 0), .int p0, .int p6, .ref q_16]) (rest := [.ref q_13, .ref h0]) ⟨hx, hb, hml, hown, hts⟩ (xn_Paid l dC dI q_13 q_16 (q 0) (q 1) (q 5) (k 0) p0 p6 H.size) (cwI 4 hts gX11_paid_X6_init rfl rfl rfl (hts (.initialized RX6) (by decide +kernel)) (hts (.methodLink RX11 111 yX6_init) (by decide +kernel)) (hts (.instanceMethod yX6_init) (by decide +kernel)) rfl (by decide +kernel) ⟨Nat.le_of_ble_eq_true rfl, Nat.le_of_ble_eq_true rfl⟩) ⟨gw_fb, fun U hU hW => ⟨rfl, by rw [hU], pw_to hU hW hPc (hK.sub (tys' := [(q 0, .int), (q 1, .boolean), (q 5, .object "PageOne$Piece")]) [0, 1, 5] rfl) hN, hDc.weaken (fun _ _ _ _ => trivial)⟩⟩ rfl rfl hl.1 rfl (lv_room (Nat.le_of_ble_eq_true rfl)) dX11_paid_95 ⟨Nat.le_of_ble_eq_true rfl, Nat.le_of_ble_eq_true rfl⟩) hS (fun q _ h => hFc q h) hFc (fun u9 t H1 locs ht hvm hw hB hz1 hk1 hS => ?_)
              obtain ⟨qa_25, qa_26, qa_27, hP1, hD1⟩ := hB
              rw [ht] at hP1
              obtain ⟨hP, hD⟩ := va_joinQ (X := [(q_13, .inr (5, [.int 0, .int 0, .null, .int 0, .null, .int 0, .int 0, .null, .null]))]) (cx := [(q_13, .inr (5, [.int 0, .int 0, .null, .int 0, .null, .int 0, .int 0, .null, .null]))]) (wr := []) (w1 := [(qa_25, aI (q 0) 5 (fun _ => (-1))), (qa_26, aR (q 5) 1 (fun _ => none)), (qa_27, aI (q 1) 400 (fun _ => 0)), (q_13, .inr (5, [.int (k 0), .int 3, .ref qa_26, .int 0, .ref qa_25, .int p0, .int p6, .ref q_16, .ref qa_27]))]) (pl := va_pl z_18.1 f_19) (vaP_swap hPn) (vaD_rotR hDn) [0] [] rfl rfl rfl (fun i hi => absurd hi List.not_mem_nil) hk1 hFc hP1 hD1
              generalize H1 = H at hP hS ⊢
              have hEo := hEz
              obtain ⟨hnm_28, hP, hD⟩ := pushC hP hD
              obtain ⟨z_29, ez_29⟩ : ∃ y : gS, y = pz z_18 qa_25 (17, 4000 + (u.1 3).toNatClampNeg, []) := ⟨_, rfl⟩
              obtain ⟨f_30, ef_30⟩ : ∃ y : xF, y = va_up f_19 qa_25 (aI (q 0) 5 (fun _ => (-1))) := ⟨_, rfl⟩
              have hE_31 : zE z_18 z_29 := by rw [ez_29]; exact pz_E hnm_28 _
              have hI : xI q h0 d k z_29 f_30 := by rw [ez_29, ef_30]; exact x_push hI hnm_28 (Or.inr (by decide : (15 : Nat) < 17)) (cO_17 (by rw [pz_s]) ⟨_, rfl⟩)
              rw [show z_18.1 ++ [qa_25] = z_29.1 from by rw [ez_29]; rfl, ← ef_30] at hP hD
              have hlg_24 := zE_lg hE_31 hlg_24
              have hp_23 := zE_pc hE_31 hp_23
              have ht_32 : tg z_29 qa_25 17 := by rw [ez_29]; exact pz_t _ _ _
              have hEz : zE z z_29 := zE_tr hEz hE_31
              have hc_22 : nC z_29 f_30 q_16 22 (0) (.inr (7, [va_rf none, .int p1, .int p2, .int p3, .int p4, .int p5])) := by rw [ez_29, ef_30]; exact nC_push hc_22 hnm_28
              have hc_33 : nC z_29 f_30 qa_25 17 (4000 + (u.1 3).toNatClampNeg) (aI (q 0) 5 (fun _ => (-1))) := by rw [ez_29, ef_30]; exact nC_new
              have hoK : oK z f f_30 := by rw [ef_30]; exact oK_push hoK hEo hnm_28
              have hEo := hEz
              obtain ⟨hnm_34, hP, hD⟩ := pushC hP hD
              obtain ⟨z_35, ez_35⟩ : ∃ y : gS, y = pz z_29 qa_26 (16, q_13, []) := ⟨_, rfl⟩
              obtain ⟨f_36, ef_36⟩ : ∃ y : xF, y = va_up f_30 qa_26 (aR (q 5) 1 (fun _ => none)) := ⟨_, rfl⟩
              have hE_37 : zE z_29 z_35 := by rw [ez_35]; exact pz_E hnm_34 _
              have hI : xI q h0 d k z_35 f_36 := by rw [ez_35, ef_36]; exact x_push hI hnm_34 (Or.inr (by decide : (15 : Nat) < 16)) (cO_16 (by rw [pz_s]) ⟨1, by decide, by decide, _, rfl, fun _ _ b hb => by cases hb⟩)
              rw [show z_29.1 ++ [qa_26] = z_35.1 from by rw [ez_35]; rfl, ← ef_36] at hP hD
              have hpf9 : f_36 qa_26 = aR (q 5) 1 (fun _ => none) := by rw [ef_36]; exact up_s
              have ho9 : (z_35.2 qa_26).2.1 = q_13 := by rw [ez_35, pz_s]
              have hlg_24 := zE_lg hE_37 hlg_24
              have ht_32 := zE_tg hE_37 ht_32
              have hp_23 := zE_pc hE_37 hp_23
              have ht_38 : tg z_35 qa_26 16 := by rw [ez_35]; exact pz_t _ _ _
              have hEz : zE z z_35 := zE_tr hEz hE_37
              have hc_22 : nC z_35 f_36 q_16 22 (0) (.inr (7, [va_rf none, .int p1, .int p2, .int p3, .int p4, .int p5])) := by rw [ez_35, ef_36]; exact nC_push hc_22 hnm_34
              have hc_33 : nC z_35 f_36 qa_25 17 (4000 + (u.1 3).toNatClampNeg) (aI (q 0) 5 (fun _ => (-1))) := by rw [ez_35, ef_36]; exact nC_push hc_33 hnm_34
              have hc_39 : nC z_35 f_36 qa_26 16 (q_13) (aR (q 5) 1 (fun _ => none)) := by rw [ez_35, ef_36]; exact nC_new
              have hoK : oK z f f_36 := by rw [ef_36]; exact oK_push hoK hEo hnm_34
              have hEo := hEz
              obtain ⟨hnm_40, hP, hD⟩ := pushC hP hD
              obtain ⟨z_41, ez_41⟩ : ∃ y : gS, y = pz z_35 qa_27 (21, 6000 + (u.1 3).toNatClampNeg, []) := ⟨_, rfl⟩
              obtain ⟨f_42, ef_42⟩ : ∃ y : xF, y = va_up f_36 qa_27 (aI (q 1) 400 (fun _ => 0)) := ⟨_, rfl⟩
              have hE_43 : zE z_35 z_41 := by rw [ez_41]; exact pz_E hnm_40 _
              have hI : xI q h0 d k z_41 f_42 := by rw [ez_41, ef_42]; exact x_push hI hnm_40 (Or.inr (by decide : (15 : Nat) < 21)) (cO_21 (by rw [pz_s]) ⟨_, rfl⟩)
              rw [show z_35.1 ++ [qa_27] = z_41.1 from by rw [ez_41]; rfl, ← ef_42] at hP hD
              have hpf9 : f_42 qa_26 = aR (q 5) 1 (fun _ => none) := by rw [ef_42, up_o (fun e => hnm_40 (by rw [← e]; exact ht_38.1))]; exact hpf9
              have ho9 : (z_41.2 qa_26).2.1 = q_13 := by rw [zE_o hE_43 ht_38.1]; exact ho9
              have hlg_24 := zE_lg hE_43 hlg_24
              have ht_32 := zE_tg hE_43 ht_32
              have ht_38 := zE_tg hE_43 ht_38
              have hp_23 := zE_pc hE_43 hp_23
              have ht_44 : tg z_41 qa_27 21 := by rw [ez_41]; exact pz_t _ _ _
              have hEz : zE z z_41 := zE_tr hEz hE_43
              have hc_22 : nC z_41 f_42 q_16 22 (0) (.inr (7, [va_rf none, .int p1, .int p2, .int p3, .int p4, .int p5])) := by rw [ez_41, ef_42]; exact nC_push hc_22 hnm_40
              have hc_33 : nC z_41 f_42 qa_25 17 (4000 + (u.1 3).toNatClampNeg) (aI (q 0) 5 (fun _ => (-1))) := by rw [ez_41, ef_42]; exact nC_push hc_33 hnm_40
              have hc_39 : nC z_41 f_42 qa_26 16 (q_13) (aR (q 5) 1 (fun _ => none)) := by rw [ez_41, ef_42]; exact nC_push hc_39 hnm_40
              have hc_45 : nC z_41 f_42 qa_27 21 (6000 + (u.1 3).toNatClampNeg) (aI (q 1) 400 (fun _ => 0)) := by rw [ez_41, ef_42]; exact nC_new
              have hoK : oK z f f_42 := by rw [ef_42]; exact oK_push hoK hEo hnm_40
              have hEo := hEz
              obtain ⟨hnm_46, hP, hD⟩ := pushC hP hD
              obtain ⟨z_47, ez_47⟩ : ∃ y : gS, y = pz z_41 q_13 (13, 2000 + (u.1 3).toNatClampNeg, []) := ⟨_, rfl⟩
              obtain ⟨f_48, ef_48⟩ : ∃ y : xF, y = va_up f_42 q_13 (.inr (5, [.int (k 0), .int 3, .ref qa_26, .int 0, .ref qa_25, .int p0, .int p6, .ref q_16, .ref qa_27])) := ⟨_, rfl⟩
              have hE_49 : zE z_41 z_47 := by rw [ez_47]; exact pz_E hnm_46 _
              have hI : xI q h0 d k z_47 f_48 := by rw [ez_47, ef_48]; exact x_pushIo (n := 1) hI hnm_46 (by decide) ht_38 ho9 ht_32 hpf9 (by decide) ⟨fun x => absurd x (by decide), fun x => absurd x (by decide), fun x => absurd x (by decide), fun _ => ⟨_, _, _, _, rfl, b_1, zE_lg (pz_E hnm_46 _) hlg_24, zE_tg (pz_E hnm_46 _) ht_44⟩, fun x => absurd x (by decide), fun x => absurd x (by decide)⟩
              rw [show z_41.1 ++ [q_13] = z_47.1 from by rw [ez_47]; rfl, ← ef_48] at hP hD
              have hpf9 : f_48 qa_26 = aR (q 5) 1 (fun _ => none) := by rw [ef_48, up_o (fun e => hnm_46 (by rw [← e]; exact ht_38.1))]; exact hpf9
              have ho9 : (z_47.2 qa_26).2.1 = q_13 := by rw [zE_o hE_49 ht_38.1]; exact ho9
              have hlg_24 := zE_lg hE_49 hlg_24
              have ht_32 := zE_tg hE_49 ht_32
              have ht_38 := zE_tg hE_49 ht_38
              have ht_44 := zE_tg hE_49 ht_44
              have hp_23 := zE_pc hE_49 hp_23
              have ht_50 : tg z_47 q_13 13 := by rw [ez_47]; exact pz_t _ _ _
              have hEz : zE z z_47 := zE_tr hEz hE_49
              have hc_22 : nC z_47 f_48 q_16 22 (0) (.inr (7, [va_rf none, .int p1, .int p2, .int p3, .int p4, .int p5])) := by rw [ez_47, ef_48]; exact nC_push hc_22 hnm_46
              have hc_33 : nC z_47 f_48 qa_25 17 (4000 + (u.1 3).toNatClampNeg) (aI (q 0) 5 (fun _ => (-1))) := by rw [ez_47, ef_48]; exact nC_push hc_33 hnm_46
              have hc_39 : nC z_47 f_48 qa_26 16 (q_13) (aR (q 5) 1 (fun _ => none)) := by rw [ez_47, ef_48]; exact nC_push hc_39 hnm_46
              have hc_45 : nC z_47 f_48 qa_27 21 (6000 + (u.1 3).toNatClampNeg) (aI (q 1) 400 (fun _ => 0)) := by rw [ez_47, ef_48]; exact nC_push hc_45 hnm_46
              have hc_51 : nC z_47 f_48 q_13 13 (2000 + (u.1 3).toNatClampNeg) (.inr (5, [.int (k 0), .int 3, .ref qa_26, .int 0, .ref qa_25, .int p0, .int p6, .ref q_16, .ref qa_27])) := by rw [ez_47, ef_48]; exact nC_new
              have hoK : oK z f f_48 := by rw [ef_48]; exact oK_push hoK hEo hnm_46
              refine W.widen (k := 5) (n := 421) (Nat.le_of_ble_eq_true rfl) (Nat.le_of_ble_eq_true rfl) ?_
              refine W.eq (g2 := F0 m 98 ls [.ref q_13, .ref h0]) rfl ?_
              obtain ⟨kk_52, hk_53⟩ := pl_at hI.2.1.1.1 hI.2.2.2.1.1
              have hFc := fr_all hD hS hA
              refine va_calli (va_runV (As := [.ref q_13]) (rest := []) ⟨hx, hb, hml, hown, hts⟩ (y_enter l dC dI q h0 d k z_47 f_48 hI q_13 (tg_itm ht_50 (by decide)) (k 0) 3 0 qa_26 qa_25 [.int p0, .int p6, .ref q_16, .ref qa_27] (by rw [hc_51.2.2, hc_51.1.2]; rfl) H.size) (cwV 1 hts gX11_paid_X11_enter rfl rfl rfl (by decide +kernel) ⟨Nat.le_of_ble_eq_true rfl, Nat.le_of_ble_eq_true rfl⟩) ⟨gx_fb, va_recv hK hP (ci := 10) (q0 := kk_52) rfl hk_53, fun U hU hW => ⟨rfl, by rw [hU], px_to hU hW hP hK hN hXN, hD.weaken (fun _ _ _ _ => trivial)⟩⟩ rfl rfl hl.1 rfl (lv_room (Nat.le_of_ble_eq_true rfl)) dX11_paid_98 ⟨Nat.le_of_ble_eq_true rfl, Nat.le_of_ble_eq_true rfl⟩) hS (fun q _ h => hFc q h) hFc (fun r w_54 t H1 locs ht hvm hw hB hz1 hk1 hS => ?_)
              obtain ⟨hP, hD1⟩ := hB
              rw [ht] at hP
              rw [hw.1] at hP hD1
              have hD := hD1.weaken (fun _ q _ h => hFc q.1 h)
              have hI := hw.2.1
              have hw0 := hw
              generalize w_54.1 = k_56 at hI hw0
              generalize w_54.2.2 = f_55 at hP hD hI hw0
              generalize H1 = H at hP hS ⊢
              exact W.iret (v := r) hx hb hr (fun t ht hW => ⟨⟨r, (k_56, z_47, f_55), rfl, (mk_Paid hIo hrp hk0 hz0 hnw hI hEz hoK hw0.2.2 hc_51 hc_39 hc_33 hp_23 hc_45 (pdB_iff.mpr ⟨b_1, b_3, b_5, b_7, b_9, b_11⟩)), by rw [ht]; exact hP, hD⟩, hS.F ht⟩) hS.2.2 dX11_paid_101
            ·
              obtain rfl : r = 0 := b_f hw b_11
              refine lv_if_ne (tgt := 67) hx hb dX11_paid_62 (by decide) (fun c_57 => absurd (by decide) c_57) (fun c_57 => ?_)
              refine lv_iconst (v := (-1)) hx hb dX11_paid_65 (by decide) ?_
              refine W.widen (k := 5) (n := 421) (Nat.le_of_ble_eq_true rfl) (Nat.le_of_ble_eq_true rfl) ?_
              exact W.iret (v := (-1)) hx hb hr (fun t ht hW => ⟨⟨(-1), (k, z, f), rfl, (mkP_0 hI hrp hk0 (pd_n (fun h9 => bne b_11 (pdB_iff.mp h9).2.2.2.2.2))), by rw [ht]; exact hP, hD⟩, hS.F ht⟩) hS.2.2 dX11_paid_66
          ·
            obtain rfl : r = 0 := b_f hw b_9
            refine lv_if_eq (tgt := 65) hx hb dX11_paid_48 (by decide) (fun c_58 => ?_) (fun c_58 => absurd (by decide) c_58)
            refine lv_iconst (v := (-1)) hx hb dX11_paid_65 (by decide) ?_
            refine W.widen (k := 5) (n := 421) (Nat.le_of_ble_eq_true rfl) (Nat.le_of_ble_eq_true rfl) ?_
            exact W.iret (v := (-1)) hx hb hr (fun t ht hW => ⟨⟨(-1), (k, z, f), rfl, (mkP_0 hI hrp hk0 (pd_n (fun h9 => bne b_9 (pdB_iff.mp h9).2.2.2.2.1))), by rw [ht]; exact hP, hD⟩, hS.F ht⟩) hS.2.2 dX11_paid_66
        ·
          obtain rfl : r = 0 := b_f hw b_7
          refine lv_if_ne (tgt := 38) hx hb dX11_paid_33 (by decide) (fun c_59 => absurd (by decide) c_59) (fun c_59 => ?_)
          refine lv_iconst (v := (-1)) hx hb dX11_paid_36 (by decide) ?_
          refine W.widen (k := 5) (n := 421) (Nat.le_of_ble_eq_true rfl) (Nat.le_of_ble_eq_true rfl) ?_
          exact W.iret (v := (-1)) hx hb hr (fun t ht hW => ⟨⟨(-1), (k, z, f), rfl, (mkP_0 hI hrp hk0 (pd_n (fun h9 => bne b_7 (pdB_iff.mp h9).2.2.2.1))), by rw [ht]; exact hP, hD⟩, hS.F ht⟩) hS.2.2 dX11_paid_37
      ·
        obtain rfl : r = 0 := b_f hw b_5
        refine lv_if_eq (tgt := 36) hx hb dX11_paid_21 (by decide) (fun c_60 => ?_) (fun c_60 => absurd (by decide) c_60)
        refine lv_iconst (v := (-1)) hx hb dX11_paid_36 (by decide) ?_
        refine W.widen (k := 5) (n := 421) (Nat.le_of_ble_eq_true rfl) (Nat.le_of_ble_eq_true rfl) ?_
        exact W.iret (v := (-1)) hx hb hr (fun t ht hW => ⟨⟨(-1), (k, z, f), rfl, (mkP_0 hI hrp hk0 (pd_n (fun h9 => bne b_5 (pdB_iff.mp h9).2.2.1))), by rw [ht]; exact hP, hD⟩, hS.F ht⟩) hS.2.2 dX11_paid_37
    ·
      obtain rfl : r = 0 := b_f hw b_3
      refine lv_if_eq (tgt := 36) hx hb dX11_paid_11 (by decide) (fun c_61 => ?_) (fun c_61 => absurd (by decide) c_61)
      refine lv_iconst (v := (-1)) hx hb dX11_paid_36 (by decide) ?_
      refine W.widen (k := 5) (n := 421) (Nat.le_of_ble_eq_true rfl) (Nat.le_of_ble_eq_true rfl) ?_
      exact W.iret (v := (-1)) hx hb hr (fun t ht hW => ⟨⟨(-1), (k, z, f), rfl, (mkP_0 hI hrp hk0 (pd_n (fun h9 => bne b_3 (pdB_iff.mp h9).2.1))), by rw [ht]; exact hP, hD⟩, hS.F ht⟩) hS.2.2 dX11_paid_37
  ·
    obtain rfl : r = 0 := b_f hw b_1
    refine lv_if_eq (tgt := 36) hx hb dX11_paid_4 (by decide) (fun c_62 => ?_) (fun c_62 => absurd (by decide) c_62)
    refine lv_iconst (v := (-1)) hx hb dX11_paid_36 (by decide) ?_
    refine W.widen (k := 5) (n := 421) (Nat.le_of_ble_eq_true rfl) (Nat.le_of_ble_eq_true rfl) ?_
    exact W.iret (v := (-1)) hx hb hr (fun t ht hW => ⟨⟨(-1), (k, z, f), rfl, (mkP_0 hI hrp hk0 (pd_n (fun h9 => bne b_1 (pdB_iff.mp h9).1))), by rw [ht]; exact hP, hD⟩, hS.F ht⟩) hS.2.2 dX11_paid_37
set_option maxHeartbeats 4000000 in
set_option maxRecDepth 100000 in
theorem y_notice (l : Launch) (dC : Nat → ClassId) (dI : Nat → Nat → Nat) (q : Nat → ClassId) (h0 : Nat) (d : Nat → Nat) (k : Nat → Int32) (z : gS) (f : xF) (hI : xI q h0 d k z f) (p0 p1 : Int32) (u : mS) (hrp : rep q d u z f) (hk0 : k 0 = u.1 3) (hk1 : k 1 = u.1 28) (hk2 : k 2 = u.1 38) (hk3 : k 3 = u.1 39) (hz0 : (z.2 h0).2.1 = 0) (hnw : nwI u) (hpi : plI u) (hfi : fiI u) (sz : Nat) : Met l yX11_notice wsX11_notice ({ frames := 5, cells := 3, slots := 13, locals := 111 }) (va_Pc [.ref h0, .int p0, .int p1] (fun U => U.heap.size = sz ∧ PX dC dI (va_pl z.1 f) (xT q) U ∧ va_D (fun _ => True) (va_pl z.1 f))) (va_Qi (fun (r : Int32) (w : xU) => mkP q h0 d k z f u (mNoticeX u p0 p1) r w) (fun (w : xU) t => va_P (dC, dI) vwCl (va_pl w.2.1.1 w.2.2) t.heap ∧ va_D (va_A (va_pl z.1 f) sz) (va_pl w.2.1.1 w.2.2)) (va_A (va_pl z.1 f) sz)) 3 13 (va_A (va_pl z.1 f) sz) := by
  refine Met.ofW (cc := cX11_notice) (maxL := 4) (ret := (some .int)) (by decide) rfl ?_
  intro p e s m args below meth c s₁ B hml hv
  obtain ⟨rfl, hsz, ⟨⟨hP, hK, hN⟩, hXN⟩, hD0⟩ := hv
  have hx := B.exec
  have hb := B.bytes
  have hr := B.returns
  have hts := atoms_spec (ws := wsX11_notice) B.pre
  have hown : s.vm.findClass RX11 = some m.cls := findClass_of_methodNamed B.named
  have hlocks := B.notSynchronized
  subst hsz
  have hD := hD0.self (sz := s.heap.size)
  generalize hAe : va_A (va_pl z.1 f) s.heap.size = A at hD ⊢
  have hA : ∀ q : Nat, s.heap.size ≤ q → A q := fun q h => by rw [← hAe]; exact Or.inr h
  have hS : va_S A s.heap s.heap [] := va_S.rf
  have hl := lv_entry ([.ref h0, .int p0, .int p1]) (n := 4) (Nat.le_of_ble_eq_true rfl)
  rw [lg_entry_eq]
  generalize (lg_sl ([.ref h0, .int p0, .int p1]) ++ List.replicate (4 - (lg_sl ([.ref h0, .int p0, .int p1])).length) Slot.unset).toArray = ls at hl ⊢
  have hl : lv_has ls 4 [(0, .ref h0), (1, .int p0), (2, .int p1)] := hl
  have hIo := hI
  refine lv_aload_n hx hb dX11_notice_0 rfl (lv_at hl 0 rfl) ?_
  refine lv_iload_n hx hb dX11_notice_1 rfl (lv_at hl 1 rfl) ?_
  obtain ⟨kk_1, hk_2⟩ := pl_at hI.2.1.1.1 hI.2.2.2.1.1
  refine va_csq (va_runV (As := [.int p0]) (rest := []) ⟨hx, hb, hml, hown, hts⟩ (y_itemOf l dC dI q h0 d k z f hI p0 u hrp hk0 hk1 hk2 hk3) (cwV 1 hts gX11_notice_X11_itemOf rfl rfl rfl (by decide +kernel) ⟨Nat.le_of_ble_eq_true rfl, Nat.le_of_ble_eq_true rfl⟩) ⟨px_fb, va_recv hK hP (ci := 10) (q0 := kk_1) rfl hk_2, fun U hU hW => ⟨rfl, px_to hU hW hP hK hN hXN⟩⟩ rfl rfl hl.1 rfl (lv_room (Nat.le_of_ble_eq_true rfl)) dX11_notice_2 ⟨Nat.le_of_ble_eq_true rfl, Nat.le_of_ble_eq_true rfl⟩).run (fun r hw => ?_)
  rcases hw with ⟨hr9, hn9⟩ | ⟨i_3, hi_4, ep_5, hr9⟩
  ·
    subst hr9
    have hno_25 := hn9
    refine W.eq (g2 := F0 m 5 ls [.null]) rfl ?_
    refine lv_astore_nN (lv' := [(3, .null), (0, .ref h0), (1, .int p0), (2, .int p1)]) hx hb dX11_notice_5 rfl hl (by decide) rfl (fun ls hl => ?_)
    refine lv_aload_nN hx hb dX11_notice_6 rfl (lv_at hl 0 rfl) ?_
    refine lv_ifnullN (tgt := 27) hx hb dX11_notice_7 (by decide) ?_
    refine lv_iconst (v := (-1)) hx hb dX11_notice_27 (by decide) ?_
    refine W.widen (k := 3) (n := 13) (Nat.le_of_ble_eq_true rfl) (Nat.le_of_ble_eq_true rfl) ?_
    exact W.iret (v := (-1)) hx hb hr (fun t ht hW => ⟨⟨(-1), (k, z, f), rfl, (mkP_0 hI hrp hk0 (nt_i hno_25)), by rw [ht]; exact hP, hD⟩, hS.F ht⟩) hS.2.2 dX11_notice_28
  ·
    subst hr9
    obtain ⟨rs_6, n_7, g_8, fg_9, hit_10, hs_11, hpa_12, hps_13, h1_14, h6_15, hcb_16, hpl_17, hlg_18, hnn_19, hfa_20, hfs_21, hfe_22, hrs_23, hkt_24⟩ := it_all hI hrp.2.2.1 hi_4
    refine W.eq (g2 := F0 m 5 ls [.ref (d (2000 + i_3))]) rfl ?_
    refine lv_astore_n (lv' := [(3, .ref (d (2000 + i_3))), (0, .ref h0), (1, .int p0), (2, .int p1)]) hx hb dX11_notice_5 rfl hl (by decide) rfl (fun ls hl => ?_)
    refine lv_aload_n hx hb dX11_notice_6 rfl (lv_at hl 0 rfl) ?_
    refine lv_ifnull hx hb dX11_notice_7 ?_
    refine lv_aload_n hx hb dX11_notice_10 rfl (lv_at hl 0 rfl) ?_
    rcases Classical.em (tg z (d (2000 + i_3)) 12) with ht9 | ht9
    ·
      have ht_26 := ht9
      have hkd_28 : u.2 4 i_3 = 5 := (kT_k (kd_05 hrp.2.2.1 hi_4).1 (kd_05 hrp.2.2.1 hi_4).2).2.2.2.2.2 (hkt_24.symm.trans ht_26.2)
      obtain ⟨o_49, hx_39, hx_40, hx_41⟩ := hrs_23.2.2.2.2.2 hkd_28
      have hs_48 : f (d (2000 + i_3)) = .inr (4, [.int (nI i_3), .int (u.2 4 i_3), .ref (d (3000 + i_3)), .int (u.2 22 i_3), .ref (d (4000 + i_3)), .ref (d (2000 + o_49)), .int (u.2 8 i_3)]) := by rw [hs_11, ht_26.2, hx_41]; rfl
      have hit_50 := rI_itm hrp.2.2.1 hx_39
      obtain ⟨kk_51, hk_52⟩ := pl_at ht_26.1 hs_48
      refine va_instS hx hb hown (hts (.classLink RX11 119 RX5) (by decide +kernel)) (hK.1 4 (RX5, TX5, 7) rfl).2 (va_recv hK hP (ci := 4) (q0 := kk_51) rfl hk_52) dX11_notice_11 ?_
      refine lv_if_ne (tgt := 27) hx hb dX11_notice_14 (by decide) (fun c_53 => ?_) (fun c_53 => absurd c_53 (by decide))
      refine lv_iconst (v := (-1)) hx hb dX11_notice_27 (by decide) ?_
      refine W.widen (k := 3) (n := 13) (Nat.le_of_ble_eq_true rfl) (Nat.le_of_ble_eq_true rfl) ?_
      exact W.iret (v := (-1)) hx hb hr (fun t ht hW => ⟨⟨(-1), (k, z, f), rfl, (mkP_0 hI hrp hk0 (by rw [ep_5]; exact nt_k (by rw [nI_clamp (by have := w80i hI.1.1 hk0; have := hi_4; omega)]; exact hkd_28))), by rw [ht]; exact hP, hD⟩, hS.F ht⟩) hS.2.2 dX11_notice_28
    ·
      have hn_27 := ht9
      have hkd_28 : ¬ u.2 4 i_3 = 5 := fun e9 => ht9 ⟨hit_10.1, by rw [hkt_24, e9]; rfl⟩
      refine w_then (F0 m 14 ls [.int 0]) (fun hgo => ?_) ?_
      ·
        rcases x_tag hit_10 with ht8 | ht8 | ht8 | ht8 | ht8 | ht8
        ·
          obtain ⟨nu_54, kd_55, cn_56, pa_57, fa_58, l_59, m_60, hs_61, hs_62, hs_63, hs_64⟩ := x_ifl hI ht8
          obtain ⟨kk_65, hk_66⟩ := pl_at ht8.1 hs_61
          exact va_instNo hx hb hown (hts (.classLink RX11 119 RX5) (by decide +kernel)) hXN.n_X2_X5 (va_recv hK hP (ci := 2) (q0 := kk_65) rfl hk_66) dX11_notice_11 hgo
        ·
          obtain ⟨nu_67, kd_68, cn_69, pa_70, fa_71, o_72, w_73, y_74, hs_75, hs_76, hs_77, hs_78, hq_79⟩ := x_ihd hI ht8
          obtain ⟨kk_80, hk_81⟩ := pl_at ht8.1 hs_75
          exact va_instNo hx hb hown (hts (.classLink RX11 119 RX5) (by decide +kernel)) hXN.n_X3_X5 (va_recv hK hP (ci := 3) (q0 := kk_80) rfl hk_81) dX11_notice_11 hgo
        ·
          exact absurd ht8 ht9
        ·
          obtain ⟨nu_82, kd_83, cn_84, pa_85, fa_86, b_87, pr_88, sp_89, dy_90, hs_91, hs_92, hs_93, hs_94, hq_95, hq_96, hq_97⟩ := x_ipd hI ht8
          obtain ⟨kk_98, hk_99⟩ := pl_at ht8.1 hs_91
          exact va_instNo hx hb hown (hts (.classLink RX11 119 RX5) (by decide +kernel)) hXN.n_X6_X5 (va_recv hK hP (ci := 5) (q0 := kk_98) rfl hk_99) dX11_notice_11 hgo
        ·
          obtain ⟨nu_100, kd_101, cn_102, pa_103, fa_104, ww_105, hh_106, sz_107, hs_108, hs_109, hs_110, hs_111, hq_112, hq_113, hq_114⟩ := x_ipi hI ht8
          obtain ⟨kk_115, hk_116⟩ := pl_at ht8.1 hs_108
          exact va_instNo hx hb hown (hts (.classLink RX11 119 RX5) (by decide +kernel)) hXN.n_X7_X5 (va_recv hK hP (ci := 6) (q0 := kk_115) rfl hk_116) dX11_notice_11 hgo
        ·
          obtain ⟨nu_117, kd_118, cn_119, pa_120, fa_121, l_122, co_123, wd_124, nm_125, hs_126, hs_127, hs_128, hs_129, hq_130, hq_131, hq_132⟩ := x_ist hI ht8
          obtain ⟨kk_133, hk_134⟩ := pl_at ht8.1 hs_126
          exact va_instNo hx hb hown (hts (.classLink RX11 119 RX5) (by decide +kernel)) hXN.n_X10_X5 (va_recv hK hP (ci := 9) (q0 := kk_133) rfl hk_134) dX11_notice_11 hgo
      ·
        refine lv_if_ne (tgt := 27) hx hb dX11_notice_14 (by decide) (fun c_135 => absurd (by decide) c_135) (fun c_135 => ?_)
        refine lv_iload_n hx hb dX11_notice_17 rfl (lv_at hl 3 rfl) ?_
        refine lv_iconst (v := 1) hx hb dX11_notice_18 (by decide) ?_
        refine lv_bipush (v := 20) hx hb dX11_notice_19 (by decide) ?_
        refine vp_callSi (va_runS (As := [.int p1, .int 1, .int 20]) (rest := []) ⟨hx, hb, hml, hown, hts⟩ (x_isWithin l dC dI p1 1 20) (va_cwS 3 hts gX11_notice_X11_isWithin rfl rfl rfl (by decide +kernel) ⟨Nat.le_of_ble_eq_true rfl, Nat.le_of_ble_eq_true rfl⟩) ⟨pw_fb, fun U hU hW => ⟨rfl, pw_to hU hW (hP.sub (ws' := []) [] rfl) (hK.sub (tys' := []) [] rfl) hN⟩⟩ rfl rfl hl.1 rfl (lv_room (Nat.le_of_ble_eq_true rfl)) dX11_notice_21 ⟨Nat.le_of_ble_eq_true rfl, Nat.le_of_ble_eq_true rfl⟩).run (fun r hw => ?_)
        rcases Bool.eq_false_or_eq_true (bw p1 1 20) with b_136 | b_136
        ·
          obtain rfl : r = 1 := b_t hw b_136
          refine lv_if_ne (tgt := 29) hx hb dX11_notice_24 (by decide) (fun c_137 => ?_) (fun c_137 => absurd c_137 (by decide))
          refine lv_aload_n hx hb dX11_notice_29 rfl (lv_at hl 1 rfl) ?_
          refine lv_aload_n hx hb dX11_notice_30 rfl (lv_at hl 0 rfl) ?_
          refine lv_iconst (v := 0) hx hb dX11_notice_31 (by decide) ?_
          obtain ⟨kk_138, hk_139⟩ := pl_at hI.2.1.1.1 hI.2.2.2.1.1
          refine vp_callSi (va_runV (As := [.ref (d (2000 + i_3)), .int 0]) (rest := []) ⟨hx, hb, hml, hown, hts⟩ (y_firstPrinting l dC dI q h0 d k z f hI 0 u hrp hk0 hk1 hk2 hk3 hpi hfi i_3 hi_4) (cwV 2 hts gX11_notice_X11_firstPrinting rfl rfl rfl (by decide +kernel) ⟨Nat.le_of_ble_eq_true rfl, Nat.le_of_ble_eq_true rfl⟩) ⟨px_fb, va_recv hK hP (ci := 10) (q0 := kk_138) rfl hk_139, fun U hU hW => ⟨rfl, px_to hU hW hP hK hN hXN⟩⟩ rfl rfl hl.1 rfl (lv_room (Nat.le_of_ble_eq_true rfl)) dX11_notice_32 ⟨Nat.le_of_ble_eq_true rfl, Nat.le_of_ble_eq_true rfl⟩).run (fun r hw => ?_)
          generalize r = zr_140 at hw ⊢
          have hzr_140 := hw
          refine lv_iconst (v := (-1)) hx hb dX11_notice_35 (by decide) ?_
          refine lv_icmp_eq (tgt := 47) hx hb dX11_notice_36 (by decide) (fun c_141 => ?_) (fun c_141 => ?_)
          ·
            refine lv_iconst (v := (-1)) hx hb dX11_notice_47 (by decide) ?_
            refine W.widen (k := 3) (n := 13) (Nat.le_of_ble_eq_true rfl) (Nat.le_of_ble_eq_true rfl) ?_
            exact W.iret (v := (-1)) hx hb hr (fun t ht hW => ⟨⟨(-1), (k, z, f), rfl, (mkP_0 hI hrp hk0 (by rw [ep_5]; exact nt_p (by rw [← mPr_eq hzr_140, c_141]; decide))), by rw [ht]; exact hP, hD⟩, hS.F ht⟩) hS.2.2 dX11_notice_48
          ·
            refine lv_aload_n hx hb dX11_notice_39 rfl (lv_at hl 1 rfl) ?_
            refine lv_aload_n hx hb dX11_notice_40 rfl (lv_at hl 0 rfl) ?_
            obtain ⟨kk_142, hk_143⟩ := pl_at hI.2.1.1.1 hI.2.2.2.1.1
            refine vp_callSi (va_runV (As := [.ref (d (2000 + i_3))]) (rest := []) ⟨hx, hb, hml, hown, hts⟩ (y_hasNotice l dC dI q h0 d k z f hI u hrp hk0 hk1 hk2 hk3 i_3 hi_4) (cwV 1 hts gX11_notice_X11_hasNotice rfl rfl rfl (by decide +kernel) ⟨Nat.le_of_ble_eq_true rfl, Nat.le_of_ble_eq_true rfl⟩) ⟨px_fb, va_recv hK hP (ci := 10) (q0 := kk_142) rfl hk_143, fun U hU hW => ⟨rfl, px_to hU hW hP hK hN hXN⟩⟩ rfl rfl hl.1 rfl (lv_room (Nat.le_of_ble_eq_true rfl)) dX11_notice_41 ⟨Nat.le_of_ble_eq_true rfl, Nat.le_of_ble_eq_true rfl⟩).run (fun r hw => ?_)
            rcases hw with ⟨hw, hnn_144⟩ | ⟨hw, hnn_144⟩
            ·
              subst hw
              refine lv_if_eq (tgt := 49) hx hb dX11_notice_44 (by decide) (fun c_145 => ?_) (fun c_145 => absurd (by decide) c_145)
              refine lv_aload_n hx hb dX11_notice_49 rfl (lv_at hl 1 rfl) ?_
              refine va_new (ci := 4) (fs := [.int 0, .int 0, .null, .int 0, .null, .null, .int 0]) (C := RX5) (T := TX5) (N := 7) hx hb hts (by decide +kernel) tyX5 tyX5_ok hown (hts (.classLink RX11 119 RX5) (by decide +kernel)) (hts (.instantiable RX5 7) (by decide +kernel)) (hts (.initialized RX5) (by decide +kernel)) hK hP hD hS hA rfl nwX5 (Nat.le_of_ble_eq_true rfl) (Nat.le_of_ble_eq_true rfl) dX11_notice_50 (fun q_146 H hPn hDn hS => ?_)
              have hP := vaP_l hPn
              refine W.widen (k := 1) (n := 7) (Nat.le_of_ble_eq_true rfl) (Nat.le_of_ble_eq_true rfl) ?_
              refine lv_dup hx hb dX11_notice_53 rfl ?_
              refine lv_aload_n hx hb dX11_notice_54 rfl (lv_at hl 1 rfl) ?_
              obtain ⟨kk_147, hk_148⟩ := pl_at hI.2.1.1.1 hI.2.2.2.1.1
              refine va_get (D := (dC, dI)) (ci := 10) (v := .int (k 0)) (C := RX11) (T := TX11) (N := 9) hx hb hts (by decide +kernel) hown hK hP kk_147 hk_148 rfl 3 (by decide) (hts (.fieldLink RX11 24 "PageOne" "itemCount" "I") (by decide +kernel)) (fun _ h9 => h9) rfl dX11_notice_55 ?_
              refine lv_aload_n hx hb dX11_notice_58 rfl (lv_at hl 0 rfl) ?_
              refine lv_iload_n hx hb dX11_notice_59 rfl (lv_at hl 3 rfl) ?_
              have hPc := vaP_r hPn
              have hDc := vaD_r hDn
              have hFc := fr_part hDn hS hA
              refine va_callv (va_runI (As := [.int (k 0), .ref (d (2000 + i_3)), .int p1]) (rest := [.ref q_146, .ref h0]) ⟨hx, hb, hml, hown, hts⟩ (xn_Notice l dC dI q_146 (d (2000 + i_3)) (q 0) (q 5) (k 0) p1 H.size) (cwI 3 hts gX11_notice_X5_init rfl rfl rfl (hts (.initialized RX5) (by decide +kernel)) (hts (.methodLink RX11 129 yX5_init) (by decide +kernel)) (hts (.instanceMethod yX5_init) (by decide +kernel)) rfl (by decide +kernel) ⟨Nat.le_of_ble_eq_true rfl, Nat.le_of_ble_eq_true rfl⟩) ⟨gw_fb, fun U hU hW => ⟨rfl, by rw [hU], pw_to hU hW hPc (hK.sub (tys' := [(q 0, .int), (q 5, .object "PageOne$Piece")]) [0, 5] rfl) hN, hDc.weaken (fun _ _ _ _ => trivial)⟩⟩ rfl rfl hl.1 rfl (lv_room (Nat.le_of_ble_eq_true rfl)) dX11_notice_60 ⟨Nat.le_of_ble_eq_true rfl, Nat.le_of_ble_eq_true rfl⟩) hS (fun q _ h => hFc q h) hFc (fun u9 t H1 locs ht hvm hw hB hz1 hk1 hS => ?_)
              obtain ⟨qa_149, qa_150, hP1, hD1⟩ := hB
              rw [ht] at hP1
              obtain ⟨hP, hD⟩ := va_joinQ (X := [(q_146, .inr (4, [.int 0, .int 0, .null, .int 0, .null, .null, .int 0]))]) (cx := [(q_146, .inr (4, [.int 0, .int 0, .null, .int 0, .null, .null, .int 0]))]) (wr := []) (w1 := [(qa_149, aI (q 0) 5 (fun _ => (-1))), (qa_150, aR (q 5) 1 (fun _ => none)), (q_146, .inr (4, [.int (k 0), .int 5, .ref qa_150, .int 0, .ref qa_149, .ref (d (2000 + i_3)), .int p1]))]) (pl := va_pl z.1 f) (vaP_swap hPn) (vaD_rotR hDn) [0] [] rfl rfl rfl (fun i hi => absurd hi List.not_mem_nil) hk1 hFc hP1 hD1
              generalize H1 = H at hP hS ⊢
              obtain ⟨hnm_151, hP, hD⟩ := pushC hP hD
              obtain ⟨z_152, ez_152⟩ : ∃ y : gS, y = pz z qa_149 (17, 4000 + (u.1 3).toNatClampNeg, []) := ⟨_, rfl⟩
              obtain ⟨f_153, ef_153⟩ : ∃ y : xF, y = va_up f qa_149 (aI (q 0) 5 (fun _ => (-1))) := ⟨_, rfl⟩
              have hE_154 : zE z z_152 := by rw [ez_152]; exact pz_E hnm_151 _
              have hI : xI q h0 d k z_152 f_153 := by rw [ez_152, ef_153]; exact x_push hI hnm_151 (Or.inr (by decide : (15 : Nat) < 17)) (cO_17 (by rw [pz_s]) ⟨_, rfl⟩)
              rw [show z.1 ++ [qa_149] = z_152.1 from by rw [ez_152]; rfl, ← ef_153] at hP hD
              have hit_10 := zE_itm hE_154 hit_10
              have hpa_12 := zE_tg hE_154 hpa_12
              have hfa_20 := zE_tg hE_154 hfa_20
              have ht_155 : tg z_152 qa_149 17 := by rw [ez_152]; exact pz_t _ _ _
              have hEz : zE z z_152 := zE_tr (zE_rf z) hE_154
              have hc_156 : nC z_152 f_153 qa_149 17 (4000 + (u.1 3).toNatClampNeg) (aI (q 0) 5 (fun _ => (-1))) := by rw [ez_152, ef_153]; exact nC_new
              have hoK : oK z f f_153 := by rw [ef_153]; exact oK_push (fun _ _ => rfl) (zE_rf z) hnm_151
              have hEo := hEz
              obtain ⟨hnm_157, hP, hD⟩ := pushC hP hD
              obtain ⟨z_158, ez_158⟩ : ∃ y : gS, y = pz z_152 qa_150 (16, q_146, []) := ⟨_, rfl⟩
              obtain ⟨f_159, ef_159⟩ : ∃ y : xF, y = va_up f_153 qa_150 (aR (q 5) 1 (fun _ => none)) := ⟨_, rfl⟩
              have hE_160 : zE z_152 z_158 := by rw [ez_158]; exact pz_E hnm_157 _
              have hI : xI q h0 d k z_158 f_159 := by rw [ez_158, ef_159]; exact x_push hI hnm_157 (Or.inr (by decide : (15 : Nat) < 16)) (cO_16 (by rw [pz_s]) ⟨1, by decide, by decide, _, rfl, fun _ _ b hb => by cases hb⟩)
              rw [show z_152.1 ++ [qa_150] = z_158.1 from by rw [ez_158]; rfl, ← ef_159] at hP hD
              have hpf9 : f_159 qa_150 = aR (q 5) 1 (fun _ => none) := by rw [ef_159]; exact up_s
              have ho9 : (z_158.2 qa_150).2.1 = q_146 := by rw [ez_158, pz_s]
              have hit_10 := zE_itm hE_160 hit_10
              have hpa_12 := zE_tg hE_160 hpa_12
              have hfa_20 := zE_tg hE_160 hfa_20
              have ht_155 := zE_tg hE_160 ht_155
              have ht_161 : tg z_158 qa_150 16 := by rw [ez_158]; exact pz_t _ _ _
              have hEz : zE z z_158 := zE_tr hEz hE_160
              have hc_156 : nC z_158 f_159 qa_149 17 (4000 + (u.1 3).toNatClampNeg) (aI (q 0) 5 (fun _ => (-1))) := by rw [ez_158, ef_159]; exact nC_push hc_156 hnm_157
              have hc_162 : nC z_158 f_159 qa_150 16 (q_146) (aR (q 5) 1 (fun _ => none)) := by rw [ez_158, ef_159]; exact nC_new
              have hoK : oK z f f_159 := by rw [ef_159]; exact oK_push hoK hEo hnm_157
              have hEo := hEz
              obtain ⟨hnm_163, hP, hD⟩ := pushC hP hD
              obtain ⟨z_164, ez_164⟩ : ∃ y : gS, y = pz z_158 q_146 (12, 2000 + (u.1 3).toNatClampNeg, []) := ⟨_, rfl⟩
              obtain ⟨f_165, ef_165⟩ : ∃ y : xF, y = va_up f_159 q_146 (.inr (4, [.int (k 0), .int 5, .ref qa_150, .int 0, .ref qa_149, .ref (d (2000 + i_3)), .int p1])) := ⟨_, rfl⟩
              have hE_166 : zE z_158 z_164 := by rw [ez_164]; exact pz_E hnm_163 _
              have hI : xI q h0 d k z_164 f_165 := by rw [ez_164, ef_165]; exact x_pushIo (n := 1) hI hnm_163 (by decide) ht_161 ho9 ht_155 hpf9 (by decide) ⟨fun x => absurd x (by decide), fun x => absurd x (by decide), fun _ => ⟨_, _, rfl, zE_itm (pz_E hnm_163 _) hit_10⟩, fun x => absurd x (by decide), fun x => absurd x (by decide), fun x => absurd x (by decide)⟩
              rw [show z_158.1 ++ [q_146] = z_164.1 from by rw [ez_164]; rfl, ← ef_165] at hP hD
              have hpf9 : f_165 qa_150 = aR (q 5) 1 (fun _ => none) := by rw [ef_165, up_o (fun e => hnm_163 (by rw [← e]; exact ht_161.1))]; exact hpf9
              have ho9 : (z_164.2 qa_150).2.1 = q_146 := by rw [zE_o hE_166 ht_161.1]; exact ho9
              have hit_10 := zE_itm hE_166 hit_10
              have hpa_12 := zE_tg hE_166 hpa_12
              have hfa_20 := zE_tg hE_166 hfa_20
              have ht_155 := zE_tg hE_166 ht_155
              have ht_161 := zE_tg hE_166 ht_161
              have ht_167 : tg z_164 q_146 12 := by rw [ez_164]; exact pz_t _ _ _
              have hEz : zE z z_164 := zE_tr hEz hE_166
              have hc_156 : nC z_164 f_165 qa_149 17 (4000 + (u.1 3).toNatClampNeg) (aI (q 0) 5 (fun _ => (-1))) := by rw [ez_164, ef_165]; exact nC_push hc_156 hnm_163
              have hc_162 : nC z_164 f_165 qa_150 16 (q_146) (aR (q 5) 1 (fun _ => none)) := by rw [ez_164, ef_165]; exact nC_push hc_162 hnm_163
              have hc_168 : nC z_164 f_165 q_146 12 (2000 + (u.1 3).toNatClampNeg) (.inr (4, [.int (k 0), .int 5, .ref qa_150, .int 0, .ref qa_149, .ref (d (2000 + i_3)), .int p1])) := by rw [ez_164, ef_165]; exact nC_new
              have hoK : oK z f f_165 := by rw [ef_165]; exact oK_push hoK hEo hnm_163
              refine W.widen (k := 3) (n := 13) (Nat.le_of_ble_eq_true rfl) (Nat.le_of_ble_eq_true rfl) ?_
              refine W.eq (g2 := F0 m 63 ls [.ref q_146, .ref h0]) rfl ?_
              obtain ⟨kk_169, hk_170⟩ := pl_at hI.2.1.1.1 hI.2.2.2.1.1
              have hFc := fr_all hD hS hA
              refine va_calli (va_runV (As := [.ref q_146]) (rest := []) ⟨hx, hb, hml, hown, hts⟩ (y_enter l dC dI q h0 d k z_164 f_165 hI q_146 (tg_itm ht_167 (by decide)) (k 0) 5 0 qa_150 qa_149 [.ref (d (2000 + i_3)), .int p1] (by rw [hc_168.2.2, hc_168.1.2]; rfl) H.size) (cwV 1 hts gX11_notice_X11_enter rfl rfl rfl (by decide +kernel) ⟨Nat.le_of_ble_eq_true rfl, Nat.le_of_ble_eq_true rfl⟩) ⟨gx_fb, va_recv hK hP (ci := 10) (q0 := kk_169) rfl hk_170, fun U hU hW => ⟨rfl, by rw [hU], px_to hU hW hP hK hN hXN, hD.weaken (fun _ _ _ _ => trivial)⟩⟩ rfl rfl hl.1 rfl (lv_room (Nat.le_of_ble_eq_true rfl)) dX11_notice_63 ⟨Nat.le_of_ble_eq_true rfl, Nat.le_of_ble_eq_true rfl⟩) hS (fun q _ h => hFc q h) hFc (fun r w_171 t H1 locs ht hvm hw hB hz1 hk1 hS => ?_)
              obtain ⟨hP, hD1⟩ := hB
              rw [ht] at hP
              rw [hw.1] at hP hD1
              have hD := hD1.weaken (fun _ q _ h => hFc q.1 h)
              have hI := hw.2.1
              have hw0 := hw
              generalize w_171.1 = k_173 at hI hw0
              generalize w_171.2.2 = f_172 at hP hD hI hw0
              generalize H1 = H at hP hS ⊢
              exact W.iret (v := r) hx hb hr (fun t ht hW => ⟨⟨r, (k_173, z_164, f_172), rfl, (by rw [ep_5]; exact mk_Notice (a5 := 0) (a6 := 0) hIo hrp hk0 hz0 hnw hI hEz hoK hw0.2.2 hc_168 hc_162 hc_156 hi_4 hkd_28 b_136 (by rw [← mPr_eq hzr_140]; rcases pr_0 hzr_140 (by rw [← hk2]; exact hIo.1.2.2) with h8 | h8; exact absurd h8 c_141; exact h8) hnn_144), by rw [ht]; exact hP, hD⟩, hS.F ht⟩) hS.2.2 dX11_notice_66
            ·
              subst hw
              refine lv_if_eq (tgt := 49) hx hb dX11_notice_44 (by decide) (fun c_174 => absurd c_174 (by decide)) (fun c_174 => ?_)
              refine lv_iconst (v := (-1)) hx hb dX11_notice_47 (by decide) ?_
              refine W.widen (k := 3) (n := 13) (Nat.le_of_ble_eq_true rfl) (Nat.le_of_ble_eq_true rfl) ?_
              exact W.iret (v := (-1)) hx hb hr (fun t ht hW => ⟨⟨(-1), (k, z, f), rfl, (mkP_0 hI hrp hk0 (by rw [ep_5]; exact nt_n hnn_144)), by rw [ht]; exact hP, hD⟩, hS.F ht⟩) hS.2.2 dX11_notice_48
        ·
          obtain rfl : r = 0 := b_f hw b_136
          refine lv_if_ne (tgt := 29) hx hb dX11_notice_24 (by decide) (fun c_175 => absurd (by decide) c_175) (fun c_175 => ?_)
          refine lv_iconst (v := (-1)) hx hb dX11_notice_27 (by decide) ?_
          refine W.widen (k := 3) (n := 13) (Nat.le_of_ble_eq_true rfl) (Nat.le_of_ble_eq_true rfl) ?_
          exact W.iret (v := (-1)) hx hb hr (fun t ht hW => ⟨⟨(-1), (k, z, f), rfl, (mkP_0 hI hrp hk0 (by rw [ep_5]; exact nt_h (bne b_136))), by rw [ht]; exact hP, hD⟩, hS.F ht⟩) hS.2.2 dX11_notice_28
theorem setR_in (f : Nat → Int32) (P X Y n : Nat) (x : Int32) : ∀ D a b, a < D → b < n → setR f P X Y n x D (480 * P + 60 * (X + a) + (Y + b)) = x
  | 0, _, _, h, _ => absurd h (Nat.not_lt_zero _)
  | D + 1, a, b, ha, hb => by
    show setC (setR f P X Y n x D) P (X + D) Y n x _ = x
    unfold setC
    by_cases e : 480 * P + 60 * (X + D) + Y ≤ 480 * P + 60 * (X + a) + (Y + b) ∧ 480 * P + 60 * (X + a) + (Y + b) < 480 * P + 60 * (X + D) + Y + n
    · rw [if_pos e]
    · rw [if_neg e]
      have : a ≠ D := fun q => e (by subst q; omega)
      exact setR_in f P X Y n x D a b (by omega) hb
theorem setR_out {f : Nat → Int32} {P X Y n : Nat} {x : Int32} {j : Nat} : ∀ {D : Nat}, (∀ a b, a < D → b < n → j ≠ 480 * P + 60 * (X + a) + (Y + b)) → setR f P X Y n x D j = f j
  | 0, _ => rfl
  | D + 1, h => by
    show setC (setR f P X Y n x D) P (X + D) Y n x j = f j
    unfold setC
    rw [if_neg (fun e => h D (j - (480 * P + 60 * (X + D) + Y)) (by omega) (by omega) (by omega))]
    exact setR_out (fun a b ha hb => h a b (by omega) hb)
theorem setR_c (f : Nat → Int32) (P X Y n : Nat) (x : Int32) (D j : Nat) : (∃ a b, a < D ∧ b < n ∧ j = 480 * P + 60 * (X + a) + (Y + b)) ∨ ∀ a b, a < D → b < n → j ≠ 480 * P + 60 * (X + a) + (Y + b) := by
  rcases Classical.em (∃ a b, a < D ∧ b < n ∧ j = 480 * P + 60 * (X + a) + (Y + b)) with h | h
  · exact Or.inl h
  · exact Or.inr fun a b ha hb e => h ⟨a, b, ha, hb, e⟩
/-- a page's cells marked: both rows alike -/
theorem setR_pg {f g : Nat → Int32} {P X Y n : Nat} {x : Int32} {D : Nat} (hX : X + D ≤ 8) (hY : Y + n ≤ 60) (h : eqR 480 g f (480 * P)) : eqR 480 (setR g 0 X Y n x D) (setR f P X Y n x D) (480 * P) := by
  intro t ht
  rcases setR_c g 0 X Y n x D t with ⟨a, b, ha, hb, e⟩ | hn
  · have e2 : 480 * P + t = 480 * P + 60 * (X + a) + (Y + b) := by omega
    rw [e2, e, setR_in _ _ _ _ _ _ _ _ _ ha hb, setR_in _ _ _ _ _ _ _ _ _ ha hb]
  · rw [setR_out hn, setR_out (fun a b ha hb e => hn a b ha hb (by omega))]
    exact h t ht
theorem setR_op {f : Nat → Int32} {P X Y n : Nat} {x : Int32} {D j t : Nat} (hX : X + D ≤ 8) (hY : Y + n ≤ 60) (hj : j ≠ P) (ht : t < 480) : setR f P X Y n x D (480 * j + t) = f (480 * j + t) := setR_out (fun a b ha hb e => by
  have h1 : 60 * (X + a) + (Y + b) < 480 := by omega
  omega)
theorem rep_mark {q d u z f} {P X Y n D : Nat} {x : Int32} {gc : Nat → Int32} (h : rep q d u z f) (hP : P < 12) (hX : X + D ≤ 8) (hY : Y + n ≤ 60) (hg : f (d (50 + P)) = aI (q 0) 480 gc) : rep q d (mput u 2 (setR (u.2 2) P X Y n x D)) z (va_up f (d (50 + P)) (aI (q 0) 480 (setR gc 0 X Y n x D))) := by
  obtain ⟨m1, m2, m3, dd, ii, s1, ⟨gl, s2, s3⟩, gc2, s4, s5⟩ := h.1.2 P hP
  obtain rfl := (aI_inj (hg.symm.trans s4)).2
  generalize hw9 : mput u 2 (setR (u.2 2) P X Y n x D) = w
  have w2 : ∀ r, r ≠ 2 → w.2 r = u.2 r := fun r r1 => by rw [← hw9, mput_other r1]
  have w0 : w.2 2 = setR (u.2 2) P X Y n x D := by rw [← hw9]; rfl
  have w1 : w.1 = u.1 := by rw [← hw9]; rfl
  have hf : fK d z f (va_up f (d (50 + P)) (aI (q 0) 480 (setR gc 0 X Y n x D))) (fun x => x = 50 + P) := fK_up (fK_rf d z f _) m3 (by decide) rfl
  refine rep_pg (p := P) h hf (fun x hx => by omega) hP w1 (fun r r1 => w2 r (by omega)) (fun j hj hjp => ⟨by rw [w2 1 (by omega)], fun t ht => by rw [w2 0 (by omega)], fun t ht => by rw [w0, setR_op hX hY hjp ht]⟩) ⟨dd, ii, ?_, ⟨gl, ?_, ?_⟩, _, up_s, ?_⟩
  · rw [hf.1 _ _ m1 (by omega), w2 1 (by omega)]; exact s1
  · rw [hf.1 _ _ m2 (by omega)]; exact s2
  · rw [w2 0 (by omega)]; exact s3
  · rw [w0]; exact setR_pg hX hY s5
theorem fK_3 {d : Nat → Nat} {z : gS} {f f1 : xF} {X : Nat → Prop} {i : Nat} {e : va_E} (h : fK d z f f1 X) (ht : tg z (d (3000 + i)) 16) (ho2 : ∀ j, j < 1000 → ¬ X (3000 + j) → d (3000 + j) ≠ d (3000 + i)) : fK d z f (va_up f1 (d (3000 + i)) e) X := by
  refine ⟨fun x t hn hX => ?_, fun j hj hX => ?_⟩
  · rw [up_o (tg_ne hn.1 ht hn.2.2)]; exact h.1 x t hn hX
  · rw [up_o (ho2 j hj.2 hX)]; exact h.2 j hj hX
/-- the pieces' rows of two items are two -/
theorem d3_inj {q h0 d k z f u} (hI : xI q h0 d k z f) (h : rIs q d u z f) {i j : Nat} (hi : i < (u.1 3).toNatClampNeg) (hj : j < (u.1 3).toNatClampNeg) (e : d (3000 + i) = d (3000 + j)) : i = j := by
  have own : ∀ i, i < (u.1 3).toNatClampNeg → (z.2 (d (3000 + i))).2.1 = d (2000 + i) := fun i hi => by
    obtain ⟨n1, n2, n3, hkd, rs, g, fg, hs, -⟩ := h.2 i hi
    obtain ⟨nu, kd, cn, pa, fa, rs2, hs2, o1, o2, o3, o4⟩ := x_im hI (rI_itm h hi)
    have e := (Prod.mk.inj (Sum.inr.inj (hs.symm.trans hs2))).2
    unfold itF at e
    simp only [List.cons.injEq, Value.ref.injEq] at e
    rw [e.2.2.1]; exact o2
  refine d_inj h hi hj ?_
  rw [← own i hi, ← own j hj, e]
/-- a write at an item alone, its pieces' row among it -/
theorem rep_it2 {q d u w z f f2} {X : Nat → Prop} {i : Nat} (h : rep q d u z f) (hf : fK d z f f2 X) (hX : ∀ x, X x → x = 2000 + i ∨ (3000 ≤ x ∧ x < 4000 ∧ d x = d (3000 + i))) (hinj : ∀ j, j < (u.1 3).toNatClampNeg → d (3000 + j) = d (3000 + i) → j = i) (hi : i < 80) (hn : (u.1 3).toNatClampNeg ≤ 80) (hs : ∀ j, j < (u.1 3).toNatClampNeg → j ≠ i → sI u w j) (h1 : w.1 = u.1) (hr : ∀ r, r < 3 ∨ r = 4 ∨ r = 20 ∨ (40 ≤ r ∧ r ≤ 44) → w.2 r = u.2 r) (hit : rIt q d w z f2 i) : rep q d w z f2 := by
  obtain ⟨h1g, h1l, ⟨⟨g, a1, a2⟩, a3⟩, h1v, n0, n1, n2, n3, n4⟩ := h
  have nx : ∀ x, x < 2000 → ¬ X x := fun x hx hX2 => by rcases hX x hX2 with e | e <;> omega
  refine ⟨rPg_fr h1g (zE_rf z) (fun _ _ => rfl) hf (fun x hx _ _ _ _ => nx x (by omega)) n0 (hr 0 (by omega)) (hr 1 (by omega)) (hr 2 (by omega)), rPl_fr h1l (zE_rf z) rfl (fun _ _ _ => rfl) hf (nx 1 (by omega)) (fun x _ hx => nx x (by omega)) n1 (fun r r1 r2 => hr r (by omega)), ⟨⟨g, by rw [hf.1 2 _ n2 (nx 2 (by omega))]; exact a1, fun j hj => a2 j (by rw [← h1]; exact hj)⟩, fun j hj => ?_⟩, rRv_fr h1v rfl (hf.1 4 _ n4 (nx 4 (by omega))) (hr 20 (by omega)), n0, n1, n2, n3, n4⟩
  rw [h1] at hj
  by_cases e : j = i
  · rw [e]; exact hit
  · refine rIt_fr (a3 j hj) (zE_rf z) ⟨rfl, rfl, rfl, rfl, rfl⟩ hf ?_ (hs j hj e) (by rw [h1]; exact Nat.le_refl _) (fun o _ => ⟨rfl, by rw [hr 4 (by omega)]⟩)
    refine ⟨fun x => ?_, fun x => ?_, fun x => ?_, fun x => ?_, fun x => ?_⟩ <;> rcases hX _ x with e2 | ⟨e2, e3, e4⟩ <;> first | omega | exact e (hinj j hj e4)
/-- an item's count and pieces -/
theorem rep_pcs {q d u w z f} {i : Nat} {n : Nat} {g2 : Nat → Option Nat} {rs : List Value} {cn : Int32} {f2 : xF} (h : rep q d u z f) (hn : bw (u.1 3) 0 80 = true) (hi : i < (u.1 3).toNatClampNeg) (hnn : n = if u.2 4 i = 0 then 6 else 1) (hs : f (d (2000 + i)) = .inr (ciT (z.2 (d (2000 + i))).1, itF (nI i) (u.2 4 i) (d (3000 + i)) cn (d (4000 + i)) rs)) (hf2a : f2 (d (2000 + i)) = .inr (ciT (z.2 (d (2000 + i))).1, itF (nI i) (u.2 4 i) (d (3000 + i)) (w.2 22 i) (d (4000 + i)) rs)) (hf2b : f2 (d (3000 + i)) = aR (q 5) n g2) (hf : fK d z f f2 (fun x => x = 2000 + i ∨ (3000 ≤ x ∧ x < 4000 ∧ d x = d (3000 + i)))) (hinj : ∀ j, j < (u.1 3).toNatClampNeg → d (3000 + j) = d (3000 + i) → j = i) (hp : ∀ k, k < (w.2 22 i).toNatClampNeg → ∃ b, g2 k = some b ∧ pcS z b (some (d (2000 + i))) (pR w i k 0) (pR w i k 1) (pR w i k 2) (pR w i k 3) (pR w i k 4)) (w1 : w.1 = u.1) (wr : ∀ r, r < 22 ∨ 27 < r → w.2 r = u.2 r) (wo : ∀ j, j ≠ i → w.2 22 j = u.2 22 j) (wp : ∀ r, 23 ≤ r → r ≤ 27 → ∀ j, j < (u.1 3).toNatClampNeg → j ≠ i → ∀ t, t < (u.2 22 j).toNatClampNeg → w.2 r (6 * j + t) = u.2 r (6 * j + t)) : rep q d w z f2 := by
  have hi8 := (bw_it hn hi).2
  have hN := w80 hn
  obtain ⟨n1, n2, n3, hkd, rs2, g9, fg, hsl, hps, hpcs, hfs, hfe, hrs⟩ := h.2.2.1.2 i hi
  obtain rfl : rs = rs2 := by
    have e := (Prod.mk.inj (Sum.inr.inj (hs.symm.trans hsl))).2
    unfold itF at e
    simp only [List.cons.injEq] at e
    exact e.2.2.2.2.2
  have q4 : w.2 4 = u.2 4 := wr 4 (by omega)
  refine rep_it2 (i := i) h hf (fun x hx => hx) hinj hi8 hN (fun j hj hji => ?_) w1 (fun r hr => wr r (by omega)) ?_
  · refine ⟨fun r r1 r2 r3 r4 r5 r6 r7 => ?_, fun r r1 r2 t ht => wp r r1 r2 j hj hji t ht, fun t _ => by rw [wr 47 (by omega)], fun t _ => by rw [wr 16 (by omega)], fun t ht => by rw [wr 18 (by omega), wr 19 (by omega)]; exact ⟨rfl, rfl⟩, fun t _ => by rw [wr 21 (by omega)], fun t _ => by rw [wr 48 (by omega)]⟩
    by_cases e : r = 22
    · rw [e]; exact wo j hji
    · rw [wr r (by omega)]
  · refine ⟨by rw [q4]; exact n1, n2, n3, by rw [q4]; exact hkd, rs, g2, fg, ?_, ?_, hp, ?_, ?_, ?_⟩
    · rw [hf2a, q4]
    · rw [hf2b, q4, hnn]
    · rw [hf.1 _ _ n3 (by omega)]; exact hfs
    · rw [wr 47 (by omega)]; exact hfe
    · obtain ⟨k0, k1, k2, k3, k4, k5⟩ := hrs
      unfold rRs
      rw [q4, wr 5 (by omega), wr 6 (by omega), wr 7 (by omega), wr 8 (by omega), wr 9 (by omega), wr 10 (by omega), wr 11 (by omega), wr 12 (by omega), wr 13 (by omega), wr 14 (by omega), wr 15 (by omega), wr 16 (by omega), wr 17 (by omega), wr 18 (by omega), wr 19 (by omega), wr 21 (by omega), wr 48 (by omega), w1]
      refine ⟨fun e => ?_, k1, fun e => ?_, fun e => ?_, k4, k5⟩
      · obtain ⟨a1, a2, a3, ⟨g1, a4, a5⟩, g3, a6, a7⟩ := k0 e
        exact ⟨a1, a2, a3, ⟨g1, by rw [hf.1 _ _ a2 (by omega)]; exact a4, a5⟩, g3, by rw [hf.1 _ _ a3 (by omega)]; exact a6, a7⟩
      · obtain ⟨a1, a2, a3, ⟨g1, a4, a5⟩, g3, a6, a7⟩ := k2 e
        exact ⟨a1, a2, a3, ⟨g1, by rw [hf.1 _ _ a2 (by omega)]; exact a4, a5⟩, g3, by rw [hf.1 _ _ a3 (by omega)]; exact a6, a7⟩
      · obtain ⟨a1, a2, a3, g1, a4, a5⟩ := k3 e
        exact ⟨a1, a2, a3, g1, by rw [hf.1 _ _ a3 (by omega)]; exact a4, a5⟩
/-- rep looks at these rows alone -/
theorem rep_ext {q d u w z f} (h : rep q d u z f) (h3 : w.1 3 = u.1 3) (hr : ∀ r, r ≤ 2 ∨ (4 ≤ r ∧ r ≤ 22) ∨ (40 ≤ r ∧ r ≤ 44) ∨ r = 47 ∨ r = 48 → w.2 r = u.2 r) (hp : ∀ r, 23 ≤ r → r ≤ 27 → ∀ j, j < (u.1 3).toNatClampNeg → ∀ t, t < (u.2 22 j).toNatClampNeg → w.2 r (6 * j + t) = u.2 r (6 * j + t)) : rep q d w z f := by
  obtain ⟨h1g, h1l, ⟨⟨g, a1, a2⟩, a3⟩, h1v, n0, n1, n2, n3, n4⟩ := h
  have hf : fK d z f f (fun _ => False) := fK_rf d z f _
  refine ⟨rPg_fr h1g (zE_rf z) (fun _ _ => rfl) hf (fun _ _ _ _ _ _ h => h) n0 (hr 0 (by omega)) (hr 1 (by omega)) (hr 2 (by omega)), rPl_fr h1l (zE_rf z) rfl (fun _ _ _ => rfl) hf (fun h => h) (fun _ _ _ h => h) n1 (fun r r1 r2 => hr r (by omega)), ⟨⟨g, a1, fun j hj => a2 j (by rw [← h3]; exact hj)⟩, fun j hj => ?_⟩, rRv_fr h1v rfl rfl (hr 20 (by omega)), n0, n1, n2, n3, n4⟩
  rw [h3] at hj
  refine rIt_fr (a3 j hj) (zE_rf z) ⟨rfl, rfl, rfl, rfl, rfl⟩ hf ⟨fun h => h, fun h => h, fun h => h, fun h => h, fun h => h⟩ ⟨fun r r1 r2 _ _ _ _ _ => by rw [hr r (by omega)], fun r r1 r2 t ht => hp r r1 r2 j hj t ht, fun t _ => by rw [hr 47 (by omega)], fun t _ => by rw [hr 16 (by omega)], fun t _ => by rw [hr 18 (by omega), hr 19 (by omega)]; exact ⟨rfl, rfl⟩, fun t _ => by rw [hr 21 (by omega)], fun t _ => by rw [hr 48 (by omega)]⟩ (by rw [h3]; exact Nat.le_refl _) (fun o _ => ⟨rfl, by rw [hr 4 (by omega)]⟩)
