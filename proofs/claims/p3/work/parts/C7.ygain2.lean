/-- the slot and the count of a piece that is put, without its cells -/
def gU (u : mS) (i : Int32) (P X Y D N : Nat) : mS :=
  let k := 6 * i + u.2 22 i.toNatClampNeg
  let u5 := mst (mst (mst (mst (mst u 23 k (nI P)) 24 k (nI X)) 25 k (nI Y)) 26 k (nI D)) 27 k (nI N)
  mst u5 22 i (u5.2 22 i.toNatClampNeg + 1)
theorem mStand_gU (u : mS) (i : Int32) (P X Y D N : Nat) : mStand u i P X Y D N = mput (gU u i P X Y D N) 2 (setR ((gU u i P X Y D N).2 2) P X Y N i D) := rfl
theorem gU_k (u : mS) (i : Int32) (P X Y D N : Nat) {r : Nat} (h : r < 22 ∨ 27 < r) : (gU u i P X Y D N).2 r = u.2 r := by
  unfold gU
  dsimp only
  rw [mst_other (by omega), mst_other (by omega), mst_other (by omega), mst_other (by omega), mst_other (by omega), mst_other (by omega)]
theorem gU_22 (u : mS) (i : Int32) (P X Y D N : Nat) (j : Nat) : (gU u i P X Y D N).2 22 j = if j = i.toNatClampNeg then u.2 22 i.toNatClampNeg + 1 else u.2 22 j := by
  unfold gU
  dsimp only
  rw [mst_at, mst_other (by decide), mst_other (by decide), mst_other (by decide), mst_other (by decide), mst_other (by decide)]
theorem gU_p (u : mS) (i : Int32) (P X Y D N : Nat) (j : Nat) : (gU u i P X Y D N).2 23 j = (if j = (6 * i + u.2 22 i.toNatClampNeg).toNatClampNeg then nI P else u.2 23 j) ∧ (gU u i P X Y D N).2 24 j = (if j = (6 * i + u.2 22 i.toNatClampNeg).toNatClampNeg then nI X else u.2 24 j) ∧ (gU u i P X Y D N).2 25 j = (if j = (6 * i + u.2 22 i.toNatClampNeg).toNatClampNeg then nI Y else u.2 25 j) ∧ (gU u i P X Y D N).2 26 j = (if j = (6 * i + u.2 22 i.toNatClampNeg).toNatClampNeg then nI D else u.2 26 j) ∧ (gU u i P X Y D N).2 27 j = (if j = (6 * i + u.2 22 i.toNatClampNeg).toNatClampNeg then nI N else u.2 27 j) := by
  unfold gU
  dsimp only
  refine ⟨?_, ?_, ?_, ?_, ?_⟩
  · rw [mst_other (by decide), mst_other (by decide), mst_other (by decide), mst_other (by decide), mst_other (by decide), mst_at]
  · rw [mst_other (by decide), mst_other (by decide), mst_other (by decide), mst_other (by decide), mst_at, mst_other (by decide)]
  · rw [mst_other (by decide), mst_other (by decide), mst_other (by decide), mst_at, mst_other (by decide), mst_other (by decide)]
  · rw [mst_other (by decide), mst_other (by decide), mst_at, mst_other (by decide), mst_other (by decide), mst_other (by decide)]
  · rw [mst_other (by decide), mst_at, mst_other (by decide), mst_other (by decide), mst_other (by decide), mst_other (by decide)]
theorem gU_5 {u : mS} {i c : Nat} {P X Y D N : Nat} (hi : i < 80) (hc : u.2 22 i = nI c) (hc6 : c < 6) {r : Nat} (r1 : 23 ≤ r) (r2 : r ≤ 27) (j : Nat) : (gU u (nI i) P X Y D N).2 r j = if j = 6 * i + c then (if r = 23 then nI P else if r = 24 then nI X else if r = 25 then nI Y else if r = 26 then nI D else nI N) else u.2 r j := by
  have e6 : (6 * nI i + u.2 22 (nI i).toNatClampNeg).toNatClampNeg = 6 * i + c := by rw [nI_clamp (by omega), hc, show (6 : Int32) = nI 6 from rfl, pk_mul, nI_add, nI_clamp (by omega)]
  obtain ⟨p1, p2, p3, p4, p5⟩ := gU_p u (nI i) P X Y D N j
  rw [e6] at p1 p2 p3 p4 p5
  rcases (show r = 23 ∨ r = 24 ∨ r = 25 ∨ r = 26 ∨ r = 27 by omega) with e | e | e | e | e <;> subst e
  · exact p1
  · exact p2
  · exact p3
  · exact p4
  · exact p5
theorem cnN {c : Int32} {n : Nat} (hn : n ≤ 6) (h : bw c 0 (nI n) = true) : c = nI c.toNatClampNeg ∧ c.toNatClampNeg ≤ n := by
  obtain ⟨c1, c2, c3⟩ := nI_of_bw h
  rw [nI_toInt (by omega)] at c3
  exact ⟨c1, by omega⟩
/-- gain: what is written keeps rep -/
theorem rep_gain {q h0 d k u z f} {i n b0 P X Y D N : Nat} {g : Nat → Option Nat} {rs : List Value} (hI : xI q h0 d k z f) (h : rep q d u z f) (hn : bw (u.1 3) 0 80 = true) (hi : i < (u.1 3).toNatClampNeg) (hnn : n = if u.2 4 i = 0 then 6 else 1) (hs : f (d (2000 + i)) = .inr (ciT (z.2 (d (2000 + i))).1, itF (nI i) (u.2 4 i) (d (3000 + i)) (u.2 22 i) (d (4000 + i)) rs)) (hps : f (d (3000 + i)) = aR (q 5) n g) (hcb : bw (u.2 22 i) 0 (nI n) = true) (hroom : (u.2 22 i).toNatClampNeg < n) (hb : pcS z b0 (some (d (2000 + i))) (nI P) (nI X) (nI Y) (nI D) (nI N)) : rep q d (gU u (nI i) P X Y D N) z (va_up (va_up f (d (3000 + i)) (aR (q 5) n (va_up g (u.2 22 i).toNatClampNeg (some b0)))) (d (2000 + i)) (.inr (ciT (z.2 (d (2000 + i))).1, itF (nI i) (u.2 4 i) (d (3000 + i)) (u.2 22 i + 1) (d (4000 + i)) rs))) := by
  have hi8 := (bw_it hn hi).2
  obtain ⟨n1, n2, n3, hkd, rs2, g2, fg, hsl, hps2, hpcs, hfs, hfe, hrs⟩ := h.2.2.1.2 i hi
  have n6 : n ≤ 6 := by rw [hnn]; split <;> omega
  obtain ⟨ec, hc⟩ := cnN n6 hcb
  generalize hcc : (u.2 22 i).toNatClampNeg = c at *
  have eg : g = g2 := by
    have e := hps.symm.trans hps2
    exact (aR_inj e).2
  have ne : d (3000 + i) ≠ d (2000 + i) := fun e => by
    have h1 := n2.1.2
    rw [e, n1.1.2] at h1
    have := kT_r (u.2 4 i)
    omega
  have eI : (nI i).toNatClampNeg = i := nI_clamp (by omega)
  have w22 : (gU u (nI i) P X Y D N).2 22 i = u.2 22 i + 1 := by rw [gU_22, eI, if_pos rfl]
  have e22 : ((gU u (nI i) P X Y D N).2 22 i).toNatClampNeg = c + 1 := by rw [w22, ec, show (1 : Int32) = nI 1 from rfl, nI_add, nI_clamp (by omega)]
  refine rep_pcs (n := n) (g2 := va_up g c (some b0)) h hn hi hnn hs ?_ ?_ ?_ (fun j hj e => d3_inj hI h.2.2.1 hj hi e) ?_ rfl (fun r hr => gU_k _ _ _ _ _ _ _ hr) (fun j hj => by rw [gU_22, eI, if_neg hj]) ?_
  · rw [up_s, w22]
  · rw [up_o ne, up_s]
  · exact fK_up (fK_3 (fK_rf d z f _) n2.1 (fun j hj9 hj e => hj (Or.inr ⟨by omega, by omega, e⟩))) n1 (fun e => by have := kT_r (u.2 4 i); omega) (Or.inl rfl)
  · intro t ht
    rw [e22] at ht
    by_cases e : t = c
    · refine ⟨b0, by rw [e]; exact if_pos rfl, ?_⟩
      have hp : ∀ r, r < 5 → pR (gU u (nI i) P X Y D N) i t r = (if 23 + r = 23 then nI P else if 23 + r = 24 then nI X else if 23 + r = 25 then nI Y else if 23 + r = 26 then nI D else nI N) := fun r hr => by
        show (gU u (nI i) P X Y D N).2 (23 + r) (6 * i + t) = _
        rw [gU_5 hi8 ec (by omega) (by omega) (by omega), if_pos (by omega)]
      rw [hp 0 (by omega), hp 1 (by omega), hp 2 (by omega), hp 3 (by omega), hp 4 (by omega)]
      exact hb
    · obtain ⟨b, b1, b2⟩ := hpcs t (by omega)
      refine ⟨b, by rw [← b1, ← eg]; exact if_neg e, ?_⟩
      have hp : ∀ r, r < 5 → pR (gU u (nI i) P X Y D N) i t r = pR u i t r := fun r hr => by
        show (gU u (nI i) P X Y D N).2 (23 + r) (6 * i + t) = _
        rw [gU_5 hi8 ec (by omega) (by omega) (by omega), if_neg (by omega)]; rfl
      rw [hp 0 (by omega), hp 1 (by omega), hp 2 (by omega), hp 3 (by omega), hp 4 (by omega)]
      exact b2
  · intro r r1 r2 j hj hji t ht
    rw [gU_5 hi8 ec (by omega) r1 r2, if_neg (fun e => hji ?_)]
    obtain ⟨rs9, n9, g9, fg9, q1, q2, q3, q4, q5, q6, q7, -⟩ := it_all hI h.2.2.1 hj
    have := (cnN q6 q7).2
    omega
/-- the count alone, one less -/
def lU (u : mS) (i : Int32) : mS := mst u 22 i (u.2 22 i.toNatClampNeg - 1)
theorem mUnstand_lU (u : mS) (i : Int32) (P X Y D N : Nat) : mUnstand u i P X Y D N = mput (lU u i) 2 (setR ((lU u i).2 2) P X Y N (-2) D) := rfl
/-- loseLast: what is written keeps rep -/
theorem rep_lose {q h0 d k u z f} {i n : Nat} {g : Nat → Option Nat} {rs : List Value} (hI : xI q h0 d k z f) (h : rep q d u z f) (hn : bw (u.1 3) 0 80 = true) (hi : i < (u.1 3).toNatClampNeg) (hnn : n = if u.2 4 i = 0 then 6 else 1) (hs : f (d (2000 + i)) = .inr (ciT (z.2 (d (2000 + i))).1, itF (nI i) (u.2 4 i) (d (3000 + i)) (u.2 22 i) (d (4000 + i)) rs)) (hps : f (d (3000 + i)) = aR (q 5) n g) (hcb : bw (u.2 22 i) 0 (nI n) = true) (h1 : 0 < (u.2 22 i).toNatClampNeg) : rep q d (lU u (nI i)) z (va_up (va_up f (d (2000 + i)) (.inr (ciT (z.2 (d (2000 + i))).1, itF (nI i) (u.2 4 i) (d (3000 + i)) (u.2 22 i - 1) (d (4000 + i)) rs))) (d (3000 + i)) (aR (q 5) n (va_up g (u.2 22 i - 1).toNatClampNeg none))) := by
  have hi8 := (bw_it hn hi).2
  obtain ⟨n1, n2, n3, hkd, rs2, g2, fg, hsl, hps2, hpcs, hfs, hfe, hrs⟩ := h.2.2.1.2 i hi
  have n6 : n ≤ 6 := by rw [hnn]; split <;> omega
  obtain ⟨ec, hc⟩ := cnN n6 hcb
  generalize hcc : (u.2 22 i).toNatClampNeg = c at *
  have eg : g = g2 := (aR_inj (hps.symm.trans hps2)).2
  have ne : d (2000 + i) ≠ d (3000 + i) := fun e => by
    have h1 := n2.1.2
    rw [← e, n1.1.2] at h1
    have := kT_r (u.2 4 i)
    omega
  have eI : (nI i).toNatClampNeg = i := nI_clamp (by omega)
  have em : u.2 22 i - 1 = nI (c - 1) := by
    rw [ec, show (1 : Int32) = nI 1 from rfl]
    exact nI_sb (i := c) (r := 1) (by omega) (by omega)
  have w22 : (lU u (nI i)).2 22 i = u.2 22 i - 1 := by unfold lU; rw [mst_at, eI, if_pos rfl]
  have e22 : ((lU u (nI i)).2 22 i).toNatClampNeg = c - 1 := by rw [w22, em, nI_clamp (by omega)]
  have wk : ∀ r, r ≠ 22 → (lU u (nI i)).2 r = u.2 r := fun r hr => mst_other hr
  refine rep_pcs (n := n) (g2 := va_up g (u.2 22 i - 1).toNatClampNeg none) h hn hi hnn hs ?_ up_s ?_ (fun j hj e => d3_inj hI h.2.2.1 hj hi e) ?_ rfl (fun r hr => wk r (by omega)) (fun j hj => by unfold lU; rw [mst_at, eI, if_neg hj]) (fun r r1 r2 j hj hji t ht => by rw [wk r (by omega)])
  · rw [up_o ne, up_s, w22]
  · exact fK_3 (fK_up (fK_rf d z f _) n1 (fun e => by have := kT_r (u.2 4 i); omega) (Or.inl rfl)) n2.1 (fun j hj9 hj e => hj (Or.inr ⟨by omega, by omega, e⟩))
  · intro t ht
    rw [e22] at ht
    obtain ⟨b, b1, b2⟩ := hpcs t (by omega)
    refine ⟨b, by rw [← b1, ← eg, em, nI_clamp (by omega)]; exact if_neg (by omega), ?_⟩
    have hp : ∀ r, r < 5 → pR (lU u (nI i)) i t r = pR u i t r := fun r hr => by
      show (lU u (nI i)).2 (23 + r) (6 * i + t) = _
      rw [wk _ (by omega)]; rfl
    rw [hp 0 (by omega), hp 1 (by omega), hp 2 (by omega), hp 3 (by omega), hp 4 (by omega)]
    exact b2
/-- all that is told of page p -/
theorem pg_all {q h0 d k z f u} (hI : xI q h0 d k z f) (h : rPg q d u z f) {p : Nat} (hp : p < 12) : ∃ (dd ii : Int32) (gl gc : Nat → Int32), tg z (d (10 + p)) 7 ∧ tg z (d (30 + p)) 8 ∧ tg z (d (50 + p)) 9 ∧ f (d (10 + p)) = .inr (8, [.ref (d (30 + p)), .ref (d (50 + p)), .int (u.2 1 p), .int dd, .int ii]) ∧ f (d (30 + p)) = aI (q 0) 8 gl ∧ (∀ j, j < 8 → bw (gl j) 0 60 = true) ∧ f (d (50 + p)) = aI (q 0) 480 gc ∧ eqR 8 gl (u.2 0) (8 * p) ∧ eqR 480 gc (u.2 2) (480 * p) := by
  obtain ⟨m1, m2, m3, dd, ii, s1, ⟨gl, s2, s3⟩, gc, s4, s5⟩ := h.2 p hp
  obtain ⟨g, hs, hg⟩ := x_ln hI m2.1
  obtain rfl := (aI_inj (hs.symm.trans s2)).2
  exact ⟨dd, ii, g, gc, m1.1, m2.1, m3.1, s1, s2, hg, s4, s3, s5⟩
theorem pg_at {q d z f u} (h : rPg q d u z f) {g : Nat → Option Nat} (hg : f (d 0) = aR (q 2) 12 g) {p b : Nat} (hp : p < 12) (hb : g p = some b) : b = d (10 + p) := by
  obtain ⟨⟨g2, a1, a2⟩, -⟩ := h
  have eg := (aR_inj (hg.symm.trans a1)).2
  exact Option.some.inj (hb.symm.trans (by rw [eg]; exact a2 p hp))
