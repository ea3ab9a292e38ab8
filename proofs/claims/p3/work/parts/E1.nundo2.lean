theorem gH_hOK {u : mS} : ∀ {es : List hE} {c : cfg} {G : Nat → Int32}, gH u es c G → hOK (u.1 3).toNatClampNeg (u.2 4) es c
  | [], _, _, h => h.1
  | _ :: _, _, _, h => ⟨h.2.2.1, h.2.2.2.2.2.choose, gH_hOK h.2.2.2.2.2.choose_spec.choose_spec.1, h.2.2.2.2.2.choose_spec.choose_spec.2.1⟩
theorem gH_c {u w : mS} (hn : (u.1 3).toNatClampNeg ≤ (w.1 3).toNatClampNeg) (h0 : w.2 0 = u.2 0) (h4 : ∀ a, a < (u.1 3).toNatClampNeg → w.2 4 a = u.2 4 a ∧ w.2 11 a = u.2 11 a) : ∀ {es : List hE} {c : cfg} {G : Nat → Int32}, gH u es c G → gH w es c G
  | [], _, _, h => h
  | e :: es, c, G, h => by
    obtain ⟨h1, h2, h3, h5, hru, c1, G1, h6, h7, h8⟩ := h
    refine ⟨cX_c h1 hn h0 h4 (fun a ha => (h3 a).1 ha), h2, cOK_mono hn (fun a ha => (h4 a ha).1) h3, fun q1 q2 => Nat.lt_of_lt_of_le (h5 q1 q2) hn, fun q => by have z := hru q; unfold rLn at *; rw [h0]; exact z, c1, G1, gH_c hn h0 h4 h6, ?_, h8⟩
    rcases h7 with q | q | q | ⟨q1, q2, q3⟩
    · exact Or.inl q
    · exact Or.inr (Or.inl q)
    · exact Or.inr (Or.inr (Or.inl q))
    · exact Or.inr (Or.inr (Or.inr ⟨q1, q2, xG_mono hn (fun a ha => (h4 a ha).1) q3⟩))
theorem gH_e {u w : mS} (h3 : w.1 3 = u.1 3) (h0 : w.2 0 = u.2 0) (h4 : w.2 4 = u.2 4) (h11 : w.2 11 = u.2 11) {es : List hE} {c : cfg} {G : Nat → Int32} (h : gH u es c G) : gH w es c G := gH_c (by rw [h3]; exact Nat.le_refl _) h0 (fun a _ => ⟨by rw [h4], by rw [h11]⟩) h
theorem rIn_of {u : mS} {r : fR} (hr : rOK r) (hl : rLn u r) : rIn u r.1 r.2.1 r.2.2.1 r.2.2.2.1 r.2.2.2.2 := ⟨hr.1, hr.2.1, hr.2.2.2.1, hr.2.2.1, hr.2.2.2.2, hl⟩
/-- the parts of a kept act, as they are taken back -/
def bkL (e : hE) : List bS := if e.1 = 0 then [(false, some e.2.1, e.2.2.1)] else if e.1 = 1 then [(true, some e.2.1, e.2.2.1)] else if e.1 = 2 then [(false, none, ruR e)] else e.2.2.2.map (fun x => (false, some x.1, xR x))
theorem acF_bkS {z : gS} {d : Nat → Nat} : ∀ {xs : List fX} {o : Option Nat}, acF z d o xs → bkS z d o (xs.map (fun x => (false, some x.1, xR x)))
  | [], _, h => h
  | _ :: _, _, h => by
    obtain ⟨a, pp, ah, h1, h2, h3, h4⟩ := h
    exact ⟨a, pp, _, ah, h1, h2, h3, acF_bkS h4⟩
theorem acE_bkS {z : gS} {d : Nat → Nat} {a : Nat} {e : hE} (h : acE z d a e) : bkS z d (some a) (bkL e) := by
  unfold bkL
  rcases h with ⟨q, pp, h1, h2⟩ | ⟨q, pp, h1, h2⟩ | ⟨q, pp, h1, h2⟩ | ⟨q, h1⟩
  · rw [if_pos q]; exact ⟨a, pp, _, none, rfl, h1, h2, rfl⟩
  · rw [if_neg (by omega), if_pos q]; exact ⟨a, pp, _, none, rfl, h1, h2, rfl⟩
  · rw [if_neg (by omega), if_neg (by omega), if_pos q]; exact ⟨a, pp, _, none, rfl, h1, h2, rfl⟩
  · rw [if_neg (by omega), if_neg (by omega), if_neg (by omega)]; exact acF_bkS h1
/-- what the reference's undo of e leaves -/
def refU (u : mS) (e : hE) : mS := if e.1 = 0 then mUnstand (mBack u) (nI e.2.1) e.2.2.1.1 e.2.2.1.2.1 e.2.2.1.2.2.1 e.2.2.1.2.2.2.1 e.2.2.1.2.2.2.2 else if e.1 = 1 then mStand (mBack u) (nI e.2.1) e.2.2.1.1 e.2.2.1.2.1 e.2.2.1.2.2.1 e.2.2.1.2.2.2.1 e.2.2.1.2.2.2.2 else if e.1 = 2 then mst (mBack u) 2 (480 * nI e.2.2.1.1 + 60 * nI e.2.2.1.2.1 + nI e.2.2.1.2.2.1) (-2) else popAll (mBack u) e.2.2.2
theorem n_undoH (l : Launch) (dC : Nat → ClassId) (dI : Nat → Nat → Nat) (h0 : Nat) (v : Nat → Nat) (cI cZ : ClassId) (u : mS) (e : hE) (es : List hE) (c : cfg) (r : rI u) (d : mH u (e :: es) c) (g : gH u (e :: es) c (u.2 2)) (sz : Nat) : Met l yX12_undo wsX12_undo ({ frames := 3, cells := 0, slots := 0, locals := 77 }) (va_Pc [.ref h0] (fun U => U.heap.size = sz ∧ PW dC dI (mW h0 v cI cZ u) [(cI, .int), (cZ, .boolean)] U ∧ va_D (fun _ => True) (mW h0 v cI cZ u))) (va_Qi (fun (r : Int32) (u9 : mS) => r = u.1 28 - 1 ∧ u9 = refU u e) (fun u9 t => va_P (dC, dI) vwCl (mW h0 v cI cZ u9) t.heap ∧ va_D (va_A (mW h0 v cI cZ u) sz) (mW h0 v cI cZ u9)) (va_A (mW h0 v cI cZ u) sz)) 0 0 (va_A (mW h0 v cI cZ u) sz) := by
  have hn := n80 r
  have a1 := d.1
  have a2 := d.2.1
  rw [List.length_cons] at a1 a2
  have hz0 : ¬ u.1 28 = 0 := fun q => by
    have q2 : (nI (es.length + 1)).toInt = 0 := by rw [← a2, q]; rfl
    rw [nI_toInt (by omega)] at q2; omega
  have ht : u.1 28 - 1 = nI es.length := by rw [a2, dn_e (by omega)]; rfl
  have ha1 : bw (u.1 28 - 1) 0 299 = true := by rw [ht]; exact bwN (by have h7 : (299 : Int32).toInt = 299 := rfl; rw [h7]; omega) (by omega)
  have htc : (u.1 28 - 1).toNatClampNeg = es.length := by rw [ht, nI_clamp (by omega)]
  obtain ⟨gx, ga, hok, gn, gr, c1, G1, g1, gs, g9⟩ := g
  have hc1 := gH_hOK g1
  have hok1 := hOK_c hc1
  obtain ⟨e1, e2, e3, e4, e5⟩ := d.2.2.2.2.1.1
  rw [← htc] at e1 e2 e3 e4 e5
  rcases g9 with ⟨q, hp, -, -, hr⟩ | ⟨q, hp, -, hr⟩ | ⟨q, hp, -, -⟩ | ⟨q, hp, -, -⟩
  · have hpa : c e.2.1 = e.2.2.1 :: c1 e.2.1 := by rw [hp, cPush_a]
    have han : e.2.1 < (u.1 3).toNatClampNeg := gn (by omega) (by omega)
    have ha : e.2.1 < 80 := by omega
    have hl : (c1 e.2.1).length ≤ 5 := by
      have z := (hok e.2.1).2.1
      rw [hpa, List.length_cons] at z
      omega
    have hm : cM u (cPush c1 e.2.1 (e.2.2.1.1, e.2.2.1.2.1, e.2.2.1.2.2.1, e.2.2.1.2.2.2.1, e.2.2.1.2.2.2.2)) := by
      have z := d.2.2.2.2.2
      rw [hp] at z; exact z
    rw [q] at e1
    refine mq (n_undoP l dC dI h0 v cI cZ u e.2.1 e.2.2.1.1 e.2.2.1.2.1 e.2.2.1.2.2.1 e.2.2.1.2.2.2.1 e.2.2.1.2.2.2.2 hr.1 hr.2.1 hr.2.2.1 ha (e2 q) (cM_slR ha hl hm) hz0 ha1 e1 sz) (fun r9 u9 he => ⟨he.1, ?_⟩)
    rw [he.2]; unfold refU; rw [if_pos q]
  · have hpa : c1 e.2.1 = e.2.2.1 :: c e.2.1 := by rw [hp, cPush_a]
    have han : e.2.1 < (u.1 3).toNatClampNeg := gn (by omega) (by omega)
    have ha : e.2.1 < 80 := by omega
    have hl : (c e.2.1).length ≤ 5 := by
      have z := (hok1 e.2.1).2.1
      rw [hpa, List.length_cons] at z
      omega
    obtain ⟨f1, f2, f3, f4, f5, f6⟩ := e3 q
    have hq5 : bw (u.2 22 (nI e.2.1).toNatClampNeg) 0 5 = true := by
      rw [nI_clamp (by omega), (d.2.2.2.2.2 e.2.1 ha).1]
      exact bwN (by have h7 : (5 : Int32).toInt = 5 := rfl; rw [h7]; omega) (by omega)
    rw [q] at e1
    refine mq (n_undoL l dC dI h0 v cI cZ u e.2.1 e.2.2.1.1 e.2.2.1.2.1 e.2.2.1.2.2.1 e.2.2.1.2.2.2.1 e.2.2.1.2.2.2.2 hr.1 hr.2.1 hr.2.2.1 ha f1 f2 f3 f4 f5 f6 hq5 hz0 ha1 e1 sz) (fun r9 u9 he => ⟨he.1, ?_⟩)
    rw [he.2]; unfold refU; rw [if_neg (by omega), if_pos q]
  · obtain ⟨f1, f2, f3⟩ := e4 q
    rw [q] at e1
    have hs3 : e.2.2.1.1 < 12 ∧ e.2.2.1.2.1 < 8 ∧ e.2.2.1.2.2.1 < 60 := by
      rcases gs with z | z | z | z
      · exact absurd z.1 (by omega)
      · exact absurd z.1 (by omega)
      · exact z.2.2
      · exact absurd z.1 (by omega)
    refine mq (n_undoR l dC dI h0 v cI cZ u e.2.2.1.1 e.2.2.1.2.1 e.2.2.1.2.2.1 hs3.1 hs3.2.1 hs3.2.2 f1 f2 f3 hz0 ha1 e1 sz) (fun r9 u9 he => ⟨he.1, ?_⟩)
    rw [he.2]; unfold refU; rw [if_neg (by omega), if_neg (by omega), if_pos q]
  · obtain ⟨f1, f2⟩ := e5 q
    have hx : xG (u.1 3).toNatClampNeg (u.2 4) c1 e.2.2.2 := by
      rcases gs with z | z | z | z
      · exact absurd z.1 (by omega)
      · exact absurd z.1 (by omega)
      · exact absurd z.1 (by omega)
      · exact z.2.2
    have hf := fil_380 hc1 hx
    have hfil : fil (e :: es) = fil es + e.2.2.2.length := by
      show fil es + (if e.1 = 3 then e.2.2.2.length else 0) = _
      rw [if_pos q]
    obtain ⟨j1, j2, j3, j4, j5, j6⟩ := pop_ind hn hok1 e.2.2.2 (mBack u) hx (F := fil es) (by omega) (by rw [back_1 u (by decide), d.2.2.1, hfil]) (fM_c (u := u) (fun _ _ => rfl) f2) (cM_rows (u := u) (fun k _ _ => rfl) (by rw [← hp]; exact d.2.2.2.2.2)) (rI_m (w := mBack u) r rfl rfl (fun _ _ => rfl))
    rw [q] at e1
    refine mq (n_undoF l dC dI h0 v cI cZ u e.2.2.2 (by omega) f1 j1 hz0 ha1 e1 sz) (fun r9 u9 he => ⟨he.1, ?_⟩)
    rw [he.2]; unfold refU; rw [if_neg (by omega), if_neg (by omega), if_neg (by omega)]
theorem mUn_cg {a b : mS} (h : a.2 = b.2) (i : Int32) (P X Y D N : Nat) : (mUnstand a i P X Y D N).2 = (mUnstand b i P X Y D N).2 := by
  obtain ⟨a1, a2⟩ := a
  obtain ⟨b1, b2⟩ := b
  have h : a2 = b2 := h
  subst h
  rfl
theorem pop_bk : ∀ (xs : List fX) (v w : mS), v.2 = w.2 → (∀ k, k ≠ 36 → v.1 k = w.1 k) → (popAll v xs).2 = (bkU w (xs.map (fun x => (false, some x.1, xR x)))).2 ∧ ∀ k, k ≠ 36 → (popAll v xs).1 k = (bkU w (xs.map (fun x => (false, some x.1, xR x)))).1 k
  | [], _, _, h1, h2 => ⟨h1, h2⟩
  | x :: xs, v, w, h1, h2 => by
    refine pop_bk xs (popS v x) (mUnstand w (nI x.1) x.2.1 x.2.2.1 x.2.2.2.1 1 x.2.2.2.2) (mUn_cg (a := mset v 36 (v.1 36 - 1)) (b := w) h1 _ _ _ _ _ _) (fun k hk => ?_)
    show (mset v 36 (v.1 36 - 1)).1 k = w.1 k
    unfold mset; exact (if_neg hk).trans (h2 k hk)
theorem pop_G {G1 : Nat → Int32} : ∀ (xs : List fX) (v : mS), v.2 2 = gFill G1 xs → frL9 G1 xs → (popAll v xs).2 2 = G1
  | [], _, h, _ => h
  | x :: xs, v, h, hf => by
    refine pop_G xs (popS v x) ?_ hf.1
    unfold popS
    rw [mUnstand_2]
    show setF (v.2 2) (xR x) (-2) = _
    rw [h]
    exact setF_re hf.2
theorem fill_bkK {u : mS} {c1 : cfg} (hn : (u.1 3).toNatClampNeg ≤ 80) : ∀ (xs : List fX) (v : mS), xG (u.1 3).toNatClampNeg (u.2 4) c1 xs → cX u (cFill c1 xs) → cM v (cFill c1 xs) → v.1 3 = u.1 3 → v.2 0 = u.2 0 → bkK v (xs.map (fun x => (false, some x.1, xR x)))
  | [], _, _, _, _, _, _ => trivial
  | x :: xs, v, hx, hX, hc, h3, h0 => by
    obtain ⟨hx1, hx2, hx3, hx4, hx5⟩ := hx
    have ha : x.1 < 80 := by omega
    have he : (cFill c1 xs x.1).length ≤ 5 := by rw [hx4]; exact Nat.zero_le _
    have hc2 : cM v (cPush (cFill c1 xs) x.1 (xR x)) := hc
    have hm2 := cM_unstand ha he hc2 x.2.1 x.2.2.1 x.2.2.2.1 1 x.2.2.2.2
    have hX2 : cX u (cPush (cFill c1 xs) x.1 (xR x)) := hX
    have hl := (hX2 x.1 hx2).1 (xR x) (by rw [cPush_a]; exact List.mem_cons_self)
    refine ⟨rIn_of (u := v) (r := xR x) hx5 (by unfold rLn at *; rw [h0]; exact hl), by rw [h3]; exact hx2, ?_, fill_bkK hn xs _ hx1 (cX_pop hX2) hm2 (by rw [mUnstand_1]; exact h3) (by rw [mUnstand_k _ _ _ _ _ _ _ (by decide) (by decide)]; exact h0)⟩
    rw [(hc2 x.1 ha).1, cPush_a, hx4]
    show 0 < (nI 1).toNatClampNeg
    rw [nI_clamp (by decide)]
    decide
/-- what an undo needs and leaves -/
theorem undo_all {u : mS} {e : hE} {es : List hE} {c : cfg} (r : rI u) (d : mH u (e :: es) c) (g : gH u (e :: es) c (u.2 2)) : bkK (mBack u) (bkL e) ∧ (∀ q d z f, rep q d (bkU (mBack u) (bkL e)) z f → rep q d (refU u e) z f) ∧ rI (refU u e) ∧ ∃ c1, mH (refU u e) es c1 ∧ gH (refU u e) es c1 ((refU u e).2 2) ∧ (∀ k, k ≠ 28 → k ≠ 36 → (refU u e).1 k = u.1 k) ∧ (refU u e).1 28 = u.1 28 - 1 ∧ ∀ k, k < 2 ∨ 2 < k → k < 22 ∨ 27 < k → (refU u e).2 k = u.2 k := by
  have hn := n80 r
  have g0 := g
  obtain ⟨gx, ga, hok, gn, gr, c1, G1, g1, gs, g9⟩ := g
  have hc1 := gH_hOK g1
  have hok1 := hOK_c hc1
  have hb := rI_m (w := mBack u) r rfl rfl (fun _ _ => rfl)
  have hfin : ∀ w : mS, rI w → (∀ k, k ≠ 28 → k ≠ 36 → w.1 k = u.1 k) → w.1 28 = u.1 28 - 1 → w.1 36 = nI (fil es) → (∀ k, k < 2 ∨ 2 < k → k < 22 ∨ 27 < k → w.2 k = u.2 k) → cM w c1 → w.2 2 = G1 → rI w ∧ ∃ c1, mH w es c1 ∧ gH w es c1 (w.2 2) ∧ (∀ k, k ≠ 28 → k ≠ 36 → w.1 k = u.1 k) ∧ w.1 28 = u.1 28 - 1 ∧ ∀ k, k < 2 ∨ 2 < k → k < 22 ∨ 27 < k → w.2 k = u.2 k := fun w hr i3 h28 h36 k2 hc hG => ⟨hr, c1, mH_old d hc1 (i3 3 (by decide) (by decide)) (k2 4 (by decide) (by decide)) h28 h36 (fun k k3 k4 => k2 k (by omega) (by omega)) hc, by rw [hG]; exact gH_e (i3 3 (by decide) (by decide)) (k2 0 (by decide) (by decide)) (k2 4 (by decide) (by decide)) (k2 11 (by decide) (by decide)) g1, i3, h28, k2⟩
  rcases g9 with ⟨q, hp, hG, hfr, hr⟩ | ⟨q, hp, hG, hr⟩ | ⟨q, hp, hG, hfr⟩ | ⟨q, hp, hG, hfr⟩
  · have han : e.2.1 < (u.1 3).toNatClampNeg := gn (by omega) (by omega)
    have ha : e.2.1 < 80 := by omega
    have hpa : c e.2.1 = e.2.2.1 :: c1 e.2.1 := by rw [hp, cPush_a]
    have hl : (c1 e.2.1).length ≤ 5 := by
      have z := (hok e.2.1).2.1
      rw [hpa, List.length_cons] at z
      omega
    have hm : cM u (cPush c1 e.2.1 e.2.2.1) := by rw [← hp]; exact d.2.2.2.2.2
    have eU : refU u e = mUnstand (mBack u) (nI e.2.1) e.2.2.1.1 e.2.2.1.2.1 e.2.2.1.2.2.1 e.2.2.1.2.2.2.1 e.2.2.1.2.2.2.2 := by unfold refU; rw [if_pos q]
    have eL : bkL e = [(false, some e.2.1, e.2.2.1)] := by unfold bkL; rw [if_pos q]
    refine ⟨?_, ?_, ?_⟩
    · rw [eL]
      refine ⟨rIn_of (u := mBack u) hr ((gx e.2.1 han).1 e.2.2.1 (by rw [hpa]; exact List.mem_cons_self)), han, ?_, trivial⟩
      show 0 < (u.2 22 e.2.1).toNatClampNeg
      rw [(hm e.2.1 ha).1, cPush_a, List.length_cons, nI_clamp (by omega)]
      omega
    · rw [eL, eU]; exact fun _ _ _ _ h => h
    · rw [eU]
      refine hfin _ (rI_unstand hb _ _ _ _ _ _) (fun k k1 k2 => back_1 u k1) (back_28 u) ?_ (fun k k1 k2 => by rw [mUnstand_k _ _ _ _ _ _ _ (by omega) (by omega)]; rfl) (cM_unstand ha hl (cM_rows (u := u) (w := mBack u) (fun k _ _ => rfl) hm) _ _ _ _ _) ?_
      · show (mBack u).1 36 = _
        rw [back_1 u (by decide), d.2.2.1, fil_no _ (by omega)]
      · rw [mUnstand_2]
        show setF (u.2 2) e.2.2.1 (-2) = G1
        rw [hG]; exact setF_re hfr
  · have han : e.2.1 < (u.1 3).toNatClampNeg := gn (by omega) (by omega)
    have ha : e.2.1 < 80 := by omega
    have hpa : c1 e.2.1 = e.2.2.1 :: c e.2.1 := by rw [hp, cPush_a]
    have hl : (c e.2.1).length ≤ 5 := by
      have z := (hok1 e.2.1).2.1
      rw [hpa, List.length_cons] at z
      omega
    have eU : refU u e = mStand (mBack u) (nI e.2.1) e.2.2.1.1 e.2.2.1.2.1 e.2.2.1.2.2.1 e.2.2.1.2.2.2.1 e.2.2.1.2.2.2.2 := by unfold refU; rw [if_neg (by omega), if_pos q]
    have eL : bkL e = [(true, some e.2.1, e.2.2.1)] := by unfold bkL; rw [if_neg (by omega), if_pos q]
    have gx1 := gH_cX g1
    have ga1 := gH_agr g1
    refine ⟨?_, ?_, ?_⟩
    · rw [eL]
      refine ⟨rIn_of (u := mBack u) hr ((gx1 e.2.1 han).1 e.2.2.1 (by rw [hpa]; exact List.mem_cons_self)), han, ?_, trivial⟩
      show (u.2 22 e.2.1).toNatClampNeg < if u.2 4 e.2.1 = 0 then 6 else 1
      rw [(d.2.2.2.2.2 e.2.1 ha).1, nI_clamp (by omega)]
      by_cases hk : u.2 4 e.2.1 = 0
      · rw [if_pos hk]; omega
      · rw [if_neg hk]
        have z := (gx1 e.2.1 han).2.1 hk
        rw [hpa, List.length_cons] at z; omega
    · rw [eL, eU]; exact fun _ _ _ _ h => h
    · rw [eU]
      refine hfin _ (rI_stand hb ha hr.2.1) (fun k k1 k2 => back_1 u k1) (back_28 u) ?_ (fun k k1 k2 => by rw [mStand_k2 _ _ _ _ _ _ _ (by omega) k2]; rfl) ?_ ?_
      · show (mBack u).1 36 = _
        rw [back_1 u (by decide), d.2.2.1, fil_no _ (by omega)]
      · rw [hp]
        exact cM_stand ha hl (fun b => (hok b).2.1) (cM_rows (u := u) (w := mBack u) (fun k _ _ => rfl) d.2.2.2.2.2) e.2.2.1.1 e.2.2.1.2.1 e.2.2.1.2.2.1 e.2.2.1.2.2.2.1 e.2.2.1.2.2.2.2
      · rw [mStand_2]
        show setF (u.2 2) e.2.2.1 (nI e.2.1) = G1
        rw [hG]
        refine setF_re ?_
        rw [hp] at ga1
        exact agr_top ga1 ha hr
  · have hs3 : e.2.2.1.1 < 12 ∧ e.2.2.1.2.1 < 8 ∧ e.2.2.1.2.2.1 < 60 := by
      rcases gs with z | z | z | z
      · exact absurd z.1 (by omega)
      · exact absurd z.1 (by omega)
      · exact z.2.2
      · exact absurd z.1 (by omega)
    have hr : rOK (ruR e) := ⟨hs3.1, by show e.2.2.1.2.1 + 1 ≤ 8; omega, by show e.2.2.1.2.2.1 + 1 ≤ 60; omega, Nat.le_refl 1, Nat.le_refl 1⟩
    have eU : refU u e = mst (mBack u) 2 (480 * nI e.2.2.1.1 + 60 * nI e.2.2.1.2.1 + nI e.2.2.1.2.2.1) (-2) := by unfold refU; rw [if_neg (by omega), if_neg (by omega), if_pos q]
    have eL : bkL e = [(false, none, ruR e)] := by unfold bkL; rw [if_neg (by omega), if_neg (by omega), if_pos q]
    have eR : setF (u.2 2) (ruR e) (-2) = upd (u.2 2) (480 * nI e.2.2.1.1 + 60 * nI e.2.2.1.2.1 + nI e.2.2.1.2.2.1).toNatClampNeg (-2) := by
      rw [idxN hs3.1 hs3.2.1 hs3.2.2, nI_clamp (by omega)]
      funext j
      show setR (u.2 2) e.2.2.1.1 e.2.2.1.2.1 e.2.2.1.2.2.1 1 (-2) 1 j = _
      unfold setR setR setC upd
      by_cases hj : j = 480 * e.2.2.1.1 + 60 * e.2.2.1.2.1 + e.2.2.1.2.2.1
      · rw [if_pos (by omega), if_pos hj]
      · rw [if_neg (by omega), if_neg hj]
    have eM : mput (mBack u) 2 (setR ((mBack u).2 2) e.2.2.1.1 e.2.2.1.2.1 e.2.2.1.2.2.1 1 (-2) 1) = refU u e := by
      rw [eU]
      show mput (mBack u) 2 (setF (u.2 2) (ruR e) (-2)) = mput (mBack u) 2 (upd (u.2 2) _ (-2))
      rw [eR]
    refine ⟨?_, ?_, ?_⟩
    · rw [eL]
      exact ⟨rIn_of (u := mBack u) hr (gr q), trivial⟩
    · rw [eL]
      intro q9 d9 z9 f9 h9
      rw [← eM]; exact h9
    · rw [eU]
      refine hfin _ ?_ (fun k k1 k2 => back_1 u k1) (back_28 u) ?_ (fun k k1 k2 => by rw [mst_other (by omega)]; rfl) (cM_rows (u := u) (fun k k1 k2 => by rw [mst_other (by omega)]; rfl) (by rw [← hp]; exact d.2.2.2.2.2)) ?_
      · generalize mBack u = z at hb
        obtain ⟨r1, r2, r3, r4, r5, r6, r7, r8⟩ := hb
        refine ⟨r1, r2, ?_, ?_, ?_, ?_, fun j hj => ?_, ?_⟩
        · rw [mst_other (by decide)]; exact r3
        · rw [mst_other (by decide)]; exact r4
        · rw [mst_other (by decide)]; exact r5
        · rw [mst_other (by decide)]; exact r6
        · rw [mst_at]
          split
          · exact fun q => absurd q (by decide)
          · exact r7 j hj
        · rw [mst_other (by decide), mst_other (by decide)]; exact r8
      · show (mBack u).1 36 = _
        rw [back_1 u (by decide), d.2.2.1, fil_no _ (by omega)]
      · rw [← eU, ← eM]
        show setF (u.2 2) (ruR e) (-2) = G1
        rw [hG]; exact setF_re hfr
  · have hx : xG (u.1 3).toNatClampNeg (u.2 4) c1 e.2.2.2 := by
      rcases gs with z | z | z | z
      · exact absurd z.1 (by omega)
      · exact absurd z.1 (by omega)
      · exact absurd z.1 (by omega)
      · exact z.2.2
    have eU : refU u e = popAll (mBack u) e.2.2.2 := by unfold refU; rw [if_neg (by omega), if_neg (by omega), if_neg (by omega)]
    have eL : bkL e = e.2.2.2.map (fun x => (false, some x.1, xR x)) := by unfold bkL; rw [if_neg (by omega), if_neg (by omega), if_neg (by omega)]
    have hf := fil_380 hc1 hx
    have hfil : fil (e :: es) = fil es + e.2.2.2.length := by
      show fil es + (if e.1 = 3 then e.2.2.2.length else 0) = _
      rw [if_pos q]
    have a1 := d.1
    rw [List.length_cons] at a1
    have f2 := (d.2.2.2.2.1.1.2.2.2.2 q).2
    have hcm : cM (mBack u) (cFill c1 e.2.2.2) := cM_rows (u := u) (fun k _ _ => rfl) (by rw [← hp]; exact d.2.2.2.2.2)
    obtain ⟨j1, j2, j3, j4, j5, j6⟩ := pop_ind hn hok1 e.2.2.2 (mBack u) hx (F := fil es) (by omega) (by rw [back_1 u (by decide), d.2.2.1, hfil]) (fM_c (u := u) (fun _ _ => rfl) f2) hcm hb
    refine ⟨?_, ?_, ?_⟩
    · rw [eL]
      exact fill_bkK hn e.2.2.2 (mBack u) hx (by rw [← hp]; exact gx) hcm (back_1 u (by decide)) rfl
    · rw [eL, eU]
      intro q9 d9 z9 f9 h9
      obtain ⟨p1, p2⟩ := pop_bk e.2.2.2 (mBack u) (mBack u) rfl (fun _ _ => rfl)
      refine rep_rows h9 (p2 3 (by decide)) (fun k _ => by rw [p1])
    · rw [eU]
      refine hfin _ j3 (fun k k1 k2 => (j5 k k2).trans (back_1 u k1)) ((j5 28 (by decide)).trans (back_28 u)) j4 (fun k k1 k2 => (j6 k (by omega) (by omega)).trans rfl) j2 ?_
      exact pop_G e.2.2.2 (mBack u) hG hfr
