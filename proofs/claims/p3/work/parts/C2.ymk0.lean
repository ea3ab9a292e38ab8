/-- a new cell: its tag, its owner, what lies there -/
def nC (z : gS) (f : xF) (a t o : Nat) (e : va_E) : Prop := tg z a t ∧ (z.2 a).2.1 = o ∧ f a = e
theorem nC_new {z : gS} {f : xF} {a t o : Nat} {l : List Value} {e : va_E} : nC (pz z a (t, o, l)) (va_up f a e) a t o e := ⟨pz_t z a _, by rw [pz_s], up_s⟩
theorem nC_push {z : gS} {f : xF} {b t o : Nat} {e : va_E} {a : Nat} {x : Nat × Nat × List Value} {e2 : va_E} (h : nC z f b t o e) (ha : a ∉ z.1) : nC (pz z a x) (va_up f a e2) b t o e := by
  have hne : b ≠ a := fun e => ha (by rw [← e]; exact h.1.1)
  exact ⟨zE_tg (pz_E ha x) h.1, by rw [pz_o hne]; exact h.2.1, by rw [up_o hne]; exact h.2.2⟩
theorem nC_up {z : gS} {f : xF} {b t o : Nat} {e : va_E} {a s : Nat} {e2 : va_E} (h : nC z f b t o e) (ha : tg z a s) (hs : t ≠ s) : nC z (va_up f a e2) b t o e := ⟨h.1, h.2.1, by rw [up_o (tg_ne h.1 ha hs)]; exact h.2.2⟩
/-- what lay there lies there still -/
def oK (z : gS) (f f2 : xF) : Prop := ∀ b, b ∈ z.1 → f2 b = f b
theorem oK_push {z z1 : gS} {f f1 : xF} {a : Nat} {e : va_E} (h : oK z f f1) (hE : zE z z1) (ha : a ∉ z1.1) : oK z f (va_up f1 a e) := fun b hb => by
  rw [up_o (fun e => ha (by rw [← e]; exact (hE b hb).1))]; exact h b hb
theorem oK_fK {d : Nat → Nat} {z : gS} {f f2 : xF} (h : oK z f f2) (X : Nat → Prop) : fK d z f f2 X := ⟨fun _ _ hn _ => h _ hn.1.1, fun _ hj _ => h _ hj.1.1⟩
theorem sI_rf (u : mS) (j : Nat) : sI u u j := ⟨fun _ _ _ _ _ _ _ _ => rfl, fun _ _ _ _ _ => rfl, fun _ _ => rfl, fun _ _ => rfl, fun _ _ => ⟨rfl, rfl⟩, fun _ _ => rfl, fun _ _ => rfl⟩
theorem rep_grow {q d u z z2 f f2} (h : rep q d u z f) (hE : zE z z2) (ho : oK z f f2) : rep q d u z2 f2 := by
  obtain ⟨h1g, h1l, ⟨⟨g, a1, a2⟩, a3⟩, h1v, n0, n1, n2, n3, n4⟩ := h
  have hf : fK d z f f2 (fun _ => False) := oK_fK ho _
  exact ⟨rPg_fr h1g hE (fun _ _ => rfl) hf (fun _ _ _ _ _ _ h => h) n0 rfl rfl rfl, rPl_fr h1l hE rfl (fun _ _ _ => rfl) hf (fun h => h) (fun _ _ _ h => h) n1 (fun _ _ _ => rfl), ⟨⟨g, by rw [ho _ n2.1.1]; exact a1, a2⟩, fun j hj => rIt_fr (a3 j hj) hE ⟨rfl, rfl, rfl, rfl, rfl⟩ hf ⟨fun h => h, fun h => h, fun h => h, fun h => h, fun h => h⟩ (sI_rf u j) (Nat.le_refl _) (fun _ _ => ⟨rfl, rfl⟩)⟩, rRv_fr h1v rfl (ho _ n4.1.1) rfl, nO_E hE n0, nO_E hE n1, nO_E hE n2, nO_E hE n3, nO_E hE n4⟩
theorem fK_h0 {d : Nat → Nat} {z : gS} {f f1 : xF} {X : Nat → Prop} {h0 : Nat} {e : va_E} (h : fK d z f f1 X) (n0 : nO d z 0 2) (ht : tg z h0 1) (hz0 : (z.2 h0).2.1 = 0) : fK d z f (va_up f1 h0 e) X := by
  refine ⟨fun x t hn hX => ?_, fun j hj hX => ?_⟩
  · have hne : d x ≠ h0 := fun e => by
      have e1 := hn.2.1
      rw [e, hz0] at e1
      subst e1
      have e2 := n0.1.2
      rw [e, ht.2] at e2
      exact absurd e2 (by decide)
    rw [up_o hne]; exact h.1 x t hn hX
  · rw [up_o (tg_ne hj.1 ht (by decide))]; exact h.2 j hj hX
theorem xI_d {q h0 d d2 k z f} (h : ∀ x, x < 5 → d2 x = d x) (hI : xI q h0 d k z f) : xI q h0 d2 k z f := by
  unfold xI dkS r1 dkF at hI ⊢
  rw [h 0 (by decide), h 1 (by decide), h 2 (by decide), h 3 (by decide), h 4 (by decide)]
  exact hI
/-- the book with item n's entries -/
def dN (d : Nat → Nat) (n a2 a3 a4 a5 a6 : Nat) : Nat → Nat := fun x => if x = 2000 + n then a2 else if x = 3000 + n then a3 else if x = 4000 + n then a4 else if x = 5000 + n then a5 else if x = 6000 + n then a6 else d x
theorem dN_no {d : Nat → Nat} {n a2 a3 a4 a5 a6 x : Nat} (h : x ≠ 2000 + n ∧ x ≠ 3000 + n ∧ x ≠ 4000 + n ∧ x ≠ 5000 + n ∧ x ≠ 6000 + n) : dN d n a2 a3 a4 a5 a6 x = d x := by
  unfold dN
  rw [if_neg h.1, if_neg h.2.1, if_neg h.2.2.1, if_neg h.2.2.2.1, if_neg h.2.2.2.2]
theorem dN_lo {d : Nat → Nat} {n a2 a3 a4 a5 a6 x : Nat} (h : x < 2000) : dN d n a2 a3 a4 a5 a6 x = d x := dN_no (by omega)
theorem dN_o {d : Nat → Nat} {n a2 a3 a4 a5 a6 j : Nat} (hj : j < n) (hn : n < 1000) : bI (fun x => dN d n a2 a3 a4 a5 a6 x = d x) j := ⟨dN_no (by omega), dN_no (by omega), dN_no (by omega), dN_no (by omega), dN_no (by omega)⟩
theorem dN_at {d : Nat → Nat} {n a2 a3 a4 a5 a6 : Nat} (hn : n < 1000) : dN d n a2 a3 a4 a5 a6 (2000 + n) = a2 ∧ dN d n a2 a3 a4 a5 a6 (3000 + n) = a3 ∧ dN d n a2 a3 a4 a5 a6 (4000 + n) = a4 ∧ dN d n a2 a3 a4 a5 a6 (5000 + n) = a5 ∧ dN d n a2 a3 a4 a5 a6 (6000 + n) = a6 := by
  unfold dN
  refine ⟨if_pos rfl, ?_, ?_, ?_, ?_⟩
  · rw [if_neg (by omega), if_pos rfl]
  · rw [if_neg (by omega), if_neg (by omega), if_pos rfl]
  · rw [if_neg (by omega), if_neg (by omega), if_neg (by omega), if_pos rfl]
  · rw [if_neg (by omega), if_neg (by omega), if_neg (by omega), if_neg (by omega), if_pos rfl]
/-- w is u with an item more -/
def mkS (u w : mS) (n : Nat) : Prop := (∀ j, w.1 j = if j = 3 then u.1 3 + 1 else u.1 j) ∧ (∀ r j, j ≠ n → (4 ≤ r ∧ r ≤ 15 ∨ r = 17 ∨ r = 22) → w.2 r j = u.2 r j) ∧ ∀ r, r < 4 ∨ (15 < r ∧ r ≠ 17 ∧ r ≠ 22) → w.2 r = u.2 r
theorem mst_ne {u : mS} {r0 r j : Nat} {i x : Int32} (h : j ≠ i.toNatClampNeg) : (mst u r0 i x).2 r j = u.2 r j := by
  by_cases e : r = r0
  · subst e; rw [mst_at, if_neg h]
  · rw [mst_other e]
theorem mkS_made (u : mS) (k : Int32) : mkS u (mMade u k) (u.1 3).toNatClampNeg := by
  refine ⟨fun j => made_1 u k j, fun r j hj _ => ?_, fun r hr => made_k u k (by omega)⟩
  unfold mMade
  show (mst _ 22 _ _).2 r j = _
  rw [mst_ne hj, mst_ne hj, mst_ne hj, mst_ne hj, mst_ne hj, mst_ne hj, mst_ne hj, mst_ne hj, mst_ne hj, mst_ne hj]
theorem mkS_mst {u w : mS} {n : Nat} {i : Int32} (h : mkS u w n) (hi : i.toNatClampNeg = n) {r0 : Nat} (h0 : 4 ≤ r0 ∧ r0 ≤ 15) (x : Int32) : mkS u (mst w r0 i x) n := ⟨h.1, fun r j hj hr => by rw [mst_ne (by rw [hi]; exact hj)]; exact h.2.1 r j hj hr, fun r hr => by rw [mst_other (by omega)]; exact h.2.2 r hr⟩
theorem mkS_sI {u w : mS} {n j : Nat} (h : mkS u w n) (hj : j < n) : sI u w j := ⟨fun r r1 r2 r3 r4 r5 r6 r7 => h.2.1 r j (by omega) (by omega), fun r r1 r2 t _ => by rw [h.2.2 r (by omega)], fun t _ => by rw [h.2.2 47 (by omega)], fun t _ => by rw [h.2.2 16 (by omega)], fun t _ => by rw [h.2.2 18 (by omega), h.2.2 19 (by omega)]; exact ⟨rfl, rfl⟩, fun t _ => by rw [h.2.2 21 (by omega)], fun t _ => by rw [h.2.2 48 (by omega)]⟩
theorem rIt_mk {q d2 w z2 f3} {n a2 a3 a4 : Nat} {rs : List Value} (hn9 : n < 1000) (e2 : d2 (2000 + n) = a2) (e3 : d2 (3000 + n) = a3) (e4 : d2 (4000 + n) = a4) {kd : Int32} (hk : w.2 4 n = kd) (hkr : 0 ≤ kd ∧ kd ≤ 5) {ci : Nat} (h2 : nC z2 f3 a2 (kT kd) (2000 + n) (.inr (ci, itF (nI n) kd a3 0 a4 rs))) (hci : ci = ciT (kT kd)) (h3 : nC z2 f3 a3 16 a2 (aR (q 5) (if kd = 0 then 6 else 1) (fun _ => none))) (h4 : nC z2 f3 a4 17 (4000 + n) (aI (q 0) 5 (fun _ => (-1)))) (h22 : w.2 22 n = 0) (h47 : ∀ t, t < 5 → w.2 47 (5 * n + t) = (-1)) (hrs : rRs q d2 w z2 f3 n rs) : rIt q d2 w z2 f3 n := by
  refine ⟨by unfold nO; rw [e2, hk]; exact ⟨h2.1, h2.2.1, fun e => by have := kT_r kd; omega⟩, ⟨by rw [e3]; exact h3.1, hn9⟩, by unfold nO; rw [e4]; exact ⟨h4.1, h4.2.1, by decide⟩, by rw [hk]; exact hkr, rs, fun _ => none, fun _ => (-1), ?_, ?_, ?_, ?_, ?_, hrs⟩
  · rw [e2, e3, e4, h2.2.2, hk, h22, h2.1.2, hci]
  · rw [e3, h3.2.2, hk]
  · intro t ht
    rw [h22, show (0 : Int32).toNatClampNeg = 0 from rfl] at ht
    exact absurd ht (Nat.not_lt_zero t)
  · rw [e4, h4.2.2]
  · intro t ht
    exact (h47 t ht).symm
/-- what enter does -/
def enP (q : Nat → ClassId) (h0 : Nat) (d : Nat → Nat) (k : Nat → Int32) (r : Int32) (k3 : Nat → Int32) (c0 : Nat) (f2 f3 : xF) (nu : Int32) : Prop := (80 ≤ k 0 ∧ r = (-1) ∧ k3 = k ∧ f3 = f2) ∨ (¬ 80 ≤ k 0 ∧ r = nu ∧ k3 = kup k 0 (k 0 + 1) ∧ ∃ g, f2 (d 2) = aR (q 3) 80 g ∧ f3 = va_up (va_up f2 (d 2) (aR (q 3) 80 (va_up g (k 0).toNatClampNeg (some c0)))) h0 (.inr (10, dkF d k3)))
/-- what a maker leaves -/
def mkP (q : Nat → ClassId) (h0 : Nat) (d : Nat → Nat) (k : Nat → Int32) (z : gS) (f : xF) (u : mS) (R9 : Int32 × mS) (r : Int32) (w : xU) : Prop := ∃ d2 : Nat → Nat, (∀ x, x < 2000 → d2 x = d x) ∧ (∀ j, j < (u.1 3).toNatClampNeg → bI (fun x => d2 x = d x) j) ∧ zE z w.2.1 ∧ xI q h0 d2 w.1 w.2.1 w.2.2 ∧ r = R9.1 ∧ rep q d2 R9.2 w.2.1 w.2.2 ∧ w.1 0 = R9.2.1 3 ∧ (∀ j, j ≠ 0 → w.1 j = k j) ∧ w.2.2 (d 3) = f (d 3)
theorem mkP_0 {q h0 d k z f u R9} (hI : xI q h0 d k z f) (hrp : rep q d u z f) (hk0 : k 0 = u.1 3) (hR : R9 = ((-1 : Int32), u)) : mkP q h0 d k z f u R9 (-1) (k, z, f) := by
  subst hR
  exact ⟨d, fun _ _ => rfl, fun _ _ => ⟨rfl, rfl, rfl, rfl, rfl⟩, zE_rf z, hI, rfl, hrp, hk0, fun _ _ => rfl, rfl⟩
theorem n80k {k : Nat → Int32} (h : bw (k 0) 0 80 = true) : (80 ≤ k 0 → k 0 = 80) ∧ (¬ 80 ≤ k 0 → ¬ k 0 = 80 ∧ (k 0).toNatClampNeg < 80 ∧ k 0 = nI (k 0).toNatClampNeg ∧ (k 0 + 1).toNatClampNeg = (k 0).toNatClampNeg + 1) := by
  have h1 := bw_iff.mp h
  have e80 : (80 : Int32).toInt = 80 := rfl
  rw [i0] at h1
  refine ⟨fun x => ?_, fun x => ?_⟩
  · rw [i32_le] at x; exact Int32.toInt_inj.mp (by omega)
  · obtain ⟨c1, c2, c3⟩ := nI_of_bw h
    have hl : (k 0).toNatClampNeg < 80 := by
      rw [i32_le] at x; omega
    refine ⟨fun e => x (by rw [e]; decide), hl, c1, ?_⟩
    rw [c1, show (1 : Int32) = nI 1 from rfl, nI_add, nI_clamp (by omega), nI_clamp (by omega)]
/-- a maker: a new item or, where 80 are there, none -/
theorem mk_gen {q h0 d k z f u z2 f2 f3 k3} {r : Int32} {n a2 a3 a4 a5 a6 : Nat} {W : mS} {kd : Int32} {rs : List Value} {ci : Nat} (hI : xI q h0 d k z f) (hrp : rep q d u z f) (hk0 : k 0 = u.1 3) (hz0 : (z.2 h0).2.1 = 0) (hI3 : xI q h0 d k3 z2 f3) (hE : zE z z2) (ho : oK z f f2) (hen : enP q h0 d k r k3 a2 f2 f3 (k 0)) (hn : n = (u.1 3).toNatClampNeg) (hS : mkS u W n) (hk : W.2 4 n = kd) (hkr : 0 ≤ kd ∧ kd ≤ 5) (h22 : W.2 22 n = 0) (h47 : n < 80 → ∀ t, t < 5 → u.2 47 (5 * n + t) = (-1)) (c2 : nC z2 f2 a2 (kT kd) (2000 + n) (.inr (ci, itF (k 0) kd a3 0 a4 rs))) (hci : ci = ciT (kT kd)) (c3 : nC z2 f2 a3 16 a2 (aR (q 5) (if kd = 0 then 6 else 1) (fun _ => none))) (c4 : nC z2 f2 a4 17 (4000 + n) (aI (q 0) 5 (fun _ => (-1)))) (hrs : ∀ f9, (∀ b t o e, nC z2 f2 b t o e → t ≠ 1 → t ≠ 4 → nC z2 f9 b t o e) → n < 80 → rRs q (dN d n a2 a3 a4 a5 a6) W z2 f9 n rs) {R9 : Int32 × mS} (hR0 : u.1 3 = 80 → R9 = ((-1 : Int32), u)) (hR1 : ¬ u.1 3 = 80 → R9 = (u.1 3, W)) : mkP q h0 d k z f u R9 r (k3, z2, f3) := by
  have nd : ∀ x t, nO d z x t → oK z f f2 → f2 (d x) = f (d x) := fun x t h ho => ho _ h.1.1
  have tgz : tg z2 h0 1 := zE_tg hE hI.2.1.1
  obtain ⟨-, -, -, -, n0, n1, n2, n3, n4⟩ := id hrp
  have h8 := n80k hI.1.1
  rw [hk0] at h8
  rcases hen with ⟨b8, rfl, rfl, rfl⟩ | ⟨b8, rfl, rfl, g, hg, rfl⟩
  · rw [hk0] at b8
    rw [hR0 (h8.1 b8)]
    exact ⟨d, fun _ _ => rfl, fun _ _ => ⟨rfl, rfl, rfl, rfl, rfl⟩, hE, hI3, rfl, rep_grow hrp hE ho, hk0, fun _ _ => rfl, ho _ n3.1.1⟩
  · rw [hk0] at b8
    obtain ⟨m1, m2, m3, m4⟩ := h8.2 b8
    rw [← hn] at m2 m3 m4
    rw [hR1 m1]
    have eN := dN_at (d := d) (n := n) (a2 := a2) (a3 := a3) (a4 := a4) (a5 := a5) (a6 := a6) (by omega)
    generalize hf3 : va_up (va_up f2 (d 2) (aR (q 3) 80 (va_up g (k 0).toNatClampNeg (some a2)))) h0 (.inr (10, dkF d (kup k 0 (k 0 + 1)))) = f3 at *
    have hup : ∀ b t o e, nC z2 f2 b t o e → t ≠ 1 → t ≠ 4 → nC z2 f3 b t o e := fun b t o e h t1 t4 => by
      rw [← hf3]; exact nC_up (nC_up h (zE_tg hE n2.1) t4) tgz t1
    have hfK : fK d z f f3 (fun x => x = 2) := by
      rw [← hf3]; exact fK_h0 (fK_up (oK_fK ho _) n2 (by decide) rfl) n0 hI.2.1.1 hz0
    have hkt := kT_r kd
    have h20 : d 2 ≠ h0 := tg_ne n2.1 hI.2.1.1 (by decide)
    have h30 : d 3 ≠ h0 := tg_ne n3.1 hI.2.1.1 (by decide)
    refine ⟨dN d n a2 a3 a4 a5 a6, fun x hx => dN_lo hx, fun j hj => dN_o (by omega) (by omega), hE, xI_d (fun x hx => dN_lo (by omega)) hI3, hk0, ?_, ?_, fun j hj => kup_o hj, ?_⟩
    · refine rep_new (g := g) hrp hE (fun x hx => dN_lo hx) (fun o h => dN_o (by omega) (by omega)) hfK (by rw [← ho _ n2.1.1]; exact hg) ?_ ?_ (fun j hj => mkS_sI hS (by omega)) (fun r hr => hS.2.2 r (by omega)) ?_
      · show f3 (d 2) = _
        rw [← hf3, up_o h20, up_s, ← hn, eN.1, hk0, ← hn]; rfl
      · rw [hS.1 3, if_pos rfl, m4, ← hn]
      · rw [← hn]
        refine rIt_mk (by omega) eN.1 eN.2.1 eN.2.2.1 hk hkr ?_ hci (hup _ _ _ _ c3 (by decide) (by decide)) (hup _ _ _ _ c4 (by decide) (by decide)) h22 (fun t ht => by rw [hS.2.2 47 (by omega)]; exact h47 m2 t ht) (hrs f3 hup m2)
        have c2' := hup _ _ _ _ c2 (by omega) (by omega)
        rw [hk0, m3] at c2'
        exact c2'
    · show kup k 0 (k 0 + 1) 0 = W.1 3
      rw [kup_s, hS.1 3, if_pos rfl, hk0]
    · show f3 (d 3) = f (d 3)
      rw [← hf3, up_o h30, up_o (nO_ne n3 n2 (by decide)), ho _ n3.1.1]
theorem x_pushIo {q h0 d k z f} {o : Nat} (h : xI q h0 d k z f) {a : Nat} (ha : a ∉ z.1) {t : Nat} (ht : 10 ≤ t ∧ t ≤ 15) {nu kd : Int32} {pa fa n : Nat} {rest : List Value} (hpa : tg z pa 16) (ho : (z.2 pa).2.1 = a) (hfa : tg z fa 17) (hp : f pa = aR (q 5) n (fun _ => none)) (hn : 1 ≤ n ∧ n ≤ 6) (hr : rsT (pz z a (t, o, [])) t rest) : xI q h0 d k (pz z a (t, o, [])) (va_up f a (.inr (ciT t, itF nu kd pa 0 fa rest))) := by
  obtain ⟨h1, h2, h3, ⟨g1, gi, g2i, g3⟩, h5⟩ := h
  have hE := pz_E ha (t, o, [])
  have hne : ∀ {b : Nat}, b ∈ z.1 → b ≠ a := fun hb e => ha (by rw [← e]; exact hb)
  have hs : (pz z a (t, o, [])).2 a = (t, o, []) := pz_s _ _ _
  refine ⟨h1, ⟨zE_tg hE h2.1, zE_tg hE h2.2.1, zE_tg hE h2.2.2.1, zE_tg hE h2.2.2.2.1, zE_tg hE h2.2.2.2.2.1, zE_tg hE h2.2.2.2.2.2⟩, fun b hb => ?_, ⟨by rw [up_o (hne h2.1.1)]; exact g1, gi, by rw [up_o (hne h2.2.2.2.1.1)]; exact g2i, g3⟩, ?_⟩
  · rcases List.mem_append.mp hb with hb | hb
    · rw [up_o (hne hb)]; exact cO_mono hE hb (h3 b hb)
    · have e1 : b = a := by simpa using hb
      rw [e1, up_s]
      refine cO_I ⟨pz_m _ _ _, by rw [hs]; exact ht⟩ ⟨nu, kd, 0, pa, fa, rest, by rw [hs], zE_tg hE hpa, by rw [zE_o hE hpa.1]; exact ho, zE_tg hE hfa, by rw [hs]; exact hr⟩
  · intro b hb mu md mn ma mf ms hf
    by_cases hba : b = a
    · subst hba
      rw [up_s, hs] at hf
      obtain ⟨o1, o2, o3, o4, o5, o6⟩ := itF_inj hf
      subst o3 o4
      exact ⟨n, _, by rw [up_o (hne hpa.1)]; exact hp, hn.1, hn.2, bwN (n := 0) (by rw [nI_toInt (by omega)]; omega) (by omega), fun j hj => absurd hj (Nat.not_lt_zero _)⟩
    · have hbz : b ∈ z.1 := by
        rcases List.mem_append.mp hb.1 with y | y
        · exact y
        · exact absurd (by simpa using y) hba
      rw [up_o hba, pz_o hba] at hf
      have hbi : itm z b := ⟨hbz, by have := hb.2; rw [pz_o hba] at this; exact this⟩
      obtain ⟨n5, g5, r1, r2⟩ := h5 b hbi mu md mn ma mf ms hf
      obtain ⟨nu2, kd2, cn2, pa2, fa2, rest2, e1, e2, -⟩ := (h3 b hbz).2.2.2.2.2.2.2.2.1 hbi.2.1 hbi.2.2
      obtain ⟨-, -, e3, -⟩ := itF_inj (hf.symm.trans e1)
      rw [← e3] at e2
      exact ⟨n5, g5, by rw [up_o (hne e2.1)]; exact r1, r2⟩
