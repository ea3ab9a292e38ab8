/-- an item's fields are told once -/
theorem itF_inj {nu kd nu2 kd2 cn cn2 : Int32} {pa fa pa2 fa2 : Nat} {rest rest2 : List Value} {c c2 : Nat} (h : (Sum.inr (c, itF nu kd pa cn fa rest) : va_E) = .inr (c2, itF nu2 kd2 pa2 cn2 fa2 rest2)) : nu = nu2 ∧ kd = kd2 ∧ pa = pa2 ∧ cn = cn2 ∧ fa = fa2 ∧ rest = rest2 := by
  have e3 : itF nu kd pa cn fa rest = itF nu2 kd2 pa2 cn2 fa2 rest2 := (Prod.mk.inj (Sum.inr.inj h)).2
  unfold itF at e3
  simp only [List.cons.injEq, Value.ref.injEq, Value.int.injEq] at e3
  exact ⟨e3.1, e3.2.1, e3.2.2.1, e3.2.2.2.1, e3.2.2.2.2.1, e3.2.2.2.2.2⟩
theorem aR_inj {c c2 : ClassId} {n n2 : Nat} {g g2 : Nat → Option Nat} (h : aR c n g = aR c2 n2 g2) : n = n2 ∧ g = g2 := by
  have e6 := (Prod.mk.inj (Prod.mk.inj (Sum.inl.inj h)).2)
  exact ⟨e6.1, Sum.inr.inj (Sum.inr.inj (Sum.inr.inj (Sum.inr.inj e6.2)))⟩
/-- pieces and count of an item written anew, both or one -/
theorem x_pp {q h0 d k z f} (h : xI q h0 d k z f) {a : Nat} (ha : itm z a) {nu kd cn cn2 : Int32} {pa fa : Nat} {rest : List Value} (hf : f a = .inr (ciT (z.2 a).1, itF nu kd pa cn fa rest)) {n : Nat} {g g2 : Nat → Option Nat} (hp : f pa = aR (q 5) n g) (hc : bw cn2 0 (nI n) = true) (hn : ∀ j, j < cn2.toNatClampNeg → ∃ b, g2 j = some b) (hg : ∀ j, j < n → ∀ b, g2 j = some b → lgP z b) : xI q h0 d k z (va_up (va_up f pa (aR (q 5) n g2)) a (.inr (ciT (z.2 a).1, itF nu kd pa cn2 fa rest))) := by
  obtain ⟨h1, h2, h3, ⟨g1, gi, g2i, g3⟩, h5⟩ := h
  obtain ⟨nu2, kd2, cn3, pa2, fa2, rest2, e1, e2, e3, e4, e5⟩ := (h3 a ha.1).2.2.2.2.2.2.2.2.1 ha.2.1 ha.2.2
  obtain ⟨i1_, i2, i3, i4, i5, i6⟩ := itF_inj (hf.symm.trans e1)
  subst i3 i5 i6
  obtain ⟨n2, q1, q2, gx, q3, q4⟩ := (h3 pa e2.1).2.2.2.2.2.2.2.2.2.1 e2.2
  obtain ⟨j1, j2⟩ := aR_inj (hp.symm.trans q3)
  subst j1
  have hne : a ≠ pa := fun e => by have := ha.2; rw [e, e2.2] at this; omega
  have ha1 : a ≠ h0 := fun e => by have := ha.2; rw [e, h2.1.2] at this; omega
  have ha4 : a ≠ d 2 := fun e => by have := ha.2; rw [e, h2.2.2.2.1.2] at this; omega
  refine ⟨h1, h2, up_loc (up_loc h3 (cO_16 e2.2 ⟨n, q1, q2, g2, rfl, hg⟩)) (cO_I ha ⟨nu, kd, cn2, pa, fa, rest, rfl, e2, e3, e4, e5⟩), ⟨?_, gi, ?_, g3⟩, ?_⟩
  · rw [up_o (fun e => ha1 e.symm), up_o (tg_ne h2.1 e2 (by decide))]; exact g1
  · rw [up_o (fun e => ha4 e.symm), up_o (tg_ne h2.2.2.2.1 e2 (by decide))]; exact g2i
  · intro b hb mu md mn ma mf ms hm
    by_cases eb : b = a
    · subst eb
      rw [up_s] at hm
      obtain ⟨o1, o2, o3, o4, o5, o6⟩ := itF_inj hm
      subst o3 o4
      exact ⟨n, g2, by rw [up_o (fun e => hne e.symm), up_s], q1, q2, hc, hn⟩
    · rw [up_o eb] at hm
      have hbp : b ≠ pa := fun e => by have := hb.2; rw [e, e2.2] at this; omega
      rw [up_o hbp] at hm
      obtain ⟨n5, g5, r1, r2⟩ := h5 b hb mu md mn ma mf ms hm
      obtain ⟨nu7, kd7, cn7, pa7, fa7, rest7, t1, t2, t3, -⟩ := (h3 b hb.1).2.2.2.2.2.2.2.2.1 hb.2.1 hb.2.2
      obtain ⟨-, -, u3, -⟩ := itF_inj (hm.symm.trans t1)
      rw [← u3] at t2 t3
      have hma : ma ≠ pa := fun e => eb (by rw [← t3, e, e3])
      have hma2 : ma ≠ a := fun e => by have := ha.2; rw [← e, t2.2] at this; omega
      exact ⟨n5, g5, by rw [up_o hma2, up_o hma]; exact r1, r2⟩
theorem up_id {f : xF} {a : Nat} {e : va_E} (h : f a = e) : va_up f a e = f := by
  funext b
  by_cases e1 : b = a
  · rw [e1, up_s, h]
  · rw [up_o e1]
/-- the pieces alone -/
theorem x_upP {q h0 d k z f} (h : xI q h0 d k z f) {a : Nat} (ha : itm z a) {nu kd cn : Int32} {pa fa : Nat} {rest : List Value} (hf : f a = .inr (ciT (z.2 a).1, itF nu kd pa cn fa rest)) {n : Nat} {g g2 : Nat → Option Nat} (hp : f pa = aR (q 5) n g) (hpa : pa ≠ a) (hc : bw cn 0 (nI n) = true) (hn : ∀ j, j < cn.toNatClampNeg → ∃ b, g2 j = some b) (hg : ∀ j, j < n → ∀ b, g2 j = some b → lgP z b) : xI q h0 d k z (va_up f pa (aR (q 5) n g2)) := by
  have h1 := x_pp h ha hf hp hc hn hg
  rw [up_id (by rw [up_o (fun e => hpa e.symm)]; exact hf)] at h1
  exact h1
/-- the count alone -/
theorem x_upC {q h0 d k z f} (h : xI q h0 d k z f) {a : Nat} (ha : itm z a) {nu kd cn cn2 : Int32} {pa fa : Nat} {rest : List Value} (hf : f a = .inr (ciT (z.2 a).1, itF nu kd pa cn fa rest)) {n : Nat} {g : Nat → Option Nat} (hp : f pa = aR (q 5) n g) (hc : bw cn2 0 (nI n) = true) (hn : ∀ j, j < cn2.toNatClampNeg → ∃ b, g j = some b) (hg : ∀ j, j < n → ∀ b, g j = some b → lgP z b) : xI q h0 d k z (va_up f a (.inr (ciT (z.2 a).1, itF nu kd pa cn2 fa rest))) := by
  have h1 := x_pp h ha hf hp hc hn hg
  rw [up_id hp] at h1
  exact h1
theorem x_pan {q h0 d k z f} (h : xI q h0 d k z f) {a : Nat} (ha : itm z a) {pa : Nat} (hp : tg z pa 16) : pa ≠ a := fun e => by have := ha.2; rw [← e, hp.2] at this; omega
/-- the pieces of an item, by any telling of its fields -/
theorem x_pcs2 {q h0 d k z f} (h : xI q h0 d k z f) {a : Nat} (ha : itm z a) {nu kd cn : Int32} {pa fa : Nat} {rest : List Value} (hf : f a = .inr (ciT (z.2 a).1, itF nu kd pa cn fa rest)) : ∃ n g, f pa = aR (q 5) n g ∧ 1 ≤ n ∧ n ≤ 6 ∧ bw cn 0 (nI n) = true ∧ (∀ j, j < cn.toNatClampNeg → ∃ b, g j = some b) ∧ ∀ j, j < n → ∀ b, g j = some b → lgP z b := x_pcs h ha rfl hf
