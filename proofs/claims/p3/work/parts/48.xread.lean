/-- which items are not which -/
def XN (U : State) : Prop := va_Nw (.declares ⟨"PageOne$Item", "linesBy", "(I)I"⟩) U ∧ va_Nc "PageOne$Filler" "PageOne$Head" U ∧ va_Nc "PageOne$Filler" "PageOne$Notice" U ∧ va_Nc "PageOne$Filler" "PageOne$Paid" U ∧ va_Nc "PageOne$Filler" "PageOne$Picture" U ∧ va_Nc "PageOne$Filler" "PageOne$Story" U ∧ va_Nc "PageOne$Head" "PageOne$Filler" U ∧ va_Nc "PageOne$Head" "PageOne$Notice" U ∧ va_Nc "PageOne$Head" "PageOne$Paid" U ∧ va_Nc "PageOne$Head" "PageOne$Picture" U ∧ va_Nc "PageOne$Head" "PageOne$Story" U ∧ va_Nc "PageOne$Notice" "PageOne$Filler" U ∧ va_Nc "PageOne$Notice" "PageOne$Head" U ∧ va_Nc "PageOne$Notice" "PageOne$Paid" U ∧ va_Nc "PageOne$Notice" "PageOne$Picture" U ∧ va_Nc "PageOne$Notice" "PageOne$Story" U ∧ va_Nc "PageOne$Paid" "PageOne$Filler" U ∧ va_Nc "PageOne$Paid" "PageOne$Head" U ∧ va_Nc "PageOne$Paid" "PageOne$Notice" U ∧ va_Nc "PageOne$Paid" "PageOne$Picture" U ∧ va_Nc "PageOne$Paid" "PageOne$Story" U ∧ va_Nc "PageOne$Picture" "PageOne$Filler" U ∧ va_Nc "PageOne$Picture" "PageOne$Head" U ∧ va_Nc "PageOne$Picture" "PageOne$Notice" U ∧ va_Nc "PageOne$Picture" "PageOne$Paid" U ∧ va_Nc "PageOne$Picture" "PageOne$Story" U ∧ va_Nc "PageOne$Story" "PageOne$Filler" U ∧ va_Nc "PageOne$Story" "PageOne$Head" U ∧ va_Nc "PageOne$Story" "PageOne$Notice" U ∧ va_Nc "PageOne$Story" "PageOne$Paid" U ∧ va_Nc "PageOne$Story" "PageOne$Picture" U
theorem XN.moved {s U : State} (hW : s.WarmedH U.vm) (h : XN s) : XN U := by
  obtain ⟨hz, h0, h1, h2, h3, h4, h5, h6, h7, h8, h9, h10, h11, h12, h13, h14, h15, h16, h17, h18, h19, h20, h21, h22, h23, h24, h25, h26, h27, h28, h29⟩ := h
  have hv := hW.alike
  exact ⟨va_Nw.warmD hW hz, h0.moved hv, h1.moved hv, h2.moved hv, h3.moved hv, h4.moved hv, h5.moved hv, h6.moved hv, h7.moved hv, h8.moved hv, h9.moved hv, h10.moved hv, h11.moved hv, h12.moved hv, h13.moved hv, h14.moved hv, h15.moved hv, h16.moved hv, h17.moved hv, h18.moved hv, h19.moved hv, h20.moved hv, h21.moved hv, h22.moved hv, h23.moved hv, h24.moved hv, h25.moved hv, h26.moved hv, h27.moved hv, h28.moved hv, h29.moved hv⟩
theorem XN.same {s U : State} (he : s.vm = U.vm) (h : XN s) : XN U := by
  obtain ⟨hz, h0, h1, h2, h3, h4, h5, h6, h7, h8, h9, h10, h11, h12, h13, h14, h15, h16, h17, h18, h19, h20, h21, h22, h23, h24, h25, h26, h27, h28, h29⟩ := h
  have hv : s.vm.Alike U.vm := by rw [he]; exact Vm.Alike.refl _
  exact ⟨va_Nw.same rfl he hz, h0.moved hv, h1.moved hv, h2.moved hv, h3.moved hv, h4.moved hv, h5.moved hv, h6.moved hv, h7.moved hv, h8.moved hv, h9.moved hv, h10.moved hv, h11.moved hv, h12.moved hv, h13.moved hv, h14.moved hv, h15.moved hv, h16.moved hv, h17.moved hv, h18.moved hv, h19.moved hv, h20.moved hv, h21.moved hv, h22.moved hv, h23.moved hv, h24.moved hv, h25.moved hv, h26.moved hv, h27.moved hv, h28.moved hv, h29.moved hv⟩
theorem XN.n_X2_X3 {U : State} (h : XN U) : va_Nc RX2 RX3 U := h.2.1
theorem XN.n_X2_X5 {U : State} (h : XN U) : va_Nc RX2 RX5 U := h.2.2.1
theorem XN.n_X2_X6 {U : State} (h : XN U) : va_Nc RX2 RX6 U := h.2.2.2.1
theorem XN.n_X2_X7 {U : State} (h : XN U) : va_Nc RX2 RX7 U := h.2.2.2.2.1
theorem XN.n_X2_X10 {U : State} (h : XN U) : va_Nc RX2 RX10 U := h.2.2.2.2.2.1
theorem XN.n_X3_X2 {U : State} (h : XN U) : va_Nc RX3 RX2 U := h.2.2.2.2.2.2.1
theorem XN.n_X3_X5 {U : State} (h : XN U) : va_Nc RX3 RX5 U := h.2.2.2.2.2.2.2.1
theorem XN.n_X3_X6 {U : State} (h : XN U) : va_Nc RX3 RX6 U := h.2.2.2.2.2.2.2.2.1
theorem XN.n_X3_X7 {U : State} (h : XN U) : va_Nc RX3 RX7 U := h.2.2.2.2.2.2.2.2.2.1
theorem XN.n_X3_X10 {U : State} (h : XN U) : va_Nc RX3 RX10 U := h.2.2.2.2.2.2.2.2.2.2.1
theorem XN.n_X5_X2 {U : State} (h : XN U) : va_Nc RX5 RX2 U := h.2.2.2.2.2.2.2.2.2.2.2.1
theorem XN.n_X5_X3 {U : State} (h : XN U) : va_Nc RX5 RX3 U := h.2.2.2.2.2.2.2.2.2.2.2.2.1
theorem XN.n_X5_X6 {U : State} (h : XN U) : va_Nc RX5 RX6 U := h.2.2.2.2.2.2.2.2.2.2.2.2.2.1
theorem XN.n_X5_X7 {U : State} (h : XN U) : va_Nc RX5 RX7 U := h.2.2.2.2.2.2.2.2.2.2.2.2.2.2.1
theorem XN.n_X5_X10 {U : State} (h : XN U) : va_Nc RX5 RX10 U := h.2.2.2.2.2.2.2.2.2.2.2.2.2.2.2.1
theorem XN.n_X6_X2 {U : State} (h : XN U) : va_Nc RX6 RX2 U := h.2.2.2.2.2.2.2.2.2.2.2.2.2.2.2.2.1
theorem XN.n_X6_X3 {U : State} (h : XN U) : va_Nc RX6 RX3 U := h.2.2.2.2.2.2.2.2.2.2.2.2.2.2.2.2.2.1
theorem XN.n_X6_X5 {U : State} (h : XN U) : va_Nc RX6 RX5 U := h.2.2.2.2.2.2.2.2.2.2.2.2.2.2.2.2.2.2.1
theorem XN.n_X6_X7 {U : State} (h : XN U) : va_Nc RX6 RX7 U := h.2.2.2.2.2.2.2.2.2.2.2.2.2.2.2.2.2.2.2.1
theorem XN.n_X6_X10 {U : State} (h : XN U) : va_Nc RX6 RX10 U := h.2.2.2.2.2.2.2.2.2.2.2.2.2.2.2.2.2.2.2.2.1
theorem XN.n_X7_X2 {U : State} (h : XN U) : va_Nc RX7 RX2 U := h.2.2.2.2.2.2.2.2.2.2.2.2.2.2.2.2.2.2.2.2.2.1
theorem XN.n_X7_X3 {U : State} (h : XN U) : va_Nc RX7 RX3 U := h.2.2.2.2.2.2.2.2.2.2.2.2.2.2.2.2.2.2.2.2.2.2.1
theorem XN.n_X7_X5 {U : State} (h : XN U) : va_Nc RX7 RX5 U := h.2.2.2.2.2.2.2.2.2.2.2.2.2.2.2.2.2.2.2.2.2.2.2.1
theorem XN.n_X7_X6 {U : State} (h : XN U) : va_Nc RX7 RX6 U := h.2.2.2.2.2.2.2.2.2.2.2.2.2.2.2.2.2.2.2.2.2.2.2.2.1
theorem XN.n_X7_X10 {U : State} (h : XN U) : va_Nc RX7 RX10 U := h.2.2.2.2.2.2.2.2.2.2.2.2.2.2.2.2.2.2.2.2.2.2.2.2.2.1
theorem XN.n_X10_X2 {U : State} (h : XN U) : va_Nc RX10 RX2 U := h.2.2.2.2.2.2.2.2.2.2.2.2.2.2.2.2.2.2.2.2.2.2.2.2.2.2.1
theorem XN.n_X10_X3 {U : State} (h : XN U) : va_Nc RX10 RX3 U := h.2.2.2.2.2.2.2.2.2.2.2.2.2.2.2.2.2.2.2.2.2.2.2.2.2.2.2.1
theorem XN.n_X10_X5 {U : State} (h : XN U) : va_Nc RX10 RX5 U := h.2.2.2.2.2.2.2.2.2.2.2.2.2.2.2.2.2.2.2.2.2.2.2.2.2.2.2.2.1
theorem XN.n_X10_X6 {U : State} (h : XN U) : va_Nc RX10 RX6 U := h.2.2.2.2.2.2.2.2.2.2.2.2.2.2.2.2.2.2.2.2.2.2.2.2.2.2.2.2.2.1
theorem XN.n_X10_X7 {U : State} (h : XN U) : va_Nc RX10 RX7 U := h.2.2.2.2.2.2.2.2.2.2.2.2.2.2.2.2.2.2.2.2.2.2.2.2.2.2.2.2.2.2
def PX (dC : Nat → ClassId) (dI : Nat → Nat → Nat) (ws : va_W) (tys : List (ClassId × FieldType)) (U : State) : Prop := PW dC dI ws tys U ∧ XN U
theorem px_fb {av : List Value} {dC : Nat → ClassId} {dI : Nat → Nat → Nat} {ws : va_W} {tys : List (ClassId × FieldType)} : FrameBlind (va_Pc av (PX dC dI ws tys)) := fun a U g mk q => ⟨q.1, ⟨q.2.1.1, va_K.moved (u := U) (U := U.calling g mk a) (Vm.Alike.refl U.vm) q.2.1.2.1, NN.same (s := U) (U := U.calling g mk a) rfl q.2.1.2.2⟩, XN.same (s := U) (U := U.calling g mk a) rfl q.2.2⟩
theorem gx_fb {av : List Value} {dC : Nat → ClassId} {dI : Nat → Nat → Nat} {ws ws' : va_W} {tys : List (ClassId × FieldType)} {sz : Nat} : FrameBlind (va_Pc av (fun U => U.heap.size = sz ∧ PX dC dI ws tys U ∧ va_D (fun _ => True) ws')) := fun a U g mk q => ⟨q.1, q.2.1, ⟨⟨q.2.2.1.1.1, va_K.moved (u := U) (U := U.calling g mk a) (Vm.Alike.refl U.vm) q.2.2.1.1.2.1, NN.same (s := U) (U := U.calling g mk a) rfl q.2.2.1.1.2.2⟩, XN.same (s := U) (U := U.calling g mk a) rfl q.2.2.1.2⟩, q.2.2.2⟩
theorem px_to {dC : Nat → ClassId} {dI : Nat → Nat → Nat} {ws : va_W} {tys : List (ClassId × FieldType)} {s U : State} {H : Heap} (hU : U.heap = H) (hW : s.WarmedH U.vm) (hP : va_P (dC, dI) vwCl ws H) (hK : va_K (dC, dI) vwCl tys s) (hN : NN s) (hXN : XN s) : PX dC dI ws tys U := ⟨pw_to hU hW hP hK hN, hXN.moved hW⟩
theorem w_then {p : Program} {l : Launch} {e : Env} {R : Room} {s : State} {m : MethodId} {args : Array Value} {below : List Frame} {meth : Method} {c : Code} {H : Heap} {locs : List Loc} {cells slots : Nat} {Q : State → Prop} {g : JFrame} (g2 : JFrame) (h : W p l e R s m args below meth c H locs cells slots Q g2 → W p l e R s m args below meth c H locs cells slots Q g) (h2 : W p l e R s m args below meth c H locs cells slots Q g2) : W p l e R s m args below meth c H locs cells slots Q g := h h2
/-- an item is one of six -/
theorem x_tag {z : gS} {a : Nat} (h : itm z a) : tg z a 10 ∨ tg z a 11 ∨ tg z a 12 ∨ tg z a 13 ∨ tg z a 14 ∨ tg z a 15 := by
  obtain ⟨h1, h2, h3⟩ := h
  have h4 : (z.2 a).1 = 10 ∨ (z.2 a).1 = 11 ∨ (z.2 a).1 = 12 ∨ (z.2 a).1 = 13 ∨ (z.2 a).1 = 14 ∨ (z.2 a).1 = 15 := by omega
  rcases h4 with e | e | e | e | e | e
  · exact Or.inl ⟨h1, e⟩
  · exact Or.inr (Or.inl ⟨h1, e⟩)
  · exact Or.inr (Or.inr (Or.inl ⟨h1, e⟩))
  · exact Or.inr (Or.inr (Or.inr (Or.inl ⟨h1, e⟩)))
  · exact Or.inr (Or.inr (Or.inr (Or.inr (Or.inl ⟨h1, e⟩))))
  · exact Or.inr (Or.inr (Or.inr (Or.inr (Or.inr ⟨h1, e⟩))))
theorem tg_itm {z : gS} {a t : Nat} (h : tg z a t) (h1 : 10 ≤ t ∧ t ≤ 15) : itm z a := ⟨h.1, by rw [h.2]; exact h1.1, by rw [h.2]; exact h1.2⟩
/-- a piece's fields, once known, are known for good -/
theorem x_pcS {q h0 d k z f} (h : xI q h0 d k z f) {a : Nat} (ha : tg z a 22) : ∃ (it : Option Nat) (P X Y D N : Int32), pcS z a it P X Y D N ∧ bw P 0 11 = true ∧ ∀ b, it = some b → itm z b := by
  obtain ⟨-, it, P, X, Y, D, N, h1, h2, h3⟩ := x_22 h ha
  exact ⟨it, P, X, Y, D, N, ⟨ha, h1⟩, h2, h3⟩
theorem x_pcF {q h0 d k z f} (h : xI q h0 d k z f) {a : Nat} {it : Option Nat} {P X Y D N : Int32} (ha : pcS z a it P X Y D N) : f a = .inr (7, [va_rf it, .int P, .int X, .int Y, .int D, .int N]) := by
  rw [(x_22 h ha.1).1, ha.2]
theorem x_pcB {q h0 d k z f} (h : xI q h0 d k z f) {a : Nat} {it : Option Nat} {P X Y D N : Int32} (ha : pcS z a it P X Y D N) : bw P 0 11 = true ∧ ∀ b, it = some b → itm z b := by
  obtain ⟨it2, P2, X2, Y2, D2, N2, h1, h2, h3⟩ := x_pcS h ha.1
  have e := ha.2.symm.trans h1.2
  simp only [List.cons.injEq, Value.int.injEq] at e
  refine ⟨by rw [e.2.1]; exact h2, fun b hb => ?_⟩
  have e1 := e.1
  rw [hb] at e1
  cases it2 with
  | none => exact absurd e1 (by unfold va_rf; simp)
  | some b2 =>
    have e3 : b = b2 := by unfold va_rf at e1; simpa using e1
    rw [e3]; exact h3 b2 rfl
/-- an act's -/
def acS (z : gS) (a p : Nat) (l n : Int32) (ah : Option Nat) : Prop := tg z a 23 ∧ (z.2 a).2.2 = [.ref p, .int l, va_rf ah, .int n]
theorem x_acS {q h0 d k z f} (h : xI q h0 d k z f) {a : Nat} (ha : tg z a 23) : ∃ (p : Nat) (l n : Int32) (ah : Option Nat), acS z a p l n ah ∧ f a = .inr (0, [.ref p, .int l, va_rf ah, .int n]) ∧ lgP z p ∧ ∀ b, ah = some b → tg z b 23 ∧ (z.2 b).2.1 < (z.2 a).2.1 := by
  obtain ⟨h0, p, l, n, ah, h1, h2, h3⟩ := x_23 h ha
  exact ⟨p, l, n, ah, ⟨ha, h1⟩, by rw [h0, h1], h2, h3⟩
/-- an item of a known kind -/
theorem x_ifl {q h0 d k z f} (h : xI q h0 d k z f) {a : Nat} (ha : tg z a 10) : ∃ (nu kd cn : Int32) (pa fa : Nat) (l m : Int32), f a = .inr (2, [.int nu, .int kd, .ref pa, .int cn, .ref fa, .int l, .int m]) ∧ tg z pa 16 ∧ (z.2 pa).2.1 = a ∧ tg z fa 17 := by
  obtain ⟨nu, kd, cn, pa, fa, rest, e, h1, h2, h3, h4⟩ := x_im h (tg_itm ha (by decide))
  rw [ha.2] at e h4
  obtain ⟨l, m, e2⟩ := h4.1 rfl
  exact ⟨nu, kd, cn, pa, fa, l, m, by rw [e, e2]; rfl, h1, h2, h3⟩
theorem x_ihd {q h0 d k z f} (h : xI q h0 d k z f) {a : Nat} (ha : tg z a 11) : ∃ (nu kd cn : Int32) (pa fa o : Nat) (w y : Int32), f a = .inr (3, [.int nu, .int kd, .ref pa, .int cn, .ref fa, .ref o, .int w, .int y]) ∧ tg z pa 16 ∧ (z.2 pa).2.1 = a ∧ tg z fa 17 ∧ tg z o 15 := by
  obtain ⟨nu, kd, cn, pa, fa, rest, e, h1, h2, h3, h4⟩ := x_im h (tg_itm ha (by decide))
  rw [ha.2] at e h4
  obtain ⟨o, w, y, e2, h5⟩ := h4.2.1 rfl
  exact ⟨nu, kd, cn, pa, fa, o, w, y, by rw [e, e2]; rfl, h1, h2, h3, h5⟩
theorem x_ino {q h0 d k z f} (h : xI q h0 d k z f) {a : Nat} (ha : tg z a 12) : ∃ (nu kd cn : Int32) (pa fa o : Nat) (y : Int32), f a = .inr (4, [.int nu, .int kd, .ref pa, .int cn, .ref fa, .ref o, .int y]) ∧ tg z pa 16 ∧ (z.2 pa).2.1 = a ∧ tg z fa 17 ∧ itm z o := by
  obtain ⟨nu, kd, cn, pa, fa, rest, e, h1, h2, h3, h4⟩ := x_im h (tg_itm ha (by decide))
  rw [ha.2] at e h4
  obtain ⟨o, y, e2, h5⟩ := h4.2.2.1 rfl
  exact ⟨nu, kd, cn, pa, fa, o, y, by rw [e, e2]; rfl, h1, h2, h3, h5⟩
theorem x_ipd {q h0 d k z f} (h : xI q h0 d k z f) {a : Nat} (ha : tg z a 13) : ∃ (nu kd cn : Int32) (pa fa : Nat) (b pr : Int32) (sp dy : Nat), f a = .inr (5, [.int nu, .int kd, .ref pa, .int cn, .ref fa, .int b, .int pr, .ref sp, .ref dy]) ∧ tg z pa 16 ∧ (z.2 pa).2.1 = a ∧ tg z fa 17 ∧ bw b 0 9 = true ∧ lgP z sp ∧ tg z dy 21 := by
  obtain ⟨nu, kd, cn, pa, fa, rest, e, h1, h2, h3, h4⟩ := x_im h (tg_itm ha (by decide))
  rw [ha.2] at e h4
  obtain ⟨b, pr, sp, dy, e2, h5⟩ := h4.2.2.2.1 rfl
  exact ⟨nu, kd, cn, pa, fa, b, pr, sp, dy, by rw [e, e2]; rfl, h1, h2, h3, h5⟩
theorem x_ipi {q h0 d k z f} (h : xI q h0 d k z f) {a : Nat} (ha : tg z a 14) : ∃ (nu kd cn : Int32) (pa fa ww hh : Nat) (sz : Int32), f a = .inr (6, [.int nu, .int kd, .ref pa, .int cn, .ref fa, .ref ww, .ref hh, .int sz]) ∧ tg z pa 16 ∧ (z.2 pa).2.1 = a ∧ tg z fa 17 ∧ tg z ww 20 ∧ tg z hh 20 ∧ bw sz 0 4 = true := by
  obtain ⟨nu, kd, cn, pa, fa, rest, e, h1, h2, h3, h4⟩ := x_im h (tg_itm ha (by decide))
  rw [ha.2] at e h4
  obtain ⟨ww, hh, sz, e2, h5⟩ := h4.2.2.2.2.1 rfl
  exact ⟨nu, kd, cn, pa, fa, ww, hh, sz, by rw [e, e2]; rfl, h1, h2, h3, h5⟩
theorem x_ist {q h0 d k z f} (h : xI q h0 d k z f) {a : Nat} (ha : tg z a 15) : ∃ (nu kd cn : Int32) (pa fa : Nat) (l co : Int32) (wd nm : Nat), f a = .inr (9, [.int nu, .int kd, .ref pa, .int cn, .ref fa, .int l, .ref wd, .int co, .ref nm]) ∧ tg z pa 16 ∧ (z.2 pa).2.1 = a ∧ tg z fa 17 ∧ tg z wd 18 ∧ bw co 0 80 = true ∧ tg z nm 19 := by
  obtain ⟨nu, kd, cn, pa, fa, rest, e, h1, h2, h3, h4⟩ := x_im h (tg_itm ha (by decide))
  rw [ha.2] at e h4
  obtain ⟨l, co, wd, nm, e2, h5⟩ := h4.2.2.2.2.2 rfl
  exact ⟨nu, kd, cn, pa, fa, l, co, wd, nm, by rw [e, e2]; rfl, h1, h2, h3, h5⟩
/-- an item's pieces, by its own fields -/
theorem x_pcs {q h0 d k z f} (h : xI q h0 d k z f) {a : Nat} (ha : itm z a) {c : Nat} (hc : c = ciT (z.2 a).1) {nu kd cn : Int32} {pa fa : Nat} {rest : List Value} (hf : f a = .inr (c, .int nu :: .int kd :: .ref pa :: .int cn :: .ref fa :: rest)) : ∃ n g, f pa = aR (q 5) n g ∧ 1 ≤ n ∧ n ≤ 6 ∧ bw cn 0 (nI n) = true ∧ (∀ j, j < cn.toNatClampNeg → ∃ b, g j = some b) ∧ ∀ j, j < n → ∀ b, g j = some b → lgP z b := by
  subst hc
  obtain ⟨n, g, r1, r2, r3, r4, r5⟩ := h.2.2.2.2 a ha nu kd cn pa fa rest hf
  obtain ⟨nu2, kd2, cn2, pa2, fa2, rest2, e1, e2, -⟩ := x_im h ha
  rw [hf] at e1
  have e3 : itF nu kd pa cn fa rest = itF nu2 kd2 pa2 cn2 fa2 rest2 := (Prod.mk.inj (Sum.inr.inj e1)).2
  unfold itF at e3
  have e4 : pa = pa2 := by
    simp only [List.cons.injEq, Value.ref.injEq] at e3
    exact e3.2.2.1
  rw [← e4] at e2
  obtain ⟨n2, -, -, g2, q1, q2⟩ := x_pc h e2
  have e5 := r1.symm.trans q1
  have e6 := (Prod.mk.inj (Prod.mk.inj (Sum.inl.inj e5)).2)
  obtain ⟨e7, e8⟩ := e6
  have e9 : g = g2 := Sum.inr.inj (Sum.inr.inj (Sum.inr.inj (Sum.inr.inj e8)))
  exact ⟨n, g, r1, r2, r3, r4, r5, by rw [e7, e9]; exact q2⟩
