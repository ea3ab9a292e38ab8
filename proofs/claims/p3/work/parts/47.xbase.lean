/-- what lies in the class's heap: the addresses; of each its tag, its owner or rank, the fields that never change -/
abbrev gS : Type := List Nat × (Nat → Nat × Nat × List Value)
abbrev xF : Type := Nat → va_E
abbrev aI (c : ClassId) (n : Nat) (g : Nat → Int32) : va_E := .inl (c, n, .inl g)
abbrev aR (c : ClassId) (n : Nat) (g : Nat → Option Nat) : va_E := .inl (c, n, .inr (.inr (.inr (.inr g))))
abbrev xT (q : Nat → ClassId) : List (ClassId × FieldType) := [(q 0, .int), (q 1, .boolean), (q 2, .object "PageOne$Sheet"), (q 3, .object "PageOne$Item"), (q 4, .object "PageOne$Act"), (q 5, .object "PageOne$Piece")]
def tg (z : gS) (a t : Nat) : Prop := a ∈ z.1 ∧ (z.2 a).1 = t
def itm (z : gS) (a : Nat) : Prop := a ∈ z.1 ∧ 10 ≤ (z.2 a).1 ∧ (z.2 a).1 ≤ 15
/-- a piece and its fields -/
def pcS (z : gS) (a : Nat) (it : Option Nat) (P X Y D N : Int32) : Prop := tg z a 22 ∧ (z.2 a).2.2 = [va_rf it, .int P, .int X, .int Y, .int D, .int N]
/-- a piece that may stand -/
def lgP (z : gS) (a : Nat) : Prop := ∃ (it : Option Nat) (P X Y D N : Int32), pcS z a it P X Y D N ∧ bw X 0 7 = true ∧ bw Y 0 60 = true ∧ bw D 0 8 = true ∧ bw N 0 60 = true
def ciT (t : Nat) : Nat := if t = 15 then 9 else t - 8
/-- what stands behind an item's five common fields, by its tag: 10 filler, 11 head, 12 notice, 13 paid, 14 picture, 15 story -/
def rsT (z : gS) (t : Nat) (rest : List Value) : Prop :=
  (t = 10 → ∃ l m : Int32, rest = [.int l, .int m]) ∧
  (t = 11 → ∃ (o : Nat) (w h : Int32), rest = [.ref o, .int w, .int h] ∧ tg z o 15) ∧
  (t = 12 → ∃ (o : Nat) (h : Int32), rest = [.ref o, .int h] ∧ itm z o) ∧
  (t = 13 → ∃ (b pr : Int32) (sp dy : Nat), rest = [.int b, .int pr, .ref sp, .ref dy] ∧ bw b 0 9 = true ∧ lgP z sp ∧ tg z dy 21) ∧
  (t = 14 → ∃ (ww hh : Nat) (sz : Int32), rest = [.ref ww, .ref hh, .int sz] ∧ tg z ww 20 ∧ tg z hh 20 ∧ bw sz 0 4 = true) ∧
  (t = 15 → ∃ (l co : Int32) (wd nm : Nat), rest = [.int l, .ref wd, .int co, .ref nm] ∧ tg z wd 18 ∧ bw co 0 80 = true ∧ tg z nm 19)
def itF (nu kd : Int32) (pa : Nat) (cn : Int32) (fa : Nat) (rest : List Value) : List Value := .int nu :: .int kd :: .ref pa :: .int cn :: .ref fa :: rest
def wItem (z : gS) (a : Nat) (e : va_E) : Prop := ∃ (nu kd cn : Int32) (pa fa : Nat) (rest : List Value), e = .inr (ciT (z.2 a).1, itF nu kd pa cn fa rest) ∧ tg z pa 16 ∧ (z.2 pa).2.1 = a ∧ tg z fa 17 ∧ rsT z (z.2 a).1 rest
def wSh (z : gS) (e : va_E) : Prop := ∃ (la ca : Nat) (m d i : Int32), e = .inr (8, [.ref la, .ref ca, .int m, .int d, .int i]) ∧ tg z la 8 ∧ tg z ca 9
def wLn (q : Nat → ClassId) (e : va_E) : Prop := ∃ g, e = aI (q 0) 8 g ∧ ∀ j, j < 8 → bw (g j) 0 60 = true
def wI (q : Nat → ClassId) (c n : Nat) (e : va_E) : Prop := ∃ g, e = aI (q c) n g
def wZ (q : Nat → ClassId) (e : va_E) : Prop := ∃ g, e = aI (q 1) 100 g ∧ ∀ j, g j = 0 ∨ g j = 1
def wPg (q : Nat → ClassId) (z : gS) (e : va_E) : Prop := ∃ g, e = aR (q 2) 12 g ∧ ∀ j, j < 12 → ∃ b, g j = some b ∧ tg z b 7
def wR (q : Nat → ClassId) (c n : Nat) (P : Nat → Prop) (e : va_E) : Prop := ∃ g, e = aR (q c) n g ∧ ∀ j, j < n → ∀ b, g j = some b → P b
def wPc (q : Nat → ClassId) (z : gS) (e : va_E) : Prop := ∃ n, 1 ≤ n ∧ n ≤ 6 ∧ wR q 5 n (lgP z) e
def wPi (z : gS) (a : Nat) (e : va_E) : Prop := e = .inr (7, (z.2 a).2.2) ∧ ∃ (it : Option Nat) (P X Y D N : Int32), (z.2 a).2.2 = [va_rf it, .int P, .int X, .int Y, .int D, .int N] ∧ bw P 0 11 = true ∧ ∀ b, it = some b → itm z b
def wAc (z : gS) (a : Nat) (e : va_E) : Prop := e = .inr (0, (z.2 a).2.2) ∧ ∃ (p : Nat) (l n : Int32) (ah : Option Nat), (z.2 a).2.2 = [.ref p, .int l, va_rf ah, .int n] ∧ lgP z p ∧ ∀ b, ah = some b → tg z b 23 ∧ (z.2 b).2.1 < (z.2 a).2.1
/-- a cell is what its tag says -/
def cO (q : Nat → ClassId) (z : gS) (a : Nat) (e : va_E) : Prop :=
  ((z.2 a).1 = 2 → wPg q z e) ∧ ((z.2 a).1 = 3 → wR q 2 12 (fun b => tg z b 7) e) ∧ ((z.2 a).1 = 4 → wR q 3 80 (itm z) e) ∧ ((z.2 a).1 = 5 → wR q 4 300 (fun b => tg z b 23) e) ∧ ((z.2 a).1 = 6 → wZ q e) ∧ ((z.2 a).1 = 7 → wSh z e) ∧ ((z.2 a).1 = 8 → wLn q e) ∧ ((z.2 a).1 = 9 → wI q 0 480 e) ∧ (10 ≤ (z.2 a).1 → (z.2 a).1 ≤ 15 → wItem z a e) ∧ ((z.2 a).1 = 16 → wPc q z e) ∧ ((z.2 a).1 = 17 → wI q 0 5 e) ∧ ((z.2 a).1 = 18 → wI q 0 80 e) ∧ ((z.2 a).1 = 19 → wI q 1 10 e) ∧ ((z.2 a).1 = 20 → wI q 0 4 e) ∧ ((z.2 a).1 = 21 → wI q 1 400 e) ∧ ((z.2 a).1 = 22 → wPi z a e) ∧ ((z.2 a).1 = 23 → wAc z a e)
/-- the desk's own fields: the rows' addresses; items, acts, today, edition -/
def dkF (d : Nat → Nat) (k : Nat → Int32) : List Value := [.ref (d 0), .ref (d 1), .ref (d 2), .int (k 0), .ref (d 3), .int (k 1), .ref (d 4), .int (k 2), .int (k 3)]
def kOK (k : Nat → Int32) : Prop := bw (k 0) 0 80 = true ∧ bw (k 1) 0 300 = true ∧ bw (k 2) 0 399 = true
def dkS (h0 : Nat) (d : Nat → Nat) (z : gS) : Prop := tg z h0 1 ∧ tg z (d 0) 2 ∧ tg z (d 1) 3 ∧ tg z (d 2) 4 ∧ tg z (d 3) 5 ∧ tg z (d 4) 6
def r1 (q : Nat → ClassId) (h0 : Nat) (d : Nat → Nat) (k : Nat → Int32) (f : xF) : Prop := f h0 = .inr (10, dkF d k) ∧ ∃ g, f (d 2) = aR (q 3) 80 g ∧ ∀ j, j < (k 0).toNatClampNeg → ∃ b, g j = some b
/-- an item's pieces: below its count there is one -/
def r2 (q : Nat → ClassId) (z : gS) (f : xF) : Prop := ∀ a, itm z a → ∀ nu kd cn pa fa rest, f a = .inr (ciT (z.2 a).1, itF nu kd pa cn fa rest) → ∃ n g, f pa = aR (q 5) n g ∧ 1 ≤ n ∧ n ≤ 6 ∧ bw cn 0 (nI n) = true ∧ ∀ j, j < cn.toNatClampNeg → ∃ b, g j = some b
/-- the class's invariant -/
def xI (q : Nat → ClassId) (h0 : Nat) (d : Nat → Nat) (k : Nat → Int32) (z : gS) (f : xF) : Prop := kOK k ∧ dkS h0 d z ∧ (∀ a, a ∈ z.1 → cO q z a (f a)) ∧ r1 q h0 d k f ∧ r2 q z f
/-- more may lie there, what lay there stays what it is -/
def zE (z w : gS) : Prop := ∀ a, a ∈ z.1 → a ∈ w.1 ∧ w.2 a = z.2 a
theorem zE_rf (z : gS) : zE z z := fun _ h => ⟨h, rfl⟩
theorem zE_tr {z w y : gS} (h1 : zE z w) (h2 : zE w y) : zE z y := fun a h => ⟨(h2 a (h1 a h).1).1, ((h2 a (h1 a h).1).2).trans (h1 a h).2⟩
theorem zE_tg {z w : gS} (h : zE z w) {a t : Nat} (ha : tg z a t) : tg w a t := ⟨(h a ha.1).1, by rw [(h a ha.1).2]; exact ha.2⟩
theorem zE_itm {z w : gS} (h : zE z w) {a : Nat} (ha : itm z a) : itm w a := ⟨(h a ha.1).1, by rw [(h a ha.1).2]; exact ha.2⟩
theorem zE_pc {z w : gS} (h : zE z w) {a : Nat} {it : Option Nat} {P X Y D N : Int32} (ha : pcS z a it P X Y D N) : pcS w a it P X Y D N := ⟨zE_tg h ha.1, by rw [(h a ha.1.1).2]; exact ha.2⟩
theorem zE_lg {z w : gS} (h : zE z w) {a : Nat} (ha : lgP z a) : lgP w a := by
  obtain ⟨it, P, X, Y, D, N, h1, h2⟩ := ha
  exact ⟨it, P, X, Y, D, N, zE_pc h h1, h2⟩
theorem tg_ne {z : gS} {a b t s : Nat} (ha : tg z a t) (hb : tg z b s) (h : t ≠ s) : a ≠ b := fun e => h (by rw [← ha.2, ← hb.2, e])
/-- reading -/
theorem x_sh {q h0 d k z f} (h : xI q h0 d k z f) {a : Nat} (ha : tg z a 7) : wSh z (f a) := (h.2.2.1 a ha.1).2.2.2.2.2.1 ha.2
theorem x_ln {q h0 d k z f} (h : xI q h0 d k z f) {a : Nat} (ha : tg z a 8) : wLn q (f a) := (h.2.2.1 a ha.1).2.2.2.2.2.2.1 ha.2
theorem x_ce {q h0 d k z f} (h : xI q h0 d k z f) {a : Nat} (ha : tg z a 9) : wI q 0 480 (f a) := (h.2.2.1 a ha.1).2.2.2.2.2.2.2.1 ha.2
theorem x_pg {q h0 d k z f} (h : xI q h0 d k z f) {a : Nat} (ha : tg z a 2) : wPg q z (f a) := (h.2.2.1 a ha.1).1 ha.2
theorem x_pl {q h0 d k z f} (h : xI q h0 d k z f) {a : Nat} (ha : tg z a 3) : wR q 2 12 (fun b => tg z b 7) (f a) := (h.2.2.1 a ha.1).2.1 ha.2
theorem x_it {q h0 d k z f} (h : xI q h0 d k z f) {a : Nat} (ha : tg z a 4) : wR q 3 80 (itm z) (f a) := (h.2.2.1 a ha.1).2.2.1 ha.2
theorem x_ac {q h0 d k z f} (h : xI q h0 d k z f) {a : Nat} (ha : tg z a 5) : wR q 4 300 (fun b => tg z b 23) (f a) := (h.2.2.1 a ha.1).2.2.2.1 ha.2
theorem x_ri {q h0 d k z f} (h : xI q h0 d k z f) {a : Nat} (ha : tg z a 6) : wZ q (f a) := (h.2.2.1 a ha.1).2.2.2.2.1 ha.2
theorem x_im {q h0 d k z f} (h : xI q h0 d k z f) {a : Nat} (ha : itm z a) : wItem z a (f a) := (h.2.2.1 a ha.1).2.2.2.2.2.2.2.2.1 ha.2.1 ha.2.2
theorem x_pc {q h0 d k z f} (h : xI q h0 d k z f) {a : Nat} (ha : tg z a 16) : wPc q z (f a) := (h.2.2.1 a ha.1).2.2.2.2.2.2.2.2.2.1 ha.2
theorem x_17 {q h0 d k z f} (h : xI q h0 d k z f) {a : Nat} (ha : tg z a 17) : wI q 0 5 (f a) := (h.2.2.1 a ha.1).2.2.2.2.2.2.2.2.2.2.1 ha.2
theorem x_18 {q h0 d k z f} (h : xI q h0 d k z f) {a : Nat} (ha : tg z a 18) : wI q 0 80 (f a) := (h.2.2.1 a ha.1).2.2.2.2.2.2.2.2.2.2.2.1 ha.2
theorem x_19 {q h0 d k z f} (h : xI q h0 d k z f) {a : Nat} (ha : tg z a 19) : wI q 1 10 (f a) := (h.2.2.1 a ha.1).2.2.2.2.2.2.2.2.2.2.2.2.1 ha.2
theorem x_20 {q h0 d k z f} (h : xI q h0 d k z f) {a : Nat} (ha : tg z a 20) : wI q 0 4 (f a) := (h.2.2.1 a ha.1).2.2.2.2.2.2.2.2.2.2.2.2.2.1 ha.2
theorem x_21 {q h0 d k z f} (h : xI q h0 d k z f) {a : Nat} (ha : tg z a 21) : wI q 1 400 (f a) := (h.2.2.1 a ha.1).2.2.2.2.2.2.2.2.2.2.2.2.2.2.1 ha.2
theorem x_22 {q h0 d k z f} (h : xI q h0 d k z f) {a : Nat} (ha : tg z a 22) : wPi z a (f a) := (h.2.2.1 a ha.1).2.2.2.2.2.2.2.2.2.2.2.2.2.2.2.1 ha.2
theorem x_23 {q h0 d k z f} (h : xI q h0 d k z f) {a : Nat} (ha : tg z a 23) : wAc z a (f a) := (h.2.2.1 a ha.1).2.2.2.2.2.2.2.2.2.2.2.2.2.2.2.2 ha.2
/-- a cell of one tag: what is asked of the others is empty -/
theorem cO_of {q : Nat → ClassId} {z : gS} {a t : Nat} {e : va_E} (ht : (z.2 a).1 = t)
  (h : (t = 2 → wPg q z e) ∧ (t = 3 → wR q 2 12 (fun b => tg z b 7) e) ∧ (t = 4 → wR q 3 80 (itm z) e) ∧ (t = 5 → wR q 4 300 (fun b => tg z b 23) e) ∧ (t = 6 → wZ q e) ∧ (t = 7 → wSh z e) ∧ (t = 8 → wLn q e) ∧ (t = 9 → wI q 0 480 e) ∧ (10 ≤ t → t ≤ 15 → wItem z a e) ∧ (t = 16 → wPc q z e) ∧ (t = 17 → wI q 0 5 e) ∧ (t = 18 → wI q 0 80 e) ∧ (t = 19 → wI q 1 10 e) ∧ (t = 20 → wI q 0 4 e) ∧ (t = 21 → wI q 1 400 e) ∧ (t = 22 → wPi z a e) ∧ (t = 23 → wAc z a e)) : cO q z a e := by
  unfold cO; rw [ht]; exact h
theorem up_loc {q : Nat → ClassId} {z : gS} {f : xF} {a : Nat} {e : va_E} (h : ∀ b, b ∈ z.1 → cO q z b (f b)) (he : cO q z a e) : ∀ b, b ∈ z.1 → cO q z b (va_up f a e b) := fun b hb => by
  unfold va_up
  by_cases e1 : b = a
  · rw [if_pos e1, e1]; exact he
  · rw [if_neg e1]; exact h b hb
theorem up_o {f : xF} {a b : Nat} {e : va_E} (h : b ≠ a) : va_up f a e b = f b := if_neg h
theorem up_s {f : xF} {a : Nat} {e : va_E} : va_up f a e a = e := if_pos rfl
/-- a write that neither the desk's items nor an item's pieces see -/
theorem x_up {q h0 d k z f} (h : xI q h0 d k z f) {a t : Nat} {e : va_E} (ha : tg z a t) (ht : t ≠ 1 ∧ t ≠ 4 ∧ (t < 10 ∨ 16 < t)) (he : cO q z a e) : xI q h0 d k z (va_up f a e) := by
  obtain ⟨h1, h2, h3, ⟨g1, g, g2, g3⟩, h5⟩ := h
  refine ⟨h1, h2, up_loc h3 he, ⟨by rw [up_o (tg_ne h2.1 ha (fun e => ht.1 e.symm))]; exact g1, g, by rw [up_o (tg_ne h2.2.2.2.1 ha (fun e => ht.2.1 e.symm))]; exact g2, g3⟩, ?_⟩
  intro b hb nu kd cn pa fa rest hf
  have hne : b ≠ a := fun e => by have := hb.2; rw [e, ha.2] at this; omega
  rw [up_o hne] at hf
  obtain ⟨n, g, r1, r2⟩ := h5 b hb nu kd cn pa fa rest hf
  have hp : tg z pa 16 := by
    obtain ⟨nu2, kd2, cn2, pa2, fa2, rest2, e1, e2, -⟩ := (h3 b hb.1).2.2.2.2.2.2.2.2.1 hb.2.1 hb.2.2
    rw [hf] at e1
    have e3 : itF nu kd pa cn fa rest = itF nu2 kd2 pa2 cn2 fa2 rest2 := (Prod.mk.inj (Sum.inr.inj e1)).2
    unfold itF at e3
    have e4 : pa = pa2 := by
      simp only [List.cons.injEq, Value.ref.injEq] at e3
      exact e3.2.2.1
    rw [e4]; exact e2
  refine ⟨n, g, by rw [up_o (tg_ne hp ha (by omega))]; exact r1, r2⟩
/-- a place in the pool -/
theorem pl_at {L : List Nat} {f : xF} {a : Nat} {e : va_E} (h : a ∈ L) (hf : f a = e) : ∃ k : Nat, (va_pl L f)[k]? = some (a, e) := by
  obtain ⟨k, hk⟩ := va_pl_get (X := []) (f := f) h
  exact ⟨k, by rw [← hf]; exact hk⟩
theorem pl_set {A : Nat → Prop} {L : List Nat} {f : xF} {a k : Nat} {e e2 : va_E} (hD : va_D A (va_pl L f)) (h : a ∈ L) (hf : f a = e2) (hk : (va_pl L f)[k]? = some (a, e2)) : (va_pl L f).set k (a, e) = va_pl L (va_up f a e) := va_pl_set (X := []) hD h (by rw [hf]; exact hk)
