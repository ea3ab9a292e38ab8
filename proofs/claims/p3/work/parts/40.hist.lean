/-- a kept act: kind, item, piece or place, fillers -/
abbrev hE : Type := Nat × Nat × fR × List fX
def cFill (c : cfg) : List fX → cfg
  | [] => c
  | x :: xs => cPush (cFill c xs) x.1 (x.2.1, x.2.2.1, x.2.2.2.1, 1, x.2.2.2.2)
def xG (n : Nat) (kd : Nat → Int32) (c : cfg) : List fX → Prop
  | [] => True
  | x :: xs => xG n kd c xs ∧ x.1 < n ∧ kd x.1 = 4 ∧ cFill c xs x.1 = [] ∧ rOK (x.2.1, x.2.2.1, x.2.2.2.1, 1, x.2.2.2.2)
def eS (n : Nat) (kd : Nat → Int32) (e : hE) (c1 c : cfg) : Prop := (e.1 = 0 ∧ ∃ r, c = cPush c1 e.2.1 r) ∨ (e.1 = 1 ∧ c1 = cPush c e.2.1 e.2.2.1) ∨ (e.1 = 2 ∧ c = c1 ∧ e.2.2.1.1 < 12 ∧ e.2.2.1.2.1 < 8 ∧ e.2.2.1.2.2.1 < 60) ∨ (e.1 = 3 ∧ c = cFill c1 e.2.2.2 ∧ xG n kd c1 e.2.2.2)
def hOK (n : Nat) (kd : Nat → Int32) : List hE → cfg → Prop
  | [], c => ∀ a, c a = []
  | e :: es, c => cOK n kd c ∧ ∃ c1, hOK n kd es c1 ∧ eS n kd e c1 c
theorem hOK_c {n : Nat} {kd : Nat → Int32} {es : List hE} {c : cfg} (h : hOK n kd es c) : cOK n kd c := by
  cases es with
  | nil => exact cOK_nil n kd h
  | cons e es => exact h.1
theorem xG_mono {n m : Nat} {kd kd2 : Nat → Int32} {c : cfg} (hm : n ≤ m) (hk : ∀ a, a < n → kd2 a = kd a) : ∀ {xs : List fX}, xG n kd c xs → xG m kd2 c xs
  | [], _ => trivial
  | x :: xs, h => ⟨xG_mono hm hk h.1, by have := h.2.1; omega, (hk _ h.2.1).trans h.2.2.1, h.2.2.2.1, h.2.2.2.2⟩
theorem hOK_mono {n m : Nat} {kd kd2 : Nat → Int32} (hm : n ≤ m) (hk : ∀ a, a < n → kd2 a = kd a) : ∀ {es : List hE} {c : cfg}, hOK n kd es c → hOK m kd2 es c
  | [], _, h => h
  | e :: es, c, h => by
    obtain ⟨h1, c1, h2, h3⟩ := h
    refine ⟨cOK_mono hm hk h1, c1, hOK_mono hm hk h2, ?_⟩
    rcases h3 with q | q | q | ⟨q1, q2, q3⟩
    · exact Or.inl q
    · exact Or.inr (Or.inl q)
    · exact Or.inr (Or.inr (Or.inl q))
    · exact Or.inr (Or.inr (Or.inr ⟨q1, q2, xG_mono hm hk q3⟩))
/-- how many fillers are kept -/
def fil : List hE → Nat
  | [] => 0
  | e :: es => fil es + (if e.1 = 3 then e.2.2.2.length else 0)
def sumF (g : Nat → Nat) : Nat → Nat
  | 0 => 0
  | n + 1 => sumF g n + g n
theorem sumF_upd {g g2 : Nat → Nat} {a d : Nat} (h : ∀ b, b ≠ a → g2 b = g b) (h2 : g2 a = g a + d) : ∀ n, sumF g2 n = sumF g n + (if a < n then d else 0)
  | 0 => by show 0 = 0 + _; rw [if_neg (by omega)]
  | n + 1 => by
    have ih := sumF_upd h h2 n
    show sumF g2 n + g2 n = sumF g n + g n + _
    by_cases e : a = n
    · subst e
      rw [ih, if_neg (by omega), if_pos (by omega), h2]; omega
    · rw [ih, h n (fun q => e q.symm)]
      by_cases e2 : a < n
      · rw [if_pos e2, if_pos (by omega)]; omega
      · rw [if_neg e2, if_neg (by omega)]; omega
def stG (kd : Nat → Int32) (c : cfg) : Nat → Nat := fun a => if kd a = 4 then (c a).length else 0
theorem stF_push (n : Nat) (kd : Nat → Int32) (c : cfg) (a : Nat) (r : fR) : sumF (stG kd (cPush c a r)) n = sumF (stG kd c) n + (if a < n then (if kd a = 4 then 1 else 0) else 0) := by
  refine sumF_upd (fun b hb => ?_) ?_ n
  · unfold stG; rw [cPush_o hb]
  · unfold stG
    rw [cPush_a]
    split
    · rfl
    · rfl
theorem stF_fill {n : Nat} {kd : Nat → Int32} {c : cfg} : ∀ {xs : List fX}, xG n kd c xs → sumF (stG kd (cFill c xs)) n = sumF (stG kd c) n + xs.length
  | [], _ => rfl
  | x :: xs, h => by
    show sumF (stG kd (cPush (cFill c xs) _ _)) n = _
    rw [stF_push, stF_fill h.1, if_pos h.2.1, if_pos h.2.2.1, List.length_cons]; omega
theorem stF_le {kd : Nat → Int32} {c : cfg} (h : ∀ a, kd a = 4 → (c a).length ≤ 1) : ∀ n, sumF (stG kd c) n ≤ n
  | 0 => Nat.le_refl 0
  | n + 1 => by
    have ih := stF_le h n
    have h2 : stG kd c n ≤ 1 := by
      unfold stG
      split
      · rename_i q; exact h n q
      · exact Nat.zero_le 1
    show sumF (stG kd c) n + stG kd c n ≤ n + 1
    omega
theorem fil_b {n : Nat} {kd : Nat → Int32} : ∀ {es : List hE} {c : cfg}, hOK n kd es c → fil es ≤ sumF (stG kd c) n + es.length
  | [], _, _ => Nat.zero_le _
  | e :: es, c, h => by
    obtain ⟨-, c1, h2, h3⟩ := h
    have ih := fil_b h2
    show fil es + (if e.1 = 3 then e.2.2.2.length else 0) ≤ _
    rw [List.length_cons]
    rcases h3 with ⟨q, r, q2⟩ | ⟨q, q2⟩ | ⟨q, q2, -⟩ | ⟨q, q2, q3⟩
    · rw [if_neg (by omega), q2, stF_push]; omega
    · rw [if_neg (by omega)]
      rw [q2, stF_push] at ih
      have h9 : (if e.2.1 < n then (if kd e.2.1 = 4 then 1 else 0) else 0) ≤ 1 := by
        split
        · split
          · exact Nat.le_refl 1
          · exact Nat.zero_le 1
        · exact Nat.zero_le 1
      omega
    · rw [if_neg (by omega), q2]; omega
    · rw [if_pos q, q2, stF_fill q3]; omega
/-- good also behind a row of fillers -/
theorem cOK_fill {n : Nat} {kd : Nat → Int32} {c : cfg} (h : cOK n kd c) : ∀ {xs : List fX}, xG n kd c xs → cOK n kd (cFill c xs)
  | [], _ => h
  | x :: xs, hx => by
    have ih := cOK_fill h hx.1
    have he := hx.2.2.2.1
    refine cOK_push ih hx.2.1 hx.2.2.2.2 (by rw [he]; exact Nat.zero_le _) (by rw [he]; exact lg_one hx.2.2.2.2) (fun _ => he)
theorem fil_380 {n : Nat} {kd : Nat → Int32} {es : List hE} {c : cfg} (h : hOK n kd es c) {xs : List fX} (hx : xG n kd c xs) : fil es + xs.length ≤ n + es.length := by
  have h1 := fil_b h
  have h2 := stF_fill hx
  have h3 := stF_le (fun a => ((cOK_fill (hOK_c h) hx) a).2.2.2.2) n
  omega
/-- the rows of the acts show them -/
def fM (u : mS) (F : Nat) : List fX → Prop
  | [] => True
  | x :: xs => u.2 37 (F + xs.length) = nI x.1 ∧ fM u F xs
def eM (u : mS) (t F : Nat) (e : hE) : Prop := u.2 29 t = nI e.1 ∧ (e.1 = 0 → u.2 30 t = nI e.2.1) ∧ (e.1 = 1 → u.2 30 t = nI e.2.1 ∧ u.2 31 t = nI e.2.2.1.1 ∧ u.2 32 t = nI e.2.2.1.2.1 ∧ u.2 33 t = nI e.2.2.1.2.2.1 ∧ u.2 34 t = nI e.2.2.1.2.2.2.1 ∧ u.2 35 t = nI e.2.2.1.2.2.2.2) ∧ (e.1 = 2 → u.2 30 t = nI e.2.2.1.1 ∧ u.2 31 t = nI e.2.2.1.2.1 ∧ u.2 32 t = nI e.2.2.1.2.2.1) ∧ (e.1 = 3 → u.2 30 t = nI e.2.2.2.length ∧ fM u F e.2.2.2)
def aM (u : mS) : List hE → Prop
  | [] => True
  | e :: es => eM u es.length (fil es) e ∧ aM u es
theorem fM_c {u w : mS} {F : Nat} : ∀ {xs : List fX}, (∀ j, j < F + xs.length → w.2 37 j = u.2 37 j) → fM u F xs → fM w F xs
  | [], _, _ => trivial
  | x :: xs, h, h2 => ⟨(h _ (by rw [List.length_cons]; omega)).trans h2.1, fM_c (fun j hj => h j (by rw [List.length_cons]; omega)) h2.2⟩
theorem eM_c {u w : mS} {t F : Nat} {e : hE} (h : ∀ k, 29 ≤ k → k ≤ 35 → w.2 k t = u.2 k t) (h2 : e.1 = 3 → ∀ j, j < F + e.2.2.2.length → w.2 37 j = u.2 37 j) (he : eM u t F e) : eM w t F e := by
  unfold eM at he ⊢
  rw [h 29 (by decide) (by decide), h 30 (by decide) (by decide), h 31 (by decide) (by decide), h 32 (by decide) (by decide), h 33 (by decide) (by decide), h 34 (by decide) (by decide), h 35 (by decide) (by decide)]
  exact ⟨he.1, he.2.1, he.2.2.1, he.2.2.2.1, fun q => ⟨(he.2.2.2.2 q).1, fM_c (h2 q) (he.2.2.2.2 q).2⟩⟩
theorem aM_c {u w : mS} : ∀ {es : List hE}, (∀ k, 29 ≤ k → k ≤ 35 → ∀ t, t < es.length → w.2 k t = u.2 k t) → (∀ j, j < fil es → w.2 37 j = u.2 37 j) → aM u es → aM w es
  | [], _, _, _ => trivial
  | e :: es, h, h2, h3 => by
    have hf : fil (e :: es) = fil es + (if e.1 = 3 then e.2.2.2.length else 0) := rfl
    refine ⟨eM_c (fun k k1 k2 => h k k1 k2 es.length (by rw [List.length_cons]; omega)) (fun q j hj => h2 j (by rw [hf, if_pos q]; exact hj)) h3.1, aM_c (fun k k1 k2 t ht => h k k1 k2 t (by rw [List.length_cons]; omega)) (fun j hj => h2 j (by rw [hf]; omega)) h3.2⟩
theorem aM_rows {u w : mS} {es : List hE} (h : ∀ k, 29 ≤ k → k ≤ 37 → w.2 k = u.2 k) (h2 : aM u es) : aM w es := aM_c (fun k k1 k2 t _ => by rw [h k k1 (by omega)]) (fun j _ => by rw [h 37 (by decide) (by decide)]) h2
/-- what a kept act changes -/
theorem mActs_1 (u : mS) (k a b c d e f : Int32) (j : Nat) : (mActs u k a b c d e f).1 j = if j = 28 then u.1 28 + 1 else u.1 j := rfl
theorem mActs_k (u : mS) (k a b c d e f : Int32) {j : Nat} (h : j < 29 ∨ 35 < j) : (mActs u k a b c d e f).2 j = u.2 j := by
  unfold mActs
  dsimp only
  show (mst _ 35 _ _).2 j = _
  rw [mst_other (by omega), mst_other (by omega), mst_other (by omega), mst_other (by omega), mst_other (by omega), mst_other (by omega), mst_other (by omega)]
theorem mset_2 (u : mS) (k : Nat) (x : Int32) : (mset u k x).2 = u.2 := rfl
theorem mActs_r (u : mS) (k a b c d e f : Int32) (t : Nat) : (mActs u k a b c d e f).2 29 t = (if t = (u.1 28).toNatClampNeg then k else u.2 29 t) ∧ (mActs u k a b c d e f).2 30 t = (if t = (u.1 28).toNatClampNeg then a else u.2 30 t) ∧ (mActs u k a b c d e f).2 31 t = (if t = (u.1 28).toNatClampNeg then b else u.2 31 t) ∧ (mActs u k a b c d e f).2 32 t = (if t = (u.1 28).toNatClampNeg then c else u.2 32 t) ∧ (mActs u k a b c d e f).2 33 t = (if t = (u.1 28).toNatClampNeg then d else u.2 33 t) ∧ (mActs u k a b c d e f).2 34 t = (if t = (u.1 28).toNatClampNeg then e else u.2 34 t) ∧ (mActs u k a b c d e f).2 35 t = (if t = (u.1 28).toNatClampNeg then f else u.2 35 t) := by
  unfold mActs
  dsimp only
  refine ⟨?_, ?_, ?_, ?_, ?_, ?_, ?_⟩
  · rw [mset_2, mst_other (by decide), mst_other (by decide), mst_other (by decide), mst_other (by decide), mst_other (by decide), mst_other (by decide), mst_at]
  · rw [mset_2, mst_other (by decide), mst_other (by decide), mst_other (by decide), mst_other (by decide), mst_other (by decide), mst_at, mst_other (by decide)]; rfl
  · rw [mset_2, mst_other (by decide), mst_other (by decide), mst_other (by decide), mst_other (by decide), mst_at, mst_other (by decide), mst_other (by decide)]; rfl
  · rw [mset_2, mst_other (by decide), mst_other (by decide), mst_other (by decide), mst_at, mst_other (by decide), mst_other (by decide), mst_other (by decide)]; rfl
  · rw [mset_2, mst_other (by decide), mst_other (by decide), mst_at, mst_other (by decide), mst_other (by decide), mst_other (by decide), mst_other (by decide)]; rfl
  · rw [mset_2, mst_other (by decide), mst_at, mst_other (by decide), mst_other (by decide), mst_other (by decide), mst_other (by decide), mst_other (by decide)]; rfl
  · rw [mset_2, mst_at, mst_other (by decide), mst_other (by decide), mst_other (by decide), mst_other (by decide), mst_other (by decide), mst_other (by decide)]; rfl
/-- the history: the acts that are kept, the pieces that stand -/
def mH (u : mS) (es : List hE) (c : cfg) : Prop := es.length ≤ 300 ∧ u.1 28 = nI es.length ∧ u.1 36 = nI (fil es) ∧ hOK (u.1 3).toNatClampNeg (u.2 4) es c ∧ aM u es ∧ cM u c
