/-- a place that may hold a piece: on its page's lines -/
def rIn (u : mS) (P X Y D N : Nat) : Prop := P < 12 ∧ X + D ≤ 8 ∧ 1 ≤ D ∧ Y + N ≤ 60 ∧ 1 ≤ N ∧ ∀ a, a < D → Y + N ≤ (u.2 0 (8 * P + (X + a))).toNatClampNeg
/-- each piece that stands is such a place -/
def pcI (u : mS) : Prop := ∀ i, i < (u.1 3).toNatClampNeg → ∀ t, t < (u.2 22 i).toNatClampNeg → ∃ P X Y D N, rIn u P X Y D N ∧ pR u i t 0 = nI P ∧ pR u i t 1 = nI X ∧ pR u i t 2 = nI Y ∧ pR u i t 3 = nI D ∧ pR u i t 4 = nI N
theorem rep_3 {q d u z f f2} (h : rep q d u z f) (hf : fK d z f f2 (fun x => x = 3)) : rep q d u z f2 := by
  obtain ⟨h1g, h1l, ⟨⟨g, a1, a2⟩, a3⟩, h1v, n0, n1, n2, n3, n4⟩ := h
  exact ⟨rPg_fr h1g (zE_rf z) (fun _ _ => rfl) hf (fun x _ _ _ h3 _ => h3) n0 rfl rfl rfl, rPl_fr h1l (zE_rf z) rfl (fun _ _ _ => rfl) hf (by omega) (fun x x1 x2 => by omega) n1 (fun _ _ _ => rfl), ⟨⟨g, by rw [hf.1 2 _ n2 (by omega)]; exact a1, a2⟩, fun j hj => rIt_fr (a3 j hj) (zE_rf z) ⟨rfl, rfl, rfl, rfl, rfl⟩ hf ⟨by omega, by omega, by omega, by omega, by omega⟩ (sI_rf u j) (Nat.le_refl _) (fun _ _ => ⟨rfl, rfl⟩)⟩, rRv_fr h1v rfl (hf.1 4 _ n4 (by omega)) rfl, n0, n1, n2, n3, n4⟩
/-- what keep does -/
def kpP (q : Nat → ClassId) (h0 : Nat) (d : Nat → Nat) (k k3 : Nat → Int32) (c0 : Nat) (f f3 : xF) : Prop := k3 = kup k 1 (k 1 + 1) ∧ ∃ g, f (d 3) = aR (q 4) 300 g ∧ f3 = va_up (va_up f (d 3) (aR (q 4) 300 (va_up g (k 1).toNatClampNeg (some c0)))) h0 (.inr (10, dkF d k3))
theorem rep_kp {q h0 d k k3 c0 u z f f3} (h : rep q d u z f) (hI : xI q h0 d k z f) (hz0 : (z.2 h0).2.1 = 0) (hk : kpP q h0 d k k3 c0 f f3) : rep q d u z f3 := by
  obtain ⟨-, g, hg, rfl⟩ := hk
  obtain ⟨-, -, -, -, n0, n1, n2, n3, n4⟩ := id h
  exact rep_3 h (fK_h0 (fK_up (fK_rf d z f _) n3 (by decide) rfl) n0 hI.2.1.1 hz0)
theorem kp_3 {q h0 d k k3 c0 u z f f3} (h : rep q d u z f) (hI : xI q h0 d k z f) (hk : kpP q h0 d k k3 c0 f f3) : ∃ g, f (d 3) = aR (q 4) 300 g ∧ f3 (d 3) = aR (q 4) 300 (va_up g (k 1).toNatClampNeg (some c0)) := by
  obtain ⟨-, g, hg, rfl⟩ := hk
  refine ⟨g, hg, ?_⟩
  rw [up_o (tg_ne h.2.2.2.2.2.2.2.1.1 hI.2.1.1 (by decide)), up_s]
theorem rep_rows {q d u w z f} (h : rep q d u z f) (h3 : w.1 3 = u.1 3) (hr : ∀ r, r < 29 ∨ 37 < r → w.2 r = u.2 r) : rep q d w z f := rep_ext h h3 (fun r _ => hr r (by omega)) (fun r _ _ j _ t _ => by rw [hr r (by omega)])
/-- a piece's place -/
def pcR (z : gS) (b : Nat) (it : Option Nat) (r : fR) : Prop := pcS z b it (nI r.1) (nI r.2.1) (nI r.2.2.1) (nI r.2.2.2.1) (nI r.2.2.2.2)
/-- the fillers of one act, the latest first -/
def acF (z : gS) (d : Nat → Nat) : Option Nat → List fX → Prop
  | o, [] => o = none
  | o, x :: xs => ∃ a pp ah, o = some a ∧ acS z a pp 0 (nI (xs.length + 1)) ah ∧ pcR z pp (some (d (2000 + x.1))) (x.2.1, x.2.2.1, x.2.2.2.1, 1, x.2.2.2.2) ∧ acF z d ah xs
/-- the class's act for a kept one -/
def acE (z : gS) (d : Nat → Nat) (a : Nat) (e : hE) : Prop := (e.1 = 0 ∧ ∃ pp, acS z a pp 0 1 none ∧ pcR z pp (some (d (2000 + e.2.1))) e.2.2.1) ∨ (e.1 = 1 ∧ ∃ pp, acS z a pp 1 1 none ∧ pcR z pp (some (d (2000 + e.2.1))) e.2.2.1) ∨ (e.1 = 2 ∧ ∃ pp, acS z a pp 0 1 none ∧ pcS z pp none (nI e.2.2.1.1) (nI e.2.2.1.2.1) (nI e.2.2.1.2.2.1) 1 1) ∨ (e.1 = 3 ∧ acF z d (some a) e.2.2.2)
/-- the acts' row behind a call: as it was, or one more -/
def acQ (q : Nat → ClassId) (d : Nat → Nat) (k : Nat → Int32) (f : xF) (E : hE → Prop) (w : xU) : Prop := (w.2.2 (d 3) = f (d 3) ∧ w.1 1 = k 1) ∨ ∃ g a e, f (d 3) = aR (q 4) 300 g ∧ w.2.2 (d 3) = aR (q 4) 300 (va_up g (k 1).toNatClampNeg (some a)) ∧ w.1 1 = k 1 + 1 ∧ acE w.2.1 d a e ∧ E e
/-- what a call that acts leaves -/
def actP (q : Nat → ClassId) (h0 : Nat) (d : Nat → Nat) (k : Nat → Int32) (z : gS) (f : xF) (R9 : Int32 × mS) (E : hE → Prop) (r : Int32) (w : xU) : Prop := zE z w.2.1 ∧ xI q h0 d w.1 w.2.1 w.2.2 ∧ r = R9.1 ∧ rep q d R9.2 w.2.1 w.2.2 ∧ (∀ j, j ≠ 1 → w.1 j = k j) ∧ w.1 1 = R9.2.1 28 ∧ acQ q d k f E w
theorem actP_0 {q h0 d k z f u R9 E} {r : Int32} (hI : xI q h0 d k z f) (hrp : rep q d u z f) (hk1 : k 1 = u.1 28) (hR : R9 = (r, u)) : actP q h0 d k z f R9 E r (k, z, f) := by
  subst hR
  exact ⟨zE_rf z, hI, rfl, hrp, fun _ _ => rfl, hk1, Or.inl ⟨rfl, rfl⟩⟩
/-- the last piece -/
theorem last_all {q h0 d k u z f} {i n : Nat} {g : Nat → Option Nat} (hI : xI q h0 d k z f) (h : rep q d u z f) (hpc : pcI u) (hi : i < (u.1 3).toNatClampNeg) (hps : f (d (3000 + i)) = aR (q 5) n g) (h6 : n ≤ 6) (hcb : bw (u.2 22 i) 0 (nI n) = true) (h0c : ¬ u.2 22 i ≤ 0) : 0 < (u.2 22 i).toNatClampNeg ∧ ∃ b P X Y D N, s_last (u.2 22 i) g = some b ∧ pcS z b (some (d (2000 + i))) (nI P) (nI X) (nI Y) (nI D) (nI N) ∧ rIn u P X Y D N ∧ pR u i ((u.2 22 i).toNatClampNeg - 1) 0 = nI P ∧ pR u i ((u.2 22 i).toNatClampNeg - 1) 1 = nI X ∧ pR u i ((u.2 22 i).toNatClampNeg - 1) 2 = nI Y ∧ pR u i ((u.2 22 i).toNatClampNeg - 1) 3 = nI D ∧ pR u i ((u.2 22 i).toNatClampNeg - 1) 4 = nI N := by
  obtain ⟨n1, n2, n3, hkd, rs2, g2, fg, hsl, hps2, hpcs, -⟩ := h.2.2.1.2 i hi
  obtain ⟨e1, e2⟩ := aR_inj (hps.symm.trans hps2)
  subst e2
  obtain ⟨ec, hc⟩ := cnN h6 hcb
  have hpos : 0 < (u.2 22 i).toNatClampNeg := by
    rw [i32_le, ec, nI_toInt (by omega), i0] at h0c
    omega
  refine ⟨hpos, ?_⟩
  obtain ⟨b, b1, b2⟩ := hpcs ((u.2 22 i).toNatClampNeg - 1) (by omega)
  obtain ⟨P, X, Y, D, N, hr, p0, p1, p2, p3, p4⟩ := hpc i hi ((u.2 22 i).toNatClampNeg - 1) (by omega)
  rw [p0, p1, p2, p3, p4] at b2
  refine ⟨b, P, X, Y, D, N, ?_, b2, hr, p0, p1, p2, p3, p4⟩
  unfold s_last
  have em : (u.2 22 i - 1).toNatClampNeg = (u.2 22 i).toNatClampNeg - 1 := by
    generalize hcc : (u.2 22 i).toNatClampNeg = c at *
    rw [ec, show (1 : Int32) = nI 1 from rfl, nI_sb (i := c) (r := 1) (by omega) (by omega), nI_clamp (by omega)]
  rw [if_neg h0c, em]; exact b1
set_option maxHeartbeats 4000000 in
set_option maxRecDepth 100000 in
theorem y_keep (l : Launch) (dC : Nat → ClassId) (dI : Nat → Nat → Nat) (q : Nat → ClassId) (h0 : Nat) (d : Nat → Nat) (k : Nat → Int32) (z : gS) (f : xF) (hI : xI q h0 d k z f) (c0 : Nat) (hc0 : tg z c0 23) (hca : ¬ 300 ≤ k 1) (sz : Nat) : Met l yX11_keep wsX11_keep ({ frames := 1, cells := 0, slots := 0, locals := 20 }) (va_Pc [.ref h0, .ref c0] (fun U => U.heap.size = sz ∧ PX dC dI (va_pl z.1 f) (xT q) U ∧ va_D (fun _ => True) (va_pl z.1 f))) (va_Qv (fun (w : xU) => w.2.1 = z ∧ xI q h0 d w.1 z w.2.2 ∧ kpP q h0 d k w.1 c0 f w.2.2) (fun (w : xU) t => va_P (dC, dI) vwCl (va_pl w.2.1.1 w.2.2) t.heap ∧ va_D (va_A (va_pl z.1 f) sz) (va_pl w.2.1.1 w.2.2)) (va_A (va_pl z.1 f) sz)) 0 0 (va_A (va_pl z.1 f) sz) := by
  refine Met.ofW (cc := cX11_keep) (maxL := 2) (ret := none) (by decide) rfl ?_
  intro p e s m args below meth c s₁ B hml hv
  obtain ⟨rfl, hsz, ⟨⟨hP, hK, hN⟩, hXN⟩, hD0⟩ := hv
  have hx := B.exec
  have hb := B.bytes
  have hr := B.returns
  have hts := atoms_spec (ws := wsX11_keep) B.pre
  have hown : s.vm.findClass RX11 = some m.cls := findClass_of_methodNamed B.named
  have hlocks := B.notSynchronized
  subst hsz
  have hD := hD0.self (sz := s.heap.size)
  generalize hAe : va_A (va_pl z.1 f) s.heap.size = A at hD ⊢
  have hA : ∀ q : Nat, s.heap.size ≤ q → A q := fun q h => by rw [← hAe]; exact Or.inr h
  have hS : va_S A s.heap s.heap [] := va_S.rf
  have hl := lv_entry ([.ref h0, .ref c0]) (n := 2) (Nat.le_of_ble_eq_true rfl)
  rw [lg_entry_eq]
  generalize (lg_sl ([.ref h0, .ref c0]) ++ List.replicate (2 - (lg_sl ([.ref h0, .ref c0])).length) Slot.unset).toArray = ls at hl ⊢
  have hl : lv_has ls 2 [(0, .ref h0), (1, .ref c0)] := hl
  refine lv_aload_n hx hb dX11_keep_0 rfl (lv_at hl 0 rfl) ?_
  obtain ⟨kk_1, hk_2⟩ := pl_at hI.2.1.1.1 hI.2.2.2.1.1
  refine vp_callSi (va_runV (As := []) (rest := []) ⟨hx, hb, hml, hown, hts⟩ (y_canAct l dC dI q h0 d k z f hI) (cwV 0 hts gX11_keep_X11_canAct rfl rfl rfl (by decide +kernel) ⟨Nat.le_of_ble_eq_true rfl, Nat.le_of_ble_eq_true rfl⟩) ⟨px_fb, va_recv hK hP (ci := 10) (q0 := kk_1) rfl hk_2, fun U hU hW => ⟨rfl, px_to hU hW hP hK hN hXN⟩⟩ rfl rfl hl.1 rfl (lv_room (Nat.le_of_ble_eq_true rfl)) dX11_keep_1 ⟨Nat.le_of_ble_eq_true rfl, Nat.le_of_ble_eq_true rfl⟩).run (fun r hw => ?_)
  obtain ⟨hw, hact⟩ : r = 1 ∧ ¬ 300 ≤ k 1 := by rcases hw with h9 | h9; exact absurd h9.2 hca; exact h9
  subst hw
  refine lv_if_eq (tgt := 27) hx hb dX11_keep_4 (by decide) (fun c_3 => absurd c_3 (by decide)) (fun c_3 => ?_)
  refine lv_aload_n hx hb dX11_keep_7 rfl (lv_at hl 0 rfl) ?_
  obtain ⟨kk_4, hk_5⟩ := pl_at hI.2.1.1.1 hI.2.2.2.1.1
  refine va_get (D := (dC, dI)) (ci := 10) (v := .ref (d 3)) (C := RX11) (T := TX11) (N := 9) hx hb hts (by decide +kernel) hown hK hP kk_4 hk_5 rfl 4 (by decide) (hts (.fieldLink RX11 30 "PageOne" "acts" "[LPageOne$Act;") (by decide +kernel)) (fun _ h9 => h9) rfl dX11_keep_8 ?_
  refine lv_aload_n hx hb dX11_keep_11 rfl (lv_at hl 0 rfl) ?_
  obtain ⟨kk_6, hk_7⟩ := pl_at hI.2.1.1.1 hI.2.2.2.1.1
  refine va_get (D := (dC, dI)) (ci := 10) (v := .int (k 1)) (C := RX11) (T := TX11) (N := 9) hx hb hts (by decide +kernel) hown hK hP kk_6 hk_7 rfl 5 (by decide) (hts (.fieldLink RX11 34 "PageOne" "actCount" "I") (by decide +kernel)) (fun _ h9 => h9) rfl dX11_keep_12 ?_
  refine lv_aload_n hx hb dX11_keep_15 rfl (lv_at hl 1 rfl) ?_
  obtain ⟨g_8, hs_9, hg_10⟩ := x_ac hI hI.2.1.2.2.2.2.1
  obtain ⟨kk_11, hk_12⟩ := pl_at hI.2.1.2.2.2.2.1.1 hs_9
  obtain ⟨pp_13, ll_14, nn_15, ah_16, ha_17, hs_18, hl_19, hh_20⟩ := x_acS hI hc0
  obtain ⟨kk_21, hk_22⟩ := pl_at hc0.1 hs_18
  have hD0 := hD
  refine va_astq hx hb hK hP hD hS kk_11 4 kk_21 0 hk_12 rfl hk_22 rfl (vAc hI.1.2.1 hact).1 dX11_keep_16 (fun H locs hP hD hS => ?_)
  rw [pl_set hD0 hI.2.1.2.2.2.2.1.1 hs_9 hk_12] at hP hD
  obtain ⟨f_23, ef_23⟩ : ∃ y : xF, y = va_up f (d 3) (aR (q 4) 300 (va_up g_8 ((k 1) : Int32).toNatClampNeg (some c0))) := ⟨_, rfl⟩
  have hI : xI q h0 d k z f_23 := by rw [ef_23]; exact x_up hI hI.2.1.2.2.2.2.1 (by decide) (cO_5 hI.2.1.2.2.2.2.1.2 ⟨_, rfl, ty_up hg_10 (ty_s hc0)⟩)
  have hP : va_P (dC, dI) vwCl (va_pl z.1 f_23) H := by rw [ef_23]; exact hP
  have hD : va_D A (va_pl z.1 f_23) := by rw [ef_23]; exact hD
  refine lv_aload_n hx hb dX11_keep_17 rfl (lv_at hl 0 rfl) ?_
  refine lv_dup hx hb dX11_keep_18 rfl ?_
  obtain ⟨kk_24, hk_25⟩ := pl_at hI.2.1.1.1 hI.2.2.2.1.1
  refine va_get (D := (dC, dI)) (ci := 10) (v := .int (k 1)) (C := RX11) (T := TX11) (N := 9) hx hb hts (by decide +kernel) hown hK hP kk_24 hk_25 rfl 5 (by decide) (hts (.fieldLink RX11 34 "PageOne" "actCount" "I") (by decide +kernel)) (fun _ h9 => h9) rfl dX11_keep_19 ?_
  refine lv_iconst (v := 1) hx hb dX11_keep_22 (by decide) ?_
  refine lv_iadd hx hb dX11_keep_23 ?_
  refine lv_topi (fun x_26 ex_26 => ?_)
  obtain ⟨kk_27, hk_28⟩ := pl_at hI.2.1.1.1 hI.2.2.2.1.1
  have hD0 := hD
  refine va_put (D := (dC, dI)) (ci := 10) (v := .int x_26) (ty := .int) (C := RX11) (T := TX11) (N := 9) hx hb hts (by decide +kernel) tyX11 tyX11_ok nmX11 hown hK hP hD hS kk_27 hk_28 rfl 5 (by decide) (hts (.fieldLink RX11 34 "PageOne" "actCount" "I") (by decide +kernel)) (fun _ h9 => h9) rfl (by decide +kernel) rfl rfl (Nat.le_of_ble_eq_true rfl) dX11_keep_24 (fun H locs hP hD hS => ?_)
  obtain ⟨k_29, ek_29⟩ : ∃ y : Nat → Int32, y = kup k 1 x_26 := ⟨_, rfl⟩
  rw [pl_set hD0 hI.2.1.1.1 hI.2.2.2.1.1 hk_28] at hP hD
  obtain ⟨f_30, ef_30⟩ : ∃ y : xF, y = va_up f_23 h0 (.inr (10, dkF d k_29)) := ⟨_, rfl⟩
  have hP : va_P (dC, dI) vwCl (va_pl z.1 f_30) H := by rw [ef_30, ek_29]; exact hP
  have hD : va_D A (va_pl z.1 f_30) := by rw [ef_30, ek_29]; exact hD
  have hI : xI q h0 d k_29 z f_30 := by rw [ef_30]; exact x_dk hI (by rw [ek_29]; exact ⟨hI.1.1, by rw [kup_s, ex_26]; exact (vAc hI.1.2.1 hact).2, hI.1.2.2⟩) (by rw [ek_29]; exact Nat.le_refl _)
  exact W.vret hx hb hr (fun t ht hW => ⟨⟨(k_29, z, f_30), rfl, ⟨rfl, hI, by rw [ek_29, ex_26], g_8, hs_9, by rw [ef_30, ef_23]⟩, by rw [ht]; exact hP, hD⟩, hS.F ht⟩) hS.2.2 dX11_keep_27
