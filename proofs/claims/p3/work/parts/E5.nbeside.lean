/-- w tells the least of what u told and of T -/
def bst (u w : mS) (T : tr3 → Prop) : Prop := ∀ S, best S (wr3 u) → best (fun t => S t ∨ T t) (wr3 w)
theorem bst_0 (u : mS) : bst u u (fun _ => False) := fun S h => best_c h (fun t => ⟨Or.inl, fun q => q.elim id False.elim⟩)
theorem bst_no {u w : mS} {T T2 : tr3 → Prop} (h : bst u w T) (h2 : ∀ t, ¬ T2 t) : bst u w (fun t => T t ∨ T2 t) := fun S hS => best_c (h S hS) (fun t => ⟨fun q => q.elim Or.inl (fun z => Or.inr (Or.inl z)), fun q => q.elim Or.inl (fun z => z.elim Or.inr (fun y => absurd y (h2 t)))⟩)
theorem bst_add {u w w2 : mS} {T T2 : tr3 → Prop} {k a b : Int32} (h : bst u w T) (hw : w2 = mWrongs w k a b) (hk : ¬ k = 0) (h2 : ∀ t, T2 t ↔ t = trN k a b) : bst u w2 (fun t => T t ∨ T2 t) := fun S hS => by
  rw [hw]
  exact best_c (best_wr (h S hS) hk) (fun t => ⟨fun q => q.elim (fun z => z.elim Or.inl (fun y => Or.inr (Or.inl y))) (fun z => Or.inr (Or.inr ((h2 t).mpr z))), fun q => q.elim (fun z => Or.inl (Or.inl z)) (fun z => z.elim (fun y => Or.inl (Or.inr y)) (fun y => Or.inr ((h2 t).mp y)))⟩)
theorem bst_c {u w : mS} {T T2 : tr3 → Prop} (h : bst u w T) (e : ∀ t, T t ↔ T2 t) : bst u w T2 := fun S hS => best_c (h S hS) (fun t => ⟨fun q => q.elim Or.inl (fun z => Or.inr ((e t).mp z)), fun q => q.elim Or.inl (fun z => Or.inr ((e t).mpr z))⟩)
theorem bst_tr {u v w : mS} {T T2 : tr3 → Prop} (h : bst u v T) (h2 : bst v w T2) : bst u w (fun t => T t ∨ T2 t) := fun S hS => best_c (h2 _ (h S hS)) (fun t => ⟨fun q => q.elim (fun z => z.elim Or.inl (fun y => Or.inr (Or.inl y))) (fun z => Or.inr (Or.inr z)), fun q => q.elim (fun z => Or.inl (Or.inl z)) (fun z => z.elim (fun y => Or.inl (Or.inr y)) Or.inr)⟩)
/-- what may not stand beside one another -/
def bC1 (u : mS) (a b : Int32) : Prop := u.2 4 a.toNatClampNeg = 3 ∧ u.2 4 b.toNatClampNeg = 3 ∧ ¬ u.2 20 (10 * u.2 10 a.toNatClampNeg + u.2 10 b.toNatClampNeg).toNatClampNeg = 0
def bCa (u : mS) (a b : Int32) : Prop := u.2 4 a.toNatClampNeg = 3 ∧ u.2 4 b.toNatClampNeg = 0 ∧ ¬ u.2 21 (10 * b + u.2 10 a.toNatClampNeg).toNatClampNeg = 0
def bC3 (u : mS) (a b ac : Int32) : Prop := ¬ ac = 0 ∧ u.2 4 a.toNatClampNeg = 1 ∧ u.2 4 b.toNatClampNeg = 1
def bT1 (u : mS) (a b : Int32) (t : tr3) : Prop := bC1 u a b ∧ t = trN 1 a b
def bT2 (u : mS) (a b : Int32) (t : tr3) : Prop := (bCa u a b ∨ bCa u b a) ∧ t = trN 2 a b
def bT3 (u : mS) (a b ac : Int32) (t : tr3) : Prop := bC3 u a b ac ∧ t = trN 3 a b
def bsT (u : mS) (a b ac : Int32) (t : tr3) : Prop := (mThing a = true ∧ mThing b = true ∧ ¬ a = b) ∧ (bT1 u a b t ∨ bT2 u a b t ∨ bT3 u a b ac t)
theorem bst_3 {u w : mS} {a b ac : Int32} (ha : mThing a = true) (hb : mThing b = true) (hab : ¬ a = b) (h : bst u w (fun t => ((False ∨ bT1 u a b t) ∨ bT2 u a b t) ∨ bT3 u a b ac t)) : bst u w (bsT u a b ac) := bst_c h (fun t => ⟨fun q => ⟨⟨ha, hb, hab⟩, q.elim (fun z => z.elim (fun y => Or.inl (y.elim False.elim id)) (fun y => Or.inr (Or.inl y))) (fun z => Or.inr (Or.inr z))⟩, fun q => q.2.elim (fun z => Or.inl (Or.inl (Or.inr z))) (fun z => z.elim (fun y => Or.inl (Or.inr y)) Or.inr)⟩)
theorem bst_n {u : mS} {a b ac : Int32} (h : ¬ (mThing a = true ∧ mThing b = true ∧ ¬ a = b)) : bst u u (bsT u a b ac) := bst_c (bst_0 u) (fun t => ⟨False.elim, fun q => h q.1⟩)
set_option maxHeartbeats 4000000 in
set_option maxRecDepth 100000 in
theorem n_beside (l : Launch) (dC : Nat → ClassId) (dI : Nat → Nat → Nat) (h0 : Nat) (v : Nat → Nat) (cI cZ : ClassId) (u : mS) (p0 p1 p2 : Int32) (ha9 : mThing p0 = true → bw p0 0 79 = true) (hb9 : mThing p1 = true → bw p1 0 79 = true) (hk : ∀ j, j < 80 → u.2 4 j = 3 → bw (u.2 10 j) 0 9 = true) (sz : Nat) : Met l yX12_beside wsX12_beside ({ frames := 1, cells := 0, slots := 0, locals := 25 }) (va_Pc [.ref h0, .int p0, .int p1, .int p2] (fun U => U.heap.size = sz ∧ PW dC dI (mW h0 v cI cZ u) [(cI, .int), (cZ, .boolean)] U ∧ va_D (fun _ => True) (mW h0 v cI cZ u))) (va_Qv (fun u9 : mS => mE u u9 ∧ bst u u9 (bsT u p0 p1 p2)) (fun u9 t => va_P (dC, dI) vwCl (mW h0 v cI cZ u9) t.heap ∧ va_D (va_A (mW h0 v cI cZ u) sz) (mW h0 v cI cZ u9)) (va_A (mW h0 v cI cZ u) sz)) 0 0 (va_A (mW h0 v cI cZ u) sz) := by
  refine Met.ofW (cc := cX12_beside) (maxL := 4) (ret := none) (by decide) rfl ?_
  intro p e s m args below meth c s₁ B hml hv
  obtain ⟨rfl, hsz, ⟨hP, hK, hN⟩, hD0⟩ := hv
  have hx := B.exec
  have hb := B.bytes
  have hr := B.returns
  have hts := atoms_spec (ws := wsX12_beside) B.pre
  have hown : s.vm.findClass RX12 = some m.cls := findClass_of_methodNamed B.named
  have hlocks := B.notSynchronized
  subst hsz
  have hD := hD0.self (sz := s.heap.size)
  generalize hAe : va_A (mW h0 v cI cZ u) s.heap.size = A at hD ⊢
  have hA : ∀ q : Nat, s.heap.size ≤ q → A q := fun q h => by rw [← hAe]; exact Or.inr h
  have hS : va_S A s.heap s.heap [] := va_S.rf
  have hl := lv_entry ([.ref h0, .int p0, .int p1, .int p2]) (n := 4) (Nat.le_of_ble_eq_true rfl)
  rw [lg_entry_eq]
  generalize (lg_sl ([.ref h0, .int p0, .int p1, .int p2]) ++ List.replicate (4 - (lg_sl ([.ref h0, .int p0, .int p1, .int p2])).length) Slot.unset).toArray = ls at hl ⊢
  have hl : lv_has ls 4 [(0, .ref h0), (1, .int p0), (2, .int p1), (3, .int p2)] := hl
  refine lv_aload_n hx hb dX12_beside_0 rfl (lv_at hl 0 rfl) ?_
  refine lv_iload_n hx hb dX12_beside_1 rfl (lv_at hl 1 rfl) ?_
  refine vp_callSi (va_runV (As := [.int p0]) (rest := []) ⟨hx, hb, hml, hown, hts⟩ (m_isThing l dC dI h0 v cI cZ u p0) (cwV 1 hts gX12_beside_X12_isThing rfl rfl rfl (by decide +kernel) ⟨Nat.le_of_ble_eq_true rfl, Nat.le_of_ble_eq_true rfl⟩) ⟨pw_fb, va_recv hK hP (ci := 11) (q0 := 0) rfl rfl, fun U hU hW => ⟨rfl, pw_to hU hW hP hK hN⟩⟩ rfl rfl hl.1 rfl (lv_room (Nat.le_of_ble_eq_true rfl)) dX12_beside_2 ⟨Nat.le_of_ble_eq_true rfl, Nat.le_of_ble_eq_true rfl⟩).run (fun r hw => ?_)
  rcases Bool.eq_false_or_eq_true (mThing p0) with b_1 | b_1
  ·
    obtain rfl : r = 1 := b_t hw b_1
    refine lv_if_eq (tgt := 21) hx hb dX12_beside_5 (by decide) (fun c_2 => absurd c_2 (by decide)) (fun c_2 => ?_)
    refine lv_aload_n hx hb dX12_beside_8 rfl (lv_at hl 0 rfl) ?_
    refine lv_iload_n hx hb dX12_beside_9 rfl (lv_at hl 2 rfl) ?_
    refine vp_callSi (va_runV (As := [.int p1]) (rest := []) ⟨hx, hb, hml, hown, hts⟩ (m_isThing l dC dI h0 v cI cZ u p1) (cwV 1 hts gX12_beside_X12_isThing rfl rfl rfl (by decide +kernel) ⟨Nat.le_of_ble_eq_true rfl, Nat.le_of_ble_eq_true rfl⟩) ⟨pw_fb, va_recv hK hP (ci := 11) (q0 := 0) rfl rfl, fun U hU hW => ⟨rfl, pw_to hU hW hP hK hN⟩⟩ rfl rfl hl.1 rfl (lv_room (Nat.le_of_ble_eq_true rfl)) dX12_beside_10 ⟨Nat.le_of_ble_eq_true rfl, Nat.le_of_ble_eq_true rfl⟩).run (fun r hw => ?_)
    rcases Bool.eq_false_or_eq_true (mThing p1) with b_3 | b_3
    ·
      obtain rfl : r = 1 := b_t hw b_3
      refine lv_if_eq (tgt := 21) hx hb dX12_beside_13 (by decide) (fun c_4 => absurd c_4 (by decide)) (fun c_4 => ?_)
      refine lv_iload_n hx hb dX12_beside_16 rfl (lv_at hl 1 rfl) ?_
      refine lv_iload_n hx hb dX12_beside_17 rfl (lv_at hl 2 rfl) ?_
      refine lv_icmp_ne (tgt := 22) hx hb dX12_beside_18 (by decide) (fun c_5 => ?_) (fun c_5 => ?_)
      ·
        have hA9 := ha9 b_1
        have hB9 := hb9 b_3
        have hg : mE u u := mE_rf u
        refine w_cut (X := fun R cells slots Q args => ∀ (uJ156 : mS) (H : Heap) (locs : List Loc) (ls : Array Slot), mE u uJ156 → bst u uJ156 (fun t => (False ∨ bT1 u p0 p1 t) ∨ bT2 u p0 p1 t) → va_P (dC, dI) vwCl (mW h0 v cI cZ uJ156) H → va_D A (mW h0 v cI cZ uJ156) → va_S A s.heap H locs → lv_has ls 4 [(0, .ref h0), (1, .int p0), (2, .int p1), (3, .int p2)] → W p l e R s m args below meth c H locs cells slots Q (F0 m 156 ls [])) ?_ (fun kJ156 => ?_)
        ·
          intro uJ156 H locs ls hg hB156 hP hD hS hl
          refine lv_iload_n hx hb dX12_beside_156 rfl (lv_at hl 3 rfl) ?_
          refine lv_if_eq (tgt := 187) hx hb dX12_beside_157 (by decide) (fun c_6 => ?_) (fun c_6 => ?_)
          ·
            exact W.vret hx hb hr (fun t ht hW => ⟨⟨uJ156, rfl, ⟨hg, bst_3 b_1 b_3 c_5 (bst_no hB156 (fun t q => (fun h => h.1 c_6) q.1))⟩, by rw [ht]; exact hP, hD⟩, hS.F ht⟩) hS.2.2 dX12_beside_187
          ·
            refine lv_aload_n hx hb dX12_beside_160 rfl (lv_at hl 0 rfl) ?_
            refine va_get (D := (dC, dI)) (ci := 11) (v := .ref (v 4)) (C := RX12) (T := TX12) (N := 52) hx hb hts (by decide +kernel) hown hK hP 0 rfl rfl 4 (by decide) (hts (.fieldLink RX12 19 "PageOneModel" "kind" "[I") (by decide +kernel)) (fun _ h9 => h9) rfl dX12_beside_161 ?_
            refine lv_iload_n hx hb dX12_beside_164 rfl (lv_at hl 1 rfl) ?_
            refine va_iald hx hb hK hP 4 0 rfl rfl (vin hA9 (by decide)) dX12_beside_165 ?_
            refine lv_iconst (v := 1) hx hb dX12_beside_166 (by decide) ?_
            refine lv_icmp_ne (tgt := 187) hx hb dX12_beside_167 (by decide) (fun c_7 => ?_) (fun c_7 => ?_)
            ·
              exact W.vret hx hb hr (fun t ht hW => ⟨⟨uJ156, rfl, ⟨hg, bst_3 b_1 b_3 c_5 (bst_no hB156 (fun t q => (fun h => by unfold bC3 at h; rw [← hg.1] at h; first | exact c_7 h.2.1 | exact h.2.1 c_7) q.1))⟩, by rw [ht]; exact hP, hD⟩, hS.F ht⟩) hS.2.2 dX12_beside_187
            ·
              refine lv_aload_n hx hb dX12_beside_170 rfl (lv_at hl 0 rfl) ?_
              refine va_get (D := (dC, dI)) (ci := 11) (v := .ref (v 4)) (C := RX12) (T := TX12) (N := 52) hx hb hts (by decide +kernel) hown hK hP 0 rfl rfl 4 (by decide) (hts (.fieldLink RX12 19 "PageOneModel" "kind" "[I") (by decide +kernel)) (fun _ h9 => h9) rfl dX12_beside_171 ?_
              refine lv_iload_n hx hb dX12_beside_174 rfl (lv_at hl 2 rfl) ?_
              refine va_iald hx hb hK hP 4 0 rfl rfl (vin hB9 (by decide)) dX12_beside_175 ?_
              refine lv_iconst (v := 1) hx hb dX12_beside_176 (by decide) ?_
              refine lv_icmp_ne (tgt := 187) hx hb dX12_beside_177 (by decide) (fun c_8 => ?_) (fun c_8 => ?_)
              ·
                exact W.vret hx hb hr (fun t ht hW => ⟨⟨uJ156, rfl, ⟨hg, bst_3 b_1 b_3 c_5 (bst_no hB156 (fun t q => (fun h => by unfold bC3 at h; rw [← hg.1] at h; first | exact c_8 h.2.2 | exact h.2.2 c_8) q.1))⟩, by rw [ht]; exact hP, hD⟩, hS.F ht⟩) hS.2.2 dX12_beside_187
              ·
                refine lv_aload_n hx hb dX12_beside_180 rfl (lv_at hl 0 rfl) ?_
                refine lv_iconst (v := 3) hx hb dX12_beside_181 (by decide) ?_
                refine lv_iload_n hx hb dX12_beside_182 rfl (lv_at hl 1 rfl) ?_
                refine lv_iload_n hx hb dX12_beside_183 rfl (lv_at hl 2 rfl) ?_
                have hg8 := hg
                have hFc := fr_all hD hS hA
                refine va_callv (va_runV (As := [.int 3, .int p0, .int p1]) (rest := []) ⟨hx, hb, hml, hown, hts⟩ (m_wrongs l dC dI h0 v cI cZ uJ156 3 p0 p1 H.size) (cwV 3 hts gX12_beside_X12_wrongs rfl rfl rfl (by decide +kernel) ⟨Nat.le_of_ble_eq_true rfl, Nat.le_of_ble_eq_true rfl⟩) ⟨gw_fb, va_recv hK hP (ci := 11) (q0 := 0) rfl rfl, fun U hU hW => ⟨rfl, by rw [hU], pw_to hU hW hP hK hN, hD.weaken (fun _ _ _ _ => trivial)⟩⟩ rfl rfl hl.1 rfl (lv_room (Nat.le_of_ble_eq_true rfl)) dX12_beside_184 ⟨Nat.le_of_ble_eq_true rfl, Nat.le_of_ble_eq_true rfl⟩) hS (fun q _ h => hFc q h) hFc (fun u_9 t H1 locs ht hvm hw hB hz1 hk1 hS => ?_)
                obtain ⟨hP, hD1⟩ := hB
                rw [ht] at hP
                have hD := hD1.weaken (fun _ q _ h => hFc q.1 h)
                generalize H1 = H at hP hS ⊢
                have hg := mE_wr hg hw
                have hwr := hw
                exact W.vret hx hb hr (fun t ht hW => ⟨⟨u_9, rfl, ⟨hg, bst_3 b_1 b_3 c_5 (bst_add hB156 hwr (by decide) (fun t => ⟨fun h => h.2, fun h => ⟨(by unfold bC3; rw [← hg8.1]; exact ⟨c_6, c_7, c_8⟩), h⟩⟩))⟩, by rw [ht]; exact hP, hD⟩, hS.F ht⟩) hS.2.2 dX12_beside_187
        ·
          refine w_cut (X := fun R cells slots Q args => ∀ (uJ149 : mS) (H : Heap) (locs : List Loc) (ls : Array Slot), mE u uJ149 → bst u uJ149 (fun t => False ∨ bT1 u p0 p1 t) → (bCa u p0 p1 ∨ bCa u p1 p0) → va_P (dC, dI) vwCl (mW h0 v cI cZ uJ149) H → va_D A (mW h0 v cI cZ uJ149) → va_S A s.heap H locs → lv_has ls 4 [(0, .ref h0), (1, .int p0), (2, .int p1), (3, .int p2)] → W p l e R s m args below meth c H locs cells slots Q (F0 m 149 ls [])) ?_ (fun kJ149 => ?_)
          ·
            intro uJ149 H locs ls hg hB149 hY149 hP hD hS hl
            refine lv_aload_n hx hb dX12_beside_149 rfl (lv_at hl 0 rfl) ?_
            refine lv_iconst (v := 2) hx hb dX12_beside_150 (by decide) ?_
            refine lv_iload_n hx hb dX12_beside_151 rfl (lv_at hl 1 rfl) ?_
            refine lv_iload_n hx hb dX12_beside_152 rfl (lv_at hl 2 rfl) ?_
            have hg8 := hg
            have hFc := fr_all hD hS hA
            refine va_callv (va_runV (As := [.int 2, .int p0, .int p1]) (rest := []) ⟨hx, hb, hml, hown, hts⟩ (m_wrongs l dC dI h0 v cI cZ uJ149 2 p0 p1 H.size) (cwV 3 hts gX12_beside_X12_wrongs rfl rfl rfl (by decide +kernel) ⟨Nat.le_of_ble_eq_true rfl, Nat.le_of_ble_eq_true rfl⟩) ⟨gw_fb, va_recv hK hP (ci := 11) (q0 := 0) rfl rfl, fun U hU hW => ⟨rfl, by rw [hU], pw_to hU hW hP hK hN, hD.weaken (fun _ _ _ _ => trivial)⟩⟩ rfl rfl hl.1 rfl (lv_room (Nat.le_of_ble_eq_true rfl)) dX12_beside_153 ⟨Nat.le_of_ble_eq_true rfl, Nat.le_of_ble_eq_true rfl⟩) hS (fun q _ h => hFc q h) hFc (fun u_10 t H1 locs ht hvm hw hB hz1 hk1 hS => ?_)
            obtain ⟨hP, hD1⟩ := hB
            rw [ht] at hP
            have hD := hD1.weaken (fun _ q _ h => hFc q.1 h)
            generalize H1 = H at hP hS ⊢
            have hg := mE_wr hg hw
            have hwr := hw
            exact kJ156 _ _ _ ls hg (bst_add hB149 hwr (by decide) (fun t => ⟨fun h => h.2, fun h => ⟨hY149, h⟩⟩)) hP hD hS (lv_sub hl [0, 1, 2, 3] rfl)
          ·
            refine w_cut (X := fun R cells slots Q args => ∀ (uJ111 : mS) (H : Heap) (locs : List Loc) (ls : Array Slot), mE u uJ111 → bst u uJ111 (fun t => False ∨ bT1 u p0 p1 t) → ¬ bCa u p0 p1 → va_P (dC, dI) vwCl (mW h0 v cI cZ uJ111) H → va_D A (mW h0 v cI cZ uJ111) → va_S A s.heap H locs → lv_has ls 4 [(0, .ref h0), (1, .int p0), (2, .int p1), (3, .int p2)] → W p l e R s m args below meth c H locs cells slots Q (F0 m 111 ls [])) ?_ (fun kJ111 => ?_)
            ·
              intro uJ111 H locs ls hg hB111 hN111 hP hD hS hl
              refine lv_aload_n hx hb dX12_beside_111 rfl (lv_at hl 0 rfl) ?_
              refine va_get (D := (dC, dI)) (ci := 11) (v := .ref (v 4)) (C := RX12) (T := TX12) (N := 52) hx hb hts (by decide +kernel) hown hK hP 0 rfl rfl 4 (by decide) (hts (.fieldLink RX12 19 "PageOneModel" "kind" "[I") (by decide +kernel)) (fun _ h9 => h9) rfl dX12_beside_112 ?_
              refine lv_iload_n hx hb dX12_beside_115 rfl (lv_at hl 2 rfl) ?_
              refine va_iald hx hb hK hP 4 0 rfl rfl (vin hB9 (by decide)) dX12_beside_116 ?_
              refine lv_iconst (v := 3) hx hb dX12_beside_117 (by decide) ?_
              refine lv_icmp_ne (tgt := 156) hx hb dX12_beside_118 (by decide) (fun c_11 => ?_) (fun c_11 => ?_)
              ·
                exact kJ156 _ _ _ ls hg (bst_no hB111 (fun t q => q.1.elim hN111 (fun h => by unfold bCa at h; rw [← hg.1] at h; first | exact c_11 h.1 | exact h.1 c_11))) hP hD hS (lv_sub hl [0, 1, 2, 3] rfl)
              ·
                refine lv_aload_n hx hb dX12_beside_121 rfl (lv_at hl 0 rfl) ?_
                refine va_get (D := (dC, dI)) (ci := 11) (v := .ref (v 4)) (C := RX12) (T := TX12) (N := 52) hx hb hts (by decide +kernel) hown hK hP 0 rfl rfl 4 (by decide) (hts (.fieldLink RX12 19 "PageOneModel" "kind" "[I") (by decide +kernel)) (fun _ h9 => h9) rfl dX12_beside_122 ?_
                refine lv_iload_n hx hb dX12_beside_125 rfl (lv_at hl 1 rfl) ?_
                refine va_iald hx hb hK hP 4 0 rfl rfl (vin hA9 (by decide)) dX12_beside_126 ?_
                refine lv_if_ne (tgt := 156) hx hb dX12_beside_127 (by decide) (fun c_12 => ?_) (fun c_12 => ?_)
                ·
                  exact kJ156 _ _ _ ls hg (bst_no hB111 (fun t q => q.1.elim hN111 (fun h => by unfold bCa at h; rw [← hg.1] at h; first | exact c_12 h.2.1 | exact h.2.1 c_12))) hP hD hS (lv_sub hl [0, 1, 2, 3] rfl)
                ·
                  refine lv_aload_n hx hb dX12_beside_130 rfl (lv_at hl 0 rfl) ?_
                  refine va_get (D := (dC, dI)) (ci := 11) (v := .ref (v 21)) (C := RX12) (T := TX12) (N := 52) hx hb hts (by decide +kernel) hown hK hP 0 rfl rfl 21 (by decide) (hts (.fieldLink RX12 71 "PageOneModel" "isNamed" "[Z") (by decide +kernel)) (fun _ h9 => h9) rfl dX12_beside_131 ?_
                  refine lv_bipush (v := 10) hx hb dX12_beside_134 (by decide) ?_
                  refine lv_iload_n hx hb dX12_beside_136 rfl (lv_at hl 1 rfl) ?_
                  refine lv_imul hx hb dX12_beside_137 ?_
                  refine lv_aload_n hx hb dX12_beside_138 rfl (lv_at hl 0 rfl) ?_
                  refine va_get (D := (dC, dI)) (ci := 11) (v := .ref (v 10)) (C := RX12) (T := TX12) (N := 52) hx hb hts (by decide +kernel) hown hK hP 0 rfl rfl 10 (by decide) (hts (.fieldLink RX12 37 "PageOneModel" "buyer" "[I") (by decide +kernel)) (fun _ h9 => h9) rfl dX12_beside_139 ?_
                  refine lv_iload_n hx hb dX12_beside_142 rfl (lv_at hl 2 rfl) ?_
                  refine va_iald hx hb hK hP 10 0 rfl rfl (vin hB9 (by decide)) dX12_beside_143 ?_
                  refine lv_iadd hx hb dX12_beside_144 ?_
                  refine va_zald hx hb hK hP 21 1 rfl rfl (vNm hA9 (mE_b hg hk hB9 c_11)) dX12_beside_145 ?_
                  refine lv_if_eq (tgt := 156) hx hb dX12_beside_146 (by decide) (fun c_13 => ?_) (fun c_13 => ?_)
                  ·
                    exact kJ156 _ _ _ ls hg (bst_no hB111 (fun t q => q.1.elim hN111 (fun h => by unfold bCa at h; rw [← hg.1] at h; first | exact c_13 h.2.2 | exact h.2.2 c_13))) hP hD hS (lv_sub hl [0, 1, 2, 3] rfl)
                  ·
                    exact kJ149 _ _ _ ls hg hB111 (Or.inr (by unfold bCa; rw [← hg.1]; exact ⟨c_11, c_12, c_13⟩)) hP hD hS (lv_sub hl [0, 1, 2, 3] rfl)
            ·
              refine w_cut (X := fun R cells slots Q args => ∀ (uJ73 : mS) (H : Heap) (locs : List Loc) (ls : Array Slot), mE u uJ73 → bst u uJ73 (fun t => False ∨ bT1 u p0 p1 t) → va_P (dC, dI) vwCl (mW h0 v cI cZ uJ73) H → va_D A (mW h0 v cI cZ uJ73) → va_S A s.heap H locs → lv_has ls 4 [(0, .ref h0), (1, .int p0), (2, .int p1), (3, .int p2)] → W p l e R s m args below meth c H locs cells slots Q (F0 m 73 ls [])) ?_ (fun kJ73 => ?_)
              ·
                intro uJ73 H locs ls hg hB73 hP hD hS hl
                refine lv_aload_n hx hb dX12_beside_73 rfl (lv_at hl 0 rfl) ?_
                refine va_get (D := (dC, dI)) (ci := 11) (v := .ref (v 4)) (C := RX12) (T := TX12) (N := 52) hx hb hts (by decide +kernel) hown hK hP 0 rfl rfl 4 (by decide) (hts (.fieldLink RX12 19 "PageOneModel" "kind" "[I") (by decide +kernel)) (fun _ h9 => h9) rfl dX12_beside_74 ?_
                refine lv_iload_n hx hb dX12_beside_77 rfl (lv_at hl 1 rfl) ?_
                refine va_iald hx hb hK hP 4 0 rfl rfl (vin hA9 (by decide)) dX12_beside_78 ?_
                refine lv_iconst (v := 3) hx hb dX12_beside_79 (by decide) ?_
                refine lv_icmp_ne (tgt := 111) hx hb dX12_beside_80 (by decide) (fun c_14 => ?_) (fun c_14 => ?_)
                ·
                  exact kJ111 _ _ _ ls hg hB73 (fun h => by unfold bCa at h; rw [← hg.1] at h; first | exact c_14 h.1 | exact h.1 c_14) hP hD hS (lv_sub hl [0, 1, 2, 3] rfl)
                ·
                  refine lv_aload_n hx hb dX12_beside_83 rfl (lv_at hl 0 rfl) ?_
                  refine va_get (D := (dC, dI)) (ci := 11) (v := .ref (v 4)) (C := RX12) (T := TX12) (N := 52) hx hb hts (by decide +kernel) hown hK hP 0 rfl rfl 4 (by decide) (hts (.fieldLink RX12 19 "PageOneModel" "kind" "[I") (by decide +kernel)) (fun _ h9 => h9) rfl dX12_beside_84 ?_
                  refine lv_iload_n hx hb dX12_beside_87 rfl (lv_at hl 2 rfl) ?_
                  refine va_iald hx hb hK hP 4 0 rfl rfl (vin hB9 (by decide)) dX12_beside_88 ?_
                  refine lv_if_ne (tgt := 111) hx hb dX12_beside_89 (by decide) (fun c_15 => ?_) (fun c_15 => ?_)
                  ·
                    exact kJ111 _ _ _ ls hg hB73 (fun h => by unfold bCa at h; rw [← hg.1] at h; first | exact c_15 h.2.1 | exact h.2.1 c_15) hP hD hS (lv_sub hl [0, 1, 2, 3] rfl)
                  ·
                    refine lv_aload_n hx hb dX12_beside_92 rfl (lv_at hl 0 rfl) ?_
                    refine va_get (D := (dC, dI)) (ci := 11) (v := .ref (v 21)) (C := RX12) (T := TX12) (N := 52) hx hb hts (by decide +kernel) hown hK hP 0 rfl rfl 21 (by decide) (hts (.fieldLink RX12 71 "PageOneModel" "isNamed" "[Z") (by decide +kernel)) (fun _ h9 => h9) rfl dX12_beside_93 ?_
                    refine lv_bipush (v := 10) hx hb dX12_beside_96 (by decide) ?_
                    refine lv_iload_n hx hb dX12_beside_98 rfl (lv_at hl 2 rfl) ?_
                    refine lv_imul hx hb dX12_beside_99 ?_
                    refine lv_aload_n hx hb dX12_beside_100 rfl (lv_at hl 0 rfl) ?_
                    refine va_get (D := (dC, dI)) (ci := 11) (v := .ref (v 10)) (C := RX12) (T := TX12) (N := 52) hx hb hts (by decide +kernel) hown hK hP 0 rfl rfl 10 (by decide) (hts (.fieldLink RX12 37 "PageOneModel" "buyer" "[I") (by decide +kernel)) (fun _ h9 => h9) rfl dX12_beside_101 ?_
                    refine lv_iload_n hx hb dX12_beside_104 rfl (lv_at hl 1 rfl) ?_
                    refine va_iald hx hb hK hP 10 0 rfl rfl (vin hA9 (by decide)) dX12_beside_105 ?_
                    refine lv_iadd hx hb dX12_beside_106 ?_
                    refine va_zald hx hb hK hP 21 1 rfl rfl (vNm hB9 (mE_b hg hk hA9 c_14)) dX12_beside_107 ?_
                    refine lv_if_ne (tgt := 149) hx hb dX12_beside_108 (by decide) (fun c_16 => ?_) (fun c_16 => ?_)
                    ·
                      exact kJ149 _ _ _ ls hg hB73 (Or.inl (by unfold bCa; rw [← hg.1]; exact ⟨c_14, c_15, c_16⟩)) hP hD hS (lv_sub hl [0, 1, 2, 3] rfl)
                    ·
                      exact kJ111 _ _ _ ls hg hB73 (fun h => by unfold bCa at h; rw [← hg.1] at h; first | exact c_16 h.2.2 | exact h.2.2 c_16) hP hD hS (lv_sub hl [0, 1, 2, 3] rfl)
              ·
                refine lv_aload_n hx hb dX12_beside_22 rfl (lv_at hl 0 rfl) ?_
                refine va_get (D := (dC, dI)) (ci := 11) (v := .ref (v 4)) (C := RX12) (T := TX12) (N := 52) hx hb hts (by decide +kernel) hown hK hP 0 rfl rfl 4 (by decide) (hts (.fieldLink RX12 19 "PageOneModel" "kind" "[I") (by decide +kernel)) (fun _ h9 => h9) rfl dX12_beside_23 ?_
                refine lv_iload_n hx hb dX12_beside_26 rfl (lv_at hl 1 rfl) ?_
                refine va_iald hx hb hK hP 4 0 rfl rfl (vin hA9 (by decide)) dX12_beside_27 ?_
                refine lv_iconst (v := 3) hx hb dX12_beside_28 (by decide) ?_
                refine lv_icmp_ne (tgt := 73) hx hb dX12_beside_29 (by decide) (fun c_17 => ?_) (fun c_17 => ?_)
                ·
                  exact kJ73 _ _ _ ls hg (bst_no (bst_0 u) (fun t q => (fun h => by unfold bC1 at h; rw [← hg.1] at h; first | exact c_17 h.1 | exact h.1 c_17) q.1)) hP hD hS (lv_sub hl [0, 1, 2, 3] rfl)
                ·
                  refine lv_aload_n hx hb dX12_beside_32 rfl (lv_at hl 0 rfl) ?_
                  refine va_get (D := (dC, dI)) (ci := 11) (v := .ref (v 4)) (C := RX12) (T := TX12) (N := 52) hx hb hts (by decide +kernel) hown hK hP 0 rfl rfl 4 (by decide) (hts (.fieldLink RX12 19 "PageOneModel" "kind" "[I") (by decide +kernel)) (fun _ h9 => h9) rfl dX12_beside_33 ?_
                  refine lv_iload_n hx hb dX12_beside_36 rfl (lv_at hl 2 rfl) ?_
                  refine va_iald hx hb hK hP 4 0 rfl rfl (vin hB9 (by decide)) dX12_beside_37 ?_
                  refine lv_iconst (v := 3) hx hb dX12_beside_38 (by decide) ?_
                  refine lv_icmp_ne (tgt := 73) hx hb dX12_beside_39 (by decide) (fun c_18 => ?_) (fun c_18 => ?_)
                  ·
                    exact kJ73 _ _ _ ls hg (bst_no (bst_0 u) (fun t q => (fun h => by unfold bC1 at h; rw [← hg.1] at h; first | exact c_18 h.2.1 | exact h.2.1 c_18) q.1)) hP hD hS (lv_sub hl [0, 1, 2, 3] rfl)
                  ·
                    refine lv_aload_n hx hb dX12_beside_42 rfl (lv_at hl 0 rfl) ?_
                    refine va_get (D := (dC, dI)) (ci := 11) (v := .ref (v 20)) (C := RX12) (T := TX12) (N := 52) hx hb hts (by decide +kernel) hown hK hP 0 rfl rfl 20 (by decide) (hts (.fieldLink RX12 67 "PageOneModel" "isRival" "[Z") (by decide +kernel)) (fun _ h9 => h9) rfl dX12_beside_43 ?_
                    refine lv_bipush (v := 10) hx hb dX12_beside_46 (by decide) ?_
                    refine lv_aload_n hx hb dX12_beside_48 rfl (lv_at hl 0 rfl) ?_
                    refine va_get (D := (dC, dI)) (ci := 11) (v := .ref (v 10)) (C := RX12) (T := TX12) (N := 52) hx hb hts (by decide +kernel) hown hK hP 0 rfl rfl 10 (by decide) (hts (.fieldLink RX12 37 "PageOneModel" "buyer" "[I") (by decide +kernel)) (fun _ h9 => h9) rfl dX12_beside_49 ?_
                    refine lv_iload_n hx hb dX12_beside_52 rfl (lv_at hl 1 rfl) ?_
                    refine va_iald hx hb hK hP 10 0 rfl rfl (vin hA9 (by decide)) dX12_beside_53 ?_
                    refine lv_imul hx hb dX12_beside_54 ?_
                    refine lv_aload_n hx hb dX12_beside_55 rfl (lv_at hl 0 rfl) ?_
                    refine va_get (D := (dC, dI)) (ci := 11) (v := .ref (v 10)) (C := RX12) (T := TX12) (N := 52) hx hb hts (by decide +kernel) hown hK hP 0 rfl rfl 10 (by decide) (hts (.fieldLink RX12 37 "PageOneModel" "buyer" "[I") (by decide +kernel)) (fun _ h9 => h9) rfl dX12_beside_56 ?_
                    refine lv_iload_n hx hb dX12_beside_59 rfl (lv_at hl 2 rfl) ?_
                    refine va_iald hx hb hK hP 10 0 rfl rfl (vin hB9 (by decide)) dX12_beside_60 ?_
                    refine lv_iadd hx hb dX12_beside_61 ?_
                    refine va_zald hx hb hK hP 20 1 rfl rfl (vin10 (mE_b hg hk hA9 c_17) (mE_b hg hk hB9 c_18)) dX12_beside_62 ?_
                    refine lv_if_eq (tgt := 73) hx hb dX12_beside_63 (by decide) (fun c_19 => ?_) (fun c_19 => ?_)
                    ·
                      exact kJ73 _ _ _ ls hg (bst_no (bst_0 u) (fun t q => (fun h => by unfold bC1 at h; rw [← hg.1] at h; first | exact c_19 h.2.2 | exact h.2.2 c_19) q.1)) hP hD hS (lv_sub hl [0, 1, 2, 3] rfl)
                    ·
                      refine lv_aload_n hx hb dX12_beside_66 rfl (lv_at hl 0 rfl) ?_
                      refine lv_iconst (v := 1) hx hb dX12_beside_67 (by decide) ?_
                      refine lv_iload_n hx hb dX12_beside_68 rfl (lv_at hl 1 rfl) ?_
                      refine lv_iload_n hx hb dX12_beside_69 rfl (lv_at hl 2 rfl) ?_
                      have hg8 := hg
                      have hFc := fr_all hD hS hA
                      refine va_callv (va_runV (As := [.int 1, .int p0, .int p1]) (rest := []) ⟨hx, hb, hml, hown, hts⟩ (m_wrongs l dC dI h0 v cI cZ u 1 p0 p1 s.heap.size) (cwV 3 hts gX12_beside_X12_wrongs rfl rfl rfl (by decide +kernel) ⟨Nat.le_of_ble_eq_true rfl, Nat.le_of_ble_eq_true rfl⟩) ⟨gw_fb, va_recv hK hP (ci := 11) (q0 := 0) rfl rfl, fun U hU hW => ⟨rfl, by rw [hU], pw_to hU hW hP hK hN, hD.weaken (fun _ _ _ _ => trivial)⟩⟩ rfl rfl hl.1 rfl (lv_room (Nat.le_of_ble_eq_true rfl)) dX12_beside_70 ⟨Nat.le_of_ble_eq_true rfl, Nat.le_of_ble_eq_true rfl⟩) hS (fun q _ h => hFc q h) hFc (fun u_20 t H1 locs ht hvm hw hB hz1 hk1 hS => ?_)
                      obtain ⟨hP, hD1⟩ := hB
                      rw [ht] at hP
                      have hD := hD1.weaken (fun _ q _ h => hFc q.1 h)
                      generalize H1 = H at hP hS ⊢
                      have hg := mE_wr hg hw
                      have hwr := hw
                      exact kJ73 _ _ _ ls hg (bst_add (bst_0 u) hwr (by decide) (fun t => ⟨fun h => h.2, fun h => ⟨(by unfold bC1; rw [← hg8.1]; exact ⟨c_17, c_18, c_19⟩), h⟩⟩)) hP hD hS (lv_sub hl [0, 1, 2, 3] rfl)
      ·
        exact W.vret hx hb hr (fun t ht hW => ⟨⟨u, rfl, ⟨mE_rf u, bst_n (fun h => h.2.2 c_5)⟩, by rw [ht]; exact hP, hD⟩, hS.F ht⟩) hS.2.2 dX12_beside_21
    ·
      obtain rfl : r = 0 := b_f hw b_3
      refine lv_if_eq (tgt := 21) hx hb dX12_beside_13 (by decide) (fun c_21 => ?_) (fun c_21 => absurd (by decide) c_21)
      exact W.vret hx hb hr (fun t ht hW => ⟨⟨u, rfl, ⟨mE_rf u, bst_n (fun h => bne b_3 h.2.1)⟩, by rw [ht]; exact hP, hD⟩, hS.F ht⟩) hS.2.2 dX12_beside_21
  ·
    obtain rfl : r = 0 := b_f hw b_1
    refine lv_if_eq (tgt := 21) hx hb dX12_beside_5 (by decide) (fun c_22 => ?_) (fun c_22 => absurd (by decide) c_22)
    exact W.vret hx hb hr (fun t ht hW => ⟨⟨u, rfl, ⟨mE_rf u, bst_n (fun h => bne b_1 h.1)⟩, by rw [ht]; exact hP, hD⟩, hS.F ht⟩) hS.2.2 dX12_beside_21
