/-- plate p has no cell of item i -/
def plN (u : mS) (p i : Nat) : Prop := ∀ c l, c < 8 → l < (u.2 43 (8 * p + c)).toNatClampNeg → ¬ u.2 44 (480 * p + (60 * c + l)) = nI i
/-- the first cell of item i on plate p -/
def plF (u : mS) (p i c l : Nat) : Prop := c < 8 ∧ l < (u.2 43 (8 * p + c)).toNatClampNeg ∧ u.2 44 (480 * p + (60 * c + l)) = nI i ∧ ∀ c' l', c' < 8 → l' < (u.2 43 (8 * p + c')).toNatClampNeg → (c' < c ∨ (c' = c ∧ l' < l)) → ¬ u.2 44 (480 * p + (60 * c' + l')) = nI i
/-- what is told of each plate's items is its first cell -/
def plI (u : mS) : Prop := ∀ p, p < 12 → u.2 40 p = 1 → ∀ i, i < 80 → (u.2 45 (80 * p + i) = (-1) ∧ plN u p i) ∨ ∃ c l, u.2 45 (80 * p + i) = nI c ∧ u.2 46 (80 * p + i) = nI l ∧ plF u p i c l
def fiI (u : mS) : Prop := ∀ i, i < 80 → ¬ u.2 47 (5 * i) < (-1)
theorem plF_u {u : mS} {p i c l c2 l2 : Nat} (h : plF u p i c l) (h2 : plF u p i c2 l2) : c = c2 ∧ l = l2 := by
  obtain ⟨a1, a2, a3, a4⟩ := h
  obtain ⟨b1, b2, b3, b4⟩ := h2
  have x1 : ¬ (c2 < c ∨ (c2 = c ∧ l2 < l)) := fun e => a4 c2 l2 b1 b2 e b3
  have x2 : ¬ (c < c2 ∨ (c = c2 ∧ l < l2)) := fun e => b4 c l a1 a2 e a3
  omega
theorem plFN {u : mS} {p i c l : Nat} (h : plF u p i c l) (h2 : plN u p i) : False := h2 c l h.1 h.2.1 h.2.2.1
/-- a sheet's cell as its rows have it -/
theorem shAt_in {gl gc r0 r1 : Nat → Int32} {p c l : Nat} (hp : p < 12) (hl : eqR 8 gl r0 (8 * p)) (hc : eqR 480 gc r1 (480 * p)) (hb : ∀ j, j < 8 → bw (gl j) 0 60 = true) (h8 : c < 8) (hlt : l < (r0 (8 * p + c)).toNatClampNeg) : shAt gl gc (nI c) (nI l) = r1 (480 * p + (60 * c + l)) ∧ l < 60 := by
  have hb1 := hb c h8
  obtain ⟨b1, b2, b3⟩ := nI_of_bw hb1
  have h60 : (60 : Int32).toInt = 60 := rfl
  rw [hl c h8] at b1 b2 b3
  have h6 : l < 60 := by omega
  have b7 : bw (nI c) 0 7 = true := bw7 h8
  have hbl : bw (nI l) 0 (r0 (8 * p + c) - 1) = true := by
    rw [b1]
    exact bw_iff.mpr ⟨by rw [nI_toInt (by omega)]; exact Int.natCast_nonneg _, by
      have e1 : (nI (r0 (8 * p + c)).toNatClampNeg - 1) = nI ((r0 (8 * p + c)).toNatClampNeg - 1) := by
        have := nI_add ((r0 (8 * p + c)).toNatClampNeg - 1) 1
        rw [show (r0 (8 * p + c)).toNatClampNeg - 1 + 1 = (r0 (8 * p + c)).toNatClampNeg from by omega] at this
        rw [← this]
        show nI _ + 1 - 1 = _
        exact Int32.add_sub_cancel _ _
      rw [e1, nI_toInt (by omega), nI_toInt (by omega)]; omega⟩
  have e1 : (nI c * 60 + nI l).toNatClampNeg = 60 * c + l := by rw [show (60 : Int32) = nI 60 from rfl, pk_mul, nI_add, nI_clamp (by omega)]; omega
  unfold shAt
  rw [if_pos b7, nI_clamp (by omega), hl c h8, if_pos hbl, e1]
  exact ⟨hc _ (by omega), h6⟩
theorem sp_pl {gl gc : Nat → Int32} {u : mS} {p i : Nat} {r : Int32} (hp : p < 12) (hl : eqR 8 gl (u.2 43) (8 * p)) (hc : eqR 480 gc (u.2 44) (480 * p)) (hb : ∀ j, j < 8 → bw (gl j) 0 60 = true) (h : shSp gl gc (nI i) r) : (r = -1 ∧ plN u p i) ∨ ∃ c l, l < 60 ∧ r = nI c * 60 + nI l ∧ plF u p i c l := by
  have eg : ∀ c, c < 8 → gl (nI c).toNatClampNeg = u.2 43 (8 * p + c) := fun c h8 => by rw [nI_clamp (by omega)]; exact hl c h8
  rcases h with ⟨e, hn⟩ | ⟨c, l, h8, hlt, e, hv, hn⟩
  · refine Or.inl ⟨e, fun c l h8 hlt hv => hn c l h8 (by rw [eg c h8]; exact hlt) (Or.inl h8) ?_⟩
    rw [(shAt_in hp hl hc hb h8 hlt).1]; exact hv
  · rw [eg c h8] at hlt
    have h1 := shAt_in hp hl hc hb h8 hlt
    refine Or.inr ⟨c, l, h1.2, e, h8, hlt, by rw [← h1.1]; exact hv, fun c' l' h8' hlt' ho hv' => hn c' l' h8' (by rw [eg c' h8']; exact hlt') ho ?_⟩
    rw [(shAt_in hp hl hc hb h8' hlt').1]; exact hv'
/-- spotOf on a plate tells what the reference has of it -/
def spR (u : mS) (i p : Nat) (s : Int32) : Prop := ∃ c l, c < 8 ∧ l < 60 ∧ s = nI (60 * c + l) ∧ u.2 45 (80 * p + i) = nI c ∧ u.2 46 (80 * p + i) = nI l
theorem sp_val {gl gc : Nat → Int32} {u : mS} {p i : Nat} {r : Int32} (hp : p < 12) (hpl : plI u) (h40 : u.2 40 p = 1) (hi : i < 80) (hl : eqR 8 gl (u.2 43) (8 * p)) (hc : eqR 480 gc (u.2 44) (480 * p)) (hb : ∀ j, j < 8 → bw (gl j) 0 60 = true) (h : shSp gl gc (nI i) r) : (r = -1 ∧ u.2 45 (80 * p + i) = (-1)) ∨ (¬ r = -1 ∧ spR u i p r) := by
  rcases sp_pl hp hl hc hb h with ⟨e, hn⟩ | ⟨c, l, l6, e, hf⟩
  · rcases hpl p hp h40 i hi with ⟨a, -⟩ | ⟨c, l, -, -, hf⟩
    · exact Or.inl ⟨e, a⟩
    · exact absurd hn (fun x => plFN hf x)
  · rcases hpl p hp h40 i hi with ⟨-, a⟩ | ⟨c2, l2, e1, e2, hf2⟩
    · exact absurd a (fun x => plFN hf x)
    · obtain ⟨rfl, rfl⟩ := plF_u hf hf2
      have er : r = nI (60 * c + l) := by rw [e, show (60 : Int32) = nI 60 from rfl, pk_mul, nI_add, Nat.mul_comm c 60]
      have h8 := hf.1
      refine Or.inr ⟨fun x => ?_, c, l, h8, l6, er, e1, e2⟩
      have := congrArg Int32.toInt (er.symm.trans x)
      rw [nI_toInt (by omega)] at this
      have h1 : (-1 : Int32).toInt = -1 := rfl
      omega
theorem q60 : ∀ c : Fin 8, ∀ l : Fin 60, nI (60 * c.1 + l.1) / 60 = nI c.1 ∧ nI (60 * c.1 + l.1) - nI (60 * c.1 + l.1) / 60 * 60 = nI l.1 := by decide +kernel
theorem e80 {p i : Nat} (hp : p < 12) (hi : i < 80) : (80 * nI p + nI i).toNatClampNeg = 80 * p + i := by rw [show (80 : Int32) = nI 80 from rfl, pk_mul, nI_add, nI_clamp (by omega)]
theorem prC_f {u : mS} {i p : Nat} (hp : p < 12) (hi : i < 80) (h : ¬ mNow u (nI p) = true ∨ u.2 45 (80 * p + i) = (-1)) : prC u (nI i) p = false := by
  unfold prC
  rcases h with h | h
  · cases hm : mNow u (nI p) with
    | false => rfl
    | true => exact absurd hm h
  · rw [e80 hp hi, h]; cases mNow u (nI p) <;> rfl
theorem prC_t {u : mS} {i p : Nat} {s : Int32} (hp : p < 12) (hi : i < 80) (h : mNow u (nI p) = true) (hs : spR u i p s) : prC u (nI i) p = true := by
  obtain ⟨c, l, c8, -, -, e, -⟩ := hs
  unfold prC
  rw [e80 hp hi, h, e]
  have : ¬ nI c < 0 := fun x => by rw [i32_lt, nI_toInt (by omega), i0] at x; omega
  rw [decide_eq_false this]; rfl
/-- what is told of a plate's cell -/
def mPF (u : mS) (p0 p1 p2 : Int32) : Int32 := if p2 = 0 then u.2 41 p0.toNatClampNeg else if p2 = 1 then u.2 42 p0.toNatClampNeg else if p2 = 2 then p0 else if p2 = 3 then p1 / 60 else if p2 = 4 then p1 - p1 / 60 * 60 else (-1)
theorem mPF_v {u : mS} {i p : Nat} {s w : Int32} (hp : p < 12) (hi : i < 80) (hn : frP u (nI p)) (hs : spR u i p s) (hw : bw w 0 4 = true) : mPF u (nI p) s w = mPrV u (nI i) w (nI p) := by
  obtain ⟨c, l, c8, l6, es, e1, e2⟩ := hs
  have hq := q60 ⟨c, c8⟩ ⟨l, l6⟩
  rw [← es] at hq
  unfold mPF mPrV
  rw [e80 hp hi, e1, e2, hq.2, hq.1, hn.2.1, hn.2.2]
  by_cases w0 : w = 0
  · rw [if_pos w0, if_pos w0]
  · rw [if_neg w0, if_neg w0]
    by_cases w1 : w = 1
    · rw [if_pos w1, if_pos w1]
    · rw [if_neg w1, if_neg w1]
      by_cases w2 : w = 2
      · rw [if_pos w2, if_pos w2]
      · rw [if_neg w2, if_neg w2]
        by_cases w3 : w = 3
        · rw [if_pos w3, if_pos w3]
        · rw [if_neg w3, if_neg w3]
          have w4 : w = 4 := by
            have h1 := bw_iff.mp hw
            have h4 : (4 : Int32).toInt = 4 := rfl
            rw [i0] at h1
            have n0 : w.toInt ≠ 0 := fun e => w0 (sw_in e.symm rfl)
            have n1 : w.toInt ≠ 1 := fun e => w1 (sw_in e.symm rfl)
            have n2 : w.toInt ≠ 2 := fun e => w2 (sw_in e.symm rfl)
            have n3 : w.toInt ≠ 3 := fun e => w3 (sw_in e.symm rfl)
            exact sw_in (k := 4) (by omega) rfl
          rw [if_pos w4]
set_option maxHeartbeats 4000000 in
set_option maxRecDepth 100000 in
theorem y_plateFact (l : Launch) (dC : Nat → ClassId) (dI : Nat → Nat → Nat) (q : Nat → ClassId) (h0 : Nat) (d : Nat → Nat) (k : Nat → Int32) (z : gS) (f : xF) (hI : xI q h0 d k z f) (p0 p1 p2 : Int32) (hpl : xPl q d z f p0) (u : mS) (hrp : rep q d u z f) : Met l yX11_plateFact wsX11_plateFact ({ frames := 0, cells := 0, slots := 0, locals := 0 }) (va_Pc [.ref h0, .int p0, .int p1, .int p2] (PX dC dI (va_pl z.1 f) (xT q))) (vp_Si (fun r => r = mPF u p0 p1 p2)) 0 0 (fun _ => False) := by
  refine Met.ofW (cc := cX11_plateFact) (maxL := 4) (ret := (some .int)) (by decide) rfl ?_
  intro p e s m args below meth c s₁ B hml hv
  obtain ⟨rfl, ⟨hP, hK, hN⟩, hXN⟩ := hv
  have hx := B.exec
  have hb := B.bytes
  have hr := B.returns
  have hts := atoms_spec (ws := wsX11_plateFact) B.pre
  have hown : s.vm.findClass RX11 = some m.cls := findClass_of_methodNamed B.named
  have hlocks := B.notSynchronized
  have hl := lv_entry ([.ref h0, .int p0, .int p1, .int p2]) (n := 4) (Nat.le_of_ble_eq_true rfl)
  rw [lg_entry_eq]
  generalize (lg_sl ([.ref h0, .int p0, .int p1, .int p2]) ++ List.replicate (4 - (lg_sl ([.ref h0, .int p0, .int p1, .int p2])).length) Slot.unset).toArray = ls at hl ⊢
  have hl : lv_has ls 4 [(0, .ref h0), (1, .int p0), (2, .int p1), (3, .int p2)] := hl
  obtain ⟨hbw0, gp0, bp0, hp01, hp02, hp03⟩ := hpl
  refine lv_iload_n hx hb dX11_plateFact_0 rfl (lv_at hl 3 rfl) ?_
  rcases Classical.em (p2 = 0) with s_1 | s_1
  ·
    subst s_1
    refine lv_tableIn (tgt := 36) (off := 35) hx hb dX11_plateFact_1 (by decide) (by decide) (by decide) (by decide) ?_
    refine lv_aload_n hx hb dX11_plateFact_36 rfl (lv_at hl 0 rfl) ?_
    obtain ⟨kk_2, hk_3⟩ := pl_at hI.2.1.1.1 hI.2.2.2.1.1
    refine va_get (D := (dC, dI)) (ci := 10) (v := .ref (d 1)) (C := RX11) (T := TX11) (N := 9) hx hb hts (by decide +kernel) hown hK hP kk_2 hk_3 rfl 1 (by decide) (hts (.fieldLink RX11 15 "PageOne" "plates" "[LPageOne$Sheet;") (by decide +kernel)) (fun _ h9 => h9) rfl dX11_plateFact_37 ?_
    refine lv_iload_n hx hb dX11_plateFact_40 rfl (lv_at hl 1 rfl) ?_
    obtain ⟨kk_4, hk_5⟩ := pl_at hI.2.1.2.2.1.1 hp01
    refine va_aldq hx hb hK hP kk_4 2 hk_5 rfl (vin hbw0 (by decide)) dX11_plateFact_41 ?_
    rw [hp02]
    refine W.eq (g2 := F0 m 42 ls [.ref bp0]) rfl ?_
    obtain ⟨la_6, ca_7, m_8, dd_9, ii_10, hs_11, ht_12, ht_13⟩ := x_sh hI hp03
    obtain ⟨kk_14, hk_15⟩ := pl_at hp03.1 hs_11
    refine va_get (D := (dC, dI)) (ci := 8) (v := .int dd_9) (C := RX9) (T := TX9) (N := 5) hx hb hts (by decide +kernel) hown hK hP kk_14 hk_15 rfl 3 (by decide) (hts (.fieldLink RX11 210 "PageOne$Sheet" "day" "I") (by decide +kernel)) (fun _ h9 => h9) rfl dX11_plateFact_42 ?_
    exact W.iret (v := dd_9) hx hb hr (fun t ht hW => ⟨_, rfl, (by unfold mPF; rw [if_pos rfl]; exact (((rp_pl hrp.2.1 hp01 (clp hbw0)).2 _ hp02).2.2 _ _ _ _ _ hs_11).1), ht⟩) (fun q h => absurd h List.not_mem_nil) dX11_plateFact_45
  ·
    rcases Classical.em (p2 = 1) with s_16 | s_16
    ·
      subst s_16
      refine lv_tableIn (tgt := 46) (off := 45) hx hb dX11_plateFact_1 (by decide) (by decide) (by decide) (by decide) ?_
      refine lv_aload_n hx hb dX11_plateFact_46 rfl (lv_at hl 0 rfl) ?_
      obtain ⟨kk_17, hk_18⟩ := pl_at hI.2.1.1.1 hI.2.2.2.1.1
      refine va_get (D := (dC, dI)) (ci := 10) (v := .ref (d 1)) (C := RX11) (T := TX11) (N := 9) hx hb hts (by decide +kernel) hown hK hP kk_17 hk_18 rfl 1 (by decide) (hts (.fieldLink RX11 15 "PageOne" "plates" "[LPageOne$Sheet;") (by decide +kernel)) (fun _ h9 => h9) rfl dX11_plateFact_47 ?_
      refine lv_iload_n hx hb dX11_plateFact_50 rfl (lv_at hl 1 rfl) ?_
      obtain ⟨kk_19, hk_20⟩ := pl_at hI.2.1.2.2.1.1 hp01
      refine va_aldq hx hb hK hP kk_19 2 hk_20 rfl (vin hbw0 (by decide)) dX11_plateFact_51 ?_
      rw [hp02]
      refine W.eq (g2 := F0 m 52 ls [.ref bp0]) rfl ?_
      obtain ⟨la_21, ca_22, m_23, dd_24, ii_25, hs_26, ht_27, ht_28⟩ := x_sh hI hp03
      obtain ⟨kk_29, hk_30⟩ := pl_at hp03.1 hs_26
      refine va_get (D := (dC, dI)) (ci := 8) (v := .int ii_25) (C := RX9) (T := TX9) (N := 5) hx hb hts (by decide +kernel) hown hK hP kk_29 hk_30 rfl 4 (by decide) (hts (.fieldLink RX11 213 "PageOne$Sheet" "edition" "I") (by decide +kernel)) (fun _ h9 => h9) rfl dX11_plateFact_52 ?_
      exact W.iret (v := ii_25) hx hb hr (fun t ht hW => ⟨_, rfl, (by unfold mPF; rw [if_neg (by decide), if_pos rfl]; exact (((rp_pl hrp.2.1 hp01 (clp hbw0)).2 _ hp02).2.2 _ _ _ _ _ hs_26).2.1), ht⟩) (fun q h => absurd h List.not_mem_nil) dX11_plateFact_55
    ·
      rcases Classical.em (p2 = 2) with s_31 | s_31
      ·
        subst s_31
        refine lv_tableIn (tgt := 56) (off := 55) hx hb dX11_plateFact_1 (by decide) (by decide) (by decide) (by decide) ?_
        refine lv_iload_n hx hb dX11_plateFact_56 rfl (lv_at hl 1 rfl) ?_
        exact W.iret (v := p0) hx hb hr (fun t ht hW => ⟨_, rfl, (by unfold mPF; rw [if_neg (by decide), if_neg (by decide), if_pos rfl]), ht⟩) (fun q h => absurd h List.not_mem_nil) dX11_plateFact_57
      ·
        rcases Classical.em (p2 = 3) with s_32 | s_32
        ·
          subst s_32
          refine lv_tableIn (tgt := 58) (off := 57) hx hb dX11_plateFact_1 (by decide) (by decide) (by decide) (by decide) ?_
          refine lv_iload_n hx hb dX11_plateFact_58 rfl (lv_at hl 2 rfl) ?_
          refine lv_bipush (v := 60) hx hb dX11_plateFact_59 (by decide) ?_
          refine lv_idiv hx hb dX11_plateFact_61 (by decide) ?_
          refine lv_topi (fun zr_33 ezr_33 => ?_)
          exact W.iret (v := zr_33) hx hb hr (fun t ht hW => ⟨_, rfl, (by unfold mPF; rw [if_neg (by decide), if_neg (by decide), if_neg (by decide), if_pos rfl]; exact ezr_33), ht⟩) (fun q h => absurd h List.not_mem_nil) dX11_plateFact_62
        ·
          rcases Classical.em (p2 = 4) with s_34 | s_34
          ·
            subst s_34
            refine lv_tableIn (tgt := 63) (off := 62) hx hb dX11_plateFact_1 (by decide) (by decide) (by decide) (by decide) ?_
            refine lv_iload_n hx hb dX11_plateFact_63 rfl (lv_at hl 2 rfl) ?_
            refine lv_bipush (v := 60) hx hb dX11_plateFact_64 (by decide) ?_
            refine lv_irem hx hb dX11_plateFact_66 (by decide) ?_
            refine lv_topi (fun zr_35 ezr_35 => ?_)
            exact W.iret (v := zr_35) hx hb hr (fun t ht hW => ⟨_, rfl, (by unfold mPF; rw [if_neg (by decide), if_neg (by decide), if_neg (by decide), if_neg (by decide), if_pos rfl]; exact ezr_35), ht⟩) (fun q h => absurd h List.not_mem_nil) dX11_plateFact_67
          ·
            refine lv_tableOut (tgt := 68) hx hb dX11_plateFact_1 (sw_out4 s_1 s_16 s_31 s_32 s_34) (by decide) ?_
            refine lv_iconst (v := (-1)) hx hb dX11_plateFact_68 (by decide) ?_
            exact W.iret (v := (-1)) hx hb hr (fun t ht hW => ⟨_, rfl, (by unfold mPF; rw [if_neg s_1, if_neg s_16, if_neg s_31, if_neg s_32, if_neg s_34]), ht⟩) (fun q h => absurd h List.not_mem_nil) dX11_plateFact_69
set_option maxHeartbeats 4000000 in
set_option maxRecDepth 100000 in
theorem y_first_l {p : Program} {l : Launch} {e : Env} {R : Room} {s : State} {m : MethodId} {args : Array Value} {below : List Frame} {meth : Method} {c : Code} {Q : State → Prop} {cells slots : Nat} {dC : Nat → ClassId} {dI : Nat → Nat → Nat} {q : Nat → ClassId} {h0 : Nat} {d : Nat → Nat} {k : Nat → Int32} {z : gS} {f : xF} {H : Heap} {locs : List Loc} (hI : xI q h0 d k z f) (hx : p.tables.exec = Jvm.exec) (hb : c.code = cX11_firstPrinting) (hml : c.maxLocals = 5) (hts : ∀ w ∈ wsX11_firstPrinting, w.before args s = true) (hown : s.vm.findClass RX11 = some m.cls) (hN : NN s) (hXN : XN s) (hK : va_K (dC, dI) vwCl (xT q) s) (hRf : 4 ≤ R.frames) (hRl : 87 ≤ R.locals) (hRc : cells ≤ R.cells) (hRs : slots ≤ R.slots) (hP : va_P (dC, dI) vwCl (va_pl z.1 f) H) {u : mS} (hrp : rep q d u z f) (hk0 : k 0 = u.1 3) (hk2 : k 2 = u.1 38) (hk3 : k 3 = u.1 39) (hpi : plI u) {i0 : Nat} (hi0 : i0 < (u.1 3).toNatClampNeg) {p0 : Int32} (kx84 : ∀ (ls : Array Slot), (∀ j, j < 12 → prC u (nI i0) j = false) → lv_has ls 5 [(0, .ref h0), (1, .ref (d (2000 + i0))), (2, .int p0)] → W p l e R s m args below meth c H locs cells slots Q (F0 m 84 ls [])) (kx69 : ∀ (i9 : Nat) (s9 : Int32) (ls : Array Slot), xPl q d z f (nI i9) → (i9 < 12 ∧ (∀ j, j < i9 → prC u (nI i0) j = false) ∧ frP u (nI i9) ∧ spR u i0 i9 s9) → lv_has ls 5 [(3, .int (nI i9)), (4, .int s9), (0, .ref h0), (1, .ref (d (2000 + i0))), (2, .int p0)] → W p l e R s m args below meth c H locs cells slots Q (F0 m 69 ls [])) : ∀ (kk i : Nat) (ls : Array Slot), i ≤ 12 → 12 - i < kk → (∀ j, j < i → prC u (nI i0) j = false) → lv_has ls 5 [(3, .int (nI i)), (0, .ref h0), (1, .ref (d (2000 + i0))), (2, .int p0)] → W p l e R s m args below meth c H locs cells slots Q (F0 m 30 ls []) := by
  intro kk
  induction kk with
  | zero => intro i ls h1 h2; exact absurd h2 (Nat.not_lt_zero _)
  | succ kk ih =>
    intro i ls hi hkk hg hl
    obtain ⟨rs_1, n_2, g_3, fg_4, hit_5, hs_6, hpa_7, hps_8, h1_9, h6_10, hcb_11, hpl_12, hlg_13, hnn_14, hfa_15, hfs_16, hfe_17, hrs_18, hkt_19⟩ := it_all hI hrp.2.2.1 hi0
    have hi8 : i0 < 80 := by have := w80i hI.1.1 hk0; omega
    refine lv_iload_n hx hb dX11_firstPrinting_30 rfl (lv_at hl 0 rfl) ?_
    refine lv_bipush (v := 12) hx hb dX11_firstPrinting_31 (by decide) ?_
    refine lv_icmp_ge (tgt := 84) hx hb dX11_firstPrinting_33 (by decide) (fun c_20 => ?_) (fun c_20 => ?_)
    ·
      have hie : i = 12 := lp_eq rfl (by decide) hi c_20
      exact kx84 ls (by rw [← hie]; exact hg) (lv_sub hl [1, 2, 3] rfl)
    ·
      have hlt : i < 12 := lp_lt rfl (by decide) hi c_20
      refine lv_aload_n hx hb dX11_firstPrinting_36 rfl (lv_at hl 1 rfl) ?_
      refine lv_iload_n hx hb dX11_firstPrinting_37 rfl (lv_at hl 0 rfl) ?_
      obtain ⟨kk_21, hk_22⟩ := pl_at hI.2.1.1.1 hI.2.2.2.1.1
      refine vp_callSi (va_runV (As := [.int (nI i)]) (rest := []) ⟨hx, hb, hml, hown, hts⟩ (y_isFresh l dC dI q h0 d k z f hI (nI i) u hrp hk2 hk3) (cwV 1 hts gX11_firstPrinting_X11_isFresh rfl rfl rfl (by decide +kernel) ⟨Nat.le_trans (Nat.le_of_ble_eq_true rfl) hRf, Nat.le_trans (Nat.le_of_ble_eq_true rfl) hRl⟩) ⟨px_fb, va_recv hK hP (ci := 10) (q0 := kk_21) rfl hk_22, fun U hU hW => ⟨rfl, px_to hU hW hP hK hN hXN⟩⟩ rfl rfl hl.1 rfl (lv_room (Nat.le_of_ble_eq_true rfl)) dX11_firstPrinting_38 ⟨hRc, hRs⟩).run (fun r hw => ?_)
      rcases hw with ⟨hw, hpp_29⟩ | ⟨hw, hpp_29, hbw_28, gp_23, bp_24, hp_25, hp_26, hp_27⟩
      ·
        subst hw
        refine lv_if_eq (tgt := 60) hx hb dX11_firstPrinting_41 (by decide) (fun c_30 => ?_) (fun c_30 => absurd (by decide) c_30)
        refine lv_iconst (v := (-1)) hx hb dX11_firstPrinting_60 (by decide) ?_
        refine lv_istore (lv' := [(4, .int (-1)), (3, .int (nI i)), (0, .ref h0), (1, .ref (d (2000 + i0))), (2, .int p0)]) hx hb dX11_firstPrinting_61 hl (by decide) rfl (fun ls hl => ?_)
        refine lv_iload hx hb dX11_firstPrinting_63 (lv_at hl 0 rfl) ?_
        refine lv_iconst (v := (-1)) hx hb dX11_firstPrinting_65 (by decide) ?_
        refine lv_icmp_eq (tgt := 78) hx hb dX11_firstPrinting_66 (by decide) (fun c_31 => ?_) (fun c_31 => absurd (by decide) c_31)
        refine lv_iinc (v := (nI (i + 1))) (lv' := [(3, .int (nI (i + 1))), (4, .int (-1)), (0, .ref h0), (1, .ref (d (2000 + i0))), (2, .int p0)]) hx hb dX11_firstPrinting_78 hl (k := 1) rfl (nI_1 i) (by decide) rfl (fun ls hl => ?_)
        refine lv_goto (tgt := 30) hx hb dX11_firstPrinting_81 (by decide) ?_
        exact ih (i + 1) ls (by omega) (by omega) (fun j hj => by rcases Nat.lt_succ_iff_lt_or_eq.mp hj with h9 | h9; exact hg j h9; rw [h9]; exact prC_f hlt hi8 (Or.inl (fun h => hpp_29 ((frP_now (bw11 hlt) (rp_01 hrp.2.1 _ (by rw [nI_clamp (by omega)]; exact hlt))).mpr h)))) (lv_sub hl [0, 2, 3, 4] rfl)
      ·
        subst hw
        refine lv_if_eq (tgt := 60) hx hb dX11_firstPrinting_41 (by decide) (fun c_32 => absurd c_32 (by decide)) (fun c_32 => ?_)
        refine lv_aload_n hx hb dX11_firstPrinting_44 rfl (lv_at hl 1 rfl) ?_
        obtain ⟨kk_33, hk_34⟩ := pl_at hI.2.1.1.1 hI.2.2.2.1.1
        refine va_get (D := (dC, dI)) (ci := 10) (v := .ref (d 1)) (C := RX11) (T := TX11) (N := 9) hx hb hts (by decide +kernel) hown hK hP kk_33 hk_34 rfl 1 (by decide) (hts (.fieldLink RX11 15 "PageOne" "plates" "[LPageOne$Sheet;") (by decide +kernel)) (fun _ h9 => h9) rfl dX11_firstPrinting_45 ?_
        refine lv_iload_n hx hb dX11_firstPrinting_48 rfl (lv_at hl 0 rfl) ?_
        obtain ⟨kk_35, hk_36⟩ := pl_at hI.2.1.2.2.1.1 hp_25
        refine va_aldq hx hb hK hP kk_35 2 hk_36 rfl (vin hbw_28 (by decide)) dX11_firstPrinting_49 ?_
        rw [hp_26]
        refine W.eq (g2 := F0 m 50 ls [.ref bp_24]) rfl ?_
        refine lv_aload_n hx hb dX11_firstPrinting_50 rfl (lv_at hl 2 rfl) ?_
        obtain ⟨kk_37, hk_38⟩ := pl_at hit_5.1 hs_6
        refine w_then (F0 m 54 ls [.int (nI i0), .ref bp_24]) (fun hgo => ?_) ?_
        ·
          rcases x_tag hit_5 with ht9 | ht9 | ht9 | ht9 | ht9 | ht9
          ·
            rw [ht9.2] at hk_38
            exact va_get (D := (dC, dI)) (ci := 2) (v := .int (nI i0)) (C := RX2) (T := TX2) (N := 7) hx hb hts (by decide +kernel) hown hK hP kk_37 hk_38 rfl 0 (by decide) (hts (.fieldLink RX11 285 "PageOne$Item" "number" "I") (by decide +kernel)) (fun _ h9 => h9) rfl dX11_firstPrinting_51 hgo
          ·
            rw [ht9.2] at hk_38
            exact va_get (D := (dC, dI)) (ci := 3) (v := .int (nI i0)) (C := RX3) (T := TX3) (N := 8) hx hb hts (by decide +kernel) hown hK hP kk_37 hk_38 rfl 0 (by decide) (hts (.fieldLink RX11 285 "PageOne$Item" "number" "I") (by decide +kernel)) (fun _ h9 => h9) rfl dX11_firstPrinting_51 hgo
          ·
            rw [ht9.2] at hk_38
            exact va_get (D := (dC, dI)) (ci := 4) (v := .int (nI i0)) (C := RX5) (T := TX5) (N := 7) hx hb hts (by decide +kernel) hown hK hP kk_37 hk_38 rfl 0 (by decide) (hts (.fieldLink RX11 285 "PageOne$Item" "number" "I") (by decide +kernel)) (fun _ h9 => h9) rfl dX11_firstPrinting_51 hgo
          ·
            rw [ht9.2] at hk_38
            exact va_get (D := (dC, dI)) (ci := 5) (v := .int (nI i0)) (C := RX6) (T := TX6) (N := 9) hx hb hts (by decide +kernel) hown hK hP kk_37 hk_38 rfl 0 (by decide) (hts (.fieldLink RX11 285 "PageOne$Item" "number" "I") (by decide +kernel)) (fun _ h9 => h9) rfl dX11_firstPrinting_51 hgo
          ·
            rw [ht9.2] at hk_38
            exact va_get (D := (dC, dI)) (ci := 6) (v := .int (nI i0)) (C := RX7) (T := TX7) (N := 8) hx hb hts (by decide +kernel) hown hK hP kk_37 hk_38 rfl 0 (by decide) (hts (.fieldLink RX11 285 "PageOne$Item" "number" "I") (by decide +kernel)) (fun _ h9 => h9) rfl dX11_firstPrinting_51 hgo
          ·
            rw [ht9.2] at hk_38
            exact va_get (D := (dC, dI)) (ci := 9) (v := .int (nI i0)) (C := RX10) (T := TX10) (N := 9) hx hb hts (by decide +kernel) hown hK hP kk_37 hk_38 rfl 0 (by decide) (hts (.fieldLink RX11 285 "PageOne$Item" "number" "I") (by decide +kernel)) (fun _ h9 => h9) rfl dX11_firstPrinting_51 hgo
        ·
          obtain ⟨la_39, ca_40, m_41, dd_42, ii_43, hs_44, ht_45, ht_46⟩ := x_sh hI hp_27
          obtain ⟨g_47, hs_48, hg_49⟩ := x_ln hI ht_45
          obtain ⟨g_50, hs_51⟩ := x_ce hI ht_46
          obtain ⟨kk_52, hk_53⟩ := pl_at hp_27.1 hs_44
          refine vp_callSi (va_runV (As := [.int (nI i0)]) (rest := []) ⟨hx, hb, hml, hown, hts⟩ (y_spotOf l dC dI q h0 d k z f hI bp_24 la_39 ca_40 m_41 dd_42 ii_43 g_47 g_50 hp_27 hs_44 ht_45 ht_46 hs_48 hg_49 hs_51 (nI i0)) (cwV 1 hts gX11_firstPrinting_X9_spotOf rfl rfl rfl (by decide +kernel) ⟨Nat.le_trans (Nat.le_of_ble_eq_true rfl) hRf, Nat.le_trans (Nat.le_of_ble_eq_true rfl) hRl⟩) ⟨px_fb, va_recv hK hP (ci := 8) (q0 := kk_52) rfl hk_53, fun U hU hW => ⟨rfl, px_to hU hW hP hK hN hXN⟩⟩ rfl rfl hl.1 rfl (lv_room (Nat.le_of_ble_eq_true rfl)) dX11_firstPrinting_54 ⟨hRc, hRs⟩).run (fun r hw => ?_)
          generalize r = zr_54 at hw ⊢
          have hzr_54 := hw
          refine lv_goto (tgt := 61) hx hb dX11_firstPrinting_57 (by decide) ?_
          refine lv_istore (lv' := [(4, .int zr_54), (3, .int (nI i)), (0, .ref h0), (1, .ref (d (2000 + i0))), (2, .int p0)]) hx hb dX11_firstPrinting_61 hl (by decide) rfl (fun ls hl => ?_)
          refine lv_iload hx hb dX11_firstPrinting_63 (lv_at hl 0 rfl) ?_
          refine lv_iconst (v := (-1)) hx hb dX11_firstPrinting_65 (by decide) ?_
          refine lv_icmp_eq (tgt := 78) hx hb dX11_firstPrinting_66 (by decide) (fun c_55 => ?_) (fun c_55 => ?_)
          ·
            refine lv_iinc (v := (nI (i + 1))) (lv' := [(3, .int (nI (i + 1))), (4, .int zr_54), (0, .ref h0), (1, .ref (d (2000 + i0))), (2, .int p0)]) hx hb dX11_firstPrinting_78 hl (k := 1) rfl (nI_1 i) (by decide) rfl (fun ls hl => ?_)
            refine lv_goto (tgt := 30) hx hb dX11_firstPrinting_81 (by decide) ?_
            exact ih (i + 1) ls (by omega) (by omega) (fun j hj => by rcases Nat.lt_succ_iff_lt_or_eq.mp hj with h9 | h9; exact hg j h9; rw [h9]; exact prC_f hlt hi8 (Or.inr (by rcases (by have hq9 := ((rp_pl hrp.2.1 hp_25 (clp hbw_28)).2 _ hp_26).2.2 _ _ _ _ _ hs_44; have h40 := hpp_29.1.2; rw [nI_clamp (by omega)] at hq9 h40; exact sp_val hlt hpi h40 hi8 (hq9.2.2.1 _ hs_48) (hq9.2.2.2 _ hs_51) hg_49 hzr_54 : (zr_54 = -1 ∧ u.2 45 (80 * i + i0) = (-1)) ∨ (¬ zr_54 = -1 ∧ spR u i0 i zr_54)) with h8 | h8; exact h8.2; exact absurd c_55 h8.1))) (lv_sub hl [0, 2, 3, 4] rfl)
          ·
            exact kx69 _ _ ls ⟨hbw_28, gp_23, bp_24, hp_25, hp_26, hp_27⟩ ⟨hlt, hg, hpp_29, by rcases (by have hq9 := ((rp_pl hrp.2.1 hp_25 (clp hbw_28)).2 _ hp_26).2.2 _ _ _ _ _ hs_44; have h40 := hpp_29.1.2; rw [nI_clamp (by omega)] at hq9 h40; exact sp_val hlt hpi h40 hi8 (hq9.2.2.1 _ hs_48) (hq9.2.2.2 _ hs_51) hg_49 hzr_54 : (zr_54 = -1 ∧ u.2 45 (80 * i + i0) = (-1)) ∨ (¬ zr_54 = -1 ∧ spR u i0 i zr_54)) with h8 | h8; exact absurd h8.1 c_55; exact h8.2⟩ (lv_sub hl [1, 0, 2, 3, 4] rfl)
theorem e5 {i : Nat} (hi : i < 80) : (5 * nI i).toNatClampNeg = 5 * i := by rw [show (5 : Int32) = nI 5 from rfl, pk_mul, nI_clamp (by omega)]
theorem e5w {i : Nat} {w : Int32} (hi : i < 80) (hw : bw w 0 4 = true) : (5 * nI i + w).toNatClampNeg = 5 * i + w.toNatClampNeg ∧ w.toNatClampNeg < 5 := by
  obtain ⟨W, hW, -, e⟩ := exN hw (by decide)
  have h4 : (4 : Int32).toInt = 4 := rfl
  subst e
  rw [show (5 : Int32) = nI 5 from rfl, pk_mul, nI_add, nI_clamp (by omega), nI_clamp (by omega)]
  exact ⟨rfl, by omega⟩
theorem fi_n {u : mS} {i : Nat} (h : fiI u) (hi : i < 80) : (u.2 47 (5 * i) = (-1) → u.2 47 (5 * nI i).toNatClampNeg < 0) ∧ (¬ u.2 47 (5 * i) = (-1) → ¬ u.2 47 (5 * nI i).toNatClampNeg < 0) := by
  rw [e5 hi]
  refine ⟨fun e => by rw [e]; decide, fun n x => ?_⟩
  have h1 := h i hi
  rw [i32_lt] at h1 x
  have m1 : (-1 : Int32).toInt = -1 := rfl
  rw [i0] at x
  exact n (Int32.toInt_inj.mp (by omega))
set_option maxHeartbeats 4000000 in
set_option maxRecDepth 100000 in
theorem y_firstPrinting (l : Launch) (dC : Nat → ClassId) (dI : Nat → Nat → Nat) (q : Nat → ClassId) (h0 : Nat) (d : Nat → Nat) (k : Nat → Int32) (z : gS) (f : xF) (hI : xI q h0 d k z f) (p0 : Int32) (u : mS) (hrp : rep q d u z f) (hk0 : k 0 = u.1 3) (hk1 : k 1 = u.1 28) (hk2 : k 2 = u.1 38) (hk3 : k 3 = u.1 39) (hpi : plI u) (hfi : fiI u) (i0 : Nat) (hi0 : i0 < (u.1 3).toNatClampNeg) : Met l yX11_firstPrinting wsX11_firstPrinting ({ frames := 4, cells := 0, slots := 0, locals := 87 }) (va_Pc [.ref h0, .ref (d (2000 + i0)), .int p0] (PX dC dI (va_pl z.1 f) (xT q))) (vp_Si (fun r => mPrR u (nI i0) p0 r)) 0 0 (fun _ => False) := by
  refine Met.ofW (cc := cX11_firstPrinting) (maxL := 5) (ret := (some .int)) (by decide) rfl ?_
  intro p e s m args below meth c s₁ B hml hv
  obtain ⟨rfl, ⟨hP, hK, hN⟩, hXN⟩ := hv
  have hx := B.exec
  have hb := B.bytes
  have hr := B.returns
  have hts := atoms_spec (ws := wsX11_firstPrinting) B.pre
  have hown : s.vm.findClass RX11 = some m.cls := findClass_of_methodNamed B.named
  have hlocks := B.notSynchronized
  have hl := lv_entry ([.ref h0, .ref (d (2000 + i0)), .int p0]) (n := 5) (Nat.le_of_ble_eq_true rfl)
  rw [lg_entry_eq]
  generalize (lg_sl ([.ref h0, .ref (d (2000 + i0)), .int p0]) ++ List.replicate (5 - (lg_sl ([.ref h0, .ref (d (2000 + i0)), .int p0])).length) Slot.unset).toArray = ls at hl ⊢
  have hl : lv_has ls 5 [(0, .ref h0), (1, .ref (d (2000 + i0))), (2, .int p0)] := hl
  obtain ⟨rs_1, n_2, g_3, fg_4, hit_5, hs_6, hpa_7, hps_8, h1_9, h6_10, hcb_11, hpl_12, hlg_13, hnn_14, hfa_15, hfs_16, hfe_17, hrs_18, hkt_19⟩ := it_all hI hrp.2.2.1 hi0
  have hi8 : i0 < 80 := by have := w80i hI.1.1 hk0; omega
  refine lv_iload_n hx hb dX11_firstPrinting_0 rfl (lv_at hl 2 rfl) ?_
  refine lv_iconst (v := 0) hx hb dX11_firstPrinting_1 (by decide) ?_
  refine lv_iconst (v := 4) hx hb dX11_firstPrinting_2 (by decide) ?_
  refine vp_callSi (va_runS (As := [.int p0, .int 0, .int 4]) (rest := []) ⟨hx, hb, hml, hown, hts⟩ (x_isWithin l dC dI p0 0 4) (va_cwS 3 hts gX11_firstPrinting_X11_isWithin rfl rfl rfl (by decide +kernel) ⟨Nat.le_of_ble_eq_true rfl, Nat.le_of_ble_eq_true rfl⟩) ⟨pw_fb, fun U hU hW => ⟨rfl, pw_to hU hW (hP.sub (ws' := []) [] rfl) (hK.sub (tys' := []) [] rfl) hN⟩⟩ rfl rfl hl.1 rfl (lv_room (Nat.le_of_ble_eq_true rfl)) dX11_firstPrinting_3 ⟨Nat.le_of_ble_eq_true rfl, Nat.le_of_ble_eq_true rfl⟩).run (fun r hw => ?_)
  rcases Bool.eq_false_or_eq_true (bw p0 0 4) with b_20 | b_20
  ·
    obtain rfl : r = 1 := b_t hw b_20
    refine lv_if_ne (tgt := 11) hx hb dX11_firstPrinting_6 (by decide) (fun c_21 => ?_) (fun c_21 => absurd c_21 (by decide))
    refine lv_aload_n hx hb dX11_firstPrinting_11 rfl (lv_at hl 1 rfl) ?_
    obtain ⟨kk_22, hk_23⟩ := pl_at hit_5.1 hs_6
    refine w_then (F0 m 15 ls [.ref (d (4000 + i0))]) (fun hgo => ?_) ?_
    ·
      rcases x_tag hit_5 with ht9 | ht9 | ht9 | ht9 | ht9 | ht9
      ·
        rw [ht9.2] at hk_23
        exact va_get (D := (dC, dI)) (ci := 2) (v := .ref (d (4000 + i0))) (C := RX2) (T := TX2) (N := 7) hx hb hts (by decide +kernel) hown hK hP kk_22 hk_23 rfl 4 (by decide) (hts (.fieldLink RX11 382 "PageOne$Item" "first" "[I") (by decide +kernel)) (fun _ h9 => h9) rfl dX11_firstPrinting_12 hgo
      ·
        rw [ht9.2] at hk_23
        exact va_get (D := (dC, dI)) (ci := 3) (v := .ref (d (4000 + i0))) (C := RX3) (T := TX3) (N := 8) hx hb hts (by decide +kernel) hown hK hP kk_22 hk_23 rfl 4 (by decide) (hts (.fieldLink RX11 382 "PageOne$Item" "first" "[I") (by decide +kernel)) (fun _ h9 => h9) rfl dX11_firstPrinting_12 hgo
      ·
        rw [ht9.2] at hk_23
        exact va_get (D := (dC, dI)) (ci := 4) (v := .ref (d (4000 + i0))) (C := RX5) (T := TX5) (N := 7) hx hb hts (by decide +kernel) hown hK hP kk_22 hk_23 rfl 4 (by decide) (hts (.fieldLink RX11 382 "PageOne$Item" "first" "[I") (by decide +kernel)) (fun _ h9 => h9) rfl dX11_firstPrinting_12 hgo
      ·
        rw [ht9.2] at hk_23
        exact va_get (D := (dC, dI)) (ci := 5) (v := .ref (d (4000 + i0))) (C := RX6) (T := TX6) (N := 9) hx hb hts (by decide +kernel) hown hK hP kk_22 hk_23 rfl 4 (by decide) (hts (.fieldLink RX11 382 "PageOne$Item" "first" "[I") (by decide +kernel)) (fun _ h9 => h9) rfl dX11_firstPrinting_12 hgo
      ·
        rw [ht9.2] at hk_23
        exact va_get (D := (dC, dI)) (ci := 6) (v := .ref (d (4000 + i0))) (C := RX7) (T := TX7) (N := 8) hx hb hts (by decide +kernel) hown hK hP kk_22 hk_23 rfl 4 (by decide) (hts (.fieldLink RX11 382 "PageOne$Item" "first" "[I") (by decide +kernel)) (fun _ h9 => h9) rfl dX11_firstPrinting_12 hgo
      ·
        rw [ht9.2] at hk_23
        exact va_get (D := (dC, dI)) (ci := 9) (v := .ref (d (4000 + i0))) (C := RX10) (T := TX10) (N := 9) hx hb hts (by decide +kernel) hown hK hP kk_22 hk_23 rfl 4 (by decide) (hts (.fieldLink RX11 382 "PageOne$Item" "first" "[I") (by decide +kernel)) (fun _ h9 => h9) rfl dX11_firstPrinting_12 hgo
    ·
      refine lv_iconst (v := 0) hx hb dX11_firstPrinting_15 (by decide) ?_
      obtain ⟨kk_24, hk_25⟩ := pl_at hfa_15.1 hfs_16
      refine va_iald hx hb hK hP kk_24 0 hk_25 rfl (by unfold vp_in; decide) dX11_firstPrinting_16 ?_
      refine lv_iconst (v := (-1)) hx hb dX11_firstPrinting_17 (by decide) ?_
      refine lv_icmp_eq (tgt := 28) hx hb dX11_firstPrinting_18 (by decide) (fun c_26 => ?_) (fun c_26 => ?_)
      ·
        refine lv_iconst (v := 0) hx hb dX11_firstPrinting_28 (by decide) ?_
        refine lv_istore_n (lv' := [(3, .int 0), (0, .ref h0), (1, .ref (d (2000 + i0))), (2, .int p0)]) hx hb dX11_firstPrinting_29 rfl hl (by decide) rfl (fun ls hl => ?_)
        refine y_first_l hI hx hb hml hts hown hN hXN hK (Nat.le_of_ble_eq_true rfl) (Nat.le_of_ble_eq_true rfl) (Nat.le_of_ble_eq_true rfl) (Nat.le_of_ble_eq_true rfl) hP hrp hk0 hk2 hk3 hpi hi0 (fun ls hno hl => ?_) (fun i9 s9 ls hpl hye hl => ?_) 13 0 ls (by decide) (by decide) (fun j hj => absurd hj (Nat.not_lt_zero _)) (lv_sub hl [0, 1, 2, 3] rfl)
        ·
          refine lv_iconst (v := (-1)) hx hb dX11_firstPrinting_84 (by decide) ?_
          exact W.iret (v := (-1)) hx hb hr (fun t ht hW => ⟨_, rfl, (by show mPrR u (nI i0) p0 _; unfold mPrR; rw [if_pos (bw_it (by rw [← hk0]; exact hI.1.1) hi0).1, if_pos b_20, if_pos ((fi_n hfi hi8).1 ((hfe_17 0 (by decide)).symm.trans c_26))]; exact Or.inr ⟨hno, rfl⟩), ht⟩) (fun q h => absurd h List.not_mem_nil) dX11_firstPrinting_85
        ·
          obtain ⟨hbw0, gp0, bp0, hp01, hp02, hp03⟩ := hpl
          refine lv_aload_n hx hb dX11_firstPrinting_69 rfl (lv_at hl 2 rfl) ?_
          refine lv_iload_n hx hb dX11_firstPrinting_70 rfl (lv_at hl 0 rfl) ?_
          refine lv_iload hx hb dX11_firstPrinting_71 (lv_at hl 1 rfl) ?_
          refine lv_iload_n hx hb dX11_firstPrinting_73 rfl (lv_at hl 4 rfl) ?_
          obtain ⟨kk_27, hk_28⟩ := pl_at hI.2.1.1.1 hI.2.2.2.1.1
          refine vp_callSi (va_runV (As := [.int (nI i9), .int s9, .int p0]) (rest := []) ⟨hx, hb, hml, hown, hts⟩ (y_plateFact l dC dI q h0 d k z f hI (nI i9) s9 p0 ⟨hbw0, gp0, bp0, hp01, hp02, hp03⟩ u hrp) (cwV 3 hts gX11_firstPrinting_X11_plateFact rfl rfl rfl (by decide +kernel) ⟨Nat.le_of_ble_eq_true rfl, Nat.le_of_ble_eq_true rfl⟩) ⟨px_fb, va_recv hK hP (ci := 10) (q0 := kk_27) rfl hk_28, fun U hU hW => ⟨rfl, px_to hU hW hP hK hN hXN⟩⟩ rfl rfl hl.1 rfl (lv_room (Nat.le_of_ble_eq_true rfl)) dX11_firstPrinting_74 ⟨Nat.le_of_ble_eq_true rfl, Nat.le_of_ble_eq_true rfl⟩).run (fun r hw => ?_)
          generalize r = zr_29 at hw ⊢
          have hzr_29 := hw
          exact W.iret (v := zr_29) hx hb hr (fun t ht hW => ⟨_, rfl, (by show mPrR u (nI i0) p0 _; unfold mPrR; rw [if_pos (bw_it (by rw [← hk0]; exact hI.1.1) hi0).1, if_pos b_20, if_pos ((fi_n hfi hi8).1 ((hfe_17 0 (by decide)).symm.trans c_26))]; exact Or.inl ⟨i9, hye.1, prC_t hye.1 hi8 ((frP_now (bw11 hye.1) (rp_01 hrp.2.1 _ (by rw [nI_clamp (by omega)]; exact hye.1))).mp hye.2.2.1) hye.2.2.2, hye.2.1, hzr_29.trans (mPF_v hye.1 hi8 hye.2.2.1 hye.2.2.2 b_20)⟩), ht⟩) (fun q h => absurd h List.not_mem_nil) dX11_firstPrinting_77
      ·
        refine lv_aload_n hx hb dX11_firstPrinting_21 rfl (lv_at hl 1 rfl) ?_
        obtain ⟨kk_30, hk_31⟩ := pl_at hit_5.1 hs_6
        refine w_then (F0 m 25 ls [.ref (d (4000 + i0))]) (fun hgo => ?_) ?_
        ·
          rcases x_tag hit_5 with ht9 | ht9 | ht9 | ht9 | ht9 | ht9
          ·
            rw [ht9.2] at hk_31
            exact va_get (D := (dC, dI)) (ci := 2) (v := .ref (d (4000 + i0))) (C := RX2) (T := TX2) (N := 7) hx hb hts (by decide +kernel) hown hK hP kk_30 hk_31 rfl 4 (by decide) (hts (.fieldLink RX11 382 "PageOne$Item" "first" "[I") (by decide +kernel)) (fun _ h9 => h9) rfl dX11_firstPrinting_22 hgo
          ·
            rw [ht9.2] at hk_31
            exact va_get (D := (dC, dI)) (ci := 3) (v := .ref (d (4000 + i0))) (C := RX3) (T := TX3) (N := 8) hx hb hts (by decide +kernel) hown hK hP kk_30 hk_31 rfl 4 (by decide) (hts (.fieldLink RX11 382 "PageOne$Item" "first" "[I") (by decide +kernel)) (fun _ h9 => h9) rfl dX11_firstPrinting_22 hgo
          ·
            rw [ht9.2] at hk_31
            exact va_get (D := (dC, dI)) (ci := 4) (v := .ref (d (4000 + i0))) (C := RX5) (T := TX5) (N := 7) hx hb hts (by decide +kernel) hown hK hP kk_30 hk_31 rfl 4 (by decide) (hts (.fieldLink RX11 382 "PageOne$Item" "first" "[I") (by decide +kernel)) (fun _ h9 => h9) rfl dX11_firstPrinting_22 hgo
          ·
            rw [ht9.2] at hk_31
            exact va_get (D := (dC, dI)) (ci := 5) (v := .ref (d (4000 + i0))) (C := RX6) (T := TX6) (N := 9) hx hb hts (by decide +kernel) hown hK hP kk_30 hk_31 rfl 4 (by decide) (hts (.fieldLink RX11 382 "PageOne$Item" "first" "[I") (by decide +kernel)) (fun _ h9 => h9) rfl dX11_firstPrinting_22 hgo
          ·
            rw [ht9.2] at hk_31
            exact va_get (D := (dC, dI)) (ci := 6) (v := .ref (d (4000 + i0))) (C := RX7) (T := TX7) (N := 8) hx hb hts (by decide +kernel) hown hK hP kk_30 hk_31 rfl 4 (by decide) (hts (.fieldLink RX11 382 "PageOne$Item" "first" "[I") (by decide +kernel)) (fun _ h9 => h9) rfl dX11_firstPrinting_22 hgo
          ·
            rw [ht9.2] at hk_31
            exact va_get (D := (dC, dI)) (ci := 9) (v := .ref (d (4000 + i0))) (C := RX10) (T := TX10) (N := 9) hx hb hts (by decide +kernel) hown hK hP kk_30 hk_31 rfl 4 (by decide) (hts (.fieldLink RX11 382 "PageOne$Item" "first" "[I") (by decide +kernel)) (fun _ h9 => h9) rfl dX11_firstPrinting_22 hgo
        ·
          refine lv_iload_n hx hb dX11_firstPrinting_25 rfl (lv_at hl 2 rfl) ?_
          obtain ⟨kk_32, hk_33⟩ := pl_at hfa_15.1 hfs_16
          refine va_iald hx hb hK hP kk_32 0 hk_33 rfl (vin b_20 (by decide)) dX11_firstPrinting_26 ?_
          exact W.iret (v := (fg_4 (p0 : Int32).toNatClampNeg)) hx hb hr (fun t ht hW => ⟨_, rfl, (by show mPrR u (nI i0) p0 _; unfold mPrR; rw [if_pos (bw_it (by rw [← hk0]; exact hI.1.1) hi0).1, if_pos b_20, if_neg ((fi_n hfi hi8).2 (fun e9 => c_26 ((hfe_17 0 (by decide)).trans e9)))]; rw [(e5w hi8 b_20).1]; exact hfe_17 _ (e5w hi8 b_20).2), ht⟩) (fun q h => absurd h List.not_mem_nil) dX11_firstPrinting_27
  ·
    obtain rfl : r = 0 := b_f hw b_20
    refine lv_if_ne (tgt := 11) hx hb dX11_firstPrinting_6 (by decide) (fun c_34 => absurd (by decide) c_34) (fun c_34 => ?_)
    refine lv_iconst (v := (-1)) hx hb dX11_firstPrinting_9 (by decide) ?_
    exact W.iret (v := (-1)) hx hb hr (fun t ht hW => ⟨_, rfl, (by show mPrR u (nI i0) p0 _; unfold mPrR; rw [if_pos (bw_it (by rw [← hk0]; exact hI.1.1) hi0).1, if_neg (bne b_20)]), ht⟩) (fun q h => absurd h List.not_mem_nil) dX11_firstPrinting_10
set_option maxHeartbeats 4000000 in
set_option maxRecDepth 100000 in
theorem y_printed (l : Launch) (dC : Nat → ClassId) (dI : Nat → Nat → Nat) (q : Nat → ClassId) (h0 : Nat) (d : Nat → Nat) (k : Nat → Int32) (z : gS) (f : xF) (hI : xI q h0 d k z f) (p0 p1 : Int32) (u : mS) (hrp : rep q d u z f) (hk0 : k 0 = u.1 3) (hk1 : k 1 = u.1 28) (hk2 : k 2 = u.1 38) (hk3 : k 3 = u.1 39) (hpi : plI u) (hfi : fiI u) : Met l yX11_printed wsX11_printed ({ frames := 5, cells := 0, slots := 0, locals := 111 }) (va_Pc [.ref h0, .int p0, .int p1] (PX dC dI (va_pl z.1 f) (xT q))) (vp_Si (fun r => r = mPr u p0 p1)) 0 0 (fun _ => False) := by
  refine Met.ofW (cc := cX11_printed) (maxL := 4) (ret := (some .int)) (by decide) rfl ?_
  intro p e s m args below meth c s₁ B hml hv
  obtain ⟨rfl, ⟨hP, hK, hN⟩, hXN⟩ := hv
  have hx := B.exec
  have hb := B.bytes
  have hr := B.returns
  have hts := atoms_spec (ws := wsX11_printed) B.pre
  have hown : s.vm.findClass RX11 = some m.cls := findClass_of_methodNamed B.named
  have hlocks := B.notSynchronized
  have hl := lv_entry ([.ref h0, .int p0, .int p1]) (n := 4) (Nat.le_of_ble_eq_true rfl)
  rw [lg_entry_eq]
  generalize (lg_sl ([.ref h0, .int p0, .int p1]) ++ List.replicate (4 - (lg_sl ([.ref h0, .int p0, .int p1])).length) Slot.unset).toArray = ls at hl ⊢
  have hl : lv_has ls 4 [(0, .ref h0), (1, .int p0), (2, .int p1)] := hl
  refine lv_aload_n hx hb dX11_printed_0 rfl (lv_at hl 0 rfl) ?_
  refine lv_iload_n hx hb dX11_printed_1 rfl (lv_at hl 1 rfl) ?_
  obtain ⟨kk_1, hk_2⟩ := pl_at hI.2.1.1.1 hI.2.2.2.1.1
  refine va_csq (va_runV (As := [.int p0]) (rest := []) ⟨hx, hb, hml, hown, hts⟩ (y_itemOf l dC dI q h0 d k z f hI p0 u hrp hk0 hk1 hk2 hk3) (cwV 1 hts gX11_printed_X11_itemOf rfl rfl rfl (by decide +kernel) ⟨Nat.le_of_ble_eq_true rfl, Nat.le_of_ble_eq_true rfl⟩) ⟨px_fb, va_recv hK hP (ci := 10) (q0 := kk_1) rfl hk_2, fun U hU hW => ⟨rfl, px_to hU hW hP hK hN hXN⟩⟩ rfl rfl hl.1 rfl (lv_room (Nat.le_of_ble_eq_true rfl)) dX11_printed_2 ⟨Nat.le_of_ble_eq_true rfl, Nat.le_of_ble_eq_true rfl⟩).run (fun r hw => ?_)
  rcases hw with ⟨hr9, hn9⟩ | ⟨i_3, hi_4, ep_5, hr9⟩
  ·
    subst hr9
    have hno_25 := hn9
    refine W.eq (g2 := F0 m 5 ls [.null]) rfl ?_
    refine lv_astore_nN (lv' := [(3, .null), (0, .ref h0), (1, .int p0), (2, .int p1)]) hx hb dX11_printed_5 rfl hl (by decide) rfl (fun ls hl => ?_)
    refine lv_aload_nN hx hb dX11_printed_6 rfl (lv_at hl 0 rfl) ?_
    refine lv_ifnonnullN hx hb dX11_printed_7 ?_
    refine lv_iconst (v := (-1)) hx hb dX11_printed_10 (by decide) ?_
    refine lv_goto (tgt := 20) hx hb dX11_printed_11 (by decide) ?_
    exact W.iret (v := (-1)) hx hb hr (fun t ht hW => ⟨_, rfl, (mPr_eq (by unfold mPrR; rw [if_neg hno_25])), ht⟩) (fun q h => absurd h List.not_mem_nil) dX11_printed_20
  ·
    subst hr9
    obtain ⟨rs_6, n_7, g_8, fg_9, hit_10, hs_11, hpa_12, hps_13, h1_14, h6_15, hcb_16, hpl_17, hlg_18, hnn_19, hfa_20, hfs_21, hfe_22, hrs_23, hkt_24⟩ := it_all hI hrp.2.2.1 hi_4
    refine W.eq (g2 := F0 m 5 ls [.ref (d (2000 + i_3))]) rfl ?_
    refine lv_astore_n (lv' := [(3, .ref (d (2000 + i_3))), (0, .ref h0), (1, .int p0), (2, .int p1)]) hx hb dX11_printed_5 rfl hl (by decide) rfl (fun ls hl => ?_)
    refine lv_aload_n hx hb dX11_printed_6 rfl (lv_at hl 0 rfl) ?_
    refine lv_ifnonnull (tgt := 14) hx hb dX11_printed_7 (by decide) ?_
    refine lv_aload_n hx hb dX11_printed_14 rfl (lv_at hl 1 rfl) ?_
    refine lv_aload_n hx hb dX11_printed_15 rfl (lv_at hl 0 rfl) ?_
    refine lv_iload_n hx hb dX11_printed_16 rfl (lv_at hl 3 rfl) ?_
    obtain ⟨kk_26, hk_27⟩ := pl_at hI.2.1.1.1 hI.2.2.2.1.1
    refine vp_callSi (va_runV (As := [.ref (d (2000 + i_3)), .int p1]) (rest := []) ⟨hx, hb, hml, hown, hts⟩ (y_firstPrinting l dC dI q h0 d k z f hI p1 u hrp hk0 hk1 hk2 hk3 hpi hfi i_3 hi_4) (cwV 2 hts gX11_printed_X11_firstPrinting rfl rfl rfl (by decide +kernel) ⟨Nat.le_of_ble_eq_true rfl, Nat.le_of_ble_eq_true rfl⟩) ⟨px_fb, va_recv hK hP (ci := 10) (q0 := kk_26) rfl hk_27, fun U hU hW => ⟨rfl, px_to hU hW hP hK hN hXN⟩⟩ rfl rfl hl.1 rfl (lv_room (Nat.le_of_ble_eq_true rfl)) dX11_printed_17 ⟨Nat.le_of_ble_eq_true rfl, Nat.le_of_ble_eq_true rfl⟩).run (fun r hw => ?_)
    generalize r = zr_28 at hw ⊢
    have hzr_28 := hw
    exact W.iret (v := zr_28) hx hb hr (fun t ht hW => ⟨_, rfl, (mPr_eq (by rw [ep_5]; exact hzr_28)), ht⟩) (fun q h => absurd h List.not_mem_nil) dX11_printed_20
