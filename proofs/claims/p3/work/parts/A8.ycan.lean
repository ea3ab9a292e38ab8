noncomputable def bP (P : Prop) : Int32 := @ite Int32 P (Classical.propDecidable P) 1 0
theorem bP_t {P : Prop} (h : P) : bP P = 1 := if_pos h
theorem bP_f {P : Prop} (h : ¬ P) : bP P = 0 := if_neg h
theorem bP_01 (P : Prop) : bP P = 0 ∨ bP P = 1 := by
  rcases Classical.em P with h | h
  · exact Or.inr (bP_t h)
  · exact Or.inl (bP_f h)
theorem bP_1 {P : Prop} (h : bP P = 1) : P := Classical.byContradiction (fun hn => by rw [bP_f hn] at h; exact absurd h (by decide))
theorem bP_0 {P : Prop} (h : bP P = 0) : ¬ P := fun hp => by rw [bP_t hp] at h; exact absurd h (by decide)
def s_canT (p0 p1 p2 co : Int32) (gw : Nat → Int32) : Prop := ¬ p0 < 0 ∧ ¬ p1 < 1 ∧ p1 ≤ co - p0 ∧ ∀ j, j < p1.toNatClampNeg → gw (p0 + nI j).toNatClampNeg ≤ p2
set_option maxHeartbeats 4000000 in
set_option maxRecDepth 100000 in
theorem y_canTake_l {p : Program} {l : Launch} {e : Env} {R : Room} {s : State} {m : MethodId} {args : Array Value} {below : List Frame} {meth : Method} {c : Code} {Q : State → Prop} {cells slots : Nat} {dC : Nat → ClassId} {dI : Nat → Nat → Nat} {q : Nat → ClassId} {h0 : Nat} {d : Nat → Nat} {k : Nat → Int32} {z : gS} {f : xF} {H : Heap} {locs : List Loc} (hI : xI q h0 d k z f) (hx : p.tables.exec = Jvm.exec) (hb : c.code = cX10_canTake) (hml : c.maxLocals = 5) (hts : ∀ w ∈ wsX10_canTake, w.before args s = true) (hown : s.vm.findClass RX10 = some m.cls) (hN : NN s) (hXN : XN s) (hK : va_K (dC, dI) vwCl (xT q) s) (hP : va_P (dC, dI) vwCl (va_pl z.1 f) H) {A T : Nat} {p2 : Int32} {a0 pa fa wd nm : Nat} {nu kd cn lz co : Int32} (ha0 : tg z a0 15) (hs : f a0 = .inr (9, [.int nu, .int kd, .ref pa, .int cn, .ref fa, .int lz, .ref wd, .int co, .ref nm])) {gw : Nat → Int32} (hwd : tg z wd 18) (hwg : f wd = aI (q 0) 80 gw) (hAT : A + T ≤ 80) (kx51 : ∀ (ls : Array Slot), (∀ j, j < T → gw (nI (A + j)).toNatClampNeg ≤ p2) → lv_has ls 5 [(0, .ref a0), (1, .int (nI A)), (2, .int (nI T)), (3, .int p2)] → W p l e R s m args below meth c H locs cells slots Q (F0 m 51 ls [])) (kx43 : ∀ (ls : Array Slot), (∃ j, j < T ∧ ¬ gw (nI (A + j)).toNatClampNeg ≤ p2) → lv_has ls 5 [(0, .ref a0), (1, .int (nI A)), (2, .int (nI T)), (3, .int p2)] → W p l e R s m args below meth c H locs cells slots Q (F0 m 43 ls [])) : ∀ (kk i : Nat) (ls : Array Slot), i ≤ T → T - i < kk → (∀ j, j < i → gw (nI (A + j)).toNatClampNeg ≤ p2) → lv_has ls 5 [(4, .int (nI (A + i))), (0, .ref a0), (1, .int (nI A)), (2, .int (nI T)), (3, .int p2)] → W p l e R s m args below meth c H locs cells slots Q (F0 m 24 ls []) := by
  intro kk
  induction kk with
  | zero => intro i ls h1 h2; exact absurd h2 (Nat.not_lt_zero _)
  | succ kk ih =>
    intro i ls hi hkk hg hl
    refine lv_iload hx hb dX10_canTake_24 (lv_at hl 0 rfl) ?_
    refine lv_iload_n hx hb dX10_canTake_26 rfl (lv_at hl 2 rfl) ?_
    refine lv_iload_n hx hb dX10_canTake_27 rfl (lv_at hl 3 rfl) ?_
    refine lv_iadd hx hb dX10_canTake_28 ?_
    refine lv_icmp_ge (tgt := 51) hx hb dX10_canTake_29 (by decide) (fun c_1 => ?_) (fun c_1 => ?_)
    ·
      have hie : i = T := by have := lp_eq (nI_add A T) (by omega) (by omega) c_1; omega
      exact kx51 ls (by rw [← hie]; exact hg) (lv_sub hl [1, 2, 3, 4] rfl)
    ·
      have hlt : i < T := by have := lp_lt (nI_add A T) (by omega) (by omega) c_1; omega
      refine lv_aload_n hx hb dX10_canTake_32 rfl (lv_at hl 1 rfl) ?_
      obtain ⟨kk_2, hk_3⟩ := pl_at ha0.1 hs
      refine va_get (D := (dC, dI)) (ci := 9) (v := .ref wd) (C := RX10) (T := TX10) (N := 9) hx hb hts (by decide +kernel) hown hK hP kk_2 hk_3 rfl 6 (by decide) (hts (.fieldLink RX10 9 "PageOne$Story" "widths" "[I") (by decide +kernel)) (fun _ h9 => h9) rfl dX10_canTake_33 ?_
      refine lv_iload hx hb dX10_canTake_36 (lv_at hl 0 rfl) ?_
      obtain ⟨kk_4, hk_5⟩ := pl_at hwd.1 hwg
      refine va_iald hx hb hK hP kk_4 0 hk_5 rfl (vp_in_nI (by omega) (by decide)) dX10_canTake_38 ?_
      refine lv_iload_n hx hb dX10_canTake_39 rfl (lv_at hl 4 rfl) ?_
      refine lv_icmp_le (tgt := 45) hx hb dX10_canTake_40 (by decide) (fun c_6 => ?_) (fun c_6 => ?_)
      ·
        refine lv_iinc (v := (nI (A + i + 1))) (lv' := [(4, .int (nI (A + i + 1))), (0, .ref a0), (1, .int (nI A)), (2, .int (nI T)), (3, .int p2)]) hx hb dX10_canTake_45 hl (k := 0) rfl (nI_1 _) (by decide) rfl (fun ls hl => ?_)
        refine lv_goto (tgt := 24) hx hb dX10_canTake_48 (by decide) ?_
        exact ih (i + 1) ls (by omega) (by omega) (fr_1 hg c_6) (lv_sub hl [0, 1, 2, 3, 4] rfl)
      ·
        exact kx43 ls ⟨i, hlt, c_6⟩ (lv_sub hl [1, 2, 3, 4] rfl)
set_option maxHeartbeats 4000000 in
set_option maxRecDepth 100000 in
theorem y_canTake (l : Launch) (dC : Nat → ClassId) (dI : Nat → Nat → Nat) (q : Nat → ClassId) (h0 : Nat) (d : Nat → Nat) (k : Nat → Int32) (z : gS) (f : xF) (hI : xI q h0 d k z f) (a0 pa fa wd nm : Nat) (nu kd cn lz co : Int32) (ha0 : tg z a0 15) (hs : f a0 = .inr (9, [.int nu, .int kd, .ref pa, .int cn, .ref fa, .int lz, .ref wd, .int co, .ref nm])) (p0 p1 p2 : Int32) (gw : Nat → Int32) (hwd : tg z wd 18) (hwg : f wd = aI (q 0) 80 gw) (hco : bw co 0 80 = true) : Met l yX10_canTake wsX10_canTake ({ frames := 0, cells := 0, slots := 0, locals := 0 }) (va_Pc [.ref a0, .int p0, .int p1, .int p2] (PX dC dI (va_pl z.1 f) (xT q))) (vp_Si (fun r => r = bP (s_canT p0 p1 p2 co gw))) 0 0 (fun _ => False) := by
  refine Met.ofW (cc := cX10_canTake) (maxL := 5) (ret := (some .boolean)) (by decide) rfl ?_
  intro p e s m args below meth c s₁ B hml hv
  obtain ⟨rfl, ⟨hP, hK, hN⟩, hXN⟩ := hv
  have hx := B.exec
  have hb := B.bytes
  have hr := B.returns
  have hts := atoms_spec (ws := wsX10_canTake) B.pre
  have hown : s.vm.findClass RX10 = some m.cls := findClass_of_methodNamed B.named
  have hlocks := B.notSynchronized
  have hl := lv_entry ([.ref a0, .int p0, .int p1, .int p2]) (n := 5) (Nat.le_of_ble_eq_true rfl)
  rw [lg_entry_eq]
  generalize (lg_sl ([.ref a0, .int p0, .int p1, .int p2]) ++ List.replicate (5 - (lg_sl ([.ref a0, .int p0, .int p1, .int p2])).length) Slot.unset).toArray = ls at hl ⊢
  have hl : lv_has ls 5 [(0, .ref a0), (1, .int p0), (2, .int p1), (3, .int p2)] := hl
  refine lv_iload_n hx hb dX10_canTake_0 rfl (lv_at hl 1 rfl) ?_
  refine lv_if_lt (tgt := 19) hx hb dX10_canTake_1 (by decide) (fun c_1 => ?_) (fun c_1 => ?_)
  ·
    refine lv_iconst (v := 0) hx hb dX10_canTake_19 (by decide) ?_
    exact W.zret (v := 0) hx hb hr (by decide) (fun t ht hW => ⟨_, rfl, (bP_f (fun h => h.1 c_1)).symm, ht⟩) (fun q h => absurd h List.not_mem_nil) dX10_canTake_20
  ·
    refine lv_iload_n hx hb dX10_canTake_4 rfl (lv_at hl 2 rfl) ?_
    refine lv_iconst (v := 1) hx hb dX10_canTake_5 (by decide) ?_
    refine lv_icmp_lt (tgt := 19) hx hb dX10_canTake_6 (by decide) (fun c_2 => ?_) (fun c_2 => ?_)
    ·
      refine lv_iconst (v := 0) hx hb dX10_canTake_19 (by decide) ?_
      exact W.zret (v := 0) hx hb hr (by decide) (fun t ht hW => ⟨_, rfl, (bP_f (fun h => h.2.1 c_2)).symm, ht⟩) (fun q h => absurd h List.not_mem_nil) dX10_canTake_20
    ·
      refine lv_iload_n hx hb dX10_canTake_9 rfl (lv_at hl 2 rfl) ?_
      refine lv_aload_n hx hb dX10_canTake_10 rfl (lv_at hl 0 rfl) ?_
      obtain ⟨kk_3, hk_4⟩ := pl_at ha0.1 hs
      refine va_get (D := (dC, dI)) (ci := 9) (v := .int co) (C := RX10) (T := TX10) (N := 9) hx hb hts (by decide +kernel) hown hK hP kk_3 hk_4 rfl 7 (by decide) (hts (.fieldLink RX10 15 "PageOne$Story" "come" "I") (by decide +kernel)) (fun _ h9 => h9) rfl dX10_canTake_11 ?_
      refine lv_iload_n hx hb dX10_canTake_14 rfl (lv_at hl 1 rfl) ?_
      refine lv_isub hx hb dX10_canTake_15 ?_
      refine lv_icmp_le (tgt := 21) hx hb dX10_canTake_16 (by decide) (fun c_5 => ?_) (fun c_5 => ?_)
      ·
        refine lv_iload_n hx hb dX10_canTake_21 rfl (lv_at hl 1 rfl) ?_
        refine lv_istore (lv' := [(4, .int p0), (0, .ref a0), (1, .int p0), (2, .int p1), (3, .int p2)]) hx hb dX10_canTake_22 hl (by decide) rfl (fun ls hl => ?_)
        obtain ⟨A, T, eA, eT, hAT⟩ := ct_b hco c_1 c_2 c_5
        subst eA eT
        refine y_canTake_l hI hx hb hml hts hown hN hXN hK hP ha0 hs hwd hwg hAT (fun ls hh hl => ?_) (fun ls hh hl => ?_) (T + 1) 0 ls (Nat.zero_le _) (by omega) (fun j hj => absurd hj (Nat.not_lt_zero _)) (lv_sub hl [0, 1, 2, 3, 4] rfl)
        ·
          refine lv_iconst (v := 1) hx hb dX10_canTake_51 (by decide) ?_
          exact W.zret (v := 1) hx hb hr (by decide) (fun t ht hW => ⟨_, rfl, (bP_t ⟨c_1, c_2, c_5, fun j hj => by rw [nI_clamp (by omega)] at hj; rw [nI_add]; exact hh j hj⟩).symm, ht⟩) (fun q h => absurd h List.not_mem_nil) dX10_canTake_52
        ·
          refine lv_iconst (v := 0) hx hb dX10_canTake_43 (by decide) ?_
          exact W.zret (v := 0) hx hb hr (by decide) (fun t ht hW => ⟨_, rfl, (bP_f (fun h => by obtain ⟨j, hj, hn⟩ := hh; have h9 := h.2.2.2 j (by rw [nI_clamp (by omega)]; exact hj); rw [nI_add] at h9; exact hn h9)).symm, ht⟩) (fun q h => absurd h List.not_mem_nil) dX10_canTake_44
      ·
        refine lv_iconst (v := 0) hx hb dX10_canTake_19 (by decide) ?_
        exact W.zret (v := 0) hx hb hr (by decide) (fun t ht hW => ⟨_, rfl, (bP_f (fun h => c_5 h.2.2.1)).symm, ht⟩) (fun q h => absurd h List.not_mem_nil) dX10_canTake_20
theorem nlt {a b : Int32} (h : b ≤ a) : ¬ a < b := fun h2 => by rw [i32_le] at h; rw [i32_lt] at h2; omega
theorem ltn {a b : Int32} (h : ¬ b ≤ a) : a < b := by rw [i32_le] at h; rw [i32_lt]; omega
set_option maxHeartbeats 4000000 in
set_option maxRecDepth 100000 in
theorem y_hasRoom (l : Launch) (dC : Nat → ClassId) (dI : Nat → Nat → Nat) (q : Nat → ClassId) (h0 : Nat) (d : Nat → Nat) (k : Nat → Int32) (z : gS) (f : xF) (hI : xI q h0 d k z f) (a0 : Nat) (ha0 : itm z a0) (nu kd cn : Int32) (pa fa : Nat) (rs : List Value) (hs : f a0 = .inr (ciT (z.2 a0).1, itF nu kd pa cn fa rs)) (n : Nat) (g : Nat → Option Nat) (hps : f pa = aR (q 5) n g) (hpa : tg z pa 16) : Met l yX4_hasRoom wsX4_hasRoom ({ frames := 0, cells := 0, slots := 0, locals := 0 }) (va_Pc [.ref a0] (PX dC dI (va_pl z.1 f) (xT q))) (vp_Si (fun r => r = bP (cn < nI n))) 0 0 (fun _ => False) := by
  refine Met.ofW (cc := cX4_hasRoom) (maxL := 1) (ret := (some .boolean)) (by decide) rfl ?_
  intro p e s m args below meth c s₁ B hml hv
  obtain ⟨rfl, ⟨hP, hK, hN⟩, hXN⟩ := hv
  have hx := B.exec
  have hb := B.bytes
  have hr := B.returns
  have hts := atoms_spec (ws := wsX4_hasRoom) B.pre
  have hown : s.vm.findClass RX4 = some m.cls := findClass_of_methodNamed B.named
  have hlocks := B.notSynchronized
  have hl := lv_entry ([.ref a0]) (n := 1) (Nat.le_of_ble_eq_true rfl)
  rw [lg_entry_eq]
  generalize (lg_sl ([.ref a0]) ++ List.replicate (1 - (lg_sl ([.ref a0])).length) Slot.unset).toArray = ls at hl ⊢
  have hl : lv_has ls 1 [(0, .ref a0)] := hl
  refine lv_aload_n hx hb dX4_hasRoom_0 rfl (lv_at hl 0 rfl) ?_
  obtain ⟨kk_1, hk_2⟩ := pl_at ha0.1 hs
  refine w_then (F0 m 4 ls [.int cn]) (fun hgo => ?_) ?_
  ·
    rcases x_tag ha0 with ht9 | ht9 | ht9 | ht9 | ht9 | ht9
    ·
      rw [ht9.2] at hk_2
      exact va_get (D := (dC, dI)) (ci := 2) (v := .int cn) (C := RX2) (T := TX2) (N := 7) hx hb hts (by decide +kernel) hown hK hP kk_1 hk_2 rfl 3 (by decide) (hts (.fieldLink RX4 9 "PageOne$Item" "count" "I") (by decide +kernel)) (fun _ h9 => h9) rfl dX4_hasRoom_1 hgo
    ·
      rw [ht9.2] at hk_2
      exact va_get (D := (dC, dI)) (ci := 3) (v := .int cn) (C := RX3) (T := TX3) (N := 8) hx hb hts (by decide +kernel) hown hK hP kk_1 hk_2 rfl 3 (by decide) (hts (.fieldLink RX4 9 "PageOne$Item" "count" "I") (by decide +kernel)) (fun _ h9 => h9) rfl dX4_hasRoom_1 hgo
    ·
      rw [ht9.2] at hk_2
      exact va_get (D := (dC, dI)) (ci := 4) (v := .int cn) (C := RX5) (T := TX5) (N := 7) hx hb hts (by decide +kernel) hown hK hP kk_1 hk_2 rfl 3 (by decide) (hts (.fieldLink RX4 9 "PageOne$Item" "count" "I") (by decide +kernel)) (fun _ h9 => h9) rfl dX4_hasRoom_1 hgo
    ·
      rw [ht9.2] at hk_2
      exact va_get (D := (dC, dI)) (ci := 5) (v := .int cn) (C := RX6) (T := TX6) (N := 9) hx hb hts (by decide +kernel) hown hK hP kk_1 hk_2 rfl 3 (by decide) (hts (.fieldLink RX4 9 "PageOne$Item" "count" "I") (by decide +kernel)) (fun _ h9 => h9) rfl dX4_hasRoom_1 hgo
    ·
      rw [ht9.2] at hk_2
      exact va_get (D := (dC, dI)) (ci := 6) (v := .int cn) (C := RX7) (T := TX7) (N := 8) hx hb hts (by decide +kernel) hown hK hP kk_1 hk_2 rfl 3 (by decide) (hts (.fieldLink RX4 9 "PageOne$Item" "count" "I") (by decide +kernel)) (fun _ h9 => h9) rfl dX4_hasRoom_1 hgo
    ·
      rw [ht9.2] at hk_2
      exact va_get (D := (dC, dI)) (ci := 9) (v := .int cn) (C := RX10) (T := TX10) (N := 9) hx hb hts (by decide +kernel) hown hK hP kk_1 hk_2 rfl 3 (by decide) (hts (.fieldLink RX4 9 "PageOne$Item" "count" "I") (by decide +kernel)) (fun _ h9 => h9) rfl dX4_hasRoom_1 hgo
  ·
    refine lv_aload_n hx hb dX4_hasRoom_4 rfl (lv_at hl 0 rfl) ?_
    obtain ⟨kk_3, hk_4⟩ := pl_at ha0.1 hs
    refine w_then (F0 m 8 ls [.ref pa, .int cn]) (fun hgo => ?_) ?_
    ·
      rcases x_tag ha0 with ht9 | ht9 | ht9 | ht9 | ht9 | ht9
      ·
        rw [ht9.2] at hk_4
        exact va_get (D := (dC, dI)) (ci := 2) (v := .ref pa) (C := RX2) (T := TX2) (N := 7) hx hb hts (by decide +kernel) hown hK hP kk_3 hk_4 rfl 2 (by decide) (hts (.fieldLink RX4 31 "PageOne$Item" "pieces" "[LPageOne$Piece;") (by decide +kernel)) (fun _ h9 => h9) rfl dX4_hasRoom_5 hgo
      ·
        rw [ht9.2] at hk_4
        exact va_get (D := (dC, dI)) (ci := 3) (v := .ref pa) (C := RX3) (T := TX3) (N := 8) hx hb hts (by decide +kernel) hown hK hP kk_3 hk_4 rfl 2 (by decide) (hts (.fieldLink RX4 31 "PageOne$Item" "pieces" "[LPageOne$Piece;") (by decide +kernel)) (fun _ h9 => h9) rfl dX4_hasRoom_5 hgo
      ·
        rw [ht9.2] at hk_4
        exact va_get (D := (dC, dI)) (ci := 4) (v := .ref pa) (C := RX5) (T := TX5) (N := 7) hx hb hts (by decide +kernel) hown hK hP kk_3 hk_4 rfl 2 (by decide) (hts (.fieldLink RX4 31 "PageOne$Item" "pieces" "[LPageOne$Piece;") (by decide +kernel)) (fun _ h9 => h9) rfl dX4_hasRoom_5 hgo
      ·
        rw [ht9.2] at hk_4
        exact va_get (D := (dC, dI)) (ci := 5) (v := .ref pa) (C := RX6) (T := TX6) (N := 9) hx hb hts (by decide +kernel) hown hK hP kk_3 hk_4 rfl 2 (by decide) (hts (.fieldLink RX4 31 "PageOne$Item" "pieces" "[LPageOne$Piece;") (by decide +kernel)) (fun _ h9 => h9) rfl dX4_hasRoom_5 hgo
      ·
        rw [ht9.2] at hk_4
        exact va_get (D := (dC, dI)) (ci := 6) (v := .ref pa) (C := RX7) (T := TX7) (N := 8) hx hb hts (by decide +kernel) hown hK hP kk_3 hk_4 rfl 2 (by decide) (hts (.fieldLink RX4 31 "PageOne$Item" "pieces" "[LPageOne$Piece;") (by decide +kernel)) (fun _ h9 => h9) rfl dX4_hasRoom_5 hgo
      ·
        rw [ht9.2] at hk_4
        exact va_get (D := (dC, dI)) (ci := 9) (v := .ref pa) (C := RX10) (T := TX10) (N := 9) hx hb hts (by decide +kernel) hown hK hP kk_3 hk_4 rfl 2 (by decide) (hts (.fieldLink RX4 31 "PageOne$Item" "pieces" "[LPageOne$Piece;") (by decide +kernel)) (fun _ h9 => h9) rfl dX4_hasRoom_5 hgo
    ·
      obtain ⟨kk_5, hk_6⟩ := pl_at hpa.1 hps
      refine va_alen hx hb hK hP kk_5 5 hk_6 rfl (v := nI n) rfl dX4_hasRoom_8 ?_
      refine lv_icmp_ge (tgt := 16) hx hb dX4_hasRoom_9 (by decide) (fun c_7 => ?_) (fun c_7 => ?_)
      ·
        refine lv_iconst (v := 0) hx hb dX4_hasRoom_16 (by decide) ?_
        exact W.zret (v := 0) hx hb hr (by decide) (fun t ht hW => ⟨_, rfl, (bP_f (fun h => absurd h (nlt c_7))).symm, ht⟩) (fun q h => absurd h List.not_mem_nil) dX4_hasRoom_17
      ·
        refine lv_iconst (v := 1) hx hb dX4_hasRoom_12 (by decide) ?_
        refine lv_goto (tgt := 17) hx hb dX4_hasRoom_13 (by decide) ?_
        exact W.zret (v := 1) hx hb hr (by decide) (fun t ht hW => ⟨_, rfl, (bP_t (ltn c_7)).symm, ht⟩) (fun q h => absurd h List.not_mem_nil) dX4_hasRoom_17
