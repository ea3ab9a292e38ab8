set_option maxHeartbeats 4000000 in
set_option maxRecDepth 100000 in
theorem y_isOn_l {p : Program} {l : Launch} {e : Env} {R : Room} {s : State} {m : MethodId} {args : Array Value} {below : List Frame} {meth : Method} {c : Code} {Q : State → Prop} {cells slots : Nat} {dC : Nat → ClassId} {dI : Nat → Nat → Nat} {q : Nat → ClassId} {h0 : Nat} {d : Nat → Nat} {k : Nat → Int32} {z : gS} {f : xF} {H : Heap} {locs : List Loc} (hI : xI q h0 d k z f) (hx : p.tables.exec = Jvm.exec) (hb : c.code = cX4_isOn) (hml : c.maxLocals = 3) (hts : ∀ w ∈ wsX4_isOn, w.before args s = true) (hown : s.vm.findClass RX4 = some m.cls) (hN : NN s) (hXN : XN s) (hK : va_K (dC, dI) vwCl (xT q) s) (hP : va_P (dC, dI) vwCl (va_pl z.1 f) H) {a0 : Nat} {nu kd : Int32} {pa fa n K : Nat} {rs : List Value} {g : Nat → Option Nat} {Rm : Nat → Nat → Int32} (ha0 : itm z a0) (hs : f a0 = .inr (ciT (z.2 a0).1, itF nu kd pa (nI K) fa rs)) (hpa : tg z pa 16) (hps : f pa = aR (q 5) n g) (hKn : K ≤ n) (h6 : n ≤ 6) (hpl : pcL z g K Rm) {p0 : Int32} (kx31 : ∀ (ls : Array Slot), (∀ j, j < K → ¬ Rm j 0 = p0) → lv_has ls 3 [(0, .ref a0), (1, .int p0)] → W p l e R s m args below meth c H locs cells slots Q (F0 m 31 ls [])) (kx23 : ∀ (ls : Array Slot), (∃ j, j < K ∧ Rm j 0 = p0) → lv_has ls 3 [(0, .ref a0), (1, .int p0)] → W p l e R s m args below meth c H locs cells slots Q (F0 m 23 ls [])) : ∀ (kk i : Nat) (ls : Array Slot), i ≤ K → K - i < kk → (∀ j, j < i → ¬ Rm j 0 = p0) → lv_has ls 3 [(2, .int (nI i)), (0, .ref a0), (1, .int p0)] → W p l e R s m args below meth c H locs cells slots Q (F0 m 2 ls []) := by
  intro kk
  induction kk with
  | zero => intro i ls h1 h2; exact absurd h2 (Nat.not_lt_zero _)
  | succ kk ih =>
    intro i ls hi hkk hg hl
    refine lv_iload_n hx hb dX4_isOn_2 rfl (lv_at hl 0 rfl) ?_
    refine lv_aload_n hx hb dX4_isOn_3 rfl (lv_at hl 1 rfl) ?_
    obtain ⟨kk_1, hk_2⟩ := pl_at ha0.1 hs
    refine w_then (F0 m 7 ls [.int (nI K), .int (nI i)]) (fun hgo => ?_) ?_
    ·
      rcases x_tag ha0 with ht9 | ht9 | ht9 | ht9 | ht9 | ht9
      ·
        rw [ht9.2] at hk_2
        exact va_get (D := (dC, dI)) (ci := 2) (v := .int (nI K)) (C := RX2) (T := TX2) (N := 7) hx hb hts (by decide +kernel) hown hK hP kk_1 hk_2 rfl 3 (by decide) (hts (.fieldLink RX4 9 "PageOne$Item" "count" "I") (by decide +kernel)) (fun _ h9 => h9) rfl dX4_isOn_4 hgo
      ·
        rw [ht9.2] at hk_2
        exact va_get (D := (dC, dI)) (ci := 3) (v := .int (nI K)) (C := RX3) (T := TX3) (N := 8) hx hb hts (by decide +kernel) hown hK hP kk_1 hk_2 rfl 3 (by decide) (hts (.fieldLink RX4 9 "PageOne$Item" "count" "I") (by decide +kernel)) (fun _ h9 => h9) rfl dX4_isOn_4 hgo
      ·
        rw [ht9.2] at hk_2
        exact va_get (D := (dC, dI)) (ci := 4) (v := .int (nI K)) (C := RX5) (T := TX5) (N := 7) hx hb hts (by decide +kernel) hown hK hP kk_1 hk_2 rfl 3 (by decide) (hts (.fieldLink RX4 9 "PageOne$Item" "count" "I") (by decide +kernel)) (fun _ h9 => h9) rfl dX4_isOn_4 hgo
      ·
        rw [ht9.2] at hk_2
        exact va_get (D := (dC, dI)) (ci := 5) (v := .int (nI K)) (C := RX6) (T := TX6) (N := 9) hx hb hts (by decide +kernel) hown hK hP kk_1 hk_2 rfl 3 (by decide) (hts (.fieldLink RX4 9 "PageOne$Item" "count" "I") (by decide +kernel)) (fun _ h9 => h9) rfl dX4_isOn_4 hgo
      ·
        rw [ht9.2] at hk_2
        exact va_get (D := (dC, dI)) (ci := 6) (v := .int (nI K)) (C := RX7) (T := TX7) (N := 8) hx hb hts (by decide +kernel) hown hK hP kk_1 hk_2 rfl 3 (by decide) (hts (.fieldLink RX4 9 "PageOne$Item" "count" "I") (by decide +kernel)) (fun _ h9 => h9) rfl dX4_isOn_4 hgo
      ·
        rw [ht9.2] at hk_2
        exact va_get (D := (dC, dI)) (ci := 9) (v := .int (nI K)) (C := RX10) (T := TX10) (N := 9) hx hb hts (by decide +kernel) hown hK hP kk_1 hk_2 rfl 3 (by decide) (hts (.fieldLink RX4 9 "PageOne$Item" "count" "I") (by decide +kernel)) (fun _ h9 => h9) rfl dX4_isOn_4 hgo
    ·
      refine lv_icmp_ge (tgt := 31) hx hb dX4_isOn_7 (by decide) (fun c_3 => ?_) (fun c_3 => ?_)
      ·
        have hie : i = K := lp_eq rfl (by omega) hi c_3
        exact kx31 ls (by rw [← hie]; exact hg) (lv_sub hl [1, 2] rfl)
      ·
        have hlt : i < K := lp_lt rfl (by omega) hi c_3
        refine lv_aload_n hx hb dX4_isOn_10 rfl (lv_at hl 1 rfl) ?_
        obtain ⟨kk_4, hk_5⟩ := pl_at ha0.1 hs
        refine w_then (F0 m 14 ls [.ref pa]) (fun hgo => ?_) ?_
        ·
          rcases x_tag ha0 with ht9 | ht9 | ht9 | ht9 | ht9 | ht9
          ·
            rw [ht9.2] at hk_5
            exact va_get (D := (dC, dI)) (ci := 2) (v := .ref pa) (C := RX2) (T := TX2) (N := 7) hx hb hts (by decide +kernel) hown hK hP kk_4 hk_5 rfl 2 (by decide) (hts (.fieldLink RX4 31 "PageOne$Item" "pieces" "[LPageOne$Piece;") (by decide +kernel)) (fun _ h9 => h9) rfl dX4_isOn_11 hgo
          ·
            rw [ht9.2] at hk_5
            exact va_get (D := (dC, dI)) (ci := 3) (v := .ref pa) (C := RX3) (T := TX3) (N := 8) hx hb hts (by decide +kernel) hown hK hP kk_4 hk_5 rfl 2 (by decide) (hts (.fieldLink RX4 31 "PageOne$Item" "pieces" "[LPageOne$Piece;") (by decide +kernel)) (fun _ h9 => h9) rfl dX4_isOn_11 hgo
          ·
            rw [ht9.2] at hk_5
            exact va_get (D := (dC, dI)) (ci := 4) (v := .ref pa) (C := RX5) (T := TX5) (N := 7) hx hb hts (by decide +kernel) hown hK hP kk_4 hk_5 rfl 2 (by decide) (hts (.fieldLink RX4 31 "PageOne$Item" "pieces" "[LPageOne$Piece;") (by decide +kernel)) (fun _ h9 => h9) rfl dX4_isOn_11 hgo
          ·
            rw [ht9.2] at hk_5
            exact va_get (D := (dC, dI)) (ci := 5) (v := .ref pa) (C := RX6) (T := TX6) (N := 9) hx hb hts (by decide +kernel) hown hK hP kk_4 hk_5 rfl 2 (by decide) (hts (.fieldLink RX4 31 "PageOne$Item" "pieces" "[LPageOne$Piece;") (by decide +kernel)) (fun _ h9 => h9) rfl dX4_isOn_11 hgo
          ·
            rw [ht9.2] at hk_5
            exact va_get (D := (dC, dI)) (ci := 6) (v := .ref pa) (C := RX7) (T := TX7) (N := 8) hx hb hts (by decide +kernel) hown hK hP kk_4 hk_5 rfl 2 (by decide) (hts (.fieldLink RX4 31 "PageOne$Item" "pieces" "[LPageOne$Piece;") (by decide +kernel)) (fun _ h9 => h9) rfl dX4_isOn_11 hgo
          ·
            rw [ht9.2] at hk_5
            exact va_get (D := (dC, dI)) (ci := 9) (v := .ref pa) (C := RX10) (T := TX10) (N := 9) hx hb hts (by decide +kernel) hown hK hP kk_4 hk_5 rfl 2 (by decide) (hts (.fieldLink RX4 31 "PageOne$Item" "pieces" "[LPageOne$Piece;") (by decide +kernel)) (fun _ h9 => h9) rfl dX4_isOn_11 hgo
        ·
          refine lv_iload_n hx hb dX4_isOn_14 rfl (lv_at hl 0 rfl) ?_
          obtain ⟨kk_6, hk_7⟩ := pl_at hpa.1 hps
          refine va_aldq hx hb hK hP kk_6 5 hk_7 rfl (vp_in_nI (by omega) (by omega)) dX4_isOn_15 ?_
          obtain ⟨b_8, it_9, hg_10, hp_11, hlg_12⟩ := hpl ((nI i) : Int32).toNatClampNeg (by rw [nI_clamp (by omega)]; exact hlt)
          rw [hg_10]
          refine W.eq (g2 := F0 m 16 ls [.ref b_8]) rfl ?_
          obtain ⟨kk_13, hk_14⟩ := pl_at hp_11.1.1 (x_pcF hI hp_11)
          refine va_get (D := (dC, dI)) (ci := 7) (v := .int (Rm ((nI i) : Int32).toNatClampNeg 0)) (C := RX8) (T := TX8) (N := 6) hx hb hts (by decide +kernel) hown hK hP kk_13 hk_14 rfl 1 (by decide) (hts (.fieldLink RX4 45 "PageOne$Piece" "page" "I") (by decide +kernel)) (fun _ h9 => h9) rfl dX4_isOn_16 ?_
          refine lv_iload_n hx hb dX4_isOn_19 rfl (lv_at hl 2 rfl) ?_
          refine lv_icmp_ne (tgt := 25) hx hb dX4_isOn_20 (by decide) (fun c_15 => ?_) (fun c_15 => ?_)
          ·
            refine lv_iinc (v := (nI (i + 1))) (lv' := [(2, .int (nI (i + 1))), (0, .ref a0), (1, .int p0)]) hx hb dX4_isOn_25 hl (k := 0) rfl (nI_1 i) (by decide) rfl (fun ls hl => ?_)
            refine lv_goto (tgt := 2) hx hb dX4_isOn_28 (by decide) ?_
            exact ih (i + 1) ls (by omega) (by omega) (fr_1 hg (by have e9 : (nI i).toNatClampNeg = i := nI_clamp (by omega); (try simp only [e9] at c_15); simp [c_15])) (lv_sub hl [0, 1, 2] rfl)
          ·
            exact kx23 ls ⟨i, hlt, (by have e9 : (nI i).toNatClampNeg = i := nI_clamp (by omega); (try simp only [e9] at c_15); simp [c_15])⟩ (lv_sub hl [1, 2] rfl)
set_option maxHeartbeats 4000000 in
set_option maxRecDepth 100000 in
theorem y_isOn (l : Launch) (dC : Nat → ClassId) (dI : Nat → Nat → Nat) (q : Nat → ClassId) (h0 : Nat) (d : Nat → Nat) (k : Nat → Int32) (z : gS) (f : xF) (hI : xI q h0 d k z f) (a0 : Nat) (ha0 : itm z a0) (nu kd cn : Int32) (pa fa : Nat) (rs : List Value) (hs : f a0 = .inr (ciT (z.2 a0).1, itF nu kd pa cn fa rs)) (n : Nat) (g : Nat → Option Nat) (Rm : Nat → Nat → Int32) (hpa : tg z pa 16) (hps : f pa = aR (q 5) n g) (h1 : 1 ≤ n) (h6 : n ≤ 6) (hcb : bw cn 0 (nI n) = true) (hpl : pcL z g cn.toNatClampNeg Rm) (p0 : Int32) : Met l yX4_isOn wsX4_isOn ({ frames := 0, cells := 0, slots := 0, locals := 0 }) (va_Pc [.ref a0, .int p0] (PX dC dI (va_pl z.1 f) (xT q))) (vp_Si (fun r => r = bP (∃ j, j < cn.toNatClampNeg ∧ Rm j 0 = p0))) 0 0 (fun _ => False) := by
  refine Met.ofW (cc := cX4_isOn) (maxL := 3) (ret := (some .boolean)) (by decide) rfl ?_
  intro p e s m args below meth c s₁ B hml hv
  obtain ⟨rfl, ⟨hP, hK, hN⟩, hXN⟩ := hv
  have hx := B.exec
  have hb := B.bytes
  have hr := B.returns
  have hts := atoms_spec (ws := wsX4_isOn) B.pre
  have hown : s.vm.findClass RX4 = some m.cls := findClass_of_methodNamed B.named
  have hlocks := B.notSynchronized
  have hl := lv_entry ([.ref a0, .int p0]) (n := 3) (Nat.le_of_ble_eq_true rfl)
  rw [lg_entry_eq]
  generalize (lg_sl ([.ref a0, .int p0]) ++ List.replicate (3 - (lg_sl ([.ref a0, .int p0])).length) Slot.unset).toArray = ls at hl ⊢
  have hl : lv_has ls 3 [(0, .ref a0), (1, .int p0)] := hl
  refine lv_iconst (v := 0) hx hb dX4_isOn_0 (by decide) ?_
  refine lv_istore_n (lv' := [(2, .int 0), (0, .ref a0), (1, .int p0)]) hx hb dX4_isOn_1 rfl hl (by decide) rfl (fun ls hl => ?_)
  obtain ⟨K, hK1, -, eK⟩ := exN hcb (by decide)
  rw [nI_toInt (by omega)] at hK1
  subst eK
  have hplK : pcL z g K Rm := by rw [nI_clamp (by omega)] at hpl; exact hpl
  refine y_isOn_l hI hx hb hml hts hown hN hXN hK hP ha0 hs hpa hps (by omega) h6 hplK (fun ls hh hl => ?_) (fun ls hh hl => ?_) (K + 1) 0 ls (Nat.zero_le _) (by omega) (fun j hj => absurd hj (Nat.not_lt_zero _)) (lv_sub hl [0, 1, 2] rfl)
  ·
    refine lv_iconst (v := 0) hx hb dX4_isOn_31 (by decide) ?_
    exact W.zret (v := 0) hx hb hr (by decide) (fun t ht hW => ⟨_, rfl, (bP_f (fun h => by obtain ⟨j, hj, h9⟩ := h; rw [nI_clamp (by omega)] at hj; exact hh j hj h9)).symm, ht⟩) (fun q h => absurd h List.not_mem_nil) dX4_isOn_32
  ·
    refine lv_iconst (v := 1) hx hb dX4_isOn_23 (by decide) ?_
    exact W.zret (v := 1) hx hb hr (by decide) (fun t ht hW => ⟨_, rfl, (bP_t (by obtain ⟨j, hj, h9⟩ := hh; exact ⟨j, by rw [nI_clamp (by omega)]; exact hj, h9⟩)).symm, ht⟩) (fun q h => absurd h List.not_mem_nil) dX4_isOn_24
def s_tch (Rm : Nat → Nat → Int32) (P2 X2 Y2 D2 N2 p0 : Int32) (j : Nat) : Prop := ¬ s_isBeside (Rm j 0) (Rm j 1) (Rm j 2) (Rm j 3) (Rm j 4) P2 X2 Y2 D2 N2 = 0 ∨ (p0 = 0 ∧ ¬ s_isOverOrUnder (Rm j 0) (Rm j 1) (Rm j 2) (Rm j 3) (Rm j 4) P2 X2 Y2 D2 N2 = 0)
set_option maxHeartbeats 4000000 in
set_option maxRecDepth 100000 in
theorem y_touches_l {p : Program} {l : Launch} {e : Env} {R : Room} {s : State} {m : MethodId} {args : Array Value} {below : List Frame} {meth : Method} {c : Code} {Q : State → Prop} {cells slots : Nat} {dC : Nat → ClassId} {dI : Nat → Nat → Nat} {q : Nat → ClassId} {h0 : Nat} {d : Nat → Nat} {k : Nat → Int32} {z : gS} {f : xF} {H : Heap} {locs : List Loc} (hI : xI q h0 d k z f) (hx : p.tables.exec = Jvm.exec) (hb : c.code = cX4_touches) (hml : c.maxLocals = 4) (hts : ∀ w ∈ wsX4_touches, w.before args s = true) (hown : s.vm.findClass RX4 = some m.cls) (hN : NN s) (hXN : XN s) (hK : va_K (dC, dI) vwCl (xT q) s) (hRf : 1 ≤ R.frames) (hRl : 22 ≤ R.locals) (hRc : cells ≤ R.cells) (hRs : slots ≤ R.slots) (hP : va_P (dC, dI) vwCl (va_pl z.1 f) H) {a0 : Nat} {nu kd : Int32} {pa fa n K : Nat} {rs : List Value} {g : Nat → Option Nat} {Rm : Nat → Nat → Int32} (ha0 : itm z a0) (hs : f a0 = .inr (ciT (z.2 a0).1, itF nu kd pa (nI K) fa rs)) (hpa : tg z pa 16) (hps : f pa = aR (q 5) n g) (hKn : K ≤ n) (h6 : n ≤ 6) (hpl : pcL z g K Rm) {b0 : Nat} {iu : Option Nat} {P2 X2 Y2 D2 N2 p0 : Int32} (hpb : pcS z b0 iu P2 X2 Y2 D2 N2) (kx48 : ∀ (ls : Array Slot), (∀ j, j < K → ¬ s_tch Rm P2 X2 Y2 D2 N2 p0 j) → lv_has ls 4 [(0, .ref a0), (1, .ref b0), (2, .int p0)] → W p l e R s m args below meth c H locs cells slots Q (F0 m 48 ls [])) (kx40 : ∀ (ls : Array Slot), (∃ j, j < K ∧ s_tch Rm P2 X2 Y2 D2 N2 p0 j) → lv_has ls 4 [(0, .ref a0), (1, .ref b0), (2, .int p0)] → W p l e R s m args below meth c H locs cells slots Q (F0 m 40 ls [])) : ∀ (kk i : Nat) (ls : Array Slot), i ≤ K → K - i < kk → (∀ j, j < i → ¬ s_tch Rm P2 X2 Y2 D2 N2 p0 j) → lv_has ls 4 [(3, .int (nI i)), (0, .ref a0), (1, .ref b0), (2, .int p0)] → W p l e R s m args below meth c H locs cells slots Q (F0 m 2 ls []) := by
  intro kk
  induction kk with
  | zero => intro i ls h1 h2; exact absurd h2 (Nat.not_lt_zero _)
  | succ kk ih =>
    intro i ls hi hkk hg hl
    refine lv_iload_n hx hb dX4_touches_2 rfl (lv_at hl 0 rfl) ?_
    refine lv_aload_n hx hb dX4_touches_3 rfl (lv_at hl 1 rfl) ?_
    obtain ⟨kk_1, hk_2⟩ := pl_at ha0.1 hs
    refine w_then (F0 m 7 ls [.int (nI K), .int (nI i)]) (fun hgo => ?_) ?_
    ·
      rcases x_tag ha0 with ht9 | ht9 | ht9 | ht9 | ht9 | ht9
      ·
        rw [ht9.2] at hk_2
        exact va_get (D := (dC, dI)) (ci := 2) (v := .int (nI K)) (C := RX2) (T := TX2) (N := 7) hx hb hts (by decide +kernel) hown hK hP kk_1 hk_2 rfl 3 (by decide) (hts (.fieldLink RX4 9 "PageOne$Item" "count" "I") (by decide +kernel)) (fun _ h9 => h9) rfl dX4_touches_4 hgo
      ·
        rw [ht9.2] at hk_2
        exact va_get (D := (dC, dI)) (ci := 3) (v := .int (nI K)) (C := RX3) (T := TX3) (N := 8) hx hb hts (by decide +kernel) hown hK hP kk_1 hk_2 rfl 3 (by decide) (hts (.fieldLink RX4 9 "PageOne$Item" "count" "I") (by decide +kernel)) (fun _ h9 => h9) rfl dX4_touches_4 hgo
      ·
        rw [ht9.2] at hk_2
        exact va_get (D := (dC, dI)) (ci := 4) (v := .int (nI K)) (C := RX5) (T := TX5) (N := 7) hx hb hts (by decide +kernel) hown hK hP kk_1 hk_2 rfl 3 (by decide) (hts (.fieldLink RX4 9 "PageOne$Item" "count" "I") (by decide +kernel)) (fun _ h9 => h9) rfl dX4_touches_4 hgo
      ·
        rw [ht9.2] at hk_2
        exact va_get (D := (dC, dI)) (ci := 5) (v := .int (nI K)) (C := RX6) (T := TX6) (N := 9) hx hb hts (by decide +kernel) hown hK hP kk_1 hk_2 rfl 3 (by decide) (hts (.fieldLink RX4 9 "PageOne$Item" "count" "I") (by decide +kernel)) (fun _ h9 => h9) rfl dX4_touches_4 hgo
      ·
        rw [ht9.2] at hk_2
        exact va_get (D := (dC, dI)) (ci := 6) (v := .int (nI K)) (C := RX7) (T := TX7) (N := 8) hx hb hts (by decide +kernel) hown hK hP kk_1 hk_2 rfl 3 (by decide) (hts (.fieldLink RX4 9 "PageOne$Item" "count" "I") (by decide +kernel)) (fun _ h9 => h9) rfl dX4_touches_4 hgo
      ·
        rw [ht9.2] at hk_2
        exact va_get (D := (dC, dI)) (ci := 9) (v := .int (nI K)) (C := RX10) (T := TX10) (N := 9) hx hb hts (by decide +kernel) hown hK hP kk_1 hk_2 rfl 3 (by decide) (hts (.fieldLink RX4 9 "PageOne$Item" "count" "I") (by decide +kernel)) (fun _ h9 => h9) rfl dX4_touches_4 hgo
    ·
      refine lv_icmp_ge (tgt := 48) hx hb dX4_touches_7 (by decide) (fun c_3 => ?_) (fun c_3 => ?_)
      ·
        have hie : i = K := lp_eq rfl (by omega) hi c_3
        exact kx48 ls (by rw [← hie]; exact hg) (lv_sub hl [1, 2, 3] rfl)
      ·
        have hlt : i < K := lp_lt rfl (by omega) hi c_3
        refine lv_aload_n hx hb dX4_touches_10 rfl (lv_at hl 1 rfl) ?_
        obtain ⟨kk_4, hk_5⟩ := pl_at ha0.1 hs
        refine w_then (F0 m 14 ls [.ref pa]) (fun hgo => ?_) ?_
        ·
          rcases x_tag ha0 with ht9 | ht9 | ht9 | ht9 | ht9 | ht9
          ·
            rw [ht9.2] at hk_5
            exact va_get (D := (dC, dI)) (ci := 2) (v := .ref pa) (C := RX2) (T := TX2) (N := 7) hx hb hts (by decide +kernel) hown hK hP kk_4 hk_5 rfl 2 (by decide) (hts (.fieldLink RX4 31 "PageOne$Item" "pieces" "[LPageOne$Piece;") (by decide +kernel)) (fun _ h9 => h9) rfl dX4_touches_11 hgo
          ·
            rw [ht9.2] at hk_5
            exact va_get (D := (dC, dI)) (ci := 3) (v := .ref pa) (C := RX3) (T := TX3) (N := 8) hx hb hts (by decide +kernel) hown hK hP kk_4 hk_5 rfl 2 (by decide) (hts (.fieldLink RX4 31 "PageOne$Item" "pieces" "[LPageOne$Piece;") (by decide +kernel)) (fun _ h9 => h9) rfl dX4_touches_11 hgo
          ·
            rw [ht9.2] at hk_5
            exact va_get (D := (dC, dI)) (ci := 4) (v := .ref pa) (C := RX5) (T := TX5) (N := 7) hx hb hts (by decide +kernel) hown hK hP kk_4 hk_5 rfl 2 (by decide) (hts (.fieldLink RX4 31 "PageOne$Item" "pieces" "[LPageOne$Piece;") (by decide +kernel)) (fun _ h9 => h9) rfl dX4_touches_11 hgo
          ·
            rw [ht9.2] at hk_5
            exact va_get (D := (dC, dI)) (ci := 5) (v := .ref pa) (C := RX6) (T := TX6) (N := 9) hx hb hts (by decide +kernel) hown hK hP kk_4 hk_5 rfl 2 (by decide) (hts (.fieldLink RX4 31 "PageOne$Item" "pieces" "[LPageOne$Piece;") (by decide +kernel)) (fun _ h9 => h9) rfl dX4_touches_11 hgo
          ·
            rw [ht9.2] at hk_5
            exact va_get (D := (dC, dI)) (ci := 6) (v := .ref pa) (C := RX7) (T := TX7) (N := 8) hx hb hts (by decide +kernel) hown hK hP kk_4 hk_5 rfl 2 (by decide) (hts (.fieldLink RX4 31 "PageOne$Item" "pieces" "[LPageOne$Piece;") (by decide +kernel)) (fun _ h9 => h9) rfl dX4_touches_11 hgo
          ·
            rw [ht9.2] at hk_5
            exact va_get (D := (dC, dI)) (ci := 9) (v := .ref pa) (C := RX10) (T := TX10) (N := 9) hx hb hts (by decide +kernel) hown hK hP kk_4 hk_5 rfl 2 (by decide) (hts (.fieldLink RX4 31 "PageOne$Item" "pieces" "[LPageOne$Piece;") (by decide +kernel)) (fun _ h9 => h9) rfl dX4_touches_11 hgo
        ·
          refine lv_iload_n hx hb dX4_touches_14 rfl (lv_at hl 0 rfl) ?_
          obtain ⟨kk_6, hk_7⟩ := pl_at hpa.1 hps
          refine va_aldq hx hb hK hP kk_6 5 hk_7 rfl (vp_in_nI (by omega) (by omega)) dX4_touches_15 ?_
          obtain ⟨b_8, it_9, hg_10, hp_11, hlg_12⟩ := hpl ((nI i) : Int32).toNatClampNeg (by rw [nI_clamp (by omega)]; exact hlt)
          rw [hg_10]
          refine W.eq (g2 := F0 m 16 ls [.ref b_8]) rfl ?_
          refine lv_aload_n hx hb dX4_touches_16 rfl (lv_at hl 2 rfl) ?_
          obtain ⟨kk_13, hk_14⟩ := pl_at hp_11.1.1 (x_pcF hI hp_11)
          refine vp_callSi (va_runV (As := [.ref b0]) (rest := []) ⟨hx, hb, hml, hown, hts⟩ (y_isBeside l dC dI q h0 d k z f hI b_8 it_9 (Rm ((nI i) : Int32).toNatClampNeg 0) (Rm ((nI i) : Int32).toNatClampNeg 1) (Rm ((nI i) : Int32).toNatClampNeg 2) (Rm ((nI i) : Int32).toNatClampNeg 3) (Rm ((nI i) : Int32).toNatClampNeg 4) hp_11 b0 iu P2 X2 Y2 D2 N2 hpb) (cwV 1 hts gX4_touches_X8_isBeside rfl rfl rfl (by decide +kernel) ⟨Nat.le_trans (Nat.le_of_ble_eq_true rfl) hRf, Nat.le_trans (Nat.le_of_ble_eq_true rfl) hRl⟩) ⟨px_fb, va_recv hK hP (ci := 7) (q0 := kk_13) rfl hk_14, fun U hU hW => ⟨rfl, px_to hU hW hP hK hN hXN⟩⟩ rfl rfl hl.1 rfl (lv_room (Nat.le_of_ble_eq_true rfl)) dX4_touches_17 ⟨hRc, hRs⟩).run (fun r hw => ?_)
          obtain rfl : r = (s_isBeside (Rm ((nI i) : Int32).toNatClampNeg 0) (Rm ((nI i) : Int32).toNatClampNeg 1) (Rm ((nI i) : Int32).toNatClampNeg 2) (Rm ((nI i) : Int32).toNatClampNeg 3) (Rm ((nI i) : Int32).toNatClampNeg 4) P2 X2 Y2 D2 N2) := hw
          refine lv_if_ne (tgt := 40) hx hb dX4_touches_20 (by decide) (fun c_15 => ?_) (fun c_15 => ?_)
          ·
            exact kx40 ls ⟨i, hlt, (by have e9 : (nI i).toNatClampNeg = i := nI_clamp (by omega); (try simp only [e9] at c_15); unfold s_tch; simp [c_15])⟩ (lv_sub hl [1, 2, 3] rfl)
          ·
            refine lv_iload_n hx hb dX4_touches_23 rfl (lv_at hl 3 rfl) ?_
            refine lv_if_ne (tgt := 42) hx hb dX4_touches_24 (by decide) (fun c_16 => ?_) (fun c_16 => ?_)
            ·
              refine lv_iinc (v := (nI (i + 1))) (lv' := [(3, .int (nI (i + 1))), (0, .ref a0), (1, .ref b0), (2, .int p0)]) hx hb dX4_touches_42 hl (k := 0) rfl (nI_1 i) (by decide) rfl (fun ls hl => ?_)
              refine lv_goto (tgt := 2) hx hb dX4_touches_45 (by decide) ?_
              exact ih (i + 1) ls (by omega) (by omega) (fr_1 hg (by have e9 : (nI i).toNatClampNeg = i := nI_clamp (by omega); (try simp only [e9] at c_15); (try simp only [e9] at c_16); unfold s_tch; simp [c_15, c_16])) (lv_sub hl [0, 1, 2, 3] rfl)
            ·
              refine lv_aload_n hx hb dX4_touches_27 rfl (lv_at hl 1 rfl) ?_
              obtain ⟨kk_17, hk_18⟩ := pl_at ha0.1 hs
              refine w_then (F0 m 31 ls [.ref pa]) (fun hgo => ?_) ?_
              ·
                rcases x_tag ha0 with ht9 | ht9 | ht9 | ht9 | ht9 | ht9
                ·
                  rw [ht9.2] at hk_18
                  exact va_get (D := (dC, dI)) (ci := 2) (v := .ref pa) (C := RX2) (T := TX2) (N := 7) hx hb hts (by decide +kernel) hown hK hP kk_17 hk_18 rfl 2 (by decide) (hts (.fieldLink RX4 31 "PageOne$Item" "pieces" "[LPageOne$Piece;") (by decide +kernel)) (fun _ h9 => h9) rfl dX4_touches_28 hgo
                ·
                  rw [ht9.2] at hk_18
                  exact va_get (D := (dC, dI)) (ci := 3) (v := .ref pa) (C := RX3) (T := TX3) (N := 8) hx hb hts (by decide +kernel) hown hK hP kk_17 hk_18 rfl 2 (by decide) (hts (.fieldLink RX4 31 "PageOne$Item" "pieces" "[LPageOne$Piece;") (by decide +kernel)) (fun _ h9 => h9) rfl dX4_touches_28 hgo
                ·
                  rw [ht9.2] at hk_18
                  exact va_get (D := (dC, dI)) (ci := 4) (v := .ref pa) (C := RX5) (T := TX5) (N := 7) hx hb hts (by decide +kernel) hown hK hP kk_17 hk_18 rfl 2 (by decide) (hts (.fieldLink RX4 31 "PageOne$Item" "pieces" "[LPageOne$Piece;") (by decide +kernel)) (fun _ h9 => h9) rfl dX4_touches_28 hgo
                ·
                  rw [ht9.2] at hk_18
                  exact va_get (D := (dC, dI)) (ci := 5) (v := .ref pa) (C := RX6) (T := TX6) (N := 9) hx hb hts (by decide +kernel) hown hK hP kk_17 hk_18 rfl 2 (by decide) (hts (.fieldLink RX4 31 "PageOne$Item" "pieces" "[LPageOne$Piece;") (by decide +kernel)) (fun _ h9 => h9) rfl dX4_touches_28 hgo
                ·
                  rw [ht9.2] at hk_18
                  exact va_get (D := (dC, dI)) (ci := 6) (v := .ref pa) (C := RX7) (T := TX7) (N := 8) hx hb hts (by decide +kernel) hown hK hP kk_17 hk_18 rfl 2 (by decide) (hts (.fieldLink RX4 31 "PageOne$Item" "pieces" "[LPageOne$Piece;") (by decide +kernel)) (fun _ h9 => h9) rfl dX4_touches_28 hgo
                ·
                  rw [ht9.2] at hk_18
                  exact va_get (D := (dC, dI)) (ci := 9) (v := .ref pa) (C := RX10) (T := TX10) (N := 9) hx hb hts (by decide +kernel) hown hK hP kk_17 hk_18 rfl 2 (by decide) (hts (.fieldLink RX4 31 "PageOne$Item" "pieces" "[LPageOne$Piece;") (by decide +kernel)) (fun _ h9 => h9) rfl dX4_touches_28 hgo
              ·
                refine lv_iload_n hx hb dX4_touches_31 rfl (lv_at hl 0 rfl) ?_
                obtain ⟨kk_19, hk_20⟩ := pl_at hpa.1 hps
                refine va_aldq hx hb hK hP kk_19 5 hk_20 rfl (vp_in_nI (by omega) (by omega)) dX4_touches_32 ?_
                obtain ⟨b_21, it_22, hg_23, hp_24, hlg_25⟩ := hpl ((nI i) : Int32).toNatClampNeg (by rw [nI_clamp (by omega)]; exact hlt)
                rw [hg_23]
                refine W.eq (g2 := F0 m 33 ls [.ref b_21]) rfl ?_
                refine lv_aload_n hx hb dX4_touches_33 rfl (lv_at hl 2 rfl) ?_
                obtain ⟨kk_26, hk_27⟩ := pl_at hp_24.1.1 (x_pcF hI hp_24)
                refine vp_callSi (va_runV (As := [.ref b0]) (rest := []) ⟨hx, hb, hml, hown, hts⟩ (y_isOverOrUnder l dC dI q h0 d k z f hI b_21 it_22 (Rm ((nI i) : Int32).toNatClampNeg 0) (Rm ((nI i) : Int32).toNatClampNeg 1) (Rm ((nI i) : Int32).toNatClampNeg 2) (Rm ((nI i) : Int32).toNatClampNeg 3) (Rm ((nI i) : Int32).toNatClampNeg 4) hp_24 b0 iu P2 X2 Y2 D2 N2 hpb) (cwV 1 hts gX4_touches_X8_isOverOrUnder rfl rfl rfl (by decide +kernel) ⟨Nat.le_trans (Nat.le_of_ble_eq_true rfl) hRf, Nat.le_trans (Nat.le_of_ble_eq_true rfl) hRl⟩) ⟨px_fb, va_recv hK hP (ci := 7) (q0 := kk_26) rfl hk_27, fun U hU hW => ⟨rfl, px_to hU hW hP hK hN hXN⟩⟩ rfl rfl hl.1 rfl (lv_room (Nat.le_of_ble_eq_true rfl)) dX4_touches_34 ⟨hRc, hRs⟩).run (fun r hw => ?_)
                obtain rfl : r = (s_isOverOrUnder (Rm ((nI i) : Int32).toNatClampNeg 0) (Rm ((nI i) : Int32).toNatClampNeg 1) (Rm ((nI i) : Int32).toNatClampNeg 2) (Rm ((nI i) : Int32).toNatClampNeg 3) (Rm ((nI i) : Int32).toNatClampNeg 4) P2 X2 Y2 D2 N2) := hw
                refine lv_if_eq (tgt := 42) hx hb dX4_touches_37 (by decide) (fun c_28 => ?_) (fun c_28 => ?_)
                ·
                  refine lv_iinc (v := (nI (i + 1))) (lv' := [(3, .int (nI (i + 1))), (0, .ref a0), (1, .ref b0), (2, .int p0)]) hx hb dX4_touches_42 hl (k := 0) rfl (nI_1 i) (by decide) rfl (fun ls hl => ?_)
                  refine lv_goto (tgt := 2) hx hb dX4_touches_45 (by decide) ?_
                  exact ih (i + 1) ls (by omega) (by omega) (fr_1 hg (by have e9 : (nI i).toNatClampNeg = i := nI_clamp (by omega); (try simp only [e9] at c_15); (try simp only [e9] at c_16); (try simp only [e9] at c_28); unfold s_tch; simp [c_15, c_16, c_28])) (lv_sub hl [0, 1, 2, 3] rfl)
                ·
                  exact kx40 ls ⟨i, hlt, (by have e9 : (nI i).toNatClampNeg = i := nI_clamp (by omega); (try simp only [e9] at c_15); (try simp only [e9] at c_16); (try simp only [e9] at c_28); unfold s_tch; simp [c_15, c_16, c_28])⟩ (lv_sub hl [1, 2, 3] rfl)
set_option maxHeartbeats 4000000 in
set_option maxRecDepth 100000 in
theorem y_touches (l : Launch) (dC : Nat → ClassId) (dI : Nat → Nat → Nat) (q : Nat → ClassId) (h0 : Nat) (d : Nat → Nat) (k : Nat → Int32) (z : gS) (f : xF) (hI : xI q h0 d k z f) (a0 : Nat) (ha0 : itm z a0) (nu kd cn : Int32) (pa fa : Nat) (rs : List Value) (hs : f a0 = .inr (ciT (z.2 a0).1, itF nu kd pa cn fa rs)) (n : Nat) (g : Nat → Option Nat) (Rm : Nat → Nat → Int32) (hpa : tg z pa 16) (hps : f pa = aR (q 5) n g) (h1 : 1 ≤ n) (h6 : n ≤ 6) (hcb : bw cn 0 (nI n) = true) (hpl : pcL z g cn.toNatClampNeg Rm) (b0 : Nat) (iu : Option Nat) (P2 X2 Y2 D2 N2 : Int32) (hpb : pcS z b0 iu P2 X2 Y2 D2 N2) (p0 : Int32) : Met l yX4_touches wsX4_touches ({ frames := 1, cells := 0, slots := 0, locals := 22 }) (va_Pc [.ref a0, .ref b0, .int p0] (PX dC dI (va_pl z.1 f) (xT q))) (vp_Si (fun r => r = bP (∃ j, j < cn.toNatClampNeg ∧ s_tch Rm P2 X2 Y2 D2 N2 p0 j))) 0 0 (fun _ => False) := by
  refine Met.ofW (cc := cX4_touches) (maxL := 4) (ret := (some .boolean)) (by decide) rfl ?_
  intro p e s m args below meth c s₁ B hml hv
  obtain ⟨rfl, ⟨hP, hK, hN⟩, hXN⟩ := hv
  have hx := B.exec
  have hb := B.bytes
  have hr := B.returns
  have hts := atoms_spec (ws := wsX4_touches) B.pre
  have hown : s.vm.findClass RX4 = some m.cls := findClass_of_methodNamed B.named
  have hlocks := B.notSynchronized
  have hl := lv_entry ([.ref a0, .ref b0, .int p0]) (n := 4) (Nat.le_of_ble_eq_true rfl)
  rw [lg_entry_eq]
  generalize (lg_sl ([.ref a0, .ref b0, .int p0]) ++ List.replicate (4 - (lg_sl ([.ref a0, .ref b0, .int p0])).length) Slot.unset).toArray = ls at hl ⊢
  have hl : lv_has ls 4 [(0, .ref a0), (1, .ref b0), (2, .int p0)] := hl
  refine lv_iconst (v := 0) hx hb dX4_touches_0 (by decide) ?_
  refine lv_istore_n (lv' := [(3, .int 0), (0, .ref a0), (1, .ref b0), (2, .int p0)]) hx hb dX4_touches_1 rfl hl (by decide) rfl (fun ls hl => ?_)
  obtain ⟨K, hK1, -, eK⟩ := exN hcb (by decide)
  rw [nI_toInt (by omega)] at hK1
  subst eK
  have hplK : pcL z g K Rm := by rw [nI_clamp (by omega)] at hpl; exact hpl
  refine y_touches_l hI hx hb hml hts hown hN hXN hK (Nat.le_of_ble_eq_true rfl) (Nat.le_of_ble_eq_true rfl) (Nat.le_of_ble_eq_true rfl) (Nat.le_of_ble_eq_true rfl) hP ha0 hs hpa hps (by omega) h6 hplK hpb (fun ls hh hl => ?_) (fun ls hh hl => ?_) (K + 1) 0 ls (Nat.zero_le _) (by omega) (fun j hj => absurd hj (Nat.not_lt_zero _)) (lv_sub hl [0, 1, 2, 3] rfl)
  ·
    refine lv_iconst (v := 0) hx hb dX4_touches_48 (by decide) ?_
    exact W.zret (v := 0) hx hb hr (by decide) (fun t ht hW => ⟨_, rfl, (bP_f (fun h => by obtain ⟨j, hj, h9⟩ := h; rw [nI_clamp (by omega)] at hj; exact hh j hj h9)).symm, ht⟩) (fun q h => absurd h List.not_mem_nil) dX4_touches_49
  ·
    refine lv_iconst (v := 1) hx hb dX4_touches_40 (by decide) ?_
    exact W.zret (v := 1) hx hb hr (by decide) (fun t ht hW => ⟨_, rfl, (bP_t (by obtain ⟨j, hj, h9⟩ := hh; exact ⟨j, by rw [nI_clamp (by omega)]; exact hj, h9⟩)).symm, ht⟩) (fun q h => absurd h List.not_mem_nil) dX4_touches_41
