set_option maxHeartbeats 4000000 in
set_option maxRecDepth 100000 in
theorem y_isOn_l {p : Program} {l : Launch} {e : Env} {R : Room} {s : State} {m : MethodId} {args : Array Value} {below : List Frame} {meth : Method} {c : Code} {Q : State → Prop} {cells slots : Nat} {dC : Nat → ClassId} {dI : Nat → Nat → Nat} {q : Nat → ClassId} {h0 : Nat} {d : Nat → Nat} {k : Nat → Int32} {z : gS} {f : xF} {H : Heap} {locs : List Loc} (hI : xI q h0 d k z f) (hx : p.tables.exec = Jvm.exec) (hb : c.code = cX4_isOn) (hml : c.maxLocals = 3) (hts : ∀ w ∈ wsX4_isOn, w.before args s = true) (hown : s.vm.findClass RX4 = some m.cls) (hN : NN s) (hXN : XN s) (hK : va_K (dC, dI) vwCl (xT q) s) (hP : va_P (dC, dI) vwCl (va_pl z.1 f) H) {a0 : Nat} {nu kd : Int32} {pa fa n K : Nat} {rs : List Value} {g : Nat → Option Nat} {Rm : Nat → Nat → Int32} (ha0 : itm z a0) (hs : f a0 = .inr (ciT (z.2 a0).1, itF nu kd pa (nI K) fa rs)) (hpa : tg z pa 16) (hps : f pa = aR (q 5) n g) (hKn : K ≤ n) (h6 : n ≤ 6) (hpl : pcL z g K Rm) {p0 : Int32} (kx31 : ∀ (ls : Array Slot), (∀ j, j < K → ¬ Rm j 0 = p0) → lv_has ls 3 [(0, .ref a0), (1, .int p0)] → W p l e R s m args below meth c H locs cells slots Q (F0 m 31 ls [])) (kx23 : ∀ (ls : Array Slot), (∃ j, j < K ∧ Rm j 0 = p0) → lv_has ls 3 [(0, .ref a0), (1, .int p0)] → W p l e R s m args below meth c H locs cells slots Q (F0 m 23 ls [])) : ∀ (kk i : Nat) (ls : Array Slot), i ≤ K → K - i < kk → (∀ j, j < i → ¬ Rm j 0 = p0) → lv_has ls 3 [(2, .int (nI i)), (0, .ref a0), (1, .int p0)] → W p l e R s m args below meth c H locs cells slots Q (F0 m 2 ls []) := by
  intro kk
  induction kk with
  | zero => intro i ls h1 h2; exact absurd h2 (Nat.not_lt_zero _)
  | succ kk ih =>
    intro i ls hi hkk hg hl
    refine lv_iload_n hx hb dX4_isOn_2 rfl (lv_at hl 0 rfl) ?_
    refine lv_aload_n hx hb dX4_isOn_3 rfl (lv_at hl 1 rfl) ?_
    obtain ⟨kk_1, hk_2⟩ := pl_at ha0.1 hs
    refine w_then (F0 m 7 ls [.int (nI K), .int (nI i)]) (fun hgo => ?_) ?_
    ·
      rcases x_tag ha0 with ht9 | ht9 | ht9 | ht9 | ht9 | ht9
      ·
        rw [ht9.2] at hk_2
        exact va_get (D := (dC, dI)) (ci := 2) (v := .int (nI K)) (C := RX2) (T := TX2) (N := 7) hx hb hts (by decide +kernel) hown hK hP kk_1 hk_2 rfl 3 (by decide) (hts (.fieldLink RX4 9 "PageOne$Item" "count" "I") (by decide +kernel)) (fun _ h9 => h9) rfl dX4_isOn_4 hgo
      ·
        rw [ht9.2] at hk_2
        exact va_get (D := (dC, dI)) (ci := 3) (v := .int (nI K)) (C := RX3) (T := TX3) (N := 8) hx hb hts (by decide +kernel) hown hK hP kk_1 hk_2 rfl 3 (by decide) (hts (.fieldLink RX4 9 "PageOne$Item" "count" "I") (by decide +kernel)) (fun _ h9 => h9) rfl dX4_isOn_4 hgo
      ·
        rw [ht9.2] at hk_2
        exact va_get (D := (dC, dI)) (ci := 4) (v := .int (nI K)) (C := RX5) (T := TX5) (N := 7) hx hb hts (by decide +kernel) hown hK hP kk_1 hk_2 rfl 3 (by decide) (hts (.fieldLink RX4 9 "PageOne$Item" "count" "I") (by decide +kernel)) (fun _ h9 => h9) rfl dX4_isOn_4 hgo
      ·
        rw [ht9.2] at hk_2
        exact va_get (D := (dC, dI)) (ci := 5) (v := .int (nI K)) (C := RX6) (T := TX6) (N := 9) hx hb hts (by decide +kernel) hown hK hP kk_1 hk_2 rfl 3 (by decide) (hts (.fieldLink RX4 9 "PageOne$Item" "count" "I") (by decide +kernel)) (fun _ h9 => h9) rfl dX4_isOn_4 hgo
      ·
        rw [ht9.2] at hk_2
        exact va_get (D := (dC, dI)) (ci := 6) (v := .int (nI K)) (C := RX7) (T := TX7) (N := 8) hx hb hts (by decide +kernel) hown hK hP kk_1 hk_2 rfl 3 (by decide) (hts (.fieldLink RX4 9 "PageOne$Item" "count" "I") (by decide +kernel)) (fun _ h9 => h9) rfl dX4_isOn_4 hgo
      ·
        rw [ht9.2] at hk_2
        exact va_get (D := (dC, dI)) (ci := 9) (v := .int (nI K)) (C := RX10) (T := TX10) (N := 9) hx hb hts (by decide +kernel) hown hK hP kk_1 hk_2 rfl 3 (by decide) (hts (.fieldLink RX4 9 "PageOne$Item" "count" "I") (by decide +kernel)) (fun _ h9 => h9) rfl dX4_isOn_4 hgo
    ·
      refine lv_icmp_ge (tgt := 31) hx hb dX4_isOn_7 (by decide) (fun c_3 => ?_) (fun c_3 => ?_)
      ·
        have hie : i = K := lp_eq rfl (by omega) hi c_3
        exact kx31 ls (by rw [← hie]; exact hg) (lv_sub hl [1, 2] rfl)
      ·
        have hlt : i < K := lp_lt rfl (by omega) hi c_3
        refine lv_aload_n hx hb dX4_isOn_10 rfl (lv_at hl 1 rfl) ?_
        obtain ⟨kk_4, hk_5⟩ := pl_at ha0.1 hs
        refine w_then (F0 m 14 ls [.ref pa]) (fun hgo => ?_) ?_
        ·
          rcases x_tag ha0 with ht9 | ht9 | ht9 | ht9 | ht9 | ht9
          ·
            rw [ht9.2] at hk_5
            exact va_get (D := (dC, dI)) (ci := 2) (v := .ref pa) (C := RX2) (T := TX2) (N := 7) hx hb hts (by decide +kernel) hown hK hP kk_4 hk_5 rfl 2 (by decide) (hts (.fieldLink RX4 31 "PageOne$Item" "pieces" "[LPageOne$Piece;") (by decide +kernel)) (fun _ h9 => h9) rfl dX4_isOn_11 hgo
          ·
            rw [ht9.2] at hk_5
            exact va_get (D := (dC, dI)) (ci := 3) (v := .ref pa) (C := RX3) (T := TX3) (N := 8) hx hb hts (by decide +kernel) hown hK hP kk_4 hk_5 rfl 2 (by decide) (hts (.fieldLink RX4 31 "PageOne$Item" "pieces" "[LPageOne$Piece;") (by decide +kernel)) (fun _ h9 => h9) rfl dX4_isOn_11 hgo
          ·
            rw [ht9.2] at hk_5
            exact va_get (D := (dC, dI)) (ci := 4) (v := .ref pa) (C := RX5) (T := TX5) (N := 7) hx hb hts (by decide +kernel) hown hK hP kk_4 hk_5 rfl 2 (by decide) (hts (.fieldLink RX4 31 "PageOne$Item" "pieces" "[LPageOne$Piece;") (by decide +kernel)) (fun _ h9 => h9) rfl dX4_isOn_11 hgo
          ·
            rw [ht9.2] at hk_5
            exact va_get (D := (dC, dI)) (ci := 5) (v := .ref pa) (C := RX6) (T := TX6) (N := 9) hx hb hts (by decide +kernel) hown hK hP kk_4 hk_5 rfl 2 (by decide) (hts (.fieldLink RX4 31 "PageOne$Item" "pieces" "[LPageOne$Piece;") (by decide +kernel)) (fun _ h9 => h9) rfl dX4_isOn_11 hgo
          ·
            rw [ht9.2] at hk_5
            exact va_get (D := (dC, dI)) (ci := 6) (v := .ref pa) (C := RX7) (T := TX7) (N := 8) hx hb hts (by decide +kernel) hown hK hP kk_4 hk_5 rfl 2 (by decide) (hts (.fieldLink RX4 31 "PageOne$Item" "pieces" "[LPageOne$Piece;") (by decide +kernel)) (fun _ h9 => h9) rfl dX4_isOn_11 hgo
          ·
            rw [ht9.2] at hk_5
            exact va_get (D := (dC, dI)) (ci := 9) (v := .ref pa) (C := RX10) (T := TX10) (N := 9) hx hb hts (by decide +kernel) hown hK hP kk_4 hk_5 rfl 2 (by decide) (hts (.fieldLink RX4 31 "PageOne$Item" "pieces" "[LPageOne$Piece;") (by decide +kernel)) (fun _ h9 => h9) rfl dX4_isOn_11 hgo
        ·
          refine lv_iload_n hx hb dX4_isOn_14 rfl (lv_at hl 0 rfl) ?_
          obtain ⟨kk_6, hk_7⟩ := pl_at hpa.1 hps
          refine va_aldq hx hb hK hP kk_6 5 hk_7 rfl (vp_in_nI (by omega) (by omega)) dX4_isOn_15 ?_
          obtain ⟨b_8, it_9, hg_10, hp_11, hlg_12⟩ := hpl ((nI i) : Int32).toNatClampNeg (by rw [nI_clamp (by omega)]; exact hlt)
          rw [hg_10]
          refine W.eq (g2 := F0 m 16 ls [.ref b_8]) rfl ?_
          obtain ⟨kk_13, hk_14⟩ := pl_at hp_11.1.1 (x_pcF hI hp_11)
          refine va_get (D := (dC, dI)) (ci := 7) (v := .int (Rm ((nI i) : Int32).toNatClampNeg 0)) (C := RX8) (T := TX8) (N := 6) hx hb hts (by decide +kernel) hown hK hP kk_13 hk_14 rfl 1 (by decide) (hts (.fieldLink RX4 45 "PageOne$Piece" "page" "I") (by decide +kernel)) (fun _ h9 => h9) rfl dX4_isOn_16 ?_
          refine lv_iload_n hx hb dX4_isOn_19 rfl (lv_at hl 2 rfl) ?_
          refine lv_icmp_ne (tgt := 25) hx hb dX4_isOn_20 (by decide) (fun c_15 => ?_) (fun c_15 => ?_)
          ·
            refine lv_iinc (v := (nI (i + 1))) (lv' := [(2, .int (nI (i + 1))), (0, .ref a0), (1, .int p0)]) hx hb dX4_isOn_25 hl (k := 0) rfl (nI_1 i) (by decide) rfl (fun ls hl => ?_)
            refine lv_goto (tgt := 2) hx hb dX4_isOn_28 (by decide) ?_
            exact ih (i + 1) ls (by omega) (by omega) (fr_1 hg (by have e9 : (nI i).toNatClampNeg = i := nI_clamp (by omega); (try simp only [e9] at c_15); simp [c_15])) (lv_sub hl [0, 1, 2] rfl)
          ·
            exact kx23 ls ⟨i, hlt, (by have e9 : (nI i).toNatClampNeg = i := nI_clamp (by omega); (try simp only [e9] at c_15); simp [c_15])⟩ (lv_sub hl [1, 2] rfl)
set_option maxHeartbeats 4000000 in
set_option maxRecDepth 100000 in
theorem y_isOn (l : Launch) (dC : Nat → ClassId) (dI : Nat → Nat → Nat) (q : Nat → ClassId) (h0 : Nat) (d : Nat → Nat) (k : Nat → Int32) (z : gS) (f : xF) (hI : xI q h0 d k z f) (a0 : Nat) (ha0 : itm z a0) (nu kd cn : Int32) (pa fa : Nat) (rs : List Value) (hs : f a0 = .inr (ciT (z.2 a0).1, itF nu kd pa cn fa rs)) (n : Nat) (g : Nat → Option Nat) (Rm : Nat → Nat → Int32) (hpa : tg z pa 16) (hps : f pa = aR (q 5) n g) (h1 : 1 ≤ n) (h6 : n ≤ 6) (hcb : bw cn 0 (nI n) = true) (hpl : pcL z g cn.toNatClampNeg Rm) (p0 : Int32) : Met l yX4_isOn wsX4_isOn ({ frames := 0, cells := 0, slots := 0, locals := 0 }) (va_Pc [.ref a0, .int p0] (PX dC dI (va_pl z.1 f) (xT q))) (vp_Si (fun r => r = bP (∃ j, j < cn.toNatClampNeg ∧ Rm j 0 = p0))) 0 0 (fun _ => False) := by
  refine Met.ofW (cc := cX4_isOn) (maxL := 3) (ret := (some .boolean)) (by decide) rfl ?_
  intro p e s m args below meth c s₁ B hml hv
  obtain ⟨rfl, ⟨hP, hK, hN⟩, hXN⟩ := hv
  have hx := B.exec
  have hb := B.bytes
  have hr := B.returns
  have hts := atoms_spec (ws := wsX4_isOn) B.pre
  have hown : s.vm.findClass RX4 = some m.cls := findClass_of_methodNamed B.named
  have hlocks := B.notSynchronized
  have hl := lv_entry ([.ref a0, .int p0]) (n := 3) (Nat.le_of_ble_eq_true rfl)
  rw [lg_entry_eq]
  generalize (lg_sl ([.ref a0, .int p0]) ++ List.replicate (3 - (lg_sl ([.ref a0, .int p0])).length) Slot.unset).toArray = ls at hl ⊢
  have hl : lv_has ls 3 [(0, .ref a0), (1, .int p0)] := hl
  refine lv_iconst (v := 0) hx hb dX4_isOn_0 (by decide) ?_
  refine lv_istore_n (lv' := [(2, .int 0), (0, .ref a0), (1, .int p0)]) hx hb dX4_isOn_1 rfl hl (by decide) rfl (fun ls hl => ?_)
  obtain ⟨K, hK1, -, eK⟩ := exN hcb (by decide)
  rw [nI_toInt (by omega)] at hK1
  subst eK
  have hplK : pcL z g K Rm := by rw [nI_clamp (by omega)] at hpl; exact hpl
  refine y_isOn_l hI hx hb hml hts hown hN hXN hK hP ha0 hs hpa hps (by omega) h6 hplK (fun ls hh hl => ?_) (fun ls hh hl => ?_) (K + 1) 0 ls (Nat.zero_le _) (by omega) (fun j hj => absurd hj (Nat.not_lt_zero _)) (lv_sub hl [0, 1, 2] rfl)
  ·
    refine lv_iconst (v := 0) hx hb dX4_isOn_31 (by decide) ?_
    exact W.zret (v := 0) hx hb hr (by decide) (fun t ht hW => ⟨_, rfl, (bP_f (fun h => by obtain ⟨j, hj, h9⟩ := h; rw [nI_clamp (by omega)] at hj; exact hh j hj h9)).symm, ht⟩) (fun q h => absurd h List.not_mem_nil) dX4_isOn_32
  ·
    refine lv_iconst (v := 1) hx hb dX4_isOn_23 (by decide) ?_
    exact W.zret (v := 1) hx hb hr (by decide) (fun t ht hW => ⟨_, rfl, (bP_t (by obtain ⟨j, hj, h9⟩ := hh; exact ⟨j, by rw [nI_clamp (by omega)]; exact hj, h9⟩)).symm, ht⟩) (fun q h => absurd h List.not_mem_nil) dX4_isOn_24
def s_tch (Rm : Nat → Nat → Int32) (P2 X2 Y2 D2 N2 p0 : Int32) (j : Nat) : Prop := ¬ s_isBeside (Rm j 0) (Rm j 1) (Rm j 2) (Rm j 3) (Rm j 4) P2 X2 Y2 D2 N2 = 0 ∨ (p0 = 0 ∧ ¬ s_isOverOrUnder (Rm j 0) (Rm j 1) (Rm j 2) (Rm j 3) (Rm j 4) P2 X2 Y2 D2 N2 = 0)
set_option maxHeartbeats 4000000 in
set_option maxRecDepth 100000 in
theorem y_touches_l {p : Program} {l : Launch} {e : Env} {R : Room} {s : State} {m : MethodId} {args : Array Value} {below : List Frame} {meth : Method} {c : Code} {Q : State → Prop} {cells slots : Nat} {dC : Nat → ClassId} {dI : Nat → Nat → Nat} {q : Nat → ClassId} {h0 : Nat} {d : Nat → Nat} {k : Nat → Int32} {z : gS} {f : xF} {H : Heap} {locs : List Loc} (hI : xI q h0 d k z f) (hx : p.tables.exec = Jvm.exec) (hb : c.code = cX4_touches) (hml : c.maxLocals = 4) (hts : ∀ w ∈ wsX4_touches, w.before args s = true) (hown : s.vm.findClass RX4 = some m.cls) (hN : NN s) (hXN : XN s) (hK : va_K (dC, dI) vwCl (xT q) s) (hRf : 1 ≤ R.frames) (hRl : 22 ≤ R.locals) (hRc : cells ≤ R.cells) (hRs : slots ≤ R.slots) (hP : va_P (dC, dI) vwCl (va_pl z.1 f) H) {a0 : Nat} {nu kd : Int32} {pa fa n K : Nat} {rs : List Value} {g : Nat → Option Nat} {Rm : Nat → Nat → Int32} (ha0 : itm z a0) (hs : f a0 = .inr (ciT (z.2 a0).1, itF nu kd pa (nI K) fa rs)) (hpa : tg z pa 16) (hps : f pa = aR (q 5) n g) (hKn : K ≤ n) (h6 : n ≤ 6) (hpl : pcL z g K Rm) {b0 : Nat} {iu : Option Nat} {P2 X2 Y2 D2 N2 p0 : Int32} (hpb : pcS z b0 iu P2 X2 Y2 D2 N2) (kx48 : ∀ (ls : Array Slot), (∀ j, j < K → ¬ s_tch Rm P2 X2 Y2 D2 N2 p0 j) → lv_has ls 4 [(0, .ref a0), (1, .ref b0), (2, .int p0)] → W p l e R s m args below meth c H locs cells slots Q (F0 m 48 ls [])) (kx40 : ∀ (ls : Array Slot), (∃ j, j < K ∧ s_tch Rm P2 X2 Y2 D2 N2 p0 j) → lv_has ls 4 [(0, .ref a0), (1, .ref b0), (2, .int p0)] → W p l e R s m args below meth c H locs cells slots Q (F0 m 40 ls [])) : ∀ (kk i : Nat) (ls : Array Slot), i ≤ K → K - i < kk → (∀ j, j < i → ¬ s_tch Rm P2 X2 Y2 D2 N2 p0 j) → lv_has ls 4 [(3, .int (nI i)), (0, .ref a0), (1, .ref b0), (2, .int p0)] → W p l e R s m args below meth c H locs cells slots Q (F0 m 2 ls []) := by
  intro kk
  induction kk with
  | zero => intro i ls h1 h2; exact absurd h2 (Nat.not_lt_zero _)
  | succ kk ih =>
    intro i ls hi hkk hg hl
    refine lv_iload_n hx hb dX4_touches_2 rfl (lv_at hl 0 rfl) ?_
    refine lv_aload_n hx hb dX4_touches_3 rfl (lv_at hl 1 rfl) ?_
    obtain ⟨kk_1, hk_2⟩ := pl_at ha0.1 hs
    refine w_then (F0 m 7 ls [.int (nI K), .int (nI i)]) (fun hgo => ?_) ?_
    ·
      rcases x_tag ha0 with ht9 | ht9 | ht9 | ht9 | ht9 | ht9
      ·
        rw [ht9.2] at hk_2
        exact va_get (D := (dC, dI)) (ci := 2) (v := .int (nI K)) (C := RX2) (T := TX2) (N := 7) hx hb hts (by decide +kernel) hown hK hP kk_1 hk_2 rfl 3 (by decide) (hts (.fieldLink RX4 9 "PageOne$Item" "count" "I") (by decide +kernel)) (fun _ h9 => h9) rfl dX4_touches_4 hgo
      ·
        rw [ht9.2] at hk_2
        exact va_get (D := (dC, dI)) (ci := 3) (v := .int (nI K)) (C := RX3) (T := TX3) (N := 8) hx hb hts (by decide +kernel) hown hK hP kk_1 hk_2 rfl 3 (by decide) (hts (.fieldLink RX4 9 "PageOne$Item" "count" "I") (by decide +kernel)) (fun _ h9 => h9) rfl dX4_touches_4 hgo
      ·
        rw [ht9.2] at hk_2
        exact va_get (D := (dC, dI)) (ci := 4) (v := .int (nI K)) (C := RX5) (T := TX5) (N := 7) hx hb hts (by decide +kernel) hown hK hP kk_1 hk_2 rfl 3 (by decide) (hts (.fieldLink RX4 9 "PageOne$Item" "count" "I") (by decide +kernel)) (fun _ h9 => h9) rfl dX4_touches_4 hgo
      ·
        rw [ht9.2] at hk_2
        exact va_get (D := (dC, dI)) (ci := 5) (v := .int (nI K)) (C := RX6) (T := TX6) (N := 9) hx hb hts (by decide +kernel) hown hK hP kk_1 hk_2 rfl 3 (by decide) (hts (.fieldLink RX4 9 "PageOne$Item" "count" "I") (by decide +kernel)) (fun _ h9 => h9) rfl dX4_touches_4 hgo
      ·
        rw [ht9.2] at hk_2
        exact va_get (D := (dC, dI)) (ci := 6) (v := .int (nI K)) (C := RX7) (T := TX7) (N := 8) hx hb hts (by decide +kernel) hown hK hP kk_1 hk_2 rfl 3 (by decide) (hts (.fieldLink RX4 9 "PageOne$Item" "count" "I") (by decide +kernel)) (fun _ h9 => h9) rfl dX4_touches_4 hgo
      ·
        rw [ht9.2] at hk_2
        exact va_get (D := (dC, dI)) (ci := 9) (v := .int (nI K)) (C := RX10) (T := TX10) (N := 9) hx hb hts (by decide +kernel) hown hK hP kk_1 hk_2 rfl 3 (by decide) (hts (.fieldLink RX4 9 "PageOne$Item" "count" "I") (by decide +kernel)) (fun _ h9 => h9) rfl dX4_touches_4 hgo
    ·
      refine lv_icmp_ge (tgt := 48) hx hb dX4_touches_7 (by decide) (fun c_3 => ?_) (fun c_3 => ?_)
      ·
        have hie : i = K := lp_eq rfl (by omega) hi c_3
        exact kx48 ls (by rw [← hie]; exact hg) (lv_sub hl [1, 2, 3] rfl)
      ·
        have hlt : i < K := lp_lt rfl (by omega) hi c_3
        refine lv_aload_n hx hb dX4_touches_10 rfl (lv_at hl 1 rfl) ?_
        obtain ⟨kk_4, hk_5⟩ := pl_at ha0.1 hs
        refine w_then (F0 m 14 ls [.ref pa]) (fun hgo => ?_) ?_
        ·
          rcases x_tag ha0 with ht9 | ht9 | ht9 | ht9 | ht9 | ht9
          ·
            rw [ht9.2] at hk_5
            exact va_get (D := (dC, dI)) (ci := 2) (v := .ref pa) (C := RX2) (T := TX2) (N := 7) hx hb hts (by decide +kernel) hown hK hP kk_4 hk_5 rfl 2 (by decide) (hts (.fieldLink RX4 31 "PageOne$Item" "pieces" "[LPageOne$Piece;") (by decide +kernel)) (fun _ h9 => h9) rfl dX4_touches_11 hgo
          ·
            rw [ht9.2] at hk_5
            exact va_get (D := (dC, dI)) (ci := 3) (v := .ref pa) (C := RX3) (T := TX3) (N := 8) hx hb hts (by decide +kernel) hown hK hP kk_4 hk_5 rfl 2 (by decide) (hts (.fieldLink RX4 31 "PageOne$Item" "pieces" "[LPageOne$Piece;") (by decide +kernel)) (fun _ h9 => h9) rfl dX4_touches_11 hgo
          ·
            rw [ht9.2] at hk_5
            exact va_get (D := (dC, dI)) (ci := 4) (v := .ref pa) (C := RX5) (T := TX5) (N := 7) hx hb hts (by decide +kernel) hown hK hP kk_4 hk_5 rfl 2 (by decide) (hts (.fieldLink RX4 31 "PageOne$Item" "pieces" "[LPageOne$Piece;") (by decide +kernel)) (fun _ h9 => h9) rfl dX4_touches_11 hgo
          ·
            rw [ht9.2] at hk_5
            exact va_get (D := (dC, dI)) (ci := 5) (v := .ref pa) (C := RX6) (T := TX6) (N := 9) hx hb hts (by decide +kernel) hown hK hP kk_4 hk_5 rfl 2 (by decide) (hts (.fieldLink RX4 31 "PageOne$Item" "pieces" "[LPageOne$Piece;") (by decide +kernel)) (fun _ h9 => h9) rfl dX4_touches_11 hgo
          ·
            rw [ht9.2] at hk_5
            exact va_get (D := (dC, dI)) (ci := 6) (v := .ref pa) (C := RX7) (T := TX7) (N := 8) hx hb hts (by decide +kernel) hown hK hP kk_4 hk_5 rfl 2 (by decide) (hts (.fieldLink RX4 31 "PageOne$Item" "pieces" "[LPageOne$Piece;") (by decide +kernel)) (fun _ h9 => h9) rfl dX4_touches_11 hgo
          ·
            rw [ht9.2] at hk_5
            exact va_get (D := (dC, dI)) (ci := 9) (v := .ref pa) (C := RX10) (T := TX10) (N := 9) hx hb hts (by decide +kernel) hown hK hP kk_4 hk_5 rfl 2 (by decide) (hts (.fieldLink RX4 31 "PageOne$Item" "pieces" "[LPageOne$Piece;") (by decide +kernel)) (fun _ h9 => h9) rfl dX4_touches_11 hgo
        ·
          refine lv_iload_n hx hb dX4_touches_14 rfl (lv_at hl 0 rfl) ?_
          obtain ⟨kk_6, hk_7⟩ := pl_at hpa.1 hps
          refine va_aldq hx hb hK hP kk_6 5 hk_7 rfl (vp_in_nI (by omega) (by omega)) dX4_touches_15 ?_
          obtain ⟨b_8, it_9, hg_10, hp_11, hlg_12⟩ := hpl ((nI i) : Int32).toNatClampNeg (by rw [nI_clamp (by omega)]; exact hlt)
          rw [hg_10]
          refine W.eq (g2 := F0 m 16 ls [.ref b_8]) rfl ?_
          refine lv_aload_n hx hb dX4_touches_16 rfl (lv_at hl 2 rfl) ?_
          obtain ⟨kk_13, hk_14⟩ := pl_at hp_11.1.1 (x_pcF hI hp_11)
          refine vp_callSi (va_runV (As := [.ref b0]) (rest := []) ⟨hx, hb, hml, hown, hts⟩ (y_isBeside l dC dI q h0 d k z f hI b_8 it_9 (Rm ((nI i) : Int32).toNatClampNeg 0) (Rm ((nI i) : Int32).toNatClampNeg 1) (Rm ((nI i) : Int32).toNatClampNeg 2) (Rm ((nI i) : Int32).toNatClampNeg 3) (Rm ((nI i) : Int32).toNatClampNeg 4) hp_11 b0 iu P2 X2 Y2 D2 N2 hpb) (cwV 1 hts gX4_touches_X8_isBeside rfl rfl rfl (by decide +kernel) ⟨Nat.le_trans (Nat.le_of_ble_eq_true rfl) hRf, Nat.le_trans (Nat.le_of_ble_eq_true rfl) hRl⟩) ⟨px_fb, va_recv hK hP (ci := 7) (q0 := kk_13) rfl hk_14, fun U hU hW => ⟨rfl, px_to hU hW hP hK hN hXN⟩⟩ rfl rfl hl.1 rfl (lv_room (Nat.le_of_ble_eq_true rfl)) dX4_touches_17 ⟨hRc, hRs⟩).run (fun r hw => ?_)
          obtain rfl : r = (s_isBeside (Rm ((nI i) : Int32).toNatClampNeg 0) (Rm ((nI i) : Int32).toNatClampNeg 1) (Rm ((nI i) : Int32).toNatClampNeg 2) (Rm ((nI i) : Int32).toNatClampNeg 3) (Rm ((nI i) : Int32).toNatClampNeg 4) P2 X2 Y2 D2 N2) := hw
          refine lv_if_ne (tgt := 40) hx hb dX4_touches_20 (by decide) (fun c_15 => ?_) (fun c_15 => ?_)
          ·
            exact kx40 ls ⟨i, hlt, (by have e9 : (nI i).toNatClampNeg = i := nI_clamp (by omega); (try simp only [e9] at c_15); unfold s_tch; simp [c_15])⟩ (lv_sub hl [1, 2, 3] rfl)
          ·
            refine lv_iload_n hx hb dX4_touches_23 rfl (lv_at hl 3 rfl) ?_
            refine lv_if_ne (tgt := 42) hx hb dX4_touches_24 (by decide) (fun c_16 => ?_) (fun c_16 => ?_)
            ·
              refine lv_iinc (v := (nI (i + 1))) (lv' := [(3, .int (nI (i + 1))), (0, .ref a0), (1, .ref b0), (2, .int p0)]) hx hb dX4_touches_42 hl (k := 0) rfl (nI_1 i) (by decide) rfl (fun ls hl => ?_)
              refine lv_goto (tgt := 2) hx hb dX4_touches_45 (by decide) ?_
              exact ih (i + 1) ls (by omega) (by omega) (fr_1 hg (by have e9 : (nI i).toNatClampNeg = i := nI_clamp (by omega); (try simp only [e9] at c_15); (try simp only [e9] at c_16); unfold s_tch; simp [c_15, c_16])) (lv_sub hl [0, 1, 2, 3] rfl)
            ·
              refine lv_aload_n hx hb dX4_touches_27 rfl (lv_at hl 1 rfl) ?_
              obtain ⟨kk_17, hk_18⟩ := pl_at ha0.1 hs
              refine w_then (F0 m 31 ls [.ref pa]) (fun hgo => ?_) ?_
              ·
                rcases x_tag ha0 with ht9 | ht9 | ht9 | ht9 | ht9 | ht9
                ·
                  rw [ht9.2] at hk_18
                  exact va_get (D := (dC, dI)) (ci := 2) (v := .ref pa) (C := RX2) (T := TX2) (N := 7) hx hb hts (by decide +kernel) hown hK hP kk_17 hk_18 rfl 2 (by decide) (hts (.fieldLink RX4 31 "PageOne$Item" "pieces" "[LPageOne$Piece;") (by decide +kernel)) (fun _ h9 => h9) rfl dX4_touches_28 hgo
                ·
                  rw [ht9.2] at hk_18
                  exact va_get (D := (dC, dI)) (ci := 3) (v := .ref pa) (C := RX3) (T := TX3) (N := 8) hx hb hts (by decide +kernel) hown hK hP kk_17 hk_18 rfl 2 (by decide) (hts (.fieldLink RX4 31 "PageOne$Item" "pieces" "[LPageOne$Piece;") (by decide +kernel)) (fun _ h9 => h9) rfl dX4_touches_28 hgo
                ·
                  rw [ht9.2] at hk_18
                  exact va_get (D := (dC, dI)) (ci := 4) (v := .ref pa) (C := RX5) (T := TX5) (N := 7) hx hb hts (by decide +kernel) hown hK hP kk_17 hk_18 rfl 2 (by decide) (hts (.fieldLink RX4 31 "PageOne$Item" "pieces" "[LPageOne$Piece;") (by decide +kernel)) (fun _ h9 => h9) rfl dX4_touches_28 hgo
                ·
                  rw [ht9.2] at hk_18
                  exact va_get (D := (dC, dI)) (ci := 5) (v := .ref pa) (C := RX6) (T := TX6) (N := 9) hx hb hts (by decide +kernel) hown hK hP kk_17 hk_18 rfl 2 (by decide) (hts (.fieldLink RX4 31 "PageOne$Item" "pieces" "[LPageOne$Piece;") (by decide +kernel)) (fun _ h9 => h9) rfl dX4_touches_28 hgo
                ·
                  rw [ht9.2] at hk_18
                  exact va_get (D := (dC, dI)) (ci := 6) (v := .ref pa) (C := RX7) (T := TX7) (N := 8) hx hb hts (by decide +kernel) hown hK hP kk_17 hk_18 rfl 2 (by decide) (hts (.fieldLink RX4 31 "PageOne$Item" "pieces" "[LPageOne$Piece;") (by decide +kernel)) (fun _ h9 => h9) rfl dX4_touches_28 hgo
                ·
                  rw [ht9.2] at hk_18
                  exact va_get (D := (dC, dI)) (ci := 9) (v := .ref pa) (C := RX10) (T := TX10) (N := 9) hx hb hts (by decide +kernel) hown hK hP kk_17 hk_18 rfl 2 (by decide) (hts (.fieldLink RX4 31 "PageOne$Item" "pieces" "[LPageOne$Piece;") (by decide +kernel)) (fun _ h9 => h9) rfl dX4_touches_28 hgo
              ·
                refine lv_iload_n hx hb dX4_touches_31 rfl (lv_at hl 0 rfl) ?_
                obtain ⟨kk_19, hk_20⟩ := pl_at hpa.1 hps
                refine va_aldq hx hb hK hP kk_19 5 hk_20 rfl (vp_in_nI (by omega) (by omega)) dX4_touches_32 ?_
                obtain ⟨b_21, it_22, hg_23, hp_24, hlg_25⟩ := hpl ((nI i) : Int32).toNatClampNeg (by rw [nI_clamp (by omega)]; exact hlt)
                rw [hg_23]
                refine W.eq (g2 := F0 m 33 ls [.ref b_21]) rfl ?_
                refine lv_aload_n hx hb dX4_touches_33 rfl (lv_at hl 2 rfl) ?_
                obtain ⟨kk_26, hk_27⟩ := pl_at hp_24.1.1 (x_pcF hI hp_24)
                refine vp_callSi (va_runV (As := [.ref b0]) (rest := []) ⟨hx, hb, hml, hown, hts⟩ (y_isOverOrUnder l dC dI q h0 d k z f hI b_21 it_22 (Rm ((nI i) : Int32).toNatClampNeg 0) (Rm ((nI i) : Int32).toNatClampNeg 1) (Rm ((nI i) : Int32).toNatClampNeg 2) (Rm ((nI i) : Int32).toNatClampNeg 3) (Rm ((nI i) : Int32).toNatClampNeg 4) hp_24 b0 iu P2 X2 Y2 D2 N2 hpb) (cwV 1 hts gX4_touches_X8_isOverOrUnder rfl rfl rfl (by decide +kernel) ⟨Nat.le_trans (Nat.le_of_ble_eq_true rfl) hRf, Nat.le_trans (Nat.le_of_ble_eq_true rfl) hRl⟩) ⟨px_fb, va_recv hK hP (ci := 7) (q0 := kk_26) rfl hk_27, fun U hU hW => ⟨rfl, px_to hU hW hP hK hN hXN⟩⟩ rfl rfl hl.1 rfl (lv_room (Nat.le_of_ble_eq_true rfl)) dX4_touches_34 ⟨hRc, hRs⟩).run (fun r hw => ?_)
                obtain rfl : r = (s_isOverOrUnder (Rm ((nI i) : Int32).toNatClampNeg 0) (Rm ((nI i) : Int32).toNatClampNeg 1) (Rm ((nI i) : Int32).toNatClampNeg 2) (Rm ((nI i) : Int32).toNatClampNeg 3) (Rm ((nI i) : Int32).toNatClampNeg 4) P2 X2 Y2 D2 N2) := hw
                refine lv_if_eq (tgt := 42) hx hb dX4_touches_37 (by decide) (fun c_28 => ?_) (fun c_28 => ?_)
                ·
                  refine lv_iinc (v := (nI (i + 1))) (lv' := [(3, .int (nI (i + 1))), (0, .ref a0), (1, .ref b0), (2, .int p0)]) hx hb dX4_touches_42 hl (k := 0) rfl (nI_1 i) (by decide) rfl (fun ls hl => ?_)
                  refine lv_goto (tgt := 2) hx hb dX4_touches_45 (by decide) ?_
                  exact ih (i + 1) ls (by omega) (by omega) (fr_1 hg (by have e9 : (nI i).toNatClampNeg = i := nI_clamp (by omega); (try simp only [e9] at c_15); (try simp only [e9] at c_16); (try simp only [e9] at c_28); unfold s_tch; simp [c_15, c_16, c_28])) (lv_sub hl [0, 1, 2, 3] rfl)
                ·
                  exact kx40 ls ⟨i, hlt, (by have e9 : (nI i).toNatClampNeg = i := nI_clamp (by omega); (try simp only [e9] at c_15); (try simp only [e9] at c_16); (try simp only [e9] at c_28); unfold s_tch; simp [c_15, c_16, c_28])⟩ (lv_sub hl [1, 2, 3] rfl)
set_option maxHeartbeats 4000000 in
set_option maxRecDepth 100000 in
theorem y_touches (l : Launch) (dC : Nat → ClassId) (dI : Nat → Nat → Nat) (q : Nat → ClassId) (h0 : Nat) (d : Nat → Nat) (k : Nat → Int32) (z : gS) (f : xF) (hI : xI q h0 d k z f) (a0 : Nat) (ha0 : itm z a0) (nu kd cn : Int32) (pa fa : Nat) (rs : List Value) (hs : f a0 = .inr (ciT (z.2 a0).1, itF nu kd pa cn fa rs)) (n : Nat) (g : Nat → Option Nat) (Rm : Nat → Nat → Int32) (hpa : tg z pa 16) (hps : f pa = aR (q 5) n g) (h1 : 1 ≤ n) (h6 : n ≤ 6) (hcb : bw cn 0 (nI n) = true) (hpl : pcL z g cn.toNatClampNeg Rm) (b0 : Nat) (iu : Option Nat) (P2 X2 Y2 D2 N2 : Int32) (hpb : pcS z b0 iu P2 X2 Y2 D2 N2) (p0 : Int32) : Met l yX4_touches wsX4_touches ({ frames := 1, cells := 0, slots := 0, locals := 22 }) (va_Pc [.ref a0, .ref b0, .int p0] (PX dC dI (va_pl z.1 f) (xT q))) (vp_Si (fun r => r = bP (∃ j, j < cn.toNatClampNeg ∧ s_tch Rm P2 X2 Y2 D2 N2 p0 j))) 0 0 (fun _ => False) := by
  refine Met.ofW (cc := cX4_touches) (maxL := 4) (ret := (some .boolean)) (by decide) rfl ?_
  intro p e s m args below meth c s₁ B hml hv
  obtain ⟨rfl, ⟨hP, hK, hN⟩, hXN⟩ := hv
  have hx := B.exec
  have hb := B.bytes
  have hr := B.returns
  have hts := atoms_spec (ws := wsX4_touches) B.pre
  have hown : s.vm.findClass RX4 = some m.cls := findClass_of_methodNamed B.named
  have hlocks := B.notSynchronized
  have hl := lv_entry ([.ref a0, .ref b0, .int p0]) (n := 4) (Nat.le_of_ble_eq_true rfl)
  rw [lg_entry_eq]
  generalize (lg_sl ([.ref a0, .ref b0, .int p0]) ++ List.replicate (4 - (lg_sl ([.ref a0, .ref b0, .int p0])).length) Slot.unset).toArray = ls at hl ⊢
  have hl : lv_has ls 4 [(0, .ref a0), (1, .ref b0), (2, .int p0)] := hl
  refine lv_iconst (v := 0) hx hb dX4_touches_0 (by decide) ?_
  refine lv_istore_n (lv' := [(3, .int 0), (0, .ref a0), (1, .ref b0), (2, .int p0)]) hx hb dX4_touches_1 rfl hl (by decide) rfl (fun ls hl => ?_)
  obtain ⟨K, hK1, -, eK⟩ := exN hcb (by decide)
  rw [nI_toInt (by omega)] at hK1
  subst eK
  have hplK : pcL z g K Rm := by rw [nI_clamp (by omega)] at hpl; exact hpl
  refine y_touches_l hI hx hb hml hts hown hN hXN hK (Nat.le_of_ble_eq_true rfl) (Nat.le_of_ble_eq_true rfl) (Nat.le_of_ble_eq_true rfl) (Nat.le_of_ble_eq_true rfl) hP ha0 hs hpa hps (by omega) h6 hplK hpb (fun ls hh hl => ?_) (fun ls hh hl => ?_) (K + 1) 0 ls (Nat.zero_le _) (by omega) (fun j hj => absurd hj (Nat.not_lt_zero _)) (lv_sub hl [0, 1, 2, 3] rfl)
  ·
    refine lv_iconst (v := 0) hx hb dX4_touches_48 (by decide) ?_
    exact W.zret (v := 0) hx hb hr (by decide) (fun t ht hW => ⟨_, rfl, (bP_f (fun h => by obtain ⟨j, hj, h9⟩ := h; rw [nI_clamp (by omega)] at hj; exact hh j hj h9)).symm, ht⟩) (fun q h => absurd h List.not_mem_nil) dX4_touches_49
  ·
    refine lv_iconst (v := 1) hx hb dX4_touches_40 (by decide) ?_
    exact W.zret (v := 1) hx hb hr (by decide) (fun t ht hW => ⟨_, rfl, (bP_t (by obtain ⟨j, hj, h9⟩ := hh; exact ⟨j, by rw [nI_clamp (by omega)]; exact hj, h9⟩)).symm, ht⟩) (fun q h => absurd h List.not_mem_nil) dX4_touches_41
def s_mt (Rm R2 : Nat → Nat → Int32) (cn2 p0 p1 : Int32) (j : Nat) : Prop := Rm j 0 = p0 ∧ ¬ bP (∃ j2, j2 < cn2.toNatClampNeg ∧ s_tch R2 (Rm j 0) (Rm j 1) (Rm j 2) (Rm j 3) (Rm j 4) p1 j2) = 0
set_option maxHeartbeats 4000000 in
set_option maxRecDepth 100000 in
theorem y_meets_l {p : Program} {l : Launch} {e : Env} {R : Room} {s : State} {m : MethodId} {args : Array Value} {below : List Frame} {meth : Method} {c : Code} {Q : State → Prop} {cells slots : Nat} {dC : Nat → ClassId} {dI : Nat → Nat → Nat} {q : Nat → ClassId} {h0 : Nat} {d : Nat → Nat} {k : Nat → Int32} {z : gS} {f : xF} {H : Heap} {locs : List Loc} (hI : xI q h0 d k z f) (hx : p.tables.exec = Jvm.exec) (hb : c.code = cX4_meets) (hml : c.maxLocals = 5) (hts : ∀ w ∈ wsX4_meets, w.before args s = true) (hown : s.vm.findClass RX4 = some m.cls) (hN : NN s) (hXN : XN s) (hK : va_K (dC, dI) vwCl (xT q) s) (hRf : 2 ≤ R.frames) (hRl : 45 ≤ R.locals) (hRc : cells ≤ R.cells) (hRs : slots ≤ R.slots) (hP : va_P (dC, dI) vwCl (va_pl z.1 f) H) {a0 : Nat} {nu kd : Int32} {pa fa n K : Nat} {rs : List Value} {g : Nat → Option Nat} {Rm : Nat → Nat → Int32} (ha0 : itm z a0) (hs : f a0 = .inr (ciT (z.2 a0).1, itF nu kd pa (nI K) fa rs)) (hpa : tg z pa 16) (hps : f pa = aR (q 5) n g) (hKn : K ≤ n) (h6 : n ≤ 6) (hpl : pcL z g K Rm) {c0 : Nat} (hc0 : itm z c0) {nu2 kd2 cn2 : Int32} {pa2 fa2 : Nat} {rs2 : List Value} (hs2 : f c0 = .inr (ciT (z.2 c0).1, itF nu2 kd2 pa2 cn2 fa2 rs2)) {n2 : Nat} {g2 : Nat → Option Nat} {R2 : Nat → Nat → Int32} (hpa2 : tg z pa2 16) (hps2 : f pa2 = aR (q 5) n2 g2) (h12 : 1 ≤ n2) (h62 : n2 ≤ 6) (hcb2 : bw cn2 0 (nI n2) = true) (hpl2 : pcL z g2 cn2.toNatClampNeg R2) {p0 p1 : Int32} (kx49 : ∀ (ls : Array Slot), (∀ j, j < K → ¬ s_mt Rm R2 cn2 p0 p1 j) → lv_has ls 5 [(0, .ref a0), (1, .ref c0), (2, .int p0), (3, .int p1)] → W p l e R s m args below meth c H locs cells slots Q (F0 m 49 ls [])) (kx41 : ∀ (ls : Array Slot), (∃ j, j < K ∧ s_mt Rm R2 cn2 p0 p1 j) → lv_has ls 5 [(0, .ref a0), (1, .ref c0), (2, .int p0), (3, .int p1)] → W p l e R s m args below meth c H locs cells slots Q (F0 m 41 ls [])) : ∀ (kk i : Nat) (ls : Array Slot), i ≤ K → K - i < kk → (∀ j, j < i → ¬ s_mt Rm R2 cn2 p0 p1 j) → lv_has ls 5 [(4, .int (nI i)), (0, .ref a0), (1, .ref c0), (2, .int p0), (3, .int p1)] → W p l e R s m args below meth c H locs cells slots Q (F0 m 3 ls []) := by
  intro kk
  induction kk with
  | zero => intro i ls h1 h2; exact absurd h2 (Nat.not_lt_zero _)
  | succ kk ih =>
    intro i ls hi hkk hg hl
    refine lv_iload hx hb dX4_meets_3 (lv_at hl 0 rfl) ?_
    refine lv_aload_n hx hb dX4_meets_5 rfl (lv_at hl 1 rfl) ?_
    obtain ⟨kk_1, hk_2⟩ := pl_at ha0.1 hs
    refine w_then (F0 m 9 ls [.int (nI K), .int (nI i)]) (fun hgo => ?_) ?_
    ·
      rcases x_tag ha0 with ht9 | ht9 | ht9 | ht9 | ht9 | ht9
      ·
        rw [ht9.2] at hk_2
        exact va_get (D := (dC, dI)) (ci := 2) (v := .int (nI K)) (C := RX2) (T := TX2) (N := 7) hx hb hts (by decide +kernel) hown hK hP kk_1 hk_2 rfl 3 (by decide) (hts (.fieldLink RX4 9 "PageOne$Item" "count" "I") (by decide +kernel)) (fun _ h9 => h9) rfl dX4_meets_6 hgo
      ·
        rw [ht9.2] at hk_2
        exact va_get (D := (dC, dI)) (ci := 3) (v := .int (nI K)) (C := RX3) (T := TX3) (N := 8) hx hb hts (by decide +kernel) hown hK hP kk_1 hk_2 rfl 3 (by decide) (hts (.fieldLink RX4 9 "PageOne$Item" "count" "I") (by decide +kernel)) (fun _ h9 => h9) rfl dX4_meets_6 hgo
      ·
        rw [ht9.2] at hk_2
        exact va_get (D := (dC, dI)) (ci := 4) (v := .int (nI K)) (C := RX5) (T := TX5) (N := 7) hx hb hts (by decide +kernel) hown hK hP kk_1 hk_2 rfl 3 (by decide) (hts (.fieldLink RX4 9 "PageOne$Item" "count" "I") (by decide +kernel)) (fun _ h9 => h9) rfl dX4_meets_6 hgo
      ·
        rw [ht9.2] at hk_2
        exact va_get (D := (dC, dI)) (ci := 5) (v := .int (nI K)) (C := RX6) (T := TX6) (N := 9) hx hb hts (by decide +kernel) hown hK hP kk_1 hk_2 rfl 3 (by decide) (hts (.fieldLink RX4 9 "PageOne$Item" "count" "I") (by decide +kernel)) (fun _ h9 => h9) rfl dX4_meets_6 hgo
      ·
        rw [ht9.2] at hk_2
        exact va_get (D := (dC, dI)) (ci := 6) (v := .int (nI K)) (C := RX7) (T := TX7) (N := 8) hx hb hts (by decide +kernel) hown hK hP kk_1 hk_2 rfl 3 (by decide) (hts (.fieldLink RX4 9 "PageOne$Item" "count" "I") (by decide +kernel)) (fun _ h9 => h9) rfl dX4_meets_6 hgo
      ·
        rw [ht9.2] at hk_2
        exact va_get (D := (dC, dI)) (ci := 9) (v := .int (nI K)) (C := RX10) (T := TX10) (N := 9) hx hb hts (by decide +kernel) hown hK hP kk_1 hk_2 rfl 3 (by decide) (hts (.fieldLink RX4 9 "PageOne$Item" "count" "I") (by decide +kernel)) (fun _ h9 => h9) rfl dX4_meets_6 hgo
    ·
      refine lv_icmp_ge (tgt := 49) hx hb dX4_meets_9 (by decide) (fun c_3 => ?_) (fun c_3 => ?_)
      ·
        have hie : i = K := lp_eq rfl (by omega) hi c_3
        exact kx49 ls (by rw [← hie]; exact hg) (lv_sub hl [1, 2, 3, 4] rfl)
      ·
        have hlt : i < K := lp_lt rfl (by omega) hi c_3
        refine lv_aload_n hx hb dX4_meets_12 rfl (lv_at hl 1 rfl) ?_
        obtain ⟨kk_4, hk_5⟩ := pl_at ha0.1 hs
        refine w_then (F0 m 16 ls [.ref pa]) (fun hgo => ?_) ?_
        ·
          rcases x_tag ha0 with ht9 | ht9 | ht9 | ht9 | ht9 | ht9
          ·
            rw [ht9.2] at hk_5
            exact va_get (D := (dC, dI)) (ci := 2) (v := .ref pa) (C := RX2) (T := TX2) (N := 7) hx hb hts (by decide +kernel) hown hK hP kk_4 hk_5 rfl 2 (by decide) (hts (.fieldLink RX4 31 "PageOne$Item" "pieces" "[LPageOne$Piece;") (by decide +kernel)) (fun _ h9 => h9) rfl dX4_meets_13 hgo
          ·
            rw [ht9.2] at hk_5
            exact va_get (D := (dC, dI)) (ci := 3) (v := .ref pa) (C := RX3) (T := TX3) (N := 8) hx hb hts (by decide +kernel) hown hK hP kk_4 hk_5 rfl 2 (by decide) (hts (.fieldLink RX4 31 "PageOne$Item" "pieces" "[LPageOne$Piece;") (by decide +kernel)) (fun _ h9 => h9) rfl dX4_meets_13 hgo
          ·
            rw [ht9.2] at hk_5
            exact va_get (D := (dC, dI)) (ci := 4) (v := .ref pa) (C := RX5) (T := TX5) (N := 7) hx hb hts (by decide +kernel) hown hK hP kk_4 hk_5 rfl 2 (by decide) (hts (.fieldLink RX4 31 "PageOne$Item" "pieces" "[LPageOne$Piece;") (by decide +kernel)) (fun _ h9 => h9) rfl dX4_meets_13 hgo
          ·
            rw [ht9.2] at hk_5
            exact va_get (D := (dC, dI)) (ci := 5) (v := .ref pa) (C := RX6) (T := TX6) (N := 9) hx hb hts (by decide +kernel) hown hK hP kk_4 hk_5 rfl 2 (by decide) (hts (.fieldLink RX4 31 "PageOne$Item" "pieces" "[LPageOne$Piece;") (by decide +kernel)) (fun _ h9 => h9) rfl dX4_meets_13 hgo
          ·
            rw [ht9.2] at hk_5
            exact va_get (D := (dC, dI)) (ci := 6) (v := .ref pa) (C := RX7) (T := TX7) (N := 8) hx hb hts (by decide +kernel) hown hK hP kk_4 hk_5 rfl 2 (by decide) (hts (.fieldLink RX4 31 "PageOne$Item" "pieces" "[LPageOne$Piece;") (by decide +kernel)) (fun _ h9 => h9) rfl dX4_meets_13 hgo
          ·
            rw [ht9.2] at hk_5
            exact va_get (D := (dC, dI)) (ci := 9) (v := .ref pa) (C := RX10) (T := TX10) (N := 9) hx hb hts (by decide +kernel) hown hK hP kk_4 hk_5 rfl 2 (by decide) (hts (.fieldLink RX4 31 "PageOne$Item" "pieces" "[LPageOne$Piece;") (by decide +kernel)) (fun _ h9 => h9) rfl dX4_meets_13 hgo
        ·
          refine lv_iload hx hb dX4_meets_16 (lv_at hl 0 rfl) ?_
          obtain ⟨kk_6, hk_7⟩ := pl_at hpa.1 hps
          refine va_aldq hx hb hK hP kk_6 5 hk_7 rfl (vp_in_nI (by omega) (by omega)) dX4_meets_18 ?_
          obtain ⟨b_8, it_9, hg_10, hp_11, hlg_12⟩ := hpl ((nI i) : Int32).toNatClampNeg (by rw [nI_clamp (by omega)]; exact hlt)
          rw [hg_10]
          refine W.eq (g2 := F0 m 19 ls [.ref b_8]) rfl ?_
          obtain ⟨kk_13, hk_14⟩ := pl_at hp_11.1.1 (x_pcF hI hp_11)
          refine va_get (D := (dC, dI)) (ci := 7) (v := .int (Rm ((nI i) : Int32).toNatClampNeg 0)) (C := RX8) (T := TX8) (N := 6) hx hb hts (by decide +kernel) hown hK hP kk_13 hk_14 rfl 1 (by decide) (hts (.fieldLink RX4 45 "PageOne$Piece" "page" "I") (by decide +kernel)) (fun _ h9 => h9) rfl dX4_meets_19 ?_
          refine lv_iload_n hx hb dX4_meets_22 rfl (lv_at hl 3 rfl) ?_
          refine lv_icmp_ne (tgt := 43) hx hb dX4_meets_23 (by decide) (fun c_15 => ?_) (fun c_15 => ?_)
          ·
            refine lv_iinc (v := (nI (i + 1))) (lv' := [(4, .int (nI (i + 1))), (0, .ref a0), (1, .ref c0), (2, .int p0), (3, .int p1)]) hx hb dX4_meets_43 hl (k := 0) rfl (nI_1 i) (by decide) rfl (fun ls hl => ?_)
            refine lv_goto (tgt := 3) hx hb dX4_meets_46 (by decide) ?_
            exact ih (i + 1) ls (by omega) (by omega) (fr_1 hg (by have e9 : (nI i).toNatClampNeg = i := nI_clamp (by omega); (try simp only [e9] at c_15); exact fun h => c_15 h.1)) (lv_sub hl [0, 1, 2, 3, 4] rfl)
          ·
            refine lv_aload_n hx hb dX4_meets_26 rfl (lv_at hl 2 rfl) ?_
            refine lv_aload_n hx hb dX4_meets_27 rfl (lv_at hl 1 rfl) ?_
            obtain ⟨kk_16, hk_17⟩ := pl_at ha0.1 hs
            refine w_then (F0 m 31 ls [.ref pa, .ref c0]) (fun hgo => ?_) ?_
            ·
              rcases x_tag ha0 with ht9 | ht9 | ht9 | ht9 | ht9 | ht9
              ·
                rw [ht9.2] at hk_17
                exact va_get (D := (dC, dI)) (ci := 2) (v := .ref pa) (C := RX2) (T := TX2) (N := 7) hx hb hts (by decide +kernel) hown hK hP kk_16 hk_17 rfl 2 (by decide) (hts (.fieldLink RX4 31 "PageOne$Item" "pieces" "[LPageOne$Piece;") (by decide +kernel)) (fun _ h9 => h9) rfl dX4_meets_28 hgo
              ·
                rw [ht9.2] at hk_17
                exact va_get (D := (dC, dI)) (ci := 3) (v := .ref pa) (C := RX3) (T := TX3) (N := 8) hx hb hts (by decide +kernel) hown hK hP kk_16 hk_17 rfl 2 (by decide) (hts (.fieldLink RX4 31 "PageOne$Item" "pieces" "[LPageOne$Piece;") (by decide +kernel)) (fun _ h9 => h9) rfl dX4_meets_28 hgo
              ·
                rw [ht9.2] at hk_17
                exact va_get (D := (dC, dI)) (ci := 4) (v := .ref pa) (C := RX5) (T := TX5) (N := 7) hx hb hts (by decide +kernel) hown hK hP kk_16 hk_17 rfl 2 (by decide) (hts (.fieldLink RX4 31 "PageOne$Item" "pieces" "[LPageOne$Piece;") (by decide +kernel)) (fun _ h9 => h9) rfl dX4_meets_28 hgo
              ·
                rw [ht9.2] at hk_17
                exact va_get (D := (dC, dI)) (ci := 5) (v := .ref pa) (C := RX6) (T := TX6) (N := 9) hx hb hts (by decide +kernel) hown hK hP kk_16 hk_17 rfl 2 (by decide) (hts (.fieldLink RX4 31 "PageOne$Item" "pieces" "[LPageOne$Piece;") (by decide +kernel)) (fun _ h9 => h9) rfl dX4_meets_28 hgo
              ·
                rw [ht9.2] at hk_17
                exact va_get (D := (dC, dI)) (ci := 6) (v := .ref pa) (C := RX7) (T := TX7) (N := 8) hx hb hts (by decide +kernel) hown hK hP kk_16 hk_17 rfl 2 (by decide) (hts (.fieldLink RX4 31 "PageOne$Item" "pieces" "[LPageOne$Piece;") (by decide +kernel)) (fun _ h9 => h9) rfl dX4_meets_28 hgo
              ·
                rw [ht9.2] at hk_17
                exact va_get (D := (dC, dI)) (ci := 9) (v := .ref pa) (C := RX10) (T := TX10) (N := 9) hx hb hts (by decide +kernel) hown hK hP kk_16 hk_17 rfl 2 (by decide) (hts (.fieldLink RX4 31 "PageOne$Item" "pieces" "[LPageOne$Piece;") (by decide +kernel)) (fun _ h9 => h9) rfl dX4_meets_28 hgo
            ·
              refine lv_iload hx hb dX4_meets_31 (lv_at hl 0 rfl) ?_
              obtain ⟨kk_18, hk_19⟩ := pl_at hpa.1 hps
              refine va_aldq hx hb hK hP kk_18 5 hk_19 rfl (vp_in_nI (by omega) (by omega)) dX4_meets_33 ?_
              obtain ⟨b_20, it_21, hg_22, hp_23, hlg_24⟩ := hpl ((nI i) : Int32).toNatClampNeg (by rw [nI_clamp (by omega)]; exact hlt)
              rw [hg_22]
              refine W.eq (g2 := F0 m 34 ls [.ref b_20, .ref c0]) rfl ?_
              refine lv_iload_n hx hb dX4_meets_34 rfl (lv_at hl 4 rfl) ?_
              refine w_cut (X := fun R cells slots Q args => ∀ r : Int32, (r = (bP (∃ j2, j2 < cn2.toNatClampNeg ∧ s_tch R2 (Rm ((nI i) : Int32).toNatClampNeg 0) (Rm ((nI i) : Int32).toNatClampNeg 1) (Rm ((nI i) : Int32).toNatClampNeg 2) (Rm ((nI i) : Int32).toNatClampNeg 3) (Rm ((nI i) : Int32).toNatClampNeg 4) p1 j2))) → W p l e R s m args below meth c H locs cells slots Q (F0 m 38 ls (.int r :: []))) ?_ (fun kC => ?_)
              ·
                intro r hw
                obtain rfl : r = (bP (∃ j2, j2 < cn2.toNatClampNeg ∧ s_tch R2 (Rm ((nI i) : Int32).toNatClampNeg 0) (Rm ((nI i) : Int32).toNatClampNeg 1) (Rm ((nI i) : Int32).toNatClampNeg 2) (Rm ((nI i) : Int32).toNatClampNeg 3) (Rm ((nI i) : Int32).toNatClampNeg 4) p1 j2)) := hw
                refine lv_if_eq (tgt := 43) hx hb dX4_meets_38 (by decide) (fun c_120 => ?_) (fun c_120 => ?_)
                ·
                  refine lv_iinc (v := (nI (i + 1))) (lv' := [(4, .int (nI (i + 1))), (0, .ref a0), (1, .ref c0), (2, .int p0), (3, .int p1)]) hx hb dX4_meets_43 hl (k := 0) rfl (nI_1 i) (by decide) rfl (fun ls hl => ?_)
                  refine lv_goto (tgt := 3) hx hb dX4_meets_46 (by decide) ?_
                  exact ih (i + 1) ls (by omega) (by omega) (fr_1 hg (by have e9 : (nI i).toNatClampNeg = i := nI_clamp (by omega); (try simp only [e9] at c_15); (try simp only [e9] at c_120); exact fun h => h.2 c_120)) (lv_sub hl [0, 1, 2, 3, 4] rfl)
                ·
                  exact kx41 ls ⟨i, hlt, (by have e9 : (nI i).toNatClampNeg = i := nI_clamp (by omega); (try simp only [e9] at c_15); (try simp only [e9] at c_120); exact ⟨c_15, c_120⟩)⟩ (lv_sub hl [1, 2, 3, 4] rfl)
              ·
                rcases x_tag hc0 with ht9 | ht9 | ht9 | ht9 | ht9 | ht9
                ·
                  obtain ⟨nu_25, kd_26, cn_27, pa_28, fa_29, l_30, m_31, hs_32, hs_33, hs_34, hs_35⟩ := x_ifl hI ht9
                  obtain ⟨kk_36, hk_37⟩ := pl_at ht9.1 hs_32
                  exact vp_callSi (va_runU (As := [.ref b_20, .int p1]) (rest := []) ⟨hx, hb, hml, hown, hts⟩ (y_touches l dC dI q h0 d k z f hI c0 hc0 nu2 kd2 cn2 pa2 fa2 rs2 hs2 n2 g2 R2 hpa2 hps2 h12 h62 hcb2 hpl2 b_20 it_21 (Rm ((nI i) : Int32).toNatClampNeg 0) (Rm ((nI i) : Int32).toNatClampNeg 1) (Rm ((nI i) : Int32).toNatClampNeg 2) (Rm ((nI i) : Int32).toNatClampNeg 3) (Rm ((nI i) : Int32).toNatClampNeg 4) hp_23 p1) (va_cwU 2 hts gX4_meets_X4_touches_u48X2 rfl rfl rfl rfl (by decide +kernel) ⟨Nat.le_trans (Nat.le_of_ble_eq_true rfl) hRf, Nat.le_trans (Nat.le_of_ble_eq_true rfl) hRl⟩) ⟨px_fb, va_recv hK hP (ci := 2) (q0 := kk_36) rfl hk_37, fun U hU hW => ⟨rfl, px_to hU hW hP hK hN hXN⟩⟩ rfl rfl hl.1 rfl (lv_room (Nat.le_of_ble_eq_true rfl)) dX4_meets_35 ⟨hRc, hRs⟩).run (fun r hw => kC r hw)
                ·
                  obtain ⟨nu_38, kd_39, cn_40, pa_41, fa_42, o_43, w_44, y_45, hs_46, hs_47, hs_48, hs_49, hq_50⟩ := x_ihd hI ht9
                  obtain ⟨kk_51, hk_52⟩ := pl_at ht9.1 hs_46
                  exact vp_callSi (va_runU (As := [.ref b_20, .int p1]) (rest := []) ⟨hx, hb, hml, hown, hts⟩ (y_touches l dC dI q h0 d k z f hI c0 hc0 nu2 kd2 cn2 pa2 fa2 rs2 hs2 n2 g2 R2 hpa2 hps2 h12 h62 hcb2 hpl2 b_20 it_21 (Rm ((nI i) : Int32).toNatClampNeg 0) (Rm ((nI i) : Int32).toNatClampNeg 1) (Rm ((nI i) : Int32).toNatClampNeg 2) (Rm ((nI i) : Int32).toNatClampNeg 3) (Rm ((nI i) : Int32).toNatClampNeg 4) hp_23 p1) (va_cwU 2 hts gX4_meets_X4_touches_u48X3 rfl rfl rfl rfl (by decide +kernel) ⟨Nat.le_trans (Nat.le_of_ble_eq_true rfl) hRf, Nat.le_trans (Nat.le_of_ble_eq_true rfl) hRl⟩) ⟨px_fb, va_recv hK hP (ci := 3) (q0 := kk_51) rfl hk_52, fun U hU hW => ⟨rfl, px_to hU hW hP hK hN hXN⟩⟩ rfl rfl hl.1 rfl (lv_room (Nat.le_of_ble_eq_true rfl)) dX4_meets_35 ⟨hRc, hRs⟩).run (fun r hw => kC r hw)
                ·
                  obtain ⟨nu_53, kd_54, cn_55, pa_56, fa_57, o_58, y_59, hs_60, hs_61, hs_62, hs_63, hq_64⟩ := x_ino hI ht9
                  obtain ⟨kk_65, hk_66⟩ := pl_at ht9.1 hs_60
                  exact vp_callSi (va_runU (As := [.ref b_20, .int p1]) (rest := []) ⟨hx, hb, hml, hown, hts⟩ (y_touches l dC dI q h0 d k z f hI c0 hc0 nu2 kd2 cn2 pa2 fa2 rs2 hs2 n2 g2 R2 hpa2 hps2 h12 h62 hcb2 hpl2 b_20 it_21 (Rm ((nI i) : Int32).toNatClampNeg 0) (Rm ((nI i) : Int32).toNatClampNeg 1) (Rm ((nI i) : Int32).toNatClampNeg 2) (Rm ((nI i) : Int32).toNatClampNeg 3) (Rm ((nI i) : Int32).toNatClampNeg 4) hp_23 p1) (va_cwU 2 hts gX4_meets_X4_touches_u48X5 rfl rfl rfl rfl (by decide +kernel) ⟨Nat.le_trans (Nat.le_of_ble_eq_true rfl) hRf, Nat.le_trans (Nat.le_of_ble_eq_true rfl) hRl⟩) ⟨px_fb, va_recv hK hP (ci := 4) (q0 := kk_65) rfl hk_66, fun U hU hW => ⟨rfl, px_to hU hW hP hK hN hXN⟩⟩ rfl rfl hl.1 rfl (lv_room (Nat.le_of_ble_eq_true rfl)) dX4_meets_35 ⟨hRc, hRs⟩).run (fun r hw => kC r hw)
                ·
                  obtain ⟨nu_67, kd_68, cn_69, pa_70, fa_71, b_72, pr_73, sp_74, dy_75, hs_76, hs_77, hs_78, hs_79, hq_80, hq_81, hq_82⟩ := x_ipd hI ht9
                  obtain ⟨kk_83, hk_84⟩ := pl_at ht9.1 hs_76
                  exact vp_callSi (va_runU (As := [.ref b_20, .int p1]) (rest := []) ⟨hx, hb, hml, hown, hts⟩ (y_touches l dC dI q h0 d k z f hI c0 hc0 nu2 kd2 cn2 pa2 fa2 rs2 hs2 n2 g2 R2 hpa2 hps2 h12 h62 hcb2 hpl2 b_20 it_21 (Rm ((nI i) : Int32).toNatClampNeg 0) (Rm ((nI i) : Int32).toNatClampNeg 1) (Rm ((nI i) : Int32).toNatClampNeg 2) (Rm ((nI i) : Int32).toNatClampNeg 3) (Rm ((nI i) : Int32).toNatClampNeg 4) hp_23 p1) (va_cwU 2 hts gX4_meets_X4_touches_u48X6 rfl rfl rfl rfl (by decide +kernel) ⟨Nat.le_trans (Nat.le_of_ble_eq_true rfl) hRf, Nat.le_trans (Nat.le_of_ble_eq_true rfl) hRl⟩) ⟨px_fb, va_recv hK hP (ci := 5) (q0 := kk_83) rfl hk_84, fun U hU hW => ⟨rfl, px_to hU hW hP hK hN hXN⟩⟩ rfl rfl hl.1 rfl (lv_room (Nat.le_of_ble_eq_true rfl)) dX4_meets_35 ⟨hRc, hRs⟩).run (fun r hw => kC r hw)
                ·
                  obtain ⟨nu_85, kd_86, cn_87, pa_88, fa_89, ww_90, hh_91, sz_92, hs_93, hs_94, hs_95, hs_96, hq_97, hq_98, hq_99⟩ := x_ipi hI ht9
                  obtain ⟨kk_100, hk_101⟩ := pl_at ht9.1 hs_93
                  exact vp_callSi (va_runU (As := [.ref b_20, .int p1]) (rest := []) ⟨hx, hb, hml, hown, hts⟩ (y_touches l dC dI q h0 d k z f hI c0 hc0 nu2 kd2 cn2 pa2 fa2 rs2 hs2 n2 g2 R2 hpa2 hps2 h12 h62 hcb2 hpl2 b_20 it_21 (Rm ((nI i) : Int32).toNatClampNeg 0) (Rm ((nI i) : Int32).toNatClampNeg 1) (Rm ((nI i) : Int32).toNatClampNeg 2) (Rm ((nI i) : Int32).toNatClampNeg 3) (Rm ((nI i) : Int32).toNatClampNeg 4) hp_23 p1) (va_cwU 2 hts gX4_meets_X4_touches_u48X7 rfl rfl rfl rfl (by decide +kernel) ⟨Nat.le_trans (Nat.le_of_ble_eq_true rfl) hRf, Nat.le_trans (Nat.le_of_ble_eq_true rfl) hRl⟩) ⟨px_fb, va_recv hK hP (ci := 6) (q0 := kk_100) rfl hk_101, fun U hU hW => ⟨rfl, px_to hU hW hP hK hN hXN⟩⟩ rfl rfl hl.1 rfl (lv_room (Nat.le_of_ble_eq_true rfl)) dX4_meets_35 ⟨hRc, hRs⟩).run (fun r hw => kC r hw)
                ·
                  obtain ⟨nu_102, kd_103, cn_104, pa_105, fa_106, l_107, co_108, wd_109, nm_110, hs_111, hs_112, hs_113, hs_114, hq_115, hq_116, hq_117⟩ := x_ist hI ht9
                  obtain ⟨kk_118, hk_119⟩ := pl_at ht9.1 hs_111
                  exact vp_callSi (va_runU (As := [.ref b_20, .int p1]) (rest := []) ⟨hx, hb, hml, hown, hts⟩ (y_touches l dC dI q h0 d k z f hI c0 hc0 nu2 kd2 cn2 pa2 fa2 rs2 hs2 n2 g2 R2 hpa2 hps2 h12 h62 hcb2 hpl2 b_20 it_21 (Rm ((nI i) : Int32).toNatClampNeg 0) (Rm ((nI i) : Int32).toNatClampNeg 1) (Rm ((nI i) : Int32).toNatClampNeg 2) (Rm ((nI i) : Int32).toNatClampNeg 3) (Rm ((nI i) : Int32).toNatClampNeg 4) hp_23 p1) (va_cwU 2 hts gX4_meets_X4_touches_u48X10 rfl rfl rfl rfl (by decide +kernel) ⟨Nat.le_trans (Nat.le_of_ble_eq_true rfl) hRf, Nat.le_trans (Nat.le_of_ble_eq_true rfl) hRl⟩) ⟨px_fb, va_recv hK hP (ci := 9) (q0 := kk_118) rfl hk_119, fun U hU hW => ⟨rfl, px_to hU hW hP hK hN hXN⟩⟩ rfl rfl hl.1 rfl (lv_room (Nat.le_of_ble_eq_true rfl)) dX4_meets_35 ⟨hRc, hRs⟩).run (fun r hw => kC r hw)
set_option maxHeartbeats 4000000 in
set_option maxRecDepth 100000 in
theorem y_meets (l : Launch) (dC : Nat → ClassId) (dI : Nat → Nat → Nat) (q : Nat → ClassId) (h0 : Nat) (d : Nat → Nat) (k : Nat → Int32) (z : gS) (f : xF) (hI : xI q h0 d k z f) (a0 : Nat) (ha0 : itm z a0) (nu kd cn : Int32) (pa fa : Nat) (rs : List Value) (hs : f a0 = .inr (ciT (z.2 a0).1, itF nu kd pa cn fa rs)) (n : Nat) (g : Nat → Option Nat) (Rm : Nat → Nat → Int32) (hpa : tg z pa 16) (hps : f pa = aR (q 5) n g) (h1 : 1 ≤ n) (h6 : n ≤ 6) (hcb : bw cn 0 (nI n) = true) (hpl : pcL z g cn.toNatClampNeg Rm) (c0 : Nat) (hc0 : itm z c0) (nu2 kd2 cn2 : Int32) (pa2 fa2 : Nat) (rs2 : List Value) (hs2 : f c0 = .inr (ciT (z.2 c0).1, itF nu2 kd2 pa2 cn2 fa2 rs2)) (n2 : Nat) (g2 : Nat → Option Nat) (R2 : Nat → Nat → Int32) (hpa2 : tg z pa2 16) (hps2 : f pa2 = aR (q 5) n2 g2) (h12 : 1 ≤ n2) (h62 : n2 ≤ 6) (hcb2 : bw cn2 0 (nI n2) = true) (hpl2 : pcL z g2 cn2.toNatClampNeg R2) (p0 p1 : Int32) : Met l yX4_meets wsX4_meets ({ frames := 2, cells := 0, slots := 0, locals := 45 }) (va_Pc [.ref a0, .ref c0, .int p0, .int p1] (PX dC dI (va_pl z.1 f) (xT q))) (vp_Si (fun r => r = bP (∃ j, j < cn.toNatClampNeg ∧ s_mt Rm R2 cn2 p0 p1 j))) 0 0 (fun _ => False) := by
  refine Met.ofW (cc := cX4_meets) (maxL := 5) (ret := (some .boolean)) (by decide) rfl ?_
  intro p e s m args below meth c s₁ B hml hv
  obtain ⟨rfl, ⟨hP, hK, hN⟩, hXN⟩ := hv
  have hx := B.exec
  have hb := B.bytes
  have hr := B.returns
  have hts := atoms_spec (ws := wsX4_meets) B.pre
  have hown : s.vm.findClass RX4 = some m.cls := findClass_of_methodNamed B.named
  have hlocks := B.notSynchronized
  have hl := lv_entry ([.ref a0, .ref c0, .int p0, .int p1]) (n := 5) (Nat.le_of_ble_eq_true rfl)
  rw [lg_entry_eq]
  generalize (lg_sl ([.ref a0, .ref c0, .int p0, .int p1]) ++ List.replicate (5 - (lg_sl ([.ref a0, .ref c0, .int p0, .int p1])).length) Slot.unset).toArray = ls at hl ⊢
  have hl : lv_has ls 5 [(0, .ref a0), (1, .ref c0), (2, .int p0), (3, .int p1)] := hl
  refine lv_iconst (v := 0) hx hb dX4_meets_0 (by decide) ?_
  refine lv_istore (lv' := [(4, .int 0), (0, .ref a0), (1, .ref c0), (2, .int p0), (3, .int p1)]) hx hb dX4_meets_1 hl (by decide) rfl (fun ls hl => ?_)
  obtain ⟨K, hK1, -, eK⟩ := exN hcb (by decide)
  rw [nI_toInt (by omega)] at hK1
  subst eK
  have hplK : pcL z g K Rm := by rw [nI_clamp (by omega)] at hpl; exact hpl
  refine y_meets_l hI hx hb hml hts hown hN hXN hK (Nat.le_of_ble_eq_true rfl) (Nat.le_of_ble_eq_true rfl) (Nat.le_of_ble_eq_true rfl) (Nat.le_of_ble_eq_true rfl) hP ha0 hs hpa hps (by omega) h6 hplK hc0 hs2 hpa2 hps2 h12 h62 hcb2 hpl2 (fun ls hh hl => ?_) (fun ls hh hl => ?_) (K + 1) 0 ls (Nat.zero_le _) (by omega) (fun j hj => absurd hj (Nat.not_lt_zero _)) (lv_sub hl [0, 1, 2, 3, 4] rfl)
  ·
    refine lv_iconst (v := 0) hx hb dX4_meets_49 (by decide) ?_
    exact W.zret (v := 0) hx hb hr (by decide) (fun t ht hW => ⟨_, rfl, (bP_f (fun h => by obtain ⟨j, hj, h9⟩ := h; rw [nI_clamp (by omega)] at hj; exact hh j hj h9)).symm, ht⟩) (fun q h => absurd h List.not_mem_nil) dX4_meets_50
  ·
    refine lv_iconst (v := 1) hx hb dX4_meets_41 (by decide) ?_
    exact W.zret (v := 1) hx hb hr (by decide) (fun t ht hW => ⟨_, rfl, (bP_t (by obtain ⟨j, hj, h9⟩ := hh; exact ⟨j, by rw [nI_clamp (by omega)]; exact hj, h9⟩)).symm, ht⟩) (fun q h => absurd h List.not_mem_nil) dX4_meets_42
set_option maxHeartbeats 4000000 in
set_option maxRecDepth 100000 in
theorem y_signN (l : Launch) (dC : Nat → ClassId) (dI : Nat → Nat → Nat) (q : Nat → ClassId) (h0 : Nat) (d : Nat → Nat) (k : Nat → Int32) (z : gS) (f : xF) (hI : xI q h0 d k z f) (a0 : Nat) (P X Y D N : Int32) (hpa : pcS z a0 none P X Y D N) : Met l yX8_sign wsX8_sign ({ frames := 0, cells := 0, slots := 0, locals := 0 }) (va_Pc [.ref a0] (PX dC dI (va_pl z.1 f) (xT q))) (vp_Si (fun r => r = 100)) 0 0 (fun _ => False) := by
  refine Met.ofW (cc := cX8_sign) (maxL := 1) (ret := (some .int)) (by decide) rfl ?_
  intro p e s m args below meth c s₁ B hml hv
  obtain ⟨rfl, ⟨hP, hK, hN⟩, hXN⟩ := hv
  have hx := B.exec
  have hb := B.bytes
  have hr := B.returns
  have hts := atoms_spec (ws := wsX8_sign) B.pre
  have hown : s.vm.findClass RX8 = some m.cls := findClass_of_methodNamed B.named
  have hlocks := B.notSynchronized
  have hl := lv_entry ([.ref a0]) (n := 1) (Nat.le_of_ble_eq_true rfl)
  rw [lg_entry_eq]
  generalize (lg_sl ([.ref a0]) ++ List.replicate (1 - (lg_sl ([.ref a0])).length) Slot.unset).toArray = ls at hl ⊢
  have hl : lv_has ls 1 [(0, .ref a0)] := hl
  refine lv_aload_n hx hb dX8_sign_0 rfl (lv_at hl 0 rfl) ?_
  obtain ⟨kk_1, hk_2⟩ := pl_at hpa.1.1 (x_pcF hI hpa)
  refine va_get (D := (dC, dI)) (ci := 7) (v := .null) (C := RX8) (T := TX8) (N := 6) hx hb hts (by decide +kernel) hown hK hP kk_1 hk_2 rfl 0 (by decide) (hts (.fieldLink RX8 9 "PageOne$Piece" "item" "LPageOne$Item;") (by decide +kernel)) (fun _ h9 => h9) rfl dX8_sign_1 ?_
  refine lv_ifnonnullN hx hb dX8_sign_4 ?_
  refine lv_bipush (v := 100) hx hb dX8_sign_7 (by decide) ?_
  refine lv_goto (tgt := 19) hx hb dX8_sign_9 (by decide) ?_
  exact W.iret (v := 100) hx hb hr (fun t ht hW => ⟨_, rfl, rfl, ht⟩) (fun q h => absurd h List.not_mem_nil) dX8_sign_19
set_option maxHeartbeats 4000000 in
set_option maxRecDepth 100000 in
theorem y_signS (l : Launch) (dC : Nat → ClassId) (dI : Nat → Nat → Nat) (q : Nat → ClassId) (h0 : Nat) (d : Nat → Nat) (k : Nat → Int32) (z : gS) (f : xF) (hI : xI q h0 d k z f) (a0 c0 : Nat) (P X Y D N : Int32) (hpa : pcS z a0 (some c0) P X Y D N) (hc0 : itm z c0) (nu2 kd2 cn2 : Int32) (pa2 fa2 : Nat) (rs2 : List Value) (hs2 : f c0 = .inr (ciT (z.2 c0).1, itF nu2 kd2 pa2 cn2 fa2 rs2)) : Met l yX8_sign wsX8_sign ({ frames := 0, cells := 0, slots := 0, locals := 0 }) (va_Pc [.ref a0] (PX dC dI (va_pl z.1 f) (xT q))) (vp_Si (fun r => r = nu2)) 0 0 (fun _ => False) := by
  refine Met.ofW (cc := cX8_sign) (maxL := 1) (ret := (some .int)) (by decide) rfl ?_
  intro p e s m args below meth c s₁ B hml hv
  obtain ⟨rfl, ⟨hP, hK, hN⟩, hXN⟩ := hv
  have hx := B.exec
  have hb := B.bytes
  have hr := B.returns
  have hts := atoms_spec (ws := wsX8_sign) B.pre
  have hown : s.vm.findClass RX8 = some m.cls := findClass_of_methodNamed B.named
  have hlocks := B.notSynchronized
  have hl := lv_entry ([.ref a0]) (n := 1) (Nat.le_of_ble_eq_true rfl)
  rw [lg_entry_eq]
  generalize (lg_sl ([.ref a0]) ++ List.replicate (1 - (lg_sl ([.ref a0])).length) Slot.unset).toArray = ls at hl ⊢
  have hl : lv_has ls 1 [(0, .ref a0)] := hl
  refine lv_aload_n hx hb dX8_sign_0 rfl (lv_at hl 0 rfl) ?_
  obtain ⟨kk_1, hk_2⟩ := pl_at hpa.1.1 (x_pcF hI hpa)
  refine va_get (D := (dC, dI)) (ci := 7) (v := .ref c0) (C := RX8) (T := TX8) (N := 6) hx hb hts (by decide +kernel) hown hK hP kk_1 hk_2 rfl 0 (by decide) (hts (.fieldLink RX8 9 "PageOne$Piece" "item" "LPageOne$Item;") (by decide +kernel)) (fun _ h9 => h9) rfl dX8_sign_1 ?_
  refine lv_ifnonnull (tgt := 12) hx hb dX8_sign_4 (by decide) ?_
  refine lv_aload_n hx hb dX8_sign_12 rfl (lv_at hl 0 rfl) ?_
  obtain ⟨kk_3, hk_4⟩ := pl_at hpa.1.1 (x_pcF hI hpa)
  refine va_get (D := (dC, dI)) (ci := 7) (v := .ref c0) (C := RX8) (T := TX8) (N := 6) hx hb hts (by decide +kernel) hown hK hP kk_3 hk_4 rfl 0 (by decide) (hts (.fieldLink RX8 9 "PageOne$Piece" "item" "LPageOne$Item;") (by decide +kernel)) (fun _ h9 => h9) rfl dX8_sign_13 ?_
  obtain ⟨kk_5, hk_6⟩ := pl_at hc0.1 hs2
  refine w_then (F0 m 19 ls [.int nu2]) (fun hgo => ?_) ?_
  ·
    rcases x_tag hc0 with ht9 | ht9 | ht9 | ht9 | ht9 | ht9
    ·
      rw [ht9.2] at hk_6
      exact va_get (D := (dC, dI)) (ci := 2) (v := .int nu2) (C := RX2) (T := TX2) (N := 7) hx hb hts (by decide +kernel) hown hK hP kk_5 hk_6 rfl 0 (by decide) (hts (.fieldLink RX8 31 "PageOne$Item" "number" "I") (by decide +kernel)) (fun _ h9 => h9) rfl dX8_sign_16 hgo
    ·
      rw [ht9.2] at hk_6
      exact va_get (D := (dC, dI)) (ci := 3) (v := .int nu2) (C := RX3) (T := TX3) (N := 8) hx hb hts (by decide +kernel) hown hK hP kk_5 hk_6 rfl 0 (by decide) (hts (.fieldLink RX8 31 "PageOne$Item" "number" "I") (by decide +kernel)) (fun _ h9 => h9) rfl dX8_sign_16 hgo
    ·
      rw [ht9.2] at hk_6
      exact va_get (D := (dC, dI)) (ci := 4) (v := .int nu2) (C := RX5) (T := TX5) (N := 7) hx hb hts (by decide +kernel) hown hK hP kk_5 hk_6 rfl 0 (by decide) (hts (.fieldLink RX8 31 "PageOne$Item" "number" "I") (by decide +kernel)) (fun _ h9 => h9) rfl dX8_sign_16 hgo
    ·
      rw [ht9.2] at hk_6
      exact va_get (D := (dC, dI)) (ci := 5) (v := .int nu2) (C := RX6) (T := TX6) (N := 9) hx hb hts (by decide +kernel) hown hK hP kk_5 hk_6 rfl 0 (by decide) (hts (.fieldLink RX8 31 "PageOne$Item" "number" "I") (by decide +kernel)) (fun _ h9 => h9) rfl dX8_sign_16 hgo
    ·
      rw [ht9.2] at hk_6
      exact va_get (D := (dC, dI)) (ci := 6) (v := .int nu2) (C := RX7) (T := TX7) (N := 8) hx hb hts (by decide +kernel) hown hK hP kk_5 hk_6 rfl 0 (by decide) (hts (.fieldLink RX8 31 "PageOne$Item" "number" "I") (by decide +kernel)) (fun _ h9 => h9) rfl dX8_sign_16 hgo
    ·
      rw [ht9.2] at hk_6
      exact va_get (D := (dC, dI)) (ci := 9) (v := .int nu2) (C := RX10) (T := TX10) (N := 9) hx hb hts (by decide +kernel) hown hK hP kk_5 hk_6 rfl 0 (by decide) (hts (.fieldLink RX8 31 "PageOne$Item" "number" "I") (by decide +kernel)) (fun _ h9 => h9) rfl dX8_sign_16 hgo
  ·
    exact W.iret (v := nu2) hx hb hr (fun t ht hW => ⟨_, rfl, rfl, ht⟩) (fun q h => absurd h List.not_mem_nil) dX8_sign_19
theorem itm_ne {z : gS} {a b t : Nat} (ha : itm z a) (hb : tg z b t) (h : ¬ (10 ≤ t ∧ t ≤ 15)) : a ≠ b := fun e => by have := ha.2; rw [e, hb.2] at this; exact h this
theorem bP_n {P : Prop} (h : ¬ bP P = 0) : P := Classical.byContradiction (fun hn => h (bP_f hn))
theorem roomN {cn : Int32} {n : Nat} (h : cn < nI n) : ¬ nI n ≤ cn := fun h2 => by rw [i32_le] at h2; rw [i32_lt] at h; omega
noncomputable def s_gain_f (q : Nat → ClassId) (z : gS) (f : xF) (a0 pa fa b0 n : Nat) (nu kd cn : Int32) (rs : List Value) (g : Nat → Option Nat) : xF := if (bP (cn < nI n)) = 0 then f else (va_up (va_up f pa (aR (q 5) n (va_up g (cn : Int32).toNatClampNeg (some b0)))) a0 (.inr (ciT (z.2 a0).1, itF nu kd pa (cn + 1) fa rs)))
set_option maxHeartbeats 4000000 in
set_option maxRecDepth 100000 in
theorem y_gain (l : Launch) (dC : Nat → ClassId) (dI : Nat → Nat → Nat) (q : Nat → ClassId) (h0 : Nat) (d : Nat → Nat) (k : Nat → Int32) (z : gS) (f : xF) (hI : xI q h0 d k z f) (a0 : Nat) (ha0 : itm z a0) (nu kd cn : Int32) (pa fa : Nat) (rs : List Value) (hs : f a0 = .inr (ciT (z.2 a0).1, itF nu kd pa cn fa rs)) (n : Nat) (g : Nat → Option Nat) (hpa : tg z pa 16) (hps : f pa = aR (q 5) n g) (h1 : 1 ≤ n) (h6 : n ≤ 6) (hcb : bw cn 0 (nI n) = true) (hnn : ∀ j, j < cn.toNatClampNeg → ∃ b, g j = some b) (hlg : ∀ j, j < n → ∀ b, g j = some b → lgP z b) (b0 : Nat) (hb0 : lgP z b0) (sz : Nat) : Met l yX4_gain wsX4_gain ({ frames := 1, cells := 0, slots := 0, locals := 20 }) (va_Pc [.ref a0, .ref b0] (fun U => U.heap.size = sz ∧ PX dC dI (va_pl z.1 f) (xT q) U ∧ va_D (fun _ => True) (va_pl z.1 f))) (va_Qv (fun (w : xU) => w.1 = k ∧ w.2.1 = z ∧ xI q h0 d k z w.2.2 ∧ w.2.2 = s_gain_f q z f a0 pa fa b0 n nu kd cn rs g) (fun (w : xU) t => va_P (dC, dI) vwCl (va_pl w.2.1.1 w.2.2) t.heap ∧ va_D (va_A (va_pl z.1 f) sz) (va_pl w.2.1.1 w.2.2)) (va_A (va_pl z.1 f) sz)) 0 0 (va_A (va_pl z.1 f) sz) := by
  refine Met.ofW (cc := cX4_gain) (maxL := 2) (ret := none) (by decide) rfl ?_
  intro p e s m args below meth c s₁ B hml hv
  obtain ⟨rfl, hsz, ⟨⟨hP, hK, hN⟩, hXN⟩, hD0⟩ := hv
  have hx := B.exec
  have hb := B.bytes
  have hr := B.returns
  have hts := atoms_spec (ws := wsX4_gain) B.pre
  have hown : s.vm.findClass RX4 = some m.cls := findClass_of_methodNamed B.named
  have hlocks := B.notSynchronized
  subst hsz
  have hD := hD0.self (sz := s.heap.size)
  generalize hAe : va_A (va_pl z.1 f) s.heap.size = A at hD ⊢
  have hA : ∀ q : Nat, s.heap.size ≤ q → A q := fun q h => by rw [← hAe]; exact Or.inr h
  have hS : va_S A s.heap s.heap [] := va_S.rf
  have hl := lv_entry ([.ref a0, .ref b0]) (n := 2) (Nat.le_of_ble_eq_true rfl)
  rw [lg_entry_eq]
  generalize (lg_sl ([.ref a0, .ref b0]) ++ List.replicate (2 - (lg_sl ([.ref a0, .ref b0])).length) Slot.unset).toArray = ls at hl ⊢
  have hl : lv_has ls 2 [(0, .ref a0), (1, .ref b0)] := hl
  refine lv_aload_n hx hb dX4_gain_0 rfl (lv_at hl 0 rfl) ?_
  refine w_cut (X := fun R cells slots Q args => ∀ r : Int32, (r = (bP (cn < nI n))) → W p l e R s m args below meth c s.heap [] cells slots Q (F0 m 4 ls (.int r :: []))) ?_ (fun kC => ?_)
  ·
    intro r hw
    obtain rfl : r = (bP (cn < nI n)) := hw
    refine lv_if_eq (tgt := 27) hx hb dX4_gain_4 (by decide) (fun c_96 => ?_) (fun c_96 => ?_)
    ·
      exact W.vret hx hb hr (fun t ht hW => ⟨⟨(k, z, f), rfl, ⟨rfl, rfl, hI, (by show f = _; unfold s_gain_f; rw [if_pos c_96])⟩, by rw [ht]; exact hP, hD⟩, hS.F ht⟩) hS.2.2 dX4_gain_27
    ·
      refine lv_aload_n hx hb dX4_gain_7 rfl (lv_at hl 0 rfl) ?_
      obtain ⟨kk_97, hk_98⟩ := pl_at ha0.1 hs
      refine w_then (F0 m 11 ls [.ref pa]) (fun hgo => ?_) ?_
      ·
        rcases x_tag ha0 with ht9 | ht9 | ht9 | ht9 | ht9 | ht9
        ·
          rw [ht9.2] at hk_98
          exact va_get (D := (dC, dI)) (ci := 2) (v := .ref pa) (C := RX2) (T := TX2) (N := 7) hx hb hts (by decide +kernel) hown hK hP kk_97 hk_98 rfl 2 (by decide) (hts (.fieldLink RX4 31 "PageOne$Item" "pieces" "[LPageOne$Piece;") (by decide +kernel)) (fun _ h9 => h9) rfl dX4_gain_8 hgo
        ·
          rw [ht9.2] at hk_98
          exact va_get (D := (dC, dI)) (ci := 3) (v := .ref pa) (C := RX3) (T := TX3) (N := 8) hx hb hts (by decide +kernel) hown hK hP kk_97 hk_98 rfl 2 (by decide) (hts (.fieldLink RX4 31 "PageOne$Item" "pieces" "[LPageOne$Piece;") (by decide +kernel)) (fun _ h9 => h9) rfl dX4_gain_8 hgo
        ·
          rw [ht9.2] at hk_98
          exact va_get (D := (dC, dI)) (ci := 4) (v := .ref pa) (C := RX5) (T := TX5) (N := 7) hx hb hts (by decide +kernel) hown hK hP kk_97 hk_98 rfl 2 (by decide) (hts (.fieldLink RX4 31 "PageOne$Item" "pieces" "[LPageOne$Piece;") (by decide +kernel)) (fun _ h9 => h9) rfl dX4_gain_8 hgo
        ·
          rw [ht9.2] at hk_98
          exact va_get (D := (dC, dI)) (ci := 5) (v := .ref pa) (C := RX6) (T := TX6) (N := 9) hx hb hts (by decide +kernel) hown hK hP kk_97 hk_98 rfl 2 (by decide) (hts (.fieldLink RX4 31 "PageOne$Item" "pieces" "[LPageOne$Piece;") (by decide +kernel)) (fun _ h9 => h9) rfl dX4_gain_8 hgo
        ·
          rw [ht9.2] at hk_98
          exact va_get (D := (dC, dI)) (ci := 6) (v := .ref pa) (C := RX7) (T := TX7) (N := 8) hx hb hts (by decide +kernel) hown hK hP kk_97 hk_98 rfl 2 (by decide) (hts (.fieldLink RX4 31 "PageOne$Item" "pieces" "[LPageOne$Piece;") (by decide +kernel)) (fun _ h9 => h9) rfl dX4_gain_8 hgo
        ·
          rw [ht9.2] at hk_98
          exact va_get (D := (dC, dI)) (ci := 9) (v := .ref pa) (C := RX10) (T := TX10) (N := 9) hx hb hts (by decide +kernel) hown hK hP kk_97 hk_98 rfl 2 (by decide) (hts (.fieldLink RX4 31 "PageOne$Item" "pieces" "[LPageOne$Piece;") (by decide +kernel)) (fun _ h9 => h9) rfl dX4_gain_8 hgo
      ·
        refine lv_aload_n hx hb dX4_gain_11 rfl (lv_at hl 0 rfl) ?_
        obtain ⟨kk_99, hk_100⟩ := pl_at ha0.1 hs
        refine w_then (F0 m 15 ls [.int cn, .ref pa]) (fun hgo => ?_) ?_
        ·
          rcases x_tag ha0 with ht9 | ht9 | ht9 | ht9 | ht9 | ht9
          ·
            rw [ht9.2] at hk_100
            exact va_get (D := (dC, dI)) (ci := 2) (v := .int cn) (C := RX2) (T := TX2) (N := 7) hx hb hts (by decide +kernel) hown hK hP kk_99 hk_100 rfl 3 (by decide) (hts (.fieldLink RX4 9 "PageOne$Item" "count" "I") (by decide +kernel)) (fun _ h9 => h9) rfl dX4_gain_12 hgo
          ·
            rw [ht9.2] at hk_100
            exact va_get (D := (dC, dI)) (ci := 3) (v := .int cn) (C := RX3) (T := TX3) (N := 8) hx hb hts (by decide +kernel) hown hK hP kk_99 hk_100 rfl 3 (by decide) (hts (.fieldLink RX4 9 "PageOne$Item" "count" "I") (by decide +kernel)) (fun _ h9 => h9) rfl dX4_gain_12 hgo
          ·
            rw [ht9.2] at hk_100
            exact va_get (D := (dC, dI)) (ci := 4) (v := .int cn) (C := RX5) (T := TX5) (N := 7) hx hb hts (by decide +kernel) hown hK hP kk_99 hk_100 rfl 3 (by decide) (hts (.fieldLink RX4 9 "PageOne$Item" "count" "I") (by decide +kernel)) (fun _ h9 => h9) rfl dX4_gain_12 hgo
          ·
            rw [ht9.2] at hk_100
            exact va_get (D := (dC, dI)) (ci := 5) (v := .int cn) (C := RX6) (T := TX6) (N := 9) hx hb hts (by decide +kernel) hown hK hP kk_99 hk_100 rfl 3 (by decide) (hts (.fieldLink RX4 9 "PageOne$Item" "count" "I") (by decide +kernel)) (fun _ h9 => h9) rfl dX4_gain_12 hgo
          ·
            rw [ht9.2] at hk_100
            exact va_get (D := (dC, dI)) (ci := 6) (v := .int cn) (C := RX7) (T := TX7) (N := 8) hx hb hts (by decide +kernel) hown hK hP kk_99 hk_100 rfl 3 (by decide) (hts (.fieldLink RX4 9 "PageOne$Item" "count" "I") (by decide +kernel)) (fun _ h9 => h9) rfl dX4_gain_12 hgo
          ·
            rw [ht9.2] at hk_100
            exact va_get (D := (dC, dI)) (ci := 9) (v := .int cn) (C := RX10) (T := TX10) (N := 9) hx hb hts (by decide +kernel) hown hK hP kk_99 hk_100 rfl 3 (by decide) (hts (.fieldLink RX4 9 "PageOne$Item" "count" "I") (by decide +kernel)) (fun _ h9 => h9) rfl dX4_gain_12 hgo
        ·
          refine lv_aload_n hx hb dX4_gain_15 rfl (lv_at hl 1 rfl) ?_
          obtain ⟨kk_101, hk_102⟩ := pl_at hpa.1 hps
          have hcp := hb0
          obtain ⟨it_103, P_104, X_105, Y_106, D_107, N_108, hp_109, hb_110, hb_111, hb_112, hb_113⟩ := hcp
          obtain ⟨kk_114, hk_115⟩ := pl_at hp_109.1.1 (x_pcF hI hp_109)
          have hD0 := hD
          refine va_astq hx hb hK hP hD hS kk_101 5 kk_114 7 hk_102 rfl hk_115 rfl (vcn h6 hcb (roomN (bP_n c_96))) dX4_gain_16 (fun H locs hP hD hS => ?_)
          rw [pl_set hD0 hpa.1 hps hk_102] at hP hD
          obtain ⟨f_116, ef_116⟩ : ∃ y : xF, y = va_up f pa (aR (q 5) n (va_up g (cn : Int32).toNatClampNeg (some b0))) := ⟨_, rfl⟩
          have hI : xI q h0 d k z f_116 := by rw [ef_116]; exact x_upP hI ha0 hs hps (x_pan hI ha0 hpa) hcb (nn_up hnn (Nat.le_refl _)) (ty_up hlg (ty_s hb0))
          have hP : va_P (dC, dI) vwCl (va_pl z.1 f_116) H := by rw [ef_116]; exact hP
          have hD : va_D A (va_pl z.1 f_116) := by rw [ef_116]; exact hD
          have hs_117 : f_116 a0 = .inr (ciT (z.2 a0).1, itF nu kd pa cn fa rs) := by rw [ef_116, up_o (itm_ne ha0 hpa (by decide))]; exact hs
          have hs_118 : f_116 pa = aR (q 5) n (va_up g (cn : Int32).toNatClampNeg (some b0)) := by rw [ef_116]; exact up_s
          have hs_119 : f_116 a0 = .inr (ciT (z.2 a0).1, itF nu kd pa cn fa rs) := by rw [ef_116, up_o (fun e => (x_pan hI ha0 hpa) e.symm)]; exact hs
          refine lv_aload_n hx hb dX4_gain_17 rfl (lv_at hl 0 rfl) ?_
          refine lv_dup hx hb dX4_gain_18 rfl ?_
          obtain ⟨kk_120, hk_121⟩ := pl_at ha0.1 hs_119
          refine w_then (F0 m 22 ls [.int cn, .ref a0]) (fun hgo => ?_) ?_
          ·
            rcases x_tag ha0 with ht9 | ht9 | ht9 | ht9 | ht9 | ht9
            ·
              rw [ht9.2] at hk_121
              exact va_get (D := (dC, dI)) (ci := 2) (v := .int cn) (C := RX2) (T := TX2) (N := 7) hx hb hts (by decide +kernel) hown hK hP kk_120 hk_121 rfl 3 (by decide) (hts (.fieldLink RX4 9 "PageOne$Item" "count" "I") (by decide +kernel)) (fun _ h9 => h9) rfl dX4_gain_19 hgo
            ·
              rw [ht9.2] at hk_121
              exact va_get (D := (dC, dI)) (ci := 3) (v := .int cn) (C := RX3) (T := TX3) (N := 8) hx hb hts (by decide +kernel) hown hK hP kk_120 hk_121 rfl 3 (by decide) (hts (.fieldLink RX4 9 "PageOne$Item" "count" "I") (by decide +kernel)) (fun _ h9 => h9) rfl dX4_gain_19 hgo
            ·
              rw [ht9.2] at hk_121
              exact va_get (D := (dC, dI)) (ci := 4) (v := .int cn) (C := RX5) (T := TX5) (N := 7) hx hb hts (by decide +kernel) hown hK hP kk_120 hk_121 rfl 3 (by decide) (hts (.fieldLink RX4 9 "PageOne$Item" "count" "I") (by decide +kernel)) (fun _ h9 => h9) rfl dX4_gain_19 hgo
            ·
              rw [ht9.2] at hk_121
              exact va_get (D := (dC, dI)) (ci := 5) (v := .int cn) (C := RX6) (T := TX6) (N := 9) hx hb hts (by decide +kernel) hown hK hP kk_120 hk_121 rfl 3 (by decide) (hts (.fieldLink RX4 9 "PageOne$Item" "count" "I") (by decide +kernel)) (fun _ h9 => h9) rfl dX4_gain_19 hgo
            ·
              rw [ht9.2] at hk_121
              exact va_get (D := (dC, dI)) (ci := 6) (v := .int cn) (C := RX7) (T := TX7) (N := 8) hx hb hts (by decide +kernel) hown hK hP kk_120 hk_121 rfl 3 (by decide) (hts (.fieldLink RX4 9 "PageOne$Item" "count" "I") (by decide +kernel)) (fun _ h9 => h9) rfl dX4_gain_19 hgo
            ·
              rw [ht9.2] at hk_121
              exact va_get (D := (dC, dI)) (ci := 9) (v := .int cn) (C := RX10) (T := TX10) (N := 9) hx hb hts (by decide +kernel) hown hK hP kk_120 hk_121 rfl 3 (by decide) (hts (.fieldLink RX4 9 "PageOne$Item" "count" "I") (by decide +kernel)) (fun _ h9 => h9) rfl dX4_gain_19 hgo
          ·
            refine lv_iconst (v := 1) hx hb dX4_gain_22 (by decide) ?_
            refine lv_iadd hx hb dX4_gain_23 ?_
            refine lv_topi (fun x_122 ex_122 => ?_)
            obtain ⟨kk_123, hk_124⟩ := pl_at ha0.1 hs_119
            have hD0 := hD
            refine w_cut (X := fun R cells slots Q args => ∀ (H : Heap) (locs : List Loc), va_P (dC, dI) vwCl (va_pl z.1 (va_up f_116 a0 (.inr (ciT (z.2 a0).1, itF nu kd pa x_122 fa rs)))) H → va_D A (va_pl z.1 (va_up f_116 a0 (.inr (ciT (z.2 a0).1, itF nu kd pa x_122 fa rs)))) → va_S A s.heap H locs → W p l e R s m args below meth c H locs cells slots Q (F0 m 27 ls [])) ?_ (fun kC => ?_)
            ·
              intro H locs hP hD hS
              obtain ⟨f_125, ef_125⟩ : ∃ y : xF, y = va_up f_116 a0 (.inr (ciT (z.2 a0).1, itF nu kd pa x_122 fa rs)) := ⟨_, rfl⟩
              have hI : xI q h0 d k z f_125 := by rw [ef_125]; exact x_upC hI ha0 hs_119 hs_118 (bcn1 h6 hcb (roomN (bP_n c_96)) ex_122).1 (by rw [(bcn1 h6 hcb (roomN (bP_n c_96)) ex_122).2]; exact nn_up1 hnn) (ty_up hlg (ty_s hb0))
              have hP : va_P (dC, dI) vwCl (va_pl z.1 f_125) H := by rw [ef_125]; exact hP
              have hD : va_D A (va_pl z.1 f_125) := by rw [ef_125]; exact hD
              have hff_125 : f_125 a0 = .inr (ciT (z.2 a0).1, itF nu kd pa x_122 fa rs) := by rw [ef_125]; exact up_s
              have hs_126 : f_125 pa = aR (q 5) n (va_up g (cn : Int32).toNatClampNeg (some b0)) := by rw [ef_125, up_o (x_pan hI ha0 hpa)]; exact hs_118
              exact W.vret hx hb hr (fun t ht hW => ⟨⟨(k, z, f_125), rfl, ⟨rfl, rfl, hI, (by show f_125 = _; rw [ef_125, ef_116, ex_122]; unfold s_gain_f; rw [if_neg c_96])⟩, by rw [ht]; exact hP, hD⟩, hS.F ht⟩) hS.2.2 dX4_gain_27
            ·
              have hk8 := hk_124
              rcases x_tag ha0 with ht9 | ht9 | ht9 | ht9 | ht9 | ht9
              ·
                rw [ht9.2] at hk_124
                refine va_put (D := (dC, dI)) (ci := 2) (v := .int x_122) (ty := .int) (C := RX2) (T := TX2) (N := 7) hx hb hts (by decide +kernel) tyX2 tyX2_ok nmX2 hown hK hP hD hS kk_123 hk_124 rfl 3 (by decide) (hts (.fieldLink RX4 9 "PageOne$Item" "count" "I") (by decide +kernel)) (fun _ h9 => h9) rfl (by decide +kernel) rfl rfl (by unfold itF; simp only [List.length_cons]; omega) dX4_gain_24 (fun H locs hP hD hS => kC H locs ?_ ?_ hS)
                · rw [← pl_set (e := .inr (ciT (z.2 a0).1, itF nu kd pa x_122 fa rs)) hD0 ha0.1 hs_119 hk8, ht9.2]; exact hP
                · rw [← pl_set (e := .inr (ciT (z.2 a0).1, itF nu kd pa x_122 fa rs)) hD0 ha0.1 hs_119 hk8, ht9.2]; exact hD
              ·
                rw [ht9.2] at hk_124
                refine va_put (D := (dC, dI)) (ci := 3) (v := .int x_122) (ty := .int) (C := RX3) (T := TX3) (N := 8) hx hb hts (by decide +kernel) tyX3 tyX3_ok nmX3 hown hK hP hD hS kk_123 hk_124 rfl 3 (by decide) (hts (.fieldLink RX4 9 "PageOne$Item" "count" "I") (by decide +kernel)) (fun _ h9 => h9) rfl (by decide +kernel) rfl rfl (by unfold itF; simp only [List.length_cons]; omega) dX4_gain_24 (fun H locs hP hD hS => kC H locs ?_ ?_ hS)
                · rw [← pl_set (e := .inr (ciT (z.2 a0).1, itF nu kd pa x_122 fa rs)) hD0 ha0.1 hs_119 hk8, ht9.2]; exact hP
                · rw [← pl_set (e := .inr (ciT (z.2 a0).1, itF nu kd pa x_122 fa rs)) hD0 ha0.1 hs_119 hk8, ht9.2]; exact hD
              ·
                rw [ht9.2] at hk_124
                refine va_put (D := (dC, dI)) (ci := 4) (v := .int x_122) (ty := .int) (C := RX5) (T := TX5) (N := 7) hx hb hts (by decide +kernel) tyX5 tyX5_ok nmX5 hown hK hP hD hS kk_123 hk_124 rfl 3 (by decide) (hts (.fieldLink RX4 9 "PageOne$Item" "count" "I") (by decide +kernel)) (fun _ h9 => h9) rfl (by decide +kernel) rfl rfl (by unfold itF; simp only [List.length_cons]; omega) dX4_gain_24 (fun H locs hP hD hS => kC H locs ?_ ?_ hS)
                · rw [← pl_set (e := .inr (ciT (z.2 a0).1, itF nu kd pa x_122 fa rs)) hD0 ha0.1 hs_119 hk8, ht9.2]; exact hP
                · rw [← pl_set (e := .inr (ciT (z.2 a0).1, itF nu kd pa x_122 fa rs)) hD0 ha0.1 hs_119 hk8, ht9.2]; exact hD
              ·
                rw [ht9.2] at hk_124
                refine va_put (D := (dC, dI)) (ci := 5) (v := .int x_122) (ty := .int) (C := RX6) (T := TX6) (N := 9) hx hb hts (by decide +kernel) tyX6 tyX6_ok nmX6 hown hK hP hD hS kk_123 hk_124 rfl 3 (by decide) (hts (.fieldLink RX4 9 "PageOne$Item" "count" "I") (by decide +kernel)) (fun _ h9 => h9) rfl (by decide +kernel) rfl rfl (by unfold itF; simp only [List.length_cons]; omega) dX4_gain_24 (fun H locs hP hD hS => kC H locs ?_ ?_ hS)
                · rw [← pl_set (e := .inr (ciT (z.2 a0).1, itF nu kd pa x_122 fa rs)) hD0 ha0.1 hs_119 hk8, ht9.2]; exact hP
                · rw [← pl_set (e := .inr (ciT (z.2 a0).1, itF nu kd pa x_122 fa rs)) hD0 ha0.1 hs_119 hk8, ht9.2]; exact hD
              ·
                rw [ht9.2] at hk_124
                refine va_put (D := (dC, dI)) (ci := 6) (v := .int x_122) (ty := .int) (C := RX7) (T := TX7) (N := 8) hx hb hts (by decide +kernel) tyX7 tyX7_ok nmX7 hown hK hP hD hS kk_123 hk_124 rfl 3 (by decide) (hts (.fieldLink RX4 9 "PageOne$Item" "count" "I") (by decide +kernel)) (fun _ h9 => h9) rfl (by decide +kernel) rfl rfl (by unfold itF; simp only [List.length_cons]; omega) dX4_gain_24 (fun H locs hP hD hS => kC H locs ?_ ?_ hS)
                · rw [← pl_set (e := .inr (ciT (z.2 a0).1, itF nu kd pa x_122 fa rs)) hD0 ha0.1 hs_119 hk8, ht9.2]; exact hP
                · rw [← pl_set (e := .inr (ciT (z.2 a0).1, itF nu kd pa x_122 fa rs)) hD0 ha0.1 hs_119 hk8, ht9.2]; exact hD
              ·
                rw [ht9.2] at hk_124
                refine va_put (D := (dC, dI)) (ci := 9) (v := .int x_122) (ty := .int) (C := RX10) (T := TX10) (N := 9) hx hb hts (by decide +kernel) tyX10 tyX10_ok nmX10 hown hK hP hD hS kk_123 hk_124 rfl 3 (by decide) (hts (.fieldLink RX4 9 "PageOne$Item" "count" "I") (by decide +kernel)) (fun _ h9 => h9) rfl (by decide +kernel) rfl rfl (by unfold itF; simp only [List.length_cons]; omega) dX4_gain_24 (fun H locs hP hD hS => kC H locs ?_ ?_ hS)
                · rw [← pl_set (e := .inr (ciT (z.2 a0).1, itF nu kd pa x_122 fa rs)) hD0 ha0.1 hs_119 hk8, ht9.2]; exact hP
                · rw [← pl_set (e := .inr (ciT (z.2 a0).1, itF nu kd pa x_122 fa rs)) hD0 ha0.1 hs_119 hk8, ht9.2]; exact hD
  ·
    rcases x_tag ha0 with ht9 | ht9 | ht9 | ht9 | ht9 | ht9
    ·
      obtain ⟨nu_1, kd_2, cn_3, pa_4, fa_5, l_6, m_7, hs_8, hs_9, hs_10, hs_11⟩ := x_ifl hI ht9
      obtain ⟨kk_12, hk_13⟩ := pl_at ht9.1 hs_8
      exact vp_callSi (va_runU (As := []) (rest := []) ⟨hx, hb, hml, hown, hts⟩ (y_hasRoom l dC dI q h0 d k z f hI a0 ha0 nu kd cn pa fa rs hs n g hps hpa) (va_cwU 0 hts gX4_gain_X4_hasRoom_u41X2 rfl rfl rfl rfl (by decide +kernel) ⟨Nat.le_of_ble_eq_true rfl, Nat.le_of_ble_eq_true rfl⟩) ⟨px_fb, va_recv hK hP (ci := 2) (q0 := kk_12) rfl hk_13, fun U hU hW => ⟨rfl, px_to hU hW hP hK hN hXN⟩⟩ rfl rfl hl.1 rfl (lv_room (Nat.le_of_ble_eq_true rfl)) dX4_gain_1 ⟨Nat.le_of_ble_eq_true rfl, Nat.le_of_ble_eq_true rfl⟩).run (fun r hw => kC r hw)
    ·
      obtain ⟨nu_14, kd_15, cn_16, pa_17, fa_18, o_19, w_20, y_21, hs_22, hs_23, hs_24, hs_25, hq_26⟩ := x_ihd hI ht9
      obtain ⟨kk_27, hk_28⟩ := pl_at ht9.1 hs_22
      exact vp_callSi (va_runU (As := []) (rest := []) ⟨hx, hb, hml, hown, hts⟩ (y_hasRoom l dC dI q h0 d k z f hI a0 ha0 nu kd cn pa fa rs hs n g hps hpa) (va_cwU 0 hts gX4_gain_X4_hasRoom_u41X3 rfl rfl rfl rfl (by decide +kernel) ⟨Nat.le_of_ble_eq_true rfl, Nat.le_of_ble_eq_true rfl⟩) ⟨px_fb, va_recv hK hP (ci := 3) (q0 := kk_27) rfl hk_28, fun U hU hW => ⟨rfl, px_to hU hW hP hK hN hXN⟩⟩ rfl rfl hl.1 rfl (lv_room (Nat.le_of_ble_eq_true rfl)) dX4_gain_1 ⟨Nat.le_of_ble_eq_true rfl, Nat.le_of_ble_eq_true rfl⟩).run (fun r hw => kC r hw)
    ·
      obtain ⟨nu_29, kd_30, cn_31, pa_32, fa_33, o_34, y_35, hs_36, hs_37, hs_38, hs_39, hq_40⟩ := x_ino hI ht9
      obtain ⟨kk_41, hk_42⟩ := pl_at ht9.1 hs_36
      exact vp_callSi (va_runU (As := []) (rest := []) ⟨hx, hb, hml, hown, hts⟩ (y_hasRoom l dC dI q h0 d k z f hI a0 ha0 nu kd cn pa fa rs hs n g hps hpa) (va_cwU 0 hts gX4_gain_X4_hasRoom_u41X5 rfl rfl rfl rfl (by decide +kernel) ⟨Nat.le_of_ble_eq_true rfl, Nat.le_of_ble_eq_true rfl⟩) ⟨px_fb, va_recv hK hP (ci := 4) (q0 := kk_41) rfl hk_42, fun U hU hW => ⟨rfl, px_to hU hW hP hK hN hXN⟩⟩ rfl rfl hl.1 rfl (lv_room (Nat.le_of_ble_eq_true rfl)) dX4_gain_1 ⟨Nat.le_of_ble_eq_true rfl, Nat.le_of_ble_eq_true rfl⟩).run (fun r hw => kC r hw)
    ·
      obtain ⟨nu_43, kd_44, cn_45, pa_46, fa_47, b_48, pr_49, sp_50, dy_51, hs_52, hs_53, hs_54, hs_55, hq_56, hq_57, hq_58⟩ := x_ipd hI ht9
      obtain ⟨kk_59, hk_60⟩ := pl_at ht9.1 hs_52
      exact vp_callSi (va_runU (As := []) (rest := []) ⟨hx, hb, hml, hown, hts⟩ (y_hasRoom l dC dI q h0 d k z f hI a0 ha0 nu kd cn pa fa rs hs n g hps hpa) (va_cwU 0 hts gX4_gain_X4_hasRoom_u41X6 rfl rfl rfl rfl (by decide +kernel) ⟨Nat.le_of_ble_eq_true rfl, Nat.le_of_ble_eq_true rfl⟩) ⟨px_fb, va_recv hK hP (ci := 5) (q0 := kk_59) rfl hk_60, fun U hU hW => ⟨rfl, px_to hU hW hP hK hN hXN⟩⟩ rfl rfl hl.1 rfl (lv_room (Nat.le_of_ble_eq_true rfl)) dX4_gain_1 ⟨Nat.le_of_ble_eq_true rfl, Nat.le_of_ble_eq_true rfl⟩).run (fun r hw => kC r hw)
    ·
      obtain ⟨nu_61, kd_62, cn_63, pa_64, fa_65, ww_66, hh_67, sz_68, hs_69, hs_70, hs_71, hs_72, hq_73, hq_74, hq_75⟩ := x_ipi hI ht9
      obtain ⟨kk_76, hk_77⟩ := pl_at ht9.1 hs_69
      exact vp_callSi (va_runU (As := []) (rest := []) ⟨hx, hb, hml, hown, hts⟩ (y_hasRoom l dC dI q h0 d k z f hI a0 ha0 nu kd cn pa fa rs hs n g hps hpa) (va_cwU 0 hts gX4_gain_X4_hasRoom_u41X7 rfl rfl rfl rfl (by decide +kernel) ⟨Nat.le_of_ble_eq_true rfl, Nat.le_of_ble_eq_true rfl⟩) ⟨px_fb, va_recv hK hP (ci := 6) (q0 := kk_76) rfl hk_77, fun U hU hW => ⟨rfl, px_to hU hW hP hK hN hXN⟩⟩ rfl rfl hl.1 rfl (lv_room (Nat.le_of_ble_eq_true rfl)) dX4_gain_1 ⟨Nat.le_of_ble_eq_true rfl, Nat.le_of_ble_eq_true rfl⟩).run (fun r hw => kC r hw)
    ·
      obtain ⟨nu_78, kd_79, cn_80, pa_81, fa_82, l_83, co_84, wd_85, nm_86, hs_87, hs_88, hs_89, hs_90, hq_91, hq_92, hq_93⟩ := x_ist hI ht9
      obtain ⟨kk_94, hk_95⟩ := pl_at ht9.1 hs_87
      exact vp_callSi (va_runU (As := []) (rest := []) ⟨hx, hb, hml, hown, hts⟩ (y_hasRoom l dC dI q h0 d k z f hI a0 ha0 nu kd cn pa fa rs hs n g hps hpa) (va_cwU 0 hts gX4_gain_X4_hasRoom_u41X10 rfl rfl rfl rfl (by decide +kernel) ⟨Nat.le_of_ble_eq_true rfl, Nat.le_of_ble_eq_true rfl⟩) ⟨px_fb, va_recv hK hP (ci := 9) (q0 := kk_94) rfl hk_95, fun U hU hW => ⟨rfl, px_to hU hW hP hK hN hXN⟩⟩ rfl rfl hl.1 rfl (lv_room (Nat.le_of_ble_eq_true rfl)) dX4_gain_1 ⟨Nat.le_of_ble_eq_true rfl, Nat.le_of_ble_eq_true rfl⟩).run (fun r hw => kC r hw)
noncomputable def s_lose_f (q : Nat → ClassId) (z : gS) (f : xF) (a0 pa fa n : Nat) (nu kd cn : Int32) (rs : List Value) (g : Nat → Option Nat) : xF := if cn ≤ 0 then f else (va_up (va_up f a0 (.inr (ciT (z.2 a0).1, itF nu kd pa (cn - 1) fa rs))) pa (aR (q 5) n (va_up g ((cn - 1) : Int32).toNatClampNeg none)))
set_option maxHeartbeats 4000000 in
set_option maxRecDepth 100000 in
theorem y_loseLast (l : Launch) (dC : Nat → ClassId) (dI : Nat → Nat → Nat) (q : Nat → ClassId) (h0 : Nat) (d : Nat → Nat) (k : Nat → Int32) (z : gS) (f : xF) (hI : xI q h0 d k z f) (a0 : Nat) (ha0 : itm z a0) (nu kd cn : Int32) (pa fa : Nat) (rs : List Value) (hs : f a0 = .inr (ciT (z.2 a0).1, itF nu kd pa cn fa rs)) (n : Nat) (g : Nat → Option Nat) (hpa : tg z pa 16) (hps : f pa = aR (q 5) n g) (h1 : 1 ≤ n) (h6 : n ≤ 6) (hcb : bw cn 0 (nI n) = true) (hnn : ∀ j, j < cn.toNatClampNeg → ∃ b, g j = some b) (hlg : ∀ j, j < n → ∀ b, g j = some b → lgP z b) (sz : Nat) : Met l yX4_loseLast wsX4_loseLast ({ frames := 0, cells := 0, slots := 0, locals := 0 }) (va_Pc [.ref a0] (fun U => U.heap.size = sz ∧ PX dC dI (va_pl z.1 f) (xT q) U ∧ va_D (fun _ => True) (va_pl z.1 f))) (va_Qv (fun (w : xU) => w.1 = k ∧ w.2.1 = z ∧ xI q h0 d k z w.2.2 ∧ w.2.2 = s_lose_f q z f a0 pa fa n nu kd cn rs g) (fun (w : xU) t => va_P (dC, dI) vwCl (va_pl w.2.1.1 w.2.2) t.heap ∧ va_D (va_A (va_pl z.1 f) sz) (va_pl w.2.1.1 w.2.2)) (va_A (va_pl z.1 f) sz)) 0 0 (va_A (va_pl z.1 f) sz) := by
  refine Met.ofW (cc := cX4_loseLast) (maxL := 1) (ret := none) (by decide) rfl ?_
  intro p e s m args below meth c s₁ B hml hv
  obtain ⟨rfl, hsz, ⟨⟨hP, hK, hN⟩, hXN⟩, hD0⟩ := hv
  have hx := B.exec
  have hb := B.bytes
  have hr := B.returns
  have hts := atoms_spec (ws := wsX4_loseLast) B.pre
  have hown : s.vm.findClass RX4 = some m.cls := findClass_of_methodNamed B.named
  have hlocks := B.notSynchronized
  subst hsz
  have hD := hD0.self (sz := s.heap.size)
  generalize hAe : va_A (va_pl z.1 f) s.heap.size = A at hD ⊢
  have hA : ∀ q : Nat, s.heap.size ≤ q → A q := fun q h => by rw [← hAe]; exact Or.inr h
  have hS : va_S A s.heap s.heap [] := va_S.rf
  have hl := lv_entry ([.ref a0]) (n := 1) (Nat.le_of_ble_eq_true rfl)
  rw [lg_entry_eq]
  generalize (lg_sl ([.ref a0]) ++ List.replicate (1 - (lg_sl ([.ref a0])).length) Slot.unset).toArray = ls at hl ⊢
  have hl : lv_has ls 1 [(0, .ref a0)] := hl
  refine lv_aload_n hx hb dX4_loseLast_0 rfl (lv_at hl 0 rfl) ?_
  obtain ⟨kk_1, hk_2⟩ := pl_at ha0.1 hs
  refine w_then (F0 m 4 ls [.int cn]) (fun hgo => ?_) ?_
  ·
    rcases x_tag ha0 with ht9 | ht9 | ht9 | ht9 | ht9 | ht9
    ·
      rw [ht9.2] at hk_2
      exact va_get (D := (dC, dI)) (ci := 2) (v := .int cn) (C := RX2) (T := TX2) (N := 7) hx hb hts (by decide +kernel) hown hK hP kk_1 hk_2 rfl 3 (by decide) (hts (.fieldLink RX4 9 "PageOne$Item" "count" "I") (by decide +kernel)) (fun _ h9 => h9) rfl dX4_loseLast_1 hgo
    ·
      rw [ht9.2] at hk_2
      exact va_get (D := (dC, dI)) (ci := 3) (v := .int cn) (C := RX3) (T := TX3) (N := 8) hx hb hts (by decide +kernel) hown hK hP kk_1 hk_2 rfl 3 (by decide) (hts (.fieldLink RX4 9 "PageOne$Item" "count" "I") (by decide +kernel)) (fun _ h9 => h9) rfl dX4_loseLast_1 hgo
    ·
      rw [ht9.2] at hk_2
      exact va_get (D := (dC, dI)) (ci := 4) (v := .int cn) (C := RX5) (T := TX5) (N := 7) hx hb hts (by decide +kernel) hown hK hP kk_1 hk_2 rfl 3 (by decide) (hts (.fieldLink RX4 9 "PageOne$Item" "count" "I") (by decide +kernel)) (fun _ h9 => h9) rfl dX4_loseLast_1 hgo
    ·
      rw [ht9.2] at hk_2
      exact va_get (D := (dC, dI)) (ci := 5) (v := .int cn) (C := RX6) (T := TX6) (N := 9) hx hb hts (by decide +kernel) hown hK hP kk_1 hk_2 rfl 3 (by decide) (hts (.fieldLink RX4 9 "PageOne$Item" "count" "I") (by decide +kernel)) (fun _ h9 => h9) rfl dX4_loseLast_1 hgo
    ·
      rw [ht9.2] at hk_2
      exact va_get (D := (dC, dI)) (ci := 6) (v := .int cn) (C := RX7) (T := TX7) (N := 8) hx hb hts (by decide +kernel) hown hK hP kk_1 hk_2 rfl 3 (by decide) (hts (.fieldLink RX4 9 "PageOne$Item" "count" "I") (by decide +kernel)) (fun _ h9 => h9) rfl dX4_loseLast_1 hgo
    ·
      rw [ht9.2] at hk_2
      exact va_get (D := (dC, dI)) (ci := 9) (v := .int cn) (C := RX10) (T := TX10) (N := 9) hx hb hts (by decide +kernel) hown hK hP kk_1 hk_2 rfl 3 (by decide) (hts (.fieldLink RX4 9 "PageOne$Item" "count" "I") (by decide +kernel)) (fun _ h9 => h9) rfl dX4_loseLast_1 hgo
  ·
    refine lv_if_le (tgt := 27) hx hb dX4_loseLast_4 (by decide) (fun c_3 => ?_) (fun c_3 => ?_)
    ·
      exact W.vret hx hb hr (fun t ht hW => ⟨⟨(k, z, f), rfl, ⟨rfl, rfl, hI, (by show f = _; unfold s_lose_f; rw [if_pos c_3])⟩, by rw [ht]; exact hP, hD⟩, hS.F ht⟩) hS.2.2 dX4_loseLast_27
    ·
      refine lv_aload_n hx hb dX4_loseLast_7 rfl (lv_at hl 0 rfl) ?_
      refine lv_dup hx hb dX4_loseLast_8 rfl ?_
      obtain ⟨kk_4, hk_5⟩ := pl_at ha0.1 hs
      refine w_then (F0 m 12 ls [.int cn, .ref a0]) (fun hgo => ?_) ?_
      ·
        rcases x_tag ha0 with ht9 | ht9 | ht9 | ht9 | ht9 | ht9
        ·
          rw [ht9.2] at hk_5
          exact va_get (D := (dC, dI)) (ci := 2) (v := .int cn) (C := RX2) (T := TX2) (N := 7) hx hb hts (by decide +kernel) hown hK hP kk_4 hk_5 rfl 3 (by decide) (hts (.fieldLink RX4 9 "PageOne$Item" "count" "I") (by decide +kernel)) (fun _ h9 => h9) rfl dX4_loseLast_9 hgo
        ·
          rw [ht9.2] at hk_5
          exact va_get (D := (dC, dI)) (ci := 3) (v := .int cn) (C := RX3) (T := TX3) (N := 8) hx hb hts (by decide +kernel) hown hK hP kk_4 hk_5 rfl 3 (by decide) (hts (.fieldLink RX4 9 "PageOne$Item" "count" "I") (by decide +kernel)) (fun _ h9 => h9) rfl dX4_loseLast_9 hgo
        ·
          rw [ht9.2] at hk_5
          exact va_get (D := (dC, dI)) (ci := 4) (v := .int cn) (C := RX5) (T := TX5) (N := 7) hx hb hts (by decide +kernel) hown hK hP kk_4 hk_5 rfl 3 (by decide) (hts (.fieldLink RX4 9 "PageOne$Item" "count" "I") (by decide +kernel)) (fun _ h9 => h9) rfl dX4_loseLast_9 hgo
        ·
          rw [ht9.2] at hk_5
          exact va_get (D := (dC, dI)) (ci := 5) (v := .int cn) (C := RX6) (T := TX6) (N := 9) hx hb hts (by decide +kernel) hown hK hP kk_4 hk_5 rfl 3 (by decide) (hts (.fieldLink RX4 9 "PageOne$Item" "count" "I") (by decide +kernel)) (fun _ h9 => h9) rfl dX4_loseLast_9 hgo
        ·
          rw [ht9.2] at hk_5
          exact va_get (D := (dC, dI)) (ci := 6) (v := .int cn) (C := RX7) (T := TX7) (N := 8) hx hb hts (by decide +kernel) hown hK hP kk_4 hk_5 rfl 3 (by decide) (hts (.fieldLink RX4 9 "PageOne$Item" "count" "I") (by decide +kernel)) (fun _ h9 => h9) rfl dX4_loseLast_9 hgo
        ·
          rw [ht9.2] at hk_5
          exact va_get (D := (dC, dI)) (ci := 9) (v := .int cn) (C := RX10) (T := TX10) (N := 9) hx hb hts (by decide +kernel) hown hK hP kk_4 hk_5 rfl 3 (by decide) (hts (.fieldLink RX4 9 "PageOne$Item" "count" "I") (by decide +kernel)) (fun _ h9 => h9) rfl dX4_loseLast_9 hgo
      ·
        refine lv_iconst (v := 1) hx hb dX4_loseLast_12 (by decide) ?_
        refine lv_isub hx hb dX4_loseLast_13 ?_
        refine lv_topi (fun x_6 ex_6 => ?_)
        obtain ⟨kk_7, hk_8⟩ := pl_at ha0.1 hs
        have hD0 := hD
        refine w_cut (X := fun R cells slots Q args => ∀ (H : Heap) (locs : List Loc), va_P (dC, dI) vwCl (va_pl z.1 (va_up f a0 (.inr (ciT (z.2 a0).1, itF nu kd pa x_6 fa rs)))) H → va_D A (va_pl z.1 (va_up f a0 (.inr (ciT (z.2 a0).1, itF nu kd pa x_6 fa rs)))) → va_S A s.heap H locs → W p l e R s m args below meth c H locs cells slots Q (F0 m 17 ls [])) ?_ (fun kC => ?_)
        ·
          intro H locs hP hD hS
          obtain ⟨f_9, ef_9⟩ : ∃ y : xF, y = va_up f a0 (.inr (ciT (z.2 a0).1, itF nu kd pa x_6 fa rs)) := ⟨_, rfl⟩
          have hI : xI q h0 d k z f_9 := by rw [ef_9]; exact x_upC hI ha0 hs hps (bcm1 h6 hcb c_3 ex_6).1 (fun j hj => hnn j (by have := (bcm1 h6 hcb c_3 ex_6).2.1; omega)) hlg
          have hP : va_P (dC, dI) vwCl (va_pl z.1 f_9) H := by rw [ef_9]; exact hP
          have hD : va_D A (va_pl z.1 f_9) := by rw [ef_9]; exact hD
          have hff_9 : f_9 a0 = .inr (ciT (z.2 a0).1, itF nu kd pa x_6 fa rs) := by rw [ef_9]; exact up_s
          have hs_10 : f_9 pa = aR (q 5) n g := by rw [ef_9, up_o (x_pan hI ha0 hpa)]; exact hps
          refine lv_aload_n hx hb dX4_loseLast_17 rfl (lv_at hl 0 rfl) ?_
          obtain ⟨kk_11, hk_12⟩ := pl_at ha0.1 hff_9
          refine w_then (F0 m 21 ls [.ref pa]) (fun hgo => ?_) ?_
          ·
            rcases x_tag ha0 with ht9 | ht9 | ht9 | ht9 | ht9 | ht9
            ·
              rw [ht9.2] at hk_12
              exact va_get (D := (dC, dI)) (ci := 2) (v := .ref pa) (C := RX2) (T := TX2) (N := 7) hx hb hts (by decide +kernel) hown hK hP kk_11 hk_12 rfl 2 (by decide) (hts (.fieldLink RX4 31 "PageOne$Item" "pieces" "[LPageOne$Piece;") (by decide +kernel)) (fun _ h9 => h9) rfl dX4_loseLast_18 hgo
            ·
              rw [ht9.2] at hk_12
              exact va_get (D := (dC, dI)) (ci := 3) (v := .ref pa) (C := RX3) (T := TX3) (N := 8) hx hb hts (by decide +kernel) hown hK hP kk_11 hk_12 rfl 2 (by decide) (hts (.fieldLink RX4 31 "PageOne$Item" "pieces" "[LPageOne$Piece;") (by decide +kernel)) (fun _ h9 => h9) rfl dX4_loseLast_18 hgo
            ·
              rw [ht9.2] at hk_12
              exact va_get (D := (dC, dI)) (ci := 4) (v := .ref pa) (C := RX5) (T := TX5) (N := 7) hx hb hts (by decide +kernel) hown hK hP kk_11 hk_12 rfl 2 (by decide) (hts (.fieldLink RX4 31 "PageOne$Item" "pieces" "[LPageOne$Piece;") (by decide +kernel)) (fun _ h9 => h9) rfl dX4_loseLast_18 hgo
            ·
              rw [ht9.2] at hk_12
              exact va_get (D := (dC, dI)) (ci := 5) (v := .ref pa) (C := RX6) (T := TX6) (N := 9) hx hb hts (by decide +kernel) hown hK hP kk_11 hk_12 rfl 2 (by decide) (hts (.fieldLink RX4 31 "PageOne$Item" "pieces" "[LPageOne$Piece;") (by decide +kernel)) (fun _ h9 => h9) rfl dX4_loseLast_18 hgo
            ·
              rw [ht9.2] at hk_12
              exact va_get (D := (dC, dI)) (ci := 6) (v := .ref pa) (C := RX7) (T := TX7) (N := 8) hx hb hts (by decide +kernel) hown hK hP kk_11 hk_12 rfl 2 (by decide) (hts (.fieldLink RX4 31 "PageOne$Item" "pieces" "[LPageOne$Piece;") (by decide +kernel)) (fun _ h9 => h9) rfl dX4_loseLast_18 hgo
            ·
              rw [ht9.2] at hk_12
              exact va_get (D := (dC, dI)) (ci := 9) (v := .ref pa) (C := RX10) (T := TX10) (N := 9) hx hb hts (by decide +kernel) hown hK hP kk_11 hk_12 rfl 2 (by decide) (hts (.fieldLink RX4 31 "PageOne$Item" "pieces" "[LPageOne$Piece;") (by decide +kernel)) (fun _ h9 => h9) rfl dX4_loseLast_18 hgo
          ·
            refine lv_aload_n hx hb dX4_loseLast_21 rfl (lv_at hl 0 rfl) ?_
            obtain ⟨kk_13, hk_14⟩ := pl_at ha0.1 hff_9
            refine w_then (F0 m 25 ls [.int x_6, .ref pa]) (fun hgo => ?_) ?_
            ·
              rcases x_tag ha0 with ht9 | ht9 | ht9 | ht9 | ht9 | ht9
              ·
                rw [ht9.2] at hk_14
                exact va_get (D := (dC, dI)) (ci := 2) (v := .int x_6) (C := RX2) (T := TX2) (N := 7) hx hb hts (by decide +kernel) hown hK hP kk_13 hk_14 rfl 3 (by decide) (hts (.fieldLink RX4 9 "PageOne$Item" "count" "I") (by decide +kernel)) (fun _ h9 => h9) rfl dX4_loseLast_22 hgo
              ·
                rw [ht9.2] at hk_14
                exact va_get (D := (dC, dI)) (ci := 3) (v := .int x_6) (C := RX3) (T := TX3) (N := 8) hx hb hts (by decide +kernel) hown hK hP kk_13 hk_14 rfl 3 (by decide) (hts (.fieldLink RX4 9 "PageOne$Item" "count" "I") (by decide +kernel)) (fun _ h9 => h9) rfl dX4_loseLast_22 hgo
              ·
                rw [ht9.2] at hk_14
                exact va_get (D := (dC, dI)) (ci := 4) (v := .int x_6) (C := RX5) (T := TX5) (N := 7) hx hb hts (by decide +kernel) hown hK hP kk_13 hk_14 rfl 3 (by decide) (hts (.fieldLink RX4 9 "PageOne$Item" "count" "I") (by decide +kernel)) (fun _ h9 => h9) rfl dX4_loseLast_22 hgo
              ·
                rw [ht9.2] at hk_14
                exact va_get (D := (dC, dI)) (ci := 5) (v := .int x_6) (C := RX6) (T := TX6) (N := 9) hx hb hts (by decide +kernel) hown hK hP kk_13 hk_14 rfl 3 (by decide) (hts (.fieldLink RX4 9 "PageOne$Item" "count" "I") (by decide +kernel)) (fun _ h9 => h9) rfl dX4_loseLast_22 hgo
              ·
                rw [ht9.2] at hk_14
                exact va_get (D := (dC, dI)) (ci := 6) (v := .int x_6) (C := RX7) (T := TX7) (N := 8) hx hb hts (by decide +kernel) hown hK hP kk_13 hk_14 rfl 3 (by decide) (hts (.fieldLink RX4 9 "PageOne$Item" "count" "I") (by decide +kernel)) (fun _ h9 => h9) rfl dX4_loseLast_22 hgo
              ·
                rw [ht9.2] at hk_14
                exact va_get (D := (dC, dI)) (ci := 9) (v := .int x_6) (C := RX10) (T := TX10) (N := 9) hx hb hts (by decide +kernel) hown hK hP kk_13 hk_14 rfl 3 (by decide) (hts (.fieldLink RX4 9 "PageOne$Item" "count" "I") (by decide +kernel)) (fun _ h9 => h9) rfl dX4_loseLast_22 hgo
            ·
              refine lv_null hx hb dX4_loseLast_25 ?_
              obtain ⟨kk_15, hk_16⟩ := pl_at hpa.1 hs_10
              have hD0 := hD
              refine va_astqN hx hb hK hP hD hS kk_15 5 hk_16 rfl (bcm1 h6 hcb c_3 ex_6).2.2 dX4_loseLast_26 (fun H locs hP hD hS => ?_)
              rw [pl_set hD0 hpa.1 hs_10 hk_16] at hP hD
              obtain ⟨f_17, ef_17⟩ : ∃ y : xF, y = va_up f_9 pa (aR (q 5) n (va_up g (x_6 : Int32).toNatClampNeg none)) := ⟨_, rfl⟩
              have hI : xI q h0 d k z f_17 := by rw [ef_17]; exact x_upP hI ha0 hff_9 hs_10 (x_pan hI ha0 hpa) (bcm1 h6 hcb c_3 ex_6).1 (nn_up (fun j hj => hnn j (by have := (bcm1 h6 hcb c_3 ex_6).2.1; omega)) (Nat.le_refl _)) (ty_up hlg ty_n)
              have hP : va_P (dC, dI) vwCl (va_pl z.1 f_17) H := by rw [ef_17]; exact hP
              have hD : va_D A (va_pl z.1 f_17) := by rw [ef_17]; exact hD
              have hs_18 : f_17 a0 = .inr (ciT (z.2 a0).1, itF nu kd pa x_6 fa rs) := by rw [ef_17, up_o (itm_ne ha0 hpa (by decide))]; exact hff_9
              have hs_19 : f_17 pa = aR (q 5) n (va_up g (x_6 : Int32).toNatClampNeg none) := by rw [ef_17]; exact up_s
              have hs_20 : f_17 a0 = .inr (ciT (z.2 a0).1, itF nu kd pa x_6 fa rs) := by rw [ef_17, up_o (fun e => (x_pan hI ha0 hpa) e.symm)]; exact hff_9
              exact W.vret hx hb hr (fun t ht hW => ⟨⟨(k, z, f_17), rfl, ⟨rfl, rfl, hI, (by show f_17 = _; rw [ef_17, ef_9, ex_6]; unfold s_lose_f; rw [if_neg c_3])⟩, by rw [ht]; exact hP, hD⟩, hS.F ht⟩) hS.2.2 dX4_loseLast_27
        ·
          have hk8 := hk_8
          rcases x_tag ha0 with ht9 | ht9 | ht9 | ht9 | ht9 | ht9
          ·
            rw [ht9.2] at hk_8
            refine va_put (D := (dC, dI)) (ci := 2) (v := .int x_6) (ty := .int) (C := RX2) (T := TX2) (N := 7) hx hb hts (by decide +kernel) tyX2 tyX2_ok nmX2 hown hK hP hD hS kk_7 hk_8 rfl 3 (by decide) (hts (.fieldLink RX4 9 "PageOne$Item" "count" "I") (by decide +kernel)) (fun _ h9 => h9) rfl (by decide +kernel) rfl rfl (by unfold itF; simp only [List.length_cons]; omega) dX4_loseLast_14 (fun H locs hP hD hS => kC H locs ?_ ?_ hS)
            · rw [← pl_set (e := .inr (ciT (z.2 a0).1, itF nu kd pa x_6 fa rs)) hD0 ha0.1 hs hk8, ht9.2]; exact hP
            · rw [← pl_set (e := .inr (ciT (z.2 a0).1, itF nu kd pa x_6 fa rs)) hD0 ha0.1 hs hk8, ht9.2]; exact hD
          ·
            rw [ht9.2] at hk_8
            refine va_put (D := (dC, dI)) (ci := 3) (v := .int x_6) (ty := .int) (C := RX3) (T := TX3) (N := 8) hx hb hts (by decide +kernel) tyX3 tyX3_ok nmX3 hown hK hP hD hS kk_7 hk_8 rfl 3 (by decide) (hts (.fieldLink RX4 9 "PageOne$Item" "count" "I") (by decide +kernel)) (fun _ h9 => h9) rfl (by decide +kernel) rfl rfl (by unfold itF; simp only [List.length_cons]; omega) dX4_loseLast_14 (fun H locs hP hD hS => kC H locs ?_ ?_ hS)
            · rw [← pl_set (e := .inr (ciT (z.2 a0).1, itF nu kd pa x_6 fa rs)) hD0 ha0.1 hs hk8, ht9.2]; exact hP
            · rw [← pl_set (e := .inr (ciT (z.2 a0).1, itF nu kd pa x_6 fa rs)) hD0 ha0.1 hs hk8, ht9.2]; exact hD
          ·
            rw [ht9.2] at hk_8
            refine va_put (D := (dC, dI)) (ci := 4) (v := .int x_6) (ty := .int) (C := RX5) (T := TX5) (N := 7) hx hb hts (by decide +kernel) tyX5 tyX5_ok nmX5 hown hK hP hD hS kk_7 hk_8 rfl 3 (by decide) (hts (.fieldLink RX4 9 "PageOne$Item" "count" "I") (by decide +kernel)) (fun _ h9 => h9) rfl (by decide +kernel) rfl rfl (by unfold itF; simp only [List.length_cons]; omega) dX4_loseLast_14 (fun H locs hP hD hS => kC H locs ?_ ?_ hS)
            · rw [← pl_set (e := .inr (ciT (z.2 a0).1, itF nu kd pa x_6 fa rs)) hD0 ha0.1 hs hk8, ht9.2]; exact hP
            · rw [← pl_set (e := .inr (ciT (z.2 a0).1, itF nu kd pa x_6 fa rs)) hD0 ha0.1 hs hk8, ht9.2]; exact hD
          ·
            rw [ht9.2] at hk_8
            refine va_put (D := (dC, dI)) (ci := 5) (v := .int x_6) (ty := .int) (C := RX6) (T := TX6) (N := 9) hx hb hts (by decide +kernel) tyX6 tyX6_ok nmX6 hown hK hP hD hS kk_7 hk_8 rfl 3 (by decide) (hts (.fieldLink RX4 9 "PageOne$Item" "count" "I") (by decide +kernel)) (fun _ h9 => h9) rfl (by decide +kernel) rfl rfl (by unfold itF; simp only [List.length_cons]; omega) dX4_loseLast_14 (fun H locs hP hD hS => kC H locs ?_ ?_ hS)
            · rw [← pl_set (e := .inr (ciT (z.2 a0).1, itF nu kd pa x_6 fa rs)) hD0 ha0.1 hs hk8, ht9.2]; exact hP
            · rw [← pl_set (e := .inr (ciT (z.2 a0).1, itF nu kd pa x_6 fa rs)) hD0 ha0.1 hs hk8, ht9.2]; exact hD
          ·
            rw [ht9.2] at hk_8
            refine va_put (D := (dC, dI)) (ci := 6) (v := .int x_6) (ty := .int) (C := RX7) (T := TX7) (N := 8) hx hb hts (by decide +kernel) tyX7 tyX7_ok nmX7 hown hK hP hD hS kk_7 hk_8 rfl 3 (by decide) (hts (.fieldLink RX4 9 "PageOne$Item" "count" "I") (by decide +kernel)) (fun _ h9 => h9) rfl (by decide +kernel) rfl rfl (by unfold itF; simp only [List.length_cons]; omega) dX4_loseLast_14 (fun H locs hP hD hS => kC H locs ?_ ?_ hS)
            · rw [← pl_set (e := .inr (ciT (z.2 a0).1, itF nu kd pa x_6 fa rs)) hD0 ha0.1 hs hk8, ht9.2]; exact hP
            · rw [← pl_set (e := .inr (ciT (z.2 a0).1, itF nu kd pa x_6 fa rs)) hD0 ha0.1 hs hk8, ht9.2]; exact hD
          ·
            rw [ht9.2] at hk_8
            refine va_put (D := (dC, dI)) (ci := 9) (v := .int x_6) (ty := .int) (C := RX10) (T := TX10) (N := 9) hx hb hts (by decide +kernel) tyX10 tyX10_ok nmX10 hown hK hP hD hS kk_7 hk_8 rfl 3 (by decide) (hts (.fieldLink RX4 9 "PageOne$Item" "count" "I") (by decide +kernel)) (fun _ h9 => h9) rfl (by decide +kernel) rfl rfl (by unfold itF; simp only [List.length_cons]; omega) dX4_loseLast_14 (fun H locs hP hD hS => kC H locs ?_ ?_ hS)
            · rw [← pl_set (e := .inr (ciT (z.2 a0).1, itF nu kd pa x_6 fa rs)) hD0 ha0.1 hs hk8, ht9.2]; exact hP
            · rw [← pl_set (e := .inr (ciT (z.2 a0).1, itF nu kd pa x_6 fa rs)) hD0 ha0.1 hs hk8, ht9.2]; exact hD
noncomputable def s_takeIn (p0 co : Int32) : Int32 := if co < 80 then (co + 1) else (-1)
noncomputable def s_takeIn_f (q : Nat → ClassId) (f : xF) (a0 pa fa wd nm : Nat) (p0 nu kd cn lz co : Int32) (gw : Nat → Int32) : xF := if co < 80 then (va_up (va_up f wd (aI (q 0) 80 (upd gw (co : Int32).toNatClampNeg p0))) a0 (.inr (9, [.int nu, .int kd, .ref pa, .int cn, .ref fa, .int lz, .ref wd, .int (co + 1), .ref nm]))) else f
set_option maxHeartbeats 4000000 in
set_option maxRecDepth 100000 in
theorem y_takeIn (l : Launch) (dC : Nat → ClassId) (dI : Nat → Nat → Nat) (q : Nat → ClassId) (h0 : Nat) (d : Nat → Nat) (k : Nat → Int32) (z : gS) (f : xF) (hI : xI q h0 d k z f) (a0 pa fa wd nm : Nat) (nu kd cn lz co : Int32) (ha0 : tg z a0 15) (hs : f a0 = .inr (9, [.int nu, .int kd, .ref pa, .int cn, .ref fa, .int lz, .ref wd, .int co, .ref nm])) (p0 : Int32) (gw : Nat → Int32) (hwd : tg z wd 18) (hwg : f wd = aI (q 0) 80 gw) (hnm : tg z nm 19) (hpa : tg z pa 16) (hfa : tg z fa 17) (hco : bw co 0 80 = true) (sz : Nat) : Met l yX10_takeIn wsX10_takeIn ({ frames := 0, cells := 0, slots := 0, locals := 0 }) (va_Pc [.ref a0, .int p0] (fun U => U.heap.size = sz ∧ PX dC dI (va_pl z.1 f) (xT q) U ∧ va_D (fun _ => True) (va_pl z.1 f))) (va_Qi (fun (r : Int32) (w : xU) => w.1 = k ∧ w.2.1 = z ∧ xI q h0 d k z w.2.2 ∧ r = s_takeIn p0 co ∧ w.2.2 = s_takeIn_f q f a0 pa fa wd nm p0 nu kd cn lz co gw) (fun (w : xU) t => va_P (dC, dI) vwCl (va_pl w.2.1.1 w.2.2) t.heap ∧ va_D (va_A (va_pl z.1 f) sz) (va_pl w.2.1.1 w.2.2)) (va_A (va_pl z.1 f) sz)) 0 0 (va_A (va_pl z.1 f) sz) := by
  refine Met.ofW (cc := cX10_takeIn) (maxL := 2) (ret := (some .int)) (by decide) rfl ?_
  intro p e s m args below meth c s₁ B hml hv
  obtain ⟨rfl, hsz, ⟨⟨hP, hK, hN⟩, hXN⟩, hD0⟩ := hv
  have hx := B.exec
  have hb := B.bytes
  have hr := B.returns
  have hts := atoms_spec (ws := wsX10_takeIn) B.pre
  have hown : s.vm.findClass RX10 = some m.cls := findClass_of_methodNamed B.named
  have hlocks := B.notSynchronized
  subst hsz
  have hD := hD0.self (sz := s.heap.size)
  generalize hAe : va_A (va_pl z.1 f) s.heap.size = A at hD ⊢
  have hA : ∀ q : Nat, s.heap.size ≤ q → A q := fun q h => by rw [← hAe]; exact Or.inr h
  have hS : va_S A s.heap s.heap [] := va_S.rf
  have hl := lv_entry ([.ref a0, .int p0]) (n := 2) (Nat.le_of_ble_eq_true rfl)
  rw [lg_entry_eq]
  generalize (lg_sl ([.ref a0, .int p0]) ++ List.replicate (2 - (lg_sl ([.ref a0, .int p0])).length) Slot.unset).toArray = ls at hl ⊢
  have hl : lv_has ls 2 [(0, .ref a0), (1, .int p0)] := hl
  refine lv_aload_n hx hb dX10_takeIn_0 rfl (lv_at hl 0 rfl) ?_
  obtain ⟨kk_1, hk_2⟩ := pl_at ha0.1 hs
  refine va_get (D := (dC, dI)) (ci := 9) (v := .int co) (C := RX10) (T := TX10) (N := 9) hx hb hts (by decide +kernel) hown hK hP kk_1 hk_2 rfl 7 (by decide) (hts (.fieldLink RX10 15 "PageOne$Story" "come" "I") (by decide +kernel)) (fun _ h9 => h9) rfl dX10_takeIn_1 ?_
  refine lv_bipush (v := 80) hx hb dX10_takeIn_4 (by decide) ?_
  refine lv_icmp_lt (tgt := 11) hx hb dX10_takeIn_6 (by decide) (fun c_3 => ?_) (fun c_3 => ?_)
  ·
    refine lv_aload_n hx hb dX10_takeIn_11 rfl (lv_at hl 0 rfl) ?_
    obtain ⟨kk_4, hk_5⟩ := pl_at ha0.1 hs
    refine va_get (D := (dC, dI)) (ci := 9) (v := .ref wd) (C := RX10) (T := TX10) (N := 9) hx hb hts (by decide +kernel) hown hK hP kk_4 hk_5 rfl 6 (by decide) (hts (.fieldLink RX10 9 "PageOne$Story" "widths" "[I") (by decide +kernel)) (fun _ h9 => h9) rfl dX10_takeIn_12 ?_
    refine lv_aload_n hx hb dX10_takeIn_15 rfl (lv_at hl 0 rfl) ?_
    obtain ⟨kk_6, hk_7⟩ := pl_at ha0.1 hs
    refine va_get (D := (dC, dI)) (ci := 9) (v := .int co) (C := RX10) (T := TX10) (N := 9) hx hb hts (by decide +kernel) hown hK hP kk_6 hk_7 rfl 7 (by decide) (hts (.fieldLink RX10 15 "PageOne$Story" "come" "I") (by decide +kernel)) (fun _ h9 => h9) rfl dX10_takeIn_16 ?_
    refine lv_iload_n hx hb dX10_takeIn_19 rfl (lv_at hl 1 rfl) ?_
    obtain ⟨kk_8, hk_9⟩ := pl_at hwd.1 hwg
    have hD0 := hD
    refine va_iast hx hb hK hP hD hS kk_8 0 hk_9 rfl (vltn (n := 80) hco c_3 rfl (by decide)).1 dX10_takeIn_20 (fun H locs hP hD hS => ?_)
    rw [pl_set hD0 hwd.1 hwg hk_9] at hP hD
    obtain ⟨f_10, ef_10⟩ : ∃ y : xF, y = va_up f wd (aI (q 0) 80 (upd gw (co : Int32).toNatClampNeg p0)) := ⟨_, rfl⟩
    have hI : xI q h0 d k z f_10 := by rw [ef_10]; exact x_up hI hwd (by decide) (cO_18 hwd.2 ⟨_, rfl⟩)
    have hP : va_P (dC, dI) vwCl (va_pl z.1 f_10) H := by rw [ef_10]; exact hP
    have hD : va_D A (va_pl z.1 f_10) := by rw [ef_10]; exact hD
    have hs_11 : f_10 a0 = .inr (9, [.int nu, .int kd, .ref pa, .int cn, .ref fa, .int lz, .ref wd, .int co, .ref nm]) := by rw [ef_10, up_o (tg_ne ha0 hwd (by decide))]; exact hs
    have hs_12 : f_10 a0 = .inr (9, [.int nu, .int kd, .ref pa, .int cn, .ref fa, .int lz, .ref wd, .int co, .ref nm]) := by rw [ef_10, up_o (tg_ne ha0 hwd (by decide))]; exact hs
    refine lv_aload_n hx hb dX10_takeIn_21 rfl (lv_at hl 0 rfl) ?_
    refine lv_dup hx hb dX10_takeIn_22 rfl ?_
    obtain ⟨kk_13, hk_14⟩ := pl_at ha0.1 hs_12
    refine va_get (D := (dC, dI)) (ci := 9) (v := .int co) (C := RX10) (T := TX10) (N := 9) hx hb hts (by decide +kernel) hown hK hP kk_13 hk_14 rfl 7 (by decide) (hts (.fieldLink RX10 15 "PageOne$Story" "come" "I") (by decide +kernel)) (fun _ h9 => h9) rfl dX10_takeIn_23 ?_
    refine lv_iconst (v := 1) hx hb dX10_takeIn_26 (by decide) ?_
    refine lv_iadd hx hb dX10_takeIn_27 ?_
    refine lv_topi (fun x_15 ex_15 => ?_)
    obtain ⟨kk_16, hk_17⟩ := pl_at ha0.1 hs_12
    have hD0 := hD
    refine va_put (D := (dC, dI)) (ci := 9) (v := .int x_15) (ty := .int) (C := RX10) (T := TX10) (N := 9) hx hb hts (by decide +kernel) tyX10 tyX10_ok nmX10 hown hK hP hD hS kk_16 hk_17 rfl 7 (by decide) (hts (.fieldLink RX10 15 "PageOne$Story" "come" "I") (by decide +kernel)) (fun _ h9 => h9) rfl (by decide +kernel) rfl rfl (Nat.le_of_ble_eq_true rfl) dX10_takeIn_28 (fun H locs hP hD hS => ?_)
    rw [pl_set hD0 ha0.1 hs_12 hk_17] at hP hD
    obtain ⟨f_18, ef_18⟩ : ∃ y : xF, y = va_up f_10 a0 (.inr (9, [.int nu, .int kd, .ref pa, .int cn, .ref fa, .int lz, .ref wd, .int x_15, .ref nm])) := ⟨_, rfl⟩
    have hI : xI q h0 d k z f_18 := by rw [ef_18]; exact x_upStory hI ha0 hs_12 hwd hnm (by rw [ex_15]; exact (vltn (n := 80) hco c_3 rfl (by decide)).2)
    have hP : va_P (dC, dI) vwCl (va_pl z.1 f_18) H := by rw [ef_18]; exact hP
    have hD : va_D A (va_pl z.1 f_18) := by rw [ef_18]; exact hD
    have hs_19 : f_18 a0 = .inr (9, [.int nu, .int kd, .ref pa, .int cn, .ref fa, .int lz, .ref wd, .int x_15, .ref nm]) := by rw [ef_18]; exact up_s
    refine lv_aload_n hx hb dX10_takeIn_31 rfl (lv_at hl 0 rfl) ?_
    obtain ⟨kk_20, hk_21⟩ := pl_at ha0.1 hs_19
    refine va_get (D := (dC, dI)) (ci := 9) (v := .int x_15) (C := RX10) (T := TX10) (N := 9) hx hb hts (by decide +kernel) hown hK hP kk_20 hk_21 rfl 7 (by decide) (hts (.fieldLink RX10 15 "PageOne$Story" "come" "I") (by decide +kernel)) (fun _ h9 => h9) rfl dX10_takeIn_32 ?_
    exact W.iret (v := x_15) hx hb hr (fun t ht hW => ⟨⟨x_15, (k, z, f_18), rfl, ⟨rfl, rfl, hI, (by rw [ex_15]; unfold s_takeIn; rw [if_pos c_3]), (by show f_18 = _; rw [ef_18, ef_10, ex_15]; unfold s_takeIn_f; rw [if_pos c_3])⟩, by rw [ht]; exact hP, hD⟩, hS.F ht⟩) hS.2.2 dX10_takeIn_35
  ·
    refine lv_iconst (v := (-1)) hx hb dX10_takeIn_9 (by decide) ?_
    exact W.iret (v := (-1)) hx hb hr (fun t ht hW => ⟨⟨(-1), (k, z, f), rfl, ⟨rfl, rfl, hI, (by unfold s_takeIn; rw [if_neg c_3]), (by show f = _; unfold s_takeIn_f; rw [if_neg c_3])⟩, by rw [ht]; exact hP, hD⟩, hS.F ht⟩) hS.2.2 dX10_takeIn_10
noncomputable def s_takeSize (p0 p1 sn : Int32) : Int32 := if sn < 4 then (sn + 1) else (-1)
noncomputable def s_takeSize_f (q : Nat → ClassId) (f : xF) (a0 pa fa ww hh : Nat) (p0 p1 nu kd cn sn : Int32) (gw gh : Nat → Int32) : xF := if sn < 4 then (va_up (va_up (va_up f ww (aI (q 0) 4 (upd gw (sn : Int32).toNatClampNeg p0))) hh (aI (q 0) 4 (upd gh (sn : Int32).toNatClampNeg p1))) a0 (.inr (6, [.int nu, .int kd, .ref pa, .int cn, .ref fa, .ref ww, .ref hh, .int (sn + 1)]))) else f
set_option maxHeartbeats 4000000 in
set_option maxRecDepth 100000 in
theorem y_takeSize (l : Launch) (dC : Nat → ClassId) (dI : Nat → Nat → Nat) (q : Nat → ClassId) (h0 : Nat) (d : Nat → Nat) (k : Nat → Int32) (z : gS) (f : xF) (hI : xI q h0 d k z f) (a0 pa fa ww hh : Nat) (nu kd cn sn : Int32) (ha0 : tg z a0 14) (hs : f a0 = .inr (6, [.int nu, .int kd, .ref pa, .int cn, .ref fa, .ref ww, .ref hh, .int sn])) (p0 p1 : Int32) (gw gh : Nat → Int32) (hww : tg z ww 20) (hwg : f ww = aI (q 0) 4 gw) (hhh : tg z hh 20) (hhg : f hh = aI (q 0) 4 gh) (hpa : tg z pa 16) (hfa : tg z fa 17) (hz4 : bw sn 0 4 = true) (hwh : ww ≠ hh) (sz : Nat) : Met l yX7_takeSize wsX7_takeSize ({ frames := 0, cells := 0, slots := 0, locals := 0 }) (va_Pc [.ref a0, .int p0, .int p1] (fun U => U.heap.size = sz ∧ PX dC dI (va_pl z.1 f) (xT q) U ∧ va_D (fun _ => True) (va_pl z.1 f))) (va_Qi (fun (r : Int32) (w : xU) => w.1 = k ∧ w.2.1 = z ∧ xI q h0 d k z w.2.2 ∧ r = s_takeSize p0 p1 sn ∧ w.2.2 = s_takeSize_f q f a0 pa fa ww hh p0 p1 nu kd cn sn gw gh) (fun (w : xU) t => va_P (dC, dI) vwCl (va_pl w.2.1.1 w.2.2) t.heap ∧ va_D (va_A (va_pl z.1 f) sz) (va_pl w.2.1.1 w.2.2)) (va_A (va_pl z.1 f) sz)) 0 0 (va_A (va_pl z.1 f) sz) := by
  refine Met.ofW (cc := cX7_takeSize) (maxL := 3) (ret := (some .int)) (by decide) rfl ?_
  intro p e s m args below meth c s₁ B hml hv
  obtain ⟨rfl, hsz, ⟨⟨hP, hK, hN⟩, hXN⟩, hD0⟩ := hv
  have hx := B.exec
  have hb := B.bytes
  have hr := B.returns
  have hts := atoms_spec (ws := wsX7_takeSize) B.pre
  have hown : s.vm.findClass RX7 = some m.cls := findClass_of_methodNamed B.named
  have hlocks := B.notSynchronized
  subst hsz
  have hD := hD0.self (sz := s.heap.size)
  generalize hAe : va_A (va_pl z.1 f) s.heap.size = A at hD ⊢
  have hA : ∀ q : Nat, s.heap.size ≤ q → A q := fun q h => by rw [← hAe]; exact Or.inr h
  have hS : va_S A s.heap s.heap [] := va_S.rf
  have hl := lv_entry ([.ref a0, .int p0, .int p1]) (n := 3) (Nat.le_of_ble_eq_true rfl)
  rw [lg_entry_eq]
  generalize (lg_sl ([.ref a0, .int p0, .int p1]) ++ List.replicate (3 - (lg_sl ([.ref a0, .int p0, .int p1])).length) Slot.unset).toArray = ls at hl ⊢
  have hl : lv_has ls 3 [(0, .ref a0), (1, .int p0), (2, .int p1)] := hl
  refine lv_aload_n hx hb dX7_takeSize_0 rfl (lv_at hl 0 rfl) ?_
  obtain ⟨kk_1, hk_2⟩ := pl_at ha0.1 hs
  refine va_get (D := (dC, dI)) (ci := 6) (v := .int sn) (C := RX7) (T := TX7) (N := 8) hx hb hts (by decide +kernel) hown hK hP kk_1 hk_2 rfl 7 (by decide) (hts (.fieldLink RX7 18 "PageOne$Picture" "sizes" "I") (by decide +kernel)) (fun _ h9 => h9) rfl dX7_takeSize_1 ?_
  refine lv_iconst (v := 4) hx hb dX7_takeSize_4 (by decide) ?_
  refine lv_icmp_lt (tgt := 10) hx hb dX7_takeSize_5 (by decide) (fun c_3 => ?_) (fun c_3 => ?_)
  ·
    refine lv_aload_n hx hb dX7_takeSize_10 rfl (lv_at hl 0 rfl) ?_
    obtain ⟨kk_4, hk_5⟩ := pl_at ha0.1 hs
    refine va_get (D := (dC, dI)) (ci := 6) (v := .ref ww) (C := RX7) (T := TX7) (N := 8) hx hb hts (by decide +kernel) hown hK hP kk_4 hk_5 rfl 5 (by decide) (hts (.fieldLink RX7 9 "PageOne$Picture" "widths" "[I") (by decide +kernel)) (fun _ h9 => h9) rfl dX7_takeSize_11 ?_
    refine lv_aload_n hx hb dX7_takeSize_14 rfl (lv_at hl 0 rfl) ?_
    obtain ⟨kk_6, hk_7⟩ := pl_at ha0.1 hs
    refine va_get (D := (dC, dI)) (ci := 6) (v := .int sn) (C := RX7) (T := TX7) (N := 8) hx hb hts (by decide +kernel) hown hK hP kk_6 hk_7 rfl 7 (by decide) (hts (.fieldLink RX7 18 "PageOne$Picture" "sizes" "I") (by decide +kernel)) (fun _ h9 => h9) rfl dX7_takeSize_15 ?_
    refine lv_iload_n hx hb dX7_takeSize_18 rfl (lv_at hl 1 rfl) ?_
    obtain ⟨kk_8, hk_9⟩ := pl_at hww.1 hwg
    have hD0 := hD
    refine va_iast hx hb hK hP hD hS kk_8 0 hk_9 rfl (vltn (n := 4) hz4 c_3 rfl (by decide)).1 dX7_takeSize_19 (fun H locs hP hD hS => ?_)
    rw [pl_set hD0 hww.1 hwg hk_9] at hP hD
    obtain ⟨f_10, ef_10⟩ : ∃ y : xF, y = va_up f ww (aI (q 0) 4 (upd gw (sn : Int32).toNatClampNeg p0)) := ⟨_, rfl⟩
    have hI : xI q h0 d k z f_10 := by rw [ef_10]; exact x_up hI hww (by decide) (cO_20 hww.2 ⟨_, rfl⟩)
    have hP : va_P (dC, dI) vwCl (va_pl z.1 f_10) H := by rw [ef_10]; exact hP
    have hD : va_D A (va_pl z.1 f_10) := by rw [ef_10]; exact hD
    have hs_11 : f_10 a0 = .inr (6, [.int nu, .int kd, .ref pa, .int cn, .ref fa, .ref ww, .ref hh, .int sn]) := by rw [ef_10, up_o (tg_ne ha0 hww (by decide))]; exact hs
    have hs_12 : f_10 a0 = .inr (6, [.int nu, .int kd, .ref pa, .int cn, .ref fa, .ref ww, .ref hh, .int sn]) := by rw [ef_10, up_o (tg_ne ha0 hww (by decide))]; exact hs
    have hs_13 : f_10 hh = aI (q 0) 4 gh := by rw [ef_10, up_o (fun e => hwh e.symm)]; exact hhg
    refine lv_aload_n hx hb dX7_takeSize_20 rfl (lv_at hl 0 rfl) ?_
    obtain ⟨kk_14, hk_15⟩ := pl_at ha0.1 hs_12
    refine va_get (D := (dC, dI)) (ci := 6) (v := .ref hh) (C := RX7) (T := TX7) (N := 8) hx hb hts (by decide +kernel) hown hK hP kk_14 hk_15 rfl 6 (by decide) (hts (.fieldLink RX7 15 "PageOne$Picture" "heights" "[I") (by decide +kernel)) (fun _ h9 => h9) rfl dX7_takeSize_21 ?_
    refine lv_aload_n hx hb dX7_takeSize_24 rfl (lv_at hl 0 rfl) ?_
    obtain ⟨kk_16, hk_17⟩ := pl_at ha0.1 hs_12
    refine va_get (D := (dC, dI)) (ci := 6) (v := .int sn) (C := RX7) (T := TX7) (N := 8) hx hb hts (by decide +kernel) hown hK hP kk_16 hk_17 rfl 7 (by decide) (hts (.fieldLink RX7 18 "PageOne$Picture" "sizes" "I") (by decide +kernel)) (fun _ h9 => h9) rfl dX7_takeSize_25 ?_
    refine lv_iload_n hx hb dX7_takeSize_28 rfl (lv_at hl 2 rfl) ?_
    obtain ⟨kk_18, hk_19⟩ := pl_at hhh.1 hs_13
    have hD0 := hD
    refine va_iast hx hb hK hP hD hS kk_18 0 hk_19 rfl (vltn (n := 4) hz4 c_3 rfl (by decide)).1 dX7_takeSize_29 (fun H locs hP hD hS => ?_)
    rw [pl_set hD0 hhh.1 hs_13 hk_19] at hP hD
    obtain ⟨f_20, ef_20⟩ : ∃ y : xF, y = va_up f_10 hh (aI (q 0) 4 (upd gh (sn : Int32).toNatClampNeg p1)) := ⟨_, rfl⟩
    have hI : xI q h0 d k z f_20 := by rw [ef_20]; exact x_up hI hhh (by decide) (cO_20 hhh.2 ⟨_, rfl⟩)
    have hP : va_P (dC, dI) vwCl (va_pl z.1 f_20) H := by rw [ef_20]; exact hP
    have hD : va_D A (va_pl z.1 f_20) := by rw [ef_20]; exact hD
    have hs_21 : f_20 a0 = .inr (6, [.int nu, .int kd, .ref pa, .int cn, .ref fa, .ref ww, .ref hh, .int sn]) := by rw [ef_20, up_o (tg_ne ha0 hhh (by decide))]; exact hs_12
    have hs_22 : f_20 a0 = .inr (6, [.int nu, .int kd, .ref pa, .int cn, .ref fa, .ref ww, .ref hh, .int sn]) := by rw [ef_20, up_o (tg_ne ha0 hhh (by decide))]; exact hs_12
    refine lv_aload_n hx hb dX7_takeSize_30 rfl (lv_at hl 0 rfl) ?_
    refine lv_dup hx hb dX7_takeSize_31 rfl ?_
    obtain ⟨kk_23, hk_24⟩ := pl_at ha0.1 hs_22
    refine va_get (D := (dC, dI)) (ci := 6) (v := .int sn) (C := RX7) (T := TX7) (N := 8) hx hb hts (by decide +kernel) hown hK hP kk_23 hk_24 rfl 7 (by decide) (hts (.fieldLink RX7 18 "PageOne$Picture" "sizes" "I") (by decide +kernel)) (fun _ h9 => h9) rfl dX7_takeSize_32 ?_
    refine lv_iconst (v := 1) hx hb dX7_takeSize_35 (by decide) ?_
    refine lv_iadd hx hb dX7_takeSize_36 ?_
    refine lv_topi (fun x_25 ex_25 => ?_)
    obtain ⟨kk_26, hk_27⟩ := pl_at ha0.1 hs_22
    have hD0 := hD
    refine va_put (D := (dC, dI)) (ci := 6) (v := .int x_25) (ty := .int) (C := RX7) (T := TX7) (N := 8) hx hb hts (by decide +kernel) tyX7 tyX7_ok nmX7 hown hK hP hD hS kk_26 hk_27 rfl 7 (by decide) (hts (.fieldLink RX7 18 "PageOne$Picture" "sizes" "I") (by decide +kernel)) (fun _ h9 => h9) rfl (by decide +kernel) rfl rfl (Nat.le_of_ble_eq_true rfl) dX7_takeSize_37 (fun H locs hP hD hS => ?_)
    rw [pl_set hD0 ha0.1 hs_22 hk_27] at hP hD
    obtain ⟨f_28, ef_28⟩ : ∃ y : xF, y = va_up f_20 a0 (.inr (6, [.int nu, .int kd, .ref pa, .int cn, .ref fa, .ref ww, .ref hh, .int x_25])) := ⟨_, rfl⟩
    have hI : xI q h0 d k z f_28 := by rw [ef_28]; exact x_upPict hI ha0 hs_22 hww hhh (by rw [ex_25]; exact (vltn (n := 4) hz4 c_3 rfl (by decide)).2)
    have hP : va_P (dC, dI) vwCl (va_pl z.1 f_28) H := by rw [ef_28]; exact hP
    have hD : va_D A (va_pl z.1 f_28) := by rw [ef_28]; exact hD
    have hs_29 : f_28 a0 = .inr (6, [.int nu, .int kd, .ref pa, .int cn, .ref fa, .ref ww, .ref hh, .int x_25]) := by rw [ef_28]; exact up_s
    refine lv_aload_n hx hb dX7_takeSize_40 rfl (lv_at hl 0 rfl) ?_
    obtain ⟨kk_30, hk_31⟩ := pl_at ha0.1 hs_29
    refine va_get (D := (dC, dI)) (ci := 6) (v := .int x_25) (C := RX7) (T := TX7) (N := 8) hx hb hts (by decide +kernel) hown hK hP kk_30 hk_31 rfl 7 (by decide) (hts (.fieldLink RX7 18 "PageOne$Picture" "sizes" "I") (by decide +kernel)) (fun _ h9 => h9) rfl dX7_takeSize_41 ?_
    exact W.iret (v := x_25) hx hb hr (fun t ht hW => ⟨⟨x_25, (k, z, f_28), rfl, ⟨rfl, rfl, hI, (by rw [ex_25]; unfold s_takeSize; rw [if_pos c_3]), (by show f_28 = _; rw [ef_28, ef_20, ef_10, ex_25]; unfold s_takeSize_f; rw [if_pos c_3])⟩, by rw [ht]; exact hP, hD⟩, hS.F ht⟩) hS.2.2 dX7_takeSize_44
  ·
    refine lv_iconst (v := (-1)) hx hb dX7_takeSize_8 (by decide) ?_
    exact W.iret (v := (-1)) hx hb hr (fun t ht hW => ⟨⟨(-1), (k, z, f), rfl, ⟨rfl, rfl, hI, (by unfold s_takeSize; rw [if_neg c_3]), (by show f = _; unfold s_takeSize_f; rw [if_neg c_3])⟩, by rw [ht]; exact hP, hD⟩, hS.F ht⟩) hS.2.2 dX7_takeSize_9
set_option maxHeartbeats 4000000 in
set_option maxRecDepth 100000 in
theorem y_fill9_l {p : Program} {l : Launch} {e : Env} {R : Room} {s : State} {m : MethodId} {args : Array Value} {below : List Frame} {meth : Method} {c : Code} {Q : State → Prop} {cells slots : Nat} {dC : Nat → ClassId} {dI : Nat → Nat → Nat} {q : Nat → ClassId} {h0 : Nat} {d : Nat → Nat} {k : Nat → Int32} {z : gS} {a0 : Nat} {p0 : Int32} {f0 : xF} (ha0 : tg z a0 9) {A : Nat → Prop} {H0 : Heap} (hx : p.tables.exec = Jvm.exec) (hb : c.code = cJ7_fill_53178) (hml : c.maxLocals = 4) (hts : ∀ w ∈ wsJ7_fill_53178, w.before args s = true) (hown : s.vm.findClass RJ7 = some m.cls) (hN : NN s) (hXN : XN s) (hK : va_K (dC, dI) vwCl (xT q) s) (hA : ∀ q : Nat, H0.size ≤ q → A q) (kx20 : ∀ (f : xF) (H : Heap) (locs : List Loc) (g : Nat → Int32) (ls : Array Slot), (f = va_up f0 a0 (aI (q 0) 480 g) ∧ ∀ j, j < 480 → g j = p0) → xI q h0 d k z f → va_P (dC, dI) vwCl (va_pl z.1 f) H → va_D A (va_pl z.1 f) → va_S A H0 H locs → lv_has ls 4 [(0, .ref a0)] → W p l e R s m args below meth c H locs cells slots Q (F0 m 20 ls [])) : ∀ (kk i : Nat) (f : xF) (H : Heap) (locs : List Loc) (g : Nat → Int32) (ls : Array Slot), i ≤ 480 → 480 - i < kk → (f = va_up f0 a0 (aI (q 0) 480 g) ∧ ∀ j, j < i → g j = p0) → xI q h0 d k z f → va_P (dC, dI) vwCl (va_pl z.1 f) H → va_D A (va_pl z.1 f) → va_S A H0 H locs → lv_has ls 4 [(2, .int (nI i)), (0, .ref a0), (1, .int p0), (3, .int (nI 480))] → W p l e R s m args below meth c H locs cells slots Q (F0 m 5 ls []) := by
  intro kk
  induction kk with
  | zero => intro i f H locs g ls h1 h2; exact absurd h2 (Nat.not_lt_zero _)
  | succ kk ih =>
    intro i f H locs g ls hi hkk hg hI hP hD hS hl
    have hc9 : f a0 = aI (q 0) 480 g := by rw [hg.1]; exact up_s
    refine lv_iload_n hx hb dJ7_fill_53178_5 rfl (lv_at hl 0 rfl) ?_
    refine lv_iload_n hx hb dJ7_fill_53178_6 rfl (lv_at hl 3 rfl) ?_
    refine lv_icmp_ge (tgt := 20) hx hb dJ7_fill_53178_7 (by decide) (fun c_1 => ?_) (fun c_1 => ?_)
    ·
      have hie : i = 480 := lp_eq rfl (by decide) hi c_1
      exact kx20 _ _ _ _ ls ⟨hg.1, fun j hj => hg.2 j (by rw [hie]; exact hj)⟩ hI hP hD hS (lv_sub hl [1] rfl)
    ·
      have hlt : i < 480 := lp_lt rfl (by decide) hi c_1
      refine lv_aload_n hx hb dJ7_fill_53178_10 rfl (lv_at hl 1 rfl) ?_
      refine lv_iload_n hx hb dJ7_fill_53178_11 rfl (lv_at hl 0 rfl) ?_
      refine lv_iload_n hx hb dJ7_fill_53178_12 rfl (lv_at hl 2 rfl) ?_
      obtain ⟨kk_2, hk_3⟩ := pl_at ha0.1 hc9
      have hD0 := hD
      refine va_iast hx hb hK hP hD hS kk_2 0 hk_3 rfl (vp_in_nI hlt (by decide)) dJ7_fill_53178_13 (fun H locs hP hD hS => ?_)
      rw [pl_set hD0 ha0.1 hc9 hk_3] at hP hD
      obtain ⟨f_4, ef_4⟩ : ∃ y : xF, y = va_up f a0 (aI (q 0) 480 (upd g ((nI i) : Int32).toNatClampNeg p0)) := ⟨_, rfl⟩
      have hI : xI q h0 d k z f_4 := by rw [ef_4]; exact x_up hI ha0 (by decide) (cO_9 ha0.2 ⟨_, rfl⟩)
      have hP : va_P (dC, dI) vwCl (va_pl z.1 f_4) H := by rw [ef_4]; exact hP
      have hD : va_D A (va_pl z.1 f_4) := by rw [ef_4]; exact hD
      refine lv_iinc (v := (nI (i + 1))) (lv' := [(2, .int (nI (i + 1))), (0, .ref a0), (1, .int p0), (3, .int (nI 480))]) hx hb dJ7_fill_53178_14 hl (k := 0) rfl (nI_1 i) (by decide) rfl (fun ls hl => ?_)
      refine lv_goto (tgt := 5) hx hb dJ7_fill_53178_17 (by decide) ?_
      exact ih (i + 1) _ _ _ _ ls (by omega) (by omega) ⟨by rw [ef_4, hg.1, up_up], upd_step (by omega) hg.2⟩ hI hP hD hS (lv_sub hl [0, 1, 2, 3] rfl)
set_option maxHeartbeats 4000000 in
set_option maxRecDepth 100000 in
theorem y_fill9 (l : Launch) (dC : Nat → ClassId) (dI : Nat → Nat → Nat) (q : Nat → ClassId) (h0 : Nat) (d : Nat → Nat) (k : Nat → Int32) (z : gS) (f : xF) (hI : xI q h0 d k z f) (a0 : Nat) (p0 : Int32) (g : Nat → Int32) (ha0 : tg z a0 9) (hc9 : f a0 = aI (q 0) 480 g) (sz : Nat) : Met l yJ7_fill_53178 wsJ7_fill_53178 ({ frames := 0, cells := 0, slots := 0, locals := 0 }) (va_Pc [.ref a0, .int p0] (fun U => U.heap.size = sz ∧ PX dC dI (va_pl z.1 f) (xT q) U ∧ va_D (fun _ => True) (va_pl z.1 f))) (va_Qv (fun (w : xU) => w.1 = k ∧ w.2.1 = z ∧ xI q h0 d k z w.2.2 ∧ ∃ g2, w.2.2 = va_up f a0 (aI (q 0) 480 g2) ∧ ∀ j, j < 480 → g2 j = p0) (fun (w : xU) t => va_P (dC, dI) vwCl (va_pl w.2.1.1 w.2.2) t.heap ∧ va_D (va_A (va_pl z.1 f) sz) (va_pl w.2.1.1 w.2.2)) (va_A (va_pl z.1 f) sz)) 0 0 (va_A (va_pl z.1 f) sz) := by
  refine Met.ofW (cc := cJ7_fill_53178) (maxL := 4) (ret := none) (by decide) rfl ?_
  intro p e s m args below meth c s₁ B hml hv
  obtain ⟨rfl, hsz, ⟨⟨hP, hK, hN⟩, hXN⟩, hD0⟩ := hv
  have hx := B.exec
  have hb := B.bytes
  have hr := B.returns
  have hts := atoms_spec (ws := wsJ7_fill_53178) B.pre
  have hown : s.vm.findClass RJ7 = some m.cls := findClass_of_methodNamed B.named
  have hlocks := B.notSynchronized
  subst hsz
  have hD := hD0.self (sz := s.heap.size)
  generalize hAe : va_A (va_pl z.1 f) s.heap.size = A at hD ⊢
  have hA : ∀ q : Nat, s.heap.size ≤ q → A q := fun q h => by rw [← hAe]; exact Or.inr h
  have hS : va_S A s.heap s.heap [] := va_S.rf
  have hl := lv_entry ([.ref a0, .int p0]) (n := 4) (Nat.le_of_ble_eq_true rfl)
  rw [lg_entry_eq]
  generalize (lg_sl ([.ref a0, .int p0]) ++ List.replicate (4 - (lg_sl ([.ref a0, .int p0])).length) Slot.unset).toArray = ls at hl ⊢
  have hl : lv_has ls 4 [(0, .ref a0), (1, .int p0)] := hl
  refine lv_iconst (v := 0) hx hb dJ7_fill_53178_0 (by decide) ?_
  refine lv_istore_n (lv' := [(2, .int 0), (0, .ref a0), (1, .int p0)]) hx hb dJ7_fill_53178_1 rfl hl (by decide) rfl (fun ls hl => ?_)
  refine lv_aload_n hx hb dJ7_fill_53178_2 rfl (lv_at hl 1 rfl) ?_
  obtain ⟨kk_1, hk_2⟩ := pl_at ha0.1 hc9
  refine va_alen hx hb hK hP kk_1 0 hk_2 rfl (v := nI 480) rfl dJ7_fill_53178_3 ?_
  refine lv_istore_n (lv' := [(3, .int (nI 480)), (2, .int 0), (0, .ref a0), (1, .int p0)]) hx hb dJ7_fill_53178_4 rfl hl (by decide) rfl (fun ls hl => ?_)
  refine y_fill9_l (f0 := f) ha0 hx hb hml hts hown hN hXN hK hA (fun f2 H locs g2 ls hg2 hI hP hD hS hl => ?_) 481 0 _ _ _ g ls (by decide) (by decide) ⟨(upF_id hc9).symm, fun j hj => absurd hj (Nat.not_lt_zero _)⟩ hI hP hD hS (lv_sub hl [1, 2, 3, 0] rfl)
  exact W.vret hx hb hr (fun t ht hW => ⟨⟨(k, z, f2), rfl, ⟨rfl, rfl, hI, g2, hg2.1, hg2.2⟩, by rw [ht]; exact hP, hD⟩, hS.F ht⟩) hS.2.2 dJ7_fill_53178_20
set_option maxHeartbeats 4000000 in
set_option maxRecDepth 100000 in
theorem y_clear (l : Launch) (dC : Nat → ClassId) (dI : Nat → Nat → Nat) (q : Nat → ClassId) (h0 : Nat) (d : Nat → Nat) (k : Nat → Int32) (z : gS) (f : xF) (hI : xI q h0 d k z f) (a0 la ca : Nat) (m9 d9 i9 : Int32) (gl gc : Nat → Int32) (ha0 : tg z a0 7) (hs9 : f a0 = .inr (8, [.ref la, .ref ca, .int m9, .int d9, .int i9])) (hla : tg z la 8) (hca : tg z ca 9) (hg9 : f la = aI (q 0) 8 gl) (hgb : ∀ j, j < 8 → bw (gl j) 0 60 = true) (hc9 : f ca = aI (q 0) 480 gc) (sz : Nat) : Met l yX9_clear wsX9_clear ({ frames := 1, cells := 0, slots := 0, locals := 23 }) (va_Pc [.ref a0] (fun U => U.heap.size = sz ∧ PX dC dI (va_pl z.1 f) (xT q) U ∧ va_D (fun _ => True) (va_pl z.1 f))) (va_Qv (fun (w : xU) => w.1 = k ∧ w.2.1 = z ∧ xI q h0 d k z w.2.2 ∧ ∃ g2, w.2.2 = va_up f ca (aI (q 0) 480 g2) ∧ ∀ j, j < 480 → g2 j = (-2)) (fun (w : xU) t => va_P (dC, dI) vwCl (va_pl w.2.1.1 w.2.2) t.heap ∧ va_D (va_A (va_pl z.1 f) sz) (va_pl w.2.1.1 w.2.2)) (va_A (va_pl z.1 f) sz)) 0 0 (va_A (va_pl z.1 f) sz) := by
  refine Met.ofW (cc := cX9_clear) (maxL := 1) (ret := none) (by decide) rfl ?_
  intro p e s m args below meth c s₁ B hml hv
  obtain ⟨rfl, hsz, ⟨⟨hP, hK, hN⟩, hXN⟩, hD0⟩ := hv
  have hx := B.exec
  have hb := B.bytes
  have hr := B.returns
  have hts := atoms_spec (ws := wsX9_clear) B.pre
  have hown : s.vm.findClass RX9 = some m.cls := findClass_of_methodNamed B.named
  have hlocks := B.notSynchronized
  subst hsz
  have hD := hD0.self (sz := s.heap.size)
  generalize hAe : va_A (va_pl z.1 f) s.heap.size = A at hD ⊢
  have hA : ∀ q : Nat, s.heap.size ≤ q → A q := fun q h => by rw [← hAe]; exact Or.inr h
  have hS : va_S A s.heap s.heap [] := va_S.rf
  have hl := lv_entry ([.ref a0]) (n := 1) (Nat.le_of_ble_eq_true rfl)
  rw [lg_entry_eq]
  generalize (lg_sl ([.ref a0]) ++ List.replicate (1 - (lg_sl ([.ref a0])).length) Slot.unset).toArray = ls at hl ⊢
  have hl : lv_has ls 1 [(0, .ref a0)] := hl
  refine lv_aload_n hx hb dX9_clear_0 rfl (lv_at hl 0 rfl) ?_
  obtain ⟨kk_1, hk_2⟩ := pl_at ha0.1 hs9
  refine va_get (D := (dC, dI)) (ci := 8) (v := .ref ca) (C := RX9) (T := TX9) (N := 5) hx hb hts (by decide +kernel) hown hK hP kk_1 hk_2 rfl 1 (by decide) (hts (.fieldLink RX9 15 "PageOne$Sheet" "cells" "[I") (by decide +kernel)) (fun _ h9 => h9) rfl dX9_clear_1 ?_
  refine lv_bipush (v := (-2)) hx hb dX9_clear_4 (by decide) ?_
  have hFc := fr_all hD hS hA
  refine va_callv (va_runS (As := [.ref ca, .int (-2)]) (rest := []) ⟨hx, hb, hml, hown, hts⟩ (y_fill9 l dC dI q h0 d k z f hI ca (-2) gc hca hc9 s.heap.size) (va_cwS 2 hts gX9_clear_J7_fill_53178 rfl rfl rfl (by decide +kernel) ⟨Nat.le_of_ble_eq_true rfl, Nat.le_of_ble_eq_true rfl⟩) ⟨gx_fb, fun U hU hW => ⟨rfl, by rw [hU], px_to hU hW hP hK hN hXN, hD.weaken (fun _ _ _ _ => trivial)⟩⟩ rfl rfl hl.1 rfl (lv_room (Nat.le_of_ble_eq_true rfl)) dX9_clear_6 ⟨Nat.le_of_ble_eq_true rfl, Nat.le_of_ble_eq_true rfl⟩) hS (fun q _ h => hFc q h) hFc (fun w_3 t H1 locs ht hvm hw hB hz1 hk1 hS => ?_)
  obtain ⟨hP, hD1⟩ := hB
  rw [ht] at hP
  rw [hw.2.1] at hP hD1
  have hD := hD1.weaken (fun _ q _ h => hFc q.1 h)
  have hI := hw.2.2.1
  have hw0 := hw
  generalize w_3.2.2 = f_4 at hP hD hI hw0
  generalize H1 = H at hP hS ⊢
  exact W.vret hx hb hr (fun t ht hW => ⟨⟨(k, z, f_4), rfl, ⟨rfl, rfl, hI, hw0.2.2.2⟩, by rw [ht]; exact hP, hD⟩, hS.F ht⟩) hS.2.2 dX9_clear_9
noncomputable def s_copy_f (q : Nat → ClassId) (f : xF) (la ca : Nat) (gl gc ll cc : Nat → Int32) : xF := (va_up (va_up f la (aI (q 0) 8 (va_cpy ll gl (0 : Int32).toNatClampNeg (0 : Int32).toNatClampNeg (8 : Int32).toNatClampNeg))) ca (aI (q 0) 480 (va_cpy cc gc (0 : Int32).toNatClampNeg (0 : Int32).toNatClampNeg (480 : Int32).toNatClampNeg)))
set_option maxHeartbeats 4000000 in
set_option maxRecDepth 100000 in
theorem y_copyFrom (l : Launch) (dC : Nat → ClassId) (dI : Nat → Nat → Nat) (q : Nat → ClassId) (h0 : Nat) (d : Nat → Nat) (k : Nat → Int32) (z : gS) (f : xF) (hI : xI q h0 d k z f) (a0 la ca : Nat) (m9 d9 i9 : Int32) (gl gc : Nat → Int32) (ha0 : tg z a0 7) (hs9 : f a0 = .inr (8, [.ref la, .ref ca, .int m9, .int d9, .int i9])) (hla : tg z la 8) (hca : tg z ca 9) (hg9 : f la = aI (q 0) 8 gl) (hgb : ∀ j, j < 8 → bw (gl j) 0 60 = true) (hc9 : f ca = aI (q 0) 480 gc) (b0 lb cb : Nat) (m2 d2 i2 : Int32) (ll cc : Nat → Int32) (hb0 : tg z b0 7) (hs2 : f b0 = .inr (8, [.ref lb, .ref cb, .int m2, .int d2, .int i2])) (hlb : tg z lb 8) (hcb : tg z cb 9) (hg2 : f lb = aI (q 0) 8 ll) (hgb2 : ∀ j, j < 8 → bw (ll j) 0 60 = true) (hc2 : f cb = aI (q 0) 480 cc) (sz : Nat) : Met l yX9_copyFrom wsX9_copyFrom ({ frames := 1, cells := 0, slots := 0, locals := 40 }) (va_Pc [.ref a0, .ref b0] (fun U => U.heap.size = sz ∧ PX dC dI (va_pl z.1 f) (xT q) U ∧ va_D (fun _ => True) (va_pl z.1 f))) (va_Qv (fun (w : xU) => w.1 = k ∧ w.2.1 = z ∧ xI q h0 d k z w.2.2 ∧ w.2.2 = s_copy_f q f la ca gl gc ll cc) (fun (w : xU) t => va_P (dC, dI) vwCl (va_pl w.2.1.1 w.2.2) t.heap ∧ va_D (va_A (va_pl z.1 f) sz) (va_pl w.2.1.1 w.2.2)) (va_A (va_pl z.1 f) sz)) 0 0 (va_A (va_pl z.1 f) sz) := by
  refine Met.ofW (cc := cX9_copyFrom) (maxL := 2) (ret := none) (by decide) rfl ?_
  intro p e s m args below meth c s₁ B hml hv
  obtain ⟨rfl, hsz, ⟨⟨hP, hK, hN⟩, hXN⟩, hD0⟩ := hv
  have hx := B.exec
  have hb := B.bytes
  have hr := B.returns
  have hts := atoms_spec (ws := wsX9_copyFrom) B.pre
  have hown : s.vm.findClass RX9 = some m.cls := findClass_of_methodNamed B.named
  have hlocks := B.notSynchronized
  subst hsz
  have hD := hD0.self (sz := s.heap.size)
  generalize hAe : va_A (va_pl z.1 f) s.heap.size = A at hD ⊢
  have hA : ∀ q : Nat, s.heap.size ≤ q → A q := fun q h => by rw [← hAe]; exact Or.inr h
  have hS : va_S A s.heap s.heap [] := va_S.rf
  have hl := lv_entry ([.ref a0, .ref b0]) (n := 2) (Nat.le_of_ble_eq_true rfl)
  rw [lg_entry_eq]
  generalize (lg_sl ([.ref a0, .ref b0]) ++ List.replicate (2 - (lg_sl ([.ref a0, .ref b0])).length) Slot.unset).toArray = ls at hl ⊢
  have hl : lv_has ls 2 [(0, .ref a0), (1, .ref b0)] := hl
  refine lv_aload_n hx hb dX9_copyFrom_0 rfl (lv_at hl 1 rfl) ?_
  obtain ⟨kk_1, hk_2⟩ := pl_at hb0.1 hs2
  refine va_get (D := (dC, dI)) (ci := 8) (v := .ref lb) (C := RX9) (T := TX9) (N := 5) hx hb hts (by decide +kernel) hown hK hP kk_1 hk_2 rfl 0 (by decide) (hts (.fieldLink RX9 9 "PageOne$Sheet" "lines" "[I") (by decide +kernel)) (fun _ h9 => h9) rfl dX9_copyFrom_1 ?_
  refine lv_iconst (v := 0) hx hb dX9_copyFrom_4 (by decide) ?_
  refine lv_aload_n hx hb dX9_copyFrom_5 rfl (lv_at hl 0 rfl) ?_
  obtain ⟨kk_3, hk_4⟩ := pl_at ha0.1 hs9
  refine va_get (D := (dC, dI)) (ci := 8) (v := .ref la) (C := RX9) (T := TX9) (N := 5) hx hb hts (by decide +kernel) hown hK hP kk_3 hk_4 rfl 0 (by decide) (hts (.fieldLink RX9 9 "PageOne$Sheet" "lines" "[I") (by decide +kernel)) (fun _ h9 => h9) rfl dX9_copyFrom_6 ?_
  refine lv_iconst (v := 0) hx hb dX9_copyFrom_9 (by decide) ?_
  refine lv_bipush (v := 8) hx hb dX9_copyFrom_10 (by decide) ?_
  obtain ⟨kk_5, hk_6⟩ := pl_at hlb.1 hg2
  obtain ⟨kk_7, hk_8⟩ := pl_at hla.1 hg9
  have hD0 := hD
  refine va_copyi hx hb (by rw [hml]; exact hl.1.symm) hown (hts (.methodLink RX9 68 arraycopyName) (by decide +kernel)) (hts (.native arraycopyName) (by decide +kernel)) (hts (.static arraycopyName) (by decide +kernel)) (hts (.initialized "java/lang/System") (by decide +kernel)) hK hP hD hS kk_5 kk_7 0 0 hk_6 hk_8 rfl rfl rfl (sp := 0) (dp := 0) (n := 8) (by decide) (by decide) (by decide) (by decide) (by decide) (fun _ _ => rfl) (Nat.le_of_ble_eq_true rfl) (Nat.le_of_ble_eq_true rfl) dX9_copyFrom_12 (fun H locs hP hD hS => ?_)
  rw [pl_set hD0 hla.1 hg9 hk_8] at hP hD
  obtain ⟨f_9, ef_9⟩ : ∃ y : xF, y = va_up f la (aI (q 0) 8 (va_cpy ll gl (0 : Int32).toNatClampNeg (0 : Int32).toNatClampNeg (8 : Int32).toNatClampNeg)) := ⟨_, rfl⟩
  have hI : xI q h0 d k z f_9 := by rw [ef_9]; exact x_up hI hla (by decide) (cO_8 hla.2 ⟨_, rfl, cpy_b hgb2 hgb⟩)
  have hP : va_P (dC, dI) vwCl (va_pl z.1 f_9) H := by rw [ef_9]; exact hP
  have hD : va_D A (va_pl z.1 f_9) := by rw [ef_9]; exact hD
  have hs_10 : f_9 a0 = .inr (8, [.ref la, .ref ca, .int m9, .int d9, .int i9]) := by rw [ef_9, up_o (tg_ne ha0 hla (by decide))]; exact hs9
  have hs_11 : f_9 b0 = .inr (8, [.ref lb, .ref cb, .int m2, .int d2, .int i2]) := by rw [ef_9, up_o (tg_ne hb0 hla (by decide))]; exact hs2
  have hs_12 : f_9 ca = aI (q 0) 480 gc := by rw [ef_9, up_o (tg_ne hca hla (by decide))]; exact hc9
  have hs_13 : f_9 cb = aI (q 0) 480 cc := by rw [ef_9, up_o (tg_ne hcb hla (by decide))]; exact hc2
  refine lv_aload_n hx hb dX9_copyFrom_15 rfl (lv_at hl 1 rfl) ?_
  obtain ⟨kk_14, hk_15⟩ := pl_at hb0.1 hs_11
  refine va_get (D := (dC, dI)) (ci := 8) (v := .ref cb) (C := RX9) (T := TX9) (N := 5) hx hb hts (by decide +kernel) hown hK hP kk_14 hk_15 rfl 1 (by decide) (hts (.fieldLink RX9 15 "PageOne$Sheet" "cells" "[I") (by decide +kernel)) (fun _ h9 => h9) rfl dX9_copyFrom_16 ?_
  refine lv_iconst (v := 0) hx hb dX9_copyFrom_19 (by decide) ?_
  refine lv_aload_n hx hb dX9_copyFrom_20 rfl (lv_at hl 0 rfl) ?_
  obtain ⟨kk_16, hk_17⟩ := pl_at ha0.1 hs_10
  refine va_get (D := (dC, dI)) (ci := 8) (v := .ref ca) (C := RX9) (T := TX9) (N := 5) hx hb hts (by decide +kernel) hown hK hP kk_16 hk_17 rfl 1 (by decide) (hts (.fieldLink RX9 15 "PageOne$Sheet" "cells" "[I") (by decide +kernel)) (fun _ h9 => h9) rfl dX9_copyFrom_21 ?_
  refine lv_iconst (v := 0) hx hb dX9_copyFrom_24 (by decide) ?_
  refine lv_sipush (v := 480) hx hb dX9_copyFrom_25 (by decide) ?_
  obtain ⟨kk_18, hk_19⟩ := pl_at hcb.1 hs_13
  obtain ⟨kk_20, hk_21⟩ := pl_at hca.1 hs_12
  have hD0 := hD
  refine va_copyi hx hb (by rw [hml]; exact hl.1.symm) hown (hts (.methodLink RX9 68 arraycopyName) (by decide +kernel)) (hts (.native arraycopyName) (by decide +kernel)) (hts (.static arraycopyName) (by decide +kernel)) (hts (.initialized "java/lang/System") (by decide +kernel)) hK hP hD hS kk_18 kk_20 0 0 hk_19 hk_21 rfl rfl rfl (sp := 0) (dp := 0) (n := 480) (by decide) (by decide) (by decide) (by decide) (by decide) (fun _ _ => rfl) (Nat.le_of_ble_eq_true rfl) (Nat.le_of_ble_eq_true rfl) dX9_copyFrom_28 (fun H locs hP hD hS => ?_)
  rw [pl_set hD0 hca.1 hs_12 hk_21] at hP hD
  obtain ⟨f_22, ef_22⟩ : ∃ y : xF, y = va_up f_9 ca (aI (q 0) 480 (va_cpy cc gc (0 : Int32).toNatClampNeg (0 : Int32).toNatClampNeg (480 : Int32).toNatClampNeg)) := ⟨_, rfl⟩
  have hI : xI q h0 d k z f_22 := by rw [ef_22]; exact x_up hI hca (by decide) (cO_9 hca.2 ⟨_, rfl⟩)
  have hP : va_P (dC, dI) vwCl (va_pl z.1 f_22) H := by rw [ef_22]; exact hP
  have hD : va_D A (va_pl z.1 f_22) := by rw [ef_22]; exact hD
  have hs_23 : f_22 a0 = .inr (8, [.ref la, .ref ca, .int m9, .int d9, .int i9]) := by rw [ef_22, up_o (tg_ne ha0 hca (by decide))]; exact hs_10
  have hs_24 : f_22 b0 = .inr (8, [.ref lb, .ref cb, .int m2, .int d2, .int i2]) := by rw [ef_22, up_o (tg_ne hb0 hca (by decide))]; exact hs_11
  exact W.vret hx hb hr (fun t ht hW => ⟨⟨(k, z, f_22), rfl, ⟨rfl, rfl, hI, (by show f_22 = _; rw [ef_22, ef_9]; unfold s_copy_f; rfl)⟩, by rw [ht]; exact hP, hD⟩, hS.F ht⟩) hS.2.2 dX9_copyFrom_31
/-- an entry of the address book d: index x, tag t -/
def nO (d : Nat → Nat) (z : gS) (x t : Nat) : Prop := tg z (d x) t ∧ (z.2 (d x)).2.1 = x ∧ t ≠ 16
theorem nO_ne {d : Nat → Nat} {z : gS} {x y t s : Nat} (h : nO d z x t) (h2 : nO d z y s) (hxy : x ≠ y) : d x ≠ d y := fun e => hxy (by rw [← h.2.1, ← h2.2.1, e])
theorem nO_E {d : Nat → Nat} {z w : gS} (hE : zE z w) {x t : Nat} (h : nO d z x t) : nO d w x t := ⟨zE_tg hE h.1, by rw [zE_o hE h.1.1]; exact h.2⟩
/-- a row shows a stretch of a row -/
def eqR (n : Nat) (g h : Nat → Int32) (o : Nat) : Prop := ∀ j, j < n → g j = h (o + j)
/-- the sheet at s with its rows at la, ca: lines as h0 from o0 on, cells as h1 from o1 on -/
def shR (q : Nat → ClassId) (f : xF) (s la ca : Nat) (m dd ii : Int32) (r0 r1 : Nat → Int32) (o0 o1 : Nat) : Prop := f s = .inr (8, [.ref la, .ref ca, .int m, .int dd, .int ii]) ∧ (∃ gl, f la = aI (q 0) 8 gl ∧ eqR 8 gl r0 o0) ∧ ∃ gc, f ca = aI (q 0) 480 gc ∧ eqR 480 gc r1 o1
/-- the pages -/
def rPg (q : Nat → ClassId) (d : Nat → Nat) (u : mS) (z : gS) (f : xF) : Prop := (∃ g, f (d 0) = aR (q 2) 12 g ∧ ∀ p, p < 12 → g p = some (d (10 + p))) ∧ ∀ p, p < 12 → nO d z (10 + p) 7 ∧ nO d z (30 + p) 8 ∧ nO d z (50 + p) 9 ∧ ∃ dd ii, shR q f (d (10 + p)) (d (30 + p)) (d (50 + p)) (u.2 1 p) dd ii (u.2 0) (u.2 2) (8 * p) (480 * p)
/-- the plates -/
def rPl (q : Nat → ClassId) (d : Nat → Nat) (u : mS) (z : gS) (f : xF) : Prop := ∃ g, f (d 1) = aR (q 2) 12 g ∧ ∀ p, p < 12 → (u.2 40 p = 0 ∧ g p = none) ∨ (u.2 40 p = 1 ∧ g p = some (d (1000 + p)) ∧ nO d z (1000 + p) 7 ∧ nO d z (1020 + p) 8 ∧ nO d z (1040 + p) 9 ∧ ∃ m, shR q f (d (1000 + p)) (d (1020 + p)) (d (1040 + p)) m (u.2 41 p) (u.2 42 p) (u.2 43) (u.2 44) (8 * p) (480 * p))
/-- a kind's tag -/
def kT (k : Int32) : Nat := if k = 0 then 15 else if k = 1 then 11 else if k = 2 then 14 else if k = 3 then 13 else if k = 4 then 10 else 12
/-- what stands behind an item's common fields, by its kind -/
def rRs (q : Nat → ClassId) (d : Nat → Nat) (u : mS) (z : gS) (f : xF) (i : Nat) (rs : List Value) : Prop :=
  (u.2 4 i = 0 → rs = [.int (u.2 5 i), .ref (d (5000 + i)), .int (u.2 15 i), .ref (d (6000 + i))] ∧ nO d z (5000 + i) 18 ∧ nO d z (6000 + i) 19 ∧ (∃ g, f (d (5000 + i)) = aI (q 0) 80 g ∧ eqR 80 g (u.2 16) (80 * i)) ∧ ∃ g, f (d (6000 + i)) = aI (q 1) 10 g ∧ eqR 10 g (u.2 21) (10 * i)) ∧
  (u.2 4 i = 1 → ∃ o, o < (u.1 3).toNatClampNeg ∧ u.2 9 i = nI o ∧ u.2 4 o = 0 ∧ rs = [.ref (d (2000 + o)), .int (u.2 7 i), .int (u.2 8 i)]) ∧
  (u.2 4 i = 2 → rs = [.ref (d (5000 + i)), .ref (d (6000 + i)), .int (u.2 17 i)] ∧ nO d z (5000 + i) 20 ∧ nO d z (6000 + i) 20 ∧ (∃ g, f (d (5000 + i)) = aI (q 0) 4 g ∧ eqR 4 g (u.2 18) (4 * i)) ∧ ∃ g, f (d (6000 + i)) = aI (q 0) 4 g ∧ eqR 4 g (u.2 19) (4 * i)) ∧
  (u.2 4 i = 3 → rs = [.int (u.2 10 i), .int (u.2 14 i), .ref (d (5000 + i)), .ref (d (6000 + i))] ∧ pcS z (d (5000 + i)) none (u.2 11 i) (u.2 12 i) (u.2 13 i) (u.2 7 i) (u.2 8 i) ∧ nO d z (6000 + i) 21 ∧ ∃ g, f (d (6000 + i)) = aI (q 1) 400 g ∧ ∀ j, j < 400 → g j = u.2 48 (80 * j + i)) ∧
  (u.2 4 i = 4 → rs = [.int (u.2 5 i), .int (u.2 6 i)]) ∧
  (u.2 4 i = 5 → ∃ o, o < (u.1 3).toNatClampNeg ∧ u.2 9 i = nI o ∧ rs = [.ref (d (2000 + o)), .int (u.2 8 i)])
/-- an item's pieces as the reference has them -/
def pR (u : mS) (i : Nat) : Nat → Nat → Int32 := fun k j => u.2 (23 + j) (6 * i + k)
/-- where an item's pieces lie -/
def t3 (d : Nat → Nat) (z : gS) (i : Nat) : Prop := tg z (d (3000 + i)) 16 ∧ i < 1000
/-- item i -/
def rIt (q : Nat → ClassId) (d : Nat → Nat) (u : mS) (z : gS) (f : xF) (i : Nat) : Prop := nO d z (2000 + i) (kT (u.2 4 i)) ∧ t3 d z i ∧ nO d z (4000 + i) 17 ∧ (0 ≤ u.2 4 i ∧ u.2 4 i ≤ 5) ∧ ∃ rs g fg, f (d (2000 + i)) = .inr (ciT (z.2 (d (2000 + i))).1, itF (nI i) (u.2 4 i) (d (3000 + i)) (u.2 22 i) (d (4000 + i)) rs) ∧ f (d (3000 + i)) = aR (q 5) (if u.2 4 i = 0 then 6 else 1) g ∧ (∀ k, k < (u.2 22 i).toNatClampNeg → ∃ b, g k = some b ∧ pcS z b (some (d (2000 + i))) (pR u i k 0) (pR u i k 1) (pR u i k 2) (pR u i k 3) (pR u i k 4)) ∧ f (d (4000 + i)) = aI (q 0) 5 fg ∧ eqR 5 fg (u.2 47) (5 * i) ∧ rRs q d u z f i rs
def rIs (q : Nat → ClassId) (d : Nat → Nat) (u : mS) (z : gS) (f : xF) : Prop := (∃ g, f (d 2) = aR (q 3) 80 g ∧ ∀ i, i < (u.1 3).toNatClampNeg → g i = some (d (2000 + i))) ∧ ∀ i, i < (u.1 3).toNatClampNeg → rIt q d u z f i
/-- the rivals -/
def rRv (q : Nat → ClassId) (d : Nat → Nat) (u : mS) (f : xF) : Prop := ∃ g, f (d 4) = aI (q 1) 100 g ∧ eqR 100 g (u.2 20) 0
/-- the class's heap shows u, but for the acts -/
def rep (q : Nat → ClassId) (d : Nat → Nat) (u : mS) (z : gS) (f : xF) : Prop := rPg q d u z f ∧ rPl q d u z f ∧ rIs q d u z f ∧ rRv q d u f ∧ (nO d z 0 2 ∧ nO d z 1 3 ∧ nO d z 2 4 ∧ nO d z 3 5 ∧ nO d z 4 6)
theorem aI_inj {c c2 : ClassId} {n n2 : Nat} {g g2 : Nat → Int32} (h : aI c n g = aI c2 n2 g2) : n = n2 ∧ g = g2 := by
  have e6 := (Prod.mk.inj (Prod.mk.inj (Sum.inl.inj h)).2)
  exact ⟨e6.1, Sum.inl.inj e6.2⟩
theorem sh_inj {la ca la2 ca2 : Nat} {m dd ii m2 dd2 ii2 : Int32} (h : (Sum.inr (8, [.ref la, .ref ca, .int m, .int dd, .int ii]) : va_E) = .inr (8, [.ref la2, .ref ca2, .int m2, .int dd2, .int ii2])) : la = la2 ∧ ca = ca2 ∧ m = m2 ∧ dd = dd2 ∧ ii = ii2 := by
  have e := (Prod.mk.inj (Sum.inr.inj h)).2
  simp only [List.cons.injEq, Value.ref.injEq, Value.int.injEq] at e
  exact ⟨e.1, e.2.1, e.2.2.1, e.2.2.2.1, e.2.2.2.2.1⟩
/-- a page that is read: its sheet is the book's, its rows the reference's -/
theorem rp_pg {q d u z f} (h : rPg q d u z f) {g : Nat → Option Nat} (hg : f (d 0) = aR (q 2) 12 g) {p b : Nat} (hp : p < 12) (hb : g p = some b) {la ca : Nat} {m dd ii : Int32} (hs : f b = .inr (8, [.ref la, .ref ca, .int m, .int dd, .int ii])) : b = d (10 + p) ∧ la = d (30 + p) ∧ ca = d (50 + p) ∧ m = u.2 1 p ∧ (∀ gl, f la = aI (q 0) 8 gl → eqR 8 gl (u.2 0) (8 * p)) ∧ ∀ gc, f ca = aI (q 0) 480 gc → eqR 480 gc (u.2 2) (480 * p) := by
  obtain ⟨⟨g2, a1, a2⟩, a3⟩ := h
  obtain ⟨n1, n2, n3, dd2, ii2, s1, ⟨gl, s2, s3⟩, gc, s4, s5⟩ := a3 p hp
  have eg := (aR_inj (hg.symm.trans a1)).2
  have eb : b = d (10 + p) := Option.some.inj (hb.symm.trans (by rw [eg]; exact a2 p hp))
  subst eb
  obtain ⟨e1, e2, e3, e4, e5⟩ := sh_inj (hs.symm.trans s1)
  subst e1 e2
  exact ⟨rfl, rfl, rfl, e3, fun gl2 hl => by rw [(aI_inj (hl.symm.trans s2)).2]; exact s3, fun gc2 hc => by rw [(aI_inj (hc.symm.trans s4)).2]; exact s5⟩
/-- a sheet's cell, by the reference's rows -/
theorem shAt_eq {gl gc : Nat → Int32} {u : mS} {p : Nat} (hp : p < 12) (hl : eqR 8 gl (u.2 0) (8 * p)) (hc : eqR 480 gc (u.2 2) (480 * p)) (hb : ∀ j, j < 8 → bw (gl j) 0 60 = true) (c l : Int32) : shAt gl gc c l = mCellAt u (nI p) c l := by
  unfold shAt mCellAt mCell
  rw [bw11 hp, Bool.true_and]
  by_cases h1 : bw c 0 7 = true
  · obtain ⟨C, hC, -, eC⟩ := exN h1 (by decide)
    have h7 : (7 : Int32).toInt = 7 := rfl
    subst eC
    have e0 : (8 * nI p + nI C).toNatClampNeg = 8 * p + C := by rw [show (8 : Int32) = nI 8 from rfl, pk_mul, nI_add, nI_clamp (by omega)]
    rw [if_pos h1, h1, Bool.true_and, nI_clamp (by omega), hl C (by omega), e0]
    by_cases h2 : bw l 0 (u.2 0 (8 * p + C) - 1) = true
    · rw [if_pos h2, if_pos h2]
      have hb1 := hb C (by omega)
      rw [hl C (by omega)] at hb1
      have hl59 := b59 hb1 h2
      obtain ⟨L, hL, -, eL⟩ := exN hl59 (by decide)
      have h59 : (59 : Int32).toInt = 59 := rfl
      subst eL
      have e1 : (nI C * 60 + nI L).toNatClampNeg = 60 * C + L := by rw [show (60 : Int32) = nI 60 from rfl, pk_mul, nI_add, nI_clamp (by omega)]; omega
      have e2 : (480 * nI p + 60 * nI C + nI L).toNatClampNeg = 480 * p + (60 * C + L) := by rw [idxN hp (by omega) (by omega), nI_clamp (by omega)]; omega
      rw [e1, e2]
      exact hc _ (by omega)
    · rw [if_neg h2, if_neg h2]
  · rw [if_neg h1, if_neg (fun h => h1 (by rw [Bool.and_eq_true] at h; exact h.1))]
