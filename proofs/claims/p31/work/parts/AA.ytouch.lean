set_option maxHeartbeats 4000000 in
set_option maxRecDepth 100000 in
theorem y_isOn_l {p : Program} {l : Launch} {e : Env} {R : Room} {s : State} {m : MethodId} {args : Array Value} {below : List Frame} {meth : Method} {c : Code} {Q : State → Prop} {cells slots : Nat} {dC : Nat → ClassId} {dI : Nat → Nat → Nat} {q : Nat → ClassId} {h0 : Nat} {d : Nat → Nat} {k : Nat → Int32} {z : gS} {f : xF} {H : Heap} {locs : List Loc} (hI : xI q h0 d k z f) (hx : p.tables.exec = Jvm.exec) (hb : c.code = cX4_isOn) (hml : c.maxLocals = 3) (hts : ∀ w ∈ wsX4_isOn, w.before args s = true) (hown : s.vm.findClass RX4 = some m.cls) (hN : NN s) (hXN : XN s) (hK : va_K (dC, dI) vwCl (xT q) s) (hP : va_P (dC, dI) vwCl (va_pl z.1 f) H) {a0 : Nat} {nu kd : Int32} {pa fa n K : Nat} {rs : List Value} {g : Nat → Option Nat} {Rm : Nat → Nat → Int32} (ha0 : itm z a0) (hs : f a0 = .inr (ciT (z.2 a0).1, itF nu kd pa (nI K) fa rs)) (hpa : tg z pa 16) (hps : f pa = aR (q 5) n g) (hKn : K ≤ n) (h6 : n ≤ 6) (hpl : pcL z g K Rm) {p0 : Int32} (kx31 : ∀ (ls : Array Slot), (∀ j, j < K → ¬ Rm j 0 = p0) → lv_has ls 3 [(0, .ref a0), (1, .int p0)] → W p l e R s m args below meth c H locs cells slots Q (F0 m 31 ls [])) (kx23 : ∀ (ls : Array Slot), (∃ j, j < K ∧ Rm j 0 = p0) → lv_has ls 3 [(0, .ref a0), (1, .int p0)] → W p l e R s m args below meth c H locs cells slots Q (F0 m 23 ls [])) : ∀ (kk i : Nat) (ls : Array Slot), i ≤ K → K - i < kk → (∀ j, j < i → ¬ Rm j 0 = p0) → lv_has ls 3 [(2, .int (nI i)), (0, .ref a0), (1, .int p0)] → W p l e R s m args below meth c H locs cells slots Q (F0 m 2 ls []) := by
  intro kk
  induction kk with
  | zero => intro i ls h1 h2; exact absurd h2 (Nat.not_lt_zero _)
  | succ kk ih =>
    intro i ls hi hkk hg hl
    refine lv_iload_n hx hb dX4_isOn_2 rfl (lv_at hl 0 rfl) ?_
    refine lv_aload_n hx hb dX4_isOn_3 rfl (lv_at hl 1 rfl) ?_
    obtain ⟨kk_1, hk_2⟩ := pl_at ha0.1 hs
    refine w_then (F0 m 7 ls [.int (nI K), .int (nI i)]) (fun hgo => ?_) ?_
    ·
      rcases x_tag ha0 with ht9 | ht9 | ht9 | ht9 | ht9 | ht9
      ·
        rw [ht9.2] at hk_2
        exact va_get (D := (dC, dI)) (ci := 2) (v := .int (nI K)) (C := RX2) (T := TX2) (N := 7) hx hb hts zl_X4_isOn_X2 hown hK hP kk_1 hk_2 rfl 3 (by decide) (hts (.fieldLink RX4 9 "PageOne$Item" "count" "I") (zat q_wsX4_isOn k_wsX4_isOn 194 rfl (by decide +kernel))) (fun _ h9 => h9) rfl dX4_isOn_4 hgo
      ·
        rw [ht9.2] at hk_2
        exact va_get (D := (dC, dI)) (ci := 3) (v := .int (nI K)) (C := RX3) (T := TX3) (N := 8) hx hb hts zl_X4_isOn_X3 hown hK hP kk_1 hk_2 rfl 3 (by decide) (hts (.fieldLink RX4 9 "PageOne$Item" "count" "I") (zat q_wsX4_isOn k_wsX4_isOn 194 rfl (by decide +kernel))) (fun _ h9 => h9) rfl dX4_isOn_4 hgo
      ·
        rw [ht9.2] at hk_2
        exact va_get (D := (dC, dI)) (ci := 4) (v := .int (nI K)) (C := RX5) (T := TX5) (N := 7) hx hb hts zl_X4_isOn_X5 hown hK hP kk_1 hk_2 rfl 3 (by decide) (hts (.fieldLink RX4 9 "PageOne$Item" "count" "I") (zat q_wsX4_isOn k_wsX4_isOn 194 rfl (by decide +kernel))) (fun _ h9 => h9) rfl dX4_isOn_4 hgo
      ·
        rw [ht9.2] at hk_2
        exact va_get (D := (dC, dI)) (ci := 5) (v := .int (nI K)) (C := RX6) (T := TX6) (N := 9) hx hb hts zl_X4_isOn_X6 hown hK hP kk_1 hk_2 rfl 3 (by decide) (hts (.fieldLink RX4 9 "PageOne$Item" "count" "I") (zat q_wsX4_isOn k_wsX4_isOn 194 rfl (by decide +kernel))) (fun _ h9 => h9) rfl dX4_isOn_4 hgo
      ·
        rw [ht9.2] at hk_2
        exact va_get (D := (dC, dI)) (ci := 6) (v := .int (nI K)) (C := RX7) (T := TX7) (N := 8) hx hb hts zl_X4_isOn_X7 hown hK hP kk_1 hk_2 rfl 3 (by decide) (hts (.fieldLink RX4 9 "PageOne$Item" "count" "I") (zat q_wsX4_isOn k_wsX4_isOn 194 rfl (by decide +kernel))) (fun _ h9 => h9) rfl dX4_isOn_4 hgo
      ·
        rw [ht9.2] at hk_2
        exact va_get (D := (dC, dI)) (ci := 9) (v := .int (nI K)) (C := RX10) (T := TX10) (N := 9) hx hb hts zl_X4_isOn_X10 hown hK hP kk_1 hk_2 rfl 3 (by decide) (hts (.fieldLink RX4 9 "PageOne$Item" "count" "I") (zat q_wsX4_isOn k_wsX4_isOn 194 rfl (by decide +kernel))) (fun _ h9 => h9) rfl dX4_isOn_4 hgo
    ·
      refine lv_icmp_ge (tgt := 31) hx hb dX4_isOn_7 (by decide) (fun c_3 => ?_) (fun c_3 => ?_)
      ·
        have hie : i = K := lp_eq rfl (by omega) hi c_3
        exact kx31 ls (by rw [← hie]; exact hg) (lv_sub hl [1, 2] rfl)
      ·
        have hlt : i < K := lp_lt rfl (by omega) hi c_3
        refine lv_aload_n hx hb dX4_isOn_10 rfl (lv_at hl 1 rfl) ?_
        obtain ⟨kk_4, hk_5⟩ := pl_at ha0.1 hs
        refine w_then (F0 m 14 ls [.ref pa]) (fun hgo => ?_) ?_
        ·
          rcases x_tag ha0 with ht9 | ht9 | ht9 | ht9 | ht9 | ht9
          ·
            rw [ht9.2] at hk_5
            exact va_get (D := (dC, dI)) (ci := 2) (v := .ref pa) (C := RX2) (T := TX2) (N := 7) hx hb hts zl_X4_isOn_X2 hown hK hP kk_4 hk_5 rfl 2 (by decide) (hts (.fieldLink RX4 31 "PageOne$Item" "pieces" "[LPageOne$Piece;") (zat q_wsX4_isOn k_wsX4_isOn 190 rfl (by decide +kernel))) (fun _ h9 => h9) rfl dX4_isOn_11 hgo
          ·
            rw [ht9.2] at hk_5
            exact va_get (D := (dC, dI)) (ci := 3) (v := .ref pa) (C := RX3) (T := TX3) (N := 8) hx hb hts zl_X4_isOn_X3 hown hK hP kk_4 hk_5 rfl 2 (by decide) (hts (.fieldLink RX4 31 "PageOne$Item" "pieces" "[LPageOne$Piece;") (zat q_wsX4_isOn k_wsX4_isOn 190 rfl (by decide +kernel))) (fun _ h9 => h9) rfl dX4_isOn_11 hgo
          ·
            rw [ht9.2] at hk_5
            exact va_get (D := (dC, dI)) (ci := 4) (v := .ref pa) (C := RX5) (T := TX5) (N := 7) hx hb hts zl_X4_isOn_X5 hown hK hP kk_4 hk_5 rfl 2 (by decide) (hts (.fieldLink RX4 31 "PageOne$Item" "pieces" "[LPageOne$Piece;") (zat q_wsX4_isOn k_wsX4_isOn 190 rfl (by decide +kernel))) (fun _ h9 => h9) rfl dX4_isOn_11 hgo
          ·
            rw [ht9.2] at hk_5
            exact va_get (D := (dC, dI)) (ci := 5) (v := .ref pa) (C := RX6) (T := TX6) (N := 9) hx hb hts zl_X4_isOn_X6 hown hK hP kk_4 hk_5 rfl 2 (by decide) (hts (.fieldLink RX4 31 "PageOne$Item" "pieces" "[LPageOne$Piece;") (zat q_wsX4_isOn k_wsX4_isOn 190 rfl (by decide +kernel))) (fun _ h9 => h9) rfl dX4_isOn_11 hgo
          ·
            rw [ht9.2] at hk_5
            exact va_get (D := (dC, dI)) (ci := 6) (v := .ref pa) (C := RX7) (T := TX7) (N := 8) hx hb hts zl_X4_isOn_X7 hown hK hP kk_4 hk_5 rfl 2 (by decide) (hts (.fieldLink RX4 31 "PageOne$Item" "pieces" "[LPageOne$Piece;") (zat q_wsX4_isOn k_wsX4_isOn 190 rfl (by decide +kernel))) (fun _ h9 => h9) rfl dX4_isOn_11 hgo
          ·
            rw [ht9.2] at hk_5
            exact va_get (D := (dC, dI)) (ci := 9) (v := .ref pa) (C := RX10) (T := TX10) (N := 9) hx hb hts zl_X4_isOn_X10 hown hK hP kk_4 hk_5 rfl 2 (by decide) (hts (.fieldLink RX4 31 "PageOne$Item" "pieces" "[LPageOne$Piece;") (zat q_wsX4_isOn k_wsX4_isOn 190 rfl (by decide +kernel))) (fun _ h9 => h9) rfl dX4_isOn_11 hgo
        ·
          refine lv_iload_n hx hb dX4_isOn_14 rfl (lv_at hl 0 rfl) ?_
          obtain ⟨kk_6, hk_7⟩ := pl_at hpa.1 hps
          refine va_aldq hx hb hK hP kk_6 5 hk_7 rfl (vp_in_nI (by omega) (by omega)) dX4_isOn_15 ?_
          obtain ⟨b_8, it_9, hg_10, hp_11, hlg_12⟩ := hpl ((nI i) : Int32).toNatClampNeg (by rw [nI_clamp (by omega)]; exact hlt)
          rw [hg_10]
          refine W.eq (g2 := F0 m 16 ls [.ref b_8]) rfl ?_
          obtain ⟨kk_13, hk_14⟩ := pl_at hp_11.1.1 (x_pcF hI hp_11)
          refine va_get (D := (dC, dI)) (ci := 7) (v := .int (Rm ((nI i) : Int32).toNatClampNeg 0)) (C := RX8) (T := TX8) (N := 6) hx hb hts zl_X4_isOn_X8 hown hK hP kk_13 hk_14 rfl 1 (by decide) (hts (.fieldLink RX4 45 "PageOne$Piece" "page" "I") (zat q_wsX4_isOn k_wsX4_isOn 320 rfl (by decide +kernel))) (fun _ h9 => h9) rfl dX4_isOn_16 ?_
          refine lv_iload_n hx hb dX4_isOn_19 rfl (lv_at hl 2 rfl) ?_
          refine lv_icmp_ne (tgt := 25) hx hb dX4_isOn_20 (by decide) (fun c_15 => ?_) (fun c_15 => ?_)
          ·
            refine lv_iinc (v := (nI (i + 1))) (lv' := [(2, .int (nI (i + 1))), (0, .ref a0), (1, .int p0)]) hx hb dX4_isOn_25 hl (k := 0) rfl (nI_1 i) (by decide) rfl (fun ls hl => ?_)
            refine lv_goto (tgt := 2) hx hb dX4_isOn_28 (by decide) ?_
            exact ih (i + 1) ls (by omega) (by omega) (fr_1 hg (by have e9 : (nI i).toNatClampNeg = i := nI_clamp (by omega); (try simp only [e9] at c_15); simp [c_15])) (lv_sub hl [0, 1, 2] rfl)
          ·
            exact kx23 ls ⟨i, hlt, (by have e9 : (nI i).toNatClampNeg = i := nI_clamp (by omega); (try simp only [e9] at c_15); simp [c_15])⟩ (lv_sub hl [1, 2] rfl)
set_option maxHeartbeats 4000000 in
set_option maxRecDepth 100000 in
theorem y_isOn (l : Launch) (dC : Nat → ClassId) (dI : Nat → Nat → Nat) (q : Nat → ClassId) (h0 : Nat) (d : Nat → Nat) (k : Nat → Int32) (z : gS) (f : xF) (hI : xI q h0 d k z f) (a0 : Nat) (ha0 : itm z a0) (nu kd cn : Int32) (pa fa : Nat) (rs : List Value) (hs : f a0 = .inr (ciT (z.2 a0).1, itF nu kd pa cn fa rs)) (n : Nat) (g : Nat → Option Nat) (Rm : Nat → Nat → Int32) (hpa : tg z pa 16) (hps : f pa = aR (q 5) n g) (h1 : 1 ≤ n) (h6 : n ≤ 6) (hcb : bw cn 0 (nI n) = true) (hpl : pcL z g cn.toNatClampNeg Rm) (p0 : Int32) : Met l yX4_isOn wsX4_isOn ({ frames := 0, cells := 0, slots := 0, locals := 0 }) (va_Pc [.ref a0, .int p0] (PX dC dI (va_pl z.1 f) (xT q))) (vp_Si (fun r => r = bP (∃ j, j < cn.toNatClampNeg ∧ Rm j 0 = p0))) 0 0 (fun _ => False) := by
  refine Met.ofW (cc := cX4_isOn) (maxL := 3) (ret := (some .boolean)) (by decide) rfl ?_
  intro p e s m args below meth c s₁ B hml hv
  obtain ⟨rfl, ⟨hP, hK, hN⟩, hXN⟩ := hv
  have hx := B.exec
  have hb := B.bytes
  have hr := B.returns
  have hts := atoms_spec (ws := wsX4_isOn) B.pre
  have hown : s.vm.findClass RX4 = some m.cls := findClass_of_methodNamed B.named
  have hlocks := B.notSynchronized
  have hl := lv_entry ([.ref a0, .int p0]) (n := 3) (Nat.le_of_ble_eq_true rfl)
  rw [lg_entry_eq]
  generalize (lg_sl ([.ref a0, .int p0]) ++ List.replicate (3 - (lg_sl ([.ref a0, .int p0])).length) Slot.unset).toArray = ls at hl ⊢
  have hl : lv_has ls 3 [(0, .ref a0), (1, .int p0)] := hl
  refine lv_iconst (v := 0) hx hb dX4_isOn_0 (by decide) ?_
  refine lv_istore_n (lv' := [(2, .int 0), (0, .ref a0), (1, .int p0)]) hx hb dX4_isOn_1 rfl hl (by decide) rfl (fun ls hl => ?_)
  obtain ⟨K, hK1, -, eK⟩ := exN hcb (by decide)
  rw [nI_toInt (by omega)] at hK1
  subst eK
  have hplK : pcL z g K Rm := by rw [nI_clamp (by omega)] at hpl; exact hpl
  refine y_isOn_l hI hx hb hml hts hown hN hXN hK hP ha0 hs hpa hps (by omega) h6 hplK (fun ls hh hl => ?_) (fun ls hh hl => ?_) (K + 1) 0 ls (Nat.zero_le _) (by omega) (fun j hj => absurd hj (Nat.not_lt_zero _)) (lv_sub hl [0, 1, 2] rfl)
  ·
    refine lv_iconst (v := 0) hx hb dX4_isOn_31 (by decide) ?_
    exact W.zret (v := 0) hx hb hr (by decide) (fun t ht hW => ⟨_, rfl, (bP_f (fun h => by obtain ⟨j, hj, h9⟩ := h; rw [nI_clamp (by omega)] at hj; exact hh j hj h9)).symm, ht⟩) (fun q h => absurd h List.not_mem_nil) dX4_isOn_32
  ·
    refine lv_iconst (v := 1) hx hb dX4_isOn_23 (by decide) ?_
    exact W.zret (v := 1) hx hb hr (by decide) (fun t ht hW => ⟨_, rfl, (bP_t (by obtain ⟨j, hj, h9⟩ := hh; exact ⟨j, by rw [nI_clamp (by omega)]; exact hj, h9⟩)).symm, ht⟩) (fun q h => absurd h List.not_mem_nil) dX4_isOn_24
def s_tch (Rm : Nat → Nat → Int32) (P2 X2 Y2 D2 N2 p0 : Int32) (j : Nat) : Prop := ¬ s_isBeside (Rm j 0) (Rm j 1) (Rm j 2) (Rm j 3) (Rm j 4) P2 X2 Y2 D2 N2 = 0 ∨ (p0 = 0 ∧ ¬ s_isOverOrUnder (Rm j 0) (Rm j 1) (Rm j 2) (Rm j 3) (Rm j 4) P2 X2 Y2 D2 N2 = 0)
set_option maxHeartbeats 4000000 in
set_option maxRecDepth 100000 in
theorem y_touches_l {p : Program} {l : Launch} {e : Env} {R : Room} {s : State} {m : MethodId} {args : Array Value} {below : List Frame} {meth : Method} {c : Code} {Q : State → Prop} {cells slots : Nat} {dC : Nat → ClassId} {dI : Nat → Nat → Nat} {q : Nat → ClassId} {h0 : Nat} {d : Nat → Nat} {k : Nat → Int32} {z : gS} {f : xF} {H : Heap} {locs : List Loc} (hI : xI q h0 d k z f) (hx : p.tables.exec = Jvm.exec) (hb : c.code = cX4_touches) (hml : c.maxLocals = 4) (hts : ∀ w ∈ wsX4_touches, w.before args s = true) (hown : s.vm.findClass RX4 = some m.cls) (hN : NN s) (hXN : XN s) (hK : va_K (dC, dI) vwCl (xT q) s) (hRf : 1 ≤ R.frames) (hRl : 22 ≤ R.locals) (hRc : cells ≤ R.cells) (hRs : slots ≤ R.slots) (hP : va_P (dC, dI) vwCl (va_pl z.1 f) H) {a0 : Nat} {nu kd : Int32} {pa fa n K : Nat} {rs : List Value} {g : Nat → Option Nat} {Rm : Nat → Nat → Int32} (ha0 : itm z a0) (hs : f a0 = .inr (ciT (z.2 a0).1, itF nu kd pa (nI K) fa rs)) (hpa : tg z pa 16) (hps : f pa = aR (q 5) n g) (hKn : K ≤ n) (h6 : n ≤ 6) (hpl : pcL z g K Rm) {b0 : Nat} {iu : Option Nat} {P2 X2 Y2 D2 N2 p0 : Int32} (hpb : pcS z b0 iu P2 X2 Y2 D2 N2) (kx48 : ∀ (ls : Array Slot), (∀ j, j < K → ¬ s_tch Rm P2 X2 Y2 D2 N2 p0 j) → lv_has ls 4 [(0, .ref a0), (1, .ref b0), (2, .int p0)] → W p l e R s m args below meth c H locs cells slots Q (F0 m 48 ls [])) (kx40 : ∀ (ls : Array Slot), (∃ j, j < K ∧ s_tch Rm P2 X2 Y2 D2 N2 p0 j) → lv_has ls 4 [(0, .ref a0), (1, .ref b0), (2, .int p0)] → W p l e R s m args below meth c H locs cells slots Q (F0 m 40 ls [])) : ∀ (kk i : Nat) (ls : Array Slot), i ≤ K → K - i < kk → (∀ j, j < i → ¬ s_tch Rm P2 X2 Y2 D2 N2 p0 j) → lv_has ls 4 [(3, .int (nI i)), (0, .ref a0), (1, .ref b0), (2, .int p0)] → W p l e R s m args below meth c H locs cells slots Q (F0 m 2 ls []) := by
  intro kk
  induction kk with
  | zero => intro i ls h1 h2; exact absurd h2 (Nat.not_lt_zero _)
  | succ kk ih =>
    intro i ls hi hkk hg hl
    refine lv_iload_n hx hb dX4_touches_2 rfl (lv_at hl 0 rfl) ?_
    refine lv_aload_n hx hb dX4_touches_3 rfl (lv_at hl 1 rfl) ?_
    obtain ⟨kk_1, hk_2⟩ := pl_at ha0.1 hs
    refine w_then (F0 m 7 ls [.int (nI K), .int (nI i)]) (fun hgo => ?_) ?_
    ·
      rcases x_tag ha0 with ht9 | ht9 | ht9 | ht9 | ht9 | ht9
      ·
        rw [ht9.2] at hk_2
        exact va_get (D := (dC, dI)) (ci := 2) (v := .int (nI K)) (C := RX2) (T := TX2) (N := 7) hx hb hts zl_X4_touches_X2 hown hK hP kk_1 hk_2 rfl 3 (by decide) (hts (.fieldLink RX4 9 "PageOne$Item" "count" "I") (zat q_wsX4_touches k_wsX4_touches 194 rfl (by decide +kernel))) (fun _ h9 => h9) rfl dX4_touches_4 hgo
      ·
        rw [ht9.2] at hk_2
        exact va_get (D := (dC, dI)) (ci := 3) (v := .int (nI K)) (C := RX3) (T := TX3) (N := 8) hx hb hts zl_X4_touches_X3 hown hK hP kk_1 hk_2 rfl 3 (by decide) (hts (.fieldLink RX4 9 "PageOne$Item" "count" "I") (zat q_wsX4_touches k_wsX4_touches 194 rfl (by decide +kernel))) (fun _ h9 => h9) rfl dX4_touches_4 hgo
      ·
        rw [ht9.2] at hk_2
        exact va_get (D := (dC, dI)) (ci := 4) (v := .int (nI K)) (C := RX5) (T := TX5) (N := 7) hx hb hts zl_X4_touches_X5 hown hK hP kk_1 hk_2 rfl 3 (by decide) (hts (.fieldLink RX4 9 "PageOne$Item" "count" "I") (zat q_wsX4_touches k_wsX4_touches 194 rfl (by decide +kernel))) (fun _ h9 => h9) rfl dX4_touches_4 hgo
      ·
        rw [ht9.2] at hk_2
        exact va_get (D := (dC, dI)) (ci := 5) (v := .int (nI K)) (C := RX6) (T := TX6) (N := 9) hx hb hts zl_X4_touches_X6 hown hK hP kk_1 hk_2 rfl 3 (by decide) (hts (.fieldLink RX4 9 "PageOne$Item" "count" "I") (zat q_wsX4_touches k_wsX4_touches 194 rfl (by decide +kernel))) (fun _ h9 => h9) rfl dX4_touches_4 hgo
      ·
        rw [ht9.2] at hk_2
        exact va_get (D := (dC, dI)) (ci := 6) (v := .int (nI K)) (C := RX7) (T := TX7) (N := 8) hx hb hts zl_X4_touches_X7 hown hK hP kk_1 hk_2 rfl 3 (by decide) (hts (.fieldLink RX4 9 "PageOne$Item" "count" "I") (zat q_wsX4_touches k_wsX4_touches 194 rfl (by decide +kernel))) (fun _ h9 => h9) rfl dX4_touches_4 hgo
      ·
        rw [ht9.2] at hk_2
        exact va_get (D := (dC, dI)) (ci := 9) (v := .int (nI K)) (C := RX10) (T := TX10) (N := 9) hx hb hts zl_X4_touches_X10 hown hK hP kk_1 hk_2 rfl 3 (by decide) (hts (.fieldLink RX4 9 "PageOne$Item" "count" "I") (zat q_wsX4_touches k_wsX4_touches 194 rfl (by decide +kernel))) (fun _ h9 => h9) rfl dX4_touches_4 hgo
    ·
      refine lv_icmp_ge (tgt := 48) hx hb dX4_touches_7 (by decide) (fun c_3 => ?_) (fun c_3 => ?_)
      ·
        have hie : i = K := lp_eq rfl (by omega) hi c_3
        exact kx48 ls (by rw [← hie]; exact hg) (lv_sub hl [1, 2, 3] rfl)
      ·
        have hlt : i < K := lp_lt rfl (by omega) hi c_3
        refine lv_aload_n hx hb dX4_touches_10 rfl (lv_at hl 1 rfl) ?_
        obtain ⟨kk_4, hk_5⟩ := pl_at ha0.1 hs
        refine w_then (F0 m 14 ls [.ref pa]) (fun hgo => ?_) ?_
        ·
          rcases x_tag ha0 with ht9 | ht9 | ht9 | ht9 | ht9 | ht9
          ·
            rw [ht9.2] at hk_5
            exact va_get (D := (dC, dI)) (ci := 2) (v := .ref pa) (C := RX2) (T := TX2) (N := 7) hx hb hts zl_X4_touches_X2 hown hK hP kk_4 hk_5 rfl 2 (by decide) (hts (.fieldLink RX4 31 "PageOne$Item" "pieces" "[LPageOne$Piece;") (zat q_wsX4_touches k_wsX4_touches 190 rfl (by decide +kernel))) (fun _ h9 => h9) rfl dX4_touches_11 hgo
          ·
            rw [ht9.2] at hk_5
            exact va_get (D := (dC, dI)) (ci := 3) (v := .ref pa) (C := RX3) (T := TX3) (N := 8) hx hb hts zl_X4_touches_X3 hown hK hP kk_4 hk_5 rfl 2 (by decide) (hts (.fieldLink RX4 31 "PageOne$Item" "pieces" "[LPageOne$Piece;") (zat q_wsX4_touches k_wsX4_touches 190 rfl (by decide +kernel))) (fun _ h9 => h9) rfl dX4_touches_11 hgo
          ·
            rw [ht9.2] at hk_5
            exact va_get (D := (dC, dI)) (ci := 4) (v := .ref pa) (C := RX5) (T := TX5) (N := 7) hx hb hts zl_X4_touches_X5 hown hK hP kk_4 hk_5 rfl 2 (by decide) (hts (.fieldLink RX4 31 "PageOne$Item" "pieces" "[LPageOne$Piece;") (zat q_wsX4_touches k_wsX4_touches 190 rfl (by decide +kernel))) (fun _ h9 => h9) rfl dX4_touches_11 hgo
          ·
            rw [ht9.2] at hk_5
            exact va_get (D := (dC, dI)) (ci := 5) (v := .ref pa) (C := RX6) (T := TX6) (N := 9) hx hb hts zl_X4_touches_X6 hown hK hP kk_4 hk_5 rfl 2 (by decide) (hts (.fieldLink RX4 31 "PageOne$Item" "pieces" "[LPageOne$Piece;") (zat q_wsX4_touches k_wsX4_touches 190 rfl (by decide +kernel))) (fun _ h9 => h9) rfl dX4_touches_11 hgo
          ·
            rw [ht9.2] at hk_5
            exact va_get (D := (dC, dI)) (ci := 6) (v := .ref pa) (C := RX7) (T := TX7) (N := 8) hx hb hts zl_X4_touches_X7 hown hK hP kk_4 hk_5 rfl 2 (by decide) (hts (.fieldLink RX4 31 "PageOne$Item" "pieces" "[LPageOne$Piece;") (zat q_wsX4_touches k_wsX4_touches 190 rfl (by decide +kernel))) (fun _ h9 => h9) rfl dX4_touches_11 hgo
          ·
            rw [ht9.2] at hk_5
            exact va_get (D := (dC, dI)) (ci := 9) (v := .ref pa) (C := RX10) (T := TX10) (N := 9) hx hb hts zl_X4_touches_X10 hown hK hP kk_4 hk_5 rfl 2 (by decide) (hts (.fieldLink RX4 31 "PageOne$Item" "pieces" "[LPageOne$Piece;") (zat q_wsX4_touches k_wsX4_touches 190 rfl (by decide +kernel))) (fun _ h9 => h9) rfl dX4_touches_11 hgo
        ·
          refine lv_iload_n hx hb dX4_touches_14 rfl (lv_at hl 0 rfl) ?_
          obtain ⟨kk_6, hk_7⟩ := pl_at hpa.1 hps
          refine va_aldq hx hb hK hP kk_6 5 hk_7 rfl (vp_in_nI (by omega) (by omega)) dX4_touches_15 ?_
          obtain ⟨b_8, it_9, hg_10, hp_11, hlg_12⟩ := hpl ((nI i) : Int32).toNatClampNeg (by rw [nI_clamp (by omega)]; exact hlt)
          rw [hg_10]
          refine W.eq (g2 := F0 m 16 ls [.ref b_8]) rfl ?_
          refine lv_aload_n hx hb dX4_touches_16 rfl (lv_at hl 2 rfl) ?_
          obtain ⟨kk_13, hk_14⟩ := pl_at hp_11.1.1 (x_pcF hI hp_11)
          refine vp_callSi (va_runV (As := [.ref b0]) (rest := []) ⟨hx, hb, hml, hown, hts⟩ (y_isBeside l dC dI q h0 d k z f hI b_8 it_9 (Rm ((nI i) : Int32).toNatClampNeg 0) (Rm ((nI i) : Int32).toNatClampNeg 1) (Rm ((nI i) : Int32).toNatClampNeg 2) (Rm ((nI i) : Int32).toNatClampNeg 3) (Rm ((nI i) : Int32).toNatClampNeg 4) hp_11 b0 iu P2 X2 Y2 D2 N2 hpb) (cwV 1 hts gX4_touches_X8_isBeside rfl rfl rfl zh_X8_isBeside_34 ⟨Nat.le_trans (Nat.le_of_ble_eq_true rfl) hRf, Nat.le_trans (Nat.le_of_ble_eq_true rfl) hRl⟩) ⟨px_fb, va_recv hK hP (ci := 7) (q0 := kk_13) rfl hk_14, fun U hU hW => ⟨rfl, px_to hU hW hP hK hN hXN⟩⟩ rfl rfl hl.1 rfl (lv_room (Nat.le_of_ble_eq_true rfl)) dX4_touches_17 ⟨hRc, hRs⟩).run (fun r hw => ?_)
          obtain rfl : r = (s_isBeside (Rm ((nI i) : Int32).toNatClampNeg 0) (Rm ((nI i) : Int32).toNatClampNeg 1) (Rm ((nI i) : Int32).toNatClampNeg 2) (Rm ((nI i) : Int32).toNatClampNeg 3) (Rm ((nI i) : Int32).toNatClampNeg 4) P2 X2 Y2 D2 N2) := hw
          refine lv_if_ne (tgt := 40) hx hb dX4_touches_20 (by decide) (fun c_15 => ?_) (fun c_15 => ?_)
          ·
            exact kx40 ls ⟨i, hlt, (by have e9 : (nI i).toNatClampNeg = i := nI_clamp (by omega); (try simp only [e9] at c_15); unfold s_tch; simp [c_15])⟩ (lv_sub hl [1, 2, 3] rfl)
          ·
            refine lv_iload_n hx hb dX4_touches_23 rfl (lv_at hl 3 rfl) ?_
            refine lv_if_ne (tgt := 42) hx hb dX4_touches_24 (by decide) (fun c_16 => ?_) (fun c_16 => ?_)
            ·
              refine lv_iinc (v := (nI (i + 1))) (lv' := [(3, .int (nI (i + 1))), (0, .ref a0), (1, .ref b0), (2, .int p0)]) hx hb dX4_touches_42 hl (k := 0) rfl (nI_1 i) (by decide) rfl (fun ls hl => ?_)
              refine lv_goto (tgt := 2) hx hb dX4_touches_45 (by decide) ?_
              exact ih (i + 1) ls (by omega) (by omega) (fr_1 hg (by have e9 : (nI i).toNatClampNeg = i := nI_clamp (by omega); (try simp only [e9] at c_15); (try simp only [e9] at c_16); unfold s_tch; simp [c_15, c_16])) (lv_sub hl [0, 1, 2, 3] rfl)
            ·
              refine lv_aload_n hx hb dX4_touches_27 rfl (lv_at hl 1 rfl) ?_
              obtain ⟨kk_17, hk_18⟩ := pl_at ha0.1 hs
              refine w_then (F0 m 31 ls [.ref pa]) (fun hgo => ?_) ?_
              ·
                rcases x_tag ha0 with ht9 | ht9 | ht9 | ht9 | ht9 | ht9
                ·
                  rw [ht9.2] at hk_18
                  exact va_get (D := (dC, dI)) (ci := 2) (v := .ref pa) (C := RX2) (T := TX2) (N := 7) hx hb hts zl_X4_touches_X2 hown hK hP kk_17 hk_18 rfl 2 (by decide) (hts (.fieldLink RX4 31 "PageOne$Item" "pieces" "[LPageOne$Piece;") (zat q_wsX4_touches k_wsX4_touches 190 rfl (by decide +kernel))) (fun _ h9 => h9) rfl dX4_touches_28 hgo
                ·
                  rw [ht9.2] at hk_18
                  exact va_get (D := (dC, dI)) (ci := 3) (v := .ref pa) (C := RX3) (T := TX3) (N := 8) hx hb hts zl_X4_touches_X3 hown hK hP kk_17 hk_18 rfl 2 (by decide) (hts (.fieldLink RX4 31 "PageOne$Item" "pieces" "[LPageOne$Piece;") (zat q_wsX4_touches k_wsX4_touches 190 rfl (by decide +kernel))) (fun _ h9 => h9) rfl dX4_touches_28 hgo
                ·
                  rw [ht9.2] at hk_18
                  exact va_get (D := (dC, dI)) (ci := 4) (v := .ref pa) (C := RX5) (T := TX5) (N := 7) hx hb hts zl_X4_touches_X5 hown hK hP kk_17 hk_18 rfl 2 (by decide) (hts (.fieldLink RX4 31 "PageOne$Item" "pieces" "[LPageOne$Piece;") (zat q_wsX4_touches k_wsX4_touches 190 rfl (by decide +kernel))) (fun _ h9 => h9) rfl dX4_touches_28 hgo
                ·
                  rw [ht9.2] at hk_18
                  exact va_get (D := (dC, dI)) (ci := 5) (v := .ref pa) (C := RX6) (T := TX6) (N := 9) hx hb hts zl_X4_touches_X6 hown hK hP kk_17 hk_18 rfl 2 (by decide) (hts (.fieldLink RX4 31 "PageOne$Item" "pieces" "[LPageOne$Piece;") (zat q_wsX4_touches k_wsX4_touches 190 rfl (by decide +kernel))) (fun _ h9 => h9) rfl dX4_touches_28 hgo
                ·
                  rw [ht9.2] at hk_18
                  exact va_get (D := (dC, dI)) (ci := 6) (v := .ref pa) (C := RX7) (T := TX7) (N := 8) hx hb hts zl_X4_touches_X7 hown hK hP kk_17 hk_18 rfl 2 (by decide) (hts (.fieldLink RX4 31 "PageOne$Item" "pieces" "[LPageOne$Piece;") (zat q_wsX4_touches k_wsX4_touches 190 rfl (by decide +kernel))) (fun _ h9 => h9) rfl dX4_touches_28 hgo
                ·
                  rw [ht9.2] at hk_18
                  exact va_get (D := (dC, dI)) (ci := 9) (v := .ref pa) (C := RX10) (T := TX10) (N := 9) hx hb hts zl_X4_touches_X10 hown hK hP kk_17 hk_18 rfl 2 (by decide) (hts (.fieldLink RX4 31 "PageOne$Item" "pieces" "[LPageOne$Piece;") (zat q_wsX4_touches k_wsX4_touches 190 rfl (by decide +kernel))) (fun _ h9 => h9) rfl dX4_touches_28 hgo
              ·
                refine lv_iload_n hx hb dX4_touches_31 rfl (lv_at hl 0 rfl) ?_
                obtain ⟨kk_19, hk_20⟩ := pl_at hpa.1 hps
                refine va_aldq hx hb hK hP kk_19 5 hk_20 rfl (vp_in_nI (by omega) (by omega)) dX4_touches_32 ?_
                obtain ⟨b_21, it_22, hg_23, hp_24, hlg_25⟩ := hpl ((nI i) : Int32).toNatClampNeg (by rw [nI_clamp (by omega)]; exact hlt)
                rw [hg_23]
                refine W.eq (g2 := F0 m 33 ls [.ref b_21]) rfl ?_
                refine lv_aload_n hx hb dX4_touches_33 rfl (lv_at hl 2 rfl) ?_
                obtain ⟨kk_26, hk_27⟩ := pl_at hp_24.1.1 (x_pcF hI hp_24)
                refine vp_callSi (va_runV (As := [.ref b0]) (rest := []) ⟨hx, hb, hml, hown, hts⟩ (y_isOverOrUnder l dC dI q h0 d k z f hI b_21 it_22 (Rm ((nI i) : Int32).toNatClampNeg 0) (Rm ((nI i) : Int32).toNatClampNeg 1) (Rm ((nI i) : Int32).toNatClampNeg 2) (Rm ((nI i) : Int32).toNatClampNeg 3) (Rm ((nI i) : Int32).toNatClampNeg 4) hp_24 b0 iu P2 X2 Y2 D2 N2 hpb) (cwV 1 hts gX4_touches_X8_isOverOrUnder rfl rfl rfl zh_X8_isOverOrUnder_35 ⟨Nat.le_trans (Nat.le_of_ble_eq_true rfl) hRf, Nat.le_trans (Nat.le_of_ble_eq_true rfl) hRl⟩) ⟨px_fb, va_recv hK hP (ci := 7) (q0 := kk_26) rfl hk_27, fun U hU hW => ⟨rfl, px_to hU hW hP hK hN hXN⟩⟩ rfl rfl hl.1 rfl (lv_room (Nat.le_of_ble_eq_true rfl)) dX4_touches_34 ⟨hRc, hRs⟩).run (fun r hw => ?_)
                obtain rfl : r = (s_isOverOrUnder (Rm ((nI i) : Int32).toNatClampNeg 0) (Rm ((nI i) : Int32).toNatClampNeg 1) (Rm ((nI i) : Int32).toNatClampNeg 2) (Rm ((nI i) : Int32).toNatClampNeg 3) (Rm ((nI i) : Int32).toNatClampNeg 4) P2 X2 Y2 D2 N2) := hw
                refine lv_if_eq (tgt := 42) hx hb dX4_touches_37 (by decide) (fun c_28 => ?_) (fun c_28 => ?_)
                ·
                  refine lv_iinc (v := (nI (i + 1))) (lv' := [(3, .int (nI (i + 1))), (0, .ref a0), (1, .ref b0), (2, .int p0)]) hx hb dX4_touches_42 hl (k := 0) rfl (nI_1 i) (by decide) rfl (fun ls hl => ?_)
                  refine lv_goto (tgt := 2) hx hb dX4_touches_45 (by decide) ?_
                  exact ih (i + 1) ls (by omega) (by omega) (fr_1 hg (by have e9 : (nI i).toNatClampNeg = i := nI_clamp (by omega); (try simp only [e9] at c_15); (try simp only [e9] at c_16); (try simp only [e9] at c_28); unfold s_tch; simp [c_15, c_16, c_28])) (lv_sub hl [0, 1, 2, 3] rfl)
                ·
                  exact kx40 ls ⟨i, hlt, (by have e9 : (nI i).toNatClampNeg = i := nI_clamp (by omega); (try simp only [e9] at c_15); (try simp only [e9] at c_16); (try simp only [e9] at c_28); unfold s_tch; simp [c_15, c_16, c_28])⟩ (lv_sub hl [1, 2, 3] rfl)
set_option maxHeartbeats 4000000 in
set_option maxRecDepth 100000 in
theorem y_touches (l : Launch) (dC : Nat → ClassId) (dI : Nat → Nat → Nat) (q : Nat → ClassId) (h0 : Nat) (d : Nat → Nat) (k : Nat → Int32) (z : gS) (f : xF) (hI : xI q h0 d k z f) (a0 : Nat) (ha0 : itm z a0) (nu kd cn : Int32) (pa fa : Nat) (rs : List Value) (hs : f a0 = .inr (ciT (z.2 a0).1, itF nu kd pa cn fa rs)) (n : Nat) (g : Nat → Option Nat) (Rm : Nat → Nat → Int32) (hpa : tg z pa 16) (hps : f pa = aR (q 5) n g) (h1 : 1 ≤ n) (h6 : n ≤ 6) (hcb : bw cn 0 (nI n) = true) (hpl : pcL z g cn.toNatClampNeg Rm) (b0 : Nat) (iu : Option Nat) (P2 X2 Y2 D2 N2 : Int32) (hpb : pcS z b0 iu P2 X2 Y2 D2 N2) (p0 : Int32) : Met l yX4_touches wsX4_touches ({ frames := 1, cells := 0, slots := 0, locals := 22 }) (va_Pc [.ref a0, .ref b0, .int p0] (PX dC dI (va_pl z.1 f) (xT q))) (vp_Si (fun r => r = bP (∃ j, j < cn.toNatClampNeg ∧ s_tch Rm P2 X2 Y2 D2 N2 p0 j))) 0 0 (fun _ => False) := by
  refine Met.ofW (cc := cX4_touches) (maxL := 4) (ret := (some .boolean)) (by decide) rfl ?_
  intro p e s m args below meth c s₁ B hml hv
  obtain ⟨rfl, ⟨hP, hK, hN⟩, hXN⟩ := hv
  have hx := B.exec
  have hb := B.bytes
  have hr := B.returns
  have hts := atoms_spec (ws := wsX4_touches) B.pre
  have hown : s.vm.findClass RX4 = some m.cls := findClass_of_methodNamed B.named
  have hlocks := B.notSynchronized
  have hl := lv_entry ([.ref a0, .ref b0, .int p0]) (n := 4) (Nat.le_of_ble_eq_true rfl)
  rw [lg_entry_eq]
  generalize (lg_sl ([.ref a0, .ref b0, .int p0]) ++ List.replicate (4 - (lg_sl ([.ref a0, .ref b0, .int p0])).length) Slot.unset).toArray = ls at hl ⊢
  have hl : lv_has ls 4 [(0, .ref a0), (1, .ref b0), (2, .int p0)] := hl
  refine lv_iconst (v := 0) hx hb dX4_touches_0 (by decide) ?_
  refine lv_istore_n (lv' := [(3, .int 0), (0, .ref a0), (1, .ref b0), (2, .int p0)]) hx hb dX4_touches_1 rfl hl (by decide) rfl (fun ls hl => ?_)
  obtain ⟨K, hK1, -, eK⟩ := exN hcb (by decide)
  rw [nI_toInt (by omega)] at hK1
  subst eK
  have hplK : pcL z g K Rm := by rw [nI_clamp (by omega)] at hpl; exact hpl
  refine y_touches_l hI hx hb hml hts hown hN hXN hK (Nat.le_of_ble_eq_true rfl) (Nat.le_of_ble_eq_true rfl) (Nat.le_of_ble_eq_true rfl) (Nat.le_of_ble_eq_true rfl) hP ha0 hs hpa hps (by omega) h6 hplK hpb (fun ls hh hl => ?_) (fun ls hh hl => ?_) (K + 1) 0 ls (Nat.zero_le _) (by omega) (fun j hj => absurd hj (Nat.not_lt_zero _)) (lv_sub hl [0, 1, 2, 3] rfl)
  ·
    refine lv_iconst (v := 0) hx hb dX4_touches_48 (by decide) ?_
    exact W.zret (v := 0) hx hb hr (by decide) (fun t ht hW => ⟨_, rfl, (bP_f (fun h => by obtain ⟨j, hj, h9⟩ := h; rw [nI_clamp (by omega)] at hj; exact hh j hj h9)).symm, ht⟩) (fun q h => absurd h List.not_mem_nil) dX4_touches_49
  ·
    refine lv_iconst (v := 1) hx hb dX4_touches_40 (by decide) ?_
    exact W.zret (v := 1) hx hb hr (by decide) (fun t ht hW => ⟨_, rfl, (bP_t (by obtain ⟨j, hj, h9⟩ := hh; exact ⟨j, by rw [nI_clamp (by omega)]; exact hj, h9⟩)).symm, ht⟩) (fun q h => absurd h List.not_mem_nil) dX4_touches_41
def s_mt (Rm R2 : Nat → Nat → Int32) (cn2 p0 p1 : Int32) (j : Nat) : Prop := Rm j 0 = p0 ∧ ¬ bP (∃ j2, j2 < cn2.toNatClampNeg ∧ s_tch R2 (Rm j 0) (Rm j 1) (Rm j 2) (Rm j 3) (Rm j 4) p1 j2) = 0
set_option maxHeartbeats 4000000 in
set_option maxRecDepth 100000 in
theorem y_meets_l {p : Program} {l : Launch} {e : Env} {R : Room} {s : State} {m : MethodId} {args : Array Value} {below : List Frame} {meth : Method} {c : Code} {Q : State → Prop} {cells slots : Nat} {dC : Nat → ClassId} {dI : Nat → Nat → Nat} {q : Nat → ClassId} {h0 : Nat} {d : Nat → Nat} {k : Nat → Int32} {z : gS} {f : xF} {H : Heap} {locs : List Loc} (hI : xI q h0 d k z f) (hx : p.tables.exec = Jvm.exec) (hb : c.code = cX4_meets) (hml : c.maxLocals = 5) (hts : ∀ w ∈ wsX4_meets, w.before args s = true) (hown : s.vm.findClass RX4 = some m.cls) (hN : NN s) (hXN : XN s) (hK : va_K (dC, dI) vwCl (xT q) s) (hRf : 2 ≤ R.frames) (hRl : 45 ≤ R.locals) (hRc : cells ≤ R.cells) (hRs : slots ≤ R.slots) (hP : va_P (dC, dI) vwCl (va_pl z.1 f) H) {a0 : Nat} {nu kd : Int32} {pa fa n K : Nat} {rs : List Value} {g : Nat → Option Nat} {Rm : Nat → Nat → Int32} (ha0 : itm z a0) (hs : f a0 = .inr (ciT (z.2 a0).1, itF nu kd pa (nI K) fa rs)) (hpa : tg z pa 16) (hps : f pa = aR (q 5) n g) (hKn : K ≤ n) (h6 : n ≤ 6) (hpl : pcL z g K Rm) {c0 : Nat} (hc0 : itm z c0) {nu2 kd2 cn2 : Int32} {pa2 fa2 : Nat} {rs2 : List Value} (hs2 : f c0 = .inr (ciT (z.2 c0).1, itF nu2 kd2 pa2 cn2 fa2 rs2)) {n2 : Nat} {g2 : Nat → Option Nat} {R2 : Nat → Nat → Int32} (hpa2 : tg z pa2 16) (hps2 : f pa2 = aR (q 5) n2 g2) (h12 : 1 ≤ n2) (h62 : n2 ≤ 6) (hcb2 : bw cn2 0 (nI n2) = true) (hpl2 : pcL z g2 cn2.toNatClampNeg R2) {p0 p1 : Int32} (kx49 : ∀ (ls : Array Slot), (∀ j, j < K → ¬ s_mt Rm R2 cn2 p0 p1 j) → lv_has ls 5 [(0, .ref a0), (1, .ref c0), (2, .int p0), (3, .int p1)] → W p l e R s m args below meth c H locs cells slots Q (F0 m 49 ls [])) (kx41 : ∀ (ls : Array Slot), (∃ j, j < K ∧ s_mt Rm R2 cn2 p0 p1 j) → lv_has ls 5 [(0, .ref a0), (1, .ref c0), (2, .int p0), (3, .int p1)] → W p l e R s m args below meth c H locs cells slots Q (F0 m 41 ls [])) : ∀ (kk i : Nat) (ls : Array Slot), i ≤ K → K - i < kk → (∀ j, j < i → ¬ s_mt Rm R2 cn2 p0 p1 j) → lv_has ls 5 [(4, .int (nI i)), (0, .ref a0), (1, .ref c0), (2, .int p0), (3, .int p1)] → W p l e R s m args below meth c H locs cells slots Q (F0 m 3 ls []) := by
  intro kk
  induction kk with
  | zero => intro i ls h1 h2; exact absurd h2 (Nat.not_lt_zero _)
  | succ kk ih =>
    intro i ls hi hkk hg hl
    refine lv_iload hx hb dX4_meets_3 (lv_at hl 0 rfl) ?_
    refine lv_aload_n hx hb dX4_meets_5 rfl (lv_at hl 1 rfl) ?_
    obtain ⟨kk_1, hk_2⟩ := pl_at ha0.1 hs
    refine w_then (F0 m 9 ls [.int (nI K), .int (nI i)]) (fun hgo => ?_) ?_
    ·
      rcases x_tag ha0 with ht9 | ht9 | ht9 | ht9 | ht9 | ht9
      ·
        rw [ht9.2] at hk_2
        exact va_get (D := (dC, dI)) (ci := 2) (v := .int (nI K)) (C := RX2) (T := TX2) (N := 7) hx hb hts zl_X4_meets_X2 hown hK hP kk_1 hk_2 rfl 3 (by decide) (hts (.fieldLink RX4 9 "PageOne$Item" "count" "I") (zat q_wsX4_meets k_wsX4_meets 194 rfl (by decide +kernel))) (fun _ h9 => h9) rfl dX4_meets_6 hgo
      ·
        rw [ht9.2] at hk_2
        exact va_get (D := (dC, dI)) (ci := 3) (v := .int (nI K)) (C := RX3) (T := TX3) (N := 8) hx hb hts zl_X4_meets_X3 hown hK hP kk_1 hk_2 rfl 3 (by decide) (hts (.fieldLink RX4 9 "PageOne$Item" "count" "I") (zat q_wsX4_meets k_wsX4_meets 194 rfl (by decide +kernel))) (fun _ h9 => h9) rfl dX4_meets_6 hgo
      ·
        rw [ht9.2] at hk_2
        exact va_get (D := (dC, dI)) (ci := 4) (v := .int (nI K)) (C := RX5) (T := TX5) (N := 7) hx hb hts zl_X4_meets_X5 hown hK hP kk_1 hk_2 rfl 3 (by decide) (hts (.fieldLink RX4 9 "PageOne$Item" "count" "I") (zat q_wsX4_meets k_wsX4_meets 194 rfl (by decide +kernel))) (fun _ h9 => h9) rfl dX4_meets_6 hgo
      ·
        rw [ht9.2] at hk_2
        exact va_get (D := (dC, dI)) (ci := 5) (v := .int (nI K)) (C := RX6) (T := TX6) (N := 9) hx hb hts zl_X4_meets_X6 hown hK hP kk_1 hk_2 rfl 3 (by decide) (hts (.fieldLink RX4 9 "PageOne$Item" "count" "I") (zat q_wsX4_meets k_wsX4_meets 194 rfl (by decide +kernel))) (fun _ h9 => h9) rfl dX4_meets_6 hgo
      ·
        rw [ht9.2] at hk_2
        exact va_get (D := (dC, dI)) (ci := 6) (v := .int (nI K)) (C := RX7) (T := TX7) (N := 8) hx hb hts zl_X4_meets_X7 hown hK hP kk_1 hk_2 rfl 3 (by decide) (hts (.fieldLink RX4 9 "PageOne$Item" "count" "I") (zat q_wsX4_meets k_wsX4_meets 194 rfl (by decide +kernel))) (fun _ h9 => h9) rfl dX4_meets_6 hgo
      ·
        rw [ht9.2] at hk_2
        exact va_get (D := (dC, dI)) (ci := 9) (v := .int (nI K)) (C := RX10) (T := TX10) (N := 9) hx hb hts zl_X4_meets_X10 hown hK hP kk_1 hk_2 rfl 3 (by decide) (hts (.fieldLink RX4 9 "PageOne$Item" "count" "I") (zat q_wsX4_meets k_wsX4_meets 194 rfl (by decide +kernel))) (fun _ h9 => h9) rfl dX4_meets_6 hgo
    ·
      refine lv_icmp_ge (tgt := 49) hx hb dX4_meets_9 (by decide) (fun c_3 => ?_) (fun c_3 => ?_)
      ·
        have hie : i = K := lp_eq rfl (by omega) hi c_3
        exact kx49 ls (by rw [← hie]; exact hg) (lv_sub hl [1, 2, 3, 4] rfl)
      ·
        have hlt : i < K := lp_lt rfl (by omega) hi c_3
        refine lv_aload_n hx hb dX4_meets_12 rfl (lv_at hl 1 rfl) ?_
        obtain ⟨kk_4, hk_5⟩ := pl_at ha0.1 hs
        refine w_then (F0 m 16 ls [.ref pa]) (fun hgo => ?_) ?_
        ·
          rcases x_tag ha0 with ht9 | ht9 | ht9 | ht9 | ht9 | ht9
          ·
            rw [ht9.2] at hk_5
            exact va_get (D := (dC, dI)) (ci := 2) (v := .ref pa) (C := RX2) (T := TX2) (N := 7) hx hb hts zl_X4_meets_X2 hown hK hP kk_4 hk_5 rfl 2 (by decide) (hts (.fieldLink RX4 31 "PageOne$Item" "pieces" "[LPageOne$Piece;") (zat q_wsX4_meets k_wsX4_meets 190 rfl (by decide +kernel))) (fun _ h9 => h9) rfl dX4_meets_13 hgo
          ·
            rw [ht9.2] at hk_5
            exact va_get (D := (dC, dI)) (ci := 3) (v := .ref pa) (C := RX3) (T := TX3) (N := 8) hx hb hts zl_X4_meets_X3 hown hK hP kk_4 hk_5 rfl 2 (by decide) (hts (.fieldLink RX4 31 "PageOne$Item" "pieces" "[LPageOne$Piece;") (zat q_wsX4_meets k_wsX4_meets 190 rfl (by decide +kernel))) (fun _ h9 => h9) rfl dX4_meets_13 hgo
          ·
            rw [ht9.2] at hk_5
            exact va_get (D := (dC, dI)) (ci := 4) (v := .ref pa) (C := RX5) (T := TX5) (N := 7) hx hb hts zl_X4_meets_X5 hown hK hP kk_4 hk_5 rfl 2 (by decide) (hts (.fieldLink RX4 31 "PageOne$Item" "pieces" "[LPageOne$Piece;") (zat q_wsX4_meets k_wsX4_meets 190 rfl (by decide +kernel))) (fun _ h9 => h9) rfl dX4_meets_13 hgo
          ·
            rw [ht9.2] at hk_5
            exact va_get (D := (dC, dI)) (ci := 5) (v := .ref pa) (C := RX6) (T := TX6) (N := 9) hx hb hts zl_X4_meets_X6 hown hK hP kk_4 hk_5 rfl 2 (by decide) (hts (.fieldLink RX4 31 "PageOne$Item" "pieces" "[LPageOne$Piece;") (zat q_wsX4_meets k_wsX4_meets 190 rfl (by decide +kernel))) (fun _ h9 => h9) rfl dX4_meets_13 hgo
          ·
            rw [ht9.2] at hk_5
            exact va_get (D := (dC, dI)) (ci := 6) (v := .ref pa) (C := RX7) (T := TX7) (N := 8) hx hb hts zl_X4_meets_X7 hown hK hP kk_4 hk_5 rfl 2 (by decide) (hts (.fieldLink RX4 31 "PageOne$Item" "pieces" "[LPageOne$Piece;") (zat q_wsX4_meets k_wsX4_meets 190 rfl (by decide +kernel))) (fun _ h9 => h9) rfl dX4_meets_13 hgo
          ·
            rw [ht9.2] at hk_5
            exact va_get (D := (dC, dI)) (ci := 9) (v := .ref pa) (C := RX10) (T := TX10) (N := 9) hx hb hts zl_X4_meets_X10 hown hK hP kk_4 hk_5 rfl 2 (by decide) (hts (.fieldLink RX4 31 "PageOne$Item" "pieces" "[LPageOne$Piece;") (zat q_wsX4_meets k_wsX4_meets 190 rfl (by decide +kernel))) (fun _ h9 => h9) rfl dX4_meets_13 hgo
        ·
          refine lv_iload hx hb dX4_meets_16 (lv_at hl 0 rfl) ?_
          obtain ⟨kk_6, hk_7⟩ := pl_at hpa.1 hps
          refine va_aldq hx hb hK hP kk_6 5 hk_7 rfl (vp_in_nI (by omega) (by omega)) dX4_meets_18 ?_
          obtain ⟨b_8, it_9, hg_10, hp_11, hlg_12⟩ := hpl ((nI i) : Int32).toNatClampNeg (by rw [nI_clamp (by omega)]; exact hlt)
          rw [hg_10]
          refine W.eq (g2 := F0 m 19 ls [.ref b_8]) rfl ?_
          obtain ⟨kk_13, hk_14⟩ := pl_at hp_11.1.1 (x_pcF hI hp_11)
          refine va_get (D := (dC, dI)) (ci := 7) (v := .int (Rm ((nI i) : Int32).toNatClampNeg 0)) (C := RX8) (T := TX8) (N := 6) hx hb hts zl_X4_meets_X8 hown hK hP kk_13 hk_14 rfl 1 (by decide) (hts (.fieldLink RX4 45 "PageOne$Piece" "page" "I") (zat q_wsX4_meets k_wsX4_meets 320 rfl (by decide +kernel))) (fun _ h9 => h9) rfl dX4_meets_19 ?_
          refine lv_iload_n hx hb dX4_meets_22 rfl (lv_at hl 3 rfl) ?_
          refine lv_icmp_ne (tgt := 43) hx hb dX4_meets_23 (by decide) (fun c_15 => ?_) (fun c_15 => ?_)
          ·
            refine lv_iinc (v := (nI (i + 1))) (lv' := [(4, .int (nI (i + 1))), (0, .ref a0), (1, .ref c0), (2, .int p0), (3, .int p1)]) hx hb dX4_meets_43 hl (k := 0) rfl (nI_1 i) (by decide) rfl (fun ls hl => ?_)
            refine lv_goto (tgt := 3) hx hb dX4_meets_46 (by decide) ?_
            exact ih (i + 1) ls (by omega) (by omega) (fr_1 hg (by have e9 : (nI i).toNatClampNeg = i := nI_clamp (by omega); (try simp only [e9] at c_15); exact fun h => c_15 h.1)) (lv_sub hl [0, 1, 2, 3, 4] rfl)
          ·
            refine lv_aload_n hx hb dX4_meets_26 rfl (lv_at hl 2 rfl) ?_
            refine lv_aload_n hx hb dX4_meets_27 rfl (lv_at hl 1 rfl) ?_
            obtain ⟨kk_16, hk_17⟩ := pl_at ha0.1 hs
            refine w_then (F0 m 31 ls [.ref pa, .ref c0]) (fun hgo => ?_) ?_
            ·
              rcases x_tag ha0 with ht9 | ht9 | ht9 | ht9 | ht9 | ht9
              ·
                rw [ht9.2] at hk_17
                exact va_get (D := (dC, dI)) (ci := 2) (v := .ref pa) (C := RX2) (T := TX2) (N := 7) hx hb hts zl_X4_meets_X2 hown hK hP kk_16 hk_17 rfl 2 (by decide) (hts (.fieldLink RX4 31 "PageOne$Item" "pieces" "[LPageOne$Piece;") (zat q_wsX4_meets k_wsX4_meets 190 rfl (by decide +kernel))) (fun _ h9 => h9) rfl dX4_meets_28 hgo
              ·
                rw [ht9.2] at hk_17
                exact va_get (D := (dC, dI)) (ci := 3) (v := .ref pa) (C := RX3) (T := TX3) (N := 8) hx hb hts zl_X4_meets_X3 hown hK hP kk_16 hk_17 rfl 2 (by decide) (hts (.fieldLink RX4 31 "PageOne$Item" "pieces" "[LPageOne$Piece;") (zat q_wsX4_meets k_wsX4_meets 190 rfl (by decide +kernel))) (fun _ h9 => h9) rfl dX4_meets_28 hgo
              ·
                rw [ht9.2] at hk_17
                exact va_get (D := (dC, dI)) (ci := 4) (v := .ref pa) (C := RX5) (T := TX5) (N := 7) hx hb hts zl_X4_meets_X5 hown hK hP kk_16 hk_17 rfl 2 (by decide) (hts (.fieldLink RX4 31 "PageOne$Item" "pieces" "[LPageOne$Piece;") (zat q_wsX4_meets k_wsX4_meets 190 rfl (by decide +kernel))) (fun _ h9 => h9) rfl dX4_meets_28 hgo
              ·
                rw [ht9.2] at hk_17
                exact va_get (D := (dC, dI)) (ci := 5) (v := .ref pa) (C := RX6) (T := TX6) (N := 9) hx hb hts zl_X4_meets_X6 hown hK hP kk_16 hk_17 rfl 2 (by decide) (hts (.fieldLink RX4 31 "PageOne$Item" "pieces" "[LPageOne$Piece;") (zat q_wsX4_meets k_wsX4_meets 190 rfl (by decide +kernel))) (fun _ h9 => h9) rfl dX4_meets_28 hgo
              ·
                rw [ht9.2] at hk_17
                exact va_get (D := (dC, dI)) (ci := 6) (v := .ref pa) (C := RX7) (T := TX7) (N := 8) hx hb hts zl_X4_meets_X7 hown hK hP kk_16 hk_17 rfl 2 (by decide) (hts (.fieldLink RX4 31 "PageOne$Item" "pieces" "[LPageOne$Piece;") (zat q_wsX4_meets k_wsX4_meets 190 rfl (by decide +kernel))) (fun _ h9 => h9) rfl dX4_meets_28 hgo
              ·
                rw [ht9.2] at hk_17
                exact va_get (D := (dC, dI)) (ci := 9) (v := .ref pa) (C := RX10) (T := TX10) (N := 9) hx hb hts zl_X4_meets_X10 hown hK hP kk_16 hk_17 rfl 2 (by decide) (hts (.fieldLink RX4 31 "PageOne$Item" "pieces" "[LPageOne$Piece;") (zat q_wsX4_meets k_wsX4_meets 190 rfl (by decide +kernel))) (fun _ h9 => h9) rfl dX4_meets_28 hgo
            ·
              refine lv_iload hx hb dX4_meets_31 (lv_at hl 0 rfl) ?_
              obtain ⟨kk_18, hk_19⟩ := pl_at hpa.1 hps
              refine va_aldq hx hb hK hP kk_18 5 hk_19 rfl (vp_in_nI (by omega) (by omega)) dX4_meets_33 ?_
              obtain ⟨b_20, it_21, hg_22, hp_23, hlg_24⟩ := hpl ((nI i) : Int32).toNatClampNeg (by rw [nI_clamp (by omega)]; exact hlt)
              rw [hg_22]
              refine W.eq (g2 := F0 m 34 ls [.ref b_20, .ref c0]) rfl ?_
              refine lv_iload_n hx hb dX4_meets_34 rfl (lv_at hl 4 rfl) ?_
              refine w_cut (X := fun R cells slots Q args => ∀ r : Int32, (r = (bP (∃ j2, j2 < cn2.toNatClampNeg ∧ s_tch R2 (Rm ((nI i) : Int32).toNatClampNeg 0) (Rm ((nI i) : Int32).toNatClampNeg 1) (Rm ((nI i) : Int32).toNatClampNeg 2) (Rm ((nI i) : Int32).toNatClampNeg 3) (Rm ((nI i) : Int32).toNatClampNeg 4) p1 j2))) → W p l e R s m args below meth c H locs cells slots Q (F0 m 38 ls (.int r :: []))) ?_ (fun kC => ?_)
              ·
                intro r hw
                obtain rfl : r = (bP (∃ j2, j2 < cn2.toNatClampNeg ∧ s_tch R2 (Rm ((nI i) : Int32).toNatClampNeg 0) (Rm ((nI i) : Int32).toNatClampNeg 1) (Rm ((nI i) : Int32).toNatClampNeg 2) (Rm ((nI i) : Int32).toNatClampNeg 3) (Rm ((nI i) : Int32).toNatClampNeg 4) p1 j2)) := hw
                refine lv_if_eq (tgt := 43) hx hb dX4_meets_38 (by decide) (fun c_120 => ?_) (fun c_120 => ?_)
                ·
                  refine lv_iinc (v := (nI (i + 1))) (lv' := [(4, .int (nI (i + 1))), (0, .ref a0), (1, .ref c0), (2, .int p0), (3, .int p1)]) hx hb dX4_meets_43 hl (k := 0) rfl (nI_1 i) (by decide) rfl (fun ls hl => ?_)
                  refine lv_goto (tgt := 3) hx hb dX4_meets_46 (by decide) ?_
                  exact ih (i + 1) ls (by omega) (by omega) (fr_1 hg (by have e9 : (nI i).toNatClampNeg = i := nI_clamp (by omega); (try simp only [e9] at c_15); (try simp only [e9] at c_120); exact fun h => h.2 c_120)) (lv_sub hl [0, 1, 2, 3, 4] rfl)
                ·
                  exact kx41 ls ⟨i, hlt, (by have e9 : (nI i).toNatClampNeg = i := nI_clamp (by omega); (try simp only [e9] at c_15); (try simp only [e9] at c_120); exact ⟨c_15, c_120⟩)⟩ (lv_sub hl [1, 2, 3, 4] rfl)
              ·
                rcases x_tag hc0 with ht9 | ht9 | ht9 | ht9 | ht9 | ht9
                ·
                  obtain ⟨nu_25, kd_26, cn_27, pa_28, fa_29, l_30, m_31, hs_32, hs_33, hs_34, hs_35⟩ := x_ifl hI ht9
                  obtain ⟨kk_36, hk_37⟩ := pl_at ht9.1 hs_32
                  exact vp_callSi (va_runU (As := [.ref b_20, .int p1]) (rest := []) ⟨hx, hb, hml, hown, hts⟩ (y_touches l dC dI q h0 d k z f hI c0 hc0 nu2 kd2 cn2 pa2 fa2 rs2 hs2 n2 g2 R2 hpa2 hps2 h12 h62 hcb2 hpl2 b_20 it_21 (Rm ((nI i) : Int32).toNatClampNeg 0) (Rm ((nI i) : Int32).toNatClampNeg 1) (Rm ((nI i) : Int32).toNatClampNeg 2) (Rm ((nI i) : Int32).toNatClampNeg 3) (Rm ((nI i) : Int32).toNatClampNeg 4) hp_23 p1) (va_cwU 2 hts gX4_meets_X4_touches_u48X2 rfl rfl rfl rfl zu_36 ⟨Nat.le_trans (Nat.le_of_ble_eq_true rfl) hRf, Nat.le_trans (Nat.le_of_ble_eq_true rfl) hRl⟩) ⟨px_fb, va_recv hK hP (ci := 2) (q0 := kk_36) rfl hk_37, fun U hU hW => ⟨rfl, px_to hU hW hP hK hN hXN⟩⟩ rfl rfl hl.1 rfl (lv_room (Nat.le_of_ble_eq_true rfl)) dX4_meets_35 ⟨hRc, hRs⟩).run (fun r hw => kC r hw)
                ·
                  obtain ⟨nu_38, kd_39, cn_40, pa_41, fa_42, o_43, w_44, y_45, hs_46, hs_47, hs_48, hs_49, hq_50⟩ := x_ihd hI ht9
                  obtain ⟨kk_51, hk_52⟩ := pl_at ht9.1 hs_46
                  exact vp_callSi (va_runU (As := [.ref b_20, .int p1]) (rest := []) ⟨hx, hb, hml, hown, hts⟩ (y_touches l dC dI q h0 d k z f hI c0 hc0 nu2 kd2 cn2 pa2 fa2 rs2 hs2 n2 g2 R2 hpa2 hps2 h12 h62 hcb2 hpl2 b_20 it_21 (Rm ((nI i) : Int32).toNatClampNeg 0) (Rm ((nI i) : Int32).toNatClampNeg 1) (Rm ((nI i) : Int32).toNatClampNeg 2) (Rm ((nI i) : Int32).toNatClampNeg 3) (Rm ((nI i) : Int32).toNatClampNeg 4) hp_23 p1) (va_cwU 2 hts gX4_meets_X4_touches_u48X3 rfl rfl rfl rfl zu_36 ⟨Nat.le_trans (Nat.le_of_ble_eq_true rfl) hRf, Nat.le_trans (Nat.le_of_ble_eq_true rfl) hRl⟩) ⟨px_fb, va_recv hK hP (ci := 3) (q0 := kk_51) rfl hk_52, fun U hU hW => ⟨rfl, px_to hU hW hP hK hN hXN⟩⟩ rfl rfl hl.1 rfl (lv_room (Nat.le_of_ble_eq_true rfl)) dX4_meets_35 ⟨hRc, hRs⟩).run (fun r hw => kC r hw)
                ·
                  obtain ⟨nu_53, kd_54, cn_55, pa_56, fa_57, o_58, y_59, hs_60, hs_61, hs_62, hs_63, hq_64⟩ := x_ino hI ht9
                  obtain ⟨kk_65, hk_66⟩ := pl_at ht9.1 hs_60
                  exact vp_callSi (va_runU (As := [.ref b_20, .int p1]) (rest := []) ⟨hx, hb, hml, hown, hts⟩ (y_touches l dC dI q h0 d k z f hI c0 hc0 nu2 kd2 cn2 pa2 fa2 rs2 hs2 n2 g2 R2 hpa2 hps2 h12 h62 hcb2 hpl2 b_20 it_21 (Rm ((nI i) : Int32).toNatClampNeg 0) (Rm ((nI i) : Int32).toNatClampNeg 1) (Rm ((nI i) : Int32).toNatClampNeg 2) (Rm ((nI i) : Int32).toNatClampNeg 3) (Rm ((nI i) : Int32).toNatClampNeg 4) hp_23 p1) (va_cwU 2 hts gX4_meets_X4_touches_u48X5 rfl rfl rfl rfl zu_36 ⟨Nat.le_trans (Nat.le_of_ble_eq_true rfl) hRf, Nat.le_trans (Nat.le_of_ble_eq_true rfl) hRl⟩) ⟨px_fb, va_recv hK hP (ci := 4) (q0 := kk_65) rfl hk_66, fun U hU hW => ⟨rfl, px_to hU hW hP hK hN hXN⟩⟩ rfl rfl hl.1 rfl (lv_room (Nat.le_of_ble_eq_true rfl)) dX4_meets_35 ⟨hRc, hRs⟩).run (fun r hw => kC r hw)
                ·
                  obtain ⟨nu_67, kd_68, cn_69, pa_70, fa_71, b_72, pr_73, sp_74, dy_75, hs_76, hs_77, hs_78, hs_79, hq_80, hq_81, hq_82⟩ := x_ipd hI ht9
                  obtain ⟨kk_83, hk_84⟩ := pl_at ht9.1 hs_76
                  exact vp_callSi (va_runU (As := [.ref b_20, .int p1]) (rest := []) ⟨hx, hb, hml, hown, hts⟩ (y_touches l dC dI q h0 d k z f hI c0 hc0 nu2 kd2 cn2 pa2 fa2 rs2 hs2 n2 g2 R2 hpa2 hps2 h12 h62 hcb2 hpl2 b_20 it_21 (Rm ((nI i) : Int32).toNatClampNeg 0) (Rm ((nI i) : Int32).toNatClampNeg 1) (Rm ((nI i) : Int32).toNatClampNeg 2) (Rm ((nI i) : Int32).toNatClampNeg 3) (Rm ((nI i) : Int32).toNatClampNeg 4) hp_23 p1) (va_cwU 2 hts gX4_meets_X4_touches_u48X6 rfl rfl rfl rfl zu_36 ⟨Nat.le_trans (Nat.le_of_ble_eq_true rfl) hRf, Nat.le_trans (Nat.le_of_ble_eq_true rfl) hRl⟩) ⟨px_fb, va_recv hK hP (ci := 5) (q0 := kk_83) rfl hk_84, fun U hU hW => ⟨rfl, px_to hU hW hP hK hN hXN⟩⟩ rfl rfl hl.1 rfl (lv_room (Nat.le_of_ble_eq_true rfl)) dX4_meets_35 ⟨hRc, hRs⟩).run (fun r hw => kC r hw)
                ·
                  obtain ⟨nu_85, kd_86, cn_87, pa_88, fa_89, ww_90, hh_91, sz_92, hs_93, hs_94, hs_95, hs_96, hq_97, hq_98, hq_99⟩ := x_ipi hI ht9
                  obtain ⟨kk_100, hk_101⟩ := pl_at ht9.1 hs_93
                  exact vp_callSi (va_runU (As := [.ref b_20, .int p1]) (rest := []) ⟨hx, hb, hml, hown, hts⟩ (y_touches l dC dI q h0 d k z f hI c0 hc0 nu2 kd2 cn2 pa2 fa2 rs2 hs2 n2 g2 R2 hpa2 hps2 h12 h62 hcb2 hpl2 b_20 it_21 (Rm ((nI i) : Int32).toNatClampNeg 0) (Rm ((nI i) : Int32).toNatClampNeg 1) (Rm ((nI i) : Int32).toNatClampNeg 2) (Rm ((nI i) : Int32).toNatClampNeg 3) (Rm ((nI i) : Int32).toNatClampNeg 4) hp_23 p1) (va_cwU 2 hts gX4_meets_X4_touches_u48X7 rfl rfl rfl rfl zu_36 ⟨Nat.le_trans (Nat.le_of_ble_eq_true rfl) hRf, Nat.le_trans (Nat.le_of_ble_eq_true rfl) hRl⟩) ⟨px_fb, va_recv hK hP (ci := 6) (q0 := kk_100) rfl hk_101, fun U hU hW => ⟨rfl, px_to hU hW hP hK hN hXN⟩⟩ rfl rfl hl.1 rfl (lv_room (Nat.le_of_ble_eq_true rfl)) dX4_meets_35 ⟨hRc, hRs⟩).run (fun r hw => kC r hw)
                ·
                  obtain ⟨nu_102, kd_103, cn_104, pa_105, fa_106, l_107, co_108, wd_109, nm_110, hs_111, hs_112, hs_113, hs_114, hq_115, hq_116, hq_117⟩ := x_ist hI ht9
                  obtain ⟨kk_118, hk_119⟩ := pl_at ht9.1 hs_111
                  exact vp_callSi (va_runU (As := [.ref b_20, .int p1]) (rest := []) ⟨hx, hb, hml, hown, hts⟩ (y_touches l dC dI q h0 d k z f hI c0 hc0 nu2 kd2 cn2 pa2 fa2 rs2 hs2 n2 g2 R2 hpa2 hps2 h12 h62 hcb2 hpl2 b_20 it_21 (Rm ((nI i) : Int32).toNatClampNeg 0) (Rm ((nI i) : Int32).toNatClampNeg 1) (Rm ((nI i) : Int32).toNatClampNeg 2) (Rm ((nI i) : Int32).toNatClampNeg 3) (Rm ((nI i) : Int32).toNatClampNeg 4) hp_23 p1) (va_cwU 2 hts gX4_meets_X4_touches_u48X10 rfl rfl rfl rfl zu_36 ⟨Nat.le_trans (Nat.le_of_ble_eq_true rfl) hRf, Nat.le_trans (Nat.le_of_ble_eq_true rfl) hRl⟩) ⟨px_fb, va_recv hK hP (ci := 9) (q0 := kk_118) rfl hk_119, fun U hU hW => ⟨rfl, px_to hU hW hP hK hN hXN⟩⟩ rfl rfl hl.1 rfl (lv_room (Nat.le_of_ble_eq_true rfl)) dX4_meets_35 ⟨hRc, hRs⟩).run (fun r hw => kC r hw)
set_option maxHeartbeats 4000000 in
set_option maxRecDepth 100000 in
theorem y_meets (l : Launch) (dC : Nat → ClassId) (dI : Nat → Nat → Nat) (q : Nat → ClassId) (h0 : Nat) (d : Nat → Nat) (k : Nat → Int32) (z : gS) (f : xF) (hI : xI q h0 d k z f) (a0 : Nat) (ha0 : itm z a0) (nu kd cn : Int32) (pa fa : Nat) (rs : List Value) (hs : f a0 = .inr (ciT (z.2 a0).1, itF nu kd pa cn fa rs)) (n : Nat) (g : Nat → Option Nat) (Rm : Nat → Nat → Int32) (hpa : tg z pa 16) (hps : f pa = aR (q 5) n g) (h1 : 1 ≤ n) (h6 : n ≤ 6) (hcb : bw cn 0 (nI n) = true) (hpl : pcL z g cn.toNatClampNeg Rm) (c0 : Nat) (hc0 : itm z c0) (nu2 kd2 cn2 : Int32) (pa2 fa2 : Nat) (rs2 : List Value) (hs2 : f c0 = .inr (ciT (z.2 c0).1, itF nu2 kd2 pa2 cn2 fa2 rs2)) (n2 : Nat) (g2 : Nat → Option Nat) (R2 : Nat → Nat → Int32) (hpa2 : tg z pa2 16) (hps2 : f pa2 = aR (q 5) n2 g2) (h12 : 1 ≤ n2) (h62 : n2 ≤ 6) (hcb2 : bw cn2 0 (nI n2) = true) (hpl2 : pcL z g2 cn2.toNatClampNeg R2) (p0 p1 : Int32) : Met l yX4_meets wsX4_meets ({ frames := 2, cells := 0, slots := 0, locals := 45 }) (va_Pc [.ref a0, .ref c0, .int p0, .int p1] (PX dC dI (va_pl z.1 f) (xT q))) (vp_Si (fun r => r = bP (∃ j, j < cn.toNatClampNeg ∧ s_mt Rm R2 cn2 p0 p1 j))) 0 0 (fun _ => False) := by
  refine Met.ofW (cc := cX4_meets) (maxL := 5) (ret := (some .boolean)) (by decide) rfl ?_
  intro p e s m args below meth c s₁ B hml hv
  obtain ⟨rfl, ⟨hP, hK, hN⟩, hXN⟩ := hv
  have hx := B.exec
  have hb := B.bytes
  have hr := B.returns
  have hts := atoms_spec (ws := wsX4_meets) B.pre
  have hown : s.vm.findClass RX4 = some m.cls := findClass_of_methodNamed B.named
  have hlocks := B.notSynchronized
  have hl := lv_entry ([.ref a0, .ref c0, .int p0, .int p1]) (n := 5) (Nat.le_of_ble_eq_true rfl)
  rw [lg_entry_eq]
  generalize (lg_sl ([.ref a0, .ref c0, .int p0, .int p1]) ++ List.replicate (5 - (lg_sl ([.ref a0, .ref c0, .int p0, .int p1])).length) Slot.unset).toArray = ls at hl ⊢
  have hl : lv_has ls 5 [(0, .ref a0), (1, .ref c0), (2, .int p0), (3, .int p1)] := hl
  refine lv_iconst (v := 0) hx hb dX4_meets_0 (by decide) ?_
  refine lv_istore (lv' := [(4, .int 0), (0, .ref a0), (1, .ref c0), (2, .int p0), (3, .int p1)]) hx hb dX4_meets_1 hl (by decide) rfl (fun ls hl => ?_)
  obtain ⟨K, hK1, -, eK⟩ := exN hcb (by decide)
  rw [nI_toInt (by omega)] at hK1
  subst eK
  have hplK : pcL z g K Rm := by rw [nI_clamp (by omega)] at hpl; exact hpl
  refine y_meets_l hI hx hb hml hts hown hN hXN hK (Nat.le_of_ble_eq_true rfl) (Nat.le_of_ble_eq_true rfl) (Nat.le_of_ble_eq_true rfl) (Nat.le_of_ble_eq_true rfl) hP ha0 hs hpa hps (by omega) h6 hplK hc0 hs2 hpa2 hps2 h12 h62 hcb2 hpl2 (fun ls hh hl => ?_) (fun ls hh hl => ?_) (K + 1) 0 ls (Nat.zero_le _) (by omega) (fun j hj => absurd hj (Nat.not_lt_zero _)) (lv_sub hl [0, 1, 2, 3, 4] rfl)
  ·
    refine lv_iconst (v := 0) hx hb dX4_meets_49 (by decide) ?_
    exact W.zret (v := 0) hx hb hr (by decide) (fun t ht hW => ⟨_, rfl, (bP_f (fun h => by obtain ⟨j, hj, h9⟩ := h; rw [nI_clamp (by omega)] at hj; exact hh j hj h9)).symm, ht⟩) (fun q h => absurd h List.not_mem_nil) dX4_meets_50
  ·
    refine lv_iconst (v := 1) hx hb dX4_meets_41 (by decide) ?_
    exact W.zret (v := 1) hx hb hr (by decide) (fun t ht hW => ⟨_, rfl, (bP_t (by obtain ⟨j, hj, h9⟩ := hh; exact ⟨j, by rw [nI_clamp (by omega)]; exact hj, h9⟩)).symm, ht⟩) (fun q h => absurd h List.not_mem_nil) dX4_meets_42
set_option maxHeartbeats 4000000 in
set_option maxRecDepth 100000 in
theorem y_signN (l : Launch) (dC : Nat → ClassId) (dI : Nat → Nat → Nat) (q : Nat → ClassId) (h0 : Nat) (d : Nat → Nat) (k : Nat → Int32) (z : gS) (f : xF) (hI : xI q h0 d k z f) (a0 : Nat) (P X Y D N : Int32) (hpa : pcS z a0 none P X Y D N) : Met l yX8_sign wsX8_sign ({ frames := 0, cells := 0, slots := 0, locals := 0 }) (va_Pc [.ref a0] (PX dC dI (va_pl z.1 f) (xT q))) (vp_Si (fun r => r = 100)) 0 0 (fun _ => False) := by
  refine Met.ofW (cc := cX8_sign) (maxL := 1) (ret := (some .int)) (by decide) rfl ?_
  intro p e s m args below meth c s₁ B hml hv
  obtain ⟨rfl, ⟨hP, hK, hN⟩, hXN⟩ := hv
  have hx := B.exec
  have hb := B.bytes
  have hr := B.returns
  have hts := atoms_spec (ws := wsX8_sign) B.pre
  have hown : s.vm.findClass RX8 = some m.cls := findClass_of_methodNamed B.named
  have hlocks := B.notSynchronized
  have hl := lv_entry ([.ref a0]) (n := 1) (Nat.le_of_ble_eq_true rfl)
  rw [lg_entry_eq]
  generalize (lg_sl ([.ref a0]) ++ List.replicate (1 - (lg_sl ([.ref a0])).length) Slot.unset).toArray = ls at hl ⊢
  have hl : lv_has ls 1 [(0, .ref a0)] := hl
  refine lv_aload_n hx hb dX8_sign_0 rfl (lv_at hl 0 rfl) ?_
  obtain ⟨kk_1, hk_2⟩ := pl_at hpa.1.1 (x_pcF hI hpa)
  refine va_get (D := (dC, dI)) (ci := 7) (v := .null) (C := RX8) (T := TX8) (N := 6) hx hb hts zl_X8_sign_X8 hown hK hP kk_1 hk_2 rfl 0 (by decide) (hts (.fieldLink RX8 9 "PageOne$Piece" "item" "LPageOne$Item;") (zat q_wsX8_sign k_wsX8_sign 315 rfl (by decide +kernel))) (fun _ h9 => h9) rfl dX8_sign_1 ?_
  refine lv_ifnonnullN hx hb dX8_sign_4 ?_
  refine lv_bipush (v := 100) hx hb dX8_sign_7 (by decide) ?_
  refine lv_goto (tgt := 19) hx hb dX8_sign_9 (by decide) ?_
  exact W.iret (v := 100) hx hb hr (fun t ht hW => ⟨_, rfl, rfl, ht⟩) (fun q h => absurd h List.not_mem_nil) dX8_sign_19
set_option maxHeartbeats 4000000 in
set_option maxRecDepth 100000 in
theorem y_signS (l : Launch) (dC : Nat → ClassId) (dI : Nat → Nat → Nat) (q : Nat → ClassId) (h0 : Nat) (d : Nat → Nat) (k : Nat → Int32) (z : gS) (f : xF) (hI : xI q h0 d k z f) (a0 c0 : Nat) (P X Y D N : Int32) (hpa : pcS z a0 (some c0) P X Y D N) (hc0 : itm z c0) (nu2 kd2 cn2 : Int32) (pa2 fa2 : Nat) (rs2 : List Value) (hs2 : f c0 = .inr (ciT (z.2 c0).1, itF nu2 kd2 pa2 cn2 fa2 rs2)) : Met l yX8_sign wsX8_sign ({ frames := 0, cells := 0, slots := 0, locals := 0 }) (va_Pc [.ref a0] (PX dC dI (va_pl z.1 f) (xT q))) (vp_Si (fun r => r = nu2)) 0 0 (fun _ => False) := by
  refine Met.ofW (cc := cX8_sign) (maxL := 1) (ret := (some .int)) (by decide) rfl ?_
  intro p e s m args below meth c s₁ B hml hv
  obtain ⟨rfl, ⟨hP, hK, hN⟩, hXN⟩ := hv
  have hx := B.exec
  have hb := B.bytes
  have hr := B.returns
  have hts := atoms_spec (ws := wsX8_sign) B.pre
  have hown : s.vm.findClass RX8 = some m.cls := findClass_of_methodNamed B.named
  have hlocks := B.notSynchronized
  have hl := lv_entry ([.ref a0]) (n := 1) (Nat.le_of_ble_eq_true rfl)
  rw [lg_entry_eq]
  generalize (lg_sl ([.ref a0]) ++ List.replicate (1 - (lg_sl ([.ref a0])).length) Slot.unset).toArray = ls at hl ⊢
  have hl : lv_has ls 1 [(0, .ref a0)] := hl
  refine lv_aload_n hx hb dX8_sign_0 rfl (lv_at hl 0 rfl) ?_
  obtain ⟨kk_1, hk_2⟩ := pl_at hpa.1.1 (x_pcF hI hpa)
  refine va_get (D := (dC, dI)) (ci := 7) (v := .ref c0) (C := RX8) (T := TX8) (N := 6) hx hb hts zl_X8_sign_X8 hown hK hP kk_1 hk_2 rfl 0 (by decide) (hts (.fieldLink RX8 9 "PageOne$Piece" "item" "LPageOne$Item;") (zat q_wsX8_sign k_wsX8_sign 315 rfl (by decide +kernel))) (fun _ h9 => h9) rfl dX8_sign_1 ?_
  refine lv_ifnonnull (tgt := 12) hx hb dX8_sign_4 (by decide) ?_
  refine lv_aload_n hx hb dX8_sign_12 rfl (lv_at hl 0 rfl) ?_
  obtain ⟨kk_3, hk_4⟩ := pl_at hpa.1.1 (x_pcF hI hpa)
  refine va_get (D := (dC, dI)) (ci := 7) (v := .ref c0) (C := RX8) (T := TX8) (N := 6) hx hb hts zl_X8_sign_X8 hown hK hP kk_3 hk_4 rfl 0 (by decide) (hts (.fieldLink RX8 9 "PageOne$Piece" "item" "LPageOne$Item;") (zat q_wsX8_sign k_wsX8_sign 315 rfl (by decide +kernel))) (fun _ h9 => h9) rfl dX8_sign_13 ?_
  obtain ⟨kk_5, hk_6⟩ := pl_at hc0.1 hs2
  refine w_then (F0 m 19 ls [.int nu2]) (fun hgo => ?_) ?_
  ·
    rcases x_tag hc0 with ht9 | ht9 | ht9 | ht9 | ht9 | ht9
    ·
      rw [ht9.2] at hk_6
      exact va_get (D := (dC, dI)) (ci := 2) (v := .int nu2) (C := RX2) (T := TX2) (N := 7) hx hb hts zl_X8_sign_X2 hown hK hP kk_5 hk_6 rfl 0 (by decide) (hts (.fieldLink RX8 31 "PageOne$Item" "number" "I") (zat q_wsX8_sign k_wsX8_sign 182 rfl (by decide +kernel))) (fun _ h9 => h9) rfl dX8_sign_16 hgo
    ·
      rw [ht9.2] at hk_6
      exact va_get (D := (dC, dI)) (ci := 3) (v := .int nu2) (C := RX3) (T := TX3) (N := 8) hx hb hts zl_X8_sign_X3 hown hK hP kk_5 hk_6 rfl 0 (by decide) (hts (.fieldLink RX8 31 "PageOne$Item" "number" "I") (zat q_wsX8_sign k_wsX8_sign 182 rfl (by decide +kernel))) (fun _ h9 => h9) rfl dX8_sign_16 hgo
    ·
      rw [ht9.2] at hk_6
      exact va_get (D := (dC, dI)) (ci := 4) (v := .int nu2) (C := RX5) (T := TX5) (N := 7) hx hb hts zl_X8_sign_X5 hown hK hP kk_5 hk_6 rfl 0 (by decide) (hts (.fieldLink RX8 31 "PageOne$Item" "number" "I") (zat q_wsX8_sign k_wsX8_sign 182 rfl (by decide +kernel))) (fun _ h9 => h9) rfl dX8_sign_16 hgo
    ·
      rw [ht9.2] at hk_6
      exact va_get (D := (dC, dI)) (ci := 5) (v := .int nu2) (C := RX6) (T := TX6) (N := 9) hx hb hts zl_X8_sign_X6 hown hK hP kk_5 hk_6 rfl 0 (by decide) (hts (.fieldLink RX8 31 "PageOne$Item" "number" "I") (zat q_wsX8_sign k_wsX8_sign 182 rfl (by decide +kernel))) (fun _ h9 => h9) rfl dX8_sign_16 hgo
    ·
      rw [ht9.2] at hk_6
      exact va_get (D := (dC, dI)) (ci := 6) (v := .int nu2) (C := RX7) (T := TX7) (N := 8) hx hb hts zl_X8_sign_X7 hown hK hP kk_5 hk_6 rfl 0 (by decide) (hts (.fieldLink RX8 31 "PageOne$Item" "number" "I") (zat q_wsX8_sign k_wsX8_sign 182 rfl (by decide +kernel))) (fun _ h9 => h9) rfl dX8_sign_16 hgo
    ·
      rw [ht9.2] at hk_6
      exact va_get (D := (dC, dI)) (ci := 9) (v := .int nu2) (C := RX10) (T := TX10) (N := 9) hx hb hts zl_X8_sign_X10 hown hK hP kk_5 hk_6 rfl 0 (by decide) (hts (.fieldLink RX8 31 "PageOne$Item" "number" "I") (zat q_wsX8_sign k_wsX8_sign 182 rfl (by decide +kernel))) (fun _ h9 => h9) rfl dX8_sign_16 hgo
  ·
    exact W.iret (v := nu2) hx hb hr (fun t ht hW => ⟨_, rfl, rfl, ht⟩) (fun q h => absurd h List.not_mem_nil) dX8_sign_19
theorem itm_ne {z : gS} {a b t : Nat} (ha : itm z a) (hb : tg z b t) (h : ¬ (10 ≤ t ∧ t ≤ 15)) : a ≠ b := fun e => by have := ha.2; rw [e, hb.2] at this; exact h this
theorem bP_n {P : Prop} (h : ¬ bP P = 0) : P := Classical.byContradiction (fun hn => h (bP_f hn))
theorem roomN {cn : Int32} {n : Nat} (h : cn < nI n) : ¬ nI n ≤ cn := fun h2 => by rw [i32_le] at h2; rw [i32_lt] at h; omega
noncomputable def s_gain_f (q : Nat → ClassId) (z : gS) (f : xF) (a0 pa fa b0 n : Nat) (nu kd cn : Int32) (rs : List Value) (g : Nat → Option Nat) : xF := if (bP (cn < nI n)) = 0 then f else (va_up (va_up f pa (aR (q 5) n (va_up g (cn : Int32).toNatClampNeg (some b0)))) a0 (.inr (ciT (z.2 a0).1, itF nu kd pa (cn + 1) fa rs)))
set_option maxHeartbeats 4000000 in
set_option maxRecDepth 100000 in
theorem y_gain (l : Launch) (dC : Nat → ClassId) (dI : Nat → Nat → Nat) (q : Nat → ClassId) (h0 : Nat) (d : Nat → Nat) (k : Nat → Int32) (z : gS) (f : xF) (hI : xI q h0 d k z f) (a0 : Nat) (ha0 : itm z a0) (nu kd cn : Int32) (pa fa : Nat) (rs : List Value) (hs : f a0 = .inr (ciT (z.2 a0).1, itF nu kd pa cn fa rs)) (n : Nat) (g : Nat → Option Nat) (hpa : tg z pa 16) (hps : f pa = aR (q 5) n g) (h1 : 1 ≤ n) (h6 : n ≤ 6) (hcb : bw cn 0 (nI n) = true) (hnn : ∀ j, j < cn.toNatClampNeg → ∃ b, g j = some b) (hlg : ∀ j, j < n → ∀ b, g j = some b → lgP z b) (b0 : Nat) (hb0 : lgP z b0) (sz : Nat) : Met l yX4_gain wsX4_gain ({ frames := 1, cells := 0, slots := 0, locals := 20 }) (va_Pc [.ref a0, .ref b0] (fun U => U.heap.size = sz ∧ PX dC dI (va_pl z.1 f) (xT q) U ∧ va_D (fun _ => True) (va_pl z.1 f))) (va_Qv (fun (w : xU) => w.1 = k ∧ w.2.1 = z ∧ xI q h0 d k z w.2.2 ∧ w.2.2 = s_gain_f q z f a0 pa fa b0 n nu kd cn rs g) (fun (w : xU) t => va_P (dC, dI) vwCl (va_pl w.2.1.1 w.2.2) t.heap ∧ va_D (va_A (va_pl z.1 f) sz) (va_pl w.2.1.1 w.2.2)) (va_A (va_pl z.1 f) sz)) 0 0 (va_A (va_pl z.1 f) sz) := by
  refine Met.ofW (cc := cX4_gain) (maxL := 2) (ret := none) (by decide) rfl ?_
  intro p e s m args below meth c s₁ B hml hv
  obtain ⟨rfl, hsz, ⟨⟨hP, hK, hN⟩, hXN⟩, hD0⟩ := hv
  have hx := B.exec
  have hb := B.bytes
  have hr := B.returns
  have hts := atoms_spec (ws := wsX4_gain) B.pre
  have hown : s.vm.findClass RX4 = some m.cls := findClass_of_methodNamed B.named
  have hlocks := B.notSynchronized
  subst hsz
  have hD := hD0.self (sz := s.heap.size)
  generalize hAe : va_A (va_pl z.1 f) s.heap.size = A at hD ⊢
  have hA : ∀ q : Nat, s.heap.size ≤ q → A q := fun q h => by rw [← hAe]; exact Or.inr h
  have hS : va_S A s.heap s.heap [] := va_S.rf
  have hl := lv_entry ([.ref a0, .ref b0]) (n := 2) (Nat.le_of_ble_eq_true rfl)
  rw [lg_entry_eq]
  generalize (lg_sl ([.ref a0, .ref b0]) ++ List.replicate (2 - (lg_sl ([.ref a0, .ref b0])).length) Slot.unset).toArray = ls at hl ⊢
  have hl : lv_has ls 2 [(0, .ref a0), (1, .ref b0)] := hl
  refine lv_aload_n hx hb dX4_gain_0 rfl (lv_at hl 0 rfl) ?_
  refine w_cut (X := fun R cells slots Q args => ∀ r : Int32, (r = (bP (cn < nI n))) → W p l e R s m args below meth c s.heap [] cells slots Q (F0 m 4 ls (.int r :: []))) ?_ (fun kC => ?_)
  ·
    intro r hw
    obtain rfl : r = (bP (cn < nI n)) := hw
    refine lv_if_eq (tgt := 27) hx hb dX4_gain_4 (by decide) (fun c_96 => ?_) (fun c_96 => ?_)
    ·
      exact W.vret hx hb hr (fun t ht hW => ⟨⟨(k, z, f), rfl, ⟨rfl, rfl, hI, (by show f = _; unfold s_gain_f; rw [if_pos c_96])⟩, by rw [ht]; exact hP, hD⟩, hS.F ht⟩) hS.2.2 dX4_gain_27
    ·
      refine lv_aload_n hx hb dX4_gain_7 rfl (lv_at hl 0 rfl) ?_
      obtain ⟨kk_97, hk_98⟩ := pl_at ha0.1 hs
      refine w_then (F0 m 11 ls [.ref pa]) (fun hgo => ?_) ?_
      ·
        rcases x_tag ha0 with ht9 | ht9 | ht9 | ht9 | ht9 | ht9
        ·
          rw [ht9.2] at hk_98
          exact va_get (D := (dC, dI)) (ci := 2) (v := .ref pa) (C := RX2) (T := TX2) (N := 7) hx hb hts zl_X4_gain_X2 hown hK hP kk_97 hk_98 rfl 2 (by decide) (hts (.fieldLink RX4 31 "PageOne$Item" "pieces" "[LPageOne$Piece;") (zat q_wsX4_gain k_wsX4_gain 190 rfl (by decide +kernel))) (fun _ h9 => h9) rfl dX4_gain_8 hgo
        ·
          rw [ht9.2] at hk_98
          exact va_get (D := (dC, dI)) (ci := 3) (v := .ref pa) (C := RX3) (T := TX3) (N := 8) hx hb hts zl_X4_gain_X3 hown hK hP kk_97 hk_98 rfl 2 (by decide) (hts (.fieldLink RX4 31 "PageOne$Item" "pieces" "[LPageOne$Piece;") (zat q_wsX4_gain k_wsX4_gain 190 rfl (by decide +kernel))) (fun _ h9 => h9) rfl dX4_gain_8 hgo
        ·
          rw [ht9.2] at hk_98
          exact va_get (D := (dC, dI)) (ci := 4) (v := .ref pa) (C := RX5) (T := TX5) (N := 7) hx hb hts zl_X4_gain_X5 hown hK hP kk_97 hk_98 rfl 2 (by decide) (hts (.fieldLink RX4 31 "PageOne$Item" "pieces" "[LPageOne$Piece;") (zat q_wsX4_gain k_wsX4_gain 190 rfl (by decide +kernel))) (fun _ h9 => h9) rfl dX4_gain_8 hgo
        ·
          rw [ht9.2] at hk_98
          exact va_get (D := (dC, dI)) (ci := 5) (v := .ref pa) (C := RX6) (T := TX6) (N := 9) hx hb hts zl_X4_gain_X6 hown hK hP kk_97 hk_98 rfl 2 (by decide) (hts (.fieldLink RX4 31 "PageOne$Item" "pieces" "[LPageOne$Piece;") (zat q_wsX4_gain k_wsX4_gain 190 rfl (by decide +kernel))) (fun _ h9 => h9) rfl dX4_gain_8 hgo
        ·
          rw [ht9.2] at hk_98
          exact va_get (D := (dC, dI)) (ci := 6) (v := .ref pa) (C := RX7) (T := TX7) (N := 8) hx hb hts zl_X4_gain_X7 hown hK hP kk_97 hk_98 rfl 2 (by decide) (hts (.fieldLink RX4 31 "PageOne$Item" "pieces" "[LPageOne$Piece;") (zat q_wsX4_gain k_wsX4_gain 190 rfl (by decide +kernel))) (fun _ h9 => h9) rfl dX4_gain_8 hgo
        ·
          rw [ht9.2] at hk_98
          exact va_get (D := (dC, dI)) (ci := 9) (v := .ref pa) (C := RX10) (T := TX10) (N := 9) hx hb hts zl_X4_gain_X10 hown hK hP kk_97 hk_98 rfl 2 (by decide) (hts (.fieldLink RX4 31 "PageOne$Item" "pieces" "[LPageOne$Piece;") (zat q_wsX4_gain k_wsX4_gain 190 rfl (by decide +kernel))) (fun _ h9 => h9) rfl dX4_gain_8 hgo
      ·
        refine lv_aload_n hx hb dX4_gain_11 rfl (lv_at hl 0 rfl) ?_
        obtain ⟨kk_99, hk_100⟩ := pl_at ha0.1 hs
        refine w_then (F0 m 15 ls [.int cn, .ref pa]) (fun hgo => ?_) ?_
        ·
          rcases x_tag ha0 with ht9 | ht9 | ht9 | ht9 | ht9 | ht9
          ·
            rw [ht9.2] at hk_100
            exact va_get (D := (dC, dI)) (ci := 2) (v := .int cn) (C := RX2) (T := TX2) (N := 7) hx hb hts zl_X4_gain_X2 hown hK hP kk_99 hk_100 rfl 3 (by decide) (hts (.fieldLink RX4 9 "PageOne$Item" "count" "I") (zat q_wsX4_gain k_wsX4_gain 194 rfl (by decide +kernel))) (fun _ h9 => h9) rfl dX4_gain_12 hgo
          ·
            rw [ht9.2] at hk_100
            exact va_get (D := (dC, dI)) (ci := 3) (v := .int cn) (C := RX3) (T := TX3) (N := 8) hx hb hts zl_X4_gain_X3 hown hK hP kk_99 hk_100 rfl 3 (by decide) (hts (.fieldLink RX4 9 "PageOne$Item" "count" "I") (zat q_wsX4_gain k_wsX4_gain 194 rfl (by decide +kernel))) (fun _ h9 => h9) rfl dX4_gain_12 hgo
          ·
            rw [ht9.2] at hk_100
            exact va_get (D := (dC, dI)) (ci := 4) (v := .int cn) (C := RX5) (T := TX5) (N := 7) hx hb hts zl_X4_gain_X5 hown hK hP kk_99 hk_100 rfl 3 (by decide) (hts (.fieldLink RX4 9 "PageOne$Item" "count" "I") (zat q_wsX4_gain k_wsX4_gain 194 rfl (by decide +kernel))) (fun _ h9 => h9) rfl dX4_gain_12 hgo
          ·
            rw [ht9.2] at hk_100
            exact va_get (D := (dC, dI)) (ci := 5) (v := .int cn) (C := RX6) (T := TX6) (N := 9) hx hb hts zl_X4_gain_X6 hown hK hP kk_99 hk_100 rfl 3 (by decide) (hts (.fieldLink RX4 9 "PageOne$Item" "count" "I") (zat q_wsX4_gain k_wsX4_gain 194 rfl (by decide +kernel))) (fun _ h9 => h9) rfl dX4_gain_12 hgo
          ·
            rw [ht9.2] at hk_100
            exact va_get (D := (dC, dI)) (ci := 6) (v := .int cn) (C := RX7) (T := TX7) (N := 8) hx hb hts zl_X4_gain_X7 hown hK hP kk_99 hk_100 rfl 3 (by decide) (hts (.fieldLink RX4 9 "PageOne$Item" "count" "I") (zat q_wsX4_gain k_wsX4_gain 194 rfl (by decide +kernel))) (fun _ h9 => h9) rfl dX4_gain_12 hgo
          ·
            rw [ht9.2] at hk_100
            exact va_get (D := (dC, dI)) (ci := 9) (v := .int cn) (C := RX10) (T := TX10) (N := 9) hx hb hts zl_X4_gain_X10 hown hK hP kk_99 hk_100 rfl 3 (by decide) (hts (.fieldLink RX4 9 "PageOne$Item" "count" "I") (zat q_wsX4_gain k_wsX4_gain 194 rfl (by decide +kernel))) (fun _ h9 => h9) rfl dX4_gain_12 hgo
        ·
          refine lv_aload_n hx hb dX4_gain_15 rfl (lv_at hl 1 rfl) ?_
          obtain ⟨kk_101, hk_102⟩ := pl_at hpa.1 hps
          have hcp := hb0
          obtain ⟨it_103, P_104, X_105, Y_106, D_107, N_108, hp_109, hb_110, hb_111, hb_112, hb_113⟩ := hcp
          obtain ⟨kk_114, hk_115⟩ := pl_at hp_109.1.1 (x_pcF hI hp_109)
          have hD0 := hD
          refine va_astq hx hb hK hP hD hS kk_101 5 kk_114 7 hk_102 rfl hk_115 rfl (vcn h6 hcb (roomN (bP_n c_96))) dX4_gain_16 (fun H locs hP hD hS => ?_)
          rw [pl_set hD0 hpa.1 hps hk_102] at hP hD
          obtain ⟨f_116, ef_116⟩ : ∃ y : xF, y = va_up f pa (aR (q 5) n (va_up g (cn : Int32).toNatClampNeg (some b0))) := ⟨_, rfl⟩
          have hI : xI q h0 d k z f_116 := by rw [ef_116]; exact x_upP hI ha0 hs hps (x_pan hI ha0 hpa) hcb (nn_up hnn (Nat.le_refl _)) (ty_up hlg (ty_s hb0))
          have hP : va_P (dC, dI) vwCl (va_pl z.1 f_116) H := by rw [ef_116]; exact hP
          have hD : va_D A (va_pl z.1 f_116) := by rw [ef_116]; exact hD
          have hs_117 : f_116 a0 = .inr (ciT (z.2 a0).1, itF nu kd pa cn fa rs) := by rw [ef_116, up_o (itm_ne ha0 hpa (by decide))]; exact hs
          have hs_118 : f_116 pa = aR (q 5) n (va_up g (cn : Int32).toNatClampNeg (some b0)) := by rw [ef_116]; exact up_s
          have hs_119 : f_116 a0 = .inr (ciT (z.2 a0).1, itF nu kd pa cn fa rs) := by rw [ef_116, up_o (fun e => (x_pan hI ha0 hpa) e.symm)]; exact hs
          refine lv_aload_n hx hb dX4_gain_17 rfl (lv_at hl 0 rfl) ?_
          refine lv_dup hx hb dX4_gain_18 rfl ?_
          obtain ⟨kk_120, hk_121⟩ := pl_at ha0.1 hs_119
          refine w_then (F0 m 22 ls [.int cn, .ref a0]) (fun hgo => ?_) ?_
          ·
            rcases x_tag ha0 with ht9 | ht9 | ht9 | ht9 | ht9 | ht9
            ·
              rw [ht9.2] at hk_121
              exact va_get (D := (dC, dI)) (ci := 2) (v := .int cn) (C := RX2) (T := TX2) (N := 7) hx hb hts zl_X4_gain_X2 hown hK hP kk_120 hk_121 rfl 3 (by decide) (hts (.fieldLink RX4 9 "PageOne$Item" "count" "I") (zat q_wsX4_gain k_wsX4_gain 194 rfl (by decide +kernel))) (fun _ h9 => h9) rfl dX4_gain_19 hgo
            ·
              rw [ht9.2] at hk_121
              exact va_get (D := (dC, dI)) (ci := 3) (v := .int cn) (C := RX3) (T := TX3) (N := 8) hx hb hts zl_X4_gain_X3 hown hK hP kk_120 hk_121 rfl 3 (by decide) (hts (.fieldLink RX4 9 "PageOne$Item" "count" "I") (zat q_wsX4_gain k_wsX4_gain 194 rfl (by decide +kernel))) (fun _ h9 => h9) rfl dX4_gain_19 hgo
            ·
              rw [ht9.2] at hk_121
              exact va_get (D := (dC, dI)) (ci := 4) (v := .int cn) (C := RX5) (T := TX5) (N := 7) hx hb hts zl_X4_gain_X5 hown hK hP kk_120 hk_121 rfl 3 (by decide) (hts (.fieldLink RX4 9 "PageOne$Item" "count" "I") (zat q_wsX4_gain k_wsX4_gain 194 rfl (by decide +kernel))) (fun _ h9 => h9) rfl dX4_gain_19 hgo
            ·
              rw [ht9.2] at hk_121
              exact va_get (D := (dC, dI)) (ci := 5) (v := .int cn) (C := RX6) (T := TX6) (N := 9) hx hb hts zl_X4_gain_X6 hown hK hP kk_120 hk_121 rfl 3 (by decide) (hts (.fieldLink RX4 9 "PageOne$Item" "count" "I") (zat q_wsX4_gain k_wsX4_gain 194 rfl (by decide +kernel))) (fun _ h9 => h9) rfl dX4_gain_19 hgo
            ·
              rw [ht9.2] at hk_121
              exact va_get (D := (dC, dI)) (ci := 6) (v := .int cn) (C := RX7) (T := TX7) (N := 8) hx hb hts zl_X4_gain_X7 hown hK hP kk_120 hk_121 rfl 3 (by decide) (hts (.fieldLink RX4 9 "PageOne$Item" "count" "I") (zat q_wsX4_gain k_wsX4_gain 194 rfl (by decide +kernel))) (fun _ h9 => h9) rfl dX4_gain_19 hgo
            ·
              rw [ht9.2] at hk_121
              exact va_get (D := (dC, dI)) (ci := 9) (v := .int cn) (C := RX10) (T := TX10) (N := 9) hx hb hts zl_X4_gain_X10 hown hK hP kk_120 hk_121 rfl 3 (by decide) (hts (.fieldLink RX4 9 "PageOne$Item" "count" "I") (zat q_wsX4_gain k_wsX4_gain 194 rfl (by decide +kernel))) (fun _ h9 => h9) rfl dX4_gain_19 hgo
          ·
            refine lv_iconst (v := 1) hx hb dX4_gain_22 (by decide) ?_
            refine lv_iadd hx hb dX4_gain_23 ?_
            refine lv_topi (fun x_122 ex_122 => ?_)
            obtain ⟨kk_123, hk_124⟩ := pl_at ha0.1 hs_119
            have hD0 := hD
            refine w_cut (X := fun R cells slots Q args => ∀ (H : Heap) (locs : List Loc), va_P (dC, dI) vwCl (va_pl z.1 (va_up f_116 a0 (.inr (ciT (z.2 a0).1, itF nu kd pa x_122 fa rs)))) H → va_D A (va_pl z.1 (va_up f_116 a0 (.inr (ciT (z.2 a0).1, itF nu kd pa x_122 fa rs)))) → va_S A s.heap H locs → W p l e R s m args below meth c H locs cells slots Q (F0 m 27 ls [])) ?_ (fun kC => ?_)
            ·
              intro H locs hP hD hS
              obtain ⟨f_125, ef_125⟩ : ∃ y : xF, y = va_up f_116 a0 (.inr (ciT (z.2 a0).1, itF nu kd pa x_122 fa rs)) := ⟨_, rfl⟩
              have hI : xI q h0 d k z f_125 := by rw [ef_125]; exact x_upC hI ha0 hs_119 hs_118 (bcn1 h6 hcb (roomN (bP_n c_96)) ex_122).1 (by rw [(bcn1 h6 hcb (roomN (bP_n c_96)) ex_122).2]; exact nn_up1 hnn) (ty_up hlg (ty_s hb0))
              have hP : va_P (dC, dI) vwCl (va_pl z.1 f_125) H := by rw [ef_125]; exact hP
              have hD : va_D A (va_pl z.1 f_125) := by rw [ef_125]; exact hD
              have hff_125 : f_125 a0 = .inr (ciT (z.2 a0).1, itF nu kd pa x_122 fa rs) := by rw [ef_125]; exact up_s
              have hs_126 : f_125 pa = aR (q 5) n (va_up g (cn : Int32).toNatClampNeg (some b0)) := by rw [ef_125, up_o (x_pan hI ha0 hpa)]; exact hs_118
              exact W.vret hx hb hr (fun t ht hW => ⟨⟨(k, z, f_125), rfl, ⟨rfl, rfl, hI, (by show f_125 = _; rw [ef_125, ef_116, ex_122]; unfold s_gain_f; rw [if_neg c_96])⟩, by rw [ht]; exact hP, hD⟩, hS.F ht⟩) hS.2.2 dX4_gain_27
            ·
              have hk8 := hk_124
              rcases x_tag ha0 with ht9 | ht9 | ht9 | ht9 | ht9 | ht9
              ·
                rw [ht9.2] at hk_124
                refine va_put (D := (dC, dI)) (ci := 2) (v := .int x_122) (ty := .int) (C := RX2) (T := TX2) (N := 7) hx hb hts zl_X4_gain_X2 tyX2 tyX2_ok nmX2 hown hK hP hD hS kk_123 hk_124 rfl 3 (by decide) (hts (.fieldLink RX4 9 "PageOne$Item" "count" "I") (zat q_wsX4_gain k_wsX4_gain 194 rfl (by decide +kernel))) (fun _ h9 => h9) rfl (tyX2_ok 3 (by decide)) rfl rfl (by unfold itF; simp only [List.length_cons]; omega) dX4_gain_24 (fun H locs hP hD hS => kC H locs ?_ ?_ hS)
                · rw [← pl_set (e := .inr (ciT (z.2 a0).1, itF nu kd pa x_122 fa rs)) hD0 ha0.1 hs_119 hk8, ht9.2]; exact hP
                · rw [← pl_set (e := .inr (ciT (z.2 a0).1, itF nu kd pa x_122 fa rs)) hD0 ha0.1 hs_119 hk8, ht9.2]; exact hD
              ·
                rw [ht9.2] at hk_124
                refine va_put (D := (dC, dI)) (ci := 3) (v := .int x_122) (ty := .int) (C := RX3) (T := TX3) (N := 8) hx hb hts zl_X4_gain_X3 tyX3 tyX3_ok nmX3 hown hK hP hD hS kk_123 hk_124 rfl 3 (by decide) (hts (.fieldLink RX4 9 "PageOne$Item" "count" "I") (zat q_wsX4_gain k_wsX4_gain 194 rfl (by decide +kernel))) (fun _ h9 => h9) rfl (tyX3_ok 3 (by decide)) rfl rfl (by unfold itF; simp only [List.length_cons]; omega) dX4_gain_24 (fun H locs hP hD hS => kC H locs ?_ ?_ hS)
                · rw [← pl_set (e := .inr (ciT (z.2 a0).1, itF nu kd pa x_122 fa rs)) hD0 ha0.1 hs_119 hk8, ht9.2]; exact hP
                · rw [← pl_set (e := .inr (ciT (z.2 a0).1, itF nu kd pa x_122 fa rs)) hD0 ha0.1 hs_119 hk8, ht9.2]; exact hD
              ·
                rw [ht9.2] at hk_124
                refine va_put (D := (dC, dI)) (ci := 4) (v := .int x_122) (ty := .int) (C := RX5) (T := TX5) (N := 7) hx hb hts zl_X4_gain_X5 tyX5 tyX5_ok nmX5 hown hK hP hD hS kk_123 hk_124 rfl 3 (by decide) (hts (.fieldLink RX4 9 "PageOne$Item" "count" "I") (zat q_wsX4_gain k_wsX4_gain 194 rfl (by decide +kernel))) (fun _ h9 => h9) rfl (tyX5_ok 3 (by decide)) rfl rfl (by unfold itF; simp only [List.length_cons]; omega) dX4_gain_24 (fun H locs hP hD hS => kC H locs ?_ ?_ hS)
                · rw [← pl_set (e := .inr (ciT (z.2 a0).1, itF nu kd pa x_122 fa rs)) hD0 ha0.1 hs_119 hk8, ht9.2]; exact hP
                · rw [← pl_set (e := .inr (ciT (z.2 a0).1, itF nu kd pa x_122 fa rs)) hD0 ha0.1 hs_119 hk8, ht9.2]; exact hD
              ·
                rw [ht9.2] at hk_124
                refine va_put (D := (dC, dI)) (ci := 5) (v := .int x_122) (ty := .int) (C := RX6) (T := TX6) (N := 9) hx hb hts zl_X4_gain_X6 tyX6 tyX6_ok nmX6 hown hK hP hD hS kk_123 hk_124 rfl 3 (by decide) (hts (.fieldLink RX4 9 "PageOne$Item" "count" "I") (zat q_wsX4_gain k_wsX4_gain 194 rfl (by decide +kernel))) (fun _ h9 => h9) rfl (tyX6_ok 3 (by decide)) rfl rfl (by unfold itF; simp only [List.length_cons]; omega) dX4_gain_24 (fun H locs hP hD hS => kC H locs ?_ ?_ hS)
                · rw [← pl_set (e := .inr (ciT (z.2 a0).1, itF nu kd pa x_122 fa rs)) hD0 ha0.1 hs_119 hk8, ht9.2]; exact hP
                · rw [← pl_set (e := .inr (ciT (z.2 a0).1, itF nu kd pa x_122 fa rs)) hD0 ha0.1 hs_119 hk8, ht9.2]; exact hD
              ·
                rw [ht9.2] at hk_124
                refine va_put (D := (dC, dI)) (ci := 6) (v := .int x_122) (ty := .int) (C := RX7) (T := TX7) (N := 8) hx hb hts zl_X4_gain_X7 tyX7 tyX7_ok nmX7 hown hK hP hD hS kk_123 hk_124 rfl 3 (by decide) (hts (.fieldLink RX4 9 "PageOne$Item" "count" "I") (zat q_wsX4_gain k_wsX4_gain 194 rfl (by decide +kernel))) (fun _ h9 => h9) rfl (tyX7_ok 3 (by decide)) rfl rfl (by unfold itF; simp only [List.length_cons]; omega) dX4_gain_24 (fun H locs hP hD hS => kC H locs ?_ ?_ hS)
                · rw [← pl_set (e := .inr (ciT (z.2 a0).1, itF nu kd pa x_122 fa rs)) hD0 ha0.1 hs_119 hk8, ht9.2]; exact hP
                · rw [← pl_set (e := .inr (ciT (z.2 a0).1, itF nu kd pa x_122 fa rs)) hD0 ha0.1 hs_119 hk8, ht9.2]; exact hD
              ·
                rw [ht9.2] at hk_124
                refine va_put (D := (dC, dI)) (ci := 9) (v := .int x_122) (ty := .int) (C := RX10) (T := TX10) (N := 9) hx hb hts zl_X4_gain_X10 tyX10 tyX10_ok nmX10 hown hK hP hD hS kk_123 hk_124 rfl 3 (by decide) (hts (.fieldLink RX4 9 "PageOne$Item" "count" "I") (zat q_wsX4_gain k_wsX4_gain 194 rfl (by decide +kernel))) (fun _ h9 => h9) rfl (tyX10_ok 3 (by decide)) rfl rfl (by unfold itF; simp only [List.length_cons]; omega) dX4_gain_24 (fun H locs hP hD hS => kC H locs ?_ ?_ hS)
                · rw [← pl_set (e := .inr (ciT (z.2 a0).1, itF nu kd pa x_122 fa rs)) hD0 ha0.1 hs_119 hk8, ht9.2]; exact hP
                · rw [← pl_set (e := .inr (ciT (z.2 a0).1, itF nu kd pa x_122 fa rs)) hD0 ha0.1 hs_119 hk8, ht9.2]; exact hD
  ·
    rcases x_tag ha0 with ht9 | ht9 | ht9 | ht9 | ht9 | ht9
    ·
      obtain ⟨nu_1, kd_2, cn_3, pa_4, fa_5, l_6, m_7, hs_8, hs_9, hs_10, hs_11⟩ := x_ifl hI ht9
      obtain ⟨kk_12, hk_13⟩ := pl_at ht9.1 hs_8
      exact vp_callSi (va_runU (As := []) (rest := []) ⟨hx, hb, hml, hown, hts⟩ (y_hasRoom l dC dI q h0 d k z f hI a0 ha0 nu kd cn pa fa rs hs n g hps hpa) (va_cwU 0 hts gX4_gain_X4_hasRoom_u41X2 rfl rfl rfl rfl zu_33 ⟨Nat.le_of_ble_eq_true rfl, Nat.le_of_ble_eq_true rfl⟩) ⟨px_fb, va_recv hK hP (ci := 2) (q0 := kk_12) rfl hk_13, fun U hU hW => ⟨rfl, px_to hU hW hP hK hN hXN⟩⟩ rfl rfl hl.1 rfl (lv_room (Nat.le_of_ble_eq_true rfl)) dX4_gain_1 ⟨Nat.le_of_ble_eq_true rfl, Nat.le_of_ble_eq_true rfl⟩).run (fun r hw => kC r hw)
    ·
      obtain ⟨nu_14, kd_15, cn_16, pa_17, fa_18, o_19, w_20, y_21, hs_22, hs_23, hs_24, hs_25, hq_26⟩ := x_ihd hI ht9
      obtain ⟨kk_27, hk_28⟩ := pl_at ht9.1 hs_22
      exact vp_callSi (va_runU (As := []) (rest := []) ⟨hx, hb, hml, hown, hts⟩ (y_hasRoom l dC dI q h0 d k z f hI a0 ha0 nu kd cn pa fa rs hs n g hps hpa) (va_cwU 0 hts gX4_gain_X4_hasRoom_u41X3 rfl rfl rfl rfl zu_33 ⟨Nat.le_of_ble_eq_true rfl, Nat.le_of_ble_eq_true rfl⟩) ⟨px_fb, va_recv hK hP (ci := 3) (q0 := kk_27) rfl hk_28, fun U hU hW => ⟨rfl, px_to hU hW hP hK hN hXN⟩⟩ rfl rfl hl.1 rfl (lv_room (Nat.le_of_ble_eq_true rfl)) dX4_gain_1 ⟨Nat.le_of_ble_eq_true rfl, Nat.le_of_ble_eq_true rfl⟩).run (fun r hw => kC r hw)
    ·
      obtain ⟨nu_29, kd_30, cn_31, pa_32, fa_33, o_34, y_35, hs_36, hs_37, hs_38, hs_39, hq_40⟩ := x_ino hI ht9
      obtain ⟨kk_41, hk_42⟩ := pl_at ht9.1 hs_36
      exact vp_callSi (va_runU (As := []) (rest := []) ⟨hx, hb, hml, hown, hts⟩ (y_hasRoom l dC dI q h0 d k z f hI a0 ha0 nu kd cn pa fa rs hs n g hps hpa) (va_cwU 0 hts gX4_gain_X4_hasRoom_u41X5 rfl rfl rfl rfl zu_33 ⟨Nat.le_of_ble_eq_true rfl, Nat.le_of_ble_eq_true rfl⟩) ⟨px_fb, va_recv hK hP (ci := 4) (q0 := kk_41) rfl hk_42, fun U hU hW => ⟨rfl, px_to hU hW hP hK hN hXN⟩⟩ rfl rfl hl.1 rfl (lv_room (Nat.le_of_ble_eq_true rfl)) dX4_gain_1 ⟨Nat.le_of_ble_eq_true rfl, Nat.le_of_ble_eq_true rfl⟩).run (fun r hw => kC r hw)
    ·
      obtain ⟨nu_43, kd_44, cn_45, pa_46, fa_47, b_48, pr_49, sp_50, dy_51, hs_52, hs_53, hs_54, hs_55, hq_56, hq_57, hq_58⟩ := x_ipd hI ht9
      obtain ⟨kk_59, hk_60⟩ := pl_at ht9.1 hs_52
      exact vp_callSi (va_runU (As := []) (rest := []) ⟨hx, hb, hml, hown, hts⟩ (y_hasRoom l dC dI q h0 d k z f hI a0 ha0 nu kd cn pa fa rs hs n g hps hpa) (va_cwU 0 hts gX4_gain_X4_hasRoom_u41X6 rfl rfl rfl rfl zu_33 ⟨Nat.le_of_ble_eq_true rfl, Nat.le_of_ble_eq_true rfl⟩) ⟨px_fb, va_recv hK hP (ci := 5) (q0 := kk_59) rfl hk_60, fun U hU hW => ⟨rfl, px_to hU hW hP hK hN hXN⟩⟩ rfl rfl hl.1 rfl (lv_room (Nat.le_of_ble_eq_true rfl)) dX4_gain_1 ⟨Nat.le_of_ble_eq_true rfl, Nat.le_of_ble_eq_true rfl⟩).run (fun r hw => kC r hw)
    ·
      obtain ⟨nu_61, kd_62, cn_63, pa_64, fa_65, ww_66, hh_67, sz_68, hs_69, hs_70, hs_71, hs_72, hq_73, hq_74, hq_75⟩ := x_ipi hI ht9
      obtain ⟨kk_76, hk_77⟩ := pl_at ht9.1 hs_69
      exact vp_callSi (va_runU (As := []) (rest := []) ⟨hx, hb, hml, hown, hts⟩ (y_hasRoom l dC dI q h0 d k z f hI a0 ha0 nu kd cn pa fa rs hs n g hps hpa) (va_cwU 0 hts gX4_gain_X4_hasRoom_u41X7 rfl rfl rfl rfl zu_33 ⟨Nat.le_of_ble_eq_true rfl, Nat.le_of_ble_eq_true rfl⟩) ⟨px_fb, va_recv hK hP (ci := 6) (q0 := kk_76) rfl hk_77, fun U hU hW => ⟨rfl, px_to hU hW hP hK hN hXN⟩⟩ rfl rfl hl.1 rfl (lv_room (Nat.le_of_ble_eq_true rfl)) dX4_gain_1 ⟨Nat.le_of_ble_eq_true rfl, Nat.le_of_ble_eq_true rfl⟩).run (fun r hw => kC r hw)
    ·
      obtain ⟨nu_78, kd_79, cn_80, pa_81, fa_82, l_83, co_84, wd_85, nm_86, hs_87, hs_88, hs_89, hs_90, hq_91, hq_92, hq_93⟩ := x_ist hI ht9
      obtain ⟨kk_94, hk_95⟩ := pl_at ht9.1 hs_87
      exact vp_callSi (va_runU (As := []) (rest := []) ⟨hx, hb, hml, hown, hts⟩ (y_hasRoom l dC dI q h0 d k z f hI a0 ha0 nu kd cn pa fa rs hs n g hps hpa) (va_cwU 0 hts gX4_gain_X4_hasRoom_u41X10 rfl rfl rfl rfl zu_33 ⟨Nat.le_of_ble_eq_true rfl, Nat.le_of_ble_eq_true rfl⟩) ⟨px_fb, va_recv hK hP (ci := 9) (q0 := kk_94) rfl hk_95, fun U hU hW => ⟨rfl, px_to hU hW hP hK hN hXN⟩⟩ rfl rfl hl.1 rfl (lv_room (Nat.le_of_ble_eq_true rfl)) dX4_gain_1 ⟨Nat.le_of_ble_eq_true rfl, Nat.le_of_ble_eq_true rfl⟩).run (fun r hw => kC r hw)
noncomputable def s_lose_f (q : Nat → ClassId) (z : gS) (f : xF) (a0 pa fa n : Nat) (nu kd cn : Int32) (rs : List Value) (g : Nat → Option Nat) : xF := if cn ≤ 0 then f else (va_up (va_up f a0 (.inr (ciT (z.2 a0).1, itF nu kd pa (cn - 1) fa rs))) pa (aR (q 5) n (va_up g ((cn - 1) : Int32).toNatClampNeg none)))
set_option maxHeartbeats 4000000 in
set_option maxRecDepth 100000 in
theorem y_loseLast (l : Launch) (dC : Nat → ClassId) (dI : Nat → Nat → Nat) (q : Nat → ClassId) (h0 : Nat) (d : Nat → Nat) (k : Nat → Int32) (z : gS) (f : xF) (hI : xI q h0 d k z f) (a0 : Nat) (ha0 : itm z a0) (nu kd cn : Int32) (pa fa : Nat) (rs : List Value) (hs : f a0 = .inr (ciT (z.2 a0).1, itF nu kd pa cn fa rs)) (n : Nat) (g : Nat → Option Nat) (hpa : tg z pa 16) (hps : f pa = aR (q 5) n g) (h1 : 1 ≤ n) (h6 : n ≤ 6) (hcb : bw cn 0 (nI n) = true) (hnn : ∀ j, j < cn.toNatClampNeg → ∃ b, g j = some b) (hlg : ∀ j, j < n → ∀ b, g j = some b → lgP z b) (sz : Nat) : Met l yX4_loseLast wsX4_loseLast ({ frames := 0, cells := 0, slots := 0, locals := 0 }) (va_Pc [.ref a0] (fun U => U.heap.size = sz ∧ PX dC dI (va_pl z.1 f) (xT q) U ∧ va_D (fun _ => True) (va_pl z.1 f))) (va_Qv (fun (w : xU) => w.1 = k ∧ w.2.1 = z ∧ xI q h0 d k z w.2.2 ∧ w.2.2 = s_lose_f q z f a0 pa fa n nu kd cn rs g) (fun (w : xU) t => va_P (dC, dI) vwCl (va_pl w.2.1.1 w.2.2) t.heap ∧ va_D (va_A (va_pl z.1 f) sz) (va_pl w.2.1.1 w.2.2)) (va_A (va_pl z.1 f) sz)) 0 0 (va_A (va_pl z.1 f) sz) := by
  refine Met.ofW (cc := cX4_loseLast) (maxL := 1) (ret := none) (by decide) rfl ?_
  intro p e s m args below meth c s₁ B hml hv
  obtain ⟨rfl, hsz, ⟨⟨hP, hK, hN⟩, hXN⟩, hD0⟩ := hv
  have hx := B.exec
  have hb := B.bytes
  have hr := B.returns
  have hts := atoms_spec (ws := wsX4_loseLast) B.pre
  have hown : s.vm.findClass RX4 = some m.cls := findClass_of_methodNamed B.named
  have hlocks := B.notSynchronized
  subst hsz
  have hD := hD0.self (sz := s.heap.size)
  generalize hAe : va_A (va_pl z.1 f) s.heap.size = A at hD ⊢
  have hA : ∀ q : Nat, s.heap.size ≤ q → A q := fun q h => by rw [← hAe]; exact Or.inr h
  have hS : va_S A s.heap s.heap [] := va_S.rf
  have hl := lv_entry ([.ref a0]) (n := 1) (Nat.le_of_ble_eq_true rfl)
  rw [lg_entry_eq]
  generalize (lg_sl ([.ref a0]) ++ List.replicate (1 - (lg_sl ([.ref a0])).length) Slot.unset).toArray = ls at hl ⊢
  have hl : lv_has ls 1 [(0, .ref a0)] := hl
  refine lv_aload_n hx hb dX4_loseLast_0 rfl (lv_at hl 0 rfl) ?_
  obtain ⟨kk_1, hk_2⟩ := pl_at ha0.1 hs
  refine w_then (F0 m 4 ls [.int cn]) (fun hgo => ?_) ?_
  ·
    rcases x_tag ha0 with ht9 | ht9 | ht9 | ht9 | ht9 | ht9
    ·
      rw [ht9.2] at hk_2
      exact va_get (D := (dC, dI)) (ci := 2) (v := .int cn) (C := RX2) (T := TX2) (N := 7) hx hb hts zl_X4_loseLast_X2 hown hK hP kk_1 hk_2 rfl 3 (by decide) (hts (.fieldLink RX4 9 "PageOne$Item" "count" "I") (zat q_wsX4_loseLast k_wsX4_loseLast 194 rfl (by decide +kernel))) (fun _ h9 => h9) rfl dX4_loseLast_1 hgo
    ·
      rw [ht9.2] at hk_2
      exact va_get (D := (dC, dI)) (ci := 3) (v := .int cn) (C := RX3) (T := TX3) (N := 8) hx hb hts zl_X4_loseLast_X3 hown hK hP kk_1 hk_2 rfl 3 (by decide) (hts (.fieldLink RX4 9 "PageOne$Item" "count" "I") (zat q_wsX4_loseLast k_wsX4_loseLast 194 rfl (by decide +kernel))) (fun _ h9 => h9) rfl dX4_loseLast_1 hgo
    ·
      rw [ht9.2] at hk_2
      exact va_get (D := (dC, dI)) (ci := 4) (v := .int cn) (C := RX5) (T := TX5) (N := 7) hx hb hts zl_X4_loseLast_X5 hown hK hP kk_1 hk_2 rfl 3 (by decide) (hts (.fieldLink RX4 9 "PageOne$Item" "count" "I") (zat q_wsX4_loseLast k_wsX4_loseLast 194 rfl (by decide +kernel))) (fun _ h9 => h9) rfl dX4_loseLast_1 hgo
    ·
      rw [ht9.2] at hk_2
      exact va_get (D := (dC, dI)) (ci := 5) (v := .int cn) (C := RX6) (T := TX6) (N := 9) hx hb hts zl_X4_loseLast_X6 hown hK hP kk_1 hk_2 rfl 3 (by decide) (hts (.fieldLink RX4 9 "PageOne$Item" "count" "I") (zat q_wsX4_loseLast k_wsX4_loseLast 194 rfl (by decide +kernel))) (fun _ h9 => h9) rfl dX4_loseLast_1 hgo
    ·
      rw [ht9.2] at hk_2
      exact va_get (D := (dC, dI)) (ci := 6) (v := .int cn) (C := RX7) (T := TX7) (N := 8) hx hb hts zl_X4_loseLast_X7 hown hK hP kk_1 hk_2 rfl 3 (by decide) (hts (.fieldLink RX4 9 "PageOne$Item" "count" "I") (zat q_wsX4_loseLast k_wsX4_loseLast 194 rfl (by decide +kernel))) (fun _ h9 => h9) rfl dX4_loseLast_1 hgo
    ·
      rw [ht9.2] at hk_2
      exact va_get (D := (dC, dI)) (ci := 9) (v := .int cn) (C := RX10) (T := TX10) (N := 9) hx hb hts zl_X4_loseLast_X10 hown hK hP kk_1 hk_2 rfl 3 (by decide) (hts (.fieldLink RX4 9 "PageOne$Item" "count" "I") (zat q_wsX4_loseLast k_wsX4_loseLast 194 rfl (by decide +kernel))) (fun _ h9 => h9) rfl dX4_loseLast_1 hgo
  ·
    refine lv_if_le (tgt := 27) hx hb dX4_loseLast_4 (by decide) (fun c_3 => ?_) (fun c_3 => ?_)
    ·
      exact W.vret hx hb hr (fun t ht hW => ⟨⟨(k, z, f), rfl, ⟨rfl, rfl, hI, (by show f = _; unfold s_lose_f; rw [if_pos c_3])⟩, by rw [ht]; exact hP, hD⟩, hS.F ht⟩) hS.2.2 dX4_loseLast_27
    ·
      refine lv_aload_n hx hb dX4_loseLast_7 rfl (lv_at hl 0 rfl) ?_
      refine lv_dup hx hb dX4_loseLast_8 rfl ?_
      obtain ⟨kk_4, hk_5⟩ := pl_at ha0.1 hs
      refine w_then (F0 m 12 ls [.int cn, .ref a0]) (fun hgo => ?_) ?_
      ·
        rcases x_tag ha0 with ht9 | ht9 | ht9 | ht9 | ht9 | ht9
        ·
          rw [ht9.2] at hk_5
          exact va_get (D := (dC, dI)) (ci := 2) (v := .int cn) (C := RX2) (T := TX2) (N := 7) hx hb hts zl_X4_loseLast_X2 hown hK hP kk_4 hk_5 rfl 3 (by decide) (hts (.fieldLink RX4 9 "PageOne$Item" "count" "I") (zat q_wsX4_loseLast k_wsX4_loseLast 194 rfl (by decide +kernel))) (fun _ h9 => h9) rfl dX4_loseLast_9 hgo
        ·
          rw [ht9.2] at hk_5
          exact va_get (D := (dC, dI)) (ci := 3) (v := .int cn) (C := RX3) (T := TX3) (N := 8) hx hb hts zl_X4_loseLast_X3 hown hK hP kk_4 hk_5 rfl 3 (by decide) (hts (.fieldLink RX4 9 "PageOne$Item" "count" "I") (zat q_wsX4_loseLast k_wsX4_loseLast 194 rfl (by decide +kernel))) (fun _ h9 => h9) rfl dX4_loseLast_9 hgo
        ·
          rw [ht9.2] at hk_5
          exact va_get (D := (dC, dI)) (ci := 4) (v := .int cn) (C := RX5) (T := TX5) (N := 7) hx hb hts zl_X4_loseLast_X5 hown hK hP kk_4 hk_5 rfl 3 (by decide) (hts (.fieldLink RX4 9 "PageOne$Item" "count" "I") (zat q_wsX4_loseLast k_wsX4_loseLast 194 rfl (by decide +kernel))) (fun _ h9 => h9) rfl dX4_loseLast_9 hgo
        ·
          rw [ht9.2] at hk_5
          exact va_get (D := (dC, dI)) (ci := 5) (v := .int cn) (C := RX6) (T := TX6) (N := 9) hx hb hts zl_X4_loseLast_X6 hown hK hP kk_4 hk_5 rfl 3 (by decide) (hts (.fieldLink RX4 9 "PageOne$Item" "count" "I") (zat q_wsX4_loseLast k_wsX4_loseLast 194 rfl (by decide +kernel))) (fun _ h9 => h9) rfl dX4_loseLast_9 hgo
        ·
          rw [ht9.2] at hk_5
          exact va_get (D := (dC, dI)) (ci := 6) (v := .int cn) (C := RX7) (T := TX7) (N := 8) hx hb hts zl_X4_loseLast_X7 hown hK hP kk_4 hk_5 rfl 3 (by decide) (hts (.fieldLink RX4 9 "PageOne$Item" "count" "I") (zat q_wsX4_loseLast k_wsX4_loseLast 194 rfl (by decide +kernel))) (fun _ h9 => h9) rfl dX4_loseLast_9 hgo
        ·
          rw [ht9.2] at hk_5
          exact va_get (D := (dC, dI)) (ci := 9) (v := .int cn) (C := RX10) (T := TX10) (N := 9) hx hb hts zl_X4_loseLast_X10 hown hK hP kk_4 hk_5 rfl 3 (by decide) (hts (.fieldLink RX4 9 "PageOne$Item" "count" "I") (zat q_wsX4_loseLast k_wsX4_loseLast 194 rfl (by decide +kernel))) (fun _ h9 => h9) rfl dX4_loseLast_9 hgo
      ·
        refine lv_iconst (v := 1) hx hb dX4_loseLast_12 (by decide) ?_
        refine lv_isub hx hb dX4_loseLast_13 ?_
        refine lv_topi (fun x_6 ex_6 => ?_)
        obtain ⟨kk_7, hk_8⟩ := pl_at ha0.1 hs
        have hD0 := hD
        refine w_cut (X := fun R cells slots Q args => ∀ (H : Heap) (locs : List Loc), va_P (dC, dI) vwCl (va_pl z.1 (va_up f a0 (.inr (ciT (z.2 a0).1, itF nu kd pa x_6 fa rs)))) H → va_D A (va_pl z.1 (va_up f a0 (.inr (ciT (z.2 a0).1, itF nu kd pa x_6 fa rs)))) → va_S A s.heap H locs → W p l e R s m args below meth c H locs cells slots Q (F0 m 17 ls [])) ?_ (fun kC => ?_)
        ·
          intro H locs hP hD hS
          obtain ⟨f_9, ef_9⟩ : ∃ y : xF, y = va_up f a0 (.inr (ciT (z.2 a0).1, itF nu kd pa x_6 fa rs)) := ⟨_, rfl⟩
          have hI : xI q h0 d k z f_9 := by rw [ef_9]; exact x_upC hI ha0 hs hps (bcm1 h6 hcb c_3 ex_6).1 (fun j hj => hnn j (by have := (bcm1 h6 hcb c_3 ex_6).2.1; omega)) hlg
          have hP : va_P (dC, dI) vwCl (va_pl z.1 f_9) H := by rw [ef_9]; exact hP
          have hD : va_D A (va_pl z.1 f_9) := by rw [ef_9]; exact hD
          have hff_9 : f_9 a0 = .inr (ciT (z.2 a0).1, itF nu kd pa x_6 fa rs) := by rw [ef_9]; exact up_s
          have hs_10 : f_9 pa = aR (q 5) n g := by rw [ef_9, up_o (x_pan hI ha0 hpa)]; exact hps
          refine lv_aload_n hx hb dX4_loseLast_17 rfl (lv_at hl 0 rfl) ?_
          obtain ⟨kk_11, hk_12⟩ := pl_at ha0.1 hff_9
          refine w_then (F0 m 21 ls [.ref pa]) (fun hgo => ?_) ?_
          ·
            rcases x_tag ha0 with ht9 | ht9 | ht9 | ht9 | ht9 | ht9
            ·
              rw [ht9.2] at hk_12
              exact va_get (D := (dC, dI)) (ci := 2) (v := .ref pa) (C := RX2) (T := TX2) (N := 7) hx hb hts zl_X4_loseLast_X2 hown hK hP kk_11 hk_12 rfl 2 (by decide) (hts (.fieldLink RX4 31 "PageOne$Item" "pieces" "[LPageOne$Piece;") (zat q_wsX4_loseLast k_wsX4_loseLast 190 rfl (by decide +kernel))) (fun _ h9 => h9) rfl dX4_loseLast_18 hgo
            ·
              rw [ht9.2] at hk_12
              exact va_get (D := (dC, dI)) (ci := 3) (v := .ref pa) (C := RX3) (T := TX3) (N := 8) hx hb hts zl_X4_loseLast_X3 hown hK hP kk_11 hk_12 rfl 2 (by decide) (hts (.fieldLink RX4 31 "PageOne$Item" "pieces" "[LPageOne$Piece;") (zat q_wsX4_loseLast k_wsX4_loseLast 190 rfl (by decide +kernel))) (fun _ h9 => h9) rfl dX4_loseLast_18 hgo
            ·
              rw [ht9.2] at hk_12
              exact va_get (D := (dC, dI)) (ci := 4) (v := .ref pa) (C := RX5) (T := TX5) (N := 7) hx hb hts zl_X4_loseLast_X5 hown hK hP kk_11 hk_12 rfl 2 (by decide) (hts (.fieldLink RX4 31 "PageOne$Item" "pieces" "[LPageOne$Piece;") (zat q_wsX4_loseLast k_wsX4_loseLast 190 rfl (by decide +kernel))) (fun _ h9 => h9) rfl dX4_loseLast_18 hgo
            ·
              rw [ht9.2] at hk_12
              exact va_get (D := (dC, dI)) (ci := 5) (v := .ref pa) (C := RX6) (T := TX6) (N := 9) hx hb hts zl_X4_loseLast_X6 hown hK hP kk_11 hk_12 rfl 2 (by decide) (hts (.fieldLink RX4 31 "PageOne$Item" "pieces" "[LPageOne$Piece;") (zat q_wsX4_loseLast k_wsX4_loseLast 190 rfl (by decide +kernel))) (fun _ h9 => h9) rfl dX4_loseLast_18 hgo
            ·
              rw [ht9.2] at hk_12
              exact va_get (D := (dC, dI)) (ci := 6) (v := .ref pa) (C := RX7) (T := TX7) (N := 8) hx hb hts zl_X4_loseLast_X7 hown hK hP kk_11 hk_12 rfl 2 (by decide) (hts (.fieldLink RX4 31 "PageOne$Item" "pieces" "[LPageOne$Piece;") (zat q_wsX4_loseLast k_wsX4_loseLast 190 rfl (by decide +kernel))) (fun _ h9 => h9) rfl dX4_loseLast_18 hgo
            ·
              rw [ht9.2] at hk_12
              exact va_get (D := (dC, dI)) (ci := 9) (v := .ref pa) (C := RX10) (T := TX10) (N := 9) hx hb hts zl_X4_loseLast_X10 hown hK hP kk_11 hk_12 rfl 2 (by decide) (hts (.fieldLink RX4 31 "PageOne$Item" "pieces" "[LPageOne$Piece;") (zat q_wsX4_loseLast k_wsX4_loseLast 190 rfl (by decide +kernel))) (fun _ h9 => h9) rfl dX4_loseLast_18 hgo
          ·
            refine lv_aload_n hx hb dX4_loseLast_21 rfl (lv_at hl 0 rfl) ?_
            obtain ⟨kk_13, hk_14⟩ := pl_at ha0.1 hff_9
            refine w_then (F0 m 25 ls [.int x_6, .ref pa]) (fun hgo => ?_) ?_
            ·
              rcases x_tag ha0 with ht9 | ht9 | ht9 | ht9 | ht9 | ht9
              ·
                rw [ht9.2] at hk_14
                exact va_get (D := (dC, dI)) (ci := 2) (v := .int x_6) (C := RX2) (T := TX2) (N := 7) hx hb hts zl_X4_loseLast_X2 hown hK hP kk_13 hk_14 rfl 3 (by decide) (hts (.fieldLink RX4 9 "PageOne$Item" "count" "I") (zat q_wsX4_loseLast k_wsX4_loseLast 194 rfl (by decide +kernel))) (fun _ h9 => h9) rfl dX4_loseLast_22 hgo
              ·
                rw [ht9.2] at hk_14
                exact va_get (D := (dC, dI)) (ci := 3) (v := .int x_6) (C := RX3) (T := TX3) (N := 8) hx hb hts zl_X4_loseLast_X3 hown hK hP kk_13 hk_14 rfl 3 (by decide) (hts (.fieldLink RX4 9 "PageOne$Item" "count" "I") (zat q_wsX4_loseLast k_wsX4_loseLast 194 rfl (by decide +kernel))) (fun _ h9 => h9) rfl dX4_loseLast_22 hgo
              ·
                rw [ht9.2] at hk_14
                exact va_get (D := (dC, dI)) (ci := 4) (v := .int x_6) (C := RX5) (T := TX5) (N := 7) hx hb hts zl_X4_loseLast_X5 hown hK hP kk_13 hk_14 rfl 3 (by decide) (hts (.fieldLink RX4 9 "PageOne$Item" "count" "I") (zat q_wsX4_loseLast k_wsX4_loseLast 194 rfl (by decide +kernel))) (fun _ h9 => h9) rfl dX4_loseLast_22 hgo
              ·
                rw [ht9.2] at hk_14
                exact va_get (D := (dC, dI)) (ci := 5) (v := .int x_6) (C := RX6) (T := TX6) (N := 9) hx hb hts zl_X4_loseLast_X6 hown hK hP kk_13 hk_14 rfl 3 (by decide) (hts (.fieldLink RX4 9 "PageOne$Item" "count" "I") (zat q_wsX4_loseLast k_wsX4_loseLast 194 rfl (by decide +kernel))) (fun _ h9 => h9) rfl dX4_loseLast_22 hgo
              ·
                rw [ht9.2] at hk_14
                exact va_get (D := (dC, dI)) (ci := 6) (v := .int x_6) (C := RX7) (T := TX7) (N := 8) hx hb hts zl_X4_loseLast_X7 hown hK hP kk_13 hk_14 rfl 3 (by decide) (hts (.fieldLink RX4 9 "PageOne$Item" "count" "I") (zat q_wsX4_loseLast k_wsX4_loseLast 194 rfl (by decide +kernel))) (fun _ h9 => h9) rfl dX4_loseLast_22 hgo
              ·
                rw [ht9.2] at hk_14
                exact va_get (D := (dC, dI)) (ci := 9) (v := .int x_6) (C := RX10) (T := TX10) (N := 9) hx hb hts zl_X4_loseLast_X10 hown hK hP kk_13 hk_14 rfl 3 (by decide) (hts (.fieldLink RX4 9 "PageOne$Item" "count" "I") (zat q_wsX4_loseLast k_wsX4_loseLast 194 rfl (by decide +kernel))) (fun _ h9 => h9) rfl dX4_loseLast_22 hgo
            ·
              refine lv_null hx hb dX4_loseLast_25 ?_
              obtain ⟨kk_15, hk_16⟩ := pl_at hpa.1 hs_10
              have hD0 := hD
              refine va_astqN hx hb hK hP hD hS kk_15 5 hk_16 rfl (bcm1 h6 hcb c_3 ex_6).2.2 dX4_loseLast_26 (fun H locs hP hD hS => ?_)
              rw [pl_set hD0 hpa.1 hs_10 hk_16] at hP hD
              obtain ⟨f_17, ef_17⟩ : ∃ y : xF, y = va_up f_9 pa (aR (q 5) n (va_up g (x_6 : Int32).toNatClampNeg none)) := ⟨_, rfl⟩
              have hI : xI q h0 d k z f_17 := by rw [ef_17]; exact x_upP hI ha0 hff_9 hs_10 (x_pan hI ha0 hpa) (bcm1 h6 hcb c_3 ex_6).1 (nn_up (fun j hj => hnn j (by have := (bcm1 h6 hcb c_3 ex_6).2.1; omega)) (Nat.le_refl _)) (ty_up hlg ty_n)
              have hP : va_P (dC, dI) vwCl (va_pl z.1 f_17) H := by rw [ef_17]; exact hP
              have hD : va_D A (va_pl z.1 f_17) := by rw [ef_17]; exact hD
              have hs_18 : f_17 a0 = .inr (ciT (z.2 a0).1, itF nu kd pa x_6 fa rs) := by rw [ef_17, up_o (itm_ne ha0 hpa (by decide))]; exact hff_9
              have hs_19 : f_17 pa = aR (q 5) n (va_up g (x_6 : Int32).toNatClampNeg none) := by rw [ef_17]; exact up_s
              have hs_20 : f_17 a0 = .inr (ciT (z.2 a0).1, itF nu kd pa x_6 fa rs) := by rw [ef_17, up_o (fun e => (x_pan hI ha0 hpa) e.symm)]; exact hff_9
              exact W.vret hx hb hr (fun t ht hW => ⟨⟨(k, z, f_17), rfl, ⟨rfl, rfl, hI, (by show f_17 = _; rw [ef_17, ef_9, ex_6]; unfold s_lose_f; rw [if_neg c_3])⟩, by rw [ht]; exact hP, hD⟩, hS.F ht⟩) hS.2.2 dX4_loseLast_27
        ·
          have hk8 := hk_8
          rcases x_tag ha0 with ht9 | ht9 | ht9 | ht9 | ht9 | ht9
          ·
            rw [ht9.2] at hk_8
            refine va_put (D := (dC, dI)) (ci := 2) (v := .int x_6) (ty := .int) (C := RX2) (T := TX2) (N := 7) hx hb hts zl_X4_loseLast_X2 tyX2 tyX2_ok nmX2 hown hK hP hD hS kk_7 hk_8 rfl 3 (by decide) (hts (.fieldLink RX4 9 "PageOne$Item" "count" "I") (zat q_wsX4_loseLast k_wsX4_loseLast 194 rfl (by decide +kernel))) (fun _ h9 => h9) rfl (tyX2_ok 3 (by decide)) rfl rfl (by unfold itF; simp only [List.length_cons]; omega) dX4_loseLast_14 (fun H locs hP hD hS => kC H locs ?_ ?_ hS)
            · rw [← pl_set (e := .inr (ciT (z.2 a0).1, itF nu kd pa x_6 fa rs)) hD0 ha0.1 hs hk8, ht9.2]; exact hP
            · rw [← pl_set (e := .inr (ciT (z.2 a0).1, itF nu kd pa x_6 fa rs)) hD0 ha0.1 hs hk8, ht9.2]; exact hD
          ·
            rw [ht9.2] at hk_8
            refine va_put (D := (dC, dI)) (ci := 3) (v := .int x_6) (ty := .int) (C := RX3) (T := TX3) (N := 8) hx hb hts zl_X4_loseLast_X3 tyX3 tyX3_ok nmX3 hown hK hP hD hS kk_7 hk_8 rfl 3 (by decide) (hts (.fieldLink RX4 9 "PageOne$Item" "count" "I") (zat q_wsX4_loseLast k_wsX4_loseLast 194 rfl (by decide +kernel))) (fun _ h9 => h9) rfl (tyX3_ok 3 (by decide)) rfl rfl (by unfold itF; simp only [List.length_cons]; omega) dX4_loseLast_14 (fun H locs hP hD hS => kC H locs ?_ ?_ hS)
            · rw [← pl_set (e := .inr (ciT (z.2 a0).1, itF nu kd pa x_6 fa rs)) hD0 ha0.1 hs hk8, ht9.2]; exact hP
            · rw [← pl_set (e := .inr (ciT (z.2 a0).1, itF nu kd pa x_6 fa rs)) hD0 ha0.1 hs hk8, ht9.2]; exact hD
          ·
            rw [ht9.2] at hk_8
            refine va_put (D := (dC, dI)) (ci := 4) (v := .int x_6) (ty := .int) (C := RX5) (T := TX5) (N := 7) hx hb hts zl_X4_loseLast_X5 tyX5 tyX5_ok nmX5 hown hK hP hD hS kk_7 hk_8 rfl 3 (by decide) (hts (.fieldLink RX4 9 "PageOne$Item" "count" "I") (zat q_wsX4_loseLast k_wsX4_loseLast 194 rfl (by decide +kernel))) (fun _ h9 => h9) rfl (tyX5_ok 3 (by decide)) rfl rfl (by unfold itF; simp only [List.length_cons]; omega) dX4_loseLast_14 (fun H locs hP hD hS => kC H locs ?_ ?_ hS)
            · rw [← pl_set (e := .inr (ciT (z.2 a0).1, itF nu kd pa x_6 fa rs)) hD0 ha0.1 hs hk8, ht9.2]; exact hP
            · rw [← pl_set (e := .inr (ciT (z.2 a0).1, itF nu kd pa x_6 fa rs)) hD0 ha0.1 hs hk8, ht9.2]; exact hD
          ·
            rw [ht9.2] at hk_8
            refine va_put (D := (dC, dI)) (ci := 5) (v := .int x_6) (ty := .int) (C := RX6) (T := TX6) (N := 9) hx hb hts zl_X4_loseLast_X6 tyX6 tyX6_ok nmX6 hown hK hP hD hS kk_7 hk_8 rfl 3 (by decide) (hts (.fieldLink RX4 9 "PageOne$Item" "count" "I") (zat q_wsX4_loseLast k_wsX4_loseLast 194 rfl (by decide +kernel))) (fun _ h9 => h9) rfl (tyX6_ok 3 (by decide)) rfl rfl (by unfold itF; simp only [List.length_cons]; omega) dX4_loseLast_14 (fun H locs hP hD hS => kC H locs ?_ ?_ hS)
            · rw [← pl_set (e := .inr (ciT (z.2 a0).1, itF nu kd pa x_6 fa rs)) hD0 ha0.1 hs hk8, ht9.2]; exact hP
            · rw [← pl_set (e := .inr (ciT (z.2 a0).1, itF nu kd pa x_6 fa rs)) hD0 ha0.1 hs hk8, ht9.2]; exact hD
          ·
            rw [ht9.2] at hk_8
            refine va_put (D := (dC, dI)) (ci := 6) (v := .int x_6) (ty := .int) (C := RX7) (T := TX7) (N := 8) hx hb hts zl_X4_loseLast_X7 tyX7 tyX7_ok nmX7 hown hK hP hD hS kk_7 hk_8 rfl 3 (by decide) (hts (.fieldLink RX4 9 "PageOne$Item" "count" "I") (zat q_wsX4_loseLast k_wsX4_loseLast 194 rfl (by decide +kernel))) (fun _ h9 => h9) rfl (tyX7_ok 3 (by decide)) rfl rfl (by unfold itF; simp only [List.length_cons]; omega) dX4_loseLast_14 (fun H locs hP hD hS => kC H locs ?_ ?_ hS)
            · rw [← pl_set (e := .inr (ciT (z.2 a0).1, itF nu kd pa x_6 fa rs)) hD0 ha0.1 hs hk8, ht9.2]; exact hP
            · rw [← pl_set (e := .inr (ciT (z.2 a0).1, itF nu kd pa x_6 fa rs)) hD0 ha0.1 hs hk8, ht9.2]; exact hD
          ·
            rw [ht9.2] at hk_8
            refine va_put (D := (dC, dI)) (ci := 9) (v := .int x_6) (ty := .int) (C := RX10) (T := TX10) (N := 9) hx hb hts zl_X4_loseLast_X10 tyX10 tyX10_ok nmX10 hown hK hP hD hS kk_7 hk_8 rfl 3 (by decide) (hts (.fieldLink RX4 9 "PageOne$Item" "count" "I") (zat q_wsX4_loseLast k_wsX4_loseLast 194 rfl (by decide +kernel))) (fun _ h9 => h9) rfl (tyX10_ok 3 (by decide)) rfl rfl (by unfold itF; simp only [List.length_cons]; omega) dX4_loseLast_14 (fun H locs hP hD hS => kC H locs ?_ ?_ hS)
            · rw [← pl_set (e := .inr (ciT (z.2 a0).1, itF nu kd pa x_6 fa rs)) hD0 ha0.1 hs hk8, ht9.2]; exact hP
            · rw [← pl_set (e := .inr (ciT (z.2 a0).1, itF nu kd pa x_6 fa rs)) hD0 ha0.1 hs hk8, ht9.2]; exact hD
noncomputable def s_takeIn (p0 co : Int32) : Int32 := if co < 80 then (co + 1) else (-1)
noncomputable def s_takeIn_f (q : Nat → ClassId) (f : xF) (a0 pa fa wd nm : Nat) (p0 nu kd cn lz co : Int32) (gw : Nat → Int32) : xF := if co < 80 then (va_up (va_up f wd (aI (q 0) 80 (upd gw (co : Int32).toNatClampNeg p0))) a0 (.inr (9, [.int nu, .int kd, .ref pa, .int cn, .ref fa, .int lz, .ref wd, .int (co + 1), .ref nm]))) else f
set_option maxHeartbeats 4000000 in
set_option maxRecDepth 100000 in
theorem y_takeIn (l : Launch) (dC : Nat → ClassId) (dI : Nat → Nat → Nat) (q : Nat → ClassId) (h0 : Nat) (d : Nat → Nat) (k : Nat → Int32) (z : gS) (f : xF) (hI : xI q h0 d k z f) (a0 pa fa wd nm : Nat) (nu kd cn lz co : Int32) (ha0 : tg z a0 15) (hs : f a0 = .inr (9, [.int nu, .int kd, .ref pa, .int cn, .ref fa, .int lz, .ref wd, .int co, .ref nm])) (p0 : Int32) (gw : Nat → Int32) (hwd : tg z wd 18) (hwg : f wd = aI (q 0) 80 gw) (hnm : tg z nm 19) (hpa : tg z pa 16) (hfa : tg z fa 17) (hco : bw co 0 80 = true) (sz : Nat) : Met l yX10_takeIn wsX10_takeIn ({ frames := 0, cells := 0, slots := 0, locals := 0 }) (va_Pc [.ref a0, .int p0] (fun U => U.heap.size = sz ∧ PX dC dI (va_pl z.1 f) (xT q) U ∧ va_D (fun _ => True) (va_pl z.1 f))) (va_Qi (fun (r : Int32) (w : xU) => w.1 = k ∧ w.2.1 = z ∧ xI q h0 d k z w.2.2 ∧ r = s_takeIn p0 co ∧ w.2.2 = s_takeIn_f q f a0 pa fa wd nm p0 nu kd cn lz co gw) (fun (w : xU) t => va_P (dC, dI) vwCl (va_pl w.2.1.1 w.2.2) t.heap ∧ va_D (va_A (va_pl z.1 f) sz) (va_pl w.2.1.1 w.2.2)) (va_A (va_pl z.1 f) sz)) 0 0 (va_A (va_pl z.1 f) sz) := by
  refine Met.ofW (cc := cX10_takeIn) (maxL := 2) (ret := (some .int)) (by decide) rfl ?_
  intro p e s m args below meth c s₁ B hml hv
  obtain ⟨rfl, hsz, ⟨⟨hP, hK, hN⟩, hXN⟩, hD0⟩ := hv
  have hx := B.exec
  have hb := B.bytes
  have hr := B.returns
  have hts := atoms_spec (ws := wsX10_takeIn) B.pre
  have hown : s.vm.findClass RX10 = some m.cls := findClass_of_methodNamed B.named
  have hlocks := B.notSynchronized
  subst hsz
  have hD := hD0.self (sz := s.heap.size)
  generalize hAe : va_A (va_pl z.1 f) s.heap.size = A at hD ⊢
  have hA : ∀ q : Nat, s.heap.size ≤ q → A q := fun q h => by rw [← hAe]; exact Or.inr h
  have hS : va_S A s.heap s.heap [] := va_S.rf
  have hl := lv_entry ([.ref a0, .int p0]) (n := 2) (Nat.le_of_ble_eq_true rfl)
  rw [lg_entry_eq]
  generalize (lg_sl ([.ref a0, .int p0]) ++ List.replicate (2 - (lg_sl ([.ref a0, .int p0])).length) Slot.unset).toArray = ls at hl ⊢
  have hl : lv_has ls 2 [(0, .ref a0), (1, .int p0)] := hl
  refine lv_aload_n hx hb dX10_takeIn_0 rfl (lv_at hl 0 rfl) ?_
  obtain ⟨kk_1, hk_2⟩ := pl_at ha0.1 hs
  refine va_get (D := (dC, dI)) (ci := 9) (v := .int co) (C := RX10) (T := TX10) (N := 9) hx hb hts zl_X10_takeIn_X10 hown hK hP kk_1 hk_2 rfl 7 (by decide) (hts (.fieldLink RX10 15 "PageOne$Story" "come" "I") (zat q_wsX10_takeIn k_wsX10_takeIn 177 rfl (by decide +kernel))) (fun _ h9 => h9) rfl dX10_takeIn_1 ?_
  refine lv_bipush (v := 80) hx hb dX10_takeIn_4 (by decide) ?_
  refine lv_icmp_lt (tgt := 11) hx hb dX10_takeIn_6 (by decide) (fun c_3 => ?_) (fun c_3 => ?_)
  ·
    refine lv_aload_n hx hb dX10_takeIn_11 rfl (lv_at hl 0 rfl) ?_
    obtain ⟨kk_4, hk_5⟩ := pl_at ha0.1 hs
    refine va_get (D := (dC, dI)) (ci := 9) (v := .ref wd) (C := RX10) (T := TX10) (N := 9) hx hb hts zl_X10_takeIn_X10 hown hK hP kk_4 hk_5 rfl 6 (by decide) (hts (.fieldLink RX10 9 "PageOne$Story" "widths" "[I") (zat q_wsX10_takeIn k_wsX10_takeIn 176 rfl (by decide +kernel))) (fun _ h9 => h9) rfl dX10_takeIn_12 ?_
    refine lv_aload_n hx hb dX10_takeIn_15 rfl (lv_at hl 0 rfl) ?_
    obtain ⟨kk_6, hk_7⟩ := pl_at ha0.1 hs
    refine va_get (D := (dC, dI)) (ci := 9) (v := .int co) (C := RX10) (T := TX10) (N := 9) hx hb hts zl_X10_takeIn_X10 hown hK hP kk_6 hk_7 rfl 7 (by decide) (hts (.fieldLink RX10 15 "PageOne$Story" "come" "I") (zat q_wsX10_takeIn k_wsX10_takeIn 177 rfl (by decide +kernel))) (fun _ h9 => h9) rfl dX10_takeIn_16 ?_
    refine lv_iload_n hx hb dX10_takeIn_19 rfl (lv_at hl 1 rfl) ?_
    obtain ⟨kk_8, hk_9⟩ := pl_at hwd.1 hwg
    have hD0 := hD
    refine va_iast hx hb hK hP hD hS kk_8 0 hk_9 rfl (vltn (n := 80) hco c_3 rfl (by decide)).1 dX10_takeIn_20 (fun H locs hP hD hS => ?_)
    rw [pl_set hD0 hwd.1 hwg hk_9] at hP hD
    obtain ⟨f_10, ef_10⟩ : ∃ y : xF, y = va_up f wd (aI (q 0) 80 (upd gw (co : Int32).toNatClampNeg p0)) := ⟨_, rfl⟩
    have hI : xI q h0 d k z f_10 := by rw [ef_10]; exact x_up hI hwd (by decide) (cO_18 hwd.2 ⟨_, rfl⟩)
    have hP : va_P (dC, dI) vwCl (va_pl z.1 f_10) H := by rw [ef_10]; exact hP
    have hD : va_D A (va_pl z.1 f_10) := by rw [ef_10]; exact hD
    have hs_11 : f_10 a0 = .inr (9, [.int nu, .int kd, .ref pa, .int cn, .ref fa, .int lz, .ref wd, .int co, .ref nm]) := by rw [ef_10, up_o (tg_ne ha0 hwd (by decide))]; exact hs
    have hs_12 : f_10 a0 = .inr (9, [.int nu, .int kd, .ref pa, .int cn, .ref fa, .int lz, .ref wd, .int co, .ref nm]) := by rw [ef_10, up_o (tg_ne ha0 hwd (by decide))]; exact hs
    refine lv_aload_n hx hb dX10_takeIn_21 rfl (lv_at hl 0 rfl) ?_
    refine lv_dup hx hb dX10_takeIn_22 rfl ?_
    obtain ⟨kk_13, hk_14⟩ := pl_at ha0.1 hs_12
    refine va_get (D := (dC, dI)) (ci := 9) (v := .int co) (C := RX10) (T := TX10) (N := 9) hx hb hts zl_X10_takeIn_X10 hown hK hP kk_13 hk_14 rfl 7 (by decide) (hts (.fieldLink RX10 15 "PageOne$Story" "come" "I") (zat q_wsX10_takeIn k_wsX10_takeIn 177 rfl (by decide +kernel))) (fun _ h9 => h9) rfl dX10_takeIn_23 ?_
    refine lv_iconst (v := 1) hx hb dX10_takeIn_26 (by decide) ?_
    refine lv_iadd hx hb dX10_takeIn_27 ?_
    refine lv_topi (fun x_15 ex_15 => ?_)
    obtain ⟨kk_16, hk_17⟩ := pl_at ha0.1 hs_12
    have hD0 := hD
    refine va_put (D := (dC, dI)) (ci := 9) (v := .int x_15) (ty := .int) (C := RX10) (T := TX10) (N := 9) hx hb hts zl_X10_takeIn_X10 tyX10 tyX10_ok nmX10 hown hK hP hD hS kk_16 hk_17 rfl 7 (by decide) (hts (.fieldLink RX10 15 "PageOne$Story" "come" "I") (zat q_wsX10_takeIn k_wsX10_takeIn 177 rfl (by decide +kernel))) (fun _ h9 => h9) rfl (tyX10_ok 7 (by decide)) rfl rfl (Nat.le_of_ble_eq_true rfl) dX10_takeIn_28 (fun H locs hP hD hS => ?_)
    rw [pl_set hD0 ha0.1 hs_12 hk_17] at hP hD
    obtain ⟨f_18, ef_18⟩ : ∃ y : xF, y = va_up f_10 a0 (.inr (9, [.int nu, .int kd, .ref pa, .int cn, .ref fa, .int lz, .ref wd, .int x_15, .ref nm])) := ⟨_, rfl⟩
    have hI : xI q h0 d k z f_18 := by rw [ef_18]; exact x_upStory hI ha0 hs_12 hwd hnm (by rw [ex_15]; exact (vltn (n := 80) hco c_3 rfl (by decide)).2)
    have hP : va_P (dC, dI) vwCl (va_pl z.1 f_18) H := by rw [ef_18]; exact hP
    have hD : va_D A (va_pl z.1 f_18) := by rw [ef_18]; exact hD
    have hs_19 : f_18 a0 = .inr (9, [.int nu, .int kd, .ref pa, .int cn, .ref fa, .int lz, .ref wd, .int x_15, .ref nm]) := by rw [ef_18]; exact up_s
    refine lv_aload_n hx hb dX10_takeIn_31 rfl (lv_at hl 0 rfl) ?_
    obtain ⟨kk_20, hk_21⟩ := pl_at ha0.1 hs_19
    refine va_get (D := (dC, dI)) (ci := 9) (v := .int x_15) (C := RX10) (T := TX10) (N := 9) hx hb hts zl_X10_takeIn_X10 hown hK hP kk_20 hk_21 rfl 7 (by decide) (hts (.fieldLink RX10 15 "PageOne$Story" "come" "I") (zat q_wsX10_takeIn k_wsX10_takeIn 177 rfl (by decide +kernel))) (fun _ h9 => h9) rfl dX10_takeIn_32 ?_
    exact W.iret (v := x_15) hx hb hr (fun t ht hW => ⟨⟨x_15, (k, z, f_18), rfl, ⟨rfl, rfl, hI, (by rw [ex_15]; unfold s_takeIn; rw [if_pos c_3]), (by show f_18 = _; rw [ef_18, ef_10, ex_15]; unfold s_takeIn_f; rw [if_pos c_3])⟩, by rw [ht]; exact hP, hD⟩, hS.F ht⟩) hS.2.2 dX10_takeIn_35
  ·
    refine lv_iconst (v := (-1)) hx hb dX10_takeIn_9 (by decide) ?_
    exact W.iret (v := (-1)) hx hb hr (fun t ht hW => ⟨⟨(-1), (k, z, f), rfl, ⟨rfl, rfl, hI, (by unfold s_takeIn; rw [if_neg c_3]), (by show f = _; unfold s_takeIn_f; rw [if_neg c_3])⟩, by rw [ht]; exact hP, hD⟩, hS.F ht⟩) hS.2.2 dX10_takeIn_10
noncomputable def s_takeSize (p0 p1 sn : Int32) : Int32 := if sn < 4 then (sn + 1) else (-1)
noncomputable def s_takeSize_f (q : Nat → ClassId) (f : xF) (a0 pa fa ww hh : Nat) (p0 p1 nu kd cn sn : Int32) (gw gh : Nat → Int32) : xF := if sn < 4 then (va_up (va_up (va_up f ww (aI (q 0) 4 (upd gw (sn : Int32).toNatClampNeg p0))) hh (aI (q 0) 4 (upd gh (sn : Int32).toNatClampNeg p1))) a0 (.inr (6, [.int nu, .int kd, .ref pa, .int cn, .ref fa, .ref ww, .ref hh, .int (sn + 1)]))) else f
set_option maxHeartbeats 4000000 in
set_option maxRecDepth 100000 in
theorem y_takeSize (l : Launch) (dC : Nat → ClassId) (dI : Nat → Nat → Nat) (q : Nat → ClassId) (h0 : Nat) (d : Nat → Nat) (k : Nat → Int32) (z : gS) (f : xF) (hI : xI q h0 d k z f) (a0 pa fa ww hh : Nat) (nu kd cn sn : Int32) (ha0 : tg z a0 14) (hs : f a0 = .inr (6, [.int nu, .int kd, .ref pa, .int cn, .ref fa, .ref ww, .ref hh, .int sn])) (p0 p1 : Int32) (gw gh : Nat → Int32) (hww : tg z ww 20) (hwg : f ww = aI (q 0) 4 gw) (hhh : tg z hh 20) (hhg : f hh = aI (q 0) 4 gh) (hpa : tg z pa 16) (hfa : tg z fa 17) (hz4 : bw sn 0 4 = true) (hwh : ww ≠ hh) (sz : Nat) : Met l yX7_takeSize wsX7_takeSize ({ frames := 0, cells := 0, slots := 0, locals := 0 }) (va_Pc [.ref a0, .int p0, .int p1] (fun U => U.heap.size = sz ∧ PX dC dI (va_pl z.1 f) (xT q) U ∧ va_D (fun _ => True) (va_pl z.1 f))) (va_Qi (fun (r : Int32) (w : xU) => w.1 = k ∧ w.2.1 = z ∧ xI q h0 d k z w.2.2 ∧ r = s_takeSize p0 p1 sn ∧ w.2.2 = s_takeSize_f q f a0 pa fa ww hh p0 p1 nu kd cn sn gw gh) (fun (w : xU) t => va_P (dC, dI) vwCl (va_pl w.2.1.1 w.2.2) t.heap ∧ va_D (va_A (va_pl z.1 f) sz) (va_pl w.2.1.1 w.2.2)) (va_A (va_pl z.1 f) sz)) 0 0 (va_A (va_pl z.1 f) sz) := by
  refine Met.ofW (cc := cX7_takeSize) (maxL := 3) (ret := (some .int)) (by decide) rfl ?_
  intro p e s m args below meth c s₁ B hml hv
  obtain ⟨rfl, hsz, ⟨⟨hP, hK, hN⟩, hXN⟩, hD0⟩ := hv
  have hx := B.exec
  have hb := B.bytes
  have hr := B.returns
  have hts := atoms_spec (ws := wsX7_takeSize) B.pre
  have hown : s.vm.findClass RX7 = some m.cls := findClass_of_methodNamed B.named
  have hlocks := B.notSynchronized
  subst hsz
  have hD := hD0.self (sz := s.heap.size)
  generalize hAe : va_A (va_pl z.1 f) s.heap.size = A at hD ⊢
  have hA : ∀ q : Nat, s.heap.size ≤ q → A q := fun q h => by rw [← hAe]; exact Or.inr h
  have hS : va_S A s.heap s.heap [] := va_S.rf
  have hl := lv_entry ([.ref a0, .int p0, .int p1]) (n := 3) (Nat.le_of_ble_eq_true rfl)
  rw [lg_entry_eq]
  generalize (lg_sl ([.ref a0, .int p0, .int p1]) ++ List.replicate (3 - (lg_sl ([.ref a0, .int p0, .int p1])).length) Slot.unset).toArray = ls at hl ⊢
  have hl : lv_has ls 3 [(0, .ref a0), (1, .int p0), (2, .int p1)] := hl
  refine lv_aload_n hx hb dX7_takeSize_0 rfl (lv_at hl 0 rfl) ?_
  obtain ⟨kk_1, hk_2⟩ := pl_at ha0.1 hs
  refine va_get (D := (dC, dI)) (ci := 6) (v := .int sn) (C := RX7) (T := TX7) (N := 8) hx hb hts zl_X7_takeSize_X7 hown hK hP kk_1 hk_2 rfl 7 (by decide) (hts (.fieldLink RX7 18 "PageOne$Picture" "sizes" "I") (zat q_wsX7_takeSize k_wsX7_takeSize 276 rfl (by decide +kernel))) (fun _ h9 => h9) rfl dX7_takeSize_1 ?_
  refine lv_iconst (v := 4) hx hb dX7_takeSize_4 (by decide) ?_
  refine lv_icmp_lt (tgt := 10) hx hb dX7_takeSize_5 (by decide) (fun c_3 => ?_) (fun c_3 => ?_)
  ·
    refine lv_aload_n hx hb dX7_takeSize_10 rfl (lv_at hl 0 rfl) ?_
    obtain ⟨kk_4, hk_5⟩ := pl_at ha0.1 hs
    refine va_get (D := (dC, dI)) (ci := 6) (v := .ref ww) (C := RX7) (T := TX7) (N := 8) hx hb hts zl_X7_takeSize_X7 hown hK hP kk_4 hk_5 rfl 5 (by decide) (hts (.fieldLink RX7 9 "PageOne$Picture" "widths" "[I") (zat q_wsX7_takeSize k_wsX7_takeSize 274 rfl (by decide +kernel))) (fun _ h9 => h9) rfl dX7_takeSize_11 ?_
    refine lv_aload_n hx hb dX7_takeSize_14 rfl (lv_at hl 0 rfl) ?_
    obtain ⟨kk_6, hk_7⟩ := pl_at ha0.1 hs
    refine va_get (D := (dC, dI)) (ci := 6) (v := .int sn) (C := RX7) (T := TX7) (N := 8) hx hb hts zl_X7_takeSize_X7 hown hK hP kk_6 hk_7 rfl 7 (by decide) (hts (.fieldLink RX7 18 "PageOne$Picture" "sizes" "I") (zat q_wsX7_takeSize k_wsX7_takeSize 276 rfl (by decide +kernel))) (fun _ h9 => h9) rfl dX7_takeSize_15 ?_
    refine lv_iload_n hx hb dX7_takeSize_18 rfl (lv_at hl 1 rfl) ?_
    obtain ⟨kk_8, hk_9⟩ := pl_at hww.1 hwg
    have hD0 := hD
    refine va_iast hx hb hK hP hD hS kk_8 0 hk_9 rfl (vltn (n := 4) hz4 c_3 rfl (by decide)).1 dX7_takeSize_19 (fun H locs hP hD hS => ?_)
    rw [pl_set hD0 hww.1 hwg hk_9] at hP hD
    obtain ⟨f_10, ef_10⟩ : ∃ y : xF, y = va_up f ww (aI (q 0) 4 (upd gw (sn : Int32).toNatClampNeg p0)) := ⟨_, rfl⟩
    have hI : xI q h0 d k z f_10 := by rw [ef_10]; exact x_up hI hww (by decide) (cO_20 hww.2 ⟨_, rfl⟩)
    have hP : va_P (dC, dI) vwCl (va_pl z.1 f_10) H := by rw [ef_10]; exact hP
    have hD : va_D A (va_pl z.1 f_10) := by rw [ef_10]; exact hD
    have hs_11 : f_10 a0 = .inr (6, [.int nu, .int kd, .ref pa, .int cn, .ref fa, .ref ww, .ref hh, .int sn]) := by rw [ef_10, up_o (tg_ne ha0 hww (by decide))]; exact hs
    have hs_12 : f_10 a0 = .inr (6, [.int nu, .int kd, .ref pa, .int cn, .ref fa, .ref ww, .ref hh, .int sn]) := by rw [ef_10, up_o (tg_ne ha0 hww (by decide))]; exact hs
    have hs_13 : f_10 hh = aI (q 0) 4 gh := by rw [ef_10, up_o (fun e => hwh e.symm)]; exact hhg
    refine lv_aload_n hx hb dX7_takeSize_20 rfl (lv_at hl 0 rfl) ?_
    obtain ⟨kk_14, hk_15⟩ := pl_at ha0.1 hs_12
    refine va_get (D := (dC, dI)) (ci := 6) (v := .ref hh) (C := RX7) (T := TX7) (N := 8) hx hb hts zl_X7_takeSize_X7 hown hK hP kk_14 hk_15 rfl 6 (by decide) (hts (.fieldLink RX7 15 "PageOne$Picture" "heights" "[I") (zat q_wsX7_takeSize k_wsX7_takeSize 275 rfl (by decide +kernel))) (fun _ h9 => h9) rfl dX7_takeSize_21 ?_
    refine lv_aload_n hx hb dX7_takeSize_24 rfl (lv_at hl 0 rfl) ?_
    obtain ⟨kk_16, hk_17⟩ := pl_at ha0.1 hs_12
    refine va_get (D := (dC, dI)) (ci := 6) (v := .int sn) (C := RX7) (T := TX7) (N := 8) hx hb hts zl_X7_takeSize_X7 hown hK hP kk_16 hk_17 rfl 7 (by decide) (hts (.fieldLink RX7 18 "PageOne$Picture" "sizes" "I") (zat q_wsX7_takeSize k_wsX7_takeSize 276 rfl (by decide +kernel))) (fun _ h9 => h9) rfl dX7_takeSize_25 ?_
    refine lv_iload_n hx hb dX7_takeSize_28 rfl (lv_at hl 2 rfl) ?_
    obtain ⟨kk_18, hk_19⟩ := pl_at hhh.1 hs_13
    have hD0 := hD
    refine va_iast hx hb hK hP hD hS kk_18 0 hk_19 rfl (vltn (n := 4) hz4 c_3 rfl (by decide)).1 dX7_takeSize_29 (fun H locs hP hD hS => ?_)
    rw [pl_set hD0 hhh.1 hs_13 hk_19] at hP hD
    obtain ⟨f_20, ef_20⟩ : ∃ y : xF, y = va_up f_10 hh (aI (q 0) 4 (upd gh (sn : Int32).toNatClampNeg p1)) := ⟨_, rfl⟩
    have hI : xI q h0 d k z f_20 := by rw [ef_20]; exact x_up hI hhh (by decide) (cO_20 hhh.2 ⟨_, rfl⟩)
    have hP : va_P (dC, dI) vwCl (va_pl z.1 f_20) H := by rw [ef_20]; exact hP
    have hD : va_D A (va_pl z.1 f_20) := by rw [ef_20]; exact hD
    have hs_21 : f_20 a0 = .inr (6, [.int nu, .int kd, .ref pa, .int cn, .ref fa, .ref ww, .ref hh, .int sn]) := by rw [ef_20, up_o (tg_ne ha0 hhh (by decide))]; exact hs_12
    have hs_22 : f_20 a0 = .inr (6, [.int nu, .int kd, .ref pa, .int cn, .ref fa, .ref ww, .ref hh, .int sn]) := by rw [ef_20, up_o (tg_ne ha0 hhh (by decide))]; exact hs_12
    refine lv_aload_n hx hb dX7_takeSize_30 rfl (lv_at hl 0 rfl) ?_
    refine lv_dup hx hb dX7_takeSize_31 rfl ?_
    obtain ⟨kk_23, hk_24⟩ := pl_at ha0.1 hs_22
    refine va_get (D := (dC, dI)) (ci := 6) (v := .int sn) (C := RX7) (T := TX7) (N := 8) hx hb hts zl_X7_takeSize_X7 hown hK hP kk_23 hk_24 rfl 7 (by decide) (hts (.fieldLink RX7 18 "PageOne$Picture" "sizes" "I") (zat q_wsX7_takeSize k_wsX7_takeSize 276 rfl (by decide +kernel))) (fun _ h9 => h9) rfl dX7_takeSize_32 ?_
    refine lv_iconst (v := 1) hx hb dX7_takeSize_35 (by decide) ?_
    refine lv_iadd hx hb dX7_takeSize_36 ?_
    refine lv_topi (fun x_25 ex_25 => ?_)
    obtain ⟨kk_26, hk_27⟩ := pl_at ha0.1 hs_22
    have hD0 := hD
    refine va_put (D := (dC, dI)) (ci := 6) (v := .int x_25) (ty := .int) (C := RX7) (T := TX7) (N := 8) hx hb hts zl_X7_takeSize_X7 tyX7 tyX7_ok nmX7 hown hK hP hD hS kk_26 hk_27 rfl 7 (by decide) (hts (.fieldLink RX7 18 "PageOne$Picture" "sizes" "I") (zat q_wsX7_takeSize k_wsX7_takeSize 276 rfl (by decide +kernel))) (fun _ h9 => h9) rfl (tyX7_ok 7 (by decide)) rfl rfl (Nat.le_of_ble_eq_true rfl) dX7_takeSize_37 (fun H locs hP hD hS => ?_)
    rw [pl_set hD0 ha0.1 hs_22 hk_27] at hP hD
    obtain ⟨f_28, ef_28⟩ : ∃ y : xF, y = va_up f_20 a0 (.inr (6, [.int nu, .int kd, .ref pa, .int cn, .ref fa, .ref ww, .ref hh, .int x_25])) := ⟨_, rfl⟩
    have hI : xI q h0 d k z f_28 := by rw [ef_28]; exact x_upPict hI ha0 hs_22 hww hhh (by rw [ex_25]; exact (vltn (n := 4) hz4 c_3 rfl (by decide)).2)
    have hP : va_P (dC, dI) vwCl (va_pl z.1 f_28) H := by rw [ef_28]; exact hP
    have hD : va_D A (va_pl z.1 f_28) := by rw [ef_28]; exact hD
    have hs_29 : f_28 a0 = .inr (6, [.int nu, .int kd, .ref pa, .int cn, .ref fa, .ref ww, .ref hh, .int x_25]) := by rw [ef_28]; exact up_s
    refine lv_aload_n hx hb dX7_takeSize_40 rfl (lv_at hl 0 rfl) ?_
    obtain ⟨kk_30, hk_31⟩ := pl_at ha0.1 hs_29
    refine va_get (D := (dC, dI)) (ci := 6) (v := .int x_25) (C := RX7) (T := TX7) (N := 8) hx hb hts zl_X7_takeSize_X7 hown hK hP kk_30 hk_31 rfl 7 (by decide) (hts (.fieldLink RX7 18 "PageOne$Picture" "sizes" "I") (zat q_wsX7_takeSize k_wsX7_takeSize 276 rfl (by decide +kernel))) (fun _ h9 => h9) rfl dX7_takeSize_41 ?_
    exact W.iret (v := x_25) hx hb hr (fun t ht hW => ⟨⟨x_25, (k, z, f_28), rfl, ⟨rfl, rfl, hI, (by rw [ex_25]; unfold s_takeSize; rw [if_pos c_3]), (by show f_28 = _; rw [ef_28, ef_20, ef_10, ex_25]; unfold s_takeSize_f; rw [if_pos c_3])⟩, by rw [ht]; exact hP, hD⟩, hS.F ht⟩) hS.2.2 dX7_takeSize_44
  ·
    refine lv_iconst (v := (-1)) hx hb dX7_takeSize_8 (by decide) ?_
    exact W.iret (v := (-1)) hx hb hr (fun t ht hW => ⟨⟨(-1), (k, z, f), rfl, ⟨rfl, rfl, hI, (by unfold s_takeSize; rw [if_neg c_3]), (by show f = _; unfold s_takeSize_f; rw [if_neg c_3])⟩, by rw [ht]; exact hP, hD⟩, hS.F ht⟩) hS.2.2 dX7_takeSize_9
set_option maxHeartbeats 4000000 in
set_option maxRecDepth 100000 in
theorem y_fill9_l {p : Program} {l : Launch} {e : Env} {R : Room} {s : State} {m : MethodId} {args : Array Value} {below : List Frame} {meth : Method} {c : Code} {Q : State → Prop} {cells slots : Nat} {dC : Nat → ClassId} {dI : Nat → Nat → Nat} {q : Nat → ClassId} {h0 : Nat} {d : Nat → Nat} {k : Nat → Int32} {z : gS} {a0 : Nat} {p0 : Int32} {f0 : xF} (ha0 : tg z a0 9) {A : Nat → Prop} {H0 : Heap} (hx : p.tables.exec = Jvm.exec) (hb : c.code = cJ7_fill_53178) (hml : c.maxLocals = 4) (hts : ∀ w ∈ wsJ7_fill_53178, w.before args s = true) (hown : s.vm.findClass RJ7 = some m.cls) (hN : NN s) (hXN : XN s) (hK : va_K (dC, dI) vwCl (xT q) s) (hA : ∀ q : Nat, H0.size ≤ q → A q) (kx20 : ∀ (f : xF) (H : Heap) (locs : List Loc) (g : Nat → Int32) (ls : Array Slot), (f = va_up f0 a0 (aI (q 0) 480 g) ∧ ∀ j, j < 480 → g j = p0) → xI q h0 d k z f → va_P (dC, dI) vwCl (va_pl z.1 f) H → va_D A (va_pl z.1 f) → va_S A H0 H locs → lv_has ls 4 [(0, .ref a0)] → W p l e R s m args below meth c H locs cells slots Q (F0 m 20 ls [])) : ∀ (kk i : Nat) (f : xF) (H : Heap) (locs : List Loc) (g : Nat → Int32) (ls : Array Slot), i ≤ 480 → 480 - i < kk → (f = va_up f0 a0 (aI (q 0) 480 g) ∧ ∀ j, j < i → g j = p0) → xI q h0 d k z f → va_P (dC, dI) vwCl (va_pl z.1 f) H → va_D A (va_pl z.1 f) → va_S A H0 H locs → lv_has ls 4 [(2, .int (nI i)), (0, .ref a0), (1, .int p0), (3, .int (nI 480))] → W p l e R s m args below meth c H locs cells slots Q (F0 m 5 ls []) := by
  intro kk
  induction kk with
  | zero => intro i f H locs g ls h1 h2; exact absurd h2 (Nat.not_lt_zero _)
  | succ kk ih =>
    intro i f H locs g ls hi hkk hg hI hP hD hS hl
    have hc9 : f a0 = aI (q 0) 480 g := by rw [hg.1]; exact up_s
    refine lv_iload_n hx hb dJ7_fill_53178_5 rfl (lv_at hl 0 rfl) ?_
    refine lv_iload_n hx hb dJ7_fill_53178_6 rfl (lv_at hl 3 rfl) ?_
    refine lv_icmp_ge (tgt := 20) hx hb dJ7_fill_53178_7 (by decide) (fun c_1 => ?_) (fun c_1 => ?_)
    ·
      have hie : i = 480 := lp_eq rfl (by decide) hi c_1
      exact kx20 _ _ _ _ ls ⟨hg.1, fun j hj => hg.2 j (by rw [hie]; exact hj)⟩ hI hP hD hS (lv_sub hl [1] rfl)
    ·
      have hlt : i < 480 := lp_lt rfl (by decide) hi c_1
      refine lv_aload_n hx hb dJ7_fill_53178_10 rfl (lv_at hl 1 rfl) ?_
      refine lv_iload_n hx hb dJ7_fill_53178_11 rfl (lv_at hl 0 rfl) ?_
      refine lv_iload_n hx hb dJ7_fill_53178_12 rfl (lv_at hl 2 rfl) ?_
      obtain ⟨kk_2, hk_3⟩ := pl_at ha0.1 hc9
      have hD0 := hD
      refine va_iast hx hb hK hP hD hS kk_2 0 hk_3 rfl (vp_in_nI hlt (by decide)) dJ7_fill_53178_13 (fun H locs hP hD hS => ?_)
      rw [pl_set hD0 ha0.1 hc9 hk_3] at hP hD
      obtain ⟨f_4, ef_4⟩ : ∃ y : xF, y = va_up f a0 (aI (q 0) 480 (upd g ((nI i) : Int32).toNatClampNeg p0)) := ⟨_, rfl⟩
      have hI : xI q h0 d k z f_4 := by rw [ef_4]; exact x_up hI ha0 (by decide) (cO_9 ha0.2 ⟨_, rfl⟩)
      have hP : va_P (dC, dI) vwCl (va_pl z.1 f_4) H := by rw [ef_4]; exact hP
      have hD : va_D A (va_pl z.1 f_4) := by rw [ef_4]; exact hD
      refine lv_iinc (v := (nI (i + 1))) (lv' := [(2, .int (nI (i + 1))), (0, .ref a0), (1, .int p0), (3, .int (nI 480))]) hx hb dJ7_fill_53178_14 hl (k := 0) rfl (nI_1 i) (by decide) rfl (fun ls hl => ?_)
      refine lv_goto (tgt := 5) hx hb dJ7_fill_53178_17 (by decide) ?_
      exact ih (i + 1) _ _ _ _ ls (by omega) (by omega) ⟨by rw [ef_4, hg.1, up_up], upd_step (by omega) hg.2⟩ hI hP hD hS (lv_sub hl [0, 1, 2, 3] rfl)
set_option maxHeartbeats 4000000 in
set_option maxRecDepth 100000 in
theorem y_fill9 (l : Launch) (dC : Nat → ClassId) (dI : Nat → Nat → Nat) (q : Nat → ClassId) (h0 : Nat) (d : Nat → Nat) (k : Nat → Int32) (z : gS) (f : xF) (hI : xI q h0 d k z f) (a0 : Nat) (p0 : Int32) (g : Nat → Int32) (ha0 : tg z a0 9) (hc9 : f a0 = aI (q 0) 480 g) (sz : Nat) : Met l yJ7_fill_53178 wsJ7_fill_53178 ({ frames := 0, cells := 0, slots := 0, locals := 0 }) (va_Pc [.ref a0, .int p0] (fun U => U.heap.size = sz ∧ PX dC dI (va_pl z.1 f) (xT q) U ∧ va_D (fun _ => True) (va_pl z.1 f))) (va_Qv (fun (w : xU) => w.1 = k ∧ w.2.1 = z ∧ xI q h0 d k z w.2.2 ∧ ∃ g2, w.2.2 = va_up f a0 (aI (q 0) 480 g2) ∧ ∀ j, j < 480 → g2 j = p0) (fun (w : xU) t => va_P (dC, dI) vwCl (va_pl w.2.1.1 w.2.2) t.heap ∧ va_D (va_A (va_pl z.1 f) sz) (va_pl w.2.1.1 w.2.2)) (va_A (va_pl z.1 f) sz)) 0 0 (va_A (va_pl z.1 f) sz) := by
  refine Met.ofW (cc := cJ7_fill_53178) (maxL := 4) (ret := none) (by decide) rfl ?_
  intro p e s m args below meth c s₁ B hml hv
  obtain ⟨rfl, hsz, ⟨⟨hP, hK, hN⟩, hXN⟩, hD0⟩ := hv
  have hx := B.exec
  have hb := B.bytes
  have hr := B.returns
  have hts := atoms_spec (ws := wsJ7_fill_53178) B.pre
  have hown : s.vm.findClass RJ7 = some m.cls := findClass_of_methodNamed B.named
  have hlocks := B.notSynchronized
  subst hsz
  have hD := hD0.self (sz := s.heap.size)
  generalize hAe : va_A (va_pl z.1 f) s.heap.size = A at hD ⊢
  have hA : ∀ q : Nat, s.heap.size ≤ q → A q := fun q h => by rw [← hAe]; exact Or.inr h
  have hS : va_S A s.heap s.heap [] := va_S.rf
  have hl := lv_entry ([.ref a0, .int p0]) (n := 4) (Nat.le_of_ble_eq_true rfl)
  rw [lg_entry_eq]
  generalize (lg_sl ([.ref a0, .int p0]) ++ List.replicate (4 - (lg_sl ([.ref a0, .int p0])).length) Slot.unset).toArray = ls at hl ⊢
  have hl : lv_has ls 4 [(0, .ref a0), (1, .int p0)] := hl
  refine lv_iconst (v := 0) hx hb dJ7_fill_53178_0 (by decide) ?_
  refine lv_istore_n (lv' := [(2, .int 0), (0, .ref a0), (1, .int p0)]) hx hb dJ7_fill_53178_1 rfl hl (by decide) rfl (fun ls hl => ?_)
  refine lv_aload_n hx hb dJ7_fill_53178_2 rfl (lv_at hl 1 rfl) ?_
  obtain ⟨kk_1, hk_2⟩ := pl_at ha0.1 hc9
  refine va_alen hx hb hK hP kk_1 0 hk_2 rfl (v := nI 480) rfl dJ7_fill_53178_3 ?_
  refine lv_istore_n (lv' := [(3, .int (nI 480)), (2, .int 0), (0, .ref a0), (1, .int p0)]) hx hb dJ7_fill_53178_4 rfl hl (by decide) rfl (fun ls hl => ?_)
  refine y_fill9_l (f0 := f) ha0 hx hb hml hts hown hN hXN hK hA (fun f2 H locs g2 ls hg2 hI hP hD hS hl => ?_) 481 0 _ _ _ g ls (by decide) (by decide) ⟨(upF_id hc9).symm, fun j hj => absurd hj (Nat.not_lt_zero _)⟩ hI hP hD hS (lv_sub hl [1, 2, 3, 0] rfl)
  exact W.vret hx hb hr (fun t ht hW => ⟨⟨(k, z, f2), rfl, ⟨rfl, rfl, hI, g2, hg2.1, hg2.2⟩, by rw [ht]; exact hP, hD⟩, hS.F ht⟩) hS.2.2 dJ7_fill_53178_20
set_option maxHeartbeats 4000000 in
set_option maxRecDepth 100000 in
theorem y_clear (l : Launch) (dC : Nat → ClassId) (dI : Nat → Nat → Nat) (q : Nat → ClassId) (h0 : Nat) (d : Nat → Nat) (k : Nat → Int32) (z : gS) (f : xF) (hI : xI q h0 d k z f) (a0 la ca : Nat) (m9 d9 i9 : Int32) (gl gc : Nat → Int32) (ha0 : tg z a0 7) (hs9 : f a0 = .inr (8, [.ref la, .ref ca, .int m9, .int d9, .int i9])) (hla : tg z la 8) (hca : tg z ca 9) (hg9 : f la = aI (q 0) 8 gl) (hgb : ∀ j, j < 8 → bw (gl j) 0 60 = true) (hc9 : f ca = aI (q 0) 480 gc) (sz : Nat) : Met l yX9_clear wsX9_clear ({ frames := 1, cells := 0, slots := 0, locals := 23 }) (va_Pc [.ref a0] (fun U => U.heap.size = sz ∧ PX dC dI (va_pl z.1 f) (xT q) U ∧ va_D (fun _ => True) (va_pl z.1 f))) (va_Qv (fun (w : xU) => w.1 = k ∧ w.2.1 = z ∧ xI q h0 d k z w.2.2 ∧ ∃ g2, w.2.2 = va_up f ca (aI (q 0) 480 g2) ∧ ∀ j, j < 480 → g2 j = (-2)) (fun (w : xU) t => va_P (dC, dI) vwCl (va_pl w.2.1.1 w.2.2) t.heap ∧ va_D (va_A (va_pl z.1 f) sz) (va_pl w.2.1.1 w.2.2)) (va_A (va_pl z.1 f) sz)) 0 0 (va_A (va_pl z.1 f) sz) := by
  refine Met.ofW (cc := cX9_clear) (maxL := 1) (ret := none) (by decide) rfl ?_
  intro p e s m args below meth c s₁ B hml hv
  obtain ⟨rfl, hsz, ⟨⟨hP, hK, hN⟩, hXN⟩, hD0⟩ := hv
  have hx := B.exec
  have hb := B.bytes
  have hr := B.returns
  have hts := atoms_spec (ws := wsX9_clear) B.pre
  have hown : s.vm.findClass RX9 = some m.cls := findClass_of_methodNamed B.named
  have hlocks := B.notSynchronized
  subst hsz
  have hD := hD0.self (sz := s.heap.size)
  generalize hAe : va_A (va_pl z.1 f) s.heap.size = A at hD ⊢
  have hA : ∀ q : Nat, s.heap.size ≤ q → A q := fun q h => by rw [← hAe]; exact Or.inr h
  have hS : va_S A s.heap s.heap [] := va_S.rf
  have hl := lv_entry ([.ref a0]) (n := 1) (Nat.le_of_ble_eq_true rfl)
  rw [lg_entry_eq]
  generalize (lg_sl ([.ref a0]) ++ List.replicate (1 - (lg_sl ([.ref a0])).length) Slot.unset).toArray = ls at hl ⊢
  have hl : lv_has ls 1 [(0, .ref a0)] := hl
  refine lv_aload_n hx hb dX9_clear_0 rfl (lv_at hl 0 rfl) ?_
  obtain ⟨kk_1, hk_2⟩ := pl_at ha0.1 hs9
  refine va_get (D := (dC, dI)) (ci := 8) (v := .ref ca) (C := RX9) (T := TX9) (N := 5) hx hb hts zl_X9_clear_X9 hown hK hP kk_1 hk_2 rfl 1 (by decide) (hts (.fieldLink RX9 15 "PageOne$Sheet" "cells" "[I") (zat q_wsX9_clear k_wsX9_clear 92 rfl (by decide +kernel))) (fun _ h9 => h9) rfl dX9_clear_1 ?_
  refine lv_bipush (v := (-2)) hx hb dX9_clear_4 (by decide) ?_
  have hFc := fr_all hD hS hA
  refine va_callv (va_runS (As := [.ref ca, .int (-2)]) (rest := []) ⟨hx, hb, hml, hown, hts⟩ (y_fill9 l dC dI q h0 d k z f hI ca (-2) gc hca hc9 s.heap.size) (va_cwS 2 hts gX9_clear_J7_fill_53178 rfl rfl rfl zh_J7_fill_53178_59 ⟨Nat.le_of_ble_eq_true rfl, Nat.le_of_ble_eq_true rfl⟩) ⟨gx_fb, fun U hU hW => ⟨rfl, by rw [hU], px_to hU hW hP hK hN hXN, hD.weaken (fun _ _ _ _ => trivial)⟩⟩ rfl rfl hl.1 rfl (lv_room (Nat.le_of_ble_eq_true rfl)) dX9_clear_6 ⟨Nat.le_of_ble_eq_true rfl, Nat.le_of_ble_eq_true rfl⟩) hS (fun q _ h => hFc q h) hFc (fun w_3 t H1 locs ht hvm hw hB hz1 hk1 hS => ?_)
  obtain ⟨hP, hD1⟩ := hB
  rw [ht] at hP
  rw [hw.2.1] at hP hD1
  have hD := hD1.weaken (fun _ q _ h => hFc q.1 h)
  have hI := hw.2.2.1
  have hw0 := hw
  generalize w_3.2.2 = f_4 at hP hD hI hw0
  generalize H1 = H at hP hS ⊢
  exact W.vret hx hb hr (fun t ht hW => ⟨⟨(k, z, f_4), rfl, ⟨rfl, rfl, hI, hw0.2.2.2⟩, by rw [ht]; exact hP, hD⟩, hS.F ht⟩) hS.2.2 dX9_clear_9
noncomputable def s_copy_f (q : Nat → ClassId) (f : xF) (la ca : Nat) (gl gc ll cc : Nat → Int32) : xF := (va_up (va_up f la (aI (q 0) 8 (va_cpy ll gl (0 : Int32).toNatClampNeg (0 : Int32).toNatClampNeg (8 : Int32).toNatClampNeg))) ca (aI (q 0) 480 (va_cpy cc gc (0 : Int32).toNatClampNeg (0 : Int32).toNatClampNeg (480 : Int32).toNatClampNeg)))
set_option maxHeartbeats 4000000 in
set_option maxRecDepth 100000 in
theorem y_copyFrom (l : Launch) (dC : Nat → ClassId) (dI : Nat → Nat → Nat) (q : Nat → ClassId) (h0 : Nat) (d : Nat → Nat) (k : Nat → Int32) (z : gS) (f : xF) (hI : xI q h0 d k z f) (a0 la ca : Nat) (m9 d9 i9 : Int32) (gl gc : Nat → Int32) (ha0 : tg z a0 7) (hs9 : f a0 = .inr (8, [.ref la, .ref ca, .int m9, .int d9, .int i9])) (hla : tg z la 8) (hca : tg z ca 9) (hg9 : f la = aI (q 0) 8 gl) (hgb : ∀ j, j < 8 → bw (gl j) 0 60 = true) (hc9 : f ca = aI (q 0) 480 gc) (b0 lb cb : Nat) (m2 d2 i2 : Int32) (ll cc : Nat → Int32) (hb0 : tg z b0 7) (hs2 : f b0 = .inr (8, [.ref lb, .ref cb, .int m2, .int d2, .int i2])) (hlb : tg z lb 8) (hcb : tg z cb 9) (hg2 : f lb = aI (q 0) 8 ll) (hgb2 : ∀ j, j < 8 → bw (ll j) 0 60 = true) (hc2 : f cb = aI (q 0) 480 cc) (sz : Nat) : Met l yX9_copyFrom wsX9_copyFrom ({ frames := 1, cells := 0, slots := 0, locals := 40 }) (va_Pc [.ref a0, .ref b0] (fun U => U.heap.size = sz ∧ PX dC dI (va_pl z.1 f) (xT q) U ∧ va_D (fun _ => True) (va_pl z.1 f))) (va_Qv (fun (w : xU) => w.1 = k ∧ w.2.1 = z ∧ xI q h0 d k z w.2.2 ∧ w.2.2 = s_copy_f q f la ca gl gc ll cc) (fun (w : xU) t => va_P (dC, dI) vwCl (va_pl w.2.1.1 w.2.2) t.heap ∧ va_D (va_A (va_pl z.1 f) sz) (va_pl w.2.1.1 w.2.2)) (va_A (va_pl z.1 f) sz)) 0 0 (va_A (va_pl z.1 f) sz) := by
  refine Met.ofW (cc := cX9_copyFrom) (maxL := 2) (ret := none) (by decide) rfl ?_
  intro p e s m args below meth c s₁ B hml hv
  obtain ⟨rfl, hsz, ⟨⟨hP, hK, hN⟩, hXN⟩, hD0⟩ := hv
  have hx := B.exec
  have hb := B.bytes
  have hr := B.returns
  have hts := atoms_spec (ws := wsX9_copyFrom) B.pre
  have hown : s.vm.findClass RX9 = some m.cls := findClass_of_methodNamed B.named
  have hlocks := B.notSynchronized
  subst hsz
  have hD := hD0.self (sz := s.heap.size)
  generalize hAe : va_A (va_pl z.1 f) s.heap.size = A at hD ⊢
  have hA : ∀ q : Nat, s.heap.size ≤ q → A q := fun q h => by rw [← hAe]; exact Or.inr h
  have hS : va_S A s.heap s.heap [] := va_S.rf
  have hl := lv_entry ([.ref a0, .ref b0]) (n := 2) (Nat.le_of_ble_eq_true rfl)
  rw [lg_entry_eq]
  generalize (lg_sl ([.ref a0, .ref b0]) ++ List.replicate (2 - (lg_sl ([.ref a0, .ref b0])).length) Slot.unset).toArray = ls at hl ⊢
  have hl : lv_has ls 2 [(0, .ref a0), (1, .ref b0)] := hl
  refine lv_aload_n hx hb dX9_copyFrom_0 rfl (lv_at hl 1 rfl) ?_
  obtain ⟨kk_1, hk_2⟩ := pl_at hb0.1 hs2
  refine va_get (D := (dC, dI)) (ci := 8) (v := .ref lb) (C := RX9) (T := TX9) (N := 5) hx hb hts zl_X9_copyFrom_X9 hown hK hP kk_1 hk_2 rfl 0 (by decide) (hts (.fieldLink RX9 9 "PageOne$Sheet" "lines" "[I") (zat q_wsX9_copyFrom k_wsX9_copyFrom 90 rfl (by decide +kernel))) (fun _ h9 => h9) rfl dX9_copyFrom_1 ?_
  refine lv_iconst (v := 0) hx hb dX9_copyFrom_4 (by decide) ?_
  refine lv_aload_n hx hb dX9_copyFrom_5 rfl (lv_at hl 0 rfl) ?_
  obtain ⟨kk_3, hk_4⟩ := pl_at ha0.1 hs9
  refine va_get (D := (dC, dI)) (ci := 8) (v := .ref la) (C := RX9) (T := TX9) (N := 5) hx hb hts zl_X9_copyFrom_X9 hown hK hP kk_3 hk_4 rfl 0 (by decide) (hts (.fieldLink RX9 9 "PageOne$Sheet" "lines" "[I") (zat q_wsX9_copyFrom k_wsX9_copyFrom 90 rfl (by decide +kernel))) (fun _ h9 => h9) rfl dX9_copyFrom_6 ?_
  refine lv_iconst (v := 0) hx hb dX9_copyFrom_9 (by decide) ?_
  refine lv_bipush (v := 8) hx hb dX9_copyFrom_10 (by decide) ?_
  obtain ⟨kk_5, hk_6⟩ := pl_at hlb.1 hg2
  obtain ⟨kk_7, hk_8⟩ := pl_at hla.1 hg9
  have hD0 := hD
  refine va_copyi hx hb (by rw [hml]; exact hl.1.symm) hown (hts (.methodLink RX9 68 arraycopyName) (zat q_wsX9_copyFrom k_wsX9_copyFrom 776 rfl (by decide +kernel))) (hts (.native arraycopyName) (zat q_wsX9_copyFrom k_wsX9_copyFrom 778 rfl (by decide +kernel))) (hts (.static arraycopyName) (zat q_wsX9_copyFrom k_wsX9_copyFrom 777 rfl (by decide +kernel))) (hts (.initialized "java/lang/System") (zat q_wsX9_copyFrom k_wsX9_copyFrom 67 rfl (by decide +kernel))) hK hP hD hS kk_5 kk_7 0 0 hk_6 hk_8 rfl rfl rfl (sp := 0) (dp := 0) (n := 8) (by decide) (by decide) (by decide) (by decide) (by decide) (fun _ _ => rfl) (Nat.le_of_ble_eq_true rfl) (Nat.le_of_ble_eq_true rfl) dX9_copyFrom_12 (fun H locs hP hD hS => ?_)
  rw [pl_set hD0 hla.1 hg9 hk_8] at hP hD
  obtain ⟨f_9, ef_9⟩ : ∃ y : xF, y = va_up f la (aI (q 0) 8 (va_cpy ll gl (0 : Int32).toNatClampNeg (0 : Int32).toNatClampNeg (8 : Int32).toNatClampNeg)) := ⟨_, rfl⟩
  have hI : xI q h0 d k z f_9 := by rw [ef_9]; exact x_up hI hla (by decide) (cO_8 hla.2 ⟨_, rfl, cpy_b hgb2 hgb⟩)
  have hP : va_P (dC, dI) vwCl (va_pl z.1 f_9) H := by rw [ef_9]; exact hP
  have hD : va_D A (va_pl z.1 f_9) := by rw [ef_9]; exact hD
  have hs_10 : f_9 a0 = .inr (8, [.ref la, .ref ca, .int m9, .int d9, .int i9]) := by rw [ef_9, up_o (tg_ne ha0 hla (by decide))]; exact hs9
  have hs_11 : f_9 b0 = .inr (8, [.ref lb, .ref cb, .int m2, .int d2, .int i2]) := by rw [ef_9, up_o (tg_ne hb0 hla (by decide))]; exact hs2
  have hs_12 : f_9 ca = aI (q 0) 480 gc := by rw [ef_9, up_o (tg_ne hca hla (by decide))]; exact hc9
  have hs_13 : f_9 cb = aI (q 0) 480 cc := by rw [ef_9, up_o (tg_ne hcb hla (by decide))]; exact hc2
  refine lv_aload_n hx hb dX9_copyFrom_15 rfl (lv_at hl 1 rfl) ?_
  obtain ⟨kk_14, hk_15⟩ := pl_at hb0.1 hs_11
  refine va_get (D := (dC, dI)) (ci := 8) (v := .ref cb) (C := RX9) (T := TX9) (N := 5) hx hb hts zl_X9_copyFrom_X9 hown hK hP kk_14 hk_15 rfl 1 (by decide) (hts (.fieldLink RX9 15 "PageOne$Sheet" "cells" "[I") (zat q_wsX9_copyFrom k_wsX9_copyFrom 92 rfl (by decide +kernel))) (fun _ h9 => h9) rfl dX9_copyFrom_16 ?_
  refine lv_iconst (v := 0) hx hb dX9_copyFrom_19 (by decide) ?_
  refine lv_aload_n hx hb dX9_copyFrom_20 rfl (lv_at hl 0 rfl) ?_
  obtain ⟨kk_16, hk_17⟩ := pl_at ha0.1 hs_10
  refine va_get (D := (dC, dI)) (ci := 8) (v := .ref ca) (C := RX9) (T := TX9) (N := 5) hx hb hts zl_X9_copyFrom_X9 hown hK hP kk_16 hk_17 rfl 1 (by decide) (hts (.fieldLink RX9 15 "PageOne$Sheet" "cells" "[I") (zat q_wsX9_copyFrom k_wsX9_copyFrom 92 rfl (by decide +kernel))) (fun _ h9 => h9) rfl dX9_copyFrom_21 ?_
  refine lv_iconst (v := 0) hx hb dX9_copyFrom_24 (by decide) ?_
  refine lv_sipush (v := 480) hx hb dX9_copyFrom_25 (by decide) ?_
  obtain ⟨kk_18, hk_19⟩ := pl_at hcb.1 hs_13
  obtain ⟨kk_20, hk_21⟩ := pl_at hca.1 hs_12
  have hD0 := hD
  refine va_copyi hx hb (by rw [hml]; exact hl.1.symm) hown (hts (.methodLink RX9 68 arraycopyName) (zat q_wsX9_copyFrom k_wsX9_copyFrom 776 rfl (by decide +kernel))) (hts (.native arraycopyName) (zat q_wsX9_copyFrom k_wsX9_copyFrom 778 rfl (by decide +kernel))) (hts (.static arraycopyName) (zat q_wsX9_copyFrom k_wsX9_copyFrom 777 rfl (by decide +kernel))) (hts (.initialized "java/lang/System") (zat q_wsX9_copyFrom k_wsX9_copyFrom 67 rfl (by decide +kernel))) hK hP hD hS kk_18 kk_20 0 0 hk_19 hk_21 rfl rfl rfl (sp := 0) (dp := 0) (n := 480) (by decide) (by decide) (by decide) (by decide) (by decide) (fun _ _ => rfl) (Nat.le_of_ble_eq_true rfl) (Nat.le_of_ble_eq_true rfl) dX9_copyFrom_28 (fun H locs hP hD hS => ?_)
  rw [pl_set hD0 hca.1 hs_12 hk_21] at hP hD
  obtain ⟨f_22, ef_22⟩ : ∃ y : xF, y = va_up f_9 ca (aI (q 0) 480 (va_cpy cc gc (0 : Int32).toNatClampNeg (0 : Int32).toNatClampNeg (480 : Int32).toNatClampNeg)) := ⟨_, rfl⟩
  have hI : xI q h0 d k z f_22 := by rw [ef_22]; exact x_up hI hca (by decide) (cO_9 hca.2 ⟨_, rfl⟩)
  have hP : va_P (dC, dI) vwCl (va_pl z.1 f_22) H := by rw [ef_22]; exact hP
  have hD : va_D A (va_pl z.1 f_22) := by rw [ef_22]; exact hD
  have hs_23 : f_22 a0 = .inr (8, [.ref la, .ref ca, .int m9, .int d9, .int i9]) := by rw [ef_22, up_o (tg_ne ha0 hca (by decide))]; exact hs_10
  have hs_24 : f_22 b0 = .inr (8, [.ref lb, .ref cb, .int m2, .int d2, .int i2]) := by rw [ef_22, up_o (tg_ne hb0 hca (by decide))]; exact hs_11
  exact W.vret hx hb hr (fun t ht hW => ⟨⟨(k, z, f_22), rfl, ⟨rfl, rfl, hI, (by show f_22 = _; rw [ef_22, ef_9]; unfold s_copy_f; rfl)⟩, by rw [ht]; exact hP, hD⟩, hS.F ht⟩) hS.2.2 dX9_copyFrom_31
/-- an entry of the address book d: index x, tag t -/
def nO (d : Nat → Nat) (z : gS) (x t : Nat) : Prop := tg z (d x) t ∧ (z.2 (d x)).2.1 = x ∧ t ≠ 16
theorem nO_ne {d : Nat → Nat} {z : gS} {x y t s : Nat} (h : nO d z x t) (h2 : nO d z y s) (hxy : x ≠ y) : d x ≠ d y := fun e => hxy (by rw [← h.2.1, ← h2.2.1, e])
theorem nO_E {d : Nat → Nat} {z w : gS} (hE : zE z w) {x t : Nat} (h : nO d z x t) : nO d w x t := ⟨zE_tg hE h.1, by rw [zE_o hE h.1.1]; exact h.2⟩
/-- a row shows a stretch of a row -/
def eqR (n : Nat) (g h : Nat → Int32) (o : Nat) : Prop := ∀ j, j < n → g j = h (o + j)
/-- the sheet at s with its rows at la, ca: lines as h0 from o0 on, cells as h1 from o1 on -/
def shR (q : Nat → ClassId) (f : xF) (s la ca : Nat) (m dd ii : Int32) (r0 r1 : Nat → Int32) (o0 o1 : Nat) : Prop := f s = .inr (8, [.ref la, .ref ca, .int m, .int dd, .int ii]) ∧ (∃ gl, f la = aI (q 0) 8 gl ∧ eqR 8 gl r0 o0) ∧ ∃ gc, f ca = aI (q 0) 480 gc ∧ eqR 480 gc r1 o1
/-- the pages -/
def rPg (q : Nat → ClassId) (d : Nat → Nat) (u : mS) (z : gS) (f : xF) : Prop := (∃ g, f (d 0) = aR (q 2) 12 g ∧ ∀ p, p < 12 → g p = some (d (10 + p))) ∧ ∀ p, p < 12 → nO d z (10 + p) 7 ∧ nO d z (30 + p) 8 ∧ nO d z (50 + p) 9 ∧ ∃ dd ii, shR q f (d (10 + p)) (d (30 + p)) (d (50 + p)) (u.2 1 p) dd ii (u.2 0) (u.2 2) (8 * p) (480 * p)
/-- the plates -/
def rPl (q : Nat → ClassId) (d : Nat → Nat) (u : mS) (z : gS) (f : xF) : Prop := ∃ g, f (d 1) = aR (q 2) 12 g ∧ ∀ p, p < 12 → (u.2 40 p = 0 ∧ g p = none) ∨ (u.2 40 p = 1 ∧ g p = some (d (1000 + p)) ∧ nO d z (1000 + p) 7 ∧ nO d z (1020 + p) 8 ∧ nO d z (1040 + p) 9 ∧ ∃ m, shR q f (d (1000 + p)) (d (1020 + p)) (d (1040 + p)) m (u.2 41 p) (u.2 42 p) (u.2 43) (u.2 44) (8 * p) (480 * p))
/-- a kind's tag -/
def kT (k : Int32) : Nat := if k = 0 then 15 else if k = 1 then 11 else if k = 2 then 14 else if k = 3 then 13 else if k = 4 then 10 else 12
/-- what stands behind an item's common fields, by its kind -/
def rRs (q : Nat → ClassId) (d : Nat → Nat) (u : mS) (z : gS) (f : xF) (i : Nat) (rs : List Value) : Prop :=
  (u.2 4 i = 0 → rs = [.int (u.2 5 i), .ref (d (5000 + i)), .int (u.2 15 i), .ref (d (6000 + i))] ∧ nO d z (5000 + i) 18 ∧ nO d z (6000 + i) 19 ∧ (∃ g, f (d (5000 + i)) = aI (q 0) 80 g ∧ eqR 80 g (u.2 16) (80 * i)) ∧ ∃ g, f (d (6000 + i)) = aI (q 1) 10 g ∧ eqR 10 g (u.2 21) (10 * i)) ∧
  (u.2 4 i = 1 → ∃ o, o < (u.1 3).toNatClampNeg ∧ u.2 9 i = nI o ∧ u.2 4 o = 0 ∧ rs = [.ref (d (2000 + o)), .int (u.2 7 i), .int (u.2 8 i)]) ∧
  (u.2 4 i = 2 → rs = [.ref (d (5000 + i)), .ref (d (6000 + i)), .int (u.2 17 i)] ∧ nO d z (5000 + i) 20 ∧ nO d z (6000 + i) 20 ∧ (∃ g, f (d (5000 + i)) = aI (q 0) 4 g ∧ eqR 4 g (u.2 18) (4 * i)) ∧ ∃ g, f (d (6000 + i)) = aI (q 0) 4 g ∧ eqR 4 g (u.2 19) (4 * i)) ∧
  (u.2 4 i = 3 → rs = [.int (u.2 10 i), .int (u.2 14 i), .ref (d (5000 + i)), .ref (d (6000 + i))] ∧ pcS z (d (5000 + i)) none (u.2 11 i) (u.2 12 i) (u.2 13 i) (u.2 7 i) (u.2 8 i) ∧ nO d z (6000 + i) 21 ∧ ∃ g, f (d (6000 + i)) = aI (q 1) 400 g ∧ ∀ j, j < 400 → g j = u.2 48 (80 * j + i)) ∧
  (u.2 4 i = 4 → rs = [.int (u.2 5 i), .int (u.2 6 i)]) ∧
  (u.2 4 i = 5 → ∃ o, o < (u.1 3).toNatClampNeg ∧ u.2 9 i = nI o ∧ rs = [.ref (d (2000 + o)), .int (u.2 8 i)])
/-- an item's pieces as the reference has them -/
def pR (u : mS) (i : Nat) : Nat → Nat → Int32 := fun k j => u.2 (23 + j) (6 * i + k)
/-- where an item's pieces lie -/
def t3 (d : Nat → Nat) (z : gS) (i : Nat) : Prop := tg z (d (3000 + i)) 16 ∧ i < 1000
/-- item i -/
def rIt (q : Nat → ClassId) (d : Nat → Nat) (u : mS) (z : gS) (f : xF) (i : Nat) : Prop := nO d z (2000 + i) (kT (u.2 4 i)) ∧ t3 d z i ∧ nO d z (4000 + i) 17 ∧ (0 ≤ u.2 4 i ∧ u.2 4 i ≤ 5) ∧ ∃ rs g fg, f (d (2000 + i)) = .inr (ciT (z.2 (d (2000 + i))).1, itF (nI i) (u.2 4 i) (d (3000 + i)) (u.2 22 i) (d (4000 + i)) rs) ∧ f (d (3000 + i)) = aR (q 5) (if u.2 4 i = 0 then 6 else 1) g ∧ (∀ k, k < (u.2 22 i).toNatClampNeg → ∃ b, g k = some b ∧ pcS z b (some (d (2000 + i))) (pR u i k 0) (pR u i k 1) (pR u i k 2) (pR u i k 3) (pR u i k 4)) ∧ f (d (4000 + i)) = aI (q 0) 5 fg ∧ eqR 5 fg (u.2 47) (5 * i) ∧ rRs q d u z f i rs
def rIs (q : Nat → ClassId) (d : Nat → Nat) (u : mS) (z : gS) (f : xF) : Prop := (∃ g, f (d 2) = aR (q 3) 80 g ∧ ∀ i, i < (u.1 3).toNatClampNeg → g i = some (d (2000 + i))) ∧ ∀ i, i < (u.1 3).toNatClampNeg → rIt q d u z f i
/-- the rivals -/
def rRv (q : Nat → ClassId) (d : Nat → Nat) (u : mS) (f : xF) : Prop := ∃ g, f (d 4) = aI (q 1) 100 g ∧ eqR 100 g (u.2 20) 0
/-- the class's heap shows u, but for the acts -/
def rep (q : Nat → ClassId) (d : Nat → Nat) (u : mS) (z : gS) (f : xF) : Prop := rPg q d u z f ∧ rPl q d u z f ∧ rIs q d u z f ∧ rRv q d u f ∧ (nO d z 0 2 ∧ nO d z 1 3 ∧ nO d z 2 4 ∧ nO d z 3 5 ∧ nO d z 4 6)
theorem aI_inj {c c2 : ClassId} {n n2 : Nat} {g g2 : Nat → Int32} (h : aI c n g = aI c2 n2 g2) : n = n2 ∧ g = g2 := by
  have e6 := (Prod.mk.inj (Prod.mk.inj (Sum.inl.inj h)).2)
  exact ⟨e6.1, Sum.inl.inj e6.2⟩
theorem sh_inj {la ca la2 ca2 : Nat} {m dd ii m2 dd2 ii2 : Int32} (h : (Sum.inr (8, [.ref la, .ref ca, .int m, .int dd, .int ii]) : va_E) = .inr (8, [.ref la2, .ref ca2, .int m2, .int dd2, .int ii2])) : la = la2 ∧ ca = ca2 ∧ m = m2 ∧ dd = dd2 ∧ ii = ii2 := by
  have e := (Prod.mk.inj (Sum.inr.inj h)).2
  simp only [List.cons.injEq, Value.ref.injEq, Value.int.injEq] at e
  exact ⟨e.1, e.2.1, e.2.2.1, e.2.2.2.1, e.2.2.2.2.1⟩
/-- a page that is read: its sheet is the book's, its rows the reference's -/
theorem rp_pg {q d u z f} (h : rPg q d u z f) {g : Nat → Option Nat} (hg : f (d 0) = aR (q 2) 12 g) {p b : Nat} (hp : p < 12) (hb : g p = some b) {la ca : Nat} {m dd ii : Int32} (hs : f b = .inr (8, [.ref la, .ref ca, .int m, .int dd, .int ii])) : b = d (10 + p) ∧ la = d (30 + p) ∧ ca = d (50 + p) ∧ m = u.2 1 p ∧ (∀ gl, f la = aI (q 0) 8 gl → eqR 8 gl (u.2 0) (8 * p)) ∧ ∀ gc, f ca = aI (q 0) 480 gc → eqR 480 gc (u.2 2) (480 * p) := by
  obtain ⟨⟨g2, a1, a2⟩, a3⟩ := h
  obtain ⟨n1, n2, n3, dd2, ii2, s1, ⟨gl, s2, s3⟩, gc, s4, s5⟩ := a3 p hp
  have eg := (aR_inj (hg.symm.trans a1)).2
  have eb : b = d (10 + p) := Option.some.inj (hb.symm.trans (by rw [eg]; exact a2 p hp))
  subst eb
  obtain ⟨e1, e2, e3, e4, e5⟩ := sh_inj (hs.symm.trans s1)
  subst e1 e2
  exact ⟨rfl, rfl, rfl, e3, fun gl2 hl => by rw [(aI_inj (hl.symm.trans s2)).2]; exact s3, fun gc2 hc => by rw [(aI_inj (hc.symm.trans s4)).2]; exact s5⟩
/-- a sheet's cell, by the reference's rows -/
theorem shAt_eq {gl gc : Nat → Int32} {u : mS} {p : Nat} (hp : p < 12) (hl : eqR 8 gl (u.2 0) (8 * p)) (hc : eqR 480 gc (u.2 2) (480 * p)) (hb : ∀ j, j < 8 → bw (gl j) 0 60 = true) (c l : Int32) : shAt gl gc c l = mCellAt u (nI p) c l := by
  unfold shAt mCellAt mCell
  rw [bw11 hp, Bool.true_and]
  by_cases h1 : bw c 0 7 = true
  · obtain ⟨C, hC, -, eC⟩ := exN h1 (by decide)
    have h7 : (7 : Int32).toInt = 7 := rfl
    subst eC
    have e0 : (8 * nI p + nI C).toNatClampNeg = 8 * p + C := by rw [show (8 : Int32) = nI 8 from rfl, pk_mul, nI_add, nI_clamp (by omega)]
    rw [if_pos h1, h1, Bool.true_and, nI_clamp (by omega), hl C (by omega), e0]
    by_cases h2 : bw l 0 (u.2 0 (8 * p + C) - 1) = true
    · rw [if_pos h2, if_pos h2]
      have hb1 := hb C (by omega)
      rw [hl C (by omega)] at hb1
      have hl59 := b59 hb1 h2
      obtain ⟨L, hL, -, eL⟩ := exN hl59 (by decide)
      have h59 : (59 : Int32).toInt = 59 := rfl
      subst eL
      have e1 : (nI C * 60 + nI L).toNatClampNeg = 60 * C + L := by rw [show (60 : Int32) = nI 60 from rfl, pk_mul, nI_add, nI_clamp (by omega)]; omega
      have e2 : (480 * nI p + 60 * nI C + nI L).toNatClampNeg = 480 * p + (60 * C + L) := by rw [idxN hp (by omega) (by omega), nI_clamp (by omega)]; omega
      rw [e1, e2]
      exact hc _ (by omega)
    · rw [if_neg h2, if_neg h2]
  · rw [if_neg h1, if_neg (fun h => h1 (by rw [Bool.and_eq_true] at h; exact h.1))]
set_option maxHeartbeats 4000000 in
set_option maxRecDepth 100000 in
theorem y_cell (l : Launch) (dC : Nat → ClassId) (dI : Nat → Nat → Nat) (q : Nat → ClassId) (h0 : Nat) (d : Nat → Nat) (k : Nat → Int32) (z : gS) (f : xF) (hI : xI q h0 d k z f) (p0 p1 p2 : Int32) (u : mS) (hrp : rep q d u z f) : Met l yX11_cell wsX11_cell ({ frames := 3, cells := 0, slots := 0, locals := 64 }) (va_Pc [.ref h0, .int p0, .int p1, .int p2] (PX dC dI (va_pl z.1 f) (xT q))) (vp_Si (fun r => r = mCellAt u p0 p1 p2)) 0 0 (fun _ => False) := by
  refine Met.ofW (cc := cX11_cell) (maxL := 4) (ret := (some .int)) (by decide) rfl ?_
  intro p e s m args below meth c s₁ B hml hv
  obtain ⟨rfl, ⟨hP, hK, hN⟩, hXN⟩ := hv
  have hx := B.exec
  have hb := B.bytes
  have hr := B.returns
  have hts := atoms_spec (ws := wsX11_cell) B.pre
  have hown : s.vm.findClass RX11 = some m.cls := findClass_of_methodNamed B.named
  have hlocks := B.notSynchronized
  have hl := lv_entry ([.ref h0, .int p0, .int p1, .int p2]) (n := 4) (Nat.le_of_ble_eq_true rfl)
  rw [lg_entry_eq]
  generalize (lg_sl ([.ref h0, .int p0, .int p1, .int p2]) ++ List.replicate (4 - (lg_sl ([.ref h0, .int p0, .int p1, .int p2])).length) Slot.unset).toArray = ls at hl ⊢
  have hl : lv_has ls 4 [(0, .ref h0), (1, .int p0), (2, .int p1), (3, .int p2)] := hl
  refine lv_iload_n hx hb dX11_cell_0 rfl (lv_at hl 1 rfl) ?_
  refine vp_callSi (va_runS (As := [.int p0]) (rest := []) ⟨hx, hb, hml, hown, hts⟩ (x_isPage l dC dI p0) (va_cwS 1 hts gX11_cell_X11_isPage rfl rfl rfl zh_X11_isPage_44 ⟨Nat.le_of_ble_eq_true rfl, Nat.le_of_ble_eq_true rfl⟩) ⟨pw_fb, fun U hU hW => ⟨rfl, pw_to hU hW (hP.sub (ws' := []) [] rfl) (hK.sub (tys' := []) [] rfl) hN⟩⟩ rfl rfl hl.1 rfl (lv_room (Nat.le_of_ble_eq_true rfl)) dX11_cell_1 ⟨Nat.le_of_ble_eq_true rfl, Nat.le_of_ble_eq_true rfl⟩).run (fun r hw => ?_)
  rcases Bool.eq_false_or_eq_true (bw p0 0 11) with b_1 | b_1
  ·
    obtain rfl : r = 1 := b_t hw b_1
    refine lv_if_eq (tgt := 21) hx hb dX11_cell_4 (by decide) (fun c_2 => absurd c_2 (by decide)) (fun c_2 => ?_)
    refine lv_aload_n hx hb dX11_cell_7 rfl (lv_at hl 0 rfl) ?_
    obtain ⟨kk_3, hk_4⟩ := pl_at hI.2.1.1.1 hI.2.2.2.1.1
    refine va_get (D := (dC, dI)) (ci := 10) (v := .ref (d 0)) (C := RX11) (T := TX11) (N := 9) hx hb hts zl_X11_cell_X11 hown hK hP kk_3 hk_4 rfl 0 (by decide) (hts (.fieldLink RX11 11 "PageOne" "pages" "[LPageOne$Sheet;") (zat q_wsX11_cell k_wsX11_cell 112 rfl (by decide +kernel))) (fun _ h9 => h9) rfl dX11_cell_8 ?_
    refine lv_iload_n hx hb dX11_cell_11 rfl (lv_at hl 1 rfl) ?_
    obtain ⟨g_5, hs_6, hg_7⟩ := x_pg hI hI.2.1.2.1
    obtain ⟨kk_8, hk_9⟩ := pl_at hI.2.1.2.1.1 hs_6
    refine va_aldq hx hb hK hP kk_8 2 hk_9 rfl (vin b_1 (by decide)) dX11_cell_12 ?_
    obtain ⟨b_10, hg_11, ht_12⟩ := hg_7 _ (vlt (vin b_1 (by decide)))
    rw [hg_11]
    refine W.eq (g2 := F0 m 13 ls [.ref b_10]) rfl ?_
    refine lv_iload_n hx hb dX11_cell_13 rfl (lv_at hl 2 rfl) ?_
    refine lv_iload_n hx hb dX11_cell_14 rfl (lv_at hl 3 rfl) ?_
    obtain ⟨la_13, ca_14, m_15, dd_16, ii_17, hs_18, ht_19, ht_20⟩ := x_sh hI ht_12
    obtain ⟨g_21, hs_22, hg_23⟩ := x_ln hI ht_19
    obtain ⟨g_24, hs_25⟩ := x_ce hI ht_20
    obtain ⟨kk_26, hk_27⟩ := pl_at ht_12.1 hs_18
    refine vp_callSi (va_runV (As := [.int p1, .int p2]) (rest := []) ⟨hx, hb, hml, hown, hts⟩ (y_at l dC dI q h0 d k z f hI b_10 la_13 ca_14 m_15 dd_16 ii_17 g_21 g_24 ht_12 hs_18 ht_19 ht_20 hs_22 hg_23 hs_25 p1 p2) (cwV 2 hts gX11_cell_X9_at rfl rfl rfl zh_X9_at_31 ⟨Nat.le_of_ble_eq_true rfl, Nat.le_of_ble_eq_true rfl⟩) ⟨px_fb, va_recv hK hP (ci := 8) (q0 := kk_26) rfl hk_27, fun U hU hW => ⟨rfl, px_to hU hW hP hK hN hXN⟩⟩ rfl rfl hl.1 rfl (lv_room (Nat.le_of_ble_eq_true rfl)) dX11_cell_15 ⟨Nat.le_of_ble_eq_true rfl, Nat.le_of_ble_eq_true rfl⟩).run (fun r hw => ?_)
    generalize r = zr_28 at hw ⊢
    have hzr_28 := hw
    refine lv_goto (tgt := 22) hx hb dX11_cell_18 (by decide) ?_
    exact W.iret (v := zr_28) hx hb hr (fun t ht hW => ⟨_, rfl, (by obtain ⟨P, hP1, -, eP⟩ := exN b_1 (by decide); have h11 : (11 : Int32).toInt = 11 := rfl; have hc9 := (nI_clamp (n := P) (by omega)); subst eP; have hq9 := rp_pg hrp.1 hs_6 (p := P) (by omega) (by rw [← hc9]; exact hg_11) hs_18; rw [hzr_28]; exact shAt_eq (by omega) (hq9.2.2.2.2.1 _ hs_22) (hq9.2.2.2.2.2 _ hs_25) hg_23 _ _), ht⟩) (fun q h => absurd h List.not_mem_nil) dX11_cell_22
  ·
    obtain rfl : r = 0 := b_f hw b_1
    refine lv_if_eq (tgt := 21) hx hb dX11_cell_4 (by decide) (fun c_29 => ?_) (fun c_29 => absurd (by decide) c_29)
    refine lv_iconst (v := (-1)) hx hb dX11_cell_21 (by decide) ?_
    exact W.iret (v := (-1)) hx hb hr (fun t ht hW => ⟨_, rfl, (by unfold mCellAt mCell; rw [if_neg (by rw [b_1, Bool.false_and, Bool.false_and]; decide)]), ht⟩) (fun q h => absurd h List.not_mem_nil) dX11_cell_22
theorem shE_eq {gl gc : Nat → Int32} {u : mS} {p C : Nat} (hp : p < 12) (hC : C < 8) (hl : eqR 8 gl (u.2 0) (8 * p)) (hc : eqR 480 gc (u.2 2) (480 * p)) (hb : ∀ j, j < 8 → bw (gl j) 0 60 = true) : ∀ n, n ≤ (gl C).toNatClampNeg → shE gl gc (nI C) n = mEmp (u.2 2) (480 * nI p + 60 * nI C) n
  | 0, _ => rfl
  | n + 1, h => by
    have h60 := cl60 (hb C hC)
    show shE gl gc (nI C) n + (if shAt gl gc (nI C) (nI n) = (-2) then 1 else 0) = mEmp (u.2 2) (480 * nI p + 60 * nI C) n + (if u.2 2 (480 * nI p + 60 * nI C + nI n).toNatClampNeg = (-2) then 1 else 0)
    rw [shE_eq hp hC hl hc hb n (by omega), shAt_ok hC (hb C hC) (by omega), idxN hp hC (by omega), nI_clamp (by omega), hc _ (by omega), show 480 * p + (60 * C + n) = 480 * p + 60 * C + n by omega]
set_option maxHeartbeats 4000000 in
set_option maxRecDepth 100000 in
theorem y_shortOf (l : Launch) (dC : Nat → ClassId) (dI : Nat → Nat → Nat) (q : Nat → ClassId) (h0 : Nat) (d : Nat → Nat) (k : Nat → Int32) (z : gS) (f : xF) (hI : xI q h0 d k z f) (p0 p1 : Int32) (u : mS) (hrp : rep q d u z f) : Met l yX11_shortOf wsX11_shortOf ({ frames := 4, cells := 0, slots := 0, locals := 87 }) (va_Pc [.ref h0, .int p0, .int p1] (PX dC dI (va_pl z.1 f) (xT q))) (vp_Si (fun r => r = mShort u p0 p1)) 0 0 (fun _ => False) := by
  refine Met.ofW (cc := cX11_shortOf) (maxL := 3) (ret := (some .int)) (by decide) rfl ?_
  intro p e s m args below meth c s₁ B hml hv
  obtain ⟨rfl, ⟨hP, hK, hN⟩, hXN⟩ := hv
  have hx := B.exec
  have hb := B.bytes
  have hr := B.returns
  have hts := atoms_spec (ws := wsX11_shortOf) B.pre
  have hown : s.vm.findClass RX11 = some m.cls := findClass_of_methodNamed B.named
  have hlocks := B.notSynchronized
  have hl := lv_entry ([.ref h0, .int p0, .int p1]) (n := 3) (Nat.le_of_ble_eq_true rfl)
  rw [lg_entry_eq]
  generalize (lg_sl ([.ref h0, .int p0, .int p1]) ++ List.replicate (3 - (lg_sl ([.ref h0, .int p0, .int p1])).length) Slot.unset).toArray = ls at hl ⊢
  have hl : lv_has ls 3 [(0, .ref h0), (1, .int p0), (2, .int p1)] := hl
  refine lv_iload_n hx hb dX11_shortOf_0 rfl (lv_at hl 1 rfl) ?_
  refine vp_callSi (va_runS (As := [.int p0]) (rest := []) ⟨hx, hb, hml, hown, hts⟩ (x_isPage l dC dI p0) (va_cwS 1 hts gX11_shortOf_X11_isPage rfl rfl rfl zh_X11_isPage_44 ⟨Nat.le_of_ble_eq_true rfl, Nat.le_of_ble_eq_true rfl⟩) ⟨pw_fb, fun U hU hW => ⟨rfl, pw_to hU hW (hP.sub (ws' := []) [] rfl) (hK.sub (tys' := []) [] rfl) hN⟩⟩ rfl rfl hl.1 rfl (lv_room (Nat.le_of_ble_eq_true rfl)) dX11_shortOf_1 ⟨Nat.le_of_ble_eq_true rfl, Nat.le_of_ble_eq_true rfl⟩).run (fun r hw => ?_)
  rcases Bool.eq_false_or_eq_true (bw p0 0 11) with b_1 | b_1
  ·
    obtain rfl : r = 1 := b_t hw b_1
    refine lv_if_eq (tgt := 27) hx hb dX11_shortOf_4 (by decide) (fun c_2 => absurd c_2 (by decide)) (fun c_2 => ?_)
    refine lv_iload_n hx hb dX11_shortOf_7 rfl (lv_at hl 2 rfl) ?_
    refine vp_callSi (va_runS (As := [.int p1]) (rest := []) ⟨hx, hb, hml, hown, hts⟩ (x_isColumn l dC dI p1) (va_cwS 1 hts gX11_shortOf_X11_isColumn rfl rfl rfl zh_X11_isColumn_47 ⟨Nat.le_of_ble_eq_true rfl, Nat.le_of_ble_eq_true rfl⟩) ⟨pw_fb, fun U hU hW => ⟨rfl, pw_to hU hW (hP.sub (ws' := []) [] rfl) (hK.sub (tys' := []) [] rfl) hN⟩⟩ rfl rfl hl.1 rfl (lv_room (Nat.le_of_ble_eq_true rfl)) dX11_shortOf_8 ⟨Nat.le_of_ble_eq_true rfl, Nat.le_of_ble_eq_true rfl⟩).run (fun r hw => ?_)
    rcases Bool.eq_false_or_eq_true (bw p1 0 7) with b_3 | b_3
    ·
      obtain rfl : r = 1 := b_t hw b_3
      refine lv_if_eq (tgt := 27) hx hb dX11_shortOf_11 (by decide) (fun c_4 => absurd c_4 (by decide)) (fun c_4 => ?_)
      refine lv_aload_n hx hb dX11_shortOf_14 rfl (lv_at hl 0 rfl) ?_
      obtain ⟨kk_5, hk_6⟩ := pl_at hI.2.1.1.1 hI.2.2.2.1.1
      refine va_get (D := (dC, dI)) (ci := 10) (v := .ref (d 0)) (C := RX11) (T := TX11) (N := 9) hx hb hts zl_X11_shortOf_X11 hown hK hP kk_5 hk_6 rfl 0 (by decide) (hts (.fieldLink RX11 11 "PageOne" "pages" "[LPageOne$Sheet;") (zat q_wsX11_shortOf k_wsX11_shortOf 112 rfl (by decide +kernel))) (fun _ h9 => h9) rfl dX11_shortOf_15 ?_
      refine lv_iload_n hx hb dX11_shortOf_18 rfl (lv_at hl 1 rfl) ?_
      obtain ⟨g_7, hs_8, hg_9⟩ := x_pg hI hI.2.1.2.1
      obtain ⟨kk_10, hk_11⟩ := pl_at hI.2.1.2.1.1 hs_8
      refine va_aldq hx hb hK hP kk_10 2 hk_11 rfl (vin b_1 (by decide)) dX11_shortOf_19 ?_
      obtain ⟨b_12, hg_13, ht_14⟩ := hg_9 _ (vlt (vin b_1 (by decide)))
      rw [hg_13]
      refine W.eq (g2 := F0 m 20 ls [.ref b_12]) rfl ?_
      refine lv_iload_n hx hb dX11_shortOf_20 rfl (lv_at hl 2 rfl) ?_
      obtain ⟨la_15, ca_16, m_17, dd_18, ii_19, hs_20, ht_21, ht_22⟩ := x_sh hI ht_14
      obtain ⟨g_23, hs_24, hg_25⟩ := x_ln hI ht_21
      obtain ⟨g_26, hs_27⟩ := x_ce hI ht_22
      obtain ⟨kk_28, hk_29⟩ := pl_at ht_14.1 hs_20
      refine vp_callSi (va_runV (As := [.int p1]) (rest := []) ⟨hx, hb, hml, hown, hts⟩ (y_emptyIn l dC dI q h0 d k z f hI b_12 la_15 ca_16 m_17 dd_18 ii_19 g_23 g_26 ht_14 hs_20 ht_21 ht_22 hs_24 hg_25 hs_27 p1 b_3) (cwV 1 hts gX11_shortOf_X9_emptyIn rfl rfl rfl zh_X9_emptyIn_32 ⟨Nat.le_of_ble_eq_true rfl, Nat.le_of_ble_eq_true rfl⟩) ⟨px_fb, va_recv hK hP (ci := 8) (q0 := kk_28) rfl hk_29, fun U hU hW => ⟨rfl, px_to hU hW hP hK hN hXN⟩⟩ rfl rfl hl.1 rfl (lv_room (Nat.le_of_ble_eq_true rfl)) dX11_shortOf_21 ⟨Nat.le_of_ble_eq_true rfl, Nat.le_of_ble_eq_true rfl⟩).run (fun r hw => ?_)
      generalize r = zr_30 at hw ⊢
      have hzr_30 := hw
      refine lv_goto (tgt := 28) hx hb dX11_shortOf_24 (by decide) ?_
      exact W.iret (v := zr_30) hx hb hr (fun t ht hW => ⟨_, rfl, (by obtain ⟨P, hP1, -, eP⟩ := exN b_1 (by decide); obtain ⟨C, hC1, -, eC⟩ := exN b_3 (by decide); have h11 : (11 : Int32).toInt = 11 := rfl; have h7 : (7 : Int32).toInt = 7 := rfl; have hc9 := (nI_clamp (n := P) (by omega)); subst eP eC; have hq9 := rp_pg hrp.1 hs_8 (p := P) (by omega) (by rw [← hc9]; exact hg_13) hs_20; rw [hzr_30]; unfold mShort; rw [if_pos b_1, if_pos b_3, nI_clamp (n := C) (by omega), show (8 * nI P + nI C).toNatClampNeg = 8 * P + C from by rw [show (8 : Int32) = nI 8 from rfl, pk_mul, nI_add, nI_clamp (by omega)], ← hq9.2.2.2.2.1 _ hs_24 C (by omega)]; exact shE_eq (by omega) (by omega) (hq9.2.2.2.2.1 _ hs_24) (hq9.2.2.2.2.2 _ hs_27) hg_25 _ (Nat.le_refl _)), ht⟩) (fun q h => absurd h List.not_mem_nil) dX11_shortOf_28
    ·
      obtain rfl : r = 0 := b_f hw b_3
      refine lv_if_eq (tgt := 27) hx hb dX11_shortOf_11 (by decide) (fun c_31 => ?_) (fun c_31 => absurd (by decide) c_31)
      refine lv_iconst (v := (-1)) hx hb dX11_shortOf_27 (by decide) ?_
      exact W.iret (v := (-1)) hx hb hr (fun t ht hW => ⟨_, rfl, (by unfold mShort; rw [if_pos b_1, if_neg (bne b_3)]), ht⟩) (fun q h => absurd h List.not_mem_nil) dX11_shortOf_28
  ·
    obtain rfl : r = 0 := b_f hw b_1
    refine lv_if_eq (tgt := 27) hx hb dX11_shortOf_4 (by decide) (fun c_32 => ?_) (fun c_32 => absurd (by decide) c_32)
    refine lv_iconst (v := (-1)) hx hb dX11_shortOf_27 (by decide) ?_
    exact W.iret (v := (-1)) hx hb hr (fun t ht hW => ⟨_, rfl, (by unfold mShort; rw [if_neg (bne b_1)]), ht⟩) (fun q h => absurd h List.not_mem_nil) dX11_shortOf_28
theorem rp_pl {q d u z f} (h : rPl q d u z f) {g : Nat → Option Nat} (hg : f (d 1) = aR (q 2) 12 g) {p : Nat} (hp : p < 12) : (g p = none → u.2 40 p = 0) ∧ ∀ b, g p = some b → u.2 40 p = 1 ∧ b = d (1000 + p) ∧ ∀ la ca m dd ii, f b = .inr (8, [.ref la, .ref ca, .int m, .int dd, .int ii]) → dd = u.2 41 p ∧ ii = u.2 42 p ∧ (∀ gl, f la = aI (q 0) 8 gl → eqR 8 gl (u.2 43) (8 * p)) ∧ ∀ gc, f ca = aI (q 0) 480 gc → eqR 480 gc (u.2 44) (480 * p) := by
  obtain ⟨g2, a1, a2⟩ := h
  have eg := (aR_inj (hg.symm.trans a1)).2
  rw [eg]
  rcases a2 p hp with ⟨b1, b2⟩ | ⟨b1, b2, n1, n2, n3, m2, s1, ⟨gl, s2, s3⟩, gc, s4, s5⟩
  · exact ⟨fun _ => b1, fun b hb => by rw [b2] at hb; cases hb⟩
  · refine ⟨fun h0 => (by rw [b2] at h0; cases h0), fun b hb => ?_⟩
    have eb : b = d (1000 + p) := Option.some.inj (hb.symm.trans b2)
    refine ⟨b1, eb, fun la ca m dd ii hs => ?_⟩
    rw [eb] at hs
    obtain ⟨e1, e2, e3, e4, e5⟩ := sh_inj (hs.symm.trans s1)
    subst e1 e2
    exact ⟨e4, e5, fun gl2 hl => by rw [(aI_inj (hl.symm.trans s2)).2]; exact s3, fun gc2 hc => by rw [(aI_inj (hc.symm.trans s4)).2]; exact s5⟩
/-- whether a page has a plate -/
def hpP (u : mS) (p : Int32) : Prop := bw p 0 11 = true ∧ u.2 40 p.toNatClampNeg = 1
theorem clp {p : Int32} (h : bw p 0 11 = true) : p.toNatClampNeg < 12 := vlt (vin h (by decide))
set_option maxHeartbeats 4000000 in
set_option maxRecDepth 100000 in
theorem y_hasPlate (l : Launch) (dC : Nat → ClassId) (dI : Nat → Nat → Nat) (q : Nat → ClassId) (h0 : Nat) (d : Nat → Nat) (k : Nat → Int32) (z : gS) (f : xF) (hI : xI q h0 d k z f) (p0 : Int32) (u : mS) (hrp : rep q d u z f) : Met l yX11_hasPlate wsX11_hasPlate ({ frames := 2, cells := 0, slots := 0, locals := 42 }) (va_Pc [.ref h0, .int p0] (PX dC dI (va_pl z.1 f) (xT q))) (vp_Si (fun r => (r = 0 ∧ ¬ hpP u p0) ∨ (r = 1 ∧ hpP u p0 ∧ xPl q d z f p0))) 0 0 (fun _ => False) := by
  refine Met.ofW (cc := cX11_hasPlate) (maxL := 2) (ret := (some .boolean)) (by decide) rfl ?_
  intro p e s m args below meth c s₁ B hml hv
  obtain ⟨rfl, ⟨hP, hK, hN⟩, hXN⟩ := hv
  have hx := B.exec
  have hb := B.bytes
  have hr := B.returns
  have hts := atoms_spec (ws := wsX11_hasPlate) B.pre
  have hown : s.vm.findClass RX11 = some m.cls := findClass_of_methodNamed B.named
  have hlocks := B.notSynchronized
  have hl := lv_entry ([.ref h0, .int p0]) (n := 2) (Nat.le_of_ble_eq_true rfl)
  rw [lg_entry_eq]
  generalize (lg_sl ([.ref h0, .int p0]) ++ List.replicate (2 - (lg_sl ([.ref h0, .int p0])).length) Slot.unset).toArray = ls at hl ⊢
  have hl : lv_has ls 2 [(0, .ref h0), (1, .int p0)] := hl
  refine lv_iload_n hx hb dX11_hasPlate_0 rfl (lv_at hl 1 rfl) ?_
  refine vp_callSi (va_runS (As := [.int p0]) (rest := []) ⟨hx, hb, hml, hown, hts⟩ (x_isPage l dC dI p0) (va_cwS 1 hts gX11_hasPlate_X11_isPage rfl rfl rfl zh_X11_isPage_44 ⟨Nat.le_of_ble_eq_true rfl, Nat.le_of_ble_eq_true rfl⟩) ⟨pw_fb, fun U hU hW => ⟨rfl, pw_to hU hW (hP.sub (ws' := []) [] rfl) (hK.sub (tys' := []) [] rfl) hN⟩⟩ rfl rfl hl.1 rfl (lv_room (Nat.le_of_ble_eq_true rfl)) dX11_hasPlate_1 ⟨Nat.le_of_ble_eq_true rfl, Nat.le_of_ble_eq_true rfl⟩).run (fun r hw => ?_)
  rcases Bool.eq_false_or_eq_true (bw p0 0 11) with b_1 | b_1
  ·
    obtain rfl : r = 1 := b_t hw b_1
    refine lv_if_eq (tgt := 20) hx hb dX11_hasPlate_4 (by decide) (fun c_2 => absurd c_2 (by decide)) (fun c_2 => ?_)
    refine lv_aload_n hx hb dX11_hasPlate_7 rfl (lv_at hl 0 rfl) ?_
    obtain ⟨kk_3, hk_4⟩ := pl_at hI.2.1.1.1 hI.2.2.2.1.1
    refine va_get (D := (dC, dI)) (ci := 10) (v := .ref (d 1)) (C := RX11) (T := TX11) (N := 9) hx hb hts zl_X11_hasPlate_X11 hown hK hP kk_3 hk_4 rfl 1 (by decide) (hts (.fieldLink RX11 15 "PageOne" "plates" "[LPageOne$Sheet;") (zat q_wsX11_hasPlate k_wsX11_hasPlate 113 rfl (by decide +kernel))) (fun _ h9 => h9) rfl dX11_hasPlate_8 ?_
    refine lv_iload_n hx hb dX11_hasPlate_11 rfl (lv_at hl 1 rfl) ?_
    obtain ⟨g_5, hs_6, hg_7⟩ := x_pl hI hI.2.1.2.2.1
    obtain ⟨kk_8, hk_9⟩ := pl_at hI.2.1.2.2.1.1 hs_6
    refine va_aldq hx hb hK hP kk_8 2 hk_9 rfl (vin b_1 (by decide)) dX11_hasPlate_12 ?_
    rcases hg_11 : (g_5 (p0 : Int32).toNatClampNeg) with _ | b_10
    ·
      refine W.eq (g2 := F0 m 13 ls [.null]) rfl ?_
      refine lv_ifnullN (tgt := 20) hx hb dX11_hasPlate_13 (by decide) ?_
      refine lv_iconst (v := 0) hx hb dX11_hasPlate_20 (by decide) ?_
      exact W.zret (v := 0) hx hb hr (by decide) (fun t ht hW => ⟨_, rfl, (Or.inl ⟨rfl, fun h => by have h9 := (rp_pl hrp.2.1 hs_6 (clp b_1)).1 hg_11; rw [h.2] at h9; exact absurd h9 (by decide)⟩), ht⟩) (fun q h => absurd h List.not_mem_nil) dX11_hasPlate_21
    ·
      have ht_12 := hg_7 (p0 : Int32).toNatClampNeg (vlt (vin b_1 (by decide))) b_10 hg_11
      refine W.eq (g2 := F0 m 13 ls [.ref b_10]) rfl ?_
      refine lv_ifnull hx hb dX11_hasPlate_13 ?_
      refine lv_iconst (v := 1) hx hb dX11_hasPlate_16 (by decide) ?_
      refine lv_goto (tgt := 21) hx hb dX11_hasPlate_17 (by decide) ?_
      exact W.zret (v := 1) hx hb hr (by decide) (fun t ht hW => ⟨_, rfl, (Or.inr ⟨rfl, ⟨b_1, ((rp_pl hrp.2.1 hs_6 (clp b_1)).2 _ hg_11).1⟩, b_1, g_5, b_10, hs_6, hg_11, ht_12⟩), ht⟩) (fun q h => absurd h List.not_mem_nil) dX11_hasPlate_21
  ·
    obtain rfl : r = 0 := b_f hw b_1
    refine lv_if_eq (tgt := 20) hx hb dX11_hasPlate_4 (by decide) (fun c_13 => ?_) (fun c_13 => absurd (by decide) c_13)
    refine lv_iconst (v := 0) hx hb dX11_hasPlate_20 (by decide) ?_
    exact W.zret (v := 0) hx hb hr (by decide) (fun t ht hW => ⟨_, rfl, (Or.inl ⟨rfl, fun h => bne b_1 h.1⟩), ht⟩) (fun q h => absurd h List.not_mem_nil) dX11_hasPlate_21
theorem plO_n {u : mS} {p w : Int32} (h : ¬ hpP u p) (h01 : ∀ j, j < 12 → u.2 40 j = 0 ∨ u.2 40 j = 1) : mPlateOf u p w = (-1) := by
  unfold mPlateOf
  by_cases b : bw p 0 11 = true
  · rw [if_pos b]
    rcases h01 _ (clp b) with e | e
    · rw [if_pos e]
    · exact absurd ⟨b, e⟩ h
  · rw [if_neg b]
theorem plO_s {u : mS} {p w : Int32} (h : hpP u p) : mPlateOf u p w = if w = 0 then u.2 41 p.toNatClampNeg else if w = 1 then u.2 42 p.toNatClampNeg else (-1) := by
  unfold mPlateOf
  rw [if_pos h.1, if_neg (by rw [h.2]; decide)]
theorem rp_01 {q d u z f} (h : rPl q d u z f) : ∀ j, j < 12 → u.2 40 j = 0 ∨ u.2 40 j = 1 := by
  obtain ⟨g, -, a⟩ := h
  intro j hj
  rcases a j hj with x | x
  · exact Or.inl x.1
  · exact Or.inr x.1
set_option maxHeartbeats 4000000 in
set_option maxRecDepth 100000 in
theorem y_plateOf (l : Launch) (dC : Nat → ClassId) (dI : Nat → Nat → Nat) (q : Nat → ClassId) (h0 : Nat) (d : Nat → Nat) (k : Nat → Int32) (z : gS) (f : xF) (hI : xI q h0 d k z f) (p0 p1 : Int32) (u : mS) (hrp : rep q d u z f) : Met l yX11_plateOf wsX11_plateOf ({ frames := 3, cells := 0, slots := 0, locals := 63 }) (va_Pc [.ref h0, .int p0, .int p1] (PX dC dI (va_pl z.1 f) (xT q))) (vp_Si (fun r => r = mPlateOf u p0 p1)) 0 0 (fun _ => False) := by
  refine Met.ofW (cc := cX11_plateOf) (maxL := 3) (ret := (some .int)) (by decide) rfl ?_
  intro p e s m args below meth c s₁ B hml hv
  obtain ⟨rfl, ⟨hP, hK, hN⟩, hXN⟩ := hv
  have hx := B.exec
  have hb := B.bytes
  have hr := B.returns
  have hts := atoms_spec (ws := wsX11_plateOf) B.pre
  have hown : s.vm.findClass RX11 = some m.cls := findClass_of_methodNamed B.named
  have hlocks := B.notSynchronized
  have hl := lv_entry ([.ref h0, .int p0, .int p1]) (n := 3) (Nat.le_of_ble_eq_true rfl)
  rw [lg_entry_eq]
  generalize (lg_sl ([.ref h0, .int p0, .int p1]) ++ List.replicate (3 - (lg_sl ([.ref h0, .int p0, .int p1])).length) Slot.unset).toArray = ls at hl ⊢
  have hl : lv_has ls 3 [(0, .ref h0), (1, .int p0), (2, .int p1)] := hl
  refine lv_aload_n hx hb dX11_plateOf_0 rfl (lv_at hl 0 rfl) ?_
  refine lv_iload_n hx hb dX11_plateOf_1 rfl (lv_at hl 1 rfl) ?_
  obtain ⟨kk_1, hk_2⟩ := pl_at hI.2.1.1.1 hI.2.2.2.1.1
  refine vp_callSi (va_runV (As := [.int p0]) (rest := []) ⟨hx, hb, hml, hown, hts⟩ (y_hasPlate l dC dI q h0 d k z f hI p0 u hrp) (cwV 1 hts gX11_plateOf_X11_hasPlate rfl rfl rfl zh_X11_hasPlate_45 ⟨Nat.le_of_ble_eq_true rfl, Nat.le_of_ble_eq_true rfl⟩) ⟨px_fb, va_recv hK hP (ci := 10) (q0 := kk_1) rfl hk_2, fun U hU hW => ⟨rfl, px_to hU hW hP hK hN hXN⟩⟩ rfl rfl hl.1 rfl (lv_room (Nat.le_of_ble_eq_true rfl)) dX11_plateOf_2 ⟨Nat.le_of_ble_eq_true rfl, Nat.le_of_ble_eq_true rfl⟩).run (fun r hw => ?_)
  rcases hw with ⟨hw, hpp_9⟩ | ⟨hw, hpp_9, hbw_8, gp_3, bp_4, hp_5, hp_6, hp_7⟩
  ·
    subst hw
    refine lv_if_ne (tgt := 10) hx hb dX11_plateOf_5 (by decide) (fun c_10 => absurd (by decide) c_10) (fun c_10 => ?_)
    refine lv_iconst (v := (-1)) hx hb dX11_plateOf_8 (by decide) ?_
    exact W.iret (v := (-1)) hx hb hr (fun t ht hW => ⟨_, rfl, (plO_n hpp_9 (rp_01 hrp.2.1)).symm, ht⟩) (fun q h => absurd h List.not_mem_nil) dX11_plateOf_9
  ·
    subst hw
    refine lv_if_ne (tgt := 10) hx hb dX11_plateOf_5 (by decide) (fun c_11 => ?_) (fun c_11 => absurd c_11 (by decide))
    refine lv_iload_n hx hb dX11_plateOf_10 rfl (lv_at hl 2 rfl) ?_
    rcases Classical.em (p1 = 0) with s_12 | s_12
    ·
      subst s_12
      refine lv_lookup (tgt := 36) (off := 25) hx hb dX11_plateOf_11 (by decide) (by decide) (by decide) ?_
      refine lv_aload_n hx hb dX11_plateOf_36 rfl (lv_at hl 0 rfl) ?_
      obtain ⟨kk_13, hk_14⟩ := pl_at hI.2.1.1.1 hI.2.2.2.1.1
      refine va_get (D := (dC, dI)) (ci := 10) (v := .ref (d 1)) (C := RX11) (T := TX11) (N := 9) hx hb hts zl_X11_plateOf_X11 hown hK hP kk_13 hk_14 rfl 1 (by decide) (hts (.fieldLink RX11 15 "PageOne" "plates" "[LPageOne$Sheet;") (zat q_wsX11_plateOf k_wsX11_plateOf 113 rfl (by decide +kernel))) (fun _ h9 => h9) rfl dX11_plateOf_37 ?_
      refine lv_iload_n hx hb dX11_plateOf_40 rfl (lv_at hl 1 rfl) ?_
      obtain ⟨kk_15, hk_16⟩ := pl_at hI.2.1.2.2.1.1 hp_5
      refine va_aldq hx hb hK hP kk_15 2 hk_16 rfl (vin hbw_8 (by decide)) dX11_plateOf_41 ?_
      rw [hp_6]
      refine W.eq (g2 := F0 m 42 ls [.ref bp_4]) rfl ?_
      obtain ⟨la_17, ca_18, m_19, dd_20, ii_21, hs_22, ht_23, ht_24⟩ := x_sh hI hp_7
      obtain ⟨kk_25, hk_26⟩ := pl_at hp_7.1 hs_22
      refine va_get (D := (dC, dI)) (ci := 8) (v := .int dd_20) (C := RX9) (T := TX9) (N := 5) hx hb hts zl_X11_plateOf_X9 hown hK hP kk_25 hk_26 rfl 3 (by decide) (hts (.fieldLink RX11 210 "PageOne$Sheet" "day" "I") (zat q_wsX11_plateOf k_wsX11_plateOf 96 rfl (by decide +kernel))) (fun _ h9 => h9) rfl dX11_plateOf_42 ?_
      exact W.iret (v := dd_20) hx hb hr (fun t ht hW => ⟨_, rfl, (by rw [plO_s hpp_9]; first | (rw [if_pos rfl]; exact (((rp_pl hrp.2.1 hp_5 (clp hbw_8)).2 _ hp_6).2.2 _ _ _ _ _ hs_22).1) | (rw [if_neg (by decide), if_pos rfl]; exact (((rp_pl hrp.2.1 hp_5 (clp hbw_8)).2 _ hp_6).2.2 _ _ _ _ _ hs_22).2.1)), ht⟩) (fun q h => absurd h List.not_mem_nil) dX11_plateOf_45
    ·
      rcases Classical.em (p1 = 1) with s_27 | s_27
      ·
        subst s_27
        refine lv_lookup (tgt := 46) (off := 35) hx hb dX11_plateOf_11 (by decide) (by decide) (by decide) ?_
        refine lv_aload_n hx hb dX11_plateOf_46 rfl (lv_at hl 0 rfl) ?_
        obtain ⟨kk_28, hk_29⟩ := pl_at hI.2.1.1.1 hI.2.2.2.1.1
        refine va_get (D := (dC, dI)) (ci := 10) (v := .ref (d 1)) (C := RX11) (T := TX11) (N := 9) hx hb hts zl_X11_plateOf_X11 hown hK hP kk_28 hk_29 rfl 1 (by decide) (hts (.fieldLink RX11 15 "PageOne" "plates" "[LPageOne$Sheet;") (zat q_wsX11_plateOf k_wsX11_plateOf 113 rfl (by decide +kernel))) (fun _ h9 => h9) rfl dX11_plateOf_47 ?_
        refine lv_iload_n hx hb dX11_plateOf_50 rfl (lv_at hl 1 rfl) ?_
        obtain ⟨kk_30, hk_31⟩ := pl_at hI.2.1.2.2.1.1 hp_5
        refine va_aldq hx hb hK hP kk_30 2 hk_31 rfl (vin hbw_8 (by decide)) dX11_plateOf_51 ?_
        rw [hp_6]
        refine W.eq (g2 := F0 m 52 ls [.ref bp_4]) rfl ?_
        obtain ⟨la_32, ca_33, m_34, dd_35, ii_36, hs_37, ht_38, ht_39⟩ := x_sh hI hp_7
        obtain ⟨kk_40, hk_41⟩ := pl_at hp_7.1 hs_37
        refine va_get (D := (dC, dI)) (ci := 8) (v := .int ii_36) (C := RX9) (T := TX9) (N := 5) hx hb hts zl_X11_plateOf_X9 hown hK hP kk_40 hk_41 rfl 4 (by decide) (hts (.fieldLink RX11 213 "PageOne$Sheet" "edition" "I") (zat q_wsX11_plateOf k_wsX11_plateOf 98 rfl (by decide +kernel))) (fun _ h9 => h9) rfl dX11_plateOf_52 ?_
        exact W.iret (v := ii_36) hx hb hr (fun t ht hW => ⟨_, rfl, (by rw [plO_s hpp_9]; first | (rw [if_pos rfl]; exact (((rp_pl hrp.2.1 hp_5 (clp hbw_8)).2 _ hp_6).2.2 _ _ _ _ _ hs_37).1) | (rw [if_neg (by decide), if_pos rfl]; exact (((rp_pl hrp.2.1 hp_5 (clp hbw_8)).2 _ hp_6).2.2 _ _ _ _ _ hs_37).2.1)), ht⟩) (fun q h => absurd h List.not_mem_nil) dX11_plateOf_55
      ·
        refine lv_lookup (tgt := 56) (off := 45) hx hb dX11_plateOf_11 (by decide) ((lv_osw s_12 rfl).trans ((lv_osw s_27 rfl).trans (rfl))) (by decide) ?_
        refine lv_iconst (v := (-1)) hx hb dX11_plateOf_56 (by decide) ?_
        exact W.iret (v := (-1)) hx hb hr (fun t ht hW => ⟨_, rfl, (by rw [plO_s hpp_9, if_neg s_12, if_neg s_27]), ht⟩) (fun q h => absurd h List.not_mem_nil) dX11_plateOf_57
theorem shAtR {gl gc r0 r1 : Nat → Int32} {p : Nat} (hp : p < 12) (hl : eqR 8 gl r0 (8 * p)) (hc : eqR 480 gc r1 (480 * p)) (hb : ∀ j, j < 8 → bw (gl j) 0 60 = true) (c l : Int32) : shAt gl gc c l = if bw c 0 7 = true then (if bw l 0 (r0 (8 * nI p + c).toNatClampNeg - 1) = true then r1 (480 * nI p + 60 * c + l).toNatClampNeg else (-1)) else (-1) := by
  unfold shAt
  by_cases h1 : bw c 0 7 = true
  · obtain ⟨C, hC, -, eC⟩ := exN h1 (by decide)
    have h7 : (7 : Int32).toInt = 7 := rfl
    subst eC
    have e0 : (8 * nI p + nI C).toNatClampNeg = 8 * p + C := by rw [show (8 : Int32) = nI 8 from rfl, pk_mul, nI_add, nI_clamp (by omega)]
    rw [if_pos h1, if_pos h1, nI_clamp (by omega), hl C (by omega), e0]
    by_cases h2 : bw l 0 (r0 (8 * p + C) - 1) = true
    · rw [if_pos h2, if_pos h2]
      have hb1 := hb C (by omega)
      rw [hl C (by omega)] at hb1
      obtain ⟨L, hL, -, eL⟩ := exN (b59 hb1 h2) (by decide)
      have h59 : (59 : Int32).toInt = 59 := rfl
      subst eL
      have e1 : (nI C * 60 + nI L).toNatClampNeg = 60 * C + L := by rw [show (60 : Int32) = nI 60 from rfl, pk_mul, nI_add, nI_clamp (by omega)]; omega
      have e2 : (480 * nI p + 60 * nI C + nI L).toNatClampNeg = 480 * p + (60 * C + L) := by rw [idxN hp (by omega) (by omega), nI_clamp (by omega)]; omega
      rw [e1, e2]
      exact hc _ (by omega)
    · rw [if_neg h2, if_neg h2]
  · rw [if_neg h1, if_neg h1]
theorem pld_n {u : mS} {p c l : Int32} (h : ¬ hpP u p) (h01 : ∀ j, j < 12 → u.2 40 j = 0 ∨ u.2 40 j = 1) : mPlated u p c l = (-1) := by
  unfold mPlated
  by_cases b : bw p 0 11 = true
  · rw [if_pos b]
    rcases h01 _ (clp b) with e | e
    · rw [if_pos e]
    · exact absurd ⟨b, e⟩ h
  · rw [if_neg b]
/-- a plate of this edition -/
def frP (u : mS) (p : Int32) : Prop := hpP u p ∧ u.2 41 p.toNatClampNeg = u.1 38 ∧ u.2 42 p.toNatClampNeg = u.1 39
set_option maxHeartbeats 4000000 in
set_option maxRecDepth 100000 in
theorem y_plated (l : Launch) (dC : Nat → ClassId) (dI : Nat → Nat → Nat) (q : Nat → ClassId) (h0 : Nat) (d : Nat → Nat) (k : Nat → Int32) (z : gS) (f : xF) (hI : xI q h0 d k z f) (p0 p1 p2 : Int32) (u : mS) (hrp : rep q d u z f) : Met l yX11_plated wsX11_plated ({ frames := 3, cells := 0, slots := 0, locals := 64 }) (va_Pc [.ref h0, .int p0, .int p1, .int p2] (PX dC dI (va_pl z.1 f) (xT q))) (vp_Si (fun r => r = mPlated u p0 p1 p2)) 0 0 (fun _ => False) := by
  refine Met.ofW (cc := cX11_plated) (maxL := 4) (ret := (some .int)) (by decide) rfl ?_
  intro p e s m args below meth c s₁ B hml hv
  obtain ⟨rfl, ⟨hP, hK, hN⟩, hXN⟩ := hv
  have hx := B.exec
  have hb := B.bytes
  have hr := B.returns
  have hts := atoms_spec (ws := wsX11_plated) B.pre
  have hown : s.vm.findClass RX11 = some m.cls := findClass_of_methodNamed B.named
  have hlocks := B.notSynchronized
  have hl := lv_entry ([.ref h0, .int p0, .int p1, .int p2]) (n := 4) (Nat.le_of_ble_eq_true rfl)
  rw [lg_entry_eq]
  generalize (lg_sl ([.ref h0, .int p0, .int p1, .int p2]) ++ List.replicate (4 - (lg_sl ([.ref h0, .int p0, .int p1, .int p2])).length) Slot.unset).toArray = ls at hl ⊢
  have hl : lv_has ls 4 [(0, .ref h0), (1, .int p0), (2, .int p1), (3, .int p2)] := hl
  refine lv_aload_n hx hb dX11_plated_0 rfl (lv_at hl 0 rfl) ?_
  refine lv_iload_n hx hb dX11_plated_1 rfl (lv_at hl 1 rfl) ?_
  obtain ⟨kk_1, hk_2⟩ := pl_at hI.2.1.1.1 hI.2.2.2.1.1
  refine vp_callSi (va_runV (As := [.int p0]) (rest := []) ⟨hx, hb, hml, hown, hts⟩ (y_hasPlate l dC dI q h0 d k z f hI p0 u hrp) (cwV 1 hts gX11_plated_X11_hasPlate rfl rfl rfl zh_X11_hasPlate_45 ⟨Nat.le_of_ble_eq_true rfl, Nat.le_of_ble_eq_true rfl⟩) ⟨px_fb, va_recv hK hP (ci := 10) (q0 := kk_1) rfl hk_2, fun U hU hW => ⟨rfl, px_to hU hW hP hK hN hXN⟩⟩ rfl rfl hl.1 rfl (lv_room (Nat.le_of_ble_eq_true rfl)) dX11_plated_2 ⟨Nat.le_of_ble_eq_true rfl, Nat.le_of_ble_eq_true rfl⟩).run (fun r hw => ?_)
  rcases hw with ⟨hw, hpp_9⟩ | ⟨hw, hpp_9, hbw_8, gp_3, bp_4, hp_5, hp_6, hp_7⟩
  ·
    subst hw
    refine lv_if_eq (tgt := 22) hx hb dX11_plated_5 (by decide) (fun c_10 => ?_) (fun c_10 => absurd (by decide) c_10)
    refine lv_iconst (v := (-1)) hx hb dX11_plated_22 (by decide) ?_
    exact W.iret (v := (-1)) hx hb hr (fun t ht hW => ⟨_, rfl, (pld_n hpp_9 (rp_01 hrp.2.1)).symm, ht⟩) (fun q h => absurd h List.not_mem_nil) dX11_plated_23
  ·
    subst hw
    refine lv_if_eq (tgt := 22) hx hb dX11_plated_5 (by decide) (fun c_11 => absurd c_11 (by decide)) (fun c_11 => ?_)
    refine lv_aload_n hx hb dX11_plated_8 rfl (lv_at hl 0 rfl) ?_
    obtain ⟨kk_12, hk_13⟩ := pl_at hI.2.1.1.1 hI.2.2.2.1.1
    refine va_get (D := (dC, dI)) (ci := 10) (v := .ref (d 1)) (C := RX11) (T := TX11) (N := 9) hx hb hts zl_X11_plated_X11 hown hK hP kk_12 hk_13 rfl 1 (by decide) (hts (.fieldLink RX11 15 "PageOne" "plates" "[LPageOne$Sheet;") (zat q_wsX11_plated k_wsX11_plated 113 rfl (by decide +kernel))) (fun _ h9 => h9) rfl dX11_plated_9 ?_
    refine lv_iload_n hx hb dX11_plated_12 rfl (lv_at hl 1 rfl) ?_
    obtain ⟨kk_14, hk_15⟩ := pl_at hI.2.1.2.2.1.1 hp_5
    refine va_aldq hx hb hK hP kk_14 2 hk_15 rfl (vin hbw_8 (by decide)) dX11_plated_13 ?_
    rw [hp_6]
    refine W.eq (g2 := F0 m 14 ls [.ref bp_4]) rfl ?_
    refine lv_iload_n hx hb dX11_plated_14 rfl (lv_at hl 2 rfl) ?_
    refine lv_iload_n hx hb dX11_plated_15 rfl (lv_at hl 3 rfl) ?_
    obtain ⟨la_16, ca_17, m_18, dd_19, ii_20, hs_21, ht_22, ht_23⟩ := x_sh hI hp_7
    obtain ⟨g_24, hs_25, hg_26⟩ := x_ln hI ht_22
    obtain ⟨g_27, hs_28⟩ := x_ce hI ht_23
    obtain ⟨kk_29, hk_30⟩ := pl_at hp_7.1 hs_21
    refine vp_callSi (va_runV (As := [.int p1, .int p2]) (rest := []) ⟨hx, hb, hml, hown, hts⟩ (y_at l dC dI q h0 d k z f hI bp_4 la_16 ca_17 m_18 dd_19 ii_20 g_24 g_27 hp_7 hs_21 ht_22 ht_23 hs_25 hg_26 hs_28 p1 p2) (cwV 2 hts gX11_plated_X9_at rfl rfl rfl zh_X9_at_31 ⟨Nat.le_of_ble_eq_true rfl, Nat.le_of_ble_eq_true rfl⟩) ⟨px_fb, va_recv hK hP (ci := 8) (q0 := kk_29) rfl hk_30, fun U hU hW => ⟨rfl, px_to hU hW hP hK hN hXN⟩⟩ rfl rfl hl.1 rfl (lv_room (Nat.le_of_ble_eq_true rfl)) dX11_plated_16 ⟨Nat.le_of_ble_eq_true rfl, Nat.le_of_ble_eq_true rfl⟩).run (fun r hw => ?_)
    generalize r = zr_31 at hw ⊢
    have hzr_31 := hw
    refine lv_goto (tgt := 23) hx hb dX11_plated_19 (by decide) ?_
    exact W.iret (v := zr_31) hx hb hr (fun t ht hW => ⟨_, rfl, (by have hq9 := ((rp_pl hrp.2.1 hp_5 (clp hbw_8)).2 _ hp_6).2.2 _ _ _ _ _ hs_21; obtain ⟨P, hP1, -, eP⟩ := exN hbw_8 (by decide); have h11 : (11 : Int32).toInt = 11 := rfl; subst eP; rw [nI_clamp (by omega)] at hq9; unfold mPlated; rw [if_pos hpp_9.1, if_neg (by rw [hpp_9.2]; decide), hzr_31]; exact shAtR (by omega) (hq9.2.2.1 _ hs_25) (hq9.2.2.2 _ hs_28) hg_26 _ _), ht⟩) (fun q h => absurd h List.not_mem_nil) dX11_plated_23
set_option maxHeartbeats 4000000 in
set_option maxRecDepth 100000 in
theorem y_isFresh (l : Launch) (dC : Nat → ClassId) (dI : Nat → Nat → Nat) (q : Nat → ClassId) (h0 : Nat) (d : Nat → Nat) (k : Nat → Int32) (z : gS) (f : xF) (hI : xI q h0 d k z f) (p0 : Int32) (u : mS) (hrp : rep q d u z f) (hk2 : k 2 = u.1 38) (hk3 : k 3 = u.1 39) : Met l yX11_isFresh wsX11_isFresh ({ frames := 3, cells := 0, slots := 0, locals := 63 }) (va_Pc [.ref h0, .int p0] (PX dC dI (va_pl z.1 f) (xT q))) (vp_Si (fun r => (r = 0 ∧ ¬ frP u p0) ∨ (r = 1 ∧ frP u p0 ∧ xPl q d z f p0))) 0 0 (fun _ => False) := by
  refine Met.ofW (cc := cX11_isFresh) (maxL := 2) (ret := (some .boolean)) (by decide) rfl ?_
  intro p e s m args below meth c s₁ B hml hv
  obtain ⟨rfl, ⟨hP, hK, hN⟩, hXN⟩ := hv
  have hx := B.exec
  have hb := B.bytes
  have hr := B.returns
  have hts := atoms_spec (ws := wsX11_isFresh) B.pre
  have hown : s.vm.findClass RX11 = some m.cls := findClass_of_methodNamed B.named
  have hlocks := B.notSynchronized
  have hl := lv_entry ([.ref h0, .int p0]) (n := 2) (Nat.le_of_ble_eq_true rfl)
  rw [lg_entry_eq]
  generalize (lg_sl ([.ref h0, .int p0]) ++ List.replicate (2 - (lg_sl ([.ref h0, .int p0])).length) Slot.unset).toArray = ls at hl ⊢
  have hl : lv_has ls 2 [(0, .ref h0), (1, .int p0)] := hl
  refine lv_aload_n hx hb dX11_isFresh_0 rfl (lv_at hl 0 rfl) ?_
  refine lv_iload_n hx hb dX11_isFresh_1 rfl (lv_at hl 1 rfl) ?_
  obtain ⟨kk_1, hk_2⟩ := pl_at hI.2.1.1.1 hI.2.2.2.1.1
  refine vp_callSi (va_runV (As := [.int p0]) (rest := []) ⟨hx, hb, hml, hown, hts⟩ (y_hasPlate l dC dI q h0 d k z f hI p0 u hrp) (cwV 1 hts gX11_isFresh_X11_hasPlate rfl rfl rfl zh_X11_hasPlate_45 ⟨Nat.le_of_ble_eq_true rfl, Nat.le_of_ble_eq_true rfl⟩) ⟨px_fb, va_recv hK hP (ci := 10) (q0 := kk_1) rfl hk_2, fun U hU hW => ⟨rfl, px_to hU hW hP hK hN hXN⟩⟩ rfl rfl hl.1 rfl (lv_room (Nat.le_of_ble_eq_true rfl)) dX11_isFresh_2 ⟨Nat.le_of_ble_eq_true rfl, Nat.le_of_ble_eq_true rfl⟩).run (fun r hw => ?_)
  rcases hw with ⟨hw, hpp_9⟩ | ⟨hw, hpp_9, hbw_8, gp_3, bp_4, hp_5, hp_6, hp_7⟩
  ·
    subst hw
    refine lv_if_eq (tgt := 44) hx hb dX11_isFresh_5 (by decide) (fun c_10 => ?_) (fun c_10 => absurd (by decide) c_10)
    refine lv_iconst (v := 0) hx hb dX11_isFresh_44 (by decide) ?_
    exact W.zret (v := 0) hx hb hr (by decide) (fun t ht hW => ⟨_, rfl, (Or.inl ⟨rfl, fun h => hpp_9 h.1⟩), ht⟩) (fun q h => absurd h List.not_mem_nil) dX11_isFresh_45
  ·
    subst hw
    refine lv_if_eq (tgt := 44) hx hb dX11_isFresh_5 (by decide) (fun c_11 => absurd c_11 (by decide)) (fun c_11 => ?_)
    refine lv_aload_n hx hb dX11_isFresh_8 rfl (lv_at hl 0 rfl) ?_
    obtain ⟨kk_12, hk_13⟩ := pl_at hI.2.1.1.1 hI.2.2.2.1.1
    refine va_get (D := (dC, dI)) (ci := 10) (v := .ref (d 1)) (C := RX11) (T := TX11) (N := 9) hx hb hts zl_X11_isFresh_X11 hown hK hP kk_12 hk_13 rfl 1 (by decide) (hts (.fieldLink RX11 15 "PageOne" "plates" "[LPageOne$Sheet;") (zat q_wsX11_isFresh k_wsX11_isFresh 113 rfl (by decide +kernel))) (fun _ h9 => h9) rfl dX11_isFresh_9 ?_
    refine lv_iload_n hx hb dX11_isFresh_12 rfl (lv_at hl 1 rfl) ?_
    obtain ⟨kk_14, hk_15⟩ := pl_at hI.2.1.2.2.1.1 hp_5
    refine va_aldq hx hb hK hP kk_14 2 hk_15 rfl (vin hbw_8 (by decide)) dX11_isFresh_13 ?_
    rw [hp_6]
    refine W.eq (g2 := F0 m 14 ls [.ref bp_4]) rfl ?_
    obtain ⟨la_16, ca_17, m_18, dd_19, ii_20, hs_21, ht_22, ht_23⟩ := x_sh hI hp_7
    obtain ⟨kk_24, hk_25⟩ := pl_at hp_7.1 hs_21
    refine va_get (D := (dC, dI)) (ci := 8) (v := .int dd_19) (C := RX9) (T := TX9) (N := 5) hx hb hts zl_X11_isFresh_X9 hown hK hP kk_24 hk_25 rfl 3 (by decide) (hts (.fieldLink RX11 210 "PageOne$Sheet" "day" "I") (zat q_wsX11_isFresh k_wsX11_isFresh 96 rfl (by decide +kernel))) (fun _ h9 => h9) rfl dX11_isFresh_14 ?_
    refine lv_aload_n hx hb dX11_isFresh_17 rfl (lv_at hl 0 rfl) ?_
    obtain ⟨kk_26, hk_27⟩ := pl_at hI.2.1.1.1 hI.2.2.2.1.1
    refine va_get (D := (dC, dI)) (ci := 10) (v := .int (k 2)) (C := RX11) (T := TX11) (N := 9) hx hb hts zl_X11_isFresh_X11 hown hK hP kk_26 hk_27 rfl 7 (by decide) (hts (.fieldLink RX11 41 "PageOne" "today" "I") (zat q_wsX11_isFresh k_wsX11_isFresh 119 rfl (by decide +kernel))) (fun _ h9 => h9) rfl dX11_isFresh_18 ?_
    refine lv_icmp_ne (tgt := 44) hx hb dX11_isFresh_21 (by decide) (fun c_28 => ?_) (fun c_28 => ?_)
    ·
      refine lv_iconst (v := 0) hx hb dX11_isFresh_44 (by decide) ?_
      exact W.zret (v := 0) hx hb hr (by decide) (fun t ht hW => ⟨_, rfl, (Or.inl ⟨rfl, fun h => c_28 ((((rp_pl hrp.2.1 hp_5 (clp hbw_8)).2 _ hp_6).2.2 _ _ _ _ _ hs_21).1.trans (h.2.1.trans hk2.symm))⟩), ht⟩) (fun q h => absurd h List.not_mem_nil) dX11_isFresh_45
    ·
      refine lv_aload_n hx hb dX11_isFresh_24 rfl (lv_at hl 0 rfl) ?_
      obtain ⟨kk_29, hk_30⟩ := pl_at hI.2.1.1.1 hI.2.2.2.1.1
      refine va_get (D := (dC, dI)) (ci := 10) (v := .ref (d 1)) (C := RX11) (T := TX11) (N := 9) hx hb hts zl_X11_isFresh_X11 hown hK hP kk_29 hk_30 rfl 1 (by decide) (hts (.fieldLink RX11 15 "PageOne" "plates" "[LPageOne$Sheet;") (zat q_wsX11_isFresh k_wsX11_isFresh 113 rfl (by decide +kernel))) (fun _ h9 => h9) rfl dX11_isFresh_25 ?_
      refine lv_iload_n hx hb dX11_isFresh_28 rfl (lv_at hl 1 rfl) ?_
      obtain ⟨kk_31, hk_32⟩ := pl_at hI.2.1.2.2.1.1 hp_5
      refine va_aldq hx hb hK hP kk_31 2 hk_32 rfl (vin hbw_8 (by decide)) dX11_isFresh_29 ?_
      rw [hp_6]
      refine W.eq (g2 := F0 m 30 ls [.ref bp_4]) rfl ?_
      obtain ⟨kk_33, hk_34⟩ := pl_at hp_7.1 hs_21
      refine va_get (D := (dC, dI)) (ci := 8) (v := .int ii_20) (C := RX9) (T := TX9) (N := 5) hx hb hts zl_X11_isFresh_X9 hown hK hP kk_33 hk_34 rfl 4 (by decide) (hts (.fieldLink RX11 213 "PageOne$Sheet" "edition" "I") (zat q_wsX11_isFresh k_wsX11_isFresh 98 rfl (by decide +kernel))) (fun _ h9 => h9) rfl dX11_isFresh_30 ?_
      refine lv_aload_n hx hb dX11_isFresh_33 rfl (lv_at hl 0 rfl) ?_
      obtain ⟨kk_35, hk_36⟩ := pl_at hI.2.1.1.1 hI.2.2.2.1.1
      refine va_get (D := (dC, dI)) (ci := 10) (v := .int (k 3)) (C := RX11) (T := TX11) (N := 9) hx hb hts zl_X11_isFresh_X11 hown hK hP kk_35 hk_36 rfl 8 (by decide) (hts (.fieldLink RX11 44 "PageOne" "editionNow" "I") (zat q_wsX11_isFresh k_wsX11_isFresh 120 rfl (by decide +kernel))) (fun _ h9 => h9) rfl dX11_isFresh_34 ?_
      refine lv_icmp_ne (tgt := 44) hx hb dX11_isFresh_37 (by decide) (fun c_37 => ?_) (fun c_37 => ?_)
      ·
        refine lv_iconst (v := 0) hx hb dX11_isFresh_44 (by decide) ?_
        exact W.zret (v := 0) hx hb hr (by decide) (fun t ht hW => ⟨_, rfl, (Or.inl ⟨rfl, fun h => c_37 ((((rp_pl hrp.2.1 hp_5 (clp hbw_8)).2 _ hp_6).2.2 _ _ _ _ _ hs_21).2.1.trans (h.2.2.trans hk3.symm))⟩), ht⟩) (fun q h => absurd h List.not_mem_nil) dX11_isFresh_45
      ·
        refine lv_iconst (v := 1) hx hb dX11_isFresh_40 (by decide) ?_
        refine lv_goto (tgt := 45) hx hb dX11_isFresh_41 (by decide) ?_
        exact W.zret (v := 1) hx hb hr (by decide) (fun t ht hW => ⟨_, rfl, (Or.inr ⟨rfl, ⟨hpp_9, (((rp_pl hrp.2.1 hp_5 (clp hbw_8)).2 _ hp_6).2.2 _ _ _ _ _ hs_21).1.symm.trans (c_28.trans hk2), (((rp_pl hrp.2.1 hp_5 (clp hbw_8)).2 _ hp_6).2.2 _ _ _ _ _ hs_21).2.1.symm.trans (c_37.trans hk3)⟩, ⟨hbw_8, gp_3, bp_4, hp_5, hp_6, hp_7⟩⟩), ht⟩) (fun q h => absurd h List.not_mem_nil) dX11_isFresh_45
theorem frP_now {u : mS} {p : Int32} (hb : bw p 0 11 = true) (h01 : u.2 40 p.toNatClampNeg = 0 ∨ u.2 40 p.toNatClampNeg = 1) : frP u p ↔ mNow u p = true := by
  unfold frP hpP mNow
  rw [Bool.and_eq_true, Bool.and_eq_true, Bool.not_eq_true', decide_eq_false_iff_not, decide_eq_true_iff, decide_eq_true_iff]
  constructor
  · intro h; exact ⟨by rw [h.1.2]; decide, h.2⟩
  · intro h
    rcases h01 with e | e
    · exact absurd e h.1
    · exact ⟨⟨hb, e⟩, h.2⟩
set_option maxHeartbeats 4000000 in
set_option maxRecDepth 100000 in
theorem y_freshPlates_l {p : Program} {l : Launch} {e : Env} {R : Room} {s : State} {m : MethodId} {args : Array Value} {below : List Frame} {meth : Method} {c : Code} {Q : State → Prop} {cells slots : Nat} {dC : Nat → ClassId} {dI : Nat → Nat → Nat} {q : Nat → ClassId} {h0 : Nat} {d : Nat → Nat} {k : Nat → Int32} {z : gS} {f : xF} {H : Heap} {locs : List Loc} (hI : xI q h0 d k z f) (hx : p.tables.exec = Jvm.exec) (hb : c.code = cX11_freshPlates) (hml : c.maxLocals = 3) (hts : ∀ w ∈ wsX11_freshPlates, w.before args s = true) (hown : s.vm.findClass RX11 = some m.cls) (hN : NN s) (hXN : XN s) (hK : va_K (dC, dI) vwCl (xT q) s) (hRf : 4 ≤ R.frames) (hRl : 84 ≤ R.locals) (hRc : cells ≤ R.cells) (hRs : slots ≤ R.slots) (hP : va_P (dC, dI) vwCl (va_pl z.1 f) H) {u : mS} (hrp : rep q d u z f) (hk2 : k 2 = u.1 38) (hk3 : k 3 = u.1 39) (kx27 : ∀ (a9 : Int32) (ls : Array Slot), a9 = mCnt u 12 → lv_has ls 3 [(1, .int a9), (0, .ref h0)] → W p l e R s m args below meth c H locs cells slots Q (F0 m 27 ls [])) : ∀ (kk i : Nat) (a : Int32) (ls : Array Slot), i ≤ 12 → 12 - i < kk → a = mCnt u i → lv_has ls 3 [(2, .int (nI i)), (1, .int a), (0, .ref h0)] → W p l e R s m args below meth c H locs cells slots Q (F0 m 4 ls []) := by
  intro kk
  induction kk with
  | zero => intro i a ls h1 h2; exact absurd h2 (Nat.not_lt_zero _)
  | succ kk ih =>
    intro i a ls hi hkk hg hl
    refine lv_iload_n hx hb dX11_freshPlates_4 rfl (lv_at hl 0 rfl) ?_
    refine lv_bipush (v := 12) hx hb dX11_freshPlates_5 (by decide) ?_
    refine lv_icmp_ge (tgt := 27) hx hb dX11_freshPlates_7 (by decide) (fun c_1 => ?_) (fun c_1 => ?_)
    ·
      have hie : i = 12 := lp_eq rfl (by decide) hi c_1
      exact kx27 _ ls (by rw [← hie]; exact hg) (lv_sub hl [1, 2] rfl)
    ·
      have hlt : i < 12 := lp_lt rfl (by decide) hi c_1
      refine lv_aload_n hx hb dX11_freshPlates_10 rfl (lv_at hl 2 rfl) ?_
      refine lv_iload_n hx hb dX11_freshPlates_11 rfl (lv_at hl 0 rfl) ?_
      obtain ⟨kk_2, hk_3⟩ := pl_at hI.2.1.1.1 hI.2.2.2.1.1
      refine vp_callSi (va_runV (As := [.int (nI i)]) (rest := []) ⟨hx, hb, hml, hown, hts⟩ (y_isFresh l dC dI q h0 d k z f hI (nI i) u hrp hk2 hk3) (cwV 1 hts gX11_freshPlates_X11_isFresh rfl rfl rfl zh_X11_isFresh_46 ⟨Nat.le_trans (Nat.le_of_ble_eq_true rfl) hRf, Nat.le_trans (Nat.le_of_ble_eq_true rfl) hRl⟩) ⟨px_fb, va_recv hK hP (ci := 10) (q0 := kk_2) rfl hk_3, fun U hU hW => ⟨rfl, px_to hU hW hP hK hN hXN⟩⟩ rfl rfl hl.1 rfl (lv_room (Nat.le_of_ble_eq_true rfl)) dX11_freshPlates_12 ⟨hRc, hRs⟩).run (fun r hw => ?_)
      rcases hw with ⟨hw, hpp_10⟩ | ⟨hw, hpp_10, hbw_9, gp_4, bp_5, hp_6, hp_7, hp_8⟩
      ·
        subst hw
        refine lv_if_eq (tgt := 21) hx hb dX11_freshPlates_15 (by decide) (fun c_11 => ?_) (fun c_11 => absurd (by decide) c_11)
        refine lv_iinc (v := (nI (i + 1))) (lv' := [(2, .int (nI (i + 1))), (1, .int a), (0, .ref h0)]) hx hb dX11_freshPlates_21 hl (k := 0) rfl (nI_1 i) (by decide) rfl (fun ls hl => ?_)
        refine lv_goto (tgt := 4) hx hb dX11_freshPlates_24 (by decide) ?_
        exact ih (i + 1) _ ls (by omega) (by omega) (by rw [hg]; show _ = mCnt u i + (if mNow u (nI i) = true then 1 else 0); rw [if_neg (fun h => hpp_10 ((frP_now (bw11 hlt) (rp_01 hrp.2.1 _ (by rw [nI_clamp (by omega)]; exact hlt))).mpr h))]; exact (Int32.add_zero _).symm) (lv_sub hl [0, 1, 2] rfl)
      ·
        subst hw
        refine lv_if_eq (tgt := 21) hx hb dX11_freshPlates_15 (by decide) (fun c_12 => absurd c_12 (by decide)) (fun c_12 => ?_)
        obtain ⟨x_13, ex_13⟩ : ∃ y : Int32, y = a + 1 := ⟨_, rfl⟩
        refine lv_iinc (v := x_13) (lv' := [(1, .int x_13), (2, .int (nI i)), (0, .ref h0)]) hx hb dX11_freshPlates_18 hl (k := 1) rfl (by rw [ex_13]; rfl) (by decide) rfl (fun ls hl => ?_)
        refine lv_iinc (v := (nI (i + 1))) (lv' := [(2, .int (nI (i + 1))), (1, .int x_13), (0, .ref h0)]) hx hb dX11_freshPlates_21 hl (k := 1) rfl (nI_1 i) (by decide) rfl (fun ls hl => ?_)
        refine lv_goto (tgt := 4) hx hb dX11_freshPlates_24 (by decide) ?_
        exact ih (i + 1) _ ls (by omega) (by omega) (by rw [ex_13, hg]; show _ = mCnt u i + (if mNow u (nI i) = true then 1 else 0); rw [if_pos ((frP_now (bw11 hlt) (rp_01 hrp.2.1 _ (by rw [nI_clamp (by omega)]; exact hlt))).mp hpp_10)]) (lv_sub hl [0, 1, 2] rfl)
set_option maxHeartbeats 4000000 in
set_option maxRecDepth 100000 in
theorem y_freshPlates (l : Launch) (dC : Nat → ClassId) (dI : Nat → Nat → Nat) (q : Nat → ClassId) (h0 : Nat) (d : Nat → Nat) (k : Nat → Int32) (z : gS) (f : xF) (hI : xI q h0 d k z f) (u : mS) (hrp : rep q d u z f) (hk2 : k 2 = u.1 38) (hk3 : k 3 = u.1 39) : Met l yX11_freshPlates wsX11_freshPlates ({ frames := 4, cells := 0, slots := 0, locals := 84 }) (va_Pc [.ref h0] (PX dC dI (va_pl z.1 f) (xT q))) (vp_Si (fun r => r = mCnt u 12)) 0 0 (fun _ => False) := by
  refine Met.ofW (cc := cX11_freshPlates) (maxL := 3) (ret := (some .int)) (by decide) rfl ?_
  intro p e s m args below meth c s₁ B hml hv
  obtain ⟨rfl, ⟨hP, hK, hN⟩, hXN⟩ := hv
  have hx := B.exec
  have hb := B.bytes
  have hr := B.returns
  have hts := atoms_spec (ws := wsX11_freshPlates) B.pre
  have hown : s.vm.findClass RX11 = some m.cls := findClass_of_methodNamed B.named
  have hlocks := B.notSynchronized
  have hl := lv_entry ([.ref h0]) (n := 3) (Nat.le_of_ble_eq_true rfl)
  rw [lg_entry_eq]
  generalize (lg_sl ([.ref h0]) ++ List.replicate (3 - (lg_sl ([.ref h0])).length) Slot.unset).toArray = ls at hl ⊢
  have hl : lv_has ls 3 [(0, .ref h0)] := hl
  refine lv_iconst (v := 0) hx hb dX11_freshPlates_0 (by decide) ?_
  refine lv_istore_n (lv' := [(1, .int 0), (0, .ref h0)]) hx hb dX11_freshPlates_1 rfl hl (by decide) rfl (fun ls hl => ?_)
  refine lv_iconst (v := 0) hx hb dX11_freshPlates_2 (by decide) ?_
  refine lv_istore_n (lv' := [(2, .int 0), (1, .int 0), (0, .ref h0)]) hx hb dX11_freshPlates_3 rfl hl (by decide) rfl (fun ls hl => ?_)
  refine y_freshPlates_l hI hx hb hml hts hown hN hXN hK (Nat.le_of_ble_eq_true rfl) (Nat.le_of_ble_eq_true rfl) (Nat.le_of_ble_eq_true rfl) (Nat.le_of_ble_eq_true rfl) hP hrp hk2 hk3 (fun a9 ls ha9 hl => ?_) 13 0 0 ls (by decide) (by decide) rfl (lv_sub hl [0, 1, 2] rfl)
  refine lv_iload_n hx hb dX11_freshPlates_27 rfl (lv_at hl 0 rfl) ?_
  exact W.iret (v := a9) hx hb hr (fun t ht hW => ⟨_, rfl, ha9, ht⟩) (fun q h => absurd h List.not_mem_nil) dX11_freshPlates_28
set_option maxHeartbeats 4000000 in
set_option maxRecDepth 100000 in
theorem y_about (l : Launch) (dC : Nat → ClassId) (dI : Nat → Nat → Nat) (q : Nat → ClassId) (h0 : Nat) (d : Nat → Nat) (k : Nat → Int32) (z : gS) (f : xF) (hI : xI q h0 d k z f) (p0 : Int32) (u : mS) (hrp : rep q d u z f) (hk0 : k 0 = u.1 3) (hk1 : k 1 = u.1 28) (hk2 : k 2 = u.1 38) (hk3 : k 3 = u.1 39) : Met l yX11_about wsX11_about ({ frames := 5, cells := 0, slots := 0, locals := 106 }) (va_Pc [.ref h0, .int p0] (PX dC dI (va_pl z.1 f) (xT q))) (vp_Si (fun r => r = mAbout u p0)) 0 0 (fun _ => False) := by
  refine Met.ofW (cc := cX11_about) (maxL := 2) (ret := (some .int)) (by decide) rfl ?_
  intro p e s m args below meth c s₁ B hml hv
  obtain ⟨rfl, ⟨hP, hK, hN⟩, hXN⟩ := hv
  have hx := B.exec
  have hb := B.bytes
  have hr := B.returns
  have hts := atoms_spec (ws := wsX11_about) B.pre
  have hown : s.vm.findClass RX11 = some m.cls := findClass_of_methodNamed B.named
  have hlocks := B.notSynchronized
  have hl := lv_entry ([.ref h0, .int p0]) (n := 2) (Nat.le_of_ble_eq_true rfl)
  rw [lg_entry_eq]
  generalize (lg_sl ([.ref h0, .int p0]) ++ List.replicate (2 - (lg_sl ([.ref h0, .int p0])).length) Slot.unset).toArray = ls at hl ⊢
  have hl : lv_has ls 2 [(0, .ref h0), (1, .int p0)] := hl
  refine lv_iload_n hx hb dX11_about_0 rfl (lv_at hl 1 rfl) ?_
  rcases Classical.em (p0 = 0) with s_1 | s_1
  ·
    subst s_1
    refine lv_tableIn (tgt := 36) (off := 35) hx hb dX11_about_1 (by decide) (by decide) (by decide) (by decide) ?_
    refine lv_aload_n hx hb dX11_about_36 rfl (lv_at hl 0 rfl) ?_
    obtain ⟨kk_2, hk_3⟩ := pl_at hI.2.1.1.1 hI.2.2.2.1.1
    refine va_get (D := (dC, dI)) (ci := 10) (v := .int (k 2)) (C := RX11) (T := TX11) (N := 9) hx hb hts zl_X11_about_X11 hown hK hP kk_2 hk_3 rfl 7 (by decide) (hts (.fieldLink RX11 41 "PageOne" "today" "I") (zat q_wsX11_about k_wsX11_about 119 rfl (by decide +kernel))) (fun _ h9 => h9) rfl dX11_about_37 ?_
    exact W.iret (v := (k 2)) hx hb hr (fun t ht hW => ⟨_, rfl, (by unfold mAbout; rw [if_pos rfl]; exact hk2), ht⟩) (fun q h => absurd h List.not_mem_nil) dX11_about_40
  ·
    rcases Classical.em (p0 = 1) with s_4 | s_4
    ·
      subst s_4
      refine lv_tableIn (tgt := 41) (off := 40) hx hb dX11_about_1 (by decide) (by decide) (by decide) (by decide) ?_
      refine lv_aload_n hx hb dX11_about_41 rfl (lv_at hl 0 rfl) ?_
      obtain ⟨kk_5, hk_6⟩ := pl_at hI.2.1.1.1 hI.2.2.2.1.1
      refine va_get (D := (dC, dI)) (ci := 10) (v := .int (k 3)) (C := RX11) (T := TX11) (N := 9) hx hb hts zl_X11_about_X11 hown hK hP kk_5 hk_6 rfl 8 (by decide) (hts (.fieldLink RX11 44 "PageOne" "editionNow" "I") (zat q_wsX11_about k_wsX11_about 120 rfl (by decide +kernel))) (fun _ h9 => h9) rfl dX11_about_42 ?_
      exact W.iret (v := (k 3)) hx hb hr (fun t ht hW => ⟨_, rfl, (by unfold mAbout; rw [if_neg (by decide), if_pos rfl]; exact hk3), ht⟩) (fun q h => absurd h List.not_mem_nil) dX11_about_45
    ·
      rcases Classical.em (p0 = 2) with s_7 | s_7
      ·
        subst s_7
        refine lv_tableIn (tgt := 46) (off := 45) hx hb dX11_about_1 (by decide) (by decide) (by decide) (by decide) ?_
        refine lv_aload_n hx hb dX11_about_46 rfl (lv_at hl 0 rfl) ?_
        obtain ⟨kk_8, hk_9⟩ := pl_at hI.2.1.1.1 hI.2.2.2.1.1
        refine va_get (D := (dC, dI)) (ci := 10) (v := .int (k 0)) (C := RX11) (T := TX11) (N := 9) hx hb hts zl_X11_about_X11 hown hK hP kk_8 hk_9 rfl 3 (by decide) (hts (.fieldLink RX11 24 "PageOne" "itemCount" "I") (zat q_wsX11_about k_wsX11_about 115 rfl (by decide +kernel))) (fun _ h9 => h9) rfl dX11_about_47 ?_
        exact W.iret (v := (k 0)) hx hb hr (fun t ht hW => ⟨_, rfl, (by unfold mAbout; rw [if_neg (by decide), if_neg (by decide), if_pos rfl]; exact hk0), ht⟩) (fun q h => absurd h List.not_mem_nil) dX11_about_50
      ·
        rcases Classical.em (p0 = 3) with s_10 | s_10
        ·
          subst s_10
          refine lv_tableIn (tgt := 51) (off := 50) hx hb dX11_about_1 (by decide) (by decide) (by decide) (by decide) ?_
          refine lv_aload_n hx hb dX11_about_51 rfl (lv_at hl 0 rfl) ?_
          obtain ⟨kk_11, hk_12⟩ := pl_at hI.2.1.1.1 hI.2.2.2.1.1
          refine va_get (D := (dC, dI)) (ci := 10) (v := .int (k 1)) (C := RX11) (T := TX11) (N := 9) hx hb hts zl_X11_about_X11 hown hK hP kk_11 hk_12 rfl 5 (by decide) (hts (.fieldLink RX11 34 "PageOne" "actCount" "I") (zat q_wsX11_about k_wsX11_about 117 rfl (by decide +kernel))) (fun _ h9 => h9) rfl dX11_about_52 ?_
          exact W.iret (v := (k 1)) hx hb hr (fun t ht hW => ⟨_, rfl, (by unfold mAbout; rw [if_neg (by decide), if_neg (by decide), if_neg (by decide), if_pos rfl]; exact hk1), ht⟩) (fun q h => absurd h List.not_mem_nil) dX11_about_55
        ·
          rcases Classical.em (p0 = 4) with s_13 | s_13
          ·
            subst s_13
            refine lv_tableIn (tgt := 56) (off := 55) hx hb dX11_about_1 (by decide) (by decide) (by decide) (by decide) ?_
            refine lv_aload_n hx hb dX11_about_56 rfl (lv_at hl 0 rfl) ?_
            obtain ⟨kk_14, hk_15⟩ := pl_at hI.2.1.1.1 hI.2.2.2.1.1
            refine vp_callSi (va_runV (As := []) (rest := []) ⟨hx, hb, hml, hown, hts⟩ (y_freshPlates l dC dI q h0 d k z f hI u hrp hk2 hk3) (cwV 0 hts gX11_about_X11_freshPlates rfl rfl rfl zh_X11_freshPlates_48 ⟨Nat.le_of_ble_eq_true rfl, Nat.le_of_ble_eq_true rfl⟩) ⟨px_fb, va_recv hK hP (ci := 10) (q0 := kk_14) rfl hk_15, fun U hU hW => ⟨rfl, px_to hU hW hP hK hN hXN⟩⟩ rfl rfl hl.1 rfl (lv_room (Nat.le_of_ble_eq_true rfl)) dX11_about_57 ⟨Nat.le_of_ble_eq_true rfl, Nat.le_of_ble_eq_true rfl⟩).run (fun r hw => ?_)
            obtain rfl : r = mCnt u 12 := hw
            exact W.iret (v := (mCnt u 12)) hx hb hr (fun t ht hW => ⟨_, rfl, (by unfold mAbout; rw [if_neg (by decide), if_neg (by decide), if_neg (by decide), if_neg (by decide), if_pos rfl]), ht⟩) (fun q h => absurd h List.not_mem_nil) dX11_about_60
          ·
            refine lv_tableOut (tgt := 61) hx hb dX11_about_1 (sw_out4 s_1 s_4 s_7 s_10 s_13) (by decide) ?_
            refine lv_iconst (v := (-1)) hx hb dX11_about_61 (by decide) ?_
            exact W.iret (v := (-1)) hx hb hr (fun t ht hW => ⟨_, rfl, (by unfold mAbout; rw [if_neg s_1, if_neg s_4, if_neg s_7, if_neg s_10, if_neg s_13]), ht⟩) (fun q h => absurd h List.not_mem_nil) dX11_about_62
theorem kT_r (k : Int32) : 10 ≤ kT k ∧ kT k ≤ 15 := by
  unfold kT
  repeat' split
  all_goals omega
theorem rI_itm {q d u z f} (h : rIs q d u z f) {i : Nat} (hi : i < (u.1 3).toNatClampNeg) : itm z (d (2000 + i)) := tg_itm (h.2 i hi).1.1 (kT_r _)
theorem rI_at {q d u z f} (h : rIs q d u z f) {g : Nat → Option Nat} (hg : f (d 2) = aR (q 3) 80 g) {i b : Nat} (hi : i < (u.1 3).toNatClampNeg) (hb : g i = some b) : b = d (2000 + i) := by
  obtain ⟨⟨g2, a1, a2⟩, -⟩ := h
  have eg := (aR_inj (hg.symm.trans a1)).2
  exact Option.some.inj (hb.symm.trans (by rw [eg]; exact a2 i hi))
def itO (u : mS) (d : Nat → Nat) (p : Int32) (r : Option Nat) : Prop := (r = none ∧ ¬ bw p 0 (u.1 3 - 1) = true) ∨ (∃ i, i < (u.1 3).toNatClampNeg ∧ p = nI i ∧ r = some (d (2000 + i)))
theorem itO_s {q d u z f} (h : rIs q d u z f) {g : Nat → Option Nat} (hg : f (d 2) = aR (q 3) 80 g) {p : Int32} {b : Nat} (hn : bw (u.1 3) 0 80 = true) (hp : bw p 0 (u.1 3 - 1) = true) (hb : g p.toNatClampNeg = some b) : itO u d p (some b) := by
  have h1 := vItn hn hp
  obtain ⟨m, m1, e⟩ := nI_of (x := p) (fun q => by have h2 := (bw_iff.mp hp).1; rw [i0] at h2; rw [i32_lt, i0] at q; omega)
  refine Or.inr ⟨m, ?_, e, ?_⟩
  · rw [e, nI_clamp m1] at h1; exact h1
  · rw [e, nI_clamp m1] at h1 hb
    rw [rI_at h hg h1 hb]
set_option maxHeartbeats 4000000 in
set_option maxRecDepth 100000 in
theorem y_itemOf (l : Launch) (dC : Nat → ClassId) (dI : Nat → Nat → Nat) (q : Nat → ClassId) (h0 : Nat) (d : Nat → Nat) (k : Nat → Int32) (z : gS) (f : xF) (hI : xI q h0 d k z f) (p0 : Int32) (u : mS) (hrp : rep q d u z f) (hk0 : k 0 = u.1 3) (hk1 : k 1 = u.1 28) (hk2 : k 2 = u.1 38) (hk3 : k 3 = u.1 39) : Met l yX11_itemOf wsX11_itemOf ({ frames := 1, cells := 0, slots := 0, locals := 22 }) (va_Pc [.ref h0, .int p0] (PX dC dI (va_pl z.1 f) (xT q))) (va_Sq (fun r => itO u d p0 r)) 0 0 (fun _ => False) := by
  refine Met.ofW (cc := cX11_itemOf) (maxL := 2) (ret := (some (.object "PageOne$Item"))) (by decide) rfl ?_
  intro p e s m args below meth c s₁ B hml hv
  obtain ⟨rfl, ⟨hP, hK, hN⟩, hXN⟩ := hv
  have hx := B.exec
  have hb := B.bytes
  have hr := B.returns
  have hts := atoms_spec (ws := wsX11_itemOf) B.pre
  have hown : s.vm.findClass RX11 = some m.cls := findClass_of_methodNamed B.named
  have hlocks := B.notSynchronized
  have hl := lv_entry ([.ref h0, .int p0]) (n := 2) (Nat.le_of_ble_eq_true rfl)
  rw [lg_entry_eq]
  generalize (lg_sl ([.ref h0, .int p0]) ++ List.replicate (2 - (lg_sl ([.ref h0, .int p0])).length) Slot.unset).toArray = ls at hl ⊢
  have hl : lv_has ls 2 [(0, .ref h0), (1, .int p0)] := hl
  refine lv_iload_n hx hb dX11_itemOf_0 rfl (lv_at hl 1 rfl) ?_
  refine lv_iconst (v := 0) hx hb dX11_itemOf_1 (by decide) ?_
  refine lv_aload_n hx hb dX11_itemOf_2 rfl (lv_at hl 0 rfl) ?_
  obtain ⟨kk_1, hk_2⟩ := pl_at hI.2.1.1.1 hI.2.2.2.1.1
  refine va_get (D := (dC, dI)) (ci := 10) (v := .int (k 0)) (C := RX11) (T := TX11) (N := 9) hx hb hts zl_X11_itemOf_X11 hown hK hP kk_1 hk_2 rfl 3 (by decide) (hts (.fieldLink RX11 24 "PageOne" "itemCount" "I") (zat q_wsX11_itemOf k_wsX11_itemOf 115 rfl (by decide +kernel))) (fun _ h9 => h9) rfl dX11_itemOf_3 ?_
  refine lv_iconst (v := 1) hx hb dX11_itemOf_6 (by decide) ?_
  refine lv_isub hx hb dX11_itemOf_7 ?_
  refine vp_callSi (va_runS (As := [.int p0, .int 0, .int ((k 0) - 1)]) (rest := []) ⟨hx, hb, hml, hown, hts⟩ (x_isWithin l dC dI p0 0 ((k 0) - 1)) (va_cwS 3 hts gX11_itemOf_X11_isWithin rfl rfl rfl zh_X11_isWithin_30 ⟨Nat.le_of_ble_eq_true rfl, Nat.le_of_ble_eq_true rfl⟩) ⟨pw_fb, fun U hU hW => ⟨rfl, pw_to hU hW (hP.sub (ws' := []) [] rfl) (hK.sub (tys' := []) [] rfl) hN⟩⟩ rfl rfl hl.1 rfl (lv_room (Nat.le_of_ble_eq_true rfl)) dX11_itemOf_8 ⟨Nat.le_of_ble_eq_true rfl, Nat.le_of_ble_eq_true rfl⟩).run (fun r hw => ?_)
  rcases Bool.eq_false_or_eq_true (bw p0 0 ((k 0) - 1)) with b_3 | b_3
  ·
    obtain rfl : r = 1 := b_t hw b_3
    refine lv_if_eq (tgt := 23) hx hb dX11_itemOf_11 (by decide) (fun c_4 => absurd c_4 (by decide)) (fun c_4 => ?_)
    refine lv_aload_n hx hb dX11_itemOf_14 rfl (lv_at hl 0 rfl) ?_
    obtain ⟨kk_5, hk_6⟩ := pl_at hI.2.1.1.1 hI.2.2.2.1.1
    refine va_get (D := (dC, dI)) (ci := 10) (v := .ref (d 2)) (C := RX11) (T := TX11) (N := 9) hx hb hts zl_X11_itemOf_X11 hown hK hP kk_5 hk_6 rfl 2 (by decide) (hts (.fieldLink RX11 20 "PageOne" "items" "[LPageOne$Item;") (zat q_wsX11_itemOf k_wsX11_itemOf 114 rfl (by decide +kernel))) (fun _ h9 => h9) rfl dX11_itemOf_15 ?_
    refine lv_iload_n hx hb dX11_itemOf_18 rfl (lv_at hl 1 rfl) ?_
    obtain ⟨g_7, hs_8, hn_9, hg_10⟩ := x_itm hI
    obtain ⟨kk_11, hk_12⟩ := pl_at hI.2.1.2.2.2.1.1 hs_8
    refine va_aldq hx hb hK hP kk_11 3 hk_12 rfl (vIt hI.1.1 b_3) dX11_itemOf_19 ?_
    obtain ⟨b_13, hg_14⟩ := hn_9 (p0 : Int32).toNatClampNeg (vItn hI.1.1 b_3)
    have ht_15 := hg_10 (p0 : Int32).toNatClampNeg (vlt (vIt hI.1.1 b_3)) b_13 hg_14
    rw [hg_14]
    refine W.eq (g2 := F0 m 20 ls [.ref b_13]) rfl ?_
    refine lv_goto (tgt := 24) hx hb dX11_itemOf_20 (by decide) ?_
    exact W.aret (v := .ref b_13) hx hb hr (Or.inl ⟨_, rfl⟩) (Or.inr ⟨_, rfl⟩) (fun t ht hW => ⟨some b_13, rfl, (itO_s hrp.2.2.1 hs_8 (by rw [← hk0]; exact hI.1.1) (by rw [← hk0]; exact b_3) hg_14), ht⟩) (fun q h => absurd h List.not_mem_nil) dX11_itemOf_24
  ·
    obtain rfl : r = 0 := b_f hw b_3
    refine lv_if_eq (tgt := 23) hx hb dX11_itemOf_11 (by decide) (fun c_16 => ?_) (fun c_16 => absurd (by decide) c_16)
    refine lv_null hx hb dX11_itemOf_23 ?_
    exact W.aret (v := .null) hx hb hr (Or.inl ⟨_, rfl⟩) (Or.inl rfl) (fun t ht hW => ⟨none, rfl, (Or.inl ⟨rfl, by rw [← hk0]; exact bne b_3⟩), ht⟩) (fun q h => absurd h List.not_mem_nil) dX11_itemOf_24
/-- all that is told of item i -/
theorem it_all {q h0 d k z f u} (hI : xI q h0 d k z f) (h : rIs q d u z f) {i : Nat} (hi : i < (u.1 3).toNatClampNeg) : ∃ (rs : List Value) (n : Nat) (g : Nat → Option Nat) (fg : Nat → Int32), itm z (d (2000 + i)) ∧ f (d (2000 + i)) = .inr (ciT (z.2 (d (2000 + i))).1, itF (nI i) (u.2 4 i) (d (3000 + i)) (u.2 22 i) (d (4000 + i)) rs) ∧ tg z (d (3000 + i)) 16 ∧ f (d (3000 + i)) = aR (q 5) n g ∧ 1 ≤ n ∧ n ≤ 6 ∧ bw (u.2 22 i) 0 (nI n) = true ∧ pcL z g (u.2 22 i).toNatClampNeg (pR u i) ∧ (∀ j, j < n → ∀ b, g j = some b → lgP z b) ∧ n = (if u.2 4 i = 0 then 6 else 1) ∧ tg z (d (4000 + i)) 17 ∧ f (d (4000 + i)) = aI (q 0) 5 fg ∧ eqR 5 fg (u.2 47) (5 * i) ∧ rRs q d u z f i rs ∧ (z.2 (d (2000 + i))).1 = kT (u.2 4 i) := by
  obtain ⟨n1, n2, n3, hkd, rs, g, fg, hs, hps, hpcs, hfs, hfe, hrs⟩ := h.2 i hi
  have hit := rI_itm h hi
  obtain ⟨n9, g9, a1, h1, h6, hcb, hnn, hlg⟩ := x_pcs hI hit rfl hs
  obtain ⟨e1, e2⟩ := aR_inj (a1.symm.trans hps)
  subst e2
  refine ⟨rs, n9, g9, fg, hit, hs, n2.1, a1, h1, h6, hcb, fun j hj => ?_, hlg, e1, n3.1, hfs, hfe, hrs, n1.1.2⟩
  obtain ⟨b, b1, b2⟩ := hpcs j hj
  have hjn : j < n9 := by
    have hb2 := bw_iff.mp hcb
    obtain ⟨c1, c2, c3⟩ := nI_of_bw hcb
    rw [nI_toInt (by omega)] at c3
    omega
  exact ⟨b, _, b1, b2, hlg j hjn b b1⟩
theorem kT_k {k : Int32} (h0 : 0 ≤ k) (h5 : k ≤ 5) : (kT k = 15 → k = 0) ∧ (kT k = 11 → k = 1) ∧ (kT k = 14 → k = 2) ∧ (kT k = 13 → k = 3) ∧ (kT k = 10 → k = 4) ∧ (kT k = 12 → k = 5) := by
  have e5 : (5 : Int32).toInt = 5 := rfl
  rw [i32_le, i0] at h0
  rw [i32_le, e5] at h5
  have hk : k = 0 ∨ k = 1 ∨ k = 2 ∨ k = 3 ∨ k = 4 ∨ k = 5 := by
    have : k.toInt = 0 ∨ k.toInt = 1 ∨ k.toInt = 2 ∨ k.toInt = 3 ∨ k.toInt = 4 ∨ k.toInt = 5 := by omega
    rcases this with e | e | e | e | e | e
    · exact Or.inl (sw_in e.symm rfl)
    · exact Or.inr (Or.inl (sw_in e.symm rfl))
    · exact Or.inr (Or.inr (Or.inl (sw_in e.symm rfl)))
    · exact Or.inr (Or.inr (Or.inr (Or.inl (sw_in e.symm rfl))))
    · exact Or.inr (Or.inr (Or.inr (Or.inr (Or.inl (sw_in e.symm rfl)))))
    · exact Or.inr (Or.inr (Or.inr (Or.inr (Or.inr (sw_in e.symm rfl)))))
  rcases hk with e | e | e | e | e | e <;> subst e <;> decide
theorem kd_05 {q d u z f} (h : rIs q d u z f) {i : Nat} (hi : i < (u.1 3).toNatClampNeg) : 0 ≤ u.2 4 i ∧ u.2 4 i ≤ 5 := (h.2 i hi).2.2.2.1
theorem nI_s1 (n : Nat) : nI n + 1 = nI (n + 1) := nI_add n 1
theorem nI_p1 (n : Nat) : nI (n + 1) - 1 = nI n := by rw [← nI_s1]; exact Int32.add_sub_cancel _ _
/-- what a piece takes: the class and the reference -/
theorem s_taken_m {u : mS} {i k : Nat} (hi : i < 80) (hk : k < 6) (hb : bw (nI k) 0 (u.2 22 i - 1) = true) : s_taken (nI k) (u.2 22 i) (pR u i) = mTakes u (nI i) (nI k) := by
  unfold s_taken mTakes
  rw [if_pos hb, nI_clamp (n := i) (by omega), ix6]
  have e1 : nI (6 * i + k) + 1 = nI (6 * i + (k + 1)) := nI_s1 _
  have c0 : (nI (6 * i + k)).toNatClampNeg = 6 * i + k := nI_clamp (by omega)
  have c1 : (nI (6 * i + (k + 1))).toNatClampNeg = 6 * i + (k + 1) := nI_clamp (by omega)
  have c2 : (nI k).toNatClampNeg = k := nI_clamp (by omega)
  have c3 : (nI (k + 1)).toNatClampNeg = k + 1 := nI_clamp (by omega)
  rw [e1, c0, c1, nI_s1, c2, c3]
  cases k with
  | zero =>
    have h0 : nI 0 ≤ 0 := by decide
    rw [if_pos h0, if_pos h0]; rfl
  | succ k =>
    have h0 : ¬ nI (k + 1) ≤ 0 := by
      rw [i32_le, i0, nI_toInt (by omega)]; omega
    have e2 : nI (6 * i + (k + 1)) - 1 = nI (6 * i + k) := nI_p1 _
    have c4 : (nI (6 * i + k)).toNatClampNeg = 6 * i + k := nI_clamp (by omega)
    have c5 : (nI k).toNatClampNeg = k := nI_clamp (by omega)
    rw [if_neg h0, if_neg h0, e2, c4, nI_p1, c5]
    by_cases hA : pR u i k 0 = pR u i (k + 1) 0
    · have hA2 : u.2 23 (6 * i + k) = u.2 23 (6 * i + (k + 1)) := hA
      rw [if_pos hA, if_pos hA2]; rfl
    · have hA2 : ¬ u.2 23 (6 * i + k) = u.2 23 (6 * i + (k + 1)) := hA
      rw [if_neg hA, if_neg hA2]; rfl
theorem s_from_m {u : mS} {i : Nat} (hi : i < 80) (hc : bw (u.2 22 i) 0 6 = true) : ∀ n : Nat, n ≤ (u.2 22 i).toNatClampNeg → s_from (u.2 22 i) (pR u i) n = mFrom u (nI i) n
  | 0, _ => rfl
  | n + 1, hn => by
    obtain ⟨c1, c2, c3⟩ := nI_of_bw hc
    have e6 : (6 : Int32).toInt = 6 := rfl
    rw [e6] at c3
    have hb : bw (nI n) 0 (u.2 22 i - 1) = true := by
      rw [bw_iff, i0, nI_toInt (by omega), subI (by rw [i1]; omega) (by rw [i1]; omega), i1]; omega
    show s_from _ _ n + s_taken (nI n) _ _ = mFrom u (nI i) n + mTakes u (nI i) (nI n)
    rw [s_from_m hi hc n (by omega), s_taken_m hi (by omega) hb]
theorem s_standing_m {u : mS} {i : Nat} (hi : i < 80) (hc : bw (u.2 22 i) 0 6 = true) : s_standing (u.2 22 i) (pR u i) = mStanding u (nI i) := by
  unfold s_standing mStanding
  rw [nI_clamp (n := i) (by omega)]; exact s_from_m hi hc _ (Nat.le_refl _)
theorem mPc_no {u : mS} {p k w : Int32} (h : ¬ bw p 0 (u.1 3 - 1) = true) : mPiece u p k w = (-1) := by unfold mPiece; rw [if_neg h]
theorem bw_it {u : mS} {i : Nat} (hn : bw (u.1 3) 0 80 = true) (hi : i < (u.1 3).toNatClampNeg) : bw (nI i) 0 (u.1 3 - 1) = true ∧ i < 80 := by
  obtain ⟨c1, c2, c3⟩ := nI_of_bw hn
  have e80 : (80 : Int32).toInt = 80 := rfl
  rw [e80] at c3
  refine ⟨?_, by omega⟩
  rw [bw_iff, i0, nI_toInt (by omega), subI (by rw [i1]; omega) (by rw [i1]; omega), i1]; omega
theorem mPc_k {u : mS} {i : Nat} {k w : Int32} (hn : bw (u.1 3) 0 80 = true) (hi : i < (u.1 3).toNatClampNeg) (h : ¬ bw k 0 (u.2 22 i - 1) = true) : mPiece u (nI i) k w = (-1) := by
  have h2 := bw_it hn hi
  unfold mPiece; rw [if_pos h2.1, nI_clamp (by omega), if_neg h]
theorem mPc {u : mS} {i : Nat} {k : Int32} (w : Int32) (hn : bw (u.1 3) 0 80 = true) (hi : i < (u.1 3).toNatClampNeg) (hc : bw (u.2 22 i) 0 6 = true) (h : bw k 0 (u.2 22 i - 1) = true) : mPiece u (nI i) k w = if w = 0 then pR u i k.toNatClampNeg 0 else if w = 1 then pR u i k.toNatClampNeg 1 else if w = 2 then pR u i k.toNatClampNeg 2 else if w = 3 then pR u i k.toNatClampNeg 3 else if w = 4 then pR u i k.toNatClampNeg 4 else if w = 5 then (if u.2 4 i = 0 then s_from (u.2 22 i) (pR u i) k.toNatClampNeg else 0) else if w = 6 then (if u.2 4 i = 0 then s_taken k (u.2 22 i) (pR u i) else 0) else (-1) := by
  have h2 := bw_it hn hi
  obtain ⟨h3, h4⟩ := vkn (n := 6) (by omega) hc h
  obtain ⟨c1, c2, c3⟩ := nI_of_bw h
  obtain ⟨d1, d2, d3⟩ := nI_of_bw hc
  have e6 : (6 : Int32).toInt = 6 := rfl
  rw [e6] at d3
  generalize hj : k.toNatClampNeg = j at c1 c2 h4
  subst c1
  unfold mPiece
  rw [if_pos h2.1, nI_clamp (n := i) (by omega), if_pos h, ix6, nI_clamp (n := 6 * i + j) (by omega), hj, s_from_m h2.2 hc j (by omega), s_taken_m h2.2 (by omega) h]
  rfl
theorem bw6 {x : Int32} {n : Nat} (h6 : n ≤ 6) (h : bw x 0 (nI n) = true) : bw x 0 6 = true := by
  have e6 : (6 : Int32).toInt = 6 := rfl
  have h1 := bw_iff.mp h
  rw [nI_toInt (by omega)] at h1
  rw [bw_iff, e6]; omega
theorem bw_less {p cn : Int32} {n : Nat} (hn : n ≤ 6) (hc : bw cn 0 (nI n) = true) (hp : bw p 0 (cn - 1) = true) : bw p 0 cn = true := by
  have h1 := bw_iff.mp hc
  have h2 := bw_iff.mp hp
  rw [i0, nI_toInt (by omega)] at h1
  rw [subI (by rw [i1]; omega) (by rw [i1]; omega), i1] at h2
  rw [bw_iff]; omega
set_option maxHeartbeats 4000000 in
set_option maxRecDepth 100000 in
theorem y_piece (l : Launch) (dC : Nat → ClassId) (dI : Nat → Nat → Nat) (q : Nat → ClassId) (h0 : Nat) (d : Nat → Nat) (k : Nat → Int32) (z : gS) (f : xF) (hI : xI q h0 d k z f) (p0 p1 p2 : Int32) (u : mS) (hrp : rep q d u z f) (hk0 : k 0 = u.1 3) (hk1 : k 1 = u.1 28) (hk2 : k 2 = u.1 38) (hk3 : k 3 = u.1 39) : Met l yX11_piece wsX11_piece ({ frames := 3, cells := 0, slots := 0, locals := 67 }) (va_Pc [.ref h0, .int p0, .int p1, .int p2] (PX dC dI (va_pl z.1 f) (xT q))) (vp_Si (fun r => r = mPiece u p0 p1 p2)) 0 0 (fun _ => False) := by
  refine Met.ofW (cc := cX11_piece) (maxL := 7) (ret := (some .int)) (by decide) rfl ?_
  intro p e s m args below meth c s₁ B hml hv
  obtain ⟨rfl, ⟨hP, hK, hN⟩, hXN⟩ := hv
  have hx := B.exec
  have hb := B.bytes
  have hr := B.returns
  have hts := atoms_spec (ws := wsX11_piece) B.pre
  have hown : s.vm.findClass RX11 = some m.cls := findClass_of_methodNamed B.named
  have hlocks := B.notSynchronized
  have hl := lv_entry ([.ref h0, .int p0, .int p1, .int p2]) (n := 7) (Nat.le_of_ble_eq_true rfl)
  rw [lg_entry_eq]
  generalize (lg_sl ([.ref h0, .int p0, .int p1, .int p2]) ++ List.replicate (7 - (lg_sl ([.ref h0, .int p0, .int p1, .int p2])).length) Slot.unset).toArray = ls at hl ⊢
  have hl : lv_has ls 7 [(0, .ref h0), (1, .int p0), (2, .int p1), (3, .int p2)] := hl
  refine lv_aload_n hx hb dX11_piece_0 rfl (lv_at hl 0 rfl) ?_
  refine lv_iload_n hx hb dX11_piece_1 rfl (lv_at hl 1 rfl) ?_
  obtain ⟨kk_1, hk_2⟩ := pl_at hI.2.1.1.1 hI.2.2.2.1.1
  refine va_csq (va_runV (As := [.int p0]) (rest := []) ⟨hx, hb, hml, hown, hts⟩ (y_itemOf l dC dI q h0 d k z f hI p0 u hrp hk0 hk1 hk2 hk3) (cwV 1 hts gX11_piece_X11_itemOf rfl rfl rfl zh_X11_itemOf_49 ⟨Nat.le_of_ble_eq_true rfl, Nat.le_of_ble_eq_true rfl⟩) ⟨px_fb, va_recv hK hP (ci := 10) (q0 := kk_1) rfl hk_2, fun U hU hW => ⟨rfl, px_to hU hW hP hK hN hXN⟩⟩ rfl rfl hl.1 rfl (lv_room (Nat.le_of_ble_eq_true rfl)) dX11_piece_2 ⟨Nat.le_of_ble_eq_true rfl, Nat.le_of_ble_eq_true rfl⟩).run (fun r hw => ?_)
  rcases hw with ⟨hr9, hn9⟩ | ⟨i_3, hi_4, ep_5, hr9⟩
  ·
    subst hr9
    have hno_25 := hn9
    refine W.eq (g2 := F0 m 5 ls [.null]) rfl ?_
    refine lv_astoreN (lv' := [(4, .null), (0, .ref h0), (1, .int p0), (2, .int p1), (3, .int p2)]) hx hb dX11_piece_5 hl (by decide) rfl (fun ls hl => ?_)
    refine lv_aloadN hx hb dX11_piece_7 (lv_at hl 0 rfl) ?_
    refine lv_ifnullN (tgt := 27) hx hb dX11_piece_9 (by decide) ?_
    refine lv_iconst (v := (-1)) hx hb dX11_piece_27 (by decide) ?_
    exact W.iret (v := (-1)) hx hb hr (fun t ht hW => ⟨_, rfl, (mPc_no hno_25).symm, ht⟩) (fun q h => absurd h List.not_mem_nil) dX11_piece_28
  ·
    subst hr9
    obtain ⟨rs_6, n_7, g_8, fg_9, hit_10, hs_11, hpa_12, hps_13, h1_14, h6_15, hcb_16, hpl_17, hlg_18, hnn_19, hfa_20, hfs_21, hfe_22, hrs_23, hkt_24⟩ := it_all hI hrp.2.2.1 hi_4
    refine W.eq (g2 := F0 m 5 ls [.ref (d (2000 + i_3))]) rfl ?_
    refine lv_astore (lv' := [(4, .ref (d (2000 + i_3))), (0, .ref h0), (1, .int p0), (2, .int p1), (3, .int p2)]) hx hb dX11_piece_5 hl (by decide) rfl (fun ls hl => ?_)
    refine lv_aload hx hb dX11_piece_7 (lv_at hl 0 rfl) ?_
    refine lv_ifnull hx hb dX11_piece_9 ?_
    refine lv_iload_n hx hb dX11_piece_12 rfl (lv_at hl 3 rfl) ?_
    refine lv_iconst (v := 0) hx hb dX11_piece_13 (by decide) ?_
    refine lv_aload hx hb dX11_piece_14 (lv_at hl 0 rfl) ?_
    obtain ⟨kk_26, hk_27⟩ := pl_at hit_10.1 hs_11
    refine w_then (F0 m 19 ls [.int (u.2 22 i_3), .int 0, .int p1]) (fun hgo => ?_) ?_
    ·
      rcases x_tag hit_10 with ht9 | ht9 | ht9 | ht9 | ht9 | ht9
      ·
        rw [ht9.2] at hk_27
        exact va_get (D := (dC, dI)) (ci := 2) (v := .int (u.2 22 i_3)) (C := RX2) (T := TX2) (N := 7) hx hb hts zl_X11_piece_X2 hown hK hP kk_26 hk_27 rfl 3 (by decide) (hts (.fieldLink RX11 170 "PageOne$Item" "count" "I") (zat q_wsX11_piece k_wsX11_piece 197 rfl (by decide +kernel))) (fun _ h9 => h9) rfl dX11_piece_16 hgo
      ·
        rw [ht9.2] at hk_27
        exact va_get (D := (dC, dI)) (ci := 3) (v := .int (u.2 22 i_3)) (C := RX3) (T := TX3) (N := 8) hx hb hts zl_X11_piece_X3 hown hK hP kk_26 hk_27 rfl 3 (by decide) (hts (.fieldLink RX11 170 "PageOne$Item" "count" "I") (zat q_wsX11_piece k_wsX11_piece 197 rfl (by decide +kernel))) (fun _ h9 => h9) rfl dX11_piece_16 hgo
      ·
        rw [ht9.2] at hk_27
        exact va_get (D := (dC, dI)) (ci := 4) (v := .int (u.2 22 i_3)) (C := RX5) (T := TX5) (N := 7) hx hb hts zl_X11_piece_X5 hown hK hP kk_26 hk_27 rfl 3 (by decide) (hts (.fieldLink RX11 170 "PageOne$Item" "count" "I") (zat q_wsX11_piece k_wsX11_piece 197 rfl (by decide +kernel))) (fun _ h9 => h9) rfl dX11_piece_16 hgo
      ·
        rw [ht9.2] at hk_27
        exact va_get (D := (dC, dI)) (ci := 5) (v := .int (u.2 22 i_3)) (C := RX6) (T := TX6) (N := 9) hx hb hts zl_X11_piece_X6 hown hK hP kk_26 hk_27 rfl 3 (by decide) (hts (.fieldLink RX11 170 "PageOne$Item" "count" "I") (zat q_wsX11_piece k_wsX11_piece 197 rfl (by decide +kernel))) (fun _ h9 => h9) rfl dX11_piece_16 hgo
      ·
        rw [ht9.2] at hk_27
        exact va_get (D := (dC, dI)) (ci := 6) (v := .int (u.2 22 i_3)) (C := RX7) (T := TX7) (N := 8) hx hb hts zl_X11_piece_X7 hown hK hP kk_26 hk_27 rfl 3 (by decide) (hts (.fieldLink RX11 170 "PageOne$Item" "count" "I") (zat q_wsX11_piece k_wsX11_piece 197 rfl (by decide +kernel))) (fun _ h9 => h9) rfl dX11_piece_16 hgo
      ·
        rw [ht9.2] at hk_27
        exact va_get (D := (dC, dI)) (ci := 9) (v := .int (u.2 22 i_3)) (C := RX10) (T := TX10) (N := 9) hx hb hts zl_X11_piece_X10 hown hK hP kk_26 hk_27 rfl 3 (by decide) (hts (.fieldLink RX11 170 "PageOne$Item" "count" "I") (zat q_wsX11_piece k_wsX11_piece 197 rfl (by decide +kernel))) (fun _ h9 => h9) rfl dX11_piece_16 hgo
    ·
      refine lv_iconst (v := 1) hx hb dX11_piece_19 (by decide) ?_
      refine lv_isub hx hb dX11_piece_20 ?_
      refine vp_callSi (va_runS (As := [.int p1, .int 0, .int ((u.2 22 i_3) - 1)]) (rest := []) ⟨hx, hb, hml, hown, hts⟩ (x_isWithin l dC dI p1 0 ((u.2 22 i_3) - 1)) (va_cwS 3 hts gX11_piece_X11_isWithin rfl rfl rfl zh_X11_isWithin_30 ⟨Nat.le_of_ble_eq_true rfl, Nat.le_of_ble_eq_true rfl⟩) ⟨pw_fb, fun U hU hW => ⟨rfl, pw_to hU hW (hP.sub (ws' := []) [] rfl) (hK.sub (tys' := []) [] rfl) hN⟩⟩ rfl rfl hl.1 rfl (lv_room (Nat.le_of_ble_eq_true rfl)) dX11_piece_21 ⟨Nat.le_of_ble_eq_true rfl, Nat.le_of_ble_eq_true rfl⟩).run (fun r hw => ?_)
      rcases Bool.eq_false_or_eq_true (bw p1 0 ((u.2 22 i_3) - 1)) with b_28 | b_28
      ·
        obtain rfl : r = 1 := b_t hw b_28
        refine lv_if_ne (tgt := 29) hx hb dX11_piece_24 (by decide) (fun c_29 => ?_) (fun c_29 => absurd c_29 (by decide))
        refine lv_aload hx hb dX11_piece_29 (lv_at hl 0 rfl) ?_
        obtain ⟨kk_30, hk_31⟩ := pl_at hit_10.1 hs_11
        refine w_then (F0 m 34 ls [.ref (d (3000 + i_3))]) (fun hgo => ?_) ?_
        ·
          rcases x_tag hit_10 with ht9 | ht9 | ht9 | ht9 | ht9 | ht9
          ·
            rw [ht9.2] at hk_31
            exact va_get (D := (dC, dI)) (ci := 2) (v := .ref (d (3000 + i_3))) (C := RX2) (T := TX2) (N := 7) hx hb hts zl_X11_piece_X2 hown hK hP kk_30 hk_31 rfl 2 (by decide) (hts (.fieldLink RX11 225 "PageOne$Item" "pieces" "[LPageOne$Piece;") (zat q_wsX11_piece k_wsX11_piece 193 rfl (by decide +kernel))) (fun _ h9 => h9) rfl dX11_piece_31 hgo
          ·
            rw [ht9.2] at hk_31
            exact va_get (D := (dC, dI)) (ci := 3) (v := .ref (d (3000 + i_3))) (C := RX3) (T := TX3) (N := 8) hx hb hts zl_X11_piece_X3 hown hK hP kk_30 hk_31 rfl 2 (by decide) (hts (.fieldLink RX11 225 "PageOne$Item" "pieces" "[LPageOne$Piece;") (zat q_wsX11_piece k_wsX11_piece 193 rfl (by decide +kernel))) (fun _ h9 => h9) rfl dX11_piece_31 hgo
          ·
            rw [ht9.2] at hk_31
            exact va_get (D := (dC, dI)) (ci := 4) (v := .ref (d (3000 + i_3))) (C := RX5) (T := TX5) (N := 7) hx hb hts zl_X11_piece_X5 hown hK hP kk_30 hk_31 rfl 2 (by decide) (hts (.fieldLink RX11 225 "PageOne$Item" "pieces" "[LPageOne$Piece;") (zat q_wsX11_piece k_wsX11_piece 193 rfl (by decide +kernel))) (fun _ h9 => h9) rfl dX11_piece_31 hgo
          ·
            rw [ht9.2] at hk_31
            exact va_get (D := (dC, dI)) (ci := 5) (v := .ref (d (3000 + i_3))) (C := RX6) (T := TX6) (N := 9) hx hb hts zl_X11_piece_X6 hown hK hP kk_30 hk_31 rfl 2 (by decide) (hts (.fieldLink RX11 225 "PageOne$Item" "pieces" "[LPageOne$Piece;") (zat q_wsX11_piece k_wsX11_piece 193 rfl (by decide +kernel))) (fun _ h9 => h9) rfl dX11_piece_31 hgo
          ·
            rw [ht9.2] at hk_31
            exact va_get (D := (dC, dI)) (ci := 6) (v := .ref (d (3000 + i_3))) (C := RX7) (T := TX7) (N := 8) hx hb hts zl_X11_piece_X7 hown hK hP kk_30 hk_31 rfl 2 (by decide) (hts (.fieldLink RX11 225 "PageOne$Item" "pieces" "[LPageOne$Piece;") (zat q_wsX11_piece k_wsX11_piece 193 rfl (by decide +kernel))) (fun _ h9 => h9) rfl dX11_piece_31 hgo
          ·
            rw [ht9.2] at hk_31
            exact va_get (D := (dC, dI)) (ci := 9) (v := .ref (d (3000 + i_3))) (C := RX10) (T := TX10) (N := 9) hx hb hts zl_X11_piece_X10 hown hK hP kk_30 hk_31 rfl 2 (by decide) (hts (.fieldLink RX11 225 "PageOne$Item" "pieces" "[LPageOne$Piece;") (zat q_wsX11_piece k_wsX11_piece 193 rfl (by decide +kernel))) (fun _ h9 => h9) rfl dX11_piece_31 hgo
        ·
          refine lv_iload_n hx hb dX11_piece_34 rfl (lv_at hl 3 rfl) ?_
          obtain ⟨kk_32, hk_33⟩ := pl_at hpa_12.1 hps_13
          refine va_aldq hx hb hK hP kk_32 5 hk_33 rfl (vkn h6_15 hcb_16 b_28).1 dX11_piece_35 ?_
          obtain ⟨b_34, it_35, hg_36, hp_37, hlg_38⟩ := hpl_17 (p1 : Int32).toNatClampNeg (vkn h6_15 hcb_16 b_28).2
          rw [hg_36]
          refine W.eq (g2 := F0 m 36 ls [.ref b_34]) rfl ?_
          refine lv_astore (lv' := [(5, .ref b_34), (4, .ref (d (2000 + i_3))), (0, .ref h0), (1, .int p0), (2, .int p1), (3, .int p2)]) hx hb dX11_piece_36 hl (by decide) rfl (fun ls hl => ?_)
          refine lv_iload_n hx hb dX11_piece_38 rfl (lv_at hl 5 rfl) ?_
          rcases Classical.em (p2 = 0) with s_39 | s_39
          ·
            subst s_39
            refine lv_tableIn (tgt := 80) (off := 41) hx hb dX11_piece_39 (by decide) (by decide) (by decide) (by decide) ?_
            refine lv_aload hx hb dX11_piece_80 (lv_at hl 0 rfl) ?_
            obtain ⟨kk_40, hk_41⟩ := pl_at hp_37.1.1 (x_pcF hI hp_37)
            refine va_get (D := (dC, dI)) (ci := 7) (v := .int ((pR u i_3) (p1 : Int32).toNatClampNeg 0)) (C := RX8) (T := TX8) (N := 6) hx hb hts zl_X11_piece_X8 hown hK hP kk_40 hk_41 rfl 1 (by decide) (hts (.fieldLink RX11 229 "PageOne$Piece" "page" "I") (zat q_wsX11_piece k_wsX11_piece 321 rfl (by decide +kernel))) (fun _ h9 => h9) rfl dX11_piece_82 ?_
            exact W.iret (v := ((pR u i_3) (p1 : Int32).toNatClampNeg 0)) hx hb hr (fun t ht hW => ⟨_, rfl, (by rw [ep_5, mPc _ (by rw [← hk0]; exact hI.1.1) hi_4 (bw6 h6_15 hcb_16) b_28]; rw [if_pos rfl]), ht⟩) (fun q h => absurd h List.not_mem_nil) dX11_piece_85
          ·
            rcases Classical.em (p2 = 1) with s_42 | s_42
            ·
              subst s_42
              refine lv_tableIn (tgt := 86) (off := 47) hx hb dX11_piece_39 (by decide) (by decide) (by decide) (by decide) ?_
              refine lv_aload hx hb dX11_piece_86 (lv_at hl 0 rfl) ?_
              obtain ⟨kk_43, hk_44⟩ := pl_at hp_37.1.1 (x_pcF hI hp_37)
              refine va_get (D := (dC, dI)) (ci := 7) (v := .int ((pR u i_3) (p1 : Int32).toNatClampNeg 1)) (C := RX8) (T := TX8) (N := 6) hx hb hts zl_X11_piece_X8 hown hK hP kk_43 hk_44 rfl 2 (by decide) (hts (.fieldLink RX11 232 "PageOne$Piece" "column" "I") (zat q_wsX11_piece k_wsX11_piece 325 rfl (by decide +kernel))) (fun _ h9 => h9) rfl dX11_piece_88 ?_
              exact W.iret (v := ((pR u i_3) (p1 : Int32).toNatClampNeg 1)) hx hb hr (fun t ht hW => ⟨_, rfl, (by rw [ep_5, mPc _ (by rw [← hk0]; exact hI.1.1) hi_4 (bw6 h6_15 hcb_16) b_28]; rw [if_neg (by decide), if_pos rfl]), ht⟩) (fun q h => absurd h List.not_mem_nil) dX11_piece_91
            ·
              rcases Classical.em (p2 = 2) with s_45 | s_45
              ·
                subst s_45
                refine lv_tableIn (tgt := 92) (off := 53) hx hb dX11_piece_39 (by decide) (by decide) (by decide) (by decide) ?_
                refine lv_aload hx hb dX11_piece_92 (lv_at hl 0 rfl) ?_
                obtain ⟨kk_46, hk_47⟩ := pl_at hp_37.1.1 (x_pcF hI hp_37)
                refine va_get (D := (dC, dI)) (ci := 7) (v := .int ((pR u i_3) (p1 : Int32).toNatClampNeg 2)) (C := RX8) (T := TX8) (N := 6) hx hb hts zl_X11_piece_X8 hown hK hP kk_46 hk_47 rfl 3 (by decide) (hts (.fieldLink RX11 235 "PageOne$Piece" "line" "I") (zat q_wsX11_piece k_wsX11_piece 328 rfl (by decide +kernel))) (fun _ h9 => h9) rfl dX11_piece_94 ?_
                exact W.iret (v := ((pR u i_3) (p1 : Int32).toNatClampNeg 2)) hx hb hr (fun t ht hW => ⟨_, rfl, (by rw [ep_5, mPc _ (by rw [← hk0]; exact hI.1.1) hi_4 (bw6 h6_15 hcb_16) b_28]; rw [if_neg (by decide), if_neg (by decide), if_pos rfl]), ht⟩) (fun q h => absurd h List.not_mem_nil) dX11_piece_97
              ·
                rcases Classical.em (p2 = 3) with s_48 | s_48
                ·
                  subst s_48
                  refine lv_tableIn (tgt := 98) (off := 59) hx hb dX11_piece_39 (by decide) (by decide) (by decide) (by decide) ?_
                  refine lv_aload hx hb dX11_piece_98 (lv_at hl 0 rfl) ?_
                  obtain ⟨kk_49, hk_50⟩ := pl_at hp_37.1.1 (x_pcF hI hp_37)
                  refine va_get (D := (dC, dI)) (ci := 7) (v := .int ((pR u i_3) (p1 : Int32).toNatClampNeg 3)) (C := RX8) (T := TX8) (N := 6) hx hb hts zl_X11_piece_X8 hown hK hP kk_49 hk_50 rfl 4 (by decide) (hts (.fieldLink RX11 238 "PageOne$Piece" "w" "I") (zat q_wsX11_piece k_wsX11_piece 332 rfl (by decide +kernel))) (fun _ h9 => h9) rfl dX11_piece_100 ?_
                  exact W.iret (v := ((pR u i_3) (p1 : Int32).toNatClampNeg 3)) hx hb hr (fun t ht hW => ⟨_, rfl, (by rw [ep_5, mPc _ (by rw [← hk0]; exact hI.1.1) hi_4 (bw6 h6_15 hcb_16) b_28]; rw [if_neg (by decide), if_neg (by decide), if_neg (by decide), if_pos rfl]), ht⟩) (fun q h => absurd h List.not_mem_nil) dX11_piece_103
                ·
                  rcases Classical.em (p2 = 4) with s_51 | s_51
                  ·
                    subst s_51
                    refine lv_tableIn (tgt := 104) (off := 65) hx hb dX11_piece_39 (by decide) (by decide) (by decide) (by decide) ?_
                    refine lv_aload hx hb dX11_piece_104 (lv_at hl 0 rfl) ?_
                    obtain ⟨kk_52, hk_53⟩ := pl_at hp_37.1.1 (x_pcF hI hp_37)
                    refine va_get (D := (dC, dI)) (ci := 7) (v := .int ((pR u i_3) (p1 : Int32).toNatClampNeg 4)) (C := RX8) (T := TX8) (N := 6) hx hb hts zl_X11_piece_X8 hown hK hP kk_52 hk_53 rfl 5 (by decide) (hts (.fieldLink RX11 241 "PageOne$Piece" "h" "I") (zat q_wsX11_piece k_wsX11_piece 337 rfl (by decide +kernel))) (fun _ h9 => h9) rfl dX11_piece_106 ?_
                    exact W.iret (v := ((pR u i_3) (p1 : Int32).toNatClampNeg 4)) hx hb hr (fun t ht hW => ⟨_, rfl, (by rw [ep_5, mPc _ (by rw [← hk0]; exact hI.1.1) hi_4 (bw6 h6_15 hcb_16) b_28]; rw [if_neg (by decide), if_neg (by decide), if_neg (by decide), if_neg (by decide), if_pos rfl]), ht⟩) (fun q h => absurd h List.not_mem_nil) dX11_piece_109
                  ·
                    rcases Classical.em (p2 = 5) with s_54 | s_54
                    ·
                      subst s_54
                      refine lv_tableIn (tgt := 110) (off := 71) hx hb dX11_piece_39 (by decide) (by decide) (by decide) (by decide) ?_
                      refine lv_aload hx hb dX11_piece_110 (lv_at hl 1 rfl) ?_
                      rcases Classical.em (tg z (d (2000 + i_3)) 15) with ht9 | ht9
                      ·
                        have ht_55 := ht9
                        have hkd_57 : u.2 4 i_3 = 0 := (kT_k (kd_05 hrp.2.2.1 hi_4).1 (kd_05 hrp.2.2.1 hi_4).2).1 (hkt_24.symm.trans ht_55.2)
                        obtain ⟨hx_58, hx_59, hx_60, ⟨hx_61, hx_62, hx_63⟩, hx_64, hx_65, hx_66⟩ := hrs_23.1 hkd_57
                        have hs_67 : f (d (2000 + i_3)) = .inr (9, [.int (nI i_3), .int (u.2 4 i_3), .ref (d (3000 + i_3)), .int (u.2 22 i_3), .ref (d (4000 + i_3)), .int (u.2 5 i_3), .ref (d (5000 + i_3)), .int (u.2 15 i_3), .ref (d (6000 + i_3))]) := by rw [hs_11, ht_55.2, hx_58]; rfl
                        obtain ⟨kk_68, hk_69⟩ := pl_at ht_55.1 hs_67
                        refine va_instS hx hb hown (hts (.classLink RX11 66 "PageOne$Story") (zat q_wsX11_piece k_wsX11_piece 161 rfl (by decide +kernel))) (hK.1 9 (RX10, TX10, 9) rfl).2 (va_recv hK hP (ci := 9) (q0 := kk_68) rfl hk_69) dX11_piece_112 ?_
                        refine lv_if_eq (tgt := 134) hx hb dX11_piece_115 (by decide) (fun c_70 => absurd c_70 (by decide)) (fun c_70 => ?_)
                        refine lv_aload hx hb dX11_piece_118 (lv_at hl 1 rfl) ?_
                        obtain ⟨kk_71, hk_72⟩ := pl_at ht_55.1 hs_67
                        refine va_castS hx hb hown (hts (.classLink RX11 66 "PageOne$Story") (zat q_wsX11_piece k_wsX11_piece 161 rfl (by decide +kernel))) (hK.1 9 (RX10, TX10, 9) rfl).2 (va_recv hK hP (ci := 9) (q0 := kk_71) rfl hk_72) dX11_piece_120 ?_
                        refine lv_astore (lv' := [(6, .ref (d (2000 + i_3))), (5, .ref b_34), (4, .ref (d (2000 + i_3))), (0, .ref h0), (1, .int p0), (2, .int p1), (3, .int 5)]) hx hb dX11_piece_123 hl (by decide) rfl (fun ls hl => ?_)
                        refine lv_aload hx hb dX11_piece_125 (lv_at hl 0 rfl) ?_
                        refine lv_iload_n hx hb dX11_piece_127 rfl (lv_at hl 5 rfl) ?_
                        obtain ⟨kk_73, hk_74⟩ := pl_at ht_55.1 hs_67
                        refine vp_callSi (va_runV (As := [.int p1]) (rest := []) ⟨hx, hb, hml, hown, hts⟩ (y_takenBefore l dC dI q h0 d k z f hI (d (2000 + i_3)) (d (3000 + i_3)) (d (4000 + i_3)) (d (5000 + i_3)) (d (6000 + i_3)) (nI i_3) (u.2 4 i_3) (u.2 22 i_3) (u.2 5 i_3) (u.2 15 i_3) ht_55 hs_67 p1 n_7 g_8 (pR u i_3) hpa_12 hps_13 h1_14 h6_15 hcb_16 hpl_17 (bw_less h6_15 hcb_16 b_28)) (cwV 1 hts gX11_piece_X10_takenBefore rfl rfl rfl zh_X10_takenBefore_39 ⟨Nat.le_of_ble_eq_true rfl, Nat.le_of_ble_eq_true rfl⟩) ⟨px_fb, va_recv hK hP (ci := 9) (q0 := kk_73) rfl hk_74, fun U hU hW => ⟨rfl, px_to hU hW hP hK hN hXN⟩⟩ rfl rfl hl.1 rfl (lv_room (Nat.le_of_ble_eq_true rfl)) dX11_piece_128 ⟨Nat.le_of_ble_eq_true rfl, Nat.le_of_ble_eq_true rfl⟩).run (fun r hw => ?_)
                        obtain rfl : r = (s_from (u.2 22 i_3) (pR u i_3) p1.toNatClampNeg) := hw
                        refine lv_goto (tgt := 135) hx hb dX11_piece_131 (by decide) ?_
                        exact W.iret (v := (s_from (u.2 22 i_3) (pR u i_3) p1.toNatClampNeg)) hx hb hr (fun t ht hW => ⟨_, rfl, (by rw [ep_5, mPc _ (by rw [← hk0]; exact hI.1.1) hi_4 (bw6 h6_15 hcb_16) b_28]; rw [if_neg (by decide), if_neg (by decide), if_neg (by decide), if_neg (by decide), if_neg (by decide), if_pos rfl, if_pos hkd_57]), ht⟩) (fun q h => absurd h List.not_mem_nil) dX11_piece_135
                      ·
                        have hn_56 := ht9
                        have hkd_57 : ¬ u.2 4 i_3 = 0 := fun e9 => ht9 ⟨hit_10.1, by rw [hkt_24, e9]; rfl⟩
                        refine w_then (F0 m 115 ls [.int 0]) (fun hgo => ?_) ?_
                        ·
                          rcases x_tag hit_10 with ht8 | ht8 | ht8 | ht8 | ht8 | ht8
                          ·
                            obtain ⟨nu_75, kd_76, cn_77, pa_78, fa_79, l_80, m_81, hs_82, hs_83, hs_84, hs_85⟩ := x_ifl hI ht8
                            obtain ⟨kk_86, hk_87⟩ := pl_at ht8.1 hs_82
                            exact va_instNo hx hb hown (hts (.classLink RX11 66 "PageOne$Story") (zat q_wsX11_piece k_wsX11_piece 161 rfl (by decide +kernel))) hXN.n_X2_X10 (va_recv hK hP (ci := 2) (q0 := kk_86) rfl hk_87) dX11_piece_112 hgo
                          ·
                            obtain ⟨nu_88, kd_89, cn_90, pa_91, fa_92, o_93, w_94, y_95, hs_96, hs_97, hs_98, hs_99, hq_100⟩ := x_ihd hI ht8
                            obtain ⟨kk_101, hk_102⟩ := pl_at ht8.1 hs_96
                            exact va_instNo hx hb hown (hts (.classLink RX11 66 "PageOne$Story") (zat q_wsX11_piece k_wsX11_piece 161 rfl (by decide +kernel))) hXN.n_X3_X10 (va_recv hK hP (ci := 3) (q0 := kk_101) rfl hk_102) dX11_piece_112 hgo
                          ·
                            obtain ⟨nu_103, kd_104, cn_105, pa_106, fa_107, o_108, y_109, hs_110, hs_111, hs_112, hs_113, hq_114⟩ := x_ino hI ht8
                            obtain ⟨kk_115, hk_116⟩ := pl_at ht8.1 hs_110
                            exact va_instNo hx hb hown (hts (.classLink RX11 66 "PageOne$Story") (zat q_wsX11_piece k_wsX11_piece 161 rfl (by decide +kernel))) hXN.n_X5_X10 (va_recv hK hP (ci := 4) (q0 := kk_115) rfl hk_116) dX11_piece_112 hgo
                          ·
                            obtain ⟨nu_117, kd_118, cn_119, pa_120, fa_121, b_122, pr_123, sp_124, dy_125, hs_126, hs_127, hs_128, hs_129, hq_130, hq_131, hq_132⟩ := x_ipd hI ht8
                            obtain ⟨kk_133, hk_134⟩ := pl_at ht8.1 hs_126
                            exact va_instNo hx hb hown (hts (.classLink RX11 66 "PageOne$Story") (zat q_wsX11_piece k_wsX11_piece 161 rfl (by decide +kernel))) hXN.n_X6_X10 (va_recv hK hP (ci := 5) (q0 := kk_133) rfl hk_134) dX11_piece_112 hgo
                          ·
                            obtain ⟨nu_135, kd_136, cn_137, pa_138, fa_139, ww_140, hh_141, sz_142, hs_143, hs_144, hs_145, hs_146, hq_147, hq_148, hq_149⟩ := x_ipi hI ht8
                            obtain ⟨kk_150, hk_151⟩ := pl_at ht8.1 hs_143
                            exact va_instNo hx hb hown (hts (.classLink RX11 66 "PageOne$Story") (zat q_wsX11_piece k_wsX11_piece 161 rfl (by decide +kernel))) hXN.n_X7_X10 (va_recv hK hP (ci := 6) (q0 := kk_150) rfl hk_151) dX11_piece_112 hgo
                          ·
                            exact absurd ht8 ht9
                        ·
                          refine lv_if_eq (tgt := 134) hx hb dX11_piece_115 (by decide) (fun c_152 => ?_) (fun c_152 => absurd (by decide) c_152)
                          refine lv_iconst (v := 0) hx hb dX11_piece_134 (by decide) ?_
                          exact W.iret (v := 0) hx hb hr (fun t ht hW => ⟨_, rfl, (by rw [ep_5, mPc _ (by rw [← hk0]; exact hI.1.1) hi_4 (bw6 h6_15 hcb_16) b_28]; rw [if_neg (by decide), if_neg (by decide), if_neg (by decide), if_neg (by decide), if_neg (by decide), if_pos rfl, if_neg hkd_57]), ht⟩) (fun q h => absurd h List.not_mem_nil) dX11_piece_135
                    ·
                      rcases Classical.em (p2 = 6) with s_153 | s_153
                      ·
                        subst s_153
                        refine lv_tableIn (tgt := 136) (off := 97) hx hb dX11_piece_39 (by decide) (by decide) (by decide) (by decide) ?_
                        refine lv_aload hx hb dX11_piece_136 (lv_at hl 1 rfl) ?_
                        rcases Classical.em (tg z (d (2000 + i_3)) 15) with ht9 | ht9
                        ·
                          have ht_154 := ht9
                          have hkd_156 : u.2 4 i_3 = 0 := (kT_k (kd_05 hrp.2.2.1 hi_4).1 (kd_05 hrp.2.2.1 hi_4).2).1 (hkt_24.symm.trans ht_154.2)
                          obtain ⟨hx_157, hx_158, hx_159, ⟨hx_160, hx_161, hx_162⟩, hx_163, hx_164, hx_165⟩ := hrs_23.1 hkd_156
                          have hs_166 : f (d (2000 + i_3)) = .inr (9, [.int (nI i_3), .int (u.2 4 i_3), .ref (d (3000 + i_3)), .int (u.2 22 i_3), .ref (d (4000 + i_3)), .int (u.2 5 i_3), .ref (d (5000 + i_3)), .int (u.2 15 i_3), .ref (d (6000 + i_3))]) := by rw [hs_11, ht_154.2, hx_157]; rfl
                          obtain ⟨kk_167, hk_168⟩ := pl_at ht_154.1 hs_166
                          refine va_instS hx hb hown (hts (.classLink RX11 66 "PageOne$Story") (zat q_wsX11_piece k_wsX11_piece 161 rfl (by decide +kernel))) (hK.1 9 (RX10, TX10, 9) rfl).2 (va_recv hK hP (ci := 9) (q0 := kk_167) rfl hk_168) dX11_piece_138 ?_
                          refine lv_if_eq (tgt := 160) hx hb dX11_piece_141 (by decide) (fun c_169 => absurd c_169 (by decide)) (fun c_169 => ?_)
                          refine lv_aload hx hb dX11_piece_144 (lv_at hl 1 rfl) ?_
                          obtain ⟨kk_170, hk_171⟩ := pl_at ht_154.1 hs_166
                          refine va_castS hx hb hown (hts (.classLink RX11 66 "PageOne$Story") (zat q_wsX11_piece k_wsX11_piece 161 rfl (by decide +kernel))) (hK.1 9 (RX10, TX10, 9) rfl).2 (va_recv hK hP (ci := 9) (q0 := kk_170) rfl hk_171) dX11_piece_146 ?_
                          refine lv_astore (lv' := [(6, .ref (d (2000 + i_3))), (5, .ref b_34), (4, .ref (d (2000 + i_3))), (0, .ref h0), (1, .int p0), (2, .int p1), (3, .int 6)]) hx hb dX11_piece_149 hl (by decide) rfl (fun ls hl => ?_)
                          refine lv_aload hx hb dX11_piece_151 (lv_at hl 0 rfl) ?_
                          refine lv_iload_n hx hb dX11_piece_153 rfl (lv_at hl 5 rfl) ?_
                          obtain ⟨kk_172, hk_173⟩ := pl_at ht_154.1 hs_166
                          refine vp_callSi (va_runV (As := [.int p1]) (rest := []) ⟨hx, hb, hml, hown, hts⟩ (y_takenBy l dC dI q h0 d k z f hI (d (2000 + i_3)) (d (3000 + i_3)) (d (4000 + i_3)) (d (5000 + i_3)) (d (6000 + i_3)) (nI i_3) (u.2 4 i_3) (u.2 22 i_3) (u.2 5 i_3) (u.2 15 i_3) ht_154 hs_166 p1 n_7 g_8 (pR u i_3) hpa_12 hps_13 h1_14 h6_15 hcb_16 hpl_17) (cwV 1 hts gX11_piece_X10_takenBy rfl rfl rfl zh_X10_takenBy_38 ⟨Nat.le_of_ble_eq_true rfl, Nat.le_of_ble_eq_true rfl⟩) ⟨px_fb, va_recv hK hP (ci := 9) (q0 := kk_172) rfl hk_173, fun U hU hW => ⟨rfl, px_to hU hW hP hK hN hXN⟩⟩ rfl rfl hl.1 rfl (lv_room (Nat.le_of_ble_eq_true rfl)) dX11_piece_154 ⟨Nat.le_of_ble_eq_true rfl, Nat.le_of_ble_eq_true rfl⟩).run (fun r hw => ?_)
                          obtain rfl : r = (s_taken p1 (u.2 22 i_3) (pR u i_3)) := hw
                          refine lv_goto (tgt := 161) hx hb dX11_piece_157 (by decide) ?_
                          exact W.iret (v := (s_taken p1 (u.2 22 i_3) (pR u i_3))) hx hb hr (fun t ht hW => ⟨_, rfl, (by rw [ep_5, mPc _ (by rw [← hk0]; exact hI.1.1) hi_4 (bw6 h6_15 hcb_16) b_28]; rw [if_neg (by decide), if_neg (by decide), if_neg (by decide), if_neg (by decide), if_neg (by decide), if_neg (by decide), if_pos rfl, if_pos hkd_156]), ht⟩) (fun q h => absurd h List.not_mem_nil) dX11_piece_161
                        ·
                          have hn_155 := ht9
                          have hkd_156 : ¬ u.2 4 i_3 = 0 := fun e9 => ht9 ⟨hit_10.1, by rw [hkt_24, e9]; rfl⟩
                          refine w_then (F0 m 141 ls [.int 0]) (fun hgo => ?_) ?_
                          ·
                            rcases x_tag hit_10 with ht8 | ht8 | ht8 | ht8 | ht8 | ht8
                            ·
                              obtain ⟨nu_174, kd_175, cn_176, pa_177, fa_178, l_179, m_180, hs_181, hs_182, hs_183, hs_184⟩ := x_ifl hI ht8
                              obtain ⟨kk_185, hk_186⟩ := pl_at ht8.1 hs_181
                              exact va_instNo hx hb hown (hts (.classLink RX11 66 "PageOne$Story") (zat q_wsX11_piece k_wsX11_piece 161 rfl (by decide +kernel))) hXN.n_X2_X10 (va_recv hK hP (ci := 2) (q0 := kk_185) rfl hk_186) dX11_piece_138 hgo
                            ·
                              obtain ⟨nu_187, kd_188, cn_189, pa_190, fa_191, o_192, w_193, y_194, hs_195, hs_196, hs_197, hs_198, hq_199⟩ := x_ihd hI ht8
                              obtain ⟨kk_200, hk_201⟩ := pl_at ht8.1 hs_195
                              exact va_instNo hx hb hown (hts (.classLink RX11 66 "PageOne$Story") (zat q_wsX11_piece k_wsX11_piece 161 rfl (by decide +kernel))) hXN.n_X3_X10 (va_recv hK hP (ci := 3) (q0 := kk_200) rfl hk_201) dX11_piece_138 hgo
                            ·
                              obtain ⟨nu_202, kd_203, cn_204, pa_205, fa_206, o_207, y_208, hs_209, hs_210, hs_211, hs_212, hq_213⟩ := x_ino hI ht8
                              obtain ⟨kk_214, hk_215⟩ := pl_at ht8.1 hs_209
                              exact va_instNo hx hb hown (hts (.classLink RX11 66 "PageOne$Story") (zat q_wsX11_piece k_wsX11_piece 161 rfl (by decide +kernel))) hXN.n_X5_X10 (va_recv hK hP (ci := 4) (q0 := kk_214) rfl hk_215) dX11_piece_138 hgo
                            ·
                              obtain ⟨nu_216, kd_217, cn_218, pa_219, fa_220, b_221, pr_222, sp_223, dy_224, hs_225, hs_226, hs_227, hs_228, hq_229, hq_230, hq_231⟩ := x_ipd hI ht8
                              obtain ⟨kk_232, hk_233⟩ := pl_at ht8.1 hs_225
                              exact va_instNo hx hb hown (hts (.classLink RX11 66 "PageOne$Story") (zat q_wsX11_piece k_wsX11_piece 161 rfl (by decide +kernel))) hXN.n_X6_X10 (va_recv hK hP (ci := 5) (q0 := kk_232) rfl hk_233) dX11_piece_138 hgo
                            ·
                              obtain ⟨nu_234, kd_235, cn_236, pa_237, fa_238, ww_239, hh_240, sz_241, hs_242, hs_243, hs_244, hs_245, hq_246, hq_247, hq_248⟩ := x_ipi hI ht8
                              obtain ⟨kk_249, hk_250⟩ := pl_at ht8.1 hs_242
                              exact va_instNo hx hb hown (hts (.classLink RX11 66 "PageOne$Story") (zat q_wsX11_piece k_wsX11_piece 161 rfl (by decide +kernel))) hXN.n_X7_X10 (va_recv hK hP (ci := 6) (q0 := kk_249) rfl hk_250) dX11_piece_138 hgo
                            ·
                              exact absurd ht8 ht9
                          ·
                            refine lv_if_eq (tgt := 160) hx hb dX11_piece_141 (by decide) (fun c_251 => ?_) (fun c_251 => absurd (by decide) c_251)
                            refine lv_iconst (v := 0) hx hb dX11_piece_160 (by decide) ?_
                            exact W.iret (v := 0) hx hb hr (fun t ht hW => ⟨_, rfl, (by rw [ep_5, mPc _ (by rw [← hk0]; exact hI.1.1) hi_4 (bw6 h6_15 hcb_16) b_28]; rw [if_neg (by decide), if_neg (by decide), if_neg (by decide), if_neg (by decide), if_neg (by decide), if_neg (by decide), if_pos rfl, if_neg hkd_156]), ht⟩) (fun q h => absurd h List.not_mem_nil) dX11_piece_161
                      ·
                        refine lv_tableOut (tgt := 162) hx hb dX11_piece_39 (sw_out6 s_39 s_42 s_45 s_48 s_51 s_54 s_153) (by decide) ?_
                        refine lv_iconst (v := (-1)) hx hb dX11_piece_162 (by decide) ?_
                        exact W.iret (v := (-1)) hx hb hr (fun t ht hW => ⟨_, rfl, (by rw [ep_5, mPc _ (by rw [← hk0]; exact hI.1.1) hi_4 (bw6 h6_15 hcb_16) b_28]; rw [if_neg s_39, if_neg s_42, if_neg s_45, if_neg s_48, if_neg s_51, if_neg s_54, if_neg s_153]), ht⟩) (fun q h => absurd h List.not_mem_nil) dX11_piece_163
      ·
        obtain rfl : r = 0 := b_f hw b_28
        refine lv_if_ne (tgt := 29) hx hb dX11_piece_24 (by decide) (fun c_252 => absurd (by decide) c_252) (fun c_252 => ?_)
        refine lv_iconst (v := (-1)) hx hb dX11_piece_27 (by decide) ?_
        exact W.iret (v := (-1)) hx hb hr (fun t ht hW => ⟨_, rfl, (by rw [ep_5]; exact (mPc_k (by rw [← hk0]; exact hI.1.1) hi_4 (bne b_28)).symm), ht⟩) (fun q h => absurd h List.not_mem_nil) dX11_piece_28
/-- five entries of the book that belong to item j -/
def bI (P : Nat → Prop) (j : Nat) : Prop := P (2000 + j) ∧ P (3000 + j) ∧ P (4000 + j) ∧ P (5000 + j) ∧ P (6000 + j)
/-- the book's entries outside X keep their contents -/
def fK (d : Nat → Nat) (z : gS) (f f2 : xF) (X : Nat → Prop) : Prop := (∀ x t, nO d z x t → ¬ X x → f2 (d x) = f (d x)) ∧ ∀ j, t3 d z j → ¬ X (3000 + j) → f2 (d (3000 + j)) = f (d (3000 + j))
theorem fK_rf (d : Nat → Nat) (z : gS) (f : xF) (X : Nat → Prop) : fK d z f f X := ⟨fun _ _ _ _ => rfl, fun _ _ _ => rfl⟩
theorem fK_up {d : Nat → Nat} {z : gS} {f f1 : xF} {X : Nat → Prop} {x t : Nat} {e : va_E} (h : fK d z f f1 X) (hx : nO d z x t) (ht : t ≠ 16) (hX : X x) : fK d z f (va_up f1 (d x) e) X :=
  ⟨fun y s hy n => by rw [up_o (nO_ne hy hx (fun e => n (e ▸ hX)))]; exact h.1 y s hy n, fun j hj n => by rw [up_o (tg_ne hj.1 hx.1 (fun e => ht e.symm))]; exact h.2 j hj n⟩
/-- u and w say the same of item j -/
def sI (u w : mS) (j : Nat) : Prop := (∀ r, 4 ≤ r → r ≤ 22 → r ≠ 16 → r ≠ 18 → r ≠ 19 → r ≠ 20 → r ≠ 21 → w.2 r j = u.2 r j) ∧ (∀ r, 23 ≤ r → r ≤ 27 → ∀ t, t < (u.2 22 j).toNatClampNeg → w.2 r (6 * j + t) = u.2 r (6 * j + t)) ∧ (∀ t, t < 5 → w.2 47 (5 * j + t) = u.2 47 (5 * j + t)) ∧ (∀ t, t < 80 → w.2 16 (80 * j + t) = u.2 16 (80 * j + t)) ∧ (∀ t, t < 4 → w.2 18 (4 * j + t) = u.2 18 (4 * j + t) ∧ w.2 19 (4 * j + t) = u.2 19 (4 * j + t)) ∧ (∀ t, t < 10 → w.2 21 (10 * j + t) = u.2 21 (10 * j + t)) ∧ ∀ t, t < 400 → w.2 48 (80 * t + j) = u.2 48 (80 * t + j)
theorem nO_d {d d2 : Nat → Nat} {z : gS} {x t : Nat} (e : d2 x = d x) (h : nO d z x t) : nO d2 z x t := by unfold nO; rw [e]; exact h
theorem eqR_w {n : Nat} {g r r2 : Nat → Int32} {o : Nat} (h : eqR n g r o) (hr : ∀ t, t < n → r2 (o + t) = r (o + t)) : eqR n g r2 o := fun t ht => by rw [hr t ht]; exact h t ht
/-- what stands behind an item's common fields, kept -/
theorem rRs_fr {q d d2 u w z z2 f f2} {j : Nat} {rs : List Value} (h : rRs q d u z f j rs) (hE : zE z z2) (hd : bI (fun x => d2 x = d x) j) {X : Nat → Prop} (hf : fK d z f f2 X) (hX : bI (fun x => ¬ X x) j) (hs : sI u w j) (hn : (u.1 3).toNatClampNeg ≤ (w.1 3).toNatClampNeg) (ho : ∀ o, o < (u.1 3).toNatClampNeg → d2 (2000 + o) = d (2000 + o) ∧ w.2 4 o = u.2 4 o) : rRs q d2 w z2 f2 j rs := by
  obtain ⟨-, -, -, d5, d6⟩ := hd
  obtain ⟨-, -, -, x5, x6⟩ := hX
  obtain ⟨s1, s2, s3, s4, s5, s6, s7⟩ := hs
  have r4 : w.2 4 j = u.2 4 j := s1 4 (by omega) (by omega) (by omega) (by omega) (by omega) (by omega) (by omega)
  have q5 : w.2 5 j = u.2 5 j := s1 5 (by omega) (by omega) (by omega) (by omega) (by omega) (by omega) (by omega)
  have q6 : w.2 6 j = u.2 6 j := s1 6 (by omega) (by omega) (by omega) (by omega) (by omega) (by omega) (by omega)
  have q7 : w.2 7 j = u.2 7 j := s1 7 (by omega) (by omega) (by omega) (by omega) (by omega) (by omega) (by omega)
  have q8 : w.2 8 j = u.2 8 j := s1 8 (by omega) (by omega) (by omega) (by omega) (by omega) (by omega) (by omega)
  have q9 : w.2 9 j = u.2 9 j := s1 9 (by omega) (by omega) (by omega) (by omega) (by omega) (by omega) (by omega)
  have q10 : w.2 10 j = u.2 10 j := s1 10 (by omega) (by omega) (by omega) (by omega) (by omega) (by omega) (by omega)
  have q11 : w.2 11 j = u.2 11 j := s1 11 (by omega) (by omega) (by omega) (by omega) (by omega) (by omega) (by omega)
  have q12 : w.2 12 j = u.2 12 j := s1 12 (by omega) (by omega) (by omega) (by omega) (by omega) (by omega) (by omega)
  have q13 : w.2 13 j = u.2 13 j := s1 13 (by omega) (by omega) (by omega) (by omega) (by omega) (by omega) (by omega)
  have q14 : w.2 14 j = u.2 14 j := s1 14 (by omega) (by omega) (by omega) (by omega) (by omega) (by omega) (by omega)
  have q15 : w.2 15 j = u.2 15 j := s1 15 (by omega) (by omega) (by omega) (by omega) (by omega) (by omega) (by omega)
  have q17 : w.2 17 j = u.2 17 j := s1 17 (by omega) (by omega) (by omega) (by omega) (by omega) (by omega) (by omega)
  obtain ⟨k0, k1, k2, k3, k4, k5⟩ := h
  unfold rRs
  rw [r4, q5, q6, q7, q8, q9, q10, q11, q12, q13, q14, q15, q17, d5, d6]
  refine ⟨fun e => ?_, fun e => ?_, fun e => ?_, fun e => ?_, k4, fun e => ?_⟩
  · obtain ⟨a1, a2, a3, ⟨g1, a4, a5⟩, g2, a6, a7⟩ := k0 e
    exact ⟨a1, nO_d d5 (nO_E hE a2), nO_d d6 (nO_E hE a3), ⟨g1, by rw [hf.1 _ _ a2 x5]; exact a4, eqR_w a5 s4⟩, g2, by rw [hf.1 _ _ a3 x6]; exact a6, eqR_w a7 s6⟩
  · obtain ⟨o, a1, a2, a3, a4⟩ := k1 e
    exact ⟨o, by omega, a2, by rw [(ho o a1).2]; exact a3, by rw [(ho o a1).1]; exact a4⟩
  · obtain ⟨a1, a2, a3, ⟨g1, a4, a5⟩, g2, a6, a7⟩ := k2 e
    exact ⟨a1, nO_d d5 (nO_E hE a2), nO_d d6 (nO_E hE a3), ⟨g1, by rw [hf.1 _ _ a2 x5]; exact a4, eqR_w a5 fun t ht => (s5 t ht).1⟩, g2, by rw [hf.1 _ _ a3 x6]; exact a6, eqR_w a7 fun t ht => (s5 t ht).2⟩
  · obtain ⟨a1, a2, a3, g1, a4, a5⟩ := k3 e
    exact ⟨a1, zE_pc hE a2, nO_d d6 (nO_E hE a3), g1, by rw [hf.1 _ _ a3 x6]; exact a4, fun t ht => by rw [s7 t ht]; exact a5 t ht⟩
  · obtain ⟨o, a1, a2, a3⟩ := k5 e
    exact ⟨o, by omega, a2, by rw [(ho o a1).1]; exact a3⟩
/-- item j, kept -/
theorem rIt_fr {q d d2 u w z z2 f f2} {j : Nat} (h : rIt q d u z f j) (hE : zE z z2) (hd : bI (fun x => d2 x = d x) j) {X : Nat → Prop} (hf : fK d z f f2 X) (hX : bI (fun x => ¬ X x) j) (hs : sI u w j) (hn : (u.1 3).toNatClampNeg ≤ (w.1 3).toNatClampNeg) (ho : ∀ o, o < (u.1 3).toNatClampNeg → d2 (2000 + o) = d (2000 + o) ∧ w.2 4 o = u.2 4 o) : rIt q d2 w z2 f2 j := by
  obtain ⟨n1, n2, n3, hkd, rs, g, fg, hsl, hps, hpcs, hfs, hfe, hrs⟩ := h
  have hrs2 := rRs_fr hrs hE hd hf hX hs hn ho
  obtain ⟨d2_, d3, d4, d5, d6⟩ := hd
  obtain ⟨x2, x3, x4, -, -⟩ := hX
  have f2_ := hf.1 _ _ n1 x2
  have f3 := hf.2 _ n2 x3
  have f4 := hf.1 _ _ n3 x4
  obtain ⟨s1, s2, s3, s4, s5, s6, s7⟩ := hs
  have r4 : w.2 4 j = u.2 4 j := s1 4 (by omega) (by omega) (by omega) (by omega) (by omega) (by omega) (by omega)
  have r22 : w.2 22 j = u.2 22 j := s1 22 (by omega) (by omega) (by omega) (by omega) (by omega) (by omega) (by omega)
  refine ⟨by rw [r4]; exact nO_d d2_ (nO_E hE n1), ⟨by rw [d3]; exact zE_tg hE n2.1, n2.2⟩, nO_d d4 (nO_E hE n3), by rw [r4]; exact hkd, rs, g, fg, ?_, ?_, ?_, ?_, eqR_w hfe s3, hrs2⟩
  · rw [d2_, d3, d4, f2_, r4, r22, zE_o hE n1.1.1]; exact hsl
  · rw [d3, f3, r4]; exact hps
  · intro t ht
    rw [r22] at ht
    obtain ⟨b, b1, b2⟩ := hpcs t ht
    refine ⟨b, b1, ?_⟩
    have hp : ∀ c, c < 5 → pR w j t c = pR u j t c := fun c hc => s2 (23 + c) (by omega) (by omega) t ht
    rw [d2_, hp 0 (by omega), hp 1 (by omega), hp 2 (by omega), hp 3 (by omega), hp 4 (by omega)]
    exact zE_pc hE b2
  · rw [d4, f4]; exact hfs
/-- the pages, kept -/
theorem rPg_fr {q d d2 u w z z2 f f2} (h : rPg q d u z f) (hE : zE z z2) (hd : ∀ x, x < 100 → d2 x = d x) {X : Nat → Prop} (hf : fK d z f f2 X) (hX : ∀ x, x < 100 → x ≠ 1 → x ≠ 2 → x ≠ 3 → x ≠ 4 → ¬ X x) (hn0 : nO d z 0 2) (h0 : w.2 0 = u.2 0) (h1 : w.2 1 = u.2 1) (h2 : w.2 2 = u.2 2) : rPg q d2 w z2 f2 := by
  obtain ⟨⟨g, a1, a2⟩, a3⟩ := h
  refine ⟨⟨g, by rw [hd 0 (by omega), hf.1 0 _ hn0 (hX 0 (by omega) (by omega) (by omega) (by omega) (by omega))]; exact a1, fun p hp => by rw [hd _ (by omega)]; exact a2 p hp⟩, fun p hp => ?_⟩
  obtain ⟨n1, n2, n3, dd, ii, s1, ⟨gl, s2, s3⟩, gc, s4, s5⟩ := a3 p hp
  have e1 := hd (10 + p) (by omega)
  have e2 := hd (30 + p) (by omega)
  have e3 := hd (50 + p) (by omega)
  refine ⟨nO_d e1 (nO_E hE n1), nO_d e2 (nO_E hE n2), nO_d e3 (nO_E hE n3), dd, ii, ?_, ⟨gl, ?_, by rw [h0]; exact s3⟩, gc, ?_, by rw [h2]; exact s5⟩
  · rw [e1, e2, e3, hf.1 (10 + p) _ n1 (hX (10 + p) (by omega) (by omega) (by omega) (by omega) (by omega)), h1]; exact s1
  · rw [e2, hf.1 (30 + p) _ n2 (hX (30 + p) (by omega) (by omega) (by omega) (by omega) (by omega))]; exact s2
  · rw [e3, hf.1 (50 + p) _ n3 (hX (50 + p) (by omega) (by omega) (by omega) (by omega) (by omega))]; exact s4
/-- the plates, kept -/
theorem rPl_fr {q d d2 u w z z2 f f2} (h : rPl q d u z f) (hE : zE z z2) (hd1 : d2 1 = d 1) (hd : ∀ x, 1000 ≤ x → x < 1100 → d2 x = d x) {X : Nat → Prop} (hf : fK d z f f2 X) (hX1 : ¬ X 1) (hX : ∀ x, 1000 ≤ x → x < 1100 → ¬ X x) (hn1 : nO d z 1 3) (hr : ∀ r, 40 ≤ r → r ≤ 44 → w.2 r = u.2 r) : rPl q d2 w z2 f2 := by
  obtain ⟨g, a1, a2⟩ := h
  have q0 := hr 40 (by omega) (by omega)
  have q1 := hr 41 (by omega) (by omega)
  have q2 := hr 42 (by omega) (by omega)
  have q3 := hr 43 (by omega) (by omega)
  have q4 := hr 44 (by omega) (by omega)
  refine ⟨g, by rw [hd1, hf.1 1 _ hn1 hX1]; exact a1, fun p hp => ?_⟩
  have e1 := hd (1000 + p) (by omega) (by omega)
  have e2 := hd (1020 + p) (by omega) (by omega)
  have e3 := hd (1040 + p) (by omega) (by omega)
  rcases a2 p hp with ⟨b1, b2⟩ | ⟨b1, b2, n1, n2, n3, m2, s1, ⟨gl, s2, s3⟩, gc, s4, s5⟩
  · exact Or.inl ⟨by rw [q0]; exact b1, b2⟩
  · refine Or.inr ⟨by rw [q0]; exact b1, by rw [e1]; exact b2, nO_d e1 (nO_E hE n1), nO_d e2 (nO_E hE n2), nO_d e3 (nO_E hE n3), m2, ?_, ⟨gl, ?_, by rw [q3]; exact s3⟩, gc, ?_, by rw [q4]; exact s5⟩
    · have c1 := hf.1 (1000 + p) _ n1 (hX (1000 + p) (by omega) (by omega))
      rw [e1, e2, e3, c1, q1, q2]; exact s1
    · have c2 := hf.1 (1020 + p) _ n2 (hX (1020 + p) (by omega) (by omega))
      rw [e2, c2]; exact s2
    · have c3 := hf.1 (1040 + p) _ n3 (hX (1040 + p) (by omega) (by omega))
      rw [e3, c3]; exact s4
theorem rRv_fr {q d d2 u w f f2} (h : rRv q d u f) (hd : d2 4 = d 4) (hf : f2 (d 4) = f (d 4)) (hr : w.2 20 = u.2 20) : rRv q d2 w f2 := by
  obtain ⟨g, a1, a2⟩ := h
  exact ⟨g, by rw [hd, hf]; exact a1, by rw [hr]; exact a2⟩
/-- a write at an item alone -/
theorem rep_it {q d u w z f f2} {X : Nat → Prop} {i : Nat} (h : rep q d u z f) (hf : fK d z f f2 X) (hX : ∀ x, X x → x = 2000 + i ∨ x = 3000 + i ∨ x = 4000 + i ∨ x = 5000 + i ∨ x = 6000 + i) (hi : i < 80) (hn : (u.1 3).toNatClampNeg ≤ 80) (hs : ∀ j, j < (u.1 3).toNatClampNeg → j ≠ i → sI u w j) (h1 : w.1 = u.1) (hr : ∀ r, r < 3 ∨ r = 4 ∨ r = 20 ∨ (40 ≤ r ∧ r ≤ 44) → w.2 r = u.2 r) (hit : rIt q d w z f2 i) : rep q d w z f2 := by
  obtain ⟨h1g, h1l, ⟨⟨g, a1, a2⟩, a3⟩, h1v, n0, n1, n2, n3, n4⟩ := h
  have nx : ∀ x, x < 2000 → ¬ X x := fun x hx hX2 => by rcases hX x hX2 with e | e | e | e | e <;> omega
  refine ⟨rPg_fr h1g (zE_rf z) (fun _ _ => rfl) hf (fun x hx _ _ _ _ => nx x (by omega)) n0 (hr 0 (by omega)) (hr 1 (by omega)) (hr 2 (by omega)), rPl_fr h1l (zE_rf z) rfl (fun _ _ _ => rfl) hf (nx 1 (by omega)) (fun x _ hx => nx x (by omega)) n1 (fun r r1 r2 => hr r (by omega)), ⟨⟨g, by rw [hf.1 2 _ n2 (nx 2 (by omega))]; exact a1, fun j hj => a2 j (by rw [← h1]; exact hj)⟩, fun j hj => ?_⟩, rRv_fr h1v rfl (hf.1 4 _ n4 (nx 4 (by omega))) (hr 20 (by omega)), n0, n1, n2, n3, n4⟩
  rw [h1] at hj
  by_cases e : j = i
  · rw [e]; exact hit
  · refine rIt_fr (a3 j hj) (zE_rf z) ⟨rfl, rfl, rfl, rfl, rfl⟩ hf ?_ (hs j hj e) (by rw [h1]; exact Nat.le_refl _) (fun o _ => ⟨rfl, by rw [hr 4 (by omega)]⟩)
    refine ⟨fun x => ?_, fun x => ?_, fun x => ?_, fun x => ?_, fun x => ?_⟩ <;> rcases hX _ x with e | e | e | e | e <;> omega
theorem mst_1 (u : mS) (r : Nat) (a x : Int32) : (mst u r a x).1 = u.1 := rfl
/-- line: what is written keeps rep -/
theorem rep_line {q d u z f} {i : Nat} (h : rep q d u z f) (hn : bw (u.1 3) 0 80 = true) (hi : i < (u.1 3).toNatClampNeg) (hk : u.2 4 i = 0) (hco : bw (u.2 15 i) 0 80 = true) (h80 : u.2 15 i < 80) (x : Int32) {gw : Nat → Int32} (hw : f (d (5000 + i)) = aI (q 0) 80 gw) : rep q d (mst (mst u 16 (80 * nI i + u.2 15 i) x) 15 (nI i) (u.2 15 i + 1)) z (va_up (va_up f (d (5000 + i)) (aI (q 0) 80 (upd gw (u.2 15 i).toNatClampNeg x))) (d (2000 + i)) (.inr (9, [.int (nI i), .int (u.2 4 i), .ref (d (3000 + i)), .int (u.2 22 i), .ref (d (4000 + i)), .int (u.2 5 i), .ref (d (5000 + i)), .int (u.2 15 i + 1), .ref (d (6000 + i))]))) := by
  have hi8 := (bw_it hn hi).2
  have hN : (u.1 3).toNatClampNeg ≤ 80 := by
    obtain ⟨c1, c2, c3⟩ := nI_of_bw hn
    have e80 : (80 : Int32).toInt = 80 := rfl
    rw [e80] at c3; omega
  obtain ⟨c1, c2, c3⟩ := nI_of_bw hco
  have hc80 : (u.2 15 i).toNatClampNeg < 80 := by
    have e80 : (80 : Int32).toInt = 80 := rfl
    rw [i32_lt, e80] at h80; omega
  have eA : (80 * nI i + u.2 15 i).toNatClampNeg = 80 * i + (u.2 15 i).toNatClampNeg := by
    rw [c1, show (80 : Int32) = nI 80 from rfl, pk_mul, nI_add, nI_clamp (by omega), nI_clamp (n := (u.2 15 i).toNatClampNeg) (by omega)]
  have eI : (nI i).toNatClampNeg = i := nI_clamp (by omega)
  obtain ⟨n1, n2, n3, hkd, rs, g, fg, hsl, hps, hpcs, hfs, hfe, hrs⟩ := h.2.2.1.2 i hi
  obtain ⟨a1, a2, a3, ⟨g1, a4, a5⟩, g2, a6, a7⟩ := hrs.1 hk
  obtain rfl := (aI_inj (hw.symm.trans a4)).2
  generalize hco2 : (u.2 15 i).toNatClampNeg = co at *
  generalize hw9 : mst (mst u 16 (80 * nI i + u.2 15 i) x) 15 (nI i) (u.2 15 i + 1) = w
  have w2 : ∀ r, r ≠ 15 → r ≠ 16 → w.2 r = u.2 r := fun r r1 r2 => by rw [← hw9, mst_other r1, mst_other r2]
  have w15 : ∀ j, w.2 15 j = if j = i then u.2 15 i + 1 else u.2 15 j := fun j => by rw [← hw9, mst_at, eI, mst_other (by decide)]
  have w16 : ∀ j, w.2 16 j = if j = 80 * i + co then x else u.2 16 j := fun j => by rw [← hw9, mst_other (by decide), mst_at, eA]
  have w1 : w.1 = u.1 := by rw [← hw9]; rfl
  have t15 : kT (u.2 4 i) = 15 := by rw [hk]; rfl
  rw [t15] at n1
  have hf : fK d z f (va_up (va_up f (d (5000 + i)) (aI (q 0) 80 (upd gw co x))) (d (2000 + i)) (.inr (9, [.int (nI i), .int (u.2 4 i), .ref (d (3000 + i)), .int (u.2 22 i), .ref (d (4000 + i)), .int (u.2 5 i), .ref (d (5000 + i)), .int (u.2 15 i + 1), .ref (d (6000 + i))]))) (fun x => x = 2000 + i ∨ x = 5000 + i) := fK_up (fK_up (fK_rf d z f _) a2 (by decide) (Or.inr rfl)) n1 (by decide) (Or.inl rfl)
  refine rep_it (i := i) h hf (fun x hx => by rcases hx with e | e <;> omega) hi8 hN (fun j hj hji => ?_) w1 (fun r hr => w2 r (by omega) (by omega)) ?_
  · refine ⟨fun r r1 r2 r3 _ _ _ _ => ?_, fun r r1 r2 t _ => by rw [w2 r (by omega) (by omega)], fun t _ => by rw [w2 47 (by omega) (by omega)], fun t ht => ?_, fun t _ => by rw [w2 18 (by omega) (by omega), w2 19 (by omega) (by omega)]; exact ⟨rfl, rfl⟩, fun t _ => by rw [w2 21 (by omega) (by omega)], fun t _ => by rw [w2 48 (by omega) (by omega)]⟩
    · by_cases e : r = 15
      · rw [e, w15, if_neg hji]
      · rw [w2 r e r3]
    · rw [w16, if_neg (by omega)]
  · have q4 : w.2 4 = u.2 4 := w2 4 (by omega) (by omega)
    have q5 : w.2 5 = u.2 5 := w2 5 (by omega) (by omega)
    have q22 : w.2 22 = u.2 22 := w2 22 (by omega) (by omega)
    have q15 : w.2 15 i = u.2 15 i + 1 := by rw [w15, if_pos rfl]
    have ne1 : d (5000 + i) ≠ d (2000 + i) := nO_ne a2 n1 (by omega)
    refine ⟨by rw [q4, t15]; exact n1, n2, n3, by rw [q4]; exact hkd, [.int (u.2 5 i), .ref (d (5000 + i)), .int (u.2 15 i + 1), .ref (d (6000 + i))], g, fg, ?_, ?_, ?_, ?_, ?_, ?_⟩
    · rw [up_s, n1.1.2, q4, q22]; rfl
    · rw [hf.2 i n2 (fun e => by rcases e with e | e <;> omega), q4]; exact hps
    · intro t ht
      rw [q22] at ht
      obtain ⟨b, b1, b2⟩ := hpcs t ht
      refine ⟨b, b1, ?_⟩
      have hp : ∀ c, c < 5 → pR w i t c = pR u i t c := fun c hc => by show w.2 (23 + c) _ = u.2 (23 + c) _; rw [w2 (23 + c) (by omega) (by omega)]
      rw [hp 0 (by omega), hp 1 (by omega), hp 2 (by omega), hp 3 (by omega), hp 4 (by omega)]
      exact b2
    · rw [hf.1 _ _ n3 (fun e => by rcases e with e | e <;> omega)]; exact hfs
    · rw [w2 47 (by omega) (by omega)]; exact hfe
    · have no : ∀ kk : Int32, kk ≠ 0 → ¬ w.2 4 i = kk := fun kk hkk e => hkk (by rw [q4, hk] at e; exact e.symm)
      refine ⟨fun _ => ⟨by rw [q5, q15], a2, a3, ⟨_, by rw [up_o ne1, up_s], ?_⟩, g2, by rw [hf.1 _ _ a3 (fun e => by rcases e with e | e <;> omega)]; exact a6, by rw [w2 21 (by omega) (by omega)]; exact a7⟩, fun e => absurd e (no 1 (by decide)), fun e => absurd e (no 2 (by decide)), fun e => absurd e (no 3 (by decide)), fun e => absurd e (no 4 (by decide)), fun e => absurd e (no 5 (by decide))⟩
      intro t ht
      rw [w16]
      unfold upd
      by_cases e : t = co
      · rw [if_pos e, if_pos (by omega)]
      · rw [if_neg e, if_neg (by omega)]; exact a5 t ht
theorem mK_no {u : mS} {p kd : Int32} (h : ¬ bw p 0 (u.1 3 - 1) = true) : mKind u p kd = false := by
  unfold mKind; cases hb : bw p 0 (u.1 3 - 1) with
  | false => rfl
  | true => exact absurd hb h
theorem mK_it {u : mS} {i : Nat} {kd : Int32} (hn : bw (u.1 3) 0 80 = true) (hi : i < (u.1 3).toNatClampNeg) : mKind u (nI i) kd = decide (u.2 4 i = kd) := by
  have h2 := bw_it hn hi
  unfold mKind; rw [h2.1, nI_clamp (by omega), Bool.true_and]
theorem line_n {u : mS} {p x : Int32} (h : mKind u p 0 = false) : mLine u p x = (-1, u) := by
  unfold mLine; rw [h, if_neg (by decide)]
theorem line_x {u : mS} {p x : Int32} (h : ¬ bw x 1 200 = true) : mLine u p x = (-1, u) := by
  unfold mLine; rw [if_neg h]; split <;> rfl
theorem line_y {q d u z f f2} {i : Nat} {x r : Int32} {gw : Nat → Int32} (h : rep q d u z f) (hu : rI u) (hi : i < (u.1 3).toNatClampNeg) (hk : u.2 4 i = 0) (hx : bw x 1 200 = true) (hw : f (d (5000 + i)) = aI (q 0) 80 gw) (hr : r = s_takeIn x (u.2 15 i)) (hf : f2 = s_takeIn_f q f (d (2000 + i)) (d (3000 + i)) (d (4000 + i)) (d (5000 + i)) (d (6000 + i)) x (nI i) (u.2 4 i) (u.2 22 i) (u.2 5 i) (u.2 15 i) gw) : r = (mLine u (nI i) x).1 ∧ rep q d (mLine u (nI i) x).2 z f2 := by
  have h2 := bw_it hu.1 hi
  have hco := hu.2.2.2.2.1 i h2.2
  have eI : (nI i).toNatClampNeg = i := nI_clamp (by omega)
  have hK : mKind u (nI i) 0 = true := by rw [mK_it hu.1 hi, hk]; rfl
  have e80 : (80 : Int32).toInt = 80 := rfl
  by_cases c : u.2 15 i < 80
  · have n80 : ¬ u.2 15 i = 80 := fun e => by rw [e, i32_lt] at c; omega
    have e : mLine u (nI i) x = ((u.2 15 i + 1), mst (mst u 16 (80 * nI i + u.2 15 i) x) 15 (nI i) (u.2 15 i + 1)) := by
      unfold mLine
      rw [if_pos hK, if_pos hx, eI, if_neg n80]
      have e1 : (mst u 16 (80 * nI i + u.2 15 i) x).2 15 i = u.2 15 i := by rw [mst_other (by decide)]
      show ((mst (mst u 16 (80 * nI i + u.2 15 i) x) 15 (nI i) ((mst u 16 (80 * nI i + u.2 15 i) x).2 15 i + 1)).2 15 i, _) = _
      rw [e1, mst_at, eI, if_pos rfl]
    rw [e, hr, hf]
    unfold s_takeIn s_takeIn_f
    rw [if_pos c, if_pos c]
    exact ⟨rfl, rep_line h hu.1 hi hk hco c x hw⟩
  · have y80 : u.2 15 i = 80 := by
      have h3 := bw_iff.mp hco
      rw [i32_lt] at c
      exact Int32.toInt_inj.mp (by omega)
    have e : mLine u (nI i) x = (-1, u) := by
      unfold mLine
      rw [if_pos hK, if_pos hx, eI, if_pos y80]
    rw [e, hr, hf]
    unfold s_takeIn s_takeIn_f
    rw [if_neg c, if_neg c]
    exact ⟨rfl, h⟩
theorem w80 {u : mS} (hn : bw (u.1 3) 0 80 = true) : (u.1 3).toNatClampNeg ≤ 80 := by
  obtain ⟨c1, c2, c3⟩ := nI_of_bw hn
  have e80 : (80 : Int32).toInt = 80 := rfl
  rw [e80] at c3; omega
/-- size: what is written keeps rep -/
theorem rep_size {q d u z f} {i : Nat} (h : rep q d u z f) (hn : bw (u.1 3) 0 80 = true) (hi : i < (u.1 3).toNatClampNeg) (hk : u.2 4 i = 2) (hco : bw (u.2 17 i) 0 4 = true) (h80 : u.2 17 i < 4) (x y : Int32) {gw gh : Nat → Int32} (hw : f (d (5000 + i)) = aI (q 0) 4 gw) (hh : f (d (6000 + i)) = aI (q 0) 4 gh) : rep q d (mst (mst (mst u 18 (4 * nI i + u.2 17 i) x) 19 (4 * nI i + u.2 17 i) y) 17 (nI i) (u.2 17 i + 1)) z (va_up (va_up (va_up f (d (5000 + i)) (aI (q 0) 4 (upd gw (u.2 17 i).toNatClampNeg x))) (d (6000 + i)) (aI (q 0) 4 (upd gh (u.2 17 i).toNatClampNeg y))) (d (2000 + i)) (.inr (6, [.int (nI i), .int (u.2 4 i), .ref (d (3000 + i)), .int (u.2 22 i), .ref (d (4000 + i)), .ref (d (5000 + i)), .ref (d (6000 + i)), .int (u.2 17 i + 1)]))) := by
  have hi8 := (bw_it hn hi).2
  have hN := w80 hn
  obtain ⟨c1, c2, c3⟩ := nI_of_bw hco
  have hc80 : (u.2 17 i).toNatClampNeg < 4 := by
    have e80 : (4 : Int32).toInt = 4 := rfl
    rw [i32_lt, e80] at h80; omega
  have eA : (4 * nI i + u.2 17 i).toNatClampNeg = 4 * i + (u.2 17 i).toNatClampNeg := by
    rw [c1, show (4 : Int32) = nI 4 from rfl, pk_mul, nI_add, nI_clamp (by omega), nI_clamp (n := (u.2 17 i).toNatClampNeg) (by omega)]
  have eI : (nI i).toNatClampNeg = i := nI_clamp (by omega)
  obtain ⟨n1, n2, n3, hkd, rs, g, fg, hsl, hps, hpcs, hfs, hfe, hrs⟩ := h.2.2.1.2 i hi
  obtain ⟨a1, a2, a3, ⟨g1, a4, a5⟩, g2, a6, a7⟩ := hrs.2.2.1 hk
  obtain rfl := (aI_inj (hw.symm.trans a4)).2
  obtain rfl := (aI_inj (hh.symm.trans a6)).2
  generalize hco2 : (u.2 17 i).toNatClampNeg = co at *
  generalize hw9 : mst (mst (mst u 18 (4 * nI i + u.2 17 i) x) 19 (4 * nI i + u.2 17 i) y) 17 (nI i) (u.2 17 i + 1) = w
  have w2 : ∀ r, r ≠ 17 → r ≠ 18 → r ≠ 19 → w.2 r = u.2 r := fun r r1 r2 r3 => by rw [← hw9, mst_other r1, mst_other r3, mst_other r2]
  have w17 : ∀ j, w.2 17 j = if j = i then u.2 17 i + 1 else u.2 17 j := fun j => by rw [← hw9, mst_at, eI, mst_other (by decide), mst_other (by decide)]
  have w18 : ∀ j, w.2 18 j = if j = 4 * i + co then x else u.2 18 j := fun j => by rw [← hw9, mst_other (by decide), mst_other (by decide), mst_at, eA]
  have w19 : ∀ j, w.2 19 j = if j = 4 * i + co then y else u.2 19 j := fun j => by rw [← hw9, mst_other (by decide), mst_at, eA, mst_other (by decide)]
  have w1 : w.1 = u.1 := by rw [← hw9]; rfl
  have t14 : kT (u.2 4 i) = 14 := by rw [hk]; rfl
  rw [t14] at n1
  have hf : fK d z f (va_up (va_up (va_up f (d (5000 + i)) (aI (q 0) 4 (upd gw co x))) (d (6000 + i)) (aI (q 0) 4 (upd gh co y))) (d (2000 + i)) (.inr (6, [.int (nI i), .int (u.2 4 i), .ref (d (3000 + i)), .int (u.2 22 i), .ref (d (4000 + i)), .ref (d (5000 + i)), .ref (d (6000 + i)), .int (u.2 17 i + 1)]))) (fun x => x = 2000 + i ∨ x = 5000 + i ∨ x = 6000 + i) := fK_up (fK_up (fK_up (fK_rf d z f _) a2 (by decide) (Or.inr (Or.inl rfl))) a3 (by decide) (Or.inr (Or.inr rfl))) n1 (by decide) (Or.inl rfl)
  refine rep_it (i := i) h hf (fun x hx => by rcases hx with e | e | e <;> omega) hi8 hN (fun j hj hji => ?_) w1 (fun r hr => w2 r (by omega) (by omega) (by omega)) ?_
  · refine ⟨fun r r1 r2 r3 r4 r5 _ _ => ?_, fun r r1 r2 t _ => by rw [w2 r (by omega) (by omega) (by omega)], fun t _ => by rw [w2 47 (by omega) (by omega) (by omega)], fun t _ => by rw [w2 16 (by omega) (by omega) (by omega)], fun t ht => ?_, fun t _ => by rw [w2 21 (by omega) (by omega) (by omega)], fun t _ => by rw [w2 48 (by omega) (by omega) (by omega)]⟩
    · by_cases e : r = 17
      · rw [e, w17, if_neg hji]
      · rw [w2 r e r4 r5]
    · rw [w18, w19, if_neg (by omega), if_neg (by omega)]; exact ⟨rfl, rfl⟩
  · have q4 : w.2 4 = u.2 4 := w2 4 (by omega) (by omega) (by omega)
    have q22 : w.2 22 = u.2 22 := w2 22 (by omega) (by omega) (by omega)
    have q17 : w.2 17 i = u.2 17 i + 1 := by rw [w17, if_pos rfl]
    have ne1 : d (5000 + i) ≠ d (2000 + i) := nO_ne a2 n1 (by omega)
    have ne2 : d (6000 + i) ≠ d (2000 + i) := nO_ne a3 n1 (by omega)
    have ne3 : d (5000 + i) ≠ d (6000 + i) := nO_ne a2 a3 (by omega)
    have nx : ∀ x, x = 3000 + i ∨ x = 4000 + i → ¬ (x = 2000 + i ∨ x = 5000 + i ∨ x = 6000 + i) := fun x hx => by omega
    refine ⟨by rw [q4, t14]; exact n1, n2, n3, by rw [q4]; exact hkd, [.ref (d (5000 + i)), .ref (d (6000 + i)), .int (u.2 17 i + 1)], g, fg, ?_, ?_, ?_, ?_, ?_, ?_⟩
    · rw [up_s, n1.1.2, q4, q22]; rfl
    · rw [hf.2 i n2 (nx _ (Or.inl rfl)), q4]; exact hps
    · intro t ht
      rw [q22] at ht
      obtain ⟨b, b1, b2⟩ := hpcs t ht
      refine ⟨b, b1, ?_⟩
      have hp : ∀ c, c < 5 → pR w i t c = pR u i t c := fun c hc => by show w.2 (23 + c) _ = u.2 (23 + c) _; rw [w2 (23 + c) (by omega) (by omega) (by omega)]
      rw [hp 0 (by omega), hp 1 (by omega), hp 2 (by omega), hp 3 (by omega), hp 4 (by omega)]
      exact b2
    · rw [hf.1 _ _ n3 (nx _ (Or.inr rfl))]; exact hfs
    · rw [w2 47 (by omega) (by omega) (by omega)]; exact hfe
    · have no : ∀ kk : Int32, kk ≠ 2 → ¬ w.2 4 i = kk := fun kk hkk e => hkk (by rw [q4, hk] at e; exact e.symm)
      refine ⟨fun e => absurd e (no 0 (by decide)), fun e => absurd e (no 1 (by decide)), fun _ => ⟨by rw [q17], a2, a3, ⟨_, by rw [up_o ne1, up_o ne3, up_s], ?_⟩, _, by rw [up_o ne2, up_s], ?_⟩, fun e => absurd e (no 3 (by decide)), fun e => absurd e (no 4 (by decide)), fun e => absurd e (no 5 (by decide))⟩
      · intro t ht
        rw [w18]
        unfold upd
        by_cases e : t = co
        · rw [if_pos e, if_pos (by omega)]
        · rw [if_neg e, if_neg (by omega)]; exact a5 t ht
      · intro t ht
        rw [w19]
        unfold upd
        by_cases e : t = co
        · rw [if_pos e, if_pos (by omega)]
        · rw [if_neg e, if_neg (by omega)]; exact a7 t ht
theorem size_n {u : mS} {p x y : Int32} (h : mKind u p 2 = false) : mSize u p x y = (-1, u) := by
  unfold mSize; rw [h, if_neg (by decide)]
theorem size_x {u : mS} {p x y : Int32} (h : ¬ (bw x 1 8 = true ∧ bw y 1 60 = true)) : mSize u p x y = (-1, u) := by
  unfold mSize
  by_cases a : bw x 1 8 = true
  · rw [if_pos a, if_neg (fun b => h ⟨a, b⟩)]; split <;> rfl
  · rw [if_neg a]; split <;> rfl
theorem size_y {q d u z f f2} {i : Nat} {x y r : Int32} {gw gh : Nat → Int32} (h : rep q d u z f) (hu : rI u) (hi : i < (u.1 3).toNatClampNeg) (hk : u.2 4 i = 2) (hx : bw x 1 8 = true) (hy : bw y 1 60 = true) (hw : f (d (5000 + i)) = aI (q 0) 4 gw) (hh : f (d (6000 + i)) = aI (q 0) 4 gh) (hr : r = s_takeSize x y (u.2 17 i)) (hf : f2 = s_takeSize_f q f (d (2000 + i)) (d (3000 + i)) (d (4000 + i)) (d (5000 + i)) (d (6000 + i)) x y (nI i) (u.2 4 i) (u.2 22 i) (u.2 17 i) gw gh) : r = (mSize u (nI i) x y).1 ∧ rep q d (mSize u (nI i) x y).2 z f2 := by
  have h2 := bw_it hu.1 hi
  have hco := hu.2.2.2.2.2.1 i h2.2
  have eI : (nI i).toNatClampNeg = i := nI_clamp (by omega)
  have hK : mKind u (nI i) 2 = true := by rw [mK_it hu.1 hi, hk]; rfl
  have e80 : (4 : Int32).toInt = 4 := rfl
  by_cases c : u.2 17 i < 4
  · have n80 : ¬ u.2 17 i = 4 := fun e => by rw [e, i32_lt] at c; omega
    have e : mSize u (nI i) x y = ((u.2 17 i + 1), mst (mst (mst u 18 (4 * nI i + u.2 17 i) x) 19 (4 * nI i + u.2 17 i) y) 17 (nI i) (u.2 17 i + 1)) := by
      unfold mSize
      rw [if_pos hK, if_pos hx, if_pos hy, eI, if_neg n80]
      have e1 : ∀ a, (mst u 18 a x).2 17 i = u.2 17 i := fun a => by rw [mst_other (by decide)]
      have e2 : ∀ a b, (mst (mst u 18 a x) 19 b y).2 17 i = u.2 17 i := fun a b => by rw [mst_other (by decide), mst_other (by decide)]
      simp only [e1, e2, mst_at, eI, if_true]
    rw [e, hr, hf]
    unfold s_takeSize s_takeSize_f
    rw [if_pos c, if_pos c]
    exact ⟨rfl, rep_size h hu.1 hi hk hco c x y hw hh⟩
  · have y80 : u.2 17 i = 4 := by
      have h3 := bw_iff.mp hco
      rw [i32_lt] at c
      exact Int32.toInt_inj.mp (by omega)
    have e : mSize u (nI i) x y = (-1, u) := by
      unfold mSize
      rw [if_pos hK, if_pos hx, if_pos hy, eI, if_pos y80]
    rw [e, hr, hf]
    unfold s_takeSize s_takeSize_f
    rw [if_neg c, if_neg c]
    exact ⟨rfl, h⟩
/-- names: what is written keeps rep -/
theorem rep_names {q d u z f} {i b : Nat} (h : rep q d u z f) (hn : bw (u.1 3) 0 80 = true) (hi : i < (u.1 3).toNatClampNeg) (hk : u.2 4 i = 0) (hb : b < 10) (x : Int32) {gn : Nat → Int32} (hw : f (d (6000 + i)) = aI (q 1) 10 gn) : rep q d (mst u 21 (10 * nI i + nI b) x) z (va_up f (d (6000 + i)) (aI (q 1) 10 (upd gn b x))) := by
  have hi8 := (bw_it hn hi).2
  have hN := w80 hn
  have eA : (10 * nI i + nI b).toNatClampNeg = 10 * i + b := by
    rw [show (10 : Int32) = nI 10 from rfl, pk_mul, nI_add, nI_clamp (by omega)]
  obtain ⟨n1, n2, n3, hkd, rs, g, fg, hsl, hps, hpcs, hfs, hfe, hrs⟩ := h.2.2.1.2 i hi
  obtain ⟨a1, a2, a3, ⟨g1, a4, a5⟩, g2, a6, a7⟩ := hrs.1 hk
  obtain rfl := (aI_inj (hw.symm.trans a6)).2
  generalize hw9 : mst u 21 (10 * nI i + nI b) x = w
  have w2 : ∀ r, r ≠ 21 → w.2 r = u.2 r := fun r r1 => by rw [← hw9, mst_other r1]
  have w21 : ∀ j, w.2 21 j = if j = 10 * i + b then x else u.2 21 j := fun j => by rw [← hw9, mst_at, eA]
  have w1 : w.1 = u.1 := by rw [← hw9]; rfl
  have hf : fK d z f (va_up f (d (6000 + i)) (aI (q 1) 10 (upd gn b x))) (fun x => x = 6000 + i) := fK_up (fK_rf d z f _) a3 (by decide) rfl
  refine rep_it (i := i) h hf (fun x hx => by omega) hi8 hN (fun j hj hji => ?_) w1 (fun r hr => w2 r (by omega)) ?_
  · exact ⟨fun r r1 r2 r3 r4 r5 _ r6 => by rw [w2 r r6], fun r r1 r2 t _ => by rw [w2 r (by omega)], fun t _ => by rw [w2 47 (by omega)], fun t _ => by rw [w2 16 (by omega)], fun t ht => by rw [w2 18 (by omega), w2 19 (by omega)]; exact ⟨rfl, rfl⟩, fun t _ => by rw [w21, if_neg (by omega)], fun t _ => by rw [w2 48 (by omega)]⟩
  · have q4 : w.2 4 = u.2 4 := w2 4 (by omega)
    have q5 : w.2 5 = u.2 5 := w2 5 (by omega)
    have q15 : w.2 15 = u.2 15 := w2 15 (by omega)
    have q16 : w.2 16 = u.2 16 := w2 16 (by omega)
    have q22 : w.2 22 = u.2 22 := w2 22 (by omega)
    refine ⟨by rw [q4]; exact n1, n2, n3, by rw [q4]; exact hkd, rs, g, fg, ?_, ?_, ?_, ?_, ?_, ?_⟩
    · rw [hf.1 _ _ n1 (by omega), q4, q22]; exact hsl
    · rw [hf.2 i n2 (by omega), q4]; exact hps
    · intro t ht
      rw [q22] at ht
      obtain ⟨b, b1, b2⟩ := hpcs t ht
      refine ⟨b, b1, ?_⟩
      have hp : ∀ c, c < 5 → pR w i t c = pR u i t c := fun c hc => by show w.2 (23 + c) _ = u.2 (23 + c) _; rw [w2 (23 + c) (by omega)]
      rw [hp 0 (by omega), hp 1 (by omega), hp 2 (by omega), hp 3 (by omega), hp 4 (by omega)]
      exact b2
    · rw [hf.1 _ _ n3 (by omega)]; exact hfs
    · rw [w2 47 (by omega)]; exact hfe
    · have no : ∀ kk : Int32, kk ≠ 0 → ¬ w.2 4 i = kk := fun kk hkk e => hkk (by rw [q4, hk] at e; exact e.symm)
      refine ⟨fun _ => ⟨by rw [q5, q15]; exact a1, a2, a3, ⟨_, by rw [hf.1 _ _ a2 (by omega)]; exact a4, by rw [q16]; exact a5⟩, _, by rw [up_s], ?_⟩, fun e => absurd e (no 1 (by decide)), fun e => absurd e (no 2 (by decide)), fun e => absurd e (no 3 (by decide)), fun e => absurd e (no 4 (by decide)), fun e => absurd e (no 5 (by decide))⟩
      intro t ht
      rw [w21]
      unfold upd
      by_cases e : t = b
      · rw [if_pos e, if_pos (by omega)]
      · rw [if_neg e, if_neg (by omega)]; exact a7 t ht
theorem names_n {u : mS} {p x : Int32} (h : mKind u p 0 = false) : mNames u p x = (0, u) := by
  unfold mNames; rw [h, if_neg (by decide)]
theorem names_x {u : mS} {p x : Int32} (h : ¬ bw x 0 9 = true) : mNames u p x = (0, u) := by
  unfold mNames; rw [if_neg h]; split <;> rfl
theorem names_y {q d u z f} {i : Nat} {x : Int32} {gn : Nat → Int32} (h : rep q d u z f) (hu : rI u) (hi : i < (u.1 3).toNatClampNeg) (hk : u.2 4 i = 0) (hx : bw x 0 9 = true) (hw : f (d (6000 + i)) = aI (q 1) 10 gn) (he : eqR 10 gn (u.2 21) (10 * i)) : (gn x.toNatClampNeg = 0 → 1 = (mNames u (nI i) x).1 ∧ rep q d (mNames u (nI i) x).2 z (va_up f (d (6000 + i)) (aI (q 1) 10 (upd gn x.toNatClampNeg (vp_nar .boolean 1))))) ∧ (¬ gn x.toNatClampNeg = 0 → 0 = (mNames u (nI i) x).1 ∧ rep q d (mNames u (nI i) x).2 z f) := by
  have h2 := bw_it hu.1 hi
  have hK : mKind u (nI i) 0 = true := by rw [mK_it hu.1 hi, hk]; rfl
  obtain ⟨c1, c2, c3⟩ := nI_of_bw hx
  have e9 : (9 : Int32).toInt = 9 := rfl
  rw [e9] at c3
  generalize hb : x.toNatClampNeg = b at *
  subst c1
  have eA : (10 * nI i + nI b).toNatClampNeg = 10 * i + b := by
    rw [show (10 : Int32) = nI 10 from rfl, pk_mul, nI_add, nI_clamp (by omega)]
  have eg := he b (by omega)
  unfold mNames
  rw [if_pos hK, if_pos hx, eA, ← eg]
  refine ⟨fun e => ?_, fun e => ?_⟩
  · rw [if_pos e]; exact ⟨rfl, rep_names h hu.1 hi hk (by omega) _ hw⟩
  · rw [if_neg e]; exact ⟨rfl, h⟩
theorem sI_all {u w : mS} (hr : ∀ r, 4 ≤ r → r ≤ 48 → r ≠ 20 → w.2 r = u.2 r) (j : Nat) : sI u w j :=
  ⟨fun r r1 r2 _ _ _ r3 _ => by rw [hr r r1 (by omega) r3], fun r r1 r2 t _ => by rw [hr r (by omega) (by omega) (by omega)], fun t _ => by rw [hr 47 (by omega) (by omega) (by omega)], fun t _ => by rw [hr 16 (by omega) (by omega) (by omega)], fun t _ => by rw [hr 18 (by omega) (by omega) (by omega), hr 19 (by omega) (by omega) (by omega)]; exact ⟨rfl, rfl⟩, fun t _ => by rw [hr 21 (by omega) (by omega) (by omega)], fun t _ => by rw [hr 48 (by omega) (by omega) (by omega)]⟩
/-- the items, kept by a write elsewhere -/
theorem rIs_out {q d u w z f f2} {X : Nat → Prop} (h : rIs q d u z f) (hf : fK d z f f2 X) (hX : ∀ x, 2000 ≤ x ∨ x = 2 → ¬ X x) (n2 : nO d z 2 4) (h1 : w.1 3 = u.1 3) (hr : ∀ r, 4 ≤ r → r ≤ 48 → r ≠ 20 → w.2 r = u.2 r) : rIs q d w z f2 := by
  obtain ⟨⟨g, a1, a2⟩, a3⟩ := h
  refine ⟨⟨g, by rw [hf.1 2 _ n2 (hX 2 (by omega))]; exact a1, fun j hj => a2 j (by rw [← h1]; exact hj)⟩, fun j hj => ?_⟩
  rw [h1] at hj
  exact rIt_fr (a3 j hj) (zE_rf z) ⟨rfl, rfl, rfl, rfl, rfl⟩ hf ⟨hX _ (by omega), hX _ (by omega), hX _ (by omega), hX _ (by omega), hX _ (by omega)⟩ (sI_all hr j) (by rw [h1]; exact Nat.le_refl _) (fun o _ => ⟨rfl, by rw [hr 4 (by omega) (by omega) (by omega)]⟩)
/-- a write at the rivals -/
theorem rep_rv {q d u w z f} {g2 : Nat → Int32} (h : rep q d u z f) (h1 : w.1 = u.1) (hr : ∀ r, r ≠ 20 → w.2 r = u.2 r) (he : eqR 100 g2 (w.2 20) 0) : rep q d w z (va_up f (d 4) (aI (q 1) 100 g2)) := by
  obtain ⟨h1g, h1l, h1i, h1v, n0, n1, n2, n3, n4⟩ := h
  have hf : fK d z f (va_up f (d 4) (aI (q 1) 100 g2)) (fun x => x = 4) := fK_up (fK_rf d z f _) n4 (by decide) rfl
  exact ⟨rPg_fr h1g (zE_rf z) (fun _ _ => rfl) hf (fun x _ _ _ _ h4 => h4) n0 (hr 0 (by omega)) (hr 1 (by omega)) (hr 2 (by omega)), rPl_fr h1l (zE_rf z) rfl (fun _ _ _ => rfl) hf (by omega) (fun x x1 x2 => by omega) n1 (fun r r1 r2 => hr r (by omega)), rIs_out h1i hf (fun x hx => by omega) n2 (by rw [h1]) (fun r _ _ r3 => hr r r3), ⟨g2, up_s, he⟩, n0, n1, n2, n3, n4⟩
theorem rival_a {u : mS} {a b : Int32} (h : ¬ bw a 0 9 = true) : mRival u a b = (0, u) := by unfold mRival; rw [if_neg h]
theorem rival_b {u : mS} {a b : Int32} (h : ¬ bw b 0 9 = true) : mRival u a b = (0, u) := by unfold mRival; rw [if_neg h]; split <;> rfl
theorem rival_e {u : mS} {a b : Int32} (h : a = b) : mRival u a b = (0, u) := by unfold mRival; rw [if_pos h]; split <;> (try split) <;> rfl
theorem rival_y {q d u z f} {a b : Int32} {g : Nat → Int32} (h : rep q d u z f) (ha : bw a 0 9 = true) (hb : bw b 0 9 = true) (hab : ¬ a = b) (hg : f (d 4) = aI (q 1) 100 g) : (¬ g (a * 10 + b).toNatClampNeg = 0 → 0 = (mRival u a b).1 ∧ rep q d (mRival u a b).2 z f) ∧ (g (a * 10 + b).toNatClampNeg = 0 → ∀ (f1 : xF) (g1 : Nat → Int32) (f2 : xF), f1 = va_up f (d 4) (aI (q 1) 100 (upd g (a * 10 + b).toNatClampNeg (vp_nar .boolean 1))) → f1 (d 4) = aI (q 1) 100 g1 → f2 = va_up f1 (d 4) (aI (q 1) 100 (upd g1 (b * 10 + a).toNatClampNeg (vp_nar .boolean 1))) → 1 = (mRival u a b).1 ∧ rep q d (mRival u a b).2 z f2) := by
  obtain ⟨g9, a1, he⟩ := h.2.2.2.1
  obtain rfl := (aI_inj (hg.symm.trans a1)).2
  have hA : vp_in (a * 10 + b) 100 := vin2 ha hb
  have hB : vp_in (b * 10 + a) 100 := vin2 hb ha
  have eA : (10 : Int32) * a + b = a * 10 + b := by rw [Int32.mul_comm]
  have eB : (10 : Int32) * b + a = b * 10 + a := by rw [Int32.mul_comm]
  have e0 : ∀ j, j < 100 → g j = u.2 20 j := fun j hj => by have := he j hj; rw [Nat.zero_add] at this; exact this
  unfold mRival
  rw [if_pos ha, if_pos hb, if_neg hab, eA, eB, ← e0 _ (vlt hA)]
  refine ⟨fun e => ?_, fun e f1 g1 f2 e1 e2 e3 => ?_⟩
  · rw [if_neg e]; exact ⟨rfl, h⟩
  · rw [if_pos e]
    refine ⟨rfl, ?_⟩
    rw [e1, up_s] at e2
    obtain rfl := (aI_inj e2).2
    rw [e3, e1, up_up]
    refine rep_rv h rfl (fun r hr => by rw [mst_other hr, mst_other hr]) (fun j hj => ?_)
    rw [Nat.zero_add, mst_at, mst_at]
    unfold upd
    by_cases c1 : j = (b * 10 + a).toNatClampNeg
    · rw [if_pos c1, if_pos c1]
    · rw [if_neg c1, if_neg c1]
      by_cases c2 : j = (a * 10 + b).toNatClampNeg
      · rw [if_pos c2, if_pos c2]
      · rw [if_neg c2, if_neg c2]; exact e0 j hj
set_option maxHeartbeats 4000000 in
set_option maxRecDepth 100000 in
theorem y_areRivals (l : Launch) (dC : Nat → ClassId) (dI : Nat → Nat → Nat) (q : Nat → ClassId) (h0 : Nat) (d : Nat → Nat) (k : Nat → Int32) (z : gS) (f : xF) (hI : xI q h0 d k z f) (p0 p1 : Int32) (ha : bw p0 0 9 = true) (hb9 : bw p1 0 9 = true) (g : Nat → Int32) (hg6 : f (d 4) = aI (q 1) 100 g) (hz6 : ∀ j, g j = 0 ∨ g j = 1) : Met l yX11_areRivals wsX11_areRivals ({ frames := 0, cells := 0, slots := 0, locals := 0 }) (va_Pc [.ref h0, .int p0, .int p1] (PX dC dI (va_pl z.1 f) (xT q))) (vp_Si (fun r => r = g (p0 * 10 + p1 : Int32).toNatClampNeg)) 0 0 (fun _ => False) := by
  refine Met.ofW (cc := cX11_areRivals) (maxL := 3) (ret := (some .boolean)) (by decide) rfl ?_
  intro p e s m args below meth c s₁ B hml hv
  obtain ⟨rfl, ⟨hP, hK, hN⟩, hXN⟩ := hv
  have hx := B.exec
  have hb := B.bytes
  have hr := B.returns
  have hts := atoms_spec (ws := wsX11_areRivals) B.pre
  have hown : s.vm.findClass RX11 = some m.cls := findClass_of_methodNamed B.named
  have hlocks := B.notSynchronized
  have hl := lv_entry ([.ref h0, .int p0, .int p1]) (n := 3) (Nat.le_of_ble_eq_true rfl)
  rw [lg_entry_eq]
  generalize (lg_sl ([.ref h0, .int p0, .int p1]) ++ List.replicate (3 - (lg_sl ([.ref h0, .int p0, .int p1])).length) Slot.unset).toArray = ls at hl ⊢
  have hl : lv_has ls 3 [(0, .ref h0), (1, .int p0), (2, .int p1)] := hl
  refine lv_aload_n hx hb dX11_areRivals_0 rfl (lv_at hl 0 rfl) ?_
  obtain ⟨kk_1, hk_2⟩ := pl_at hI.2.1.1.1 hI.2.2.2.1.1
  refine va_get (D := (dC, dI)) (ci := 10) (v := .ref (d 4)) (C := RX11) (T := TX11) (N := 9) hx hb hts zl_X11_areRivals_X11 hown hK hP kk_1 hk_2 rfl 6 (by decide) (hts (.fieldLink RX11 37 "PageOne" "rivals" "[Z") (zat q_wsX11_areRivals k_wsX11_areRivals 118 rfl (by decide +kernel))) (fun _ h9 => h9) rfl dX11_areRivals_1 ?_
  refine lv_iload_n hx hb dX11_areRivals_4 rfl (lv_at hl 1 rfl) ?_
  refine lv_bipush (v := 10) hx hb dX11_areRivals_5 (by decide) ?_
  refine lv_imul hx hb dX11_areRivals_7 ?_
  refine lv_iload_n hx hb dX11_areRivals_8 rfl (lv_at hl 2 rfl) ?_
  refine lv_iadd hx hb dX11_areRivals_9 ?_
  obtain ⟨kk_3, hk_4⟩ := pl_at hI.2.1.2.2.2.2.2.1 hg6
  refine va_zald hx hb hK hP kk_3 1 hk_4 rfl (vin2 ha hb9) dX11_areRivals_10 ?_
  exact W.zret (v := (g (((p0 * 10) + p1) : Int32).toNatClampNeg)) hx hb hr (by rcases hz6 ((p0 * 10 + p1 : Int32).toNatClampNeg) with h | h <;> rw [h] <;> decide) (fun t ht hW => ⟨_, rfl, rfl, ht⟩) (fun q h => absurd h List.not_mem_nil) dX11_areRivals_11
/-- a write at page p alone -/
theorem rep_pg {q d u w z f f2} {X : Nat → Prop} {p : Nat} (h : rep q d u z f) (hf : fK d z f f2 X) (hX : ∀ x, X x → x = 10 + p ∨ x = 30 + p ∨ x = 50 + p) (hp : p < 12) (h1 : w.1 = u.1) (hr : ∀ r, 3 ≤ r → w.2 r = u.2 r) (ho : ∀ j, j < 12 → j ≠ p → w.2 1 j = u.2 1 j ∧ (∀ t, t < 8 → w.2 0 (8 * j + t) = u.2 0 (8 * j + t)) ∧ ∀ t, t < 480 → w.2 2 (480 * j + t) = u.2 2 (480 * j + t)) (hpg : ∃ dd ii, shR q f2 (d (10 + p)) (d (30 + p)) (d (50 + p)) (w.2 1 p) dd ii (w.2 0) (w.2 2) (8 * p) (480 * p)) : rep q d w z f2 := by
  obtain ⟨⟨⟨g, a1, a2⟩, a3⟩, h1l, h1i, h1v, n0, n1, n2, n3, n4⟩ := h
  have nx : ∀ x, x < 10 ∨ 100 ≤ x → ¬ X x := fun x hx hX2 => by rcases hX x hX2 with e | e | e <;> omega
  refine ⟨⟨⟨g, by rw [hf.1 0 _ n0 (nx 0 (by omega))]; exact a1, a2⟩, fun j hj => ?_⟩, rPl_fr h1l (zE_rf z) rfl (fun _ _ _ => rfl) hf (nx 1 (by omega)) (fun x _ _ => nx x (by omega)) n1 (fun r r1 r2 => hr r (by omega)), rIs_out h1i hf (fun x hx => nx x (by omega)) n2 (by rw [h1]) (fun r r1 _ _ => hr r (by omega)), rRv_fr h1v rfl (hf.1 4 _ n4 (nx 4 (by omega))) (hr 20 (by omega)), n0, n1, n2, n3, n4⟩
  obtain ⟨m1, m2, m3, dd, ii, s1, ⟨gl, s2, s3⟩, gc, s4, s5⟩ := a3 j hj
  refine ⟨m1, m2, m3, ?_⟩
  by_cases e : j = p
  · rw [e]; exact hpg
  · obtain ⟨o1, o2, o3⟩ := ho j hj e
    have k1 : ¬ X (10 + j) := fun hX2 => by rcases hX _ hX2 with e | e | e <;> omega
    have k2 : ¬ X (30 + j) := fun hX2 => by rcases hX _ hX2 with e | e | e <;> omega
    have k3 : ¬ X (50 + j) := fun hX2 => by rcases hX _ hX2 with e | e | e <;> omega
    exact ⟨dd, ii, by rw [hf.1 _ _ m1 k1, o1]; exact s1, ⟨gl, by rw [hf.1 _ _ m2 k2]; exact s2, eqR_w s3 o2⟩, gc, by rw [hf.1 _ _ m3 k3]; exact s4, eqR_w s5 o3⟩
theorem rep_col {q d u z f} {p c : Nat} {x : Int32} {gl : Nat → Int32} (h : rep q d u z f) (hp : p < 12) (hc : c < 8) (hg : f (d (30 + p)) = aI (q 0) 8 gl) : rep q d (mst u 0 (8 * nI p + nI c) x) z (va_up f (d (30 + p)) (aI (q 0) 8 (upd gl c x))) := by
  have eA : (8 * nI p + nI c).toNatClampNeg = 8 * p + c := by rw [show (8 : Int32) = nI 8 from rfl, pk_mul, nI_add, nI_clamp (by omega)]
  obtain ⟨m1, m2, m3, dd, ii, s1, ⟨gl2, s2, s3⟩, gc, s4, s5⟩ := h.1.2 p hp
  obtain rfl := (aI_inj (hg.symm.trans s2)).2
  generalize hw9 : mst u 0 (8 * nI p + nI c) x = w
  have w2 : ∀ r, r ≠ 0 → w.2 r = u.2 r := fun r r1 => by rw [← hw9, mst_other r1]
  have w0 : ∀ j, w.2 0 j = if j = 8 * p + c then x else u.2 0 j := fun j => by rw [← hw9, mst_at, eA]
  have w1 : w.1 = u.1 := by rw [← hw9]; rfl
  have hf : fK d z f (va_up f (d (30 + p)) (aI (q 0) 8 (upd gl c x))) (fun x => x = 30 + p) := fK_up (fK_rf d z f _) m2 (by decide) rfl
  refine rep_pg (p := p) h hf (fun x hx => by omega) hp w1 (fun r r1 => w2 r (by omega)) (fun j hj hjp => ⟨by rw [w2 1 (by omega)], fun t ht => by rw [w0, if_neg (by omega)], fun t ht => by rw [w2 2 (by omega)]⟩) ⟨dd, ii, ?_, ⟨_, up_s, fun t ht => ?_⟩, gc, ?_, ?_⟩
  · rw [hf.1 _ _ m1 (by omega), w2 1 (by omega)]; exact s1
  · rw [w0]
    unfold upd
    by_cases e : t = c
    · rw [if_pos e, if_pos (by omega)]
    · rw [if_neg e, if_neg (by omega)]; exact s3 t ht
  · rw [hf.1 _ _ m3 (by omega)]; exact s4
  · rw [w2 2 (by omega)]; exact s5
theorem rep_ms {q d u z f} {p : Nat} {x m dd ii : Int32} {la ca : Nat} (h : rep q d u z f) (hp : p < 12) (hg : f (d (10 + p)) = .inr (8, [.ref la, .ref ca, .int m, .int dd, .int ii])) : rep q d (mst u 1 (nI p) x) z (va_up f (d (10 + p)) (.inr (8, [.ref la, .ref ca, .int x, .int dd, .int ii]))) := by
  have eA : (nI p).toNatClampNeg = p := nI_clamp (by omega)
  obtain ⟨m1, m2, m3, dd2, ii2, s1, ⟨gl, s2, s3⟩, gc, s4, s5⟩ := h.1.2 p hp
  obtain ⟨e1, e2, e3, e4, e5⟩ := sh_inj (hg.symm.trans s1)
  subst e1 e2 e4 e5
  generalize hw9 : mst u 1 (nI p) x = w
  have w2 : ∀ r, r ≠ 1 → w.2 r = u.2 r := fun r r1 => by rw [← hw9, mst_other r1]
  have w0 : ∀ j, w.2 1 j = if j = p then x else u.2 1 j := fun j => by rw [← hw9, mst_at, eA]
  have w1 : w.1 = u.1 := by rw [← hw9]; rfl
  have hf : fK d z f (va_up f (d (10 + p)) (.inr (8, [.ref (d (30 + p)), .ref (d (50 + p)), .int x, .int dd, .int ii]))) (fun x => x = 10 + p) := fK_up (fK_rf d z f _) m1 (by decide) rfl
  refine rep_pg (p := p) h hf (fun x hx => by omega) hp w1 (fun r r1 => w2 r (by omega)) (fun j hj hjp => ⟨by rw [w0, if_neg hjp], fun t ht => by rw [w2 0 (by omega)], fun t ht => by rw [w2 2 (by omega)]⟩) ⟨dd, ii, ?_, ⟨gl, ?_, ?_⟩, gc, ?_, ?_⟩
  · rw [up_s, w0, if_pos rfl]
  · rw [hf.1 _ _ m2 (by omega)]; exact s2
  · rw [w2 0 (by omega)]; exact s3
  · rw [hf.1 _ _ m3 (by omega)]; exact s4
  · rw [w2 2 (by omega)]; exact s5
theorem mHas_n {f : Nat → Int32} {b : Int32} : ∀ n : Nat, (∀ j, j < n → f (b + nI j).toNatClampNeg = (-2)) → mHas f b n = false
  | 0, _ => rfl
  | n + 1, h => by
    show (mHas f b n || _) = false
    rw [mHas_n n (fun j hj => h j (by omega)), h n (by omega)]; decide
theorem column_0 {u : mS} {p c n : Int32} (h : ¬ (bw p 0 11 = true ∧ bw c 0 7 = true ∧ bw n 0 60 = true ∧ u.1 28 ≤ 0)) : mColumn u p c n = (0, u) := by
  unfold mColumn
  by_cases a : bw p 0 11 = true
  · by_cases b : bw c 0 7 = true
    · by_cases e : bw n 0 60 = true
      · rw [if_pos a, if_pos b, if_pos e, if_neg (fun g => h ⟨a, b, e, g⟩)]
      · rw [if_pos a, if_pos b, if_neg e]
    · rw [if_pos a, if_neg b]
  · rw [if_neg a]
theorem measure_0 {u : mS} {p x : Int32} (h : ¬ (bw p 0 11 = true ∧ bw x 1 200 = true ∧ u.1 28 ≤ 0)) : mMeasure u p x = (0, u) := by
  unfold mMeasure
  by_cases a : bw p 0 11 = true
  · by_cases b : bw x 1 200 = true
    · have e : 0 < u.1 28 := by
        have e2 : ¬ u.1 28 ≤ 0 := fun g => h ⟨a, b, g⟩
        rw [i32_le] at e2
        rw [i32_lt]; omega
      rw [if_pos a, if_pos b, if_pos e]
    · rw [if_pos a, if_neg b]
  · rw [if_neg a]
theorem column_y {q d u z f} {p c n m dd ii : Int32} {g : Nat → Option Nat} {b la ca : Nat} {gl : Nat → Int32} (h : rep q d u z f) (b0 : bw p 0 11 = true) (b1 : bw c 0 7 = true) (b2 : bw n 0 60 = true) (h28 : u.1 28 ≤ 0) (hbr : u.1 28 ≤ 0 → ∀ j, j < 5760 → u.2 2 j = (-2)) (hg : f (d 0) = aR (q 2) 12 g) (hb : g p.toNatClampNeg = some b) (hs : f b = .inr (8, [.ref la, .ref ca, .int m, .int dd, .int ii])) (hl : f la = aI (q 0) 8 gl) : 1 = (mColumn u p c n).1 ∧ rep q d (mColumn u p c n).2 z (va_up f la (aI (q 0) 8 (upd gl c.toNatClampNeg n))) := by
  obtain ⟨-, rfl, -, -, -, -⟩ := rp_pg h.1 hg (clp b0) hb hs
  have hC : c.toNatClampNeg < 8 := vlt (vin b1 (by decide))
  have hP := clp b0
  obtain ⟨c1, -, -⟩ := nI_of_bw b0
  obtain ⟨c2, -, -⟩ := nI_of_bw b1
  generalize p.toNatClampNeg = P at *
  generalize c.toNatClampNeg = C at *
  subst c1 c2
  have hB : mBare (u.2 2) (480 * nI P + 60 * nI C) = true := mBare_t (fun j hj => by rw [idxN hP hC hj, nI_clamp (by omega)]; exact hbr h28 _ (by omega))
  unfold mColumn
  rw [if_pos b0, if_pos b1, if_pos b2, if_pos h28, if_pos hB]
  exact ⟨rfl, rep_col h hP hC hl⟩
theorem measure_y {q d u z f} {p x m dd ii : Int32} {g : Nat → Option Nat} {b la ca : Nat} (h : rep q d u z f) (b0 : bw p 0 11 = true) (b1 : bw x 1 200 = true) (h28 : u.1 28 ≤ 0) (hbr : u.1 28 ≤ 0 → ∀ j, j < 5760 → u.2 2 j = (-2)) (hg : f (d 0) = aR (q 2) 12 g) (hb : g p.toNatClampNeg = some b) (hs : f b = .inr (8, [.ref la, .ref ca, .int m, .int dd, .int ii])) : 1 = (mMeasure u p x).1 ∧ rep q d (mMeasure u p x).2 z (va_up f b (.inr (8, [.ref la, .ref ca, .int x, .int dd, .int ii]))) := by
  obtain ⟨rfl, -, -, -, -, -⟩ := rp_pg h.1 hg (clp b0) hb hs
  have hP := clp b0
  obtain ⟨c1, -, -⟩ := nI_of_bw b0
  generalize p.toNatClampNeg = P at *
  subst c1
  have hB : mHas (u.2 2) (480 * nI P) 480 = false := mHas_n 480 (fun j hj => by rw [show (480 : Int32) = nI 480 from rfl, pk_mul, nI_add, nI_clamp (by omega)]; exact hbr h28 _ (by omega))
  have h0 : ¬ 0 < u.1 28 := by
    rw [i32_le] at h28
    rw [i32_lt]; omega
  unfold mMeasure
  rw [if_pos b0, if_pos b1, if_neg h0, hB, if_neg (by decide)]
  exact ⟨rfl, rep_ms h hP hs⟩
set_option maxHeartbeats 4000000 in
set_option maxRecDepth 100000 in
theorem y_canAct (l : Launch) (dC : Nat → ClassId) (dI : Nat → Nat → Nat) (q : Nat → ClassId) (h0 : Nat) (d : Nat → Nat) (k : Nat → Int32) (z : gS) (f : xF) (hI : xI q h0 d k z f) : Met l yX11_canAct wsX11_canAct ({ frames := 0, cells := 0, slots := 0, locals := 0 }) (va_Pc [.ref h0] (PX dC dI (va_pl z.1 f) (xT q))) (vp_Si (fun r => (r = 0 ∧ 300 ≤ k 1) ∨ (r = 1 ∧ ¬ 300 ≤ k 1))) 0 0 (fun _ => False) := by
  refine Met.ofW (cc := cX11_canAct) (maxL := 1) (ret := (some .boolean)) (by decide) rfl ?_
  intro p e s m args below meth c s₁ B hml hv
  obtain ⟨rfl, ⟨hP, hK, hN⟩, hXN⟩ := hv
  have hx := B.exec
  have hb := B.bytes
  have hr := B.returns
  have hts := atoms_spec (ws := wsX11_canAct) B.pre
  have hown : s.vm.findClass RX11 = some m.cls := findClass_of_methodNamed B.named
  have hlocks := B.notSynchronized
  have hl := lv_entry ([.ref h0]) (n := 1) (Nat.le_of_ble_eq_true rfl)
  rw [lg_entry_eq]
  generalize (lg_sl ([.ref h0]) ++ List.replicate (1 - (lg_sl ([.ref h0])).length) Slot.unset).toArray = ls at hl ⊢
  have hl : lv_has ls 1 [(0, .ref h0)] := hl
  refine lv_aload_n hx hb dX11_canAct_0 rfl (lv_at hl 0 rfl) ?_
  obtain ⟨kk_1, hk_2⟩ := pl_at hI.2.1.1.1 hI.2.2.2.1.1
  refine va_get (D := (dC, dI)) (ci := 10) (v := .int (k 1)) (C := RX11) (T := TX11) (N := 9) hx hb hts zl_X11_canAct_X11 hown hK hP kk_1 hk_2 rfl 5 (by decide) (hts (.fieldLink RX11 34 "PageOne" "actCount" "I") (zat q_wsX11_canAct k_wsX11_canAct 117 rfl (by decide +kernel))) (fun _ h9 => h9) rfl dX11_canAct_1 ?_
  refine lv_sipush (v := 300) hx hb dX11_canAct_4 (by decide) ?_
  refine lv_icmp_ge (tgt := 14) hx hb dX11_canAct_7 (by decide) (fun c_3 => ?_) (fun c_3 => ?_)
  ·
    refine lv_iconst (v := 0) hx hb dX11_canAct_14 (by decide) ?_
    exact W.zret (v := 0) hx hb hr (by decide) (fun t ht hW => ⟨_, rfl, (Or.inl ⟨rfl, c_3⟩), ht⟩) (fun q h => absurd h List.not_mem_nil) dX11_canAct_15
  ·
    refine lv_iconst (v := 1) hx hb dX11_canAct_10 (by decide) ?_
    refine lv_goto (tgt := 15) hx hb dX11_canAct_11 (by decide) ?_
    exact W.zret (v := 1) hx hb hr (by decide) (fun t ht hW => ⟨_, rfl, (Or.inr ⟨rfl, c_3⟩), ht⟩) (fun q h => absurd h List.not_mem_nil) dX11_canAct_15
/-- a new item: the book grows by its entries, the desk's row by one -/
theorem rep_new {q d d2 u w z z2 f f2} {g : Nat → Option Nat} (h : rep q d u z f) (hE : zE z z2) (hd : ∀ x, x < 2000 → d2 x = d x) (hdI : ∀ o, o < (u.1 3).toNatClampNeg → bI (fun x => d2 x = d x) o) (hf : fK d z f f2 (fun x => x = 2)) (hg : f (d 2) = aR (q 3) 80 g) (hg2 : f2 (d 2) = aR (q 3) 80 (fun j => if j = (u.1 3).toNatClampNeg then some (d2 (2000 + (u.1 3).toNatClampNeg)) else g j)) (h3 : (w.1 3).toNatClampNeg = (u.1 3).toNatClampNeg + 1) (hs : ∀ j, j < (u.1 3).toNatClampNeg → sI u w j) (hr : ∀ r, r < 3 ∨ r = 20 ∨ (40 ≤ r ∧ r ≤ 44) → w.2 r = u.2 r) (hit : rIt q d2 w z2 f2 (u.1 3).toNatClampNeg) : rep q d2 w z2 f2 := by
  obtain ⟨h1g, h1l, ⟨⟨g9, a1, a2⟩, a3⟩, h1v, n0, n1, n2, n3, n4⟩ := h
  obtain rfl := (aR_inj (hg.symm.trans a1)).2
  generalize hN : (u.1 3).toNatClampNeg = n at *
  have nn : ∀ x t, x < 2000 → nO d z x t → nO d2 z2 x t := fun x t hx ho => nO_d (hd x hx) (nO_E hE ho)
  refine ⟨rPg_fr h1g hE (fun x hx => hd x (by omega)) hf (fun x _ _ h2 _ _ => h2) n0 (hr 0 (by omega)) (hr 1 (by omega)) (hr 2 (by omega)), rPl_fr h1l hE (hd 1 (by omega)) (fun x _ hx => hd x (by omega)) hf (by omega) (fun x x1 x2 => by omega) n1 (fun r r1 r2 => hr r (by omega)), ⟨⟨_, by rw [hd 2 (by omega)]; exact hg2, fun j hj => ?_⟩, fun j hj => ?_⟩, rRv_fr h1v (hd 4 (by omega)) (hf.1 4 _ n4 (by omega)) (hr 20 (by omega)), nn 0 _ (by omega) n0, nn 1 _ (by omega) n1, nn 2 _ (by omega) n2, nn 3 _ (by omega) n3, nn 4 _ (by omega) n4⟩
  · rw [h3] at hj
    by_cases e : j = n
    · rw [if_pos e, e]
    · rw [if_neg e, (hdI j (by omega)).1]; exact a2 j (by omega)
  · rw [h3] at hj
    by_cases e : j = n
    · rw [e]; exact hit
    · exact rIt_fr (a3 j (by omega)) hE (hdI j (by omega)) hf ⟨by omega, by omega, by omega, by omega, by omega⟩ (hs j (by omega)) (by rw [h3, hN]; omega) (fun o ho => ⟨(hdI o (by omega)).1, (hs o (by omega)).1 4 (by omega) (by omega) (by omega) (by omega) (by omega) (by omega) (by omega)⟩)
