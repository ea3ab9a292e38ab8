def s_from (cn : Int32) (Rm : Nat → Nat → Int32) : Nat → Int32
  | 0 => 0
  | n + 1 => s_from cn Rm n + s_taken (nI n) cn Rm
set_option maxHeartbeats 4000000 in
set_option maxRecDepth 100000 in
theorem y_takenBefore_l {p : Program} {l : Launch} {e : Env} {R : Room} {s : State} {m : MethodId} {args : Array Value} {below : List Frame} {meth : Method} {c : Code} {Q : State → Prop} {cells slots : Nat} {dC : Nat → ClassId} {dI : Nat → Nat → Nat} {q : Nat → ClassId} {h0 : Nat} {d : Nat → Nat} {k : Nat → Int32} {z : gS} {f : xF} {H : Heap} {locs : List Loc} (hI : xI q h0 d k z f) (hx : p.tables.exec = Jvm.exec) (hb : c.code = cX10_takenBefore) (hml : c.maxLocals = 4) (hts : ∀ w ∈ wsX10_takenBefore, w.before args s = true) (hown : s.vm.findClass RX10 = some m.cls) (hN : NN s) (hXN : XN s) (hK : va_K (dC, dI) vwCl (xT q) s) (hRf : 2 ≤ R.frames) (hRl : 44 ≤ R.locals) (hRc : cells ≤ R.cells) (hRs : slots ≤ R.slots) (hP : va_P (dC, dI) vwCl (va_pl z.1 f) H) {K N : Nat} {a0 pa fa wd nm : Nat} {nu kd lz co : Int32} (ha0 : tg z a0 15) (hs : f a0 = .inr (9, [.int nu, .int kd, .ref pa, .int (nI K), .ref fa, .int lz, .ref wd, .int co, .ref nm])) {n : Nat} {g : Nat → Option Nat} {Rm : Nat → Nat → Int32} (hpa : tg z pa 16) (hps : f pa = aR (q 5) n g) (h1 : 1 ≤ n) (h6 : n ≤ 6) (hcb : bw (nI K) 0 (nI n) = true) (hpl : pcL z g (nI K).toNatClampNeg Rm) (hNK : N ≤ K) (hK6 : K ≤ 6) (kx31 : ∀ (a9 : Int32) (ls : Array Slot), a9 = s_from (nI K) Rm N → lv_has ls 4 [(2, .int a9), (0, .ref a0), (1, .int (nI N))] → W p l e R s m args below meth c H locs cells slots Q (F0 m 31 ls [])) : ∀ (kk i : Nat) (a : Int32) (ls : Array Slot), i ≤ N → N - i < kk → a = s_from (nI K) Rm i → lv_has ls 4 [(3, .int (nI i)), (2, .int a), (0, .ref a0), (1, .int (nI N))] → W p l e R s m args below meth c H locs cells slots Q (F0 m 4 ls []) := by
  intro kk
  induction kk with
  | zero => intro i a ls h1 h2; exact absurd h2 (Nat.not_lt_zero _)
  | succ kk ih =>
    intro i a ls hi hkk hg hl
    refine lv_iload_n hx hb dX10_takenBefore_4 rfl (lv_at hl 0 rfl) ?_
    refine lv_iload_n hx hb dX10_takenBefore_5 rfl (lv_at hl 3 rfl) ?_
    refine lv_icmp_ge (tgt := 31) hx hb dX10_takenBefore_6 (by decide) (fun c_1 => ?_) (fun c_1 => ?_)
    ·
      have hie : i = N := lp_eq rfl (by omega) hi c_1
      exact kx31 _ ls (by rw [← hie]; exact hg) (lv_sub hl [1, 2, 3] rfl)
    ·
      have hlt : i < N := lp_lt rfl (by omega) hi c_1
      refine lv_iload_n hx hb dX10_takenBefore_9 rfl (lv_at hl 0 rfl) ?_
      refine lv_aload_n hx hb dX10_takenBefore_10 rfl (lv_at hl 2 rfl) ?_
      obtain ⟨kk_2, hk_3⟩ := pl_at ha0.1 hs
      refine va_get (D := (dC, dI)) (ci := 9) (v := .int (nI K)) (C := RX10) (T := TX10) (N := 9) hx hb hts (by decide +kernel) hown hK hP kk_2 hk_3 rfl 3 (by decide) (hts (.fieldLink RX10 49 "PageOne$Story" "count" "I") (by decide +kernel)) (fun x9 h9 => u_same (hts (.sameField "PageOne$Story" "PageOne$Item" "count" "I") (by decide +kernel)) x9 h9) rfl dX10_takenBefore_11 ?_
      refine lv_icmp_ge (tgt := 31) hx hb dX10_takenBefore_14 (by decide) (fun c_4 => absurd c_4 (nI_ge (by omega) (by omega))) (fun c_4 => ?_)
      refine lv_iload_n hx hb dX10_takenBefore_17 rfl (lv_at hl 1 rfl) ?_
      refine lv_aload_n hx hb dX10_takenBefore_18 rfl (lv_at hl 2 rfl) ?_
      refine lv_iload_n hx hb dX10_takenBefore_19 rfl (lv_at hl 0 rfl) ?_
      obtain ⟨kk_5, hk_6⟩ := pl_at ha0.1 hs
      refine vp_callSi (va_runV (As := [.int (nI i)]) (rest := [.int a]) ⟨hx, hb, hml, hown, hts⟩ (y_takenBy l dC dI q h0 d k z f hI a0 pa fa wd nm nu kd (nI K) lz co ha0 hs (nI i) n g Rm hpa hps h1 h6 hcb hpl) (cwV 1 hts gX10_takenBefore_X10_takenBy rfl rfl rfl (by decide +kernel) ⟨Nat.le_trans (Nat.le_of_ble_eq_true rfl) hRf, Nat.le_trans (Nat.le_of_ble_eq_true rfl) hRl⟩) ⟨px_fb, va_recv hK hP (ci := 9) (q0 := kk_5) rfl hk_6, fun U hU hW => ⟨rfl, px_to hU hW hP hK hN hXN⟩⟩ rfl rfl hl.1 rfl (lv_room (Nat.le_of_ble_eq_true rfl)) dX10_takenBefore_20 ⟨hRc, hRs⟩).run (fun r hw => ?_)
      obtain rfl : r = (s_taken (nI i) (nI K) Rm) := hw
      refine lv_iadd hx hb dX10_takenBefore_23 ?_
      refine lv_topi (fun x_7 ex_7 => ?_)
      refine lv_istore_n (lv' := [(2, .int x_7), (3, .int (nI i)), (0, .ref a0), (1, .int (nI N))]) hx hb dX10_takenBefore_24 rfl hl (by decide) rfl (fun ls hl => ?_)
      refine lv_iinc (v := (nI (i + 1))) (lv' := [(3, .int (nI (i + 1))), (2, .int x_7), (0, .ref a0), (1, .int (nI N))]) hx hb dX10_takenBefore_25 hl (k := 1) rfl (nI_1 i) (by decide) rfl (fun ls hl => ?_)
      refine lv_goto (tgt := 4) hx hb dX10_takenBefore_28 (by decide) ?_
      exact ih (i + 1) _ ls (by omega) (by omega) (by rw [ex_7, hg]; rfl) (lv_sub hl [0, 1, 2, 3] rfl)
set_option maxHeartbeats 4000000 in
set_option maxRecDepth 100000 in
theorem y_takenBefore (l : Launch) (dC : Nat → ClassId) (dI : Nat → Nat → Nat) (q : Nat → ClassId) (h0 : Nat) (d : Nat → Nat) (k : Nat → Int32) (z : gS) (f : xF) (hI : xI q h0 d k z f) (a0 pa fa wd nm : Nat) (nu kd cn lz co : Int32) (ha0 : tg z a0 15) (hs : f a0 = .inr (9, [.int nu, .int kd, .ref pa, .int cn, .ref fa, .int lz, .ref wd, .int co, .ref nm])) (p0 : Int32) (n : Nat) (g : Nat → Option Nat) (Rm : Nat → Nat → Int32) (hpa : tg z pa 16) (hps : f pa = aR (q 5) n g) (h1 : 1 ≤ n) (h6 : n ≤ 6) (hcb : bw cn 0 (nI n) = true) (hpl : pcL z g cn.toNatClampNeg Rm) (hpk : bw p0 0 cn = true) : Met l yX10_takenBefore wsX10_takenBefore ({ frames := 2, cells := 0, slots := 0, locals := 44 }) (va_Pc [.ref a0, .int p0] (PX dC dI (va_pl z.1 f) (xT q))) (vp_Si (fun r => r = s_from cn Rm p0.toNatClampNeg)) 0 0 (fun _ => False) := by
  refine Met.ofW (cc := cX10_takenBefore) (maxL := 4) (ret := (some .int)) (by decide) rfl ?_
  intro p e s m args below meth c s₁ B hml hv
  obtain ⟨rfl, ⟨hP, hK, hN⟩, hXN⟩ := hv
  have hx := B.exec
  have hb := B.bytes
  have hr := B.returns
  have hts := atoms_spec (ws := wsX10_takenBefore) B.pre
  have hown : s.vm.findClass RX10 = some m.cls := findClass_of_methodNamed B.named
  have hlocks := B.notSynchronized
  have hl := lv_entry ([.ref a0, .int p0]) (n := 4) (Nat.le_of_ble_eq_true rfl)
  rw [lg_entry_eq]
  generalize (lg_sl ([.ref a0, .int p0]) ++ List.replicate (4 - (lg_sl ([.ref a0, .int p0])).length) Slot.unset).toArray = ls at hl ⊢
  have hl : lv_has ls 4 [(0, .ref a0), (1, .int p0)] := hl
  refine lv_iconst (v := 0) hx hb dX10_takenBefore_0 (by decide) ?_
  refine lv_istore_n (lv' := [(2, .int 0), (0, .ref a0), (1, .int p0)]) hx hb dX10_takenBefore_1 rfl hl (by decide) rfl (fun ls hl => ?_)
  refine lv_iconst (v := 0) hx hb dX10_takenBefore_2 (by decide) ?_
  refine lv_istore_n (lv' := [(3, .int 0), (2, .int 0), (0, .ref a0), (1, .int p0)]) hx hb dX10_takenBefore_3 rfl hl (by decide) rfl (fun ls hl => ?_)
  obtain ⟨K, hK1, -, eK⟩ := exN hcb (by decide)
  rw [nI_toInt (by omega)] at hK1
  subst eK
  obtain ⟨N, hN1, -, eN⟩ := exN hpk (by decide)
  rw [nI_toInt (by omega)] at hN1
  subst eN
  refine y_takenBefore_l (K := K) (N := N) hI hx hb hml hts hown hN hXN hK (Nat.le_of_ble_eq_true rfl) (Nat.le_of_ble_eq_true rfl) (Nat.le_of_ble_eq_true rfl) (Nat.le_of_ble_eq_true rfl) hP ha0 hs hpa hps h1 h6 hcb hpl (by omega) (by omega) (fun a9 ls ha9 hl => ?_) (N + 1) 0 0 ls (Nat.zero_le _) (by omega) rfl (lv_sub hl [0, 1, 2, 3] rfl)
  refine lv_iload_n hx hb dX10_takenBefore_31 rfl (lv_at hl 0 rfl) ?_
  exact W.iret (v := a9) hx hb hr (fun t ht hW => ⟨_, rfl, (by rw [nI_clamp (by omega)]; exact ha9), ht⟩) (fun q h => absurd h List.not_mem_nil) dX10_takenBefore_32
theorem bw_self {cn : Int32} {n : Nat} (h : bw cn 0 (nI n) = true) : bw cn 0 cn = true := by
  have h1 := bw_iff.mp h
  rw [bw_iff]; omega
def s_standing (cn : Int32) (Rm : Nat → Nat → Int32) : Int32 := (s_from cn Rm cn.toNatClampNeg)
set_option maxHeartbeats 4000000 in
set_option maxRecDepth 100000 in
theorem y_standing (l : Launch) (dC : Nat → ClassId) (dI : Nat → Nat → Nat) (q : Nat → ClassId) (h0 : Nat) (d : Nat → Nat) (k : Nat → Int32) (z : gS) (f : xF) (hI : xI q h0 d k z f) (a0 pa fa wd nm : Nat) (nu kd cn lz co : Int32) (ha0 : tg z a0 15) (hs : f a0 = .inr (9, [.int nu, .int kd, .ref pa, .int cn, .ref fa, .int lz, .ref wd, .int co, .ref nm])) (n : Nat) (g : Nat → Option Nat) (Rm : Nat → Nat → Int32) (hpa : tg z pa 16) (hps : f pa = aR (q 5) n g) (h1 : 1 ≤ n) (h6 : n ≤ 6) (hcb : bw cn 0 (nI n) = true) (hpl : pcL z g cn.toNatClampNeg Rm) : Met l yX10_standing wsX10_standing ({ frames := 3, cells := 0, slots := 0, locals := 67 }) (va_Pc [.ref a0] (PX dC dI (va_pl z.1 f) (xT q))) (vp_Si (fun r => r = s_standing cn Rm)) 0 0 (fun _ => False) := by
  refine Met.ofW (cc := cX10_standing) (maxL := 1) (ret := (some .int)) (by decide) rfl ?_
  intro p e s m args below meth c s₁ B hml hv
  obtain ⟨rfl, ⟨hP, hK, hN⟩, hXN⟩ := hv
  have hx := B.exec
  have hb := B.bytes
  have hr := B.returns
  have hts := atoms_spec (ws := wsX10_standing) B.pre
  have hown : s.vm.findClass RX10 = some m.cls := findClass_of_methodNamed B.named
  have hlocks := B.notSynchronized
  have hl := lv_entry ([.ref a0]) (n := 1) (Nat.le_of_ble_eq_true rfl)
  rw [lg_entry_eq]
  generalize (lg_sl ([.ref a0]) ++ List.replicate (1 - (lg_sl ([.ref a0])).length) Slot.unset).toArray = ls at hl ⊢
  have hl : lv_has ls 1 [(0, .ref a0)] := hl
  refine lv_aload_n hx hb dX10_standing_0 rfl (lv_at hl 0 rfl) ?_
  refine lv_aload_n hx hb dX10_standing_1 rfl (lv_at hl 0 rfl) ?_
  obtain ⟨kk_1, hk_2⟩ := pl_at ha0.1 hs
  refine va_get (D := (dC, dI)) (ci := 9) (v := .int cn) (C := RX10) (T := TX10) (N := 9) hx hb hts (by decide +kernel) hown hK hP kk_1 hk_2 rfl 3 (by decide) (hts (.fieldLink RX10 49 "PageOne$Story" "count" "I") (by decide +kernel)) (fun x9 h9 => u_same (hts (.sameField "PageOne$Story" "PageOne$Item" "count" "I") (by decide +kernel)) x9 h9) rfl dX10_standing_2 ?_
  obtain ⟨kk_3, hk_4⟩ := pl_at ha0.1 hs
  refine vp_callSi (va_runV (As := [.int cn]) (rest := []) ⟨hx, hb, hml, hown, hts⟩ (y_takenBefore l dC dI q h0 d k z f hI a0 pa fa wd nm nu kd cn lz co ha0 hs cn n g Rm hpa hps h1 h6 hcb hpl (bw_self hcb)) (cwV 1 hts gX10_standing_X10_takenBefore rfl rfl rfl (by decide +kernel) ⟨Nat.le_of_ble_eq_true rfl, Nat.le_of_ble_eq_true rfl⟩) ⟨px_fb, va_recv hK hP (ci := 9) (q0 := kk_3) rfl hk_4, fun U hU hW => ⟨rfl, px_to hU hW hP hK hN hXN⟩⟩ rfl rfl hl.1 rfl (lv_room (Nat.le_of_ble_eq_true rfl)) dX10_standing_5 ⟨Nat.le_of_ble_eq_true rfl, Nat.le_of_ble_eq_true rfl⟩).run (fun r hw => ?_)
  obtain rfl : r = (s_from cn Rm cn.toNatClampNeg) := hw
  exact W.iret (v := (s_from cn Rm cn.toNatClampNeg)) hx hb hr (fun t ht hW => ⟨_, rfl, (by unfold s_standing; rfl), ht⟩) (fun q h => absurd h List.not_mem_nil) dX10_standing_8
