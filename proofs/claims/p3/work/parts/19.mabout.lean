/-- how many of the first pages have a plate of the edition at hand -/
def mCnt (u : mS) : Nat → Int32
  | 0 => 0
  | n + 1 => mCnt u n + (if mNow u (nI n) = true then 1 else 0)
def mAbout (u : mS) (w : Int32) : Int32 := if w = 0 then u.1 38 else if w = 1 then u.1 39 else if w = 2 then u.1 3 else if w = 3 then u.1 28 else if w = 4 then mCnt u 12 else (-1)
set_option maxHeartbeats 4000000 in
set_option maxRecDepth 100000 in
theorem m_about_loop {p : Program} {l : Launch} {e : Env} {R : Room} {s : State} {m : MethodId} {args : Array Value} {below : List Frame} {meth : Method} {c : Code} {Q : State → Prop} {cells slots : Nat} {dC : Nat → ClassId} {dI : Nat → Nat → Nat} {h0 : Nat} {v : Nat → Nat} {cI cZ : ClassId} {H : Heap} {locs : List Loc} {u : mS} (hx : p.tables.exec = Jvm.exec) (hb : c.code = cX12_about) (hml : c.maxLocals = 4) (hts : ∀ w ∈ wsX12_about, w.before args s = true) (hown : s.vm.findClass RX12 = some m.cls) (hN : NN s) (hK : va_K (dC, dI) vwCl [(cI, .int), (cZ, .boolean)] s) (hRf : 1 ≤ R.frames) (hRl : 21 ≤ R.locals) (hRc : cells ≤ R.cells) (hRs : slots ≤ R.slots) (hP : va_P (dC, dI) vwCl (mW h0 v cI cZ u) H) (kx : ∀ (a : Int32) (ls : Array Slot), a = mCnt u 12 → lv_has ls 4 [(3, .int (nI 12)), (2, .int a), (0, .ref h0)] → W p l e R s m args below meth c H locs cells slots Q (F0 m 88 ls [])) : ∀ (k i : Nat) (a : Int32) (ls : Array Slot), i ≤ 12 → 12 - i < k → a = mCnt u i → lv_has ls 4 [(3, .int (nI i)), (2, .int a), (0, .ref h0)] → W p l e R s m args below meth c H locs cells slots Q (F0 m 60 ls []) := by
  intro k
  induction k with
  | zero => intro i a ls h1 h2; exact absurd h2 (Nat.not_lt_zero _)
  | succ k ih =>
    intro i a ls hi hk hg hl
    refine lv_iload_n hx hb dX12_about_60 rfl (lv_at hl 0 rfl) ?_
    refine lv_bipush (v := 12) hx hb dX12_about_61 (by decide) ?_
    refine lv_icmp_ge (tgt := 88) hx hb dX12_about_63 (by decide) (fun c_1 => ?_) (fun c_1 => ?_)
    ·
      have hie : i = 12 := lp_eq rfl (by decide) hi c_1
      subst hie
      exact kx _ ls hg (lv_sub hl [0, 1, 2] rfl)
    ·
      have hlt : i < 12 := lp_lt rfl (by decide) hi c_1
      refine lv_iload_n hx hb dX12_about_66 rfl (lv_at hl 1 rfl) ?_
      refine lv_aload_n hx hb dX12_about_67 rfl (lv_at hl 2 rfl) ?_
      refine lv_iload_n hx hb dX12_about_68 rfl (lv_at hl 0 rfl) ?_
      refine vp_callSi (va_runV (As := [.int (nI i)]) (rest := [.int a]) ⟨hx, hb, hml, hown, hts⟩ (m_isNow l dC dI h0 v cI cZ u (nI i) (bwN (by have h11 : (11 : Int32).toInt = 11 := rfl; rw [h11]; omega) (by omega))) (cwV 1 hts gX12_about_X12_isNow rfl rfl rfl (by decide +kernel) ⟨hRf, hRl⟩) ⟨pw_fb, va_recv hK hP (ci := 11) (q0 := 0) rfl rfl, fun U hU hW => ⟨rfl, pw_to hU hW hP hK hN⟩⟩ rfl rfl hl.1 rfl (lv_room (Nat.le_of_ble_eq_true rfl)) dX12_about_69 ⟨hRc, hRs⟩).run (fun r hw => ?_)
      rcases Bool.eq_false_or_eq_true (mNow u (nI i)) with b_2 | b_2
      ·
        obtain rfl : r = 1 := b_t hw b_2
        refine lv_if_eq (tgt := 79) hx hb dX12_about_72 (by decide) (fun c_3 => absurd c_3 (by decide)) (fun c_3 => ?_)
        refine lv_iconst (v := 1) hx hb dX12_about_75 (by decide) ?_
        refine lv_goto (tgt := 80) hx hb dX12_about_76 (by decide) ?_
        refine lv_iadd hx hb dX12_about_80 ?_
        refine lv_topi (fun x_4 ex_4 => ?_)
        refine lv_istore_n (lv' := [(2, .int x_4), (3, .int (nI i)), (0, .ref h0)]) hx hb dX12_about_81 rfl hl (by decide) rfl (fun ls hl => ?_)
        refine lv_iinc (v := (nI (i + 1))) (lv' := [(3, .int (nI (i + 1))), (2, .int x_4), (0, .ref h0)]) hx hb dX12_about_82 hl (k := 1) rfl (nI_1 i) (by decide) rfl (fun ls hl => ?_)
        refine lv_goto (tgt := 60) hx hb dX12_about_85 (by decide) ?_
        exact ih (i + 1) _ ls (by omega) (by omega) (by subst_vars; rw [mCnt, if_pos b_2]) (lv_sub hl [0, 1, 2] rfl)
      ·
        obtain rfl : r = 0 := b_f hw b_2
        refine lv_if_eq (tgt := 79) hx hb dX12_about_72 (by decide) (fun c_5 => ?_) (fun c_5 => absurd (by decide) c_5)
        refine lv_iconst (v := 0) hx hb dX12_about_79 (by decide) ?_
        refine lv_iadd hx hb dX12_about_80 ?_
        refine lv_topi (fun x_6 ex_6 => ?_)
        refine lv_istore_n (lv' := [(2, .int x_6), (3, .int (nI i)), (0, .ref h0)]) hx hb dX12_about_81 rfl hl (by decide) rfl (fun ls hl => ?_)
        refine lv_iinc (v := (nI (i + 1))) (lv' := [(3, .int (nI (i + 1))), (2, .int x_6), (0, .ref h0)]) hx hb dX12_about_82 hl (k := 1) rfl (nI_1 i) (by decide) rfl (fun ls hl => ?_)
        refine lv_goto (tgt := 60) hx hb dX12_about_85 (by decide) ?_
        exact ih (i + 1) _ ls (by omega) (by omega) (by subst_vars; rw [mCnt, if_neg (bne b_2)]) (lv_sub hl [0, 1, 2] rfl)
set_option maxHeartbeats 4000000 in
set_option maxRecDepth 100000 in
theorem m_about (l : Launch) (dC : Nat → ClassId) (dI : Nat → Nat → Nat) (h0 : Nat) (v : Nat → Nat) (cI cZ : ClassId) (u : mS) (p0 : Int32) : Met l yX12_about wsX12_about ({ frames := 1, cells := 0, slots := 0, locals := 21 }) (va_Pc [.ref h0, .int p0] (PW dC dI (mW h0 v cI cZ u) [(cI, .int), (cZ, .boolean)])) (vp_Si (fun r => r = mAbout u p0)) 0 0 (fun _ => False) := by
  refine Met.ofW (cc := cX12_about) (maxL := 4) (ret := (some .int)) (by decide) rfl ?_
  intro p e s m args below meth c s₁ B hml hv
  obtain ⟨rfl, hP, hK, hN⟩ := hv
  have hx := B.exec
  have hb := B.bytes
  have hr := B.returns
  have hts := atoms_spec (ws := wsX12_about) B.pre
  have hown : s.vm.findClass RX12 = some m.cls := findClass_of_methodNamed B.named
  have hlocks := B.notSynchronized
  have hl := lv_entry ([.ref h0, .int p0]) (n := 4) (Nat.le_of_ble_eq_true rfl)
  rw [lg_entry_eq]
  generalize (lg_sl ([.ref h0, .int p0]) ++ List.replicate (4 - (lg_sl ([.ref h0, .int p0])).length) Slot.unset).toArray = ls at hl ⊢
  have hl : lv_has ls 4 [(0, .ref h0), (1, .int p0)] := hl
  refine lv_iload_n hx hb dX12_about_0 rfl (lv_at hl 1 rfl) ?_
  rcases Classical.em (p0 = 0) with s_1 | s_1
  ·
    subst s_1
    refine lv_tableIn (tgt := 36) (off := 35) hx hb dX12_about_1 (by decide) (by decide) (by decide) (by decide) ?_
    refine lv_aload_n hx hb dX12_about_36 rfl (lv_at hl 0 rfl) ?_
    refine va_get (D := (dC, dI)) (ci := 11) (v := .int (u.1 38)) (C := RX12) (T := TX12) (N := 52) hx hb hts (by decide +kernel) hown hK hP 0 rfl rfl 38 (by decide) (hts (.fieldLink RX12 206 "PageOneModel" "day" "I") (by decide +kernel)) (fun _ h9 => h9) rfl dX12_about_37 ?_
    exact W.iret (v := (u.1 38)) hx hb hr (fun t ht hW => ⟨_, rfl, (by simp [mAbout]), ht⟩) (fun q h => absurd h List.not_mem_nil) dX12_about_40
  ·
    rcases Classical.em (p0 = 1) with s_2 | s_2
    ·
      subst s_2
      refine lv_tableIn (tgt := 41) (off := 40) hx hb dX12_about_1 (by decide) (by decide) (by decide) (by decide) ?_
      refine lv_aload_n hx hb dX12_about_41 rfl (lv_at hl 0 rfl) ?_
      refine va_get (D := (dC, dI)) (ci := 11) (v := .int (u.1 39)) (C := RX12) (T := TX12) (N := 52) hx hb hts (by decide +kernel) hown hK hP 0 rfl rfl 39 (by decide) (hts (.fieldLink RX12 257 "PageOneModel" "edition" "I") (by decide +kernel)) (fun _ h9 => h9) rfl dX12_about_42 ?_
      exact W.iret (v := (u.1 39)) hx hb hr (fun t ht hW => ⟨_, rfl, (by simp [mAbout]), ht⟩) (fun q h => absurd h List.not_mem_nil) dX12_about_45
    ·
      rcases Classical.em (p0 = 2) with s_3 | s_3
      ·
        subst s_3
        refine lv_tableIn (tgt := 46) (off := 45) hx hb dX12_about_1 (by decide) (by decide) (by decide) (by decide) ?_
        refine lv_aload_n hx hb dX12_about_46 rfl (lv_at hl 0 rfl) ?_
        refine va_get (D := (dC, dI)) (ci := 11) (v := .int (u.1 3)) (C := RX12) (T := TX12) (N := 52) hx hb hts (by decide +kernel) hown hK hP 0 rfl rfl 3 (by decide) (hts (.fieldLink RX12 147 "PageOneModel" "items" "I") (by decide +kernel)) (fun _ h9 => h9) rfl dX12_about_47 ?_
        exact W.iret (v := (u.1 3)) hx hb hr (fun t ht hW => ⟨_, rfl, (by simp [mAbout]), ht⟩) (fun q h => absurd h List.not_mem_nil) dX12_about_50
      ·
        rcases Classical.em (p0 = 3) with s_4 | s_4
        ·
          subst s_4
          refine lv_tableIn (tgt := 51) (off := 50) hx hb dX12_about_1 (by decide) (by decide) (by decide) (by decide) ?_
          refine lv_aload_n hx hb dX12_about_51 rfl (lv_at hl 0 rfl) ?_
          refine va_get (D := (dC, dI)) (ci := 11) (v := .int (u.1 28)) (C := RX12) (T := TX12) (N := 52) hx hb hts (by decide +kernel) hown hK hP 0 rfl rfl 28 (by decide) (hts (.fieldLink RX12 158 "PageOneModel" "acts" "I") (by decide +kernel)) (fun _ h9 => h9) rfl dX12_about_52 ?_
          exact W.iret (v := (u.1 28)) hx hb hr (fun t ht hW => ⟨_, rfl, (by simp [mAbout]), ht⟩) (fun q h => absurd h List.not_mem_nil) dX12_about_55
        ·
          rcases Classical.em (p0 = 4) with s_5 | s_5
          ·
            subst s_5
            refine lv_tableIn (tgt := 56) (off := 55) hx hb dX12_about_1 (by decide) (by decide) (by decide) (by decide) ?_
            refine lv_iconst (v := 0) hx hb dX12_about_56 (by decide) ?_
            refine lv_istore_n (lv' := [(2, .int 0), (0, .ref h0), (1, .int 4)]) hx hb dX12_about_57 rfl hl (by decide) rfl (fun ls hl => ?_)
            refine lv_iconst (v := 0) hx hb dX12_about_58 (by decide) ?_
            refine lv_istore_n (lv' := [(3, .int 0), (2, .int 0), (0, .ref h0), (1, .int 4)]) hx hb dX12_about_59 rfl hl (by decide) rfl (fun ls hl => ?_)
            refine m_about_loop hx hb hml hts hown hN hK (Nat.le_of_ble_eq_true rfl) (Nat.le_of_ble_eq_true rfl) (Nat.le_of_ble_eq_true rfl) (Nat.le_of_ble_eq_true rfl) hP (fun a ls hg hl => ?_) 13 0 0 ls (by decide) (by decide) rfl (lv_sub hl [0, 1, 2] rfl)
            refine lv_iload_n hx hb dX12_about_88 rfl (lv_at hl 1 rfl) ?_
            exact W.iret (v := a) hx hb hr (fun t ht hW => ⟨_, rfl, (by rw [hg]; rfl), ht⟩) (fun q h => absurd h List.not_mem_nil) dX12_about_89
          ·
            refine lv_tableOut (tgt := 90) hx hb dX12_about_1 (sw_out4 s_1 s_2 s_3 s_4 s_5) (by decide) ?_
            refine lv_iconst (v := (-1)) hx hb dX12_about_90 (by decide) ?_
            exact W.iret (v := (-1)) hx hb hr (fun t ht hW => ⟨_, rfl, (by simp [mAbout, s_1, s_2, s_3, s_4, s_5]), ht⟩) (fun q h => absurd h List.not_mem_nil) dX12_about_91
