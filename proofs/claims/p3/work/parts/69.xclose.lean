theorem lt60 {v : Int32} {i : Nat} (hi : i ≤ 60) (h : bw v 0 60 = true) (c : ¬ v ≤ nI i) : i < 60 := by
  have e60 : (60 : Int32).toInt = 60 := rfl
  have h1 := bw_iff.mp h
  rw [i0, e60] at h1
  rw [i32_le, nI_toInt (by omega)] at c
  omega
set_option maxHeartbeats 4000000 in
set_option maxRecDepth 100000 in
theorem x_wd_in {p : Program} {l : Launch} {e : Env} {R : Room} {s : State} {m : MethodId} {args : Array Value} {below : List Frame} {meth : Method} {c : Code} {Q : State → Prop} {cells slots : Nat} {dC : Nat → ClassId} {dI : Nat → Nat → Nat} {q : Nat → ClassId} {h0 : Nat} {d : Nat → Nat} {k : Nat → Int32} {z : gS} {f0 : xF} {bp c9 : Nat} {p0 : Int32} (hbp : tg z bp 7) (hc8 : c9 < 8) {A : Nat → Prop} {H0 : Heap} (hx : p.tables.exec = Jvm.exec) (hb : c.code = cX11_writeDown) (hml : c.maxLocals = 6) (hts : ∀ w ∈ wsX11_writeDown, w.before args s = true) (hown : s.vm.findClass RX11 = some m.cls) (hN : NN s) (hXN : XN s) (hK : va_K (dC, dI) vwCl (xT q) s) (hRf : 3 ≤ R.frames) (hRl : 64 ≤ R.locals) (hRc : cells ≤ R.cells) (hRs : slots ≤ R.slots) (hA : ∀ q : Nat, H0.size ≤ q → A q) (kx67 : ∀ (f : xF) (H : Heap) (locs : List Loc) (ls : Array Slot), (xPl q d z f p0 ∧ f (d 1) = f0 (d 1)) → xI q h0 d k z f → va_P (dC, dI) vwCl (va_pl z.1 f) H → va_D A (va_pl z.1 f) → va_S A H0 H locs → lv_has ls 6 [(3, .int (nI c9)), (0, .ref h0), (1, .int p0), (2, .ref bp)] → W p l e R s m args below meth c H locs cells slots Q (F0 m 67 ls [])) : ∀ (kk i : Nat) (f : xF) (H : Heap) (locs : List Loc) (ls : Array Slot), i ≤ 60 → 60 - i < kk → (xPl q d z f p0 ∧ f (d 1) = f0 (d 1)) → xI q h0 d k z f → va_P (dC, dI) vwCl (va_pl z.1 f) H → va_D A (va_pl z.1 f) → va_S A H0 H locs → lv_has ls 6 [(4, .int (nI i)), (3, .int (nI c9)), (0, .ref h0), (1, .int p0), (2, .ref bp)] → W p l e R s m args below meth c H locs cells slots Q (F0 m 18 ls []) := by
  intro kk
  induction kk with
  | zero => intro i f H locs ls h1 h2; exact absurd h2 (Nat.not_lt_zero _)
  | succ kk ih =>
    intro i f H locs ls hi hkk hg hI hP hD hS hl
    refine lv_iload hx hb dX11_writeDown_18 (lv_at hl 0 rfl) ?_
    refine lv_aload_n hx hb dX11_writeDown_20 rfl (lv_at hl 4 rfl) ?_
    obtain ⟨la_1, ca_2, m_3, dd_4, ii_5, hs_6, ht_7, ht_8⟩ := x_sh hI hbp
    obtain ⟨kk_9, hk_10⟩ := pl_at hbp.1 hs_6
    refine va_get (D := (dC, dI)) (ci := 8) (v := .ref la_1) (C := RX9) (T := TX9) (N := 5) hx hb hts (by decide +kernel) hown hK hP kk_9 hk_10 rfl 0 (by decide) (hts (.fieldLink RX11 59 "PageOne$Sheet" "lines" "[I") (by decide +kernel)) (fun _ h9 => h9) rfl dX11_writeDown_21 ?_
    refine lv_iload_n hx hb dX11_writeDown_24 rfl (lv_at hl 1 rfl) ?_
    obtain ⟨g_11, hs_12, hg_13⟩ := x_ln hI ht_7
    obtain ⟨kk_14, hk_15⟩ := pl_at ht_7.1 hs_12
    refine va_iald hx hb hK hP kk_14 0 hk_15 rfl (vp_in_nI hc8 (by decide)) dX11_writeDown_25 ?_
    refine lv_icmp_ge (tgt := 67) hx hb dX11_writeDown_26 (by decide) (fun c_16 => ?_) (fun c_16 => ?_)
    ·
      exact kx67 _ _ _ ls hg hI hP hD hS (lv_sub hl [1, 2, 3, 4] rfl)
    ·
      have hlt : i < 60 := lt60 hi (hg_13 (nI c9).toNatClampNeg (by rw [nI_clamp (by omega)]; exact hc8)) c_16
      refine lv_aload_n hx hb dX11_writeDown_29 rfl (lv_at hl 2 rfl) ?_
      refine lv_aload_n hx hb dX11_writeDown_30 rfl (lv_at hl 4 rfl) ?_
      refine lv_iload_n hx hb dX11_writeDown_31 rfl (lv_at hl 1 rfl) ?_
      refine lv_iload hx hb dX11_writeDown_32 (lv_at hl 0 rfl) ?_
      obtain ⟨kk_17, hk_18⟩ := pl_at hbp.1 hs_6
      refine vp_callSi (va_runV (As := [.int (nI c9), .int (nI i)]) (rest := [.ref h0]) ⟨hx, hb, hml, hown, hts⟩ (x_at l dC dI q h0 d k z f hI bp (nI c9) (nI i) hbp) (cwV 2 hts gX11_writeDown_X9_at rfl rfl rfl (by decide +kernel) ⟨Nat.le_trans (Nat.le_of_ble_eq_true rfl) hRf, Nat.le_trans (Nat.le_of_ble_eq_true rfl) hRl⟩) ⟨px_fb, va_recv hK hP (ci := 8) (q0 := kk_17) rfl hk_18, fun U hU hW => ⟨rfl, px_to hU hW hP hK hN hXN⟩⟩ rfl rfl hl.1 rfl (lv_room (Nat.le_of_ble_eq_true rfl)) dX11_writeDown_34 ⟨hRc, hRs⟩).run (fun r hw => ?_)
      generalize r = zr_19 at hw ⊢
      have hzr_19 := hw
      obtain ⟨kk_20, hk_21⟩ := pl_at hI.2.1.1.1 hI.2.2.2.1.1
      refine va_csq (va_runV (As := [.int zr_19]) (rest := []) ⟨hx, hb, hml, hown, hts⟩ (x_itemOf l dC dI q h0 d k z f hI zr_19) (cwV 1 hts gX11_writeDown_X11_itemOf rfl rfl rfl (by decide +kernel) ⟨Nat.le_trans (Nat.le_of_ble_eq_true rfl) hRf, Nat.le_trans (Nat.le_of_ble_eq_true rfl) hRl⟩) ⟨px_fb, va_recv hK hP (ci := 10) (q0 := kk_20) rfl hk_21, fun U hU hW => ⟨rfl, px_to hU hW hP hK hN hXN⟩⟩ rfl rfl hl.1 rfl (lv_room (Nat.le_of_ble_eq_true rfl)) dX11_writeDown_37 ⟨hRc, hRs⟩).run (fun r hw => ?_)
      rcases r with _ | b_22
      ·
        refine W.eq (g2 := F0 m 40 ls [.null]) rfl ?_
        refine lv_astoreN (lv' := [(5, .null), (4, .int (nI i)), (3, .int (nI c9)), (0, .ref h0), (1, .int p0), (2, .ref bp)]) hx hb dX11_writeDown_40 hl (by decide) rfl (fun ls hl => ?_)
        refine lv_aloadN hx hb dX11_writeDown_42 (lv_at hl 0 rfl) ?_
        refine lv_ifnullN (tgt := 61) hx hb dX11_writeDown_44 (by decide) ?_
        refine lv_iinc (v := (nI (i + 1))) (lv' := [(4, .int (nI (i + 1))), (5, .null), (3, .int (nI c9)), (0, .ref h0), (1, .int p0), (2, .ref bp)]) hx hb dX11_writeDown_61 hl (k := 1) rfl (nI_1 i) (by decide) rfl (fun ls hl => ?_)
        refine lv_goto (tgt := 18) hx hb dX11_writeDown_64 (by decide) ?_
        exact ih (i + 1) _ _ _ ls (by omega) (by omega) hg hI hP hD hS (lv_sub hl [0, 2, 3, 4, 5] rfl)
      ·
        have ht_23 := hw b_22 rfl
        refine W.eq (g2 := F0 m 40 ls [.ref b_22]) rfl ?_
        refine lv_astore (lv' := [(5, .ref b_22), (4, .int (nI i)), (3, .int (nI c9)), (0, .ref h0), (1, .int p0), (2, .ref bp)]) hx hb dX11_writeDown_40 hl (by decide) rfl (fun ls hl => ?_)
        refine lv_aload hx hb dX11_writeDown_42 (lv_at hl 0 rfl) ?_
        refine lv_ifnull hx hb dX11_writeDown_44 ?_
        refine lv_aload_n hx hb dX11_writeDown_47 rfl (lv_at hl 3 rfl) ?_
        refine lv_aload hx hb dX11_writeDown_48 (lv_at hl 0 rfl) ?_
        refine lv_iload_n hx hb dX11_writeDown_50 rfl (lv_at hl 4 rfl) ?_
        refine lv_iload_n hx hb dX11_writeDown_51 rfl (lv_at hl 2 rfl) ?_
        refine lv_bipush (v := 60) hx hb dX11_writeDown_52 (by decide) ?_
        refine lv_imul hx hb dX11_writeDown_54 ?_
        refine lv_iload hx hb dX11_writeDown_55 (lv_at hl 1 rfl) ?_
        refine lv_iadd hx hb dX11_writeDown_57 ?_
        obtain ⟨kk_24, hk_25⟩ := pl_at hI.2.1.1.1 hI.2.2.2.1.1
        have hFc := fr_all hD hS hA
        refine va_callv (va_runV (As := [.ref b_22, .int p0, .int (((nI c9) * 60) + (nI i))]) (rest := []) ⟨hx, hb, hml, hown, hts⟩ (x_writeDownItem l dC dI q h0 d k z f hI b_22 p0 (((nI c9) * 60) + (nI i)) ht_23 hg.1 H.size) (cwV 3 hts gX11_writeDown_X11_writeDownItem rfl rfl rfl (by decide +kernel) ⟨Nat.le_trans (Nat.le_of_ble_eq_true rfl) hRf, Nat.le_trans (Nat.le_of_ble_eq_true rfl) hRl⟩) ⟨gx_fb, va_recv hK hP (ci := 10) (q0 := kk_24) rfl hk_25, fun U hU hW => ⟨rfl, by rw [hU], px_to hU hW hP hK hN hXN, hD.weaken (fun _ _ _ _ => trivial)⟩⟩ rfl rfl hl.1 rfl (lv_room (Nat.le_of_ble_eq_true rfl)) dX11_writeDown_58 ⟨hRc, hRs⟩) hS (fun q _ h => hFc q h) hFc (fun w_26 t H1 locs ht hvm hw hB hz1 hk1 hS => ?_)
        obtain ⟨hP, hD1⟩ := hB
        rw [ht] at hP
        rw [hw.2.1] at hP hD1
        have hD := hD1.weaken (fun _ q _ h => hFc q.1 h)
        have hI := hw.2.2.1
        have hw0 := hw
        generalize w_26.2.2 = f_27 at hP hD hI hw0
        generalize H1 = H at hP hS ⊢
        have hg : xPl q d z f_27 p0 ∧ f_27 (d 1) = f0 (d 1) := ⟨xPl_eq hg.1 hw0.2.2.2, hw0.2.2.2.trans hg.2⟩
        refine lv_iinc (v := (nI (i + 1))) (lv' := [(4, .int (nI (i + 1))), (5, .ref b_22), (3, .int (nI c9)), (0, .ref h0), (1, .int p0), (2, .ref bp)]) hx hb dX11_writeDown_61 hl (k := 1) rfl (nI_1 i) (by decide) rfl (fun ls hl => ?_)
        refine lv_goto (tgt := 18) hx hb dX11_writeDown_64 (by decide) ?_
        exact ih (i + 1) _ _ _ ls (by omega) (by omega) hg hI hP hD hS (lv_sub hl [0, 2, 3, 4, 5] rfl)
set_option maxHeartbeats 4000000 in
set_option maxRecDepth 100000 in
theorem x_wd_out {p : Program} {l : Launch} {e : Env} {R : Room} {s : State} {m : MethodId} {args : Array Value} {below : List Frame} {meth : Method} {c : Code} {Q : State → Prop} {cells slots : Nat} {dC : Nat → ClassId} {dI : Nat → Nat → Nat} {q : Nat → ClassId} {h0 : Nat} {d : Nat → Nat} {k : Nat → Int32} {z : gS} {f0 : xF} {bp : Nat} {p0 : Int32} (hbp : tg z bp 7) {A : Nat → Prop} {H0 : Heap} (hx : p.tables.exec = Jvm.exec) (hb : c.code = cX11_writeDown) (hml : c.maxLocals = 6) (hts : ∀ w ∈ wsX11_writeDown, w.before args s = true) (hown : s.vm.findClass RX11 = some m.cls) (hN : NN s) (hXN : XN s) (hK : va_K (dC, dI) vwCl (xT q) s) (hRf : 3 ≤ R.frames) (hRl : 64 ≤ R.locals) (hRc : cells ≤ R.cells) (hRs : slots ≤ R.slots) (hA : ∀ q : Nat, H0.size ≤ q → A q) (kx73 : ∀ (f : xF) (H : Heap) (locs : List Loc) (ls : Array Slot), (xPl q d z f p0 ∧ f (d 1) = f0 (d 1)) → xI q h0 d k z f → va_P (dC, dI) vwCl (va_pl z.1 f) H → va_D A (va_pl z.1 f) → va_S A H0 H locs → lv_has ls 6 [(0, .ref h0), (1, .int p0), (2, .ref bp)] → W p l e R s m args below meth c H locs cells slots Q (F0 m 73 ls [])) : ∀ (kk i : Nat) (f : xF) (H : Heap) (locs : List Loc) (ls : Array Slot), i ≤ 8 → 8 - i < kk → (xPl q d z f p0 ∧ f (d 1) = f0 (d 1)) → xI q h0 d k z f → va_P (dC, dI) vwCl (va_pl z.1 f) H → va_D A (va_pl z.1 f) → va_S A H0 H locs → lv_has ls 6 [(3, .int (nI i)), (0, .ref h0), (1, .int p0), (2, .ref bp)] → W p l e R s m args below meth c H locs cells slots Q (F0 m 9 ls []) := by
  intro kk
  induction kk with
  | zero => intro i f H locs ls h1 h2; exact absurd h2 (Nat.not_lt_zero _)
  | succ kk ih =>
    intro i f H locs ls hi hkk hg hI hP hD hS hl
    refine lv_iload_n hx hb dX11_writeDown_9 rfl (lv_at hl 0 rfl) ?_
    refine lv_bipush (v := 8) hx hb dX11_writeDown_10 (by decide) ?_
    refine lv_icmp_ge (tgt := 73) hx hb dX11_writeDown_12 (by decide) (fun c_1 => ?_) (fun c_1 => ?_)
    ·
      have hie : i = 8 := lp_eq rfl (by decide) hi c_1
      exact kx73 _ _ _ ls hg hI hP hD hS (lv_sub hl [1, 2, 3] rfl)
    ·
      have hlt : i < 8 := lp_lt rfl (by decide) hi c_1
      refine lv_iconst (v := 0) hx hb dX11_writeDown_15 (by decide) ?_
      refine lv_istore (lv' := [(4, .int 0), (3, .int (nI i)), (0, .ref h0), (1, .int p0), (2, .ref bp)]) hx hb dX11_writeDown_16 hl (by decide) rfl (fun ls hl => ?_)
      refine x_wd_in (f0 := f0) (c9 := i) hbp hlt hx hb hml hts hown hN hXN hK hRf hRl hRc hRs hA (fun f H locs ls hg hI hP hD hS hl => ?_) 61 0 _ _ _ ls (by decide) (by decide) hg hI hP hD hS (lv_sub hl [0, 1, 2, 3, 4] rfl)
      refine lv_iinc (v := (nI (i + 1))) (lv' := [(3, .int (nI (i + 1))), (0, .ref h0), (1, .int p0), (2, .ref bp)]) hx hb dX11_writeDown_67 hl (k := 0) rfl (nI_1 i) (by decide) rfl (fun ls hl => ?_)
      refine lv_goto (tgt := 9) hx hb dX11_writeDown_70 (by decide) ?_
      exact ih (i + 1) _ _ _ ls (by omega) (by omega) hg hI hP hD hS (lv_sub hl [0, 1, 2, 3] rfl)
set_option maxHeartbeats 4000000 in
set_option maxRecDepth 100000 in
theorem x_writeDown (l : Launch) (dC : Nat → ClassId) (dI : Nat → Nat → Nat) (q : Nat → ClassId) (h0 : Nat) (d : Nat → Nat) (k : Nat → Int32) (z : gS) (f : xF) (hI : xI q h0 d k z f) (p0 : Int32) (hpl : xPl q d z f p0) (sz : Nat) : Met l yX11_writeDown wsX11_writeDown ({ frames := 3, cells := 0, slots := 0, locals := 64 }) (va_Pc [.ref h0, .int p0] (fun U => U.heap.size = sz ∧ PX dC dI (va_pl z.1 f) (xT q) U ∧ va_D (fun _ => True) (va_pl z.1 f))) (va_Qv (fun (w : xU) => w.1 = k ∧ w.2.1 = z ∧ xI q h0 d k z w.2.2) (fun (w : xU) t => va_P (dC, dI) vwCl (va_pl w.2.1.1 w.2.2) t.heap ∧ va_D (va_A (va_pl z.1 f) sz) (va_pl w.2.1.1 w.2.2)) (va_A (va_pl z.1 f) sz)) 0 0 (va_A (va_pl z.1 f) sz) := by
  refine Met.ofW (cc := cX11_writeDown) (maxL := 6) (ret := none) (by decide) rfl ?_
  intro p e s m args below meth c s₁ B hml hv
  obtain ⟨rfl, hsz, ⟨⟨hP, hK, hN⟩, hXN⟩, hD0⟩ := hv
  have hx := B.exec
  have hb := B.bytes
  have hr := B.returns
  have hts := atoms_spec (ws := wsX11_writeDown) B.pre
  have hown : s.vm.findClass RX11 = some m.cls := findClass_of_methodNamed B.named
  have hlocks := B.notSynchronized
  subst hsz
  have hD := hD0.self (sz := s.heap.size)
  generalize hAe : va_A (va_pl z.1 f) s.heap.size = A at hD ⊢
  have hA : ∀ q : Nat, s.heap.size ≤ q → A q := fun q h => by rw [← hAe]; exact Or.inr h
  have hS : va_S A s.heap s.heap [] := va_S.rf
  have hl := lv_entry ([.ref h0, .int p0]) (n := 6) (Nat.le_of_ble_eq_true rfl)
  rw [lg_entry_eq]
  generalize (lg_sl ([.ref h0, .int p0]) ++ List.replicate (6 - (lg_sl ([.ref h0, .int p0])).length) Slot.unset).toArray = ls at hl ⊢
  have hl : lv_has ls 6 [(0, .ref h0), (1, .int p0)] := hl
  have hpl9 := hpl
  obtain ⟨hbw0, gp0, bp0, hp01, hp02, hp03⟩ := hpl9
  refine lv_aload_n hx hb dX11_writeDown_0 rfl (lv_at hl 0 rfl) ?_
  obtain ⟨kk_1, hk_2⟩ := pl_at hI.2.1.1.1 hI.2.2.2.1.1
  refine va_get (D := (dC, dI)) (ci := 10) (v := .ref (d 1)) (C := RX11) (T := TX11) (N := 9) hx hb hts (by decide +kernel) hown hK hP kk_1 hk_2 rfl 1 (by decide) (hts (.fieldLink RX11 15 "PageOne" "plates" "[LPageOne$Sheet;") (by decide +kernel)) (fun _ h9 => h9) rfl dX11_writeDown_1 ?_
  refine lv_iload_n hx hb dX11_writeDown_4 rfl (lv_at hl 1 rfl) ?_
  obtain ⟨kk_3, hk_4⟩ := pl_at hI.2.1.2.2.1.1 hp01
  refine va_aldq hx hb hK hP kk_3 2 hk_4 rfl (vin hbw0 (by decide)) dX11_writeDown_5 ?_
  rw [hp02]
  refine W.eq (g2 := F0 m 6 ls [.ref bp0]) rfl ?_
  refine lv_astore_n (lv' := [(2, .ref bp0), (0, .ref h0), (1, .int p0)]) hx hb dX11_writeDown_6 rfl hl (by decide) rfl (fun ls hl => ?_)
  refine lv_iconst (v := 0) hx hb dX11_writeDown_7 (by decide) ?_
  refine lv_istore_n (lv' := [(3, .int 0), (2, .ref bp0), (0, .ref h0), (1, .int p0)]) hx hb dX11_writeDown_8 rfl hl (by decide) rfl (fun ls hl => ?_)
  refine x_wd_out (f0 := f) (bp := bp0) hp03 hx hb hml hts hown hN hXN hK (Nat.le_of_ble_eq_true rfl) (Nat.le_of_ble_eq_true rfl) (Nat.le_of_ble_eq_true rfl) (Nat.le_of_ble_eq_true rfl) hA (fun f2 H locs ls hg hI hP hD hS hl => ?_) 9 0 _ _ _ ls (by decide) (by decide) ⟨hpl, rfl⟩ hI hP hD hS (lv_sub hl [0, 2, 3, 1] rfl)
  exact W.vret hx hb hr (fun t ht hW => ⟨⟨(k, z, f2), rfl, ⟨rfl, rfl, hI⟩, by rw [ht]; exact hP, hD⟩, hS.F ht⟩) hS.2.2 dX11_writeDown_73
set_option maxHeartbeats 4000000 in
set_option maxRecDepth 100000 in
theorem x_close_l {p : Program} {l : Launch} {e : Env} {R : Room} {s : State} {m : MethodId} {args : Array Value} {below : List Frame} {meth : Method} {c : Code} {Q : State → Prop} {cells slots : Nat} {dC : Nat → ClassId} {dI : Nat → Nat → Nat} {q : Nat → ClassId} {h0 : Nat} {d : Nat → Nat} {k : Nat → Int32} {z : gS} {A : Nat → Prop} {H0 : Heap} (hx : p.tables.exec = Jvm.exec) (hb : c.code = cX11_closeEdition) (hml : c.maxLocals = 2) (hts : ∀ w ∈ wsX11_closeEdition, w.before args s = true) (hown : s.vm.findClass RX11 = some m.cls) (hN : NN s) (hXN : XN s) (hK : va_K (dC, dI) vwCl (xT q) s) (hRf : 4 ≤ R.frames) (hRl : 89 ≤ R.locals) (hRc : cells ≤ R.cells) (hRs : slots ≤ R.slots) (hA : ∀ q : Nat, H0.size ≤ q → A q) (kx27 : ∀ (f : xF) (H : Heap) (locs : List Loc) (ls : Array Slot), xI q h0 d k z f → va_P (dC, dI) vwCl (va_pl z.1 f) H → va_D A (va_pl z.1 f) → va_S A H0 H locs → lv_has ls 2 [(0, .ref h0)] → W p l e R s m args below meth c H locs cells slots Q (F0 m 27 ls [])) : ∀ (kk i : Nat) (f : xF) (H : Heap) (locs : List Loc) (ls : Array Slot), i ≤ 12 → 12 - i < kk → xI q h0 d k z f → va_P (dC, dI) vwCl (va_pl z.1 f) H → va_D A (va_pl z.1 f) → va_S A H0 H locs → lv_has ls 2 [(1, .int (nI i)), (0, .ref h0)] → W p l e R s m args below meth c H locs cells slots Q (F0 m 2 ls []) := by
  intro kk
  induction kk with
  | zero => intro i f H locs ls h1 h2; exact absurd h2 (Nat.not_lt_zero _)
  | succ kk ih =>
    intro i f H locs ls hi hkk hI hP hD hS hl
    refine lv_iload_n hx hb dX11_closeEdition_2 rfl (lv_at hl 0 rfl) ?_
    refine lv_bipush (v := 12) hx hb dX11_closeEdition_3 (by decide) ?_
    refine lv_icmp_ge (tgt := 27) hx hb dX11_closeEdition_5 (by decide) (fun c_1 => ?_) (fun c_1 => ?_)
    ·
      have hie : i = 12 := lp_eq rfl (by decide) hi c_1
      exact kx27 _ _ _ ls hI hP hD hS (lv_sub hl [1] rfl)
    ·
      have hlt : i < 12 := lp_lt rfl (by decide) hi c_1
      refine lv_aload_n hx hb dX11_closeEdition_8 rfl (lv_at hl 1 rfl) ?_
      refine lv_iload_n hx hb dX11_closeEdition_9 rfl (lv_at hl 0 rfl) ?_
      obtain ⟨kk_2, hk_3⟩ := pl_at hI.2.1.1.1 hI.2.2.2.1.1
      refine vp_callSi (va_runV (As := [.int (nI i)]) (rest := []) ⟨hx, hb, hml, hown, hts⟩ (x_isFresh l dC dI q h0 d k z f hI (nI i)) (cwV 1 hts gX11_closeEdition_X11_isFresh rfl rfl rfl (by decide +kernel) ⟨Nat.le_trans (Nat.le_of_ble_eq_true rfl) hRf, Nat.le_trans (Nat.le_of_ble_eq_true rfl) hRl⟩) ⟨px_fb, va_recv hK hP (ci := 10) (q0 := kk_2) rfl hk_3, fun U hU hW => ⟨rfl, px_to hU hW hP hK hN hXN⟩⟩ rfl rfl hl.1 rfl (lv_room (Nat.le_of_ble_eq_true rfl)) dX11_closeEdition_10 ⟨hRc, hRs⟩).run (fun r hw => ?_)
      rcases hw with hw | ⟨hw, hbw_9, gp_4, bp_5, hp_6, hp_7, hp_8⟩
      ·
        subst hw
        refine lv_if_eq (tgt := 21) hx hb dX11_closeEdition_13 (by decide) (fun c_10 => ?_) (fun c_10 => absurd (by decide) c_10)
        refine lv_iinc (v := (nI (i + 1))) (lv' := [(1, .int (nI (i + 1))), (0, .ref h0)]) hx hb dX11_closeEdition_21 hl (k := 0) rfl (nI_1 i) (by decide) rfl (fun ls hl => ?_)
        refine lv_goto (tgt := 2) hx hb dX11_closeEdition_24 (by decide) ?_
        exact ih (i + 1) _ _ _ ls (by omega) (by omega) hI hP hD hS (lv_sub hl [0, 1] rfl)
      ·
        subst hw
        refine lv_if_eq (tgt := 21) hx hb dX11_closeEdition_13 (by decide) (fun c_11 => absurd c_11 (by decide)) (fun c_11 => ?_)
        refine lv_aload_n hx hb dX11_closeEdition_16 rfl (lv_at hl 1 rfl) ?_
        refine lv_iload_n hx hb dX11_closeEdition_17 rfl (lv_at hl 0 rfl) ?_
        obtain ⟨kk_12, hk_13⟩ := pl_at hI.2.1.1.1 hI.2.2.2.1.1
        have hFc := fr_all hD hS hA
        refine va_callv (va_runV (As := [.int (nI i)]) (rest := []) ⟨hx, hb, hml, hown, hts⟩ (x_writeDown l dC dI q h0 d k z f hI (nI i) ⟨hbw_9, gp_4, bp_5, hp_6, hp_7, hp_8⟩ H.size) (cwV 1 hts gX11_closeEdition_X11_writeDown rfl rfl rfl (by decide +kernel) ⟨Nat.le_trans (Nat.le_of_ble_eq_true rfl) hRf, Nat.le_trans (Nat.le_of_ble_eq_true rfl) hRl⟩) ⟨gx_fb, va_recv hK hP (ci := 10) (q0 := kk_12) rfl hk_13, fun U hU hW => ⟨rfl, by rw [hU], px_to hU hW hP hK hN hXN, hD.weaken (fun _ _ _ _ => trivial)⟩⟩ rfl rfl hl.1 rfl (lv_room (Nat.le_of_ble_eq_true rfl)) dX11_closeEdition_18 ⟨hRc, hRs⟩) hS (fun q _ h => hFc q h) hFc (fun w_14 t H1 locs ht hvm hw hB hz1 hk1 hS => ?_)
        obtain ⟨hP, hD1⟩ := hB
        rw [ht] at hP
        rw [hw.2.1] at hP hD1
        have hD := hD1.weaken (fun _ q _ h => hFc q.1 h)
        have hI := hw.2.2
        have hw0 := hw
        generalize w_14.2.2 = f_15 at hP hD hI hw0
        generalize H1 = H at hP hS ⊢
        refine lv_iinc (v := (nI (i + 1))) (lv' := [(1, .int (nI (i + 1))), (0, .ref h0)]) hx hb dX11_closeEdition_21 hl (k := 0) rfl (nI_1 i) (by decide) rfl (fun ls hl => ?_)
        refine lv_goto (tgt := 2) hx hb dX11_closeEdition_24 (by decide) ?_
        exact ih (i + 1) _ _ _ ls (by omega) (by omega) hI hP hD hS (lv_sub hl [0, 1] rfl)
set_option maxHeartbeats 4000000 in
set_option maxRecDepth 100000 in
theorem x_closeEdition (l : Launch) (dC : Nat → ClassId) (dI : Nat → Nat → Nat) (q : Nat → ClassId) (h0 : Nat) (d : Nat → Nat) (k : Nat → Int32) (z : gS) (f : xF) (hI : xI q h0 d k z f) (sz : Nat) : Met l yX11_closeEdition wsX11_closeEdition ({ frames := 4, cells := 0, slots := 0, locals := 89 }) (va_Pc [.ref h0] (fun U => U.heap.size = sz ∧ PX dC dI (va_pl z.1 f) (xT q) U ∧ va_D (fun _ => True) (va_pl z.1 f))) (va_Qv (fun (w : xU) => w.1 = k ∧ w.2.1 = z ∧ xI q h0 d k z w.2.2) (fun (w : xU) t => va_P (dC, dI) vwCl (va_pl w.2.1.1 w.2.2) t.heap ∧ va_D (va_A (va_pl z.1 f) sz) (va_pl w.2.1.1 w.2.2)) (va_A (va_pl z.1 f) sz)) 0 0 (va_A (va_pl z.1 f) sz) := by
  refine Met.ofW (cc := cX11_closeEdition) (maxL := 2) (ret := none) (by decide) rfl ?_
  intro p e s m args below meth c s₁ B hml hv
  obtain ⟨rfl, hsz, ⟨⟨hP, hK, hN⟩, hXN⟩, hD0⟩ := hv
  have hx := B.exec
  have hb := B.bytes
  have hr := B.returns
  have hts := atoms_spec (ws := wsX11_closeEdition) B.pre
  have hown : s.vm.findClass RX11 = some m.cls := findClass_of_methodNamed B.named
  have hlocks := B.notSynchronized
  subst hsz
  have hD := hD0.self (sz := s.heap.size)
  generalize hAe : va_A (va_pl z.1 f) s.heap.size = A at hD ⊢
  have hA : ∀ q : Nat, s.heap.size ≤ q → A q := fun q h => by rw [← hAe]; exact Or.inr h
  have hS : va_S A s.heap s.heap [] := va_S.rf
  have hl := lv_entry ([.ref h0]) (n := 2) (Nat.le_of_ble_eq_true rfl)
  rw [lg_entry_eq]
  generalize (lg_sl ([.ref h0]) ++ List.replicate (2 - (lg_sl ([.ref h0])).length) Slot.unset).toArray = ls at hl ⊢
  have hl : lv_has ls 2 [(0, .ref h0)] := hl
  refine lv_iconst (v := 0) hx hb dX11_closeEdition_0 (by decide) ?_
  refine lv_istore_n (lv' := [(1, .int 0), (0, .ref h0)]) hx hb dX11_closeEdition_1 rfl hl (by decide) rfl (fun ls hl => ?_)
  refine x_close_l hx hb hml hts hown hN hXN hK (Nat.le_of_ble_eq_true rfl) (Nat.le_of_ble_eq_true rfl) (Nat.le_of_ble_eq_true rfl) (Nat.le_of_ble_eq_true rfl) hA (fun f H locs ls hI hP hD hS hl => ?_) 13 0 _ _ _ ls (by decide) (by decide) hI hP hD hS (lv_sub hl [0, 1] rfl)
  exact W.vret hx hb hr (fun t ht hW => ⟨⟨(k, z, f), rfl, ⟨rfl, rfl, hI⟩, by rw [ht]; exact hP, hD⟩, hS.F ht⟩) hS.2.2 dX11_closeEdition_27
