set_option maxHeartbeats 4000000 in
set_option maxRecDepth 100000 in
theorem y_wd_out {p : Program} {l : Launch} {e : Env} {R : Room} {s : State} {m : MethodId} {args : Array Value} {below : List Frame} {meth : Method} {c : Code} {Q : State → Prop} {cells slots : Nat} {dC : Nat → ClassId} {dI : Nat → Nat → Nat} {q : Nat → ClassId} {h0 : Nat} {d : Nat → Nat} {k : Nat → Int32} {z : gS} {f0 : xF} {u : mS} (hk0 : k 0 = u.1 3) (hk1 : k 1 = u.1 28) (hk2 : k 2 = u.1 38) (hk3 : k 3 = u.1 39) {P : Nat} (hP9 : P < 12) (h40 : u.2 40 P = 1) {A : Nat → Prop} {H0 : Heap} (hx : p.tables.exec = Jvm.exec) (hb : c.code = cX11_writeDown) (hml : c.maxLocals = 6) (hts : ∀ w ∈ wsX11_writeDown, w.before args s = true) (hown : s.vm.findClass RX11 = some m.cls) (hN : NN s) (hXN : XN s) (hK : va_K (dC, dI) vwCl (xT q) s) (hRf : 3 ≤ R.frames) (hRl : 64 ≤ R.locals) (hRc : cells ≤ R.cells) (hRs : slots ≤ R.slots) (hA : ∀ q : Nat, H0.size ≤ q → A q) (kx73 : ∀ (f : xF) (H : Heap) (locs : List Loc) (ls : Array Slot), (rep q d (wdP P u 8) z f ∧ f (d 3) = f0 (d 3)) → xI q h0 d k z f → va_P (dC, dI) vwCl (va_pl z.1 f) H → va_D A (va_pl z.1 f) → va_S A H0 H locs → lv_has ls 6 [(0, .ref h0), (1, .int (nI P)), (2, .ref (d (1000 + P)))] → W p l e R s m args below meth c H locs cells slots Q (F0 m 73 ls [])) : ∀ (kk i : Nat) (f : xF) (H : Heap) (locs : List Loc) (ls : Array Slot), i ≤ 8 → 8 - i < kk → (rep q d (wdP P u i) z f ∧ f (d 3) = f0 (d 3)) → xI q h0 d k z f → va_P (dC, dI) vwCl (va_pl z.1 f) H → va_D A (va_pl z.1 f) → va_S A H0 H locs → lv_has ls 6 [(3, .int (nI i)), (0, .ref h0), (1, .int (nI P)), (2, .ref (d (1000 + P)))] → W p l e R s m args below meth c H locs cells slots Q (F0 m 9 ls []) := by
  intro kk
  induction kk with
  | zero => intro i f H locs ls h1 h2; exact absurd h2 (Nat.not_lt_zero _)
  | succ kk ih =>
    intro i f H locs ls hi hkk hg hI hP hD hS hl
    obtain ⟨ui, eui⟩ : ∃ y : mS, y = wdP P u i := ⟨_, rfl⟩
    have hrpi : rep q d ui z f := by rw [eui]; exact hg.1
    have hu1 : ui.1 = u.1 := by rw [eui, wdP_1]
    have h40i : ui.2 40 P = 1 := by rw [eui, wdP_k _ _ (by decide) (by decide)]; exact h40
    have h43i : ui.2 43 = u.2 43 := by rw [eui, wdP_k _ _ (by decide) (by decide)]
    refine lv_iload_n hx hb dX11_writeDown_9 rfl (lv_at hl 0 rfl) ?_
    refine lv_bipush (v := 8) hx hb dX11_writeDown_10 (by decide) ?_
    refine lv_icmp_ge (tgt := 73) hx hb dX11_writeDown_12 (by decide) (fun c_1 => ?_) (fun c_1 => ?_)
    ·
      have hie : i = 8 := lp_eq rfl (by decide) hi c_1
      exact kx73 _ _ _ ls (by rw [hie] at hg; exact hg) hI hP hD hS (lv_sub hl [1, 2, 3] rfl)
    ·
      have hlt : i < 8 := lp_lt rfl (by decide) hi c_1
      refine lv_iconst (v := 0) hx hb dX11_writeDown_15 (by decide) ?_
      refine lv_istore (lv' := [(4, .int 0), (3, .int (nI i)), (0, .ref h0), (1, .int (nI P)), (2, .ref (d (1000 + P)))]) hx hb dX11_writeDown_16 hl (by decide) rfl (fun ls hl => ?_)
      obtain ⟨m9, gl9, gc9, gp9, -, -, -, -, -, -, -, hgb9, -, el9, -⟩ := pl_all hI hrpi.2.1 hP9 h40i
      obtain ⟨l1, l2, l3⟩ := nI_of_bw (hgb9 i hlt)
      have e60 : (60 : Int32).toInt = 60 := rfl
      rw [el9 i hlt] at l1 l2 l3
      refine y_wd_in (f0 := f0) (u := ui) (by rw [hu1]; exact hk0) (by rw [hu1]; exact hk1) (by rw [hu1]; exact hk2) (by rw [hu1]; exact hk3) (P := P) (c9 := i) (L9 := (ui.2 43 (8 * P + i)).toNatClampNeg) hP9 hlt h40i l1 (by omega) hx hb hml hts hown hN hXN hK hRf hRl hRc hRs hA (fun f H locs ls hg hI hP hD hS hl => ?_) _ 0 _ _ _ ls (Nat.zero_le _) (Nat.lt_succ_self _) ⟨hrpi, hg.2⟩ hI hP hD hS (lv_sub hl [0, 1, 2, 3, 4] rfl)
      refine lv_iinc (v := (nI (i + 1))) (lv' := [(3, .int (nI (i + 1))), (0, .ref h0), (1, .int (nI P)), (2, .ref (d (1000 + P)))]) hx hb dX11_writeDown_67 hl (k := 0) rfl (nI_1 i) (by decide) rfl (fun ls hl => ?_)
      refine lv_goto (tgt := 9) hx hb dX11_writeDown_70 (by decide) ?_
      exact ih (i + 1) _ _ _ ls (by omega) (by omega) ⟨by show rep q d (wdC P i (wdP P u i) (u.2 43 (8 * P + i)).toNatClampNeg) z _; rw [← eui, ← h43i]; exact hg.1, hg.2⟩ hI hP hD hS (lv_sub hl [0, 1, 2, 3] rfl)
set_option maxHeartbeats 4000000 in
set_option maxRecDepth 100000 in
theorem y_writeDown (l : Launch) (dC : Nat → ClassId) (dI : Nat → Nat → Nat) (q : Nat → ClassId) (h0 : Nat) (d : Nat → Nat) (k : Nat → Int32) (z : gS) (f : xF) (hI : xI q h0 d k z f) (P : Nat) (hP9 : P < 12) (u : mS) (hrp : rep q d u z f) (hk0 : k 0 = u.1 3) (hk1 : k 1 = u.1 28) (hk2 : k 2 = u.1 38) (hk3 : k 3 = u.1 39) (h40 : u.2 40 P = 1) (sz : Nat) : Met l yX11_writeDown wsX11_writeDown ({ frames := 3, cells := 0, slots := 0, locals := 64 }) (va_Pc [.ref h0, .int (nI P)] (fun U => U.heap.size = sz ∧ PX dC dI (va_pl z.1 f) (xT q) U ∧ va_D (fun _ => True) (va_pl z.1 f))) (va_Qv (fun (w : xU) => w.1 = k ∧ w.2.1 = z ∧ xI q h0 d k z w.2.2 ∧ rep q d (wdP P u 8) z w.2.2 ∧ w.2.2 (d 3) = f (d 3)) (fun (w : xU) t => va_P (dC, dI) vwCl (va_pl w.2.1.1 w.2.2) t.heap ∧ va_D (va_A (va_pl z.1 f) sz) (va_pl w.2.1.1 w.2.2)) (va_A (va_pl z.1 f) sz)) 0 0 (va_A (va_pl z.1 f) sz) := by
  refine Met.ofW (cc := cX11_writeDown) (maxL := 6) (ret := none) (by decide) rfl ?_
  intro p e s m args below meth c s₁ B hml hv
  obtain ⟨rfl, hsz, ⟨⟨hP, hK, hN⟩, hXN⟩, hD0⟩ := hv
  have hx := B.exec
  have hb := B.bytes
  have hr := B.returns
  have hts := atoms_spec (ws := wsX11_writeDown) B.pre
  have hown : s.vm.findClass RX11 = some m.cls := findClass_of_methodNamed B.named
  have hlocks := B.notSynchronized
  subst hsz
  have hD := hD0.self (sz := s.heap.size)
  generalize hAe : va_A (va_pl z.1 f) s.heap.size = A at hD ⊢
  have hA : ∀ q : Nat, s.heap.size ≤ q → A q := fun q h => by rw [← hAe]; exact Or.inr h
  have hS : va_S A s.heap s.heap [] := va_S.rf
  have hl := lv_entry ([.ref h0, .int (nI P)]) (n := 6) (Nat.le_of_ble_eq_true rfl)
  rw [lg_entry_eq]
  generalize (lg_sl ([.ref h0, .int (nI P)]) ++ List.replicate (6 - (lg_sl ([.ref h0, .int (nI P)])).length) Slot.unset).toArray = ls at hl ⊢
  have hl : lv_has ls 6 [(0, .ref h0), (1, .int (nI P))] := hl
  have hk1o := hk1
  obtain ⟨m_1, gl_2, gc_3, gp_4, hp_5, hp_6, ht_7, ht_8, ht_9, hs_10, hg_11, hgb_12, hc_13, el_14, ec_15⟩ := pl_all hI hrp.2.1 hP9 h40
  have hgp9 : gp_4 (nI P : Int32).toNatClampNeg = some (d (1000 + P)) := by rw [nI_clamp (by omega)]; exact hp_6
  refine lv_aload_n hx hb dX11_writeDown_0 rfl (lv_at hl 0 rfl) ?_
  obtain ⟨kk_16, hk_17⟩ := pl_at hI.2.1.1.1 hI.2.2.2.1.1
  refine va_get (D := (dC, dI)) (ci := 10) (v := .ref (d 1)) (C := RX11) (T := TX11) (N := 9) hx hb hts (by decide +kernel) hown hK hP kk_16 hk_17 rfl 1 (by decide) (hts (.fieldLink RX11 15 "PageOne" "plates" "[LPageOne$Sheet;") (by decide +kernel)) (fun _ h9 => h9) rfl dX11_writeDown_1 ?_
  refine lv_iload_n hx hb dX11_writeDown_4 rfl (lv_at hl 1 rfl) ?_
  obtain ⟨kk_18, hk_19⟩ := pl_at hI.2.1.2.2.1.1 hp_5
  refine va_aldq hx hb hK hP kk_18 2 hk_19 rfl (vin (bw11 hP9) (by decide)) dX11_writeDown_5 ?_
  rw [hgp9]
  refine W.eq (g2 := F0 m 6 ls [.ref (d (1000 + P))]) rfl ?_
  refine lv_astore_n (lv' := [(2, .ref (d (1000 + P))), (0, .ref h0), (1, .int (nI P))]) hx hb dX11_writeDown_6 rfl hl (by decide) rfl (fun ls hl => ?_)
  refine lv_iconst (v := 0) hx hb dX11_writeDown_7 (by decide) ?_
  refine lv_istore_n (lv' := [(3, .int 0), (2, .ref (d (1000 + P))), (0, .ref h0), (1, .int (nI P))]) hx hb dX11_writeDown_8 rfl hl (by decide) rfl (fun ls hl => ?_)
  refine y_wd_out (f0 := f) (u := u) hk0 hk1 hk2 hk3 (P := P) hP9 h40 hx hb hml hts hown hN hXN hK (Nat.le_of_ble_eq_true rfl) (Nat.le_of_ble_eq_true rfl) (Nat.le_of_ble_eq_true rfl) (Nat.le_of_ble_eq_true rfl) hA (fun f2 H locs ls hg hI hP hD hS hl => ?_) 9 0 _ _ _ ls (by decide) (by decide) ⟨hrp, rfl⟩ hI hP hD hS (lv_sub hl [0, 2, 3, 1] rfl)
  exact W.vret hx hb hr (fun t ht hW => ⟨⟨(k, z, f2), rfl, ⟨rfl, rfl, hI, hg.1, hg.2⟩, by rw [ht]; exact hP, hD⟩, hS.F ht⟩) hS.2.2 dX11_writeDown_73
/-- the edition's plates, written down -/
def clE (u : mS) : Nat → mS
  | 0 => u
  | p + 1 => if mNow (clE u p) (nI p) = true then wdP p (clE u p) 8 else clE u p
theorem clE_1 (u : mS) : ∀ p, (clE u p).1 = u.1
  | 0 => rfl
  | p + 1 => by
    show (if mNow (clE u p) (nI p) = true then wdP p (clE u p) 8 else clE u p).1 = _
    split
    · rw [wdP_1]; exact clE_1 u p
    · exact clE_1 u p
theorem clE_k (u : mS) {r : Nat} (h : r ≠ 47) (h2 : r ≠ 48) : ∀ p, (clE u p).2 r = u.2 r
  | 0 => rfl
  | p + 1 => by
    show (if mNow (clE u p) (nI p) = true then wdP p (clE u p) 8 else clE u p).2 r = _
    split
    · rw [wdP_k _ _ h h2]; exact clE_k u h h2 p
    · exact clE_k u h h2 p
set_option maxHeartbeats 4000000 in
set_option maxRecDepth 100000 in
theorem y_close_l {p : Program} {l : Launch} {e : Env} {R : Room} {s : State} {m : MethodId} {args : Array Value} {below : List Frame} {meth : Method} {c : Code} {Q : State → Prop} {cells slots : Nat} {dC : Nat → ClassId} {dI : Nat → Nat → Nat} {q : Nat → ClassId} {h0 : Nat} {d : Nat → Nat} {k : Nat → Int32} {z : gS} {f0 : xF} {u : mS} (hk0 : k 0 = u.1 3) (hk1 : k 1 = u.1 28) (hk2 : k 2 = u.1 38) (hk3 : k 3 = u.1 39) {A : Nat → Prop} {H0 : Heap} (hx : p.tables.exec = Jvm.exec) (hb : c.code = cX11_closeEdition) (hml : c.maxLocals = 2) (hts : ∀ w ∈ wsX11_closeEdition, w.before args s = true) (hown : s.vm.findClass RX11 = some m.cls) (hN : NN s) (hXN : XN s) (hK : va_K (dC, dI) vwCl (xT q) s) (hRf : 4 ≤ R.frames) (hRl : 89 ≤ R.locals) (hRc : cells ≤ R.cells) (hRs : slots ≤ R.slots) (hA : ∀ q : Nat, H0.size ≤ q → A q) (kx27 : ∀ (f : xF) (H : Heap) (locs : List Loc) (ls : Array Slot), (rep q d (clE u 12) z f ∧ f (d 3) = f0 (d 3)) → xI q h0 d k z f → va_P (dC, dI) vwCl (va_pl z.1 f) H → va_D A (va_pl z.1 f) → va_S A H0 H locs → lv_has ls 2 [(0, .ref h0)] → W p l e R s m args below meth c H locs cells slots Q (F0 m 27 ls [])) : ∀ (kk i : Nat) (f : xF) (H : Heap) (locs : List Loc) (ls : Array Slot), i ≤ 12 → 12 - i < kk → (rep q d (clE u i) z f ∧ f (d 3) = f0 (d 3)) → xI q h0 d k z f → va_P (dC, dI) vwCl (va_pl z.1 f) H → va_D A (va_pl z.1 f) → va_S A H0 H locs → lv_has ls 2 [(1, .int (nI i)), (0, .ref h0)] → W p l e R s m args below meth c H locs cells slots Q (F0 m 2 ls []) := by
  intro kk
  induction kk with
  | zero => intro i f H locs ls h1 h2; exact absurd h2 (Nat.not_lt_zero _)
  | succ kk ih =>
    intro i f H locs ls hi hkk hg hI hP hD hS hl
    obtain ⟨ui, eui⟩ : ∃ y : mS, y = clE u i := ⟨_, rfl⟩
    have hrpi : rep q d ui z f := by rw [eui]; exact hg.1
    have hu1 : ui.1 = u.1 := by rw [eui, clE_1]
    refine lv_iload_n hx hb dX11_closeEdition_2 rfl (lv_at hl 0 rfl) ?_
    refine lv_bipush (v := 12) hx hb dX11_closeEdition_3 (by decide) ?_
    refine lv_icmp_ge (tgt := 27) hx hb dX11_closeEdition_5 (by decide) (fun c_1 => ?_) (fun c_1 => ?_)
    ·
      have hie : i = 12 := lp_eq rfl (by decide) hi c_1
      exact kx27 _ _ _ ls (by rw [hie] at hg; exact hg) hI hP hD hS (lv_sub hl [1] rfl)
    ·
      have hlt : i < 12 := lp_lt rfl (by decide) hi c_1
      refine lv_aload_n hx hb dX11_closeEdition_8 rfl (lv_at hl 1 rfl) ?_
      refine lv_iload_n hx hb dX11_closeEdition_9 rfl (lv_at hl 0 rfl) ?_
      obtain ⟨kk_2, hk_3⟩ := pl_at hI.2.1.1.1 hI.2.2.2.1.1
      refine vp_callSi (va_runV (As := [.int (nI i)]) (rest := []) ⟨hx, hb, hml, hown, hts⟩ (y_isFresh l dC dI q h0 d k z f hI (nI i) ui hrpi (by rw [hu1]; exact hk2) (by rw [hu1]; exact hk3)) (cwV 1 hts gX11_closeEdition_X11_isFresh rfl rfl rfl (by decide +kernel) ⟨Nat.le_trans (Nat.le_of_ble_eq_true rfl) hRf, Nat.le_trans (Nat.le_of_ble_eq_true rfl) hRl⟩) ⟨px_fb, va_recv hK hP (ci := 10) (q0 := kk_2) rfl hk_3, fun U hU hW => ⟨rfl, px_to hU hW hP hK hN hXN⟩⟩ rfl rfl hl.1 rfl (lv_room (Nat.le_of_ble_eq_true rfl)) dX11_closeEdition_10 ⟨hRc, hRs⟩).run (fun r hw => ?_)
      rcases hw with ⟨hw, hpp_10⟩ | ⟨hw, hpp_10, hbw_9, gp_4, bp_5, hp_6, hp_7, hp_8⟩
      ·
        subst hw
        refine lv_if_eq (tgt := 21) hx hb dX11_closeEdition_13 (by decide) (fun c_11 => ?_) (fun c_11 => absurd (by decide) c_11)
        refine lv_iinc (v := (nI (i + 1))) (lv' := [(1, .int (nI (i + 1))), (0, .ref h0)]) hx hb dX11_closeEdition_21 hl (k := 0) rfl (nI_1 i) (by decide) rfl (fun ls hl => ?_)
        refine lv_goto (tgt := 2) hx hb dX11_closeEdition_24 (by decide) ?_
        exact ih (i + 1) _ _ _ ls (by omega) (by omega) ⟨by show rep q d (if mNow (clE u i) (nI i) = true then wdP i (clE u i) 8 else clE u i) z _; rw [← eui, if_neg (fun h9 => hpp_10 ((frP_now (bw11 hlt) (rp_01 hrpi.2.1 _ (by rw [nI_clamp (by omega)]; exact hlt))).mpr h9))]; exact hrpi, hg.2⟩ hI hP hD hS (lv_sub hl [0, 1] rfl)
      ·
        subst hw
        refine lv_if_eq (tgt := 21) hx hb dX11_closeEdition_13 (by decide) (fun c_12 => absurd c_12 (by decide)) (fun c_12 => ?_)
        refine lv_aload_n hx hb dX11_closeEdition_16 rfl (lv_at hl 1 rfl) ?_
        refine lv_iload_n hx hb dX11_closeEdition_17 rfl (lv_at hl 0 rfl) ?_
        obtain ⟨kk_13, hk_14⟩ := pl_at hI.2.1.1.1 hI.2.2.2.1.1
        have hFc := fr_all hD hS hA
        refine va_callv (va_runV (As := [.int (nI i)]) (rest := []) ⟨hx, hb, hml, hown, hts⟩ (y_writeDown l dC dI q h0 d k z f hI i hlt ui hrpi (by rw [hu1]; exact hk0) (by rw [hu1]; exact hk1) (by rw [hu1]; exact hk2) (by rw [hu1]; exact hk3) (by have h9 := hpp_10.1.2; rw [nI_clamp (by omega)] at h9; exact h9) H.size) (cwV 1 hts gX11_closeEdition_X11_writeDown rfl rfl rfl (by decide +kernel) ⟨Nat.le_trans (Nat.le_of_ble_eq_true rfl) hRf, Nat.le_trans (Nat.le_of_ble_eq_true rfl) hRl⟩) ⟨gx_fb, va_recv hK hP (ci := 10) (q0 := kk_13) rfl hk_14, fun U hU hW => ⟨rfl, by rw [hU], px_to hU hW hP hK hN hXN, hD.weaken (fun _ _ _ _ => trivial)⟩⟩ rfl rfl hl.1 rfl (lv_room (Nat.le_of_ble_eq_true rfl)) dX11_closeEdition_18 ⟨hRc, hRs⟩) hS (fun q _ h => hFc q h) hFc (fun w_15 t H1 locs ht hvm hw hB hz1 hk1 hS => ?_)
        obtain ⟨hP, hD1⟩ := hB
        rw [ht] at hP
        rw [hw.2.1] at hP hD1
        have hD := hD1.weaken (fun _ q _ h => hFc q.1 h)
        have hI := hw.2.2.1
        have hw0 := hw
        generalize w_15.2.2 = f_16 at hP hD hI hw0
        generalize H1 = H at hP hS ⊢
        refine lv_iinc (v := (nI (i + 1))) (lv' := [(1, .int (nI (i + 1))), (0, .ref h0)]) hx hb dX11_closeEdition_21 hl (k := 0) rfl (nI_1 i) (by decide) rfl (fun ls hl => ?_)
        refine lv_goto (tgt := 2) hx hb dX11_closeEdition_24 (by decide) ?_
        exact ih (i + 1) _ _ _ ls (by omega) (by omega) ⟨by show rep q d (if mNow (clE u i) (nI i) = true then wdP i (clE u i) 8 else clE u i) z _; rw [← eui, if_pos ((frP_now (bw11 hlt) (rp_01 hrpi.2.1 _ (by rw [nI_clamp (by omega)]; exact hlt))).mp hpp_10)]; exact hw0.2.2.2.1, hw0.2.2.2.2.trans hg.2⟩ hI hP hD hS (lv_sub hl [0, 1] rfl)
set_option maxHeartbeats 4000000 in
set_option maxRecDepth 100000 in
theorem y_closeEdition (l : Launch) (dC : Nat → ClassId) (dI : Nat → Nat → Nat) (q : Nat → ClassId) (h0 : Nat) (d : Nat → Nat) (k : Nat → Int32) (z : gS) (f : xF) (hI : xI q h0 d k z f) (u : mS) (hrp : rep q d u z f) (hk0 : k 0 = u.1 3) (hk1 : k 1 = u.1 28) (hk2 : k 2 = u.1 38) (hk3 : k 3 = u.1 39) (sz : Nat) : Met l yX11_closeEdition wsX11_closeEdition ({ frames := 4, cells := 0, slots := 0, locals := 89 }) (va_Pc [.ref h0] (fun U => U.heap.size = sz ∧ PX dC dI (va_pl z.1 f) (xT q) U ∧ va_D (fun _ => True) (va_pl z.1 f))) (va_Qv (fun (w : xU) => w.1 = k ∧ w.2.1 = z ∧ xI q h0 d k z w.2.2 ∧ rep q d (clE u 12) z w.2.2 ∧ w.2.2 (d 3) = f (d 3)) (fun (w : xU) t => va_P (dC, dI) vwCl (va_pl w.2.1.1 w.2.2) t.heap ∧ va_D (va_A (va_pl z.1 f) sz) (va_pl w.2.1.1 w.2.2)) (va_A (va_pl z.1 f) sz)) 0 0 (va_A (va_pl z.1 f) sz) := by
  refine Met.ofW (cc := cX11_closeEdition) (maxL := 2) (ret := none) (by decide) rfl ?_
  intro p e s m args below meth c s₁ B hml hv
  obtain ⟨rfl, hsz, ⟨⟨hP, hK, hN⟩, hXN⟩, hD0⟩ := hv
  have hx := B.exec
  have hb := B.bytes
  have hr := B.returns
  have hts := atoms_spec (ws := wsX11_closeEdition) B.pre
  have hown : s.vm.findClass RX11 = some m.cls := findClass_of_methodNamed B.named
  have hlocks := B.notSynchronized
  subst hsz
  have hD := hD0.self (sz := s.heap.size)
  generalize hAe : va_A (va_pl z.1 f) s.heap.size = A at hD ⊢
  have hA : ∀ q : Nat, s.heap.size ≤ q → A q := fun q h => by rw [← hAe]; exact Or.inr h
  have hS : va_S A s.heap s.heap [] := va_S.rf
  have hl := lv_entry ([.ref h0]) (n := 2) (Nat.le_of_ble_eq_true rfl)
  rw [lg_entry_eq]
  generalize (lg_sl ([.ref h0]) ++ List.replicate (2 - (lg_sl ([.ref h0])).length) Slot.unset).toArray = ls at hl ⊢
  have hl : lv_has ls 2 [(0, .ref h0)] := hl
  refine lv_iconst (v := 0) hx hb dX11_closeEdition_0 (by decide) ?_
  refine lv_istore_n (lv' := [(1, .int 0), (0, .ref h0)]) hx hb dX11_closeEdition_1 rfl hl (by decide) rfl (fun ls hl => ?_)
  refine y_close_l (f0 := f) (u := u) hk0 hk1 hk2 hk3 hx hb hml hts hown hN hXN hK (Nat.le_of_ble_eq_true rfl) (Nat.le_of_ble_eq_true rfl) (Nat.le_of_ble_eq_true rfl) (Nat.le_of_ble_eq_true rfl) hA (fun f2 H locs ls hg hI hP hD hS hl => ?_) 13 0 _ _ _ ls (by decide) (by decide) ⟨hrp, rfl⟩ hI hP hD hS (lv_sub hl [0, 1] rfl)
  exact W.vret hx hb hr (fun t ht hW => ⟨⟨(k, z, f2), rfl, ⟨rfl, rfl, hI, hg.1, hg.2⟩, by rw [ht]; exact hP, hD⟩, hS.F ht⟩) hS.2.2 dX11_closeEdition_27
