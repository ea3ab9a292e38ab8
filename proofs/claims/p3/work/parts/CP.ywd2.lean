theorem wdU_1 (u : mS) (i : Nat) (p s : Int32) : (wdU u i p s).1 = u.1 := by
  unfold wdU
  show (if u.2 47 (5 * i) = (-1) then wdF u i p s 5 else u).1 = u.1
  split
  · exact wdF_1 u i p s 5
  · rfl
theorem wdU_k (u : mS) (i : Nat) (p s : Int32) {r : Nat} (h : r ≠ 47) (h2 : r ≠ 48) : (wdU u i p s).2 r = u.2 r := by
  unfold wdU
  rw [mst_other h2]
  split
  · exact wdF_k u i p s h 5
  · rfl
/-- one cell of a plate, written down -/
def wdS (p c l : Nat) (w : mS) : mS := if bw (w.2 44 (480 * p + (60 * c + l))) 0 (w.1 3 - 1) = true then wdU w (w.2 44 (480 * p + (60 * c + l))).toNatClampNeg (nI p) (nI (60 * c + l)) else w
def wdC (p c : Nat) (u : mS) : Nat → mS
  | 0 => u
  | l + 1 => wdS p c l (wdC p c u l)
def wdP (p : Nat) (u : mS) : Nat → mS
  | 0 => u
  | c + 1 => wdC p c (wdP p u c) (u.2 43 (8 * p + c)).toNatClampNeg
theorem wdS_1 (p c l : Nat) (w : mS) : (wdS p c l w).1 = w.1 := by
  unfold wdS; split
  · exact wdU_1 _ _ _ _
  · rfl
theorem wdS_k (p c l : Nat) (w : mS) {r : Nat} (h : r ≠ 47) (h2 : r ≠ 48) : (wdS p c l w).2 r = w.2 r := by
  unfold wdS; split
  · exact wdU_k _ _ _ _ h h2
  · rfl
theorem wdC_1 (p c : Nat) (u : mS) : ∀ l, (wdC p c u l).1 = u.1
  | 0 => rfl
  | l + 1 => (wdS_1 p c l _).trans (wdC_1 p c u l)
theorem wdC_k (p c : Nat) (u : mS) {r : Nat} (h : r ≠ 47) (h2 : r ≠ 48) : ∀ l, (wdC p c u l).2 r = u.2 r
  | 0 => rfl
  | l + 1 => (wdS_k p c l _ h h2).trans (wdC_k p c u h h2 l)
theorem wdP_1 (p : Nat) (u : mS) : ∀ c, (wdP p u c).1 = u.1
  | 0 => rfl
  | c + 1 => (wdC_1 p c _ _).trans (wdP_1 p u c)
theorem wdP_k (p : Nat) (u : mS) {r : Nat} (h : r ≠ 47) (h2 : r ≠ 48) : ∀ c, (wdP p u c).2 r = u.2 r
  | 0 => rfl
  | c + 1 => (wdC_k p c _ h h2 _).trans (wdP_k p u h h2 c)
/-- all that is told of plate p -/
theorem pl_all {q h0 d k z f u} (hI : xI q h0 d k z f) (h : rPl q d u z f) {p : Nat} (hp : p < 12) (h40 : u.2 40 p = 1) : ∃ (m : Int32) (gl gc : Nat → Int32) (g : Nat → Option Nat), f (d 1) = aR (q 2) 12 g ∧ g p = some (d (1000 + p)) ∧ tg z (d (1000 + p)) 7 ∧ tg z (d (1020 + p)) 8 ∧ tg z (d (1040 + p)) 9 ∧ f (d (1000 + p)) = .inr (8, [.ref (d (1020 + p)), .ref (d (1040 + p)), .int m, .int (u.2 41 p), .int (u.2 42 p)]) ∧ f (d (1020 + p)) = aI (q 0) 8 gl ∧ (∀ j, j < 8 → bw (gl j) 0 60 = true) ∧ f (d (1040 + p)) = aI (q 0) 480 gc ∧ eqR 8 gl (u.2 43) (8 * p) ∧ eqR 480 gc (u.2 44) (480 * p) := by
  obtain ⟨g, a1, a2⟩ := h
  rcases a2 p hp with ⟨b1, -⟩ | ⟨b1, b2, m1, m2, m3, m, s1, ⟨gl, s2, s3⟩, gc, s4, s5⟩
  · rw [h40] at b1; exact absurd b1 (by decide)
  · obtain ⟨g8, hs, hg⟩ := x_ln hI m2.1
    obtain rfl := (aI_inj (hs.symm.trans s2)).2
    exact ⟨m, g8, gc, g, a1, b2, m1.1, m2.1, m3.1, s1, s2, hg, s4, s3, s5⟩
theorem xPl_of {q h0 d k z f u} (hI : xI q h0 d k z f) (h : rPl q d u z f) {p : Nat} (hp : p < 12) (h40 : u.2 40 p = 1) : xPl q d z f (nI p) := by
  obtain ⟨m, gl, gc, g, a1, a2, a3, -⟩ := pl_all hI h hp h40
  exact ⟨bw11 hp, g, _, a1, by rw [nI_clamp (by omega)]; exact a2, a3⟩
set_option maxHeartbeats 4000000 in
set_option maxRecDepth 100000 in
theorem y_wd_in {p : Program} {l : Launch} {e : Env} {R : Room} {s : State} {m : MethodId} {args : Array Value} {below : List Frame} {meth : Method} {c : Code} {Q : State → Prop} {cells slots : Nat} {dC : Nat → ClassId} {dI : Nat → Nat → Nat} {q : Nat → ClassId} {h0 : Nat} {d : Nat → Nat} {k : Nat → Int32} {z : gS} {f0 : xF} {u : mS} (hk0 : k 0 = u.1 3) (hk1 : k 1 = u.1 28) (hk2 : k 2 = u.1 38) (hk3 : k 3 = u.1 39) {P c9 L9 : Nat} (hP9 : P < 12) (hc8 : c9 < 8) (h40 : u.2 40 P = 1) (eL : u.2 43 (8 * P + c9) = nI L9) (hL60 : L9 ≤ 60) {A : Nat → Prop} {H0 : Heap} (hx : p.tables.exec = Jvm.exec) (hb : c.code = cX11_writeDown) (hml : c.maxLocals = 6) (hts : ∀ w ∈ wsX11_writeDown, w.before args s = true) (hown : s.vm.findClass RX11 = some m.cls) (hN : NN s) (hXN : XN s) (hK : va_K (dC, dI) vwCl (xT q) s) (hRf : 3 ≤ R.frames) (hRl : 64 ≤ R.locals) (hRc : cells ≤ R.cells) (hRs : slots ≤ R.slots) (hA : ∀ q : Nat, H0.size ≤ q → A q) (kx67 : ∀ (f : xF) (H : Heap) (locs : List Loc) (ls : Array Slot), (rep q d (wdC P c9 u L9) z f ∧ f (d 3) = f0 (d 3)) → xI q h0 d k z f → va_P (dC, dI) vwCl (va_pl z.1 f) H → va_D A (va_pl z.1 f) → va_S A H0 H locs → lv_has ls 6 [(3, .int (nI c9)), (0, .ref h0), (1, .int (nI P)), (2, .ref (d (1000 + P)))] → W p l e R s m args below meth c H locs cells slots Q (F0 m 67 ls [])) : ∀ (kk i : Nat) (f : xF) (H : Heap) (locs : List Loc) (ls : Array Slot), i ≤ L9 → L9 - i < kk → (rep q d (wdC P c9 u i) z f ∧ f (d 3) = f0 (d 3)) → xI q h0 d k z f → va_P (dC, dI) vwCl (va_pl z.1 f) H → va_D A (va_pl z.1 f) → va_S A H0 H locs → lv_has ls 6 [(4, .int (nI i)), (3, .int (nI c9)), (0, .ref h0), (1, .int (nI P)), (2, .ref (d (1000 + P)))] → W p l e R s m args below meth c H locs cells slots Q (F0 m 18 ls []) := by
  intro kk
  induction kk with
  | zero => intro i f H locs ls h1 h2; exact absurd h2 (Nat.not_lt_zero _)
  | succ kk ih =>
    intro i f H locs ls hi hkk hg hI hP hD hS hl
    obtain ⟨ui, eui⟩ : ∃ y : mS, y = wdC P c9 u i := ⟨_, rfl⟩
    have hrpi : rep q d ui z f := by rw [eui]; exact hg.1
    have hu1 : ui.1 = u.1 := by rw [eui, wdC_1]
    have h40i : ui.2 40 P = 1 := by rw [eui, wdC_k _ _ _ (by decide) (by decide)]; exact h40
    have h43i : ui.2 43 = u.2 43 := by rw [eui, wdC_k _ _ _ (by decide) (by decide)]
    have hk1o := hk1
    obtain ⟨m_1, gl_2, gc_3, gp_4, hp_5, hp_6, ht_7, ht_8, ht_9, hs_10, hg_11, hgb_12, hc_13, el_14, ec_15⟩ := pl_all hI hrpi.2.1 hP9 h40i
    refine lv_iload hx hb dX11_writeDown_18 (lv_at hl 0 rfl) ?_
    refine lv_aload_n hx hb dX11_writeDown_20 rfl (lv_at hl 4 rfl) ?_
    obtain ⟨kk_16, hk_17⟩ := pl_at ht_7.1 hs_10
    refine va_get (D := (dC, dI)) (ci := 8) (v := .ref (d (1020 + P))) (C := RX9) (T := TX9) (N := 5) hx hb hts (by decide +kernel) hown hK hP kk_16 hk_17 rfl 0 (by decide) (hts (.fieldLink RX11 59 "PageOne$Sheet" "lines" "[I") (by decide +kernel)) (fun _ h9 => h9) rfl dX11_writeDown_21 ?_
    refine lv_iload_n hx hb dX11_writeDown_24 rfl (lv_at hl 1 rfl) ?_
    obtain ⟨kk_18, hk_19⟩ := pl_at ht_8.1 hg_11
    refine va_iald hx hb hK hP kk_18 0 hk_19 rfl (vp_in_nI hc8 (by decide)) dX11_writeDown_25 ?_
    refine lv_topi (fun y_20 ey_20 => ?_)
    obtain rfl : y_20 = (nI L9) := ey_20.trans ((by rw [nI_clamp (by omega), el_14 c9 hc8, h43i, eL]))
    refine lv_icmp_ge (tgt := 67) hx hb dX11_writeDown_26 (by decide) (fun c_21 => ?_) (fun c_21 => ?_)
    ·
      have hie : i = L9 := lp_eq rfl (by omega) hi c_21
      exact kx67 _ _ _ ls (by rw [hie] at hg; exact hg) hI hP hD hS (lv_sub hl [1, 2, 3, 4] rfl)
    ·
      have hlt : i < L9 := lp_lt rfl (by omega) hi c_21
      refine lv_aload_n hx hb dX11_writeDown_29 rfl (lv_at hl 2 rfl) ?_
      refine lv_aload_n hx hb dX11_writeDown_30 rfl (lv_at hl 4 rfl) ?_
      refine lv_iload_n hx hb dX11_writeDown_31 rfl (lv_at hl 1 rfl) ?_
      refine lv_iload hx hb dX11_writeDown_32 (lv_at hl 0 rfl) ?_
      obtain ⟨kk_22, hk_23⟩ := pl_at ht_7.1 hs_10
      refine vp_callSi (va_runV (As := [.int (nI c9), .int (nI i)]) (rest := [.ref h0]) ⟨hx, hb, hml, hown, hts⟩ (y_at l dC dI q h0 d k z f hI (d (1000 + P)) (d (1020 + P)) (d (1040 + P)) m_1 (ui.2 41 P) (ui.2 42 P) gl_2 gc_3 ht_7 hs_10 ht_8 ht_9 hg_11 hgb_12 hc_13 (nI c9) (nI i)) (cwV 2 hts gX11_writeDown_X9_at rfl rfl rfl (by decide +kernel) ⟨Nat.le_trans (Nat.le_of_ble_eq_true rfl) hRf, Nat.le_trans (Nat.le_of_ble_eq_true rfl) hRl⟩) ⟨px_fb, va_recv hK hP (ci := 8) (q0 := kk_22) rfl hk_23, fun U hU hW => ⟨rfl, px_to hU hW hP hK hN hXN⟩⟩ rfl rfl hl.1 rfl (lv_room (Nat.le_of_ble_eq_true rfl)) dX11_writeDown_34 ⟨hRc, hRs⟩).run (fun r hw => ?_)
      generalize r = zr_24 at hw ⊢
      have hzr_24 := hw
      obtain ⟨kk_25, hk_26⟩ := pl_at hI.2.1.1.1 hI.2.2.2.1.1
      refine va_csq (va_runV (As := [.int zr_24]) (rest := []) ⟨hx, hb, hml, hown, hts⟩ (y_itemOf l dC dI q h0 d k z f hI zr_24 ui hrpi (by rw [hu1]; exact hk0) (by rw [hu1]; exact hk1) (by rw [hu1]; exact hk2) (by rw [hu1]; exact hk3)) (cwV 1 hts gX11_writeDown_X11_itemOf rfl rfl rfl (by decide +kernel) ⟨Nat.le_trans (Nat.le_of_ble_eq_true rfl) hRf, Nat.le_trans (Nat.le_of_ble_eq_true rfl) hRl⟩) ⟨px_fb, va_recv hK hP (ci := 10) (q0 := kk_25) rfl hk_26, fun U hU hW => ⟨rfl, px_to hU hW hP hK hN hXN⟩⟩ rfl rfl hl.1 rfl (lv_room (Nat.le_of_ble_eq_true rfl)) dX11_writeDown_37 ⟨hRc, hRs⟩).run (fun r hw => ?_)
      rcases hw with ⟨hr9, hn9⟩ | ⟨j9, hj9, ep9, hr9⟩
      ·
        subst hr9
        refine W.eq (g2 := F0 m 40 ls [.null]) rfl ?_
        refine lv_astoreN (lv' := [(5, .null), (4, .int (nI i)), (3, .int (nI c9)), (0, .ref h0), (1, .int (nI P)), (2, .ref (d (1000 + P)))]) hx hb dX11_writeDown_40 hl (by decide) rfl (fun ls hl => ?_)
        refine lv_aloadN hx hb dX11_writeDown_42 (lv_at hl 0 rfl) ?_
        refine lv_ifnullN (tgt := 61) hx hb dX11_writeDown_44 (by decide) ?_
        refine lv_iinc (v := (nI (i + 1))) (lv' := [(4, .int (nI (i + 1))), (5, .null), (3, .int (nI c9)), (0, .ref h0), (1, .int (nI P)), (2, .ref (d (1000 + P)))]) hx hb dX11_writeDown_61 hl (k := 1) rfl (nI_1 i) (by decide) rfl (fun ls hl => ?_)
        refine lv_goto (tgt := 18) hx hb dX11_writeDown_64 (by decide) ?_
        exact ih (i + 1) _ _ _ ls (by omega) (by omega) ⟨by show rep q d (wdS P c9 i (wdC P c9 u i)) z _; rw [← eui]; unfold wdS; rw [if_neg (by rw [← (hzr_24.trans (shAt_in hP9 el_14 ec_15 hgb_12 hc8 (by rw [h43i, eL, nI_clamp (by omega)]; exact hlt)).1)]; exact hn9)]; exact hrpi, hg.2⟩ hI hP hD hS (lv_sub hl [0, 2, 3, 4, 5] rfl)
      ·
        subst hr9
        have hitj := rI_itm hrpi.2.2.1 hj9
        refine W.eq (g2 := F0 m 40 ls [.ref (d (2000 + j9))]) rfl ?_
        refine lv_astore (lv' := [(5, .ref (d (2000 + j9))), (4, .int (nI i)), (3, .int (nI c9)), (0, .ref h0), (1, .int (nI P)), (2, .ref (d (1000 + P)))]) hx hb dX11_writeDown_40 hl (by decide) rfl (fun ls hl => ?_)
        refine lv_aload hx hb dX11_writeDown_42 (lv_at hl 0 rfl) ?_
        refine lv_ifnull hx hb dX11_writeDown_44 ?_
        refine lv_aload_n hx hb dX11_writeDown_47 rfl (lv_at hl 3 rfl) ?_
        refine lv_aload hx hb dX11_writeDown_48 (lv_at hl 0 rfl) ?_
        refine lv_iload_n hx hb dX11_writeDown_50 rfl (lv_at hl 4 rfl) ?_
        refine lv_iload_n hx hb dX11_writeDown_51 rfl (lv_at hl 2 rfl) ?_
        refine lv_bipush (v := 60) hx hb dX11_writeDown_52 (by decide) ?_
        refine lv_imul hx hb dX11_writeDown_54 ?_
        refine lv_iload hx hb dX11_writeDown_55 (lv_at hl 1 rfl) ?_
        refine lv_iadd hx hb dX11_writeDown_57 ?_
        refine lv_topi (fun y_27 ey_27 => ?_)
        obtain rfl : y_27 = (nI (60 * c9 + i)) := ey_27.trans ((by rw [show (60 : Int32) = nI 60 from rfl, pk_mul, nI_add, Nat.mul_comm]))
        obtain ⟨kk_28, hk_29⟩ := pl_at hI.2.1.1.1 hI.2.2.2.1.1
        have hFc := fr_all hD hS hA
        refine va_callv (va_runV (As := [.ref (d (2000 + j9)), .int (nI P), .int (nI (60 * c9 + i))]) (rest := []) ⟨hx, hb, hml, hown, hts⟩ (y_writeDownItem l dC dI q h0 d k z f hI (nI P) (nI (60 * c9 + i)) ui hrpi (by rw [hu1]; exact hk0) (by rw [hu1]; exact hk1) (by rw [hu1]; exact hk2) (by rw [hu1]; exact hk3) (xPl_of hI hrpi.2.1 hP9 h40i) j9 hj9 H.size) (cwV 3 hts gX11_writeDown_X11_writeDownItem rfl rfl rfl (by decide +kernel) ⟨Nat.le_trans (Nat.le_of_ble_eq_true rfl) hRf, Nat.le_trans (Nat.le_of_ble_eq_true rfl) hRl⟩) ⟨gx_fb, va_recv hK hP (ci := 10) (q0 := kk_28) rfl hk_29, fun U hU hW => ⟨rfl, by rw [hU], px_to hU hW hP hK hN hXN, hD.weaken (fun _ _ _ _ => trivial)⟩⟩ rfl rfl hl.1 rfl (lv_room (Nat.le_of_ble_eq_true rfl)) dX11_writeDown_58 ⟨hRc, hRs⟩) hS (fun q _ h => hFc q h) hFc (fun w_30 t H1 locs ht hvm hw hB hz1 hk1 hS => ?_)
        obtain ⟨hP, hD1⟩ := hB
        rw [ht] at hP
        rw [hw.2.1] at hP hD1
        have hD := hD1.weaken (fun _ q _ h => hFc q.1 h)
        have hI := hw.2.2.1
        have hw0 := hw
        generalize w_30.2.2 = f_31 at hP hD hI hw0
        generalize H1 = H at hP hS ⊢
        refine lv_iinc (v := (nI (i + 1))) (lv' := [(4, .int (nI (i + 1))), (5, .ref (d (2000 + j9))), (3, .int (nI c9)), (0, .ref h0), (1, .int (nI P)), (2, .ref (d (1000 + P)))]) hx hb dX11_writeDown_61 hl (k := 1) rfl (nI_1 i) (by decide) rfl (fun ls hl => ?_)
        refine lv_goto (tgt := 18) hx hb dX11_writeDown_64 (by decide) ?_
        exact ih (i + 1) _ _ _ ls (by omega) (by omega) ⟨by show rep q d (wdS P c9 i (wdC P c9 u i)) z _; have hv9 := (hzr_24.trans (shAt_in hP9 el_14 ec_15 hgb_12 hc8 (by rw [h43i, eL, nI_clamp (by omega)]; exact hlt)).1); rw [← eui]; unfold wdS; rw [← hv9, ep9, if_pos (bw_it (by rw [hu1, ← hk0]; exact hI.1.1) hj9).1, nI_clamp (by have := w80i (u := ui) hI.1.1 (by rw [hu1]; exact hk0); omega)]; exact hw0.2.2.2.1, hw0.2.2.2.2.trans hg.2⟩ hI hP hD hS (lv_sub hl [0, 2, 3, 4, 5] rfl)
