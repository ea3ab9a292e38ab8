/-- a head that stands over its story -/
def soC (u : mS) (i P X Y N c : Nat) : Prop := mCellAt u (nI P) (nI (X + c)) (nI Y + nI N) = u.2 9 i
def soP (u : mS) (i : Nat) : Prop := ¬ u.2 22 i ≤ 0 ∧ ∃ P X Y D N, pR u i ((u.2 22 i).toNatClampNeg - 1) 0 = nI P ∧ pR u i ((u.2 22 i).toNatClampNeg - 1) 1 = nI X ∧ pR u i ((u.2 22 i).toNatClampNeg - 1) 2 = nI Y ∧ pR u i ((u.2 22 i).toNatClampNeg - 1) 3 = nI D ∧ pR u i ((u.2 22 i).toNatClampNeg - 1) 4 = nI N ∧ rIn u P X Y D N ∧ ∃ c, c < D ∧ soC u i P X Y N c
theorem so_n {u : mS} {i P X Y D N : Nat} (h : rIn u P X Y D N) (s0 : pR u i ((u.2 22 i).toNatClampNeg - 1) 0 = nI P) (s1 : pR u i ((u.2 22 i).toNatClampNeg - 1) 1 = nI X) (s2 : pR u i ((u.2 22 i).toNatClampNeg - 1) 2 = nI Y) (s3 : pR u i ((u.2 22 i).toNatClampNeg - 1) 3 = nI D) (s4 : pR u i ((u.2 22 i).toNatClampNeg - 1) 4 = nI N) (hn : ∀ c, c < D → ¬ soC u i P X Y N c) : ¬ soP u i := by
  rintro ⟨-, P2, X2, Y2, D2, N2, t0, t1, t2, t3, t4, h2, c, hc, hs⟩
  obtain ⟨a1, a2, a3, a4, a5, -⟩ := h
  obtain ⟨b1, b2, b3, b4, b5, -⟩ := h2
  have e0 := nI_inj2 (by omega) (by omega) (s0.symm.trans t0)
  have e1 := nI_inj2 (by omega) (by omega) (s1.symm.trans t1)
  have e2 := nI_inj2 (by omega) (by omega) (s2.symm.trans t2)
  have e3 := nI_inj2 (by omega) (by omega) (s3.symm.trans t3)
  have e4 := nI_inj2 (by omega) (by omega) (s4.symm.trans t4)
  subst e0 e1 e2 e3 e4
  exact hn c hc hs
def faP (u : mS) (i : Nat) (kd : Int32) : Prop := (kd = 4 ∧ u.2 4 i = 0 ∧ s_standing (u.2 22 i) (pR u i) < u.2 5 i) ∨ (¬ kd = 4 ∧ u.2 4 i = 1 ∧ ¬ soP u i)
set_option maxHeartbeats 4000000 in
set_option maxRecDepth 100000 in
theorem y_over_l {p : Program} {l : Launch} {e : Env} {R : Room} {s : State} {m : MethodId} {args : Array Value} {below : List Frame} {meth : Method} {c : Code} {Q : State → Prop} {cells slots : Nat} {dC : Nat → ClassId} {dI : Nat → Nat → Nat} {q : Nat → ClassId} {h0 : Nat} {d : Nat → Nat} {k : Nat → Int32} {z : gS} {f : xF} {H : Heap} {locs : List Loc} (hI : xI q h0 d k z f) (hx : p.tables.exec = Jvm.exec) (hb : c.code = cX11_standsOverStory) (hml : c.maxLocals = 4) (hts : ∀ w ∈ wsX11_standsOverStory, w.before args s = true) (hown : s.vm.findClass RX11 = some m.cls) (hN : NN s) (hXN : XN s) (hK : va_K (dC, dI) vwCl (xT q) s) (hRf : 3 ≤ R.frames) (hRl : 64 ≤ R.locals) (hRc : cells ≤ R.cells) (hRs : slots ≤ R.slots) (hP : va_P (dC, dI) vwCl (va_pl z.1 f) H) {u : mS} (hrp : rep q d u z f) (hk0 : k 0 = u.1 3) {i0 : Nat} (hi0 : i0 < (u.1 3).toNatClampNeg) (hkd : u.2 4 i0 = 1) {b9 P X Y D N : Nat} (hpcx : pcS z b9 (some (d (2000 + i0))) (nI P) (nI X) (nI Y) (nI D) (nI N)) (hP9 : P < 12) (hX : X + D ≤ 8) (hD1 : 1 ≤ D) (hY : Y + N ≤ 60) (kx69 : ∀ (ls : Array Slot), (∀ j, j < D → ¬ soC u i0 P X Y N j) → lv_has ls 4 [(0, .ref h0), (1, .ref (d (2000 + i0))), (2, .ref b9)] → W p l e R s m args below meth c H locs cells slots Q (F0 m 69 ls [])) (kx61 : ∀ (ls : Array Slot), (∃ j, j < D ∧ soC u i0 P X Y N j) → lv_has ls 4 [(0, .ref h0), (1, .ref (d (2000 + i0))), (2, .ref b9)] → W p l e R s m args below meth c H locs cells slots Q (F0 m 61 ls [])) : ∀ (kk i : Nat) (ls : Array Slot), i ≤ D → D - i < kk → (∀ j, j < i → ¬ soC u i0 P X Y N j) → lv_has ls 4 [(3, .int (nI (X + i))), (0, .ref h0), (1, .ref (d (2000 + i0))), (2, .ref b9)] → W p l e R s m args below meth c H locs cells slots Q (F0 m 16 ls []) := by
  intro kk
  induction kk with
  | zero => intro i ls h1 h2; exact absurd h2 (Nat.not_lt_zero _)
  | succ kk ih =>
    intro i ls hi hkk hg hl
    obtain ⟨rs_1, n_2, g_3, fg_4, hit_5, hs_6, hpa_7, hps_8, h1_9, h6_10, hcb_11, hpl_12, hlg_13, hnn_14, hfa_15, hfs_16, hfe_17, hrs_18, hkt_19⟩ := it_all hI hrp.2.2.1 hi0
    have ht_20 : tg z (d (2000 + i0)) 11 := ⟨hit_5.1, by rw [hkt_19, hkd]; rfl⟩
    obtain ⟨o9, hx_22, hx_23, hx_24, hx_25⟩ := hrs_18.2.1 hkd
    have hs_21 : f (d (2000 + i0)) = .inr (3, [.int (nI i0), .int (u.2 4 i0), .ref (d (3000 + i0)), .int (u.2 22 i0), .ref (d (4000 + i0)), .ref (d (2000 + o9)), .int (u.2 7 i0), .int (u.2 8 i0)]) := by rw [hs_6, ht_20.2, hx_25]; rfl
    obtain ⟨rs_31, n_32, g_33, fg_34, hit_35, hs_36, hpa_37, hps_38, h1_39, h6_40, hcb_41, hpl_42, hlg_43, hnn_44, hfa_45, hfs_46, hfe_47, hrs_48, hkt_49⟩ := it_all hI hrp.2.2.1 hx_22
    have hlgb := lg_of hpcx ⟨b7n (by omega), b60n (by omega), bwN (by have e8 : (8 : Int32).toInt = 8 := rfl; rw [e8]; omega) (by omega), b60n (by omega)⟩
    refine lv_iload_n hx hb dX11_standsOverStory_16 rfl (lv_at hl 0 rfl) ?_
    refine lv_aload_n hx hb dX11_standsOverStory_17 rfl (lv_at hl 3 rfl) ?_
    obtain ⟨kk_50, hk_51⟩ := pl_at hpcx.1.1 (x_pcF hI hpcx)
    refine va_get (D := (dC, dI)) (ci := 7) (v := .int (nI X)) (C := RX8) (T := TX8) (N := 6) hx hb hts (by decide +kernel) hown hK hP kk_50 hk_51 rfl 2 (by decide) (hts (.fieldLink RX11 232 "PageOne$Piece" "column" "I") (by decide +kernel)) (fun _ h9 => h9) rfl dX11_standsOverStory_18 ?_
    refine lv_aload_n hx hb dX11_standsOverStory_21 rfl (lv_at hl 3 rfl) ?_
    obtain ⟨kk_52, hk_53⟩ := pl_at hpcx.1.1 (x_pcF hI hpcx)
    refine va_get (D := (dC, dI)) (ci := 7) (v := .int (nI D)) (C := RX8) (T := TX8) (N := 6) hx hb hts (by decide +kernel) hown hK hP kk_52 hk_53 rfl 4 (by decide) (hts (.fieldLink RX11 238 "PageOne$Piece" "w" "I") (by decide +kernel)) (fun _ h9 => h9) rfl dX11_standsOverStory_22 ?_
    refine lv_iadd hx hb dX11_standsOverStory_25 ?_
    refine lv_icmp_ge (tgt := 69) hx hb dX11_standsOverStory_26 (by decide) (fun c_54 => ?_) (fun c_54 => ?_)
    ·
      have hie : i = D := by have := lp_eq (nI_add X D) (by omega) (by omega) c_54; omega
      exact kx69 ls (by rw [← hie]; exact hg) (lv_sub hl [1, 2, 3] rfl)
    ·
      have hlt : i < D := by have := lp_lt (nI_add X D) (by omega) (by omega) c_54; omega
      refine lv_aload_n hx hb dX11_standsOverStory_29 rfl (lv_at hl 1 rfl) ?_
      obtain ⟨kk_55, hk_56⟩ := pl_at hI.2.1.1.1 hI.2.2.2.1.1
      refine va_get (D := (dC, dI)) (ci := 10) (v := .ref (d 0)) (C := RX11) (T := TX11) (N := 9) hx hb hts (by decide +kernel) hown hK hP kk_55 hk_56 rfl 0 (by decide) (hts (.fieldLink RX11 11 "PageOne" "pages" "[LPageOne$Sheet;") (by decide +kernel)) (fun _ h9 => h9) rfl dX11_standsOverStory_30 ?_
      refine lv_aload_n hx hb dX11_standsOverStory_33 rfl (lv_at hl 3 rfl) ?_
      obtain ⟨kk_57, hk_58⟩ := pl_at hpcx.1.1 (x_pcF hI hpcx)
      refine va_get (D := (dC, dI)) (ci := 7) (v := .int (nI P)) (C := RX8) (T := TX8) (N := 6) hx hb hts (by decide +kernel) hown hK hP kk_57 hk_58 rfl 1 (by decide) (hts (.fieldLink RX11 229 "PageOne$Piece" "page" "I") (by decide +kernel)) (fun _ h9 => h9) rfl dX11_standsOverStory_34 ?_
      obtain ⟨g_59, hs_60, hg_61⟩ := x_pg hI hI.2.1.2.1
      obtain ⟨kk_62, hk_63⟩ := pl_at hI.2.1.2.1.1 hs_60
      refine va_aldq hx hb hK hP kk_62 2 hk_63 rfl (vp_in_nI hP9 (by decide)) dX11_standsOverStory_37 ?_
      obtain ⟨b_64, hg_65, ht_66⟩ := hg_61 _ (vlt (vp_in_nI hP9 (by decide)))
      rw [hg_65]
      refine W.eq (g2 := F0 m 38 ls [.ref b_64]) rfl ?_
      have hb_67 := pg_at hrp.1 hs_60 hP9 (by rw [nI_clamp (by omega)] at hg_65; exact hg_65)
      subst hb_67
      obtain ⟨dd_68, ii_69, gl_70, gc_71, ht_72, ht_73, ht_74, hs_75, hg_76, hgb_77, hc_78, el_79, ec_80⟩ := pg_all hI hrp.1 hP9
      refine lv_iload_n hx hb dX11_standsOverStory_38 rfl (lv_at hl 0 rfl) ?_
      refine lv_aload_n hx hb dX11_standsOverStory_39 rfl (lv_at hl 3 rfl) ?_
      obtain ⟨kk_81, hk_82⟩ := pl_at hpcx.1.1 (x_pcF hI hpcx)
      refine va_get (D := (dC, dI)) (ci := 7) (v := .int (nI Y)) (C := RX8) (T := TX8) (N := 6) hx hb hts (by decide +kernel) hown hK hP kk_81 hk_82 rfl 3 (by decide) (hts (.fieldLink RX11 235 "PageOne$Piece" "line" "I") (by decide +kernel)) (fun _ h9 => h9) rfl dX11_standsOverStory_40 ?_
      refine lv_aload_n hx hb dX11_standsOverStory_43 rfl (lv_at hl 3 rfl) ?_
      obtain ⟨kk_83, hk_84⟩ := pl_at hpcx.1.1 (x_pcF hI hpcx)
      refine va_get (D := (dC, dI)) (ci := 7) (v := .int (nI N)) (C := RX8) (T := TX8) (N := 6) hx hb hts (by decide +kernel) hown hK hP kk_83 hk_84 rfl 5 (by decide) (hts (.fieldLink RX11 241 "PageOne$Piece" "h" "I") (by decide +kernel)) (fun _ h9 => h9) rfl dX11_standsOverStory_44 ?_
      refine lv_iadd hx hb dX11_standsOverStory_47 ?_
      obtain ⟨kk_85, hk_86⟩ := pl_at ht_72.1 hs_75
      refine vp_callSi (va_runV (As := [.int (nI (X + i)), .int ((nI Y) + (nI N))]) (rest := []) ⟨hx, hb, hml, hown, hts⟩ (y_at l dC dI q h0 d k z f hI (d (10 + P)) (d (30 + P)) (d (50 + P)) (u.2 1 P) dd_68 ii_69 gl_70 gc_71 ht_72 hs_75 ht_73 ht_74 hg_76 hgb_77 hc_78 (nI (X + i)) ((nI Y) + (nI N))) (cwV 2 hts gX11_standsOverStory_X9_at rfl rfl rfl (by decide +kernel) ⟨Nat.le_trans (Nat.le_of_ble_eq_true rfl) hRf, Nat.le_trans (Nat.le_of_ble_eq_true rfl) hRl⟩) ⟨px_fb, va_recv hK hP (ci := 8) (q0 := kk_85) rfl hk_86, fun U hU hW => ⟨rfl, px_to hU hW hP hK hN hXN⟩⟩ rfl rfl hl.1 rfl (lv_room (Nat.le_of_ble_eq_true rfl)) dX11_standsOverStory_48 ⟨hRc, hRs⟩).run (fun r hw => ?_)
      generalize r = zr_87 at hw ⊢
      have hzr_87 := hw
      refine lv_aload_n hx hb dX11_standsOverStory_51 rfl (lv_at hl 2 rfl) ?_
      obtain ⟨kk_88, hk_89⟩ := pl_at ht_20.1 hs_21
      refine va_get (D := (dC, dI)) (ci := 3) (v := .ref (d (2000 + o9))) (C := RX3) (T := TX3) (N := 8) hx hb hts (by decide +kernel) hown hK hP kk_88 hk_89 rfl 5 (by decide) (hts (.fieldLink RX11 292 "PageOne$Head" "owner" "LPageOne$Story;") (by decide +kernel)) (fun _ h9 => h9) rfl dX11_standsOverStory_52 ?_
      obtain ⟨kk_90, hk_91⟩ := pl_at hit_35.1 hs_36
      refine w_then (F0 m 58 ls [.int (nI o9), .int zr_87]) (fun hgo => ?_) ?_
      ·
        rcases x_tag hit_35 with ht9 | ht9 | ht9 | ht9 | ht9 | ht9
        ·
          rw [ht9.2] at hk_91
          exact va_get (D := (dC, dI)) (ci := 2) (v := .int (nI o9)) (C := RX2) (T := TX2) (N := 7) hx hb hts (by decide +kernel) hown hK hP kk_90 hk_91 rfl 0 (by decide) (hts (.fieldLink RX11 296 "PageOne$Story" "number" "I") (by decide +kernel)) (fun x9 h9 => u_same (hts (.sameField "PageOne$Story" "PageOne$Item" "number" "I") (by decide +kernel)) x9 h9) rfl dX11_standsOverStory_55 hgo
        ·
          rw [ht9.2] at hk_91
          exact va_get (D := (dC, dI)) (ci := 3) (v := .int (nI o9)) (C := RX3) (T := TX3) (N := 8) hx hb hts (by decide +kernel) hown hK hP kk_90 hk_91 rfl 0 (by decide) (hts (.fieldLink RX11 296 "PageOne$Story" "number" "I") (by decide +kernel)) (fun x9 h9 => u_same (hts (.sameField "PageOne$Story" "PageOne$Item" "number" "I") (by decide +kernel)) x9 h9) rfl dX11_standsOverStory_55 hgo
        ·
          rw [ht9.2] at hk_91
          exact va_get (D := (dC, dI)) (ci := 4) (v := .int (nI o9)) (C := RX5) (T := TX5) (N := 7) hx hb hts (by decide +kernel) hown hK hP kk_90 hk_91 rfl 0 (by decide) (hts (.fieldLink RX11 296 "PageOne$Story" "number" "I") (by decide +kernel)) (fun x9 h9 => u_same (hts (.sameField "PageOne$Story" "PageOne$Item" "number" "I") (by decide +kernel)) x9 h9) rfl dX11_standsOverStory_55 hgo
        ·
          rw [ht9.2] at hk_91
          exact va_get (D := (dC, dI)) (ci := 5) (v := .int (nI o9)) (C := RX6) (T := TX6) (N := 9) hx hb hts (by decide +kernel) hown hK hP kk_90 hk_91 rfl 0 (by decide) (hts (.fieldLink RX11 296 "PageOne$Story" "number" "I") (by decide +kernel)) (fun x9 h9 => u_same (hts (.sameField "PageOne$Story" "PageOne$Item" "number" "I") (by decide +kernel)) x9 h9) rfl dX11_standsOverStory_55 hgo
        ·
          rw [ht9.2] at hk_91
          exact va_get (D := (dC, dI)) (ci := 6) (v := .int (nI o9)) (C := RX7) (T := TX7) (N := 8) hx hb hts (by decide +kernel) hown hK hP kk_90 hk_91 rfl 0 (by decide) (hts (.fieldLink RX11 296 "PageOne$Story" "number" "I") (by decide +kernel)) (fun x9 h9 => u_same (hts (.sameField "PageOne$Story" "PageOne$Item" "number" "I") (by decide +kernel)) x9 h9) rfl dX11_standsOverStory_55 hgo
        ·
          rw [ht9.2] at hk_91
          exact va_get (D := (dC, dI)) (ci := 9) (v := .int (nI o9)) (C := RX10) (T := TX10) (N := 9) hx hb hts (by decide +kernel) hown hK hP kk_90 hk_91 rfl 0 (by decide) (hts (.fieldLink RX11 296 "PageOne$Story" "number" "I") (by decide +kernel)) (fun x9 h9 => u_same (hts (.sameField "PageOne$Story" "PageOne$Item" "number" "I") (by decide +kernel)) x9 h9) rfl dX11_standsOverStory_55 hgo
      ·
        refine lv_icmp_ne (tgt := 63) hx hb dX11_standsOverStory_58 (by decide) (fun c_92 => ?_) (fun c_92 => ?_)
        ·
          refine lv_iinc (v := (nI (X + i + 1))) (lv' := [(3, .int (nI (X + i + 1))), (0, .ref h0), (1, .ref (d (2000 + i0))), (2, .ref b9)]) hx hb dX11_standsOverStory_63 hl (k := 0) rfl (nI_1 _) (by decide) rfl (fun ls hl => ?_)
          refine lv_goto (tgt := 16) hx hb dX11_standsOverStory_66 (by decide) ?_
          exact ih (i + 1) ls (by omega) (by omega) (fun j hj => by rcases Nat.lt_succ_iff_lt_or_eq.mp hj with h9 | h9; exact hg j h9; rw [h9]; exact fun h8 => c_92 ((hzr_87.trans ((shAt_eq hP9 el_79 ec_80 hgb_77 _ _).trans h8)).trans hx_23)) (lv_sub hl [0, 1, 2, 3] rfl)
        ·
          exact kx61 ls ⟨i, hlt, ((shAt_eq hP9 el_79 ec_80 hgb_77 _ _).symm.trans (hzr_87.symm.trans c_92)).trans hx_23.symm⟩ (lv_sub hl [1, 2, 3] rfl)
set_option maxHeartbeats 4000000 in
set_option maxRecDepth 100000 in
theorem y_standsOverStory (l : Launch) (dC : Nat → ClassId) (dI : Nat → Nat → Nat) (q : Nat → ClassId) (h0 : Nat) (d : Nat → Nat) (k : Nat → Int32) (z : gS) (f : xF) (hI : xI q h0 d k z f) (u : mS) (hrp : rep q d u z f) (hk0 : k 0 = u.1 3) (hk1 : k 1 = u.1 28) (hk2 : k 2 = u.1 38) (hk3 : k 3 = u.1 39) (hpcI : pcI u) (i0 : Nat) (hi0 : i0 < (u.1 3).toNatClampNeg) (hkd : u.2 4 i0 = 1) : Met l yX11_standsOverStory wsX11_standsOverStory ({ frames := 3, cells := 0, slots := 0, locals := 64 }) (va_Pc [.ref h0, .ref (d (2000 + i0))] (PX dC dI (va_pl z.1 f) (xT q))) (vp_Si (fun r => r = bP (soP u i0))) 0 0 (fun _ => False) := by
  refine Met.ofW (cc := cX11_standsOverStory) (maxL := 4) (ret := (some .boolean)) (by decide) rfl ?_
  intro p e s m args below meth c s₁ B hml hv
  obtain ⟨rfl, ⟨hP, hK, hN⟩, hXN⟩ := hv
  have hx := B.exec
  have hb := B.bytes
  have hr := B.returns
  have hts := atoms_spec (ws := wsX11_standsOverStory) B.pre
  have hown : s.vm.findClass RX11 = some m.cls := findClass_of_methodNamed B.named
  have hlocks := B.notSynchronized
  have hl := lv_entry ([.ref h0, .ref (d (2000 + i0))]) (n := 4) (Nat.le_of_ble_eq_true rfl)
  rw [lg_entry_eq]
  generalize (lg_sl ([.ref h0, .ref (d (2000 + i0))]) ++ List.replicate (4 - (lg_sl ([.ref h0, .ref (d (2000 + i0))])).length) Slot.unset).toArray = ls at hl ⊢
  have hl : lv_has ls 4 [(0, .ref h0), (1, .ref (d (2000 + i0)))] := hl
  obtain ⟨rs_1, n_2, g_3, fg_4, hit_5, hs_6, hpa_7, hps_8, h1_9, h6_10, hcb_11, hpl_12, hlg_13, hnn_14, hfa_15, hfs_16, hfe_17, hrs_18, hkt_19⟩ := it_all hI hrp.2.2.1 hi0
  have ht_20 : tg z (d (2000 + i0)) 11 := ⟨hit_5.1, by rw [hkt_19, hkd]; rfl⟩
  obtain ⟨o9, hx_22, hx_23, hx_24, hx_25⟩ := hrs_18.2.1 hkd
  have hs_21 : f (d (2000 + i0)) = .inr (3, [.int (nI i0), .int (u.2 4 i0), .ref (d (3000 + i0)), .int (u.2 22 i0), .ref (d (4000 + i0)), .ref (d (2000 + o9)), .int (u.2 7 i0), .int (u.2 8 i0)]) := by rw [hs_6, ht_20.2, hx_25]; rfl
  refine lv_aload_n hx hb dX11_standsOverStory_0 rfl (lv_at hl 1 rfl) ?_
  obtain ⟨kk_31, hk_32⟩ := pl_at ht_20.1 hs_21
  refine va_csq (va_runU (As := []) (rest := []) ⟨hx, hb, hml, hown, hts⟩ (y_lastPiece l dC dI q h0 d k z f hI (d (2000 + i0)) hit_5 (nI i0) (u.2 4 i0) (u.2 22 i0) (d (3000 + i0)) (d (4000 + i0)) rs_1 hs_6 n_2 g_3 (pR u i0) hpa_7 hps_8 h1_9 h6_10 hcb_11 hpl_12) (va_cwU 0 hts gX11_standsOverStory_X4_lastPiece_u371X3 rfl rfl rfl rfl (by decide +kernel) ⟨Nat.le_of_ble_eq_true rfl, Nat.le_of_ble_eq_true rfl⟩) ⟨px_fb, va_recv hK hP (ci := 3) (q0 := kk_31) rfl hk_32, fun U hU hW => ⟨rfl, px_to hU hW hP hK hN hXN⟩⟩ rfl rfl hl.1 rfl (lv_room (Nat.le_of_ble_eq_true rfl)) dX11_standsOverStory_1 ⟨Nat.le_of_ble_eq_true rfl, Nat.le_of_ble_eq_true rfl⟩).run (fun r hw => ?_)
  rcases Classical.em (u.2 22 i0 ≤ 0) with hl0 | hl0
  ·
    obtain rfl : r = none := hw.trans (by unfold s_last; rw [if_pos hl0])
    refine W.eq (g2 := F0 m 4 ls [.null]) rfl ?_
    refine lv_astore_nN (lv' := [(2, .null), (0, .ref h0), (1, .ref (d (2000 + i0)))]) hx hb dX11_standsOverStory_4 rfl hl (by decide) rfl (fun ls hl => ?_)
    refine lv_aload_nN hx hb dX11_standsOverStory_5 rfl (lv_at hl 0 rfl) ?_
    refine lv_ifnonnullN hx hb dX11_standsOverStory_6 ?_
    refine lv_iconst (v := 0) hx hb dX11_standsOverStory_9 (by decide) ?_
    exact W.zret (v := 0) hx hb hr (by decide) (fun t ht hW => ⟨_, rfl, (bP_f (fun h9 => h9.1 hl0)).symm, ht⟩) (fun q h => absurd h List.not_mem_nil) dX11_standsOverStory_10
  ·
    obtain ⟨hpos, b9, P, X, Y, D, N, el9, hpcx, hrx, s0, s1, s2, s3, s4⟩ := last_all hI hrp hpcI hi0 hps_8 h6_10 hcb_11 hl0
    obtain rfl : r = some b9 := hw.trans el9
    refine W.eq (g2 := F0 m 4 ls [.ref b9]) rfl ?_
    have hrx9 := hrx
    obtain ⟨hP9, hX, hD1, hY, hN1, hin⟩ := hrx9
    have hlgb := lg_of hpcx ⟨b7n (by omega), b60n (by omega), bwN (by have e8 : (8 : Int32).toInt = 8 := rfl; rw [e8]; omega) (by omega), b60n (by omega)⟩
    refine lv_astore_n (lv' := [(2, .ref b9), (0, .ref h0), (1, .ref (d (2000 + i0)))]) hx hb dX11_standsOverStory_4 rfl hl (by decide) rfl (fun ls hl => ?_)
    refine lv_aload_n hx hb dX11_standsOverStory_5 rfl (lv_at hl 0 rfl) ?_
    refine lv_ifnonnull (tgt := 11) hx hb dX11_standsOverStory_6 (by decide) ?_
    refine lv_aload_n hx hb dX11_standsOverStory_11 rfl (lv_at hl 0 rfl) ?_
    obtain ⟨kk_33, hk_34⟩ := pl_at hpcx.1.1 (x_pcF hI hpcx)
    refine va_get (D := (dC, dI)) (ci := 7) (v := .int (nI X)) (C := RX8) (T := TX8) (N := 6) hx hb hts (by decide +kernel) hown hK hP kk_33 hk_34 rfl 2 (by decide) (hts (.fieldLink RX11 232 "PageOne$Piece" "column" "I") (by decide +kernel)) (fun _ h9 => h9) rfl dX11_standsOverStory_12 ?_
    refine lv_istore_n (lv' := [(3, .int (nI X)), (2, .ref b9), (0, .ref h0), (1, .ref (d (2000 + i0)))]) hx hb dX11_standsOverStory_15 rfl hl (by decide) rfl (fun ls hl => ?_)
    refine y_over_l hI hx hb hml hts hown hN hXN hK (Nat.le_of_ble_eq_true rfl) (Nat.le_of_ble_eq_true rfl) (Nat.le_of_ble_eq_true rfl) (Nat.le_of_ble_eq_true rfl) hP hrp hk0 hi0 hkd hpcx hP9 hX hD1 hY (fun ls hno hl => ?_) (fun ls hye hl => ?_) (D + 1) 0 ls (Nat.zero_le _) (by omega) (fun j hj => absurd hj (Nat.not_lt_zero _)) (lv_sub hl [0, 2, 3, 1] rfl)
    ·
      refine lv_iconst (v := 0) hx hb dX11_standsOverStory_69 (by decide) ?_
      exact W.zret (v := 0) hx hb hr (by decide) (fun t ht hW => ⟨_, rfl, (bP_f (so_n hrx s0 s1 s2 s3 s4 hno)).symm, ht⟩) (fun q h => absurd h List.not_mem_nil) dX11_standsOverStory_70
    ·
      refine lv_iconst (v := 1) hx hb dX11_standsOverStory_61 (by decide) ?_
      exact W.zret (v := 1) hx hb hr (by decide) (fun t ht hW => ⟨_, rfl, (bP_t ⟨hl0, P, X, Y, D, N, s0, s1, s2, s3, s4, hrx, hye⟩).symm, ht⟩) (fun q h => absurd h List.not_mem_nil) dX11_standsOverStory_62
set_option maxHeartbeats 4000000 in
set_option maxRecDepth 100000 in
theorem y_failsAlone (l : Launch) (dC : Nat → ClassId) (dI : Nat → Nat → Nat) (q : Nat → ClassId) (h0 : Nat) (d : Nat → Nat) (k : Nat → Int32) (z : gS) (f : xF) (hI : xI q h0 d k z f) (p0 : Int32) (u : mS) (hrp : rep q d u z f) (hk0 : k 0 = u.1 3) (hk1 : k 1 = u.1 28) (hk2 : k 2 = u.1 38) (hk3 : k 3 = u.1 39) (hpcI : pcI u) (i0 : Nat) (hi0 : i0 < (u.1 3).toNatClampNeg) : Met l yX11_failsAlone wsX11_failsAlone ({ frames := 4, cells := 0, slots := 0, locals := 87 }) (va_Pc [.ref h0, .ref (d (2000 + i0)), .int p0] (PX dC dI (va_pl z.1 f) (xT q))) (vp_Si (fun r => r = bP (faP u i0 p0))) 0 0 (fun _ => False) := by
  refine Met.ofW (cc := cX11_failsAlone) (maxL := 4) (ret := (some .boolean)) (by decide) rfl ?_
  intro p e s m args below meth c s₁ B hml hv
  obtain ⟨rfl, ⟨hP, hK, hN⟩, hXN⟩ := hv
  have hx := B.exec
  have hb := B.bytes
  have hr := B.returns
  have hts := atoms_spec (ws := wsX11_failsAlone) B.pre
  have hown : s.vm.findClass RX11 = some m.cls := findClass_of_methodNamed B.named
  have hlocks := B.notSynchronized
  have hl := lv_entry ([.ref h0, .ref (d (2000 + i0)), .int p0]) (n := 4) (Nat.le_of_ble_eq_true rfl)
  rw [lg_entry_eq]
  generalize (lg_sl ([.ref h0, .ref (d (2000 + i0)), .int p0]) ++ List.replicate (4 - (lg_sl ([.ref h0, .ref (d (2000 + i0)), .int p0])).length) Slot.unset).toArray = ls at hl ⊢
  have hl : lv_has ls 4 [(0, .ref h0), (1, .ref (d (2000 + i0))), (2, .int p0)] := hl
  obtain ⟨rs_1, n_2, g_3, fg_4, hit_5, hs_6, hpa_7, hps_8, h1_9, h6_10, hcb_11, hpl_12, hlg_13, hnn_14, hfa_15, hfs_16, hfe_17, hrs_18, hkt_19⟩ := it_all hI hrp.2.2.1 hi0
  refine lv_iload_n hx hb dX11_failsAlone_0 rfl (lv_at hl 2 rfl) ?_
  refine lv_iconst (v := 4) hx hb dX11_failsAlone_1 (by decide) ?_
  refine lv_icmp_ne (tgt := 34) hx hb dX11_failsAlone_2 (by decide) (fun c_20 => ?_) (fun c_20 => ?_)
  ·
    refine lv_aload_n hx hb dX11_failsAlone_34 rfl (lv_at hl 1 rfl) ?_
    rcases Classical.em (tg z (d (2000 + i0)) 11) with ht9 | ht9
    ·
      have ht_21 := ht9
      have hkd_23 : u.2 4 i0 = 1 := (kT_k (kd_05 hrp.2.2.1 hi0).1 (kd_05 hrp.2.2.1 hi0).2).2.1 (hkt_19.symm.trans ht_21.2)
      obtain ⟨o_44, hx_34, hx_35, hx_36, hx_37⟩ := hrs_18.2.1 hkd_23
      have hs_43 : f (d (2000 + i0)) = .inr (3, [.int (nI i0), .int (u.2 4 i0), .ref (d (3000 + i0)), .int (u.2 22 i0), .ref (d (4000 + i0)), .ref (d (2000 + o_44)), .int (u.2 7 i0), .int (u.2 8 i0)]) := by rw [hs_6, ht_21.2, hx_37]; rfl
      have hit_45 := rI_itm hrp.2.2.1 hx_34
      obtain ⟨kk_46, hk_47⟩ := pl_at ht_21.1 hs_43
      refine va_instS hx hb hown (hts (.classLink RX11 83 "PageOne$Head") (by decide +kernel)) (hK.1 3 (RX3, TX3, 8) rfl).2 (va_recv hK hP (ci := 3) (q0 := kk_46) rfl hk_47) dX11_failsAlone_35 ?_
      refine lv_if_eq (tgt := 58) hx hb dX11_failsAlone_38 (by decide) (fun c_48 => absurd c_48 (by decide)) (fun c_48 => ?_)
      refine lv_aload_n hx hb dX11_failsAlone_41 rfl (lv_at hl 1 rfl) ?_
      obtain ⟨kk_49, hk_50⟩ := pl_at ht_21.1 hs_43
      refine va_castS hx hb hown (hts (.classLink RX11 83 "PageOne$Head") (by decide +kernel)) (hK.1 3 (RX3, TX3, 8) rfl).2 (va_recv hK hP (ci := 3) (q0 := kk_49) rfl hk_50) dX11_failsAlone_42 ?_
      refine lv_astore_n (lv' := [(3, .ref (d (2000 + i0))), (0, .ref h0), (1, .ref (d (2000 + i0))), (2, .int p0)]) hx hb dX11_failsAlone_45 rfl hl (by decide) rfl (fun ls hl => ?_)
      refine lv_aload_n hx hb dX11_failsAlone_46 rfl (lv_at hl 1 rfl) ?_
      refine lv_aload_n hx hb dX11_failsAlone_47 rfl (lv_at hl 0 rfl) ?_
      obtain ⟨kk_51, hk_52⟩ := pl_at hI.2.1.1.1 hI.2.2.2.1.1
      refine vp_callSi (va_runV (As := [.ref (d (2000 + i0))]) (rest := []) ⟨hx, hb, hml, hown, hts⟩ (y_standsOverStory l dC dI q h0 d k z f hI u hrp hk0 hk1 hk2 hk3 hpcI i0 hi0 hkd_23) (cwV 1 hts gX11_failsAlone_X11_standsOverStory rfl rfl rfl (by decide +kernel) ⟨Nat.le_of_ble_eq_true rfl, Nat.le_of_ble_eq_true rfl⟩) ⟨px_fb, va_recv hK hP (ci := 10) (q0 := kk_51) rfl hk_52, fun U hU hW => ⟨rfl, px_to hU hW hP hK hN hXN⟩⟩ rfl rfl hl.1 rfl (lv_room (Nat.le_of_ble_eq_true rfl)) dX11_failsAlone_48 ⟨Nat.le_of_ble_eq_true rfl, Nat.le_of_ble_eq_true rfl⟩).run (fun r hw => ?_)
      obtain rfl : r = (bP (soP u i0)) := hw
      refine lv_if_ne (tgt := 58) hx hb dX11_failsAlone_51 (by decide) (fun c_53 => ?_) (fun c_53 => ?_)
      ·
        refine lv_iconst (v := 0) hx hb dX11_failsAlone_58 (by decide) ?_
        exact W.zret (v := 0) hx hb hr (by decide) (fun t ht hW => ⟨_, rfl, (bP_f (fun h9 => by rcases h9 with h9 | h9; exact c_20 h9.1; exact h9.2.2 (bP_n c_53))).symm, ht⟩) (fun q h => absurd h List.not_mem_nil) dX11_failsAlone_59
      ·
        refine lv_iconst (v := 1) hx hb dX11_failsAlone_54 (by decide) ?_
        refine lv_goto (tgt := 59) hx hb dX11_failsAlone_55 (by decide) ?_
        exact W.zret (v := 1) hx hb hr (by decide) (fun t ht hW => ⟨_, rfl, (bP_t (Or.inr ⟨c_20, hkd_23, bP_0 c_53⟩)).symm, ht⟩) (fun q h => absurd h List.not_mem_nil) dX11_failsAlone_59
    ·
      have hn_22 := ht9
      have hkd_23 : ¬ u.2 4 i0 = 1 := fun e9 => ht9 ⟨hit_5.1, by rw [hkt_19, e9]; rfl⟩
      refine w_then (F0 m 38 ls [.int 0]) (fun hgo => ?_) ?_
      ·
        rcases x_tag hit_5 with ht8 | ht8 | ht8 | ht8 | ht8 | ht8
        ·
          obtain ⟨nu_54, kd_55, cn_56, pa_57, fa_58, l_59, m_60, hs_61, hs_62, hs_63, hs_64⟩ := x_ifl hI ht8
          obtain ⟨kk_65, hk_66⟩ := pl_at ht8.1 hs_61
          exact va_instNo hx hb hown (hts (.classLink RX11 83 "PageOne$Head") (by decide +kernel)) hXN.n_X2_X3 (va_recv hK hP (ci := 2) (q0 := kk_65) rfl hk_66) dX11_failsAlone_35 hgo
        ·
          exact absurd ht8 ht9
        ·
          obtain ⟨nu_67, kd_68, cn_69, pa_70, fa_71, o_72, y_73, hs_74, hs_75, hs_76, hs_77, hq_78⟩ := x_ino hI ht8
          obtain ⟨kk_79, hk_80⟩ := pl_at ht8.1 hs_74
          exact va_instNo hx hb hown (hts (.classLink RX11 83 "PageOne$Head") (by decide +kernel)) hXN.n_X5_X3 (va_recv hK hP (ci := 4) (q0 := kk_79) rfl hk_80) dX11_failsAlone_35 hgo
        ·
          obtain ⟨nu_81, kd_82, cn_83, pa_84, fa_85, b_86, pr_87, sp_88, dy_89, hs_90, hs_91, hs_92, hs_93, hq_94, hq_95, hq_96⟩ := x_ipd hI ht8
          obtain ⟨kk_97, hk_98⟩ := pl_at ht8.1 hs_90
          exact va_instNo hx hb hown (hts (.classLink RX11 83 "PageOne$Head") (by decide +kernel)) hXN.n_X6_X3 (va_recv hK hP (ci := 5) (q0 := kk_97) rfl hk_98) dX11_failsAlone_35 hgo
        ·
          obtain ⟨nu_99, kd_100, cn_101, pa_102, fa_103, ww_104, hh_105, sz_106, hs_107, hs_108, hs_109, hs_110, hq_111, hq_112, hq_113⟩ := x_ipi hI ht8
          obtain ⟨kk_114, hk_115⟩ := pl_at ht8.1 hs_107
          exact va_instNo hx hb hown (hts (.classLink RX11 83 "PageOne$Head") (by decide +kernel)) hXN.n_X7_X3 (va_recv hK hP (ci := 6) (q0 := kk_114) rfl hk_115) dX11_failsAlone_35 hgo
        ·
          obtain ⟨nu_116, kd_117, cn_118, pa_119, fa_120, l_121, co_122, wd_123, nm_124, hs_125, hs_126, hs_127, hs_128, hq_129, hq_130, hq_131⟩ := x_ist hI ht8
          obtain ⟨kk_132, hk_133⟩ := pl_at ht8.1 hs_125
          exact va_instNo hx hb hown (hts (.classLink RX11 83 "PageOne$Head") (by decide +kernel)) hXN.n_X10_X3 (va_recv hK hP (ci := 9) (q0 := kk_132) rfl hk_133) dX11_failsAlone_35 hgo
      ·
        refine lv_if_eq (tgt := 58) hx hb dX11_failsAlone_38 (by decide) (fun c_134 => ?_) (fun c_134 => absurd (by decide) c_134)
        refine lv_iconst (v := 0) hx hb dX11_failsAlone_58 (by decide) ?_
        exact W.zret (v := 0) hx hb hr (by decide) (fun t ht hW => ⟨_, rfl, (bP_f (fun h9 => by rcases h9 with h9 | h9; exact c_20 h9.1; exact hkd_23 h9.2.1)).symm, ht⟩) (fun q h => absurd h List.not_mem_nil) dX11_failsAlone_59
  ·
    refine lv_aload_n hx hb dX11_failsAlone_5 rfl (lv_at hl 1 rfl) ?_
    rcases Classical.em (tg z (d (2000 + i0)) 15) with ht9 | ht9
    ·
      have ht_135 := ht9
      have hkd_137 : u.2 4 i0 = 0 := (kT_k (kd_05 hrp.2.2.1 hi0).1 (kd_05 hrp.2.2.1 hi0).2).1 (hkt_19.symm.trans ht_135.2)
      obtain ⟨hx_138, hx_139, hx_140, ⟨hx_141, hx_142, hx_143⟩, hx_144, hx_145, hx_146⟩ := hrs_18.1 hkd_137
      have hs_147 : f (d (2000 + i0)) = .inr (9, [.int (nI i0), .int (u.2 4 i0), .ref (d (3000 + i0)), .int (u.2 22 i0), .ref (d (4000 + i0)), .int (u.2 5 i0), .ref (d (5000 + i0)), .int (u.2 15 i0), .ref (d (6000 + i0))]) := by rw [hs_6, ht_135.2, hx_138]; rfl
      obtain ⟨kk_158, hk_159⟩ := pl_at ht_135.1 hs_147
      refine va_instS hx hb hown (hts (.classLink RX11 66 "PageOne$Story") (by decide +kernel)) (hK.1 9 (RX10, TX10, 9) rfl).2 (va_recv hK hP (ci := 9) (q0 := kk_158) rfl hk_159) dX11_failsAlone_6 ?_
      refine lv_if_eq (tgt := 32) hx hb dX11_failsAlone_9 (by decide) (fun c_160 => absurd c_160 (by decide)) (fun c_160 => ?_)
      refine lv_aload_n hx hb dX11_failsAlone_12 rfl (lv_at hl 1 rfl) ?_
      obtain ⟨kk_161, hk_162⟩ := pl_at ht_135.1 hs_147
      refine va_castS hx hb hown (hts (.classLink RX11 66 "PageOne$Story") (by decide +kernel)) (hK.1 9 (RX10, TX10, 9) rfl).2 (va_recv hK hP (ci := 9) (q0 := kk_161) rfl hk_162) dX11_failsAlone_13 ?_
      refine lv_astore_n (lv' := [(3, .ref (d (2000 + i0))), (0, .ref h0), (1, .ref (d (2000 + i0))), (2, .int p0)]) hx hb dX11_failsAlone_16 rfl hl (by decide) rfl (fun ls hl => ?_)
      refine lv_aload_n hx hb dX11_failsAlone_17 rfl (lv_at hl 0 rfl) ?_
      obtain ⟨kk_163, hk_164⟩ := pl_at ht_135.1 hs_147
      refine vp_callSi (va_runV (As := []) (rest := []) ⟨hx, hb, hml, hown, hts⟩ (y_standing l dC dI q h0 d k z f hI (d (2000 + i0)) (d (3000 + i0)) (d (4000 + i0)) (d (5000 + i0)) (d (6000 + i0)) (nI i0) (u.2 4 i0) (u.2 22 i0) (u.2 5 i0) (u.2 15 i0) ht_135 hs_147 n_2 g_3 (pR u i0) hpa_7 hps_8 h1_9 h6_10 hcb_11 hpl_12) (cwV 0 hts gX11_failsAlone_X10_standing rfl rfl rfl (by decide +kernel) ⟨Nat.le_of_ble_eq_true rfl, Nat.le_of_ble_eq_true rfl⟩) ⟨px_fb, va_recv hK hP (ci := 9) (q0 := kk_163) rfl hk_164, fun U hU hW => ⟨rfl, px_to hU hW hP hK hN hXN⟩⟩ rfl rfl hl.1 rfl (lv_room (Nat.le_of_ble_eq_true rfl)) dX11_failsAlone_18 ⟨Nat.le_of_ble_eq_true rfl, Nat.le_of_ble_eq_true rfl⟩).run (fun r hw => ?_)
      obtain rfl : r = (s_standing (u.2 22 i0) (pR u i0)) := hw
      refine lv_aload_n hx hb dX11_failsAlone_21 rfl (lv_at hl 0 rfl) ?_
      obtain ⟨kk_165, hk_166⟩ := pl_at ht_135.1 hs_147
      refine va_get (D := (dC, dI)) (ci := 9) (v := .int (u.2 5 i0)) (C := RX10) (T := TX10) (N := 9) hx hb hts (by decide +kernel) hown hK hP kk_165 hk_166 rfl 5 (by decide) (hts (.fieldLink RX11 366 "PageOne$Story" "least" "I") (by decide +kernel)) (fun _ h9 => h9) rfl dX11_failsAlone_22 ?_
      refine lv_icmp_ge (tgt := 32) hx hb dX11_failsAlone_25 (by decide) (fun c_167 => ?_) (fun c_167 => ?_)
      ·
        refine lv_iconst (v := 0) hx hb dX11_failsAlone_32 (by decide) ?_
        exact W.zret (v := 0) hx hb hr (by decide) (fun t ht hW => ⟨_, rfl, (bP_f (fun h9 => by rcases h9 with h9 | h9; have h8 := h9.2.2; have h7 := c_167; rw [i32_le] at h7; rw [i32_lt] at h8; omega; exact h9.1 c_20)).symm, ht⟩) (fun q h => absurd h List.not_mem_nil) dX11_failsAlone_33
      ·
        refine lv_iconst (v := 1) hx hb dX11_failsAlone_28 (by decide) ?_
        refine lv_goto (tgt := 33) hx hb dX11_failsAlone_29 (by decide) ?_
        exact W.zret (v := 1) hx hb hr (by decide) (fun t ht hW => ⟨_, rfl, (bP_t (Or.inl ⟨c_20, hkd_137, by have h9 := c_167; rw [i32_le] at h9; rw [i32_lt]; omega⟩)).symm, ht⟩) (fun q h => absurd h List.not_mem_nil) dX11_failsAlone_33
    ·
      have hn_136 := ht9
      have hkd_137 : ¬ u.2 4 i0 = 0 := fun e9 => ht9 ⟨hit_5.1, by rw [hkt_19, e9]; rfl⟩
      refine w_then (F0 m 9 ls [.int 0]) (fun hgo => ?_) ?_
      ·
        rcases x_tag hit_5 with ht8 | ht8 | ht8 | ht8 | ht8 | ht8
        ·
          obtain ⟨nu_168, kd_169, cn_170, pa_171, fa_172, l_173, m_174, hs_175, hs_176, hs_177, hs_178⟩ := x_ifl hI ht8
          obtain ⟨kk_179, hk_180⟩ := pl_at ht8.1 hs_175
          exact va_instNo hx hb hown (hts (.classLink RX11 66 "PageOne$Story") (by decide +kernel)) hXN.n_X2_X10 (va_recv hK hP (ci := 2) (q0 := kk_179) rfl hk_180) dX11_failsAlone_6 hgo
        ·
          obtain ⟨nu_181, kd_182, cn_183, pa_184, fa_185, o_186, w_187, y_188, hs_189, hs_190, hs_191, hs_192, hq_193⟩ := x_ihd hI ht8
          obtain ⟨kk_194, hk_195⟩ := pl_at ht8.1 hs_189
          exact va_instNo hx hb hown (hts (.classLink RX11 66 "PageOne$Story") (by decide +kernel)) hXN.n_X3_X10 (va_recv hK hP (ci := 3) (q0 := kk_194) rfl hk_195) dX11_failsAlone_6 hgo
        ·
          obtain ⟨nu_196, kd_197, cn_198, pa_199, fa_200, o_201, y_202, hs_203, hs_204, hs_205, hs_206, hq_207⟩ := x_ino hI ht8
          obtain ⟨kk_208, hk_209⟩ := pl_at ht8.1 hs_203
          exact va_instNo hx hb hown (hts (.classLink RX11 66 "PageOne$Story") (by decide +kernel)) hXN.n_X5_X10 (va_recv hK hP (ci := 4) (q0 := kk_208) rfl hk_209) dX11_failsAlone_6 hgo
        ·
          obtain ⟨nu_210, kd_211, cn_212, pa_213, fa_214, b_215, pr_216, sp_217, dy_218, hs_219, hs_220, hs_221, hs_222, hq_223, hq_224, hq_225⟩ := x_ipd hI ht8
          obtain ⟨kk_226, hk_227⟩ := pl_at ht8.1 hs_219
          exact va_instNo hx hb hown (hts (.classLink RX11 66 "PageOne$Story") (by decide +kernel)) hXN.n_X6_X10 (va_recv hK hP (ci := 5) (q0 := kk_226) rfl hk_227) dX11_failsAlone_6 hgo
        ·
          obtain ⟨nu_228, kd_229, cn_230, pa_231, fa_232, ww_233, hh_234, sz_235, hs_236, hs_237, hs_238, hs_239, hq_240, hq_241, hq_242⟩ := x_ipi hI ht8
          obtain ⟨kk_243, hk_244⟩ := pl_at ht8.1 hs_236
          exact va_instNo hx hb hown (hts (.classLink RX11 66 "PageOne$Story") (by decide +kernel)) hXN.n_X7_X10 (va_recv hK hP (ci := 6) (q0 := kk_243) rfl hk_244) dX11_failsAlone_6 hgo
        ·
          exact absurd ht8 ht9
      ·
        refine lv_if_eq (tgt := 32) hx hb dX11_failsAlone_9 (by decide) (fun c_245 => ?_) (fun c_245 => absurd (by decide) c_245)
        refine lv_iconst (v := 0) hx hb dX11_failsAlone_32 (by decide) ?_
        exact W.zret (v := 0) hx hb hr (by decide) (fun t ht hW => ⟨_, rfl, (bP_f (fun h9 => by rcases h9 with h9 | h9; exact hkd_137 h9.2.1; exact h9.1 c_20)).symm, ht⟩) (fun q h => absurd h List.not_mem_nil) dX11_failsAlone_33
