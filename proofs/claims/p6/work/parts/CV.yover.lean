/-- a head that stands over its story -/
def soC (u : mS) (i P X Y N c : Nat) : Prop := mCellAt u (nI P) (nI (X + c)) (nI Y + nI N) = u.2 9 i
def soP (u : mS) (i : Nat) : Prop := ¬ u.2 22 i ≤ 0 ∧ ∃ P X Y D N, pR u i ((u.2 22 i).toNatClampNeg - 1) 0 = nI P ∧ pR u i ((u.2 22 i).toNatClampNeg - 1) 1 = nI X ∧ pR u i ((u.2 22 i).toNatClampNeg - 1) 2 = nI Y ∧ pR u i ((u.2 22 i).toNatClampNeg - 1) 3 = nI D ∧ pR u i ((u.2 22 i).toNatClampNeg - 1) 4 = nI N ∧ rIn u P X Y D N ∧ ∃ c, c < D ∧ soC u i P X Y N c
theorem so_n {u : mS} {i P X Y D N : Nat} (h : rIn u P X Y D N) (s0 : pR u i ((u.2 22 i).toNatClampNeg - 1) 0 = nI P) (s1 : pR u i ((u.2 22 i).toNatClampNeg - 1) 1 = nI X) (s2 : pR u i ((u.2 22 i).toNatClampNeg - 1) 2 = nI Y) (s3 : pR u i ((u.2 22 i).toNatClampNeg - 1) 3 = nI D) (s4 : pR u i ((u.2 22 i).toNatClampNeg - 1) 4 = nI N) (hn : ∀ c, c < D → ¬ soC u i P X Y N c) : ¬ soP u i := by
  rintro ⟨-, P2, X2, Y2, D2, N2, t0, t1, t2, t3, t4, h2, c, hc, hs⟩
  obtain ⟨a1, a2, a3, a4, a5, -⟩ := h
  obtain ⟨b1, b2, b3, b4, b5, -⟩ := h2
  have e0 := nI_inj2 (by omega) (by omega) (s0.symm.trans t0)
  have e1 := nI_inj2 (by omega) (by omega) (s1.symm.trans t1)
  have e2 := nI_inj2 (by omega) (by omega) (s2.symm.trans t2)
  have e3 := nI_inj2 (by omega) (by omega) (s3.symm.trans t3)
  have e4 := nI_inj2 (by omega) (by omega) (s4.symm.trans t4)
  subst e0 e1 e2 e3 e4
  exact hn c hc hs
def faP (u : mS) (i : Nat) (kd : Int32) : Prop := (kd = 4 ∧ u.2 4 i = 0 ∧ s_standing (u.2 22 i) (pR u i) < u.2 5 i) ∨ (¬ kd = 4 ∧ u.2 4 i = 1 ∧ ¬ soP u i)
set_option maxHeartbeats 4000000 in
set_option maxRecDepth 100000 in
theorem y_over_l {p : Program} {l : Launch} {e : Env} {R : Room} {s : State} {m : MethodId} {args : Array Value} {below : List Frame} {meth : Method} {c : Code} {Q : State → Prop} {cells slots : Nat} {dC : Nat → ClassId} {dI : Nat → Nat → Nat} {q : Nat → ClassId} {h0 : Nat} {d : Nat → Nat} {k : Nat → Int32} {z : gS} {f : xF} {H : Heap} {locs : List Loc} (hI : xI q h0 d k z f) (hx : p.tables.exec = Jvm.exec) (hb : c.code = cX11_standsOverStory) (hml : c.maxLocals = 4) (hts : ∀ w ∈ wsX11_standsOverStory, w.before args s = true) (hown : s.vm.findClass RX11 = some m.cls) (hN : NN s) (hXN : XN s) (hK : va_K (dC, dI) vwCl (xT q) s) (hRf : 3 ≤ R.frames) (hRl : 64 ≤ R.locals) (hRc : cells ≤ R.cells) (hRs : slots ≤ R.slots) (hP : va_P (dC, dI) vwCl (va_pl z.1 f) H) {u : mS} (hrp : rep q d u z f) (hk0 : k 0 = u.1 3) {i0 : Nat} (hi0 : i0 < (u.1 3).toNatClampNeg) (hkd : u.2 4 i0 = 1) {b9 P X Y D N : Nat} (hpcx : pcS z b9 (some (d (2000 + i0))) (nI P) (nI X) (nI Y) (nI D) (nI N)) (hP9 : P < 12) (hX : X + D ≤ 8) (hD1 : 1 ≤ D) (hY : Y + N ≤ 60) (kx69 : ∀ (ls : Array Slot), (∀ j, j < D → ¬ soC u i0 P X Y N j) → lv_has ls 4 [(0, .ref h0), (1, .ref (d (2000 + i0))), (2, .ref b9)] → W p l e R s m args below meth c H locs cells slots Q (F0 m 69 ls [])) (kx61 : ∀ (ls : Array Slot), (∃ j, j < D ∧ soC u i0 P X Y N j) → lv_has ls 4 [(0, .ref h0), (1, .ref (d (2000 + i0))), (2, .ref b9)] → W p l e R s m args below meth c H locs cells slots Q (F0 m 61 ls [])) : ∀ (kk i : Nat) (ls : Array Slot), i ≤ D → D - i < kk → (∀ j, j < i → ¬ soC u i0 P X Y N j) → lv_has ls 4 [(3, .int (nI (X + i))), (0, .ref h0), (1, .ref (d (2000 + i0))), (2, .ref b9)] → W p l e R s m args below meth c H locs cells slots Q (F0 m 16 ls []) := by
  intro kk
  induction kk with
  | zero => intro i ls h1 h2; exact absurd h2 (Nat.not_lt_zero _)
  | succ kk ih =>
    intro i ls hi hkk hg hl
    obtain ⟨rs_1, n_2, g_3, fg_4, hit_5, hs_6, hpa_7, hps_8, h1_9, h6_10, hcb_11, hpl_12, hlg_13, hnn_14, hfa_15, hfs_16, hfe_17, hrs_18, hkt_19⟩ := it_all hI hrp.2.2.1 hi0
    have ht_20 : tg z (d (2000 + i0)) 11 := ⟨hit_5.1, by rw [hkt_19, hkd]; rfl⟩
    obtain ⟨o9, hx_22, hx_23, hx_24, hx_25⟩ := hrs_18.2.1 hkd
    have hs_21 : f (d (2000 + i0)) = .inr (3, [.int (nI i0), .int (u.2 4 i0), .ref (d (3000 + i0)), .int (u.2 22 i0), .ref (d (4000 + i0)), .ref (d (2000 + o9)), .int (u.2 7 i0), .int (u.2 8 i0)]) := by rw [hs_6, ht_20.2, hx_25]; rfl
    obtain ⟨rs_31, n_32, g_33, fg_34, hit_35, hs_36, hpa_37, hps_38, h1_39, h6_40, hcb_41, hpl_42, hlg_43, hnn_44, hfa_45, hfs_46, hfe_47, hrs_48, hkt_49⟩ := it_all hI hrp.2.2.1 hx_22
    have hlgb := lg_of hpcx ⟨b7n (by omega), b60n (by omega), bwN (by have e8 : (8 : Int32).toInt = 8 := rfl; rw [e8]; omega) (by omega), b60n (by omega)⟩
    refine lv_iload_n hx hb dX11_standsOverStory_16 rfl (lv_at hl 0 rfl) ?_
    refine lv_aload_n hx hb dX11_standsOverStory_17 rfl (lv_at hl 3 rfl) ?_
    obtain ⟨kk_50, hk_51⟩ := pl_at hpcx.1.1 (x_pcF hI hpcx)
    refine va_get (D := (dC, dI)) (ci := 7) (v := .int (nI X)) (C := RX8) (T := TX8) (N := 6) hx hb hts (by decide +kernel) hown hK hP kk_50 hk_51 rfl 2 (by decide) (hts (.fieldLink RX11 232 "PageOne$Piece" "column" "I") (by decide +kernel)) (fun _ h9 => h9) rfl dX11_standsOverStory_18 ?_
    refine lv_aload_n hx hb dX11_standsOverStory_21 rfl (lv_at hl 3 rfl) ?_
    obtain ⟨kk_52, hk_53⟩ := pl_at hpcx.1.1 (x_pcF hI hpcx)
    refine va_get (D := (dC, dI)) (ci := 7) (v := .int (nI D)) (C := RX8) (T := TX8) (N := 6) hx hb hts (by decide +kernel) hown hK hP kk_52 hk_53 rfl 4 (by decide) (hts (.fieldLink RX11 238 "PageOne$Piece" "w" "I") (by decide +kernel)) (fun _ h9 => h9) rfl dX11_standsOverStory_22 ?_
    refine lv_iadd hx hb dX11_standsOverStory_25 ?_
    refine lv_icmp_ge (tgt := 69) hx hb dX11_standsOverStory_26 (by decide) (fun c_54 => ?_) (fun c_54 => ?_)
    ·
      have hie : i = D := by have := lp_eq (nI_add X D) (by omega) (by omega) c_54; omega
      exact kx69 ls (by rw [← hie]; exact hg) (lv_sub hl [1, 2, 3] rfl)
    ·
      have hlt : i < D := by have := lp_lt (nI_add X D) (by omega) (by omega) c_54; omega
      refine lv_aload_n hx hb dX11_standsOverStory_29 rfl (lv_at hl 1 rfl) ?_
      obtain ⟨kk_55, hk_56⟩ := pl_at hI.2.1.1.1 hI.2.2.2.1.1
      refine va_get (D := (dC, dI)) (ci := 10) (v := .ref (d 0)) (C := RX11) (T := TX11) (N := 9) hx hb hts (by decide +kernel) hown hK hP kk_55 hk_56 rfl 0 (by decide) (hts (.fieldLink RX11 11 "PageOne" "pages" "[LPageOne$Sheet;") (by decide +kernel)) (fun _ h9 => h9) rfl dX11_standsOverStory_30 ?_
      refine lv_aload_n hx hb dX11_standsOverStory_33 rfl (lv_at hl 3 rfl) ?_
      obtain ⟨kk_57, hk_58⟩ := pl_at hpcx.1.1 (x_pcF hI hpcx)
      refine va_get (D := (dC, dI)) (ci := 7) (v := .int (nI P)) (C := RX8) (T := TX8) (N := 6) hx hb hts (by decide +kernel) hown hK hP kk_57 hk_58 rfl 1 (by decide) (hts (.fieldLink RX11 229 "PageOne$Piece" "page" "I") (by decide +kernel)) (fun _ h9 => h9) rfl dX11_standsOverStory_34 ?_
      obtain ⟨g_59, hs_60, hg_61⟩ := x_pg hI hI.2.1.2.1
      obtain ⟨kk_62, hk_63⟩ := pl_at hI.2.1.2.1.1 hs_60
      refine va_aldq hx hb hK hP kk_62 2 hk_63 rfl (vp_in_nI hP9 (by decide)) dX11_standsOverStory_37 ?_
      obtain ⟨b_64, hg_65, ht_66⟩ := hg_61 _ (vlt (vp_in_nI hP9 (by decide)))
      rw [hg_65]
      refine W.eq (g2 := F0 m 38 ls [.ref b_64]) rfl ?_
      have hb_67 := pg_at hrp.1 hs_60 hP9 (by rw [nI_clamp (by omega)] at hg_65; exact hg_65)
      subst hb_67
      obtain ⟨dd_68, ii_69, gl_70, gc_71, ht_72, ht_73, ht_74, hs_75, hg_76, hgb_77, hc_78, el_79, ec_80⟩ := pg_all hI hrp.1 hP9
      refine lv_iload_n hx hb dX11_standsOverStory_38 rfl (lv_at hl 0 rfl) ?_
      refine lv_aload_n hx hb dX11_standsOverStory_39 rfl (lv_at hl 3 rfl) ?_
      obtain ⟨kk_81, hk_82⟩ := pl_at hpcx.1.1 (x_pcF hI hpcx)
      refine va_get (D := (dC, dI)) (ci := 7) (v := .int (nI Y)) (C := RX8) (T := TX8) (N := 6) hx hb hts (by decide +kernel) hown hK hP kk_81 hk_82 rfl 3 (by decide) (hts (.fieldLink RX11 235 "PageOne$Piece" "line" "I") (by decide +kernel)) (fun _ h9 => h9) rfl dX11_standsOverStory_40 ?_
      refine lv_aload_n hx hb dX11_standsOverStory_43 rfl (lv_at hl 3 rfl) ?_
      obtain ⟨kk_83, hk_84⟩ := pl_at hpcx.1.1 (x_pcF hI hpcx)
      refine va_get (D := (dC, dI)) (ci := 7) (v := .int (nI N)) (C := RX8) (T := TX8) (N := 6) hx hb hts (by decide +kernel) hown hK hP kk_83 hk_84 rfl 5 (by decide) (hts (.fieldLink RX11 241 "PageOne$Piece" "h" "I") (by decide +kernel)) (fun _ h9 => h9) rfl dX11_standsOverStory_44 ?_
      refine lv_iadd hx hb dX11_standsOverStory_47 ?_
      obtain ⟨kk_85, hk_86⟩ := pl_at ht_72.1 hs_75
      refine vp_callSi (va_runV (As := [.int (nI (X + i)), .int ((nI Y) + (nI N))]) (rest := []) ⟨hx, hb, hml, hown, hts⟩ (y_at l dC dI q h0 d k z f hI (d (10 + P)) (d (30 + P)) (d (50 + P)) (u.2 1 P) dd_68 ii_69 gl_70 gc_71 ht_72 hs_75 ht_73 ht_74 hg_76 hgb_77 hc_78 (nI (X + i)) ((nI Y) + (nI N))) (cwV 2 hts gX11_standsOverStory_X9_at rfl rfl rfl (by decide +kernel) ⟨Nat.le_trans (Nat.le_of_ble_eq_true rfl) hRf, Nat.le_trans (Nat.le_of_ble_eq_true rfl) hRl⟩) ⟨px_fb, va_recv hK hP (ci := 8) (q0 := kk_85) rfl hk_86, fun U hU hW => ⟨rfl, px_to hU hW hP hK hN hXN⟩⟩ rfl rfl hl.1 rfl (lv_room (Nat.le_of_ble_eq_true rfl)) dX11_standsOverStory_48 ⟨hRc, hRs⟩).run (fun r hw => ?_)
      generalize r = zr_87 at hw ⊢
      have hzr_87 := hw
      refine lv_aload_n hx hb dX11_standsOverStory_51 rfl (lv_at hl 2 rfl) ?_
      obtain ⟨kk_88, hk_89⟩ := pl_at ht_20.1 hs_21
      refine va_get (D := (dC, dI)) (ci := 3) (v := .ref (d (2000 + o9))) (C := RX3) (T := TX3) (N := 8) hx hb hts (by decide +kernel) hown hK hP kk_88 hk_89 rfl 5 (by decide) (hts (.fieldLink RX11 292 "PageOne$Head" "owner" "LPageOne$Story;") (by decide +kernel)) (fun _ h9 => h9) rfl dX11_standsOverStory_52 ?_
      obtain ⟨kk_90, hk_91⟩ := pl_at hit_35.1 hs_36
      refine w_then (F0 m 58 ls [.int (nI o9), .int zr_87]) (fun hgo => ?_) ?_
      ·
        rcases x_tag hit_35 with ht9 | ht9 | ht9 | ht9 | ht9 | ht9
        ·
          rw [ht9.2] at hk_91
          exact va_get (D := (dC, dI)) (ci := 2) (v := .int (nI o9)) (C := RX2) (T := TX2) (N := 7) hx hb hts (by decide +kernel) hown hK hP kk_90 hk_91 rfl 0 (by decide) (hts (.fieldLink RX11 296 "PageOne$Story" "number" "I") (by decide +kernel)) (fun x9 h9 => u_same (hts (.sameField "PageOne$Story" "PageOne$Item" "number" "I") (by decide +kernel)) x9 h9) rfl dX11_standsOverStory_55 hgo
        ·
          rw [ht9.2] at hk_91
          exact va_get (D := (dC, dI)) (ci := 3) (v := .int (nI o9)) (C := RX3) (T := TX3) (N := 8) hx hb hts (by decide +kernel) hown hK hP kk_90 hk_91 rfl 0 (by decide) (hts (.fieldLink RX11 296 "PageOne$Story" "number" "I") (by decide +kernel)) (fun x9 h9 => u_same (hts (.sameField "PageOne$Story" "PageOne$Item" "number" "I") (by decide +kernel)) x9 h9) rfl dX11_standsOverStory_55 hgo
        ·
          rw [ht9.2] at hk_91
          exact va_get (D := (dC, dI)) (ci := 4) (v := .int (nI o9)) (C := RX5) (T := TX5) (N := 7) hx hb hts (by decide +kernel) hown hK hP kk_90 hk_91 rfl 0 (by decide) (hts (.fieldLink RX11 296 "PageOne$Story" "number" "I") (by decide +kernel)) (fun x9 h9 => u_same (hts (.sameField "PageOne$Story" "PageOne$Item" "number" "I") (by decide +kernel)) x9 h9) rfl dX11_standsOverStory_55 hgo
        ·
          rw [ht9.2] at hk_91
          exact va_get (D := (dC, dI)) (ci := 5) (v := .int (nI o9)) (C := RX6) (T := TX6) (N := 9) hx hb hts (by decide +kernel) hown hK hP kk_90 hk_91 rfl 0 (by decide) (hts (.fieldLink RX11 296 "PageOne$Story" "number" "I") (by decide +kernel)) (fun x9 h9 => u_same (hts (.sameField "PageOne$Story" "PageOne$Item" "number" "I") (by decide +kernel)) x9 h9) rfl dX11_standsOverStory_55 hgo
        ·
          rw [ht9.2] at hk_91
          exact va_get (D := (dC, dI)) (ci := 6) (v := .int (nI o9)) (C := RX7) (T := TX7) (N := 8) hx hb hts (by decide +kernel) hown hK hP kk_90 hk_91 rfl 0 (by decide) (hts (.fieldLink RX11 296 "PageOne$Story" "number" "I") (by decide +kernel)) (fun x9 h9 => u_same (hts (.sameField "PageOne$Story" "PageOne$Item" "number" "I") (by decide +kernel)) x9 h9) rfl dX11_standsOverStory_55 hgo
        ·
          rw [ht9.2] at hk_91
          exact va_get (D := (dC, dI)) (ci := 9) (v := .int (nI o9)) (C := RX10) (T := TX10) (N := 9) hx hb hts (by decide +kernel) hown hK hP kk_90 hk_91 rfl 0 (by decide) (hts (.fieldLink RX11 296 "PageOne$Story" "number" "I") (by decide +kernel)) (fun x9 h9 => u_same (hts (.sameField "PageOne$Story" "PageOne$Item" "number" "I") (by decide +kernel)) x9 h9) rfl dX11_standsOverStory_55 hgo
      ·
        refine lv_icmp_ne (tgt := 63) hx hb dX11_standsOverStory_58 (by decide) (fun c_92 => ?_) (fun c_92 => ?_)
        ·
          refine lv_iinc (v := (nI (X + i + 1))) (lv' := [(3, .int (nI (X + i + 1))), (0, .ref h0), (1, .ref (d (2000 + i0))), (2, .ref b9)]) hx hb dX11_standsOverStory_63 hl (k := 0) rfl (nI_1 _) (by decide) rfl (fun ls hl => ?_)
          refine lv_goto (tgt := 16) hx hb dX11_standsOverStory_66 (by decide) ?_
          exact ih (i + 1) ls (by omega) (by omega) (fun j hj => by rcases Nat.lt_succ_iff_lt_or_eq.mp hj with h9 | h9; exact hg j h9; rw [h9]; exact fun h8 => c_92 ((hzr_87.trans ((shAt_eq hP9 el_79 ec_80 hgb_77 _ _).trans h8)).trans hx_23)) (lv_sub hl [0, 1, 2, 3] rfl)
        ·
          exact kx61 ls ⟨i, hlt, ((shAt_eq hP9 el_79 ec_80 hgb_77 _ _).symm.trans (hzr_87.symm.trans c_92)).trans hx_23.symm⟩ (lv_sub hl [1, 2, 3] rfl)
set_option maxHeartbeats 4000000 in
set_option maxRecDepth 100000 in
theorem y_standsOverStory (l : Launch) (dC : Nat → ClassId) (dI : Nat → Nat → Nat) (q : Nat → ClassId) (h0 : Nat) (d : Nat → Nat) (k : Nat → Int32) (z : gS) (f : xF) (hI : xI q h0 d k z f) (u : mS) (hrp : rep q d u z f) (hk0 : k 0 = u.1 3) (hk1 : k 1 = u.1 28) (hk2 : k 2 = u.1 38) (hk3 : k 3 = u.1 39) (hpcI : pcI u) (i0 : Nat) (hi0 : i0 < (u.1 3).toNatClampNeg) (hkd : u.2 4 i0 = 1) : Met l yX11_standsOverStory wsX11_standsOverStory ({ frames := 3, cells := 0, slots := 0, locals := 64 }) (va_Pc [.ref h0, .ref (d (2000 + i0))] (PX dC dI (va_pl z.1 f) (xT q))) (vp_Si (fun r => r = bP (soP u i0))) 0 0 (fun _ => False) := by
  refine Met.ofW (cc := cX11_standsOverStory) (maxL := 4) (ret := (some .boolean)) (by decide) rfl ?_
  intro p e s m args below meth c s₁ B hml hv
  obtain ⟨rfl, ⟨hP, hK, hN⟩, hXN⟩ := hv
  have hx := B.exec
  have hb := B.bytes
  have hr := B.returns
  have hts := atoms_spec (ws := wsX11_standsOverStory) B.pre
  have hown : s.vm.findClass RX11 = some m.cls := findClass_of_methodNamed B.named
  have hlocks := B.notSynchronized
  have hl := lv_entry ([.ref h0, .ref (d (2000 + i0))]) (n := 4) (Nat.le_of_ble_eq_true rfl)
  rw [lg_entry_eq]
  generalize (lg_sl ([.ref h0, .ref (d (2000 + i0))]) ++ List.replicate (4 - (lg_sl ([.ref h0, .ref (d (2000 + i0))])).length) Slot.unset).toArray = ls at hl ⊢
  have hl : lv_has ls 4 [(0, .ref h0), (1, .ref (d (2000 + i0)))] := hl
  obtain ⟨rs_1, n_2, g_3, fg_4, hit_5, hs_6, hpa_7, hps_8, h1_9, h6_10, hcb_11, hpl_12, hlg_13, hnn_14, hfa_15, hfs_16, hfe_17, hrs_18, hkt_19⟩ := it_all hI hrp.2.2.1 hi0
  have ht_20 : tg z (d (2000 + i0)) 11 := ⟨hit_5.1, by rw [hkt_19, hkd]; rfl⟩
  obtain ⟨o9, hx_22, hx_23, hx_24, hx_25⟩ := hrs_18.2.1 hkd
  have hs_21 : f (d (2000 + i0)) = .inr (3, [.int (nI i0), .int (u.2 4 i0), .ref (d (3000 + i0)), .int (u.2 22 i0), .ref (d (4000 + i0)), .ref (d (2000 + o9)), .int (u.2 7 i0), .int (u.2 8 i0)]) := by rw [hs_6, ht_20.2, hx_25]; rfl
  refine lv_aload_n hx hb dX11_standsOverStory_0 rfl (lv_at hl 1 rfl) ?_
  obtain ⟨kk_31, hk_32⟩ := pl_at ht_20.1 hs_21
  refine va_csq (va_runU (As := []) (rest := []) ⟨hx, hb, hml, hown, hts⟩ (y_lastPiece l dC dI q h0 d k z f hI (d (2000 + i0)) hit_5 (nI i0) (u.2 4 i0) (u.2 22 i0) (d (3000 + i0)) (d (4000 + i0)) rs_1 hs_6 n_2 g_3 (pR u i0) hpa_7 hps_8 h1_9 h6_10 hcb_11 hpl_12) (va_cwU 0 hts gX11_standsOverStory_X4_lastPiece_u371X3 rfl rfl rfl rfl (by decide +kernel) ⟨Nat.le_of_ble_eq_true rfl, Nat.le_of_ble_eq_true rfl⟩) ⟨px_fb, va_recv hK hP (ci := 3) (q0 := kk_31) rfl hk_32, fun U hU hW => ⟨rfl, px_to hU hW hP hK hN hXN⟩⟩ rfl rfl hl.1 rfl (lv_room (Nat.le_of_ble_eq_true rfl)) dX11_standsOverStory_1 ⟨Nat.le_of_ble_eq_true rfl, Nat.le_of_ble_eq_true rfl⟩).run (fun r hw => ?_)
  rcases Classical.em (u.2 22 i0 ≤ 0) with hl0 | hl0
  ·
    obtain rfl : r = none := hw.trans (by unfold s_last; rw [if_pos hl0])
    refine W.eq (g2 := F0 m 4 ls [.null]) rfl ?_
    refine lv_astore_nN (lv' := [(2, .null), (0, .ref h0), (1, .ref (d (2000 + i0)))]) hx hb dX11_standsOverStory_4 rfl hl (by decide) rfl (fun ls hl => ?_)
    refine lv_aload_nN hx hb dX11_standsOverStory_5 rfl (lv_at hl 0 rfl) ?_
    refine lv_ifnonnullN hx hb dX11_standsOverStory_6 ?_
    refine lv_iconst (v := 0) hx hb dX11_standsOverStory_9 (by decide) ?_
    exact W.zret (v := 0) hx hb hr (by decide) (fun t ht hW => ⟨_, rfl, (bP_f (fun h9 => h9.1 hl0)).symm, ht⟩) (fun q h => absurd h List.not_mem_nil) dX11_standsOverStory_10
  ·
    obtain ⟨hpos, b9, P, X, Y, D, N, el9, hpcx, hrx, s0, s1, s2, s3, s4⟩ := last_all hI hrp hpcI hi0 hps_8 h6_10 hcb_11 hl0
    obtain rfl : r = some b9 := hw.trans el9
    refine W.eq (g2 := F0 m 4 ls [.ref b9]) rfl ?_
    have hrx9 := hrx
    obtain ⟨hP9, hX, hD1, hY, hN1, hin⟩ := hrx9
    have hlgb := lg_of hpcx ⟨b7n (by omega), b60n (by omega), bwN (by have e8 : (8 : Int32).toInt = 8 := rfl; rw [e8]; omega) (by omega), b60n (by omega)⟩
    refine lv_astore_n (lv' := [(2, .ref b9), (0, .ref h0), (1, .ref (d (2000 + i0)))]) hx hb dX11_standsOverStory_4 rfl hl (by decide) rfl (fun ls hl => ?_)
    refine lv_aload_n hx hb dX11_standsOverStory_5 rfl (lv_at hl 0 rfl) ?_
    refine lv_ifnonnull (tgt := 11) hx hb dX11_standsOverStory_6 (by decide) ?_
    refine lv_aload_n hx hb dX11_standsOverStory_11 rfl (lv_at hl 0 rfl) ?_
    obtain ⟨kk_33, hk_34⟩ := pl_at hpcx.1.1 (x_pcF hI hpcx)
    refine va_get (D := (dC, dI)) (ci := 7) (v := .int (nI X)) (C := RX8) (T := TX8) (N := 6) hx hb hts (by decide +kernel) hown hK hP kk_33 hk_34 rfl 2 (by decide) (hts (.fieldLink RX11 232 "PageOne$Piece" "column" "I") (by decide +kernel)) (fun _ h9 => h9) rfl dX11_standsOverStory_12 ?_
    refine lv_istore_n (lv' := [(3, .int (nI X)), (2, .ref b9), (0, .ref h0), (1, .ref (d (2000 + i0)))]) hx hb dX11_standsOverStory_15 rfl hl (by decide) rfl (fun ls hl => ?_)
    refine y_over_l hI hx hb hml hts hown hN hXN hK (Nat.le_of_ble_eq_true rfl) (Nat.le_of_ble_eq_true rfl) (Nat.le_of_ble_eq_true rfl) (Nat.le_of_ble_eq_true rfl) hP hrp hk0 hi0 hkd hpcx hP9 hX hD1 hY (fun ls hno hl => ?_) (fun ls hye hl => ?_) (D + 1) 0 ls (Nat.zero_le _) (by omega) (fun j hj => absurd hj (Nat.not_lt_zero _)) (lv_sub hl [0, 2, 3, 1] rfl)
    ·
      refine lv_iconst (v := 0) hx hb dX11_standsOverStory_69 (by decide) ?_
      exact W.zret (v := 0) hx hb hr (by decide) (fun t ht hW => ⟨_, rfl, (bP_f (so_n hrx s0 s1 s2 s3 s4 hno)).symm, ht⟩) (fun q h => absurd h List.not_mem_nil) dX11_standsOverStory_70
    ·
      refine lv_iconst (v := 1) hx hb dX11_standsOverStory_61 (by decide) ?_
      exact W.zret (v := 1) hx hb hr (by decide) (fun t ht hW => ⟨_, rfl, (bP_t ⟨hl0, P, X, Y, D, N, s0, s1, s2, s3, s4, hrx, hye⟩).symm, ht⟩) (fun q h => absurd h List.not_mem_nil) dX11_standsOverStory_62
set_option maxHeartbeats 4000000 in
set_option maxRecDepth 100000 in
theorem y_failsAlone (l : Launch) (dC : Nat → ClassId) (dI : Nat → Nat → Nat) (q : Nat → ClassId) (h0 : Nat) (d : Nat → Nat) (k : Nat → Int32) (z : gS) (f : xF) (hI : xI q h0 d k z f) (p0 : Int32) (u : mS) (hrp : rep q d u z f) (hk0 : k 0 = u.1 3) (hk1 : k 1 = u.1 28) (hk2 : k 2 = u.1 38) (hk3 : k 3 = u.1 39) (hpcI : pcI u) (i0 : Nat) (hi0 : i0 < (u.1 3).toNatClampNeg) : Met l yX11_failsAlone wsX11_failsAlone ({ frames := 4, cells := 0, slots := 0, locals := 87 }) (va_Pc [.ref h0, .ref (d (2000 + i0)), .int p0] (PX dC dI (va_pl z.1 f) (xT q))) (vp_Si (fun r => r = bP (faP u i0 p0))) 0 0 (fun _ => False) := by
  refine Met.ofW (cc := cX11_failsAlone) (maxL := 4) (ret := (some .boolean)) (by decide) rfl ?_
  intro p e s m args below meth c s₁ B hml hv
  obtain ⟨rfl, ⟨hP, hK, hN⟩, hXN⟩ := hv
  have hx := B.exec
  have hb := B.bytes
  have hr := B.returns
  have hts := atoms_spec (ws := wsX11_failsAlone) B.pre
  have hown : s.vm.findClass RX11 = some m.cls := findClass_of_methodNamed B.named
  have hlocks := B.notSynchronized
  have hl := lv_entry ([.ref h0, .ref (d (2000 + i0)), .int p0]) (n := 4) (Nat.le_of_ble_eq_true rfl)
  rw [lg_entry_eq]
  generalize (lg_sl ([.ref h0, .ref (d (2000 + i0)), .int p0]) ++ List.replicate (4 - (lg_sl ([.ref h0, .ref (d (2000 + i0)), .int p0])).length) Slot.unset).toArray = ls at hl ⊢
  have hl : lv_has ls 4 [(0, .ref h0), (1, .ref (d (2000 + i0))), (2, .int p0)] := hl
  obtain ⟨rs_1, n_2, g_3, fg_4, hit_5, hs_6, hpa_7, hps_8, h1_9, h6_10, hcb_11, hpl_12, hlg_13, hnn_14, hfa_15, hfs_16, hfe_17, hrs_18, hkt_19⟩ := it_all hI hrp.2.2.1 hi0
  refine lv_iload_n hx hb dX11_failsAlone_0 rfl (lv_at hl 2 rfl) ?_
  refine lv_iconst (v := 4) hx hb dX11_failsAlone_1 (by decide) ?_
  refine lv_icmp_ne (tgt := 34) hx hb dX11_failsAlone_2 (by decide) (fun c_20 => ?_) (fun c_20 => ?_)
  ·
    refine lv_aload_n hx hb dX11_failsAlone_34 rfl (lv_at hl 1 rfl) ?_
    rcases Classical.em (tg z (d (2000 + i0)) 11) with ht9 | ht9
    ·
      have ht_21 := ht9
      have hkd_23 : u.2 4 i0 = 1 := (kT_k (kd_05 hrp.2.2.1 hi0).1 (kd_05 hrp.2.2.1 hi0).2).2.1 (hkt_19.symm.trans ht_21.2)
      obtain ⟨o_44, hx_34, hx_35, hx_36, hx_37⟩ := hrs_18.2.1 hkd_23
      have hs_43 : f (d (2000 + i0)) = .inr (3, [.int (nI i0), .int (u.2 4 i0), .ref (d (3000 + i0)), .int (u.2 22 i0), .ref (d (4000 + i0)), .ref (d (2000 + o_44)), .int (u.2 7 i0), .int (u.2 8 i0)]) := by rw [hs_6, ht_21.2, hx_37]; rfl
      have hit_45 := rI_itm hrp.2.2.1 hx_34
      obtain ⟨kk_46, hk_47⟩ := pl_at ht_21.1 hs_43
      refine va_instS hx hb hown (hts (.classLink RX11 83 "PageOne$Head") (by decide +kernel)) (hK.1 3 (RX3, TX3, 8) rfl).2 (va_recv hK hP (ci := 3) (q0 := kk_46) rfl hk_47) dX11_failsAlone_35 ?_
      refine lv_if_eq (tgt := 58) hx hb dX11_failsAlone_38 (by decide) (fun c_48 => absurd c_48 (by decide)) (fun c_48 => ?_)
      refine lv_aload_n hx hb dX11_failsAlone_41 rfl (lv_at hl 1 rfl) ?_
      obtain ⟨kk_49, hk_50⟩ := pl_at ht_21.1 hs_43
      refine va_castS hx hb hown (hts (.classLink RX11 83 "PageOne$Head") (by decide +kernel)) (hK.1 3 (RX3, TX3, 8) rfl).2 (va_recv hK hP (ci := 3) (q0 := kk_49) rfl hk_50) dX11_failsAlone_42 ?_
      refine lv_astore_n (lv' := [(3, .ref (d (2000 + i0))), (0, .ref h0), (1, .ref (d (2000 + i0))), (2, .int p0)]) hx hb dX11_failsAlone_45 rfl hl (by decide) rfl (fun ls hl => ?_)
      refine lv_aload_n hx hb dX11_failsAlone_46 rfl (lv_at hl 1 rfl) ?_
      refine lv_aload_n hx hb dX11_failsAlone_47 rfl (lv_at hl 0 rfl) ?_
      obtain ⟨kk_51, hk_52⟩ := pl_at hI.2.1.1.1 hI.2.2.2.1.1
      refine vp_callSi (va_runV (As := [.ref (d (2000 + i0))]) (rest := []) ⟨hx, hb, hml, hown, hts⟩ (y_standsOverStory l dC dI q h0 d k z f hI u hrp hk0 hk1 hk2 hk3 hpcI i0 hi0 hkd_23) (cwV 1 hts gX11_failsAlone_X11_standsOverStory rfl rfl rfl (by decide +kernel) ⟨Nat.le_of_ble_eq_true rfl, Nat.le_of_ble_eq_true rfl⟩) ⟨px_fb, va_recv hK hP (ci := 10) (q0 := kk_51) rfl hk_52, fun U hU hW => ⟨rfl, px_to hU hW hP hK hN hXN⟩⟩ rfl rfl hl.1 rfl (lv_room (Nat.le_of_ble_eq_true rfl)) dX11_failsAlone_48 ⟨Nat.le_of_ble_eq_true rfl, Nat.le_of_ble_eq_true rfl⟩).run (fun r hw => ?_)
      obtain rfl : r = (bP (soP u i0)) := hw
      refine lv_if_ne (tgt := 58) hx hb dX11_failsAlone_51 (by decide) (fun c_53 => ?_) (fun c_53 => ?_)
      ·
        refine lv_iconst (v := 0) hx hb dX11_failsAlone_58 (by decide) ?_
        exact W.zret (v := 0) hx hb hr (by decide) (fun t ht hW => ⟨_, rfl, (bP_f (fun h9 => by rcases h9 with h9 | h9; exact c_20 h9.1; exact h9.2.2 (bP_n c_53))).symm, ht⟩) (fun q h => absurd h List.not_mem_nil) dX11_failsAlone_59
      ·
        refine lv_iconst (v := 1) hx hb dX11_failsAlone_54 (by decide) ?_
        refine lv_goto (tgt := 59) hx hb dX11_failsAlone_55 (by decide) ?_
        exact W.zret (v := 1) hx hb hr (by decide) (fun t ht hW => ⟨_, rfl, (bP_t (Or.inr ⟨c_20, hkd_23, bP_0 c_53⟩)).symm, ht⟩) (fun q h => absurd h List.not_mem_nil) dX11_failsAlone_59
    ·
      have hn_22 := ht9
      have hkd_23 : ¬ u.2 4 i0 = 1 := fun e9 => ht9 ⟨hit_5.1, by rw [hkt_19, e9]; rfl⟩
      refine w_then (F0 m 38 ls [.int 0]) (fun hgo => ?_) ?_
      ·
        rcases x_tag hit_5 with ht8 | ht8 | ht8 | ht8 | ht8 | ht8
        ·
          obtain ⟨nu_54, kd_55, cn_56, pa_57, fa_58, l_59, m_60, hs_61, hs_62, hs_63, hs_64⟩ := x_ifl hI ht8
          obtain ⟨kk_65, hk_66⟩ := pl_at ht8.1 hs_61
          exact va_instNo hx hb hown (hts (.classLink RX11 83 "PageOne$Head") (by decide +kernel)) hXN.n_X2_X3 (va_recv hK hP (ci := 2) (q0 := kk_65) rfl hk_66) dX11_failsAlone_35 hgo
        ·
          exact absurd ht8 ht9
        ·
          obtain ⟨nu_67, kd_68, cn_69, pa_70, fa_71, o_72, y_73, hs_74, hs_75, hs_76, hs_77, hq_78⟩ := x_ino hI ht8
          obtain ⟨kk_79, hk_80⟩ := pl_at ht8.1 hs_74
          exact va_instNo hx hb hown (hts (.classLink RX11 83 "PageOne$Head") (by decide +kernel)) hXN.n_X5_X3 (va_recv hK hP (ci := 4) (q0 := kk_79) rfl hk_80) dX11_failsAlone_35 hgo
        ·
          obtain ⟨nu_81, kd_82, cn_83, pa_84, fa_85, b_86, pr_87, sp_88, dy_89, hs_90, hs_91, hs_92, hs_93, hq_94, hq_95, hq_96⟩ := x_ipd hI ht8
          obtain ⟨kk_97, hk_98⟩ := pl_at ht8.1 hs_90
          exact va_instNo hx hb hown (hts (.classLink RX11 83 "PageOne$Head") (by decide +kernel)) hXN.n_X6_X3 (va_recv hK hP (ci := 5) (q0 := kk_97) rfl hk_98) dX11_failsAlone_35 hgo
        ·
          obtain ⟨nu_99, kd_100, cn_101, pa_102, fa_103, ww_104, hh_105, sz_106, hs_107, hs_108, hs_109, hs_110, hq_111, hq_112, hq_113⟩ := x_ipi hI ht8
          obtain ⟨kk_114, hk_115⟩ := pl_at ht8.1 hs_107
          exact va_instNo hx hb hown (hts (.classLink RX11 83 "PageOne$Head") (by decide +kernel)) hXN.n_X7_X3 (va_recv hK hP (ci := 6) (q0 := kk_114) rfl hk_115) dX11_failsAlone_35 hgo
        ·
          obtain ⟨nu_116, kd_117, cn_118, pa_119, fa_120, l_121, co_122, wd_123, nm_124, hs_125, hs_126, hs_127, hs_128, hq_129, hq_130, hq_131⟩ := x_ist hI ht8
          obtain ⟨kk_132, hk_133⟩ := pl_at ht8.1 hs_125
          exact va_instNo hx hb hown (hts (.classLink RX11 83 "PageOne$Head") (by decide +kernel)) hXN.n_X10_X3 (va_recv hK hP (ci := 9) (q0 := kk_132) rfl hk_133) dX11_failsAlone_35 hgo
      ·
        refine lv_if_eq (tgt := 58) hx hb dX11_failsAlone_38 (by decide) (fun c_134 => ?_) (fun c_134 => absurd (by decide) c_134)
        refine lv_iconst (v := 0) hx hb dX11_failsAlone_58 (by decide) ?_
        exact W.zret (v := 0) hx hb hr (by decide) (fun t ht hW => ⟨_, rfl, (bP_f (fun h9 => by rcases h9 with h9 | h9; exact c_20 h9.1; exact hkd_23 h9.2.1)).symm, ht⟩) (fun q h => absurd h List.not_mem_nil) dX11_failsAlone_59
  ·
    refine lv_aload_n hx hb dX11_failsAlone_5 rfl (lv_at hl 1 rfl) ?_
    rcases Classical.em (tg z (d (2000 + i0)) 15) with ht9 | ht9
    ·
      have ht_135 := ht9
      have hkd_137 : u.2 4 i0 = 0 := (kT_k (kd_05 hrp.2.2.1 hi0).1 (kd_05 hrp.2.2.1 hi0).2).1 (hkt_19.symm.trans ht_135.2)
      obtain ⟨hx_138, hx_139, hx_140, ⟨hx_141, hx_142, hx_143⟩, hx_144, hx_145, hx_146⟩ := hrs_18.1 hkd_137
      have hs_147 : f (d (2000 + i0)) = .inr (9, [.int (nI i0), .int (u.2 4 i0), .ref (d (3000 + i0)), .int (u.2 22 i0), .ref (d (4000 + i0)), .int (u.2 5 i0), .ref (d (5000 + i0)), .int (u.2 15 i0), .ref (d (6000 + i0))]) := by rw [hs_6, ht_135.2, hx_138]; rfl
      obtain ⟨kk_158, hk_159⟩ := pl_at ht_135.1 hs_147
      refine va_instS hx hb hown (hts (.classLink RX11 66 "PageOne$Story") (by decide +kernel)) (hK.1 9 (RX10, TX10, 9) rfl).2 (va_recv hK hP (ci := 9) (q0 := kk_158) rfl hk_159) dX11_failsAlone_6 ?_
      refine lv_if_eq (tgt := 32) hx hb dX11_failsAlone_9 (by decide) (fun c_160 => absurd c_160 (by decide)) (fun c_160 => ?_)
      refine lv_aload_n hx hb dX11_failsAlone_12 rfl (lv_at hl 1 rfl) ?_
      obtain ⟨kk_161, hk_162⟩ := pl_at ht_135.1 hs_147
      refine va_castS hx hb hown (hts (.classLink RX11 66 "PageOne$Story") (by decide +kernel)) (hK.1 9 (RX10, TX10, 9) rfl).2 (va_recv hK hP (ci := 9) (q0 := kk_161) rfl hk_162) dX11_failsAlone_13 ?_
      refine lv_astore_n (lv' := [(3, .ref (d (2000 + i0))), (0, .ref h0), (1, .ref (d (2000 + i0))), (2, .int p0)]) hx hb dX11_failsAlone_16 rfl hl (by decide) rfl (fun ls hl => ?_)
      refine lv_aload_n hx hb dX11_failsAlone_17 rfl (lv_at hl 0 rfl) ?_
      obtain ⟨kk_163, hk_164⟩ := pl_at ht_135.1 hs_147
      refine vp_callSi (va_runV (As := []) (rest := []) ⟨hx, hb, hml, hown, hts⟩ (y_standing l dC dI q h0 d k z f hI (d (2000 + i0)) (d (3000 + i0)) (d (4000 + i0)) (d (5000 + i0)) (d (6000 + i0)) (nI i0) (u.2 4 i0) (u.2 22 i0) (u.2 5 i0) (u.2 15 i0) ht_135 hs_147 n_2 g_3 (pR u i0) hpa_7 hps_8 h1_9 h6_10 hcb_11 hpl_12) (cwV 0 hts gX11_failsAlone_X10_standing rfl rfl rfl (by decide +kernel) ⟨Nat.le_of_ble_eq_true rfl, Nat.le_of_ble_eq_true rfl⟩) ⟨px_fb, va_recv hK hP (ci := 9) (q0 := kk_163) rfl hk_164, fun U hU hW => ⟨rfl, px_to hU hW hP hK hN hXN⟩⟩ rfl rfl hl.1 rfl (lv_room (Nat.le_of_ble_eq_true rfl)) dX11_failsAlone_18 ⟨Nat.le_of_ble_eq_true rfl, Nat.le_of_ble_eq_true rfl⟩).run (fun r hw => ?_)
      obtain rfl : r = (s_standing (u.2 22 i0) (pR u i0)) := hw
      refine lv_aload_n hx hb dX11_failsAlone_21 rfl (lv_at hl 0 rfl) ?_
      obtain ⟨kk_165, hk_166⟩ := pl_at ht_135.1 hs_147
      refine va_get (D := (dC, dI)) (ci := 9) (v := .int (u.2 5 i0)) (C := RX10) (T := TX10) (N := 9) hx hb hts (by decide +kernel) hown hK hP kk_165 hk_166 rfl 5 (by decide) (hts (.fieldLink RX11 366 "PageOne$Story" "least" "I") (by decide +kernel)) (fun _ h9 => h9) rfl dX11_failsAlone_22 ?_
      refine lv_icmp_ge (tgt := 32) hx hb dX11_failsAlone_25 (by decide) (fun c_167 => ?_) (fun c_167 => ?_)
      ·
        refine lv_iconst (v := 0) hx hb dX11_failsAlone_32 (by decide) ?_
        exact W.zret (v := 0) hx hb hr (by decide) (fun t ht hW => ⟨_, rfl, (bP_f (fun h9 => by rcases h9 with h9 | h9; have h8 := h9.2.2; have h7 := c_167; rw [i32_le] at h7; rw [i32_lt] at h8; omega; exact h9.1 c_20)).symm, ht⟩) (fun q h => absurd h List.not_mem_nil) dX11_failsAlone_33
      ·
        refine lv_iconst (v := 1) hx hb dX11_failsAlone_28 (by decide) ?_
        refine lv_goto (tgt := 33) hx hb dX11_failsAlone_29 (by decide) ?_
        exact W.zret (v := 1) hx hb hr (by decide) (fun t ht hW => ⟨_, rfl, (bP_t (Or.inl ⟨c_20, hkd_137, by have h9 := c_167; rw [i32_le] at h9; rw [i32_lt]; omega⟩)).symm, ht⟩) (fun q h => absurd h List.not_mem_nil) dX11_failsAlone_33
    ·
      have hn_136 := ht9
      have hkd_137 : ¬ u.2 4 i0 = 0 := fun e9 => ht9 ⟨hit_5.1, by rw [hkt_19, e9]; rfl⟩
      refine w_then (F0 m 9 ls [.int 0]) (fun hgo => ?_) ?_
      ·
        rcases x_tag hit_5 with ht8 | ht8 | ht8 | ht8 | ht8 | ht8
        ·
          obtain ⟨nu_168, kd_169, cn_170, pa_171, fa_172, l_173, m_174, hs_175, hs_176, hs_177, hs_178⟩ := x_ifl hI ht8
          obtain ⟨kk_179, hk_180⟩ := pl_at ht8.1 hs_175
          exact va_instNo hx hb hown (hts (.classLink RX11 66 "PageOne$Story") (by decide +kernel)) hXN.n_X2_X10 (va_recv hK hP (ci := 2) (q0 := kk_179) rfl hk_180) dX11_failsAlone_6 hgo
        ·
          obtain ⟨nu_181, kd_182, cn_183, pa_184, fa_185, o_186, w_187, y_188, hs_189, hs_190, hs_191, hs_192, hq_193⟩ := x_ihd hI ht8
          obtain ⟨kk_194, hk_195⟩ := pl_at ht8.1 hs_189
          exact va_instNo hx hb hown (hts (.classLink RX11 66 "PageOne$Story") (by decide +kernel)) hXN.n_X3_X10 (va_recv hK hP (ci := 3) (q0 := kk_194) rfl hk_195) dX11_failsAlone_6 hgo
        ·
          obtain ⟨nu_196, kd_197, cn_198, pa_199, fa_200, o_201, y_202, hs_203, hs_204, hs_205, hs_206, hq_207⟩ := x_ino hI ht8
          obtain ⟨kk_208, hk_209⟩ := pl_at ht8.1 hs_203
          exact va_instNo hx hb hown (hts (.classLink RX11 66 "PageOne$Story") (by decide +kernel)) hXN.n_X5_X10 (va_recv hK hP (ci := 4) (q0 := kk_208) rfl hk_209) dX11_failsAlone_6 hgo
        ·
          obtain ⟨nu_210, kd_211, cn_212, pa_213, fa_214, b_215, pr_216, sp_217, dy_218, hs_219, hs_220, hs_221, hs_222, hq_223, hq_224, hq_225⟩ := x_ipd hI ht8
          obtain ⟨kk_226, hk_227⟩ := pl_at ht8.1 hs_219
          exact va_instNo hx hb hown (hts (.classLink RX11 66 "PageOne$Story") (by decide +kernel)) hXN.n_X6_X10 (va_recv hK hP (ci := 5) (q0 := kk_226) rfl hk_227) dX11_failsAlone_6 hgo
        ·
          obtain ⟨nu_228, kd_229, cn_230, pa_231, fa_232, ww_233, hh_234, sz_235, hs_236, hs_237, hs_238, hs_239, hq_240, hq_241, hq_242⟩ := x_ipi hI ht8
          obtain ⟨kk_243, hk_244⟩ := pl_at ht8.1 hs_236
          exact va_instNo hx hb hown (hts (.classLink RX11 66 "PageOne$Story") (by decide +kernel)) hXN.n_X7_X10 (va_recv hK hP (ci := 6) (q0 := kk_243) rfl hk_244) dX11_failsAlone_6 hgo
        ·
          exact absurd ht8 ht9
      ·
        refine lv_if_eq (tgt := 32) hx hb dX11_failsAlone_9 (by decide) (fun c_245 => ?_) (fun c_245 => absurd (by decide) c_245)
        refine lv_iconst (v := 0) hx hb dX11_failsAlone_32 (by decide) ?_
        exact W.zret (v := 0) hx hb hr (by decide) (fun t ht hW => ⟨_, rfl, (bP_f (fun h9 => by rcases h9 with h9 | h9; exact hkd_137 h9.2.1; exact h9.1 c_20)).symm, ht⟩) (fun q h => absurd h List.not_mem_nil) dX11_failsAlone_33
/-- an item on a page; two items that meet there -/
def onP (u : mS) (i : Nat) (p : Int32) : Prop := ∃ j, j < (u.2 22 i).toNatClampNeg ∧ pR u i j 0 = p
def mtP (u : mS) (i j : Nat) (p sw : Int32) : Prop := ∃ t, t < (u.2 22 i).toNatClampNeg ∧ s_mt (pR u i) (pR u j) (u.2 22 j) p sw t
def swA (kd : Int32) : Int32 := if kd = 3 then 1 else 0
def lpB (u : mS) (p kd : Int32) (a b : Nat) : Prop := mnP u a b kd ∧ mtP u a b p (swA kd)
def lpC (u : mS) (p kd : Int32) (a b : Nat) : Prop := onP u a p ∧ lpB u p kd a b
/-- the least pair -/
def lpM (u : mS) (p kd : Int32) (K a b : Nat) : Prop := a < b ∧ b < K ∧ lpC u p kd a b ∧ ∀ a' b', a' < b' → b' < K → (a' < a ∨ (a' = a ∧ b' < b)) → ¬ lpC u p kd a' b'
set_option maxHeartbeats 4000000 in
set_option maxRecDepth 100000 in
theorem y_lp_in {p : Program} {l : Launch} {e : Env} {R : Room} {s : State} {m : MethodId} {args : Array Value} {below : List Frame} {meth : Method} {c : Code} {Q : State → Prop} {cells slots : Nat} {dC : Nat → ClassId} {dI : Nat → Nat → Nat} {q : Nat → ClassId} {h0 : Nat} {d : Nat → Nat} {k : Nat → Int32} {z : gS} {f : xF} {H : Heap} {locs : List Loc} (hI : xI q h0 d k z f) (hx : p.tables.exec = Jvm.exec) (hb : c.code = cX11_leastPair) (hml : c.maxLocals = 5) (hts : ∀ w ∈ wsX11_leastPair, w.before args s = true) (hown : s.vm.findClass RX11 = some m.cls) (hN : NN s) (hXN : XN s) (hK : va_K (dC, dI) vwCl (xT q) s) (hRf : 3 ≤ R.frames) (hRl : 69 ≤ R.locals) (hRc : cells ≤ R.cells) (hRs : slots ≤ R.slots) (hP : va_P (dC, dI) vwCl (va_pl z.1 f) H) {u : mS} (hrp : rep q d u z f) (hk0 : k 0 = u.1 3) (hk1 : k 1 = u.1 28) (hk2 : k 2 = u.1 38) (hk3 : k 3 = u.1 39) {K : Nat} (hK8 : K ≤ 80) (eK : k 0 = nI K) (eKn : (u.1 3).toNatClampNeg = K) (hkB : kB u) {p0 p1 : Int32} {a9 : Nat} (ha9 : a9 < K) (kx109 : ∀ (ls : Array Slot), (∀ b, a9 < b → b < K → ¬ lpB u p0 p1 a9 b) → lv_has ls 5 [(3, .int (nI a9)), (0, .ref h0), (1, .int p0), (2, .int p1)] → W p l e R s m args below meth c H locs cells slots Q (F0 m 109 ls [])) (kx91 : ∀ (b9 : Nat) (ls : Array Slot), (a9 < b9 ∧ b9 < K ∧ lpB u p0 p1 a9 b9 ∧ (∀ b, a9 < b → b < b9 → ¬ lpB u p0 p1 a9 b)) → lv_has ls 5 [(4, .int (nI b9)), (3, .int (nI a9)), (0, .ref h0), (1, .int p0), (2, .int p1)] → W p l e R s m args below meth c H locs cells slots Q (F0 m 91 ls [])) : ∀ (kk i : Nat) (ls : Array Slot), i ≤ K → K - i < kk → (a9 < i ∧ (∀ b, a9 < b → b < i → ¬ lpB u p0 p1 a9 b)) → lv_has ls 5 [(4, .int (nI i)), (3, .int (nI a9)), (0, .ref h0), (1, .int p0), (2, .int p1)] → W p l e R s m args below meth c H locs cells slots Q (F0 m 31 ls []) := by
  intro kk
  induction kk with
  | zero => intro i ls h1 h2; exact absurd h2 (Nat.not_lt_zero _)
  | succ kk ih =>
    intro i ls hi hkk hg0 hl
    obtain ⟨hai, hg⟩ := hg0
    have hgl := hg
    refine lv_iload hx hb dX11_leastPair_31 (lv_at hl 0 rfl) ?_
    refine lv_aload_n hx hb dX11_leastPair_33 rfl (lv_at hl 2 rfl) ?_
    obtain ⟨kk_1, hk_2⟩ := pl_at hI.2.1.1.1 hI.2.2.2.1.1
    refine va_get (D := (dC, dI)) (ci := 10) (v := .int (k 0)) (C := RX11) (T := TX11) (N := 9) hx hb hts (by decide +kernel) hown hK hP kk_1 hk_2 rfl 3 (by decide) (hts (.fieldLink RX11 24 "PageOne" "itemCount" "I") (by decide +kernel)) (fun _ h9 => h9) rfl dX11_leastPair_34 ?_
    refine lv_topi (fun y_3 ey_3 => ?_)
    obtain rfl : y_3 = (nI K) := ey_3.trans (eK)
    refine lv_icmp_ge (tgt := 109) hx hb dX11_leastPair_37 (by decide) (fun c_4 => ?_) (fun c_4 => ?_)
    ·
      have hie : i = K := lp_eq rfl (by omega) hi c_4
      exact kx109 ls (by rw [hie] at hg; exact hg) (lv_sub hl [1, 2, 3, 4] rfl)
    ·
      have hlt : i < K := lp_lt rfl (by omega) hi c_4
      refine lv_aload_n hx hb dX11_leastPair_40 rfl (lv_at hl 2 rfl) ?_
      refine lv_aload_n hx hb dX11_leastPair_41 rfl (lv_at hl 2 rfl) ?_
      obtain ⟨kk_5, hk_6⟩ := pl_at hI.2.1.1.1 hI.2.2.2.1.1
      refine va_get (D := (dC, dI)) (ci := 10) (v := .ref (d 2)) (C := RX11) (T := TX11) (N := 9) hx hb hts (by decide +kernel) hown hK hP kk_5 hk_6 rfl 2 (by decide) (hts (.fieldLink RX11 20 "PageOne" "items" "[LPageOne$Item;") (by decide +kernel)) (fun _ h9 => h9) rfl dX11_leastPair_42 ?_
      refine lv_iload_n hx hb dX11_leastPair_45 rfl (lv_at hl 1 rfl) ?_
      obtain ⟨g_7, hs_8, hn_9, hg_10⟩ := x_itm hI
      obtain ⟨kk_11, hk_12⟩ := pl_at hI.2.1.2.2.2.1.1 hs_8
      refine va_aldq hx hb hK hP kk_11 3 hk_12 rfl (vp_in_nI (by omega) (by decide)) dX11_leastPair_46 ?_
      obtain ⟨b_13, hg_14⟩ := hn_9 ((nI a9) : Int32).toNatClampNeg (by rw [eK, nI_clamp (by omega), nI_clamp (by omega)]; exact ha9)
      have ht_15 := hg_10 ((nI a9) : Int32).toNatClampNeg (vlt (vp_in_nI (by omega) (by decide))) b_13 hg_14
      rw [hg_14]
      refine W.eq (g2 := F0 m 47 ls [.ref b_13, .ref h0]) rfl ?_
      have hb_16 := rI_at hrp.2.2.1 hs_8 (by rw [eKn]; exact ha9) (by rw [nI_clamp (by omega)] at hg_14; exact hg_14)
      subst hb_16
      obtain ⟨rs_17, n_18, g_19, fg_20, hit_21, hs_22, hpa_23, hps_24, h1_25, h6_26, hcb_27, hpl_28, hlg_29, hnn_30, hfa_31, hfs_32, hfe_33, hrs_34, hkt_35⟩ := it_all hI hrp.2.2.1 (by rw [eKn]; exact ha9)
      refine lv_aload_n hx hb dX11_leastPair_47 rfl (lv_at hl 2 rfl) ?_
      obtain ⟨kk_36, hk_37⟩ := pl_at hI.2.1.1.1 hI.2.2.2.1.1
      refine va_get (D := (dC, dI)) (ci := 10) (v := .ref (d 2)) (C := RX11) (T := TX11) (N := 9) hx hb hts (by decide +kernel) hown hK hP kk_36 hk_37 rfl 2 (by decide) (hts (.fieldLink RX11 20 "PageOne" "items" "[LPageOne$Item;") (by decide +kernel)) (fun _ h9 => h9) rfl dX11_leastPair_48 ?_
      refine lv_iload hx hb dX11_leastPair_51 (lv_at hl 0 rfl) ?_
      obtain ⟨kk_38, hk_39⟩ := pl_at hI.2.1.2.2.2.1.1 hs_8
      refine va_aldq hx hb hK hP kk_38 3 hk_39 rfl (vp_in_nI (by omega) (by decide)) dX11_leastPair_53 ?_
      obtain ⟨b_40, hg_41⟩ := hn_9 ((nI i) : Int32).toNatClampNeg (by rw [eK, nI_clamp (by omega), nI_clamp (by omega)]; exact hlt)
      have ht_42 := hg_10 ((nI i) : Int32).toNatClampNeg (vlt (vp_in_nI (by omega) (by decide))) b_40 hg_41
      rw [hg_41]
      refine W.eq (g2 := F0 m 54 ls [.ref b_40, .ref (d (2000 + a9)), .ref h0]) rfl ?_
      have hb_43 := rI_at hrp.2.2.1 hs_8 (by rw [eKn]; exact hlt) (by rw [nI_clamp (by omega)] at hg_41; exact hg_41)
      subst hb_43
      obtain ⟨rs_44, n_45, g_46, fg_47, hit_48, hs_49, hpa_50, hps_51, h1_52, h6_53, hcb_54, hpl_55, hlg_56, hnn_57, hfa_58, hfs_59, hfe_60, hrs_61, hkt_62⟩ := it_all hI hrp.2.2.1 (by rw [eKn]; exact hlt)
      refine lv_iload_n hx hb dX11_leastPair_54 rfl (lv_at hl 4 rfl) ?_
      obtain ⟨kk_63, hk_64⟩ := pl_at hI.2.1.1.1 hI.2.2.2.1.1
      refine vp_callSi (va_runV (As := [.ref (d (2000 + a9)), .ref (d (2000 + i)), .int p1]) (rest := []) ⟨hx, hb, hml, hown, hts⟩ (y_mayNotMeet l dC dI q h0 d k z f hI p1 u hrp hk0 hk1 hk2 hk3 a9 i (by rw [eKn]; exact ha9) (by rw [eKn]; exact hlt) hkB) (cwV 3 hts gX11_leastPair_X11_mayNotMeet rfl rfl rfl (by decide +kernel) ⟨Nat.le_trans (Nat.le_of_ble_eq_true rfl) hRf, Nat.le_trans (Nat.le_of_ble_eq_true rfl) hRl⟩) ⟨px_fb, va_recv hK hP (ci := 10) (q0 := kk_63) rfl hk_64, fun U hU hW => ⟨rfl, px_to hU hW hP hK hN hXN⟩⟩ rfl rfl hl.1 rfl (lv_room (Nat.le_of_ble_eq_true rfl)) dX11_leastPair_55 ⟨hRc, hRs⟩).run (fun r hw => ?_)
      obtain rfl : r = (bP (mnP u a9 i p1)) := hw
      refine lv_if_eq (tgt := 103) hx hb dX11_leastPair_58 (by decide) (fun c_65 => ?_) (fun c_65 => ?_)
      ·
        refine lv_iinc (v := (nI (i + 1))) (lv' := [(4, .int (nI (i + 1))), (3, .int (nI a9)), (0, .ref h0), (1, .int p0), (2, .int p1)]) hx hb dX11_leastPair_103 hl (k := 0) rfl (nI_1 i) (by decide) rfl (fun ls hl => ?_)
        refine lv_goto (tgt := 31) hx hb dX11_leastPair_106 (by decide) ?_
        exact ih (i + 1) ls (by omega) (by omega) ⟨by omega, (fun b hb1 hb2 => by rcases Nat.lt_succ_iff_lt_or_eq.mp hb2 with h9 | h9; exact hgl b hb1 h9; rw [h9]; exact fun h8 => bP_0 c_65 h8.1)⟩ (lv_sub hl [0, 1, 2, 3, 4] rfl)
      ·
        refine lv_aload_n hx hb dX11_leastPair_61 rfl (lv_at hl 2 rfl) ?_
        obtain ⟨kk_66, hk_67⟩ := pl_at hI.2.1.1.1 hI.2.2.2.1.1
        refine va_get (D := (dC, dI)) (ci := 10) (v := .ref (d 2)) (C := RX11) (T := TX11) (N := 9) hx hb hts (by decide +kernel) hown hK hP kk_66 hk_67 rfl 2 (by decide) (hts (.fieldLink RX11 20 "PageOne" "items" "[LPageOne$Item;") (by decide +kernel)) (fun _ h9 => h9) rfl dX11_leastPair_62 ?_
        refine lv_iload_n hx hb dX11_leastPair_65 rfl (lv_at hl 1 rfl) ?_
        obtain ⟨kk_68, hk_69⟩ := pl_at hI.2.1.2.2.2.1.1 hs_8
        refine va_aldq hx hb hK hP kk_68 3 hk_69 rfl (vp_in_nI (by omega) (by decide)) dX11_leastPair_66 ?_
        obtain ⟨b_70, hg_71⟩ := hn_9 ((nI a9) : Int32).toNatClampNeg (by rw [eK, nI_clamp (by omega), nI_clamp (by omega)]; exact ha9)
        have ht_72 := hg_10 ((nI a9) : Int32).toNatClampNeg (vlt (vp_in_nI (by omega) (by decide))) b_70 hg_71
        rw [hg_71]
        refine W.eq (g2 := F0 m 67 ls [.ref b_70]) rfl ?_
        have hb_73 := rI_at hrp.2.2.1 hs_8 (by rw [eKn]; exact ha9) (by rw [nI_clamp (by omega)] at hg_71; exact hg_71)
        subst hb_73
        obtain ⟨rs_74, n_75, g_76, fg_77, hit_78, hs_79, hpa_80, hps_81, h1_82, h6_83, hcb_84, hpl_85, hlg_86, hnn_87, hfa_88, hfs_89, hfe_90, hrs_91, hkt_92⟩ := it_all hI hrp.2.2.1 (by rw [eKn]; exact ha9)
        refine lv_aload_n hx hb dX11_leastPair_67 rfl (lv_at hl 2 rfl) ?_
        obtain ⟨kk_93, hk_94⟩ := pl_at hI.2.1.1.1 hI.2.2.2.1.1
        refine va_get (D := (dC, dI)) (ci := 10) (v := .ref (d 2)) (C := RX11) (T := TX11) (N := 9) hx hb hts (by decide +kernel) hown hK hP kk_93 hk_94 rfl 2 (by decide) (hts (.fieldLink RX11 20 "PageOne" "items" "[LPageOne$Item;") (by decide +kernel)) (fun _ h9 => h9) rfl dX11_leastPair_68 ?_
        refine lv_iload hx hb dX11_leastPair_71 (lv_at hl 0 rfl) ?_
        obtain ⟨kk_95, hk_96⟩ := pl_at hI.2.1.2.2.2.1.1 hs_8
        refine va_aldq hx hb hK hP kk_95 3 hk_96 rfl (vp_in_nI (by omega) (by decide)) dX11_leastPair_73 ?_
        obtain ⟨b_97, hg_98⟩ := hn_9 ((nI i) : Int32).toNatClampNeg (by rw [eK, nI_clamp (by omega), nI_clamp (by omega)]; exact hlt)
        have ht_99 := hg_10 ((nI i) : Int32).toNatClampNeg (vlt (vp_in_nI (by omega) (by decide))) b_97 hg_98
        rw [hg_98]
        refine W.eq (g2 := F0 m 74 ls [.ref b_97, .ref (d (2000 + a9))]) rfl ?_
        have hb_100 := rI_at hrp.2.2.1 hs_8 (by rw [eKn]; exact hlt) (by rw [nI_clamp (by omega)] at hg_98; exact hg_98)
        subst hb_100
        obtain ⟨rs_101, n_102, g_103, fg_104, hit_105, hs_106, hpa_107, hps_108, h1_109, h6_110, hcb_111, hpl_112, hlg_113, hnn_114, hfa_115, hfs_116, hfe_117, hrs_118, hkt_119⟩ := it_all hI hrp.2.2.1 (by rw [eKn]; exact hlt)
        refine lv_iload_n hx hb dX11_leastPair_74 rfl (lv_at hl 3 rfl) ?_
        refine lv_iload_n hx hb dX11_leastPair_75 rfl (lv_at hl 4 rfl) ?_
        refine lv_iconst (v := 3) hx hb dX11_leastPair_76 (by decide) ?_
        refine lv_icmp_ne (tgt := 84) hx hb dX11_leastPair_77 (by decide) (fun c_120 => ?_) (fun c_120 => ?_)
        ·
          refine lv_iconst (v := 0) hx hb dX11_leastPair_84 (by decide) ?_
          refine w_cut (X := fun R cells slots Q args => ∀ r : Int32, (r = (bP (mtP u a9 i p0 0))) → W p l e R s m args below meth c H locs cells slots Q (F0 m 88 ls (.int r :: []))) ?_ (fun kC => ?_)
          ·
            intro r hw
            obtain rfl : r = (bP (mtP u a9 i p0 0)) := hw
            refine lv_if_eq (tgt := 103) hx hb dX11_leastPair_88 (by decide) (fun c_216 => ?_) (fun c_216 => ?_)
            ·
              refine lv_iinc (v := (nI (i + 1))) (lv' := [(4, .int (nI (i + 1))), (3, .int (nI a9)), (0, .ref h0), (1, .int p0), (2, .int p1)]) hx hb dX11_leastPair_103 hl (k := 0) rfl (nI_1 i) (by decide) rfl (fun ls hl => ?_)
              refine lv_goto (tgt := 31) hx hb dX11_leastPair_106 (by decide) ?_
              exact ih (i + 1) ls (by omega) (by omega) ⟨by omega, (fun b hb1 hb2 => by rcases Nat.lt_succ_iff_lt_or_eq.mp hb2 with h9 | h9; exact hgl b hb1 h9; rw [h9]; exact fun h8 => bP_0 c_216 (by have h7 := h8.2; rw [(show swA p1 = 0 from if_neg c_120)] at h7; exact h7))⟩ (lv_sub hl [0, 1, 2, 3, 4] rfl)
            ·
              exact kx91 _ ls ⟨hai, hlt, ⟨bP_n c_65, by rw [(show swA p1 = 0 from if_neg c_120)]; exact bP_n c_216⟩, hg⟩ (lv_sub hl [0, 1, 2, 3, 4] rfl)
          ·
            rcases x_tag hit_78 with ht9 | ht9 | ht9 | ht9 | ht9 | ht9
            ·
              obtain ⟨nu_121, kd_122, cn_123, pa_124, fa_125, l_126, m_127, hs_128, hs_129, hs_130, hs_131⟩ := x_ifl hI ht9
              obtain ⟨kk_132, hk_133⟩ := pl_at ht9.1 hs_128
              exact vp_callSi (va_runU (As := [.ref (d (2000 + i)), .int p0, .int 0]) (rest := []) ⟨hx, hb, hml, hown, hts⟩ (y_meets l dC dI q h0 d k z f hI (d (2000 + a9)) hit_78 (nI a9) (u.2 4 a9) (u.2 22 a9) (d (3000 + a9)) (d (4000 + a9)) rs_74 hs_79 n_75 g_76 (pR u a9) hpa_80 hps_81 h1_82 h6_83 hcb_84 hpl_85 (d (2000 + i)) hit_105 (nI i) (u.2 4 i) (u.2 22 i) (d (3000 + i)) (d (4000 + i)) rs_101 hs_106 n_102 g_103 (pR u i) hpa_107 hps_108 h1_109 h6_110 hcb_111 hpl_112 p0 0) (va_cwU 3 hts gX11_leastPair_X4_meets_u358X2 rfl rfl rfl rfl (by decide +kernel) ⟨Nat.le_trans (Nat.le_of_ble_eq_true rfl) hRf, Nat.le_trans (Nat.le_of_ble_eq_true rfl) hRl⟩) ⟨px_fb, va_recv hK hP (ci := 2) (q0 := kk_132) rfl hk_133, fun U hU hW => ⟨rfl, px_to hU hW hP hK hN hXN⟩⟩ rfl rfl hl.1 rfl (lv_room (Nat.le_of_ble_eq_true rfl)) dX11_leastPair_85 ⟨hRc, hRs⟩).run (fun r hw => kC r hw)
            ·
              obtain ⟨nu_134, kd_135, cn_136, pa_137, fa_138, o_139, w_140, y_141, hs_142, hs_143, hs_144, hs_145, hq_146⟩ := x_ihd hI ht9
              obtain ⟨kk_147, hk_148⟩ := pl_at ht9.1 hs_142
              exact vp_callSi (va_runU (As := [.ref (d (2000 + i)), .int p0, .int 0]) (rest := []) ⟨hx, hb, hml, hown, hts⟩ (y_meets l dC dI q h0 d k z f hI (d (2000 + a9)) hit_78 (nI a9) (u.2 4 a9) (u.2 22 a9) (d (3000 + a9)) (d (4000 + a9)) rs_74 hs_79 n_75 g_76 (pR u a9) hpa_80 hps_81 h1_82 h6_83 hcb_84 hpl_85 (d (2000 + i)) hit_105 (nI i) (u.2 4 i) (u.2 22 i) (d (3000 + i)) (d (4000 + i)) rs_101 hs_106 n_102 g_103 (pR u i) hpa_107 hps_108 h1_109 h6_110 hcb_111 hpl_112 p0 0) (va_cwU 3 hts gX11_leastPair_X4_meets_u358X3 rfl rfl rfl rfl (by decide +kernel) ⟨Nat.le_trans (Nat.le_of_ble_eq_true rfl) hRf, Nat.le_trans (Nat.le_of_ble_eq_true rfl) hRl⟩) ⟨px_fb, va_recv hK hP (ci := 3) (q0 := kk_147) rfl hk_148, fun U hU hW => ⟨rfl, px_to hU hW hP hK hN hXN⟩⟩ rfl rfl hl.1 rfl (lv_room (Nat.le_of_ble_eq_true rfl)) dX11_leastPair_85 ⟨hRc, hRs⟩).run (fun r hw => kC r hw)
            ·
              obtain ⟨nu_149, kd_150, cn_151, pa_152, fa_153, o_154, y_155, hs_156, hs_157, hs_158, hs_159, hq_160⟩ := x_ino hI ht9
              obtain ⟨kk_161, hk_162⟩ := pl_at ht9.1 hs_156
              exact vp_callSi (va_runU (As := [.ref (d (2000 + i)), .int p0, .int 0]) (rest := []) ⟨hx, hb, hml, hown, hts⟩ (y_meets l dC dI q h0 d k z f hI (d (2000 + a9)) hit_78 (nI a9) (u.2 4 a9) (u.2 22 a9) (d (3000 + a9)) (d (4000 + a9)) rs_74 hs_79 n_75 g_76 (pR u a9) hpa_80 hps_81 h1_82 h6_83 hcb_84 hpl_85 (d (2000 + i)) hit_105 (nI i) (u.2 4 i) (u.2 22 i) (d (3000 + i)) (d (4000 + i)) rs_101 hs_106 n_102 g_103 (pR u i) hpa_107 hps_108 h1_109 h6_110 hcb_111 hpl_112 p0 0) (va_cwU 3 hts gX11_leastPair_X4_meets_u358X5 rfl rfl rfl rfl (by decide +kernel) ⟨Nat.le_trans (Nat.le_of_ble_eq_true rfl) hRf, Nat.le_trans (Nat.le_of_ble_eq_true rfl) hRl⟩) ⟨px_fb, va_recv hK hP (ci := 4) (q0 := kk_161) rfl hk_162, fun U hU hW => ⟨rfl, px_to hU hW hP hK hN hXN⟩⟩ rfl rfl hl.1 rfl (lv_room (Nat.le_of_ble_eq_true rfl)) dX11_leastPair_85 ⟨hRc, hRs⟩).run (fun r hw => kC r hw)
            ·
              obtain ⟨nu_163, kd_164, cn_165, pa_166, fa_167, b_168, pr_169, sp_170, dy_171, hs_172, hs_173, hs_174, hs_175, hq_176, hq_177, hq_178⟩ := x_ipd hI ht9
              obtain ⟨kk_179, hk_180⟩ := pl_at ht9.1 hs_172
              exact vp_callSi (va_runU (As := [.ref (d (2000 + i)), .int p0, .int 0]) (rest := []) ⟨hx, hb, hml, hown, hts⟩ (y_meets l dC dI q h0 d k z f hI (d (2000 + a9)) hit_78 (nI a9) (u.2 4 a9) (u.2 22 a9) (d (3000 + a9)) (d (4000 + a9)) rs_74 hs_79 n_75 g_76 (pR u a9) hpa_80 hps_81 h1_82 h6_83 hcb_84 hpl_85 (d (2000 + i)) hit_105 (nI i) (u.2 4 i) (u.2 22 i) (d (3000 + i)) (d (4000 + i)) rs_101 hs_106 n_102 g_103 (pR u i) hpa_107 hps_108 h1_109 h6_110 hcb_111 hpl_112 p0 0) (va_cwU 3 hts gX11_leastPair_X4_meets_u358X6 rfl rfl rfl rfl (by decide +kernel) ⟨Nat.le_trans (Nat.le_of_ble_eq_true rfl) hRf, Nat.le_trans (Nat.le_of_ble_eq_true rfl) hRl⟩) ⟨px_fb, va_recv hK hP (ci := 5) (q0 := kk_179) rfl hk_180, fun U hU hW => ⟨rfl, px_to hU hW hP hK hN hXN⟩⟩ rfl rfl hl.1 rfl (lv_room (Nat.le_of_ble_eq_true rfl)) dX11_leastPair_85 ⟨hRc, hRs⟩).run (fun r hw => kC r hw)
            ·
              obtain ⟨nu_181, kd_182, cn_183, pa_184, fa_185, ww_186, hh_187, sz_188, hs_189, hs_190, hs_191, hs_192, hq_193, hq_194, hq_195⟩ := x_ipi hI ht9
              obtain ⟨kk_196, hk_197⟩ := pl_at ht9.1 hs_189
              exact vp_callSi (va_runU (As := [.ref (d (2000 + i)), .int p0, .int 0]) (rest := []) ⟨hx, hb, hml, hown, hts⟩ (y_meets l dC dI q h0 d k z f hI (d (2000 + a9)) hit_78 (nI a9) (u.2 4 a9) (u.2 22 a9) (d (3000 + a9)) (d (4000 + a9)) rs_74 hs_79 n_75 g_76 (pR u a9) hpa_80 hps_81 h1_82 h6_83 hcb_84 hpl_85 (d (2000 + i)) hit_105 (nI i) (u.2 4 i) (u.2 22 i) (d (3000 + i)) (d (4000 + i)) rs_101 hs_106 n_102 g_103 (pR u i) hpa_107 hps_108 h1_109 h6_110 hcb_111 hpl_112 p0 0) (va_cwU 3 hts gX11_leastPair_X4_meets_u358X7 rfl rfl rfl rfl (by decide +kernel) ⟨Nat.le_trans (Nat.le_of_ble_eq_true rfl) hRf, Nat.le_trans (Nat.le_of_ble_eq_true rfl) hRl⟩) ⟨px_fb, va_recv hK hP (ci := 6) (q0 := kk_196) rfl hk_197, fun U hU hW => ⟨rfl, px_to hU hW hP hK hN hXN⟩⟩ rfl rfl hl.1 rfl (lv_room (Nat.le_of_ble_eq_true rfl)) dX11_leastPair_85 ⟨hRc, hRs⟩).run (fun r hw => kC r hw)
            ·
              obtain ⟨nu_198, kd_199, cn_200, pa_201, fa_202, l_203, co_204, wd_205, nm_206, hs_207, hs_208, hs_209, hs_210, hq_211, hq_212, hq_213⟩ := x_ist hI ht9
              obtain ⟨kk_214, hk_215⟩ := pl_at ht9.1 hs_207
              exact vp_callSi (va_runU (As := [.ref (d (2000 + i)), .int p0, .int 0]) (rest := []) ⟨hx, hb, hml, hown, hts⟩ (y_meets l dC dI q h0 d k z f hI (d (2000 + a9)) hit_78 (nI a9) (u.2 4 a9) (u.2 22 a9) (d (3000 + a9)) (d (4000 + a9)) rs_74 hs_79 n_75 g_76 (pR u a9) hpa_80 hps_81 h1_82 h6_83 hcb_84 hpl_85 (d (2000 + i)) hit_105 (nI i) (u.2 4 i) (u.2 22 i) (d (3000 + i)) (d (4000 + i)) rs_101 hs_106 n_102 g_103 (pR u i) hpa_107 hps_108 h1_109 h6_110 hcb_111 hpl_112 p0 0) (va_cwU 3 hts gX11_leastPair_X4_meets_u358X10 rfl rfl rfl rfl (by decide +kernel) ⟨Nat.le_trans (Nat.le_of_ble_eq_true rfl) hRf, Nat.le_trans (Nat.le_of_ble_eq_true rfl) hRl⟩) ⟨px_fb, va_recv hK hP (ci := 9) (q0 := kk_214) rfl hk_215, fun U hU hW => ⟨rfl, px_to hU hW hP hK hN hXN⟩⟩ rfl rfl hl.1 rfl (lv_room (Nat.le_of_ble_eq_true rfl)) dX11_leastPair_85 ⟨hRc, hRs⟩).run (fun r hw => kC r hw)
        ·
          refine lv_iconst (v := 1) hx hb dX11_leastPair_80 (by decide) ?_
          refine lv_goto (tgt := 85) hx hb dX11_leastPair_81 (by decide) ?_
          refine w_cut (X := fun R cells slots Q args => ∀ r : Int32, (r = (bP (mtP u a9 i p0 1))) → W p l e R s m args below meth c H locs cells slots Q (F0 m 88 ls (.int r :: []))) ?_ (fun kC => ?_)
          ·
            intro r hw
            obtain rfl : r = (bP (mtP u a9 i p0 1)) := hw
            refine lv_if_eq (tgt := 103) hx hb dX11_leastPair_88 (by decide) (fun c_312 => ?_) (fun c_312 => ?_)
            ·
              refine lv_iinc (v := (nI (i + 1))) (lv' := [(4, .int (nI (i + 1))), (3, .int (nI a9)), (0, .ref h0), (1, .int p0), (2, .int p1)]) hx hb dX11_leastPair_103 hl (k := 0) rfl (nI_1 i) (by decide) rfl (fun ls hl => ?_)
              refine lv_goto (tgt := 31) hx hb dX11_leastPair_106 (by decide) ?_
              exact ih (i + 1) ls (by omega) (by omega) ⟨by omega, (fun b hb1 hb2 => by rcases Nat.lt_succ_iff_lt_or_eq.mp hb2 with h9 | h9; exact hgl b hb1 h9; rw [h9]; exact fun h8 => bP_0 c_312 (by have h7 := h8.2; rw [(show swA p1 = 1 from if_pos c_120)] at h7; exact h7))⟩ (lv_sub hl [0, 1, 2, 3, 4] rfl)
            ·
              exact kx91 _ ls ⟨hai, hlt, ⟨bP_n c_65, by rw [(show swA p1 = 1 from if_pos c_120)]; exact bP_n c_312⟩, hg⟩ (lv_sub hl [0, 1, 2, 3, 4] rfl)
          ·
            rcases x_tag hit_78 with ht9 | ht9 | ht9 | ht9 | ht9 | ht9
            ·
              obtain ⟨nu_217, kd_218, cn_219, pa_220, fa_221, l_222, m_223, hs_224, hs_225, hs_226, hs_227⟩ := x_ifl hI ht9
              obtain ⟨kk_228, hk_229⟩ := pl_at ht9.1 hs_224
              exact vp_callSi (va_runU (As := [.ref (d (2000 + i)), .int p0, .int 1]) (rest := []) ⟨hx, hb, hml, hown, hts⟩ (y_meets l dC dI q h0 d k z f hI (d (2000 + a9)) hit_78 (nI a9) (u.2 4 a9) (u.2 22 a9) (d (3000 + a9)) (d (4000 + a9)) rs_74 hs_79 n_75 g_76 (pR u a9) hpa_80 hps_81 h1_82 h6_83 hcb_84 hpl_85 (d (2000 + i)) hit_105 (nI i) (u.2 4 i) (u.2 22 i) (d (3000 + i)) (d (4000 + i)) rs_101 hs_106 n_102 g_103 (pR u i) hpa_107 hps_108 h1_109 h6_110 hcb_111 hpl_112 p0 1) (va_cwU 3 hts gX11_leastPair_X4_meets_u358X2 rfl rfl rfl rfl (by decide +kernel) ⟨Nat.le_trans (Nat.le_of_ble_eq_true rfl) hRf, Nat.le_trans (Nat.le_of_ble_eq_true rfl) hRl⟩) ⟨px_fb, va_recv hK hP (ci := 2) (q0 := kk_228) rfl hk_229, fun U hU hW => ⟨rfl, px_to hU hW hP hK hN hXN⟩⟩ rfl rfl hl.1 rfl (lv_room (Nat.le_of_ble_eq_true rfl)) dX11_leastPair_85 ⟨hRc, hRs⟩).run (fun r hw => kC r hw)
            ·
              obtain ⟨nu_230, kd_231, cn_232, pa_233, fa_234, o_235, w_236, y_237, hs_238, hs_239, hs_240, hs_241, hq_242⟩ := x_ihd hI ht9
              obtain ⟨kk_243, hk_244⟩ := pl_at ht9.1 hs_238
              exact vp_callSi (va_runU (As := [.ref (d (2000 + i)), .int p0, .int 1]) (rest := []) ⟨hx, hb, hml, hown, hts⟩ (y_meets l dC dI q h0 d k z f hI (d (2000 + a9)) hit_78 (nI a9) (u.2 4 a9) (u.2 22 a9) (d (3000 + a9)) (d (4000 + a9)) rs_74 hs_79 n_75 g_76 (pR u a9) hpa_80 hps_81 h1_82 h6_83 hcb_84 hpl_85 (d (2000 + i)) hit_105 (nI i) (u.2 4 i) (u.2 22 i) (d (3000 + i)) (d (4000 + i)) rs_101 hs_106 n_102 g_103 (pR u i) hpa_107 hps_108 h1_109 h6_110 hcb_111 hpl_112 p0 1) (va_cwU 3 hts gX11_leastPair_X4_meets_u358X3 rfl rfl rfl rfl (by decide +kernel) ⟨Nat.le_trans (Nat.le_of_ble_eq_true rfl) hRf, Nat.le_trans (Nat.le_of_ble_eq_true rfl) hRl⟩) ⟨px_fb, va_recv hK hP (ci := 3) (q0 := kk_243) rfl hk_244, fun U hU hW => ⟨rfl, px_to hU hW hP hK hN hXN⟩⟩ rfl rfl hl.1 rfl (lv_room (Nat.le_of_ble_eq_true rfl)) dX11_leastPair_85 ⟨hRc, hRs⟩).run (fun r hw => kC r hw)
            ·
              obtain ⟨nu_245, kd_246, cn_247, pa_248, fa_249, o_250, y_251, hs_252, hs_253, hs_254, hs_255, hq_256⟩ := x_ino hI ht9
              obtain ⟨kk_257, hk_258⟩ := pl_at ht9.1 hs_252
              exact vp_callSi (va_runU (As := [.ref (d (2000 + i)), .int p0, .int 1]) (rest := []) ⟨hx, hb, hml, hown, hts⟩ (y_meets l dC dI q h0 d k z f hI (d (2000 + a9)) hit_78 (nI a9) (u.2 4 a9) (u.2 22 a9) (d (3000 + a9)) (d (4000 + a9)) rs_74 hs_79 n_75 g_76 (pR u a9) hpa_80 hps_81 h1_82 h6_83 hcb_84 hpl_85 (d (2000 + i)) hit_105 (nI i) (u.2 4 i) (u.2 22 i) (d (3000 + i)) (d (4000 + i)) rs_101 hs_106 n_102 g_103 (pR u i) hpa_107 hps_108 h1_109 h6_110 hcb_111 hpl_112 p0 1) (va_cwU 3 hts gX11_leastPair_X4_meets_u358X5 rfl rfl rfl rfl (by decide +kernel) ⟨Nat.le_trans (Nat.le_of_ble_eq_true rfl) hRf, Nat.le_trans (Nat.le_of_ble_eq_true rfl) hRl⟩) ⟨px_fb, va_recv hK hP (ci := 4) (q0 := kk_257) rfl hk_258, fun U hU hW => ⟨rfl, px_to hU hW hP hK hN hXN⟩⟩ rfl rfl hl.1 rfl (lv_room (Nat.le_of_ble_eq_true rfl)) dX11_leastPair_85 ⟨hRc, hRs⟩).run (fun r hw => kC r hw)
            ·
              obtain ⟨nu_259, kd_260, cn_261, pa_262, fa_263, b_264, pr_265, sp_266, dy_267, hs_268, hs_269, hs_270, hs_271, hq_272, hq_273, hq_274⟩ := x_ipd hI ht9
              obtain ⟨kk_275, hk_276⟩ := pl_at ht9.1 hs_268
              exact vp_callSi (va_runU (As := [.ref (d (2000 + i)), .int p0, .int 1]) (rest := []) ⟨hx, hb, hml, hown, hts⟩ (y_meets l dC dI q h0 d k z f hI (d (2000 + a9)) hit_78 (nI a9) (u.2 4 a9) (u.2 22 a9) (d (3000 + a9)) (d (4000 + a9)) rs_74 hs_79 n_75 g_76 (pR u a9) hpa_80 hps_81 h1_82 h6_83 hcb_84 hpl_85 (d (2000 + i)) hit_105 (nI i) (u.2 4 i) (u.2 22 i) (d (3000 + i)) (d (4000 + i)) rs_101 hs_106 n_102 g_103 (pR u i) hpa_107 hps_108 h1_109 h6_110 hcb_111 hpl_112 p0 1) (va_cwU 3 hts gX11_leastPair_X4_meets_u358X6 rfl rfl rfl rfl (by decide +kernel) ⟨Nat.le_trans (Nat.le_of_ble_eq_true rfl) hRf, Nat.le_trans (Nat.le_of_ble_eq_true rfl) hRl⟩) ⟨px_fb, va_recv hK hP (ci := 5) (q0 := kk_275) rfl hk_276, fun U hU hW => ⟨rfl, px_to hU hW hP hK hN hXN⟩⟩ rfl rfl hl.1 rfl (lv_room (Nat.le_of_ble_eq_true rfl)) dX11_leastPair_85 ⟨hRc, hRs⟩).run (fun r hw => kC r hw)
            ·
              obtain ⟨nu_277, kd_278, cn_279, pa_280, fa_281, ww_282, hh_283, sz_284, hs_285, hs_286, hs_287, hs_288, hq_289, hq_290, hq_291⟩ := x_ipi hI ht9
              obtain ⟨kk_292, hk_293⟩ := pl_at ht9.1 hs_285
              exact vp_callSi (va_runU (As := [.ref (d (2000 + i)), .int p0, .int 1]) (rest := []) ⟨hx, hb, hml, hown, hts⟩ (y_meets l dC dI q h0 d k z f hI (d (2000 + a9)) hit_78 (nI a9) (u.2 4 a9) (u.2 22 a9) (d (3000 + a9)) (d (4000 + a9)) rs_74 hs_79 n_75 g_76 (pR u a9) hpa_80 hps_81 h1_82 h6_83 hcb_84 hpl_85 (d (2000 + i)) hit_105 (nI i) (u.2 4 i) (u.2 22 i) (d (3000 + i)) (d (4000 + i)) rs_101 hs_106 n_102 g_103 (pR u i) hpa_107 hps_108 h1_109 h6_110 hcb_111 hpl_112 p0 1) (va_cwU 3 hts gX11_leastPair_X4_meets_u358X7 rfl rfl rfl rfl (by decide +kernel) ⟨Nat.le_trans (Nat.le_of_ble_eq_true rfl) hRf, Nat.le_trans (Nat.le_of_ble_eq_true rfl) hRl⟩) ⟨px_fb, va_recv hK hP (ci := 6) (q0 := kk_292) rfl hk_293, fun U hU hW => ⟨rfl, px_to hU hW hP hK hN hXN⟩⟩ rfl rfl hl.1 rfl (lv_room (Nat.le_of_ble_eq_true rfl)) dX11_leastPair_85 ⟨hRc, hRs⟩).run (fun r hw => kC r hw)
            ·
              obtain ⟨nu_294, kd_295, cn_296, pa_297, fa_298, l_299, co_300, wd_301, nm_302, hs_303, hs_304, hs_305, hs_306, hq_307, hq_308, hq_309⟩ := x_ist hI ht9
              obtain ⟨kk_310, hk_311⟩ := pl_at ht9.1 hs_303
              exact vp_callSi (va_runU (As := [.ref (d (2000 + i)), .int p0, .int 1]) (rest := []) ⟨hx, hb, hml, hown, hts⟩ (y_meets l dC dI q h0 d k z f hI (d (2000 + a9)) hit_78 (nI a9) (u.2 4 a9) (u.2 22 a9) (d (3000 + a9)) (d (4000 + a9)) rs_74 hs_79 n_75 g_76 (pR u a9) hpa_80 hps_81 h1_82 h6_83 hcb_84 hpl_85 (d (2000 + i)) hit_105 (nI i) (u.2 4 i) (u.2 22 i) (d (3000 + i)) (d (4000 + i)) rs_101 hs_106 n_102 g_103 (pR u i) hpa_107 hps_108 h1_109 h6_110 hcb_111 hpl_112 p0 1) (va_cwU 3 hts gX11_leastPair_X4_meets_u358X10 rfl rfl rfl rfl (by decide +kernel) ⟨Nat.le_trans (Nat.le_of_ble_eq_true rfl) hRf, Nat.le_trans (Nat.le_of_ble_eq_true rfl) hRl⟩) ⟨px_fb, va_recv hK hP (ci := 9) (q0 := kk_310) rfl hk_311, fun U hU hW => ⟨rfl, px_to hU hW hP hK hN hXN⟩⟩ rfl rfl hl.1 rfl (lv_room (Nat.le_of_ble_eq_true rfl)) dX11_leastPair_85 ⟨hRc, hRs⟩).run (fun r hw => kC r hw)
set_option maxHeartbeats 4000000 in
set_option maxRecDepth 100000 in
theorem y_lp_out {p : Program} {l : Launch} {e : Env} {R : Room} {s : State} {m : MethodId} {args : Array Value} {below : List Frame} {meth : Method} {c : Code} {Q : State → Prop} {cells slots : Nat} {dC : Nat → ClassId} {dI : Nat → Nat → Nat} {q : Nat → ClassId} {h0 : Nat} {d : Nat → Nat} {k : Nat → Int32} {z : gS} {f : xF} {H : Heap} {locs : List Loc} (hI : xI q h0 d k z f) (hx : p.tables.exec = Jvm.exec) (hb : c.code = cX11_leastPair) (hml : c.maxLocals = 5) (hts : ∀ w ∈ wsX11_leastPair, w.before args s = true) (hown : s.vm.findClass RX11 = some m.cls) (hN : NN s) (hXN : XN s) (hK : va_K (dC, dI) vwCl (xT q) s) (hRf : 3 ≤ R.frames) (hRl : 69 ≤ R.locals) (hRc : cells ≤ R.cells) (hRs : slots ≤ R.slots) (hP : va_P (dC, dI) vwCl (va_pl z.1 f) H) {u : mS} (hrp : rep q d u z f) (hk0 : k 0 = u.1 3) (hk1 : k 1 = u.1 28) (hk2 : k 2 = u.1 38) (hk3 : k 3 = u.1 39) {K : Nat} (hK8 : K ≤ 80) (eK : k 0 = nI K) (eKn : (u.1 3).toNatClampNeg = K) (hkB : kB u) {p0 p1 : Int32} (kx115 : ∀ (ls : Array Slot), (∀ a b, a < K → a < b → b < K → ¬ lpC u p0 p1 a b) → lv_has ls 5 [(0, .ref h0), (1, .int p0), (2, .int p1)] → W p l e R s m args below meth c H locs cells slots Q (F0 m 115 ls [])) (kx91 : ∀ (a9 : Nat) (b9 : Nat) (ls : Array Slot), lpM u p0 p1 K a9 b9 → lv_has ls 5 [(4, .int (nI b9)), (3, .int (nI a9)), (0, .ref h0), (1, .int p0), (2, .int p1)] → W p l e R s m args below meth c H locs cells slots Q (F0 m 91 ls [])) : ∀ (kk i : Nat) (ls : Array Slot), i ≤ K → K - i < kk → (∀ a b, a < i → a < b → b < K → ¬ lpC u p0 p1 a b) → lv_has ls 5 [(3, .int (nI i)), (0, .ref h0), (1, .int p0), (2, .int p1)] → W p l e R s m args below meth c H locs cells slots Q (F0 m 2 ls []) := by
  intro kk
  induction kk with
  | zero => intro i ls h1 h2; exact absurd h2 (Nat.not_lt_zero _)
  | succ kk ih =>
    intro i ls hi hkk hg hl
    refine lv_iload_n hx hb dX11_leastPair_2 rfl (lv_at hl 0 rfl) ?_
    refine lv_aload_n hx hb dX11_leastPair_3 rfl (lv_at hl 1 rfl) ?_
    obtain ⟨kk_1, hk_2⟩ := pl_at hI.2.1.1.1 hI.2.2.2.1.1
    refine va_get (D := (dC, dI)) (ci := 10) (v := .int (k 0)) (C := RX11) (T := TX11) (N := 9) hx hb hts (by decide +kernel) hown hK hP kk_1 hk_2 rfl 3 (by decide) (hts (.fieldLink RX11 24 "PageOne" "itemCount" "I") (by decide +kernel)) (fun _ h9 => h9) rfl dX11_leastPair_4 ?_
    refine lv_topi (fun y_3 ey_3 => ?_)
    obtain rfl : y_3 = (nI K) := ey_3.trans (eK)
    refine lv_icmp_ge (tgt := 115) hx hb dX11_leastPair_7 (by decide) (fun c_4 => ?_) (fun c_4 => ?_)
    ·
      have hie : i = K := lp_eq rfl (by omega) hi c_4
      exact kx115 ls (by rw [hie] at hg; exact hg) (lv_sub hl [1, 2, 3] rfl)
    ·
      have hlt : i < K := lp_lt rfl (by omega) hi c_4
      refine lv_aload_n hx hb dX11_leastPair_10 rfl (lv_at hl 1 rfl) ?_
      obtain ⟨kk_5, hk_6⟩ := pl_at hI.2.1.1.1 hI.2.2.2.1.1
      refine va_get (D := (dC, dI)) (ci := 10) (v := .ref (d 2)) (C := RX11) (T := TX11) (N := 9) hx hb hts (by decide +kernel) hown hK hP kk_5 hk_6 rfl 2 (by decide) (hts (.fieldLink RX11 20 "PageOne" "items" "[LPageOne$Item;") (by decide +kernel)) (fun _ h9 => h9) rfl dX11_leastPair_11 ?_
      refine lv_iload_n hx hb dX11_leastPair_14 rfl (lv_at hl 0 rfl) ?_
      obtain ⟨g_7, hs_8, hn_9, hg_10⟩ := x_itm hI
      obtain ⟨kk_11, hk_12⟩ := pl_at hI.2.1.2.2.2.1.1 hs_8
      refine va_aldq hx hb hK hP kk_11 3 hk_12 rfl (vp_in_nI (by omega) (by decide)) dX11_leastPair_15 ?_
      obtain ⟨b_13, hg_14⟩ := hn_9 ((nI i) : Int32).toNatClampNeg (by rw [eK, nI_clamp (by omega), nI_clamp (by omega)]; exact hlt)
      have ht_15 := hg_10 ((nI i) : Int32).toNatClampNeg (vlt (vp_in_nI (by omega) (by decide))) b_13 hg_14
      rw [hg_14]
      refine W.eq (g2 := F0 m 16 ls [.ref b_13]) rfl ?_
      have hb_16 := rI_at hrp.2.2.1 hs_8 (by rw [eKn]; exact hlt) (by rw [nI_clamp (by omega)] at hg_14; exact hg_14)
      subst hb_16
      obtain ⟨rs_17, n_18, g_19, fg_20, hit_21, hs_22, hpa_23, hps_24, h1_25, h6_26, hcb_27, hpl_28, hlg_29, hnn_30, hfa_31, hfs_32, hfe_33, hrs_34, hkt_35⟩ := it_all hI hrp.2.2.1 (by rw [eKn]; exact hlt)
      refine lv_iload_n hx hb dX11_leastPair_16 rfl (lv_at hl 2 rfl) ?_
      refine w_cut (X := fun R cells slots Q args => ∀ r : Int32, (r = (bP (onP u i p0))) → W p l e R s m args below meth c H locs cells slots Q (F0 m 20 ls (.int r :: []))) ?_ (fun kC => ?_)
      ·
        intro r hw
        obtain rfl : r = (bP (onP u i p0)) := hw
        refine lv_if_ne (tgt := 26) hx hb dX11_leastPair_20 (by decide) (fun c_131 => ?_) (fun c_131 => ?_)
        ·
          refine lv_iload_n hx hb dX11_leastPair_26 rfl (lv_at hl 0 rfl) ?_
          refine lv_iconst (v := 1) hx hb dX11_leastPair_27 (by decide) ?_
          refine lv_iadd hx hb dX11_leastPair_28 ?_
          refine lv_topi (fun y_132 ey_132 => ?_)
          obtain rfl : y_132 = (nI (i + 1)) := ey_132.trans (nI_1 i)
          refine lv_istore (lv' := [(4, .int (nI (i + 1))), (3, .int (nI i)), (0, .ref h0), (1, .int p0), (2, .int p1)]) hx hb dX11_leastPair_29 hl (by decide) rfl (fun ls hl => ?_)
          refine y_lp_in (K := K) (a9 := i) hI hx hb hml hts hown hN hXN hK hRf hRl hRc hRs hP hrp hk0 hk1 hk2 hk3 hK8 eK eKn hkB hlt (fun ls hno hl => ?_) (fun b9 ls hye hl => ?_) (K + 1) (i + 1) ls (by omega) (by omega) ⟨by omega, fun b h1 h2 => by omega⟩ (lv_sub hl [0, 1, 2, 3, 4] rfl)
          ·
            refine lv_iinc (v := (nI (i + 1))) (lv' := [(3, .int (nI (i + 1))), (0, .ref h0), (1, .int p0), (2, .int p1)]) hx hb dX11_leastPair_109 hl (k := 0) rfl (nI_1 i) (by decide) rfl (fun ls hl => ?_)
            refine lv_goto (tgt := 2) hx hb dX11_leastPair_112 (by decide) ?_
            exact ih (i + 1) ls (by omega) (by omega) (fun a b h1 h2 h3 => by rcases Nat.lt_succ_iff_lt_or_eq.mp h1 with h9 | h9; exact hg a b h9 h2 h3; subst h9; exact fun h8 => hno b h2 h3 h8.2) (lv_sub hl [0, 1, 2, 3] rfl)
          ·
            exact kx91 _ _ ls ⟨hye.1, hye.2.1, ⟨bP_n c_131, hye.2.2.1⟩, fun a b h1 h2 h3 => by rcases h3 with h3 | ⟨h3, h4⟩; exact hg a b h3 h1 h2; subst h3; exact fun h8 => hye.2.2.2 b h1 h4 h8.2⟩ (lv_sub hl [0, 1, 2, 3, 4] rfl)
        ·
          refine lv_goto (tgt := 109) hx hb dX11_leastPair_23 (by decide) ?_
          refine lv_iinc (v := (nI (i + 1))) (lv' := [(3, .int (nI (i + 1))), (0, .ref h0), (1, .int p0), (2, .int p1)]) hx hb dX11_leastPair_109 hl (k := 0) rfl (nI_1 i) (by decide) rfl (fun ls hl => ?_)
          refine lv_goto (tgt := 2) hx hb dX11_leastPair_112 (by decide) ?_
          exact ih (i + 1) ls (by omega) (by omega) (fun a b h1 h2 h3 => by rcases Nat.lt_succ_iff_lt_or_eq.mp h1 with h9 | h9; exact hg a b h9 h2 h3; subst h9; exact fun h8 => bP_0 c_131 h8.1) (lv_sub hl [0, 1, 2, 3] rfl)
      ·
        rcases x_tag hit_21 with ht9 | ht9 | ht9 | ht9 | ht9 | ht9
        ·
          obtain ⟨nu_36, kd_37, cn_38, pa_39, fa_40, l_41, m_42, hs_43, hs_44, hs_45, hs_46⟩ := x_ifl hI ht9
          obtain ⟨kk_47, hk_48⟩ := pl_at ht9.1 hs_43
          exact vp_callSi (va_runU (As := [.int p0]) (rest := []) ⟨hx, hb, hml, hown, hts⟩ (y_isOn l dC dI q h0 d k z f hI (d (2000 + i)) hit_21 (nI i) (u.2 4 i) (u.2 22 i) (d (3000 + i)) (d (4000 + i)) rs_17 hs_22 n_18 g_19 (pR u i) hpa_23 hps_24 h1_25 h6_26 hcb_27 hpl_28 p0) (va_cwU 1 hts gX11_leastPair_X4_isOn_u346X2 rfl rfl rfl rfl (by decide +kernel) ⟨Nat.le_trans (Nat.le_of_ble_eq_true rfl) hRf, Nat.le_trans (Nat.le_of_ble_eq_true rfl) hRl⟩) ⟨px_fb, va_recv hK hP (ci := 2) (q0 := kk_47) rfl hk_48, fun U hU hW => ⟨rfl, px_to hU hW hP hK hN hXN⟩⟩ rfl rfl hl.1 rfl (lv_room (Nat.le_of_ble_eq_true rfl)) dX11_leastPair_17 ⟨hRc, hRs⟩).run (fun r hw => kC r hw)
        ·
          obtain ⟨nu_49, kd_50, cn_51, pa_52, fa_53, o_54, w_55, y_56, hs_57, hs_58, hs_59, hs_60, hq_61⟩ := x_ihd hI ht9
          obtain ⟨kk_62, hk_63⟩ := pl_at ht9.1 hs_57
          exact vp_callSi (va_runU (As := [.int p0]) (rest := []) ⟨hx, hb, hml, hown, hts⟩ (y_isOn l dC dI q h0 d k z f hI (d (2000 + i)) hit_21 (nI i) (u.2 4 i) (u.2 22 i) (d (3000 + i)) (d (4000 + i)) rs_17 hs_22 n_18 g_19 (pR u i) hpa_23 hps_24 h1_25 h6_26 hcb_27 hpl_28 p0) (va_cwU 1 hts gX11_leastPair_X4_isOn_u346X3 rfl rfl rfl rfl (by decide +kernel) ⟨Nat.le_trans (Nat.le_of_ble_eq_true rfl) hRf, Nat.le_trans (Nat.le_of_ble_eq_true rfl) hRl⟩) ⟨px_fb, va_recv hK hP (ci := 3) (q0 := kk_62) rfl hk_63, fun U hU hW => ⟨rfl, px_to hU hW hP hK hN hXN⟩⟩ rfl rfl hl.1 rfl (lv_room (Nat.le_of_ble_eq_true rfl)) dX11_leastPair_17 ⟨hRc, hRs⟩).run (fun r hw => kC r hw)
        ·
          obtain ⟨nu_64, kd_65, cn_66, pa_67, fa_68, o_69, y_70, hs_71, hs_72, hs_73, hs_74, hq_75⟩ := x_ino hI ht9
          obtain ⟨kk_76, hk_77⟩ := pl_at ht9.1 hs_71
          exact vp_callSi (va_runU (As := [.int p0]) (rest := []) ⟨hx, hb, hml, hown, hts⟩ (y_isOn l dC dI q h0 d k z f hI (d (2000 + i)) hit_21 (nI i) (u.2 4 i) (u.2 22 i) (d (3000 + i)) (d (4000 + i)) rs_17 hs_22 n_18 g_19 (pR u i) hpa_23 hps_24 h1_25 h6_26 hcb_27 hpl_28 p0) (va_cwU 1 hts gX11_leastPair_X4_isOn_u346X5 rfl rfl rfl rfl (by decide +kernel) ⟨Nat.le_trans (Nat.le_of_ble_eq_true rfl) hRf, Nat.le_trans (Nat.le_of_ble_eq_true rfl) hRl⟩) ⟨px_fb, va_recv hK hP (ci := 4) (q0 := kk_76) rfl hk_77, fun U hU hW => ⟨rfl, px_to hU hW hP hK hN hXN⟩⟩ rfl rfl hl.1 rfl (lv_room (Nat.le_of_ble_eq_true rfl)) dX11_leastPair_17 ⟨hRc, hRs⟩).run (fun r hw => kC r hw)
        ·
          obtain ⟨nu_78, kd_79, cn_80, pa_81, fa_82, b_83, pr_84, sp_85, dy_86, hs_87, hs_88, hs_89, hs_90, hq_91, hq_92, hq_93⟩ := x_ipd hI ht9
          obtain ⟨kk_94, hk_95⟩ := pl_at ht9.1 hs_87
          exact vp_callSi (va_runU (As := [.int p0]) (rest := []) ⟨hx, hb, hml, hown, hts⟩ (y_isOn l dC dI q h0 d k z f hI (d (2000 + i)) hit_21 (nI i) (u.2 4 i) (u.2 22 i) (d (3000 + i)) (d (4000 + i)) rs_17 hs_22 n_18 g_19 (pR u i) hpa_23 hps_24 h1_25 h6_26 hcb_27 hpl_28 p0) (va_cwU 1 hts gX11_leastPair_X4_isOn_u346X6 rfl rfl rfl rfl (by decide +kernel) ⟨Nat.le_trans (Nat.le_of_ble_eq_true rfl) hRf, Nat.le_trans (Nat.le_of_ble_eq_true rfl) hRl⟩) ⟨px_fb, va_recv hK hP (ci := 5) (q0 := kk_94) rfl hk_95, fun U hU hW => ⟨rfl, px_to hU hW hP hK hN hXN⟩⟩ rfl rfl hl.1 rfl (lv_room (Nat.le_of_ble_eq_true rfl)) dX11_leastPair_17 ⟨hRc, hRs⟩).run (fun r hw => kC r hw)
        ·
          obtain ⟨nu_96, kd_97, cn_98, pa_99, fa_100, ww_101, hh_102, sz_103, hs_104, hs_105, hs_106, hs_107, hq_108, hq_109, hq_110⟩ := x_ipi hI ht9
          obtain ⟨kk_111, hk_112⟩ := pl_at ht9.1 hs_104
          exact vp_callSi (va_runU (As := [.int p0]) (rest := []) ⟨hx, hb, hml, hown, hts⟩ (y_isOn l dC dI q h0 d k z f hI (d (2000 + i)) hit_21 (nI i) (u.2 4 i) (u.2 22 i) (d (3000 + i)) (d (4000 + i)) rs_17 hs_22 n_18 g_19 (pR u i) hpa_23 hps_24 h1_25 h6_26 hcb_27 hpl_28 p0) (va_cwU 1 hts gX11_leastPair_X4_isOn_u346X7 rfl rfl rfl rfl (by decide +kernel) ⟨Nat.le_trans (Nat.le_of_ble_eq_true rfl) hRf, Nat.le_trans (Nat.le_of_ble_eq_true rfl) hRl⟩) ⟨px_fb, va_recv hK hP (ci := 6) (q0 := kk_111) rfl hk_112, fun U hU hW => ⟨rfl, px_to hU hW hP hK hN hXN⟩⟩ rfl rfl hl.1 rfl (lv_room (Nat.le_of_ble_eq_true rfl)) dX11_leastPair_17 ⟨hRc, hRs⟩).run (fun r hw => kC r hw)
        ·
          obtain ⟨nu_113, kd_114, cn_115, pa_116, fa_117, l_118, co_119, wd_120, nm_121, hs_122, hs_123, hs_124, hs_125, hq_126, hq_127, hq_128⟩ := x_ist hI ht9
          obtain ⟨kk_129, hk_130⟩ := pl_at ht9.1 hs_122
          exact vp_callSi (va_runU (As := [.int p0]) (rest := []) ⟨hx, hb, hml, hown, hts⟩ (y_isOn l dC dI q h0 d k z f hI (d (2000 + i)) hit_21 (nI i) (u.2 4 i) (u.2 22 i) (d (3000 + i)) (d (4000 + i)) rs_17 hs_22 n_18 g_19 (pR u i) hpa_23 hps_24 h1_25 h6_26 hcb_27 hpl_28 p0) (va_cwU 1 hts gX11_leastPair_X4_isOn_u346X10 rfl rfl rfl rfl (by decide +kernel) ⟨Nat.le_trans (Nat.le_of_ble_eq_true rfl) hRf, Nat.le_trans (Nat.le_of_ble_eq_true rfl) hRl⟩) ⟨px_fb, va_recv hK hP (ci := 9) (q0 := kk_129) rfl hk_130, fun U hU hW => ⟨rfl, px_to hU hW hP hK hN hXN⟩⟩ rfl rfl hl.1 rfl (lv_room (Nat.le_of_ble_eq_true rfl)) dX11_leastPair_17 ⟨hRc, hRs⟩).run (fun r hw => kC r hw)
/-- what leastPair answers -/
def lpP (q : Nat → ClassId) (h0 : Nat) (d : Nat → Nat) (k : Nat → Int32) (z : gS) (f : xF) (u : mS) (p kd : Int32) (r : Option Nat) (w : xU) : Prop := (r = none ∧ w = (k, z, f) ∧ ∀ a b, a < b → b < (u.1 3).toNatClampNeg → ¬ lpC u p kd a b) ∨ (∃ c a b, r = some c ∧ w.1 = k ∧ zE z w.2.1 ∧ xI q h0 d k w.2.1 w.2.2 ∧ rep q d u w.2.1 w.2.2 ∧ w.2.2 (d 3) = f (d 3) ∧ tg w.2.1 c 24 ∧ w.2.2 c = .inr (1, [.int kd, .int (nI a), .int (nI b)]) ∧ lpM u p kd (u.1 3).toNatClampNeg a b)
set_option maxHeartbeats 4000000 in
set_option maxRecDepth 100000 in
theorem y_leastPair (l : Launch) (dC : Nat → ClassId) (dI : Nat → Nat → Nat) (q : Nat → ClassId) (h0 : Nat) (d : Nat → Nat) (k : Nat → Int32) (z : gS) (f : xF) (hI : xI q h0 d k z f) (p0 p1 : Int32) (u : mS) (hrp : rep q d u z f) (hk0 : k 0 = u.1 3) (hk1 : k 1 = u.1 28) (hk2 : k 2 = u.1 38) (hk3 : k 3 = u.1 39) (hkB : kB u) (sz : Nat) : Met l yX11_leastPair wsX11_leastPair ({ frames := 3, cells := 1, slots := 3, locals := 69 }) (va_Pc [.ref h0, .int p0, .int p1] (fun U => U.heap.size = sz ∧ PX dC dI (va_pl z.1 f) (xT q) U ∧ va_D (fun _ => True) (va_pl z.1 f))) (va_Qq (fun (r : Option Nat) (w : xU) => lpP q h0 d k z f u p0 p1 r w) (fun (w : xU) t => va_P (dC, dI) vwCl (va_pl w.2.1.1 w.2.2) t.heap ∧ va_D (va_A (va_pl z.1 f) sz) (va_pl w.2.1.1 w.2.2)) (va_A (va_pl z.1 f) sz)) 1 3 (va_A (va_pl z.1 f) sz) := by
  refine Met.ofW (cc := cX11_leastPair) (maxL := 5) (ret := (some (.object "PageOne$Breach"))) (by decide) rfl ?_
  intro p e s m args below meth c s₁ B hml hv
  obtain ⟨rfl, hsz, ⟨⟨hP, hK, hN⟩, hXN⟩, hD0⟩ := hv
  have hx := B.exec
  have hb := B.bytes
  have hr := B.returns
  have hts := atoms_spec (ws := wsX11_leastPair) B.pre
  have hown : s.vm.findClass RX11 = some m.cls := findClass_of_methodNamed B.named
  have hlocks := B.notSynchronized
  subst hsz
  have hD := hD0.self (sz := s.heap.size)
  generalize hAe : va_A (va_pl z.1 f) s.heap.size = A at hD ⊢
  have hA : ∀ q : Nat, s.heap.size ≤ q → A q := fun q h => by rw [← hAe]; exact Or.inr h
  have hS : va_S A s.heap s.heap [] := va_S.rf
  have hl := lv_entry ([.ref h0, .int p0, .int p1]) (n := 5) (Nat.le_of_ble_eq_true rfl)
  rw [lg_entry_eq]
  generalize (lg_sl ([.ref h0, .int p0, .int p1]) ++ List.replicate (5 - (lg_sl ([.ref h0, .int p0, .int p1])).length) Slot.unset).toArray = ls at hl ⊢
  have hl : lv_has ls 5 [(0, .ref h0), (1, .int p0), (2, .int p1)] := hl
  have h3m : f (d 3) = f (d 3) := rfl
  refine lv_iconst (v := 0) hx hb dX11_leastPair_0 (by decide) ?_
  refine lv_istore_n (lv' := [(3, .int 0), (0, .ref h0), (1, .int p0), (2, .int p1)]) hx hb dX11_leastPair_1 rfl hl (by decide) rfl (fun ls hl => ?_)
  obtain ⟨K, hK8, -, eK⟩ := exN hI.1.1 (by decide)
  have h80 : (80 : Int32).toInt = 80 := rfl
  have eKn : (u.1 3).toNatClampNeg = K := by rw [← hk0, eK, nI_clamp (by omega)]
  refine y_lp_out (K := K) hI hx hb hml hts hown hN hXN hK (Nat.le_of_ble_eq_true rfl) (Nat.le_of_ble_eq_true rfl) (Nat.le_of_ble_eq_true rfl) (Nat.le_of_ble_eq_true rfl) hP hrp hk0 hk1 hk2 hk3 (by omega) eK eKn hkB (fun ls hno hl => ?_) (fun a9 b9 ls hye hl => ?_) (K + 1) 0 ls (Nat.zero_le _) (by omega) (fun a b h1 => absurd h1 (Nat.not_lt_zero _)) (lv_sub hl [0, 1, 2, 3] rfl)
  ·
    refine lv_null hx hb dX11_leastPair_115 ?_
    refine W.widen (k := 1) (n := 3) (Nat.le_of_ble_eq_true rfl) (Nat.le_of_ble_eq_true rfl) ?_
    exact W.aret (v := .null) hx hb hr (Or.inl ⟨_, rfl⟩) (Or.inl rfl) (fun t ht hW => ⟨⟨none, (k, z, f), rfl, (Or.inl ⟨rfl, rfl, fun a b h1 h2 => hno a b (by omega) h1 (by omega)⟩), by rw [ht]; exact hP, hD⟩, hS.F ht⟩) hS.2.2 dX11_leastPair_116
  ·
    refine va_new (ci := 1) (fs := [.int 0, .int 0, .int 0]) (C := RX1) (T := TX1) (N := 3) hx hb hts (by decide +kernel) tyX1 tyX1_ok hown (hts (.classLink RX11 202 RX1) (by decide +kernel)) (hts (.instantiable RX1 3) (by decide +kernel)) (hts (.initialized RX1) (by decide +kernel)) hK hP hD hS hA rfl nwX1 (Nat.le_of_ble_eq_true rfl) (Nat.le_of_ble_eq_true rfl) dX11_leastPair_91 (fun q_1 H hPn hDn hS => ?_)
    have hP := vaP_l hPn
    refine W.widen (k := 1) (n := 3) (Nat.le_of_ble_eq_true rfl) (Nat.le_of_ble_eq_true rfl) ?_
    refine lv_dup hx hb dX11_leastPair_94 rfl ?_
    refine lv_iload_n hx hb dX11_leastPair_95 rfl (lv_at hl 4 rfl) ?_
    refine lv_iload_n hx hb dX11_leastPair_96 rfl (lv_at hl 1 rfl) ?_
    refine lv_iload hx hb dX11_leastPair_97 (lv_at hl 0 rfl) ?_
    have hPc := vaP_r hPn
    have hDc := vaD_r hDn
    have hFc := fr_part hDn hS hA
    refine va_callv (va_runI (As := [.int p1, .int (nI a9), .int (nI b9)]) (rest := [.ref q_1]) ⟨hx, hb, hml, hown, hts⟩ (x_Breach l dC dI q_1 p1 (nI a9) (nI b9) H.size) (cwI 3 hts gX11_leastPair_X1_init rfl rfl rfl (hts (.initialized RX1) (by decide +kernel)) (hts (.methodLink RX11 353 yX1_init) (by decide +kernel)) (hts (.instanceMethod yX1_init) (by decide +kernel)) rfl (by decide +kernel) ⟨Nat.le_of_ble_eq_true rfl, Nat.le_of_ble_eq_true rfl⟩) ⟨gw_fb, fun U hU hW => ⟨rfl, by rw [hU], pw_to hU hW hPc (hK.sub (tys' := []) [] rfl) hN, hDc.weaken (fun _ _ _ _ => trivial)⟩⟩ rfl rfl hl.1 rfl (lv_room (Nat.le_of_ble_eq_true rfl)) dX11_leastPair_99 ⟨Nat.le_of_ble_eq_true rfl, Nat.le_of_ble_eq_true rfl⟩) hS (fun q _ h => hFc q h) hFc (fun u9 t H1 locs ht hvm hw hB hz1 hk1 hS => ?_)
    obtain ⟨hP1, hD1⟩ := hB
    rw [ht] at hP1
    obtain ⟨hP, hD⟩ := va_joinQ (X := [(q_1, .inr (1, [.int 0, .int 0, .int 0]))]) (cx := [(q_1, .inr (1, [.int 0, .int 0, .int 0]))]) (wr := []) (w1 := [(q_1, .inr (1, [.int p1, .int (nI a9), .int (nI b9)]))]) (pl := va_pl z.1 f) (vaP_swap hPn) (vaD_rotR hDn) [0] [] rfl rfl rfl (fun i hi => absurd hi List.not_mem_nil) hk1 hFc hP1 hD1
    generalize H1 = H at hP hS ⊢
    obtain ⟨hnm_2, hP, hD⟩ := pushC hP hD
    obtain ⟨z_3, ez_3⟩ : ∃ y : gS, y = pz z q_1 (24, 0, []) := ⟨_, rfl⟩
    obtain ⟨f_4, ef_4⟩ : ∃ y : xF, y = va_up f q_1 (.inr (1, [.int p1, .int (nI a9), .int (nI b9)])) := ⟨_, rfl⟩
    have hE_5 : zE z z_3 := by rw [ez_3]; exact pz_E hnm_2 _
    have hI : xI q h0 d k z_3 f_4 := by rw [ez_3, ef_4]; exact x_push hI hnm_2 (Or.inr (by decide : (15 : Nat) < 24)) (cO_24 (by rw [pz_s]))
    rw [show z.1 ++ [q_1] = z_3.1 from by rw [ez_3]; rfl, ← ef_4] at hP hD
    have ht_6 : tg z_3 q_1 24 := by rw [ez_3]; exact pz_t _ _ _
    have hEz : zE z z_3 := zE_tr (zE_rf z) hE_5
    have h3m : f_4 (d 3) = f (d 3) := by rw [ef_4]; exact (up_o (fun e9 => hnm_2 (by rw [← e9]; exact hrp.2.2.2.2.2.2.2.1.1.1))).trans h3m
    have hrp_7 : rep q d u z_3 f_4 := by rw [ez_3, ef_4]; exact rep_grow hrp (pz_E hnm_2 _) (oK_push (fun _ _ => rfl) (zE_rf _) hnm_2)
    refine W.eq (g2 := F0 m 102 ls [.ref q_1]) rfl ?_
    have hbc_8 : f_4 q_1 = .inr (1, [.int p1, .int (nI a9), .int (nI b9)]) := by rw [ef_4]; exact up_s
    exact W.aret (v := .ref q_1) hx hb hr (Or.inl ⟨_, rfl⟩) (Or.inr ⟨_, rfl⟩) (fun t ht hW => ⟨⟨(some q_1), (k, z_3, f_4), rfl, (Or.inr ⟨q_1, a9, b9, rfl, rfl, hEz, hI, hrp_7, h3m, ht_6, hbc_8, by rw [eKn]; exact hye⟩), by rw [ht]; exact hP, hD⟩, hS.F ht⟩) hS.2.2 dX11_leastPair_102
def noL (u : mS) (p kd : Int32) : Prop := ∀ a b, a < b → b < (u.1 3).toNatClampNeg → ¬ lpC u p kd a b
def fsC (u : mS) (p kd : Int32) (i : Nat) : Prop := onP u i p ∧ faP u i kd
def noS (u : mS) (p kd : Int32) : Prop := ∀ i, i < (u.1 3).toNatClampNeg → ¬ fsC u p kd i
def isL (u : mS) (p kd x y t : Int32) : Prop := x = kd ∧ ∃ a b, y = nI a ∧ t = nI b ∧ lpM u p kd (u.1 3).toNatClampNeg a b
def isS (u : mS) (p kd x y t : Int32) : Prop := x = kd ∧ t = (-1) ∧ ∃ i, i < (u.1 3).toNatClampNeg ∧ y = nI i ∧ fsC u p kd i ∧ ∀ j, j < i → ¬ fsC u p kd j
/-- what is broken on a page, as the class finds it -/
def brM (u : mS) (p x y t : Int32) : Prop := isL u p 1 x y t ∨ (noL u p 1 ∧ (isL u p 2 x y t ∨ (noL u p 2 ∧ (isL u p 3 x y t ∨ (noL u p 3 ∧ (isS u p 4 x y t ∨ (noS u p 4 ∧ (isS u p 5 x y t ∨ (noS u p 5 ∧ x = 0 ∧ y = (-1) ∧ t = (-1))))))))))
def brP (q : Nat → ClassId) (h0 : Nat) (d : Nat → Nat) (k : Nat → Int32) (z : gS) (f : xF) (u : mS) (p : Int32) (r : Option Nat) (w : xU) : Prop := ∃ c x y t, r = some c ∧ w.1 = k ∧ zE z w.2.1 ∧ xI q h0 d k w.2.1 w.2.2 ∧ rep q d u w.2.1 w.2.2 ∧ w.2.2 (d 3) = f (d 3) ∧ tg w.2.1 c 24 ∧ w.2.2 c = .inr (1, [.int x, .int y, .int t]) ∧ brM u p x y t
set_option maxHeartbeats 4000000 in
set_option maxRecDepth 100000 in
theorem y_br_l {p : Program} {l : Launch} {e : Env} {R : Room} {s : State} {m : MethodId} {args : Array Value} {below : List Frame} {meth : Method} {c : Code} {Q : State → Prop} {cells slots : Nat} {dC : Nat → ClassId} {dI : Nat → Nat → Nat} {q : Nat → ClassId} {h0 : Nat} {d : Nat → Nat} {k : Nat → Int32} {z : gS} {f : xF} {H : Heap} {locs : List Loc} (hI : xI q h0 d k z f) (hx : p.tables.exec = Jvm.exec) (hb : c.code = cX11_breachOn) (hml : c.maxLocals = 4) (hts : ∀ w ∈ wsX11_breachOn, w.before args s = true) (hown : s.vm.findClass RX11 = some m.cls) (hN : NN s) (hXN : XN s) (hK : va_K (dC, dI) vwCl (xT q) s) (hRf : 5 ≤ R.frames) (hRl : 110 ≤ R.locals) (hRc : cells ≤ R.cells) (hRs : slots ≤ R.slots) (hP : va_P (dC, dI) vwCl (va_pl z.1 f) H) {u : mS} (hrp : rep q d u z f) (hk0 : k 0 = u.1 3) (hk1 : k 1 = u.1 28) (hk2 : k 2 = u.1 38) (hk3 : k 3 = u.1 39) {K : Nat} (hK8 : K ≤ 80) (eK : k 0 = nI K) (eKn : (u.1 3).toNatClampNeg = K) (hpcI : pcI u) {p0 p1 : Int32} (kx87 : ∀ (ls : Array Slot), (∀ j, j < K → ¬ fsC u p0 p1 j) → lv_has ls 4 [(0, .ref h0), (1, .int p0), (2, .int p1)] → W p l e R s m args below meth c H locs cells slots Q (F0 m 87 ls [])) (kx70 : ∀ (i9 : Nat) (ls : Array Slot), (i9 < K ∧ fsC u p0 p1 i9 ∧ (∀ j, j < i9 → ¬ fsC u p0 p1 j)) → lv_has ls 4 [(3, .int (nI i9)), (0, .ref h0), (1, .int p0), (2, .int p1)] → W p l e R s m args below meth c H locs cells slots Q (F0 m 70 ls [])) : ∀ (kk i : Nat) (ls : Array Slot), i ≤ K → K - i < kk → (∀ j, j < i → ¬ fsC u p0 p1 j) → lv_has ls 4 [(3, .int (nI i)), (0, .ref h0), (1, .int p0), (2, .int p1)] → W p l e R s m args below meth c H locs cells slots Q (F0 m 35 ls []) := by
  intro kk
  induction kk with
  | zero => intro i ls h1 h2; exact absurd h2 (Nat.not_lt_zero _)
  | succ kk ih =>
    intro i ls hi hkk hg hl
    refine lv_iload_n hx hb dX11_breachOn_35 rfl (lv_at hl 0 rfl) ?_
    refine lv_aload_n hx hb dX11_breachOn_36 rfl (lv_at hl 1 rfl) ?_
    obtain ⟨kk_1, hk_2⟩ := pl_at hI.2.1.1.1 hI.2.2.2.1.1
    refine va_get (D := (dC, dI)) (ci := 10) (v := .int (k 0)) (C := RX11) (T := TX11) (N := 9) hx hb hts (by decide +kernel) hown hK hP kk_1 hk_2 rfl 3 (by decide) (hts (.fieldLink RX11 24 "PageOne" "itemCount" "I") (by decide +kernel)) (fun _ h9 => h9) rfl dX11_breachOn_37 ?_
    refine lv_topi (fun y_3 ey_3 => ?_)
    obtain rfl : y_3 = (nI K) := ey_3.trans (eK)
    refine lv_icmp_ge (tgt := 87) hx hb dX11_breachOn_40 (by decide) (fun c_4 => ?_) (fun c_4 => ?_)
    ·
      have hie : i = K := lp_eq rfl (by omega) hi c_4
      exact kx87 ls (by rw [hie] at hg; exact hg) (lv_sub hl [1, 2, 3] rfl)
    ·
      have hlt : i < K := lp_lt rfl (by omega) hi c_4
      refine lv_aload_n hx hb dX11_breachOn_43 rfl (lv_at hl 1 rfl) ?_
      obtain ⟨kk_5, hk_6⟩ := pl_at hI.2.1.1.1 hI.2.2.2.1.1
      refine va_get (D := (dC, dI)) (ci := 10) (v := .ref (d 2)) (C := RX11) (T := TX11) (N := 9) hx hb hts (by decide +kernel) hown hK hP kk_5 hk_6 rfl 2 (by decide) (hts (.fieldLink RX11 20 "PageOne" "items" "[LPageOne$Item;") (by decide +kernel)) (fun _ h9 => h9) rfl dX11_breachOn_44 ?_
      refine lv_iload_n hx hb dX11_breachOn_47 rfl (lv_at hl 0 rfl) ?_
      obtain ⟨g_7, hs_8, hn_9, hg_10⟩ := x_itm hI
      obtain ⟨kk_11, hk_12⟩ := pl_at hI.2.1.2.2.2.1.1 hs_8
      refine va_aldq hx hb hK hP kk_11 3 hk_12 rfl (vp_in_nI (by omega) (by decide)) dX11_breachOn_48 ?_
      obtain ⟨b_13, hg_14⟩ := hn_9 ((nI i) : Int32).toNatClampNeg (by rw [eK, nI_clamp (by omega), nI_clamp (by omega)]; exact hlt)
      have ht_15 := hg_10 ((nI i) : Int32).toNatClampNeg (vlt (vp_in_nI (by omega) (by decide))) b_13 hg_14
      rw [hg_14]
      refine W.eq (g2 := F0 m 49 ls [.ref b_13]) rfl ?_
      have hb_16 := rI_at hrp.2.2.1 hs_8 (by rw [eKn]; exact hlt) (by rw [nI_clamp (by omega)] at hg_14; exact hg_14)
      subst hb_16
      obtain ⟨rs_17, n_18, g_19, fg_20, hit_21, hs_22, hpa_23, hps_24, h1_25, h6_26, hcb_27, hpl_28, hlg_29, hnn_30, hfa_31, hfs_32, hfe_33, hrs_34, hkt_35⟩ := it_all hI hrp.2.2.1 (by rw [eKn]; exact hlt)
      refine lv_iload_n hx hb dX11_breachOn_49 rfl (lv_at hl 2 rfl) ?_
      refine w_cut (X := fun R cells slots Q args => ∀ r : Int32, (r = (bP (onP u i p0))) → W p l e R s m args below meth c H locs cells slots Q (F0 m 53 ls (.int r :: []))) ?_ (fun kC => ?_)
      ·
        intro r hw
        obtain rfl : r = (bP (onP u i p0)) := hw
        refine lv_if_eq (tgt := 81) hx hb dX11_breachOn_53 (by decide) (fun c_131 => ?_) (fun c_131 => ?_)
        ·
          refine lv_iinc (v := (nI (i + 1))) (lv' := [(3, .int (nI (i + 1))), (0, .ref h0), (1, .int p0), (2, .int p1)]) hx hb dX11_breachOn_81 hl (k := 0) rfl (nI_1 i) (by decide) rfl (fun ls hl => ?_)
          refine lv_goto (tgt := 35) hx hb dX11_breachOn_84 (by decide) ?_
          exact ih (i + 1) ls (by omega) (by omega) (fun j hj => by rcases Nat.lt_succ_iff_lt_or_eq.mp hj with h9 | h9; exact hg j h9; subst h9; exact fun h8 => bP_0 c_131 h8.1) (lv_sub hl [0, 1, 2, 3] rfl)
        ·
          refine lv_aload_n hx hb dX11_breachOn_56 rfl (lv_at hl 1 rfl) ?_
          refine lv_aload_n hx hb dX11_breachOn_57 rfl (lv_at hl 1 rfl) ?_
          obtain ⟨kk_132, hk_133⟩ := pl_at hI.2.1.1.1 hI.2.2.2.1.1
          refine va_get (D := (dC, dI)) (ci := 10) (v := .ref (d 2)) (C := RX11) (T := TX11) (N := 9) hx hb hts (by decide +kernel) hown hK hP kk_132 hk_133 rfl 2 (by decide) (hts (.fieldLink RX11 20 "PageOne" "items" "[LPageOne$Item;") (by decide +kernel)) (fun _ h9 => h9) rfl dX11_breachOn_58 ?_
          refine lv_iload_n hx hb dX11_breachOn_61 rfl (lv_at hl 0 rfl) ?_
          obtain ⟨kk_134, hk_135⟩ := pl_at hI.2.1.2.2.2.1.1 hs_8
          refine va_aldq hx hb hK hP kk_134 3 hk_135 rfl (vp_in_nI (by omega) (by decide)) dX11_breachOn_62 ?_
          obtain ⟨b_136, hg_137⟩ := hn_9 ((nI i) : Int32).toNatClampNeg (by rw [eK, nI_clamp (by omega), nI_clamp (by omega)]; exact hlt)
          have ht_138 := hg_10 ((nI i) : Int32).toNatClampNeg (vlt (vp_in_nI (by omega) (by decide))) b_136 hg_137
          rw [hg_137]
          refine W.eq (g2 := F0 m 63 ls [.ref b_136, .ref h0]) rfl ?_
          have hb_139 := rI_at hrp.2.2.1 hs_8 (by rw [eKn]; exact hlt) (by rw [nI_clamp (by omega)] at hg_137; exact hg_137)
          subst hb_139
          obtain ⟨rs_140, n_141, g_142, fg_143, hit_144, hs_145, hpa_146, hps_147, h1_148, h6_149, hcb_150, hpl_151, hlg_152, hnn_153, hfa_154, hfs_155, hfe_156, hrs_157, hkt_158⟩ := it_all hI hrp.2.2.1 (by rw [eKn]; exact hlt)
          refine lv_iload_n hx hb dX11_breachOn_63 rfl (lv_at hl 3 rfl) ?_
          obtain ⟨kk_159, hk_160⟩ := pl_at hI.2.1.1.1 hI.2.2.2.1.1
          refine vp_callSi (va_runV (As := [.ref (d (2000 + i)), .int p1]) (rest := []) ⟨hx, hb, hml, hown, hts⟩ (y_failsAlone l dC dI q h0 d k z f hI p1 u hrp hk0 hk1 hk2 hk3 hpcI i (by rw [eKn]; exact hlt)) (cwV 2 hts gX11_breachOn_X11_failsAlone rfl rfl rfl (by decide +kernel) ⟨Nat.le_trans (Nat.le_of_ble_eq_true rfl) hRf, Nat.le_trans (Nat.le_of_ble_eq_true rfl) hRl⟩) ⟨px_fb, va_recv hK hP (ci := 10) (q0 := kk_159) rfl hk_160, fun U hU hW => ⟨rfl, px_to hU hW hP hK hN hXN⟩⟩ rfl rfl hl.1 rfl (lv_room (Nat.le_of_ble_eq_true rfl)) dX11_breachOn_64 ⟨hRc, hRs⟩).run (fun r hw => ?_)
          obtain rfl : r = (bP (faP u i p1)) := hw
          refine lv_if_eq (tgt := 81) hx hb dX11_breachOn_67 (by decide) (fun c_161 => ?_) (fun c_161 => ?_)
          ·
            refine lv_iinc (v := (nI (i + 1))) (lv' := [(3, .int (nI (i + 1))), (0, .ref h0), (1, .int p0), (2, .int p1)]) hx hb dX11_breachOn_81 hl (k := 0) rfl (nI_1 i) (by decide) rfl (fun ls hl => ?_)
            refine lv_goto (tgt := 35) hx hb dX11_breachOn_84 (by decide) ?_
            exact ih (i + 1) ls (by omega) (by omega) (fun j hj => by rcases Nat.lt_succ_iff_lt_or_eq.mp hj with h9 | h9; exact hg j h9; subst h9; exact fun h8 => bP_0 c_161 h8.2) (lv_sub hl [0, 1, 2, 3] rfl)
          ·
            exact kx70 _ ls ⟨hlt, ⟨bP_n c_131, bP_n c_161⟩, hg⟩ (lv_sub hl [0, 1, 2, 3] rfl)
      ·
        rcases x_tag hit_21 with ht9 | ht9 | ht9 | ht9 | ht9 | ht9
        ·
          obtain ⟨nu_36, kd_37, cn_38, pa_39, fa_40, l_41, m_42, hs_43, hs_44, hs_45, hs_46⟩ := x_ifl hI ht9
          obtain ⟨kk_47, hk_48⟩ := pl_at ht9.1 hs_43
          exact vp_callSi (va_runU (As := [.int p0]) (rest := []) ⟨hx, hb, hml, hown, hts⟩ (y_isOn l dC dI q h0 d k z f hI (d (2000 + i)) hit_21 (nI i) (u.2 4 i) (u.2 22 i) (d (3000 + i)) (d (4000 + i)) rs_17 hs_22 n_18 g_19 (pR u i) hpa_23 hps_24 h1_25 h6_26 hcb_27 hpl_28 p0) (va_cwU 1 hts gX11_breachOn_X4_isOn_u346X2 rfl rfl rfl rfl (by decide +kernel) ⟨Nat.le_trans (Nat.le_of_ble_eq_true rfl) hRf, Nat.le_trans (Nat.le_of_ble_eq_true rfl) hRl⟩) ⟨px_fb, va_recv hK hP (ci := 2) (q0 := kk_47) rfl hk_48, fun U hU hW => ⟨rfl, px_to hU hW hP hK hN hXN⟩⟩ rfl rfl hl.1 rfl (lv_room (Nat.le_of_ble_eq_true rfl)) dX11_breachOn_50 ⟨hRc, hRs⟩).run (fun r hw => kC r hw)
        ·
          obtain ⟨nu_49, kd_50, cn_51, pa_52, fa_53, o_54, w_55, y_56, hs_57, hs_58, hs_59, hs_60, hq_61⟩ := x_ihd hI ht9
          obtain ⟨kk_62, hk_63⟩ := pl_at ht9.1 hs_57
          exact vp_callSi (va_runU (As := [.int p0]) (rest := []) ⟨hx, hb, hml, hown, hts⟩ (y_isOn l dC dI q h0 d k z f hI (d (2000 + i)) hit_21 (nI i) (u.2 4 i) (u.2 22 i) (d (3000 + i)) (d (4000 + i)) rs_17 hs_22 n_18 g_19 (pR u i) hpa_23 hps_24 h1_25 h6_26 hcb_27 hpl_28 p0) (va_cwU 1 hts gX11_breachOn_X4_isOn_u346X3 rfl rfl rfl rfl (by decide +kernel) ⟨Nat.le_trans (Nat.le_of_ble_eq_true rfl) hRf, Nat.le_trans (Nat.le_of_ble_eq_true rfl) hRl⟩) ⟨px_fb, va_recv hK hP (ci := 3) (q0 := kk_62) rfl hk_63, fun U hU hW => ⟨rfl, px_to hU hW hP hK hN hXN⟩⟩ rfl rfl hl.1 rfl (lv_room (Nat.le_of_ble_eq_true rfl)) dX11_breachOn_50 ⟨hRc, hRs⟩).run (fun r hw => kC r hw)
        ·
          obtain ⟨nu_64, kd_65, cn_66, pa_67, fa_68, o_69, y_70, hs_71, hs_72, hs_73, hs_74, hq_75⟩ := x_ino hI ht9
          obtain ⟨kk_76, hk_77⟩ := pl_at ht9.1 hs_71
          exact vp_callSi (va_runU (As := [.int p0]) (rest := []) ⟨hx, hb, hml, hown, hts⟩ (y_isOn l dC dI q h0 d k z f hI (d (2000 + i)) hit_21 (nI i) (u.2 4 i) (u.2 22 i) (d (3000 + i)) (d (4000 + i)) rs_17 hs_22 n_18 g_19 (pR u i) hpa_23 hps_24 h1_25 h6_26 hcb_27 hpl_28 p0) (va_cwU 1 hts gX11_breachOn_X4_isOn_u346X5 rfl rfl rfl rfl (by decide +kernel) ⟨Nat.le_trans (Nat.le_of_ble_eq_true rfl) hRf, Nat.le_trans (Nat.le_of_ble_eq_true rfl) hRl⟩) ⟨px_fb, va_recv hK hP (ci := 4) (q0 := kk_76) rfl hk_77, fun U hU hW => ⟨rfl, px_to hU hW hP hK hN hXN⟩⟩ rfl rfl hl.1 rfl (lv_room (Nat.le_of_ble_eq_true rfl)) dX11_breachOn_50 ⟨hRc, hRs⟩).run (fun r hw => kC r hw)
        ·
          obtain ⟨nu_78, kd_79, cn_80, pa_81, fa_82, b_83, pr_84, sp_85, dy_86, hs_87, hs_88, hs_89, hs_90, hq_91, hq_92, hq_93⟩ := x_ipd hI ht9
          obtain ⟨kk_94, hk_95⟩ := pl_at ht9.1 hs_87
          exact vp_callSi (va_runU (As := [.int p0]) (rest := []) ⟨hx, hb, hml, hown, hts⟩ (y_isOn l dC dI q h0 d k z f hI (d (2000 + i)) hit_21 (nI i) (u.2 4 i) (u.2 22 i) (d (3000 + i)) (d (4000 + i)) rs_17 hs_22 n_18 g_19 (pR u i) hpa_23 hps_24 h1_25 h6_26 hcb_27 hpl_28 p0) (va_cwU 1 hts gX11_breachOn_X4_isOn_u346X6 rfl rfl rfl rfl (by decide +kernel) ⟨Nat.le_trans (Nat.le_of_ble_eq_true rfl) hRf, Nat.le_trans (Nat.le_of_ble_eq_true rfl) hRl⟩) ⟨px_fb, va_recv hK hP (ci := 5) (q0 := kk_94) rfl hk_95, fun U hU hW => ⟨rfl, px_to hU hW hP hK hN hXN⟩⟩ rfl rfl hl.1 rfl (lv_room (Nat.le_of_ble_eq_true rfl)) dX11_breachOn_50 ⟨hRc, hRs⟩).run (fun r hw => kC r hw)
        ·
          obtain ⟨nu_96, kd_97, cn_98, pa_99, fa_100, ww_101, hh_102, sz_103, hs_104, hs_105, hs_106, hs_107, hq_108, hq_109, hq_110⟩ := x_ipi hI ht9
          obtain ⟨kk_111, hk_112⟩ := pl_at ht9.1 hs_104
          exact vp_callSi (va_runU (As := [.int p0]) (rest := []) ⟨hx, hb, hml, hown, hts⟩ (y_isOn l dC dI q h0 d k z f hI (d (2000 + i)) hit_21 (nI i) (u.2 4 i) (u.2 22 i) (d (3000 + i)) (d (4000 + i)) rs_17 hs_22 n_18 g_19 (pR u i) hpa_23 hps_24 h1_25 h6_26 hcb_27 hpl_28 p0) (va_cwU 1 hts gX11_breachOn_X4_isOn_u346X7 rfl rfl rfl rfl (by decide +kernel) ⟨Nat.le_trans (Nat.le_of_ble_eq_true rfl) hRf, Nat.le_trans (Nat.le_of_ble_eq_true rfl) hRl⟩) ⟨px_fb, va_recv hK hP (ci := 6) (q0 := kk_111) rfl hk_112, fun U hU hW => ⟨rfl, px_to hU hW hP hK hN hXN⟩⟩ rfl rfl hl.1 rfl (lv_room (Nat.le_of_ble_eq_true rfl)) dX11_breachOn_50 ⟨hRc, hRs⟩).run (fun r hw => kC r hw)
        ·
          obtain ⟨nu_113, kd_114, cn_115, pa_116, fa_117, l_118, co_119, wd_120, nm_121, hs_122, hs_123, hs_124, hs_125, hq_126, hq_127, hq_128⟩ := x_ist hI ht9
          obtain ⟨kk_129, hk_130⟩ := pl_at ht9.1 hs_122
          exact vp_callSi (va_runU (As := [.int p0]) (rest := []) ⟨hx, hb, hml, hown, hts⟩ (y_isOn l dC dI q h0 d k z f hI (d (2000 + i)) hit_21 (nI i) (u.2 4 i) (u.2 22 i) (d (3000 + i)) (d (4000 + i)) rs_17 hs_22 n_18 g_19 (pR u i) hpa_23 hps_24 h1_25 h6_26 hcb_27 hpl_28 p0) (va_cwU 1 hts gX11_breachOn_X4_isOn_u346X10 rfl rfl rfl rfl (by decide +kernel) ⟨Nat.le_trans (Nat.le_of_ble_eq_true rfl) hRf, Nat.le_trans (Nat.le_of_ble_eq_true rfl) hRl⟩) ⟨px_fb, va_recv hK hP (ci := 9) (q0 := kk_129) rfl hk_130, fun U hU hW => ⟨rfl, px_to hU hW hP hK hN hXN⟩⟩ rfl rfl hl.1 rfl (lv_room (Nat.le_of_ble_eq_true rfl)) dX11_breachOn_50 ⟨hRc, hRs⟩).run (fun r hw => kC r hw)
set_option maxHeartbeats 4000000 in
set_option maxRecDepth 100000 in
theorem y_breachOn (l : Launch) (dC : Nat → ClassId) (dI : Nat → Nat → Nat) (q : Nat → ClassId) (h0 : Nat) (d : Nat → Nat) (k : Nat → Int32) (z : gS) (f : xF) (hI : xI q h0 d k z f) (p0 : Int32) (u : mS) (hrp : rep q d u z f) (hk0 : k 0 = u.1 3) (hk1 : k 1 = u.1 28) (hk2 : k 2 = u.1 38) (hk3 : k 3 = u.1 39) (hkB : kB u) (hpcI : pcI u) (sz : Nat) : Met l yX11_breachOn wsX11_breachOn ({ frames := 5, cells := 4, slots := 12, locals := 110 }) (va_Pc [.ref h0, .int p0] (fun U => U.heap.size = sz ∧ PX dC dI (va_pl z.1 f) (xT q) U ∧ va_D (fun _ => True) (va_pl z.1 f))) (va_Qq (fun (r : Option Nat) (w : xU) => brP q h0 d k z f u p0 r w) (fun (w : xU) t => va_P (dC, dI) vwCl (va_pl w.2.1.1 w.2.2) t.heap ∧ va_D (va_A (va_pl z.1 f) sz) (va_pl w.2.1.1 w.2.2)) (va_A (va_pl z.1 f) sz)) 4 12 (va_A (va_pl z.1 f) sz) := by
  refine Met.ofW (cc := cX11_breachOn) (maxL := 4) (ret := (some (.object "PageOne$Breach"))) (by decide) rfl ?_
  intro p e s m args below meth c s₁ B hml hv
  obtain ⟨rfl, hsz, ⟨⟨hP, hK, hN⟩, hXN⟩, hD0⟩ := hv
  have hx := B.exec
  have hb := B.bytes
  have hr := B.returns
  have hts := atoms_spec (ws := wsX11_breachOn) B.pre
  have hown : s.vm.findClass RX11 = some m.cls := findClass_of_methodNamed B.named
  have hlocks := B.notSynchronized
  subst hsz
  have hD := hD0.self (sz := s.heap.size)
  generalize hAe : va_A (va_pl z.1 f) s.heap.size = A at hD ⊢
  have hA : ∀ q : Nat, s.heap.size ≤ q → A q := fun q h => by rw [← hAe]; exact Or.inr h
  have hS : va_S A s.heap s.heap [] := va_S.rf
  have hl := lv_entry ([.ref h0, .int p0]) (n := 4) (Nat.le_of_ble_eq_true rfl)
  rw [lg_entry_eq]
  generalize (lg_sl ([.ref h0, .int p0]) ++ List.replicate (4 - (lg_sl ([.ref h0, .int p0])).length) Slot.unset).toArray = ls at hl ⊢
  have hl : lv_has ls 4 [(0, .ref h0), (1, .int p0)] := hl
  have h3m : f (d 3) = f (d 3) := rfl
  have hk1o := hk1
  refine lv_iconst (v := 1) hx hb dX11_breachOn_0 (by decide) ?_
  refine lv_istore_n (lv' := [(2, .int 1), (0, .ref h0), (1, .int p0)]) hx hb dX11_breachOn_1 rfl hl (by decide) rfl (fun ls hl => ?_)
  refine lv_iload_n hx hb dX11_breachOn_2 rfl (lv_at hl 0 rfl) ?_
  refine lv_iconst (v := 3) hx hb dX11_breachOn_3 (by decide) ?_
  refine lv_icmp_gt (tgt := 26) hx hb dX11_breachOn_4 (by decide) (fun c_1 => absurd c_1 (by decide)) (fun c_1 => ?_)
  refine lv_aload_n hx hb dX11_breachOn_7 rfl (lv_at hl 1 rfl) ?_
  refine lv_iload_n hx hb dX11_breachOn_8 rfl (lv_at hl 2 rfl) ?_
  refine lv_iload_n hx hb dX11_breachOn_9 rfl (lv_at hl 0 rfl) ?_
  obtain ⟨kk_2, hk_3⟩ := pl_at hI.2.1.1.1 hI.2.2.2.1.1
  have hFc := fr_all hD hS hA
  refine va_callq (va_runV (As := [.int p0, .int 1]) (rest := []) ⟨hx, hb, hml, hown, hts⟩ (y_leastPair l dC dI q h0 d k z f hI p0 1 u hrp hk0 hk1o hk2 hk3 hkB s.heap.size) (cwV 2 hts gX11_breachOn_X11_leastPair rfl rfl rfl (by decide +kernel) ⟨Nat.le_of_ble_eq_true rfl, Nat.le_of_ble_eq_true rfl⟩) ⟨gx_fb, va_recv hK hP (ci := 10) (q0 := kk_2) rfl hk_3, fun U hU hW => ⟨rfl, by rw [hU], px_to hU hW hP hK hN hXN, hD.weaken (fun _ _ _ _ => trivial)⟩⟩ rfl rfl hl.1 rfl (lv_room (Nat.le_of_ble_eq_true rfl)) dX11_breachOn_10 ⟨Nat.le_of_ble_eq_true rfl, Nat.le_of_ble_eq_true rfl⟩) hS (fun q _ h => hFc q h) hFc (fun r w_4 t H1 locs ht hvm hw hB hz1 hk1 hS => ?_)
  obtain ⟨hP, hD1⟩ := hB
  rw [ht] at hP
  have hD := hD1.weaken (fun _ q _ h => hFc q.1 h)
  generalize H1 = H at hP hS ⊢
  refine W.widen (k := 1) (n := 3) (Nat.le_of_ble_eq_true rfl) (Nat.le_of_ble_eq_true rfl) ?_
  rcases hw with ⟨hr9, hw, hnl1⟩ | ⟨b_5, ax_11, bx_12, hr9, -, hw2, hw3, hwr, hw9, hv_6, hv_7, hM_8⟩
  ·
    subst hr9
    subst hw
    have hP : va_P (dC, dI) vwCl (va_pl z.1 f) H := hP
    have hD : va_D A (va_pl z.1 f) := hD
    refine W.eq (g2 := F0 m 13 ls [.null]) rfl ?_
    refine lv_astore_nN (lv' := [(3, .null), (2, .int 1), (0, .ref h0), (1, .int p0)]) hx hb dX11_breachOn_13 rfl hl (by decide) rfl (fun ls hl => ?_)
    refine lv_aload_nN hx hb dX11_breachOn_14 rfl (lv_at hl 0 rfl) ?_
    refine lv_ifnullN (tgt := 20) hx hb dX11_breachOn_15 (by decide) ?_
    refine lv_iinc (v := 2) (lv' := [(2, .int 2), (3, .null), (0, .ref h0), (1, .int p0)]) hx hb dX11_breachOn_20 hl (k := 1) rfl (by decide) (by decide) rfl (fun ls hl => ?_)
    refine lv_goto (tgt := 2) hx hb dX11_breachOn_23 (by decide) ?_
    refine lv_iload_n hx hb dX11_breachOn_2 rfl (lv_at hl 0 rfl) ?_
    refine lv_iconst (v := 3) hx hb dX11_breachOn_3 (by decide) ?_
    refine lv_icmp_gt (tgt := 26) hx hb dX11_breachOn_4 (by decide) (fun c_17 => absurd c_17 (by decide)) (fun c_17 => ?_)
    refine lv_aload_n hx hb dX11_breachOn_7 rfl (lv_at hl 2 rfl) ?_
    refine lv_iload_n hx hb dX11_breachOn_8 rfl (lv_at hl 3 rfl) ?_
    refine lv_iload_n hx hb dX11_breachOn_9 rfl (lv_at hl 0 rfl) ?_
    obtain ⟨kk_18, hk_19⟩ := pl_at hI.2.1.1.1 hI.2.2.2.1.1
    have hFc := fr_all hD hS hA
    refine va_callq (va_runV (As := [.int p0, .int 2]) (rest := []) ⟨hx, hb, hml, hown, hts⟩ (y_leastPair l dC dI q h0 d k z f hI p0 2 u hrp hk0 hk1o hk2 hk3 hkB H.size) (cwV 2 hts gX11_breachOn_X11_leastPair rfl rfl rfl (by decide +kernel) ⟨Nat.le_of_ble_eq_true rfl, Nat.le_of_ble_eq_true rfl⟩) ⟨gx_fb, va_recv hK hP (ci := 10) (q0 := kk_18) rfl hk_19, fun U hU hW => ⟨rfl, by rw [hU], px_to hU hW hP hK hN hXN, hD.weaken (fun _ _ _ _ => trivial)⟩⟩ rfl rfl hl.1 rfl (lv_room (Nat.le_of_ble_eq_true rfl)) dX11_breachOn_10 ⟨Nat.le_of_ble_eq_true rfl, Nat.le_of_ble_eq_true rfl⟩) hS (fun q _ h => hFc q h) hFc (fun r w_20 t H1 locs ht hvm hw hB hz1 hk1 hS => ?_)
    obtain ⟨hP, hD1⟩ := hB
    rw [ht] at hP
    have hD := hD1.weaken (fun _ q _ h => hFc q.1 h)
    generalize H1 = H at hP hS ⊢
    refine W.widen (k := 2) (n := 6) (Nat.le_of_ble_eq_true rfl) (Nat.le_of_ble_eq_true rfl) ?_
    rcases hw with ⟨hr9, hw, hnl2⟩ | ⟨b_21, ax_27, bx_28, hr9, -, hw2, hw3, hwr, hw9, hv_22, hv_23, hM_24⟩
    ·
      subst hr9
      subst hw
      have hP : va_P (dC, dI) vwCl (va_pl z.1 f) H := hP
      have hD : va_D A (va_pl z.1 f) := hD
      refine W.eq (g2 := F0 m 13 ls [.null]) rfl ?_
      refine lv_astore_nN (lv' := [(3, .null), (2, .int 2), (0, .ref h0), (1, .int p0)]) hx hb dX11_breachOn_13 rfl hl (by decide) rfl (fun ls hl => ?_)
      refine lv_aload_nN hx hb dX11_breachOn_14 rfl (lv_at hl 0 rfl) ?_
      refine lv_ifnullN (tgt := 20) hx hb dX11_breachOn_15 (by decide) ?_
      refine lv_iinc (v := 3) (lv' := [(2, .int 3), (3, .null), (0, .ref h0), (1, .int p0)]) hx hb dX11_breachOn_20 hl (k := 1) rfl (by decide) (by decide) rfl (fun ls hl => ?_)
      refine lv_goto (tgt := 2) hx hb dX11_breachOn_23 (by decide) ?_
      refine lv_iload_n hx hb dX11_breachOn_2 rfl (lv_at hl 0 rfl) ?_
      refine lv_iconst (v := 3) hx hb dX11_breachOn_3 (by decide) ?_
      refine lv_icmp_gt (tgt := 26) hx hb dX11_breachOn_4 (by decide) (fun c_33 => absurd c_33 (by decide)) (fun c_33 => ?_)
      refine lv_aload_n hx hb dX11_breachOn_7 rfl (lv_at hl 2 rfl) ?_
      refine lv_iload_n hx hb dX11_breachOn_8 rfl (lv_at hl 3 rfl) ?_
      refine lv_iload_n hx hb dX11_breachOn_9 rfl (lv_at hl 0 rfl) ?_
      obtain ⟨kk_34, hk_35⟩ := pl_at hI.2.1.1.1 hI.2.2.2.1.1
      have hFc := fr_all hD hS hA
      refine va_callq (va_runV (As := [.int p0, .int 3]) (rest := []) ⟨hx, hb, hml, hown, hts⟩ (y_leastPair l dC dI q h0 d k z f hI p0 3 u hrp hk0 hk1o hk2 hk3 hkB H.size) (cwV 2 hts gX11_breachOn_X11_leastPair rfl rfl rfl (by decide +kernel) ⟨Nat.le_of_ble_eq_true rfl, Nat.le_of_ble_eq_true rfl⟩) ⟨gx_fb, va_recv hK hP (ci := 10) (q0 := kk_34) rfl hk_35, fun U hU hW => ⟨rfl, by rw [hU], px_to hU hW hP hK hN hXN, hD.weaken (fun _ _ _ _ => trivial)⟩⟩ rfl rfl hl.1 rfl (lv_room (Nat.le_of_ble_eq_true rfl)) dX11_breachOn_10 ⟨Nat.le_of_ble_eq_true rfl, Nat.le_of_ble_eq_true rfl⟩) hS (fun q _ h => hFc q h) hFc (fun r w_36 t H1 locs ht hvm hw hB hz1 hk1 hS => ?_)
      obtain ⟨hP, hD1⟩ := hB
      rw [ht] at hP
      have hD := hD1.weaken (fun _ q _ h => hFc q.1 h)
      generalize H1 = H at hP hS ⊢
      refine W.widen (k := 3) (n := 9) (Nat.le_of_ble_eq_true rfl) (Nat.le_of_ble_eq_true rfl) ?_
      rcases hw with ⟨hr9, hw, hnl3⟩ | ⟨b_37, ax_43, bx_44, hr9, -, hw2, hw3, hwr, hw9, hv_38, hv_39, hM_40⟩
      ·
        subst hr9
        subst hw
        have hP : va_P (dC, dI) vwCl (va_pl z.1 f) H := hP
        have hD : va_D A (va_pl z.1 f) := hD
        refine W.eq (g2 := F0 m 13 ls [.null]) rfl ?_
        refine lv_astore_nN (lv' := [(3, .null), (2, .int 3), (0, .ref h0), (1, .int p0)]) hx hb dX11_breachOn_13 rfl hl (by decide) rfl (fun ls hl => ?_)
        refine lv_aload_nN hx hb dX11_breachOn_14 rfl (lv_at hl 0 rfl) ?_
        refine lv_ifnullN (tgt := 20) hx hb dX11_breachOn_15 (by decide) ?_
        refine lv_iinc (v := 4) (lv' := [(2, .int 4), (3, .null), (0, .ref h0), (1, .int p0)]) hx hb dX11_breachOn_20 hl (k := 1) rfl (by decide) (by decide) rfl (fun ls hl => ?_)
        refine lv_goto (tgt := 2) hx hb dX11_breachOn_23 (by decide) ?_
        refine lv_iload_n hx hb dX11_breachOn_2 rfl (lv_at hl 0 rfl) ?_
        refine lv_iconst (v := 3) hx hb dX11_breachOn_3 (by decide) ?_
        refine lv_icmp_gt (tgt := 26) hx hb dX11_breachOn_4 (by decide) (fun c_49 => ?_) (fun c_49 => absurd (by decide) c_49)
        refine lv_iconst (v := 4) hx hb dX11_breachOn_26 (by decide) ?_
        refine lv_istore_n (lv' := [(2, .int 4), (3, .null), (0, .ref h0), (1, .int p0)]) hx hb dX11_breachOn_27 rfl hl (by decide) rfl (fun ls hl => ?_)
        refine lv_iload_n hx hb dX11_breachOn_28 rfl (lv_at hl 0 rfl) ?_
        refine lv_iconst (v := 5) hx hb dX11_breachOn_29 (by decide) ?_
        refine lv_icmp_gt (tgt := 93) hx hb dX11_breachOn_30 (by decide) (fun c_50 => absurd c_50 (by decide)) (fun c_50 => ?_)
        refine lv_iconst (v := 0) hx hb dX11_breachOn_33 (by decide) ?_
        refine lv_istore_n (lv' := [(3, .int 0), (2, .int 4), (0, .ref h0), (1, .int p0)]) hx hb dX11_breachOn_34 rfl hl (by decide) rfl (fun ls hl => ?_)
        obtain ⟨K, hK8, -, eK⟩ := exN hI.1.1 (by decide)
        have h80 : (80 : Int32).toInt = 80 := rfl
        have eKn : (u.1 3).toNatClampNeg = K := by rw [← hk0, eK, nI_clamp (by omega)]
        refine y_br_l (K := K) hI hx hb hml hts hown hN hXN hK (Nat.le_of_ble_eq_true rfl) (Nat.le_of_ble_eq_true rfl) (Nat.le_of_ble_eq_true rfl) (Nat.le_of_ble_eq_true rfl) hP hrp hk0 hk1o hk2 hk3 (by omega) eK eKn hpcI (fun ls hns1 hl => ?_) (fun i9 ls hye hl => ?_) (K + 1) 0 ls (Nat.zero_le _) (by omega) (fun j hj => absurd hj (Nat.not_lt_zero _)) (lv_sub hl [0, 2, 3, 1] rfl)
        ·
          refine lv_iinc (v := 5) (lv' := [(2, .int 5), (0, .ref h0), (1, .int p0)]) hx hb dX11_breachOn_87 hl (k := 2) rfl (by decide) (by decide) rfl (fun ls hl => ?_)
          refine lv_goto (tgt := 28) hx hb dX11_breachOn_90 (by decide) ?_
          refine lv_iload_n hx hb dX11_breachOn_28 rfl (lv_at hl 0 rfl) ?_
          refine lv_iconst (v := 5) hx hb dX11_breachOn_29 (by decide) ?_
          refine lv_icmp_gt (tgt := 93) hx hb dX11_breachOn_30 (by decide) (fun c_51 => absurd c_51 (by decide)) (fun c_51 => ?_)
          refine lv_iconst (v := 0) hx hb dX11_breachOn_33 (by decide) ?_
          refine lv_istore_n (lv' := [(3, .int 0), (2, .int 5), (0, .ref h0), (1, .int p0)]) hx hb dX11_breachOn_34 rfl hl (by decide) rfl (fun ls hl => ?_)
          refine y_br_l (K := K) hI hx hb hml hts hown hN hXN hK (Nat.le_of_ble_eq_true rfl) (Nat.le_of_ble_eq_true rfl) (Nat.le_of_ble_eq_true rfl) (Nat.le_of_ble_eq_true rfl) hP hrp hk0 hk1o hk2 hk3 (by omega) eK eKn hpcI (fun ls hns2 hl => ?_) (fun i9 ls hye hl => ?_) (K + 1) 0 ls (Nat.zero_le _) (by omega) (fun j hj => absurd hj (Nat.not_lt_zero _)) (lv_sub hl [0, 2, 3, 1] rfl)
          ·
            refine lv_iinc (v := 6) (lv' := [(2, .int 6), (0, .ref h0), (1, .int p0)]) hx hb dX11_breachOn_87 hl (k := 2) rfl (by decide) (by decide) rfl (fun ls hl => ?_)
            refine lv_goto (tgt := 28) hx hb dX11_breachOn_90 (by decide) ?_
            refine lv_iload_n hx hb dX11_breachOn_28 rfl (lv_at hl 0 rfl) ?_
            refine lv_iconst (v := 5) hx hb dX11_breachOn_29 (by decide) ?_
            refine lv_icmp_gt (tgt := 93) hx hb dX11_breachOn_30 (by decide) (fun c_52 => ?_) (fun c_52 => absurd (by decide) c_52)
            refine va_new (ci := 1) (fs := [.int 0, .int 0, .int 0]) (C := RX1) (T := TX1) (N := 3) hx hb hts (by decide +kernel) tyX1 tyX1_ok hown (hts (.classLink RX11 202 RX1) (by decide +kernel)) (hts (.instantiable RX1 3) (by decide +kernel)) (hts (.initialized RX1) (by decide +kernel)) hK hP hD hS hA rfl nwX1 (Nat.le_of_ble_eq_true rfl) (Nat.le_of_ble_eq_true rfl) dX11_breachOn_93 (fun q_53 H hPn hDn hS => ?_)
            have hP := vaP_l hPn
            refine W.widen (k := 4) (n := 12) (Nat.le_of_ble_eq_true rfl) (Nat.le_of_ble_eq_true rfl) ?_
            refine lv_dup hx hb dX11_breachOn_96 rfl ?_
            refine lv_iconst (v := 0) hx hb dX11_breachOn_97 (by decide) ?_
            refine lv_iconst (v := (-1)) hx hb dX11_breachOn_98 (by decide) ?_
            refine lv_iconst (v := (-1)) hx hb dX11_breachOn_99 (by decide) ?_
            have hPc := vaP_r hPn
            have hDc := vaD_r hDn
            have hFc := fr_part hDn hS hA
            refine va_callv (va_runI (As := [.int 0, .int (-1), .int (-1)]) (rest := [.ref q_53]) ⟨hx, hb, hml, hown, hts⟩ (x_Breach l dC dI q_53 0 (-1) (-1) H.size) (cwI 3 hts gX11_breachOn_X1_init rfl rfl rfl (hts (.initialized RX1) (by decide +kernel)) (hts (.methodLink RX11 353 yX1_init) (by decide +kernel)) (hts (.instanceMethod yX1_init) (by decide +kernel)) rfl (by decide +kernel) ⟨Nat.le_of_ble_eq_true rfl, Nat.le_of_ble_eq_true rfl⟩) ⟨gw_fb, fun U hU hW => ⟨rfl, by rw [hU], pw_to hU hW hPc (hK.sub (tys' := []) [] rfl) hN, hDc.weaken (fun _ _ _ _ => trivial)⟩⟩ rfl rfl hl.1 rfl (lv_room (Nat.le_of_ble_eq_true rfl)) dX11_breachOn_100 ⟨Nat.le_of_ble_eq_true rfl, Nat.le_of_ble_eq_true rfl⟩) hS (fun q _ h => hFc q h) hFc (fun u9 t H1 locs ht hvm hw hB hz1 hk1 hS => ?_)
            obtain ⟨hP1, hD1⟩ := hB
            rw [ht] at hP1
            obtain ⟨hP, hD⟩ := va_joinQ (X := [(q_53, .inr (1, [.int 0, .int 0, .int 0]))]) (cx := [(q_53, .inr (1, [.int 0, .int 0, .int 0]))]) (wr := []) (w1 := [(q_53, .inr (1, [.int 0, .int (-1), .int (-1)]))]) (pl := va_pl z.1 f) (vaP_swap hPn) (vaD_rotR hDn) [0] [] rfl rfl rfl (fun i hi => absurd hi List.not_mem_nil) hk1 hFc hP1 hD1
            generalize H1 = H at hP hS ⊢
            obtain ⟨hnm_54, hP, hD⟩ := pushC hP hD
            obtain ⟨z_55, ez_55⟩ : ∃ y : gS, y = pz z q_53 (24, 0, []) := ⟨_, rfl⟩
            obtain ⟨f_56, ef_56⟩ : ∃ y : xF, y = va_up f q_53 (.inr (1, [.int 0, .int (-1), .int (-1)])) := ⟨_, rfl⟩
            have hE_57 : zE z z_55 := by rw [ez_55]; exact pz_E hnm_54 _
            have hI : xI q h0 d k z_55 f_56 := by rw [ez_55, ef_56]; exact x_push hI hnm_54 (Or.inr (by decide : (15 : Nat) < 24)) (cO_24 (by rw [pz_s]))
            rw [show z.1 ++ [q_53] = z_55.1 from by rw [ez_55]; rfl, ← ef_56] at hP hD
            have ht_58 : tg z_55 q_53 24 := by rw [ez_55]; exact pz_t _ _ _
            have hEz : zE z z_55 := zE_tr (zE_rf z) hE_57
            have h3m : f_56 (d 3) = f (d 3) := by rw [ef_56]; exact (up_o (fun e9 => hnm_54 (by rw [← e9]; exact hrp.2.2.2.2.2.2.2.1.1.1))).trans h3m
            have hrp_59 : rep q d u z_55 f_56 := by rw [ez_55, ef_56]; exact rep_grow hrp (pz_E hnm_54 _) (oK_push (fun _ _ => rfl) (zE_rf _) hnm_54)
            refine W.eq (g2 := F0 m 103 ls [.ref q_53]) rfl ?_
            have hbc_60 : f_56 q_53 = .inr (1, [.int 0, .int (-1), .int (-1)]) := by rw [ef_56]; exact up_s
            exact W.aret (v := .ref q_53) hx hb hr (Or.inl ⟨_, rfl⟩) (Or.inr ⟨_, rfl⟩) (fun t ht hW => ⟨⟨(some q_53), (k, z_55, f_56), rfl, ⟨q_53, _, _, _, rfl, rfl, hEz, hI, hrp_59, h3m, ht_58, hbc_60, Or.inr ⟨hnl1, Or.inr ⟨hnl2, Or.inr ⟨hnl3, Or.inr ⟨(fun i hi => hns1 i (by omega)), Or.inr ⟨(fun i hi => hns2 i (by omega)), rfl, rfl, rfl⟩⟩⟩⟩⟩⟩, by rw [ht]; exact hP, hD⟩, hS.F ht⟩) hS.2.2 dX11_breachOn_103
          ·
            refine va_new (ci := 1) (fs := [.int 0, .int 0, .int 0]) (C := RX1) (T := TX1) (N := 3) hx hb hts (by decide +kernel) tyX1 tyX1_ok hown (hts (.classLink RX11 202 RX1) (by decide +kernel)) (hts (.instantiable RX1 3) (by decide +kernel)) (hts (.initialized RX1) (by decide +kernel)) hK hP hD hS hA rfl nwX1 (Nat.le_of_ble_eq_true rfl) (Nat.le_of_ble_eq_true rfl) dX11_breachOn_70 (fun q_61 H hPn hDn hS => ?_)
            have hP := vaP_l hPn
            refine W.widen (k := 4) (n := 12) (Nat.le_of_ble_eq_true rfl) (Nat.le_of_ble_eq_true rfl) ?_
            refine lv_dup hx hb dX11_breachOn_73 rfl ?_
            refine lv_iload_n hx hb dX11_breachOn_74 rfl (lv_at hl 3 rfl) ?_
            refine lv_iload_n hx hb dX11_breachOn_75 rfl (lv_at hl 0 rfl) ?_
            refine lv_iconst (v := (-1)) hx hb dX11_breachOn_76 (by decide) ?_
            have hPc := vaP_r hPn
            have hDc := vaD_r hDn
            have hFc := fr_part hDn hS hA
            refine va_callv (va_runI (As := [.int 5, .int (nI i9), .int (-1)]) (rest := [.ref q_61]) ⟨hx, hb, hml, hown, hts⟩ (x_Breach l dC dI q_61 5 (nI i9) (-1) H.size) (cwI 3 hts gX11_breachOn_X1_init rfl rfl rfl (hts (.initialized RX1) (by decide +kernel)) (hts (.methodLink RX11 353 yX1_init) (by decide +kernel)) (hts (.instanceMethod yX1_init) (by decide +kernel)) rfl (by decide +kernel) ⟨Nat.le_of_ble_eq_true rfl, Nat.le_of_ble_eq_true rfl⟩) ⟨gw_fb, fun U hU hW => ⟨rfl, by rw [hU], pw_to hU hW hPc (hK.sub (tys' := []) [] rfl) hN, hDc.weaken (fun _ _ _ _ => trivial)⟩⟩ rfl rfl hl.1 rfl (lv_room (Nat.le_of_ble_eq_true rfl)) dX11_breachOn_77 ⟨Nat.le_of_ble_eq_true rfl, Nat.le_of_ble_eq_true rfl⟩) hS (fun q _ h => hFc q h) hFc (fun u9 t H1 locs ht hvm hw hB hz1 hk1 hS => ?_)
            obtain ⟨hP1, hD1⟩ := hB
            rw [ht] at hP1
            obtain ⟨hP, hD⟩ := va_joinQ (X := [(q_61, .inr (1, [.int 0, .int 0, .int 0]))]) (cx := [(q_61, .inr (1, [.int 0, .int 0, .int 0]))]) (wr := []) (w1 := [(q_61, .inr (1, [.int 5, .int (nI i9), .int (-1)]))]) (pl := va_pl z.1 f) (vaP_swap hPn) (vaD_rotR hDn) [0] [] rfl rfl rfl (fun i hi => absurd hi List.not_mem_nil) hk1 hFc hP1 hD1
            generalize H1 = H at hP hS ⊢
            obtain ⟨hnm_62, hP, hD⟩ := pushC hP hD
            obtain ⟨z_63, ez_63⟩ : ∃ y : gS, y = pz z q_61 (24, 0, []) := ⟨_, rfl⟩
            obtain ⟨f_64, ef_64⟩ : ∃ y : xF, y = va_up f q_61 (.inr (1, [.int 5, .int (nI i9), .int (-1)])) := ⟨_, rfl⟩
            have hE_65 : zE z z_63 := by rw [ez_63]; exact pz_E hnm_62 _
            have hI : xI q h0 d k z_63 f_64 := by rw [ez_63, ef_64]; exact x_push hI hnm_62 (Or.inr (by decide : (15 : Nat) < 24)) (cO_24 (by rw [pz_s]))
            rw [show z.1 ++ [q_61] = z_63.1 from by rw [ez_63]; rfl, ← ef_64] at hP hD
            have ht_66 : tg z_63 q_61 24 := by rw [ez_63]; exact pz_t _ _ _
            have hEz : zE z z_63 := zE_tr (zE_rf z) hE_65
            have h3m : f_64 (d 3) = f (d 3) := by rw [ef_64]; exact (up_o (fun e9 => hnm_62 (by rw [← e9]; exact hrp.2.2.2.2.2.2.2.1.1.1))).trans h3m
            have hrp_67 : rep q d u z_63 f_64 := by rw [ez_63, ef_64]; exact rep_grow hrp (pz_E hnm_62 _) (oK_push (fun _ _ => rfl) (zE_rf _) hnm_62)
            refine W.eq (g2 := F0 m 80 ls [.ref q_61]) rfl ?_
            have hbc_68 : f_64 q_61 = .inr (1, [.int 5, .int (nI i9), .int (-1)]) := by rw [ef_64]; exact up_s
            exact W.aret (v := .ref q_61) hx hb hr (Or.inl ⟨_, rfl⟩) (Or.inr ⟨_, rfl⟩) (fun t ht hW => ⟨⟨(some q_61), (k, z_63, f_64), rfl, ⟨q_61, _, _, _, rfl, rfl, hEz, hI, hrp_67, h3m, ht_66, hbc_68, Or.inr ⟨hnl1, Or.inr ⟨hnl2, Or.inr ⟨hnl3, Or.inr ⟨(fun i hi => hns1 i (by omega)), Or.inl ⟨rfl, rfl, i9, by omega, rfl, hye.2.1, hye.2.2⟩⟩⟩⟩⟩⟩, by rw [ht]; exact hP, hD⟩, hS.F ht⟩) hS.2.2 dX11_breachOn_80
        ·
          refine va_new (ci := 1) (fs := [.int 0, .int 0, .int 0]) (C := RX1) (T := TX1) (N := 3) hx hb hts (by decide +kernel) tyX1 tyX1_ok hown (hts (.classLink RX11 202 RX1) (by decide +kernel)) (hts (.instantiable RX1 3) (by decide +kernel)) (hts (.initialized RX1) (by decide +kernel)) hK hP hD hS hA rfl nwX1 (Nat.le_of_ble_eq_true rfl) (Nat.le_of_ble_eq_true rfl) dX11_breachOn_70 (fun q_69 H hPn hDn hS => ?_)
          have hP := vaP_l hPn
          refine W.widen (k := 4) (n := 12) (Nat.le_of_ble_eq_true rfl) (Nat.le_of_ble_eq_true rfl) ?_
          refine lv_dup hx hb dX11_breachOn_73 rfl ?_
          refine lv_iload_n hx hb dX11_breachOn_74 rfl (lv_at hl 3 rfl) ?_
          refine lv_iload_n hx hb dX11_breachOn_75 rfl (lv_at hl 0 rfl) ?_
          refine lv_iconst (v := (-1)) hx hb dX11_breachOn_76 (by decide) ?_
          have hPc := vaP_r hPn
          have hDc := vaD_r hDn
          have hFc := fr_part hDn hS hA
          refine va_callv (va_runI (As := [.int 4, .int (nI i9), .int (-1)]) (rest := [.ref q_69]) ⟨hx, hb, hml, hown, hts⟩ (x_Breach l dC dI q_69 4 (nI i9) (-1) H.size) (cwI 3 hts gX11_breachOn_X1_init rfl rfl rfl (hts (.initialized RX1) (by decide +kernel)) (hts (.methodLink RX11 353 yX1_init) (by decide +kernel)) (hts (.instanceMethod yX1_init) (by decide +kernel)) rfl (by decide +kernel) ⟨Nat.le_of_ble_eq_true rfl, Nat.le_of_ble_eq_true rfl⟩) ⟨gw_fb, fun U hU hW => ⟨rfl, by rw [hU], pw_to hU hW hPc (hK.sub (tys' := []) [] rfl) hN, hDc.weaken (fun _ _ _ _ => trivial)⟩⟩ rfl rfl hl.1 rfl (lv_room (Nat.le_of_ble_eq_true rfl)) dX11_breachOn_77 ⟨Nat.le_of_ble_eq_true rfl, Nat.le_of_ble_eq_true rfl⟩) hS (fun q _ h => hFc q h) hFc (fun u9 t H1 locs ht hvm hw hB hz1 hk1 hS => ?_)
          obtain ⟨hP1, hD1⟩ := hB
          rw [ht] at hP1
          obtain ⟨hP, hD⟩ := va_joinQ (X := [(q_69, .inr (1, [.int 0, .int 0, .int 0]))]) (cx := [(q_69, .inr (1, [.int 0, .int 0, .int 0]))]) (wr := []) (w1 := [(q_69, .inr (1, [.int 4, .int (nI i9), .int (-1)]))]) (pl := va_pl z.1 f) (vaP_swap hPn) (vaD_rotR hDn) [0] [] rfl rfl rfl (fun i hi => absurd hi List.not_mem_nil) hk1 hFc hP1 hD1
          generalize H1 = H at hP hS ⊢
          obtain ⟨hnm_70, hP, hD⟩ := pushC hP hD
          obtain ⟨z_71, ez_71⟩ : ∃ y : gS, y = pz z q_69 (24, 0, []) := ⟨_, rfl⟩
          obtain ⟨f_72, ef_72⟩ : ∃ y : xF, y = va_up f q_69 (.inr (1, [.int 4, .int (nI i9), .int (-1)])) := ⟨_, rfl⟩
          have hE_73 : zE z z_71 := by rw [ez_71]; exact pz_E hnm_70 _
          have hI : xI q h0 d k z_71 f_72 := by rw [ez_71, ef_72]; exact x_push hI hnm_70 (Or.inr (by decide : (15 : Nat) < 24)) (cO_24 (by rw [pz_s]))
          rw [show z.1 ++ [q_69] = z_71.1 from by rw [ez_71]; rfl, ← ef_72] at hP hD
          have ht_74 : tg z_71 q_69 24 := by rw [ez_71]; exact pz_t _ _ _
          have hEz : zE z z_71 := zE_tr (zE_rf z) hE_73
          have h3m : f_72 (d 3) = f (d 3) := by rw [ef_72]; exact (up_o (fun e9 => hnm_70 (by rw [← e9]; exact hrp.2.2.2.2.2.2.2.1.1.1))).trans h3m
          have hrp_75 : rep q d u z_71 f_72 := by rw [ez_71, ef_72]; exact rep_grow hrp (pz_E hnm_70 _) (oK_push (fun _ _ => rfl) (zE_rf _) hnm_70)
          refine W.eq (g2 := F0 m 80 ls [.ref q_69]) rfl ?_
          have hbc_76 : f_72 q_69 = .inr (1, [.int 4, .int (nI i9), .int (-1)]) := by rw [ef_72]; exact up_s
          exact W.aret (v := .ref q_69) hx hb hr (Or.inl ⟨_, rfl⟩) (Or.inr ⟨_, rfl⟩) (fun t ht hW => ⟨⟨(some q_69), (k, z_71, f_72), rfl, ⟨q_69, _, _, _, rfl, rfl, hEz, hI, hrp_75, h3m, ht_74, hbc_76, Or.inr ⟨hnl1, Or.inr ⟨hnl2, Or.inr ⟨hnl3, Or.inl ⟨rfl, rfl, i9, by omega, rfl, hye.2.1, hye.2.2⟩⟩⟩⟩⟩, by rw [ht]; exact hP, hD⟩, hS.F ht⟩) hS.2.2 dX11_breachOn_80
      ·
        subst hr9
        obtain ⟨k_47, z_45, f_46⟩ := w_36
        have hP : va_P (dC, dI) vwCl (va_pl z_45.1 f_46) H := hP
        have hD : va_D A (va_pl z_45.1 f_46) := hD
        have hE_48 : zE z z_45 := hw2
        have hI : xI q h0 d k z_45 f_46 := hw3
        have hEz : zE z z_45 := zE_tr (zE_rf z) hE_48
        have ht_41 : tg z_45 b_37 24 := hv_38
        have hbc_42 : f_46 b_37 = .inr (1, [.int 3, .int (nI ax_43), .int (nI bx_44)]) := hv_39
        have hrpx : rep q d u z_45 f_46 := hwr
        have h3m : f_46 (d 3) = f (d 3) := hw9.trans h3m
        refine W.eq (g2 := F0 m 13 ls [.ref b_37]) rfl ?_
        refine lv_astore_n (lv' := [(3, .ref b_37), (2, .int 3), (0, .ref h0), (1, .int p0)]) hx hb dX11_breachOn_13 rfl hl (by decide) rfl (fun ls hl => ?_)
        refine lv_aload_n hx hb dX11_breachOn_14 rfl (lv_at hl 0 rfl) ?_
        refine lv_ifnull hx hb dX11_breachOn_15 ?_
        refine lv_aload_n hx hb dX11_breachOn_18 rfl (lv_at hl 0 rfl) ?_
        refine W.widen (k := 4) (n := 12) (Nat.le_of_ble_eq_true rfl) (Nat.le_of_ble_eq_true rfl) ?_
        exact W.aret (v := .ref b_37) hx hb hr (Or.inl ⟨_, rfl⟩) (Or.inr ⟨_, rfl⟩) (fun t ht hW => ⟨⟨(some b_37), (k, z_45, f_46), rfl, ⟨b_37, _, _, _, rfl, rfl, hEz, hI, hrpx, h3m, ht_41, hbc_42, Or.inr ⟨hnl1, Or.inr ⟨hnl2, Or.inl ⟨rfl, ax_43, bx_44, rfl, rfl, hM_40⟩⟩⟩⟩, by rw [ht]; exact hP, hD⟩, hS.F ht⟩) hS.2.2 dX11_breachOn_19
    ·
      subst hr9
      obtain ⟨k_31, z_29, f_30⟩ := w_20
      have hP : va_P (dC, dI) vwCl (va_pl z_29.1 f_30) H := hP
      have hD : va_D A (va_pl z_29.1 f_30) := hD
      have hE_32 : zE z z_29 := hw2
      have hI : xI q h0 d k z_29 f_30 := hw3
      have hEz : zE z z_29 := zE_tr (zE_rf z) hE_32
      have ht_25 : tg z_29 b_21 24 := hv_22
      have hbc_26 : f_30 b_21 = .inr (1, [.int 2, .int (nI ax_27), .int (nI bx_28)]) := hv_23
      have hrpx : rep q d u z_29 f_30 := hwr
      have h3m : f_30 (d 3) = f (d 3) := hw9.trans h3m
      refine W.eq (g2 := F0 m 13 ls [.ref b_21]) rfl ?_
      refine lv_astore_n (lv' := [(3, .ref b_21), (2, .int 2), (0, .ref h0), (1, .int p0)]) hx hb dX11_breachOn_13 rfl hl (by decide) rfl (fun ls hl => ?_)
      refine lv_aload_n hx hb dX11_breachOn_14 rfl (lv_at hl 0 rfl) ?_
      refine lv_ifnull hx hb dX11_breachOn_15 ?_
      refine lv_aload_n hx hb dX11_breachOn_18 rfl (lv_at hl 0 rfl) ?_
      refine W.widen (k := 4) (n := 12) (Nat.le_of_ble_eq_true rfl) (Nat.le_of_ble_eq_true rfl) ?_
      exact W.aret (v := .ref b_21) hx hb hr (Or.inl ⟨_, rfl⟩) (Or.inr ⟨_, rfl⟩) (fun t ht hW => ⟨⟨(some b_21), (k, z_29, f_30), rfl, ⟨b_21, _, _, _, rfl, rfl, hEz, hI, hrpx, h3m, ht_25, hbc_26, Or.inr ⟨hnl1, Or.inl ⟨rfl, ax_27, bx_28, rfl, rfl, hM_24⟩⟩⟩, by rw [ht]; exact hP, hD⟩, hS.F ht⟩) hS.2.2 dX11_breachOn_19
  ·
    subst hr9
    obtain ⟨k_15, z_13, f_14⟩ := w_4
    have hP : va_P (dC, dI) vwCl (va_pl z_13.1 f_14) H := hP
    have hD : va_D A (va_pl z_13.1 f_14) := hD
    have hE_16 : zE z z_13 := hw2
    have hI : xI q h0 d k z_13 f_14 := hw3
    have hEz : zE z z_13 := zE_tr (zE_rf z) hE_16
    have ht_9 : tg z_13 b_5 24 := hv_6
    have hbc_10 : f_14 b_5 = .inr (1, [.int 1, .int (nI ax_11), .int (nI bx_12)]) := hv_7
    have hrpx : rep q d u z_13 f_14 := hwr
    have h3m : f_14 (d 3) = f (d 3) := hw9.trans h3m
    refine W.eq (g2 := F0 m 13 ls [.ref b_5]) rfl ?_
    refine lv_astore_n (lv' := [(3, .ref b_5), (2, .int 1), (0, .ref h0), (1, .int p0)]) hx hb dX11_breachOn_13 rfl hl (by decide) rfl (fun ls hl => ?_)
    refine lv_aload_n hx hb dX11_breachOn_14 rfl (lv_at hl 0 rfl) ?_
    refine lv_ifnull hx hb dX11_breachOn_15 ?_
    refine lv_aload_n hx hb dX11_breachOn_18 rfl (lv_at hl 0 rfl) ?_
    refine W.widen (k := 4) (n := 12) (Nat.le_of_ble_eq_true rfl) (Nat.le_of_ble_eq_true rfl) ?_
    exact W.aret (v := .ref b_5) hx hb hr (Or.inl ⟨_, rfl⟩) (Or.inr ⟨_, rfl⟩) (fun t ht hW => ⟨⟨(some b_5), (k, z_13, f_14), rfl, ⟨b_5, _, _, _, rfl, rfl, hEz, hI, hrpx, h3m, ht_9, hbc_10, Or.inl ⟨rfl, ax_11, bx_12, rfl, rfl, hM_8⟩⟩, by rw [ht]; exact hP, hD⟩, hS.F ht⟩) hS.2.2 dX11_breachOn_19
def bkP (q : Nat → ClassId) (h0 : Nat) (d : Nat → Nat) (k : Nat → Int32) (z : gS) (f : xF) (u : mS) (p wh r : Int32) (w : xU) : Prop := ((¬ bw p 0 11 = true ∨ ¬ bw wh 0 2 = true) ∧ r = (-1) ∧ w = (k, z, f)) ∨ (bw p 0 11 = true ∧ bw wh 0 2 = true ∧ ∃ x y t, brM u p x y t ∧ r = (if wh = 0 then x else if wh = 1 then y else t) ∧ w.1 = k ∧ zE z w.2.1 ∧ xI q h0 d k w.2.1 w.2.2 ∧ rep q d u w.2.1 w.2.2 ∧ w.2.2 (d 3) = f (d 3))
set_option maxHeartbeats 4000000 in
set_option maxRecDepth 100000 in
theorem y_broken (l : Launch) (dC : Nat → ClassId) (dI : Nat → Nat → Nat) (q : Nat → ClassId) (h0 : Nat) (d : Nat → Nat) (k : Nat → Int32) (z : gS) (f : xF) (hI : xI q h0 d k z f) (p0 p1 : Int32) (u : mS) (hrp : rep q d u z f) (hk0 : k 0 = u.1 3) (hk1 : k 1 = u.1 28) (hk2 : k 2 = u.1 38) (hk3 : k 3 = u.1 39) (hkB : kB u) (hpcI : pcI u) (sz : Nat) : Met l yX11_broken wsX11_broken ({ frames := 6, cells := 4, slots := 12, locals := 133 }) (va_Pc [.ref h0, .int p0, .int p1] (fun U => U.heap.size = sz ∧ PX dC dI (va_pl z.1 f) (xT q) U ∧ va_D (fun _ => True) (va_pl z.1 f))) (va_Qi (fun (r : Int32) (w : xU) => bkP q h0 d k z f u p0 p1 r w) (fun (w : xU) t => va_P (dC, dI) vwCl (va_pl w.2.1.1 w.2.2) t.heap ∧ va_D (va_A (va_pl z.1 f) sz) (va_pl w.2.1.1 w.2.2)) (va_A (va_pl z.1 f) sz)) 4 12 (va_A (va_pl z.1 f) sz) := by
  refine Met.ofW (cc := cX11_broken) (maxL := 4) (ret := (some .int)) (by decide) rfl ?_
  intro p e s m args below meth c s₁ B hml hv
  obtain ⟨rfl, hsz, ⟨⟨hP, hK, hN⟩, hXN⟩, hD0⟩ := hv
  have hx := B.exec
  have hb := B.bytes
  have hr := B.returns
  have hts := atoms_spec (ws := wsX11_broken) B.pre
  have hown : s.vm.findClass RX11 = some m.cls := findClass_of_methodNamed B.named
  have hlocks := B.notSynchronized
  subst hsz
  have hD := hD0.self (sz := s.heap.size)
  generalize hAe : va_A (va_pl z.1 f) s.heap.size = A at hD ⊢
  have hA : ∀ q : Nat, s.heap.size ≤ q → A q := fun q h => by rw [← hAe]; exact Or.inr h
  have hS : va_S A s.heap s.heap [] := va_S.rf
  have hl := lv_entry ([.ref h0, .int p0, .int p1]) (n := 4) (Nat.le_of_ble_eq_true rfl)
  rw [lg_entry_eq]
  generalize (lg_sl ([.ref h0, .int p0, .int p1]) ++ List.replicate (4 - (lg_sl ([.ref h0, .int p0, .int p1])).length) Slot.unset).toArray = ls at hl ⊢
  have hl : lv_has ls 4 [(0, .ref h0), (1, .int p0), (2, .int p1)] := hl
  refine lv_iload_n hx hb dX11_broken_0 rfl (lv_at hl 1 rfl) ?_
  refine vp_callSi (va_runS (As := [.int p0]) (rest := []) ⟨hx, hb, hml, hown, hts⟩ (x_isPage l dC dI p0) (va_cwS 1 hts gX11_broken_X11_isPage rfl rfl rfl (by decide +kernel) ⟨Nat.le_of_ble_eq_true rfl, Nat.le_of_ble_eq_true rfl⟩) ⟨pw_fb, fun U hU hW => ⟨rfl, pw_to hU hW (hP.sub (ws' := []) [] rfl) (hK.sub (tys' := []) [] rfl) hN⟩⟩ rfl rfl hl.1 rfl (lv_room (Nat.le_of_ble_eq_true rfl)) dX11_broken_1 ⟨Nat.le_of_ble_eq_true rfl, Nat.le_of_ble_eq_true rfl⟩).run (fun r hw => ?_)
  rcases Bool.eq_false_or_eq_true (bw p0 0 11) with b_1 | b_1
  ·
    obtain rfl : r = 1 := b_t hw b_1
    refine lv_if_eq (tgt := 16) hx hb dX11_broken_4 (by decide) (fun c_2 => absurd c_2 (by decide)) (fun c_2 => ?_)
    refine lv_iload_n hx hb dX11_broken_7 rfl (lv_at hl 2 rfl) ?_
    refine lv_iconst (v := 0) hx hb dX11_broken_8 (by decide) ?_
    refine lv_iconst (v := 2) hx hb dX11_broken_9 (by decide) ?_
    refine vp_callSi (va_runS (As := [.int p1, .int 0, .int 2]) (rest := []) ⟨hx, hb, hml, hown, hts⟩ (x_isWithin l dC dI p1 0 2) (va_cwS 3 hts gX11_broken_X11_isWithin rfl rfl rfl (by decide +kernel) ⟨Nat.le_of_ble_eq_true rfl, Nat.le_of_ble_eq_true rfl⟩) ⟨pw_fb, fun U hU hW => ⟨rfl, pw_to hU hW (hP.sub (ws' := []) [] rfl) (hK.sub (tys' := []) [] rfl) hN⟩⟩ rfl rfl hl.1 rfl (lv_room (Nat.le_of_ble_eq_true rfl)) dX11_broken_10 ⟨Nat.le_of_ble_eq_true rfl, Nat.le_of_ble_eq_true rfl⟩).run (fun r hw => ?_)
    rcases Bool.eq_false_or_eq_true (bw p1 0 2) with b_3 | b_3
    ·
      obtain rfl : r = 1 := b_t hw b_3
      refine lv_if_ne (tgt := 18) hx hb dX11_broken_13 (by decide) (fun c_4 => ?_) (fun c_4 => absurd c_4 (by decide))
      refine lv_aload_n hx hb dX11_broken_18 rfl (lv_at hl 0 rfl) ?_
      refine lv_iload_n hx hb dX11_broken_19 rfl (lv_at hl 1 rfl) ?_
      obtain ⟨kk_5, hk_6⟩ := pl_at hI.2.1.1.1 hI.2.2.2.1.1
      have hFc := fr_all hD hS hA
      refine va_callq (va_runV (As := [.int p0]) (rest := []) ⟨hx, hb, hml, hown, hts⟩ (y_breachOn l dC dI q h0 d k z f hI p0 u hrp hk0 hk1 hk2 hk3 hkB hpcI s.heap.size) (cwV 1 hts gX11_broken_X11_breachOn rfl rfl rfl (by decide +kernel) ⟨Nat.le_of_ble_eq_true rfl, Nat.le_of_ble_eq_true rfl⟩) ⟨gx_fb, va_recv hK hP (ci := 10) (q0 := kk_5) rfl hk_6, fun U hU hW => ⟨rfl, by rw [hU], px_to hU hW hP hK hN hXN, hD.weaken (fun _ _ _ _ => trivial)⟩⟩ rfl rfl hl.1 rfl (lv_room (Nat.le_of_ble_eq_true rfl)) dX11_broken_20 ⟨Nat.le_of_ble_eq_true rfl, Nat.le_of_ble_eq_true rfl⟩) hS (fun q _ h => hFc q h) hFc (fun r w_7 t H1 locs ht hvm hw hB hz1 hk1 hS => ?_)
      obtain ⟨hP, hD1⟩ := hB
      rw [ht] at hP
      have hD := hD1.weaken (fun _ q _ h => hFc q.1 h)
      generalize H1 = H at hP hS ⊢
      refine W.widen (k := 4) (n := 12) (Nat.le_of_ble_eq_true rfl) (Nat.le_of_ble_eq_true rfl) ?_
      obtain ⟨b_8, bx_9, bx_10, bx_11, hr9, -, hw2, hw3, hwr, hw9, hv_12, hv_13, hbM⟩ := hw
      subst hr9
      obtain ⟨k_18, z_16, f_17⟩ := w_7
      have hP : va_P (dC, dI) vwCl (va_pl z_16.1 f_17) H := hP
      have hD : va_D A (va_pl z_16.1 f_17) := hD
      have hE_19 : zE z z_16 := hw2
      have hI : xI q h0 d k z_16 f_17 := hw3
      have hEz : zE z z_16 := zE_tr (zE_rf z) hE_19
      have ht_15 : tg z_16 b_8 24 := hv_12
      have hbc_14 : f_17 b_8 = .inr (1, [.int bx_9, .int bx_10, .int bx_11]) := hv_13
      have hrpx : rep q d u z_16 f_17 := hwr
      have h3m : f_17 (d 3) = f (d 3) := hw9
      refine W.eq (g2 := F0 m 23 ls [.ref b_8]) rfl ?_
      refine lv_astore_n (lv' := [(3, .ref b_8), (0, .ref h0), (1, .int p0), (2, .int p1)]) hx hb dX11_broken_23 rfl hl (by decide) rfl (fun ls hl => ?_)
      refine lv_iload_n hx hb dX11_broken_24 rfl (lv_at hl 3 rfl) ?_
      refine lv_if_ne (tgt := 33) hx hb dX11_broken_25 (by decide) (fun c_20 => ?_) (fun c_20 => ?_)
      ·
        refine lv_iload_n hx hb dX11_broken_33 rfl (lv_at hl 3 rfl) ?_
        refine lv_iconst (v := 1) hx hb dX11_broken_34 (by decide) ?_
        refine lv_icmp_ne (tgt := 45) hx hb dX11_broken_35 (by decide) (fun c_21 => ?_) (fun c_21 => ?_)
        ·
          refine lv_aload_n hx hb dX11_broken_45 rfl (lv_at hl 0 rfl) ?_
          obtain ⟨kk_22, hk_23⟩ := pl_at ht_15.1 hbc_14
          refine va_get (D := (dC, dI)) (ci := 1) (v := .int bx_11) (C := RX1) (T := TX1) (N := 3) hx hb hts (by decide +kernel) hown hK hP kk_22 hk_23 rfl 2 (by decide) (hts (.fieldLink RX11 269 "PageOne$Breach" "other" "I") (by decide +kernel)) (fun _ h9 => h9) rfl dX11_broken_46 ?_
          exact W.iret (v := bx_11) hx hb hr (fun t ht hW => ⟨⟨bx_11, (k, z_16, f_17), rfl, (Or.inr ⟨b_1, b_3, bx_9, bx_10, bx_11, hbM, ((if_neg c_20).trans (if_neg c_21)).symm, rfl, hEz, hI, hrpx, h3m⟩), by rw [ht]; exact hP, hD⟩, hS.F ht⟩) hS.2.2 dX11_broken_49
        ·
          refine lv_aload_n hx hb dX11_broken_38 rfl (lv_at hl 0 rfl) ?_
          obtain ⟨kk_24, hk_25⟩ := pl_at ht_15.1 hbc_14
          refine va_get (D := (dC, dI)) (ci := 1) (v := .int bx_10) (C := RX1) (T := TX1) (N := 3) hx hb hts (by decide +kernel) hown hK hP kk_24 hk_25 rfl 1 (by decide) (hts (.fieldLink RX11 266 "PageOne$Breach" "first" "I") (by decide +kernel)) (fun _ h9 => h9) rfl dX11_broken_39 ?_
          refine lv_goto (tgt := 49) hx hb dX11_broken_42 (by decide) ?_
          exact W.iret (v := bx_10) hx hb hr (fun t ht hW => ⟨⟨bx_10, (k, z_16, f_17), rfl, (Or.inr ⟨b_1, b_3, bx_9, bx_10, bx_11, hbM, ((if_neg c_20).trans (if_pos c_21)).symm, rfl, hEz, hI, hrpx, h3m⟩), by rw [ht]; exact hP, hD⟩, hS.F ht⟩) hS.2.2 dX11_broken_49
      ·
        refine lv_aload_n hx hb dX11_broken_28 rfl (lv_at hl 0 rfl) ?_
        obtain ⟨kk_26, hk_27⟩ := pl_at ht_15.1 hbc_14
        refine va_get (D := (dC, dI)) (ci := 1) (v := .int bx_9) (C := RX1) (T := TX1) (N := 3) hx hb hts (by decide +kernel) hown hK hP kk_26 hk_27 rfl 0 (by decide) (hts (.fieldLink RX11 201 "PageOne$Breach" "kind" "I") (by decide +kernel)) (fun _ h9 => h9) rfl dX11_broken_29 ?_
        exact W.iret (v := bx_9) hx hb hr (fun t ht hW => ⟨⟨bx_9, (k, z_16, f_17), rfl, (Or.inr ⟨b_1, b_3, bx_9, bx_10, bx_11, hbM, (if_pos c_20).symm, rfl, hEz, hI, hrpx, h3m⟩), by rw [ht]; exact hP, hD⟩, hS.F ht⟩) hS.2.2 dX11_broken_32
    ·
      obtain rfl : r = 0 := b_f hw b_3
      refine lv_if_ne (tgt := 18) hx hb dX11_broken_13 (by decide) (fun c_28 => absurd (by decide) c_28) (fun c_28 => ?_)
      refine lv_iconst (v := (-1)) hx hb dX11_broken_16 (by decide) ?_
      refine W.widen (k := 4) (n := 12) (Nat.le_of_ble_eq_true rfl) (Nat.le_of_ble_eq_true rfl) ?_
      exact W.iret (v := (-1)) hx hb hr (fun t ht hW => ⟨⟨(-1), (k, z, f), rfl, (Or.inl ⟨Or.inr (bne b_3), rfl, rfl⟩), by rw [ht]; exact hP, hD⟩, hS.F ht⟩) hS.2.2 dX11_broken_17
  ·
    obtain rfl : r = 0 := b_f hw b_1
    refine lv_if_eq (tgt := 16) hx hb dX11_broken_4 (by decide) (fun c_29 => ?_) (fun c_29 => absurd (by decide) c_29)
    refine lv_iconst (v := (-1)) hx hb dX11_broken_16 (by decide) ?_
    refine W.widen (k := 4) (n := 12) (Nat.le_of_ble_eq_true rfl) (Nat.le_of_ble_eq_true rfl) ?_
    exact W.iret (v := (-1)) hx hb hr (fun t ht hW => ⟨⟨(-1), (k, z, f), rfl, (Or.inl ⟨Or.inl (bne b_1), rfl, rfl⟩), by rw [ht]; exact hP, hD⟩, hS.F ht⟩) hS.2.2 dX11_broken_17
/-- w is u with page P plated -/
def plW (u w : mS) (P : Nat) : Prop := w.1 3 = u.1 3 ∧ (∀ r, r < 40 ∨ 46 < r → w.2 r = u.2 r) ∧ (∀ j, w.2 40 j = if j = P then 1 else u.2 40 j) ∧ (∀ j, w.2 41 j = if j = P then u.1 38 else u.2 41 j) ∧ (∀ j, w.2 42 j = if j = P then u.1 39 else u.2 42 j) ∧ (∀ j, w.2 43 j = if 8 * P ≤ j ∧ j < 8 * P + 8 then u.2 0 j else u.2 43 j) ∧ ∀ j, w.2 44 j = if 480 * P ≤ j ∧ j < 480 * P + 480 then u.2 2 j else u.2 44 j
theorem rep_plate {q d d2 u w z z2 f f2} {P : Nat} {g g' : Nat → Option Nat} {m : Int32} (h : rep q d u z f) (hP : P < 12) (hE : zE z z2) (hd : ∀ x, x ≠ 1000 + P → x ≠ 1020 + P → x ≠ 1040 + P → d2 x = d x) (hf : fK d z f f2 (fun x => x = 1 ∨ x = 1000 + P ∨ x = 1020 + P ∨ x = 1040 + P)) (hg : f (d 1) = aR (q 2) 12 g) (hg2 : f2 (d 1) = aR (q 2) 12 g') (hgP : g' P = some (d2 (1000 + P))) (hgo : ∀ j, j < 12 → j ≠ P → g' j = g j) (n7 : nO d2 z2 (1000 + P) 7) (n8 : nO d2 z2 (1020 + P) 8) (n9 : nO d2 z2 (1040 + P) 9) (s1 : f2 (d2 (1000 + P)) = .inr (8, [.ref (d2 (1020 + P)), .ref (d2 (1040 + P)), .int m, .int (u.1 38), .int (u.1 39)])) (s2 : ∃ gl, f2 (d2 (1020 + P)) = aI (q 0) 8 gl ∧ eqR 8 gl (u.2 0) (8 * P)) (s3 : ∃ gc, f2 (d2 (1040 + P)) = aI (q 0) 480 gc ∧ eqR 480 gc (u.2 2) (480 * P)) (hw : plW u w P) : rep q d2 w z2 f2 := by
  obtain ⟨h1g, ⟨g9, a1, a2⟩, ⟨⟨gi, b1, b2⟩, b3⟩, h1v, n0, n1, n2, n3, n4⟩ := h
  obtain ⟨w1, wr, w40, w41, w42, w43, w44⟩ := hw
  obtain rfl := (aR_inj (hg.symm.trans a1)).2
  have dl : ∀ x, x < 1000 → d2 x = d x := fun x hx => hd x (by omega) (by omega) (by omega)
  have dI : ∀ x, 2000 ≤ x → d2 x = d x := fun x hx => hd x (by omega) (by omega) (by omega)
  have nn : ∀ x t, x < 1000 → nO d z x t → nO d2 z2 x t := fun x t hx ho => nO_d (dl x hx) (nO_E hE ho)
  refine ⟨rPg_fr h1g hE (fun x hx => dl x (by omega)) hf (fun x hx _ _ _ _ => by omega) n0 (wr 0 (by omega)) (wr 1 (by omega)) (wr 2 (by omega)), ⟨g', by rw [dl 1 (by omega)]; exact hg2, fun p hp => ?_⟩, ⟨⟨gi, by rw [dl 2 (by omega), hf.1 2 _ n2 (by omega)]; exact b1, fun j hj => by rw [dI _ (by omega)]; exact b2 j (by rw [← w1]; exact hj)⟩, fun j hj => ?_⟩, rRv_fr h1v (dl 4 (by omega)) (hf.1 4 _ n4 (by omega)) (wr 20 (by omega)), nn 0 _ (by omega) n0, nn 1 _ (by omega) n1, nn 2 _ (by omega) n2, nn 3 _ (by omega) n3, nn 4 _ (by omega) n4⟩
  · by_cases e : p = P
    · subst e
      obtain ⟨gl, s2a, s2b⟩ := s2
      obtain ⟨gc, s3a, s3b⟩ := s3
      refine Or.inr ⟨by rw [w40, if_pos rfl], hgP, n7, n8, n9, m, ?_, ⟨gl, s2a, fun t ht => ?_⟩, gc, s3a, fun t ht => ?_⟩
      · rw [w41, w42, if_pos rfl, if_pos rfl]; exact s1
      · rw [w43, if_pos (by omega)]; exact s2b t ht
      · rw [w44, if_pos (by omega)]; exact s3b t ht
    · have e1 := hd (1000 + p) (by omega) (by omega) (by omega)
      have e2 := hd (1020 + p) (by omega) (by omega) (by omega)
      have e3 := hd (1040 + p) (by omega) (by omega) (by omega)
      rcases a2 p hp with ⟨c1, c2⟩ | ⟨c1, c2, m1, m2, m3, m9, t1, ⟨gl, t2, t3⟩, gc, t4, t5⟩
      · exact Or.inl ⟨by rw [w40, if_neg e]; exact c1, (hgo p hp e).trans c2⟩
      · refine Or.inr ⟨by rw [w40, if_neg e]; exact c1, by rw [hgo p hp e, e1]; exact c2, nO_d e1 (nO_E hE m1), nO_d e2 (nO_E hE m2), nO_d e3 (nO_E hE m3), m9, ?_, ⟨gl, ?_, fun t ht => ?_⟩, gc, ?_, fun t ht => ?_⟩
        · rw [e1, e2, e3, hf.1 _ _ m1 (by omega), w41, w42, if_neg e, if_neg e]; exact t1
        · rw [e2, hf.1 _ _ m2 (by omega)]; exact t2
        · rw [w43, if_neg (by omega)]; exact t3 t ht
        · rw [e3, hf.1 _ _ m3 (by omega)]; exact t4
        · rw [w44, if_neg (by omega)]; exact t5 t ht
  · rw [w1] at hj
    refine rIt_fr (b3 j hj) hE ⟨dI _ (by omega), dI _ (by omega), dI _ (by omega), dI _ (by omega), dI _ (by omega)⟩ hf ⟨by omega, by omega, by omega, by omega, by omega⟩ ⟨fun r r1 r2 _ _ _ _ _ => by rw [wr r (by omega)], fun r r1 r2 t _ => by rw [wr r (by omega)], fun t _ => by rw [wr 47 (by omega)], fun t _ => by rw [wr 16 (by omega)], fun t _ => by rw [wr 18 (by omega), wr 19 (by omega)]; exact ⟨rfl, rfl⟩, fun t _ => by rw [wr 21 (by omega)], fun t _ => by rw [wr 48 (by omega)]⟩ (by rw [w1]; exact Nat.le_refl _) (fun o _ => ⟨dI _ (by omega), by rw [wr 4 (by omega)]⟩)
theorem pl_none {q d z f u} (h : rPl q d u z f) {p : Nat} (hp : p < 12) (h40 : u.2 40 p = 0) : ∃ g, f (d 1) = aR (q 2) 12 g ∧ g p = none := by
  obtain ⟨g, a1, a2⟩ := h
  rcases a2 p hp with ⟨-, b2⟩ | ⟨b1, -⟩
  · exact ⟨g, a1, b2⟩
  · rw [h40] at b1; exact absurd b1 (by decide)
/-- the book with plate P's entries -/
def dP (d : Nat → Nat) (P a7 a8 a9 : Nat) : Nat → Nat := fun x => if x = 1000 + P then a7 else if x = 1020 + P then a8 else if x = 1040 + P then a9 else d x
theorem dP_no {d : Nat → Nat} {P a7 a8 a9 x : Nat} (h1 : x ≠ 1000 + P) (h2 : x ≠ 1020 + P) (h3 : x ≠ 1040 + P) : dP d P a7 a8 a9 x = d x := by
  unfold dP; rw [if_neg h1, if_neg h2, if_neg h3]
theorem dP_at {d : Nat → Nat} {P a7 a8 a9 : Nat} : dP d P a7 a8 a9 (1000 + P) = a7 ∧ dP d P a7 a8 a9 (1020 + P) = a8 ∧ dP d P a7 a8 a9 (1040 + P) = a9 := by
  unfold dP
  refine ⟨if_pos rfl, ?_, ?_⟩
  · rw [if_neg (by omega), if_pos rfl]
  · rw [if_neg (by omega), if_neg (by omega), if_pos rfl]
theorem cpy8 {ll gl : Nat → Int32} {n : Nat} (t : Nat) (ht : t < n) (c : Int32) (hc : c.toNatClampNeg = n) : va_cpy ll gl (0 : Int32).toNatClampNeg (0 : Int32).toNatClampNeg c.toNatClampNeg t = ll t := by
  unfold va_cpy
  have h0 : (0 : Int32).toNatClampNeg = 0 := rfl
  rw [hc, h0, if_pos (by omega)]
  congr 1
  omega
