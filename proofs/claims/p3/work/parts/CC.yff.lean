/-- a filler that fits -/
def ffC (u : mS) (n : Int32) (j : Nat) : Prop := u.2 4 j = 4 ∧ u.2 22 j = 0 ∧ bw n (u.2 5 j) (u.2 6 j) = true
def ffR (u : mS) (d : Nat → Nat) (n : Int32) (r : Option Nat) : Prop := (r = none ∧ ∀ j, j < (u.1 3).toNatClampNeg → ¬ ffC u n j) ∨ ∃ i, i < (u.1 3).toNatClampNeg ∧ r = some (d (2000 + i)) ∧ ffC u n i ∧ ∀ j, j < i → ¬ ffC u n j
theorem mFF_n {u : mS} {n : Int32} {M : Nat} (hM : M ≤ 80) : ∀ j, j ≤ M → (∀ i, M - j ≤ i → i < M → ¬ ffC u n i) → mFFr u n M j = (-1)
  | 0, _, _ => rfl
  | j + 1, hj, h => by
    have e : (nI (M - j - 1)).toNatClampNeg = M - j - 1 := nI_clamp (by omega)
    unfold mFFr
    rw [e, if_neg (fun q => ?_)]
    · exact mFF_n hM j (by omega) (fun i h1 h2 => h i (by omega) h2)
    · rw [Bool.and_eq_true, Bool.and_eq_true, decide_eq_true_iff, decide_eq_true_iff] at q
      exact h (M - j - 1) (by omega) (by omega) ⟨q.1.1, q.1.2, q.2⟩
theorem mFF_s {u : mS} {n : Int32} {M i : Nat} (hM : M ≤ 80) (hi : i < M) (hc : ffC u n i) (hno : ∀ j, j < i → ¬ ffC u n j) : ∀ j, j ≤ M → M - j ≤ i → mFFr u n M j = nI i
  | 0, _, h => by omega
  | j + 1, hj, h => by
    have e : (nI (M - j - 1)).toNatClampNeg = M - j - 1 := nI_clamp (by omega)
    unfold mFFr
    rw [e]
    by_cases q : M - j - 1 = i
    · rw [q, if_pos ?_]
      rw [Bool.and_eq_true, Bool.and_eq_true, decide_eq_true_iff, decide_eq_true_iff]
      exact ⟨⟨hc.1, hc.2.1⟩, hc.2.2⟩
    · rw [if_neg (fun p => ?_)]
      · exact mFF_s hM hi hc hno j (by omega) (by omega)
      · rw [Bool.and_eq_true, Bool.and_eq_true, decide_eq_true_iff, decide_eq_true_iff] at p
        exact hno (M - j - 1) (by omega) ⟨p.1.1, p.1.2, p.2⟩
theorem hr_0 {c : Int32} {n : Nat} (hn : n = 1) (hb : bw c 0 (nI n) = true) : c < nI n ↔ c = 0 := by
  subst hn
  obtain ⟨e1, e2⟩ := cnN (by decide) hb
  rw [i32_lt, nI_toInt (n := 1) (by decide)]
  constructor
  · intro h
    rw [e1, nI_toInt (by omega)] at h
    rw [e1, show c.toNatClampNeg = 0 by omega]; rfl
  · intro h; rw [h, i0]; decide
set_option maxHeartbeats 4000000 in
set_option maxRecDepth 100000 in
theorem y_fillerFor_l {p : Program} {l : Launch} {e : Env} {R : Room} {s : State} {m : MethodId} {args : Array Value} {below : List Frame} {meth : Method} {c : Code} {Q : State → Prop} {cells slots : Nat} {dC : Nat → ClassId} {dI : Nat → Nat → Nat} {q : Nat → ClassId} {h0 : Nat} {d : Nat → Nat} {k : Nat → Int32} {z : gS} {f : xF} {H : Heap} {locs : List Loc} (hI : xI q h0 d k z f) (hx : p.tables.exec = Jvm.exec) (hb : c.code = cX11_fillerFor) (hml : c.maxLocals = 5) (hts : ∀ w ∈ wsX11_fillerFor, w.before args s = true) (hown : s.vm.findClass RX11 = some m.cls) (hN : NN s) (hXN : XN s) (hK : va_K (dC, dI) vwCl (xT q) s) (hRf : 1 ≤ R.frames) (hRl : 22 ≤ R.locals) (hRc : cells ≤ R.cells) (hRs : slots ≤ R.slots) (hP : va_P (dC, dI) vwCl (va_pl z.1 f) H) {u : mS} (hrp : rep q d u z f) (hk0 : k 0 = u.1 3) {K : Nat} (hK8 : K ≤ 80) (eK : k 0 = nI K) (eKn : (u.1 3).toNatClampNeg = K) {p0 : Int32} (kx62 : ∀ (ls : Array Slot), (∀ j, j < K → ¬ ffC u p0 j) → lv_has ls 5 [(0, .ref h0), (1, .int p0)] → W p l e R s m args below meth c H locs cells slots Q (F0 m 62 ls [])) (kx54 : ∀ (i9 : Nat) (ls : Array Slot), (i9 < K ∧ ffC u p0 i9 ∧ ∀ j, j < i9 → ¬ ffC u p0 j) → lv_has ls 5 [(3, .ref (d (2000 + i9))), (0, .ref h0), (1, .int p0)] → W p l e R s m args below meth c H locs cells slots Q (F0 m 54 ls [])) : ∀ (kk i : Nat) (ls : Array Slot), i ≤ K → K - i < kk → (∀ j, j < i → ¬ ffC u p0 j) → lv_has ls 5 [(2, .int (nI i)), (0, .ref h0), (1, .int p0)] → W p l e R s m args below meth c H locs cells slots Q (F0 m 2 ls []) := by
  intro kk
  induction kk with
  | zero => intro i ls h1 h2; exact absurd h2 (Nat.not_lt_zero _)
  | succ kk ih =>
    intro i ls hi hkk hg hl
    refine lv_iload_n hx hb dX11_fillerFor_2 rfl (lv_at hl 0 rfl) ?_
    refine lv_aload_n hx hb dX11_fillerFor_3 rfl (lv_at hl 1 rfl) ?_
    obtain ⟨kk_1, hk_2⟩ := pl_at hI.2.1.1.1 hI.2.2.2.1.1
    refine va_get (D := (dC, dI)) (ci := 10) (v := .int (k 0)) (C := RX11) (T := TX11) (N := 9) hx hb hts (by decide +kernel) hown hK hP kk_1 hk_2 rfl 3 (by decide) (hts (.fieldLink RX11 24 "PageOne" "itemCount" "I") (by decide +kernel)) (fun _ h9 => h9) rfl dX11_fillerFor_4 ?_
    refine lv_topi (fun y_3 ey_3 => ?_)
    obtain rfl : y_3 = (nI K) := ey_3.trans (eK)
    refine lv_icmp_ge (tgt := 62) hx hb dX11_fillerFor_7 (by decide) (fun c_4 => ?_) (fun c_4 => ?_)
    ·
      have hie : i = K := lp_eq rfl (by omega) hi c_4
      exact kx62 ls (by rw [← hie]; exact hg) (lv_sub hl [1, 2] rfl)
    ·
      have hlt : i < K := lp_lt rfl (by omega) hi c_4
      refine lv_aload_n hx hb dX11_fillerFor_10 rfl (lv_at hl 1 rfl) ?_
      obtain ⟨kk_5, hk_6⟩ := pl_at hI.2.1.1.1 hI.2.2.2.1.1
      refine va_get (D := (dC, dI)) (ci := 10) (v := .ref (d 2)) (C := RX11) (T := TX11) (N := 9) hx hb hts (by decide +kernel) hown hK hP kk_5 hk_6 rfl 2 (by decide) (hts (.fieldLink RX11 20 "PageOne" "items" "[LPageOne$Item;") (by decide +kernel)) (fun _ h9 => h9) rfl dX11_fillerFor_11 ?_
      refine lv_iload_n hx hb dX11_fillerFor_14 rfl (lv_at hl 0 rfl) ?_
      obtain ⟨g_7, hs_8, hn_9, hg_10⟩ := x_itm hI
      obtain ⟨kk_11, hk_12⟩ := pl_at hI.2.1.2.2.2.1.1 hs_8
      refine va_aldq hx hb hK hP kk_11 3 hk_12 rfl (vp_in_nI (by omega) (by decide)) dX11_fillerFor_15 ?_
      obtain ⟨b_13, hg_14⟩ := hn_9 ((nI i) : Int32).toNatClampNeg (by rw [eK, nI_clamp (by omega), nI_clamp (by omega)]; exact hlt)
      have ht_15 := hg_10 ((nI i) : Int32).toNatClampNeg (vlt (vp_in_nI (by omega) (by decide))) b_13 hg_14
      rw [hg_14]
      refine W.eq (g2 := F0 m 16 ls [.ref b_13]) rfl ?_
      have hb_16 := rI_at hrp.2.2.1 hs_8 (by rw [eKn]; exact hlt) (by rw [nI_clamp (by omega)] at hg_14; exact hg_14)
      subst hb_16
      obtain ⟨rs_17, n_18, g_19, fg_20, hit_21, hs_22, hpa_23, hps_24, h1_25, h6_26, hcb_27, hpl_28, hlg_29, hnn_30, hfa_31, hfs_32, hfe_33, hrs_34, hkt_35⟩ := it_all hI hrp.2.2.1 (by rw [eKn]; exact hlt)
      refine lv_astore (lv' := [(4, .ref (d (2000 + i))), (2, .int (nI i)), (0, .ref h0), (1, .int p0)]) hx hb dX11_fillerFor_16 hl (by decide) rfl (fun ls hl => ?_)
      refine lv_aload hx hb dX11_fillerFor_18 (lv_at hl 0 rfl) ?_
      rcases Classical.em (tg z (d (2000 + i)) 10) with ht9 | ht9
      ·
        have ht_36 := ht9
        have hkd_38 : u.2 4 i = 4 := (kT_k (kd_05 hrp.2.2.1 (by rw [eKn]; exact hlt)).1 (kd_05 hrp.2.2.1 (by rw [eKn]; exact hlt)).2).2.2.2.2.1 (hkt_35.symm.trans ht_36.2)
        have hs_58 : f (d (2000 + i)) = .inr (2, [.int (nI i), .int (u.2 4 i), .ref (d (3000 + i)), .int (u.2 22 i), .ref (d (4000 + i)), .int (u.2 5 i), .int (u.2 6 i)]) := by rw [hs_22, ht_36.2, hrs_34.2.2.2.2.1 hkd_38]; rfl
        obtain ⟨kk_59, hk_60⟩ := pl_at ht_36.1 hs_58
        refine va_instS hx hb hown (hts (.classLink RX11 114 "PageOne$Filler") (by decide +kernel)) (hK.1 2 (RX2, TX2, 7) rfl).2 (va_recv hK hP (ci := 2) (q0 := kk_59) rfl hk_60) dX11_fillerFor_20 ?_
        refine lv_if_eq (tgt := 56) hx hb dX11_fillerFor_23 (by decide) (fun c_61 => absurd c_61 (by decide)) (fun c_61 => ?_)
        refine lv_aload hx hb dX11_fillerFor_26 (lv_at hl 0 rfl) ?_
        obtain ⟨kk_62, hk_63⟩ := pl_at ht_36.1 hs_58
        refine va_castS hx hb hown (hts (.classLink RX11 114 "PageOne$Filler") (by decide +kernel)) (hK.1 2 (RX2, TX2, 7) rfl).2 (va_recv hK hP (ci := 2) (q0 := kk_62) rfl hk_63) dX11_fillerFor_28 ?_
        refine lv_astore_n (lv' := [(3, .ref (d (2000 + i))), (4, .ref (d (2000 + i))), (2, .int (nI i)), (0, .ref h0), (1, .int p0)]) hx hb dX11_fillerFor_31 rfl hl (by decide) rfl (fun ls hl => ?_)
        refine lv_aload_n hx hb dX11_fillerFor_32 rfl (lv_at hl 0 rfl) ?_
        obtain ⟨kk_64, hk_65⟩ := pl_at ht_36.1 hs_58
        refine vp_callSi (va_runU (As := []) (rest := []) ⟨hx, hb, hml, hown, hts⟩ (y_hasRoom l dC dI q h0 d k z f hI (d (2000 + i)) hit_21 (nI i) (u.2 4 i) (u.2 22 i) (d (3000 + i)) (d (4000 + i)) rs_17 hs_22 n_18 g_19 hps_24 hpa_23) (va_cwU 0 hts gX11_fillerFor_X4_hasRoom_u329X2 rfl rfl rfl rfl (by decide +kernel) ⟨Nat.le_trans (Nat.le_of_ble_eq_true rfl) hRf, Nat.le_trans (Nat.le_of_ble_eq_true rfl) hRl⟩) ⟨px_fb, va_recv hK hP (ci := 2) (q0 := kk_64) rfl hk_65, fun U hU hW => ⟨rfl, px_to hU hW hP hK hN hXN⟩⟩ rfl rfl hl.1 rfl (lv_room (Nat.le_of_ble_eq_true rfl)) dX11_fillerFor_33 ⟨hRc, hRs⟩).run (fun r hw => ?_)
        obtain rfl : r = (bP ((u.2 22 i) < nI n_18)) := hw
        refine lv_if_eq (tgt := 56) hx hb dX11_fillerFor_36 (by decide) (fun c_66 => ?_) (fun c_66 => ?_)
        ·
          refine lv_iinc (v := (nI (i + 1))) (lv' := [(2, .int (nI (i + 1))), (3, .ref (d (2000 + i))), (4, .ref (d (2000 + i))), (0, .ref h0), (1, .int p0)]) hx hb dX11_fillerFor_56 hl (k := 2) rfl (nI_1 i) (by decide) rfl (fun ls hl => ?_)
          refine lv_goto (tgt := 2) hx hb dX11_fillerFor_59 (by decide) ?_
          exact ih (i + 1) ls (by omega) (by omega) (fun j hj => by rcases Nat.lt_succ_iff_lt_or_eq.mp hj with h9 | h9; exact hg j h9; subst h9; exact fun h8 => bP_0 c_66 ((hr_0 (hnn_30.trans (if_neg (by rw [hkd_38]; decide))) hcb_27).mpr h8.2.1)) (lv_sub hl [0, 3, 4] rfl)
        ·
          refine lv_iload_n hx hb dX11_fillerFor_39 rfl (lv_at hl 4 rfl) ?_
          refine lv_aload_n hx hb dX11_fillerFor_40 rfl (lv_at hl 0 rfl) ?_
          obtain ⟨kk_67, hk_68⟩ := pl_at ht_36.1 hs_58
          refine va_get (D := (dC, dI)) (ci := 2) (v := .int (u.2 5 i)) (C := RX2) (T := TX2) (N := 7) hx hb hts (by decide +kernel) hown hK hP kk_67 hk_68 rfl 5 (by decide) (hts (.fieldLink RX11 330 "PageOne$Filler" "least" "I") (by decide +kernel)) (fun _ h9 => h9) rfl dX11_fillerFor_41 ?_
          refine lv_aload_n hx hb dX11_fillerFor_44 rfl (lv_at hl 0 rfl) ?_
          obtain ⟨kk_69, hk_70⟩ := pl_at ht_36.1 hs_58
          refine va_get (D := (dC, dI)) (ci := 2) (v := .int (u.2 6 i)) (C := RX2) (T := TX2) (N := 7) hx hb hts (by decide +kernel) hown hK hP kk_69 hk_70 rfl 6 (by decide) (hts (.fieldLink RX11 333 "PageOne$Filler" "most" "I") (by decide +kernel)) (fun _ h9 => h9) rfl dX11_fillerFor_45 ?_
          refine vp_callSi (va_runS (As := [.int p0, .int (u.2 5 i), .int (u.2 6 i)]) (rest := []) ⟨hx, hb, hml, hown, hts⟩ (x_isWithin l dC dI p0 (u.2 5 i) (u.2 6 i)) (va_cwS 3 hts gX11_fillerFor_X11_isWithin rfl rfl rfl (by decide +kernel) ⟨Nat.le_trans (Nat.le_of_ble_eq_true rfl) hRf, Nat.le_trans (Nat.le_of_ble_eq_true rfl) hRl⟩) ⟨pw_fb, fun U hU hW => ⟨rfl, pw_to hU hW (hP.sub (ws' := []) [] rfl) (hK.sub (tys' := []) [] rfl) hN⟩⟩ rfl rfl hl.1 rfl (lv_room (Nat.le_of_ble_eq_true rfl)) dX11_fillerFor_48 ⟨hRc, hRs⟩).run (fun r hw => ?_)
          rcases Bool.eq_false_or_eq_true (bw p0 (u.2 5 i) (u.2 6 i)) with b_71 | b_71
          ·
            obtain rfl : r = 1 := b_t hw b_71
            refine lv_if_eq (tgt := 56) hx hb dX11_fillerFor_51 (by decide) (fun c_72 => absurd c_72 (by decide)) (fun c_72 => ?_)
            exact kx54 _ ls ⟨hlt, ⟨hkd_38, (hr_0 (hnn_30.trans (if_neg (by rw [hkd_38]; decide))) hcb_27).mp (bP_n c_66), b_71⟩, hg⟩ (lv_sub hl [0, 3, 4] rfl)
          ·
            obtain rfl : r = 0 := b_f hw b_71
            refine lv_if_eq (tgt := 56) hx hb dX11_fillerFor_51 (by decide) (fun c_73 => ?_) (fun c_73 => absurd (by decide) c_73)
            refine lv_iinc (v := (nI (i + 1))) (lv' := [(2, .int (nI (i + 1))), (3, .ref (d (2000 + i))), (4, .ref (d (2000 + i))), (0, .ref h0), (1, .int p0)]) hx hb dX11_fillerFor_56 hl (k := 2) rfl (nI_1 i) (by decide) rfl (fun ls hl => ?_)
            refine lv_goto (tgt := 2) hx hb dX11_fillerFor_59 (by decide) ?_
            exact ih (i + 1) ls (by omega) (by omega) (fun j hj => by rcases Nat.lt_succ_iff_lt_or_eq.mp hj with h9 | h9; exact hg j h9; subst h9; exact fun h8 => bne b_71 h8.2.2) (lv_sub hl [0, 3, 4] rfl)
      ·
        have hn_37 := ht9
        have hkd_38 : ¬ u.2 4 i = 4 := fun e9 => ht9 ⟨hit_21.1, by rw [hkt_35, e9]; rfl⟩
        refine w_then (F0 m 23 ls [.int 0]) (fun hgo => ?_) ?_
        ·
          rcases x_tag hit_21 with ht8 | ht8 | ht8 | ht8 | ht8 | ht8
          ·
            exact absurd ht8 ht9
          ·
            obtain ⟨nu_74, kd_75, cn_76, pa_77, fa_78, o_79, w_80, y_81, hs_82, hs_83, hs_84, hs_85, hq_86⟩ := x_ihd hI ht8
            obtain ⟨kk_87, hk_88⟩ := pl_at ht8.1 hs_82
            exact va_instNo hx hb hown (hts (.classLink RX11 114 "PageOne$Filler") (by decide +kernel)) hXN.n_X3_X2 (va_recv hK hP (ci := 3) (q0 := kk_87) rfl hk_88) dX11_fillerFor_20 hgo
          ·
            obtain ⟨nu_89, kd_90, cn_91, pa_92, fa_93, o_94, y_95, hs_96, hs_97, hs_98, hs_99, hq_100⟩ := x_ino hI ht8
            obtain ⟨kk_101, hk_102⟩ := pl_at ht8.1 hs_96
            exact va_instNo hx hb hown (hts (.classLink RX11 114 "PageOne$Filler") (by decide +kernel)) hXN.n_X5_X2 (va_recv hK hP (ci := 4) (q0 := kk_101) rfl hk_102) dX11_fillerFor_20 hgo
          ·
            obtain ⟨nu_103, kd_104, cn_105, pa_106, fa_107, b_108, pr_109, sp_110, dy_111, hs_112, hs_113, hs_114, hs_115, hq_116, hq_117, hq_118⟩ := x_ipd hI ht8
            obtain ⟨kk_119, hk_120⟩ := pl_at ht8.1 hs_112
            exact va_instNo hx hb hown (hts (.classLink RX11 114 "PageOne$Filler") (by decide +kernel)) hXN.n_X6_X2 (va_recv hK hP (ci := 5) (q0 := kk_119) rfl hk_120) dX11_fillerFor_20 hgo
          ·
            obtain ⟨nu_121, kd_122, cn_123, pa_124, fa_125, ww_126, hh_127, sz_128, hs_129, hs_130, hs_131, hs_132, hq_133, hq_134, hq_135⟩ := x_ipi hI ht8
            obtain ⟨kk_136, hk_137⟩ := pl_at ht8.1 hs_129
            exact va_instNo hx hb hown (hts (.classLink RX11 114 "PageOne$Filler") (by decide +kernel)) hXN.n_X7_X2 (va_recv hK hP (ci := 6) (q0 := kk_136) rfl hk_137) dX11_fillerFor_20 hgo
          ·
            obtain ⟨nu_138, kd_139, cn_140, pa_141, fa_142, l_143, co_144, wd_145, nm_146, hs_147, hs_148, hs_149, hs_150, hq_151, hq_152, hq_153⟩ := x_ist hI ht8
            obtain ⟨kk_154, hk_155⟩ := pl_at ht8.1 hs_147
            exact va_instNo hx hb hown (hts (.classLink RX11 114 "PageOne$Filler") (by decide +kernel)) hXN.n_X10_X2 (va_recv hK hP (ci := 9) (q0 := kk_154) rfl hk_155) dX11_fillerFor_20 hgo
        ·
          refine lv_if_eq (tgt := 56) hx hb dX11_fillerFor_23 (by decide) (fun c_156 => ?_) (fun c_156 => absurd (by decide) c_156)
          refine lv_iinc (v := (nI (i + 1))) (lv' := [(2, .int (nI (i + 1))), (4, .ref (d (2000 + i))), (0, .ref h0), (1, .int p0)]) hx hb dX11_fillerFor_56 hl (k := 1) rfl (nI_1 i) (by decide) rfl (fun ls hl => ?_)
          refine lv_goto (tgt := 2) hx hb dX11_fillerFor_59 (by decide) ?_
          exact ih (i + 1) ls (by omega) (by omega) (fun j hj => by rcases Nat.lt_succ_iff_lt_or_eq.mp hj with h9 | h9; exact hg j h9; subst h9; exact fun h8 => hkd_38 h8.1) (lv_sub hl [0, 2, 3] rfl)
set_option maxHeartbeats 4000000 in
set_option maxRecDepth 100000 in
theorem y_fillerFor (l : Launch) (dC : Nat → ClassId) (dI : Nat → Nat → Nat) (q : Nat → ClassId) (h0 : Nat) (d : Nat → Nat) (k : Nat → Int32) (z : gS) (f : xF) (hI : xI q h0 d k z f) (p0 : Int32) (u : mS) (hrp : rep q d u z f) (hk0 : k 0 = u.1 3) (hk1 : k 1 = u.1 28) (hk2 : k 2 = u.1 38) (hk3 : k 3 = u.1 39) : Met l yX11_fillerFor wsX11_fillerFor ({ frames := 1, cells := 0, slots := 0, locals := 22 }) (va_Pc [.ref h0, .int p0] (PX dC dI (va_pl z.1 f) (xT q))) (va_Sq (fun r => ffR u d p0 r)) 0 0 (fun _ => False) := by
  refine Met.ofW (cc := cX11_fillerFor) (maxL := 5) (ret := (some (.object "PageOne$Filler"))) (by decide) rfl ?_
  intro p e s m args below meth c s₁ B hml hv
  obtain ⟨rfl, ⟨hP, hK, hN⟩, hXN⟩ := hv
  have hx := B.exec
  have hb := B.bytes
  have hr := B.returns
  have hts := atoms_spec (ws := wsX11_fillerFor) B.pre
  have hown : s.vm.findClass RX11 = some m.cls := findClass_of_methodNamed B.named
  have hlocks := B.notSynchronized
  have hl := lv_entry ([.ref h0, .int p0]) (n := 5) (Nat.le_of_ble_eq_true rfl)
  rw [lg_entry_eq]
  generalize (lg_sl ([.ref h0, .int p0]) ++ List.replicate (5 - (lg_sl ([.ref h0, .int p0])).length) Slot.unset).toArray = ls at hl ⊢
  have hl : lv_has ls 5 [(0, .ref h0), (1, .int p0)] := hl
  refine lv_iconst (v := 0) hx hb dX11_fillerFor_0 (by decide) ?_
  refine lv_istore_n (lv' := [(2, .int 0), (0, .ref h0), (1, .int p0)]) hx hb dX11_fillerFor_1 rfl hl (by decide) rfl (fun ls hl => ?_)
  obtain ⟨K, hK8, -, eK⟩ := exN hI.1.1 (by decide)
  have h80 : (80 : Int32).toInt = 80 := rfl
  have eKn : (u.1 3).toNatClampNeg = K := by rw [← hk0, eK, nI_clamp (by omega)]
  refine y_fillerFor_l (K := K) hI hx hb hml hts hown hN hXN hK (Nat.le_of_ble_eq_true rfl) (Nat.le_of_ble_eq_true rfl) (Nat.le_of_ble_eq_true rfl) (Nat.le_of_ble_eq_true rfl) hP hrp hk0 (by omega) eK eKn (fun ls hno hl => ?_) (fun i9 ls hye hl => ?_) (K + 1) 0 ls (Nat.zero_le _) (by omega) (fun j hj => absurd hj (Nat.not_lt_zero _)) (lv_sub hl [0, 1, 2] rfl)
  ·
    refine lv_null hx hb dX11_fillerFor_62 ?_
    exact W.aret (v := .null) hx hb hr (Or.inl ⟨_, rfl⟩) (Or.inl rfl) (fun t ht hW => ⟨none, rfl, (Or.inl ⟨rfl, fun j hj => hno j (by omega)⟩), ht⟩) (fun q h => absurd h List.not_mem_nil) dX11_fillerFor_63
  ·
    refine lv_aload_n hx hb dX11_fillerFor_54 rfl (lv_at hl 0 rfl) ?_
    exact W.aret (v := .ref (d (2000 + i9))) hx hb hr (Or.inl ⟨_, rfl⟩) (Or.inr ⟨_, rfl⟩) (fun t ht hW => ⟨some (d (2000 + i9)), rfl, (Or.inr ⟨i9, by omega, rfl, hye.2.1, hye.2.2⟩), ht⟩) (fun q h => absurd h List.not_mem_nil) dX11_fillerFor_55
