/-- a buyer whom a story names -/
def nmP (u : mS) (i j : Nat) : Prop := u.2 4 i = 3 ∧ u.2 4 j = 0 ∧ ¬ u.2 21 (10 * j + (u.2 10 i).toNatClampNeg) = 0
def rvP (u : mS) (i j : Nat) : Prop := u.2 4 i = 3 ∧ u.2 4 j = 3 ∧ ¬ u.2 20 (u.2 10 i * 10 + u.2 10 j).toNatClampNeg = 0
/-- what may not meet -/
def mnP (u : mS) (i j : Nat) (kd : Int32) : Prop := (kd = 1 ∧ rvP u i j) ∨ (kd = 2 ∧ (nmP u i j ∨ nmP u j i)) ∨ (kd = 3 ∧ u.2 4 i = 1 ∧ u.2 4 j = 1)
theorem b9l {x : Int32} (h : bw x 0 9 = true) : x.toNatClampNeg < 10 := vlt (vin h (by decide))
theorem b99 {x y : Int32} (h : bw x 0 9 = true) (h2 : bw y 0 9 = true) : (x * 10 + y).toNatClampNeg < 100 := vlt (vin2 h h2)
set_option maxHeartbeats 4000000 in
set_option maxRecDepth 100000 in
theorem y_isNamedIn (l : Launch) (dC : Nat → ClassId) (dI : Nat → Nat → Nat) (q : Nat → ClassId) (h0 : Nat) (d : Nat → Nat) (k : Nat → Int32) (z : gS) (f : xF) (hI : xI q h0 d k z f) (u : mS) (hrp : rep q d u z f) (hk0 : k 0 = u.1 3) (hk1 : k 1 = u.1 28) (hk2 : k 2 = u.1 38) (hk3 : k 3 = u.1 39) (i0 j0 : Nat) (hi0 : i0 < (u.1 3).toNatClampNeg) (hj0 : j0 < (u.1 3).toNatClampNeg) (hkB : kB u) : Met l yX11_isNamedIn wsX11_isNamedIn ({ frames := 0, cells := 0, slots := 0, locals := 0 }) (va_Pc [.ref (d (2000 + i0)), .ref (d (2000 + j0))] (PX dC dI (va_pl z.1 f) (xT q))) (vp_Si (fun r => r = bP (nmP u i0 j0))) 0 0 (fun _ => False) := by
  refine Met.ofW (cc := cX11_isNamedIn) (maxL := 4) (ret := (some .boolean)) (by decide) rfl ?_
  intro p e s m args below meth c s₁ B hml hv
  obtain ⟨rfl, ⟨hP, hK, hN⟩, hXN⟩ := hv
  have hx := B.exec
  have hb := B.bytes
  have hr := B.returns
  have hts := atoms_spec (ws := wsX11_isNamedIn) B.pre
  have hown : s.vm.findClass RX11 = some m.cls := findClass_of_methodNamed B.named
  have hlocks := B.notSynchronized
  have hl := lv_entry ([.ref (d (2000 + i0)), .ref (d (2000 + j0))]) (n := 4) (Nat.le_of_ble_eq_true rfl)
  rw [lg_entry_eq]
  generalize (lg_sl ([.ref (d (2000 + i0)), .ref (d (2000 + j0))]) ++ List.replicate (4 - (lg_sl ([.ref (d (2000 + i0)), .ref (d (2000 + j0))])).length) Slot.unset).toArray = ls at hl ⊢
  have hl : lv_has ls 4 [(0, .ref (d (2000 + i0))), (1, .ref (d (2000 + j0)))] := hl
  have h80n := w80i hI.1.1 hk0
  obtain ⟨rs_1, n_2, g_3, fg_4, hit_5, hs_6, hpa_7, hps_8, h1_9, h6_10, hcb_11, hpl_12, hlg_13, hnn_14, hfa_15, hfs_16, hfe_17, hrs_18, hkt_19⟩ := it_all hI hrp.2.2.1 hi0
  obtain ⟨rs_20, n_21, g_22, fg_23, hit_24, hs_25, hpa_26, hps_27, h1_28, h6_29, hcb_30, hpl_31, hlg_32, hnn_33, hfa_34, hfs_35, hfe_36, hrs_37, hkt_38⟩ := it_all hI hrp.2.2.1 hj0
  refine lv_aload_n hx hb dX11_isNamedIn_0 rfl (lv_at hl 0 rfl) ?_
  rcases Classical.em (tg z (d (2000 + i0)) 13) with ht9 | ht9
  ·
    have ht_39 := ht9
    have hkd_41 : u.2 4 i0 = 3 := (kT_k (kd_05 hrp.2.2.1 hi0).1 (kd_05 hrp.2.2.1 hi0).2).2.2.2.1 (hkt_19.symm.trans ht_39.2)
    obtain ⟨hx_52, hx_53, hx_54, hx_55, hx_56, hx_57⟩ := hrs_18.2.2.2.1 hkd_41
    have hs_61 : f (d (2000 + i0)) = .inr (5, [.int (nI i0), .int (u.2 4 i0), .ref (d (3000 + i0)), .int (u.2 22 i0), .ref (d (4000 + i0)), .int (u.2 10 i0), .int (u.2 14 i0), .ref (d (5000 + i0)), .ref (d (6000 + i0))]) := by rw [hs_6, ht_39.2, hx_52]; rfl
    obtain ⟨kk_62, hk_63⟩ := pl_at ht_39.1 hs_61
    refine va_instS hx hb hown (hts (.classLink RX11 104 "PageOne$Paid") (by decide +kernel)) (hK.1 5 (RX6, TX6, 9) rfl).2 (va_recv hK hP (ci := 5) (q0 := kk_62) rfl hk_63) dX11_isNamedIn_1 ?_
    refine lv_if_eq (tgt := 40) hx hb dX11_isNamedIn_4 (by decide) (fun c_64 => absurd c_64 (by decide)) (fun c_64 => ?_)
    refine lv_aload_n hx hb dX11_isNamedIn_7 rfl (lv_at hl 0 rfl) ?_
    obtain ⟨kk_65, hk_66⟩ := pl_at ht_39.1 hs_61
    refine va_castS hx hb hown (hts (.classLink RX11 104 "PageOne$Paid") (by decide +kernel)) (hK.1 5 (RX6, TX6, 9) rfl).2 (va_recv hK hP (ci := 5) (q0 := kk_65) rfl hk_66) dX11_isNamedIn_8 ?_
    refine lv_astore_n (lv' := [(3, .ref (d (2000 + i0))), (0, .ref (d (2000 + i0))), (1, .ref (d (2000 + j0)))]) hx hb dX11_isNamedIn_11 rfl hl (by decide) rfl (fun ls hl => ?_)
    refine lv_aload_n hx hb dX11_isNamedIn_12 rfl (lv_at hl 2 rfl) ?_
    rcases Classical.em (tg z (d (2000 + j0)) 15) with ht9 | ht9
    ·
      have ht_67 := ht9
      have hkd_69 : u.2 4 j0 = 0 := (kT_k (kd_05 hrp.2.2.1 hj0).1 (kd_05 hrp.2.2.1 hj0).2).1 (hkt_38.symm.trans ht_67.2)
      obtain ⟨hx_70, hx_71, hx_72, ⟨hx_73, hx_74, hx_75⟩, hx_76, hx_77, hx_78⟩ := hrs_37.1 hkd_69
      have hs_79 : f (d (2000 + j0)) = .inr (9, [.int (nI j0), .int (u.2 4 j0), .ref (d (3000 + j0)), .int (u.2 22 j0), .ref (d (4000 + j0)), .int (u.2 5 j0), .ref (d (5000 + j0)), .int (u.2 15 j0), .ref (d (6000 + j0))]) := by rw [hs_25, ht_67.2, hx_70]; rfl
      obtain ⟨kk_90, hk_91⟩ := pl_at ht_67.1 hs_79
      refine va_instS hx hb hown (hts (.classLink RX11 66 "PageOne$Story") (by decide +kernel)) (hK.1 9 (RX10, TX10, 9) rfl).2 (va_recv hK hP (ci := 9) (q0 := kk_90) rfl hk_91) dX11_isNamedIn_13 ?_
      refine lv_if_eq (tgt := 40) hx hb dX11_isNamedIn_16 (by decide) (fun c_92 => absurd c_92 (by decide)) (fun c_92 => ?_)
      refine lv_aload_n hx hb dX11_isNamedIn_19 rfl (lv_at hl 2 rfl) ?_
      obtain ⟨kk_93, hk_94⟩ := pl_at ht_67.1 hs_79
      refine va_castS hx hb hown (hts (.classLink RX11 66 "PageOne$Story") (by decide +kernel)) (hK.1 9 (RX10, TX10, 9) rfl).2 (va_recv hK hP (ci := 9) (q0 := kk_93) rfl hk_94) dX11_isNamedIn_20 ?_
      refine lv_astore_n (lv' := [(2, .ref (d (2000 + j0))), (3, .ref (d (2000 + i0))), (0, .ref (d (2000 + i0))), (1, .ref (d (2000 + j0)))]) hx hb dX11_isNamedIn_23 rfl hl (by decide) rfl (fun ls hl => ?_)
      refine lv_aload_n hx hb dX11_isNamedIn_24 rfl (lv_at hl 0 rfl) ?_
      obtain ⟨kk_95, hk_96⟩ := pl_at ht_67.1 hs_79
      refine va_get (D := (dC, dI)) (ci := 9) (v := .ref (d (6000 + j0))) (C := RX10) (T := TX10) (N := 9) hx hb hts (by decide +kernel) hown hK hP kk_95 hk_96 rfl 8 (by decide) (hts (.fieldLink RX11 135 "PageOne$Story" "named" "[Z") (by decide +kernel)) (fun _ h9 => h9) rfl dX11_isNamedIn_25 ?_
      refine lv_aload_n hx hb dX11_isNamedIn_28 rfl (lv_at hl 1 rfl) ?_
      obtain ⟨kk_97, hk_98⟩ := pl_at ht_39.1 hs_61
      refine va_get (D := (dC, dI)) (ci := 5) (v := .int (u.2 10 i0)) (C := RX6) (T := TX6) (N := 9) hx hb hts (by decide +kernel) hown hK hP kk_97 hk_98 rfl 5 (by decide) (hts (.fieldLink RX11 260 "PageOne$Paid" "buyer" "I") (by decide +kernel)) (fun _ h9 => h9) rfl dX11_isNamedIn_29 ?_
      obtain ⟨kk_99, hk_100⟩ := pl_at hx_72.1.1 hx_77
      refine va_zald hx hb hK hP kk_99 1 hk_100 rfl (vin (hkB i0 (by omega) hkd_41) (by decide)) dX11_isNamedIn_32 ?_
      refine lv_if_eq (tgt := 40) hx hb dX11_isNamedIn_33 (by decide) (fun c_101 => ?_) (fun c_101 => ?_)
      ·
        refine lv_iconst (v := 0) hx hb dX11_isNamedIn_40 (by decide) ?_
        exact W.zret (v := 0) hx hb hr (by decide) (fun t ht hW => ⟨_, rfl, (bP_f (fun h9 => h9.2.2 ((hx_78 _ (b9l (hkB i0 (by omega) hkd_41))).symm.trans c_101))).symm, ht⟩) (fun q h => absurd h List.not_mem_nil) dX11_isNamedIn_41
      ·
        refine lv_iconst (v := 1) hx hb dX11_isNamedIn_36 (by decide) ?_
        refine lv_goto (tgt := 41) hx hb dX11_isNamedIn_37 (by decide) ?_
        exact W.zret (v := 1) hx hb hr (by decide) (fun t ht hW => ⟨_, rfl, (bP_t ⟨hkd_41, hkd_69, fun e9 => c_101 ((hx_78 _ (b9l (hkB i0 (by omega) hkd_41))).trans e9)⟩).symm, ht⟩) (fun q h => absurd h List.not_mem_nil) dX11_isNamedIn_41
    ·
      have hn_68 := ht9
      have hkd_69 : ¬ u.2 4 j0 = 0 := fun e9 => ht9 ⟨hit_24.1, by rw [hkt_38, e9]; rfl⟩
      refine w_then (F0 m 16 ls [.int 0]) (fun hgo => ?_) ?_
      ·
        rcases x_tag hit_24 with ht8 | ht8 | ht8 | ht8 | ht8 | ht8
        ·
          obtain ⟨nu_102, kd_103, cn_104, pa_105, fa_106, l_107, m_108, hs_109, hs_110, hs_111, hs_112⟩ := x_ifl hI ht8
          obtain ⟨kk_113, hk_114⟩ := pl_at ht8.1 hs_109
          exact va_instNo hx hb hown (hts (.classLink RX11 66 "PageOne$Story") (by decide +kernel)) hXN.n_X2_X10 (va_recv hK hP (ci := 2) (q0 := kk_113) rfl hk_114) dX11_isNamedIn_13 hgo
        ·
          obtain ⟨nu_115, kd_116, cn_117, pa_118, fa_119, o_120, w_121, y_122, hs_123, hs_124, hs_125, hs_126, hq_127⟩ := x_ihd hI ht8
          obtain ⟨kk_128, hk_129⟩ := pl_at ht8.1 hs_123
          exact va_instNo hx hb hown (hts (.classLink RX11 66 "PageOne$Story") (by decide +kernel)) hXN.n_X3_X10 (va_recv hK hP (ci := 3) (q0 := kk_128) rfl hk_129) dX11_isNamedIn_13 hgo
        ·
          obtain ⟨nu_130, kd_131, cn_132, pa_133, fa_134, o_135, y_136, hs_137, hs_138, hs_139, hs_140, hq_141⟩ := x_ino hI ht8
          obtain ⟨kk_142, hk_143⟩ := pl_at ht8.1 hs_137
          exact va_instNo hx hb hown (hts (.classLink RX11 66 "PageOne$Story") (by decide +kernel)) hXN.n_X5_X10 (va_recv hK hP (ci := 4) (q0 := kk_142) rfl hk_143) dX11_isNamedIn_13 hgo
        ·
          obtain ⟨nu_144, kd_145, cn_146, pa_147, fa_148, b_149, pr_150, sp_151, dy_152, hs_153, hs_154, hs_155, hs_156, hq_157, hq_158, hq_159⟩ := x_ipd hI ht8
          obtain ⟨kk_160, hk_161⟩ := pl_at ht8.1 hs_153
          exact va_instNo hx hb hown (hts (.classLink RX11 66 "PageOne$Story") (by decide +kernel)) hXN.n_X6_X10 (va_recv hK hP (ci := 5) (q0 := kk_160) rfl hk_161) dX11_isNamedIn_13 hgo
        ·
          obtain ⟨nu_162, kd_163, cn_164, pa_165, fa_166, ww_167, hh_168, sz_169, hs_170, hs_171, hs_172, hs_173, hq_174, hq_175, hq_176⟩ := x_ipi hI ht8
          obtain ⟨kk_177, hk_178⟩ := pl_at ht8.1 hs_170
          exact va_instNo hx hb hown (hts (.classLink RX11 66 "PageOne$Story") (by decide +kernel)) hXN.n_X7_X10 (va_recv hK hP (ci := 6) (q0 := kk_177) rfl hk_178) dX11_isNamedIn_13 hgo
        ·
          exact absurd ht8 ht9
      ·
        refine lv_if_eq (tgt := 40) hx hb dX11_isNamedIn_16 (by decide) (fun c_179 => ?_) (fun c_179 => absurd (by decide) c_179)
        refine lv_iconst (v := 0) hx hb dX11_isNamedIn_40 (by decide) ?_
        exact W.zret (v := 0) hx hb hr (by decide) (fun t ht hW => ⟨_, rfl, (bP_f (fun h9 => hkd_69 h9.2.1)).symm, ht⟩) (fun q h => absurd h List.not_mem_nil) dX11_isNamedIn_41
  ·
    have hn_40 := ht9
    have hkd_41 : ¬ u.2 4 i0 = 3 := fun e9 => ht9 ⟨hit_5.1, by rw [hkt_19, e9]; rfl⟩
    refine w_then (F0 m 4 ls [.int 0]) (fun hgo => ?_) ?_
    ·
      rcases x_tag hit_5 with ht8 | ht8 | ht8 | ht8 | ht8 | ht8
      ·
        obtain ⟨nu_180, kd_181, cn_182, pa_183, fa_184, l_185, m_186, hs_187, hs_188, hs_189, hs_190⟩ := x_ifl hI ht8
        obtain ⟨kk_191, hk_192⟩ := pl_at ht8.1 hs_187
        exact va_instNo hx hb hown (hts (.classLink RX11 104 "PageOne$Paid") (by decide +kernel)) hXN.n_X2_X6 (va_recv hK hP (ci := 2) (q0 := kk_191) rfl hk_192) dX11_isNamedIn_1 hgo
      ·
        obtain ⟨nu_193, kd_194, cn_195, pa_196, fa_197, o_198, w_199, y_200, hs_201, hs_202, hs_203, hs_204, hq_205⟩ := x_ihd hI ht8
        obtain ⟨kk_206, hk_207⟩ := pl_at ht8.1 hs_201
        exact va_instNo hx hb hown (hts (.classLink RX11 104 "PageOne$Paid") (by decide +kernel)) hXN.n_X3_X6 (va_recv hK hP (ci := 3) (q0 := kk_206) rfl hk_207) dX11_isNamedIn_1 hgo
      ·
        obtain ⟨nu_208, kd_209, cn_210, pa_211, fa_212, o_213, y_214, hs_215, hs_216, hs_217, hs_218, hq_219⟩ := x_ino hI ht8
        obtain ⟨kk_220, hk_221⟩ := pl_at ht8.1 hs_215
        exact va_instNo hx hb hown (hts (.classLink RX11 104 "PageOne$Paid") (by decide +kernel)) hXN.n_X5_X6 (va_recv hK hP (ci := 4) (q0 := kk_220) rfl hk_221) dX11_isNamedIn_1 hgo
      ·
        exact absurd ht8 ht9
      ·
        obtain ⟨nu_222, kd_223, cn_224, pa_225, fa_226, ww_227, hh_228, sz_229, hs_230, hs_231, hs_232, hs_233, hq_234, hq_235, hq_236⟩ := x_ipi hI ht8
        obtain ⟨kk_237, hk_238⟩ := pl_at ht8.1 hs_230
        exact va_instNo hx hb hown (hts (.classLink RX11 104 "PageOne$Paid") (by decide +kernel)) hXN.n_X7_X6 (va_recv hK hP (ci := 6) (q0 := kk_237) rfl hk_238) dX11_isNamedIn_1 hgo
      ·
        obtain ⟨nu_239, kd_240, cn_241, pa_242, fa_243, l_244, co_245, wd_246, nm_247, hs_248, hs_249, hs_250, hs_251, hq_252, hq_253, hq_254⟩ := x_ist hI ht8
        obtain ⟨kk_255, hk_256⟩ := pl_at ht8.1 hs_248
        exact va_instNo hx hb hown (hts (.classLink RX11 104 "PageOne$Paid") (by decide +kernel)) hXN.n_X10_X6 (va_recv hK hP (ci := 9) (q0 := kk_255) rfl hk_256) dX11_isNamedIn_1 hgo
    ·
      refine lv_if_eq (tgt := 40) hx hb dX11_isNamedIn_4 (by decide) (fun c_257 => ?_) (fun c_257 => absurd (by decide) c_257)
      refine lv_iconst (v := 0) hx hb dX11_isNamedIn_40 (by decide) ?_
      exact W.zret (v := 0) hx hb hr (by decide) (fun t ht hW => ⟨_, rfl, (bP_f (fun h9 => hkd_41 h9.1)).symm, ht⟩) (fun q h => absurd h List.not_mem_nil) dX11_isNamedIn_41
theorem mn_1 {u : mS} {i j : Nat} (h : mnP u i j 1) (n : ¬ rvP u i j) : False := by
  rcases h with ⟨-, h⟩ | ⟨q, -⟩ | ⟨q, -⟩
  · exact n h
  · exact absurd q (by decide)
  · exact absurd q (by decide)
theorem mn_2 {u : mS} {i j : Nat} (h : mnP u i j 2) (n : ¬ (nmP u i j ∨ nmP u j i)) : False := by
  rcases h with ⟨q, -⟩ | ⟨-, h⟩ | ⟨q, -⟩
  · exact absurd q (by decide)
  · exact n h
  · exact absurd q (by decide)
theorem mn_3 {u : mS} {i j : Nat} (h : mnP u i j 3) (n : ¬ (u.2 4 i = 1 ∧ u.2 4 j = 1)) : False := by
  rcases h with ⟨q, -⟩ | ⟨q, -⟩ | ⟨-, h⟩
  · exact absurd q (by decide)
  · exact absurd q (by decide)
  · exact n h
set_option maxHeartbeats 4000000 in
set_option maxRecDepth 100000 in
theorem y_mayNotMeet (l : Launch) (dC : Nat → ClassId) (dI : Nat → Nat → Nat) (q : Nat → ClassId) (h0 : Nat) (d : Nat → Nat) (k : Nat → Int32) (z : gS) (f : xF) (hI : xI q h0 d k z f) (p0 : Int32) (u : mS) (hrp : rep q d u z f) (hk0 : k 0 = u.1 3) (hk1 : k 1 = u.1 28) (hk2 : k 2 = u.1 38) (hk3 : k 3 = u.1 39) (i0 j0 : Nat) (hi0 : i0 < (u.1 3).toNatClampNeg) (hj0 : j0 < (u.1 3).toNatClampNeg) (hkB : kB u) : Met l yX11_mayNotMeet wsX11_mayNotMeet ({ frames := 1, cells := 0, slots := 0, locals := 23 }) (va_Pc [.ref h0, .ref (d (2000 + i0)), .ref (d (2000 + j0)), .int p0] (PX dC dI (va_pl z.1 f) (xT q))) (vp_Si (fun r => r = bP (mnP u i0 j0 p0))) 0 0 (fun _ => False) := by
  refine Met.ofW (cc := cX11_mayNotMeet) (maxL := 6) (ret := (some .boolean)) (by decide) rfl ?_
  intro p e s m args below meth c s₁ B hml hv
  obtain ⟨rfl, ⟨hP, hK, hN⟩, hXN⟩ := hv
  have hx := B.exec
  have hb := B.bytes
  have hr := B.returns
  have hts := atoms_spec (ws := wsX11_mayNotMeet) B.pre
  have hown : s.vm.findClass RX11 = some m.cls := findClass_of_methodNamed B.named
  have hlocks := B.notSynchronized
  have hl := lv_entry ([.ref h0, .ref (d (2000 + i0)), .ref (d (2000 + j0)), .int p0]) (n := 6) (Nat.le_of_ble_eq_true rfl)
  rw [lg_entry_eq]
  generalize (lg_sl ([.ref h0, .ref (d (2000 + i0)), .ref (d (2000 + j0)), .int p0]) ++ List.replicate (6 - (lg_sl ([.ref h0, .ref (d (2000 + i0)), .ref (d (2000 + j0)), .int p0])).length) Slot.unset).toArray = ls at hl ⊢
  have hl : lv_has ls 6 [(0, .ref h0), (1, .ref (d (2000 + i0))), (2, .ref (d (2000 + j0))), (3, .int p0)] := hl
  have h80n := w80i hI.1.1 hk0
  obtain ⟨rs_1, n_2, g_3, fg_4, hit_5, hs_6, hpa_7, hps_8, h1_9, h6_10, hcb_11, hpl_12, hlg_13, hnn_14, hfa_15, hfs_16, hfe_17, hrs_18, hkt_19⟩ := it_all hI hrp.2.2.1 hi0
  obtain ⟨rs_20, n_21, g_22, fg_23, hit_24, hs_25, hpa_26, hps_27, h1_28, h6_29, hcb_30, hpl_31, hlg_32, hnn_33, hfa_34, hfs_35, hfe_36, hrs_37, hkt_38⟩ := it_all hI hrp.2.2.1 hj0
  refine lv_iload_n hx hb dX11_mayNotMeet_0 rfl (lv_at hl 3 rfl) ?_
  rcases Classical.em (p0 = 1) with s_39 | s_39
  ·
    subst s_39
    refine lv_tableIn (tgt := 28) (off := 27) hx hb dX11_mayNotMeet_1 (by decide) (by decide) (by decide) (by decide) ?_
    refine lv_aload_n hx hb dX11_mayNotMeet_28 rfl (lv_at hl 1 rfl) ?_
    rcases Classical.em (tg z (d (2000 + i0)) 13) with ht9 | ht9
    ·
      have ht_40 := ht9
      have hkd_42 : u.2 4 i0 = 3 := (kT_k (kd_05 hrp.2.2.1 hi0).1 (kd_05 hrp.2.2.1 hi0).2).2.2.2.1 (hkt_19.symm.trans ht_40.2)
      obtain ⟨hx_53, hx_54, hx_55, hx_56, hx_57, hx_58⟩ := hrs_18.2.2.2.1 hkd_42
      have hs_62 : f (d (2000 + i0)) = .inr (5, [.int (nI i0), .int (u.2 4 i0), .ref (d (3000 + i0)), .int (u.2 22 i0), .ref (d (4000 + i0)), .int (u.2 10 i0), .int (u.2 14 i0), .ref (d (5000 + i0)), .ref (d (6000 + i0))]) := by rw [hs_6, ht_40.2, hx_53]; rfl
      obtain ⟨kk_63, hk_64⟩ := pl_at ht_40.1 hs_62
      refine va_instS hx hb hown (hts (.classLink RX11 104 "PageOne$Paid") (by decide +kernel)) (hK.1 5 (RX6, TX6, 9) rfl).2 (va_recv hK hP (ci := 5) (q0 := kk_63) rfl hk_64) dX11_mayNotMeet_29 ?_
      refine lv_if_eq (tgt := 75) hx hb dX11_mayNotMeet_32 (by decide) (fun c_65 => absurd c_65 (by decide)) (fun c_65 => ?_)
      refine lv_aload_n hx hb dX11_mayNotMeet_35 rfl (lv_at hl 1 rfl) ?_
      obtain ⟨kk_66, hk_67⟩ := pl_at ht_40.1 hs_62
      refine va_castS hx hb hown (hts (.classLink RX11 104 "PageOne$Paid") (by decide +kernel)) (hK.1 5 (RX6, TX6, 9) rfl).2 (va_recv hK hP (ci := 5) (q0 := kk_66) rfl hk_67) dX11_mayNotMeet_36 ?_
      refine lv_astore (lv' := [(5, .ref (d (2000 + i0))), (0, .ref h0), (1, .ref (d (2000 + i0))), (2, .ref (d (2000 + j0))), (3, .int 1)]) hx hb dX11_mayNotMeet_39 hl (by decide) rfl (fun ls hl => ?_)
      refine lv_aload_n hx hb dX11_mayNotMeet_41 rfl (lv_at hl 3 rfl) ?_
      rcases Classical.em (tg z (d (2000 + j0)) 13) with ht9 | ht9
      ·
        have ht_68 := ht9
        have hkd_70 : u.2 4 j0 = 3 := (kT_k (kd_05 hrp.2.2.1 hj0).1 (kd_05 hrp.2.2.1 hj0).2).2.2.2.1 (hkt_38.symm.trans ht_68.2)
        obtain ⟨hx_81, hx_82, hx_83, hx_84, hx_85, hx_86⟩ := hrs_37.2.2.2.1 hkd_70
        have hs_90 : f (d (2000 + j0)) = .inr (5, [.int (nI j0), .int (u.2 4 j0), .ref (d (3000 + j0)), .int (u.2 22 j0), .ref (d (4000 + j0)), .int (u.2 10 j0), .int (u.2 14 j0), .ref (d (5000 + j0)), .ref (d (6000 + j0))]) := by rw [hs_25, ht_68.2, hx_81]; rfl
        obtain ⟨kk_91, hk_92⟩ := pl_at ht_68.1 hs_90
        refine va_instS hx hb hown (hts (.classLink RX11 104 "PageOne$Paid") (by decide +kernel)) (hK.1 5 (RX6, TX6, 9) rfl).2 (va_recv hK hP (ci := 5) (q0 := kk_91) rfl hk_92) dX11_mayNotMeet_42 ?_
        refine lv_if_eq (tgt := 75) hx hb dX11_mayNotMeet_45 (by decide) (fun c_93 => absurd c_93 (by decide)) (fun c_93 => ?_)
        refine lv_aload_n hx hb dX11_mayNotMeet_48 rfl (lv_at hl 3 rfl) ?_
        obtain ⟨kk_94, hk_95⟩ := pl_at ht_68.1 hs_90
        refine va_castS hx hb hown (hts (.classLink RX11 104 "PageOne$Paid") (by decide +kernel)) (hK.1 5 (RX6, TX6, 9) rfl).2 (va_recv hK hP (ci := 5) (q0 := kk_94) rfl hk_95) dX11_mayNotMeet_49 ?_
        refine lv_astore (lv' := [(4, .ref (d (2000 + j0))), (5, .ref (d (2000 + i0))), (0, .ref h0), (1, .ref (d (2000 + i0))), (2, .ref (d (2000 + j0))), (3, .int 1)]) hx hb dX11_mayNotMeet_52 hl (by decide) rfl (fun ls hl => ?_)
        refine lv_aload_n hx hb dX11_mayNotMeet_54 rfl (lv_at hl 2 rfl) ?_
        refine lv_aload hx hb dX11_mayNotMeet_55 (lv_at hl 1 rfl) ?_
        obtain ⟨kk_96, hk_97⟩ := pl_at ht_40.1 hs_62
        refine va_get (D := (dC, dI)) (ci := 5) (v := .int (u.2 10 i0)) (C := RX6) (T := TX6) (N := 9) hx hb hts (by decide +kernel) hown hK hP kk_96 hk_97 rfl 5 (by decide) (hts (.fieldLink RX11 260 "PageOne$Paid" "buyer" "I") (by decide +kernel)) (fun _ h9 => h9) rfl dX11_mayNotMeet_57 ?_
        refine lv_aload hx hb dX11_mayNotMeet_60 (lv_at hl 0 rfl) ?_
        obtain ⟨kk_98, hk_99⟩ := pl_at ht_68.1 hs_90
        refine va_get (D := (dC, dI)) (ci := 5) (v := .int (u.2 10 j0)) (C := RX6) (T := TX6) (N := 9) hx hb hts (by decide +kernel) hown hK hP kk_98 hk_99 rfl 5 (by decide) (hts (.fieldLink RX11 260 "PageOne$Paid" "buyer" "I") (by decide +kernel)) (fun _ h9 => h9) rfl dX11_mayNotMeet_62 ?_
        obtain ⟨gr9, hgr9, hgz9⟩ := x_ri hI hI.2.1.2.2.2.2.2
        obtain ⟨kk_100, hk_101⟩ := pl_at hI.2.1.1.1 hI.2.2.2.1.1
        refine vp_callSi (va_runV (As := [.int (u.2 10 i0), .int (u.2 10 j0)]) (rest := []) ⟨hx, hb, hml, hown, hts⟩ (y_areRivals l dC dI q h0 d k z f hI (u.2 10 i0) (u.2 10 j0) (hkB i0 (by omega) hkd_42) (hkB j0 (by omega) hkd_70) gr9 hgr9 hgz9) (cwV 2 hts gX11_mayNotMeet_X11_areRivals rfl rfl rfl (by decide +kernel) ⟨Nat.le_of_ble_eq_true rfl, Nat.le_of_ble_eq_true rfl⟩) ⟨px_fb, va_recv hK hP (ci := 10) (q0 := kk_100) rfl hk_101, fun U hU hW => ⟨rfl, px_to hU hW hP hK hN hXN⟩⟩ rfl rfl hl.1 rfl (lv_room (Nat.le_of_ble_eq_true rfl)) dX11_mayNotMeet_65 ⟨Nat.le_of_ble_eq_true rfl, Nat.le_of_ble_eq_true rfl⟩).run (fun r hw => ?_)
        obtain rfl : r = (gr9 ((u.2 10 i0) * 10 + (u.2 10 j0) : Int32).toNatClampNeg) := hw
        refine lv_if_eq (tgt := 75) hx hb dX11_mayNotMeet_68 (by decide) (fun c_102 => ?_) (fun c_102 => ?_)
        ·
          refine lv_iconst (v := 0) hx hb dX11_mayNotMeet_75 (by decide) ?_
          exact W.zret (v := 0) hx hb hr (by decide) (fun t ht hW => ⟨_, rfl, (bP_f (fun h9 => mn_1 h9 (fun h8 => h8.2.2 ((by obtain ⟨g9, hg9, he9⟩ := hrp.2.2.2.1; rw [(aI_inj (hgr9.symm.trans hg9)).2]; have h7 := he9 _ (b99 (hkB i0 (by omega) hkd_42) (hkB j0 (by omega) hkd_70)); rw [Nat.zero_add] at h7; exact h7 : gr9 (u.2 10 i0 * 10 + u.2 10 j0).toNatClampNeg = u.2 20 (u.2 10 i0 * 10 + u.2 10 j0).toNatClampNeg).symm.trans c_102)))).symm, ht⟩) (fun q h => absurd h List.not_mem_nil) dX11_mayNotMeet_76
        ·
          refine lv_iconst (v := 1) hx hb dX11_mayNotMeet_71 (by decide) ?_
          refine lv_goto (tgt := 76) hx hb dX11_mayNotMeet_72 (by decide) ?_
          exact W.zret (v := 1) hx hb hr (by decide) (fun t ht hW => ⟨_, rfl, (bP_t (Or.inl ⟨rfl, hkd_42, hkd_70, fun e9 => c_102 ((by obtain ⟨g9, hg9, he9⟩ := hrp.2.2.2.1; rw [(aI_inj (hgr9.symm.trans hg9)).2]; have h7 := he9 _ (b99 (hkB i0 (by omega) hkd_42) (hkB j0 (by omega) hkd_70)); rw [Nat.zero_add] at h7; exact h7 : gr9 (u.2 10 i0 * 10 + u.2 10 j0).toNatClampNeg = u.2 20 (u.2 10 i0 * 10 + u.2 10 j0).toNatClampNeg).trans e9)⟩)).symm, ht⟩) (fun q h => absurd h List.not_mem_nil) dX11_mayNotMeet_76
      ·
        have hn_69 := ht9
        have hkd_70 : ¬ u.2 4 j0 = 3 := fun e9 => ht9 ⟨hit_24.1, by rw [hkt_38, e9]; rfl⟩
        refine w_then (F0 m 45 ls [.int 0]) (fun hgo => ?_) ?_
        ·
          rcases x_tag hit_24 with ht8 | ht8 | ht8 | ht8 | ht8 | ht8
          ·
            obtain ⟨nu_103, kd_104, cn_105, pa_106, fa_107, l_108, m_109, hs_110, hs_111, hs_112, hs_113⟩ := x_ifl hI ht8
            obtain ⟨kk_114, hk_115⟩ := pl_at ht8.1 hs_110
            exact va_instNo hx hb hown (hts (.classLink RX11 104 "PageOne$Paid") (by decide +kernel)) hXN.n_X2_X6 (va_recv hK hP (ci := 2) (q0 := kk_114) rfl hk_115) dX11_mayNotMeet_42 hgo
          ·
            obtain ⟨nu_116, kd_117, cn_118, pa_119, fa_120, o_121, w_122, y_123, hs_124, hs_125, hs_126, hs_127, hq_128⟩ := x_ihd hI ht8
            obtain ⟨kk_129, hk_130⟩ := pl_at ht8.1 hs_124
            exact va_instNo hx hb hown (hts (.classLink RX11 104 "PageOne$Paid") (by decide +kernel)) hXN.n_X3_X6 (va_recv hK hP (ci := 3) (q0 := kk_129) rfl hk_130) dX11_mayNotMeet_42 hgo
          ·
            obtain ⟨nu_131, kd_132, cn_133, pa_134, fa_135, o_136, y_137, hs_138, hs_139, hs_140, hs_141, hq_142⟩ := x_ino hI ht8
            obtain ⟨kk_143, hk_144⟩ := pl_at ht8.1 hs_138
            exact va_instNo hx hb hown (hts (.classLink RX11 104 "PageOne$Paid") (by decide +kernel)) hXN.n_X5_X6 (va_recv hK hP (ci := 4) (q0 := kk_143) rfl hk_144) dX11_mayNotMeet_42 hgo
          ·
            exact absurd ht8 ht9
          ·
            obtain ⟨nu_145, kd_146, cn_147, pa_148, fa_149, ww_150, hh_151, sz_152, hs_153, hs_154, hs_155, hs_156, hq_157, hq_158, hq_159⟩ := x_ipi hI ht8
            obtain ⟨kk_160, hk_161⟩ := pl_at ht8.1 hs_153
            exact va_instNo hx hb hown (hts (.classLink RX11 104 "PageOne$Paid") (by decide +kernel)) hXN.n_X7_X6 (va_recv hK hP (ci := 6) (q0 := kk_160) rfl hk_161) dX11_mayNotMeet_42 hgo
          ·
            obtain ⟨nu_162, kd_163, cn_164, pa_165, fa_166, l_167, co_168, wd_169, nm_170, hs_171, hs_172, hs_173, hs_174, hq_175, hq_176, hq_177⟩ := x_ist hI ht8
            obtain ⟨kk_178, hk_179⟩ := pl_at ht8.1 hs_171
            exact va_instNo hx hb hown (hts (.classLink RX11 104 "PageOne$Paid") (by decide +kernel)) hXN.n_X10_X6 (va_recv hK hP (ci := 9) (q0 := kk_178) rfl hk_179) dX11_mayNotMeet_42 hgo
        ·
          refine lv_if_eq (tgt := 75) hx hb dX11_mayNotMeet_45 (by decide) (fun c_180 => ?_) (fun c_180 => absurd (by decide) c_180)
          refine lv_iconst (v := 0) hx hb dX11_mayNotMeet_75 (by decide) ?_
          exact W.zret (v := 0) hx hb hr (by decide) (fun t ht hW => ⟨_, rfl, (bP_f (fun h9 => mn_1 h9 (fun h8 => hkd_70 h8.2.1))).symm, ht⟩) (fun q h => absurd h List.not_mem_nil) dX11_mayNotMeet_76
    ·
      have hn_41 := ht9
      have hkd_42 : ¬ u.2 4 i0 = 3 := fun e9 => ht9 ⟨hit_5.1, by rw [hkt_19, e9]; rfl⟩
      refine w_then (F0 m 32 ls [.int 0]) (fun hgo => ?_) ?_
      ·
        rcases x_tag hit_5 with ht8 | ht8 | ht8 | ht8 | ht8 | ht8
        ·
          obtain ⟨nu_181, kd_182, cn_183, pa_184, fa_185, l_186, m_187, hs_188, hs_189, hs_190, hs_191⟩ := x_ifl hI ht8
          obtain ⟨kk_192, hk_193⟩ := pl_at ht8.1 hs_188
          exact va_instNo hx hb hown (hts (.classLink RX11 104 "PageOne$Paid") (by decide +kernel)) hXN.n_X2_X6 (va_recv hK hP (ci := 2) (q0 := kk_192) rfl hk_193) dX11_mayNotMeet_29 hgo
        ·
          obtain ⟨nu_194, kd_195, cn_196, pa_197, fa_198, o_199, w_200, y_201, hs_202, hs_203, hs_204, hs_205, hq_206⟩ := x_ihd hI ht8
          obtain ⟨kk_207, hk_208⟩ := pl_at ht8.1 hs_202
          exact va_instNo hx hb hown (hts (.classLink RX11 104 "PageOne$Paid") (by decide +kernel)) hXN.n_X3_X6 (va_recv hK hP (ci := 3) (q0 := kk_207) rfl hk_208) dX11_mayNotMeet_29 hgo
        ·
          obtain ⟨nu_209, kd_210, cn_211, pa_212, fa_213, o_214, y_215, hs_216, hs_217, hs_218, hs_219, hq_220⟩ := x_ino hI ht8
          obtain ⟨kk_221, hk_222⟩ := pl_at ht8.1 hs_216
          exact va_instNo hx hb hown (hts (.classLink RX11 104 "PageOne$Paid") (by decide +kernel)) hXN.n_X5_X6 (va_recv hK hP (ci := 4) (q0 := kk_221) rfl hk_222) dX11_mayNotMeet_29 hgo
        ·
          exact absurd ht8 ht9
        ·
          obtain ⟨nu_223, kd_224, cn_225, pa_226, fa_227, ww_228, hh_229, sz_230, hs_231, hs_232, hs_233, hs_234, hq_235, hq_236, hq_237⟩ := x_ipi hI ht8
          obtain ⟨kk_238, hk_239⟩ := pl_at ht8.1 hs_231
          exact va_instNo hx hb hown (hts (.classLink RX11 104 "PageOne$Paid") (by decide +kernel)) hXN.n_X7_X6 (va_recv hK hP (ci := 6) (q0 := kk_238) rfl hk_239) dX11_mayNotMeet_29 hgo
        ·
          obtain ⟨nu_240, kd_241, cn_242, pa_243, fa_244, l_245, co_246, wd_247, nm_248, hs_249, hs_250, hs_251, hs_252, hq_253, hq_254, hq_255⟩ := x_ist hI ht8
          obtain ⟨kk_256, hk_257⟩ := pl_at ht8.1 hs_249
          exact va_instNo hx hb hown (hts (.classLink RX11 104 "PageOne$Paid") (by decide +kernel)) hXN.n_X10_X6 (va_recv hK hP (ci := 9) (q0 := kk_256) rfl hk_257) dX11_mayNotMeet_29 hgo
      ·
        refine lv_if_eq (tgt := 75) hx hb dX11_mayNotMeet_32 (by decide) (fun c_258 => ?_) (fun c_258 => absurd (by decide) c_258)
        refine lv_iconst (v := 0) hx hb dX11_mayNotMeet_75 (by decide) ?_
        exact W.zret (v := 0) hx hb hr (by decide) (fun t ht hW => ⟨_, rfl, (bP_f (fun h9 => mn_1 h9 (fun h8 => hkd_42 h8.1))).symm, ht⟩) (fun q h => absurd h List.not_mem_nil) dX11_mayNotMeet_76
  ·
    rcases Classical.em (p0 = 2) with s_259 | s_259
    ·
      subst s_259
      refine lv_tableIn (tgt := 77) (off := 76) hx hb dX11_mayNotMeet_1 (by decide) (by decide) (by decide) (by decide) ?_
      refine lv_aload_n hx hb dX11_mayNotMeet_77 rfl (lv_at hl 1 rfl) ?_
      refine lv_aload_n hx hb dX11_mayNotMeet_78 rfl (lv_at hl 2 rfl) ?_
      refine vp_callSi (va_runS (As := [.ref (d (2000 + i0)), .ref (d (2000 + j0))]) (rest := []) ⟨hx, hb, hml, hown, hts⟩ (y_isNamedIn l dC dI q h0 d k z f hI u hrp hk0 hk1 hk2 hk3 i0 j0 hi0 hj0 hkB) (va_cwS 2 hts gX11_mayNotMeet_X11_isNamedIn rfl rfl rfl (by decide +kernel) ⟨Nat.le_of_ble_eq_true rfl, Nat.le_of_ble_eq_true rfl⟩) ⟨px_fb, fun U hU hW => ⟨rfl, px_to hU hW hP hK hN hXN⟩⟩ rfl rfl hl.1 rfl (lv_room (Nat.le_of_ble_eq_true rfl)) dX11_mayNotMeet_79 ⟨Nat.le_of_ble_eq_true rfl, Nat.le_of_ble_eq_true rfl⟩).run (fun r hw => ?_)
      obtain rfl : r = (bP (nmP u i0 j0)) := hw
      refine lv_if_ne (tgt := 93) hx hb dX11_mayNotMeet_82 (by decide) (fun c_260 => ?_) (fun c_260 => ?_)
      ·
        refine lv_iconst (v := 1) hx hb dX11_mayNotMeet_93 (by decide) ?_
        refine lv_goto (tgt := 98) hx hb dX11_mayNotMeet_94 (by decide) ?_
        exact W.zret (v := 1) hx hb hr (by decide) (fun t ht hW => ⟨_, rfl, (bP_t (Or.inr (Or.inl ⟨rfl, Or.inl (bP_n c_260)⟩))).symm, ht⟩) (fun q h => absurd h List.not_mem_nil) dX11_mayNotMeet_98
      ·
        refine lv_aload_n hx hb dX11_mayNotMeet_85 rfl (lv_at hl 2 rfl) ?_
        refine lv_aload_n hx hb dX11_mayNotMeet_86 rfl (lv_at hl 1 rfl) ?_
        refine vp_callSi (va_runS (As := [.ref (d (2000 + j0)), .ref (d (2000 + i0))]) (rest := []) ⟨hx, hb, hml, hown, hts⟩ (y_isNamedIn l dC dI q h0 d k z f hI u hrp hk0 hk1 hk2 hk3 j0 i0 hj0 hi0 hkB) (va_cwS 2 hts gX11_mayNotMeet_X11_isNamedIn rfl rfl rfl (by decide +kernel) ⟨Nat.le_of_ble_eq_true rfl, Nat.le_of_ble_eq_true rfl⟩) ⟨px_fb, fun U hU hW => ⟨rfl, px_to hU hW hP hK hN hXN⟩⟩ rfl rfl hl.1 rfl (lv_room (Nat.le_of_ble_eq_true rfl)) dX11_mayNotMeet_87 ⟨Nat.le_of_ble_eq_true rfl, Nat.le_of_ble_eq_true rfl⟩).run (fun r hw => ?_)
        obtain rfl : r = (bP (nmP u j0 i0)) := hw
        refine lv_if_eq (tgt := 97) hx hb dX11_mayNotMeet_90 (by decide) (fun c_261 => ?_) (fun c_261 => ?_)
        ·
          refine lv_iconst (v := 0) hx hb dX11_mayNotMeet_97 (by decide) ?_
          exact W.zret (v := 0) hx hb hr (by decide) (fun t ht hW => ⟨_, rfl, (bP_f (fun h9 => mn_2 h9 (fun h8 => by rcases h8 with h8 | h8; exact bP_0 c_260 h8; exact bP_0 c_261 h8))).symm, ht⟩) (fun q h => absurd h List.not_mem_nil) dX11_mayNotMeet_98
        ·
          refine lv_iconst (v := 1) hx hb dX11_mayNotMeet_93 (by decide) ?_
          refine lv_goto (tgt := 98) hx hb dX11_mayNotMeet_94 (by decide) ?_
          exact W.zret (v := 1) hx hb hr (by decide) (fun t ht hW => ⟨_, rfl, (bP_t (Or.inr (Or.inl ⟨rfl, Or.inr (bP_n c_261)⟩))).symm, ht⟩) (fun q h => absurd h List.not_mem_nil) dX11_mayNotMeet_98
    ·
      rcases Classical.em (p0 = 3) with s_262 | s_262
      ·
        subst s_262
        refine lv_tableIn (tgt := 99) (off := 98) hx hb dX11_mayNotMeet_1 (by decide) (by decide) (by decide) (by decide) ?_
        refine lv_aload_n hx hb dX11_mayNotMeet_99 rfl (lv_at hl 1 rfl) ?_
        rcases Classical.em (tg z (d (2000 + i0)) 11) with ht9 | ht9
        ·
          have ht_263 := ht9
          have hkd_265 : u.2 4 i0 = 1 := (kT_k (kd_05 hrp.2.2.1 hi0).1 (kd_05 hrp.2.2.1 hi0).2).2.1 (hkt_19.symm.trans ht_263.2)
          obtain ⟨o_286, hx_276, hx_277, hx_278, hx_279⟩ := hrs_18.2.1 hkd_265
          have hs_285 : f (d (2000 + i0)) = .inr (3, [.int (nI i0), .int (u.2 4 i0), .ref (d (3000 + i0)), .int (u.2 22 i0), .ref (d (4000 + i0)), .ref (d (2000 + o_286)), .int (u.2 7 i0), .int (u.2 8 i0)]) := by rw [hs_6, ht_263.2, hx_279]; rfl
          have hit_287 := rI_itm hrp.2.2.1 hx_276
          obtain ⟨kk_288, hk_289⟩ := pl_at ht_263.1 hs_285
          refine va_instS hx hb hown (hts (.classLink RX11 83 "PageOne$Head") (by decide +kernel)) (hK.1 3 (RX3, TX3, 8) rfl).2 (va_recv hK hP (ci := 3) (q0 := kk_288) rfl hk_289) dX11_mayNotMeet_100 ?_
          refine lv_if_eq (tgt := 117) hx hb dX11_mayNotMeet_103 (by decide) (fun c_290 => absurd c_290 (by decide)) (fun c_290 => ?_)
          refine lv_aload_n hx hb dX11_mayNotMeet_106 rfl (lv_at hl 2 rfl) ?_
          rcases Classical.em (tg z (d (2000 + j0)) 11) with ht9 | ht9
          ·
            have ht_291 := ht9
            have hkd_293 : u.2 4 j0 = 1 := (kT_k (kd_05 hrp.2.2.1 hj0).1 (kd_05 hrp.2.2.1 hj0).2).2.1 (hkt_38.symm.trans ht_291.2)
            obtain ⟨o_314, hx_304, hx_305, hx_306, hx_307⟩ := hrs_37.2.1 hkd_293
            have hs_313 : f (d (2000 + j0)) = .inr (3, [.int (nI j0), .int (u.2 4 j0), .ref (d (3000 + j0)), .int (u.2 22 j0), .ref (d (4000 + j0)), .ref (d (2000 + o_314)), .int (u.2 7 j0), .int (u.2 8 j0)]) := by rw [hs_25, ht_291.2, hx_307]; rfl
            have hit_315 := rI_itm hrp.2.2.1 hx_304
            obtain ⟨kk_316, hk_317⟩ := pl_at ht_291.1 hs_313
            refine va_instS hx hb hown (hts (.classLink RX11 83 "PageOne$Head") (by decide +kernel)) (hK.1 3 (RX3, TX3, 8) rfl).2 (va_recv hK hP (ci := 3) (q0 := kk_316) rfl hk_317) dX11_mayNotMeet_107 ?_
            refine lv_if_eq (tgt := 117) hx hb dX11_mayNotMeet_110 (by decide) (fun c_318 => absurd c_318 (by decide)) (fun c_318 => ?_)
            refine lv_iconst (v := 1) hx hb dX11_mayNotMeet_113 (by decide) ?_
            refine lv_goto (tgt := 118) hx hb dX11_mayNotMeet_114 (by decide) ?_
            exact W.zret (v := 1) hx hb hr (by decide) (fun t ht hW => ⟨_, rfl, (bP_t (Or.inr (Or.inr ⟨rfl, hkd_265, hkd_293⟩))).symm, ht⟩) (fun q h => absurd h List.not_mem_nil) dX11_mayNotMeet_118
          ·
            have hn_292 := ht9
            have hkd_293 : ¬ u.2 4 j0 = 1 := fun e9 => ht9 ⟨hit_24.1, by rw [hkt_38, e9]; rfl⟩
            refine w_then (F0 m 110 ls [.int 0]) (fun hgo => ?_) ?_
            ·
              rcases x_tag hit_24 with ht8 | ht8 | ht8 | ht8 | ht8 | ht8
              ·
                obtain ⟨nu_319, kd_320, cn_321, pa_322, fa_323, l_324, m_325, hs_326, hs_327, hs_328, hs_329⟩ := x_ifl hI ht8
                obtain ⟨kk_330, hk_331⟩ := pl_at ht8.1 hs_326
                exact va_instNo hx hb hown (hts (.classLink RX11 83 "PageOne$Head") (by decide +kernel)) hXN.n_X2_X3 (va_recv hK hP (ci := 2) (q0 := kk_330) rfl hk_331) dX11_mayNotMeet_107 hgo
              ·
                exact absurd ht8 ht9
              ·
                obtain ⟨nu_332, kd_333, cn_334, pa_335, fa_336, o_337, y_338, hs_339, hs_340, hs_341, hs_342, hq_343⟩ := x_ino hI ht8
                obtain ⟨kk_344, hk_345⟩ := pl_at ht8.1 hs_339
                exact va_instNo hx hb hown (hts (.classLink RX11 83 "PageOne$Head") (by decide +kernel)) hXN.n_X5_X3 (va_recv hK hP (ci := 4) (q0 := kk_344) rfl hk_345) dX11_mayNotMeet_107 hgo
              ·
                obtain ⟨nu_346, kd_347, cn_348, pa_349, fa_350, b_351, pr_352, sp_353, dy_354, hs_355, hs_356, hs_357, hs_358, hq_359, hq_360, hq_361⟩ := x_ipd hI ht8
                obtain ⟨kk_362, hk_363⟩ := pl_at ht8.1 hs_355
                exact va_instNo hx hb hown (hts (.classLink RX11 83 "PageOne$Head") (by decide +kernel)) hXN.n_X6_X3 (va_recv hK hP (ci := 5) (q0 := kk_362) rfl hk_363) dX11_mayNotMeet_107 hgo
              ·
                obtain ⟨nu_364, kd_365, cn_366, pa_367, fa_368, ww_369, hh_370, sz_371, hs_372, hs_373, hs_374, hs_375, hq_376, hq_377, hq_378⟩ := x_ipi hI ht8
                obtain ⟨kk_379, hk_380⟩ := pl_at ht8.1 hs_372
                exact va_instNo hx hb hown (hts (.classLink RX11 83 "PageOne$Head") (by decide +kernel)) hXN.n_X7_X3 (va_recv hK hP (ci := 6) (q0 := kk_379) rfl hk_380) dX11_mayNotMeet_107 hgo
              ·
                obtain ⟨nu_381, kd_382, cn_383, pa_384, fa_385, l_386, co_387, wd_388, nm_389, hs_390, hs_391, hs_392, hs_393, hq_394, hq_395, hq_396⟩ := x_ist hI ht8
                obtain ⟨kk_397, hk_398⟩ := pl_at ht8.1 hs_390
                exact va_instNo hx hb hown (hts (.classLink RX11 83 "PageOne$Head") (by decide +kernel)) hXN.n_X10_X3 (va_recv hK hP (ci := 9) (q0 := kk_397) rfl hk_398) dX11_mayNotMeet_107 hgo
            ·
              refine lv_if_eq (tgt := 117) hx hb dX11_mayNotMeet_110 (by decide) (fun c_399 => ?_) (fun c_399 => absurd (by decide) c_399)
              refine lv_iconst (v := 0) hx hb dX11_mayNotMeet_117 (by decide) ?_
              exact W.zret (v := 0) hx hb hr (by decide) (fun t ht hW => ⟨_, rfl, (bP_f (fun h9 => mn_3 h9 (fun h8 => hkd_293 h8.2))).symm, ht⟩) (fun q h => absurd h List.not_mem_nil) dX11_mayNotMeet_118
        ·
          have hn_264 := ht9
          have hkd_265 : ¬ u.2 4 i0 = 1 := fun e9 => ht9 ⟨hit_5.1, by rw [hkt_19, e9]; rfl⟩
          refine w_then (F0 m 103 ls [.int 0]) (fun hgo => ?_) ?_
          ·
            rcases x_tag hit_5 with ht8 | ht8 | ht8 | ht8 | ht8 | ht8
            ·
              obtain ⟨nu_400, kd_401, cn_402, pa_403, fa_404, l_405, m_406, hs_407, hs_408, hs_409, hs_410⟩ := x_ifl hI ht8
              obtain ⟨kk_411, hk_412⟩ := pl_at ht8.1 hs_407
              exact va_instNo hx hb hown (hts (.classLink RX11 83 "PageOne$Head") (by decide +kernel)) hXN.n_X2_X3 (va_recv hK hP (ci := 2) (q0 := kk_411) rfl hk_412) dX11_mayNotMeet_100 hgo
            ·
              exact absurd ht8 ht9
            ·
              obtain ⟨nu_413, kd_414, cn_415, pa_416, fa_417, o_418, y_419, hs_420, hs_421, hs_422, hs_423, hq_424⟩ := x_ino hI ht8
              obtain ⟨kk_425, hk_426⟩ := pl_at ht8.1 hs_420
              exact va_instNo hx hb hown (hts (.classLink RX11 83 "PageOne$Head") (by decide +kernel)) hXN.n_X5_X3 (va_recv hK hP (ci := 4) (q0 := kk_425) rfl hk_426) dX11_mayNotMeet_100 hgo
            ·
              obtain ⟨nu_427, kd_428, cn_429, pa_430, fa_431, b_432, pr_433, sp_434, dy_435, hs_436, hs_437, hs_438, hs_439, hq_440, hq_441, hq_442⟩ := x_ipd hI ht8
              obtain ⟨kk_443, hk_444⟩ := pl_at ht8.1 hs_436
              exact va_instNo hx hb hown (hts (.classLink RX11 83 "PageOne$Head") (by decide +kernel)) hXN.n_X6_X3 (va_recv hK hP (ci := 5) (q0 := kk_443) rfl hk_444) dX11_mayNotMeet_100 hgo
            ·
              obtain ⟨nu_445, kd_446, cn_447, pa_448, fa_449, ww_450, hh_451, sz_452, hs_453, hs_454, hs_455, hs_456, hq_457, hq_458, hq_459⟩ := x_ipi hI ht8
              obtain ⟨kk_460, hk_461⟩ := pl_at ht8.1 hs_453
              exact va_instNo hx hb hown (hts (.classLink RX11 83 "PageOne$Head") (by decide +kernel)) hXN.n_X7_X3 (va_recv hK hP (ci := 6) (q0 := kk_460) rfl hk_461) dX11_mayNotMeet_100 hgo
            ·
              obtain ⟨nu_462, kd_463, cn_464, pa_465, fa_466, l_467, co_468, wd_469, nm_470, hs_471, hs_472, hs_473, hs_474, hq_475, hq_476, hq_477⟩ := x_ist hI ht8
              obtain ⟨kk_478, hk_479⟩ := pl_at ht8.1 hs_471
              exact va_instNo hx hb hown (hts (.classLink RX11 83 "PageOne$Head") (by decide +kernel)) hXN.n_X10_X3 (va_recv hK hP (ci := 9) (q0 := kk_478) rfl hk_479) dX11_mayNotMeet_100 hgo
          ·
            refine lv_if_eq (tgt := 117) hx hb dX11_mayNotMeet_103 (by decide) (fun c_480 => ?_) (fun c_480 => absurd (by decide) c_480)
            refine lv_iconst (v := 0) hx hb dX11_mayNotMeet_117 (by decide) ?_
            exact W.zret (v := 0) hx hb hr (by decide) (fun t ht hW => ⟨_, rfl, (bP_f (fun h9 => mn_3 h9 (fun h8 => hkd_265 h8.1))).symm, ht⟩) (fun q h => absurd h List.not_mem_nil) dX11_mayNotMeet_118
      ·
        refine lv_tableOut (tgt := 119) hx hb dX11_mayNotMeet_1 (sw_out3 s_39 s_259 s_262) (by decide) ?_
        refine lv_iconst (v := 0) hx hb dX11_mayNotMeet_119 (by decide) ?_
        exact W.zret (v := 0) hx hb hr (by decide) (fun t ht hW => ⟨_, rfl, (bP_f (fun h9 => by rcases h9 with ⟨q9, -⟩ | ⟨q9, -⟩ | ⟨q9, -⟩; exact s_39 q9; exact s_259 q9; exact s_262 q9)).symm, ht⟩) (fun q h => absurd h List.not_mem_nil) dX11_mayNotMeet_120
