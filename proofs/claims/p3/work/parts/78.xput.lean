set_option maxHeartbeats 4000000 in
set_option maxRecDepth 100000 in
theorem x_put (l : Launch) (dC : Nat → ClassId) (dI : Nat → Nat → Nat) (q : Nat → ClassId) (h0 : Nat) (d : Nat → Nat) (k : Nat → Int32) (z : gS) (f : xF) (hI : xI q h0 d k z f) (p0 p1 p2 p3 p4 : Int32) (sz : Nat) : Met l yX11_put wsX11_put ({ frames := 5, cells := 2, slots := 10, locals := 112 }) (va_Pc [.ref h0, .int p0, .int p1, .int p2, .int p3, .int p4] (fun U => U.heap.size = sz ∧ PX dC dI (va_pl z.1 f) (xT q) U ∧ va_D (fun _ => True) (va_pl z.1 f))) (va_Qi (fun (r : Int32) (w : xU) => (∀ j, j ≠ 1 → w.1 j = k j) ∧ zE z w.2.1 ∧ xI q h0 d w.1 w.2.1 w.2.2) (fun (w : xU) t => va_P (dC, dI) vwCl (va_pl w.2.1.1 w.2.2) t.heap ∧ va_D (va_A (va_pl z.1 f) sz) (va_pl w.2.1.1 w.2.2)) (va_A (va_pl z.1 f) sz)) 2 10 (va_A (va_pl z.1 f) sz) := by
  refine Met.ofW (cc := cX11_put) (maxL := 8) (ret := (some .int)) (by decide) rfl ?_
  intro p e s m args below meth c s₁ B hml hv
  obtain ⟨rfl, hsz, ⟨⟨hP, hK, hN⟩, hXN⟩, hD0⟩ := hv
  have hx := B.exec
  have hb := B.bytes
  have hr := B.returns
  have hts := atoms_spec (ws := wsX11_put) B.pre
  have hown : s.vm.findClass RX11 = some m.cls := findClass_of_methodNamed B.named
  have hlocks := B.notSynchronized
  subst hsz
  have hD := hD0.self (sz := s.heap.size)
  generalize hAe : va_A (va_pl z.1 f) s.heap.size = A at hD ⊢
  have hA : ∀ q : Nat, s.heap.size ≤ q → A q := fun q h => by rw [← hAe]; exact Or.inr h
  have hS : va_S A s.heap s.heap [] := va_S.rf
  have hl := lv_entry ([.ref h0, .int p0, .int p1, .int p2, .int p3, .int p4]) (n := 8) (Nat.le_of_ble_eq_true rfl)
  rw [lg_entry_eq]
  generalize (lg_sl ([.ref h0, .int p0, .int p1, .int p2, .int p3, .int p4]) ++ List.replicate (8 - (lg_sl ([.ref h0, .int p0, .int p1, .int p2, .int p3, .int p4])).length) Slot.unset).toArray = ls at hl ⊢
  have hl : lv_has ls 8 [(0, .ref h0), (1, .int p0), (2, .int p1), (3, .int p2), (4, .int p3), (5, .int p4)] := hl
  refine lv_aload_n hx hb dX11_put_0 rfl (lv_at hl 0 rfl) ?_
  refine lv_iload_n hx hb dX11_put_1 rfl (lv_at hl 1 rfl) ?_
  obtain ⟨kk_1, hk_2⟩ := pl_at hI.2.1.1.1 hI.2.2.2.1.1
  refine va_csq (va_runV (As := [.int p0]) (rest := []) ⟨hx, hb, hml, hown, hts⟩ (x_itemOf l dC dI q h0 d k z f hI p0) (cwV 1 hts gX11_put_X11_itemOf rfl rfl rfl (by decide +kernel) ⟨Nat.le_of_ble_eq_true rfl, Nat.le_of_ble_eq_true rfl⟩) ⟨px_fb, va_recv hK hP (ci := 10) (q0 := kk_1) rfl hk_2, fun U hU hW => ⟨rfl, px_to hU hW hP hK hN hXN⟩⟩ rfl rfl hl.1 rfl (lv_room (Nat.le_of_ble_eq_true rfl)) dX11_put_2 ⟨Nat.le_of_ble_eq_true rfl, Nat.le_of_ble_eq_true rfl⟩).run (fun r hw => ?_)
  rcases r with _ | b_3
  ·
    refine W.eq (g2 := F0 m 5 ls [.null]) rfl ?_
    refine lv_astoreN (lv' := [(6, .null), (0, .ref h0), (1, .int p0), (2, .int p1), (3, .int p2), (4, .int p3), (5, .int p4)]) hx hb dX11_put_5 hl (by decide) rfl (fun ls hl => ?_)
    refine lv_aloadN hx hb dX11_put_7 (lv_at hl 0 rfl) ?_
    refine lv_ifnullN (tgt := 26) hx hb dX11_put_9 (by decide) ?_
    refine lv_iconst (v := (-1)) hx hb dX11_put_26 (by decide) ?_
    refine W.widen (k := 2) (n := 10) (Nat.le_of_ble_eq_true rfl) (Nat.le_of_ble_eq_true rfl) ?_
    exact W.iret (v := (-1)) hx hb hr (fun t ht hW => ⟨⟨(-1), (k, z, f), rfl, ⟨fun _ _ => rfl, zE_rf z, hI⟩, by rw [ht]; exact hP, hD⟩, hS.F ht⟩) hS.2.2 dX11_put_27
  ·
    have ht_4 := hw b_3 rfl
    refine W.eq (g2 := F0 m 5 ls [.ref b_3]) rfl ?_
    refine lv_astore (lv' := [(6, .ref b_3), (0, .ref h0), (1, .int p0), (2, .int p1), (3, .int p2), (4, .int p3), (5, .int p4)]) hx hb dX11_put_5 hl (by decide) rfl (fun ls hl => ?_)
    refine lv_aload hx hb dX11_put_7 (lv_at hl 0 rfl) ?_
    refine lv_ifnull hx hb dX11_put_9 ?_
    refine lv_iload_n hx hb dX11_put_12 rfl (lv_at hl 3 rfl) ?_
    refine vp_callSi (va_runS (As := [.int p1]) (rest := []) ⟨hx, hb, hml, hown, hts⟩ (x_isPage l dC dI p1) (va_cwS 1 hts gX11_put_X11_isPage rfl rfl rfl (by decide +kernel) ⟨Nat.le_of_ble_eq_true rfl, Nat.le_of_ble_eq_true rfl⟩) ⟨pw_fb, fun U hU hW => ⟨rfl, pw_to hU hW (hP.sub (ws' := []) [] rfl) (hK.sub (tys' := []) [] rfl) hN⟩⟩ rfl rfl hl.1 rfl (lv_room (Nat.le_of_ble_eq_true rfl)) dX11_put_13 ⟨Nat.le_of_ble_eq_true rfl, Nat.le_of_ble_eq_true rfl⟩).run (fun r hw => ?_)
    rcases Bool.eq_false_or_eq_true (bw p1 0 11) with b_5 | b_5
    ·
      obtain rfl : r = 1 := b_t hw b_5
      refine lv_if_eq (tgt := 26) hx hb dX11_put_16 (by decide) (fun c_6 => absurd c_6 (by decide)) (fun c_6 => ?_)
      refine lv_aload_n hx hb dX11_put_19 rfl (lv_at hl 1 rfl) ?_
      obtain ⟨kk_7, hk_8⟩ := pl_at hI.2.1.1.1 hI.2.2.2.1.1
      refine vp_callSi (va_runV (As := []) (rest := []) ⟨hx, hb, hml, hown, hts⟩ (x_canAct l dC dI q h0 d k z f hI) (cwV 0 hts gX11_put_X11_canAct rfl rfl rfl (by decide +kernel) ⟨Nat.le_of_ble_eq_true rfl, Nat.le_of_ble_eq_true rfl⟩) ⟨px_fb, va_recv hK hP (ci := 10) (q0 := kk_7) rfl hk_8, fun U hU hW => ⟨rfl, px_to hU hW hP hK hN hXN⟩⟩ rfl rfl hl.1 rfl (lv_room (Nat.le_of_ble_eq_true rfl)) dX11_put_20 ⟨Nat.le_of_ble_eq_true rfl, Nat.le_of_ble_eq_true rfl⟩).run (fun r hw => ?_)
      rcases hw with hw | ⟨hw, hact⟩
      ·
        subst hw
        refine lv_if_ne (tgt := 28) hx hb dX11_put_23 (by decide) (fun c_9 => absurd (by decide) c_9) (fun c_9 => ?_)
        refine lv_iconst (v := (-1)) hx hb dX11_put_26 (by decide) ?_
        refine W.widen (k := 2) (n := 10) (Nat.le_of_ble_eq_true rfl) (Nat.le_of_ble_eq_true rfl) ?_
        exact W.iret (v := (-1)) hx hb hr (fun t ht hW => ⟨⟨(-1), (k, z, f), rfl, ⟨fun _ _ => rfl, zE_rf z, hI⟩, by rw [ht]; exact hP, hD⟩, hS.F ht⟩) hS.2.2 dX11_put_27
      ·
        subst hw
        refine lv_if_ne (tgt := 28) hx hb dX11_put_23 (by decide) (fun c_10 => ?_) (fun c_10 => absurd c_10 (by decide))
        refine va_new (ci := 7) (fs := [.null, .int 0, .int 0, .int 0, .int 0, .int 0]) (C := RX8) (T := TX8) (N := 6) hx hb hts (by decide +kernel) tyX8 tyX8_ok hown (hts (.classLink RX11 106 RX8) (by decide +kernel)) (hts (.instantiable RX8 6) (by decide +kernel)) (hts (.initialized RX8) (by decide +kernel)) hK hP hD hS hA rfl nwX8 (Nat.le_of_ble_eq_true rfl) (Nat.le_of_ble_eq_true rfl) dX11_put_28 (fun q_11 H hPn hDn hS => ?_)
        have hP := vaP_l hPn
        refine W.widen (k := 1) (n := 6) (Nat.le_of_ble_eq_true rfl) (Nat.le_of_ble_eq_true rfl) ?_
        refine lv_dup hx hb dX11_put_31 rfl ?_
        refine lv_aload hx hb dX11_put_32 (lv_at hl 0 rfl) ?_
        refine lv_iload_n hx hb dX11_put_34 rfl (lv_at hl 3 rfl) ?_
        refine lv_iload_n hx hb dX11_put_35 rfl (lv_at hl 4 rfl) ?_
        refine lv_iload hx hb dX11_put_36 (lv_at hl 5 rfl) ?_
        refine lv_aload hx hb dX11_put_38 (lv_at hl 0 rfl) ?_
        refine lv_iload hx hb dX11_put_40 (lv_at hl 6 rfl) ?_
        refine w_cut (X := fun R cells slots Q args => ∀ r : Int32, (True) → W p l e R s m args below meth c H [] cells slots Q (F0 m 45 ls (.int r :: [.int p3, .int p2, .int p1, .ref b_3, .ref q_11, .ref q_11]))) ?_ (fun kC => ?_)
        ·
          intro r hw
          generalize r = zr_107 at hw ⊢
          have hzr_107 := hw
          refine lv_aload hx hb dX11_put_45 (lv_at hl 0 rfl) ?_
          refine lv_iload hx hb dX11_put_47 (lv_at hl 6 rfl) ?_
          refine w_cut (X := fun R cells slots Q args => ∀ r : Int32, (True) → W p l e R s m args below meth c H [] cells slots Q (F0 m 52 ls (.int r :: [.int zr_107, .int p3, .int p2, .int p1, .ref b_3, .ref q_11, .ref q_11]))) ?_ (fun kC => ?_)
          ·
            intro r hw
            generalize r = zr_203 at hw ⊢
            have hzr_203 := hw
            have hPc := vaP_r hPn
            have hDc := vaD_r hDn
            have hFc := fr_part hDn hS hA
            refine va_callv (va_runI (As := [.ref b_3, .int p1, .int p2, .int p3, .int zr_107, .int zr_203]) (rest := [.ref q_11]) ⟨hx, hb, hml, hown, hts⟩ (x_PieceI l dC dI q_11 b_3 p1 p2 p3 zr_107 zr_203 H.size) (cwI 6 hts gX11_put_X8_init rfl rfl rfl (hts (.initialized RX8) (by decide +kernel)) (hts (.methodLink RX11 108 yX8_init) (by decide +kernel)) (hts (.instanceMethod yX8_init) (by decide +kernel)) rfl (by decide +kernel) ⟨Nat.le_of_ble_eq_true rfl, Nat.le_of_ble_eq_true rfl⟩) ⟨gw_fb, fun U hU hW => ⟨rfl, by rw [hU], pw_to hU hW hPc (hK.sub (tys' := []) [] rfl) hN, hDc.weaken (fun _ _ _ _ => trivial)⟩⟩ rfl rfl hl.1 rfl (lv_room (Nat.le_of_ble_eq_true rfl)) dX11_put_52 ⟨Nat.le_of_ble_eq_true rfl, Nat.le_of_ble_eq_true rfl⟩) hS (fun q _ h => hFc q h) hFc (fun u t H1 locs ht hvm hw hB hz1 hk1 hS => ?_)
            obtain ⟨hP1, hD1⟩ := hB
            rw [ht] at hP1
            obtain ⟨hP, hD⟩ := va_joinQ (X := [(q_11, .inr (7, [.null, .int 0, .int 0, .int 0, .int 0, .int 0]))]) (cx := [(q_11, .inr (7, [.null, .int 0, .int 0, .int 0, .int 0, .int 0]))]) (wr := []) (w1 := [(q_11, .inr (7, [va_rf (some b_3), .int p1, .int p2, .int p3, .int zr_107, .int zr_203]))]) (pl := va_pl z.1 f) (vaP_swap hPn) (vaD_rotR hDn) [0] [] rfl rfl rfl (fun i hi => absurd hi List.not_mem_nil) hk1 hFc hP1 hD1
            generalize H1 = H at hP hS ⊢
            obtain ⟨hnm_204, hP, hD⟩ := pushC hP hD
            obtain ⟨z_205, ez_205⟩ : ∃ y : gS, y = pz z q_11 (22, 0, [va_rf (some b_3), .int p1, .int p2, .int p3, .int zr_107, .int zr_203]) := ⟨_, rfl⟩
            obtain ⟨f_206, ef_206⟩ : ∃ y : xF, y = va_up f q_11 (.inr (7, [va_rf (some b_3), .int p1, .int p2, .int p3, .int zr_107, .int zr_203])) := ⟨_, rfl⟩
            have hE_207 : zE z z_205 := by rw [ez_205]; exact pz_E hnm_204 _
            have hI : xI q h0 d k z_205 f_206 := by rw [ez_205, ef_206]; exact x_push hI hnm_204 (Or.inr (by decide : (15 : Nat) < 22)) (cO_pc b_5 (ty_s ht_4) hnm_204)
            rw [show z.1 ++ [q_11] = z_205.1 from by rw [ez_205]; rfl, ← ef_206] at hP hD
            have ht_4 := zE_itm hE_207 ht_4
            have ht_208 : tg z_205 q_11 22 := by rw [ez_205]; exact pz_t _ _ _
            have hEz : zE z z_205 := zE_tr (zE_rf z) hE_207
            refine W.eq (g2 := F0 m 55 ls [.ref q_11]) rfl ?_
            have hp_209 : pcS z_205 q_11 (some b_3) p1 p2 p3 zr_107 zr_203 := ⟨ht_208, by rw [ez_205, pz_s]⟩
            refine lv_astore (lv' := [(7, .ref q_11), (6, .ref b_3), (0, .ref h0), (1, .int p0), (2, .int p1), (3, .int p2), (4, .int p3), (5, .int p4)]) hx hb dX11_put_55 hl (by decide) rfl (fun ls hl => ?_)
            refine lv_aload hx hb dX11_put_57 (lv_at hl 1 rfl) ?_
            obtain ⟨nu_210, kd_211, cn_212, pa_213, fa_214, rs_215, hs_216, hs_217, hs_218, hs_219, hs_220⟩ := x_im hI ht_4
            obtain ⟨n_221, g_222, hs_223, h1_224, h6_225, hc_226, hn_227, hg_228⟩ := x_pcs hI ht_4 rfl hs_216
            refine w_cut (X := fun R cells slots Q args => ∀ r : Int32, (r = 0 ∨ (r = 1 ∧ ¬ nI n_221 ≤ cn_212)) → W p l e R s m args below meth c H locs cells slots Q (F0 m 62 ls (.int r :: []))) ?_ (fun kC => ?_)
            ·
              intro r hw
              rcases hw with hw | ⟨hw, hroom⟩
              ·
                subst hw
                refine lv_if_eq (tgt := 102) hx hb dX11_put_62 (by decide) (fun c_324 => ?_) (fun c_324 => absurd (by decide) c_324)
                refine lv_iconst (v := (-1)) hx hb dX11_put_102 (by decide) ?_
                refine W.widen (k := 2) (n := 10) (Nat.le_of_ble_eq_true rfl) (Nat.le_of_ble_eq_true rfl) ?_
                exact W.iret (v := (-1)) hx hb hr (fun t ht hW => ⟨⟨(-1), (k, z_205, f_206), rfl, ⟨fun _ _ => rfl, hEz, hI⟩, by rw [ht]; exact hP, hD⟩, hS.F ht⟩) hS.2.2 dX11_put_103
              ·
                subst hw
                refine lv_if_eq (tgt := 102) hx hb dX11_put_62 (by decide) (fun c_325 => absurd c_325 (by decide)) (fun c_325 => ?_)
                refine lv_aload_n hx hb dX11_put_65 rfl (lv_at hl 2 rfl) ?_
                obtain ⟨kk_326, hk_327⟩ := pl_at hI.2.1.1.1 hI.2.2.2.1.1
                refine va_get (D := (dC, dI)) (ci := 10) (v := .ref (d 0)) (C := RX11) (T := TX11) (N := 9) hx hb hts (by decide +kernel) hown hK hP kk_326 hk_327 rfl 0 (by decide) (hts (.fieldLink RX11 11 "PageOne" "pages" "[LPageOne$Sheet;") (by decide +kernel)) (fun _ h9 => h9) rfl dX11_put_66 ?_
                refine lv_iload_n hx hb dX11_put_69 rfl (lv_at hl 4 rfl) ?_
                obtain ⟨g_328, hs_329, hg_330⟩ := x_pg hI hI.2.1.2.1
                obtain ⟨kk_331, hk_332⟩ := pl_at hI.2.1.2.1.1 hs_329
                refine va_aldq hx hb hK hP kk_331 2 hk_332 rfl (vin b_5 (by decide)) dX11_put_70 ?_
                obtain ⟨b_333, hg_334, ht_335⟩ := hg_330 _ (vlt (vin b_5 (by decide)))
                rw [hg_334]
                refine W.eq (g2 := F0 m 71 ls [.ref b_333]) rfl ?_
                refine lv_aload hx hb dX11_put_71 (lv_at hl 0 rfl) ?_
                obtain ⟨la_336, ca_337, m_338, dd_339, ii_340, hs_341, ht_342, ht_343⟩ := x_sh hI ht_335
                obtain ⟨kk_344, hk_345⟩ := pl_at ht_335.1 hs_341
                refine vp_callSi (va_runV (As := [.ref q_11]) (rest := []) ⟨hx, hb, hml, hown, hts⟩ (x_isFree l dC dI q h0 d k z_205 f_206 hI b_333 ht_335 q_11 (some b_3) p1 p2 p3 zr_107 zr_203 hp_209) (cwV 1 hts gX11_put_X9_isFree rfl rfl rfl (by decide +kernel) ⟨Nat.le_of_ble_eq_true rfl, Nat.le_of_ble_eq_true rfl⟩) ⟨px_fb, va_recv hK hP (ci := 8) (q0 := kk_344) rfl hk_345, fun U hU hW => ⟨rfl, px_to hU hW hP hK hN hXN⟩⟩ rfl rfl hl.1 rfl (lv_room (Nat.le_of_ble_eq_true rfl)) dX11_put_73 ⟨Nat.le_of_ble_eq_true rfl, Nat.le_of_ble_eq_true rfl⟩).run (fun r hw => ?_)
                rcases hw with hw | ⟨hw, hlgx⟩
                ·
                  subst hw
                  refine lv_if_eq (tgt := 102) hx hb dX11_put_76 (by decide) (fun c_347 => ?_) (fun c_347 => absurd (by decide) c_347)
                  refine lv_iconst (v := (-1)) hx hb dX11_put_102 (by decide) ?_
                  refine W.widen (k := 2) (n := 10) (Nat.le_of_ble_eq_true rfl) (Nat.le_of_ble_eq_true rfl) ?_
                  exact W.iret (v := (-1)) hx hb hr (fun t ht hW => ⟨⟨(-1), (k, z_205, f_206), rfl, ⟨fun _ _ => rfl, hEz, hI⟩, by rw [ht]; exact hP, hD⟩, hS.F ht⟩) hS.2.2 dX11_put_103
                ·
                  subst hw
                  have hlg_346 := lg_of hp_209 hlgx
                  obtain ⟨hb1_hlg_346, hb2_hlg_346, hb3_hlg_346, hb4_hlg_346⟩ := hlgx
                  refine lv_if_eq (tgt := 102) hx hb dX11_put_76 (by decide) (fun c_348 => absurd c_348 (by decide)) (fun c_348 => ?_)
                  refine lv_aload hx hb dX11_put_79 (lv_at hl 1 rfl) ?_
                  refine lv_aload hx hb dX11_put_81 (lv_at hl 0 rfl) ?_
                  refine lv_aload_n hx hb dX11_put_83 rfl (lv_at hl 2 rfl) ?_
                  obtain ⟨kk_349, hk_350⟩ := pl_at hI.2.1.1.1 hI.2.2.2.1.1
                  refine va_get (D := (dC, dI)) (ci := 10) (v := .ref (d 0)) (C := RX11) (T := TX11) (N := 9) hx hb hts (by decide +kernel) hown hK hP kk_349 hk_350 rfl 0 (by decide) (hts (.fieldLink RX11 11 "PageOne" "pages" "[LPageOne$Sheet;") (by decide +kernel)) (fun _ h9 => h9) rfl dX11_put_84 ?_
                  refine lv_iload_n hx hb dX11_put_87 rfl (lv_at hl 4 rfl) ?_
                  obtain ⟨kk_351, hk_352⟩ := pl_at hI.2.1.2.1.1 hs_329
                  refine va_aldq hx hb hK hP kk_351 2 hk_352 rfl (vin b_5 (by decide)) dX11_put_88 ?_
                  obtain ⟨b_353, hg_354, ht_355⟩ := hg_330 _ (vlt (vin b_5 (by decide)))
                  rw [hg_354]
                  refine W.eq (g2 := F0 m 89 ls [.ref b_353, .ref q_11, .ref b_3]) rfl ?_
                  obtain ⟨la_356, ca_357, m_358, dd_359, ii_360, hs_361, ht_362, ht_363⟩ := x_sh hI ht_355
                  obtain ⟨kk_364, hk_365⟩ := pl_at ht_355.1 hs_361
                  refine va_get (D := (dC, dI)) (ci := 8) (v := .int m_358) (C := RX9) (T := TX9) (N := 5) hx hb hts (by decide +kernel) hown hK hP kk_364 hk_365 rfl 2 (by decide) (hts (.fieldLink RX11 63 "PageOne$Sheet" "measure" "I") (by decide +kernel)) (fun _ h9 => h9) rfl dX11_put_89 ?_
                  refine lv_aload_n hx hb dX11_put_92 rfl (lv_at hl 2 rfl) ?_
                  obtain ⟨kk_366, hk_367⟩ := pl_at hI.2.1.1.1 hI.2.2.2.1.1
                  refine va_get (D := (dC, dI)) (ci := 10) (v := .int (k 2)) (C := RX11) (T := TX11) (N := 9) hx hb hts (by decide +kernel) hown hK hP kk_366 hk_367 rfl 7 (by decide) (hts (.fieldLink RX11 41 "PageOne" "today" "I") (by decide +kernel)) (fun _ h9 => h9) rfl dX11_put_93 ?_
                  refine w_cut (X := fun R cells slots Q args => ∀ r : Int32, (r = 0 ∨ r = 1) → W p l e R s m args below meth c H locs cells slots Q (F0 m 99 ls (.int r :: []))) ?_ (fun kC => ?_)
                  ·
                    intro r hw
                    rcases hw with hw | hw
                    ·
                      subst hw
                      refine lv_if_ne (tgt := 104) hx hb dX11_put_99 (by decide) (fun c_463 => absurd (by decide) c_463) (fun c_463 => ?_)
                      refine lv_iconst (v := (-1)) hx hb dX11_put_102 (by decide) ?_
                      refine W.widen (k := 2) (n := 10) (Nat.le_of_ble_eq_true rfl) (Nat.le_of_ble_eq_true rfl) ?_
                      exact W.iret (v := (-1)) hx hb hr (fun t ht hW => ⟨⟨(-1), (k, z_205, f_206), rfl, ⟨fun _ _ => rfl, hEz, hI⟩, by rw [ht]; exact hP, hD⟩, hS.F ht⟩) hS.2.2 dX11_put_103
                    ·
                      subst hw
                      refine lv_if_ne (tgt := 104) hx hb dX11_put_99 (by decide) (fun c_464 => ?_) (fun c_464 => absurd c_464 (by decide))
                      refine lv_aload_n hx hb dX11_put_104 rfl (lv_at hl 2 rfl) ?_
                      refine lv_aload hx hb dX11_put_105 (lv_at hl 0 rfl) ?_
                      obtain ⟨kk_465, hk_466⟩ := pl_at hI.2.1.1.1 hI.2.2.2.1.1
                      have hFc := fr_all hD hS hA
                      refine va_callv (va_runV (As := [.ref q_11]) (rest := []) ⟨hx, hb, hml, hown, hts⟩ (x_stand l dC dI q h0 d k z_205 f_206 hI q_11 hlg_346 H.size) (cwV 1 hts gX11_put_X11_stand rfl rfl rfl (by decide +kernel) ⟨Nat.le_of_ble_eq_true rfl, Nat.le_of_ble_eq_true rfl⟩) ⟨gx_fb, va_recv hK hP (ci := 10) (q0 := kk_465) rfl hk_466, fun U hU hW => ⟨rfl, by rw [hU], px_to hU hW hP hK hN hXN, hD.weaken (fun _ _ _ _ => trivial)⟩⟩ rfl rfl hl.1 rfl (lv_room (Nat.le_of_ble_eq_true rfl)) dX11_put_107 ⟨Nat.le_of_ble_eq_true rfl, Nat.le_of_ble_eq_true rfl⟩) hS (fun q _ h => hFc q h) hFc (fun w_467 t H1 locs ht hvm hw hB hz1 hk1 hS => ?_)
                      obtain ⟨hP, hD1⟩ := hB
                      rw [ht] at hP
                      rw [hw.2.1] at hP hD1
                      have hD := hD1.weaken (fun _ q _ h => hFc q.1 h)
                      have hI := hw.2.2
                      have hw0 := hw
                      generalize w_467.2.2 = f_468 at hP hD hI hw0
                      generalize H1 = H at hP hS ⊢
                      refine lv_aload_n hx hb dX11_put_110 rfl (lv_at hl 2 rfl) ?_
                      refine va_new (ci := 0) (fs := [.null, .int 0, .null, .int 0]) (C := RX0) (T := TX0) (N := 4) hx hb hts (by decide +kernel) tyX0 tyX0_ok hown (hts (.classLink RX11 28 RX0) (by decide +kernel)) (hts (.instantiable RX0 4) (by decide +kernel)) (hts (.initialized RX0) (by decide +kernel)) hK hP hD hS hA rfl nwX0 (Nat.le_of_ble_eq_true rfl) (Nat.le_of_ble_eq_true rfl) dX11_put_111 (fun q_469 H hPn hDn hS => ?_)
                      have hP := vaP_l hPn
                      refine W.widen (k := 2) (n := 10) (Nat.le_of_ble_eq_true rfl) (Nat.le_of_ble_eq_true rfl) ?_
                      refine lv_dup hx hb dX11_put_114 rfl ?_
                      refine lv_aload hx hb dX11_put_115 (lv_at hl 0 rfl) ?_
                      refine lv_iconst (v := 0) hx hb dX11_put_117 (by decide) ?_
                      refine lv_null hx hb dX11_put_118 ?_
                      have hPc := vaP_r hPn
                      have hDc := vaD_r hDn
                      have hFc := fr_part hDn hS hA
                      refine va_callv (va_runI (As := [.ref q_11, .int 0, .null]) (rest := [.ref q_469, .ref h0]) ⟨hx, hb, hml, hown, hts⟩ (x_ActP l dC dI q_469 q_11 H.size) (cwI 3 hts gX11_put_X0_init rfl rfl rfl (hts (.initialized RX0) (by decide +kernel)) (hts (.methodLink RX11 163 yX0_init) (by decide +kernel)) (hts (.instanceMethod yX0_init) (by decide +kernel)) rfl (by decide +kernel) ⟨Nat.le_of_ble_eq_true rfl, Nat.le_of_ble_eq_true rfl⟩) ⟨gw_fb, fun U hU hW => ⟨rfl, by rw [hU], pw_to hU hW hPc (hK.sub (tys' := []) [] rfl) hN, hDc.weaken (fun _ _ _ _ => trivial)⟩⟩ rfl rfl hl.1 rfl (lv_room (Nat.le_of_ble_eq_true rfl)) dX11_put_119 ⟨Nat.le_of_ble_eq_true rfl, Nat.le_of_ble_eq_true rfl⟩) hS (fun q _ h => hFc q h) hFc (fun u t H1 locs ht hvm hw hB hz1 hk1 hS => ?_)
                      obtain ⟨hP1, hD1⟩ := hB
                      rw [ht] at hP1
                      obtain ⟨hP, hD⟩ := va_joinQ (X := [(q_469, .inr (0, [.null, .int 0, .null, .int 0]))]) (cx := [(q_469, .inr (0, [.null, .int 0, .null, .int 0]))]) (wr := []) (w1 := [(q_469, .inr (0, [.ref q_11, .int 0, va_rf none, .int 1]))]) (pl := va_pl z_205.1 f_468) (vaP_swap hPn) (vaD_rotR hDn) [0] [] rfl rfl rfl (fun i hi => absurd hi List.not_mem_nil) hk1 hFc hP1 hD1
                      generalize H1 = H at hP hS ⊢
                      obtain ⟨hnm_470, hP, hD⟩ := pushC hP hD
                      obtain ⟨z_471, ez_471⟩ : ∃ y : gS, y = pz z_205 q_469 (23, 0, [.ref q_11, .int 0, va_rf none, .int 1]) := ⟨_, rfl⟩
                      obtain ⟨f_472, ef_472⟩ : ∃ y : xF, y = va_up f_468 q_469 (.inr (0, [.ref q_11, .int 0, va_rf none, .int 1])) := ⟨_, rfl⟩
                      have hE_473 : zE z_205 z_471 := by rw [ez_471]; exact pz_E hnm_470 _
                      have hI : xI q h0 d k z_471 f_472 := by rw [ez_471, ef_472]; exact x_push hI hnm_470 (Or.inr (by decide : (15 : Nat) < 23)) (cO_ac hlg_346 hnm_470)
                      rw [show z_205.1 ++ [q_469] = z_471.1 from by rw [ez_471]; rfl, ← ef_472] at hP hD
                      have ht_4 := zE_itm hE_473 ht_4
                      have hlg_346 := zE_lg hE_473 hlg_346
                      have hs_217 := zE_tg hE_473 hs_217
                      have hs_219 := zE_tg hE_473 hs_219
                      have ht_335 := zE_tg hE_473 ht_335
                      have ht_342 := zE_tg hE_473 ht_342
                      have ht_343 := zE_tg hE_473 ht_343
                      have ht_355 := zE_tg hE_473 ht_355
                      have ht_362 := zE_tg hE_473 ht_362
                      have ht_363 := zE_tg hE_473 ht_363
                      have hp_209 := zE_pc hE_473 hp_209
                      have ht_474 : tg z_471 q_469 23 := by rw [ez_471]; exact pz_t _ _ _
                      have hEz : zE z z_471 := zE_tr hEz hE_473
                      refine W.eq (g2 := F0 m 122 ls [.ref q_469, .ref h0]) rfl ?_
                      obtain ⟨kk_475, hk_476⟩ := pl_at hI.2.1.1.1 hI.2.2.2.1.1
                      have hFc := fr_all hD hS hA
                      refine va_callv (va_runV (As := [.ref q_469]) (rest := []) ⟨hx, hb, hml, hown, hts⟩ (x_keep l dC dI q h0 d k z_471 f_472 hI q_469 ht_474 H.size) (cwV 1 hts gX11_put_X11_keep rfl rfl rfl (by decide +kernel) ⟨Nat.le_of_ble_eq_true rfl, Nat.le_of_ble_eq_true rfl⟩) ⟨gx_fb, va_recv hK hP (ci := 10) (q0 := kk_475) rfl hk_476, fun U hU hW => ⟨rfl, by rw [hU], px_to hU hW hP hK hN hXN, hD.weaken (fun _ _ _ _ => trivial)⟩⟩ rfl rfl hl.1 rfl (lv_room (Nat.le_of_ble_eq_true rfl)) dX11_put_122 ⟨Nat.le_of_ble_eq_true rfl, Nat.le_of_ble_eq_true rfl⟩) hS (fun q _ h => hFc q h) hFc (fun w_477 t H1 locs ht hvm hw hB hz1 hk1 hS => ?_)
                      obtain ⟨hP, hD1⟩ := hB
                      rw [ht] at hP
                      rw [hw.2.1] at hP hD1
                      have hD := hD1.weaken (fun _ q _ h => hFc q.1 h)
                      have hI := hw.2.2
                      have hw0 := hw
                      generalize w_477.1 = k_479 at hI hw0
                      generalize w_477.2.2 = f_478 at hP hD hI hw0
                      generalize H1 = H at hP hS ⊢
                      have hkk := hw0.1
                      refine lv_aload hx hb dX11_put_125 (lv_at hl 1 rfl) ?_
                      obtain ⟨nu_480, kd_481, cn_482, pa_483, fa_484, rs_485, hs_486, hs_487, hs_488, hs_489, hs_490⟩ := x_im hI ht_4
                      obtain ⟨kk_491, hk_492⟩ := pl_at ht_4.1 hs_486
                      refine w_then (F0 m 130 ls [.int cn_482]) (fun hgo => ?_) ?_
                      ·
                        rcases x_tag ht_4 with ht9 | ht9 | ht9 | ht9 | ht9 | ht9
                        ·
                          rw [ht9.2] at hk_492
                          exact va_get (D := (dC, dI)) (ci := 2) (v := .int cn_482) (C := RX2) (T := TX2) (N := 7) hx hb hts (by decide +kernel) hown hK hP kk_491 hk_492 rfl 3 (by decide) (hts (.fieldLink RX11 170 "PageOne$Item" "count" "I") (by decide +kernel)) (fun _ h9 => h9) rfl dX11_put_127 hgo
                        ·
                          rw [ht9.2] at hk_492
                          exact va_get (D := (dC, dI)) (ci := 3) (v := .int cn_482) (C := RX3) (T := TX3) (N := 8) hx hb hts (by decide +kernel) hown hK hP kk_491 hk_492 rfl 3 (by decide) (hts (.fieldLink RX11 170 "PageOne$Item" "count" "I") (by decide +kernel)) (fun _ h9 => h9) rfl dX11_put_127 hgo
                        ·
                          rw [ht9.2] at hk_492
                          exact va_get (D := (dC, dI)) (ci := 4) (v := .int cn_482) (C := RX5) (T := TX5) (N := 7) hx hb hts (by decide +kernel) hown hK hP kk_491 hk_492 rfl 3 (by decide) (hts (.fieldLink RX11 170 "PageOne$Item" "count" "I") (by decide +kernel)) (fun _ h9 => h9) rfl dX11_put_127 hgo
                        ·
                          rw [ht9.2] at hk_492
                          exact va_get (D := (dC, dI)) (ci := 5) (v := .int cn_482) (C := RX6) (T := TX6) (N := 9) hx hb hts (by decide +kernel) hown hK hP kk_491 hk_492 rfl 3 (by decide) (hts (.fieldLink RX11 170 "PageOne$Item" "count" "I") (by decide +kernel)) (fun _ h9 => h9) rfl dX11_put_127 hgo
                        ·
                          rw [ht9.2] at hk_492
                          exact va_get (D := (dC, dI)) (ci := 6) (v := .int cn_482) (C := RX7) (T := TX7) (N := 8) hx hb hts (by decide +kernel) hown hK hP kk_491 hk_492 rfl 3 (by decide) (hts (.fieldLink RX11 170 "PageOne$Item" "count" "I") (by decide +kernel)) (fun _ h9 => h9) rfl dX11_put_127 hgo
                        ·
                          rw [ht9.2] at hk_492
                          exact va_get (D := (dC, dI)) (ci := 9) (v := .int cn_482) (C := RX10) (T := TX10) (N := 9) hx hb hts (by decide +kernel) hown hK hP kk_491 hk_492 rfl 3 (by decide) (hts (.fieldLink RX11 170 "PageOne$Item" "count" "I") (by decide +kernel)) (fun _ h9 => h9) rfl dX11_put_127 hgo
                      ·
                        exact W.iret (v := cn_482) hx hb hr (fun t ht hW => ⟨⟨cn_482, (k_479, z_471, f_478), rfl, ⟨hkk, hEz, hI⟩, by rw [ht]; exact hP, hD⟩, hS.F ht⟩) hS.2.2 dX11_put_130
                  ·
                    rcases x_tag ht_4 with ht9 | ht9 | ht9 | ht9 | ht9 | ht9
                    ·
                      obtain ⟨nu_368, kd_369, cn_370, pa_371, fa_372, l_373, m_374, hs_375, hs_376, hs_377, hs_378⟩ := x_ifl hI ht9
                      obtain ⟨kk_379, hk_380⟩ := pl_at ht9.1 hs_375
                      exact vp_callSi (va_runU (As := [.ref q_11, .int m_358, .int (k 2)]) (rest := []) ⟨hx, hb, hml, hown, hts⟩ (x_X4_maySit l dC dI q h0 d k z_205 f_206 hI b_3 q_11 m_358 (k 2) ht_4 hp_209.1) (va_cwU 3 hts gX11_put_X4_maySit_u155X2 rfl rfl rfl rfl (by decide +kernel) ⟨Nat.le_of_ble_eq_true rfl, Nat.le_of_ble_eq_true rfl⟩) ⟨px_fb, va_recv hK hP (ci := 2) (q0 := kk_379) rfl hk_380, fun U hU hW => ⟨rfl, px_to hU hW hP hK hN hXN⟩⟩ rfl rfl hl.1 rfl (lv_room (Nat.le_of_ble_eq_true rfl)) dX11_put_96 ⟨Nat.le_of_ble_eq_true rfl, Nat.le_of_ble_eq_true rfl⟩).run (fun r hw => kC r hw)
                    ·
                      obtain ⟨nu_381, kd_382, cn_383, pa_384, fa_385, o_386, w_387, y_388, hs_389, hs_390, hs_391, hs_392, hq_393⟩ := x_ihd hI ht9
                      obtain ⟨kk_394, hk_395⟩ := pl_at ht9.1 hs_389
                      exact vp_callSi (va_runU (As := [.ref q_11, .int m_358, .int (k 2)]) (rest := []) ⟨hx, hb, hml, hown, hts⟩ (x_X4_maySit l dC dI q h0 d k z_205 f_206 hI b_3 q_11 m_358 (k 2) ht_4 hp_209.1) (va_cwU 3 hts gX11_put_X4_maySit_u155X3 rfl rfl rfl rfl (by decide +kernel) ⟨Nat.le_of_ble_eq_true rfl, Nat.le_of_ble_eq_true rfl⟩) ⟨px_fb, va_recv hK hP (ci := 3) (q0 := kk_394) rfl hk_395, fun U hU hW => ⟨rfl, px_to hU hW hP hK hN hXN⟩⟩ rfl rfl hl.1 rfl (lv_room (Nat.le_of_ble_eq_true rfl)) dX11_put_96 ⟨Nat.le_of_ble_eq_true rfl, Nat.le_of_ble_eq_true rfl⟩).run (fun r hw => kC r hw)
                    ·
                      obtain ⟨nu_396, kd_397, cn_398, pa_399, fa_400, o_401, y_402, hs_403, hs_404, hs_405, hs_406, hq_407⟩ := x_ino hI ht9
                      obtain ⟨kk_408, hk_409⟩ := pl_at ht9.1 hs_403
                      exact vp_callSi (va_runU (As := [.ref q_11, .int m_358, .int (k 2)]) (rest := []) ⟨hx, hb, hml, hown, hts⟩ (x_X5_maySit l dC dI q h0 d k z_205 f_206 hI b_3 q_11 m_358 (k 2) ht9 hp_209.1) (va_cwO (b0 := cX4_maySit) (m0 := 4) (r0 := (some .boolean)) 3 hts gX11_put_X5_maySit_u155X5 rfl rfl rfl (by decide +kernel) (by decide +kernel) ⟨Nat.le_of_ble_eq_true rfl, Nat.le_of_ble_eq_true rfl⟩) ⟨px_fb, va_recv hK hP (ci := 4) (q0 := kk_408) rfl hk_409, fun U hU hW => ⟨rfl, px_to hU hW hP hK hN hXN⟩⟩ rfl rfl hl.1 rfl (lv_room (Nat.le_of_ble_eq_true rfl)) dX11_put_96 ⟨Nat.le_of_ble_eq_true rfl, Nat.le_of_ble_eq_true rfl⟩).run (fun r hw => kC r hw)
                    ·
                      obtain ⟨nu_410, kd_411, cn_412, pa_413, fa_414, b_415, pr_416, sp_417, dy_418, hs_419, hs_420, hs_421, hs_422, hq_423, hq_424, hq_425⟩ := x_ipd hI ht9
                      obtain ⟨kk_426, hk_427⟩ := pl_at ht9.1 hs_419
                      exact vp_callSi (va_runU (As := [.ref q_11, .int m_358, .int (k 2)]) (rest := []) ⟨hx, hb, hml, hown, hts⟩ (x_X6_maySit l dC dI q h0 d k z_205 f_206 hI b_3 q_11 m_358 (k 2) ht9 hp_209.1) (va_cwO (b0 := cX4_maySit) (m0 := 4) (r0 := (some .boolean)) 3 hts gX11_put_X6_maySit_u155X6 rfl rfl rfl (by decide +kernel) (by decide +kernel) ⟨Nat.le_of_ble_eq_true rfl, Nat.le_of_ble_eq_true rfl⟩) ⟨px_fb, va_recv hK hP (ci := 5) (q0 := kk_426) rfl hk_427, fun U hU hW => ⟨rfl, px_to hU hW hP hK hN hXN⟩⟩ rfl rfl hl.1 rfl (lv_room (Nat.le_of_ble_eq_true rfl)) dX11_put_96 ⟨Nat.le_of_ble_eq_true rfl, Nat.le_of_ble_eq_true rfl⟩).run (fun r hw => kC r hw)
                    ·
                      obtain ⟨nu_428, kd_429, cn_430, pa_431, fa_432, ww_433, hh_434, sz_435, hs_436, hs_437, hs_438, hs_439, hq_440, hq_441, hq_442⟩ := x_ipi hI ht9
                      obtain ⟨kk_443, hk_444⟩ := pl_at ht9.1 hs_436
                      exact vp_callSi (va_runU (As := [.ref q_11, .int m_358, .int (k 2)]) (rest := []) ⟨hx, hb, hml, hown, hts⟩ (x_X4_maySit l dC dI q h0 d k z_205 f_206 hI b_3 q_11 m_358 (k 2) ht_4 hp_209.1) (va_cwU 3 hts gX11_put_X4_maySit_u155X7 rfl rfl rfl rfl (by decide +kernel) ⟨Nat.le_of_ble_eq_true rfl, Nat.le_of_ble_eq_true rfl⟩) ⟨px_fb, va_recv hK hP (ci := 6) (q0 := kk_443) rfl hk_444, fun U hU hW => ⟨rfl, px_to hU hW hP hK hN hXN⟩⟩ rfl rfl hl.1 rfl (lv_room (Nat.le_of_ble_eq_true rfl)) dX11_put_96 ⟨Nat.le_of_ble_eq_true rfl, Nat.le_of_ble_eq_true rfl⟩).run (fun r hw => kC r hw)
                    ·
                      obtain ⟨nu_445, kd_446, cn_447, pa_448, fa_449, l_450, co_451, wd_452, nm_453, hs_454, hs_455, hs_456, hs_457, hq_458, hq_459, hq_460⟩ := x_ist hI ht9
                      obtain ⟨kk_461, hk_462⟩ := pl_at ht9.1 hs_454
                      exact vp_callSi (va_runU (As := [.ref q_11, .int m_358, .int (k 2)]) (rest := []) ⟨hx, hb, hml, hown, hts⟩ (x_X10_maySit l dC dI q h0 d k z_205 f_206 hI b_3 q_11 m_358 (k 2) ht9 hp_209.1) (va_cwO (b0 := cX4_maySit) (m0 := 4) (r0 := (some .boolean)) 3 hts gX11_put_X10_maySit_u155X10 rfl rfl rfl (by decide +kernel) (by decide +kernel) ⟨Nat.le_of_ble_eq_true rfl, Nat.le_of_ble_eq_true rfl⟩) ⟨px_fb, va_recv hK hP (ci := 9) (q0 := kk_461) rfl hk_462, fun U hU hW => ⟨rfl, px_to hU hW hP hK hN hXN⟩⟩ rfl rfl hl.1 rfl (lv_room (Nat.le_of_ble_eq_true rfl)) dX11_put_96 ⟨Nat.le_of_ble_eq_true rfl, Nat.le_of_ble_eq_true rfl⟩).run (fun r hw => kC r hw)
            ·
              rcases x_tag ht_4 with ht9 | ht9 | ht9 | ht9 | ht9 | ht9
              ·
                obtain ⟨nu_229, kd_230, cn_231, pa_232, fa_233, l_234, m_235, hs_236, hs_237, hs_238, hs_239⟩ := x_ifl hI ht9
                obtain ⟨kk_240, hk_241⟩ := pl_at ht9.1 hs_236
                exact vp_callSi (va_runU (As := []) (rest := []) ⟨hx, hb, hml, hown, hts⟩ (x_hasRoom l dC dI q h0 d k z_205 f_206 hI b_3 ht_4 nu_210 kd_211 cn_212 pa_213 fa_214 rs_215 hs_216 n_221 g_222 hs_223 hs_217 ) (va_cwU 0 hts gX11_put_X4_hasRoom_u148X2 rfl rfl rfl rfl (by decide +kernel) ⟨Nat.le_of_ble_eq_true rfl, Nat.le_of_ble_eq_true rfl⟩) ⟨px_fb, va_recv hK hP (ci := 2) (q0 := kk_240) rfl hk_241, fun U hU hW => ⟨rfl, px_to hU hW hP hK hN hXN⟩⟩ rfl rfl hl.1 rfl (lv_room (Nat.le_of_ble_eq_true rfl)) dX11_put_59 ⟨Nat.le_of_ble_eq_true rfl, Nat.le_of_ble_eq_true rfl⟩).run (fun r hw => kC r hw)
              ·
                obtain ⟨nu_242, kd_243, cn_244, pa_245, fa_246, o_247, w_248, y_249, hs_250, hs_251, hs_252, hs_253, hq_254⟩ := x_ihd hI ht9
                obtain ⟨kk_255, hk_256⟩ := pl_at ht9.1 hs_250
                exact vp_callSi (va_runU (As := []) (rest := []) ⟨hx, hb, hml, hown, hts⟩ (x_hasRoom l dC dI q h0 d k z_205 f_206 hI b_3 ht_4 nu_210 kd_211 cn_212 pa_213 fa_214 rs_215 hs_216 n_221 g_222 hs_223 hs_217 ) (va_cwU 0 hts gX11_put_X4_hasRoom_u148X3 rfl rfl rfl rfl (by decide +kernel) ⟨Nat.le_of_ble_eq_true rfl, Nat.le_of_ble_eq_true rfl⟩) ⟨px_fb, va_recv hK hP (ci := 3) (q0 := kk_255) rfl hk_256, fun U hU hW => ⟨rfl, px_to hU hW hP hK hN hXN⟩⟩ rfl rfl hl.1 rfl (lv_room (Nat.le_of_ble_eq_true rfl)) dX11_put_59 ⟨Nat.le_of_ble_eq_true rfl, Nat.le_of_ble_eq_true rfl⟩).run (fun r hw => kC r hw)
              ·
                obtain ⟨nu_257, kd_258, cn_259, pa_260, fa_261, o_262, y_263, hs_264, hs_265, hs_266, hs_267, hq_268⟩ := x_ino hI ht9
                obtain ⟨kk_269, hk_270⟩ := pl_at ht9.1 hs_264
                exact vp_callSi (va_runU (As := []) (rest := []) ⟨hx, hb, hml, hown, hts⟩ (x_hasRoom l dC dI q h0 d k z_205 f_206 hI b_3 ht_4 nu_210 kd_211 cn_212 pa_213 fa_214 rs_215 hs_216 n_221 g_222 hs_223 hs_217 ) (va_cwU 0 hts gX11_put_X4_hasRoom_u148X5 rfl rfl rfl rfl (by decide +kernel) ⟨Nat.le_of_ble_eq_true rfl, Nat.le_of_ble_eq_true rfl⟩) ⟨px_fb, va_recv hK hP (ci := 4) (q0 := kk_269) rfl hk_270, fun U hU hW => ⟨rfl, px_to hU hW hP hK hN hXN⟩⟩ rfl rfl hl.1 rfl (lv_room (Nat.le_of_ble_eq_true rfl)) dX11_put_59 ⟨Nat.le_of_ble_eq_true rfl, Nat.le_of_ble_eq_true rfl⟩).run (fun r hw => kC r hw)
              ·
                obtain ⟨nu_271, kd_272, cn_273, pa_274, fa_275, b_276, pr_277, sp_278, dy_279, hs_280, hs_281, hs_282, hs_283, hq_284, hq_285, hq_286⟩ := x_ipd hI ht9
                obtain ⟨kk_287, hk_288⟩ := pl_at ht9.1 hs_280
                exact vp_callSi (va_runU (As := []) (rest := []) ⟨hx, hb, hml, hown, hts⟩ (x_hasRoom l dC dI q h0 d k z_205 f_206 hI b_3 ht_4 nu_210 kd_211 cn_212 pa_213 fa_214 rs_215 hs_216 n_221 g_222 hs_223 hs_217 ) (va_cwU 0 hts gX11_put_X4_hasRoom_u148X6 rfl rfl rfl rfl (by decide +kernel) ⟨Nat.le_of_ble_eq_true rfl, Nat.le_of_ble_eq_true rfl⟩) ⟨px_fb, va_recv hK hP (ci := 5) (q0 := kk_287) rfl hk_288, fun U hU hW => ⟨rfl, px_to hU hW hP hK hN hXN⟩⟩ rfl rfl hl.1 rfl (lv_room (Nat.le_of_ble_eq_true rfl)) dX11_put_59 ⟨Nat.le_of_ble_eq_true rfl, Nat.le_of_ble_eq_true rfl⟩).run (fun r hw => kC r hw)
              ·
                obtain ⟨nu_289, kd_290, cn_291, pa_292, fa_293, ww_294, hh_295, sz_296, hs_297, hs_298, hs_299, hs_300, hq_301, hq_302, hq_303⟩ := x_ipi hI ht9
                obtain ⟨kk_304, hk_305⟩ := pl_at ht9.1 hs_297
                exact vp_callSi (va_runU (As := []) (rest := []) ⟨hx, hb, hml, hown, hts⟩ (x_hasRoom l dC dI q h0 d k z_205 f_206 hI b_3 ht_4 nu_210 kd_211 cn_212 pa_213 fa_214 rs_215 hs_216 n_221 g_222 hs_223 hs_217 ) (va_cwU 0 hts gX11_put_X4_hasRoom_u148X7 rfl rfl rfl rfl (by decide +kernel) ⟨Nat.le_of_ble_eq_true rfl, Nat.le_of_ble_eq_true rfl⟩) ⟨px_fb, va_recv hK hP (ci := 6) (q0 := kk_304) rfl hk_305, fun U hU hW => ⟨rfl, px_to hU hW hP hK hN hXN⟩⟩ rfl rfl hl.1 rfl (lv_room (Nat.le_of_ble_eq_true rfl)) dX11_put_59 ⟨Nat.le_of_ble_eq_true rfl, Nat.le_of_ble_eq_true rfl⟩).run (fun r hw => kC r hw)
              ·
                obtain ⟨nu_306, kd_307, cn_308, pa_309, fa_310, l_311, co_312, wd_313, nm_314, hs_315, hs_316, hs_317, hs_318, hq_319, hq_320, hq_321⟩ := x_ist hI ht9
                obtain ⟨kk_322, hk_323⟩ := pl_at ht9.1 hs_315
                exact vp_callSi (va_runU (As := []) (rest := []) ⟨hx, hb, hml, hown, hts⟩ (x_hasRoom l dC dI q h0 d k z_205 f_206 hI b_3 ht_4 nu_210 kd_211 cn_212 pa_213 fa_214 rs_215 hs_216 n_221 g_222 hs_223 hs_217 ) (va_cwU 0 hts gX11_put_X4_hasRoom_u148X10 rfl rfl rfl rfl (by decide +kernel) ⟨Nat.le_of_ble_eq_true rfl, Nat.le_of_ble_eq_true rfl⟩) ⟨px_fb, va_recv hK hP (ci := 9) (q0 := kk_322) rfl hk_323, fun U hU hW => ⟨rfl, px_to hU hW hP hK hN hXN⟩⟩ rfl rfl hl.1 rfl (lv_room (Nat.le_of_ble_eq_true rfl)) dX11_put_59 ⟨Nat.le_of_ble_eq_true rfl, Nat.le_of_ble_eq_true rfl⟩).run (fun r hw => kC r hw)
          ·
            rcases x_tag ht_4 with ht9 | ht9 | ht9 | ht9 | ht9 | ht9
            ·
              obtain ⟨nu_108, kd_109, cn_110, pa_111, fa_112, l_113, m_114, hs_115, hs_116, hs_117, hs_118⟩ := x_ifl hI ht9
              obtain ⟨kk_119, hk_120⟩ := pl_at ht9.1 hs_115
              exact vp_callSi (va_runU (As := [.int p4]) (rest := [.int zr_107, .int p3, .int p2, .int p1, .ref b_3, .ref q_11, .ref q_11]) ⟨hx, hb, hml, hown, hts⟩ (x_X2_linesBy l dC dI q h0 d k z f hI b_3 p4 ht9) (va_cwA 1 hts gX11_put_X2_linesBy_u145X2 rfl rfl rfl hXN.1 (by decide +kernel) ⟨Nat.le_of_ble_eq_true rfl, Nat.le_of_ble_eq_true rfl⟩) ⟨px_fb, va_recv hK hP (ci := 2) (q0 := kk_119) rfl hk_120, fun U hU hW => ⟨rfl, px_to hU hW hP hK hN hXN⟩⟩ rfl rfl hl.1 rfl (lv_room (Nat.le_of_ble_eq_true rfl)) dX11_put_49 ⟨Nat.le_of_ble_eq_true rfl, Nat.le_of_ble_eq_true rfl⟩).run (fun r hw => kC r hw)
            ·
              obtain ⟨nu_121, kd_122, cn_123, pa_124, fa_125, o_126, w_127, y_128, hs_129, hs_130, hs_131, hs_132, hq_133⟩ := x_ihd hI ht9
              obtain ⟨kk_134, hk_135⟩ := pl_at ht9.1 hs_129
              exact vp_callSi (va_runU (As := [.int p4]) (rest := [.int zr_107, .int p3, .int p2, .int p1, .ref b_3, .ref q_11, .ref q_11]) ⟨hx, hb, hml, hown, hts⟩ (x_X3_linesBy l dC dI q h0 d k z f hI b_3 p4 ht9) (va_cwA 1 hts gX11_put_X3_linesBy_u145X3 rfl rfl rfl hXN.1 (by decide +kernel) ⟨Nat.le_of_ble_eq_true rfl, Nat.le_of_ble_eq_true rfl⟩) ⟨px_fb, va_recv hK hP (ci := 3) (q0 := kk_134) rfl hk_135, fun U hU hW => ⟨rfl, px_to hU hW hP hK hN hXN⟩⟩ rfl rfl hl.1 rfl (lv_room (Nat.le_of_ble_eq_true rfl)) dX11_put_49 ⟨Nat.le_of_ble_eq_true rfl, Nat.le_of_ble_eq_true rfl⟩).run (fun r hw => kC r hw)
            ·
              obtain ⟨nu_136, kd_137, cn_138, pa_139, fa_140, o_141, y_142, hs_143, hs_144, hs_145, hs_146, hq_147⟩ := x_ino hI ht9
              obtain ⟨kk_148, hk_149⟩ := pl_at ht9.1 hs_143
              exact vp_callSi (va_runU (As := [.int p4]) (rest := [.int zr_107, .int p3, .int p2, .int p1, .ref b_3, .ref q_11, .ref q_11]) ⟨hx, hb, hml, hown, hts⟩ (x_X5_linesBy l dC dI q h0 d k z f hI b_3 p4 ht9) (va_cwA 1 hts gX11_put_X5_linesBy_u145X5 rfl rfl rfl hXN.1 (by decide +kernel) ⟨Nat.le_of_ble_eq_true rfl, Nat.le_of_ble_eq_true rfl⟩) ⟨px_fb, va_recv hK hP (ci := 4) (q0 := kk_148) rfl hk_149, fun U hU hW => ⟨rfl, px_to hU hW hP hK hN hXN⟩⟩ rfl rfl hl.1 rfl (lv_room (Nat.le_of_ble_eq_true rfl)) dX11_put_49 ⟨Nat.le_of_ble_eq_true rfl, Nat.le_of_ble_eq_true rfl⟩).run (fun r hw => kC r hw)
            ·
              obtain ⟨nu_150, kd_151, cn_152, pa_153, fa_154, b_155, pr_156, sp_157, dy_158, hs_159, hs_160, hs_161, hs_162, hq_163, hq_164, hq_165⟩ := x_ipd hI ht9
              obtain ⟨kk_166, hk_167⟩ := pl_at ht9.1 hs_159
              exact vp_callSi (va_runU (As := [.int p4]) (rest := [.int zr_107, .int p3, .int p2, .int p1, .ref b_3, .ref q_11, .ref q_11]) ⟨hx, hb, hml, hown, hts⟩ (x_X6_linesBy l dC dI q h0 d k z f hI b_3 p4 ht9) (va_cwA 1 hts gX11_put_X6_linesBy_u145X6 rfl rfl rfl hXN.1 (by decide +kernel) ⟨Nat.le_of_ble_eq_true rfl, Nat.le_of_ble_eq_true rfl⟩) ⟨px_fb, va_recv hK hP (ci := 5) (q0 := kk_166) rfl hk_167, fun U hU hW => ⟨rfl, px_to hU hW hP hK hN hXN⟩⟩ rfl rfl hl.1 rfl (lv_room (Nat.le_of_ble_eq_true rfl)) dX11_put_49 ⟨Nat.le_of_ble_eq_true rfl, Nat.le_of_ble_eq_true rfl⟩).run (fun r hw => kC r hw)
            ·
              obtain ⟨nu_168, kd_169, cn_170, pa_171, fa_172, ww_173, hh_174, sz_175, hs_176, hs_177, hs_178, hs_179, hq_180, hq_181, hq_182⟩ := x_ipi hI ht9
              obtain ⟨kk_183, hk_184⟩ := pl_at ht9.1 hs_176
              exact vp_callSi (va_runU (As := [.int p4]) (rest := [.int zr_107, .int p3, .int p2, .int p1, .ref b_3, .ref q_11, .ref q_11]) ⟨hx, hb, hml, hown, hts⟩ (x_X7_linesBy l dC dI q h0 d k z f hI b_3 p4 ht9) (va_cwA 1 hts gX11_put_X7_linesBy_u145X7 rfl rfl rfl hXN.1 (by decide +kernel) ⟨Nat.le_of_ble_eq_true rfl, Nat.le_of_ble_eq_true rfl⟩) ⟨px_fb, va_recv hK hP (ci := 6) (q0 := kk_183) rfl hk_184, fun U hU hW => ⟨rfl, px_to hU hW hP hK hN hXN⟩⟩ rfl rfl hl.1 rfl (lv_room (Nat.le_of_ble_eq_true rfl)) dX11_put_49 ⟨Nat.le_of_ble_eq_true rfl, Nat.le_of_ble_eq_true rfl⟩).run (fun r hw => kC r hw)
            ·
              obtain ⟨nu_185, kd_186, cn_187, pa_188, fa_189, l_190, co_191, wd_192, nm_193, hs_194, hs_195, hs_196, hs_197, hq_198, hq_199, hq_200⟩ := x_ist hI ht9
              obtain ⟨kk_201, hk_202⟩ := pl_at ht9.1 hs_194
              exact vp_callSi (va_runU (As := [.int p4]) (rest := [.int zr_107, .int p3, .int p2, .int p1, .ref b_3, .ref q_11, .ref q_11]) ⟨hx, hb, hml, hown, hts⟩ (x_X10_linesBy l dC dI q h0 d k z f hI b_3 p4 ht9) (va_cwA 1 hts gX11_put_X10_linesBy_u145X10 rfl rfl rfl hXN.1 (by decide +kernel) ⟨Nat.le_of_ble_eq_true rfl, Nat.le_of_ble_eq_true rfl⟩) ⟨px_fb, va_recv hK hP (ci := 9) (q0 := kk_201) rfl hk_202, fun U hU hW => ⟨rfl, px_to hU hW hP hK hN hXN⟩⟩ rfl rfl hl.1 rfl (lv_room (Nat.le_of_ble_eq_true rfl)) dX11_put_49 ⟨Nat.le_of_ble_eq_true rfl, Nat.le_of_ble_eq_true rfl⟩).run (fun r hw => kC r hw)
        ·
          rcases x_tag ht_4 with ht9 | ht9 | ht9 | ht9 | ht9 | ht9
          ·
            obtain ⟨nu_12, kd_13, cn_14, pa_15, fa_16, l_17, m_18, hs_19, hs_20, hs_21, hs_22⟩ := x_ifl hI ht9
            obtain ⟨kk_23, hk_24⟩ := pl_at ht9.1 hs_19
            exact vp_callSi (va_runU (As := [.int p4]) (rest := [.int p3, .int p2, .int p1, .ref b_3, .ref q_11, .ref q_11]) ⟨hx, hb, hml, hown, hts⟩ (x_columnsBy l dC dI q h0 d k z f hI b_3 p4 ht_4) (va_cwU 1 hts gX11_put_X4_columnsBy_u142X2 rfl rfl rfl rfl (by decide +kernel) ⟨Nat.le_of_ble_eq_true rfl, Nat.le_of_ble_eq_true rfl⟩) ⟨px_fb, va_recv hK hP (ci := 2) (q0 := kk_23) rfl hk_24, fun U hU hW => ⟨rfl, px_to hU hW hP hK hN hXN⟩⟩ rfl rfl hl.1 rfl (lv_room (Nat.le_of_ble_eq_true rfl)) dX11_put_42 ⟨Nat.le_of_ble_eq_true rfl, Nat.le_of_ble_eq_true rfl⟩).run (fun r hw => kC r hw)
          ·
            obtain ⟨nu_25, kd_26, cn_27, pa_28, fa_29, o_30, w_31, y_32, hs_33, hs_34, hs_35, hs_36, hq_37⟩ := x_ihd hI ht9
            obtain ⟨kk_38, hk_39⟩ := pl_at ht9.1 hs_33
            exact vp_callSi (va_runU (As := [.int p4]) (rest := [.int p3, .int p2, .int p1, .ref b_3, .ref q_11, .ref q_11]) ⟨hx, hb, hml, hown, hts⟩ (x_X3_columnsBy l dC dI q h0 d k z f hI b_3 p4 ht9) (va_cwO (b0 := cX4_columnsBy) (m0 := 2) (r0 := (some .int)) 1 hts gX11_put_X3_columnsBy_u142X3 rfl rfl rfl (by decide +kernel) (by decide +kernel) ⟨Nat.le_of_ble_eq_true rfl, Nat.le_of_ble_eq_true rfl⟩) ⟨px_fb, va_recv hK hP (ci := 3) (q0 := kk_38) rfl hk_39, fun U hU hW => ⟨rfl, px_to hU hW hP hK hN hXN⟩⟩ rfl rfl hl.1 rfl (lv_room (Nat.le_of_ble_eq_true rfl)) dX11_put_42 ⟨Nat.le_of_ble_eq_true rfl, Nat.le_of_ble_eq_true rfl⟩).run (fun r hw => kC r hw)
          ·
            obtain ⟨nu_40, kd_41, cn_42, pa_43, fa_44, o_45, y_46, hs_47, hs_48, hs_49, hs_50, hq_51⟩ := x_ino hI ht9
            obtain ⟨kk_52, hk_53⟩ := pl_at ht9.1 hs_47
            exact vp_callSi (va_runU (As := [.int p4]) (rest := [.int p3, .int p2, .int p1, .ref b_3, .ref q_11, .ref q_11]) ⟨hx, hb, hml, hown, hts⟩ (x_columnsBy l dC dI q h0 d k z f hI b_3 p4 ht_4) (va_cwU 1 hts gX11_put_X4_columnsBy_u142X5 rfl rfl rfl rfl (by decide +kernel) ⟨Nat.le_of_ble_eq_true rfl, Nat.le_of_ble_eq_true rfl⟩) ⟨px_fb, va_recv hK hP (ci := 4) (q0 := kk_52) rfl hk_53, fun U hU hW => ⟨rfl, px_to hU hW hP hK hN hXN⟩⟩ rfl rfl hl.1 rfl (lv_room (Nat.le_of_ble_eq_true rfl)) dX11_put_42 ⟨Nat.le_of_ble_eq_true rfl, Nat.le_of_ble_eq_true rfl⟩).run (fun r hw => kC r hw)
          ·
            obtain ⟨nu_54, kd_55, cn_56, pa_57, fa_58, b_59, pr_60, sp_61, dy_62, hs_63, hs_64, hs_65, hs_66, hq_67, hq_68, hq_69⟩ := x_ipd hI ht9
            obtain ⟨kk_70, hk_71⟩ := pl_at ht9.1 hs_63
            exact vp_callSi (va_runU (As := [.int p4]) (rest := [.int p3, .int p2, .int p1, .ref b_3, .ref q_11, .ref q_11]) ⟨hx, hb, hml, hown, hts⟩ (x_X6_columnsBy l dC dI q h0 d k z f hI b_3 p4 ht9) (va_cwO (b0 := cX4_columnsBy) (m0 := 2) (r0 := (some .int)) 1 hts gX11_put_X6_columnsBy_u142X6 rfl rfl rfl (by decide +kernel) (by decide +kernel) ⟨Nat.le_of_ble_eq_true rfl, Nat.le_of_ble_eq_true rfl⟩) ⟨px_fb, va_recv hK hP (ci := 5) (q0 := kk_70) rfl hk_71, fun U hU hW => ⟨rfl, px_to hU hW hP hK hN hXN⟩⟩ rfl rfl hl.1 rfl (lv_room (Nat.le_of_ble_eq_true rfl)) dX11_put_42 ⟨Nat.le_of_ble_eq_true rfl, Nat.le_of_ble_eq_true rfl⟩).run (fun r hw => kC r hw)
          ·
            obtain ⟨nu_72, kd_73, cn_74, pa_75, fa_76, ww_77, hh_78, sz_79, hs_80, hs_81, hs_82, hs_83, hq_84, hq_85, hq_86⟩ := x_ipi hI ht9
            obtain ⟨kk_87, hk_88⟩ := pl_at ht9.1 hs_80
            exact vp_callSi (va_runU (As := [.int p4]) (rest := [.int p3, .int p2, .int p1, .ref b_3, .ref q_11, .ref q_11]) ⟨hx, hb, hml, hown, hts⟩ (x_X7_columnsBy l dC dI q h0 d k z f hI b_3 p4 ht9) (va_cwO (b0 := cX4_columnsBy) (m0 := 2) (r0 := (some .int)) 1 hts gX11_put_X7_columnsBy_u142X7 rfl rfl rfl (by decide +kernel) (by decide +kernel) ⟨Nat.le_of_ble_eq_true rfl, Nat.le_of_ble_eq_true rfl⟩) ⟨px_fb, va_recv hK hP (ci := 6) (q0 := kk_87) rfl hk_88, fun U hU hW => ⟨rfl, px_to hU hW hP hK hN hXN⟩⟩ rfl rfl hl.1 rfl (lv_room (Nat.le_of_ble_eq_true rfl)) dX11_put_42 ⟨Nat.le_of_ble_eq_true rfl, Nat.le_of_ble_eq_true rfl⟩).run (fun r hw => kC r hw)
          ·
            obtain ⟨nu_89, kd_90, cn_91, pa_92, fa_93, l_94, co_95, wd_96, nm_97, hs_98, hs_99, hs_100, hs_101, hq_102, hq_103, hq_104⟩ := x_ist hI ht9
            obtain ⟨kk_105, hk_106⟩ := pl_at ht9.1 hs_98
            exact vp_callSi (va_runU (As := [.int p4]) (rest := [.int p3, .int p2, .int p1, .ref b_3, .ref q_11, .ref q_11]) ⟨hx, hb, hml, hown, hts⟩ (x_columnsBy l dC dI q h0 d k z f hI b_3 p4 ht_4) (va_cwU 1 hts gX11_put_X4_columnsBy_u142X10 rfl rfl rfl rfl (by decide +kernel) ⟨Nat.le_of_ble_eq_true rfl, Nat.le_of_ble_eq_true rfl⟩) ⟨px_fb, va_recv hK hP (ci := 9) (q0 := kk_105) rfl hk_106, fun U hU hW => ⟨rfl, px_to hU hW hP hK hN hXN⟩⟩ rfl rfl hl.1 rfl (lv_room (Nat.le_of_ble_eq_true rfl)) dX11_put_42 ⟨Nat.le_of_ble_eq_true rfl, Nat.le_of_ble_eq_true rfl⟩).run (fun r hw => kC r hw)
    ·
      obtain rfl : r = 0 := b_f hw b_5
      refine lv_if_eq (tgt := 26) hx hb dX11_put_16 (by decide) (fun c_493 => ?_) (fun c_493 => absurd (by decide) c_493)
      refine lv_iconst (v := (-1)) hx hb dX11_put_26 (by decide) ?_
      refine W.widen (k := 2) (n := 10) (Nat.le_of_ble_eq_true rfl) (Nat.le_of_ble_eq_true rfl) ?_
      exact W.iret (v := (-1)) hx hb hr (fun t ht hW => ⟨⟨(-1), (k, z, f), rfl, ⟨fun _ _ => rfl, zE_rf z, hI⟩, by rw [ht]; exact hP, hD⟩, hS.F ht⟩) hS.2.2 dX11_put_27
