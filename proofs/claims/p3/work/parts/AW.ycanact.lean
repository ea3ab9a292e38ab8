set_option maxHeartbeats 4000000 in
set_option maxRecDepth 100000 in
theorem y_canAct (l : Launch) (dC : Nat → ClassId) (dI : Nat → Nat → Nat) (q : Nat → ClassId) (h0 : Nat) (d : Nat → Nat) (k : Nat → Int32) (z : gS) (f : xF) (hI : xI q h0 d k z f) : Met l yX11_canAct wsX11_canAct ({ frames := 0, cells := 0, slots := 0, locals := 0 }) (va_Pc [.ref h0] (PX dC dI (va_pl z.1 f) (xT q))) (vp_Si (fun r => (r = 0 ∧ 300 ≤ k 1) ∨ (r = 1 ∧ ¬ 300 ≤ k 1))) 0 0 (fun _ => False) := by
  refine Met.ofW (cc := cX11_canAct) (maxL := 1) (ret := (some .boolean)) (by decide) rfl ?_
  intro p e s m args below meth c s₁ B hml hv
  obtain ⟨rfl, ⟨hP, hK, hN⟩, hXN⟩ := hv
  have hx := B.exec
  have hb := B.bytes
  have hr := B.returns
  have hts := atoms_spec (ws := wsX11_canAct) B.pre
  have hown : s.vm.findClass RX11 = some m.cls := findClass_of_methodNamed B.named
  have hlocks := B.notSynchronized
  have hl := lv_entry ([.ref h0]) (n := 1) (Nat.le_of_ble_eq_true rfl)
  rw [lg_entry_eq]
  generalize (lg_sl ([.ref h0]) ++ List.replicate (1 - (lg_sl ([.ref h0])).length) Slot.unset).toArray = ls at hl ⊢
  have hl : lv_has ls 1 [(0, .ref h0)] := hl
  refine lv_aload_n hx hb dX11_canAct_0 rfl (lv_at hl 0 rfl) ?_
  obtain ⟨kk_1, hk_2⟩ := pl_at hI.2.1.1.1 hI.2.2.2.1.1
  refine va_get (D := (dC, dI)) (ci := 10) (v := .int (k 1)) (C := RX11) (T := TX11) (N := 9) hx hb hts (by decide +kernel) hown hK hP kk_1 hk_2 rfl 5 (by decide) (hts (.fieldLink RX11 34 "PageOne" "actCount" "I") (by decide +kernel)) (fun _ h9 => h9) rfl dX11_canAct_1 ?_
  refine lv_sipush (v := 300) hx hb dX11_canAct_4 (by decide) ?_
  refine lv_icmp_ge (tgt := 14) hx hb dX11_canAct_7 (by decide) (fun c_3 => ?_) (fun c_3 => ?_)
  ·
    refine lv_iconst (v := 0) hx hb dX11_canAct_14 (by decide) ?_
    exact W.zret (v := 0) hx hb hr (by decide) (fun t ht hW => ⟨_, rfl, (Or.inl ⟨rfl, c_3⟩), ht⟩) (fun q h => absurd h List.not_mem_nil) dX11_canAct_15
  ·
    refine lv_iconst (v := 1) hx hb dX11_canAct_10 (by decide) ?_
    refine lv_goto (tgt := 15) hx hb dX11_canAct_11 (by decide) ?_
    exact W.zret (v := 1) hx hb hr (by decide) (fun t ht hW => ⟨_, rfl, (Or.inr ⟨rfl, c_3⟩), ht⟩) (fun q h => absurd h List.not_mem_nil) dX11_canAct_15
