set_option maxHeartbeats 4000000 in
set_option maxRecDepth 100000 in
/-- the law's end -/
theorem law_end {p : Program} {l : Launch} {e : Env} {s : State} {m : MethodId} {below : List Frame} {meth : Method} {c : Code} {b L : Nat} {xs : Nat → Int32} {A : Nat → Prop} {H : Heap} {locs : List Loc} {cells slots : Nat} (C0 : lw_At p s m meth c b L xs) (hAe : A = fun q => s.heap.size ≤ q) (hS : va_S A s.heap H locs) {ls : Array Slot} (hc : cells ≤ 600000) (hs : slots ≤ 7302250) : W p l e room_1 s m #[Value.ref b] below meth c H locs cells slots (lw_Z below #[Value.ref b] s) (F0 m 1188 ls []) := by
  obtain ⟨hx, hb, hr, hml, hown, hts, hX, hbl, hlocks, hgv⟩ := C0
  refine lv_iconst (v := 1) hx hb dL_law_1188 (by decide) ?_
  refine va_forget (fun q hq => by have h := hS.2.2 q hq; rw [hAe] at h; exact h) ?_
  refine W.widen (k := 600000) (n := 7302250) hc hs ?_
  exact lw_ret hx hb hr hlocks dL_law_1189
set_option maxHeartbeats 4000000 in
set_option maxRecDepth 100000 in
theorem law_loop {p : Program} {l : Launch} {e : Env} {s : State} {m : MethodId} {below : List Frame} {meth : Method} {c : Code} {b L : Nat} {xs : Nat → Int32} {A : Nat → Prop} {dC : Nat → ClassId} {dI : Nat → Nat → Nat} {q : Nat → ClassId} {h0 mm : Nat} {v : Nat → Nat} (C0 : lw_At p s m meth c b L xs) (hAe : A = fun q => s.heap.size ≤ q) (hN : NN s) (hXN : XN s) (hK : va_K (dC, dI) vwCl (xT q) s) (hL2 : L ≤ 4096) : ∀ (n i : Nat) (d : Nat → Nat) (k : Nat → Int32) (z : gS) (f : xF) (u : mS) (H : Heap) (locs : List Loc) (ls : Array Slot), i ≤ 512 → 512 - i < n → RR q h0 d k z f u → va_P (dC, dI) vwCl (va_pl z.1 f ++ mW mm v (q 0) (q 1) u) H → va_D A (va_pl z.1 f ++ mW mm v (q 0) (q 1) u) → va_S A s.heap H locs → lv_has ls 4 [(3, .int (nI (8 * i))), (2, .ref mm), (1, .ref h0), (0, .ref b)] → W p l e room_1 s m #[Value.ref b] below meth c H locs (87 + 976 * i) (66821 + 4880 * i) (lw_Z below #[Value.ref b] s) (F0 m 18 ls []) := by
  obtain ⟨hx, hb, hr, hml, hown, hts, hX, hbl, hlocks, hgv⟩ := id C0
  have hbA : ¬ A b := by rw [hAe]; exact Nat.not_le.mpr hbl
  have hc6 : room_1.cells = 600000 := rfl
  have hs6 : room_1.slots = 7302250 := rfl
  intro n
  induction n with
  | zero => intro i d k z f u H locs ls h1 h2; exact absurd h2 (Nat.not_lt_zero _)
  | succ n ih =>
    intro i d k z f u H locs ls hi hn hR hP hD hS hl
    refine lv_iload_n hx hb dL_law_18 rfl (lv_at hl 0 rfl) ?_
    refine lv_aload_n hx hb dL_law_19 rfl (lv_at hl 3 rfl) ?_
    refine va_slen hx hb hX hbl hbA hS dL_law_20 ?_
    refine lv_bipush (v := 8) hx hb dL_law_21 (by decide) ?_
    refine lv_isub hx hb dL_law_23 ?_
    refine lv_icmp_gt (tgt := 1188) hx hb dL_law_24 (by decide) (fun _ => ?_) (fun c_1 => ?_)
    · exact law_end C0 hAe hS (by omega) (by omega)
    · have hL := lw_in hL2 hi c_1
      refine lv_aload_n hx hb dL_law_27 rfl (lv_at hl 3 rfl) ?_
      refine lv_iload_n hx hb dL_law_28 rfl (lv_at hl 0 rfl) ?_
      refine va_sld hx hb hX hbl hbA hS (vp_in_nI (by omega) (by omega)) dL_law_29 ?_
      refine lv_bipush (v := 31) hx hb dL_law_30 (by decide) ?_
      refine lv_iand hx hb dL_law_32 ?_
      refine lv_topi (fun y ey => ?_)
      obtain ⟨j, hj, ej⟩ := pk_andE (xs (nI (8 * i)).toNatClampNeg) (m := 31) 5 rfl
      obtain rfl : y = nI j := ey.trans ej
      have hgo : ∀ (d : Nat → Nat) (k : Nat → Int32) (z : gS) (f : xF) (u : mS) (H : Heap) (locs : List Loc) (ls : Array Slot), RR q h0 d k z f u → va_P (dC, dI) vwCl (va_pl z.1 f ++ mW mm v (q 0) (q 1) u) H → va_D A (va_pl z.1 f ++ mW mm v (q 0) (q 1) u) → va_S A s.heap H locs → lv_has ls 4 [(3, .int (nI (8 * i))), (2, .ref mm), (1, .ref h0), (0, .ref b)] → W p l e room_1 s m #[Value.ref b] below meth c H locs (87 + 976 * i + 976) (66821 + 4880 * i + 4880) (lw_Z below #[Value.ref b] s) (F0 m 1182 ls []) := by
        intro d k z f u H locs ls hR hP hD hS hl
        refine lv_iinc (v := nI (8 * (i + 1))) (lv' := [(3, .int (nI (8 * (i + 1)))), (2, .ref mm), (1, .ref h0), (0, .ref b)]) hx hb dL_law_1182 hl (k := 0) rfl (nI_k (8 * i) 8 rfl) (by decide) rfl (fun ls hl => ?_)
        refine lv_goto (tgt := 18) hx hb dL_law_1185 (by decide) ?_
        exact ih (i + 1) d k z f u H locs ls (by omega) (by omega) hR hP hD hS hl
      match j, (show j < 32 from hj) with
      | 0, _ =>
        refine lv_tableIn (tgt := 168) (off := 135) hx hb dL_law_33 (by decide) (by decide) (by decide) (by decide) ?_
        exact law_c0 C0 hAe hN hXN hK hL hL2 (by omega) (by omega) hgo hR hP hD hS hl
      | 1, _ =>
        refine lv_tableIn (tgt := 211) (off := 178) hx hb dL_law_33 (by decide) (by decide) (by decide) (by decide) ?_
        exact law_c1 C0 hAe hN hXN hK hL hL2 (by omega) (by omega) hgo hR hP hD hS hl
      | 2, _ =>
        refine lv_tableIn (tgt := 244) (off := 211) hx hb dL_law_33 (by decide) (by decide) (by decide) (by decide) ?_
        exact law_c2 C0 hAe hN hXN hK hL hL2 (by omega) (by omega) hgo hR hP hD hS hl
      | 3, _ =>
        refine lv_tableIn (tgt := 267) (off := 234) hx hb dL_law_33 (by decide) (by decide) (by decide) (by decide) ?_
        exact law_c3 C0 hAe hN hXN hK hL hL2 (by omega) (by omega) hgo hR hP hD hS hl
      | 4, _ =>
        refine lv_tableIn (tgt := 300) (off := 267) hx hb dL_law_33 (by decide) (by decide) (by decide) (by decide) ?_
        exact law_c4 C0 hAe hN hXN hK hL hL2 (by omega) (by omega) hgo hR hP hD hS hl
      | 5, _ =>
        refine lv_tableIn (tgt := 343) (off := 310) hx hb dL_law_33 (by decide) (by decide) (by decide) (by decide) ?_
        exact law_c5 C0 hAe hN hXN hK hL hL2 (by omega) (by omega) hgo hR hP hD hS hl
      | 6, _ =>
        refine lv_tableIn (tgt := 356) (off := 323) hx hb dL_law_33 (by decide) (by decide) (by decide) (by decide) ?_
        exact law_c6 C0 hAe hN hXN hK hL hL2 (by omega) (by omega) hgo hR hP hD hS hl
      | 7, _ =>
        refine lv_tableIn (tgt := 399) (off := 366) hx hb dL_law_33 (by decide) (by decide) (by decide) (by decide) ?_
        exact law_c7 C0 hAe hN hXN hK hL hL2 (by omega) (by omega) hgo hR hP hD hS hl
      | 8, _ =>
        refine lv_tableIn (tgt := 486) (off := 453) hx hb dL_law_33 (by decide) (by decide) (by decide) (by decide) ?_
        exact law_c8 C0 hAe hN hXN hK hL hL2 (by omega) (by omega) hgo hR hP hD hS hl
      | 9, _ =>
        refine lv_tableIn (tgt := 519) (off := 486) hx hb dL_law_33 (by decide) (by decide) (by decide) (by decide) ?_
        exact law_c9 C0 hAe hN hXN hK hL hL2 (by omega) (by omega) hgo hR hP hD hS hl
      | 10, _ =>
        refine lv_tableIn (tgt := 552) (off := 519) hx hb dL_law_33 (by decide) (by decide) (by decide) (by decide) ?_
        exact law_c10 C0 hAe hN hXN hK hL hL2 (by omega) (by omega) hgo hR hP hD hS hl
      | 11, _ =>
        refine lv_tableIn (tgt := 585) (off := 552) hx hb dL_law_33 (by decide) (by decide) (by decide) (by decide) ?_
        exact law_c11 C0 hAe hN hXN hK hL hL2 (by omega) (by omega) hgo hR hP hD hS hl
      | 12, _ =>
        refine lv_tableIn (tgt := 618) (off := 585) hx hb dL_law_33 (by decide) (by decide) (by decide) (by decide) ?_
        exact law_c12 C0 hAe hN hXN hK hL hL2 (by omega) (by omega) hgo hR hP hD hS hl
      | 13, _ =>
        refine lv_tableIn (tgt := 681) (off := 648) hx hb dL_law_33 (by decide) (by decide) (by decide) (by decide) ?_
        exact law_c13 C0 hAe hN hXN hK hL hL2 (by omega) (by omega) hgo hR hP hD hS hl
      | 14, _ =>
        refine lv_tableIn (tgt := 704) (off := 671) hx hb dL_law_33 (by decide) (by decide) (by decide) (by decide) ?_
        exact law_c14 C0 hAe hN hXN hK hL hL2 (by omega) (by omega) hgo hR hP hD hS hl
      | 15, _ =>
        refine lv_tableIn (tgt := 747) (off := 714) hx hb dL_law_33 (by decide) (by decide) (by decide) (by decide) ?_
        exact law_c15 C0 hAe hN hXN hK hL hL2 (by omega) (by omega) hgo hR hP hD hS hl
      | 16, _ =>
        refine lv_tableIn (tgt := 770) (off := 737) hx hb dL_law_33 (by decide) (by decide) (by decide) (by decide) ?_
        exact law_c16 C0 hAe hN hXN hK hL hL2 (by omega) (by omega) hgo hR hP hD hS hl
      | 17, _ =>
        refine lv_tableIn (tgt := 783) (off := 750) hx hb dL_law_33 (by decide) (by decide) (by decide) (by decide) ?_
        exact law_c17 C0 hAe hN hXN hK hL hL2 (by omega) (by omega) hgo hR hP hD hS hl
      | 18, _ =>
        refine lv_tableIn (tgt := 806) (off := 773) hx hb dL_law_33 (by decide) (by decide) (by decide) (by decide) ?_
        exact law_c18 C0 hAe hN hXN hK hL hL2 (by omega) (by omega) hgo hR hP hD hS hl
      | 19, _ =>
        refine lv_tableIn (tgt := 819) (off := 786) hx hb dL_law_33 (by decide) (by decide) (by decide) (by decide) ?_
        exact law_c19 C0 hAe hN hXN hK hL hL2 (by omega) (by omega) hgo hR hP hD hS hl
      | 20, _ =>
        refine lv_tableIn (tgt := 832) (off := 799) hx hb dL_law_33 (by decide) (by decide) (by decide) (by decide) ?_
        exact law_c20 C0 hAe hN hXN hK hL hL2 (by omega) (by omega) hgo hR hP hD hS hl
      | 21, _ =>
        refine lv_tableIn (tgt := 875) (off := 842) hx hb dL_law_33 (by decide) (by decide) (by decide) (by decide) ?_
        exact law_c21 C0 hAe hN hXN hK hL hL2 (by omega) (by omega) hgo hR hP hD hS hl
      | 22, _ =>
        refine lv_tableIn (tgt := 918) (off := 885) hx hb dL_law_33 (by decide) (by decide) (by decide) (by decide) ?_
        exact law_c22 C0 hAe hN hXN hK hL hL2 (by omega) (by omega) hgo hR hP hD hS hl
      | 23, _ =>
        refine lv_tableIn (tgt := 951) (off := 918) hx hb dL_law_33 (by decide) (by decide) (by decide) (by decide) ?_
        exact law_c23 C0 hAe hN hXN hK hL hL2 (by omega) (by omega) hgo hR hP hD hS hl
      | 24, _ =>
        refine lv_tableIn (tgt := 984) (off := 951) hx hb dL_law_33 (by decide) (by decide) (by decide) (by decide) ?_
        exact law_c24 C0 hAe hN hXN hK hL hL2 (by omega) (by omega) hgo hR hP hD hS hl
      | 25, _ =>
        refine lv_tableIn (tgt := 1017) (off := 984) hx hb dL_law_33 (by decide) (by decide) (by decide) (by decide) ?_
        exact law_c25 C0 hAe hN hXN hK hL hL2 (by omega) (by omega) hgo hR hP hD hS hl
      | 26, _ =>
        refine lv_tableIn (tgt := 1050) (off := 1017) hx hb dL_law_33 (by decide) (by decide) (by decide) (by decide) ?_
        exact law_c26 C0 hAe hN hXN hK hL hL2 (by omega) (by omega) hgo hR hP hD hS hl
      | 27, _ =>
        refine lv_tableIn (tgt := 1093) (off := 1060) hx hb dL_law_33 (by decide) (by decide) (by decide) (by decide) ?_
        exact law_c27 C0 hAe hN hXN hK hL hL2 (by omega) (by omega) hgo hR hP hD hS hl
      | 28, _ =>
        refine lv_tableIn (tgt := 1126) (off := 1093) hx hb dL_law_33 (by decide) (by decide) (by decide) (by decide) ?_
        exact law_c28 C0 hAe hN hXN hK hL hL2 (by omega) (by omega) hgo hR hP hD hS hl
      | 29, _ =>
        refine lv_tableIn (tgt := 1159) (off := 1126) hx hb dL_law_33 (by decide) (by decide) (by decide) (by decide) ?_
        exact law_c29 C0 hAe hN hXN hK hL hL2 (by omega) (by omega) hgo hR hP hD hS hl
      | 30, _ =>
        refine lv_tableOut (tgt := 1182) hx hb dL_law_33 (by decide) (by decide) ?_
        refine W.widen (k := 87 + 976 * i + 976) (n := 66821 + 4880 * i + 4880) (by omega) (by omega) ?_
        exact hgo d k z f u H locs ls hR hP hD hS hl
      | 31, _ =>
        refine lv_tableOut (tgt := 1182) hx hb dL_law_33 (by decide) (by decide) ?_
        refine W.widen (k := 87 + 976 * i + 976) (n := 66821 + 4880 * i + 4880) (by omega) (by omega) ?_
        exact hgo d k z f u H locs ls hR hP hD hS hl
      | j + 32, h => exact absurd h (by omega)
