theorem len_lt {L : Nat} (h : L < 8) : (Int32.ofNat L - 8 : Int32) < 0 := by
  match L, h with
  | 0, _ => decide
  | 1, _ => decide
  | 2, _ => decide
  | 3, _ => decide
  | 4, _ => decide
  | 5, _ => decide
  | 6, _ => decide
  | 7, _ => decide
  | L + 8, h => exact absurd h (by omega)
set_option maxHeartbeats 4000000 in
set_option maxRecDepth 100000 in
/-- the law's end -/
theorem law_end {p : Program} {l : Launch} {e : Env} {s : State} {m : MethodId} {below : List Frame} {meth : Method} {c : Code} {b : Nat} {xs : Nat → Int32} {A : Nat → Prop} {H : Heap} {locs : List Loc} {cells slots L : Nat} (C0 : lw_At p s m meth c b L xs) (hAe : A = fun q => s.heap.size ≤ q) (hS : va_S A s.heap H locs) {ls : Array Slot} (hc : cells ≤ 600000) (hs : slots ≤ 7302250) : W p l e room_1 s m #[Value.ref b] below meth c H locs cells slots (lw_Z below #[Value.ref b] s) (F0 m 1188 ls []) := by
  obtain ⟨hx, hb, hr, hml, hown, hts, hX, hbl, hlocks, hgv⟩ := C0
  refine lv_iconst (v := 1) hx hb dL_law_1188 (by decide) ?_
  refine va_forget (fun q hq => by have h := hS.2.2 q hq; rw [hAe] at h; exact h) ?_
  refine W.widen (k := 600000) (n := 7302250) hc hs ?_
  exact lw_ret hx hb hr hlocks dL_law_1189
set_option maxHeartbeats 4000000 in
set_option maxRecDepth 100000 in
/-- behind a call: the next turn's test ends the loop -/
theorem law_tail {p : Program} {l : Launch} {e : Env} {s : State} {m : MethodId} {below : List Frame} {meth : Method} {c : Code} {b : Nat} {xs : Nat → Int32} {A : Nat → Prop} {H : Heap} {locs : List Loc} {cells slots : Nat} (C0 : lw_At p s m meth c b 8 xs) (hAe : A = fun q => s.heap.size ≤ q) (hS : va_S A s.heap H locs) {ls : Array Slot} (hl : lv_has ls 4 [(3, .int 0), (0, .ref b)]) (hc : cells ≤ 600000) (hs : slots ≤ 7302250) : W p l e room_1 s m #[Value.ref b] below meth c H locs cells slots (lw_Z below #[Value.ref b] s) (F0 m 1182 ls []) := by
  obtain ⟨hx, hb, hr, hml, hown, hts, hX, hbl, hlocks, hgv⟩ := id C0
  have hbA : ¬ A b := by rw [hAe]; exact Nat.not_le.mpr hbl
  refine lv_iinc (v := 8) (lv' := [(3, .int 8), (0, .ref b)]) hx hb dL_law_1182 hl (k := 0) rfl (by decide) (by decide) rfl (fun ls hl => ?_)
  refine lv_goto (tgt := 18) hx hb dL_law_1185 (by decide) ?_
  refine lv_iload_n hx hb dL_law_18 rfl (lv_at hl 0 rfl) ?_
  refine lv_aload_n hx hb dL_law_19 rfl (lv_at hl 1 rfl) ?_
  refine va_slen hx hb hX hbl hbA hS dL_law_20 ?_
  refine lv_bipush (v := 8) hx hb dL_law_21 (by decide) ?_
  refine lv_isub hx hb dL_law_23 ?_
  refine lv_icmp_gt (tgt := 1188) hx hb dL_law_24 (by decide) (fun c_1 => ?_) (fun c_1 => absurd (by decide) c_1)
  exact law_end C0 hAe hS hc hs
theorem subI {x y : Int32} (h1 : -2147483648 ≤ x.toInt - y.toInt) (h2 : x.toInt - y.toInt < 2147483648) : (x - y).toInt = x.toInt - y.toInt := by
  rw [Int32.toInt_sub]; exact Int.bmod_eq_of_le (by omega) (by omega)
theorem bool_eq {a b : Bool} (h : a = true ↔ b = true) : a = b := by
  cases a <;> cases b <;> simp_all
theorem eq_filler (p0 p1 : Int32) : (if bw p1 1 60 && bw p0 1 p1 then (0 : Int32) else (-1)) = (if bw p0 1 60 && bw p1 p0 60 then 0 else (-1)) := by
  have h : (bw p1 1 60 && bw p0 1 p1) = (bw p0 1 60 && bw p1 p0 60) := by
    apply bool_eq
    have h1 : (1 : Int32).toInt = 1 := rfl
    have h60 : (60 : Int32).toInt = 60 := rfl
    rw [Bool.and_eq_true, Bool.and_eq_true, bw_iff, bw_iff, bw_iff, bw_iff, h1, h60]
    omega
  rw [h]
theorem eq_paid (p0 p1 p2 p3 p4 p5 p6 : Int32) : (if bw p0 0 9 && bw p1 0 11 && (bw p4 1 8 && bw p5 1 60) && bw p6 0 1000 && bw p2 0 (8 - p4) && bw p3 0 (60 - p5) then (0 : Int32) else (-1)) = (if bw p1 0 11 && bw p2 0 7 && bw p3 0 59 && bw p4 1 8 && bw p5 1 60 && bw p0 0 9 && !decide (8 < p2 + p4) && !decide (60 < p3 + p5) && bw p6 0 1000 then 0 else (-1)) := by
  have h : (bw p0 0 9 && bw p1 0 11 && (bw p4 1 8 && bw p5 1 60) && bw p6 0 1000 && bw p2 0 (8 - p4) && bw p3 0 (60 - p5)) = (bw p1 0 11 && bw p2 0 7 && bw p3 0 59 && bw p4 1 8 && bw p5 1 60 && bw p0 0 9 && !decide (8 < p2 + p4) && !decide (60 < p3 + p5) && bw p6 0 1000) := by
    have h0 : (0 : Int32).toInt = 0 := rfl
    have h1 : (1 : Int32).toInt = 1 := rfl
    have h7 : (7 : Int32).toInt = 7 := rfl
    have h8 : (8 : Int32).toInt = 8 := rfl
    have h59 : (59 : Int32).toInt = 59 := rfl
    have h60 : (60 : Int32).toInt = 60 := rfl
    rcases Bool.eq_false_or_eq_true (bw p4 1 8) with w4 | w4
    · rcases Bool.eq_false_or_eq_true (bw p5 1 60) with w5 | w5
      · have b4 := bw_iff.mp w4
        have b5 := bw_iff.mp w5
        have s4 : (8 - p4).toInt = 8 - p4.toInt := by rw [subI (by rw [h8]; omega) (by rw [h8]; omega), h8]
        have s5 : (60 - p5).toInt = 60 - p5.toInt := by rw [subI (by rw [h60]; omega) (by rw [h60]; omega), h60]
        have e2 : bw p2 0 (8 - p4) = (bw p2 0 7 && !decide (8 < p2 + p4)) := by
          apply bool_eq
          rw [Bool.and_eq_true, bw_iff, bw_iff, s4, h0, h7, Bool.not_eq_true', decide_eq_false_iff_not, i32_lt, h8]
          constructor
          · intro h
            rw [addI (by omega) (by omega)]; omega
          · intro h
            rw [addI (by omega) (by omega)] at h; omega
        have e3 : bw p3 0 (60 - p5) = (bw p3 0 59 && !decide (60 < p3 + p5)) := by
          apply bool_eq
          rw [Bool.and_eq_true, bw_iff, bw_iff, s5, h0, h59, Bool.not_eq_true', decide_eq_false_iff_not, i32_lt, h60]
          constructor
          · intro h
            rw [addI (by omega) (by omega)]; omega
          · intro h
            rw [addI (by omega) (by omega)] at h; omega
        rw [e2, e3, w4, w5]
        cases bw p0 0 9 <;> cases bw p1 0 11 <;> cases bw p6 0 1000 <;> cases bw p2 0 7 <;> cases bw p3 0 59 <;> cases decide (8 < p2 + p4) <;> cases decide (60 < p3 + p5) <;> rfl
      · rw [w5]; simp
    · rw [w4]; simp
  rw [h]
