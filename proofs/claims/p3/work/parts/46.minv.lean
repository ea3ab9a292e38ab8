theorem met_imp {l : Launch} {y : MethodName} {ws : List Cond} {rm : Room} {Pc : Array Value → State → Prop} {Qc Qd : Array Value → State → Outcome → State → Prop} {mc ms : Nat} {free : Addr → Prop} (hm : Met l y ws rm Pc Qc mc ms free) (h : ∀ a s o t, Qc a s o t → Qd a s o t) : Met l y ws rm Pc Qd mc ms free := fun p e h1 h2 h3 s m args below hf ha hp hk => by
  obtain ⟨n, o, q1, q2, q3, q4, q5⟩ := hm p e h1 h2 h3 s m args below hf ha hp hk
  exact ⟨n, o, q1, q2, q3, h _ _ _ _ q4, q5⟩
theorem mq {l : Launch} {y : MethodName} {ws : List Cond} {rm : Room} {Pc : Array Value → State → Prop} {S : Type} {post post2 : Int32 → S → Prop} {B : S → State → Prop} {A : Nat → Prop} {mc ms : Nat} {free : Addr → Prop} (hm : Met l y ws rm Pc (va_Qi post B A) mc ms free) (h : ∀ r u, post r u → post2 r u) : Met l y ws rm Pc (va_Qi post2 B A) mc ms free := met_imp hm (fun _ _ _ _ q => by
  obtain ⟨⟨r, u, q1, q2, q3⟩, q4⟩ := q
  exact ⟨⟨r, u, q1, h r u q2, q3⟩, q4⟩)
theorem inv_pc {u : mS} (h : mInv u) : ∀ j, j < 80 → bw (u.2 22 j) 0 6 = true := fun j hj => by
  obtain ⟨-, -, es, c, d⟩ := h
  rw [(d.2.2.2.2.2 j hj).1]
  have h1 := ((hOK_c d.2.2.2.1) j).2.1
  exact bwN (by have h6 : (6 : Int32).toInt = 6 := rfl; rw [h6]; omega) (by omega)
theorem inv_ha {u : mS} (h : mInv u) : bw (u.1 28) 0 300 = true := by
  obtain ⟨-, -, es, c, d⟩ := h
  rw [d.2.1]
  have h1 := d.1
  exact bwN (by have h6 : (300 : Int32).toInt = 300 := rfl; rw [h6]; omega) (by omega)
theorem mi_column (l : Launch) (dC : Nat → ClassId) (dI : Nat → Nat → Nat) (h0 : Nat) (v : Nat → Nat) (cI cZ : ClassId) (u : mS) (p0 p1 p2 : Int32) (h : mInv u) (sz : Nat) : Met l yX12_column wsX12_column ({ frames := 2, cells := 0, slots := 0, locals := 42 }) (va_Pc [.ref h0, .int p0, .int p1, .int p2] (fun U => U.heap.size = sz ∧ PW dC dI (mW h0 v cI cZ u) [(cI, .int), (cZ, .boolean)] U ∧ va_D (fun _ => True) (mW h0 v cI cZ u))) (va_Qi (fun (r : Int32) (u9 : mS) => mKp u u9) (fun u9 t => va_P (dC, dI) vwCl (mW h0 v cI cZ u9) t.heap ∧ va_D (va_A (mW h0 v cI cZ u) sz) (mW h0 v cI cZ u9)) (va_A (mW h0 v cI cZ u) sz)) 0 0 (va_A (mW h0 v cI cZ u) sz) := mq (m_column l dC dI h0 v cI cZ u p0 p1 p2  sz) (fun r u9 he => col_inv h he)
theorem mi_measure (l : Launch) (dC : Nat → ClassId) (dI : Nat → Nat → Nat) (h0 : Nat) (v : Nat → Nat) (cI cZ : ClassId) (u : mS) (p0 p1 : Int32) (h : mInv u) (sz : Nat) : Met l yX12_measure wsX12_measure ({ frames := 2, cells := 0, slots := 0, locals := 42 }) (va_Pc [.ref h0, .int p0, .int p1] (fun U => U.heap.size = sz ∧ PW dC dI (mW h0 v cI cZ u) [(cI, .int), (cZ, .boolean)] U ∧ va_D (fun _ => True) (mW h0 v cI cZ u))) (va_Qi (fun (r : Int32) (u9 : mS) => mKp u u9) (fun u9 t => va_P (dC, dI) vwCl (mW h0 v cI cZ u9) t.heap ∧ va_D (va_A (mW h0 v cI cZ u) sz) (mW h0 v cI cZ u9)) (va_A (mW h0 v cI cZ u) sz)) 0 0 (va_A (mW h0 v cI cZ u) sz) := mq (m_measure l dC dI h0 v cI cZ u p0 p1  sz) (fun r u9 he => mea_inv h he)
theorem mi_story (l : Launch) (dC : Nat → ClassId) (dI : Nat → Nat → Nat) (h0 : Nat) (v : Nat → Nat) (cI cZ : ClassId) (u : mS) (p0 : Int32) (h : mInv u) (sz : Nat) : Met l yX12_story wsX12_story ({ frames := 1, cells := 0, slots := 0, locals := 22 }) (va_Pc [.ref h0, .int p0] (fun U => U.heap.size = sz ∧ PW dC dI (mW h0 v cI cZ u) [(cI, .int), (cZ, .boolean)] U ∧ va_D (fun _ => True) (mW h0 v cI cZ u))) (va_Qi (fun (r : Int32) (u9 : mS) => mKp u u9) (fun u9 t => va_P (dC, dI) vwCl (mW h0 v cI cZ u9) t.heap ∧ va_D (va_A (mW h0 v cI cZ u) sz) (mW h0 v cI cZ u9)) (va_A (mW h0 v cI cZ u) sz)) 0 0 (va_A (mW h0 v cI cZ u) sz) := mq (m_story l dC dI h0 v cI cZ u p0 h.1.1 sz) (fun r u9 he => story_inv h he)
theorem mi_line (l : Launch) (dC : Nat → ClassId) (dI : Nat → Nat → Nat) (h0 : Nat) (v : Nat → Nat) (cI cZ : ClassId) (u : mS) (p0 p1 : Int32) (h : mInv u) (sz : Nat) : Met l yX12_line wsX12_line ({ frames := 3, cells := 0, slots := 0, locals := 65 }) (va_Pc [.ref h0, .int p0, .int p1] (fun U => U.heap.size = sz ∧ PW dC dI (mW h0 v cI cZ u) [(cI, .int), (cZ, .boolean)] U ∧ va_D (fun _ => True) (mW h0 v cI cZ u))) (va_Qi (fun (r : Int32) (u9 : mS) => mKp u u9) (fun u9 t => va_P (dC, dI) vwCl (mW h0 v cI cZ u9) t.heap ∧ va_D (va_A (mW h0 v cI cZ u) sz) (mW h0 v cI cZ u9)) (va_A (mW h0 v cI cZ u) sz)) 0 0 (va_A (mW h0 v cI cZ u) sz) := mq (m_line l dC dI h0 v cI cZ u p0 p1 h.1.1 h.1.2.2.2.2.1 sz) (fun r u9 he => line_inv h he)
theorem mi_head (l : Launch) (dC : Nat → ClassId) (dI : Nat → Nat → Nat) (h0 : Nat) (v : Nat → Nat) (cI cZ : ClassId) (u : mS) (p0 p1 p2 : Int32) (h : mInv u) (sz : Nat) : Met l yX12_head wsX12_head ({ frames := 3, cells := 0, slots := 0, locals := 65 }) (va_Pc [.ref h0, .int p0, .int p1, .int p2] (fun U => U.heap.size = sz ∧ PW dC dI (mW h0 v cI cZ u) [(cI, .int), (cZ, .boolean)] U ∧ va_D (fun _ => True) (mW h0 v cI cZ u))) (va_Qi (fun (r : Int32) (u9 : mS) => mKp u u9) (fun u9 t => va_P (dC, dI) vwCl (mW h0 v cI cZ u9) t.heap ∧ va_D (va_A (mW h0 v cI cZ u) sz) (mW h0 v cI cZ u9)) (va_A (mW h0 v cI cZ u) sz)) 0 0 (va_A (mW h0 v cI cZ u) sz) := mq (m_head l dC dI h0 v cI cZ u p0 p1 p2 h.1.1 sz) (fun r u9 he => head_inv h he)
theorem mi_picture (l : Launch) (dC : Nat → ClassId) (dI : Nat → Nat → Nat) (h0 : Nat) (v : Nat → Nat) (cI cZ : ClassId) (u : mS) (h : mInv u) (sz : Nat) : Met l yX12_picture wsX12_picture ({ frames := 1, cells := 0, slots := 0, locals := 22 }) (va_Pc [.ref h0] (fun U => U.heap.size = sz ∧ PW dC dI (mW h0 v cI cZ u) [(cI, .int), (cZ, .boolean)] U ∧ va_D (fun _ => True) (mW h0 v cI cZ u))) (va_Qi (fun (r : Int32) (u9 : mS) => mKp u u9) (fun u9 t => va_P (dC, dI) vwCl (mW h0 v cI cZ u9) t.heap ∧ va_D (va_A (mW h0 v cI cZ u) sz) (mW h0 v cI cZ u9)) (va_A (mW h0 v cI cZ u) sz)) 0 0 (va_A (mW h0 v cI cZ u) sz) := mq (m_picture l dC dI h0 v cI cZ u  h.1.1 sz) (fun r u9 he => pic_inv h he)
theorem mi_size (l : Launch) (dC : Nat → ClassId) (dI : Nat → Nat → Nat) (h0 : Nat) (v : Nat → Nat) (cI cZ : ClassId) (u : mS) (p0 p1 p2 : Int32) (h : mInv u) (sz : Nat) : Met l yX12_size wsX12_size ({ frames := 3, cells := 0, slots := 0, locals := 65 }) (va_Pc [.ref h0, .int p0, .int p1, .int p2] (fun U => U.heap.size = sz ∧ PW dC dI (mW h0 v cI cZ u) [(cI, .int), (cZ, .boolean)] U ∧ va_D (fun _ => True) (mW h0 v cI cZ u))) (va_Qi (fun (r : Int32) (u9 : mS) => mKp u u9) (fun u9 t => va_P (dC, dI) vwCl (mW h0 v cI cZ u9) t.heap ∧ va_D (va_A (mW h0 v cI cZ u) sz) (mW h0 v cI cZ u9)) (va_A (mW h0 v cI cZ u) sz)) 0 0 (va_A (mW h0 v cI cZ u) sz) := mq (m_size l dC dI h0 v cI cZ u p0 p1 p2 h.1.1 h.1.2.2.2.2.2.1 sz) (fun r u9 he => size_inv h he)
theorem mi_paid (l : Launch) (dC : Nat → ClassId) (dI : Nat → Nat → Nat) (h0 : Nat) (v : Nat → Nat) (cI cZ : ClassId) (u : mS) (p0 p1 p2 p3 p4 p5 p6 : Int32) (h : mInv u) (sz : Nat) : Met l yX12_paid wsX12_paid ({ frames := 2, cells := 0, slots := 0, locals := 42 }) (va_Pc [.ref h0, .int p0, .int p1, .int p2, .int p3, .int p4, .int p5, .int p6] (fun U => U.heap.size = sz ∧ PW dC dI (mW h0 v cI cZ u) [(cI, .int), (cZ, .boolean)] U ∧ va_D (fun _ => True) (mW h0 v cI cZ u))) (va_Qi (fun (r : Int32) (u9 : mS) => mKp u u9) (fun u9 t => va_P (dC, dI) vwCl (mW h0 v cI cZ u9) t.heap ∧ va_D (va_A (mW h0 v cI cZ u) sz) (mW h0 v cI cZ u9)) (va_A (mW h0 v cI cZ u) sz)) 0 0 (va_A (mW h0 v cI cZ u) sz) := mq (m_paid l dC dI h0 v cI cZ u p0 p1 p2 p3 p4 p5 p6 h.1.1 sz) (fun r u9 he => paid_inv h he)
theorem mi_filler (l : Launch) (dC : Nat → ClassId) (dI : Nat → Nat → Nat) (h0 : Nat) (v : Nat → Nat) (cI cZ : ClassId) (u : mS) (p0 p1 : Int32) (h : mInv u) (sz : Nat) : Met l yX12_filler wsX12_filler ({ frames := 1, cells := 0, slots := 0, locals := 22 }) (va_Pc [.ref h0, .int p0, .int p1] (fun U => U.heap.size = sz ∧ PW dC dI (mW h0 v cI cZ u) [(cI, .int), (cZ, .boolean)] U ∧ va_D (fun _ => True) (mW h0 v cI cZ u))) (va_Qi (fun (r : Int32) (u9 : mS) => mKp u u9) (fun u9 t => va_P (dC, dI) vwCl (mW h0 v cI cZ u9) t.heap ∧ va_D (va_A (mW h0 v cI cZ u) sz) (mW h0 v cI cZ u9)) (va_A (mW h0 v cI cZ u) sz)) 0 0 (va_A (mW h0 v cI cZ u) sz) := mq (m_filler l dC dI h0 v cI cZ u p0 p1 h.1.1 sz) (fun r u9 he => fill_inv0 h he)
theorem mi_notice (l : Launch) (dC : Nat → ClassId) (dI : Nat → Nat → Nat) (h0 : Nat) (v : Nat → Nat) (cI cZ : ClassId) (u : mS) (p0 p1 : Int32) (h : mInv u) (sz : Nat) : Met l yX12_notice wsX12_notice ({ frames := 3, cells := 0, slots := 0, locals := 66 }) (va_Pc [.ref h0, .int p0, .int p1] (fun U => U.heap.size = sz ∧ PW dC dI (mW h0 v cI cZ u) [(cI, .int), (cZ, .boolean)] U ∧ va_D (fun _ => True) (mW h0 v cI cZ u))) (va_Qi (fun (r : Int32) (u9 : mS) => mKp u u9) (fun u9 t => va_P (dC, dI) vwCl (mW h0 v cI cZ u9) t.heap ∧ va_D (va_A (mW h0 v cI cZ u) sz) (mW h0 v cI cZ u9)) (va_A (mW h0 v cI cZ u) sz)) 0 0 (va_A (mW h0 v cI cZ u) sz) := mq (m_notice l dC dI h0 v cI cZ u p0 p1 h.1.1 sz) (fun r u9 he => not_inv h he)
theorem mi_rival (l : Launch) (dC : Nat → ClassId) (dI : Nat → Nat → Nat) (h0 : Nat) (v : Nat → Nat) (cI cZ : ClassId) (u : mS) (p0 p1 : Int32) (h : mInv u) (sz : Nat) : Met l yX12_rival wsX12_rival ({ frames := 2, cells := 0, slots := 0, locals := 42 }) (va_Pc [.ref h0, .int p0, .int p1] (fun U => U.heap.size = sz ∧ PW dC dI (mW h0 v cI cZ u) [(cI, .int), (cZ, .boolean)] U ∧ va_D (fun _ => True) (mW h0 v cI cZ u))) (va_Qi (fun (r : Int32) (u9 : mS) => mInv u9 ∧ u9.1 38 = u.1 38 ∧ u9.1 39 = u.1 39) (fun u9 t => va_P (dC, dI) vwCl (mW h0 v cI cZ u9) t.heap ∧ va_D (va_A (mW h0 v cI cZ u) sz) (mW h0 v cI cZ u9)) (va_A (mW h0 v cI cZ u) sz)) 0 0 (va_A (mW h0 v cI cZ u) sz) := mq (m_rival l dC dI h0 v cI cZ u p0 p1 h.1.1 sz) (fun r u9 he => riv_inv h he)
theorem mi_names (l : Launch) (dC : Nat → ClassId) (dI : Nat → Nat → Nat) (h0 : Nat) (v : Nat → Nat) (cI cZ : ClassId) (u : mS) (p0 p1 : Int32) (h : mInv u) (sz : Nat) : Met l yX12_names wsX12_names ({ frames := 3, cells := 0, slots := 0, locals := 65 }) (va_Pc [.ref h0, .int p0, .int p1] (fun U => U.heap.size = sz ∧ PW dC dI (mW h0 v cI cZ u) [(cI, .int), (cZ, .boolean)] U ∧ va_D (fun _ => True) (mW h0 v cI cZ u))) (va_Qi (fun (r : Int32) (u9 : mS) => mKp u u9) (fun u9 t => va_P (dC, dI) vwCl (mW h0 v cI cZ u9) t.heap ∧ va_D (va_A (mW h0 v cI cZ u) sz) (mW h0 v cI cZ u9)) (va_A (mW h0 v cI cZ u) sz)) 0 0 (va_A (mW h0 v cI cZ u) sz) := mq (m_names l dC dI h0 v cI cZ u p0 p1 h.1.1 sz) (fun r u9 he => names_inv h he)
theorem mi_put (l : Launch) (dC : Nat → ClassId) (dI : Nat → Nat → Nat) (h0 : Nat) (v : Nat → Nat) (cI cZ : ClassId) (u : mS) (p0 p1 p2 p3 p4 : Int32) (h : mInv u) (sz : Nat) : Met l yX12_put wsX12_put ({ frames := 4, cells := 0, slots := 0, locals := 106 }) (va_Pc [.ref h0, .int p0, .int p1, .int p2, .int p3, .int p4] (fun U => U.heap.size = sz ∧ PW dC dI (mW h0 v cI cZ u) [(cI, .int), (cZ, .boolean)] U ∧ va_D (fun _ => True) (mW h0 v cI cZ u))) (va_Qi (fun (r : Int32) (u9 : mS) => mKp u u9) (fun u9 t => va_P (dC, dI) vwCl (mW h0 v cI cZ u9) t.heap ∧ va_D (va_A (mW h0 v cI cZ u) sz) (mW h0 v cI cZ u9)) (va_A (mW h0 v cI cZ u) sz)) 0 0 (va_A (mW h0 v cI cZ u) sz) := mq (m_put l dC dI h0 v cI cZ u p0 p1 p2 p3 p4 h.1.1 h.1.2.2.1 h.1.2.1 (inv_ha h) (inv_pc h) h.1.2.2.2.2.1 h.1.2.2.2.2.2.1 (fun hi P X Y N => put_hfr h hi P X Y N) sz) (fun r u9 he => put_inv h he)
theorem mi_rule (l : Launch) (dC : Nat → ClassId) (dI : Nat → Nat → Nat) (h0 : Nat) (v : Nat → Nat) (cI cZ : ClassId) (u : mS) (p0 p1 p2 : Int32) (h : mInv u) (sz : Nat) : Met l yX12_rule wsX12_rule ({ frames := 3, cells := 0, slots := 0, locals := 65 }) (va_Pc [.ref h0, .int p0, .int p1, .int p2] (fun U => U.heap.size = sz ∧ PW dC dI (mW h0 v cI cZ u) [(cI, .int), (cZ, .boolean)] U ∧ va_D (fun _ => True) (mW h0 v cI cZ u))) (va_Qi (fun (r : Int32) (u9 : mS) => mKp u u9) (fun u9 t => va_P (dC, dI) vwCl (mW h0 v cI cZ u9) t.heap ∧ va_D (va_A (mW h0 v cI cZ u) sz) (mW h0 v cI cZ u9)) (va_A (mW h0 v cI cZ u) sz)) 0 0 (va_A (mW h0 v cI cZ u) sz) := mq (m_rule l dC dI h0 v cI cZ u p0 p1 p2 h.1.2.2.1 (inv_ha h) sz) (fun r u9 he => rule_inv h he)
theorem mi_fill (l : Launch) (dC : Nat → ClassId) (dI : Nat → Nat → Nat) (h0 : Nat) (v : Nat → Nat) (cI cZ : ClassId) (u : mS) (p0 : Int32) (h : mInv u) (sz : Nat) : Met l yX12_fill wsX12_fill ({ frames := 3, cells := 0, slots := 0, locals := 77 }) (va_Pc [.ref h0, .int p0] (fun U => U.heap.size = sz ∧ PW dC dI (mW h0 v cI cZ u) [(cI, .int), (cZ, .boolean)] U ∧ va_D (fun _ => True) (mW h0 v cI cZ u))) (va_Qi (fun (r : Int32) (u9 : mS) => mKp u u9) (fun u9 t => va_P (dC, dI) vwCl (mW h0 v cI cZ u9) t.heap ∧ va_D (va_A (mW h0 v cI cZ u) sz) (mW h0 v cI cZ u9)) (va_A (mW h0 v cI cZ u) sz)) 0 0 (va_A (mW h0 v cI cZ u) sz) := mq (m_fill l dC dI h0 v cI cZ u p0 h.1.1 h.1.2.2.1 (inv_ha h) (fill_hfb h) sz) (fun r u9 he => fill_inv h he)
theorem mi_plate (l : Launch) (dC : Nat → ClassId) (dI : Nat → Nat → Nat) (h0 : Nat) (v : Nat → Nat) (cI cZ : ClassId) (u : mS) (p0 : Int32) (h : mInv u) (sz : Nat) : Met l yX12_plate wsX12_plate ({ frames := 5, cells := 0, slots := 0, locals := 114 }) (va_Pc [.ref h0, .int p0] (fun U => U.heap.size = sz ∧ PW dC dI (mW h0 v cI cZ u) [(cI, .int), (cZ, .boolean)] U ∧ va_D (fun _ => True) (mW h0 v cI cZ u))) (va_Qi (fun (r : Int32) (u9 : mS) => mKp u u9) (fun u9 t => va_P (dC, dI) vwCl (mW h0 v cI cZ u9) t.heap ∧ va_D (va_A (mW h0 v cI cZ u) sz) (mW h0 v cI cZ u9)) (va_A (mW h0 v cI cZ u) sz)) 0 0 (va_A (mW h0 v cI cZ u) sz) := mq (m_plate l dC dI h0 v cI cZ u p0 h.1.1 h.1.2.2.1 h.1.2.2.2.2.2.2.1 h.2.1 (inv_pc h) h.1.2.2.2.2.2.2.2 h.1.2.2.2.1 sz) (fun r u9 he => he.elim (mKp_E h) (mKp_Pl h))
theorem mi_broken (l : Launch) (dC : Nat → ClassId) (dI : Nat → Nat → Nat) (h0 : Nat) (v : Nat → Nat) (cI cZ : ClassId) (u : mS) (p0 p1 : Int32) (h : mInv u) (sz : Nat) : Met l yX12_broken wsX12_broken ({ frames := 5, cells := 0, slots := 0, locals := 114 }) (va_Pc [.ref h0, .int p0, .int p1] (fun U => U.heap.size = sz ∧ PW dC dI (mW h0 v cI cZ u) [(cI, .int), (cZ, .boolean)] U ∧ va_D (fun _ => True) (mW h0 v cI cZ u))) (va_Qi (fun (r : Int32) (u9 : mS) => mKp u u9) (fun u9 t => va_P (dC, dI) vwCl (mW h0 v cI cZ u9) t.heap ∧ va_D (va_A (mW h0 v cI cZ u) sz) (mW h0 v cI cZ u9)) (va_A (mW h0 v cI cZ u) sz)) 0 0 (va_A (mW h0 v cI cZ u) sz) := mq (m_broken l dC dI h0 v cI cZ u p0 p1 h.1.1 h.1.2.2.1 h.1.2.2.2.2.2.2.1 h.2.1 (inv_pc h) h.1.2.2.2.2.2.2.2 sz) (fun r u9 he => mKp_E h he)
theorem mi_edition (l : Launch) (dC : Nat → ClassId) (dI : Nat → Nat → Nat) (h0 : Nat) (v : Nat → Nat) (cI cZ : ClassId) (u : mS) (h : mInv u) (sz : Nat) : Met l yX12_edition wsX12_edition ({ frames := 2, cells := 0, slots := 0, locals := 43 }) (va_Pc [.ref h0] (fun U => U.heap.size = sz ∧ PW dC dI (mW h0 v cI cZ u) [(cI, .int), (cZ, .boolean)] U ∧ va_D (fun _ => True) (mW h0 v cI cZ u))) (va_Qi (fun (r : Int32) (u9 : mS) => mInv u9 ∧ u9.1 38 = u.1 38 ∧ u9.2 20 = u.2 20 ∧ ((u.1 39 = 7 ∧ r = -1 ∧ u9.1 39 = u.1 39) ∨ (¬ u.1 39 = 7 ∧ r = u.1 39 + 1 ∧ u9.1 39 = u.1 39 + 1))) (fun u9 t => va_P (dC, dI) vwCl (mW h0 v cI cZ u9) t.heap ∧ va_D (va_A (mW h0 v cI cZ u) sz) (mW h0 v cI cZ u9)) (va_A (mW h0 v cI cZ u) sz)) 0 0 (va_A (mW h0 v cI cZ u) sz) := mq (m_edition l dC dI h0 v cI cZ u  h.1.1 h.1.2.1 sz) (fun r u9 he => ed_inv h he)
theorem mi_day (l : Launch) (dC : Nat → ClassId) (dI : Nat → Nat → Nat) (h0 : Nat) (v : Nat → Nat) (cI cZ : ClassId) (u : mS) (h : mInv u) (sz : Nat) : Met l yX12_day wsX12_day ({ frames := 2, cells := 0, slots := 0, locals := 43 }) (va_Pc [.ref h0] (fun U => U.heap.size = sz ∧ PW dC dI (mW h0 v cI cZ u) [(cI, .int), (cZ, .boolean)] U ∧ va_D (fun _ => True) (mW h0 v cI cZ u))) (va_Qi (fun (r : Int32) (u9 : mS) => mInv u9 ∧ u9.2 20 = u.2 20 ∧ ((u.1 38 = 399 ∧ r = -1 ∧ u9.1 38 = u.1 38 ∧ u9.1 39 = u.1 39) ∨ (¬ u.1 38 = 399 ∧ r = u.1 38 + 1 ∧ u9.1 38 = u.1 38 + 1 ∧ u9.1 39 = 0))) (fun u9 t => va_P (dC, dI) vwCl (mW h0 v cI cZ u9) t.heap ∧ va_D (va_A (mW h0 v cI cZ u) sz) (mW h0 v cI cZ u9)) (va_A (mW h0 v cI cZ u) sz)) 0 0 (va_A (mW h0 v cI cZ u) sz) := mq (m_day l dC dI h0 v cI cZ u  h.1.1 h.1.2.1 sz) (fun r u9 he => day_inv h he)
theorem mi_lift (l : Launch) (dC : Nat → ClassId) (dI : Nat → Nat → Nat) (h0 : Nat) (v : Nat → Nat) (cI cZ : ClassId) (u : mS) (p0 : Int32) (h : mInv u) (sz : Nat) : Met l yX12_lift wsX12_lift ({ frames := 3, cells := 0, slots := 0, locals := 72 }) (va_Pc [.ref h0, .int p0] (fun U => U.heap.size = sz ∧ PW dC dI (mW h0 v cI cZ u) [(cI, .int), (cZ, .boolean)] U ∧ va_D (fun _ => True) (mW h0 v cI cZ u))) (va_Qi (fun (r : Int32) (u9 : mS) => mKp u u9) (fun u9 t => va_P (dC, dI) vwCl (mW h0 v cI cZ u9) t.heap ∧ va_D (va_A (mW h0 v cI cZ u) sz) (mW h0 v cI cZ u9)) (va_A (mW h0 v cI cZ u) sz)) 0 0 (va_A (mW h0 v cI cZ u) sz) := by
  have h9 := h
  obtain ⟨r, b, es, c, d⟩ := h
  by_cases hi : bw p0 0 (u.1 3 - 1) = true
  · obtain ⟨a, e, han, h80⟩ := itN r hi
    have ha : a < 80 := by omega
    have hca : p0.toNatClampNeg = a := by rw [e]; exact nI_clamp (by omega)
    cases hc : c a with
    | nil =>
      refine mq (m_liftN l dC dI h0 v cI cZ u p0 r.1 (fun _ => by rw [hca, (d.2.2.2.2.2 a ha).1, hc]; rfl) sz) (fun r u9 he => by rw [he]; exact mKp_rf h9)
    | cons x l2 =>
      obtain ⟨P, X, Y, D, N⟩ := x
      have hok := (hOK_c d.2.2.2.1) a
      have hr := hok.2.2.1 (P, X, Y, D, N) (by rw [hc]; exact List.mem_cons_self)
      have hl : (cDrop c a l2 a).length ≤ 5 := by
        rw [cDrop_a]
        have q := hok.2.1
        rw [hc, List.length_cons] at q
        omega
      have hp := cDrop_push hc
      have hm : cM u (cPush (cDrop c a l2) a (P, X, Y, D, N)) := by rw [← hp]; exact d.2.2.2.2.2
      have hs := cM_slR ha hl hm
      rw [← e] at hs
      unfold slR at hs
      obtain ⟨s1, s2, s3, s4, s5, s6⟩ := hs
      refine mq (m_lift l dC dI h0 v cI cZ u p0 P X Y D N hr.1 hr.2.1 hr.2.2.1 r.1 (inv_ha h9) s1 s2 s3 s4 s5 s6 sz) (fun r9 u9 he => ?_)
      unfold mLift at he
      rw [if_pos hi] at he
      split at he
      · obtain ⟨-, e2⟩ := Prod.mk.inj he; rw [e2]; exact mKp_rf h9
      · split at he
        · obtain ⟨-, e2⟩ := Prod.mk.inj he; rw [e2]; exact mKp_rf h9
        · rename_i h3
          obtain ⟨-, e2⟩ := Prod.mk.inj he
          rw [add_sub1, s2, s3, s4, s5, s6] at e2
          rw [e2, e]
          exact lift_kp h9 d h3 ha hc
  · exact mq (m_liftN l dC dI h0 v cI cZ u p0 r.1 (fun q => absurd q hi) sz) (fun r u9 he => by rw [he]; exact mKp_rf h9)
theorem mi_undo (l : Launch) (dC : Nat → ClassId) (dI : Nat → Nat → Nat) (h0 : Nat) (v : Nat → Nat) (cI cZ : ClassId) (u : mS) (h : mInv u) (sz : Nat) : Met l yX12_undo wsX12_undo ({ frames := 3, cells := 0, slots := 0, locals := 77 }) (va_Pc [.ref h0] (fun U => U.heap.size = sz ∧ PW dC dI (mW h0 v cI cZ u) [(cI, .int), (cZ, .boolean)] U ∧ va_D (fun _ => True) (mW h0 v cI cZ u))) (va_Qi (fun (r : Int32) (u9 : mS) => mKp u u9) (fun u9 t => va_P (dC, dI) vwCl (mW h0 v cI cZ u9) t.heap ∧ va_D (va_A (mW h0 v cI cZ u) sz) (mW h0 v cI cZ u9)) (va_A (mW h0 v cI cZ u) sz)) 0 0 (va_A (mW h0 v cI cZ u) sz) := by
  have h9 := h
  obtain ⟨r, b, es, c, d⟩ := h
  cases es with
  | nil => exact mq (m_undoN l dC dI h0 v cI cZ u d.2.1 sz) (fun r u9 he => by rw [he]; exact mKp_rf h9)
  | cons e es =>
    have hn := n80 r
    have a1 := d.1
    have a2 := d.2.1
    rw [List.length_cons] at a1 a2
    have hz0 : ¬ u.1 28 = 0 := fun q => by
      have q2 : (nI (es.length + 1)).toInt = 0 := by rw [← a2, q]; rfl
      rw [nI_toInt (by omega)] at q2; omega
    have ht : u.1 28 - 1 = nI es.length := by rw [a2, dn_e (by omega)]; rfl
    have ha1 : bw (u.1 28 - 1) 0 299 = true := by rw [ht]; exact bwN (by have h7 : (299 : Int32).toInt = 299 := rfl; rw [h7]; omega) (by omega)
    have htc : (u.1 28 - 1).toNatClampNeg = es.length := by rw [ht, nI_clamp (by omega)]
    obtain ⟨hok, c1, hc1, hs⟩ := d.2.2.2.1
    have hok1 := hOK_c hc1
    obtain ⟨e1, e2, e3, e4, e5⟩ := d.2.2.2.2.1.1
    rw [← htc] at e1 e2 e3 e4 e5
    rcases hs with ⟨q, ⟨P, X, Y, D, N⟩, hp⟩ | ⟨q, hp⟩ | ⟨q, hp, hP, hX, hY⟩ | ⟨q, hp, hx⟩
    · have hpa : c e.2.1 = (P, X, Y, D, N) :: c1 e.2.1 := by rw [hp, cPush_a]
      have han : e.2.1 < (u.1 3).toNatClampNeg := by
        rcases Nat.lt_or_ge e.2.1 (u.1 3).toNatClampNeg with z | z
        · exact z
        · exact absurd ((hok e.2.1).1 z) (by rw [hpa]; simp)
      have ha : e.2.1 < 80 := by omega
      have hl : (c1 e.2.1).length ≤ 5 := by
        have z := (hok e.2.1).2.1
        rw [hpa, List.length_cons] at z
        omega
      have hr := (hok e.2.1).2.2.1 (P, X, Y, D, N) (by rw [hpa]; exact List.mem_cons_self)
      have hm : cM u (cPush c1 e.2.1 (P, X, Y, D, N)) := by rw [← hp]; exact d.2.2.2.2.2
      rw [q] at e1
      refine mq (m_undoP l dC dI h0 v cI cZ u e.2.1 P X Y D N hr.1 hr.2.1 hr.2.2.1 ha (e2 q) (cM_slR ha hl hm) hz0 ha1 e1 sz) (fun r9 u9 he => ?_)
      rw [he]
      refine old_kp h9 d hc1 (rI_unstand (rI_m (w := mBack u) r rfl rfl (fun _ _ => rfl)) _ _ _ _ _ _) (fun k k1 k2 => back_1 u k1) (back_28 u) ?_ (fun k k1 k2 => by rw [mUnstand_k _ _ _ _ _ _ _ (by omega) (by omega)]; rfl) (cM_unstand ha hl (cM_rows (u := u) (w := mBack u) (fun k _ _ => rfl) hm) P X Y D N)
      show (mBack u).1 36 = _
      rw [back_1 u (by decide), d.2.2.1, fil_no _ (by omega)]
    · have hpa : c1 e.2.1 = e.2.2.1 :: c e.2.1 := by rw [hp, cPush_a]
      have han : e.2.1 < (u.1 3).toNatClampNeg := by
        rcases Nat.lt_or_ge e.2.1 (u.1 3).toNatClampNeg with z | z
        · exact z
        · exact absurd ((hok1 e.2.1).1 z) (by rw [hpa]; simp)
      have ha : e.2.1 < 80 := by omega
      have hl : (c e.2.1).length ≤ 5 := by
        have z := (hok1 e.2.1).2.1
        rw [hpa, List.length_cons] at z
        omega
      have hr := (hok1 e.2.1).2.2.1 e.2.2.1 (by rw [hpa]; exact List.mem_cons_self)
      obtain ⟨f1, f2, f3, f4, f5, f6⟩ := e3 q
      have hq5 : bw (u.2 22 (nI e.2.1).toNatClampNeg) 0 5 = true := by
        rw [nI_clamp (by omega), (d.2.2.2.2.2 e.2.1 ha).1]
        exact bwN (by have h7 : (5 : Int32).toInt = 5 := rfl; rw [h7]; omega) (by omega)
      rw [q] at e1
      refine mq (m_undoL l dC dI h0 v cI cZ u e.2.1 e.2.2.1.1 e.2.2.1.2.1 e.2.2.1.2.2.1 e.2.2.1.2.2.2.1 e.2.2.1.2.2.2.2 hr.1 hr.2.1 hr.2.2.1 ha f1 f2 f3 f4 f5 f6 hq5 hz0 ha1 e1 sz) (fun r9 u9 he => ?_)
      rw [he]
      refine old_kp h9 d hc1 (rI_stand (rI_m (w := mBack u) r rfl rfl (fun _ _ => rfl)) ha hr.2.1) (fun k k1 k2 => back_1 u k1) (back_28 u) ?_ (fun k k1 k2 => by rw [mStand_k2 _ _ _ _ _ _ _ (by omega) k2]; rfl) ?_
      · show (mBack u).1 36 = _
        rw [back_1 u (by decide), d.2.2.1, fil_no _ (by omega)]
      · rw [hp]
        exact cM_stand ha hl (fun b => (hok b).2.1) (cM_rows (u := u) (w := mBack u) (fun k _ _ => rfl) d.2.2.2.2.2) e.2.2.1.1 e.2.2.1.2.1 e.2.2.1.2.2.1 e.2.2.1.2.2.2.1 e.2.2.1.2.2.2.2
    · obtain ⟨f1, f2, f3⟩ := e4 q
      rw [q] at e1
      refine mq (m_undoR l dC dI h0 v cI cZ u e.2.2.1.1 e.2.2.1.2.1 e.2.2.1.2.2.1 hP hX hY f1 f2 f3 hz0 ha1 e1 sz) (fun r9 u9 he => ?_)
      rw [he]
      refine old_kp h9 d hc1 ?_ (fun k k1 k2 => back_1 u k1) (back_28 u) ?_ (fun k k1 k2 => by rw [mst_other (by omega)]; rfl) (cM_rows (u := u) (fun k k1 k2 => by rw [mst_other (by omega)]; rfl) (by rw [← hp]; exact d.2.2.2.2.2))
      · have hb := rI_m (w := mBack u) r rfl rfl (fun _ _ => rfl)
        generalize mBack u = z at hb
        obtain ⟨r1, r2, r3, r4, r5, r6, r7, r8⟩ := hb
        refine ⟨r1, r2, ?_, ?_, ?_, ?_, fun j hj => ?_, ?_⟩
        · rw [mst_other (by decide)]; exact r3
        · rw [mst_other (by decide)]; exact r4
        · rw [mst_other (by decide)]; exact r5
        · rw [mst_other (by decide)]; exact r6
        · rw [mst_at]
          split
          · exact fun q => absurd q (by decide)
          · exact r7 j hj
        · rw [mst_other (by decide), mst_other (by decide)]; exact r8
      · show (mBack u).1 36 = _
        rw [back_1 u (by decide), d.2.2.1, fil_no _ (by omega)]
    · obtain ⟨f1, f2⟩ := e5 q
      have hf := fil_380 hc1 hx
      have hfil : fil (e :: es) = fil es + e.2.2.2.length := by
        show fil es + (if e.1 = 3 then e.2.2.2.length else 0) = _
        rw [if_pos q]
      obtain ⟨j1, j2, j3, j4, j5, j6⟩ := pop_ind hn hok1 e.2.2.2 (mBack u) hx (F := fil es) (by omega) (by rw [back_1 u (by decide), d.2.2.1, hfil]) (fM_c (u := u) (fun _ _ => rfl) f2) (cM_rows (u := u) (fun k _ _ => rfl) (by rw [← hp]; exact d.2.2.2.2.2)) (rI_m (w := mBack u) r rfl rfl (fun _ _ => rfl))
      rw [q] at e1
      refine mq (m_undoF l dC dI h0 v cI cZ u e.2.2.2 (by omega) f1 j1 hz0 ha1 e1 sz) (fun r9 u9 he => ?_)
      rw [he]
      exact old_kp h9 d hc1 j3 (fun k k1 k2 => (j5 k k2).trans (back_1 u k1)) ((j5 28 (by decide)).trans (back_28 u)) j4 (fun k k1 k2 => (j6 k (by omega) (by omega)).trans rfl) j2
