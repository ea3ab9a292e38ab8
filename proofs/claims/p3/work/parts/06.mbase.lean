/-- the reference's state: its ints and its rows, by their slots -/
abbrev mS : Type := (Nat → Int32) × (Nat → Nat → Int32)
def mput (u : mS) (k : Nat) (g : Nat → Int32) : mS := (u.1, fun j => if j = k then g else u.2 j)
def mset (u : mS) (k : Nat) (x : Int32) : mS := (fun j => if j = k then x else u.1 j, u.2)
def mst (u : mS) (k : Nat) (i x : Int32) : mS := mput u k (upd (u.2 k) i.toNatClampNeg x)
/-- its cells -/
abbrev mW (h0 : Nat) (v : Nat → Nat) (cI cZ : ClassId) (u : mS) : va_W := [(h0, .inr (11, mO v (u.1 3) (u.1 28) (u.1 36) (u.1 38) (u.1 39) (u.1 49) (u.1 50) (u.1 51))), (v 0, .inl (cI, 96, .inl (u.2 0))), (v 1, .inl (cI, 12, .inl (u.2 1))), (v 2, .inl (cI, 5760, .inl (u.2 2))), (v 4, .inl (cI, 80, .inl (u.2 4))), (v 5, .inl (cI, 80, .inl (u.2 5))), (v 6, .inl (cI, 80, .inl (u.2 6))), (v 7, .inl (cI, 80, .inl (u.2 7))), (v 8, .inl (cI, 80, .inl (u.2 8))), (v 9, .inl (cI, 80, .inl (u.2 9))), (v 10, .inl (cI, 80, .inl (u.2 10))), (v 11, .inl (cI, 80, .inl (u.2 11))), (v 12, .inl (cI, 80, .inl (u.2 12))), (v 13, .inl (cI, 80, .inl (u.2 13))), (v 14, .inl (cI, 80, .inl (u.2 14))), (v 15, .inl (cI, 80, .inl (u.2 15))), (v 16, .inl (cI, 6400, .inl (u.2 16))), (v 17, .inl (cI, 80, .inl (u.2 17))), (v 18, .inl (cI, 320, .inl (u.2 18))), (v 19, .inl (cI, 320, .inl (u.2 19))), (v 20, .inl (cZ, 100, .inl (u.2 20))), (v 21, .inl (cZ, 800, .inl (u.2 21))), (v 22, .inl (cI, 80, .inl (u.2 22))), (v 23, .inl (cI, 480, .inl (u.2 23))), (v 24, .inl (cI, 480, .inl (u.2 24))), (v 25, .inl (cI, 480, .inl (u.2 25))), (v 26, .inl (cI, 480, .inl (u.2 26))), (v 27, .inl (cI, 480, .inl (u.2 27))), (v 29, .inl (cI, 300, .inl (u.2 29))), (v 30, .inl (cI, 300, .inl (u.2 30))), (v 31, .inl (cI, 300, .inl (u.2 31))), (v 32, .inl (cI, 300, .inl (u.2 32))), (v 33, .inl (cI, 300, .inl (u.2 33))), (v 34, .inl (cI, 300, .inl (u.2 34))), (v 35, .inl (cI, 300, .inl (u.2 35))), (v 37, .inl (cI, 700, .inl (u.2 37))), (v 40, .inl (cZ, 12, .inl (u.2 40))), (v 41, .inl (cI, 12, .inl (u.2 41))), (v 42, .inl (cI, 12, .inl (u.2 42))), (v 43, .inl (cI, 96, .inl (u.2 43))), (v 44, .inl (cI, 5760, .inl (u.2 44))), (v 45, .inl (cI, 960, .inl (u.2 45))), (v 46, .inl (cI, 960, .inl (u.2 46))), (v 47, .inl (cI, 400, .inl (u.2 47))), (v 48, .inl (cZ, 32000, .inl (u.2 48)))]
theorem fr_all {A : Nat → Prop} {ws : va_W} {H0 H : Heap} {locs : List Loc} (hD : va_D A ws) (hS : va_S A H0 H locs) (hA : ∀ q, H0.size ≤ q → A q) : ∀ q, va_A ws H.size q → A q := by
  intro q h
  rcases h with ⟨k, e, hk⟩ | h
  · exact hD.2 k _ hk
  · exact hA q (Nat.le_trans hS.1 h)
theorem bne {b : Bool} (h : b = false) : ¬ b = true := by rw [h]; decide
theorem band {a b : Bool} (h : (a && b) = true) : a = true ∧ b = true := Bool.and_eq_true_iff.mp h
theorem i0 : (0 : Int32).toInt = 0 := rfl
theorem i1 : (1 : Int32).toInt = 1 := rfl
theorem subI {x y : Int32} (h1 : -2147483648 ≤ x.toInt - y.toInt) (h2 : x.toInt - y.toInt < 2147483648) : (x - y).toInt = x.toInt - y.toInt := by
  rw [Int32.toInt_sub]; exact Int.bmod_eq_of_le (by omega) (by omega)
/-- an item's number lies in the rows of 80 -/
theorem vIt {n i : Int32} (hn : bw n 0 80 = true) (h : bw i 0 (n - 1) = true) : vp_in i 80 := by
  have h80 : (80 : Int32).toInt = 80 := rfl
  have h1 := bw_iff.mp hn
  have h2 := bw_iff.mp h
  rw [i0, h80] at h1
  rw [i0, subI (by rw [i1]; omega) (by rw [i1]; omega), i1] at h2
  rw [vp_in_iff]; omega
theorem vNew {n : Int32} (hn : bw n 0 80 = true) (h : ¬ n = 80) : vp_in n 80 := by
  have h80 : (80 : Int32).toInt = 80 := rfl
  have h1 := bw_iff.mp hn
  rw [i0, h80] at h1
  have h3 : ¬ n.toInt = 80 := fun e => h (sw_in e.symm h80)
  rw [vp_in_iff]; omega
theorem vLine {n i c : Int32} (hn : bw n 0 80 = true) (h : bw i 0 (n - 1) = true) (hc : bw c 0 80 = true) (h8 : ¬ c = 80) : vp_in (80 * i + c) 6400 := by
  have h80 : (80 : Int32).toInt = 80 := rfl
  have h1 := vp_in_iff.mp (vIt hn h)
  have h2 := vp_in_iff.mp (vNew hc h8)
  have e1 : (80 * i).toInt = 80 * i.toInt := by rw [mulI (by rw [h80]; omega) (by rw [h80]; omega), h80]
  rw [vp_in_iff, addI (by rw [e1]; omega) (by rw [e1]; omega), e1]; omega
theorem vSize {n i c : Int32} (hn : bw n 0 80 = true) (h : bw i 0 (n - 1) = true) (hc : bw c 0 4 = true) (h8 : ¬ c = 4) : vp_in (4 * i + c) 320 := by
  have h4 : (4 : Int32).toInt = 4 := rfl
  have h1 := vp_in_iff.mp (vIt hn h)
  have h2 := bw_iff.mp hc
  rw [i0, h4] at h2
  have h3 : ¬ c.toInt = 4 := fun e => h8 (sw_in e.symm h4)
  have e1 : (4 * i).toInt = 4 * i.toInt := by rw [mulI (by rw [h4]; omega) (by rw [h4]; omega), h4]
  rw [vp_in_iff, addI (by rw [e1]; omega) (by rw [e1]; omega), e1]; omega
theorem vName {n i b : Int32} (hn : bw n 0 80 = true) (h : bw i 0 (n - 1) = true) (hb : bw b 0 9 = true) : vp_in (10 * i + b) 800 := by
  have h10 : (10 : Int32).toInt = 10 := rfl
  have h9 : (9 : Int32).toInt = 9 := rfl
  have h1 := vp_in_iff.mp (vIt hn h)
  have h2 := bw_iff.mp hb
  rw [i0, h9] at h2
  have e1 : (10 * i).toInt = 10 * i.toInt := by rw [mulI (by rw [h10]; omega) (by rw [h10]; omega), h10]
  rw [vp_in_iff, addI (by rw [e1]; omega) (by rw [e1]; omega), e1]; omega
theorem vlt {i : Int32} {n : Nat} (h : vp_in i n) : i.toNatClampNeg < n := Nat.lt_of_not_le (fun q => h (Or.inr q))
theorem zb (b : Bool) : narrow .boolean (.int (bi b)) = .int (bi b) := by cases b <;> rfl
