theorem newI (n : Nat) (cA : ClassId) : vp_cell cA (n, .inl (fun _ => 0)) = arrV cA n (fun _ => defaultValue .int) := rfl
theorem newZ (n : Nat) (cA : ClassId) : vp_cell cA (n, .inl (fun _ => 0)) = arrV cA n (fun _ => defaultValue .boolean) := rfl
theorem nbI {n : Nat} (h : n ≤ 100000) : n * componentBytes .int ≤ 536870912 := by
  show n * 4 ≤ 536870912
  omega
theorem nbZ {n : Nat} (h : n ≤ 100000) : n * componentBytes .boolean ≤ 536870912 := by
  show n * 1 ≤ 536870912
  omega
