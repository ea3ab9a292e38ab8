def zpd : List (String × FieldType) := [("LPageOne$Piece;", .object "PageOne$Piece"), ("Z", .boolean), ("LPageOne$Act;", .object "PageOne$Act"), ("I", .int), ("[LPageOne$Piece;", .array (.object "PageOne$Piece")), ("[I", .array .int), ("LPageOne$Story;", .object "PageOne$Story"), ("LPageOne$Item;", .object "PageOne$Item"), ("[Z", .array .boolean), ("[LPageOne$Sheet;", .array (.object "PageOne$Sheet")), ("[LPageOne$Item;", .array (.object "PageOne$Item")), ("[LPageOne$Act;", .array (.object "PageOne$Act"))]
theorem zpd_ok : ∀ x, x ∈ zpd → parseFieldDescriptor x.1 = some x.2 := by decide +kernel
theorem tyX0_ok : ∀ k, k < 4 → parseFieldDescriptor (TX0 k).2.2.1 = some (tyX0 k) := fun k hk => zpd_ok _ ((by decide +kernel : ∀ k, k < 4 → ((TX0 k).2.2.1, tyX0 k) ∈ zpd) k hk)
theorem tyX1_ok : ∀ k, k < 3 → parseFieldDescriptor (TX1 k).2.2.1 = some (tyX1 k) := fun k hk => zpd_ok _ ((by decide +kernel : ∀ k, k < 3 → ((TX1 k).2.2.1, tyX1 k) ∈ zpd) k hk)
theorem tyX2_ok : ∀ k, k < 7 → parseFieldDescriptor (TX2 k).2.2.1 = some (tyX2 k) := fun k hk => zpd_ok _ ((by decide +kernel : ∀ k, k < 7 → ((TX2 k).2.2.1, tyX2 k) ∈ zpd) k hk)
theorem tyX3_ok : ∀ k, k < 8 → parseFieldDescriptor (TX3 k).2.2.1 = some (tyX3 k) := fun k hk => zpd_ok _ ((by decide +kernel : ∀ k, k < 8 → ((TX3 k).2.2.1, tyX3 k) ∈ zpd) k hk)
theorem tyX5_ok : ∀ k, k < 7 → parseFieldDescriptor (TX5 k).2.2.1 = some (tyX5 k) := fun k hk => zpd_ok _ ((by decide +kernel : ∀ k, k < 7 → ((TX5 k).2.2.1, tyX5 k) ∈ zpd) k hk)
theorem tyX6_ok : ∀ k, k < 9 → parseFieldDescriptor (TX6 k).2.2.1 = some (tyX6 k) := fun k hk => zpd_ok _ ((by decide +kernel : ∀ k, k < 9 → ((TX6 k).2.2.1, tyX6 k) ∈ zpd) k hk)
theorem tyX7_ok : ∀ k, k < 8 → parseFieldDescriptor (TX7 k).2.2.1 = some (tyX7 k) := fun k hk => zpd_ok _ ((by decide +kernel : ∀ k, k < 8 → ((TX7 k).2.2.1, tyX7 k) ∈ zpd) k hk)
theorem tyX8_ok : ∀ k, k < 6 → parseFieldDescriptor (TX8 k).2.2.1 = some (tyX8 k) := fun k hk => zpd_ok _ ((by decide +kernel : ∀ k, k < 6 → ((TX8 k).2.2.1, tyX8 k) ∈ zpd) k hk)
theorem tyX9_ok : ∀ k, k < 5 → parseFieldDescriptor (TX9 k).2.2.1 = some (tyX9 k) := fun k hk => zpd_ok _ ((by decide +kernel : ∀ k, k < 5 → ((TX9 k).2.2.1, tyX9 k) ∈ zpd) k hk)
theorem tyX10_ok : ∀ k, k < 9 → parseFieldDescriptor (TX10 k).2.2.1 = some (tyX10 k) := fun k hk => zpd_ok _ ((by decide +kernel : ∀ k, k < 9 → ((TX10 k).2.2.1, tyX10 k) ∈ zpd) k hk)
theorem tyX11_ok : ∀ k, k < 9 → parseFieldDescriptor (TX11 k).2.2.1 = some (tyX11 k) := fun k hk => zpd_ok _ ((by decide +kernel : ∀ k, k < 9 → ((TX11 k).2.2.1, tyX11 k) ∈ zpd) k hk)
theorem tyX12_ok : ∀ k, k < 52 → parseFieldDescriptor (TX12 k).2.2.1 = some (tyX12 k) := fun k hk => zpd_ok _ ((by decide +kernel : ∀ k, k < 52 → ((TX12 k).2.2.1, tyX12 k) ∈ zpd) k hk)
