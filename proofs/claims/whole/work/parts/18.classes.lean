/-! the classes (printed) -/
theorem hin_0 : ∀ w ∈ u_ws RX0 TX0 5, w ∈ mm_gw := by decide +kernel
theorem hty_0 : ∀ j, j < 5 → parseFieldDescriptor (TX0 j).2.2.1 = some (mm_ty 0 j) := tyX0_ok
theorem hnm_0 : ∀ a, a < 5 → ∀ b, b < 5 → a ≠ b → (TX0 a).2.1 ≠ (TX0 b).2.1 := nmX0
theorem hdf_0 : ∀ j, j < 5 → defaultValue (mm_ty 0 j) = if mm_rq 0 j = true then .null else .int 0 := by decide +kernel
theorem hin_1 : ∀ w ∈ u_ws RX1 TX1 14, w ∈ mm_gw := by decide +kernel
theorem hty_1 : ∀ j, j < 14 → parseFieldDescriptor (TX1 j).2.2.1 = some (mm_ty 1 j) := tyX1_ok
theorem hnm_1 : ∀ a, a < 14 → ∀ b, b < 14 → a ≠ b → (TX1 a).2.1 ≠ (TX1 b).2.1 := nmX1
theorem hdf_1 : ∀ j, j < 14 → defaultValue (mm_ty 1 j) = if mm_rq 1 j = true then .null else .int 0 := by decide +kernel
theorem hin_2 : ∀ w ∈ u_ws RX2 TX2 3, w ∈ mm_gw := by decide +kernel
theorem hty_2 : ∀ j, j < 3 → parseFieldDescriptor (TX2 j).2.2.1 = some (mm_ty 2 j) := tyX2_ok
theorem hnm_2 : ∀ a, a < 3 → ∀ b, b < 3 → a ≠ b → (TX2 a).2.1 ≠ (TX2 b).2.1 := nmX2
theorem hdf_2 : ∀ j, j < 3 → defaultValue (mm_ty 2 j) = if mm_rq 2 j = true then .null else .int 0 := by decide +kernel
theorem hin_3 : ∀ w ∈ u_ws RX3 TX3 3, w ∈ mm_gw := by decide +kernel
theorem hty_3 : ∀ j, j < 3 → parseFieldDescriptor (TX3 j).2.2.1 = some (mm_ty 3 j) := tyX3_ok
theorem hnm_3 : ∀ a, a < 3 → ∀ b, b < 3 → a ≠ b → (TX3 a).2.1 ≠ (TX3 b).2.1 := nmX3
theorem hdf_3 : ∀ j, j < 3 → defaultValue (mm_ty 3 j) = if mm_rq 3 j = true then .null else .int 0 := by decide +kernel
theorem hin_4 : ∀ w ∈ u_ws RX4 TX4 5, w ∈ mm_gw := by decide +kernel
theorem hty_4 : ∀ j, j < 5 → parseFieldDescriptor (TX4 j).2.2.1 = some (mm_ty 4 j) := tyX4_ok
theorem hnm_4 : ∀ a, a < 5 → ∀ b, b < 5 → a ≠ b → (TX4 a).2.1 ≠ (TX4 b).2.1 := nmX4
theorem hdf_4 : ∀ j, j < 5 → defaultValue (mm_ty 4 j) = if mm_rq 4 j = true then .null else .int 0 := by decide +kernel
theorem hin_5 : ∀ w ∈ u_ws RX5 TX5 4, w ∈ mm_gw := by decide +kernel
theorem hty_5 : ∀ j, j < 4 → parseFieldDescriptor (TX5 j).2.2.1 = some (mm_ty 5 j) := tyX5_ok
theorem hnm_5 : ∀ a, a < 4 → ∀ b, b < 4 → a ≠ b → (TX5 a).2.1 ≠ (TX5 b).2.1 := nmX5
theorem hdf_5 : ∀ j, j < 4 → defaultValue (mm_ty 5 j) = if mm_rq 5 j = true then .null else .int 0 := by decide +kernel
theorem hin_6 : ∀ w ∈ u_ws RX6 TX6 6, w ∈ mm_gw := by decide +kernel
theorem hty_6 : ∀ j, j < 6 → parseFieldDescriptor (TX6 j).2.2.1 = some (mm_ty 6 j) := tyX6_ok
theorem hnm_6 : ∀ a, a < 6 → ∀ b, b < 6 → a ≠ b → (TX6 a).2.1 ≠ (TX6 b).2.1 := nmX6
theorem hdf_6 : ∀ j, j < 6 → defaultValue (mm_ty 6 j) = if mm_rq 6 j = true then .null else .int 0 := by decide +kernel
theorem hin_7 : ∀ w ∈ u_ws RX7 TX7 3, w ∈ mm_gw := by decide +kernel
theorem hty_7 : ∀ j, j < 3 → parseFieldDescriptor (TX7 j).2.2.1 = some (mm_ty 7 j) := tyX7_ok
theorem hnm_7 : ∀ a, a < 3 → ∀ b, b < 3 → a ≠ b → (TX7 a).2.1 ≠ (TX7 b).2.1 := nmX7
theorem hdf_7 : ∀ j, j < 3 → defaultValue (mm_ty 7 j) = if mm_rq 7 j = true then .null else .int 0 := by decide +kernel
theorem hin_8 : ∀ w ∈ u_ws RX8 TX8 7, w ∈ mm_gw := by decide +kernel
theorem hty_8 : ∀ j, j < 7 → parseFieldDescriptor (TX8 j).2.2.1 = some (mm_ty 8 j) := tyX8_ok
theorem hnm_8 : ∀ a, a < 7 → ∀ b, b < 7 → a ≠ b → (TX8 a).2.1 ≠ (TX8 b).2.1 := nmX8
theorem hdf_8 : ∀ j, j < 7 → defaultValue (mm_ty 8 j) = if mm_rq 8 j = true then .null else .int 0 := by decide +kernel
theorem hin_9 : ∀ w ∈ u_ws RX9 TX9 2, w ∈ mm_gw := by decide +kernel
theorem hty_9 : ∀ j, j < 2 → parseFieldDescriptor (TX9 j).2.2.1 = some (mm_ty 9 j) := tyX9_ok
theorem hnm_9 : ∀ a, a < 2 → ∀ b, b < 2 → a ≠ b → (TX9 a).2.1 ≠ (TX9 b).2.1 := nmX9
theorem hdf_9 : ∀ j, j < 2 → defaultValue (mm_ty 9 j) = if mm_rq 9 j = true then .null else .int 0 := by decide +kernel
theorem hin_10 : ∀ w ∈ u_ws RX10 TX10 4, w ∈ mm_gw := by decide +kernel
theorem hty_10 : ∀ j, j < 4 → parseFieldDescriptor (TX10 j).2.2.1 = some (mm_ty 10 j) := tyX10_ok
theorem hnm_10 : ∀ a, a < 4 → ∀ b, b < 4 → a ≠ b → (TX10 a).2.1 ≠ (TX10 b).2.1 := nmX10
theorem hdf_10 : ∀ j, j < 4 → defaultValue (mm_ty 10 j) = if mm_rq 10 j = true then .null else .int 0 := by decide +kernel
theorem hin_11 : ∀ w ∈ u_ws RX11 TX11 37, w ∈ mm_gw := by decide +kernel
theorem hty_11 : ∀ j, j < 37 → parseFieldDescriptor (TX11 j).2.2.1 = some (mm_ty 11 j) := tyX11_ok
theorem hnm_11 : ∀ a, a < 37 → ∀ b, b < 37 → a ≠ b → (TX11 a).2.1 ≠ (TX11 b).2.1 := nmX11
theorem hdf_11 : ∀ j, j < 37 → defaultValue (mm_ty 11 j) = if mm_rq 11 j = true then .null else .int 0 := by decide +kernel
theorem hce_1 : ∀ (cA : ClassId) (n : Nat) (r : Nat → Nat) (u : mm_M) (i : Nat), mm_it u i = (fun _ => 0) → mm_lg u i = (fun _ => 0) → vp_cell cA (n, mm_ar r u i 1) = arrV cA n (fun _ => defaultValue .int) := by
  intro cA n r u i h1 h2
  have e : mm_ar r u i 1 = .inl (mm_it u i) := rfl
  rw [e, h1]
  rfl
theorem hce_2 : ∀ (cA : ClassId) (n : Nat) (r : Nat → Nat) (u : mm_M) (i : Nat), mm_it u i = (fun _ => 0) → mm_lg u i = (fun _ => 0) → vp_cell cA (n, mm_ar r u i 2) = arrV cA n (fun _ => defaultValue .boolean) := by
  intro cA n r u i h1 h2
  have e : mm_ar r u i 2 = .inl (mm_it u i) := rfl
  rw [e, h1]
  rfl
theorem hce_3 : ∀ (cA : ClassId) (n : Nat) (r : Nat → Nat) (u : mm_M) (i : Nat), mm_it u i = (fun _ => 0) → mm_lg u i = (fun _ => 0) → vp_cell cA (n, mm_ar r u i 3) = arrV cA n (fun _ => defaultValue .char) := by
  intro cA n r u i h1 h2
  have e : mm_ar r u i 3 = .inl (mm_it u i) := rfl
  rw [e, h1]
  rfl
theorem hce_4 : ∀ (cA : ClassId) (n : Nat) (r : Nat → Nat) (u : mm_M) (i : Nat), mm_it u i = (fun _ => 0) → mm_lg u i = (fun _ => 0) → vp_cell cA (n, mm_ar r u i 4) = arrV cA n (fun _ => defaultValue .long) := by
  intro cA n r u i h1 h2
  have e : mm_ar r u i 4 = .inr (.inl (mm_lg u i)) := rfl
  rw [e, h2]
  rfl
