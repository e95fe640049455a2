theorem in_C : ∀ w ∈ u_ws R_C T_C 2, w ∈ zW := by decide +kernel
theorem in_P : ∀ w ∈ u_ws R_P T_P 1, w ∈ zW := by decide +kernel
theorem in_M : ∀ w ∈ u_ws R_M T_M 5, w ∈ zW := by decide +kernel
theorem in_O : ∀ w ∈ u_ws R_O T_O 5, w ∈ zW := by decide +kernel
theorem in_R : ∀ w ∈ u_ws R_R T_R 2, w ∈ zW := by decide +kernel
theorem in_X : ∀ w ∈ u_ws R_X T_X 7, w ∈ zW := by decide +kernel
theorem in_N : ∀ w ∈ u_ws R_N T_N 24, w ∈ zW := by decide +kernel
