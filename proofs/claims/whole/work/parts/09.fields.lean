/-- the classes' field words -/
theorem gi_X9 : ∀ w ∈ u_ws RX9 TX9 18, w ∈ lw_tbl := by decide +kernel
theorem gj_X9 : (u_ws RX9 TX9 18).all goodWord = true := by decide +kernel
theorem i_X9 : ∀ w ∈ u_ws RX9 TX9 18, w ∈ gT := fun w hw => gT_mem (gi_X9 w hw) (List.all_eq_true.mp gj_X9 w hw)
theorem gi_X0 : ∀ w ∈ u_ws RX0 TX0 2, w ∈ lw_tbl := by decide +kernel
theorem gj_X0 : (u_ws RX0 TX0 2).all goodWord = true := by decide +kernel
theorem i_X0 : ∀ w ∈ u_ws RX0 TX0 2, w ∈ gT := fun w hw => gT_mem (gi_X0 w hw) (List.all_eq_true.mp gj_X0 w hw)
theorem gi_X1 : ∀ w ∈ u_ws RX1 TX1 2, w ∈ lw_tbl := by decide +kernel
theorem gj_X1 : (u_ws RX1 TX1 2).all goodWord = true := by decide +kernel
theorem i_X1 : ∀ w ∈ u_ws RX1 TX1 2, w ∈ gT := fun w hw => gT_mem (gi_X1 w hw) (List.all_eq_true.mp gj_X1 w hw)
theorem gi_X2 : ∀ w ∈ u_ws RX2 TX2 2, w ∈ lw_tbl := by decide +kernel
theorem gj_X2 : (u_ws RX2 TX2 2).all goodWord = true := by decide +kernel
theorem i_X2 : ∀ w ∈ u_ws RX2 TX2 2, w ∈ gT := fun w hw => gT_mem (gi_X2 w hw) (List.all_eq_true.mp gj_X2 w hw)
theorem gi_X3 : ∀ w ∈ u_ws RX3 TX3 3, w ∈ lw_tbl := by decide +kernel
theorem gj_X3 : (u_ws RX3 TX3 3).all goodWord = true := by decide +kernel
theorem i_X3 : ∀ w ∈ u_ws RX3 TX3 3, w ∈ gT := fun w hw => gT_mem (gi_X3 w hw) (List.all_eq_true.mp gj_X3 w hw)
theorem gi_X4 : ∀ w ∈ u_ws RX4 TX4 3, w ∈ lw_tbl := by decide +kernel
theorem gj_X4 : (u_ws RX4 TX4 3).all goodWord = true := by decide +kernel
theorem i_X4 : ∀ w ∈ u_ws RX4 TX4 3, w ∈ gT := fun w hw => gT_mem (gi_X4 w hw) (List.all_eq_true.mp gj_X4 w hw)
theorem gi_X5 : ∀ w ∈ u_ws RX5 TX5 7, w ∈ lw_tbl := by decide +kernel
theorem gj_X5 : (u_ws RX5 TX5 7).all goodWord = true := by decide +kernel
theorem i_X5 : ∀ w ∈ u_ws RX5 TX5 7, w ∈ gT := fun w hw => gT_mem (gi_X5 w hw) (List.all_eq_true.mp gj_X5 w hw)
theorem gi_X6 : ∀ w ∈ u_ws RX6 TX6 4, w ∈ lw_tbl := by decide +kernel
theorem gj_X6 : (u_ws RX6 TX6 4).all goodWord = true := by decide +kernel
theorem i_X6 : ∀ w ∈ u_ws RX6 TX6 4, w ∈ gT := fun w hw => gT_mem (gi_X6 w hw) (List.all_eq_true.mp gj_X6 w hw)
theorem gi_X7 : ∀ w ∈ u_ws RX7 TX7 4, w ∈ lw_tbl := by decide +kernel
theorem gj_X7 : (u_ws RX7 TX7 4).all goodWord = true := by decide +kernel
theorem i_X7 : ∀ w ∈ u_ws RX7 TX7 4, w ∈ gT := fun w hw => gT_mem (gi_X7 w hw) (List.all_eq_true.mp gj_X7 w hw)
theorem gi_X8 : ∀ w ∈ u_ws RX8 TX8 13, w ∈ lw_tbl := by decide +kernel
theorem gj_X8 : (u_ws RX8 TX8 13).all goodWord = true := by decide +kernel
theorem i_X8 : ∀ w ∈ u_ws RX8 TX8 13, w ∈ gT := fun w hw => gT_mem (gi_X8 w hw) (List.all_eq_true.mp gj_X8 w hw)
