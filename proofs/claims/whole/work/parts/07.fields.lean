theorem inX0 : ∀ w ∈ wsX00, w ∈ lw_tbl := by
  intro w hw
  exact List.mem_append_right _ (of_decide_eq_true (List.all_eq_true.mp (show (wsX00.all fun w => decide (w ∈ tables_1)) = true by decide +kernel) w hw))
theorem inX1 : ∀ w ∈ wsX10, w ∈ lw_tbl := by
  intro w hw
  exact List.mem_append_right _ (of_decide_eq_true (List.all_eq_true.mp (show (wsX10.all fun w => decide (w ∈ tables_1)) = true by decide +kernel) w hw))
theorem inX2 : ∀ w ∈ wsX20, w ∈ lw_tbl := by
  intro w hw
  exact List.mem_append_right _ (of_decide_eq_true (List.all_eq_true.mp (show (wsX20.all fun w => decide (w ∈ tables_1)) = true by decide +kernel) w hw))
theorem inX3 : ∀ w ∈ wsX30, w ∈ lw_tbl := by
  intro w hw
  exact List.mem_append_right _ (of_decide_eq_true (List.all_eq_true.mp (show (wsX30.all fun w => decide (w ∈ tables_1)) = true by decide +kernel) w hw))
theorem inX4 : ∀ w ∈ wsX40, w ∈ lw_tbl := by
  intro w hw
  exact List.mem_append_right _ (of_decide_eq_true (List.all_eq_true.mp (show (wsX40.all fun w => decide (w ∈ tables_1)) = true by decide +kernel) w hw))
theorem inX5 : ∀ w ∈ wsX50, w ∈ lw_tbl := by
  intro w hw
  exact List.mem_append_right _ (of_decide_eq_true (List.all_eq_true.mp (show (wsX50.all fun w => decide (w ∈ tables_1)) = true by decide +kernel) w hw))
theorem inX6 : ∀ w ∈ wsX60, w ∈ lw_tbl := by
  intro w hw
  exact List.mem_append_right _ (of_decide_eq_true (List.all_eq_true.mp (show (wsX60.all fun w => decide (w ∈ tables_1)) = true by decide +kernel) w hw))
theorem inX7 : ∀ w ∈ wsX70, w ∈ lw_tbl := by
  intro w hw
  exact List.mem_append_right _ (of_decide_eq_true (List.all_eq_true.mp (show (wsX70.all fun w => decide (w ∈ tables_1)) = true by decide +kernel) w hw))
theorem inX8 : ∀ w ∈ wsX80, w ∈ lw_tbl := by
  intro w hw
  exact List.mem_append_right _ (of_decide_eq_true (List.all_eq_true.mp (show (wsX80.all fun w => decide (w ∈ tables_1)) = true by decide +kernel) w hw))
theorem inX9 : ∀ w ∈ wsX90, w ∈ lw_tbl := by
  intro w hw
  exact List.mem_append_right _ (of_decide_eq_true (List.all_eq_true.mp (show (wsX90.all fun w => decide (w ∈ tables_1)) = true by decide +kernel) w hw))
