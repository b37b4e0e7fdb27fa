/-! every entry of the tables -/
theorem t219_130 : e_ok mD219 130 (1, 0, 1, 0, 131) := okl_iload_n dX13_given_130 rfl
theorem t219_131 : e_ok mD219 131 (12, 1, 0, 0, 0) := okr_int dX13_given_131 rfl
