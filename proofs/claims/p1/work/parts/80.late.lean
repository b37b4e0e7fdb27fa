/-! .. and those that want more -/
theorem t25_10 : e_ok mD25 10 (13, 0, 5, 0, 0) := sorry
theorem t27_11 : e_ok mD27 11 (13, 0, 5, 0, 0) := sorry
