/-! the flow, as a known call -/
theorem kp_1 : k_ok [] kp_e1 = true := by decide +kernel
