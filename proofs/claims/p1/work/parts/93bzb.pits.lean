/-! the pits -/
noncomputable section
def kp_K7 : List eK := [kp_e0, kp_e1]
theorem kp_A7 : kAll kp_K7 := (kAll_cons kp_0 kAll_nil (kAll_run (q := 1) (j := 3) (m := 0) lx_all (by decide +kernel) kAll_nil kAll_nil))
theorem lc_7_m : l_go (gC 7 (2147483648, 2147483747) (0, 4294967295) [] []) kp_K7 3 = true := by decide +kernel
def kp_K8 : List eK := [kp_e0, kp_e1]
theorem kp_A8 : kAll kp_K8 := (kAll_cons kp_0 kAll_nil (kAll_run (q := 1) (j := 3) (m := 0) lx_all (by decide +kernel) kAll_nil kAll_nil))
theorem lc_8_m : l_go (gC 8 (2147483648, 2147483747) (0, 4294967295) [] []) kp_K8 3 = true := by decide +kernel
def kp_K9 : List eK := [kp_e0, kp_e1]
theorem kp_A9 : kAll kp_K9 := (kAll_cons kp_0 kAll_nil (kAll_run (q := 1) (j := 3) (m := 0) lx_all (by decide +kernel) kAll_nil kAll_nil))
theorem lc_9_m : l_go (gC 9 (2147483648, 2147483747) (2147483648, 2147483707) [(2147483648, 2147483653), (2147483648, 2147483657)] [(3, 2, 10, 4), (4, 2, 10, 5)]) kp_K9 3 = true := by decide +kernel
end
