/-! goOn, by its weeks -/
noncomputable section
theorem lm_19_0 : k_ok [] lm_e19_0 = true := by decide +kernel
theorem lm_19_1 : k_ok [] lm_e19_1 = true := by decide +kernel
theorem lm_19_2 : k_ok [] lm_e19_2 = true := by decide +kernel
theorem lm_19_3 : k_ok [] lm_e19_3 = true := by decide +kernel
theorem lm_19_4 : k_ok [] lm_e19_4 = true := by decide +kernel
theorem lm_19_5 : k_ok [] lm_e19_5 = true := by decide +kernel
theorem lm_19_6 : k_ok [] lm_e19_6 = true := by decide +kernel
theorem lm_19_7 : k_ok [] lm_e19_7 = true := by decide +kernel
theorem lm_19_8 : k_ok [] lm_e19_8 = true := by decide +kernel
theorem lm_19_9 : k_ok [] lm_e19_9 = true := by decide +kernel
theorem lm_19_10 : k_ok [] lm_e19_10 = true := by decide +kernel
theorem lm_19_11 : k_ok [] lm_e19_11 = true := by decide +kernel
theorem lm_19_12 : k_ok [] lm_e19_12 = true := by decide +kernel
theorem lm_19_13 : k_ok [] lm_e19_13 = true := by decide +kernel
theorem lm_19_14 : k_ok [] lm_e19_14 = true := by decide +kernel
theorem lm_19_15 : k_ok [] lm_e19_15 = true := by decide +kernel
theorem lm_19_16 : k_ok [] lm_e19_16 = true := by decide +kernel
theorem lm_19_17 : k_ok [] lm_e19_17 = true := by decide +kernel
theorem lm_19_18 : k_ok [] lm_e19_18 = true := by decide +kernel
def lm_K19 : List eK := [lm_e19_0, lm_e19_1, lm_e19_2, lm_e19_3, lm_e19_4, lm_e19_5, lm_e19_6, lm_e19_7, lm_e19_8, lm_e19_9, lm_e19_10, lm_e19_11, lm_e19_12, lm_e19_13, lm_e19_14, lm_e19_15, lm_e19_16, lm_e19_17, lm_e19_18]
theorem lm_A19 : kAll (wk_all.take 19 ++ lm_K19) := kAll_app (wk_A 19) (kAll_cons lm_19_0 kAll_nil (kAll_cons lm_19_1 kAll_nil (kAll_cons lm_19_2 kAll_nil (kAll_cons lm_19_3 kAll_nil (kAll_cons lm_19_4 kAll_nil (kAll_cons lm_19_5 kAll_nil (kAll_cons lm_19_6 kAll_nil (kAll_cons lm_19_7 kAll_nil (kAll_cons lm_19_8 kAll_nil (kAll_cons lm_19_9 kAll_nil (kAll_cons lm_19_10 kAll_nil (kAll_cons lm_19_11 kAll_nil (kAll_cons lm_19_12 kAll_nil (kAll_cons lm_19_13 kAll_nil (kAll_cons lm_19_14 kAll_nil (kAll_cons lm_19_15 kAll_nil (kAll_cons lm_19_16 kAll_nil (kAll_cons lm_19_17 kAll_nil (kAll_cons lm_19_18 kAll_nil kAll_nil)))))))))))))))))))
theorem lc_16_19 : l_go (gC 16 (2147483667, 2147483667) (0, 4294967295) [] []) (wk_all.take 19 ++ lm_K19) 3 = true := by decide +kernel
theorem lm_20_0 : k_ok [] lm_e20_0 = true := by decide +kernel
theorem lm_20_1 : k_ok [] lm_e20_1 = true := by decide +kernel
theorem lm_20_2 : k_ok [] lm_e20_2 = true := by decide +kernel
theorem lm_20_3 : k_ok [] lm_e20_3 = true := by decide +kernel
theorem lm_20_4 : k_ok [] lm_e20_4 = true := by decide +kernel
theorem lm_20_5 : k_ok [] lm_e20_5 = true := by decide +kernel
theorem lm_20_6 : k_ok [] lm_e20_6 = true := by decide +kernel
theorem lm_20_7 : k_ok [] lm_e20_7 = true := by decide +kernel
theorem lm_20_8 : k_ok [] lm_e20_8 = true := by decide +kernel
theorem lm_20_9 : k_ok [] lm_e20_9 = true := by decide +kernel
theorem lm_20_10 : k_ok [] lm_e20_10 = true := by decide +kernel
theorem lm_20_11 : k_ok [] lm_e20_11 = true := by decide +kernel
theorem lm_20_12 : k_ok [] lm_e20_12 = true := by decide +kernel
theorem lm_20_13 : k_ok [] lm_e20_13 = true := by decide +kernel
theorem lm_20_14 : k_ok [] lm_e20_14 = true := by decide +kernel
theorem lm_20_15 : k_ok [] lm_e20_15 = true := by decide +kernel
theorem lm_20_16 : k_ok [] lm_e20_16 = true := by decide +kernel
theorem lm_20_17 : k_ok [] lm_e20_17 = true := by decide +kernel
theorem lm_20_18 : k_ok [] lm_e20_18 = true := by decide +kernel
theorem lm_20_19 : k_ok [] lm_e20_19 = true := by decide +kernel
def lm_K20 : List eK := [lm_e20_0, lm_e20_1, lm_e20_2, lm_e20_3, lm_e20_4, lm_e20_5, lm_e20_6, lm_e20_7, lm_e20_8, lm_e20_9, lm_e20_10, lm_e20_11, lm_e20_12, lm_e20_13, lm_e20_14, lm_e20_15, lm_e20_16, lm_e20_17, lm_e20_18, lm_e20_19]
theorem lm_A20 : kAll (wk_all.take 20 ++ lm_K20) := kAll_app (wk_A 20) (kAll_cons lm_20_0 kAll_nil (kAll_cons lm_20_1 kAll_nil (kAll_cons lm_20_2 kAll_nil (kAll_cons lm_20_3 kAll_nil (kAll_cons lm_20_4 kAll_nil (kAll_cons lm_20_5 kAll_nil (kAll_cons lm_20_6 kAll_nil (kAll_cons lm_20_7 kAll_nil (kAll_cons lm_20_8 kAll_nil (kAll_cons lm_20_9 kAll_nil (kAll_cons lm_20_10 kAll_nil (kAll_cons lm_20_11 kAll_nil (kAll_cons lm_20_12 kAll_nil (kAll_cons lm_20_13 kAll_nil (kAll_cons lm_20_14 kAll_nil (kAll_cons lm_20_15 kAll_nil (kAll_cons lm_20_16 kAll_nil (kAll_cons lm_20_17 kAll_nil (kAll_cons lm_20_18 kAll_nil (kAll_cons lm_20_19 kAll_nil kAll_nil))))))))))))))))))))
theorem lc_16_20 : l_go (gC 16 (2147483668, 2147483668) (0, 4294967295) [] []) (wk_all.take 20 ++ lm_K20) 3 = true := by decide +kernel
end
