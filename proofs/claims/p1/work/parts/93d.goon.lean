/-! goOn, by its weeks -/
noncomputable section
theorem lm_13_0 : k_ok [] lm_e13_0 = true := by decide +kernel
theorem lm_13_1 : k_ok [] lm_e13_1 = true := by decide +kernel
theorem lm_13_2 : k_ok [] lm_e13_2 = true := by decide +kernel
theorem lm_13_3 : k_ok [] lm_e13_3 = true := by decide +kernel
theorem lm_13_4 : k_ok [] lm_e13_4 = true := by decide +kernel
theorem lm_13_5 : k_ok [] lm_e13_5 = true := by decide +kernel
theorem lm_13_6 : k_ok [] lm_e13_6 = true := by decide +kernel
theorem lm_13_7 : k_ok [] lm_e13_7 = true := by decide +kernel
theorem lm_13_8 : k_ok [] lm_e13_8 = true := by decide +kernel
theorem lm_13_9 : k_ok [] lm_e13_9 = true := by decide +kernel
theorem lm_13_10 : k_ok [] lm_e13_10 = true := by decide +kernel
theorem lm_13_11 : k_ok [] lm_e13_11 = true := by decide +kernel
theorem lm_13_12 : k_ok [] lm_e13_12 = true := by decide +kernel
def lm_K13 : List eK := [lm_e13_0, lm_e13_1, lm_e13_2, lm_e13_3, lm_e13_4, lm_e13_5, lm_e13_6, lm_e13_7, lm_e13_8, lm_e13_9, lm_e13_10, lm_e13_11, lm_e13_12]
theorem lm_A13 : kAll (wk_all.take 13 ++ lm_K13) := kAll_app (wk_A 13) (kAll_cons lm_13_0 kAll_nil (kAll_cons lm_13_1 kAll_nil (kAll_cons lm_13_2 kAll_nil (kAll_cons lm_13_3 kAll_nil (kAll_cons lm_13_4 kAll_nil (kAll_cons lm_13_5 kAll_nil (kAll_cons lm_13_6 kAll_nil (kAll_cons lm_13_7 kAll_nil (kAll_cons lm_13_8 kAll_nil (kAll_cons lm_13_9 kAll_nil (kAll_cons lm_13_10 kAll_nil (kAll_cons lm_13_11 kAll_nil (kAll_cons lm_13_12 kAll_nil kAll_nil)))))))))))))
theorem lc_16_13 : l_go (gC 16 (2147483661, 2147483661) (0, 4294967295) [] []) (wk_all.take 13 ++ lm_K13) 3 = true := by decide +kernel
theorem lm_14_0 : k_ok [] lm_e14_0 = true := by decide +kernel
theorem lm_14_1 : k_ok [] lm_e14_1 = true := by decide +kernel
theorem lm_14_2 : k_ok [] lm_e14_2 = true := by decide +kernel
theorem lm_14_3 : k_ok [] lm_e14_3 = true := by decide +kernel
theorem lm_14_4 : k_ok [] lm_e14_4 = true := by decide +kernel
theorem lm_14_5 : k_ok [] lm_e14_5 = true := by decide +kernel
theorem lm_14_6 : k_ok [] lm_e14_6 = true := by decide +kernel
theorem lm_14_7 : k_ok [] lm_e14_7 = true := by decide +kernel
theorem lm_14_8 : k_ok [] lm_e14_8 = true := by decide +kernel
theorem lm_14_9 : k_ok [] lm_e14_9 = true := by decide +kernel
theorem lm_14_10 : k_ok [] lm_e14_10 = true := by decide +kernel
theorem lm_14_11 : k_ok [] lm_e14_11 = true := by decide +kernel
theorem lm_14_12 : k_ok [] lm_e14_12 = true := by decide +kernel
theorem lm_14_13 : k_ok [] lm_e14_13 = true := by decide +kernel
def lm_K14 : List eK := [lm_e14_0, lm_e14_1, lm_e14_2, lm_e14_3, lm_e14_4, lm_e14_5, lm_e14_6, lm_e14_7, lm_e14_8, lm_e14_9, lm_e14_10, lm_e14_11, lm_e14_12, lm_e14_13]
theorem lm_A14 : kAll (wk_all.take 14 ++ lm_K14) := kAll_app (wk_A 14) (kAll_cons lm_14_0 kAll_nil (kAll_cons lm_14_1 kAll_nil (kAll_cons lm_14_2 kAll_nil (kAll_cons lm_14_3 kAll_nil (kAll_cons lm_14_4 kAll_nil (kAll_cons lm_14_5 kAll_nil (kAll_cons lm_14_6 kAll_nil (kAll_cons lm_14_7 kAll_nil (kAll_cons lm_14_8 kAll_nil (kAll_cons lm_14_9 kAll_nil (kAll_cons lm_14_10 kAll_nil (kAll_cons lm_14_11 kAll_nil (kAll_cons lm_14_12 kAll_nil (kAll_cons lm_14_13 kAll_nil kAll_nil))))))))))))))
theorem lc_16_14 : l_go (gC 16 (2147483662, 2147483662) (0, 4294967295) [] []) (wk_all.take 14 ++ lm_K14) 3 = true := by decide +kernel
theorem lm_15_0 : k_ok [] lm_e15_0 = true := by decide +kernel
theorem lm_15_1 : k_ok [] lm_e15_1 = true := by decide +kernel
theorem lm_15_2 : k_ok [] lm_e15_2 = true := by decide +kernel
theorem lm_15_3 : k_ok [] lm_e15_3 = true := by decide +kernel
theorem lm_15_4 : k_ok [] lm_e15_4 = true := by decide +kernel
theorem lm_15_5 : k_ok [] lm_e15_5 = true := by decide +kernel
theorem lm_15_6 : k_ok [] lm_e15_6 = true := by decide +kernel
theorem lm_15_7 : k_ok [] lm_e15_7 = true := by decide +kernel
theorem lm_15_8 : k_ok [] lm_e15_8 = true := by decide +kernel
theorem lm_15_9 : k_ok [] lm_e15_9 = true := by decide +kernel
theorem lm_15_10 : k_ok [] lm_e15_10 = true := by decide +kernel
theorem lm_15_11 : k_ok [] lm_e15_11 = true := by decide +kernel
theorem lm_15_12 : k_ok [] lm_e15_12 = true := by decide +kernel
theorem lm_15_13 : k_ok [] lm_e15_13 = true := by decide +kernel
theorem lm_15_14 : k_ok [] lm_e15_14 = true := by decide +kernel
def lm_K15 : List eK := [lm_e15_0, lm_e15_1, lm_e15_2, lm_e15_3, lm_e15_4, lm_e15_5, lm_e15_6, lm_e15_7, lm_e15_8, lm_e15_9, lm_e15_10, lm_e15_11, lm_e15_12, lm_e15_13, lm_e15_14]
theorem lm_A15 : kAll (wk_all.take 15 ++ lm_K15) := kAll_app (wk_A 15) (kAll_cons lm_15_0 kAll_nil (kAll_cons lm_15_1 kAll_nil (kAll_cons lm_15_2 kAll_nil (kAll_cons lm_15_3 kAll_nil (kAll_cons lm_15_4 kAll_nil (kAll_cons lm_15_5 kAll_nil (kAll_cons lm_15_6 kAll_nil (kAll_cons lm_15_7 kAll_nil (kAll_cons lm_15_8 kAll_nil (kAll_cons lm_15_9 kAll_nil (kAll_cons lm_15_10 kAll_nil (kAll_cons lm_15_11 kAll_nil (kAll_cons lm_15_12 kAll_nil (kAll_cons lm_15_13 kAll_nil (kAll_cons lm_15_14 kAll_nil kAll_nil)))))))))))))))
theorem lc_16_15 : l_go (gC 16 (2147483663, 2147483663) (0, 4294967295) [] []) (wk_all.take 15 ++ lm_K15) 3 = true := by decide +kernel
end
