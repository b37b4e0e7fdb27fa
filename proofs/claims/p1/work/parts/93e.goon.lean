/-! goOn, by its weeks -/
noncomputable section
theorem lm_16_0 : k_ok [] lm_e16_0 = true := by decide +kernel
theorem lm_16_1 : k_ok [] lm_e16_1 = true := by decide +kernel
theorem lm_16_2 : k_ok [] lm_e16_2 = true := by decide +kernel
theorem lm_16_3 : k_ok [] lm_e16_3 = true := by decide +kernel
theorem lm_16_4 : k_ok [] lm_e16_4 = true := by decide +kernel
theorem lm_16_5 : k_ok [] lm_e16_5 = true := by decide +kernel
theorem lm_16_6 : k_ok [] lm_e16_6 = true := by decide +kernel
theorem lm_16_7 : k_ok [] lm_e16_7 = true := by decide +kernel
theorem lm_16_8 : k_ok [] lm_e16_8 = true := by decide +kernel
theorem lm_16_9 : k_ok [] lm_e16_9 = true := by decide +kernel
theorem lm_16_10 : k_ok [] lm_e16_10 = true := by decide +kernel
theorem lm_16_11 : k_ok [] lm_e16_11 = true := by decide +kernel
theorem lm_16_12 : k_ok [] lm_e16_12 = true := by decide +kernel
theorem lm_16_13 : k_ok [] lm_e16_13 = true := by decide +kernel
theorem lm_16_14 : k_ok [] lm_e16_14 = true := by decide +kernel
theorem lm_16_15 : k_ok [] lm_e16_15 = true := by decide +kernel
def lm_K16 : List eK := [lm_e16_0, lm_e16_1, lm_e16_2, lm_e16_3, lm_e16_4, lm_e16_5, lm_e16_6, lm_e16_7, lm_e16_8, lm_e16_9, lm_e16_10, lm_e16_11, lm_e16_12, lm_e16_13, lm_e16_14, lm_e16_15]
theorem lm_A16 : kAll (wk_all.take 16 ++ lm_K16) := kAll_app (wk_A 16) (kAll_cons lm_16_0 kAll_nil (kAll_cons lm_16_1 kAll_nil (kAll_cons lm_16_2 kAll_nil (kAll_cons lm_16_3 kAll_nil (kAll_cons lm_16_4 kAll_nil (kAll_cons lm_16_5 kAll_nil (kAll_cons lm_16_6 kAll_nil (kAll_cons lm_16_7 kAll_nil (kAll_cons lm_16_8 kAll_nil (kAll_cons lm_16_9 kAll_nil (kAll_cons lm_16_10 kAll_nil (kAll_cons lm_16_11 kAll_nil (kAll_cons lm_16_12 kAll_nil (kAll_cons lm_16_13 kAll_nil (kAll_cons lm_16_14 kAll_nil (kAll_cons lm_16_15 kAll_nil kAll_nil))))))))))))))))
theorem lc_16_16 : l_go (gC 16 (2147483664, 2147483664) (0, 4294967295) [] []) (wk_all.take 16 ++ lm_K16) 3 = true := by decide +kernel
theorem lm_17_0 : k_ok [] lm_e17_0 = true := by decide +kernel
theorem lm_17_1 : k_ok [] lm_e17_1 = true := by decide +kernel
theorem lm_17_2 : k_ok [] lm_e17_2 = true := by decide +kernel
theorem lm_17_3 : k_ok [] lm_e17_3 = true := by decide +kernel
theorem lm_17_4 : k_ok [] lm_e17_4 = true := by decide +kernel
theorem lm_17_5 : k_ok [] lm_e17_5 = true := by decide +kernel
theorem lm_17_6 : k_ok [] lm_e17_6 = true := by decide +kernel
theorem lm_17_7 : k_ok [] lm_e17_7 = true := by decide +kernel
theorem lm_17_8 : k_ok [] lm_e17_8 = true := by decide +kernel
theorem lm_17_9 : k_ok [] lm_e17_9 = true := by decide +kernel
theorem lm_17_10 : k_ok [] lm_e17_10 = true := by decide +kernel
theorem lm_17_11 : k_ok [] lm_e17_11 = true := by decide +kernel
theorem lm_17_12 : k_ok [] lm_e17_12 = true := by decide +kernel
theorem lm_17_13 : k_ok [] lm_e17_13 = true := by decide +kernel
theorem lm_17_14 : k_ok [] lm_e17_14 = true := by decide +kernel
theorem lm_17_15 : k_ok [] lm_e17_15 = true := by decide +kernel
theorem lm_17_16 : k_ok [] lm_e17_16 = true := by decide +kernel
def lm_K17 : List eK := [lm_e17_0, lm_e17_1, lm_e17_2, lm_e17_3, lm_e17_4, lm_e17_5, lm_e17_6, lm_e17_7, lm_e17_8, lm_e17_9, lm_e17_10, lm_e17_11, lm_e17_12, lm_e17_13, lm_e17_14, lm_e17_15, lm_e17_16]
theorem lm_A17 : kAll (wk_all.take 17 ++ lm_K17) := kAll_app (wk_A 17) (kAll_cons lm_17_0 kAll_nil (kAll_cons lm_17_1 kAll_nil (kAll_cons lm_17_2 kAll_nil (kAll_cons lm_17_3 kAll_nil (kAll_cons lm_17_4 kAll_nil (kAll_cons lm_17_5 kAll_nil (kAll_cons lm_17_6 kAll_nil (kAll_cons lm_17_7 kAll_nil (kAll_cons lm_17_8 kAll_nil (kAll_cons lm_17_9 kAll_nil (kAll_cons lm_17_10 kAll_nil (kAll_cons lm_17_11 kAll_nil (kAll_cons lm_17_12 kAll_nil (kAll_cons lm_17_13 kAll_nil (kAll_cons lm_17_14 kAll_nil (kAll_cons lm_17_15 kAll_nil (kAll_cons lm_17_16 kAll_nil kAll_nil)))))))))))))))))
theorem lc_16_17 : l_go (gC 16 (2147483665, 2147483665) (0, 4294967295) [] []) (wk_all.take 17 ++ lm_K17) 3 = true := by decide +kernel
theorem lm_18_0 : k_ok [] lm_e18_0 = true := by decide +kernel
theorem lm_18_1 : k_ok [] lm_e18_1 = true := by decide +kernel
theorem lm_18_2 : k_ok [] lm_e18_2 = true := by decide +kernel
theorem lm_18_3 : k_ok [] lm_e18_3 = true := by decide +kernel
theorem lm_18_4 : k_ok [] lm_e18_4 = true := by decide +kernel
theorem lm_18_5 : k_ok [] lm_e18_5 = true := by decide +kernel
theorem lm_18_6 : k_ok [] lm_e18_6 = true := by decide +kernel
theorem lm_18_7 : k_ok [] lm_e18_7 = true := by decide +kernel
theorem lm_18_8 : k_ok [] lm_e18_8 = true := by decide +kernel
theorem lm_18_9 : k_ok [] lm_e18_9 = true := by decide +kernel
theorem lm_18_10 : k_ok [] lm_e18_10 = true := by decide +kernel
theorem lm_18_11 : k_ok [] lm_e18_11 = true := by decide +kernel
theorem lm_18_12 : k_ok [] lm_e18_12 = true := by decide +kernel
theorem lm_18_13 : k_ok [] lm_e18_13 = true := by decide +kernel
theorem lm_18_14 : k_ok [] lm_e18_14 = true := by decide +kernel
theorem lm_18_15 : k_ok [] lm_e18_15 = true := by decide +kernel
theorem lm_18_16 : k_ok [] lm_e18_16 = true := by decide +kernel
theorem lm_18_17 : k_ok [] lm_e18_17 = true := by decide +kernel
def lm_K18 : List eK := [lm_e18_0, lm_e18_1, lm_e18_2, lm_e18_3, lm_e18_4, lm_e18_5, lm_e18_6, lm_e18_7, lm_e18_8, lm_e18_9, lm_e18_10, lm_e18_11, lm_e18_12, lm_e18_13, lm_e18_14, lm_e18_15, lm_e18_16, lm_e18_17]
theorem lm_A18 : kAll (wk_all.take 18 ++ lm_K18) := kAll_app (wk_A 18) (kAll_cons lm_18_0 kAll_nil (kAll_cons lm_18_1 kAll_nil (kAll_cons lm_18_2 kAll_nil (kAll_cons lm_18_3 kAll_nil (kAll_cons lm_18_4 kAll_nil (kAll_cons lm_18_5 kAll_nil (kAll_cons lm_18_6 kAll_nil (kAll_cons lm_18_7 kAll_nil (kAll_cons lm_18_8 kAll_nil (kAll_cons lm_18_9 kAll_nil (kAll_cons lm_18_10 kAll_nil (kAll_cons lm_18_11 kAll_nil (kAll_cons lm_18_12 kAll_nil (kAll_cons lm_18_13 kAll_nil (kAll_cons lm_18_14 kAll_nil (kAll_cons lm_18_15 kAll_nil (kAll_cons lm_18_16 kAll_nil (kAll_cons lm_18_17 kAll_nil kAll_nil))))))))))))))))))
theorem lc_16_18 : l_go (gC 16 (2147483666, 2147483666) (0, 4294967295) [] []) (wk_all.take 18 ++ lm_K18) 3 = true := by decide +kernel
end
