/-! goOn, by its weeks -/
noncomputable section
theorem lm_9_0 : k_ok [] lm_e9_0 = true := by decide +kernel
theorem lm_9_1 : k_ok [] lm_e9_1 = true := by decide +kernel
theorem lm_9_2 : k_ok [] lm_e9_2 = true := by decide +kernel
theorem lm_9_3 : k_ok [] lm_e9_3 = true := by decide +kernel
theorem lm_9_4 : k_ok [] lm_e9_4 = true := by decide +kernel
theorem lm_9_5 : k_ok [] lm_e9_5 = true := by decide +kernel
theorem lm_9_6 : k_ok [] lm_e9_6 = true := by decide +kernel
theorem lm_9_7 : k_ok [] lm_e9_7 = true := by decide +kernel
theorem lm_9_8 : k_ok [] lm_e9_8 = true := by decide +kernel
def lm_K9 : List eK := [lm_e9_0, lm_e9_1, lm_e9_2, lm_e9_3, lm_e9_4, lm_e9_5, lm_e9_6, lm_e9_7, lm_e9_8]
theorem lm_A9 : kAll (wk_all.take 9 ++ lm_K9) := kAll_app (wk_A 9) (kAll_cons lm_9_0 kAll_nil (kAll_cons lm_9_1 kAll_nil (kAll_cons lm_9_2 kAll_nil (kAll_cons lm_9_3 kAll_nil (kAll_cons lm_9_4 kAll_nil (kAll_cons lm_9_5 kAll_nil (kAll_cons lm_9_6 kAll_nil (kAll_cons lm_9_7 kAll_nil (kAll_cons lm_9_8 kAll_nil kAll_nil)))))))))
theorem lc_16_9 : l_go (gC 16 (2147483657, 2147483657) (0, 4294967295) [] []) (wk_all.take 9 ++ lm_K9) 3 = true := by decide +kernel
theorem lm_10_0 : k_ok [] lm_e10_0 = true := by decide +kernel
theorem lm_10_1 : k_ok [] lm_e10_1 = true := by decide +kernel
theorem lm_10_2 : k_ok [] lm_e10_2 = true := by decide +kernel
theorem lm_10_3 : k_ok [] lm_e10_3 = true := by decide +kernel
theorem lm_10_4 : k_ok [] lm_e10_4 = true := by decide +kernel
theorem lm_10_5 : k_ok [] lm_e10_5 = true := by decide +kernel
theorem lm_10_6 : k_ok [] lm_e10_6 = true := by decide +kernel
theorem lm_10_7 : k_ok [] lm_e10_7 = true := by decide +kernel
theorem lm_10_8 : k_ok [] lm_e10_8 = true := by decide +kernel
theorem lm_10_9 : k_ok [] lm_e10_9 = true := by decide +kernel
def lm_K10 : List eK := [lm_e10_0, lm_e10_1, lm_e10_2, lm_e10_3, lm_e10_4, lm_e10_5, lm_e10_6, lm_e10_7, lm_e10_8, lm_e10_9]
theorem lm_A10 : kAll (wk_all.take 10 ++ lm_K10) := kAll_app (wk_A 10) (kAll_cons lm_10_0 kAll_nil (kAll_cons lm_10_1 kAll_nil (kAll_cons lm_10_2 kAll_nil (kAll_cons lm_10_3 kAll_nil (kAll_cons lm_10_4 kAll_nil (kAll_cons lm_10_5 kAll_nil (kAll_cons lm_10_6 kAll_nil (kAll_cons lm_10_7 kAll_nil (kAll_cons lm_10_8 kAll_nil (kAll_cons lm_10_9 kAll_nil kAll_nil))))))))))
theorem lc_16_10 : l_go (gC 16 (2147483658, 2147483658) (0, 4294967295) [] []) (wk_all.take 10 ++ lm_K10) 3 = true := by decide +kernel
theorem lm_11_0 : k_ok [] lm_e11_0 = true := by decide +kernel
theorem lm_11_1 : k_ok [] lm_e11_1 = true := by decide +kernel
theorem lm_11_2 : k_ok [] lm_e11_2 = true := by decide +kernel
theorem lm_11_3 : k_ok [] lm_e11_3 = true := by decide +kernel
theorem lm_11_4 : k_ok [] lm_e11_4 = true := by decide +kernel
theorem lm_11_5 : k_ok [] lm_e11_5 = true := by decide +kernel
theorem lm_11_6 : k_ok [] lm_e11_6 = true := by decide +kernel
theorem lm_11_7 : k_ok [] lm_e11_7 = true := by decide +kernel
theorem lm_11_8 : k_ok [] lm_e11_8 = true := by decide +kernel
theorem lm_11_9 : k_ok [] lm_e11_9 = true := by decide +kernel
theorem lm_11_10 : k_ok [] lm_e11_10 = true := by decide +kernel
def lm_K11 : List eK := [lm_e11_0, lm_e11_1, lm_e11_2, lm_e11_3, lm_e11_4, lm_e11_5, lm_e11_6, lm_e11_7, lm_e11_8, lm_e11_9, lm_e11_10]
theorem lm_A11 : kAll (wk_all.take 11 ++ lm_K11) := kAll_app (wk_A 11) (kAll_cons lm_11_0 kAll_nil (kAll_cons lm_11_1 kAll_nil (kAll_cons lm_11_2 kAll_nil (kAll_cons lm_11_3 kAll_nil (kAll_cons lm_11_4 kAll_nil (kAll_cons lm_11_5 kAll_nil (kAll_cons lm_11_6 kAll_nil (kAll_cons lm_11_7 kAll_nil (kAll_cons lm_11_8 kAll_nil (kAll_cons lm_11_9 kAll_nil (kAll_cons lm_11_10 kAll_nil kAll_nil)))))))))))
theorem lc_16_11 : l_go (gC 16 (2147483659, 2147483659) (0, 4294967295) [] []) (wk_all.take 11 ++ lm_K11) 3 = true := by decide +kernel
theorem lm_12_0 : k_ok [] lm_e12_0 = true := by decide +kernel
theorem lm_12_1 : k_ok [] lm_e12_1 = true := by decide +kernel
theorem lm_12_2 : k_ok [] lm_e12_2 = true := by decide +kernel
theorem lm_12_3 : k_ok [] lm_e12_3 = true := by decide +kernel
theorem lm_12_4 : k_ok [] lm_e12_4 = true := by decide +kernel
theorem lm_12_5 : k_ok [] lm_e12_5 = true := by decide +kernel
theorem lm_12_6 : k_ok [] lm_e12_6 = true := by decide +kernel
theorem lm_12_7 : k_ok [] lm_e12_7 = true := by decide +kernel
theorem lm_12_8 : k_ok [] lm_e12_8 = true := by decide +kernel
theorem lm_12_9 : k_ok [] lm_e12_9 = true := by decide +kernel
theorem lm_12_10 : k_ok [] lm_e12_10 = true := by decide +kernel
theorem lm_12_11 : k_ok [] lm_e12_11 = true := by decide +kernel
def lm_K12 : List eK := [lm_e12_0, lm_e12_1, lm_e12_2, lm_e12_3, lm_e12_4, lm_e12_5, lm_e12_6, lm_e12_7, lm_e12_8, lm_e12_9, lm_e12_10, lm_e12_11]
theorem lm_A12 : kAll (wk_all.take 12 ++ lm_K12) := kAll_app (wk_A 12) (kAll_cons lm_12_0 kAll_nil (kAll_cons lm_12_1 kAll_nil (kAll_cons lm_12_2 kAll_nil (kAll_cons lm_12_3 kAll_nil (kAll_cons lm_12_4 kAll_nil (kAll_cons lm_12_5 kAll_nil (kAll_cons lm_12_6 kAll_nil (kAll_cons lm_12_7 kAll_nil (kAll_cons lm_12_8 kAll_nil (kAll_cons lm_12_9 kAll_nil (kAll_cons lm_12_10 kAll_nil (kAll_cons lm_12_11 kAll_nil kAll_nil))))))))))))
theorem lc_16_12 : l_go (gC 16 (2147483660, 2147483660) (0, 4294967295) [] []) (wk_all.take 12 ++ lm_K12) 3 = true := by decide +kernel
end
