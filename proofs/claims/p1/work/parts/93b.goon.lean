/-! goOn, by its weeks -/
noncomputable section
theorem lm_1_0 : k_ok [] lm_e1_0 = true := by decide +kernel
def lm_K1 : List eK := [lm_e1_0]
theorem lm_A1 : kAll (wk_all.take 1 ++ lm_K1) := kAll_app (wk_A 1) (kAll_cons lm_1_0 kAll_nil kAll_nil)
theorem lc_16_1 : l_go (gC 16 (2147483649, 2147483649) (0, 4294967295) [] []) (wk_all.take 1 ++ lm_K1) 3 = true := by decide +kernel
theorem lm_2_0 : k_ok [] lm_e2_0 = true := by decide +kernel
theorem lm_2_1 : k_ok [] lm_e2_1 = true := by decide +kernel
def lm_K2 : List eK := [lm_e2_0, lm_e2_1]
theorem lm_A2 : kAll (wk_all.take 2 ++ lm_K2) := kAll_app (wk_A 2) (kAll_cons lm_2_0 kAll_nil (kAll_cons lm_2_1 kAll_nil kAll_nil))
theorem lc_16_2 : l_go (gC 16 (2147483650, 2147483650) (0, 4294967295) [] []) (wk_all.take 2 ++ lm_K2) 3 = true := by decide +kernel
theorem lm_3_0 : k_ok [] lm_e3_0 = true := by decide +kernel
theorem lm_3_1 : k_ok [] lm_e3_1 = true := by decide +kernel
theorem lm_3_2 : k_ok [] lm_e3_2 = true := by decide +kernel
def lm_K3 : List eK := [lm_e3_0, lm_e3_1, lm_e3_2]
theorem lm_A3 : kAll (wk_all.take 3 ++ lm_K3) := kAll_app (wk_A 3) (kAll_cons lm_3_0 kAll_nil (kAll_cons lm_3_1 kAll_nil (kAll_cons lm_3_2 kAll_nil kAll_nil)))
theorem lc_16_3 : l_go (gC 16 (2147483651, 2147483651) (0, 4294967295) [] []) (wk_all.take 3 ++ lm_K3) 3 = true := by decide +kernel
theorem lm_4_0 : k_ok [] lm_e4_0 = true := by decide +kernel
theorem lm_4_1 : k_ok [] lm_e4_1 = true := by decide +kernel
theorem lm_4_2 : k_ok [] lm_e4_2 = true := by decide +kernel
theorem lm_4_3 : k_ok [] lm_e4_3 = true := by decide +kernel
def lm_K4 : List eK := [lm_e4_0, lm_e4_1, lm_e4_2, lm_e4_3]
theorem lm_A4 : kAll (wk_all.take 4 ++ lm_K4) := kAll_app (wk_A 4) (kAll_cons lm_4_0 kAll_nil (kAll_cons lm_4_1 kAll_nil (kAll_cons lm_4_2 kAll_nil (kAll_cons lm_4_3 kAll_nil kAll_nil))))
theorem lc_16_4 : l_go (gC 16 (2147483652, 2147483652) (0, 4294967295) [] []) (wk_all.take 4 ++ lm_K4) 3 = true := by decide +kernel
theorem lm_5_0 : k_ok [] lm_e5_0 = true := by decide +kernel
theorem lm_5_1 : k_ok [] lm_e5_1 = true := by decide +kernel
theorem lm_5_2 : k_ok [] lm_e5_2 = true := by decide +kernel
theorem lm_5_3 : k_ok [] lm_e5_3 = true := by decide +kernel
theorem lm_5_4 : k_ok [] lm_e5_4 = true := by decide +kernel
def lm_K5 : List eK := [lm_e5_0, lm_e5_1, lm_e5_2, lm_e5_3, lm_e5_4]
theorem lm_A5 : kAll (wk_all.take 5 ++ lm_K5) := kAll_app (wk_A 5) (kAll_cons lm_5_0 kAll_nil (kAll_cons lm_5_1 kAll_nil (kAll_cons lm_5_2 kAll_nil (kAll_cons lm_5_3 kAll_nil (kAll_cons lm_5_4 kAll_nil kAll_nil)))))
theorem lc_16_5 : l_go (gC 16 (2147483653, 2147483653) (0, 4294967295) [] []) (wk_all.take 5 ++ lm_K5) 3 = true := by decide +kernel
theorem lm_6_0 : k_ok [] lm_e6_0 = true := by decide +kernel
theorem lm_6_1 : k_ok [] lm_e6_1 = true := by decide +kernel
theorem lm_6_2 : k_ok [] lm_e6_2 = true := by decide +kernel
theorem lm_6_3 : k_ok [] lm_e6_3 = true := by decide +kernel
theorem lm_6_4 : k_ok [] lm_e6_4 = true := by decide +kernel
theorem lm_6_5 : k_ok [] lm_e6_5 = true := by decide +kernel
def lm_K6 : List eK := [lm_e6_0, lm_e6_1, lm_e6_2, lm_e6_3, lm_e6_4, lm_e6_5]
theorem lm_A6 : kAll (wk_all.take 6 ++ lm_K6) := kAll_app (wk_A 6) (kAll_cons lm_6_0 kAll_nil (kAll_cons lm_6_1 kAll_nil (kAll_cons lm_6_2 kAll_nil (kAll_cons lm_6_3 kAll_nil (kAll_cons lm_6_4 kAll_nil (kAll_cons lm_6_5 kAll_nil kAll_nil))))))
theorem lc_16_6 : l_go (gC 16 (2147483654, 2147483654) (0, 4294967295) [] []) (wk_all.take 6 ++ lm_K6) 3 = true := by decide +kernel
theorem lm_7_0 : k_ok [] lm_e7_0 = true := by decide +kernel
theorem lm_7_1 : k_ok [] lm_e7_1 = true := by decide +kernel
theorem lm_7_2 : k_ok [] lm_e7_2 = true := by decide +kernel
theorem lm_7_3 : k_ok [] lm_e7_3 = true := by decide +kernel
theorem lm_7_4 : k_ok [] lm_e7_4 = true := by decide +kernel
theorem lm_7_5 : k_ok [] lm_e7_5 = true := by decide +kernel
theorem lm_7_6 : k_ok [] lm_e7_6 = true := by decide +kernel
def lm_K7 : List eK := [lm_e7_0, lm_e7_1, lm_e7_2, lm_e7_3, lm_e7_4, lm_e7_5, lm_e7_6]
theorem lm_A7 : kAll (wk_all.take 7 ++ lm_K7) := kAll_app (wk_A 7) (kAll_cons lm_7_0 kAll_nil (kAll_cons lm_7_1 kAll_nil (kAll_cons lm_7_2 kAll_nil (kAll_cons lm_7_3 kAll_nil (kAll_cons lm_7_4 kAll_nil (kAll_cons lm_7_5 kAll_nil (kAll_cons lm_7_6 kAll_nil kAll_nil)))))))
theorem lc_16_7 : l_go (gC 16 (2147483655, 2147483655) (0, 4294967295) [] []) (wk_all.take 7 ++ lm_K7) 3 = true := by decide +kernel
theorem lm_8_0 : k_ok [] lm_e8_0 = true := by decide +kernel
theorem lm_8_1 : k_ok [] lm_e8_1 = true := by decide +kernel
theorem lm_8_2 : k_ok [] lm_e8_2 = true := by decide +kernel
theorem lm_8_3 : k_ok [] lm_e8_3 = true := by decide +kernel
theorem lm_8_4 : k_ok [] lm_e8_4 = true := by decide +kernel
theorem lm_8_5 : k_ok [] lm_e8_5 = true := by decide +kernel
theorem lm_8_6 : k_ok [] lm_e8_6 = true := by decide +kernel
theorem lm_8_7 : k_ok [] lm_e8_7 = true := by decide +kernel
def lm_K8 : List eK := [lm_e8_0, lm_e8_1, lm_e8_2, lm_e8_3, lm_e8_4, lm_e8_5, lm_e8_6, lm_e8_7]
theorem lm_A8 : kAll (wk_all.take 8 ++ lm_K8) := kAll_app (wk_A 8) (kAll_cons lm_8_0 kAll_nil (kAll_cons lm_8_1 kAll_nil (kAll_cons lm_8_2 kAll_nil (kAll_cons lm_8_3 kAll_nil (kAll_cons lm_8_4 kAll_nil (kAll_cons lm_8_5 kAll_nil (kAll_cons lm_8_6 kAll_nil (kAll_cons lm_8_7 kAll_nil kAll_nil))))))))
theorem lc_16_8 : l_go (gC 16 (2147483656, 2147483656) (0, 4294967295) [] []) (wk_all.take 8 ++ lm_K8) 3 = true := by decide +kernel
end
