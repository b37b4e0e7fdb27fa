/-! goOn, by its weeks -/
theorem lc_16_16 : l_go (gC 16 (2147483664, 2147483664) (0, 4294967295) [] []) (wk_all.take 16) 3 = true := by decide +kernel
theorem lc_16_17 : l_go (gC 16 (2147483665, 2147483665) (0, 4294967295) [] []) (wk_all.take 17) 3 = true := by decide +kernel
theorem lc_16_18 : l_go (gC 16 (2147483666, 2147483666) (0, 4294967295) [] []) (wk_all.take 18) 3 = true := by decide +kernel
theorem lc_16_19 : l_go (gC 16 (2147483667, 2147483667) (0, 4294967295) [] []) (wk_all.take 19) 3 = true := by decide +kernel
theorem lc_16_20 : l_go (gC 16 (2147483668, 2147483668) (0, 4294967295) [] []) (wk_all.take 20) 3 = true := by decide +kernel
