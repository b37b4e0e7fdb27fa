/-! goOn, by its weeks -/
theorem lc_16_10 : l_go (gC 16 (2147483658, 2147483658) (0, 4294967295) [] []) (wk_all.take 10) 3 = true := by decide +kernel
theorem lc_16_11 : l_go (gC 16 (2147483659, 2147483659) (0, 4294967295) [] []) (wk_all.take 11) 3 = true := by decide +kernel
theorem lc_16_12 : l_go (gC 16 (2147483660, 2147483660) (0, 4294967295) [] []) (wk_all.take 12) 3 = true := by decide +kernel
theorem lc_16_13 : l_go (gC 16 (2147483661, 2147483661) (0, 4294967295) [] []) (wk_all.take 13) 3 = true := by decide +kernel
theorem lc_16_14 : l_go (gC 16 (2147483662, 2147483662) (0, 4294967295) [] []) (wk_all.take 14) 3 = true := by decide +kernel
theorem lc_16_15 : l_go (gC 16 (2147483663, 2147483663) (0, 4294967295) [] []) (wk_all.take 15) 3 = true := by decide +kernel
