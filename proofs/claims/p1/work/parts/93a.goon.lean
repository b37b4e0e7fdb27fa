/-! goOn, by its weeks -/
theorem lc_16_1 : l_go (gC 16 (2147483649, 2147483649) (0, 4294967295) [] []) (wk_all.take 1) 3 = true := by decide +kernel
theorem lc_16_2 : l_go (gC 16 (2147483650, 2147483650) (0, 4294967295) [] []) (wk_all.take 2) 3 = true := by decide +kernel
theorem lc_16_3 : l_go (gC 16 (2147483651, 2147483651) (0, 4294967295) [] []) (wk_all.take 3) 3 = true := by decide +kernel
theorem lc_16_4 : l_go (gC 16 (2147483652, 2147483652) (0, 4294967295) [] []) (wk_all.take 4) 3 = true := by decide +kernel
theorem lc_16_5 : l_go (gC 16 (2147483653, 2147483653) (0, 4294967295) [] []) (wk_all.take 5) 3 = true := by decide +kernel
theorem lc_16_6 : l_go (gC 16 (2147483654, 2147483654) (0, 4294967295) [] []) (wk_all.take 6) 3 = true := by decide +kernel
theorem lc_16_7 : l_go (gC 16 (2147483655, 2147483655) (0, 4294967295) [] []) (wk_all.take 7) 3 = true := by decide +kernel
theorem lc_16_8 : l_go (gC 16 (2147483656, 2147483656) (0, 4294967295) [] []) (wk_all.take 8) 3 = true := by decide +kernel
theorem lc_16_9 : l_go (gC 16 (2147483657, 2147483657) (0, 4294967295) [] []) (wk_all.take 9) 3 = true := by decide +kernel
