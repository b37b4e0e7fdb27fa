/-! worthWith, block by block -/
theorem lc_10_b0 : l_go (gC 10 (2147483648, 2147483747) (2147483648, 2147483648) [] []) [] 3 = true := by decide +kernel
theorem lc_10_b1 : l_go (gC 10 (2147483648, 2147483747) (2147483649, 2147483649) [] []) [] 3 = true := by decide +kernel
theorem lc_10_b2 : l_go (gC 10 (2147483648, 2147483747) (2147483650, 2147483650) [] []) [] 3 = true := by decide +kernel
theorem lc_10_b3 : l_go (gC 10 (2147483648, 2147483747) (2147483651, 2147483651) [] []) [] 3 = true := by decide +kernel
theorem lc_10_b4 : l_go (gC 10 (2147483648, 2147483747) (2147483652, 2147483652) [] []) [] 3 = true := by decide +kernel
theorem lc_10_b5 : l_go (gC 10 (2147483648, 2147483747) (2147483653, 2147483653) [] []) [] 3 = true := by decide +kernel
theorem lc_10_b6 : l_go (gC 10 (2147483648, 2147483747) (2147483654, 2147483654) [] []) [] 3 = true := by decide +kernel
theorem lc_10_b7 : l_go (gC 10 (2147483648, 2147483747) (2147483655, 2147483655) [] []) [] 3 = true := by decide +kernel
theorem lc_10_b8 : l_go (gC 10 (2147483648, 2147483747) (2147483656, 2147483656) [] []) [] 3 = true := by decide +kernel
theorem lc_10_b9 : l_go (gC 10 (2147483648, 2147483747) (2147483657, 2147483657) [] []) [] 3 = true := by decide +kernel
theorem lc_10_b10 : l_go (gC 10 (2147483648, 2147483747) (2147483658, 2147483658) [] []) [] 3 = true := by decide +kernel
theorem lc_10_b11 : l_go (gC 10 (2147483648, 2147483747) (2147483659, 2147483659) [] []) [] 3 = true := by decide +kernel
theorem lc_10_b12 : l_go (gC 10 (2147483648, 2147483747) (2147483660, 2147483660) [] []) [] 3 = true := by decide +kernel
theorem lc_10_b13 : l_go (gC 10 (2147483648, 2147483747) (2147483661, 2147483661) [] []) [] 3 = true := by decide +kernel
theorem lc_10_b14 : l_go (gC 10 (2147483648, 2147483747) (2147483662, 2147483662) [] []) [] 3 = true := by decide +kernel
