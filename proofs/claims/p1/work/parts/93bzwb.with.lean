/-! worthWith, block by block -/
theorem lc_10_b15 : l_go (gC 10 (2147483648, 2147483747) (2147483663, 2147483663) [] []) [] 3 = true := by decide +kernel
theorem lc_10_b16 : l_go (gC 10 (2147483648, 2147483747) (2147483664, 2147483664) [] []) [] 3 = true := by decide +kernel
theorem lc_10_b17 : l_go (gC 10 (2147483648, 2147483747) (2147483665, 2147483665) [] []) [] 3 = true := by decide +kernel
theorem lc_10_b18 : l_go (gC 10 (2147483648, 2147483747) (2147483666, 2147483666) [] []) [] 3 = true := by decide +kernel
theorem lc_10_b19 : l_go (gC 10 (2147483648, 2147483747) (2147483667, 2147483667) [] []) [] 3 = true := by decide +kernel
theorem lc_10_b20 : l_go (gC 10 (2147483648, 2147483747) (2147483668, 2147483668) [] []) [] 3 = true := by decide +kernel
theorem lc_10_b21 : l_go (gC 10 (2147483648, 2147483747) (2147483669, 2147483669) [] []) [] 3 = true := by decide +kernel
theorem lc_10_b22 : l_go (gC 10 (2147483648, 2147483747) (2147483670, 2147483670) [] []) [] 3 = true := by decide +kernel
theorem lc_10_b23 : l_go (gC 10 (2147483648, 2147483747) (2147483671, 2147483671) [] []) [] 3 = true := by decide +kernel
theorem lc_10_b24 : l_go (gC 10 (2147483648, 2147483747) (2147483672, 2147483672) [] []) [] 3 = true := by decide +kernel
theorem lc_10_b25 : l_go (gC 10 (2147483648, 2147483747) (2147483673, 2147483673) [] []) [] 3 = true := by decide +kernel
theorem lc_10_b26 : l_go (gC 10 (2147483648, 2147483747) (2147483674, 2147483674) [] []) [] 3 = true := by decide +kernel
theorem lc_10_b27 : l_go (gC 10 (2147483648, 2147483747) (2147483675, 2147483675) [] []) [] 3 = true := by decide +kernel
theorem lc_10_b28 : l_go (gC 10 (2147483648, 2147483747) (2147483676, 2147483676) [] []) [] 3 = true := by decide +kernel
theorem lc_10_b29 : l_go (gC 10 (2147483648, 2147483747) (2147483677, 2147483677) [] []) [] 3 = true := by decide +kernel
