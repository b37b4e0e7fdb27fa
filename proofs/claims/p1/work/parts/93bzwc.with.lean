/-! worthWith, block by block -/
theorem lc_10_b48 : l_go (gC 10 (2147483648, 2147483747) (2147483696, 2147483696) [] []) [] 3 = true := by decide +kernel
theorem lc_10_b49 : l_go (gC 10 (2147483648, 2147483747) (2147483697, 2147483697) [] []) [] 3 = true := by decide +kernel
theorem lc_10_b50 : l_go (gC 10 (2147483648, 2147483747) (2147483698, 2147483698) [] []) [] 3 = true := by decide +kernel
theorem lc_10_b51 : l_go (gC 10 (2147483648, 2147483747) (2147483699, 2147483699) [] []) [] 3 = true := by decide +kernel
