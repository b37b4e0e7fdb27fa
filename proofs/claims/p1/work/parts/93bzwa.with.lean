/-! worthWith, block by block -/
theorem lc_10_b56 : l_go (gC 10 (2147483648, 2147483747) (2147483704, 2147483704) [] []) [] 3 = true := by decide +kernel
theorem lc_10_b57 : l_go (gC 10 (2147483648, 2147483747) (2147483705, 2147483705) [] []) [] 3 = true := by decide +kernel
theorem lc_10_b58 : l_go (gC 10 (2147483648, 2147483747) (2147483706, 2147483706) [] []) [] 3 = true := by decide +kernel
theorem lc_10_b59 : l_go (gC 10 (2147483648, 2147483747) (2147483707, 2147483707) [] []) [] 3 = true := by decide +kernel
