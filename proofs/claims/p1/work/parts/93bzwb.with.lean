/-! worthWith, block by block -/
theorem lc_10_b52 : l_go (gC 10 (2147483648, 2147483747) (2147483700, 2147483700) [] []) [] 3 = true := by decide +kernel
theorem lc_10_b53 : l_go (gC 10 (2147483648, 2147483747) (2147483701, 2147483701) [] []) [] 3 = true := by decide +kernel
theorem lc_10_b54 : l_go (gC 10 (2147483648, 2147483747) (2147483702, 2147483702) [] []) [] 3 = true := by decide +kernel
theorem lc_10_b55 : l_go (gC 10 (2147483648, 2147483747) (2147483703, 2147483703) [] []) [] 3 = true := by decide +kernel
