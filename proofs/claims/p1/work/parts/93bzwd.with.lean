/-! worthWith, block by block -/
theorem lc_10_b40 : l_go (gC 10 (2147483648, 2147483747) (2147483688, 2147483688) [] []) [] 3 = true := by decide +kernel
theorem lc_10_b41 : l_go (gC 10 (2147483648, 2147483747) (2147483689, 2147483689) [] []) [] 3 = true := by decide +kernel
theorem lc_10_b42 : l_go (gC 10 (2147483648, 2147483747) (2147483690, 2147483690) [] []) [] 3 = true := by decide +kernel
theorem lc_10_b43 : l_go (gC 10 (2147483648, 2147483747) (2147483691, 2147483691) [] []) [] 3 = true := by decide +kernel
theorem lc_10_b44 : l_go (gC 10 (2147483648, 2147483747) (2147483692, 2147483692) [] []) [] 3 = true := by decide +kernel
theorem lc_10_b45 : l_go (gC 10 (2147483648, 2147483747) (2147483693, 2147483693) [] []) [] 3 = true := by decide +kernel
theorem lc_10_b46 : l_go (gC 10 (2147483648, 2147483747) (2147483694, 2147483694) [] []) [] 3 = true := by decide +kernel
theorem lc_10_b47 : l_go (gC 10 (2147483648, 2147483747) (2147483695, 2147483695) [] []) [] 3 = true := by decide +kernel
