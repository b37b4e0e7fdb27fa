/-! worthWith, block by block -/
theorem lc_10_b30 : l_go (gC 10 (2147483648, 2147483747) (2147483678, 2147483678) [] []) [] 3 = true := by decide +kernel
theorem lc_10_b31 : l_go (gC 10 (2147483648, 2147483747) (2147483679, 2147483679) [] []) [] 3 = true := by decide +kernel
theorem lc_10_b32 : l_go (gC 10 (2147483648, 2147483747) (2147483680, 2147483680) [] []) [] 3 = true := by decide +kernel
theorem lc_10_b33 : l_go (gC 10 (2147483648, 2147483747) (2147483681, 2147483681) [] []) [] 3 = true := by decide +kernel
theorem lc_10_b34 : l_go (gC 10 (2147483648, 2147483747) (2147483682, 2147483682) [] []) [] 3 = true := by decide +kernel
theorem lc_10_b35 : l_go (gC 10 (2147483648, 2147483747) (2147483683, 2147483683) [] []) [] 3 = true := by decide +kernel
theorem lc_10_b36 : l_go (gC 10 (2147483648, 2147483747) (2147483684, 2147483684) [] []) [] 3 = true := by decide +kernel
theorem lc_10_b37 : l_go (gC 10 (2147483648, 2147483747) (2147483685, 2147483685) [] []) [] 3 = true := by decide +kernel
theorem lc_10_b38 : l_go (gC 10 (2147483648, 2147483747) (2147483686, 2147483686) [] []) [] 3 = true := by decide +kernel
theorem lc_10_b39 : l_go (gC 10 (2147483648, 2147483747) (2147483687, 2147483687) [] []) [] 3 = true := by decide +kernel
