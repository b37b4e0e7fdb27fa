/-! worthWith, block by block -/
theorem lc_10_b45 : l_go (gC 10 (2147483648, 2147483747) (2147483693, 2147483693) [] []) [] 3 = true := by decide +kernel
theorem lc_10_b46 : l_go (gC 10 (2147483648, 2147483747) (2147483694, 2147483694) [] []) [] 3 = true := by decide +kernel
theorem lc_10_b47 : l_go (gC 10 (2147483648, 2147483747) (2147483695, 2147483695) [] []) [] 3 = true := by decide +kernel
theorem lc_10_b48 : l_go (gC 10 (2147483648, 2147483747) (2147483696, 2147483696) [] []) [] 3 = true := by decide +kernel
theorem lc_10_b49 : l_go (gC 10 (2147483648, 2147483747) (2147483697, 2147483697) [] []) [] 3 = true := by decide +kernel
theorem lc_10_b50 : l_go (gC 10 (2147483648, 2147483747) (2147483698, 2147483698) [] []) [] 3 = true := by decide +kernel
theorem lc_10_b51 : l_go (gC 10 (2147483648, 2147483747) (2147483699, 2147483699) [] []) [] 3 = true := by decide +kernel
theorem lc_10_b52 : l_go (gC 10 (2147483648, 2147483747) (2147483700, 2147483700) [] []) [] 3 = true := by decide +kernel
theorem lc_10_b53 : l_go (gC 10 (2147483648, 2147483747) (2147483701, 2147483701) [] []) [] 3 = true := by decide +kernel
theorem lc_10_b54 : l_go (gC 10 (2147483648, 2147483747) (2147483702, 2147483702) [] []) [] 3 = true := by decide +kernel
theorem lc_10_b55 : l_go (gC 10 (2147483648, 2147483747) (2147483703, 2147483703) [] []) [] 3 = true := by decide +kernel
theorem lc_10_b56 : l_go (gC 10 (2147483648, 2147483747) (2147483704, 2147483704) [] []) [] 3 = true := by decide +kernel
theorem lc_10_b57 : l_go (gC 10 (2147483648, 2147483747) (2147483705, 2147483705) [] []) [] 3 = true := by decide +kernel
theorem lc_10_b58 : l_go (gC 10 (2147483648, 2147483747) (2147483706, 2147483706) [] []) [] 3 = true := by decide +kernel
theorem lc_10_b59 : l_go (gC 10 (2147483648, 2147483747) (2147483707, 2147483707) [] []) [] 3 = true := by decide +kernel
theorem lc_10_b : ∀ b, b < 60 → l_go (gC 10 (2147483648, 2147483747) (2147483648 + b, 2147483648 + b) [] []) [] 3 = true := fun b hb => by
  match b, hb with
  | 0, _ => exact lc_10_b0
  | 1, _ => exact lc_10_b1
  | 2, _ => exact lc_10_b2
  | 3, _ => exact lc_10_b3
  | 4, _ => exact lc_10_b4
  | 5, _ => exact lc_10_b5
  | 6, _ => exact lc_10_b6
  | 7, _ => exact lc_10_b7
  | 8, _ => exact lc_10_b8
  | 9, _ => exact lc_10_b9
  | 10, _ => exact lc_10_b10
  | 11, _ => exact lc_10_b11
  | 12, _ => exact lc_10_b12
  | 13, _ => exact lc_10_b13
  | 14, _ => exact lc_10_b14
  | 15, _ => exact lc_10_b15
  | 16, _ => exact lc_10_b16
  | 17, _ => exact lc_10_b17
  | 18, _ => exact lc_10_b18
  | 19, _ => exact lc_10_b19
  | 20, _ => exact lc_10_b20
  | 21, _ => exact lc_10_b21
  | 22, _ => exact lc_10_b22
  | 23, _ => exact lc_10_b23
  | 24, _ => exact lc_10_b24
  | 25, _ => exact lc_10_b25
  | 26, _ => exact lc_10_b26
  | 27, _ => exact lc_10_b27
  | 28, _ => exact lc_10_b28
  | 29, _ => exact lc_10_b29
  | 30, _ => exact lc_10_b30
  | 31, _ => exact lc_10_b31
  | 32, _ => exact lc_10_b32
  | 33, _ => exact lc_10_b33
  | 34, _ => exact lc_10_b34
  | 35, _ => exact lc_10_b35
  | 36, _ => exact lc_10_b36
  | 37, _ => exact lc_10_b37
  | 38, _ => exact lc_10_b38
  | 39, _ => exact lc_10_b39
  | 40, _ => exact lc_10_b40
  | 41, _ => exact lc_10_b41
  | 42, _ => exact lc_10_b42
  | 43, _ => exact lc_10_b43
  | 44, _ => exact lc_10_b44
  | 45, _ => exact lc_10_b45
  | 46, _ => exact lc_10_b46
  | 47, _ => exact lc_10_b47
  | 48, _ => exact lc_10_b48
  | 49, _ => exact lc_10_b49
  | 50, _ => exact lc_10_b50
  | 51, _ => exact lc_10_b51
  | 52, _ => exact lc_10_b52
  | 53, _ => exact lc_10_b53
  | 54, _ => exact lc_10_b54
  | 55, _ => exact lc_10_b55
  | 56, _ => exact lc_10_b56
  | 57, _ => exact lc_10_b57
  | 58, _ => exact lc_10_b58
  | 59, _ => exact lc_10_b59
  | b + 60, h => omega
