/-! worthWith, block by block -/
theorem lc_10_b0 : l_go (gC 10 (2147483648, 2147483747) (2147483648, 2147483648) [] []) [] 3 = true := by decide +kernel
theorem lc_10_b1 : l_go (gC 10 (2147483648, 2147483747) (2147483649, 2147483649) [] []) [] 3 = true := by decide +kernel
theorem lc_10_b2 : l_go (gC 10 (2147483648, 2147483747) (2147483650, 2147483650) [] []) [] 3 = true := by decide +kernel
theorem lc_10_b3 : l_go (gC 10 (2147483648, 2147483747) (2147483651, 2147483651) [] []) [] 3 = true := by decide +kernel
theorem lc_10_b4 : l_go (gC 10 (2147483648, 2147483747) (2147483652, 2147483652) [] []) [] 3 = true := by decide +kernel
theorem lc_10_b5 : l_go (gC 10 (2147483648, 2147483747) (2147483653, 2147483653) [] []) [] 3 = true := by decide +kernel
theorem lc_10_b6 : l_go (gC 10 (2147483648, 2147483747) (2147483654, 2147483654) [] []) [] 3 = true := by decide +kernel
theorem lc_10_b7 : l_go (gC 10 (2147483648, 2147483747) (2147483655, 2147483655) [] []) [] 3 = true := by decide +kernel
theorem lc_10_b8 : l_go (gC 10 (2147483648, 2147483747) (2147483656, 2147483656) [] []) [] 3 = true := by decide +kernel
theorem lc_10_b9 : l_go (gC 10 (2147483648, 2147483747) (2147483657, 2147483657) [] []) [] 3 = true := by decide +kernel
theorem lc_10_b10 : l_go (gC 10 (2147483648, 2147483747) (2147483658, 2147483658) [] []) [] 3 = true := by decide +kernel
theorem lc_10_b11 : l_go (gC 10 (2147483648, 2147483747) (2147483659, 2147483659) [] []) [] 3 = true := by decide +kernel
theorem lc_10_b12 : l_go (gC 10 (2147483648, 2147483747) (2147483660, 2147483660) [] []) [] 3 = true := by decide +kernel
theorem lc_10_b13 : l_go (gC 10 (2147483648, 2147483747) (2147483661, 2147483661) [] []) [] 3 = true := by decide +kernel
theorem lc_10_b14 : l_go (gC 10 (2147483648, 2147483747) (2147483662, 2147483662) [] []) [] 3 = true := by decide +kernel
theorem lc_10_b15 : l_go (gC 10 (2147483648, 2147483747) (2147483663, 2147483663) [] []) [] 3 = true := by decide +kernel
theorem lc_10_b16 : l_go (gC 10 (2147483648, 2147483747) (2147483664, 2147483664) [] []) [] 3 = true := by decide +kernel
theorem lc_10_b17 : l_go (gC 10 (2147483648, 2147483747) (2147483665, 2147483665) [] []) [] 3 = true := by decide +kernel
theorem lc_10_b18 : l_go (gC 10 (2147483648, 2147483747) (2147483666, 2147483666) [] []) [] 3 = true := by decide +kernel
theorem lc_10_b19 : l_go (gC 10 (2147483648, 2147483747) (2147483667, 2147483667) [] []) [] 3 = true := by decide +kernel
theorem lc_10_b20 : l_go (gC 10 (2147483648, 2147483747) (2147483668, 2147483668) [] []) [] 3 = true := by decide +kernel
theorem lc_10_b21 : l_go (gC 10 (2147483648, 2147483747) (2147483669, 2147483669) [] []) [] 3 = true := by decide +kernel
theorem lc_10_b22 : l_go (gC 10 (2147483648, 2147483747) (2147483670, 2147483670) [] []) [] 3 = true := by decide +kernel
theorem lc_10_b23 : l_go (gC 10 (2147483648, 2147483747) (2147483671, 2147483671) [] []) [] 3 = true := by decide +kernel
theorem lc_10_b24 : l_go (gC 10 (2147483648, 2147483747) (2147483672, 2147483672) [] []) [] 3 = true := by decide +kernel
theorem lc_10_b25 : l_go (gC 10 (2147483648, 2147483747) (2147483673, 2147483673) [] []) [] 3 = true := by decide +kernel
theorem lc_10_b26 : l_go (gC 10 (2147483648, 2147483747) (2147483674, 2147483674) [] []) [] 3 = true := by decide +kernel
theorem lc_10_b27 : l_go (gC 10 (2147483648, 2147483747) (2147483675, 2147483675) [] []) [] 3 = true := by decide +kernel
theorem lc_10_b28 : l_go (gC 10 (2147483648, 2147483747) (2147483676, 2147483676) [] []) [] 3 = true := by decide +kernel
theorem lc_10_b29 : l_go (gC 10 (2147483648, 2147483747) (2147483677, 2147483677) [] []) [] 3 = true := by decide +kernel
theorem lc_10_b : ∀ b, b < 60 → l_go (gC 10 (2147483648, 2147483747) (2147483648 + b, 2147483648 + b) [] []) [] 3 = true := fun b hb => by
  match b, hb with
  | 0, _ => exact lc_10_b0
  | 1, _ => exact lc_10_b1
  | 2, _ => exact lc_10_b2
  | 3, _ => exact lc_10_b3
  | 4, _ => exact lc_10_b4
  | 5, _ => exact lc_10_b5
  | 6, _ => exact lc_10_b6
  | 7, _ => exact lc_10_b7
  | 8, _ => exact lc_10_b8
  | 9, _ => exact lc_10_b9
  | 10, _ => exact lc_10_b10
  | 11, _ => exact lc_10_b11
  | 12, _ => exact lc_10_b12
  | 13, _ => exact lc_10_b13
  | 14, _ => exact lc_10_b14
  | 15, _ => exact lc_10_b15
  | 16, _ => exact lc_10_b16
  | 17, _ => exact lc_10_b17
  | 18, _ => exact lc_10_b18
  | 19, _ => exact lc_10_b19
  | 20, _ => exact lc_10_b20
  | 21, _ => exact lc_10_b21
  | 22, _ => exact lc_10_b22
  | 23, _ => exact lc_10_b23
  | 24, _ => exact lc_10_b24
  | 25, _ => exact lc_10_b25
  | 26, _ => exact lc_10_b26
  | 27, _ => exact lc_10_b27
  | 28, _ => exact lc_10_b28
  | 29, _ => exact lc_10_b29
  | 30, _ => exact lc_10_b30
  | 31, _ => exact lc_10_b31
  | 32, _ => exact lc_10_b32
  | 33, _ => exact lc_10_b33
  | 34, _ => exact lc_10_b34
  | 35, _ => exact lc_10_b35
  | 36, _ => exact lc_10_b36
  | 37, _ => exact lc_10_b37
  | 38, _ => exact lc_10_b38
  | 39, _ => exact lc_10_b39
  | 40, _ => exact lc_10_b40
  | 41, _ => exact lc_10_b41
  | 42, _ => exact lc_10_b42
  | 43, _ => exact lc_10_b43
  | 44, _ => exact lc_10_b44
  | 45, _ => exact lc_10_b45
  | 46, _ => exact lc_10_b46
  | 47, _ => exact lc_10_b47
  | 48, _ => exact lc_10_b48
  | 49, _ => exact lc_10_b49
  | 50, _ => exact lc_10_b50
  | 51, _ => exact lc_10_b51
  | 52, _ => exact lc_10_b52
  | 53, _ => exact lc_10_b53
  | 54, _ => exact lc_10_b54
  | 55, _ => exact lc_10_b55
  | 56, _ => exact lc_10_b56
  | 57, _ => exact lc_10_b57
  | 58, _ => exact lc_10_b58
  | 59, _ => exact lc_10_b59
  | b + 60, h => omega
