/-! the blocks, and the prices of a phase, one by one -/
theorem lc_5_b0 : l_go (gC 5 (2147483648, 2147483648) (0, 4294967295) [] []) [] 3 = true := by decide +kernel
theorem lc_5_b1 : l_go (gC 5 (2147483649, 2147483649) (0, 4294967295) [] []) [] 3 = true := by decide +kernel
theorem lc_5_b2 : l_go (gC 5 (2147483650, 2147483650) (0, 4294967295) [] []) [] 3 = true := by decide +kernel
theorem lc_5_b3 : l_go (gC 5 (2147483651, 2147483651) (0, 4294967295) [] []) [] 3 = true := by decide +kernel
theorem lc_5_b4 : l_go (gC 5 (2147483652, 2147483652) (0, 4294967295) [] []) [] 3 = true := by decide +kernel
theorem lc_5_b5 : l_go (gC 5 (2147483653, 2147483653) (0, 4294967295) [] []) [] 3 = true := by decide +kernel
theorem lc_5_b6 : l_go (gC 5 (2147483654, 2147483654) (0, 4294967295) [] []) [] 3 = true := by decide +kernel
theorem lc_5_b7 : l_go (gC 5 (2147483655, 2147483655) (0, 4294967295) [] []) [] 3 = true := by decide +kernel
theorem lc_5_b8 : l_go (gC 5 (2147483656, 2147483656) (0, 4294967295) [] []) [] 3 = true := by decide +kernel
theorem lc_5_b9 : l_go (gC 5 (2147483657, 2147483657) (0, 4294967295) [] []) [] 3 = true := by decide +kernel
theorem lc_5_b10 : l_go (gC 5 (2147483658, 2147483658) (0, 4294967295) [] []) [] 3 = true := by decide +kernel
theorem lc_5_b11 : l_go (gC 5 (2147483659, 2147483659) (0, 4294967295) [] []) [] 3 = true := by decide +kernel
theorem lc_5_b12 : l_go (gC 5 (2147483660, 2147483660) (0, 4294967295) [] []) [] 3 = true := by decide +kernel
theorem lc_5_b13 : l_go (gC 5 (2147483661, 2147483661) (0, 4294967295) [] []) [] 3 = true := by decide +kernel
theorem lc_5_b14 : l_go (gC 5 (2147483662, 2147483662) (0, 4294967295) [] []) [] 3 = true := by decide +kernel
theorem lc_5_b15 : l_go (gC 5 (2147483663, 2147483663) (0, 4294967295) [] []) [] 3 = true := by decide +kernel
theorem lc_5_b16 : l_go (gC 5 (2147483664, 2147483664) (0, 4294967295) [] []) [] 3 = true := by decide +kernel
theorem lc_5_b17 : l_go (gC 5 (2147483665, 2147483665) (0, 4294967295) [] []) [] 3 = true := by decide +kernel
theorem lc_5_b18 : l_go (gC 5 (2147483666, 2147483666) (0, 4294967295) [] []) [] 3 = true := by decide +kernel
theorem lc_5_b19 : l_go (gC 5 (2147483667, 2147483667) (0, 4294967295) [] []) [] 3 = true := by decide +kernel
theorem lc_5_b20 : l_go (gC 5 (2147483668, 2147483668) (0, 4294967295) [] []) [] 3 = true := by decide +kernel
theorem lc_5_b21 : l_go (gC 5 (2147483669, 2147483669) (0, 4294967295) [] []) [] 3 = true := by decide +kernel
theorem lc_5_b22 : l_go (gC 5 (2147483670, 2147483670) (0, 4294967295) [] []) [] 3 = true := by decide +kernel
theorem lc_5_b23 : l_go (gC 5 (2147483671, 2147483671) (0, 4294967295) [] []) [] 3 = true := by decide +kernel
theorem lc_5_b24 : l_go (gC 5 (2147483672, 2147483672) (0, 4294967295) [] []) [] 3 = true := by decide +kernel
theorem lc_5_b25 : l_go (gC 5 (2147483673, 2147483673) (0, 4294967295) [] []) [] 3 = true := by decide +kernel
theorem lc_5_b26 : l_go (gC 5 (2147483674, 2147483674) (0, 4294967295) [] []) [] 3 = true := by decide +kernel
theorem lc_5_b27 : l_go (gC 5 (2147483675, 2147483675) (0, 4294967295) [] []) [] 3 = true := by decide +kernel
theorem lc_5_b28 : l_go (gC 5 (2147483676, 2147483676) (0, 4294967295) [] []) [] 3 = true := by decide +kernel
theorem lc_5_b29 : l_go (gC 5 (2147483677, 2147483677) (0, 4294967295) [] []) [] 3 = true := by decide +kernel
theorem lc_5_b30 : l_go (gC 5 (2147483678, 2147483678) (0, 4294967295) [] []) [] 3 = true := by decide +kernel
theorem lc_5_b31 : l_go (gC 5 (2147483679, 2147483679) (0, 4294967295) [] []) [] 3 = true := by decide +kernel
theorem lc_5_b32 : l_go (gC 5 (2147483680, 2147483680) (0, 4294967295) [] []) [] 3 = true := by decide +kernel
theorem lc_5_b33 : l_go (gC 5 (2147483681, 2147483681) (0, 4294967295) [] []) [] 3 = true := by decide +kernel
theorem lc_5_b34 : l_go (gC 5 (2147483682, 2147483682) (0, 4294967295) [] []) [] 3 = true := by decide +kernel
theorem lc_5_b35 : l_go (gC 5 (2147483683, 2147483683) (0, 4294967295) [] []) [] 3 = true := by decide +kernel
theorem lc_5_b36 : l_go (gC 5 (2147483684, 2147483684) (0, 4294967295) [] []) [] 3 = true := by decide +kernel
theorem lc_5_b37 : l_go (gC 5 (2147483685, 2147483685) (0, 4294967295) [] []) [] 3 = true := by decide +kernel
theorem lc_5_b38 : l_go (gC 5 (2147483686, 2147483686) (0, 4294967295) [] []) [] 3 = true := by decide +kernel
theorem lc_5_b39 : l_go (gC 5 (2147483687, 2147483687) (0, 4294967295) [] []) [] 3 = true := by decide +kernel
theorem lc_5_b40 : l_go (gC 5 (2147483688, 2147483688) (0, 4294967295) [] []) [] 3 = true := by decide +kernel
theorem lc_5_b41 : l_go (gC 5 (2147483689, 2147483689) (0, 4294967295) [] []) [] 3 = true := by decide +kernel
theorem lc_5_b42 : l_go (gC 5 (2147483690, 2147483690) (0, 4294967295) [] []) [] 3 = true := by decide +kernel
theorem lc_5_b43 : l_go (gC 5 (2147483691, 2147483691) (0, 4294967295) [] []) [] 3 = true := by decide +kernel
theorem lc_5_b44 : l_go (gC 5 (2147483692, 2147483692) (0, 4294967295) [] []) [] 3 = true := by decide +kernel
theorem lc_5_b45 : l_go (gC 5 (2147483693, 2147483693) (0, 4294967295) [] []) [] 3 = true := by decide +kernel
theorem lc_5_b46 : l_go (gC 5 (2147483694, 2147483694) (0, 4294967295) [] []) [] 3 = true := by decide +kernel
theorem lc_5_b47 : l_go (gC 5 (2147483695, 2147483695) (0, 4294967295) [] []) [] 3 = true := by decide +kernel
theorem lc_5_b48 : l_go (gC 5 (2147483696, 2147483696) (0, 4294967295) [] []) [] 3 = true := by decide +kernel
theorem lc_5_b49 : l_go (gC 5 (2147483697, 2147483697) (0, 4294967295) [] []) [] 3 = true := by decide +kernel
theorem lc_5_b50 : l_go (gC 5 (2147483698, 2147483698) (0, 4294967295) [] []) [] 3 = true := by decide +kernel
theorem lc_5_b51 : l_go (gC 5 (2147483699, 2147483699) (0, 4294967295) [] []) [] 3 = true := by decide +kernel
theorem lc_5_b52 : l_go (gC 5 (2147483700, 2147483700) (0, 4294967295) [] []) [] 3 = true := by decide +kernel
theorem lc_5_b53 : l_go (gC 5 (2147483701, 2147483701) (0, 4294967295) [] []) [] 3 = true := by decide +kernel
theorem lc_5_b54 : l_go (gC 5 (2147483702, 2147483702) (0, 4294967295) [] []) [] 3 = true := by decide +kernel
theorem lc_5_b55 : l_go (gC 5 (2147483703, 2147483703) (0, 4294967295) [] []) [] 3 = true := by decide +kernel
theorem lc_5_b56 : l_go (gC 5 (2147483704, 2147483704) (0, 4294967295) [] []) [] 3 = true := by decide +kernel
theorem lc_5_b57 : l_go (gC 5 (2147483705, 2147483705) (0, 4294967295) [] []) [] 3 = true := by decide +kernel
theorem lc_5_b58 : l_go (gC 5 (2147483706, 2147483706) (0, 4294967295) [] []) [] 3 = true := by decide +kernel
theorem lc_5_b59 : l_go (gC 5 (2147483707, 2147483707) (0, 4294967295) [] []) [] 3 = true := by decide +kernel
theorem lc_5_b : ∀ b, b < 60 → l_go (gC 5 (2147483648 + b, 2147483648 + b) (0, 4294967295) [] []) [] 3 = true := fun b hb => by
  match b, hb with
  | 0, _ => exact lc_5_b0
  | 1, _ => exact lc_5_b1
  | 2, _ => exact lc_5_b2
  | 3, _ => exact lc_5_b3
  | 4, _ => exact lc_5_b4
  | 5, _ => exact lc_5_b5
  | 6, _ => exact lc_5_b6
  | 7, _ => exact lc_5_b7
  | 8, _ => exact lc_5_b8
  | 9, _ => exact lc_5_b9
  | 10, _ => exact lc_5_b10
  | 11, _ => exact lc_5_b11
  | 12, _ => exact lc_5_b12
  | 13, _ => exact lc_5_b13
  | 14, _ => exact lc_5_b14
  | 15, _ => exact lc_5_b15
  | 16, _ => exact lc_5_b16
  | 17, _ => exact lc_5_b17
  | 18, _ => exact lc_5_b18
  | 19, _ => exact lc_5_b19
  | 20, _ => exact lc_5_b20
  | 21, _ => exact lc_5_b21
  | 22, _ => exact lc_5_b22
  | 23, _ => exact lc_5_b23
  | 24, _ => exact lc_5_b24
  | 25, _ => exact lc_5_b25
  | 26, _ => exact lc_5_b26
  | 27, _ => exact lc_5_b27
  | 28, _ => exact lc_5_b28
  | 29, _ => exact lc_5_b29
  | 30, _ => exact lc_5_b30
  | 31, _ => exact lc_5_b31
  | 32, _ => exact lc_5_b32
  | 33, _ => exact lc_5_b33
  | 34, _ => exact lc_5_b34
  | 35, _ => exact lc_5_b35
  | 36, _ => exact lc_5_b36
  | 37, _ => exact lc_5_b37
  | 38, _ => exact lc_5_b38
  | 39, _ => exact lc_5_b39
  | 40, _ => exact lc_5_b40
  | 41, _ => exact lc_5_b41
  | 42, _ => exact lc_5_b42
  | 43, _ => exact lc_5_b43
  | 44, _ => exact lc_5_b44
  | 45, _ => exact lc_5_b45
  | 46, _ => exact lc_5_b46
  | 47, _ => exact lc_5_b47
  | 48, _ => exact lc_5_b48
  | 49, _ => exact lc_5_b49
  | 50, _ => exact lc_5_b50
  | 51, _ => exact lc_5_b51
  | 52, _ => exact lc_5_b52
  | 53, _ => exact lc_5_b53
  | 54, _ => exact lc_5_b54
  | 55, _ => exact lc_5_b55
  | 56, _ => exact lc_5_b56
  | 57, _ => exact lc_5_b57
  | 58, _ => exact lc_5_b58
  | 59, _ => exact lc_5_b59
  | b + 60, h => omega
theorem lc_6_b0 : l_go (gC 6 (2147483648, 2147483648) (0, 4294967295) [] []) [] 3 = true := by decide +kernel
theorem lc_6_b1 : l_go (gC 6 (2147483649, 2147483649) (0, 4294967295) [] []) [] 3 = true := by decide +kernel
theorem lc_6_b2 : l_go (gC 6 (2147483650, 2147483650) (0, 4294967295) [] []) [] 3 = true := by decide +kernel
theorem lc_6_b3 : l_go (gC 6 (2147483651, 2147483651) (0, 4294967295) [] []) [] 3 = true := by decide +kernel
theorem lc_6_b4 : l_go (gC 6 (2147483652, 2147483652) (0, 4294967295) [] []) [] 3 = true := by decide +kernel
theorem lc_6_b5 : l_go (gC 6 (2147483653, 2147483653) (0, 4294967295) [] []) [] 3 = true := by decide +kernel
theorem lc_6_b6 : l_go (gC 6 (2147483654, 2147483654) (0, 4294967295) [] []) [] 3 = true := by decide +kernel
theorem lc_6_b7 : l_go (gC 6 (2147483655, 2147483655) (0, 4294967295) [] []) [] 3 = true := by decide +kernel
theorem lc_6_b8 : l_go (gC 6 (2147483656, 2147483656) (0, 4294967295) [] []) [] 3 = true := by decide +kernel
theorem lc_6_b9 : l_go (gC 6 (2147483657, 2147483657) (0, 4294967295) [] []) [] 3 = true := by decide +kernel
theorem lc_6_b10 : l_go (gC 6 (2147483658, 2147483658) (0, 4294967295) [] []) [] 3 = true := by decide +kernel
theorem lc_6_b11 : l_go (gC 6 (2147483659, 2147483659) (0, 4294967295) [] []) [] 3 = true := by decide +kernel
theorem lc_6_b12 : l_go (gC 6 (2147483660, 2147483660) (0, 4294967295) [] []) [] 3 = true := by decide +kernel
theorem lc_6_b13 : l_go (gC 6 (2147483661, 2147483661) (0, 4294967295) [] []) [] 3 = true := by decide +kernel
theorem lc_6_b14 : l_go (gC 6 (2147483662, 2147483662) (0, 4294967295) [] []) [] 3 = true := by decide +kernel
theorem lc_6_b15 : l_go (gC 6 (2147483663, 2147483663) (0, 4294967295) [] []) [] 3 = true := by decide +kernel
theorem lc_6_b16 : l_go (gC 6 (2147483664, 2147483664) (0, 4294967295) [] []) [] 3 = true := by decide +kernel
theorem lc_6_b17 : l_go (gC 6 (2147483665, 2147483665) (0, 4294967295) [] []) [] 3 = true := by decide +kernel
theorem lc_6_b18 : l_go (gC 6 (2147483666, 2147483666) (0, 4294967295) [] []) [] 3 = true := by decide +kernel
theorem lc_6_b19 : l_go (gC 6 (2147483667, 2147483667) (0, 4294967295) [] []) [] 3 = true := by decide +kernel
theorem lc_6_b20 : l_go (gC 6 (2147483668, 2147483668) (0, 4294967295) [] []) [] 3 = true := by decide +kernel
theorem lc_6_b21 : l_go (gC 6 (2147483669, 2147483669) (0, 4294967295) [] []) [] 3 = true := by decide +kernel
theorem lc_6_b22 : l_go (gC 6 (2147483670, 2147483670) (0, 4294967295) [] []) [] 3 = true := by decide +kernel
theorem lc_6_b23 : l_go (gC 6 (2147483671, 2147483671) (0, 4294967295) [] []) [] 3 = true := by decide +kernel
theorem lc_6_b24 : l_go (gC 6 (2147483672, 2147483672) (0, 4294967295) [] []) [] 3 = true := by decide +kernel
theorem lc_6_b25 : l_go (gC 6 (2147483673, 2147483673) (0, 4294967295) [] []) [] 3 = true := by decide +kernel
theorem lc_6_b26 : l_go (gC 6 (2147483674, 2147483674) (0, 4294967295) [] []) [] 3 = true := by decide +kernel
theorem lc_6_b27 : l_go (gC 6 (2147483675, 2147483675) (0, 4294967295) [] []) [] 3 = true := by decide +kernel
theorem lc_6_b28 : l_go (gC 6 (2147483676, 2147483676) (0, 4294967295) [] []) [] 3 = true := by decide +kernel
theorem lc_6_b29 : l_go (gC 6 (2147483677, 2147483677) (0, 4294967295) [] []) [] 3 = true := by decide +kernel
theorem lc_6_b30 : l_go (gC 6 (2147483678, 2147483678) (0, 4294967295) [] []) [] 3 = true := by decide +kernel
theorem lc_6_b31 : l_go (gC 6 (2147483679, 2147483679) (0, 4294967295) [] []) [] 3 = true := by decide +kernel
theorem lc_6_b32 : l_go (gC 6 (2147483680, 2147483680) (0, 4294967295) [] []) [] 3 = true := by decide +kernel
theorem lc_6_b33 : l_go (gC 6 (2147483681, 2147483681) (0, 4294967295) [] []) [] 3 = true := by decide +kernel
theorem lc_6_b34 : l_go (gC 6 (2147483682, 2147483682) (0, 4294967295) [] []) [] 3 = true := by decide +kernel
theorem lc_6_b35 : l_go (gC 6 (2147483683, 2147483683) (0, 4294967295) [] []) [] 3 = true := by decide +kernel
theorem lc_6_b36 : l_go (gC 6 (2147483684, 2147483684) (0, 4294967295) [] []) [] 3 = true := by decide +kernel
theorem lc_6_b37 : l_go (gC 6 (2147483685, 2147483685) (0, 4294967295) [] []) [] 3 = true := by decide +kernel
theorem lc_6_b38 : l_go (gC 6 (2147483686, 2147483686) (0, 4294967295) [] []) [] 3 = true := by decide +kernel
theorem lc_6_b39 : l_go (gC 6 (2147483687, 2147483687) (0, 4294967295) [] []) [] 3 = true := by decide +kernel
theorem lc_6_b40 : l_go (gC 6 (2147483688, 2147483688) (0, 4294967295) [] []) [] 3 = true := by decide +kernel
theorem lc_6_b41 : l_go (gC 6 (2147483689, 2147483689) (0, 4294967295) [] []) [] 3 = true := by decide +kernel
theorem lc_6_b42 : l_go (gC 6 (2147483690, 2147483690) (0, 4294967295) [] []) [] 3 = true := by decide +kernel
theorem lc_6_b43 : l_go (gC 6 (2147483691, 2147483691) (0, 4294967295) [] []) [] 3 = true := by decide +kernel
theorem lc_6_b44 : l_go (gC 6 (2147483692, 2147483692) (0, 4294967295) [] []) [] 3 = true := by decide +kernel
theorem lc_6_b45 : l_go (gC 6 (2147483693, 2147483693) (0, 4294967295) [] []) [] 3 = true := by decide +kernel
theorem lc_6_b46 : l_go (gC 6 (2147483694, 2147483694) (0, 4294967295) [] []) [] 3 = true := by decide +kernel
theorem lc_6_b47 : l_go (gC 6 (2147483695, 2147483695) (0, 4294967295) [] []) [] 3 = true := by decide +kernel
theorem lc_6_b48 : l_go (gC 6 (2147483696, 2147483696) (0, 4294967295) [] []) [] 3 = true := by decide +kernel
theorem lc_6_b49 : l_go (gC 6 (2147483697, 2147483697) (0, 4294967295) [] []) [] 3 = true := by decide +kernel
theorem lc_6_b50 : l_go (gC 6 (2147483698, 2147483698) (0, 4294967295) [] []) [] 3 = true := by decide +kernel
theorem lc_6_b51 : l_go (gC 6 (2147483699, 2147483699) (0, 4294967295) [] []) [] 3 = true := by decide +kernel
theorem lc_6_b52 : l_go (gC 6 (2147483700, 2147483700) (0, 4294967295) [] []) [] 3 = true := by decide +kernel
theorem lc_6_b53 : l_go (gC 6 (2147483701, 2147483701) (0, 4294967295) [] []) [] 3 = true := by decide +kernel
theorem lc_6_b54 : l_go (gC 6 (2147483702, 2147483702) (0, 4294967295) [] []) [] 3 = true := by decide +kernel
theorem lc_6_b55 : l_go (gC 6 (2147483703, 2147483703) (0, 4294967295) [] []) [] 3 = true := by decide +kernel
theorem lc_6_b56 : l_go (gC 6 (2147483704, 2147483704) (0, 4294967295) [] []) [] 3 = true := by decide +kernel
theorem lc_6_b57 : l_go (gC 6 (2147483705, 2147483705) (0, 4294967295) [] []) [] 3 = true := by decide +kernel
theorem lc_6_b58 : l_go (gC 6 (2147483706, 2147483706) (0, 4294967295) [] []) [] 3 = true := by decide +kernel
theorem lc_6_b59 : l_go (gC 6 (2147483707, 2147483707) (0, 4294967295) [] []) [] 3 = true := by decide +kernel
theorem lc_6_b : ∀ b, b < 60 → l_go (gC 6 (2147483648 + b, 2147483648 + b) (0, 4294967295) [] []) [] 3 = true := fun b hb => by
  match b, hb with
  | 0, _ => exact lc_6_b0
  | 1, _ => exact lc_6_b1
  | 2, _ => exact lc_6_b2
  | 3, _ => exact lc_6_b3
  | 4, _ => exact lc_6_b4
  | 5, _ => exact lc_6_b5
  | 6, _ => exact lc_6_b6
  | 7, _ => exact lc_6_b7
  | 8, _ => exact lc_6_b8
  | 9, _ => exact lc_6_b9
  | 10, _ => exact lc_6_b10
  | 11, _ => exact lc_6_b11
  | 12, _ => exact lc_6_b12
  | 13, _ => exact lc_6_b13
  | 14, _ => exact lc_6_b14
  | 15, _ => exact lc_6_b15
  | 16, _ => exact lc_6_b16
  | 17, _ => exact lc_6_b17
  | 18, _ => exact lc_6_b18
  | 19, _ => exact lc_6_b19
  | 20, _ => exact lc_6_b20
  | 21, _ => exact lc_6_b21
  | 22, _ => exact lc_6_b22
  | 23, _ => exact lc_6_b23
  | 24, _ => exact lc_6_b24
  | 25, _ => exact lc_6_b25
  | 26, _ => exact lc_6_b26
  | 27, _ => exact lc_6_b27
  | 28, _ => exact lc_6_b28
  | 29, _ => exact lc_6_b29
  | 30, _ => exact lc_6_b30
  | 31, _ => exact lc_6_b31
  | 32, _ => exact lc_6_b32
  | 33, _ => exact lc_6_b33
  | 34, _ => exact lc_6_b34
  | 35, _ => exact lc_6_b35
  | 36, _ => exact lc_6_b36
  | 37, _ => exact lc_6_b37
  | 38, _ => exact lc_6_b38
  | 39, _ => exact lc_6_b39
  | 40, _ => exact lc_6_b40
  | 41, _ => exact lc_6_b41
  | 42, _ => exact lc_6_b42
  | 43, _ => exact lc_6_b43
  | 44, _ => exact lc_6_b44
  | 45, _ => exact lc_6_b45
  | 46, _ => exact lc_6_b46
  | 47, _ => exact lc_6_b47
  | 48, _ => exact lc_6_b48
  | 49, _ => exact lc_6_b49
  | 50, _ => exact lc_6_b50
  | 51, _ => exact lc_6_b51
  | 52, _ => exact lc_6_b52
  | 53, _ => exact lc_6_b53
  | 54, _ => exact lc_6_b54
  | 55, _ => exact lc_6_b55
  | 56, _ => exact lc_6_b56
  | 57, _ => exact lc_6_b57
  | 58, _ => exact lc_6_b58
  | 59, _ => exact lc_6_b59
  | b + 60, h => omega
theorem lc_18_b0 : l_go (gC 18 (2147483648, 2147483648) (0, 4294967295) [] []) [] 3 = true := by decide +kernel
theorem lc_18_b1 : l_go (gC 18 (2147483649, 2147483649) (0, 4294967295) [] []) [] 3 = true := by decide +kernel
theorem lc_18_b2 : l_go (gC 18 (2147483650, 2147483650) (0, 4294967295) [] []) [] 3 = true := by decide +kernel
theorem lc_18_b3 : l_go (gC 18 (2147483651, 2147483651) (0, 4294967295) [] []) [] 3 = true := by decide +kernel
theorem lc_18_b4 : l_go (gC 18 (2147483652, 2147483652) (0, 4294967295) [] []) [] 3 = true := by decide +kernel
theorem lc_18_b5 : l_go (gC 18 (2147483653, 2147483653) (0, 4294967295) [] []) [] 3 = true := by decide +kernel
theorem lc_18_b6 : l_go (gC 18 (2147483654, 2147483654) (0, 4294967295) [] []) [] 3 = true := by decide +kernel
theorem lc_18_b7 : l_go (gC 18 (2147483655, 2147483655) (0, 4294967295) [] []) [] 3 = true := by decide +kernel
theorem lc_18_b8 : l_go (gC 18 (2147483656, 2147483656) (0, 4294967295) [] []) [] 3 = true := by decide +kernel
theorem lc_18_b9 : l_go (gC 18 (2147483657, 2147483657) (0, 4294967295) [] []) [] 3 = true := by decide +kernel
theorem lc_18_b10 : l_go (gC 18 (2147483658, 2147483658) (0, 4294967295) [] []) [] 3 = true := by decide +kernel
theorem lc_18_b11 : l_go (gC 18 (2147483659, 2147483659) (0, 4294967295) [] []) [] 3 = true := by decide +kernel
theorem lc_18_b12 : l_go (gC 18 (2147483660, 2147483660) (0, 4294967295) [] []) [] 3 = true := by decide +kernel
theorem lc_18_b13 : l_go (gC 18 (2147483661, 2147483661) (0, 4294967295) [] []) [] 3 = true := by decide +kernel
theorem lc_18_b14 : l_go (gC 18 (2147483662, 2147483662) (0, 4294967295) [] []) [] 3 = true := by decide +kernel
theorem lc_18_b15 : l_go (gC 18 (2147483663, 2147483663) (0, 4294967295) [] []) [] 3 = true := by decide +kernel
theorem lc_18_b16 : l_go (gC 18 (2147483664, 2147483664) (0, 4294967295) [] []) [] 3 = true := by decide +kernel
theorem lc_18_b17 : l_go (gC 18 (2147483665, 2147483665) (0, 4294967295) [] []) [] 3 = true := by decide +kernel
theorem lc_18_b18 : l_go (gC 18 (2147483666, 2147483666) (0, 4294967295) [] []) [] 3 = true := by decide +kernel
theorem lc_18_b19 : l_go (gC 18 (2147483667, 2147483667) (0, 4294967295) [] []) [] 3 = true := by decide +kernel
theorem lc_18_b20 : l_go (gC 18 (2147483668, 2147483668) (0, 4294967295) [] []) [] 3 = true := by decide +kernel
theorem lc_18_b21 : l_go (gC 18 (2147483669, 2147483669) (0, 4294967295) [] []) [] 3 = true := by decide +kernel
theorem lc_18_b22 : l_go (gC 18 (2147483670, 2147483670) (0, 4294967295) [] []) [] 3 = true := by decide +kernel
theorem lc_18_b23 : l_go (gC 18 (2147483671, 2147483671) (0, 4294967295) [] []) [] 3 = true := by decide +kernel
theorem lc_18_b24 : l_go (gC 18 (2147483672, 2147483672) (0, 4294967295) [] []) [] 3 = true := by decide +kernel
theorem lc_18_b25 : l_go (gC 18 (2147483673, 2147483673) (0, 4294967295) [] []) [] 3 = true := by decide +kernel
theorem lc_18_b26 : l_go (gC 18 (2147483674, 2147483674) (0, 4294967295) [] []) [] 3 = true := by decide +kernel
theorem lc_18_b27 : l_go (gC 18 (2147483675, 2147483675) (0, 4294967295) [] []) [] 3 = true := by decide +kernel
theorem lc_18_b28 : l_go (gC 18 (2147483676, 2147483676) (0, 4294967295) [] []) [] 3 = true := by decide +kernel
theorem lc_18_b29 : l_go (gC 18 (2147483677, 2147483677) (0, 4294967295) [] []) [] 3 = true := by decide +kernel
theorem lc_18_b30 : l_go (gC 18 (2147483678, 2147483678) (0, 4294967295) [] []) [] 3 = true := by decide +kernel
theorem lc_18_b31 : l_go (gC 18 (2147483679, 2147483679) (0, 4294967295) [] []) [] 3 = true := by decide +kernel
theorem lc_18_b32 : l_go (gC 18 (2147483680, 2147483680) (0, 4294967295) [] []) [] 3 = true := by decide +kernel
theorem lc_18_b33 : l_go (gC 18 (2147483681, 2147483681) (0, 4294967295) [] []) [] 3 = true := by decide +kernel
theorem lc_18_b34 : l_go (gC 18 (2147483682, 2147483682) (0, 4294967295) [] []) [] 3 = true := by decide +kernel
theorem lc_18_b35 : l_go (gC 18 (2147483683, 2147483683) (0, 4294967295) [] []) [] 3 = true := by decide +kernel
theorem lc_18_b36 : l_go (gC 18 (2147483684, 2147483684) (0, 4294967295) [] []) [] 3 = true := by decide +kernel
theorem lc_18_b37 : l_go (gC 18 (2147483685, 2147483685) (0, 4294967295) [] []) [] 3 = true := by decide +kernel
theorem lc_18_b38 : l_go (gC 18 (2147483686, 2147483686) (0, 4294967295) [] []) [] 3 = true := by decide +kernel
theorem lc_18_b39 : l_go (gC 18 (2147483687, 2147483687) (0, 4294967295) [] []) [] 3 = true := by decide +kernel
theorem lc_18_b40 : l_go (gC 18 (2147483688, 2147483688) (0, 4294967295) [] []) [] 3 = true := by decide +kernel
theorem lc_18_b41 : l_go (gC 18 (2147483689, 2147483689) (0, 4294967295) [] []) [] 3 = true := by decide +kernel
theorem lc_18_b42 : l_go (gC 18 (2147483690, 2147483690) (0, 4294967295) [] []) [] 3 = true := by decide +kernel
theorem lc_18_b43 : l_go (gC 18 (2147483691, 2147483691) (0, 4294967295) [] []) [] 3 = true := by decide +kernel
theorem lc_18_b44 : l_go (gC 18 (2147483692, 2147483692) (0, 4294967295) [] []) [] 3 = true := by decide +kernel
theorem lc_18_b45 : l_go (gC 18 (2147483693, 2147483693) (0, 4294967295) [] []) [] 3 = true := by decide +kernel
theorem lc_18_b46 : l_go (gC 18 (2147483694, 2147483694) (0, 4294967295) [] []) [] 3 = true := by decide +kernel
theorem lc_18_b47 : l_go (gC 18 (2147483695, 2147483695) (0, 4294967295) [] []) [] 3 = true := by decide +kernel
theorem lc_18_b48 : l_go (gC 18 (2147483696, 2147483696) (0, 4294967295) [] []) [] 3 = true := by decide +kernel
theorem lc_18_b49 : l_go (gC 18 (2147483697, 2147483697) (0, 4294967295) [] []) [] 3 = true := by decide +kernel
theorem lc_18_b50 : l_go (gC 18 (2147483698, 2147483698) (0, 4294967295) [] []) [] 3 = true := by decide +kernel
theorem lc_18_b51 : l_go (gC 18 (2147483699, 2147483699) (0, 4294967295) [] []) [] 3 = true := by decide +kernel
theorem lc_18_b52 : l_go (gC 18 (2147483700, 2147483700) (0, 4294967295) [] []) [] 3 = true := by decide +kernel
theorem lc_18_b53 : l_go (gC 18 (2147483701, 2147483701) (0, 4294967295) [] []) [] 3 = true := by decide +kernel
theorem lc_18_b54 : l_go (gC 18 (2147483702, 2147483702) (0, 4294967295) [] []) [] 3 = true := by decide +kernel
theorem lc_18_b55 : l_go (gC 18 (2147483703, 2147483703) (0, 4294967295) [] []) [] 3 = true := by decide +kernel
theorem lc_18_b56 : l_go (gC 18 (2147483704, 2147483704) (0, 4294967295) [] []) [] 3 = true := by decide +kernel
theorem lc_18_b57 : l_go (gC 18 (2147483705, 2147483705) (0, 4294967295) [] []) [] 3 = true := by decide +kernel
theorem lc_18_b58 : l_go (gC 18 (2147483706, 2147483706) (0, 4294967295) [] []) [] 3 = true := by decide +kernel
theorem lc_18_b59 : l_go (gC 18 (2147483707, 2147483707) (0, 4294967295) [] []) [] 3 = true := by decide +kernel
theorem lc_18_b : ∀ b, b < 60 → l_go (gC 18 (2147483648 + b, 2147483648 + b) (0, 4294967295) [] []) [] 3 = true := fun b hb => by
  match b, hb with
  | 0, _ => exact lc_18_b0
  | 1, _ => exact lc_18_b1
  | 2, _ => exact lc_18_b2
  | 3, _ => exact lc_18_b3
  | 4, _ => exact lc_18_b4
  | 5, _ => exact lc_18_b5
  | 6, _ => exact lc_18_b6
  | 7, _ => exact lc_18_b7
  | 8, _ => exact lc_18_b8
  | 9, _ => exact lc_18_b9
  | 10, _ => exact lc_18_b10
  | 11, _ => exact lc_18_b11
  | 12, _ => exact lc_18_b12
  | 13, _ => exact lc_18_b13
  | 14, _ => exact lc_18_b14
  | 15, _ => exact lc_18_b15
  | 16, _ => exact lc_18_b16
  | 17, _ => exact lc_18_b17
  | 18, _ => exact lc_18_b18
  | 19, _ => exact lc_18_b19
  | 20, _ => exact lc_18_b20
  | 21, _ => exact lc_18_b21
  | 22, _ => exact lc_18_b22
  | 23, _ => exact lc_18_b23
  | 24, _ => exact lc_18_b24
  | 25, _ => exact lc_18_b25
  | 26, _ => exact lc_18_b26
  | 27, _ => exact lc_18_b27
  | 28, _ => exact lc_18_b28
  | 29, _ => exact lc_18_b29
  | 30, _ => exact lc_18_b30
  | 31, _ => exact lc_18_b31
  | 32, _ => exact lc_18_b32
  | 33, _ => exact lc_18_b33
  | 34, _ => exact lc_18_b34
  | 35, _ => exact lc_18_b35
  | 36, _ => exact lc_18_b36
  | 37, _ => exact lc_18_b37
  | 38, _ => exact lc_18_b38
  | 39, _ => exact lc_18_b39
  | 40, _ => exact lc_18_b40
  | 41, _ => exact lc_18_b41
  | 42, _ => exact lc_18_b42
  | 43, _ => exact lc_18_b43
  | 44, _ => exact lc_18_b44
  | 45, _ => exact lc_18_b45
  | 46, _ => exact lc_18_b46
  | 47, _ => exact lc_18_b47
  | 48, _ => exact lc_18_b48
  | 49, _ => exact lc_18_b49
  | 50, _ => exact lc_18_b50
  | 51, _ => exact lc_18_b51
  | 52, _ => exact lc_18_b52
  | 53, _ => exact lc_18_b53
  | 54, _ => exact lc_18_b54
  | 55, _ => exact lc_18_b55
  | 56, _ => exact lc_18_b56
  | 57, _ => exact lc_18_b57
  | 58, _ => exact lc_18_b58
  | 59, _ => exact lc_18_b59
  | b + 60, h => omega
theorem lc_19_b0 : l_go (gC 19 (2147483648, 2147483648) (0, 4294967295) [] []) [] 3 = true := by decide +kernel
theorem lc_19_b1 : l_go (gC 19 (2147483649, 2147483649) (0, 4294967295) [] []) [] 3 = true := by decide +kernel
theorem lc_19_b2 : l_go (gC 19 (2147483650, 2147483650) (0, 4294967295) [] []) [] 3 = true := by decide +kernel
theorem lc_19_b3 : l_go (gC 19 (2147483651, 2147483651) (0, 4294967295) [] []) [] 3 = true := by decide +kernel
theorem lc_19_b4 : l_go (gC 19 (2147483652, 2147483652) (0, 4294967295) [] []) [] 3 = true := by decide +kernel
theorem lc_19_b5 : l_go (gC 19 (2147483653, 2147483653) (0, 4294967295) [] []) [] 3 = true := by decide +kernel
theorem lc_19_b6 : l_go (gC 19 (2147483654, 2147483654) (0, 4294967295) [] []) [] 3 = true := by decide +kernel
theorem lc_19_b7 : l_go (gC 19 (2147483655, 2147483655) (0, 4294967295) [] []) [] 3 = true := by decide +kernel
theorem lc_19_b8 : l_go (gC 19 (2147483656, 2147483656) (0, 4294967295) [] []) [] 3 = true := by decide +kernel
theorem lc_19_b9 : l_go (gC 19 (2147483657, 2147483657) (0, 4294967295) [] []) [] 3 = true := by decide +kernel
theorem lc_19_b10 : l_go (gC 19 (2147483658, 2147483658) (0, 4294967295) [] []) [] 3 = true := by decide +kernel
theorem lc_19_b11 : l_go (gC 19 (2147483659, 2147483659) (0, 4294967295) [] []) [] 3 = true := by decide +kernel
theorem lc_19_b12 : l_go (gC 19 (2147483660, 2147483660) (0, 4294967295) [] []) [] 3 = true := by decide +kernel
theorem lc_19_b13 : l_go (gC 19 (2147483661, 2147483661) (0, 4294967295) [] []) [] 3 = true := by decide +kernel
theorem lc_19_b14 : l_go (gC 19 (2147483662, 2147483662) (0, 4294967295) [] []) [] 3 = true := by decide +kernel
theorem lc_19_b15 : l_go (gC 19 (2147483663, 2147483663) (0, 4294967295) [] []) [] 3 = true := by decide +kernel
theorem lc_19_b16 : l_go (gC 19 (2147483664, 2147483664) (0, 4294967295) [] []) [] 3 = true := by decide +kernel
theorem lc_19_b17 : l_go (gC 19 (2147483665, 2147483665) (0, 4294967295) [] []) [] 3 = true := by decide +kernel
theorem lc_19_b18 : l_go (gC 19 (2147483666, 2147483666) (0, 4294967295) [] []) [] 3 = true := by decide +kernel
theorem lc_19_b19 : l_go (gC 19 (2147483667, 2147483667) (0, 4294967295) [] []) [] 3 = true := by decide +kernel
theorem lc_19_b20 : l_go (gC 19 (2147483668, 2147483668) (0, 4294967295) [] []) [] 3 = true := by decide +kernel
theorem lc_19_b21 : l_go (gC 19 (2147483669, 2147483669) (0, 4294967295) [] []) [] 3 = true := by decide +kernel
theorem lc_19_b22 : l_go (gC 19 (2147483670, 2147483670) (0, 4294967295) [] []) [] 3 = true := by decide +kernel
theorem lc_19_b23 : l_go (gC 19 (2147483671, 2147483671) (0, 4294967295) [] []) [] 3 = true := by decide +kernel
theorem lc_19_b24 : l_go (gC 19 (2147483672, 2147483672) (0, 4294967295) [] []) [] 3 = true := by decide +kernel
theorem lc_19_b25 : l_go (gC 19 (2147483673, 2147483673) (0, 4294967295) [] []) [] 3 = true := by decide +kernel
theorem lc_19_b26 : l_go (gC 19 (2147483674, 2147483674) (0, 4294967295) [] []) [] 3 = true := by decide +kernel
theorem lc_19_b27 : l_go (gC 19 (2147483675, 2147483675) (0, 4294967295) [] []) [] 3 = true := by decide +kernel
theorem lc_19_b28 : l_go (gC 19 (2147483676, 2147483676) (0, 4294967295) [] []) [] 3 = true := by decide +kernel
theorem lc_19_b29 : l_go (gC 19 (2147483677, 2147483677) (0, 4294967295) [] []) [] 3 = true := by decide +kernel
theorem lc_19_b30 : l_go (gC 19 (2147483678, 2147483678) (0, 4294967295) [] []) [] 3 = true := by decide +kernel
theorem lc_19_b31 : l_go (gC 19 (2147483679, 2147483679) (0, 4294967295) [] []) [] 3 = true := by decide +kernel
theorem lc_19_b32 : l_go (gC 19 (2147483680, 2147483680) (0, 4294967295) [] []) [] 3 = true := by decide +kernel
theorem lc_19_b33 : l_go (gC 19 (2147483681, 2147483681) (0, 4294967295) [] []) [] 3 = true := by decide +kernel
theorem lc_19_b34 : l_go (gC 19 (2147483682, 2147483682) (0, 4294967295) [] []) [] 3 = true := by decide +kernel
theorem lc_19_b35 : l_go (gC 19 (2147483683, 2147483683) (0, 4294967295) [] []) [] 3 = true := by decide +kernel
theorem lc_19_b36 : l_go (gC 19 (2147483684, 2147483684) (0, 4294967295) [] []) [] 3 = true := by decide +kernel
theorem lc_19_b37 : l_go (gC 19 (2147483685, 2147483685) (0, 4294967295) [] []) [] 3 = true := by decide +kernel
theorem lc_19_b38 : l_go (gC 19 (2147483686, 2147483686) (0, 4294967295) [] []) [] 3 = true := by decide +kernel
theorem lc_19_b39 : l_go (gC 19 (2147483687, 2147483687) (0, 4294967295) [] []) [] 3 = true := by decide +kernel
theorem lc_19_b40 : l_go (gC 19 (2147483688, 2147483688) (0, 4294967295) [] []) [] 3 = true := by decide +kernel
theorem lc_19_b41 : l_go (gC 19 (2147483689, 2147483689) (0, 4294967295) [] []) [] 3 = true := by decide +kernel
theorem lc_19_b42 : l_go (gC 19 (2147483690, 2147483690) (0, 4294967295) [] []) [] 3 = true := by decide +kernel
theorem lc_19_b43 : l_go (gC 19 (2147483691, 2147483691) (0, 4294967295) [] []) [] 3 = true := by decide +kernel
theorem lc_19_b44 : l_go (gC 19 (2147483692, 2147483692) (0, 4294967295) [] []) [] 3 = true := by decide +kernel
theorem lc_19_b45 : l_go (gC 19 (2147483693, 2147483693) (0, 4294967295) [] []) [] 3 = true := by decide +kernel
theorem lc_19_b46 : l_go (gC 19 (2147483694, 2147483694) (0, 4294967295) [] []) [] 3 = true := by decide +kernel
theorem lc_19_b47 : l_go (gC 19 (2147483695, 2147483695) (0, 4294967295) [] []) [] 3 = true := by decide +kernel
theorem lc_19_b48 : l_go (gC 19 (2147483696, 2147483696) (0, 4294967295) [] []) [] 3 = true := by decide +kernel
theorem lc_19_b49 : l_go (gC 19 (2147483697, 2147483697) (0, 4294967295) [] []) [] 3 = true := by decide +kernel
theorem lc_19_b50 : l_go (gC 19 (2147483698, 2147483698) (0, 4294967295) [] []) [] 3 = true := by decide +kernel
theorem lc_19_b51 : l_go (gC 19 (2147483699, 2147483699) (0, 4294967295) [] []) [] 3 = true := by decide +kernel
theorem lc_19_b52 : l_go (gC 19 (2147483700, 2147483700) (0, 4294967295) [] []) [] 3 = true := by decide +kernel
theorem lc_19_b53 : l_go (gC 19 (2147483701, 2147483701) (0, 4294967295) [] []) [] 3 = true := by decide +kernel
theorem lc_19_b54 : l_go (gC 19 (2147483702, 2147483702) (0, 4294967295) [] []) [] 3 = true := by decide +kernel
theorem lc_19_b55 : l_go (gC 19 (2147483703, 2147483703) (0, 4294967295) [] []) [] 3 = true := by decide +kernel
theorem lc_19_b56 : l_go (gC 19 (2147483704, 2147483704) (0, 4294967295) [] []) [] 3 = true := by decide +kernel
theorem lc_19_b57 : l_go (gC 19 (2147483705, 2147483705) (0, 4294967295) [] []) [] 3 = true := by decide +kernel
theorem lc_19_b58 : l_go (gC 19 (2147483706, 2147483706) (0, 4294967295) [] []) [] 3 = true := by decide +kernel
theorem lc_19_b59 : l_go (gC 19 (2147483707, 2147483707) (0, 4294967295) [] []) [] 3 = true := by decide +kernel
theorem lc_19_b : ∀ b, b < 60 → l_go (gC 19 (2147483648 + b, 2147483648 + b) (0, 4294967295) [] []) [] 3 = true := fun b hb => by
  match b, hb with
  | 0, _ => exact lc_19_b0
  | 1, _ => exact lc_19_b1
  | 2, _ => exact lc_19_b2
  | 3, _ => exact lc_19_b3
  | 4, _ => exact lc_19_b4
  | 5, _ => exact lc_19_b5
  | 6, _ => exact lc_19_b6
  | 7, _ => exact lc_19_b7
  | 8, _ => exact lc_19_b8
  | 9, _ => exact lc_19_b9
  | 10, _ => exact lc_19_b10
  | 11, _ => exact lc_19_b11
  | 12, _ => exact lc_19_b12
  | 13, _ => exact lc_19_b13
  | 14, _ => exact lc_19_b14
  | 15, _ => exact lc_19_b15
  | 16, _ => exact lc_19_b16
  | 17, _ => exact lc_19_b17
  | 18, _ => exact lc_19_b18
  | 19, _ => exact lc_19_b19
  | 20, _ => exact lc_19_b20
  | 21, _ => exact lc_19_b21
  | 22, _ => exact lc_19_b22
  | 23, _ => exact lc_19_b23
  | 24, _ => exact lc_19_b24
  | 25, _ => exact lc_19_b25
  | 26, _ => exact lc_19_b26
  | 27, _ => exact lc_19_b27
  | 28, _ => exact lc_19_b28
  | 29, _ => exact lc_19_b29
  | 30, _ => exact lc_19_b30
  | 31, _ => exact lc_19_b31
  | 32, _ => exact lc_19_b32
  | 33, _ => exact lc_19_b33
  | 34, _ => exact lc_19_b34
  | 35, _ => exact lc_19_b35
  | 36, _ => exact lc_19_b36
  | 37, _ => exact lc_19_b37
  | 38, _ => exact lc_19_b38
  | 39, _ => exact lc_19_b39
  | 40, _ => exact lc_19_b40
  | 41, _ => exact lc_19_b41
  | 42, _ => exact lc_19_b42
  | 43, _ => exact lc_19_b43
  | 44, _ => exact lc_19_b44
  | 45, _ => exact lc_19_b45
  | 46, _ => exact lc_19_b46
  | 47, _ => exact lc_19_b47
  | 48, _ => exact lc_19_b48
  | 49, _ => exact lc_19_b49
  | 50, _ => exact lc_19_b50
  | 51, _ => exact lc_19_b51
  | 52, _ => exact lc_19_b52
  | 53, _ => exact lc_19_b53
  | 54, _ => exact lc_19_b54
  | 55, _ => exact lc_19_b55
  | 56, _ => exact lc_19_b56
  | 57, _ => exact lc_19_b57
  | 58, _ => exact lc_19_b58
  | 59, _ => exact lc_19_b59
  | b + 60, h => omega
theorem lc_0_s0 : l_go (gC 0 (2147483648, 2147483648) (0, 4294967295) [(2147483763, 2147483763)] [(7, 2, 0, 4)]) [] 3 = true := by decide +kernel
theorem lc_0_s1 : l_go (gC 0 (2147483649, 2147483649) (0, 4294967295) [(2147483763, 2147483763)] [(7, 2, 0, 4)]) [] 3 = true := by decide +kernel
theorem lc_0_s2 : l_go (gC 0 (2147483650, 2147483650) (0, 4294967295) [(2147483763, 2147483763)] [(7, 2, 0, 4)]) [] 3 = true := by decide +kernel
theorem lc_0_s3 : l_go (gC 0 (2147483651, 2147483651) (0, 4294967295) [(2147483763, 2147483763)] [(7, 2, 0, 4)]) [] 3 = true := by decide +kernel
theorem lc_0_s4 : l_go (gC 0 (2147483652, 2147483652) (0, 4294967295) [(2147483763, 2147483763)] [(7, 2, 0, 4)]) [] 3 = true := by decide +kernel
theorem lc_0_s5 : l_go (gC 0 (2147483653, 2147483653) (0, 4294967295) [(2147483763, 2147483763)] [(7, 2, 0, 4)]) [] 3 = true := by decide +kernel
theorem lc_0_s6 : l_go (gC 0 (2147483654, 2147483654) (0, 4294967295) [(2147483763, 2147483763)] [(7, 2, 0, 4)]) [] 3 = true := by decide +kernel
theorem lc_0_s7 : l_go (gC 0 (2147483655, 2147483655) (0, 4294967295) [(2147483763, 2147483763)] [(7, 2, 0, 4)]) [] 3 = true := by decide +kernel
theorem lc_0_s8 : l_go (gC 0 (2147483656, 2147483656) (0, 4294967295) [(2147483763, 2147483763)] [(7, 2, 0, 4)]) [] 3 = true := by decide +kernel
theorem lc_0_s9 : l_go (gC 0 (2147483657, 2147483657) (0, 4294967295) [(2147483763, 2147483763)] [(7, 2, 0, 4)]) [] 3 = true := by decide +kernel
theorem lc_0_s10 : l_go (gC 0 (2147483658, 2147483658) (0, 4294967295) [(2147483763, 2147483763)] [(7, 2, 0, 4)]) [] 3 = true := by decide +kernel
theorem lc_0_s11 : l_go (gC 0 (2147483659, 2147483659) (0, 4294967295) [(2147483763, 2147483763)] [(7, 2, 0, 4)]) [] 3 = true := by decide +kernel
theorem lc_0_s12 : l_go (gC 0 (2147483660, 2147483660) (0, 4294967295) [(2147483763, 2147483763)] [(7, 2, 0, 4)]) [] 3 = true := by decide +kernel
theorem lc_0_s13 : l_go (gC 0 (2147483661, 2147483661) (0, 4294967295) [(2147483763, 2147483763)] [(7, 2, 0, 4)]) [] 3 = true := by decide +kernel
theorem lc_0_s14 : l_go (gC 0 (2147483662, 2147483662) (0, 4294967295) [(2147483763, 2147483763)] [(7, 2, 0, 4)]) [] 3 = true := by decide +kernel
theorem lc_0_s15 : l_go (gC 0 (2147483663, 2147483663) (0, 4294967295) [(2147483763, 2147483763)] [(7, 2, 0, 4)]) [] 3 = true := by decide +kernel
theorem lc_0_s16 : l_go (gC 0 (2147483664, 2147483664) (0, 4294967295) [(2147483763, 2147483763)] [(7, 2, 0, 4)]) [] 3 = true := by decide +kernel
theorem lc_0_s17 : l_go (gC 0 (2147483665, 2147483665) (0, 4294967295) [(2147483763, 2147483763)] [(7, 2, 0, 4)]) [] 3 = true := by decide +kernel
theorem lc_0_s18 : l_go (gC 0 (2147483666, 2147483666) (0, 4294967295) [(2147483763, 2147483763)] [(7, 2, 0, 4)]) [] 3 = true := by decide +kernel
theorem lc_0_s19 : l_go (gC 0 (2147483667, 2147483667) (0, 4294967295) [(2147483763, 2147483763)] [(7, 2, 0, 4)]) [] 3 = true := by decide +kernel
theorem lc_0_s20 : l_go (gC 0 (2147483668, 2147483668) (0, 4294967295) [(2147483763, 2147483763)] [(7, 2, 0, 4)]) [] 3 = true := by decide +kernel
theorem lc_0_s21 : l_go (gC 0 (2147483669, 2147483669) (0, 4294967295) [(2147483763, 2147483763)] [(7, 2, 0, 4)]) [] 3 = true := by decide +kernel
theorem lc_0_s22 : l_go (gC 0 (2147483670, 2147483670) (0, 4294967295) [(2147483763, 2147483763)] [(7, 2, 0, 4)]) [] 3 = true := by decide +kernel
theorem lc_0_s23 : l_go (gC 0 (2147483671, 2147483671) (0, 4294967295) [(2147483763, 2147483763)] [(7, 2, 0, 4)]) [] 3 = true := by decide +kernel
theorem lc_0_s24 : l_go (gC 0 (2147483672, 2147483672) (0, 4294967295) [(2147483763, 2147483763)] [(7, 2, 0, 4)]) [] 3 = true := by decide +kernel
theorem lc_0_s25 : l_go (gC 0 (2147483673, 2147483673) (0, 4294967295) [(2147483763, 2147483763)] [(7, 2, 0, 4)]) [] 3 = true := by decide +kernel
theorem lc_0_s26 : l_go (gC 0 (2147483674, 2147483674) (0, 4294967295) [(2147483763, 2147483763)] [(7, 2, 0, 4)]) [] 3 = true := by decide +kernel
theorem lc_0_s27 : l_go (gC 0 (2147483675, 2147483675) (0, 4294967295) [(2147483763, 2147483763)] [(7, 2, 0, 4)]) [] 3 = true := by decide +kernel
theorem lc_0_s28 : l_go (gC 0 (2147483676, 2147483676) (0, 4294967295) [(2147483763, 2147483763)] [(7, 2, 0, 4)]) [] 3 = true := by decide +kernel
theorem lc_0_s29 : l_go (gC 0 (2147483677, 2147483677) (0, 4294967295) [(2147483763, 2147483763)] [(7, 2, 0, 4)]) [] 3 = true := by decide +kernel
theorem lc_0_s30 : l_go (gC 0 (2147483678, 2147483678) (0, 4294967295) [(2147483763, 2147483763)] [(7, 2, 0, 4)]) [] 3 = true := by decide +kernel
theorem lc_0_s31 : l_go (gC 0 (2147483679, 2147483679) (0, 4294967295) [(2147483763, 2147483763)] [(7, 2, 0, 4)]) [] 3 = true := by decide +kernel
theorem lc_0_s32 : l_go (gC 0 (2147483680, 2147483680) (0, 4294967295) [(2147483763, 2147483763)] [(7, 2, 0, 4)]) [] 3 = true := by decide +kernel
theorem lc_0_s33 : l_go (gC 0 (2147483681, 2147483681) (0, 4294967295) [(2147483763, 2147483763)] [(7, 2, 0, 4)]) [] 3 = true := by decide +kernel
theorem lc_0_s34 : l_go (gC 0 (2147483682, 2147483682) (0, 4294967295) [(2147483763, 2147483763)] [(7, 2, 0, 4)]) [] 3 = true := by decide +kernel
theorem lc_0_s35 : l_go (gC 0 (2147483683, 2147483683) (0, 4294967295) [(2147483763, 2147483763)] [(7, 2, 0, 4)]) [] 3 = true := by decide +kernel
theorem lc_0_s36 : l_go (gC 0 (2147483684, 2147483684) (0, 4294967295) [(2147483763, 2147483763)] [(7, 2, 0, 4)]) [] 3 = true := by decide +kernel
theorem lc_0_s37 : l_go (gC 0 (2147483685, 2147483685) (0, 4294967295) [(2147483763, 2147483763)] [(7, 2, 0, 4)]) [] 3 = true := by decide +kernel
theorem lc_0_s38 : l_go (gC 0 (2147483686, 2147483686) (0, 4294967295) [(2147483763, 2147483763)] [(7, 2, 0, 4)]) [] 3 = true := by decide +kernel
theorem lc_0_s39 : l_go (gC 0 (2147483687, 2147483687) (0, 4294967295) [(2147483763, 2147483763)] [(7, 2, 0, 4)]) [] 3 = true := by decide +kernel
theorem lc_0_s40 : l_go (gC 0 (2147483688, 2147483688) (0, 4294967295) [(2147483763, 2147483763)] [(7, 2, 0, 4)]) [] 3 = true := by decide +kernel
theorem lc_0_s41 : l_go (gC 0 (2147483689, 2147483689) (0, 4294967295) [(2147483763, 2147483763)] [(7, 2, 0, 4)]) [] 3 = true := by decide +kernel
theorem lc_0_s42 : l_go (gC 0 (2147483690, 2147483690) (0, 4294967295) [(2147483763, 2147483763)] [(7, 2, 0, 4)]) [] 3 = true := by decide +kernel
theorem lc_0_s43 : l_go (gC 0 (2147483691, 2147483691) (0, 4294967295) [(2147483763, 2147483763)] [(7, 2, 0, 4)]) [] 3 = true := by decide +kernel
theorem lc_0_s44 : l_go (gC 0 (2147483692, 2147483692) (0, 4294967295) [(2147483763, 2147483763)] [(7, 2, 0, 4)]) [] 3 = true := by decide +kernel
theorem lc_0_s45 : l_go (gC 0 (2147483693, 2147483693) (0, 4294967295) [(2147483763, 2147483763)] [(7, 2, 0, 4)]) [] 3 = true := by decide +kernel
theorem lc_0_s46 : l_go (gC 0 (2147483694, 2147483694) (0, 4294967295) [(2147483763, 2147483763)] [(7, 2, 0, 4)]) [] 3 = true := by decide +kernel
theorem lc_0_s47 : l_go (gC 0 (2147483695, 2147483695) (0, 4294967295) [(2147483763, 2147483763)] [(7, 2, 0, 4)]) [] 3 = true := by decide +kernel
theorem lc_0_s48 : l_go (gC 0 (2147483696, 2147483696) (0, 4294967295) [(2147483763, 2147483763)] [(7, 2, 0, 4)]) [] 3 = true := by decide +kernel
theorem lc_0_s49 : l_go (gC 0 (2147483697, 2147483697) (0, 4294967295) [(2147483763, 2147483763)] [(7, 2, 0, 4)]) [] 3 = true := by decide +kernel
theorem lc_0_s50 : l_go (gC 0 (2147483698, 2147483698) (0, 4294967295) [(2147483763, 2147483763)] [(7, 2, 0, 4)]) [] 3 = true := by decide +kernel
theorem lc_0_s51 : l_go (gC 0 (2147483699, 2147483699) (0, 4294967295) [(2147483763, 2147483763)] [(7, 2, 0, 4)]) [] 3 = true := by decide +kernel
theorem lc_0_s52 : l_go (gC 0 (2147483700, 2147483700) (0, 4294967295) [(2147483763, 2147483763)] [(7, 2, 0, 4)]) [] 3 = true := by decide +kernel
theorem lc_0_s53 : l_go (gC 0 (2147483701, 2147483701) (0, 4294967295) [(2147483763, 2147483763)] [(7, 2, 0, 4)]) [] 3 = true := by decide +kernel
theorem lc_0_s54 : l_go (gC 0 (2147483702, 2147483702) (0, 4294967295) [(2147483763, 2147483763)] [(7, 2, 0, 4)]) [] 3 = true := by decide +kernel
theorem lc_0_s55 : l_go (gC 0 (2147483703, 2147483703) (0, 4294967295) [(2147483763, 2147483763)] [(7, 2, 0, 4)]) [] 3 = true := by decide +kernel
theorem lc_0_s56 : l_go (gC 0 (2147483704, 2147483704) (0, 4294967295) [(2147483763, 2147483763)] [(7, 2, 0, 4)]) [] 3 = true := by decide +kernel
theorem lc_0_s57 : l_go (gC 0 (2147483705, 2147483705) (0, 4294967295) [(2147483763, 2147483763)] [(7, 2, 0, 4)]) [] 3 = true := by decide +kernel
theorem lc_0_s58 : l_go (gC 0 (2147483706, 2147483706) (0, 4294967295) [(2147483763, 2147483763)] [(7, 2, 0, 4)]) [] 3 = true := by decide +kernel
theorem lc_0_s59 : l_go (gC 0 (2147483707, 2147483707) (0, 4294967295) [(2147483763, 2147483763)] [(7, 2, 0, 4)]) [] 3 = true := by decide +kernel
theorem lc_0_s : ∀ b, b < 60 → l_go (gC 0 (2147483648 + b, 2147483648 + b) (0, 4294967295) [(2147483763, 2147483763)] [(7, 2, 0, 4)]) [] 3 = true := fun b hb => by
  match b, hb with
  | 0, _ => exact lc_0_s0
  | 1, _ => exact lc_0_s1
  | 2, _ => exact lc_0_s2
  | 3, _ => exact lc_0_s3
  | 4, _ => exact lc_0_s4
  | 5, _ => exact lc_0_s5
  | 6, _ => exact lc_0_s6
  | 7, _ => exact lc_0_s7
  | 8, _ => exact lc_0_s8
  | 9, _ => exact lc_0_s9
  | 10, _ => exact lc_0_s10
  | 11, _ => exact lc_0_s11
  | 12, _ => exact lc_0_s12
  | 13, _ => exact lc_0_s13
  | 14, _ => exact lc_0_s14
  | 15, _ => exact lc_0_s15
  | 16, _ => exact lc_0_s16
  | 17, _ => exact lc_0_s17
  | 18, _ => exact lc_0_s18
  | 19, _ => exact lc_0_s19
  | 20, _ => exact lc_0_s20
  | 21, _ => exact lc_0_s21
  | 22, _ => exact lc_0_s22
  | 23, _ => exact lc_0_s23
  | 24, _ => exact lc_0_s24
  | 25, _ => exact lc_0_s25
  | 26, _ => exact lc_0_s26
  | 27, _ => exact lc_0_s27
  | 28, _ => exact lc_0_s28
  | 29, _ => exact lc_0_s29
  | 30, _ => exact lc_0_s30
  | 31, _ => exact lc_0_s31
  | 32, _ => exact lc_0_s32
  | 33, _ => exact lc_0_s33
  | 34, _ => exact lc_0_s34
  | 35, _ => exact lc_0_s35
  | 36, _ => exact lc_0_s36
  | 37, _ => exact lc_0_s37
  | 38, _ => exact lc_0_s38
  | 39, _ => exact lc_0_s39
  | 40, _ => exact lc_0_s40
  | 41, _ => exact lc_0_s41
  | 42, _ => exact lc_0_s42
  | 43, _ => exact lc_0_s43
  | 44, _ => exact lc_0_s44
  | 45, _ => exact lc_0_s45
  | 46, _ => exact lc_0_s46
  | 47, _ => exact lc_0_s47
  | 48, _ => exact lc_0_s48
  | 49, _ => exact lc_0_s49
  | 50, _ => exact lc_0_s50
  | 51, _ => exact lc_0_s51
  | 52, _ => exact lc_0_s52
  | 53, _ => exact lc_0_s53
  | 54, _ => exact lc_0_s54
  | 55, _ => exact lc_0_s55
  | 56, _ => exact lc_0_s56
  | 57, _ => exact lc_0_s57
  | 58, _ => exact lc_0_s58
  | 59, _ => exact lc_0_s59
  | b + 60, h => omega
theorem lc_0_h0 : l_go (gC 0 (2147483648, 2147483648) (0, 4294967295) [(2147483752, 2147483752)] [(7, 2, 0, 4)]) [] 3 = true := by decide +kernel
theorem lc_0_h1 : l_go (gC 0 (2147483649, 2147483649) (0, 4294967295) [(2147483752, 2147483752)] [(7, 2, 0, 4)]) [] 3 = true := by decide +kernel
theorem lc_0_h2 : l_go (gC 0 (2147483650, 2147483650) (0, 4294967295) [(2147483752, 2147483752)] [(7, 2, 0, 4)]) [] 3 = true := by decide +kernel
theorem lc_0_h3 : l_go (gC 0 (2147483651, 2147483651) (0, 4294967295) [(2147483752, 2147483752)] [(7, 2, 0, 4)]) [] 3 = true := by decide +kernel
theorem lc_0_h4 : l_go (gC 0 (2147483652, 2147483652) (0, 4294967295) [(2147483752, 2147483752)] [(7, 2, 0, 4)]) [] 3 = true := by decide +kernel
theorem lc_0_h5 : l_go (gC 0 (2147483653, 2147483653) (0, 4294967295) [(2147483752, 2147483752)] [(7, 2, 0, 4)]) [] 3 = true := by decide +kernel
theorem lc_0_h6 : l_go (gC 0 (2147483654, 2147483654) (0, 4294967295) [(2147483752, 2147483752)] [(7, 2, 0, 4)]) [] 3 = true := by decide +kernel
theorem lc_0_h7 : l_go (gC 0 (2147483655, 2147483655) (0, 4294967295) [(2147483752, 2147483752)] [(7, 2, 0, 4)]) [] 3 = true := by decide +kernel
theorem lc_0_h8 : l_go (gC 0 (2147483656, 2147483656) (0, 4294967295) [(2147483752, 2147483752)] [(7, 2, 0, 4)]) [] 3 = true := by decide +kernel
theorem lc_0_h9 : l_go (gC 0 (2147483657, 2147483657) (0, 4294967295) [(2147483752, 2147483752)] [(7, 2, 0, 4)]) [] 3 = true := by decide +kernel
theorem lc_0_h10 : l_go (gC 0 (2147483658, 2147483658) (0, 4294967295) [(2147483752, 2147483752)] [(7, 2, 0, 4)]) [] 3 = true := by decide +kernel
theorem lc_0_h11 : l_go (gC 0 (2147483659, 2147483659) (0, 4294967295) [(2147483752, 2147483752)] [(7, 2, 0, 4)]) [] 3 = true := by decide +kernel
theorem lc_0_h12 : l_go (gC 0 (2147483660, 2147483660) (0, 4294967295) [(2147483752, 2147483752)] [(7, 2, 0, 4)]) [] 3 = true := by decide +kernel
theorem lc_0_h13 : l_go (gC 0 (2147483661, 2147483661) (0, 4294967295) [(2147483752, 2147483752)] [(7, 2, 0, 4)]) [] 3 = true := by decide +kernel
theorem lc_0_h14 : l_go (gC 0 (2147483662, 2147483662) (0, 4294967295) [(2147483752, 2147483752)] [(7, 2, 0, 4)]) [] 3 = true := by decide +kernel
theorem lc_0_h15 : l_go (gC 0 (2147483663, 2147483663) (0, 4294967295) [(2147483752, 2147483752)] [(7, 2, 0, 4)]) [] 3 = true := by decide +kernel
theorem lc_0_h16 : l_go (gC 0 (2147483664, 2147483664) (0, 4294967295) [(2147483752, 2147483752)] [(7, 2, 0, 4)]) [] 3 = true := by decide +kernel
theorem lc_0_h17 : l_go (gC 0 (2147483665, 2147483665) (0, 4294967295) [(2147483752, 2147483752)] [(7, 2, 0, 4)]) [] 3 = true := by decide +kernel
theorem lc_0_h18 : l_go (gC 0 (2147483666, 2147483666) (0, 4294967295) [(2147483752, 2147483752)] [(7, 2, 0, 4)]) [] 3 = true := by decide +kernel
theorem lc_0_h19 : l_go (gC 0 (2147483667, 2147483667) (0, 4294967295) [(2147483752, 2147483752)] [(7, 2, 0, 4)]) [] 3 = true := by decide +kernel
theorem lc_0_h20 : l_go (gC 0 (2147483668, 2147483668) (0, 4294967295) [(2147483752, 2147483752)] [(7, 2, 0, 4)]) [] 3 = true := by decide +kernel
theorem lc_0_h21 : l_go (gC 0 (2147483669, 2147483669) (0, 4294967295) [(2147483752, 2147483752)] [(7, 2, 0, 4)]) [] 3 = true := by decide +kernel
theorem lc_0_h22 : l_go (gC 0 (2147483670, 2147483670) (0, 4294967295) [(2147483752, 2147483752)] [(7, 2, 0, 4)]) [] 3 = true := by decide +kernel
theorem lc_0_h23 : l_go (gC 0 (2147483671, 2147483671) (0, 4294967295) [(2147483752, 2147483752)] [(7, 2, 0, 4)]) [] 3 = true := by decide +kernel
theorem lc_0_h24 : l_go (gC 0 (2147483672, 2147483672) (0, 4294967295) [(2147483752, 2147483752)] [(7, 2, 0, 4)]) [] 3 = true := by decide +kernel
theorem lc_0_h25 : l_go (gC 0 (2147483673, 2147483673) (0, 4294967295) [(2147483752, 2147483752)] [(7, 2, 0, 4)]) [] 3 = true := by decide +kernel
theorem lc_0_h26 : l_go (gC 0 (2147483674, 2147483674) (0, 4294967295) [(2147483752, 2147483752)] [(7, 2, 0, 4)]) [] 3 = true := by decide +kernel
theorem lc_0_h27 : l_go (gC 0 (2147483675, 2147483675) (0, 4294967295) [(2147483752, 2147483752)] [(7, 2, 0, 4)]) [] 3 = true := by decide +kernel
theorem lc_0_h28 : l_go (gC 0 (2147483676, 2147483676) (0, 4294967295) [(2147483752, 2147483752)] [(7, 2, 0, 4)]) [] 3 = true := by decide +kernel
theorem lc_0_h29 : l_go (gC 0 (2147483677, 2147483677) (0, 4294967295) [(2147483752, 2147483752)] [(7, 2, 0, 4)]) [] 3 = true := by decide +kernel
theorem lc_0_h30 : l_go (gC 0 (2147483678, 2147483678) (0, 4294967295) [(2147483752, 2147483752)] [(7, 2, 0, 4)]) [] 3 = true := by decide +kernel
theorem lc_0_h31 : l_go (gC 0 (2147483679, 2147483679) (0, 4294967295) [(2147483752, 2147483752)] [(7, 2, 0, 4)]) [] 3 = true := by decide +kernel
theorem lc_0_h32 : l_go (gC 0 (2147483680, 2147483680) (0, 4294967295) [(2147483752, 2147483752)] [(7, 2, 0, 4)]) [] 3 = true := by decide +kernel
theorem lc_0_h33 : l_go (gC 0 (2147483681, 2147483681) (0, 4294967295) [(2147483752, 2147483752)] [(7, 2, 0, 4)]) [] 3 = true := by decide +kernel
theorem lc_0_h34 : l_go (gC 0 (2147483682, 2147483682) (0, 4294967295) [(2147483752, 2147483752)] [(7, 2, 0, 4)]) [] 3 = true := by decide +kernel
theorem lc_0_h35 : l_go (gC 0 (2147483683, 2147483683) (0, 4294967295) [(2147483752, 2147483752)] [(7, 2, 0, 4)]) [] 3 = true := by decide +kernel
theorem lc_0_h36 : l_go (gC 0 (2147483684, 2147483684) (0, 4294967295) [(2147483752, 2147483752)] [(7, 2, 0, 4)]) [] 3 = true := by decide +kernel
theorem lc_0_h37 : l_go (gC 0 (2147483685, 2147483685) (0, 4294967295) [(2147483752, 2147483752)] [(7, 2, 0, 4)]) [] 3 = true := by decide +kernel
theorem lc_0_h38 : l_go (gC 0 (2147483686, 2147483686) (0, 4294967295) [(2147483752, 2147483752)] [(7, 2, 0, 4)]) [] 3 = true := by decide +kernel
theorem lc_0_h39 : l_go (gC 0 (2147483687, 2147483687) (0, 4294967295) [(2147483752, 2147483752)] [(7, 2, 0, 4)]) [] 3 = true := by decide +kernel
theorem lc_0_h40 : l_go (gC 0 (2147483688, 2147483688) (0, 4294967295) [(2147483752, 2147483752)] [(7, 2, 0, 4)]) [] 3 = true := by decide +kernel
theorem lc_0_h41 : l_go (gC 0 (2147483689, 2147483689) (0, 4294967295) [(2147483752, 2147483752)] [(7, 2, 0, 4)]) [] 3 = true := by decide +kernel
theorem lc_0_h42 : l_go (gC 0 (2147483690, 2147483690) (0, 4294967295) [(2147483752, 2147483752)] [(7, 2, 0, 4)]) [] 3 = true := by decide +kernel
theorem lc_0_h43 : l_go (gC 0 (2147483691, 2147483691) (0, 4294967295) [(2147483752, 2147483752)] [(7, 2, 0, 4)]) [] 3 = true := by decide +kernel
theorem lc_0_h44 : l_go (gC 0 (2147483692, 2147483692) (0, 4294967295) [(2147483752, 2147483752)] [(7, 2, 0, 4)]) [] 3 = true := by decide +kernel
theorem lc_0_h45 : l_go (gC 0 (2147483693, 2147483693) (0, 4294967295) [(2147483752, 2147483752)] [(7, 2, 0, 4)]) [] 3 = true := by decide +kernel
theorem lc_0_h46 : l_go (gC 0 (2147483694, 2147483694) (0, 4294967295) [(2147483752, 2147483752)] [(7, 2, 0, 4)]) [] 3 = true := by decide +kernel
theorem lc_0_h47 : l_go (gC 0 (2147483695, 2147483695) (0, 4294967295) [(2147483752, 2147483752)] [(7, 2, 0, 4)]) [] 3 = true := by decide +kernel
theorem lc_0_h48 : l_go (gC 0 (2147483696, 2147483696) (0, 4294967295) [(2147483752, 2147483752)] [(7, 2, 0, 4)]) [] 3 = true := by decide +kernel
theorem lc_0_h49 : l_go (gC 0 (2147483697, 2147483697) (0, 4294967295) [(2147483752, 2147483752)] [(7, 2, 0, 4)]) [] 3 = true := by decide +kernel
theorem lc_0_h50 : l_go (gC 0 (2147483698, 2147483698) (0, 4294967295) [(2147483752, 2147483752)] [(7, 2, 0, 4)]) [] 3 = true := by decide +kernel
theorem lc_0_h51 : l_go (gC 0 (2147483699, 2147483699) (0, 4294967295) [(2147483752, 2147483752)] [(7, 2, 0, 4)]) [] 3 = true := by decide +kernel
theorem lc_0_h52 : l_go (gC 0 (2147483700, 2147483700) (0, 4294967295) [(2147483752, 2147483752)] [(7, 2, 0, 4)]) [] 3 = true := by decide +kernel
theorem lc_0_h53 : l_go (gC 0 (2147483701, 2147483701) (0, 4294967295) [(2147483752, 2147483752)] [(7, 2, 0, 4)]) [] 3 = true := by decide +kernel
theorem lc_0_h54 : l_go (gC 0 (2147483702, 2147483702) (0, 4294967295) [(2147483752, 2147483752)] [(7, 2, 0, 4)]) [] 3 = true := by decide +kernel
theorem lc_0_h55 : l_go (gC 0 (2147483703, 2147483703) (0, 4294967295) [(2147483752, 2147483752)] [(7, 2, 0, 4)]) [] 3 = true := by decide +kernel
theorem lc_0_h56 : l_go (gC 0 (2147483704, 2147483704) (0, 4294967295) [(2147483752, 2147483752)] [(7, 2, 0, 4)]) [] 3 = true := by decide +kernel
theorem lc_0_h57 : l_go (gC 0 (2147483705, 2147483705) (0, 4294967295) [(2147483752, 2147483752)] [(7, 2, 0, 4)]) [] 3 = true := by decide +kernel
theorem lc_0_h58 : l_go (gC 0 (2147483706, 2147483706) (0, 4294967295) [(2147483752, 2147483752)] [(7, 2, 0, 4)]) [] 3 = true := by decide +kernel
theorem lc_0_h59 : l_go (gC 0 (2147483707, 2147483707) (0, 4294967295) [(2147483752, 2147483752)] [(7, 2, 0, 4)]) [] 3 = true := by decide +kernel
theorem lc_0_h : ∀ b, b < 60 → l_go (gC 0 (2147483648 + b, 2147483648 + b) (0, 4294967295) [(2147483752, 2147483752)] [(7, 2, 0, 4)]) [] 3 = true := fun b hb => by
  match b, hb with
  | 0, _ => exact lc_0_h0
  | 1, _ => exact lc_0_h1
  | 2, _ => exact lc_0_h2
  | 3, _ => exact lc_0_h3
  | 4, _ => exact lc_0_h4
  | 5, _ => exact lc_0_h5
  | 6, _ => exact lc_0_h6
  | 7, _ => exact lc_0_h7
  | 8, _ => exact lc_0_h8
  | 9, _ => exact lc_0_h9
  | 10, _ => exact lc_0_h10
  | 11, _ => exact lc_0_h11
  | 12, _ => exact lc_0_h12
  | 13, _ => exact lc_0_h13
  | 14, _ => exact lc_0_h14
  | 15, _ => exact lc_0_h15
  | 16, _ => exact lc_0_h16
  | 17, _ => exact lc_0_h17
  | 18, _ => exact lc_0_h18
  | 19, _ => exact lc_0_h19
  | 20, _ => exact lc_0_h20
  | 21, _ => exact lc_0_h21
  | 22, _ => exact lc_0_h22
  | 23, _ => exact lc_0_h23
  | 24, _ => exact lc_0_h24
  | 25, _ => exact lc_0_h25
  | 26, _ => exact lc_0_h26
  | 27, _ => exact lc_0_h27
  | 28, _ => exact lc_0_h28
  | 29, _ => exact lc_0_h29
  | 30, _ => exact lc_0_h30
  | 31, _ => exact lc_0_h31
  | 32, _ => exact lc_0_h32
  | 33, _ => exact lc_0_h33
  | 34, _ => exact lc_0_h34
  | 35, _ => exact lc_0_h35
  | 36, _ => exact lc_0_h36
  | 37, _ => exact lc_0_h37
  | 38, _ => exact lc_0_h38
  | 39, _ => exact lc_0_h39
  | 40, _ => exact lc_0_h40
  | 41, _ => exact lc_0_h41
  | 42, _ => exact lc_0_h42
  | 43, _ => exact lc_0_h43
  | 44, _ => exact lc_0_h44
  | 45, _ => exact lc_0_h45
  | 46, _ => exact lc_0_h46
  | 47, _ => exact lc_0_h47
  | 48, _ => exact lc_0_h48
  | 49, _ => exact lc_0_h49
  | 50, _ => exact lc_0_h50
  | 51, _ => exact lc_0_h51
  | 52, _ => exact lc_0_h52
  | 53, _ => exact lc_0_h53
  | 54, _ => exact lc_0_h54
  | 55, _ => exact lc_0_h55
  | 56, _ => exact lc_0_h56
  | 57, _ => exact lc_0_h57
  | 58, _ => exact lc_0_h58
  | 59, _ => exact lc_0_h59
  | b + 60, h => omega
theorem lc_2_b0 : l_go (gC 2 (2147483648, 2147483648) (2147483648, 2147483747) [(0, 4294967295)] [(0, 2, 1, 4)]) [] 3 = true := by decide +kernel
theorem lc_2_b1 : l_go (gC 2 (2147483649, 2147483649) (2147483648, 2147483747) [(0, 4294967295)] [(0, 2, 1, 4)]) [] 3 = true := by decide +kernel
theorem lc_2_b2 : l_go (gC 2 (2147483650, 2147483650) (2147483648, 2147483747) [(0, 4294967295)] [(0, 2, 1, 4)]) [] 3 = true := by decide +kernel
theorem lc_2_b3 : l_go (gC 2 (2147483651, 2147483651) (2147483648, 2147483747) [(0, 4294967295)] [(0, 2, 1, 4)]) [] 3 = true := by decide +kernel
theorem lc_2_b4 : l_go (gC 2 (2147483652, 2147483652) (2147483648, 2147483747) [(0, 4294967295)] [(0, 2, 1, 4)]) [] 3 = true := by decide +kernel
theorem lc_2_b5 : l_go (gC 2 (2147483653, 2147483653) (2147483648, 2147483747) [(0, 4294967295)] [(0, 2, 1, 4)]) [] 3 = true := by decide +kernel
theorem lc_2_b6 : l_go (gC 2 (2147483654, 2147483654) (2147483648, 2147483747) [(0, 4294967295)] [(0, 2, 1, 4)]) [] 3 = true := by decide +kernel
theorem lc_2_b7 : l_go (gC 2 (2147483655, 2147483655) (2147483648, 2147483747) [(0, 4294967295)] [(0, 2, 1, 4)]) [] 3 = true := by decide +kernel
theorem lc_2_b8 : l_go (gC 2 (2147483656, 2147483656) (2147483648, 2147483747) [(0, 4294967295)] [(0, 2, 1, 4)]) [] 3 = true := by decide +kernel
theorem lc_2_b9 : l_go (gC 2 (2147483657, 2147483657) (2147483648, 2147483747) [(0, 4294967295)] [(0, 2, 1, 4)]) [] 3 = true := by decide +kernel
theorem lc_2_b10 : l_go (gC 2 (2147483658, 2147483658) (2147483648, 2147483747) [(0, 4294967295)] [(0, 2, 1, 4)]) [] 3 = true := by decide +kernel
theorem lc_2_b11 : l_go (gC 2 (2147483659, 2147483659) (2147483648, 2147483747) [(0, 4294967295)] [(0, 2, 1, 4)]) [] 3 = true := by decide +kernel
theorem lc_2_b12 : l_go (gC 2 (2147483660, 2147483660) (2147483648, 2147483747) [(0, 4294967295)] [(0, 2, 1, 4)]) [] 3 = true := by decide +kernel
theorem lc_2_b13 : l_go (gC 2 (2147483661, 2147483661) (2147483648, 2147483747) [(0, 4294967295)] [(0, 2, 1, 4)]) [] 3 = true := by decide +kernel
theorem lc_2_b14 : l_go (gC 2 (2147483662, 2147483662) (2147483648, 2147483747) [(0, 4294967295)] [(0, 2, 1, 4)]) [] 3 = true := by decide +kernel
theorem lc_2_b15 : l_go (gC 2 (2147483663, 2147483663) (2147483648, 2147483747) [(0, 4294967295)] [(0, 2, 1, 4)]) [] 3 = true := by decide +kernel
theorem lc_2_b16 : l_go (gC 2 (2147483664, 2147483664) (2147483648, 2147483747) [(0, 4294967295)] [(0, 2, 1, 4)]) [] 3 = true := by decide +kernel
theorem lc_2_b17 : l_go (gC 2 (2147483665, 2147483665) (2147483648, 2147483747) [(0, 4294967295)] [(0, 2, 1, 4)]) [] 3 = true := by decide +kernel
theorem lc_2_b18 : l_go (gC 2 (2147483666, 2147483666) (2147483648, 2147483747) [(0, 4294967295)] [(0, 2, 1, 4)]) [] 3 = true := by decide +kernel
theorem lc_2_b19 : l_go (gC 2 (2147483667, 2147483667) (2147483648, 2147483747) [(0, 4294967295)] [(0, 2, 1, 4)]) [] 3 = true := by decide +kernel
theorem lc_2_b20 : l_go (gC 2 (2147483668, 2147483668) (2147483648, 2147483747) [(0, 4294967295)] [(0, 2, 1, 4)]) [] 3 = true := by decide +kernel
theorem lc_2_b21 : l_go (gC 2 (2147483669, 2147483669) (2147483648, 2147483747) [(0, 4294967295)] [(0, 2, 1, 4)]) [] 3 = true := by decide +kernel
theorem lc_2_b22 : l_go (gC 2 (2147483670, 2147483670) (2147483648, 2147483747) [(0, 4294967295)] [(0, 2, 1, 4)]) [] 3 = true := by decide +kernel
theorem lc_2_b23 : l_go (gC 2 (2147483671, 2147483671) (2147483648, 2147483747) [(0, 4294967295)] [(0, 2, 1, 4)]) [] 3 = true := by decide +kernel
theorem lc_2_b24 : l_go (gC 2 (2147483672, 2147483672) (2147483648, 2147483747) [(0, 4294967295)] [(0, 2, 1, 4)]) [] 3 = true := by decide +kernel
theorem lc_2_b25 : l_go (gC 2 (2147483673, 2147483673) (2147483648, 2147483747) [(0, 4294967295)] [(0, 2, 1, 4)]) [] 3 = true := by decide +kernel
theorem lc_2_b26 : l_go (gC 2 (2147483674, 2147483674) (2147483648, 2147483747) [(0, 4294967295)] [(0, 2, 1, 4)]) [] 3 = true := by decide +kernel
theorem lc_2_b27 : l_go (gC 2 (2147483675, 2147483675) (2147483648, 2147483747) [(0, 4294967295)] [(0, 2, 1, 4)]) [] 3 = true := by decide +kernel
theorem lc_2_b28 : l_go (gC 2 (2147483676, 2147483676) (2147483648, 2147483747) [(0, 4294967295)] [(0, 2, 1, 4)]) [] 3 = true := by decide +kernel
theorem lc_2_b29 : l_go (gC 2 (2147483677, 2147483677) (2147483648, 2147483747) [(0, 4294967295)] [(0, 2, 1, 4)]) [] 3 = true := by decide +kernel
theorem lc_2_b30 : l_go (gC 2 (2147483678, 2147483678) (2147483648, 2147483747) [(0, 4294967295)] [(0, 2, 1, 4)]) [] 3 = true := by decide +kernel
theorem lc_2_b31 : l_go (gC 2 (2147483679, 2147483679) (2147483648, 2147483747) [(0, 4294967295)] [(0, 2, 1, 4)]) [] 3 = true := by decide +kernel
theorem lc_2_b32 : l_go (gC 2 (2147483680, 2147483680) (2147483648, 2147483747) [(0, 4294967295)] [(0, 2, 1, 4)]) [] 3 = true := by decide +kernel
theorem lc_2_b33 : l_go (gC 2 (2147483681, 2147483681) (2147483648, 2147483747) [(0, 4294967295)] [(0, 2, 1, 4)]) [] 3 = true := by decide +kernel
theorem lc_2_b34 : l_go (gC 2 (2147483682, 2147483682) (2147483648, 2147483747) [(0, 4294967295)] [(0, 2, 1, 4)]) [] 3 = true := by decide +kernel
theorem lc_2_b35 : l_go (gC 2 (2147483683, 2147483683) (2147483648, 2147483747) [(0, 4294967295)] [(0, 2, 1, 4)]) [] 3 = true := by decide +kernel
theorem lc_2_b36 : l_go (gC 2 (2147483684, 2147483684) (2147483648, 2147483747) [(0, 4294967295)] [(0, 2, 1, 4)]) [] 3 = true := by decide +kernel
theorem lc_2_b37 : l_go (gC 2 (2147483685, 2147483685) (2147483648, 2147483747) [(0, 4294967295)] [(0, 2, 1, 4)]) [] 3 = true := by decide +kernel
theorem lc_2_b38 : l_go (gC 2 (2147483686, 2147483686) (2147483648, 2147483747) [(0, 4294967295)] [(0, 2, 1, 4)]) [] 3 = true := by decide +kernel
theorem lc_2_b39 : l_go (gC 2 (2147483687, 2147483687) (2147483648, 2147483747) [(0, 4294967295)] [(0, 2, 1, 4)]) [] 3 = true := by decide +kernel
theorem lc_2_b40 : l_go (gC 2 (2147483688, 2147483688) (2147483648, 2147483747) [(0, 4294967295)] [(0, 2, 1, 4)]) [] 3 = true := by decide +kernel
theorem lc_2_b41 : l_go (gC 2 (2147483689, 2147483689) (2147483648, 2147483747) [(0, 4294967295)] [(0, 2, 1, 4)]) [] 3 = true := by decide +kernel
theorem lc_2_b42 : l_go (gC 2 (2147483690, 2147483690) (2147483648, 2147483747) [(0, 4294967295)] [(0, 2, 1, 4)]) [] 3 = true := by decide +kernel
theorem lc_2_b43 : l_go (gC 2 (2147483691, 2147483691) (2147483648, 2147483747) [(0, 4294967295)] [(0, 2, 1, 4)]) [] 3 = true := by decide +kernel
theorem lc_2_b44 : l_go (gC 2 (2147483692, 2147483692) (2147483648, 2147483747) [(0, 4294967295)] [(0, 2, 1, 4)]) [] 3 = true := by decide +kernel
theorem lc_2_b45 : l_go (gC 2 (2147483693, 2147483693) (2147483648, 2147483747) [(0, 4294967295)] [(0, 2, 1, 4)]) [] 3 = true := by decide +kernel
theorem lc_2_b46 : l_go (gC 2 (2147483694, 2147483694) (2147483648, 2147483747) [(0, 4294967295)] [(0, 2, 1, 4)]) [] 3 = true := by decide +kernel
theorem lc_2_b47 : l_go (gC 2 (2147483695, 2147483695) (2147483648, 2147483747) [(0, 4294967295)] [(0, 2, 1, 4)]) [] 3 = true := by decide +kernel
theorem lc_2_b48 : l_go (gC 2 (2147483696, 2147483696) (2147483648, 2147483747) [(0, 4294967295)] [(0, 2, 1, 4)]) [] 3 = true := by decide +kernel
theorem lc_2_b49 : l_go (gC 2 (2147483697, 2147483697) (2147483648, 2147483747) [(0, 4294967295)] [(0, 2, 1, 4)]) [] 3 = true := by decide +kernel
theorem lc_2_b50 : l_go (gC 2 (2147483698, 2147483698) (2147483648, 2147483747) [(0, 4294967295)] [(0, 2, 1, 4)]) [] 3 = true := by decide +kernel
theorem lc_2_b51 : l_go (gC 2 (2147483699, 2147483699) (2147483648, 2147483747) [(0, 4294967295)] [(0, 2, 1, 4)]) [] 3 = true := by decide +kernel
theorem lc_2_b52 : l_go (gC 2 (2147483700, 2147483700) (2147483648, 2147483747) [(0, 4294967295)] [(0, 2, 1, 4)]) [] 3 = true := by decide +kernel
theorem lc_2_b53 : l_go (gC 2 (2147483701, 2147483701) (2147483648, 2147483747) [(0, 4294967295)] [(0, 2, 1, 4)]) [] 3 = true := by decide +kernel
theorem lc_2_b54 : l_go (gC 2 (2147483702, 2147483702) (2147483648, 2147483747) [(0, 4294967295)] [(0, 2, 1, 4)]) [] 3 = true := by decide +kernel
theorem lc_2_b55 : l_go (gC 2 (2147483703, 2147483703) (2147483648, 2147483747) [(0, 4294967295)] [(0, 2, 1, 4)]) [] 3 = true := by decide +kernel
theorem lc_2_b56 : l_go (gC 2 (2147483704, 2147483704) (2147483648, 2147483747) [(0, 4294967295)] [(0, 2, 1, 4)]) [] 3 = true := by decide +kernel
theorem lc_2_b57 : l_go (gC 2 (2147483705, 2147483705) (2147483648, 2147483747) [(0, 4294967295)] [(0, 2, 1, 4)]) [] 3 = true := by decide +kernel
theorem lc_2_b58 : l_go (gC 2 (2147483706, 2147483706) (2147483648, 2147483747) [(0, 4294967295)] [(0, 2, 1, 4)]) [] 3 = true := by decide +kernel
theorem lc_2_b59 : l_go (gC 2 (2147483707, 2147483707) (2147483648, 2147483747) [(0, 4294967295)] [(0, 2, 1, 4)]) [] 3 = true := by decide +kernel
theorem lc_2_b : ∀ b, b < 60 → l_go (gC 2 (2147483648 + b, 2147483648 + b) (2147483648, 2147483747) [(0, 4294967295)] [(0, 2, 1, 4)]) [] 3 = true := fun b hb => by
  match b, hb with
  | 0, _ => exact lc_2_b0
  | 1, _ => exact lc_2_b1
  | 2, _ => exact lc_2_b2
  | 3, _ => exact lc_2_b3
  | 4, _ => exact lc_2_b4
  | 5, _ => exact lc_2_b5
  | 6, _ => exact lc_2_b6
  | 7, _ => exact lc_2_b7
  | 8, _ => exact lc_2_b8
  | 9, _ => exact lc_2_b9
  | 10, _ => exact lc_2_b10
  | 11, _ => exact lc_2_b11
  | 12, _ => exact lc_2_b12
  | 13, _ => exact lc_2_b13
  | 14, _ => exact lc_2_b14
  | 15, _ => exact lc_2_b15
  | 16, _ => exact lc_2_b16
  | 17, _ => exact lc_2_b17
  | 18, _ => exact lc_2_b18
  | 19, _ => exact lc_2_b19
  | 20, _ => exact lc_2_b20
  | 21, _ => exact lc_2_b21
  | 22, _ => exact lc_2_b22
  | 23, _ => exact lc_2_b23
  | 24, _ => exact lc_2_b24
  | 25, _ => exact lc_2_b25
  | 26, _ => exact lc_2_b26
  | 27, _ => exact lc_2_b27
  | 28, _ => exact lc_2_b28
  | 29, _ => exact lc_2_b29
  | 30, _ => exact lc_2_b30
  | 31, _ => exact lc_2_b31
  | 32, _ => exact lc_2_b32
  | 33, _ => exact lc_2_b33
  | 34, _ => exact lc_2_b34
  | 35, _ => exact lc_2_b35
  | 36, _ => exact lc_2_b36
  | 37, _ => exact lc_2_b37
  | 38, _ => exact lc_2_b38
  | 39, _ => exact lc_2_b39
  | 40, _ => exact lc_2_b40
  | 41, _ => exact lc_2_b41
  | 42, _ => exact lc_2_b42
  | 43, _ => exact lc_2_b43
  | 44, _ => exact lc_2_b44
  | 45, _ => exact lc_2_b45
  | 46, _ => exact lc_2_b46
  | 47, _ => exact lc_2_b47
  | 48, _ => exact lc_2_b48
  | 49, _ => exact lc_2_b49
  | 50, _ => exact lc_2_b50
  | 51, _ => exact lc_2_b51
  | 52, _ => exact lc_2_b52
  | 53, _ => exact lc_2_b53
  | 54, _ => exact lc_2_b54
  | 55, _ => exact lc_2_b55
  | 56, _ => exact lc_2_b56
  | 57, _ => exact lc_2_b57
  | 58, _ => exact lc_2_b58
  | 59, _ => exact lc_2_b59
  | b + 60, h => omega
theorem lc_4_b0 : l_go (gC 4 (2147483648, 2147483648) (2147483648, 2147483747) [] []) [] 3 = true := by decide +kernel
theorem lc_4_b1 : l_go (gC 4 (2147483649, 2147483649) (2147483648, 2147483747) [] []) [] 3 = true := by decide +kernel
theorem lc_4_b2 : l_go (gC 4 (2147483650, 2147483650) (2147483648, 2147483747) [] []) [] 3 = true := by decide +kernel
theorem lc_4_b3 : l_go (gC 4 (2147483651, 2147483651) (2147483648, 2147483747) [] []) [] 3 = true := by decide +kernel
theorem lc_4_b4 : l_go (gC 4 (2147483652, 2147483652) (2147483648, 2147483747) [] []) [] 3 = true := by decide +kernel
theorem lc_4_b5 : l_go (gC 4 (2147483653, 2147483653) (2147483648, 2147483747) [] []) [] 3 = true := by decide +kernel
theorem lc_4_b6 : l_go (gC 4 (2147483654, 2147483654) (2147483648, 2147483747) [] []) [] 3 = true := by decide +kernel
theorem lc_4_b7 : l_go (gC 4 (2147483655, 2147483655) (2147483648, 2147483747) [] []) [] 3 = true := by decide +kernel
theorem lc_4_b8 : l_go (gC 4 (2147483656, 2147483656) (2147483648, 2147483747) [] []) [] 3 = true := by decide +kernel
theorem lc_4_b9 : l_go (gC 4 (2147483657, 2147483657) (2147483648, 2147483747) [] []) [] 3 = true := by decide +kernel
theorem lc_4_b10 : l_go (gC 4 (2147483658, 2147483658) (2147483648, 2147483747) [] []) [] 3 = true := by decide +kernel
theorem lc_4_b11 : l_go (gC 4 (2147483659, 2147483659) (2147483648, 2147483747) [] []) [] 3 = true := by decide +kernel
theorem lc_4_b12 : l_go (gC 4 (2147483660, 2147483660) (2147483648, 2147483747) [] []) [] 3 = true := by decide +kernel
theorem lc_4_b13 : l_go (gC 4 (2147483661, 2147483661) (2147483648, 2147483747) [] []) [] 3 = true := by decide +kernel
theorem lc_4_b14 : l_go (gC 4 (2147483662, 2147483662) (2147483648, 2147483747) [] []) [] 3 = true := by decide +kernel
theorem lc_4_b15 : l_go (gC 4 (2147483663, 2147483663) (2147483648, 2147483747) [] []) [] 3 = true := by decide +kernel
theorem lc_4_b16 : l_go (gC 4 (2147483664, 2147483664) (2147483648, 2147483747) [] []) [] 3 = true := by decide +kernel
theorem lc_4_b17 : l_go (gC 4 (2147483665, 2147483665) (2147483648, 2147483747) [] []) [] 3 = true := by decide +kernel
theorem lc_4_b18 : l_go (gC 4 (2147483666, 2147483666) (2147483648, 2147483747) [] []) [] 3 = true := by decide +kernel
theorem lc_4_b19 : l_go (gC 4 (2147483667, 2147483667) (2147483648, 2147483747) [] []) [] 3 = true := by decide +kernel
theorem lc_4_b20 : l_go (gC 4 (2147483668, 2147483668) (2147483648, 2147483747) [] []) [] 3 = true := by decide +kernel
theorem lc_4_b21 : l_go (gC 4 (2147483669, 2147483669) (2147483648, 2147483747) [] []) [] 3 = true := by decide +kernel
theorem lc_4_b22 : l_go (gC 4 (2147483670, 2147483670) (2147483648, 2147483747) [] []) [] 3 = true := by decide +kernel
theorem lc_4_b23 : l_go (gC 4 (2147483671, 2147483671) (2147483648, 2147483747) [] []) [] 3 = true := by decide +kernel
theorem lc_4_b24 : l_go (gC 4 (2147483672, 2147483672) (2147483648, 2147483747) [] []) [] 3 = true := by decide +kernel
theorem lc_4_b25 : l_go (gC 4 (2147483673, 2147483673) (2147483648, 2147483747) [] []) [] 3 = true := by decide +kernel
theorem lc_4_b26 : l_go (gC 4 (2147483674, 2147483674) (2147483648, 2147483747) [] []) [] 3 = true := by decide +kernel
theorem lc_4_b27 : l_go (gC 4 (2147483675, 2147483675) (2147483648, 2147483747) [] []) [] 3 = true := by decide +kernel
theorem lc_4_b28 : l_go (gC 4 (2147483676, 2147483676) (2147483648, 2147483747) [] []) [] 3 = true := by decide +kernel
theorem lc_4_b29 : l_go (gC 4 (2147483677, 2147483677) (2147483648, 2147483747) [] []) [] 3 = true := by decide +kernel
theorem lc_4_b30 : l_go (gC 4 (2147483678, 2147483678) (2147483648, 2147483747) [] []) [] 3 = true := by decide +kernel
theorem lc_4_b31 : l_go (gC 4 (2147483679, 2147483679) (2147483648, 2147483747) [] []) [] 3 = true := by decide +kernel
theorem lc_4_b32 : l_go (gC 4 (2147483680, 2147483680) (2147483648, 2147483747) [] []) [] 3 = true := by decide +kernel
theorem lc_4_b33 : l_go (gC 4 (2147483681, 2147483681) (2147483648, 2147483747) [] []) [] 3 = true := by decide +kernel
theorem lc_4_b34 : l_go (gC 4 (2147483682, 2147483682) (2147483648, 2147483747) [] []) [] 3 = true := by decide +kernel
theorem lc_4_b35 : l_go (gC 4 (2147483683, 2147483683) (2147483648, 2147483747) [] []) [] 3 = true := by decide +kernel
theorem lc_4_b36 : l_go (gC 4 (2147483684, 2147483684) (2147483648, 2147483747) [] []) [] 3 = true := by decide +kernel
theorem lc_4_b37 : l_go (gC 4 (2147483685, 2147483685) (2147483648, 2147483747) [] []) [] 3 = true := by decide +kernel
theorem lc_4_b38 : l_go (gC 4 (2147483686, 2147483686) (2147483648, 2147483747) [] []) [] 3 = true := by decide +kernel
theorem lc_4_b39 : l_go (gC 4 (2147483687, 2147483687) (2147483648, 2147483747) [] []) [] 3 = true := by decide +kernel
theorem lc_4_b40 : l_go (gC 4 (2147483688, 2147483688) (2147483648, 2147483747) [] []) [] 3 = true := by decide +kernel
theorem lc_4_b41 : l_go (gC 4 (2147483689, 2147483689) (2147483648, 2147483747) [] []) [] 3 = true := by decide +kernel
theorem lc_4_b42 : l_go (gC 4 (2147483690, 2147483690) (2147483648, 2147483747) [] []) [] 3 = true := by decide +kernel
theorem lc_4_b43 : l_go (gC 4 (2147483691, 2147483691) (2147483648, 2147483747) [] []) [] 3 = true := by decide +kernel
theorem lc_4_b44 : l_go (gC 4 (2147483692, 2147483692) (2147483648, 2147483747) [] []) [] 3 = true := by decide +kernel
theorem lc_4_b45 : l_go (gC 4 (2147483693, 2147483693) (2147483648, 2147483747) [] []) [] 3 = true := by decide +kernel
theorem lc_4_b46 : l_go (gC 4 (2147483694, 2147483694) (2147483648, 2147483747) [] []) [] 3 = true := by decide +kernel
theorem lc_4_b47 : l_go (gC 4 (2147483695, 2147483695) (2147483648, 2147483747) [] []) [] 3 = true := by decide +kernel
theorem lc_4_b48 : l_go (gC 4 (2147483696, 2147483696) (2147483648, 2147483747) [] []) [] 3 = true := by decide +kernel
theorem lc_4_b49 : l_go (gC 4 (2147483697, 2147483697) (2147483648, 2147483747) [] []) [] 3 = true := by decide +kernel
theorem lc_4_b50 : l_go (gC 4 (2147483698, 2147483698) (2147483648, 2147483747) [] []) [] 3 = true := by decide +kernel
theorem lc_4_b51 : l_go (gC 4 (2147483699, 2147483699) (2147483648, 2147483747) [] []) [] 3 = true := by decide +kernel
theorem lc_4_b52 : l_go (gC 4 (2147483700, 2147483700) (2147483648, 2147483747) [] []) [] 3 = true := by decide +kernel
theorem lc_4_b53 : l_go (gC 4 (2147483701, 2147483701) (2147483648, 2147483747) [] []) [] 3 = true := by decide +kernel
theorem lc_4_b54 : l_go (gC 4 (2147483702, 2147483702) (2147483648, 2147483747) [] []) [] 3 = true := by decide +kernel
theorem lc_4_b55 : l_go (gC 4 (2147483703, 2147483703) (2147483648, 2147483747) [] []) [] 3 = true := by decide +kernel
theorem lc_4_b56 : l_go (gC 4 (2147483704, 2147483704) (2147483648, 2147483747) [] []) [] 3 = true := by decide +kernel
theorem lc_4_b57 : l_go (gC 4 (2147483705, 2147483705) (2147483648, 2147483747) [] []) [] 3 = true := by decide +kernel
theorem lc_4_b58 : l_go (gC 4 (2147483706, 2147483706) (2147483648, 2147483747) [] []) [] 3 = true := by decide +kernel
theorem lc_4_b59 : l_go (gC 4 (2147483707, 2147483707) (2147483648, 2147483747) [] []) [] 3 = true := by decide +kernel
theorem lc_4_b : ∀ b, b < 60 → l_go (gC 4 (2147483648 + b, 2147483648 + b) (2147483648, 2147483747) [] []) [] 3 = true := fun b hb => by
  match b, hb with
  | 0, _ => exact lc_4_b0
  | 1, _ => exact lc_4_b1
  | 2, _ => exact lc_4_b2
  | 3, _ => exact lc_4_b3
  | 4, _ => exact lc_4_b4
  | 5, _ => exact lc_4_b5
  | 6, _ => exact lc_4_b6
  | 7, _ => exact lc_4_b7
  | 8, _ => exact lc_4_b8
  | 9, _ => exact lc_4_b9
  | 10, _ => exact lc_4_b10
  | 11, _ => exact lc_4_b11
  | 12, _ => exact lc_4_b12
  | 13, _ => exact lc_4_b13
  | 14, _ => exact lc_4_b14
  | 15, _ => exact lc_4_b15
  | 16, _ => exact lc_4_b16
  | 17, _ => exact lc_4_b17
  | 18, _ => exact lc_4_b18
  | 19, _ => exact lc_4_b19
  | 20, _ => exact lc_4_b20
  | 21, _ => exact lc_4_b21
  | 22, _ => exact lc_4_b22
  | 23, _ => exact lc_4_b23
  | 24, _ => exact lc_4_b24
  | 25, _ => exact lc_4_b25
  | 26, _ => exact lc_4_b26
  | 27, _ => exact lc_4_b27
  | 28, _ => exact lc_4_b28
  | 29, _ => exact lc_4_b29
  | 30, _ => exact lc_4_b30
  | 31, _ => exact lc_4_b31
  | 32, _ => exact lc_4_b32
  | 33, _ => exact lc_4_b33
  | 34, _ => exact lc_4_b34
  | 35, _ => exact lc_4_b35
  | 36, _ => exact lc_4_b36
  | 37, _ => exact lc_4_b37
  | 38, _ => exact lc_4_b38
  | 39, _ => exact lc_4_b39
  | 40, _ => exact lc_4_b40
  | 41, _ => exact lc_4_b41
  | 42, _ => exact lc_4_b42
  | 43, _ => exact lc_4_b43
  | 44, _ => exact lc_4_b44
  | 45, _ => exact lc_4_b45
  | 46, _ => exact lc_4_b46
  | 47, _ => exact lc_4_b47
  | 48, _ => exact lc_4_b48
  | 49, _ => exact lc_4_b49
  | 50, _ => exact lc_4_b50
  | 51, _ => exact lc_4_b51
  | 52, _ => exact lc_4_b52
  | 53, _ => exact lc_4_b53
  | 54, _ => exact lc_4_b54
  | 55, _ => exact lc_4_b55
  | 56, _ => exact lc_4_b56
  | 57, _ => exact lc_4_b57
  | 58, _ => exact lc_4_b58
  | 59, _ => exact lc_4_b59
  | b + 60, h => omega
theorem lc_11_b0 : l_go (gC 11 (2147483648, 2147483648) (0, 4294967295) [] []) [] 3 = true := by decide +kernel
theorem lc_11_b1 : l_go (gC 11 (2147483649, 2147483649) (0, 4294967295) [] []) [] 3 = true := by decide +kernel
theorem lc_11_b2 : l_go (gC 11 (2147483650, 2147483650) (0, 4294967295) [] []) [] 3 = true := by decide +kernel
theorem lc_11_b3 : l_go (gC 11 (2147483651, 2147483651) (0, 4294967295) [] []) [] 3 = true := by decide +kernel
theorem lc_11_b4 : l_go (gC 11 (2147483652, 2147483652) (0, 4294967295) [] []) [] 3 = true := by decide +kernel
theorem lc_11_b5 : l_go (gC 11 (2147483653, 2147483653) (0, 4294967295) [] []) [] 3 = true := by decide +kernel
theorem lc_11_b6 : l_go (gC 11 (2147483654, 2147483654) (0, 4294967295) [] []) [] 3 = true := by decide +kernel
theorem lc_11_b7 : l_go (gC 11 (2147483655, 2147483655) (0, 4294967295) [] []) [] 3 = true := by decide +kernel
theorem lc_11_b8 : l_go (gC 11 (2147483656, 2147483656) (0, 4294967295) [] []) [] 3 = true := by decide +kernel
theorem lc_11_b9 : l_go (gC 11 (2147483657, 2147483657) (0, 4294967295) [] []) [] 3 = true := by decide +kernel
theorem lc_11_b10 : l_go (gC 11 (2147483658, 2147483658) (0, 4294967295) [] []) [] 3 = true := by decide +kernel
theorem lc_11_b11 : l_go (gC 11 (2147483659, 2147483659) (0, 4294967295) [] []) [] 3 = true := by decide +kernel
theorem lc_11_b12 : l_go (gC 11 (2147483660, 2147483660) (0, 4294967295) [] []) [] 3 = true := by decide +kernel
theorem lc_11_b13 : l_go (gC 11 (2147483661, 2147483661) (0, 4294967295) [] []) [] 3 = true := by decide +kernel
theorem lc_11_b14 : l_go (gC 11 (2147483662, 2147483662) (0, 4294967295) [] []) [] 3 = true := by decide +kernel
theorem lc_11_b15 : l_go (gC 11 (2147483663, 2147483663) (0, 4294967295) [] []) [] 3 = true := by decide +kernel
theorem lc_11_b16 : l_go (gC 11 (2147483664, 2147483664) (0, 4294967295) [] []) [] 3 = true := by decide +kernel
theorem lc_11_b17 : l_go (gC 11 (2147483665, 2147483665) (0, 4294967295) [] []) [] 3 = true := by decide +kernel
theorem lc_11_b18 : l_go (gC 11 (2147483666, 2147483666) (0, 4294967295) [] []) [] 3 = true := by decide +kernel
theorem lc_11_b19 : l_go (gC 11 (2147483667, 2147483667) (0, 4294967295) [] []) [] 3 = true := by decide +kernel
theorem lc_11_b20 : l_go (gC 11 (2147483668, 2147483668) (0, 4294967295) [] []) [] 3 = true := by decide +kernel
theorem lc_11_b21 : l_go (gC 11 (2147483669, 2147483669) (0, 4294967295) [] []) [] 3 = true := by decide +kernel
theorem lc_11_b22 : l_go (gC 11 (2147483670, 2147483670) (0, 4294967295) [] []) [] 3 = true := by decide +kernel
theorem lc_11_b23 : l_go (gC 11 (2147483671, 2147483671) (0, 4294967295) [] []) [] 3 = true := by decide +kernel
theorem lc_11_b24 : l_go (gC 11 (2147483672, 2147483672) (0, 4294967295) [] []) [] 3 = true := by decide +kernel
theorem lc_11_b25 : l_go (gC 11 (2147483673, 2147483673) (0, 4294967295) [] []) [] 3 = true := by decide +kernel
theorem lc_11_b26 : l_go (gC 11 (2147483674, 2147483674) (0, 4294967295) [] []) [] 3 = true := by decide +kernel
theorem lc_11_b27 : l_go (gC 11 (2147483675, 2147483675) (0, 4294967295) [] []) [] 3 = true := by decide +kernel
theorem lc_11_b28 : l_go (gC 11 (2147483676, 2147483676) (0, 4294967295) [] []) [] 3 = true := by decide +kernel
theorem lc_11_b29 : l_go (gC 11 (2147483677, 2147483677) (0, 4294967295) [] []) [] 3 = true := by decide +kernel
theorem lc_11_b30 : l_go (gC 11 (2147483678, 2147483678) (0, 4294967295) [] []) [] 3 = true := by decide +kernel
theorem lc_11_b31 : l_go (gC 11 (2147483679, 2147483679) (0, 4294967295) [] []) [] 3 = true := by decide +kernel
theorem lc_11_b32 : l_go (gC 11 (2147483680, 2147483680) (0, 4294967295) [] []) [] 3 = true := by decide +kernel
theorem lc_11_b33 : l_go (gC 11 (2147483681, 2147483681) (0, 4294967295) [] []) [] 3 = true := by decide +kernel
theorem lc_11_b34 : l_go (gC 11 (2147483682, 2147483682) (0, 4294967295) [] []) [] 3 = true := by decide +kernel
theorem lc_11_b35 : l_go (gC 11 (2147483683, 2147483683) (0, 4294967295) [] []) [] 3 = true := by decide +kernel
theorem lc_11_b36 : l_go (gC 11 (2147483684, 2147483684) (0, 4294967295) [] []) [] 3 = true := by decide +kernel
theorem lc_11_b37 : l_go (gC 11 (2147483685, 2147483685) (0, 4294967295) [] []) [] 3 = true := by decide +kernel
theorem lc_11_b38 : l_go (gC 11 (2147483686, 2147483686) (0, 4294967295) [] []) [] 3 = true := by decide +kernel
theorem lc_11_b39 : l_go (gC 11 (2147483687, 2147483687) (0, 4294967295) [] []) [] 3 = true := by decide +kernel
theorem lc_11_b40 : l_go (gC 11 (2147483688, 2147483688) (0, 4294967295) [] []) [] 3 = true := by decide +kernel
theorem lc_11_b41 : l_go (gC 11 (2147483689, 2147483689) (0, 4294967295) [] []) [] 3 = true := by decide +kernel
theorem lc_11_b42 : l_go (gC 11 (2147483690, 2147483690) (0, 4294967295) [] []) [] 3 = true := by decide +kernel
theorem lc_11_b43 : l_go (gC 11 (2147483691, 2147483691) (0, 4294967295) [] []) [] 3 = true := by decide +kernel
theorem lc_11_b44 : l_go (gC 11 (2147483692, 2147483692) (0, 4294967295) [] []) [] 3 = true := by decide +kernel
theorem lc_11_b45 : l_go (gC 11 (2147483693, 2147483693) (0, 4294967295) [] []) [] 3 = true := by decide +kernel
theorem lc_11_b46 : l_go (gC 11 (2147483694, 2147483694) (0, 4294967295) [] []) [] 3 = true := by decide +kernel
theorem lc_11_b47 : l_go (gC 11 (2147483695, 2147483695) (0, 4294967295) [] []) [] 3 = true := by decide +kernel
theorem lc_11_b48 : l_go (gC 11 (2147483696, 2147483696) (0, 4294967295) [] []) [] 3 = true := by decide +kernel
theorem lc_11_b49 : l_go (gC 11 (2147483697, 2147483697) (0, 4294967295) [] []) [] 3 = true := by decide +kernel
theorem lc_11_b50 : l_go (gC 11 (2147483698, 2147483698) (0, 4294967295) [] []) [] 3 = true := by decide +kernel
theorem lc_11_b51 : l_go (gC 11 (2147483699, 2147483699) (0, 4294967295) [] []) [] 3 = true := by decide +kernel
theorem lc_11_b52 : l_go (gC 11 (2147483700, 2147483700) (0, 4294967295) [] []) [] 3 = true := by decide +kernel
theorem lc_11_b53 : l_go (gC 11 (2147483701, 2147483701) (0, 4294967295) [] []) [] 3 = true := by decide +kernel
theorem lc_11_b54 : l_go (gC 11 (2147483702, 2147483702) (0, 4294967295) [] []) [] 3 = true := by decide +kernel
theorem lc_11_b55 : l_go (gC 11 (2147483703, 2147483703) (0, 4294967295) [] []) [] 3 = true := by decide +kernel
theorem lc_11_b56 : l_go (gC 11 (2147483704, 2147483704) (0, 4294967295) [] []) [] 3 = true := by decide +kernel
theorem lc_11_b57 : l_go (gC 11 (2147483705, 2147483705) (0, 4294967295) [] []) [] 3 = true := by decide +kernel
theorem lc_11_b58 : l_go (gC 11 (2147483706, 2147483706) (0, 4294967295) [] []) [] 3 = true := by decide +kernel
theorem lc_11_b59 : l_go (gC 11 (2147483707, 2147483707) (0, 4294967295) [] []) [] 3 = true := by decide +kernel
theorem lc_11_b60 : l_go (gC 11 (2147483708, 2147483708) (0, 4294967295) [] []) [] 3 = true := by decide +kernel
theorem lc_11_b61 : l_go (gC 11 (2147483709, 2147483709) (0, 4294967295) [] []) [] 3 = true := by decide +kernel
theorem lc_11_b62 : l_go (gC 11 (2147483710, 2147483710) (0, 4294967295) [] []) [] 3 = true := by decide +kernel
theorem lc_11_b63 : l_go (gC 11 (2147483711, 2147483711) (0, 4294967295) [] []) [] 3 = true := by decide +kernel
theorem lc_11_b64 : l_go (gC 11 (2147483712, 2147483712) (0, 4294967295) [] []) [] 3 = true := by decide +kernel
theorem lc_11_b65 : l_go (gC 11 (2147483713, 2147483713) (0, 4294967295) [] []) [] 3 = true := by decide +kernel
theorem lc_11_b66 : l_go (gC 11 (2147483714, 2147483714) (0, 4294967295) [] []) [] 3 = true := by decide +kernel
theorem lc_11_b67 : l_go (gC 11 (2147483715, 2147483715) (0, 4294967295) [] []) [] 3 = true := by decide +kernel
theorem lc_11_b68 : l_go (gC 11 (2147483716, 2147483716) (0, 4294967295) [] []) [] 3 = true := by decide +kernel
theorem lc_11_b69 : l_go (gC 11 (2147483717, 2147483717) (0, 4294967295) [] []) [] 3 = true := by decide +kernel
theorem lc_11_b70 : l_go (gC 11 (2147483718, 2147483718) (0, 4294967295) [] []) [] 3 = true := by decide +kernel
theorem lc_11_b71 : l_go (gC 11 (2147483719, 2147483719) (0, 4294967295) [] []) [] 3 = true := by decide +kernel
theorem lc_11_b72 : l_go (gC 11 (2147483720, 2147483720) (0, 4294967295) [] []) [] 3 = true := by decide +kernel
theorem lc_11_b73 : l_go (gC 11 (2147483721, 2147483721) (0, 4294967295) [] []) [] 3 = true := by decide +kernel
theorem lc_11_b74 : l_go (gC 11 (2147483722, 2147483722) (0, 4294967295) [] []) [] 3 = true := by decide +kernel
theorem lc_11_b75 : l_go (gC 11 (2147483723, 2147483723) (0, 4294967295) [] []) [] 3 = true := by decide +kernel
theorem lc_11_b76 : l_go (gC 11 (2147483724, 2147483724) (0, 4294967295) [] []) [] 3 = true := by decide +kernel
theorem lc_11_b77 : l_go (gC 11 (2147483725, 2147483725) (0, 4294967295) [] []) [] 3 = true := by decide +kernel
theorem lc_11_b78 : l_go (gC 11 (2147483726, 2147483726) (0, 4294967295) [] []) [] 3 = true := by decide +kernel
theorem lc_11_b79 : l_go (gC 11 (2147483727, 2147483727) (0, 4294967295) [] []) [] 3 = true := by decide +kernel
theorem lc_11_b80 : l_go (gC 11 (2147483728, 2147483728) (0, 4294967295) [] []) [] 3 = true := by decide +kernel
theorem lc_11_b81 : l_go (gC 11 (2147483729, 2147483729) (0, 4294967295) [] []) [] 3 = true := by decide +kernel
theorem lc_11_b82 : l_go (gC 11 (2147483730, 2147483730) (0, 4294967295) [] []) [] 3 = true := by decide +kernel
theorem lc_11_b83 : l_go (gC 11 (2147483731, 2147483731) (0, 4294967295) [] []) [] 3 = true := by decide +kernel
theorem lc_11_b84 : l_go (gC 11 (2147483732, 2147483732) (0, 4294967295) [] []) [] 3 = true := by decide +kernel
theorem lc_11_b85 : l_go (gC 11 (2147483733, 2147483733) (0, 4294967295) [] []) [] 3 = true := by decide +kernel
theorem lc_11_b86 : l_go (gC 11 (2147483734, 2147483734) (0, 4294967295) [] []) [] 3 = true := by decide +kernel
theorem lc_11_b87 : l_go (gC 11 (2147483735, 2147483735) (0, 4294967295) [] []) [] 3 = true := by decide +kernel
theorem lc_11_b88 : l_go (gC 11 (2147483736, 2147483736) (0, 4294967295) [] []) [] 3 = true := by decide +kernel
theorem lc_11_b89 : l_go (gC 11 (2147483737, 2147483737) (0, 4294967295) [] []) [] 3 = true := by decide +kernel
theorem lc_11_b90 : l_go (gC 11 (2147483738, 2147483738) (0, 4294967295) [] []) [] 3 = true := by decide +kernel
theorem lc_11_b91 : l_go (gC 11 (2147483739, 2147483739) (0, 4294967295) [] []) [] 3 = true := by decide +kernel
theorem lc_11_b92 : l_go (gC 11 (2147483740, 2147483740) (0, 4294967295) [] []) [] 3 = true := by decide +kernel
theorem lc_11_b93 : l_go (gC 11 (2147483741, 2147483741) (0, 4294967295) [] []) [] 3 = true := by decide +kernel
theorem lc_11_b94 : l_go (gC 11 (2147483742, 2147483742) (0, 4294967295) [] []) [] 3 = true := by decide +kernel
theorem lc_11_b95 : l_go (gC 11 (2147483743, 2147483743) (0, 4294967295) [] []) [] 3 = true := by decide +kernel
theorem lc_11_b96 : l_go (gC 11 (2147483744, 2147483744) (0, 4294967295) [] []) [] 3 = true := by decide +kernel
theorem lc_11_b97 : l_go (gC 11 (2147483745, 2147483745) (0, 4294967295) [] []) [] 3 = true := by decide +kernel
theorem lc_11_b98 : l_go (gC 11 (2147483746, 2147483746) (0, 4294967295) [] []) [] 3 = true := by decide +kernel
theorem lc_11_b99 : l_go (gC 11 (2147483747, 2147483747) (0, 4294967295) [] []) [] 3 = true := by decide +kernel
theorem lc_11_b : ∀ b, b < 100 → l_go (gC 11 (2147483648 + b, 2147483648 + b) (0, 4294967295) [] []) [] 3 = true := fun b hb => by
  match b, hb with
  | 0, _ => exact lc_11_b0
  | 1, _ => exact lc_11_b1
  | 2, _ => exact lc_11_b2
  | 3, _ => exact lc_11_b3
  | 4, _ => exact lc_11_b4
  | 5, _ => exact lc_11_b5
  | 6, _ => exact lc_11_b6
  | 7, _ => exact lc_11_b7
  | 8, _ => exact lc_11_b8
  | 9, _ => exact lc_11_b9
  | 10, _ => exact lc_11_b10
  | 11, _ => exact lc_11_b11
  | 12, _ => exact lc_11_b12
  | 13, _ => exact lc_11_b13
  | 14, _ => exact lc_11_b14
  | 15, _ => exact lc_11_b15
  | 16, _ => exact lc_11_b16
  | 17, _ => exact lc_11_b17
  | 18, _ => exact lc_11_b18
  | 19, _ => exact lc_11_b19
  | 20, _ => exact lc_11_b20
  | 21, _ => exact lc_11_b21
  | 22, _ => exact lc_11_b22
  | 23, _ => exact lc_11_b23
  | 24, _ => exact lc_11_b24
  | 25, _ => exact lc_11_b25
  | 26, _ => exact lc_11_b26
  | 27, _ => exact lc_11_b27
  | 28, _ => exact lc_11_b28
  | 29, _ => exact lc_11_b29
  | 30, _ => exact lc_11_b30
  | 31, _ => exact lc_11_b31
  | 32, _ => exact lc_11_b32
  | 33, _ => exact lc_11_b33
  | 34, _ => exact lc_11_b34
  | 35, _ => exact lc_11_b35
  | 36, _ => exact lc_11_b36
  | 37, _ => exact lc_11_b37
  | 38, _ => exact lc_11_b38
  | 39, _ => exact lc_11_b39
  | 40, _ => exact lc_11_b40
  | 41, _ => exact lc_11_b41
  | 42, _ => exact lc_11_b42
  | 43, _ => exact lc_11_b43
  | 44, _ => exact lc_11_b44
  | 45, _ => exact lc_11_b45
  | 46, _ => exact lc_11_b46
  | 47, _ => exact lc_11_b47
  | 48, _ => exact lc_11_b48
  | 49, _ => exact lc_11_b49
  | 50, _ => exact lc_11_b50
  | 51, _ => exact lc_11_b51
  | 52, _ => exact lc_11_b52
  | 53, _ => exact lc_11_b53
  | 54, _ => exact lc_11_b54
  | 55, _ => exact lc_11_b55
  | 56, _ => exact lc_11_b56
  | 57, _ => exact lc_11_b57
  | 58, _ => exact lc_11_b58
  | 59, _ => exact lc_11_b59
  | 60, _ => exact lc_11_b60
  | 61, _ => exact lc_11_b61
  | 62, _ => exact lc_11_b62
  | 63, _ => exact lc_11_b63
  | 64, _ => exact lc_11_b64
  | 65, _ => exact lc_11_b65
  | 66, _ => exact lc_11_b66
  | 67, _ => exact lc_11_b67
  | 68, _ => exact lc_11_b68
  | 69, _ => exact lc_11_b69
  | 70, _ => exact lc_11_b70
  | 71, _ => exact lc_11_b71
  | 72, _ => exact lc_11_b72
  | 73, _ => exact lc_11_b73
  | 74, _ => exact lc_11_b74
  | 75, _ => exact lc_11_b75
  | 76, _ => exact lc_11_b76
  | 77, _ => exact lc_11_b77
  | 78, _ => exact lc_11_b78
  | 79, _ => exact lc_11_b79
  | 80, _ => exact lc_11_b80
  | 81, _ => exact lc_11_b81
  | 82, _ => exact lc_11_b82
  | 83, _ => exact lc_11_b83
  | 84, _ => exact lc_11_b84
  | 85, _ => exact lc_11_b85
  | 86, _ => exact lc_11_b86
  | 87, _ => exact lc_11_b87
  | 88, _ => exact lc_11_b88
  | 89, _ => exact lc_11_b89
  | 90, _ => exact lc_11_b90
  | 91, _ => exact lc_11_b91
  | 92, _ => exact lc_11_b92
  | 93, _ => exact lc_11_b93
  | 94, _ => exact lc_11_b94
  | 95, _ => exact lc_11_b95
  | 96, _ => exact lc_11_b96
  | 97, _ => exact lc_11_b97
  | 98, _ => exact lc_11_b98
  | 99, _ => exact lc_11_b99
  | b + 100, h => omega
