/-! the cases of the one call: what is known of the script's numbers -/
abbrev l_FU : Nat × Nat := (0, 4294967295)
def gC (k : Nat) (b1 b2 : Nat × Nat) (more : List (Nat × Nat)) (facts : List (Nat × Nat × Nat × Nat)) : eG := ((0, 4294967295) :: b1 :: b2 :: (2147483648 + k, 2147483648 + k) :: more, (5, 0, 31, 3) :: facts)
theorem lc_12 : l_go (gC 12 (0, 4294967295) (0, 4294967295) [] []) [] 3 = true := by decide +kernel
theorem lc_17 : l_go (gC 17 (0, 4294967295) (0, 4294967295) [] []) [] 3 = true := by decide +kernel
theorem lc_20 : l_go (gC 20 (0, 4294967295) (0, 4294967295) [] []) [] 3 = true := by decide +kernel
theorem lc_21 : l_go (gC 21 (0, 4294967295) (0, 4294967295) [] []) [] 3 = true := by decide +kernel
theorem lc_22 : l_go (gC 22 (0, 4294967295) (0, 4294967295) [] []) [] 3 = true := by decide +kernel
theorem lc_23 : l_go (gC 23 (0, 4294967295) (0, 4294967295) [] []) [] 3 = true := by decide +kernel
theorem lc_24 : l_go (gC 24 (0, 4294967295) (0, 4294967295) [] []) [] 3 = true := by decide +kernel
theorem lc_25 : l_go (gC 25 (0, 4294967295) (0, 4294967295) [] []) [] 3 = true := by decide +kernel
theorem lc_27 : l_go (gC 27 (0, 4294967295) (0, 4294967295) [] []) [] 3 = true := by decide +kernel
theorem lc_28 : l_go (gC 28 (0, 4294967295) (0, 4294967295) [] []) [] 3 = true := by decide +kernel
theorem lc_29 : l_go (gC 29 (0, 4294967295) (0, 4294967295) [] []) [] 3 = true := by decide +kernel
theorem lc_30 : l_go (gC 30 (0, 4294967295) (0, 4294967295) [] []) [] 3 = true := by decide +kernel
theorem lc_31 : l_go (gC 31 (0, 4294967295) (0, 4294967295) [] []) [] 3 = true := by decide +kernel
theorem lc_3_lo : l_go (gC 3 (0, 2147483647) (0, 4294967295) [] []) [] 3 = true := by decide +kernel
theorem lc_3_hi : l_go (gC 3 (2147483708, 4294967295) (0, 4294967295) [] []) [] 3 = true := by decide +kernel
theorem lc_5_lo : l_go (gC 5 (0, 2147483647) (0, 4294967295) [] []) [] 3 = true := by decide +kernel
theorem lc_5_hi : l_go (gC 5 (2147483708, 4294967295) (0, 4294967295) [] []) [] 3 = true := by decide +kernel
theorem lc_6_lo : l_go (gC 6 (0, 2147483647) (0, 4294967295) [] []) [] 3 = true := by decide +kernel
theorem lc_6_hi : l_go (gC 6 (2147483708, 4294967295) (0, 4294967295) [] []) [] 3 = true := by decide +kernel
theorem lc_7_lo : l_go (gC 7 (0, 2147483647) (0, 4294967295) [] []) [] 3 = true := by decide +kernel
theorem lc_7_hi : l_go (gC 7 (2147483748, 4294967295) (0, 4294967295) [] []) [] 3 = true := by decide +kernel
theorem lc_8_lo : l_go (gC 8 (0, 2147483647) (0, 4294967295) [] []) [] 3 = true := by decide +kernel
theorem lc_8_hi : l_go (gC 8 (2147483748, 4294967295) (0, 4294967295) [] []) [] 3 = true := by decide +kernel
theorem lc_9_lo : l_go (gC 9 (0, 2147483647) (0, 4294967295) [] []) [] 3 = true := by decide +kernel
theorem lc_9_hi : l_go (gC 9 (2147483748, 4294967295) (0, 4294967295) [] []) [] 3 = true := by decide +kernel
theorem lc_10_lo : l_go (gC 10 (0, 2147483647) (0, 4294967295) [] []) [] 3 = true := by decide +kernel
theorem lc_10_hi : l_go (gC 10 (2147483748, 4294967295) (0, 4294967295) [] []) [] 3 = true := by decide +kernel
theorem lc_11_lo : l_go (gC 11 (0, 2147483647) (0, 4294967295) [] []) [] 3 = true := by decide +kernel
theorem lc_11_hi : l_go (gC 11 (2147483748, 4294967295) (0, 4294967295) [] []) [] 3 = true := by decide +kernel
theorem lc_13_lo : l_go (gC 13 (0, 2147483647) (0, 4294967295) [] []) [] 3 = true := by decide +kernel
theorem lc_13_hi : l_go (gC 13 (2147483708, 4294967295) (0, 4294967295) [] []) [] 3 = true := by decide +kernel
theorem lc_18_lo : l_go (gC 18 (0, 2147483647) (0, 4294967295) [] []) [] 3 = true := by decide +kernel
theorem lc_18_hi : l_go (gC 18 (2147483708, 4294967295) (0, 4294967295) [] []) [] 3 = true := by decide +kernel
theorem lc_19_lo : l_go (gC 19 (0, 2147483647) (0, 4294967295) [] []) [] 3 = true := by decide +kernel
theorem lc_19_hi : l_go (gC 19 (2147483708, 4294967295) (0, 4294967295) [] []) [] 3 = true := by decide +kernel
theorem lc_1_lo : l_go (gC 1 (0, 2147483647) (0, 4294967295) [] []) [] 3 = true := by decide +kernel
theorem lc_1_hi : l_go (gC 1 (2147483708, 4294967295) (0, 4294967295) [] []) [] 3 = true := by decide +kernel
theorem lc_2_lo : l_go (gC 2 (0, 2147483647) (0, 4294967295) [] []) [] 3 = true := by decide +kernel
theorem lc_2_hi : l_go (gC 2 (2147483708, 4294967295) (0, 4294967295) [] []) [] 3 = true := by decide +kernel
theorem lc_4_lo : l_go (gC 4 (0, 2147483647) (0, 4294967295) [] []) [] 3 = true := by decide +kernel
theorem lc_4_hi : l_go (gC 4 (2147483708, 4294967295) (0, 4294967295) [] []) [] 3 = true := by decide +kernel
theorem lc_0_lo : l_go (gC 0 (0, 2147483647) (0, 4294967295) [(2147483648, 2147549183)] [(7, 2, 0, 4)]) [] 3 = true := by decide +kernel
theorem lc_0_hi : l_go (gC 0 (2147483708, 4294967295) (0, 4294967295) [(2147483648, 2147549183)] [(7, 2, 0, 4)]) [] 3 = true := by decide +kernel
theorem lc_0_c0 : l_go (gC 0 (2147483648, 2147483707) (0, 4294967295) [(2147483648, 2147483751)] [(7, 2, 0, 4)]) [] 3 = true := by decide +kernel
theorem lc_0_c1 : l_go (gC 0 (2147483648, 2147483707) (0, 4294967295) [(2147483753, 2147483762)] [(7, 2, 0, 4)]) [] 3 = true := by decide +kernel
theorem lc_0_c2 : l_go (gC 0 (2147483648, 2147483707) (0, 4294967295) [(2147483764, 2147549183)] [(7, 2, 0, 4)]) [] 3 = true := by decide +kernel
theorem lc_1_mlo : l_go (gC 1 (2147483648, 2147483707) (0, 2147483647) [] []) [] 3 = true := by decide +kernel
theorem lc_1_mhi : l_go (gC 1 (2147483648, 2147483707) (2147483748, 4294967295) [] []) [] 3 = true := by decide +kernel
theorem lc_2_mlo : l_go (gC 2 (2147483648, 2147483707) (0, 2147483647) [] []) [] 3 = true := by decide +kernel
theorem lc_2_mhi : l_go (gC 2 (2147483648, 2147483707) (2147483748, 4294967295) [] []) [] 3 = true := by decide +kernel
theorem lc_4_mlo : l_go (gC 4 (2147483648, 2147483707) (0, 2147483647) [] []) [] 3 = true := by decide +kernel
theorem lc_4_mhi : l_go (gC 4 (2147483648, 2147483707) (2147483748, 4294967295) [] []) [] 3 = true := by decide +kernel
theorem lc_9_mlo : l_go (gC 9 (2147483648, 2147483747) (0, 2147483647) [] []) [] 3 = true := by decide +kernel
theorem lc_9_mhi : l_go (gC 9 (2147483648, 2147483747) (2147483708, 4294967295) [] []) [] 3 = true := by decide +kernel
theorem lc_10_mlo : l_go (gC 10 (2147483648, 2147483747) (0, 2147483647) [] []) [] 3 = true := by decide +kernel
theorem lc_10_mhi : l_go (gC 10 (2147483648, 2147483747) (2147483708, 4294967295) [] []) [] 3 = true := by decide +kernel
theorem lc_3_m : l_go (gC 3 (2147483648, 2147483707) (0, 4294967295) [] []) [] 3 = true := by decide +kernel
theorem lc_13_m : l_go (gC 13 (2147483648, 2147483707) (0, 4294967295) [] []) [] 3 = true := by decide +kernel
theorem lc_1_m : l_go (gC 1 (2147483648, 2147483707) (2147483648, 2147483747) [] []) [] 3 = true := by decide +kernel
theorem lc_15_lo : l_go (gC 15 (0, 2147483647) (0, 4294967295) [] []) [] 3 = true := by decide +kernel
theorem lc_15_0 : l_go (gC 15 (2147483648, 2147483648) (0, 4294967295) [] []) [] 3 = true := by decide +kernel
theorem lc_15_hi : l_go (gC 15 (2147483649, 4294967295) (0, 4294967295) [] []) [] 3 = true := by decide +kernel
theorem lc_16_lo : l_go (gC 16 (0, 2147483648) (0, 4294967295) [] []) [] 3 = true := by decide +kernel
theorem lc_16_hi : l_go (gC 16 (2147483669, 4294967295) (0, 4294967295) [] []) [] 3 = true := by decide +kernel
theorem lc_26_0 : l_go (gC 26 (0, 4294967295) (0, 4294967295) [(2147483648, 2147483747)] [(7, 1, 0, 4)]) [] 3 = true := by decide +kernel
theorem lc_26_1 : l_go (gC 26 (0, 4294967295) (0, 4294967295) [(2147483748, 2147483748)] [(7, 1, 0, 4)]) [] 3 = true := by decide +kernel
theorem lc_26_2 : l_go (gC 26 (0, 4294967295) (0, 4294967295) [(2147483749, 2147483759)] [(7, 1, 0, 4)]) [] 3 = true := by decide +kernel
theorem lc_26_3 : l_go (gC 26 (0, 4294967295) (0, 4294967295) [(2147483760, 2147483760)] [(7, 1, 0, 4)]) [] 3 = true := by decide +kernel
theorem lc_26_4 : l_go (gC 26 (0, 4294967295) (0, 4294967295) [(2147483761, 2147483762)] [(7, 1, 0, 4)]) [] 3 = true := by decide +kernel
theorem lc_26_5 : l_go (gC 26 (0, 4294967295) (0, 4294967295) [(2147483763, 2147483763)] [(7, 1, 0, 4)]) [] 3 = true := by decide +kernel
theorem lc_26_6 : l_go (gC 26 (0, 4294967295) (0, 4294967295) [(2147483764, 2147549183)] [(7, 1, 0, 4)]) [] 3 = true := by decide +kernel
theorem lc_14_0 : l_go (gC 14 (0, 4294967295) (0, 4294967295) [(2147483648, 2147483746), (2147483648, 2147483746)] [(7, 1, 0, 4), (8, 4, 0, 5)]) [] 3 = true := by decide +kernel
theorem lc_14_1_lo : l_go (gC 14 (0, 4294967295) (0, 2147483647) [(2147483747, 2147483747), (2147483747, 2147483747)] [(7, 1, 0, 4), (8, 4, 0, 5)]) [] 3 = true := by decide +kernel
theorem lc_14_1_m : l_go (gC 14 (0, 4294967295) (2147483648, 2147483747) [(2147483747, 2147483747), (2147483747, 2147483747)] [(7, 1, 0, 4), (8, 4, 0, 5)]) [] 3 = true := by decide +kernel
theorem lc_14_1_hi : l_go (gC 14 (0, 4294967295) (2147483748, 4294967295) [(2147483747, 2147483747), (2147483747, 2147483747)] [(7, 1, 0, 4), (8, 4, 0, 5)]) [] 3 = true := by decide +kernel
theorem lc_14_2 : l_go (gC 14 (0, 4294967295) (0, 4294967295) [(2147483748, 2147483755), (2147483748, 2147483755)] [(7, 1, 0, 4), (8, 4, 0, 5)]) [] 3 = true := by decide +kernel
theorem lc_14_3_lo : l_go (gC 14 (0, 4294967295) (0, 2147483647) [(2147483756, 2147483756), (2147483756, 2147483756)] [(7, 1, 0, 4), (8, 4, 0, 5)]) [] 3 = true := by decide +kernel
theorem lc_14_3_m : l_go (gC 14 (0, 4294967295) (2147483648, 2147483747) [(2147483756, 2147483756), (2147483756, 2147483756)] [(7, 1, 0, 4), (8, 4, 0, 5)]) [] 3 = true := by decide +kernel
theorem lc_14_3_hi : l_go (gC 14 (0, 4294967295) (2147483748, 4294967295) [(2147483756, 2147483756), (2147483756, 2147483756)] [(7, 1, 0, 4), (8, 4, 0, 5)]) [] 3 = true := by decide +kernel
theorem lc_14_4_lo : l_go (gC 14 (0, 4294967295) (0, 2147483647) [(2147483757, 2147483757), (2147483757, 2147483757)] [(7, 1, 0, 4), (8, 4, 0, 5)]) [] 3 = true := by decide +kernel
theorem lc_14_4_m : l_go (gC 14 (0, 4294967295) (2147483648, 2147483747) [(2147483757, 2147483757), (2147483757, 2147483757)] [(7, 1, 0, 4), (8, 4, 0, 5)]) [] 3 = true := by decide +kernel
theorem lc_14_4_hi : l_go (gC 14 (0, 4294967295) (2147483748, 4294967295) [(2147483757, 2147483757), (2147483757, 2147483757)] [(7, 1, 0, 4), (8, 4, 0, 5)]) [] 3 = true := by decide +kernel
theorem lc_14_5 : l_go (gC 14 (0, 4294967295) (0, 4294967295) [(2147483758, 2147483759), (2147483758, 2147483759)] [(7, 1, 0, 4), (8, 4, 0, 5)]) [] 3 = true := by decide +kernel
theorem lc_14_6_lo : l_go (gC 14 (0, 4294967295) (0, 2147483647) [(2147483760, 2147483760), (2147483760, 2147483760)] [(7, 1, 0, 4), (8, 4, 0, 5)]) [] 3 = true := by decide +kernel
theorem lc_14_6_m : l_go (gC 14 (0, 4294967295) (2147483648, 2147483658) [(2147483760, 2147483760), (2147483760, 2147483760)] [(7, 1, 0, 4), (8, 4, 0, 5)]) [] 3 = true := by decide +kernel
theorem lc_14_6_hi : l_go (gC 14 (0, 4294967295) (2147483659, 4294967295) [(2147483760, 2147483760), (2147483760, 2147483760)] [(7, 1, 0, 4), (8, 4, 0, 5)]) [] 3 = true := by decide +kernel
theorem lc_14_7 : l_go (gC 14 (0, 4294967295) (0, 4294967295) [(2147483761, 2147483761), (2147483761, 2147483761)] [(7, 1, 0, 4), (8, 4, 0, 5)]) [] 3 = true := by decide +kernel
theorem lc_14_8_lo : l_go (gC 14 (0, 4294967295) (0, 2147483647) [(2147483762, 2147483762), (2147483762, 2147483762)] [(7, 1, 0, 4), (8, 4, 0, 5)]) [] 3 = true := by decide +kernel
theorem lc_14_8_m : l_go (gC 14 (0, 4294967295) (2147483648, 2147483747) [(2147483762, 2147483762), (2147483762, 2147483762)] [(7, 1, 0, 4), (8, 4, 0, 5)]) [] 3 = true := by decide +kernel
theorem lc_14_8_hi : l_go (gC 14 (0, 4294967295) (2147483748, 4294967295) [(2147483762, 2147483762), (2147483762, 2147483762)] [(7, 1, 0, 4), (8, 4, 0, 5)]) [] 3 = true := by decide +kernel
theorem lc_14_9_lo : l_go (gC 14 (0, 4294967295) (0, 2147483647) [(2147483763, 2147483763), (2147483763, 2147483763)] [(7, 1, 0, 4), (8, 4, 0, 5)]) [] 3 = true := by decide +kernel
theorem lc_14_9_m : l_go (gC 14 (0, 4294967295) (2147483648, 2147483658) [(2147483763, 2147483763), (2147483763, 2147483763)] [(7, 1, 0, 4), (8, 4, 0, 5)]) [] 3 = true := by decide +kernel
theorem lc_14_9_hi : l_go (gC 14 (0, 4294967295) (2147483659, 4294967295) [(2147483763, 2147483763), (2147483763, 2147483763)] [(7, 1, 0, 4), (8, 4, 0, 5)]) [] 3 = true := by decide +kernel
theorem lc_14_10 : l_go (gC 14 (0, 4294967295) (0, 4294967295) [(2147483764, 2147483766), (2147483764, 2147483766)] [(7, 1, 0, 4), (8, 4, 0, 5)]) [] 3 = true := by decide +kernel
theorem lc_14_11_lo : l_go (gC 14 (0, 4294967295) (0, 2147483647) [(2147483767, 2147483767), (2147483767, 2147483767)] [(7, 1, 0, 4), (8, 4, 0, 5)]) [] 3 = true := by decide +kernel
theorem lc_14_11_m : l_go (gC 14 (0, 4294967295) (2147483648, 2147483747) [(2147483767, 2147483767), (2147483767, 2147483767)] [(7, 1, 0, 4), (8, 4, 0, 5)]) [] 3 = true := by decide +kernel
theorem lc_14_11_hi : l_go (gC 14 (0, 4294967295) (2147483748, 4294967295) [(2147483767, 2147483767), (2147483767, 2147483767)] [(7, 1, 0, 4), (8, 4, 0, 5)]) [] 3 = true := by decide +kernel
theorem lc_14_12 : l_go (gC 14 (0, 4294967295) (0, 4294967295) [(2147483768, 2147483775), (2147483768, 2147483775)] [(7, 1, 0, 4), (8, 4, 0, 5)]) [] 3 = true := by decide +kernel
theorem lc_14_13 : l_go (gC 14 (0, 4294967295) (0, 4294967295) [(2147483776, 2147483903), (2147483520, 2147483647)] [(7, 1, 0, 4), (8, 4, 0, 5)]) [] 3 = true := by decide +kernel
theorem lc_14_14 : l_go (gC 14 (0, 4294967295) (0, 4294967295) [(2147483904, 2147549183), (2147483520, 2147483775)] [(7, 1, 0, 4), (8, 4, 0, 5)]) [] 3 = true := by decide +kernel
