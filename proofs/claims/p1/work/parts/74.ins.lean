/-! every entry of the tables -/
theorem t94_19 : e_ok mD94 19 (1, 5, 3, 0, 20) := oks_astore_n dL_isFree_19 rfl (by decide +kernel)
theorem t94_20 : e_ok mD94 20 (0, 0, 1, 0, 21) := Or.inl (okc_iconst dL_isFree_20 (by decide +kernel))
theorem t94_21 : e_ok mD94 21 (12, 1, 0, 0, 0) := okr_int dL_isFree_21 rfl
theorem t94_22 : e_ok mD94 22 (0, 0, 0, 0, 23) := Or.inl (okc_iconst dL_isFree_22 (by decide +kernel))
theorem t94_23 : e_ok mD94 23 (12, 1, 0, 0, 0) := okr_int dL_isFree_23 rfl
theorem t95_0 : e_ok mD95 0 (1, 1, 3, 0, 1) := okl_aload_n dL_isInPit_0 rfl
theorem t95_1 : e_ok mD95 1 (0, 0, 0, 0, 2) := Or.inl (okc_iconst dL_isInPit_1 (by decide +kernel))
theorem t95_2 : e_ok mD95 2 (1, 1, 0, 0, 3) := okl_aload_n dL_isInPit_2 rfl
theorem t95_3 : e_ok mD95 3 (1, 0, 1, 0, 4) := okl_iload_n dL_isInPit_3 rfl
theorem t95_4 : e_ok mD95 4 (1, 0, 2, 0, 5) := okl_iload_n dL_isInPit_4 rfl
theorem t95_5 : e_ok mD95 5 (11, 2, 14, 3, 8) := And.intro (okCallX.M (okx_virtual (Da := mD14) dL_isInPit_5 rfl mwc_14 (wg3 220 rfl rfl) mwn_14 mwv_14 mwi_14 mwd_14)) (fun _ => okx_virtual (Da := mD14) dL_isInPit_5 rfl mwc_14 (wg3 220 rfl rfl) mwn_14 mwv_14 mwi_14 mwd_14)
theorem t95_8 : e_ok mD95 8 (5, 0, 15, 0, 11) := okj_eq dL_isInPit_8 (by decide +kernel)
theorem t95_11 : e_ok mD95 11 (0, 1, 1, 0, 12) := okc_lconst dL_isInPit_11 (by decide +kernel)
theorem t95_12 : e_ok mD95 12 (2, 4, 0, 0, 16) := oki_goto dL_isInPit_12 (by decide +kernel)
theorem t95_15 : e_ok mD95 15 (0, 1, 0, 0, 16) := okc_lconst dL_isInPit_15 (by decide +kernel)
theorem t95_16 : e_ok mD95 16 (10, 3, 0, 0, 17) := oka_stl dL_isInPit_16
theorem t95_17 : e_ok mD95 17 (2, 4, 0, 0, 28) := oki_goto dL_isInPit_17 (by decide +kernel)
theorem t95_20 : e_ok mD95 20 (1, 5, 4, 0, 22) := oks_astore dL_isInPit_20 (by decide +kernel)
theorem t95_22 : e_ok mD95 22 (0, 0, 1, 0, 23) := Or.inl (okc_iconst dL_isInPit_22 (by decide +kernel))
theorem t95_23 : e_ok mD95 23 (12, 1, 0, 0, 0) := okr_int dL_isInPit_23 rfl
theorem t95_24 : e_ok mD95 24 (1, 5, 4, 0, 26) := oks_astore dL_isInPit_24 (by decide +kernel)
theorem t95_26 : e_ok mD95 26 (0, 0, 2, 0, 27) := Or.inl (okc_iconst dL_isInPit_26 (by decide +kernel))
theorem t95_27 : e_ok mD95 27 (12, 1, 0, 0, 0) := okr_int dL_isInPit_27 rfl
theorem t95_28 : e_ok mD95 28 (0, 0, 0, 0, 29) := Or.inl (okc_iconst dL_isInPit_28 (by decide +kernel))
theorem t95_29 : e_ok mD95 29 (12, 1, 0, 0, 0) := okr_int dL_isInPit_29 rfl
theorem t96_0 : e_ok mD96 0 (1, 1, 1, 0, 1) := okl_aload_n dL_meanFed_0 rfl
theorem t96_1 : e_ok mD96 1 (0, 0, 0, 0, 2) := Or.inl (okc_iconst dL_meanFed_1 (by decide +kernel))
theorem t96_2 : e_ok mD96 2 (1, 1, 0, 0, 3) := okl_aload_n dL_meanFed_2 rfl
theorem t96_3 : e_ok mD96 3 (11, 2, 15, 1, 6) := And.intro (okCallX.M (okx_virtual (Da := mD15) dL_meanFed_3 rfl mwc_15 (wg5 26 rfl rfl) mwn_15 mwv_15 mwi_15 mwd_15)) (fun _ => okx_virtual (Da := mD15) dL_meanFed_3 rfl mwc_15 (wg5 26 rfl rfl) mwn_15 mwv_15 mwi_15 mwd_15)
theorem t96_7 : e_ok mD96 7 (2, 4, 0, 0, 13) := oki_goto dL_meanFed_7 (by decide +kernel)
theorem t96_10 : e_ok mD96 10 (1, 5, 2, 0, 11) := oks_astore_n dL_meanFed_10 rfl (by decide +kernel)
theorem t96_11 : e_ok mD96 11 (0, 0, 1, 0, 12) := Or.inl (okc_iconst dL_meanFed_11 (by decide +kernel))
theorem t96_12 : e_ok mD96 12 (12, 1, 0, 0, 0) := okr_int dL_meanFed_12 rfl
theorem t96_13 : e_ok mD96 13 (0, 0, 0, 0, 14) := Or.inl (okc_iconst dL_meanFed_13 (by decide +kernel))
theorem t96_14 : e_ok mD96 14 (12, 1, 0, 0, 0) := okr_int dL_meanFed_14 rfl
theorem t97_0 : e_ok mD97 0 (1, 1, 2, 0, 1) := okl_aload_n dL_phase_0 rfl
theorem t97_1 : e_ok mD97 1 (0, 0, 0, 0, 2) := Or.inl (okc_iconst dL_phase_1 (by decide +kernel))
theorem t97_2 : e_ok mD97 2 (1, 1, 0, 0, 3) := okl_aload_n dL_phase_2 rfl
theorem t97_3 : e_ok mD97 3 (1, 0, 1, 0, 4) := okl_iload_n dL_phase_3 rfl
theorem t97_4 : e_ok mD97 4 (11, 2, 21, 2, 7) := And.intro (okCallX.M (okx_virtual (Da := mD21) dL_phase_4 rfl mwc_21 (wg4 9 rfl rfl) mwn_21 mwv_21 mwi_21 mwd_21)) (fun _ => okx_virtual (Da := mD21) dL_phase_4 rfl mwc_21 (wg4 9 rfl rfl) mwn_21 mwv_21 mwi_21 mwd_21)
theorem t97_7 : e_ok mD97 7 (15, 5, 0, 0, 8) := okm_i2l dL_phase_7
theorem t97_8 : e_ok mD97 8 (10, 3, 0, 0, 9) := oka_stl dL_phase_8
theorem t97_9 : e_ok mD97 9 (2, 4, 0, 0, 18) := oki_goto dL_phase_9 (by decide +kernel)
theorem t97_12 : e_ok mD97 12 (1, 5, 3, 0, 13) := oks_astore_n dL_phase_12 rfl (by decide +kernel)
theorem t97_13 : e_ok mD97 13 (0, 0, 1, 0, 14) := Or.inl (okc_iconst dL_phase_13 (by decide +kernel))
theorem t97_14 : e_ok mD97 14 (12, 1, 0, 0, 0) := okr_int dL_phase_14 rfl
theorem t97_15 : e_ok mD97 15 (1, 5, 3, 0, 16) := oks_astore_n dL_phase_15 rfl (by decide +kernel)
theorem t97_16 : e_ok mD97 16 (0, 0, 2, 0, 17) := Or.inl (okc_iconst dL_phase_16 (by decide +kernel))
theorem t97_17 : e_ok mD97 17 (12, 1, 0, 0, 0) := okr_int dL_phase_17 rfl
theorem t97_18 : e_ok mD97 18 (0, 0, 0, 0, 19) := Or.inl (okc_iconst dL_phase_18 (by decide +kernel))
theorem t97_19 : e_ok mD97 19 (12, 1, 0, 0, 0) := okr_int dL_phase_19 rfl
theorem t98_0 : e_ok mD98 0 (1, 1, 2, 0, 1) := okl_aload_n dL_phaseOf_0 rfl
theorem t98_1 : e_ok mD98 1 (0, 0, 0, 0, 2) := Or.inl (okc_iconst dL_phaseOf_1 (by decide +kernel))
theorem t98_2 : e_ok mD98 2 (1, 1, 0, 0, 3) := okl_aload_n dL_phaseOf_2 rfl
theorem t98_3 : e_ok mD98 3 (1, 0, 1, 0, 4) := okl_iload_n dL_phaseOf_3 rfl
theorem t98_4 : e_ok mD98 4 (11, 2, 22, 2, 7) := And.intro (okCallX.M (okx_virtual (Da := mD22) dL_phaseOf_4 rfl mwc_22 (wg4 31 rfl rfl) mwn_22 mwv_22 mwi_22 mwd_22)) (fun _ => okx_virtual (Da := mD22) dL_phaseOf_4 rfl mwc_22 (wg4 31 rfl rfl) mwn_22 mwv_22 mwi_22 mwd_22)
theorem t98_7 : e_ok mD98 7 (15, 5, 0, 0, 8) := okm_i2l dL_phaseOf_7
theorem t98_8 : e_ok mD98 8 (10, 3, 0, 0, 9) := oka_stl dL_phaseOf_8
theorem t98_9 : e_ok mD98 9 (2, 4, 0, 0, 15) := oki_goto dL_phaseOf_9 (by decide +kernel)
theorem t98_12 : e_ok mD98 12 (1, 5, 3, 0, 13) := oks_astore_n dL_phaseOf_12 rfl (by decide +kernel)
theorem t98_13 : e_ok mD98 13 (0, 0, 1, 0, 14) := Or.inl (okc_iconst dL_phaseOf_13 (by decide +kernel))
theorem t98_14 : e_ok mD98 14 (12, 1, 0, 0, 0) := okr_int dL_phaseOf_14 rfl
theorem t98_15 : e_ok mD98 15 (0, 0, 0, 0, 16) := Or.inl (okc_iconst dL_phaseOf_15 (by decide +kernel))
theorem t98_16 : e_ok mD98 16 (12, 1, 0, 0, 0) := okr_int dL_phaseOf_16 rfl
theorem t99_0 : e_ok mD99 0 (1, 1, 2, 0, 1) := okl_aload_n dL_pitSize_0 rfl
theorem t99_1 : e_ok mD99 1 (0, 0, 0, 0, 2) := Or.inl (okc_iconst dL_pitSize_1 (by decide +kernel))
theorem t99_2 : e_ok mD99 2 (1, 1, 0, 0, 3) := okl_aload_n dL_pitSize_2 rfl
theorem t99_3 : e_ok mD99 3 (1, 0, 1, 0, 4) := okl_iload_n dL_pitSize_3 rfl
theorem t99_4 : e_ok mD99 4 (11, 2, 23, 2, 7) := And.intro (okCallX.M (okx_virtual (Da := mD23) dL_pitSize_4 rfl mwc_23 (wg3 213 rfl rfl) mwn_23 mwv_23 mwi_23 mwd_23)) (fun _ => okx_virtual (Da := mD23) dL_pitSize_4 rfl mwc_23 (wg3 213 rfl rfl) mwn_23 mwv_23 mwi_23 mwd_23)
theorem t99_7 : e_ok mD99 7 (15, 5, 0, 0, 8) := okm_i2l dL_pitSize_7
theorem t99_8 : e_ok mD99 8 (10, 3, 0, 0, 9) := oka_stl dL_pitSize_8
theorem t99_9 : e_ok mD99 9 (2, 4, 0, 0, 15) := oki_goto dL_pitSize_9 (by decide +kernel)
theorem t99_12 : e_ok mD99 12 (1, 5, 3, 0, 13) := oks_astore_n dL_pitSize_12 rfl (by decide +kernel)
theorem t99_13 : e_ok mD99 13 (0, 0, 1, 0, 14) := Or.inl (okc_iconst dL_pitSize_13 (by decide +kernel))
theorem t99_14 : e_ok mD99 14 (12, 1, 0, 0, 0) := okr_int dL_pitSize_14 rfl
theorem t99_15 : e_ok mD99 15 (0, 0, 0, 0, 16) := Or.inl (okc_iconst dL_pitSize_15 (by decide +kernel))
theorem t99_16 : e_ok mD99 16 (12, 1, 0, 0, 0) := okr_int dL_pitSize_16 rfl
theorem t100_0 : e_ok mD100 0 (1, 1, 2, 0, 1) := okl_aload_n dL_pitWorth_0 rfl
theorem t100_1 : e_ok mD100 1 (0, 0, 0, 0, 2) := Or.inl (okc_iconst dL_pitWorth_1 (by decide +kernel))
theorem t100_2 : e_ok mD100 2 (1, 1, 0, 0, 3) := okl_aload_n dL_pitWorth_2 rfl
theorem t100_3 : e_ok mD100 3 (1, 0, 1, 0, 4) := okl_iload_n dL_pitWorth_3 rfl
theorem t100_4 : e_ok mD100 4 (11, 2, 24, 2, 7) := And.intro (okCallX.M (okx_virtual (Da := mD24) dL_pitWorth_4 rfl mwc_24 (wg3 177 rfl rfl) mwn_24 mwv_24 mwi_24 mwd_24)) (fun _ => okx_virtual (Da := mD24) dL_pitWorth_4 rfl mwc_24 (wg3 177 rfl rfl) mwn_24 mwv_24 mwi_24 mwd_24)
theorem t100_7 : e_ok mD100 7 (10, 3, 0, 0, 8) := oka_stl dL_pitWorth_7
theorem t100_8 : e_ok mD100 8 (2, 4, 0, 0, 14) := oki_goto dL_pitWorth_8 (by decide +kernel)
theorem t100_11 : e_ok mD100 11 (1, 5, 3, 0, 12) := oks_astore_n dL_pitWorth_11 rfl (by decide +kernel)
theorem t100_12 : e_ok mD100 12 (0, 0, 1, 0, 13) := Or.inl (okc_iconst dL_pitWorth_12 (by decide +kernel))
theorem t100_13 : e_ok mD100 13 (12, 1, 0, 0, 0) := okr_int dL_pitWorth_13 rfl
theorem t100_14 : e_ok mD100 14 (0, 0, 0, 0, 15) := Or.inl (okc_iconst dL_pitWorth_14 (by decide +kernel))
theorem t100_15 : e_ok mD100 15 (12, 1, 0, 0, 0) := okr_int dL_pitWorth_15 rfl
theorem t101_0 : e_ok mD101 0 (1, 1, 1, 0, 1) := okl_aload_n dL_recovery_0 rfl
theorem t101_1 : e_ok mD101 1 (0, 0, 0, 0, 2) := Or.inl (okc_iconst dL_recovery_1 (by decide +kernel))
theorem t101_2 : e_ok mD101 2 (1, 1, 0, 0, 3) := okl_aload_n dL_recovery_2 rfl
theorem t101_3 : e_ok mD101 3 (11, 2, 25, 1, 6) := And.intro (okCallX.M (okx_virtual (Da := mD25) dL_recovery_3 rfl mwc_25 (wg4 227 rfl rfl) mwn_25 mwv_25 mwi_25 mwd_25)) (fun _ => okx_virtual (Da := mD25) dL_recovery_3 rfl mwc_25 (wg4 227 rfl rfl) mwn_25 mwv_25 mwi_25 mwd_25)
theorem t101_6 : e_ok mD101 6 (15, 5, 0, 0, 7) := okm_i2l dL_recovery_6
theorem t101_7 : e_ok mD101 7 (10, 3, 0, 0, 8) := oka_stl dL_recovery_7
theorem t101_8 : e_ok mD101 8 (2, 4, 0, 0, 14) := oki_goto dL_recovery_8 (by decide +kernel)
theorem t101_11 : e_ok mD101 11 (1, 5, 2, 0, 12) := oks_astore_n dL_recovery_11 rfl (by decide +kernel)
theorem t101_12 : e_ok mD101 12 (0, 0, 1, 0, 13) := Or.inl (okc_iconst dL_recovery_12 (by decide +kernel))
theorem t101_13 : e_ok mD101 13 (12, 1, 0, 0, 0) := okr_int dL_recovery_13 rfl
theorem t101_14 : e_ok mD101 14 (0, 0, 0, 0, 15) := Or.inl (okc_iconst dL_recovery_14 (by decide +kernel))
theorem t101_15 : e_ok mD101 15 (12, 1, 0, 0, 0) := okr_int dL_recovery_15 rfl
theorem t102_0 : e_ok mD102 0 (1, 1, 3, 0, 1) := okl_aload_n dL_rock_0 rfl
theorem t102_1 : e_ok mD102 1 (0, 0, 0, 0, 2) := Or.inl (okc_iconst dL_rock_1 (by decide +kernel))
theorem t102_2 : e_ok mD102 2 (1, 1, 0, 0, 3) := okl_aload_n dL_rock_2 rfl
theorem t102_3 : e_ok mD102 3 (1, 0, 1, 0, 4) := okl_iload_n dL_rock_3 rfl
theorem t102_4 : e_ok mD102 4 (1, 0, 2, 0, 5) := okl_iload_n dL_rock_4 rfl
theorem t102_5 : e_ok mD102 5 (11, 2, 30, 3, 8) := And.intro (okCallX.M (okx_virtual (Da := mD30) dL_rock_5 rfl mwc_30 (wg2 231 rfl rfl) mwn_30 mwv_30 mwi_30 mwd_30)) (fun _ => okx_virtual (Da := mD30) dL_rock_5 rfl mwc_30 (wg2 231 rfl rfl) mwn_30 mwv_30 mwi_30 mwd_30)
theorem t102_8 : e_ok mD102 8 (15, 5, 0, 0, 9) := okm_i2l dL_rock_8
theorem t102_9 : e_ok mD102 9 (10, 3, 0, 0, 10) := oka_stl dL_rock_9
theorem t102_10 : e_ok mD102 10 (2, 4, 0, 0, 25) := oki_goto dL_rock_10 (by decide +kernel)
theorem t102_13 : e_ok mD102 13 (1, 5, 4, 0, 15) := oks_astore dL_rock_13 (by decide +kernel)
theorem t102_15 : e_ok mD102 15 (0, 0, 1, 0, 16) := Or.inl (okc_iconst dL_rock_15 (by decide +kernel))
theorem t102_16 : e_ok mD102 16 (12, 1, 0, 0, 0) := okr_int dL_rock_16 rfl
theorem t102_17 : e_ok mD102 17 (1, 5, 4, 0, 19) := oks_astore dL_rock_17 (by decide +kernel)
theorem t102_19 : e_ok mD102 19 (0, 0, 2, 0, 20) := Or.inl (okc_iconst dL_rock_19 (by decide +kernel))
theorem t102_20 : e_ok mD102 20 (12, 1, 0, 0, 0) := okr_int dL_rock_20 rfl
theorem t102_21 : e_ok mD102 21 (1, 5, 4, 0, 23) := oks_astore dL_rock_21 (by decide +kernel)
theorem t102_23 : e_ok mD102 23 (0, 0, 3, 0, 24) := Or.inl (okc_iconst dL_rock_23 (by decide +kernel))
theorem t102_24 : e_ok mD102 24 (12, 1, 0, 0, 0) := okr_int dL_rock_24 rfl
theorem t102_25 : e_ok mD102 25 (0, 0, 0, 0, 26) := Or.inl (okc_iconst dL_rock_25 (by decide +kernel))
theorem t102_26 : e_ok mD102 26 (12, 1, 0, 0, 0) := okr_int dL_rock_26 rfl
theorem t103_0 : e_ok mD103 0 (1, 1, 3, 0, 1) := okl_aload_n dL_sample_0 rfl
theorem t103_1 : e_ok mD103 1 (0, 0, 0, 0, 2) := Or.inl (okc_iconst dL_sample_1 (by decide +kernel))
theorem t103_2 : e_ok mD103 2 (1, 1, 0, 0, 3) := okl_aload_n dL_sample_2 rfl
theorem t103_3 : e_ok mD103 3 (1, 0, 1, 0, 4) := okl_iload_n dL_sample_3 rfl
theorem t103_4 : e_ok mD103 4 (1, 0, 2, 0, 5) := okl_iload_n dL_sample_4 rfl
theorem t103_5 : e_ok mD103 5 (11, 2, 31, 3, 8) := And.intro (okCallX.M (okx_virtual (Da := mD31) dL_sample_5 rfl mwc_31 (wg3 62 rfl rfl) mwn_31 mwv_31 mwi_31 mwd_31)) (fun _ => okx_virtual (Da := mD31) dL_sample_5 rfl mwc_31 (wg3 62 rfl rfl) mwn_31 mwv_31 mwi_31 mwd_31)
theorem t103_8 : e_ok mD103 8 (15, 5, 0, 0, 9) := okm_i2l dL_sample_8
theorem t103_9 : e_ok mD103 9 (10, 3, 0, 0, 10) := oka_stl dL_sample_9
theorem t103_10 : e_ok mD103 10 (2, 4, 0, 0, 25) := oki_goto dL_sample_10 (by decide +kernel)
theorem t103_13 : e_ok mD103 13 (1, 5, 4, 0, 15) := oks_astore dL_sample_13 (by decide +kernel)
theorem t103_15 : e_ok mD103 15 (0, 0, 1, 0, 16) := Or.inl (okc_iconst dL_sample_15 (by decide +kernel))
theorem t103_16 : e_ok mD103 16 (12, 1, 0, 0, 0) := okr_int dL_sample_16 rfl
theorem t103_17 : e_ok mD103 17 (1, 5, 4, 0, 19) := oks_astore dL_sample_17 (by decide +kernel)
theorem t103_19 : e_ok mD103 19 (0, 0, 2, 0, 20) := Or.inl (okc_iconst dL_sample_19 (by decide +kernel))
theorem t103_20 : e_ok mD103 20 (12, 1, 0, 0, 0) := okr_int dL_sample_20 rfl
theorem t103_21 : e_ok mD103 21 (1, 5, 4, 0, 23) := oks_astore dL_sample_21 (by decide +kernel)
theorem t103_23 : e_ok mD103 23 (0, 0, 3, 0, 24) := Or.inl (okc_iconst dL_sample_23 (by decide +kernel))
theorem t103_24 : e_ok mD103 24 (12, 1, 0, 0, 0) := okr_int dL_sample_24 rfl
theorem t103_25 : e_ok mD103 25 (0, 0, 0, 0, 26) := Or.inl (okc_iconst dL_sample_25 (by decide +kernel))
theorem t103_26 : e_ok mD103 26 (12, 1, 0, 0, 0) := okr_int dL_sample_26 rfl
theorem t104_0 : e_ok mD104 0 (1, 1, 3, 0, 1) := okl_aload_n dL_set_0 rfl
theorem t104_1 : e_ok mD104 1 (0, 0, 0, 0, 2) := Or.inl (okc_iconst dL_set_1 (by decide +kernel))
theorem t104_2 : e_ok mD104 2 (1, 1, 0, 0, 3) := okl_aload_n dL_set_2 rfl
theorem t104_3 : e_ok mD104 3 (1, 0, 1, 0, 4) := okl_iload_n dL_set_3 rfl
theorem t104_4 : e_ok mD104 4 (1, 0, 2, 0, 5) := okl_iload_n dL_set_4 rfl
theorem t104_5 : e_ok mD104 5 (11, 2, 32, 3, 8) := And.intro (okCallX.M (okx_virtual (Da := mD32) dL_set_5 rfl mwc_32 (wg4 54 rfl rfl) mwn_32 mwv_32 mwi_32 mwd_32)) (fun _ => okx_virtual (Da := mD32) dL_set_5 rfl mwc_32 (wg4 54 rfl rfl) mwn_32 mwv_32 mwi_32 mwd_32)
theorem t104_8 : e_ok mD104 8 (15, 5, 0, 0, 9) := okm_i2l dL_set_8
theorem t104_9 : e_ok mD104 9 (10, 3, 0, 0, 10) := oka_stl dL_set_9
theorem t104_10 : e_ok mD104 10 (2, 4, 0, 0, 17) := oki_goto dL_set_10 (by decide +kernel)
theorem t104_13 : e_ok mD104 13 (1, 5, 4, 0, 15) := oks_astore dL_set_13 (by decide +kernel)
theorem t104_15 : e_ok mD104 15 (0, 0, 1, 0, 16) := Or.inl (okc_iconst dL_set_15 (by decide +kernel))
theorem t104_16 : e_ok mD104 16 (12, 1, 0, 0, 0) := okr_int dL_set_16 rfl
theorem t104_17 : e_ok mD104 17 (0, 0, 0, 0, 18) := Or.inl (okc_iconst dL_set_17 (by decide +kernel))
theorem t104_18 : e_ok mD104 18 (12, 1, 0, 0, 0) := okr_int dL_set_18 rfl
theorem t105_0 : e_ok mD105 0 (1, 1, 3, 0, 1) := okl_aload_n dL_tellTruth_0 rfl
theorem t105_1 : e_ok mD105 1 (0, 0, 0, 0, 2) := Or.inl (okc_iconst dL_tellTruth_1 (by decide +kernel))
theorem t105_2 : e_ok mD105 2 (1, 1, 0, 0, 3) := okl_aload_n dL_tellTruth_2 rfl
theorem t105_3 : e_ok mD105 3 (1, 0, 1, 0, 4) := okl_iload_n dL_tellTruth_3 rfl
theorem t105_4 : e_ok mD105 4 (1, 0, 2, 0, 5) := okl_iload_n dL_tellTruth_4 rfl
theorem t105_5 : e_ok mD105 5 (11, 2, 35, 3, 8) := And.intro (okCallX.M (okx_virtual (Da := mD35) dL_tellTruth_5 rfl mwc_35 (wg3 98 rfl rfl) mwn_35 mwv_35 mwi_35 mwd_35)) (fun _ => okx_virtual (Da := mD35) dL_tellTruth_5 rfl mwc_35 (wg3 98 rfl rfl) mwn_35 mwv_35 mwi_35 mwd_35)
theorem t105_8 : e_ok mD105 8 (15, 5, 0, 0, 9) := okm_i2l dL_tellTruth_8
theorem t105_9 : e_ok mD105 9 (10, 3, 0, 0, 10) := oka_stl dL_tellTruth_9
theorem t105_10 : e_ok mD105 10 (2, 4, 0, 0, 25) := oki_goto dL_tellTruth_10 (by decide +kernel)
theorem t105_13 : e_ok mD105 13 (1, 5, 4, 0, 15) := oks_astore dL_tellTruth_13 (by decide +kernel)
theorem t105_15 : e_ok mD105 15 (0, 0, 1, 0, 16) := Or.inl (okc_iconst dL_tellTruth_15 (by decide +kernel))
theorem t105_16 : e_ok mD105 16 (12, 1, 0, 0, 0) := okr_int dL_tellTruth_16 rfl
theorem t105_17 : e_ok mD105 17 (1, 5, 4, 0, 19) := oks_astore dL_tellTruth_17 (by decide +kernel)
theorem t105_19 : e_ok mD105 19 (0, 0, 2, 0, 20) := Or.inl (okc_iconst dL_tellTruth_19 (by decide +kernel))
theorem t105_20 : e_ok mD105 20 (12, 1, 0, 0, 0) := okr_int dL_tellTruth_20 rfl
theorem t105_21 : e_ok mD105 21 (1, 5, 4, 0, 23) := oks_astore dL_tellTruth_21 (by decide +kernel)
theorem t105_23 : e_ok mD105 23 (0, 0, 3, 0, 24) := Or.inl (okc_iconst dL_tellTruth_23 (by decide +kernel))
theorem t105_24 : e_ok mD105 24 (12, 1, 0, 0, 0) := okr_int dL_tellTruth_24 rfl
theorem t105_25 : e_ok mD105 25 (0, 0, 0, 0, 26) := Or.inl (okc_iconst dL_tellTruth_25 (by decide +kernel))
theorem t105_26 : e_ok mD105 26 (12, 1, 0, 0, 0) := okr_int dL_tellTruth_26 rfl
theorem t106_0 : e_ok mD106 0 (1, 1, 2, 0, 1) := okl_aload_n dL_tons_0 rfl
theorem t106_1 : e_ok mD106 1 (0, 0, 0, 0, 2) := Or.inl (okc_iconst dL_tons_1 (by decide +kernel))
theorem t106_2 : e_ok mD106 2 (1, 1, 0, 0, 3) := okl_aload_n dL_tons_2 rfl
theorem t106_3 : e_ok mD106 3 (1, 0, 1, 0, 4) := okl_iload_n dL_tons_3 rfl
theorem t106_4 : e_ok mD106 4 (11, 2, 36, 2, 7) := And.intro (okCallX.M (okx_virtual (Da := mD36) dL_tons_4 rfl mwc_36 (wg4 235 rfl rfl) mwn_36 mwv_36 mwi_36 mwd_36)) (fun _ => okx_virtual (Da := mD36) dL_tons_4 rfl mwc_36 (wg4 235 rfl rfl) mwn_36 mwv_36 mwi_36 mwd_36)
theorem t106_7 : e_ok mD106 7 (15, 5, 0, 0, 8) := okm_i2l dL_tons_7
theorem t106_8 : e_ok mD106 8 (10, 3, 0, 0, 9) := oka_stl dL_tons_8
theorem t106_9 : e_ok mD106 9 (2, 4, 0, 0, 15) := oki_goto dL_tons_9 (by decide +kernel)
theorem t106_12 : e_ok mD106 12 (1, 5, 3, 0, 13) := oks_astore_n dL_tons_12 rfl (by decide +kernel)
theorem t106_13 : e_ok mD106 13 (0, 0, 1, 0, 14) := Or.inl (okc_iconst dL_tons_13 (by decide +kernel))
theorem t106_14 : e_ok mD106 14 (12, 1, 0, 0, 0) := okr_int dL_tons_14 rfl
theorem t106_15 : e_ok mD106 15 (0, 0, 0, 0, 16) := Or.inl (okc_iconst dL_tons_15 (by decide +kernel))
theorem t106_16 : e_ok mD106 16 (12, 1, 0, 0, 0) := okr_int dL_tons_16 rfl
theorem t107_0 : e_ok mD107 0 (1, 1, 2, 0, 1) := okl_aload_n dL_wentTo_0 rfl
theorem t107_1 : e_ok mD107 1 (0, 0, 0, 0, 2) := Or.inl (okc_iconst dL_wentTo_1 (by decide +kernel))
theorem t107_2 : e_ok mD107 2 (1, 1, 0, 0, 3) := okl_aload_n dL_wentTo_2 rfl
theorem t107_3 : e_ok mD107 3 (1, 0, 1, 0, 4) := okl_iload_n dL_wentTo_3 rfl
theorem t107_4 : e_ok mD107 4 (11, 2, 39, 2, 7) := And.intro (okCallX.M (okx_virtual (Da := mD39) dL_wentTo_4 rfl mwc_39 (wg4 185 rfl rfl) mwn_39 mwv_39 mwi_39 mwd_39)) (fun _ => okx_virtual (Da := mD39) dL_wentTo_4 rfl mwc_39 (wg4 185 rfl rfl) mwn_39 mwv_39 mwi_39 mwd_39)
theorem t107_7 : e_ok mD107 7 (15, 5, 0, 0, 8) := okm_i2l dL_wentTo_7
theorem t107_8 : e_ok mD107 8 (10, 3, 0, 0, 9) := oka_stl dL_wentTo_8
theorem t107_9 : e_ok mD107 9 (2, 4, 0, 0, 18) := oki_goto dL_wentTo_9 (by decide +kernel)
theorem t107_12 : e_ok mD107 12 (1, 5, 3, 0, 13) := oks_astore_n dL_wentTo_12 rfl (by decide +kernel)
theorem t107_13 : e_ok mD107 13 (0, 0, 1, 0, 14) := Or.inl (okc_iconst dL_wentTo_13 (by decide +kernel))
theorem t107_14 : e_ok mD107 14 (12, 1, 0, 0, 0) := okr_int dL_wentTo_14 rfl
theorem t107_15 : e_ok mD107 15 (1, 5, 3, 0, 16) := oks_astore_n dL_wentTo_15 rfl (by decide +kernel)
theorem t107_16 : e_ok mD107 16 (0, 0, 2, 0, 17) := Or.inl (okc_iconst dL_wentTo_16 (by decide +kernel))
theorem t107_17 : e_ok mD107 17 (12, 1, 0, 0, 0) := okr_int dL_wentTo_17 rfl
theorem t107_18 : e_ok mD107 18 (0, 0, 0, 0, 19) := Or.inl (okc_iconst dL_wentTo_18 (by decide +kernel))
theorem t107_19 : e_ok mD107 19 (12, 1, 0, 0, 0) := okr_int dL_wentTo_19 rfl
theorem t108_0 : e_ok mD108 0 (1, 1, 3, 0, 1) := okl_aload_n dL_worth_0 rfl
theorem t108_1 : e_ok mD108 1 (0, 0, 0, 0, 2) := Or.inl (okc_iconst dL_worth_1 (by decide +kernel))
theorem t108_2 : e_ok mD108 2 (1, 1, 0, 0, 3) := okl_aload_n dL_worth_2 rfl
theorem t108_3 : e_ok mD108 3 (1, 0, 1, 0, 4) := okl_iload_n dL_worth_3 rfl
theorem t108_4 : e_ok mD108 4 (1, 0, 2, 0, 5) := okl_iload_n dL_worth_4 rfl
theorem t108_5 : e_ok mD108 5 (11, 2, 40, 3, 8) := And.intro (okCallX.M (okx_virtual (Da := mD40) dL_worth_5 rfl mwc_40 (wg3 141 rfl rfl) mwn_40 mwv_40 mwi_40 mwd_40)) (fun _ => okx_virtual (Da := mD40) dL_worth_5 rfl mwc_40 (wg3 141 rfl rfl) mwn_40 mwv_40 mwi_40 mwd_40)
theorem t108_8 : e_ok mD108 8 (15, 5, 0, 0, 9) := okm_i2l dL_worth_8
theorem t108_9 : e_ok mD108 9 (10, 3, 0, 0, 10) := oka_stl dL_worth_9
theorem t108_10 : e_ok mD108 10 (2, 4, 0, 0, 21) := oki_goto dL_worth_10 (by decide +kernel)
theorem t108_13 : e_ok mD108 13 (1, 5, 4, 0, 15) := oks_astore dL_worth_13 (by decide +kernel)
theorem t108_15 : e_ok mD108 15 (0, 0, 1, 0, 16) := Or.inl (okc_iconst dL_worth_15 (by decide +kernel))
theorem t108_16 : e_ok mD108 16 (12, 1, 0, 0, 0) := okr_int dL_worth_16 rfl
theorem t108_17 : e_ok mD108 17 (1, 5, 4, 0, 19) := oks_astore dL_worth_17 (by decide +kernel)
theorem t108_19 : e_ok mD108 19 (0, 0, 2, 0, 20) := Or.inl (okc_iconst dL_worth_19 (by decide +kernel))
theorem t108_20 : e_ok mD108 20 (12, 1, 0, 0, 0) := okr_int dL_worth_20 rfl
theorem t108_21 : e_ok mD108 21 (0, 0, 0, 0, 22) := Or.inl (okc_iconst dL_worth_21 (by decide +kernel))
theorem t108_22 : e_ok mD108 22 (12, 1, 0, 0, 0) := okr_int dL_worth_22 rfl
theorem t109_0 : e_ok mD109 0 (1, 1, 3, 0, 1) := okl_aload_n dL_worthWith_0 rfl
theorem t109_1 : e_ok mD109 1 (0, 0, 0, 0, 2) := Or.inl (okc_iconst dL_worthWith_1 (by decide +kernel))
theorem t109_2 : e_ok mD109 2 (1, 1, 0, 0, 3) := okl_aload_n dL_worthWith_2 rfl
theorem t109_3 : e_ok mD109 3 (1, 0, 1, 0, 4) := okl_iload_n dL_worthWith_3 rfl
theorem t109_4 : e_ok mD109 4 (1, 0, 2, 0, 5) := okl_iload_n dL_worthWith_4 rfl
theorem t109_5 : e_ok mD109 5 (11, 2, 41, 3, 8) := And.intro (okCallX.M (okx_virtual (Da := mD41) dL_worthWith_5 rfl mwc_41 (wg3 232 rfl rfl) mwn_41 mwv_41 mwi_41 mwd_41)) (fun _ => okx_virtual (Da := mD41) dL_worthWith_5 rfl mwc_41 (wg3 232 rfl rfl) mwn_41 mwv_41 mwi_41 mwd_41)
theorem t109_8 : e_ok mD109 8 (10, 3, 0, 0, 9) := oka_stl dL_worthWith_8
theorem t109_9 : e_ok mD109 9 (2, 4, 0, 0, 24) := oki_goto dL_worthWith_9 (by decide +kernel)
theorem t109_12 : e_ok mD109 12 (1, 5, 4, 0, 14) := oks_astore dL_worthWith_12 (by decide +kernel)
theorem t109_14 : e_ok mD109 14 (0, 0, 1, 0, 15) := Or.inl (okc_iconst dL_worthWith_14 (by decide +kernel))
theorem t109_15 : e_ok mD109 15 (12, 1, 0, 0, 0) := okr_int dL_worthWith_15 rfl
theorem t109_16 : e_ok mD109 16 (1, 5, 4, 0, 18) := oks_astore dL_worthWith_16 (by decide +kernel)
theorem t109_18 : e_ok mD109 18 (0, 0, 2, 0, 19) := Or.inl (okc_iconst dL_worthWith_18 (by decide +kernel))
theorem t109_19 : e_ok mD109 19 (12, 1, 0, 0, 0) := okr_int dL_worthWith_19 rfl
theorem t109_20 : e_ok mD109 20 (1, 5, 4, 0, 22) := oks_astore dL_worthWith_20 (by decide +kernel)
theorem t109_22 : e_ok mD109 22 (0, 0, 3, 0, 23) := Or.inl (okc_iconst dL_worthWith_22 (by decide +kernel))
theorem t109_23 : e_ok mD109 23 (12, 1, 0, 0, 0) := okr_int dL_worthWith_23 rfl
theorem t109_24 : e_ok mD109 24 (0, 0, 0, 0, 25) := Or.inl (okc_iconst dL_worthWith_24 (by decide +kernel))
theorem t109_25 : e_ok mD109 25 (12, 1, 0, 0, 0) := okr_int dL_worthWith_25 rfl
theorem t110_0 : e_ok mD110 0 (1, 1, 0, 0, 1) := okl_aload_n dX13_init_0 rfl
theorem t110_1 : e_ok mD110 1 (7, 4, 0, 0, 4) := okw_obj dX13_init_1 (wg5 39 rfl rfl) w_obj1 w_obj2
theorem t110_4 : e_ok mD110 4 (1, 1, 0, 0, 5) := okl_aload_n dX13_init_4 rfl
theorem t110_5 : e_ok mD110 5 (7, 1, 4, 3, 8) := And.intro (fun X ρ => okw_new dX13_init_5 rfl hin_4 tyJx4a65c_ok (wg5 40 rfl rfl) (wg5 41 rfl rfl) (wg1 14 rfl rfl) rfl) (by decide)
theorem t110_8 : e_ok mD110 8 (2, 1, 0, 0, 9) := oki_dup dX13_init_8
theorem t110_9 : e_ok mD110 9 (11, 1, 179, 1, 12) := And.intro (okm_init (Da := mD179) dX13_init_9 rfl rfl mwc_179 (wg5 42 rfl rfl) mwn_179 mwi_179 rfl mwd_179) (fun h => h.elim nofun nofun)
theorem t110_12 : e_ok mD110 12 (9, 7, 18, 1, 15) := okw_putF dX13_init_12 rfl hin_18 tyX13_ok nmX13 (by decide +kernel) (wg5 168 rfl rfl) rfl rfl rfl rfl (tyX13_ok 1 (by decide +kernel)) (fun V h => fitV_obj h)
theorem t110_15 : e_ok mD110 15 (1, 1, 0, 0, 16) := okl_aload_n dX13_init_15 rfl
theorem t110_16 : e_ok mD110 16 (7, 1, 4, 3, 19) := And.intro (fun X ρ => okw_new dX13_init_16 rfl hin_4 tyJx4a65c_ok (wg5 40 rfl rfl) (wg5 41 rfl rfl) (wg1 14 rfl rfl) rfl) (by decide)
theorem t110_19 : e_ok mD110 19 (2, 1, 0, 0, 20) := oki_dup dX13_init_19
theorem t110_20 : e_ok mD110 20 (11, 1, 179, 1, 23) := And.intro (okm_init (Da := mD179) dX13_init_20 rfl rfl mwc_179 (wg5 42 rfl rfl) mwn_179 mwi_179 rfl mwd_179) (fun h => h.elim nofun nofun)
theorem t110_23 : e_ok mD110 23 (9, 7, 18, 2, 26) := okw_putF dX13_init_23 rfl hin_18 tyX13_ok nmX13 (by decide +kernel) (wg5 169 rfl rfl) rfl rfl rfl rfl (tyX13_ok 2 (by decide +kernel)) (fun V h => fitV_obj h)
theorem t110_26 : e_ok mD110 26 (1, 1, 0, 0, 27) := okl_aload_n dX13_init_26 rfl
theorem t110_27 : e_ok mD110 27 (7, 1, 4, 3, 30) := And.intro (fun X ρ => okw_new dX13_init_27 rfl hin_4 tyJx4a65c_ok (wg5 40 rfl rfl) (wg5 41 rfl rfl) (wg1 14 rfl rfl) rfl) (by decide)
theorem t110_30 : e_ok mD110 30 (2, 1, 0, 0, 31) := oki_dup dX13_init_30
theorem t110_31 : e_ok mD110 31 (11, 1, 179, 1, 34) := And.intro (okm_init (Da := mD179) dX13_init_31 rfl rfl mwc_179 (wg5 42 rfl rfl) mwn_179 mwi_179 rfl mwd_179) (fun h => h.elim nofun nofun)
theorem t110_34 : e_ok mD110 34 (9, 7, 18, 3, 37) := okw_putF dX13_init_34 rfl hin_18 tyX13_ok nmX13 (by decide +kernel) (wg5 170 rfl rfl) rfl rfl rfl rfl (tyX13_ok 3 (by decide +kernel)) (fun V h => fitV_obj h)
theorem t110_37 : e_ok mD110 37 (1, 1, 0, 0, 38) := okl_aload_n dX13_init_37 rfl
theorem t110_38 : e_ok mD110 38 (7, 1, 4, 3, 41) := And.intro (fun X ρ => okw_new dX13_init_38 rfl hin_4 tyJx4a65c_ok (wg5 40 rfl rfl) (wg5 41 rfl rfl) (wg1 14 rfl rfl) rfl) (by decide)
theorem t110_41 : e_ok mD110 41 (2, 1, 0, 0, 42) := oki_dup dX13_init_41
theorem t110_42 : e_ok mD110 42 (11, 1, 179, 1, 45) := And.intro (okm_init (Da := mD179) dX13_init_42 rfl rfl mwc_179 (wg5 42 rfl rfl) mwn_179 mwi_179 rfl mwd_179) (fun h => h.elim nofun nofun)
theorem t110_45 : e_ok mD110 45 (9, 7, 18, 4, 48) := okw_putF dX13_init_45 rfl hin_18 tyX13_ok nmX13 (by decide +kernel) (wg5 171 rfl rfl) rfl rfl rfl rfl (tyX13_ok 4 (by decide +kernel)) (fun V h => fitV_obj h)
theorem t110_48 : e_ok mD110 48 (1, 1, 0, 0, 49) := okl_aload_n dX13_init_48 rfl
theorem t110_49 : e_ok mD110 49 (0, 0, 7, 0, 51) := Or.inl (okc_bipush dX13_init_49 (by decide +kernel))
theorem t110_51 : e_ok mD110 51 (16, 0, 0, 0, 53) := And.intro (oka_new (by decide) rfl (wg1 73 rfl rfl) dX13_init_51) (by decide)
theorem t110_53 : e_ok mD110 53 (2, 1, 0, 0, 54) := oki_dup dX13_init_53
theorem t110_54 : e_ok mD110 54 (0, 0, 0, 0, 55) := Or.inl (okc_iconst dX13_init_54 (by decide +kernel))
theorem t110_55 : e_ok mD110 55 (0, 0, 3, 0, 56) := Or.inl (okc_iconst dX13_init_55 (by decide +kernel))
theorem t110_56 : e_ok mD110 56 (10, 0, 0, 0, 57) := oka_sti dX13_init_56
theorem t110_57 : e_ok mD110 57 (2, 1, 0, 0, 58) := oki_dup dX13_init_57
theorem t110_58 : e_ok mD110 58 (0, 0, 1, 0, 59) := Or.inl (okc_iconst dX13_init_58 (by decide +kernel))
theorem t110_59 : e_ok mD110 59 (0, 0, 2, 0, 60) := Or.inl (okc_iconst dX13_init_59 (by decide +kernel))
theorem t110_60 : e_ok mD110 60 (10, 0, 0, 0, 61) := oka_sti dX13_init_60
theorem t110_61 : e_ok mD110 61 (2, 1, 0, 0, 62) := oki_dup dX13_init_61
theorem t110_62 : e_ok mD110 62 (0, 0, 2, 0, 63) := Or.inl (okc_iconst dX13_init_62 (by decide +kernel))
theorem t110_63 : e_ok mD110 63 (0, 0, 20, 0, 65) := Or.inl (okc_bipush dX13_init_63 (by decide +kernel))
theorem t110_65 : e_ok mD110 65 (10, 0, 0, 0, 66) := oka_sti dX13_init_65
theorem t110_66 : e_ok mD110 66 (2, 1, 0, 0, 67) := oki_dup dX13_init_66
theorem t110_67 : e_ok mD110 67 (0, 0, 3, 0, 68) := Or.inl (okc_iconst dX13_init_67 (by decide +kernel))
theorem t110_68 : e_ok mD110 68 (0, 0, 10, 0, 70) := Or.inl (okc_bipush dX13_init_68 (by decide +kernel))
theorem t110_70 : e_ok mD110 70 (10, 0, 0, 0, 71) := oka_sti dX13_init_70
theorem t110_71 : e_ok mD110 71 (2, 1, 0, 0, 72) := oki_dup dX13_init_71
theorem t110_72 : e_ok mD110 72 (0, 0, 4, 0, 73) := Or.inl (okc_iconst dX13_init_72 (by decide +kernel))
theorem t110_73 : e_ok mD110 73 (0, 0, 10, 0, 75) := Or.inl (okc_bipush dX13_init_73 (by decide +kernel))
theorem t110_75 : e_ok mD110 75 (10, 0, 0, 0, 76) := oka_sti dX13_init_75
theorem t110_76 : e_ok mD110 76 (2, 1, 0, 0, 77) := oki_dup dX13_init_76
theorem t110_77 : e_ok mD110 77 (0, 0, 5, 0, 78) := Or.inl (okc_iconst dX13_init_77 (by decide +kernel))
theorem t110_78 : e_ok mD110 78 (0, 0, 10, 0, 80) := Or.inl (okc_bipush dX13_init_78 (by decide +kernel))
theorem t110_80 : e_ok mD110 80 (10, 0, 0, 0, 81) := oka_sti dX13_init_80
theorem t110_81 : e_ok mD110 81 (2, 1, 0, 0, 82) := oki_dup dX13_init_81
theorem t110_82 : e_ok mD110 82 (0, 0, 6, 0, 84) := Or.inl (okc_bipush dX13_init_82 (by decide +kernel))
theorem t110_84 : e_ok mD110 84 (0, 0, 5, 0, 85) := Or.inl (okc_iconst dX13_init_84 (by decide +kernel))
theorem t110_85 : e_ok mD110 85 (10, 0, 0, 0, 86) := oka_sti dX13_init_85
theorem t110_86 : e_ok mD110 86 (9, 7, 18, 5, 89) := okw_putF dX13_init_86 rfl hin_18 tyX13_ok nmX13 (by decide +kernel) (wg5 172 rfl rfl) rfl rfl rfl rfl (tyX13_ok 5 (by decide +kernel)) (fun V h => fitV_arr h)
theorem t110_89 : e_ok mD110 89 (0, 0, 0, 0, 90) := Or.inl (okc_iconst dX13_init_89 (by decide +kernel))
theorem t110_90 : e_ok mD110 90 (1, 4, 1, 0, 91) := oks_istore_n dX13_init_90 rfl (by decide +kernel)
theorem t110_91 : e_ok mD110 91 (1, 0, 1, 0, 92) := okl_iload_n dX13_init_91 rfl
theorem t110_92 : e_ok mD110 92 (0, 0, 60, 0, 94) := Or.inl (okc_bipush dX13_init_92 (by decide +kernel))
theorem t110_94 : e_ok mD110 94 (6, 3, 120, 0, 97) := okk_ge dX13_init_94 (by decide +kernel)
theorem t110_97 : e_ok mD110 97 (1, 1, 0, 0, 98) := okl_aload_n dX13_init_97 rfl
theorem t110_98 : e_ok mD110 98 (7, 0, 18, 1, 101) := And.intro (okw_get dX13_init_98 rfl hin_18 (by decide +kernel) (wg5 168 rfl rfl) rfl) (okx_none (by decide +kernel) _)
theorem t110_101 : e_ok mD110 101 (7, 1, 15, 5, 104) := And.intro (fun X ρ => okw_new dX13_init_101 rfl hin_15 tyX10_ok (wg5 69 rfl rfl) (wg5 70 rfl rfl) (wg1 15 rfl rfl) rfl) (by decide)
theorem t110_104 : e_ok mD110 104 (2, 1, 0, 0, 105) := oki_dup dX13_init_104
theorem t110_105 : e_ok mD110 105 (11, 1, 160, 1, 108) := And.intro (okm_initN (Da := mD160) dX13_init_105 rfl rfl mwc_160 (wn5 71 rfl rfl) mwn_160 mwi_160 rfl mwd_160) (fun h => h.elim nofun nofun)
theorem t110_108 : e_ok mD110 108 (11, 3, 180, 2, 113) := And.intro (okm_iface (ci := 4) (x := ⟨"java/util/List", "add", "(Ljava/lang/Object;)Z"⟩) (Da := mD180) rfl dX13_init_108 rfl mwc_180 (wg5 94 rfl rfl) mwn_180 (wg5 98 rfl rfl) mwi_180 (wn5 96 rfl rfl) (wn5 95 rfl rfl) (wn5 101 rfl rfl) (wn5 99 rfl rfl) (wn5 97 rfl rfl) ⟨by decide +kernel, by decide +kernel, by decide +kernel⟩) (fun h => h.elim nofun nofun)
theorem t110_113 : e_ok mD110 113 (2, 2, 0, 0, 114) := oki_pop dX13_init_113
theorem t110_114 : e_ok mD110 114 (2, 0, 1, 1, 117) := oki_iinc dX13_init_114 (by decide +kernel) (by decide +kernel)
theorem t110_117 : e_ok mD110 117 (2, 4, 0, 0, 91) := oki_goto dX13_init_117 (by decide +kernel)
theorem t110_120 : e_ok mD110 120 (12, 0, 0, 0, 0) := okr_void dX13_init_120 rfl
theorem t111_0 : e_ok mD111 0 (1, 1, 0, 0, 1) := okl_aload_n dX13_aWeek_0 rfl
theorem t111_1 : e_ok mD111 1 (11, 2, 141, 1, 4) := And.intro (okCallX.M (okx_virtual (Da := mD141) dX13_aWeek_1 rfl mwc_141 (wg7 55 rfl rfl) mwn_141 mwv_141 mwi_141 mwd_141)) (fun _ => okx_virtual (Da := mD141) dX13_aWeek_1 rfl mwc_141 (wg7 55 rfl rfl) mwn_141 mwv_141 mwi_141 mwd_141)
theorem t111_4 : e_ok mD111 4 (1, 5, 1, 0, 5) := oks_astore_n dX13_aWeek_4 rfl (by decide +kernel)
theorem t111_5 : e_ok mD111 5 (1, 1, 0, 0, 6) := okl_aload_n dX13_aWeek_5 rfl
theorem t111_6 : e_ok mD111 6 (11, 2, 119, 1, 9) := And.intro (okCallX.M (okx_virtual (Da := mD119) dX13_aWeek_6 rfl mwc_119 (wg7 167 rfl rfl) mwn_119 mwv_119 mwi_119 mwd_119)) (fun _ => okx_virtual (Da := mD119) dX13_aWeek_6 rfl mwc_119 (wg7 167 rfl rfl) mwn_119 mwv_119 mwi_119 mwd_119)
theorem t111_9 : e_ok mD111 9 (1, 4, 2, 0, 10) := oks_istore_n dX13_aWeek_9 rfl (by decide +kernel)
theorem t111_10 : e_ok mD111 10 (7, 1, 4, 3, 13) := And.intro (fun X ρ => okw_new dX13_aWeek_10 rfl hin_4 tyJx4a65c_ok (wg5 40 rfl rfl) (wg5 41 rfl rfl) (wg1 14 rfl rfl) rfl) (by decide)
theorem t111_13 : e_ok mD111 13 (2, 1, 0, 0, 14) := oki_dup dX13_aWeek_13
theorem t111_14 : e_ok mD111 14 (11, 1, 179, 1, 17) := And.intro (okm_init (Da := mD179) dX13_aWeek_14 rfl rfl mwc_179 (wg5 42 rfl rfl) mwn_179 mwi_179 rfl mwd_179) (fun h => h.elim nofun nofun)
theorem t111_17 : e_ok mD111 17 (1, 5, 3, 0, 18) := oks_astore_n dX13_aWeek_17 rfl (by decide +kernel)
theorem t111_18 : e_ok mD111 18 (1, 1, 0, 0, 19) := okl_aload_n dX13_aWeek_18 rfl
theorem t111_19 : e_ok mD111 19 (0, 0, 112, 0, 21) := Or.inl (okc_bipush dX13_aWeek_19 (by decide +kernel))
theorem t111_21 : e_ok mD111 21 (11, 2, 152, 2, 24) := And.intro (okCallX.M (okx_virtual (Da := mD152) dX13_aWeek_21 rfl mwc_152 (wg7 171 rfl rfl) mwn_152 mwv_152 mwi_152 mwd_152)) (fun _ => okx_virtual (Da := mD152) dX13_aWeek_21 rfl mwc_152 (wg7 171 rfl rfl) mwn_152 mwv_152 mwi_152 mwd_152)
theorem t111_24 : e_ok mD111 24 (1, 4, 4, 0, 26) := oks_istore dX13_aWeek_24 (by decide +kernel)
theorem t111_26 : e_ok mD111 26 (0, 0, 0, 0, 27) := Or.inl (okc_iconst dX13_aWeek_26 (by decide +kernel))
theorem t111_27 : e_ok mD111 27 (1, 4, 5, 0, 29) := oks_istore dX13_aWeek_27 (by decide +kernel)
theorem t111_29 : e_ok mD111 29 (1, 0, 5, 0, 31) := okl_iload dX13_aWeek_29
theorem t111_31 : e_ok mD111 31 (1, 1, 0, 0, 32) := okl_aload_n dX13_aWeek_31 rfl
theorem t111_32 : e_ok mD111 32 (0, 0, 115, 0, 34) := Or.inl (okc_bipush dX13_aWeek_32 (by decide +kernel))
theorem t111_34 : e_ok mD111 34 (11, 2, 152, 2, 37) := And.intro (okCallX.M (okx_virtual (Da := mD152) dX13_aWeek_34 rfl mwc_152 (wg7 171 rfl rfl) mwn_152 mwv_152 mwi_152 mwd_152)) (fun _ => okx_virtual (Da := mD152) dX13_aWeek_34 rfl mwc_152 (wg7 171 rfl rfl) mwn_152 mwv_152 mwi_152 mwd_152)
theorem t111_37 : e_ok mD111 37 (6, 3, 72, 0, 40) := okk_ge dX13_aWeek_37 (by decide +kernel)
theorem t111_40 : e_ok mD111 40 (1, 1, 0, 0, 41) := okl_aload_n dX13_aWeek_40 rfl
theorem t111_41 : e_ok mD111 41 (1, 0, 2, 0, 42) := okl_iload_n dX13_aWeek_41 rfl
theorem t111_42 : e_ok mD111 42 (1, 1, 1, 0, 43) := okl_aload_n dX13_aWeek_42 rfl
theorem t111_43 : e_ok mD111 43 (11, 2, 138, 3, 46) := And.intro (okCallX.M (okx_virtual (Da := mD138) dX13_aWeek_43 rfl mwc_138 (wg7 175 rfl rfl) mwn_138 mwv_138 mwi_138 mwd_138)) (fun _ => okx_virtual (Da := mD138) dX13_aWeek_43 rfl mwc_138 (wg7 175 rfl rfl) mwn_138 mwv_138 mwi_138 mwd_138)
theorem t111_46 : e_ok mD111 46 (1, 4, 6, 0, 48) := oks_istore dX13_aWeek_46 (by decide +kernel)
theorem t111_48 : e_ok mD111 48 (1, 0, 6, 0, 50) := okl_iload dX13_aWeek_48
theorem t111_50 : e_ok mD111 50 (0, 0, 4294967295, 0, 51) := Or.inl (okc_iconst dX13_aWeek_50 (by decide +kernel))
theorem t111_51 : e_ok mD111 51 (6, 1, 57, 0, 54) := okk_ne dX13_aWeek_51 (by decide +kernel)
theorem t111_54 : e_ok mD111 54 (2, 4, 0, 0, 72) := oki_goto dX13_aWeek_54 (by decide +kernel)
theorem t111_57 : e_ok mD111 57 (1, 1, 0, 0, 58) := okl_aload_n dX13_aWeek_57 rfl
theorem t111_58 : e_ok mD111 58 (1, 0, 6, 0, 60) := okl_iload dX13_aWeek_58
theorem t111_60 : e_ok mD111 60 (1, 1, 3, 0, 61) := okl_aload_n dX13_aWeek_60 rfl
theorem t111_61 : e_ok mD111 61 (1, 0, 4, 0, 63) := okl_iload dX13_aWeek_61
theorem t111_63 : e_ok mD111 63 (11, 2, 220, 4, 66) := And.intro (okCallX.M (okx_virtual (Da := mD220) dX13_aWeek_63 rfl mwc_220 (wg7 179 rfl rfl) mwn_220 mwv_220 mwi_220 mwd_220)) (fun _ => okx_virtual (Da := mD220) dX13_aWeek_63 rfl mwc_220 (wg7 179 rfl rfl) mwn_220 mwv_220 mwi_220 mwd_220)
theorem t111_66 : e_ok mD111 66 (2, 0, 5, 1, 69) := oki_iinc dX13_aWeek_66 (by decide +kernel) (by decide +kernel)
theorem t111_69 : e_ok mD111 69 (2, 4, 0, 0, 29) := oki_goto dX13_aWeek_69 (by decide +kernel)
theorem t111_72 : e_ok mD111 72 (1, 1, 3, 0, 73) := okl_aload_n dX13_aWeek_72 rfl
theorem t111_73 : e_ok mD111 73 (11, 3, 189, 1, 78) := And.intro (okm_iface (ci := 4) (x := ⟨"java/util/List", "size", "()I"⟩) (Da := mD189) rfl dX13_aWeek_73 rfl mwc_189 (wg6 35 rfl rfl) mwn_189 (wg6 38 rfl rfl) mwi_189 (wn6 37 rfl rfl) (wn6 36 rfl rfl) (wn6 41 rfl rfl) (wn6 39 rfl rfl) (wn5 97 rfl rfl) ⟨by decide +kernel, by decide +kernel, by decide +kernel⟩) (fun h => h.elim nofun nofun)
theorem t111_78 : e_ok mD111 78 (1, 0, 4, 0, 80) := okl_iload dX13_aWeek_78
theorem t111_80 : e_ok mD111 80 (6, 3, 107, 0, 83) := okk_ge dX13_aWeek_80 (by decide +kernel)
theorem t111_83 : e_ok mD111 83 (1, 1, 0, 0, 84) := okl_aload_n dX13_aWeek_83 rfl
theorem t111_84 : e_ok mD111 84 (7, 0, 18, 16, 87) := And.intro (okw_get dX13_aWeek_84 rfl hin_18 (by decide +kernel) (wg5 183 rfl rfl) rfl) (okx_none (by decide +kernel) _)
theorem t111_87 : e_ok mD111 87 (5, 5, 107, 0, 90) := okj_le dX13_aWeek_87 (by decide +kernel)
theorem t111_90 : e_ok mD111 90 (1, 1, 3, 0, 91) := okl_aload_n dX13_aWeek_90 rfl
theorem t111_91 : e_ok mD111 91 (1, 1, 0, 0, 92) := okl_aload_n dX13_aWeek_91 rfl
theorem t111_92 : e_ok mD111 92 (11, 2, 221, 1, 95) := And.intro (okCallX.M (okx_virtual (Da := mD221) dX13_aWeek_92 rfl mwc_221 (wg7 183 rfl rfl) mwn_221 mwv_221 mwi_221 mwd_221)) (fun _ => okx_virtual (Da := mD221) dX13_aWeek_92 rfl mwc_221 (wg7 183 rfl rfl) mwn_221 mwv_221 mwi_221 mwd_221)
theorem t111_95 : e_ok mD111 95 (11, 0, 166, 1, 98) := And.intro (okCallX.M (okx_static (Da := mD166) dX13_aWeek_95 rfl mwc_166 (wg6 189 rfl rfl) mws_166 mwi_166 mwd_166)) (fun _ => okx_static (Da := mD166) dX13_aWeek_95 rfl mwc_166 (wg6 189 rfl rfl) mws_166 mwi_166 mwd_166)
theorem t111_98 : e_ok mD111 98 (11, 3, 180, 2, 103) := And.intro (okm_iface (ci := 4) (x := ⟨"java/util/List", "add", "(Ljava/lang/Object;)Z"⟩) (Da := mD180) rfl dX13_aWeek_98 rfl mwc_180 (wg5 94 rfl rfl) mwn_180 (wg5 98 rfl rfl) mwi_180 (wn5 96 rfl rfl) (wn5 95 rfl rfl) (wn5 101 rfl rfl) (wn5 99 rfl rfl) (wn5 97 rfl rfl) ⟨by decide +kernel, by decide +kernel, by decide +kernel⟩) (fun h => h.elim nofun nofun)
theorem t111_103 : e_ok mD111 103 (2, 2, 0, 0, 104) := oki_pop dX13_aWeek_103
theorem t111_104 : e_ok mD111 104 (2, 4, 0, 0, 72) := oki_goto dX13_aWeek_104 (by decide +kernel)
theorem t111_107 : e_ok mD111 107 (1, 1, 0, 0, 108) := okl_aload_n dX13_aWeek_107 rfl
theorem t111_108 : e_ok mD111 108 (1, 1, 3, 0, 109) := okl_aload_n dX13_aWeek_108 rfl
theorem t111_109 : e_ok mD111 109 (11, 2, 135, 2, 112) := And.intro (okCallX.M (okx_virtual (Da := mD135) dX13_aWeek_109 rfl mwc_135 (wg7 201 rfl rfl) mwn_135 mwv_135 mwi_135 mwd_135)) (fun _ => okx_virtual (Da := mD135) dX13_aWeek_109 rfl mwc_135 (wg7 201 rfl rfl) mwn_135 mwv_135 mwi_135 mwd_135)
theorem t111_112 : e_ok mD111 112 (1, 1, 0, 0, 113) := okl_aload_n dX13_aWeek_112 rfl
theorem t111_113 : e_ok mD111 113 (2, 1, 0, 0, 114) := oki_dup dX13_aWeek_113
theorem t111_114 : e_ok mD111 114 (7, 0, 18, 9, 117) := And.intro (okw_get dX13_aWeek_114 rfl hin_18 (by decide +kernel) (wg5 176 rfl rfl) rfl) (okx_none (by decide +kernel) _)
theorem t111_117 : e_ok mD111 117 (1, 1, 0, 0, 118) := okl_aload_n dX13_aWeek_117 rfl
theorem t111_118 : e_ok mD111 118 (0, 0, 114, 0, 120) := Or.inl (okc_bipush dX13_aWeek_118 (by decide +kernel))
theorem t111_120 : e_ok mD111 120 (11, 2, 152, 2, 123) := And.intro (okCallX.M (okx_virtual (Da := mD152) dX13_aWeek_120 rfl mwc_152 (wg7 171 rfl rfl) mwn_152 mwv_152 mwi_152 mwd_152)) (fun _ => okx_virtual (Da := mD152) dX13_aWeek_120 rfl mwc_152 (wg7 171 rfl rfl) mwn_152 mwv_152 mwi_152 mwd_152)
theorem t111_123 : e_ok mD111 123 (3, 0, 0, 0, 124) := okb_iadd dX13_aWeek_123
theorem t111_124 : e_ok mD111 124 (9, 0, 18, 9, 127) := okw_put dX13_aWeek_124 rfl hin_18 tyX13_ok nmX13 (by decide +kernel) (wg5 176 rfl rfl) rfl rfl (tyX13_ok 9 (by decide +kernel)) (fun V h => fitV_int h)
theorem t111_127 : e_ok mD111 127 (1, 1, 0, 0, 128) := okl_aload_n dX13_aWeek_127 rfl
theorem t111_128 : e_ok mD111 128 (0, 0, 119, 0, 130) := Or.inl (okc_bipush dX13_aWeek_128 (by decide +kernel))
theorem t111_130 : e_ok mD111 130 (11, 2, 152, 2, 133) := And.intro (okCallX.M (okx_virtual (Da := mD152) dX13_aWeek_130 rfl mwc_152 (wg7 171 rfl rfl) mwn_152 mwv_152 mwi_152 mwd_152)) (fun _ => okx_virtual (Da := mD152) dX13_aWeek_130 rfl mwc_152 (wg7 171 rfl rfl) mwn_152 mwv_152 mwi_152 mwd_152)
theorem t111_133 : e_ok mD111 133 (1, 1, 0, 0, 134) := okl_aload_n dX13_aWeek_133 rfl
theorem t111_134 : e_ok mD111 134 (7, 0, 18, 9, 137) := And.intro (okw_get dX13_aWeek_134 rfl hin_18 (by decide +kernel) (wg5 176 rfl rfl) rfl) (okx_none (by decide +kernel) _)
theorem t111_137 : e_ok mD111 137 (11, 0, 168, 2, 140) := And.intro (okCallX.M (okx_static (Da := mD168) dX13_aWeek_137 rfl mwc_168 (wg7 215 rfl rfl) mws_168 mwi_168 mwd_168)) (fun _ => okx_static (Da := mD168) dX13_aWeek_137 rfl mwc_168 (wg7 215 rfl rfl) mws_168 mwi_168 mwd_168)
theorem t111_140 : e_ok mD111 140 (1, 4, 5, 0, 142) := oks_istore dX13_aWeek_140 (by decide +kernel)
theorem t111_142 : e_ok mD111 142 (1, 1, 0, 0, 143) := okl_aload_n dX13_aWeek_142 rfl
theorem t111_143 : e_ok mD111 143 (2, 1, 0, 0, 144) := oki_dup dX13_aWeek_143
theorem t111_144 : e_ok mD111 144 (7, 0, 18, 9, 147) := And.intro (okw_get dX13_aWeek_144 rfl hin_18 (by decide +kernel) (wg5 176 rfl rfl) rfl) (okx_none (by decide +kernel) _)
theorem t111_147 : e_ok mD111 147 (1, 0, 5, 0, 149) := okl_iload dX13_aWeek_147
theorem t111_149 : e_ok mD111 149 (3, 1, 0, 0, 150) := okb_isub dX13_aWeek_149
theorem t111_150 : e_ok mD111 150 (9, 0, 18, 9, 153) := okw_put dX13_aWeek_150 rfl hin_18 tyX13_ok nmX13 (by decide +kernel) (wg5 176 rfl rfl) rfl rfl (tyX13_ok 9 (by decide +kernel)) (fun V h => fitV_int h)
theorem t111_153 : e_ok mD111 153 (1, 1, 0, 0, 154) := okl_aload_n dX13_aWeek_153 rfl
theorem t111_154 : e_ok mD111 154 (2, 1, 0, 0, 155) := oki_dup dX13_aWeek_154
theorem t111_155 : e_ok mD111 155 (7, 0, 18, 22, 158) := And.intro (okw_get dX13_aWeek_155 rfl hin_18 (by decide +kernel) (wg5 189 rfl rfl) rfl) (okx_none (by decide +kernel) _)
theorem t111_158 : e_ok mD111 158 (0, 1, 5, 0, 161) := okc_ldc2 dX13_aWeek_158 (wg7 216 rfl rfl)
theorem t111_161 : e_ok mD111 161 (1, 0, 5, 0, 163) := okl_iload dX13_aWeek_161
theorem t111_163 : e_ok mD111 163 (0, 0, 9, 0, 165) := Or.inl (okc_bipush dX13_aWeek_163 (by decide +kernel))
theorem t111_165 : e_ok mD111 165 (3, 0, 0, 0, 166) := okb_iadd dX13_aWeek_165
theorem t111_166 : e_ok mD111 166 (0, 0, 10, 0, 168) := Or.inl (okc_bipush dX13_aWeek_166 (by decide +kernel))
theorem t111_168 : e_ok mD111 168 (3, 3, 0, 0, 169) := okb_idiv dX13_aWeek_168
theorem t111_169 : e_ok mD111 169 (15, 5, 0, 0, 170) := okm_i2l dX13_aWeek_169
theorem t111_170 : e_ok mD111 170 (15, 2, 0, 0, 171) := okm_lmul dX13_aWeek_170
theorem t111_171 : e_ok mD111 171 (15, 1, 0, 0, 172) := okm_lsub dX13_aWeek_171
theorem t111_172 : e_ok mD111 172 (9, 3, 18, 22, 175) := okw_put dX13_aWeek_172 rfl hin_18 tyX13_ok nmX13 (by decide +kernel) (wg5 189 rfl rfl) rfl rfl (tyX13_ok 22 (by decide +kernel)) (fun V h => fitV_long h)
theorem t111_175 : e_ok mD111 175 (1, 1, 0, 0, 176) := okl_aload_n dX13_aWeek_175 rfl
theorem t111_176 : e_ok mD111 176 (2, 1, 0, 0, 177) := oki_dup dX13_aWeek_176
theorem t111_177 : e_ok mD111 177 (7, 0, 18, 8, 180) := And.intro (okw_get dX13_aWeek_177 rfl hin_18 (by decide +kernel) (wg5 175 rfl rfl) rfl) (okx_none (by decide +kernel) _)
theorem t111_180 : e_ok mD111 180 (0, 0, 1, 0, 181) := Or.inl (okc_iconst dX13_aWeek_180 (by decide +kernel))
theorem t111_181 : e_ok mD111 181 (3, 0, 0, 0, 182) := okb_iadd dX13_aWeek_181
theorem t111_182 : e_ok mD111 182 (9, 0, 18, 8, 185) := okw_put dX13_aWeek_182 rfl hin_18 tyX13_ok nmX13 (by decide +kernel) (wg5 175 rfl rfl) rfl rfl (tyX13_ok 8 (by decide +kernel)) (fun V h => fitV_int h)
theorem t111_185 : e_ok mD111 185 (12, 0, 0, 0, 0) := okr_void dX13_aWeek_185 rfl
theorem t112_0 : e_ok mD112 0 (7, 1, 4, 3, 3) := And.intro (fun X ρ => okw_new dX13_above_0 rfl hin_4 tyJx4a65c_ok (wg5 40 rfl rfl) (wg5 41 rfl rfl) (wg1 14 rfl rfl) rfl) (by decide)
theorem t112_3 : e_ok mD112 3 (2, 1, 0, 0, 4) := oki_dup dX13_above_3
theorem t112_4 : e_ok mD112 4 (11, 1, 179, 1, 7) := And.intro (okm_init (Da := mD179) dX13_above_4 rfl rfl mwc_179 (wg5 42 rfl rfl) mwn_179 mwi_179 rfl mwd_179) (fun h => h.elim nofun nofun)
theorem t112_7 : e_ok mD112 7 (1, 5, 2, 0, 8) := oks_astore_n dX13_above_7 rfl (by decide +kernel)
theorem t112_8 : e_ok mD112 8 (1, 0, 1, 0, 9) := okl_iload_n dX13_above_8 rfl
theorem t112_9 : e_ok mD112 9 (0, 0, 10, 0, 11) := Or.inl (okc_bipush dX13_above_9 (by decide +kernel))
theorem t112_11 : e_ok mD112 11 (3, 4, 0, 0, 12) := okb_irem dX13_above_11
theorem t112_12 : e_ok mD112 12 (1, 4, 3, 0, 13) := oks_istore_n dX13_above_12 rfl (by decide +kernel)
theorem t112_13 : e_ok mD112 13 (1, 0, 3, 0, 14) := okl_iload_n dX13_above_13 rfl
theorem t112_14 : e_ok mD112 14 (0, 0, 1, 0, 15) := Or.inl (okc_iconst dX13_above_14 (by decide +kernel))
theorem t112_15 : e_ok mD112 15 (3, 1, 0, 0, 16) := okb_isub dX13_above_15
theorem t112_16 : e_ok mD112 16 (1, 4, 4, 0, 18) := oks_istore dX13_above_16 (by decide +kernel)
theorem t112_18 : e_ok mD112 18 (1, 0, 4, 0, 20) := okl_iload dX13_above_18
theorem t112_20 : e_ok mD112 20 (1, 0, 3, 0, 21) := okl_iload_n dX13_above_20 rfl
theorem t112_21 : e_ok mD112 21 (0, 0, 1, 0, 22) := Or.inl (okc_iconst dX13_above_21 (by decide +kernel))
theorem t112_22 : e_ok mD112 22 (3, 0, 0, 0, 23) := okb_iadd dX13_above_22
theorem t112_23 : e_ok mD112 23 (6, 4, 105, 0, 26) := okk_gt dX13_above_23 (by decide +kernel)
theorem t112_26 : e_ok mD112 26 (1, 0, 4, 0, 28) := okl_iload dX13_above_26
theorem t112_28 : e_ok mD112 28 (1, 0, 3, 0, 29) := okl_iload_n dX13_above_28 rfl
theorem t112_29 : e_ok mD112 29 (6, 0, 62, 0, 32) := okk_eq dX13_above_29 (by decide +kernel)
theorem t112_32 : e_ok mD112 32 (1, 1, 0, 0, 33) := okl_aload_n dX13_above_32 rfl
theorem t112_33 : e_ok mD112 33 (7, 0, 18, 1, 36) := And.intro (okw_get dX13_above_33 rfl hin_18 (by decide +kernel) (wg5 168 rfl rfl) rfl) (okx_none (by decide +kernel) _)
theorem t112_36 : e_ok mD112 36 (1, 0, 1, 0, 37) := okl_iload_n dX13_above_36 rfl
theorem t112_37 : e_ok mD112 37 (11, 3, 184, 2, 42) := And.intro (okm_iface (ci := 4) (x := ⟨"java/util/List", "get", "(I)Ljava/lang/Object;"⟩) (Da := mD184) rfl dX13_above_37 rfl mwc_184 (wg6 8 rfl rfl) mwn_184 (wg6 11 rfl rfl) mwi_184 (wn6 10 rfl rfl) (wn6 9 rfl rfl) (wn6 14 rfl rfl) (wn6 12 rfl rfl) (wn5 97 rfl rfl) ⟨by decide +kernel, by decide +kernel, by decide +kernel⟩) (fun h => h.elim nofun nofun)
theorem t112_42 : e_ok mD112 42 (7, 2, 15, 0, 45) := okw_cast dX13_above_42 rfl (wg5 69 rfl rfl)
theorem t112_45 : e_ok mD112 45 (7, 0, 15, 0, 48) := And.intro (okw_getN dX13_above_45 rfl hin_15 (by decide +kernel) (wn5 75 rfl rfl) rfl) (okx_none (by decide +kernel) _)
theorem t112_48 : e_ok mD112 48 (5, 1, 66, 0, 51) := okj_ne dX13_above_48 (by decide +kernel)
theorem t112_51 : e_ok mD112 51 (1, 0, 4, 0, 53) := okl_iload dX13_above_51
theorem t112_53 : e_ok mD112 53 (0, 0, 0, 0, 54) := Or.inl (okc_iconst dX13_above_53 (by decide +kernel))
theorem t112_54 : e_ok mD112 54 (0, 0, 9, 0, 56) := Or.inl (okc_bipush dX13_above_54 (by decide +kernel))
theorem t112_56 : e_ok mD112 56 (11, 0, 124, 3, 59) := And.intro (okCallX.M (okx_static (Da := mD124) dX13_above_56 rfl mwc_124 (wg6 4 rfl rfl) mws_124 mwi_124 mwd_124)) (fun _ => okx_static (Da := mD124) dX13_above_56 rfl mwc_124 (wg6 4 rfl rfl) mws_124 mwi_124 mwd_124)
theorem t112_59 : e_ok mD112 59 (5, 0, 66, 0, 62) := okj_eq dX13_above_59 (by decide +kernel)
theorem t112_62 : e_ok mD112 62 (0, 0, 1, 0, 63) := Or.inl (okc_iconst dX13_above_62 (by decide +kernel))
theorem t112_63 : e_ok mD112 63 (2, 4, 0, 0, 67) := oki_goto dX13_above_63 (by decide +kernel)
theorem t112_66 : e_ok mD112 66 (0, 0, 0, 0, 67) := Or.inl (okc_iconst dX13_above_66 (by decide +kernel))
theorem t112_67 : e_ok mD112 67 (1, 4, 5, 0, 69) := oks_istore dX13_above_67 (by decide +kernel)
theorem t112_69 : e_ok mD112 69 (1, 0, 1, 0, 70) := okl_iload_n dX13_above_69 rfl
theorem t112_70 : e_ok mD112 70 (0, 0, 10, 0, 72) := Or.inl (okc_bipush dX13_above_70 (by decide +kernel))
theorem t112_72 : e_ok mD112 72 (6, 2, 99, 0, 75) := okk_lt dX13_above_72 (by decide +kernel)
theorem t112_75 : e_ok mD112 75 (1, 0, 5, 0, 77) := okl_iload dX13_above_75
theorem t112_77 : e_ok mD112 77 (5, 0, 99, 0, 80) := okj_eq dX13_above_77 (by decide +kernel)
theorem t112_80 : e_ok mD112 80 (1, 1, 2, 0, 81) := okl_aload_n dX13_above_80 rfl
theorem t112_81 : e_ok mD112 81 (1, 0, 1, 0, 82) := okl_iload_n dX13_above_81 rfl
theorem t112_82 : e_ok mD112 82 (0, 0, 10, 0, 84) := Or.inl (okc_bipush dX13_above_82 (by decide +kernel))
theorem t112_84 : e_ok mD112 84 (3, 1, 0, 0, 85) := okb_isub dX13_above_84
theorem t112_85 : e_ok mD112 85 (1, 0, 3, 0, 86) := okl_iload_n dX13_above_85 rfl
theorem t112_86 : e_ok mD112 86 (3, 1, 0, 0, 87) := okb_isub dX13_above_86
theorem t112_87 : e_ok mD112 87 (1, 0, 4, 0, 89) := okl_iload dX13_above_87
theorem t112_89 : e_ok mD112 89 (3, 0, 0, 0, 90) := okb_iadd dX13_above_89
theorem t112_90 : e_ok mD112 90 (11, 0, 166, 1, 93) := And.intro (okCallX.M (okx_static (Da := mD166) dX13_above_90 rfl mwc_166 (wg6 189 rfl rfl) mws_166 mwi_166 mwd_166)) (fun _ => okx_static (Da := mD166) dX13_above_90 rfl mwc_166 (wg6 189 rfl rfl) mws_166 mwi_166 mwd_166)
theorem t112_93 : e_ok mD112 93 (11, 3, 180, 2, 98) := And.intro (okm_iface (ci := 4) (x := ⟨"java/util/List", "add", "(Ljava/lang/Object;)Z"⟩) (Da := mD180) rfl dX13_above_93 rfl mwc_180 (wg5 94 rfl rfl) mwn_180 (wg5 98 rfl rfl) mwi_180 (wn5 96 rfl rfl) (wn5 95 rfl rfl) (wn5 101 rfl rfl) (wn5 99 rfl rfl) (wn5 97 rfl rfl) ⟨by decide +kernel, by decide +kernel, by decide +kernel⟩) (fun h => h.elim nofun nofun)
theorem t112_98 : e_ok mD112 98 (2, 2, 0, 0, 99) := oki_pop dX13_above_98
theorem t112_99 : e_ok mD112 99 (2, 0, 4, 1, 102) := oki_iinc dX13_above_99 (by decide +kernel) (by decide +kernel)
theorem t112_102 : e_ok mD112 102 (2, 4, 0, 0, 18) := oki_goto dX13_above_102 (by decide +kernel)
theorem t112_105 : e_ok mD112 105 (1, 1, 2, 0, 106) := okl_aload_n dX13_above_105 rfl
theorem t112_106 : e_ok mD112 106 (12, 4, 0, 0, 0) := okr_ref dX13_above_106 rfl (Or.inl ⟨_, rfl⟩)
theorem t113_0 : e_ok mD113 0 (1, 1, 0, 0, 1) := okl_aload_n dX13_clearPhases_0 rfl
theorem t113_1 : e_ok mD113 1 (0, 0, 0, 0, 2) := Or.inl (okc_iconst dX13_clearPhases_1 (by decide +kernel))
theorem t113_2 : e_ok mD113 2 (9, 0, 18, 0, 5) := okw_put dX13_clearPhases_2 rfl hin_18 tyX13_ok nmX13 (by decide +kernel) (wg5 166 rfl rfl) rfl rfl (tyX13_ok 0 (by decide +kernel)) (fun V h => fitV_int h)
theorem t113_5 : e_ok mD113 5 (1, 1, 0, 0, 6) := okl_aload_n dX13_clearPhases_5 rfl
theorem t113_6 : e_ok mD113 6 (7, 0, 18, 3, 9) := And.intro (okw_get dX13_clearPhases_6 rfl hin_18 (by decide +kernel) (wg5 170 rfl rfl) rfl) (okx_none (by decide +kernel) _)
theorem t113_9 : e_ok mD113 9 (11, 3, 189, 1, 14) := And.intro (okm_iface (ci := 4) (x := ⟨"java/util/List", "size", "()I"⟩) (Da := mD189) rfl dX13_clearPhases_9 rfl mwc_189 (wg6 35 rfl rfl) mwn_189 (wg6 38 rfl rfl) mwi_189 (wn6 37 rfl rfl) (wn6 36 rfl rfl) (wn6 41 rfl rfl) (wn6 39 rfl rfl) (wn5 97 rfl rfl) ⟨by decide +kernel, by decide +kernel, by decide +kernel⟩) (fun h => h.elim nofun nofun)
theorem t113_14 : e_ok mD113 14 (1, 4, 1, 0, 15) := oks_istore_n dX13_clearPhases_14 rfl (by decide +kernel)
theorem t113_15 : e_ok mD113 15 (1, 1, 0, 0, 16) := okl_aload_n dX13_clearPhases_15 rfl
theorem t113_16 : e_ok mD113 16 (7, 0, 18, 3, 19) := And.intro (okw_get dX13_clearPhases_16 rfl hin_18 (by decide +kernel) (wg5 170 rfl rfl) rfl) (okx_none (by decide +kernel) _)
theorem t113_19 : e_ok mD113 19 (11, 3, 182, 1, 24) := And.intro (okm_iface (ci := 4) (x := ⟨"java/util/List", "clear", "()V"⟩) (Da := mD182) rfl dX13_clearPhases_19 rfl mwc_182 (wg7 43 rfl rfl) mwn_182 (wg7 46 rfl rfl) mwi_182 (wn7 45 rfl rfl) (wn7 44 rfl rfl) (wn7 49 rfl rfl) (wn7 47 rfl rfl) (wn5 97 rfl rfl) ⟨by decide +kernel, by decide +kernel, by decide +kernel⟩) (fun h => h.elim nofun nofun)
theorem t113_24 : e_ok mD113 24 (1, 0, 1, 0, 25) := okl_iload_n dX13_clearPhases_24 rfl
theorem t113_25 : e_ok mD113 25 (12, 1, 0, 0, 0) := okr_int dX13_clearPhases_25 rfl
theorem t114_0 : e_ok mD114 0 (0, 0, 30, 0, 2) := Or.inl (okc_bipush dX13_digging_0 (by decide +kernel))
theorem t114_2 : e_ok mD114 2 (0, 0, 10, 0, 4) := Or.inl (okc_bipush dX13_digging_2 (by decide +kernel))
theorem t114_4 : e_ok mD114 4 (1, 0, 0, 0, 5) := okl_iload_n dX13_digging_4 rfl
theorem t114_5 : e_ok mD114 5 (0, 0, 10, 0, 7) := Or.inl (okc_bipush dX13_digging_5 (by decide +kernel))
theorem t114_7 : e_ok mD114 7 (3, 3, 0, 0, 8) := okb_idiv dX13_digging_7
theorem t114_8 : e_ok mD114 8 (3, 2, 0, 0, 9) := okb_imul dX13_digging_8
theorem t114_9 : e_ok mD114 9 (3, 0, 0, 0, 10) := okb_iadd dX13_digging_9
theorem t114_10 : e_ok mD114 10 (12, 1, 0, 0, 0) := okr_int dX13_digging_10 rfl
theorem t115_0 : e_ok mD115 0 (0, 0, 0, 0, 1) := Or.inl (okc_iconst dX13_dug_0 (by decide +kernel))
theorem t115_1 : e_ok mD115 1 (1, 4, 1, 0, 2) := oks_istore_n dX13_dug_1 rfl (by decide +kernel)
theorem t115_2 : e_ok mD115 2 (1, 1, 0, 0, 3) := okl_aload_n dX13_dug_2 rfl
theorem t115_3 : e_ok mD115 3 (7, 0, 18, 1, 6) := And.intro (okw_get dX13_dug_3 rfl hin_18 (by decide +kernel) (wg5 168 rfl rfl) rfl) (okx_none (by decide +kernel) _)
theorem t115_6 : e_ok mD115 6 (11, 3, 188, 1, 11) := And.intro (okm_iface (ci := 4) (x := ⟨"java/util/List", "iterator", "()Ljava/util/Iterator;"⟩) (Da := mD188) rfl dX13_dug_6 rfl mwc_188 (wg6 71 rfl rfl) mwn_188 (wg6 74 rfl rfl) mwi_188 (wn6 73 rfl rfl) (wn6 72 rfl rfl) (wn6 77 rfl rfl) (wn6 75 rfl rfl) (wn5 97 rfl rfl) ⟨by decide +kernel, by decide +kernel, by decide +kernel⟩) (fun h => h.elim nofun nofun)
theorem t115_11 : e_ok mD115 11 (1, 5, 2, 0, 12) := oks_astore_n dX13_dug_11 rfl (by decide +kernel)
theorem t115_12 : e_ok mD115 12 (1, 1, 2, 0, 13) := okl_aload_n dX13_dug_12 rfl
theorem t115_13 : e_ok mD115 13 (11, 3, 192, 1, 18) := And.intro (okm_iface (ci := 3) (x := ⟨"java/util/Iterator", "hasNext", "()Z"⟩) (Da := mD192) rfl dX13_dug_13 rfl mwc_192 (wg6 99 rfl rfl) mwn_192 (wg6 103 rfl rfl) mwi_192 (wn6 101 rfl rfl) (wn6 100 rfl rfl) (wn6 106 rfl rfl) (wn6 104 rfl rfl) (wn6 102 rfl rfl) ⟨by decide +kernel, by decide +kernel, by decide +kernel⟩) (fun h => h.elim nofun nofun)
theorem t115_18 : e_ok mD115 18 (5, 0, 49, 0, 21) := okj_eq dX13_dug_18 (by decide +kernel)
theorem t115_21 : e_ok mD115 21 (1, 1, 2, 0, 22) := okl_aload_n dX13_dug_21 rfl
theorem t115_22 : e_ok mD115 22 (11, 3, 193, 1, 27) := And.intro (okm_iface (ci := 3) (x := ⟨"java/util/Iterator", "next", "()Ljava/lang/Object;"⟩) (Da := mD193) rfl dX13_dug_22 rfl mwc_193 (wg6 109 rfl rfl) mwn_193 (wg6 112 rfl rfl) mwi_193 (wn6 111 rfl rfl) (wn6 110 rfl rfl) (wn6 115 rfl rfl) (wn6 113 rfl rfl) (wn6 102 rfl rfl) ⟨by decide +kernel, by decide +kernel, by decide +kernel⟩) (fun h => h.elim nofun nofun)
theorem t115_27 : e_ok mD115 27 (7, 2, 15, 0, 30) := okw_cast dX13_dug_27 rfl (wg5 69 rfl rfl)
theorem t115_30 : e_ok mD115 30 (1, 5, 3, 0, 31) := oks_astore_n dX13_dug_30 rfl (by decide +kernel)
theorem t115_31 : e_ok mD115 31 (1, 0, 1, 0, 32) := okl_iload_n dX13_dug_31 rfl
theorem t115_32 : e_ok mD115 32 (1, 1, 3, 0, 33) := okl_aload_n dX13_dug_32 rfl
theorem t115_33 : e_ok mD115 33 (7, 0, 15, 1, 36) := And.intro (okw_getN dX13_dug_33 rfl hin_15 (by decide +kernel) (wn5 77 rfl rfl) rfl) (okx_none (by decide +kernel) _)
theorem t115_36 : e_ok mD115 36 (5, 0, 43, 0, 39) := okj_eq dX13_dug_36 (by decide +kernel)
theorem t115_39 : e_ok mD115 39 (0, 0, 1, 0, 40) := Or.inl (okc_iconst dX13_dug_39 (by decide +kernel))
theorem t115_40 : e_ok mD115 40 (2, 4, 0, 0, 44) := oki_goto dX13_dug_40 (by decide +kernel)
theorem t115_43 : e_ok mD115 43 (0, 0, 0, 0, 44) := Or.inl (okc_iconst dX13_dug_43 (by decide +kernel))
theorem t115_44 : e_ok mD115 44 (3, 0, 0, 0, 45) := okb_iadd dX13_dug_44
theorem t115_45 : e_ok mD115 45 (1, 4, 1, 0, 46) := oks_istore_n dX13_dug_45 rfl (by decide +kernel)
theorem t115_46 : e_ok mD115 46 (2, 4, 0, 0, 12) := oki_goto dX13_dug_46 (by decide +kernel)
theorem t115_49 : e_ok mD115 49 (1, 0, 1, 0, 50) := okl_iload_n dX13_dug_49 rfl
theorem t115_50 : e_ok mD115 50 (12, 1, 0, 0, 0) := okr_int dX13_dug_50 rfl
theorem t116_0 : e_ok mD116 0 (1, 1, 0, 0, 1) := okl_aload_n dX13_dugIn_0 rfl
theorem t116_1 : e_ok mD116 1 (1, 0, 1, 0, 2) := okl_iload_n dX13_dugIn_1 rfl
theorem t116_2 : e_ok mD116 2 (11, 2, 129, 2, 5) := And.intro (okCallX.M (okx_virtual (Da := mD129) dX13_dugIn_2 rfl mwc_129 (wg7 225 rfl rfl) mwn_129 mwv_129 mwi_129 mwd_129)) (fun _ => okx_virtual (Da := mD129) dX13_dugIn_2 rfl mwc_129 (wg7 225 rfl rfl) mwn_129 mwv_129 mwi_129 mwd_129)
theorem t116_5 : e_ok mD116 5 (5, 0, 12, 0, 8) := okj_eq dX13_dugIn_5 (by decide +kernel)
theorem t116_8 : e_ok mD116 8 (0, 0, 0, 0, 9) := Or.inl (okc_iconst dX13_dugIn_8 (by decide +kernel))
theorem t116_9 : e_ok mD116 9 (2, 4, 0, 0, 28) := oki_goto dX13_dugIn_9 (by decide +kernel)
theorem t116_12 : e_ok mD116 12 (1, 1, 0, 0, 13) := okl_aload_n dX13_dugIn_12 rfl
theorem t116_13 : e_ok mD116 13 (7, 0, 18, 1, 16) := And.intro (okw_get dX13_dugIn_13 rfl hin_18 (by decide +kernel) (wg5 168 rfl rfl) rfl) (okx_none (by decide +kernel) _)
theorem t116_16 : e_ok mD116 16 (1, 0, 1, 0, 17) := okl_iload_n dX13_dugIn_16 rfl
theorem t116_17 : e_ok mD116 17 (11, 3, 184, 2, 22) := And.intro (okm_iface (ci := 4) (x := ⟨"java/util/List", "get", "(I)Ljava/lang/Object;"⟩) (Da := mD184) rfl dX13_dugIn_17 rfl mwc_184 (wg6 8 rfl rfl) mwn_184 (wg6 11 rfl rfl) mwi_184 (wn6 10 rfl rfl) (wn6 9 rfl rfl) (wn6 14 rfl rfl) (wn6 12 rfl rfl) (wn5 97 rfl rfl) ⟨by decide +kernel, by decide +kernel, by decide +kernel⟩) (fun h => h.elim nofun nofun)
theorem t116_22 : e_ok mD116 22 (7, 2, 15, 0, 25) := okw_cast dX13_dugIn_22 rfl (wg5 69 rfl rfl)
theorem t116_25 : e_ok mD116 25 (7, 0, 15, 3, 28) := And.intro (okw_getN dX13_dugIn_25 rfl hin_15 (by decide +kernel) (wn5 80 rfl rfl) rfl) (okx_none (by decide +kernel) _)
theorem t116_28 : e_ok mD116 28 (12, 1, 0, 0, 0) := okr_int dX13_dugIn_28 rfl
theorem t117_0 : e_ok mD117 0 (1, 1, 0, 0, 1) := okl_aload_n dX13_dugShare_0 rfl
theorem t117_1 : e_ok mD117 1 (0, 0, 0, 0, 2) := Or.inl (okc_iconst dX13_dugShare_1 (by decide +kernel))
theorem t117_2 : e_ok mD117 2 (9, 0, 18, 0, 5) := okw_put dX13_dugShare_2 rfl hin_18 tyX13_ok nmX13 (by decide +kernel) (wg5 166 rfl rfl) rfl rfl (tyX13_ok 0 (by decide +kernel)) (fun V h => fitV_int h)
theorem t117_5 : e_ok mD117 5 (1, 1, 0, 0, 6) := okl_aload_n dX13_dugShare_5 rfl
theorem t117_6 : e_ok mD117 6 (11, 2, 115, 1, 9) := And.intro (okCallX.M (okx_virtual (Da := mD115) dX13_dugShare_6 rfl mwc_115 (wg7 159 rfl rfl) mwn_115 mwv_115 mwi_115 mwd_115)) (fun _ => okx_virtual (Da := mD115) dX13_dugShare_6 rfl mwc_115 (wg7 159 rfl rfl) mwn_115 mwv_115 mwi_115 mwd_115)
theorem t117_9 : e_ok mD117 9 (15, 6, 0, 0, 10) := okm_i2f dX13_dugShare_9
theorem t117_10 : e_ok mD117 10 (0, 3, 1114636288, 0, 13) := okc_ldcfw dX13_dugShare_10 (wg8 33 rfl rfl)
theorem t117_13 : e_ok mD117 13 (15, 7, 0, 0, 14) := okm_fdiv dX13_dugShare_13
theorem t117_14 : e_ok mD117 14 (12, 5, 0, 0, 0) := okr_float dX13_dugShare_14 rfl
theorem t118_0 : e_ok mD118 0 (1, 1, 0, 0, 1) := okl_aload_n dX13_factor_0 rfl
theorem t118_1 : e_ok mD118 1 (1, 1, 0, 0, 2) := okl_aload_n dX13_factor_1 rfl
theorem t118_2 : e_ok mD118 2 (7, 0, 18, 12, 5) := And.intro (okw_get dX13_factor_2 rfl hin_18 (by decide +kernel) (wg5 179 rfl rfl) rfl) (okx_none (by decide +kernel) _)
theorem t118_5 : e_ok mD118 5 (5, 1, 12, 0, 8) := okj_ne dX13_factor_5 (by decide +kernel)
theorem t118_8 : e_ok mD118 8 (0, 0, 1, 0, 9) := Or.inl (okc_iconst dX13_factor_8 (by decide +kernel))
theorem t118_9 : e_ok mD118 9 (2, 4, 0, 0, 13) := oki_goto dX13_factor_9 (by decide +kernel)
theorem t118_12 : e_ok mD118 12 (0, 0, 0, 0, 13) := Or.inl (okc_iconst dX13_factor_12 (by decide +kernel))
theorem t118_13 : e_ok mD118 13 (11, 2, 131, 2, 16) := And.intro (okCallX.M (okx_virtual (Da := mD131) dX13_factor_13 rfl mwc_131 (wg6 26 rfl rfl) mwn_131 mwv_131 mwi_131 mwd_131)) (fun _ => okx_virtual (Da := mD131) dX13_factor_13 rfl mwc_131 (wg6 26 rfl rfl) mwn_131 mwv_131 mwi_131 mwd_131)
theorem t118_16 : e_ok mD118 16 (5, 0, 23, 0, 19) := okj_eq dX13_factor_16 (by decide +kernel)
theorem t118_19 : e_ok mD118 19 (0, 0, 0, 0, 20) := Or.inl (okc_iconst dX13_factor_19 (by decide +kernel))
theorem t118_20 : e_ok mD118 20 (2, 4, 0, 0, 35) := oki_goto dX13_factor_20 (by decide +kernel)
theorem t118_23 : e_ok mD118 23 (0, 0, 100, 0, 25) := Or.inl (okc_bipush dX13_factor_23 (by decide +kernel))
theorem t118_25 : e_ok mD118 25 (1, 1, 0, 0, 26) := okl_aload_n dX13_factor_25 rfl
theorem t118_26 : e_ok mD118 26 (7, 0, 18, 11, 29) := And.intro (okw_get dX13_factor_26 rfl hin_18 (by decide +kernel) (wg5 178 rfl rfl) rfl) (okx_none (by decide +kernel) _)
theorem t118_29 : e_ok mD118 29 (3, 2, 0, 0, 30) := okb_imul dX13_factor_29
theorem t118_30 : e_ok mD118 30 (1, 1, 0, 0, 31) := okl_aload_n dX13_factor_30 rfl
theorem t118_31 : e_ok mD118 31 (7, 0, 18, 12, 34) := And.intro (okw_get dX13_factor_31 rfl hin_18 (by decide +kernel) (wg5 179 rfl rfl) rfl) (okx_none (by decide +kernel) _)
theorem t118_34 : e_ok mD118 34 (3, 3, 0, 0, 35) := okb_idiv dX13_factor_34
theorem t118_35 : e_ok mD118 35 (12, 1, 0, 0, 0) := okr_int dX13_factor_35 rfl
theorem t119_0 : e_ok mD119 0 (0, 0, 4294967295, 0, 1) := Or.inl (okc_iconst dX13_flooded_0 (by decide +kernel))
theorem t119_1 : e_ok mD119 1 (1, 4, 1, 0, 2) := oks_istore_n dX13_flooded_1 rfl (by decide +kernel)
theorem t119_2 : e_ok mD119 2 (0, 0, 0, 0, 3) := Or.inl (okc_iconst dX13_flooded_2 (by decide +kernel))
theorem t119_3 : e_ok mD119 3 (1, 4, 2, 0, 4) := oks_istore_n dX13_flooded_3 rfl (by decide +kernel)
theorem t119_4 : e_ok mD119 4 (1, 0, 2, 0, 5) := okl_iload_n dX13_flooded_4 rfl
theorem t119_5 : e_ok mD119 5 (0, 0, 60, 0, 7) := Or.inl (okc_bipush dX13_flooded_5 (by decide +kernel))
theorem t119_7 : e_ok mD119 7 (6, 3, 44, 0, 10) := okk_ge dX13_flooded_7 (by decide +kernel)
theorem t119_10 : e_ok mD119 10 (1, 1, 0, 0, 11) := okl_aload_n dX13_flooded_10 rfl
theorem t119_11 : e_ok mD119 11 (7, 0, 18, 1, 14) := And.intro (okw_get dX13_flooded_11 rfl hin_18 (by decide +kernel) (wg5 168 rfl rfl) rfl) (okx_none (by decide +kernel) _)
theorem t119_14 : e_ok mD119 14 (1, 0, 2, 0, 15) := okl_iload_n dX13_flooded_14 rfl
theorem t119_15 : e_ok mD119 15 (11, 3, 184, 2, 20) := And.intro (okm_iface (ci := 4) (x := ⟨"java/util/List", "get", "(I)Ljava/lang/Object;"⟩) (Da := mD184) rfl dX13_flooded_15 rfl mwc_184 (wg6 8 rfl rfl) mwn_184 (wg6 11 rfl rfl) mwi_184 (wn6 10 rfl rfl) (wn6 9 rfl rfl) (wn6 14 rfl rfl) (wn6 12 rfl rfl) (wn5 97 rfl rfl) ⟨by decide +kernel, by decide +kernel, by decide +kernel⟩) (fun h => h.elim nofun nofun)
theorem t119_20 : e_ok mD119 20 (7, 2, 15, 0, 23) := okw_cast dX13_flooded_20 rfl (wg5 69 rfl rfl)
theorem t119_23 : e_ok mD119 23 (7, 0, 15, 1, 26) := And.intro (okw_getN dX13_flooded_23 rfl hin_15 (by decide +kernel) (wn5 77 rfl rfl) rfl) (okx_none (by decide +kernel) _)
theorem t119_26 : e_ok mD119 26 (5, 0, 36, 0, 29) := okj_eq dX13_flooded_26 (by decide +kernel)
theorem t119_29 : e_ok mD119 29 (1, 0, 2, 0, 30) := okl_iload_n dX13_flooded_29 rfl
theorem t119_30 : e_ok mD119 30 (0, 0, 10, 0, 32) := Or.inl (okc_bipush dX13_flooded_30 (by decide +kernel))
theorem t119_32 : e_ok mD119 32 (3, 3, 0, 0, 33) := okb_idiv dX13_flooded_32
theorem t119_33 : e_ok mD119 33 (2, 4, 0, 0, 37) := oki_goto dX13_flooded_33 (by decide +kernel)
theorem t119_36 : e_ok mD119 36 (1, 0, 1, 0, 37) := okl_iload_n dX13_flooded_36 rfl
theorem t119_37 : e_ok mD119 37 (1, 4, 1, 0, 38) := oks_istore_n dX13_flooded_37 rfl (by decide +kernel)
theorem t119_38 : e_ok mD119 38 (2, 0, 2, 1, 41) := oki_iinc dX13_flooded_38 (by decide +kernel) (by decide +kernel)
theorem t119_41 : e_ok mD119 41 (2, 4, 0, 0, 4) := oki_goto dX13_flooded_41 (by decide +kernel)
theorem t119_44 : e_ok mD119 44 (1, 1, 0, 0, 45) := okl_aload_n dX13_flooded_44 rfl
theorem t119_45 : e_ok mD119 45 (7, 0, 18, 9, 48) := And.intro (okw_get dX13_flooded_45 rfl hin_18 (by decide +kernel) (wg5 176 rfl rfl) rfl) (okx_none (by decide +kernel) _)
theorem t119_48 : e_ok mD119 48 (0, 0, 50, 0, 50) := Or.inl (okc_bipush dX13_flooded_48 (by decide +kernel))
theorem t119_50 : e_ok mD119 50 (6, 5, 65, 0, 53) := okk_le dX13_flooded_50 (by decide +kernel)
theorem t119_53 : e_ok mD119 53 (1, 0, 1, 0, 54) := okl_iload_n dX13_flooded_53 rfl
theorem t119_54 : e_ok mD119 54 (5, 2, 65, 0, 57) := okj_lt dX13_flooded_54 (by decide +kernel)
theorem t119_57 : e_ok mD119 57 (0, 0, 1, 0, 58) := Or.inl (okc_iconst dX13_flooded_57 (by decide +kernel))
theorem t119_58 : e_ok mD119 58 (1, 0, 1, 0, 59) := okl_iload_n dX13_flooded_58 rfl
theorem t119_59 : e_ok mD119 59 (11, 0, 167, 2, 62) := And.intro (okCallX.M (okx_static (Da := mD167) dX13_flooded_59 rfl mwc_167 (wg6 173 rfl rfl) mws_167 mwi_167 mwd_167)) (fun _ => okx_static (Da := mD167) dX13_flooded_59 rfl mwc_167 (wg6 173 rfl rfl) mws_167 mwi_167 mwd_167)
theorem t119_62 : e_ok mD119 62 (2, 4, 0, 0, 67) := oki_goto dX13_flooded_62 (by decide +kernel)
theorem t119_65 : e_ok mD119 65 (0, 0, 6, 0, 67) := Or.inl (okc_bipush dX13_flooded_65 (by decide +kernel))
theorem t119_67 : e_ok mD119 67 (12, 1, 0, 0, 0) := okr_int dX13_flooded_67 rfl
theorem t120_0 : e_ok mD120 0 (1, 1, 0, 0, 1) := okl_aload_n dX13_goOn_0 rfl
theorem t120_1 : e_ok mD120 1 (1, 0, 1, 0, 2) := okl_iload_n dX13_goOn_1 rfl
theorem t120_2 : e_ok mD120 2 (0, 0, 1, 0, 3) := Or.inl (okc_iconst dX13_goOn_2 (by decide +kernel))
theorem t120_3 : e_ok mD120 3 (0, 0, 20, 0, 5) := Or.inl (okc_bipush dX13_goOn_3 (by decide +kernel))
theorem t120_5 : e_ok mD120 5 (11, 0, 124, 3, 8) := And.intro (okCallX.M (okx_static (Da := mD124) dX13_goOn_5 rfl mwc_124 (wg6 4 rfl rfl) mws_124 mwi_124 mwd_124)) (fun _ => okx_static (Da := mD124) dX13_goOn_5 rfl mwc_124 (wg6 4 rfl rfl) mws_124 mwi_124 mwd_124)
theorem t120_8 : e_ok mD120 8 (5, 0, 15, 0, 11) := okj_eq dX13_goOn_8 (by decide +kernel)
theorem t120_11 : e_ok mD120 11 (0, 0, 0, 0, 12) := Or.inl (okc_iconst dX13_goOn_11 (by decide +kernel))
theorem t120_12 : e_ok mD120 12 (2, 4, 0, 0, 16) := oki_goto dX13_goOn_12 (by decide +kernel)
theorem t120_15 : e_ok mD120 15 (0, 0, 1, 0, 16) := Or.inl (okc_iconst dX13_goOn_15 (by decide +kernel))
theorem t120_16 : e_ok mD120 16 (11, 2, 131, 2, 19) := And.intro (okCallX.M (okx_virtual (Da := mD131) dX13_goOn_16 rfl mwc_131 (wg6 26 rfl rfl) mwn_131 mwv_131 mwi_131 mwd_131)) (fun _ => okx_virtual (Da := mD131) dX13_goOn_16 rfl mwc_131 (wg6 26 rfl rfl) mwn_131 mwv_131 mwi_131 mwd_131)
theorem t120_19 : e_ok mD120 19 (5, 0, 24, 0, 22) := okj_eq dX13_goOn_19 (by decide +kernel)
theorem t120_22 : e_ok mD120 22 (0, 0, 0, 0, 23) := Or.inl (okc_iconst dX13_goOn_22 (by decide +kernel))
theorem t120_23 : e_ok mD120 23 (12, 1, 0, 0, 0) := okr_int dX13_goOn_23 rfl
theorem t120_24 : e_ok mD120 24 (1, 1, 0, 0, 25) := okl_aload_n dX13_goOn_24 rfl
theorem t120_25 : e_ok mD120 25 (11, 2, 115, 1, 28) := And.intro (okCallX.M (okx_virtual (Da := mD115) dX13_goOn_25 rfl mwc_115 (wg7 159 rfl rfl) mwn_115 mwv_115 mwi_115 mwd_115)) (fun _ => okx_virtual (Da := mD115) dX13_goOn_25 rfl mwc_115 (wg7 159 rfl rfl) mwn_115 mwv_115 mwi_115 mwd_115)
theorem t120_28 : e_ok mD120 28 (1, 4, 2, 0, 29) := oks_istore_n dX13_goOn_28 rfl (by decide +kernel)
theorem t120_29 : e_ok mD120 29 (0, 0, 0, 0, 30) := Or.inl (okc_iconst dX13_goOn_29 (by decide +kernel))
theorem t120_30 : e_ok mD120 30 (1, 4, 3, 0, 31) := oks_istore_n dX13_goOn_30 rfl (by decide +kernel)
theorem t120_31 : e_ok mD120 31 (1, 0, 3, 0, 32) := okl_iload_n dX13_goOn_31 rfl
theorem t120_32 : e_ok mD120 32 (1, 0, 1, 0, 33) := okl_iload_n dX13_goOn_32 rfl
theorem t120_33 : e_ok mD120 33 (6, 3, 46, 0, 36) := okk_ge dX13_goOn_33 (by decide +kernel)
theorem t120_36 : e_ok mD120 36 (1, 1, 0, 0, 37) := okl_aload_n dX13_goOn_36 rfl
theorem t120_37 : e_ok mD120 37 (11, 2, 111, 1, 40) := And.intro (okCallX.M (okx_virtual (Da := mD111) dX13_goOn_37 rfl mwc_111 (wg7 163 rfl rfl) mwn_111 mwv_111 mwi_111 mwd_111)) (fun _ => okx_virtual (Da := mD111) dX13_goOn_37 rfl mwc_111 (wg7 163 rfl rfl) mwn_111 mwv_111 mwi_111 mwd_111)
theorem t120_40 : e_ok mD120 40 (2, 0, 3, 1, 43) := oki_iinc dX13_goOn_40 (by decide +kernel) (by decide +kernel)
theorem t120_43 : e_ok mD120 43 (2, 4, 0, 0, 31) := oki_goto dX13_goOn_43 (by decide +kernel)
theorem t120_46 : e_ok mD120 46 (1, 1, 0, 0, 47) := okl_aload_n dX13_goOn_46 rfl
theorem t120_47 : e_ok mD120 47 (11, 2, 115, 1, 50) := And.intro (okCallX.M (okx_virtual (Da := mD115) dX13_goOn_47 rfl mwc_115 (wg7 159 rfl rfl) mwn_115 mwv_115 mwi_115 mwd_115)) (fun _ => okx_virtual (Da := mD115) dX13_goOn_47 rfl mwc_115 (wg7 159 rfl rfl) mwn_115 mwv_115 mwi_115 mwd_115)
theorem t120_50 : e_ok mD120 50 (1, 0, 2, 0, 51) := okl_iload_n dX13_goOn_50 rfl
theorem t120_51 : e_ok mD120 51 (3, 1, 0, 0, 52) := okb_isub dX13_goOn_51
theorem t120_52 : e_ok mD120 52 (12, 1, 0, 0, 0) := okr_int dX13_goOn_52 rfl
