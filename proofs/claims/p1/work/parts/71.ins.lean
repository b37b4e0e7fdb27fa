/-! every entry of the tables -/
theorem t0_0 : e_ok mD0 0 (1, 1, 0, 0, 1) := okl_aload_n dX9_init_0 rfl
theorem t0_1 : e_ok mD0 1 (7, 4, 0, 0, 4) := okw_obj dX9_init_1 (wg1 49 rfl rfl) w_obj1 w_obj2
theorem t0_4 : e_ok mD0 4 (1, 1, 0, 0, 5) := okl_aload_n dX9_init_4 rfl
theorem t0_5 : e_ok mD0 5 (7, 1, 6, 4, 8) := And.intro (fun X ρ => okw_new dX9_init_5 rfl hin_6 tyX1_ok (wg1 52 rfl rfl) (wg1 53 rfl rfl) (wg1 2 rfl rfl) rfl) (by decide)
theorem t0_8 : e_ok mD0 8 (2, 1, 0, 0, 9) := oki_dup dX9_init_8
theorem t0_9 : e_ok mD0 9 (11, 1, 46, 1, 12) := And.intro (okm_initN (Da := mD46) dX9_init_9 rfl rfl mwc_46 (wn1 54 rfl rfl) mwn_46 mwi_46 rfl mwd_46) (fun h => h.elim nofun nofun)
theorem t0_12 : e_ok mD0 12 (9, 7, 14, 0, 15) := okw_putF dX9_init_12 rfl hin_14 tyX9_ok nmX9 (by decide +kernel) (wg2 42 rfl rfl) rfl rfl rfl rfl (tyX9_ok 0 (by decide +kernel)) (fun V h => fitV_obj h)
theorem t0_15 : e_ok mD0 15 (1, 1, 0, 0, 16) := okl_aload_n dX9_init_15 rfl
theorem t0_16 : e_ok mD0 16 (7, 1, 8, 4, 19) := And.intro (fun X ρ => okw_new dX9_init_16 rfl hin_8 tyX3_ok (wg1 74 rfl rfl) (wg1 75 rfl rfl) (wg1 3 rfl rfl) rfl) (by decide)
theorem t0_19 : e_ok mD0 19 (2, 1, 0, 0, 20) := oki_dup dX9_init_19
theorem t0_20 : e_ok mD0 20 (11, 1, 60, 1, 23) := And.intro (okm_initN (Da := mD60) dX9_init_20 rfl rfl mwc_60 (wn1 76 rfl rfl) mwn_60 mwi_60 rfl mwd_60) (fun h => h.elim nofun nofun)
theorem t0_23 : e_ok mD0 23 (9, 7, 14, 1, 26) := okw_putF dX9_init_23 rfl hin_14 tyX9_ok nmX9 (by decide +kernel) (wg2 43 rfl rfl) rfl rfl rfl rfl (tyX9_ok 1 (by decide +kernel)) (fun V h => fitV_obj h)
theorem t0_26 : e_ok mD0 26 (1, 1, 0, 0, 27) := okl_aload_n dX9_init_26 rfl
theorem t0_27 : e_ok mD0 27 (7, 1, 11, 10, 30) := And.intro (fun X ρ => okw_new dX9_init_27 rfl hin_11 tyX6_ok (wg1 94 rfl rfl) (wg1 95 rfl rfl) (wg1 4 rfl rfl) rfl) (by decide)
theorem t0_30 : e_ok mD0 30 (2, 1, 0, 0, 31) := oki_dup dX9_init_30
theorem t0_31 : e_ok mD0 31 (1, 1, 0, 0, 32) := okl_aload_n dX9_init_31 rfl
theorem t0_32 : e_ok mD0 32 (7, 0, 14, 0, 35) := And.intro (okw_get dX9_init_32 rfl hin_14 (by decide +kernel) (wg2 42 rfl rfl) rfl) (okx_none (by decide +kernel) _)
theorem t0_35 : e_ok mD0 35 (1, 1, 0, 0, 36) := okl_aload_n dX9_init_35 rfl
theorem t0_36 : e_ok mD0 36 (7, 0, 14, 1, 39) := And.intro (okw_get dX9_init_36 rfl hin_14 (by decide +kernel) (wg2 43 rfl rfl) rfl) (okx_none (by decide +kernel) _)
theorem t0_39 : e_ok mD0 39 (11, 1, 79, 3, 42) := And.intro (okm_init (Da := mD79) dX9_init_39 rfl rfl mwc_79 (wg1 96 rfl rfl) mwn_79 mwi_79 rfl mwd_79) (fun h => h.elim nofun nofun)
theorem t0_42 : e_ok mD0 42 (9, 7, 14, 2, 45) := okw_putF dX9_init_42 rfl hin_14 tyX9_ok nmX9 (by decide +kernel) (wg2 44 rfl rfl) rfl rfl rfl rfl (tyX9_ok 2 (by decide +kernel)) (fun V h => fitV_obj h)
theorem t0_45 : e_ok mD0 45 (1, 1, 0, 0, 46) := okl_aload_n dX9_init_45 rfl
theorem t0_46 : e_ok mD0 46 (7, 1, 9, 6, 49) := And.intro (fun X ρ => okw_new dX9_init_46 rfl hin_9 tyX4_ok (wg1 135 rfl rfl) (wg1 136 rfl rfl) (wg1 5 rfl rfl) rfl) (by decide)
theorem t0_49 : e_ok mD0 49 (2, 1, 0, 0, 50) := oki_dup dX9_init_49
theorem t0_50 : e_ok mD0 50 (1, 1, 0, 0, 51) := okl_aload_n dX9_init_50 rfl
theorem t0_51 : e_ok mD0 51 (7, 0, 14, 0, 54) := And.intro (okw_get dX9_init_51 rfl hin_14 (by decide +kernel) (wg2 42 rfl rfl) rfl) (okx_none (by decide +kernel) _)
theorem t0_54 : e_ok mD0 54 (1, 1, 0, 0, 55) := okl_aload_n dX9_init_54 rfl
theorem t0_55 : e_ok mD0 55 (7, 0, 14, 2, 58) := And.intro (okw_get dX9_init_55 rfl hin_14 (by decide +kernel) (wg2 44 rfl rfl) rfl) (okx_none (by decide +kernel) _)
theorem t0_58 : e_ok mD0 58 (11, 1, 68, 3, 61) := And.intro (okm_init (Da := mD68) dX9_init_58 rfl rfl mwc_68 (wg1 137 rfl rfl) mwn_68 mwi_68 rfl mwd_68) (fun h => h.elim nofun nofun)
theorem t0_61 : e_ok mD0 61 (9, 7, 14, 3, 64) := okw_putF dX9_init_61 rfl hin_14 tyX9_ok nmX9 (by decide +kernel) (wg2 45 rfl rfl) rfl rfl rfl rfl (tyX9_ok 3 (by decide +kernel)) (fun V h => fitV_obj h)
theorem t0_64 : e_ok mD0 64 (1, 1, 0, 0, 65) := okl_aload_n dX9_init_64 rfl
theorem t0_65 : e_ok mD0 65 (7, 1, 7, 1, 68) := And.intro (fun X ρ => okw_new dX9_init_65 rfl hin_7 tyX2_ok (wg1 161 rfl rfl) (wg1 162 rfl rfl) (wg1 6 rfl rfl) rfl) (by decide)
theorem t0_68 : e_ok mD0 68 (2, 1, 0, 0, 69) := oki_dup dX9_init_68
theorem t0_69 : e_ok mD0 69 (11, 1, 55, 1, 72) := And.intro (okm_initN (Da := mD55) dX9_init_69 rfl rfl mwc_55 (wn1 163 rfl rfl) mwn_55 mwi_55 rfl mwd_55) (fun h => h.elim nofun nofun)
theorem t0_72 : e_ok mD0 72 (9, 7, 14, 4, 75) := okw_putF dX9_init_72 rfl hin_14 tyX9_ok nmX9 (by decide +kernel) (wg2 46 rfl rfl) rfl rfl rfl rfl (tyX9_ok 4 (by decide +kernel)) (fun V h => fitV_obj h)
theorem t0_75 : e_ok mD0 75 (1, 1, 0, 0, 76) := okl_aload_n dX9_init_75 rfl
theorem t0_76 : e_ok mD0 76 (7, 1, 10, 7, 79) := And.intro (fun X ρ => okw_new dX9_init_76 rfl hin_10 tyX5_ok (wg1 171 rfl rfl) (wg1 172 rfl rfl) (wg1 7 rfl rfl) rfl) (by decide)
theorem t0_79 : e_ok mD0 79 (2, 1, 0, 0, 80) := oki_dup dX9_init_79
theorem t0_80 : e_ok mD0 80 (11, 1, 76, 1, 83) := And.intro (okm_initN (Da := mD76) dX9_init_80 rfl rfl mwc_76 (wn1 173 rfl rfl) mwn_76 mwi_76 rfl mwd_76) (fun h => h.elim nofun nofun)
theorem t0_83 : e_ok mD0 83 (9, 7, 14, 5, 86) := okw_putF dX9_init_83 rfl hin_14 tyX9_ok nmX9 (by decide +kernel) (wg2 47 rfl rfl) rfl rfl rfl rfl (tyX9_ok 5 (by decide +kernel)) (fun V h => fitV_obj h)
theorem t0_86 : e_ok mD0 86 (1, 1, 0, 0, 87) := okl_aload_n dX9_init_86 rfl
theorem t0_87 : e_ok mD0 87 (7, 1, 12, 9, 90) := And.intro (fun X ρ => okw_new dX9_init_87 rfl hin_12 tyX7_ok (wg1 200 rfl rfl) (wg1 201 rfl rfl) (wg1 8 rfl rfl) rfl) (by decide)
theorem t0_90 : e_ok mD0 90 (2, 1, 0, 0, 91) := oki_dup dX9_init_90
theorem t0_91 : e_ok mD0 91 (11, 1, 89, 1, 94) := And.intro (okm_initN (Da := mD89) dX9_init_91 rfl rfl mwc_89 (wn1 202 rfl rfl) mwn_89 mwi_89 rfl mwd_89) (fun h => h.elim nofun nofun)
theorem t0_94 : e_ok mD0 94 (9, 7, 14, 6, 97) := okw_putF dX9_init_94 rfl hin_14 tyX9_ok nmX9 (by decide +kernel) (wg2 48 rfl rfl) rfl rfl rfl rfl (tyX9_ok 6 (by decide +kernel)) (fun V h => fitV_obj h)
theorem t0_97 : e_ok mD0 97 (1, 1, 0, 0, 98) := okl_aload_n dX9_init_97 rfl
theorem t0_98 : e_ok mD0 98 (7, 1, 13, 1, 101) := And.intro (fun X ρ => okw_new dX9_init_98 rfl hin_13 tyX8_ok (wg2 0 rfl rfl) (wg2 1 rfl rfl) (wg1 9 rfl rfl) rfl) (by decide)
theorem t0_101 : e_ok mD0 101 (2, 1, 0, 0, 102) := oki_dup dX9_init_101
theorem t0_102 : e_ok mD0 102 (11, 1, 92, 1, 105) := And.intro (okm_initN (Da := mD92) dX9_init_102 rfl rfl mwc_92 (wn2 2 rfl rfl) mwn_92 mwi_92 rfl mwd_92) (fun h => h.elim nofun nofun)
theorem t0_105 : e_ok mD0 105 (9, 7, 14, 7, 108) := okw_putF dX9_init_105 rfl hin_14 tyX9_ok nmX9 (by decide +kernel) (wg2 49 rfl rfl) rfl rfl rfl rfl (tyX9_ok 7 (by decide +kernel)) (fun V h => fitV_obj h)
theorem t0_108 : e_ok mD0 108 (1, 1, 0, 0, 109) := okl_aload_n dX9_init_108 rfl
theorem t0_109 : e_ok mD0 109 (7, 1, 5, 7, 112) := And.intro (fun X ρ => okw_new dX9_init_109 rfl hin_5 tyX0_ok (wg2 11 rfl rfl) (wg2 12 rfl rfl) (wg1 10 rfl rfl) rfl) (by decide)
theorem t0_112 : e_ok mD0 112 (2, 1, 0, 0, 113) := oki_dup dX9_init_112
theorem t0_113 : e_ok mD0 113 (11, 1, 43, 1, 116) := And.intro (okm_initN (Da := mD43) dX9_init_113 rfl rfl mwc_43 (wn2 13 rfl rfl) mwn_43 mwi_43 rfl mwd_43) (fun h => h.elim nofun nofun)
theorem t0_116 : e_ok mD0 116 (9, 7, 14, 8, 119) := okw_putF dX9_init_116 rfl hin_14 tyX9_ok nmX9 (by decide +kernel) (wg2 50 rfl rfl) rfl rfl rfl rfl (tyX9_ok 8 (by decide +kernel)) (fun V h => fitV_obj h)
theorem t0_119 : e_ok mD0 119 (12, 0, 0, 0, 0) := okr_void dX9_init_119 rfl
theorem t1_0 : e_ok mD1 0 (1, 1, 0, 0, 1) := okl_aload_n dX9_clearPhases_0 rfl
theorem t1_1 : e_ok mD1 1 (7, 0, 14, 3, 4) := And.intro (okw_get dX9_clearPhases_1 rfl hin_14 (by decide +kernel) (wg2 45 rfl rfl) rfl) (okx_none (by decide +kernel) _)
theorem t1_4 : e_ok mD1 4 (7, 0, 9, 4, 7) := And.intro (okw_getN dX9_clearPhases_4 rfl hin_9 (by decide +kernel) (wn1 146 rfl rfl) rfl) (okx_none (by decide +kernel) _)
theorem t1_7 : e_ok mD1 7 (1, 4, 1, 0, 8) := oks_istore_n dX9_clearPhases_7 rfl (by decide +kernel)
theorem t1_8 : e_ok mD1 8 (1, 1, 0, 0, 9) := okl_aload_n dX9_clearPhases_8 rfl
theorem t1_9 : e_ok mD1 9 (7, 0, 14, 3, 12) := And.intro (okw_get dX9_clearPhases_9 rfl hin_14 (by decide +kernel) (wg2 45 rfl rfl) rfl) (okx_none (by decide +kernel) _)
theorem t1_12 : e_ok mD1 12 (11, 2, 70, 1, 15) := And.intro (okCallX.M (okx_virtual (Da := mD70) dX9_clearPhases_12 rfl mwc_70 (wg2 74 rfl rfl) mwn_70 mwv_70 mwi_70 mwd_70)) (fun _ => okx_virtual (Da := mD70) dX9_clearPhases_12 rfl mwc_70 (wg2 74 rfl rfl) mwn_70 mwv_70 mwi_70 mwd_70)
theorem t1_15 : e_ok mD1 15 (1, 0, 1, 0, 16) := okl_iload_n dX9_clearPhases_15 rfl
theorem t1_16 : e_ok mD1 16 (12, 1, 0, 0, 0) := okr_int dX9_clearPhases_16 rfl
theorem t2_0 : e_ok mD2 0 (0, 0, 30, 0, 2) := Or.inl (okc_bipush dX9_diggingCost_0 (by decide +kernel))
theorem t2_2 : e_ok mD2 2 (0, 0, 10, 0, 4) := Or.inl (okc_bipush dX9_diggingCost_2 (by decide +kernel))
theorem t2_4 : e_ok mD2 4 (1, 0, 0, 0, 5) := okl_iload_n dX9_diggingCost_4 rfl
theorem t2_5 : e_ok mD2 5 (0, 0, 10, 0, 7) := Or.inl (okc_bipush dX9_diggingCost_5 (by decide +kernel))
theorem t2_7 : e_ok mD2 7 (3, 3, 0, 0, 8) := okb_idiv dX9_diggingCost_7
theorem t2_8 : e_ok mD2 8 (3, 2, 0, 0, 9) := okb_imul dX9_diggingCost_8
theorem t2_9 : e_ok mD2 9 (3, 0, 0, 0, 10) := okb_iadd dX9_diggingCost_9
theorem t2_10 : e_ok mD2 10 (12, 1, 0, 0, 0) := okr_int dX9_diggingCost_10 rfl
theorem t3_0 : e_ok mD3 0 (1, 1, 0, 0, 1) := okl_aload_n dX9_dryLevels_0 rfl
theorem t3_1 : e_ok mD3 1 (7, 0, 14, 0, 4) := And.intro (okw_get dX9_dryLevels_1 rfl hin_14 (by decide +kernel) (wg2 42 rfl rfl) rfl) (okx_none (by decide +kernel) _)
theorem t3_4 : e_ok mD3 4 (11, 2, 47, 1, 7) := And.intro (okCallX.M (okx_virtual (Da := mD47) dX9_dryLevels_4 rfl mwc_47 (wg4 102 rfl rfl) mwn_47 mwv_47 mwi_47 mwd_47)) (fun _ => okx_virtual (Da := mD47) dX9_dryLevels_4 rfl mwc_47 (wg4 102 rfl rfl) mwn_47 mwv_47 mwi_47 mwd_47)
theorem t3_7 : e_ok mD3 7 (1, 4, 1, 0, 8) := oks_istore_n dX9_dryLevels_7 rfl (by decide +kernel)
theorem t3_8 : e_ok mD3 8 (1, 0, 1, 0, 9) := okl_iload_n dX9_dryLevels_8 rfl
theorem t3_9 : e_ok mD3 9 (5, 2, 24, 0, 12) := okj_lt dX9_dryLevels_9 (by decide +kernel)
theorem t3_12 : e_ok mD3 12 (1, 1, 0, 0, 13) := okl_aload_n dX9_dryLevels_12 rfl
theorem t3_13 : e_ok mD3 13 (7, 0, 14, 7, 16) := And.intro (okw_get dX9_dryLevels_13 rfl hin_14 (by decide +kernel) (wg2 49 rfl rfl) rfl) (okx_none (by decide +kernel) _)
theorem t3_16 : e_ok mD3 16 (7, 0, 13, 0, 19) := And.intro (okw_getN dX9_dryLevels_16 rfl hin_13 (by decide +kernel) (wn2 7 rfl rfl) rfl) (okx_none (by decide +kernel) _)
theorem t3_19 : e_ok mD3 19 (0, 0, 50, 0, 21) := Or.inl (okc_bipush dX9_dryLevels_19 (by decide +kernel))
theorem t3_21 : e_ok mD3 21 (6, 4, 27, 0, 24) := okk_gt dX9_dryLevels_21 (by decide +kernel)
theorem t3_24 : e_ok mD3 24 (0, 0, 6, 0, 26) := Or.inl (okc_bipush dX9_dryLevels_24 (by decide +kernel))
theorem t3_26 : e_ok mD3 26 (12, 1, 0, 0, 0) := okr_int dX9_dryLevels_26 rfl
theorem t3_27 : e_ok mD3 27 (1, 0, 1, 0, 28) := okl_iload_n dX9_dryLevels_27 rfl
theorem t3_28 : e_ok mD3 28 (0, 0, 1, 0, 29) := Or.inl (okc_iconst dX9_dryLevels_28 (by decide +kernel))
theorem t3_29 : e_ok mD3 29 (11, 0, 172, 2, 32) := And.intro (okCallX.M (okx_static (Da := mD172) dX9_dryLevels_29 rfl mwc_172 (wg4 108 rfl rfl) mws_172 mwi_172 mwd_172)) (fun _ => okx_static (Da := mD172) dX9_dryLevels_29 rfl mwc_172 (wg4 108 rfl rfl) mws_172 mwi_172 mwd_172)
theorem t3_32 : e_ok mD3 32 (12, 1, 0, 0, 0) := okr_int dX9_dryLevels_32 rfl
theorem t4_0 : e_ok mD4 0 (1, 0, 1, 0, 1) := okl_iload_n dX9_dugIn_0 rfl
theorem t4_1 : e_ok mD4 1 (11, 0, 26, 1, 4) := And.intro (okCallX.M (okx_static (Da := mD26) dX9_dugIn_1 rfl mwc_26 (wg2 235 rfl rfl) mws_26 mwi_26 mwd_26)) (fun _ => okx_static (Da := mD26) dX9_dugIn_1 rfl mwc_26 (wg2 235 rfl rfl) mws_26 mwi_26 mwd_26)
theorem t4_4 : e_ok mD4 4 (1, 1, 0, 0, 5) := okl_aload_n dX9_dugIn_4 rfl
theorem t4_5 : e_ok mD4 5 (1, 0, 1, 0, 6) := okl_iload_n dX9_dugIn_5 rfl
theorem t4_6 : e_ok mD4 6 (11, 2, 27, 2, 9) := And.intro (okCallX.M (okx_virtual (Da := mD27) dX9_dugIn_6 rfl mwc_27 (wg4 192 rfl rfl) mwn_27 mwv_27 mwi_27 mwd_27)) (fun _ => okx_virtual (Da := mD27) dX9_dugIn_6 rfl mwc_27 (wg4 192 rfl rfl) mwn_27 mwv_27 mwi_27 mwd_27)
theorem t4_9 : e_ok mD4 9 (1, 1, 0, 0, 10) := okl_aload_n dX9_dugIn_9 rfl
theorem t4_10 : e_ok mD4 10 (7, 0, 14, 0, 13) := And.intro (okw_get dX9_dugIn_10 rfl hin_14 (by decide +kernel) (wg2 42 rfl rfl) rfl) (okx_none (by decide +kernel) _)
theorem t4_13 : e_ok mD4 13 (1, 0, 1, 0, 14) := okl_iload_n dX9_dugIn_13 rfl
theorem t4_14 : e_ok mD4 14 (11, 2, 220, 2, 17) := And.intro (okCallX.M (okx_virtual (Da := mD220) dX9_dugIn_14 rfl mwc_220 (wg4 223 rfl rfl) mwn_220 mwv_220 mwi_220 mwd_220)) (fun _ => okx_virtual (Da := mD220) dX9_dugIn_14 rfl mwc_220 (wg4 223 rfl rfl) mwn_220 mwv_220 mwi_220 mwd_220)
theorem t4_17 : e_ok mD4 17 (12, 1, 0, 0, 0) := okr_int dX9_dugIn_17 rfl
theorem t5_0 : e_ok mD5 0 (1, 1, 0, 0, 1) := okl_aload_n dX9_dugShare_0 rfl
theorem t5_1 : e_ok mD5 1 (7, 0, 14, 0, 4) := And.intro (okw_get dX9_dugShare_1 rfl hin_14 (by decide +kernel) (wg2 42 rfl rfl) rfl) (okx_none (by decide +kernel) _)
theorem t5_4 : e_ok mD5 4 (7, 0, 6, 3, 7) := And.intro (okw_getN dX9_dugShare_4 rfl hin_6 (by decide +kernel) (wn1 62 rfl rfl) rfl) (okx_none (by decide +kernel) _)
theorem t5_7 : e_ok mD5 7 (15, 6, 0, 0, 8) := okm_i2f dX9_dugShare_7
theorem t5_8 : e_ok mD5 8 (0, 3, 1114636288, 0, 11) := okc_ldcfw dX9_dugShare_8 (wg2 145 rfl rfl)
theorem t5_11 : e_ok mD5 11 (15, 7, 0, 0, 12) := okm_fdiv dX9_dugShare_11
theorem t5_12 : e_ok mD5 12 (12, 5, 0, 0, 0) := okr_float dX9_dugShare_12 rfl
theorem t6_0 : e_ok mD6 0 (1, 1, 0, 0, 1) := okl_aload_n dX9_factor_0 rfl
theorem t6_1 : e_ok mD6 1 (7, 0, 14, 8, 4) := And.intro (okw_get dX9_factor_1 rfl hin_14 (by decide +kernel) (wg2 50 rfl rfl) rfl) (okx_none (by decide +kernel) _)
theorem t6_4 : e_ok mD6 4 (7, 0, 5, 4, 7) := And.intro (okw_getN dX9_factor_4 rfl hin_5 (by decide +kernel) (wn2 23 rfl rfl) rfl) (okx_none (by decide +kernel) _)
theorem t6_7 : e_ok mD6 7 (5, 4, 21, 0, 10) := okj_gt dX9_factor_7 (by decide +kernel)
theorem t6_10 : e_ok mD6 10 (13, 0, 4, 0, 0) := okt_throwW (text := "the model had nothing") rfl (by decide +kernel) (wg5 23 rfl rfl) (wg1 43 rfl rfl) (by decide +kernel) (hat_of (by decide +kernel)) dX9_factor_10 dX9_factor_13 dX9_factor_14 dX9_factor_17 dX9_factor_20
theorem t6_13 : e_ok mD6 13 (2, 1, 0, 0, 14) := oki_dup dX9_factor_13
theorem t6_21 : e_ok mD6 21 (0, 0, 100, 0, 23) := Or.inl (okc_bipush dX9_factor_21 (by decide +kernel))
theorem t6_23 : e_ok mD6 23 (1, 1, 0, 0, 24) := okl_aload_n dX9_factor_23 rfl
theorem t6_24 : e_ok mD6 24 (7, 0, 14, 8, 27) := And.intro (okw_get dX9_factor_24 rfl hin_14 (by decide +kernel) (wg2 50 rfl rfl) rfl) (okx_none (by decide +kernel) _)
theorem t6_27 : e_ok mD6 27 (7, 0, 5, 3, 30) := And.intro (okw_getN dX9_factor_27 rfl hin_5 (by decide +kernel) (wn2 21 rfl rfl) rfl) (okx_none (by decide +kernel) _)
theorem t6_30 : e_ok mD6 30 (3, 2, 0, 0, 31) := okb_imul dX9_factor_30
theorem t6_31 : e_ok mD6 31 (1, 1, 0, 0, 32) := okl_aload_n dX9_factor_31 rfl
theorem t6_32 : e_ok mD6 32 (7, 0, 14, 8, 35) := And.intro (okw_get dX9_factor_32 rfl hin_14 (by decide +kernel) (wg2 50 rfl rfl) rfl) (okx_none (by decide +kernel) _)
theorem t6_35 : e_ok mD6 35 (7, 0, 5, 4, 38) := And.intro (okw_getN dX9_factor_35 rfl hin_5 (by decide +kernel) (wn2 23 rfl rfl) rfl) (okx_none (by decide +kernel) _)
theorem t6_38 : e_ok mD6 38 (3, 3, 0, 0, 39) := okb_idiv dX9_factor_38
theorem t6_39 : e_ok mD6 39 (12, 1, 0, 0, 0) := okr_int dX9_factor_39 rfl
theorem t7_0 : e_ok mD7 0 (1, 1, 0, 0, 1) := okl_aload_n dX9_feedFromPile_0 rfl
theorem t7_1 : e_ok mD7 1 (7, 0, 14, 4, 4) := And.intro (okw_get dX9_feedFromPile_1 rfl hin_14 (by decide +kernel) (wg2 46 rfl rfl) rfl) (okx_none (by decide +kernel) _)
theorem t7_4 : e_ok mD7 4 (0, 0, 112, 0, 6) := Or.inl (okc_bipush dX9_feedFromPile_4 (by decide +kernel))
theorem t7_6 : e_ok mD7 6 (11, 2, 57, 2, 9) := And.intro (okCallX.M (okx_virtual (Da := mD57) dX9_feedFromPile_6 rfl mwc_57 (wg4 74 rfl rfl) mwn_57 mwv_57 mwi_57 mwd_57)) (fun _ => okx_virtual (Da := mD57) dX9_feedFromPile_6 rfl mwc_57 (wg4 74 rfl rfl) mwn_57 mwv_57 mwi_57 mwd_57)
theorem t7_9 : e_ok mD7 9 (1, 4, 1, 0, 10) := oks_istore_n dX9_feedFromPile_9 rfl (by decide +kernel)
theorem t7_10 : e_ok mD7 10 (1, 1, 0, 0, 11) := okl_aload_n dX9_feedFromPile_10 rfl
theorem t7_11 : e_ok mD7 11 (7, 0, 14, 6, 14) := And.intro (okw_get dX9_feedFromPile_11 rfl hin_14 (by decide +kernel) (wg2 48 rfl rfl) rfl) (okx_none (by decide +kernel) _)
theorem t7_14 : e_ok mD7 14 (7, 0, 12, 1, 17) := And.intro (okw_getN dX9_feedFromPile_14 rfl hin_12 (by decide +kernel) (wn1 208 rfl rfl) rfl) (okx_none (by decide +kernel) _)
theorem t7_17 : e_ok mD7 17 (1, 4, 2, 0, 18) := oks_istore_n dX9_feedFromPile_17 rfl (by decide +kernel)
theorem t7_18 : e_ok mD7 18 (1, 0, 2, 0, 19) := okl_iload_n dX9_feedFromPile_18 rfl
theorem t7_19 : e_ok mD7 19 (1, 0, 1, 0, 20) := okl_iload_n dX9_feedFromPile_19 rfl
theorem t7_20 : e_ok mD7 20 (6, 3, 53, 0, 23) := okk_ge dX9_feedFromPile_20 (by decide +kernel)
theorem t7_23 : e_ok mD7 23 (1, 1, 0, 0, 24) := okl_aload_n dX9_feedFromPile_23 rfl
theorem t7_24 : e_ok mD7 24 (7, 0, 14, 5, 27) := And.intro (okw_get dX9_feedFromPile_24 rfl hin_14 (by decide +kernel) (wg2 47 rfl rfl) rfl) (okx_none (by decide +kernel) _)
theorem t7_27 : e_ok mD7 27 (11, 2, 77, 1, 30) := And.intro (okCallX.M (okx_virtual (Da := mD77) dX9_feedFromPile_27 rfl mwc_77 (wg2 90 rfl rfl) mwn_77 mwv_77 mwi_77 mwd_77)) (fun _ => okx_virtual (Da := mD77) dX9_feedFromPile_27 rfl mwc_77 (wg2 90 rfl rfl) mwn_77 mwv_77 mwi_77 mwd_77)
theorem t7_30 : e_ok mD7 30 (5, 5, 53, 0, 33) := okj_le dX9_feedFromPile_30 (by decide +kernel)
theorem t7_33 : e_ok mD7 33 (1, 1, 0, 0, 34) := okl_aload_n dX9_feedFromPile_33 rfl
theorem t7_34 : e_ok mD7 34 (7, 0, 14, 6, 37) := And.intro (okw_get dX9_feedFromPile_34 rfl hin_14 (by decide +kernel) (wg2 48 rfl rfl) rfl) (okx_none (by decide +kernel) _)
theorem t7_37 : e_ok mD7 37 (1, 1, 0, 0, 38) := okl_aload_n dX9_feedFromPile_37 rfl
theorem t7_38 : e_ok mD7 38 (7, 0, 14, 5, 41) := And.intro (okw_get dX9_feedFromPile_38 rfl hin_14 (by decide +kernel) (wg2 47 rfl rfl) rfl) (okx_none (by decide +kernel) _)
theorem t7_41 : e_ok mD7 41 (11, 2, 214, 1, 44) := And.intro (okCallX.M (okx_virtual (Da := mD214) dX9_feedFromPile_41 rfl mwc_214 (wg4 146 rfl rfl) mwn_214 mwv_214 mwi_214 mwd_214)) (fun _ => okx_virtual (Da := mD214) dX9_feedFromPile_41 rfl mwc_214 (wg4 146 rfl rfl) mwn_214 mwv_214 mwi_214 mwd_214)
theorem t7_44 : e_ok mD7 44 (11, 2, 211, 2, 47) := And.intro (okCallX.M (okx_virtual (Da := mD211) dX9_feedFromPile_44 rfl mwc_211 (wg4 130 rfl rfl) mwn_211 mwv_211 mwi_211 mwd_211)) (fun _ => okx_virtual (Da := mD211) dX9_feedFromPile_44 rfl mwc_211 (wg4 130 rfl rfl) mwn_211 mwv_211 mwi_211 mwd_211)
theorem t7_47 : e_ok mD7 47 (2, 0, 2, 1, 50) := oki_iinc dX9_feedFromPile_47 (by decide +kernel) (by decide +kernel)
theorem t7_50 : e_ok mD7 50 (2, 4, 0, 0, 18) := oki_goto dX9_feedFromPile_50 (by decide +kernel)
theorem t7_53 : e_ok mD7 53 (12, 0, 0, 0, 0) := okr_void dX9_feedFromPile_53 rfl
theorem t8_0 : e_ok mD8 0 (1, 0, 1, 0, 1) := okl_iload_n dX9_goOn_0 rfl
theorem t8_1 : e_ok mD8 1 (0, 0, 1, 0, 2) := Or.inl (okc_iconst dX9_goOn_1 (by decide +kernel))
theorem t8_2 : e_ok mD8 2 (6, 2, 11, 0, 5) := okk_lt dX9_goOn_2 (by decide +kernel)
theorem t8_5 : e_ok mD8 5 (1, 0, 1, 0, 6) := okl_iload_n dX9_goOn_5 rfl
theorem t8_6 : e_ok mD8 6 (0, 0, 20, 0, 8) := Or.inl (okc_bipush dX9_goOn_6 (by decide +kernel))
theorem t8_8 : e_ok mD8 8 (6, 5, 21, 0, 11) := okk_le dX9_goOn_8 (by decide +kernel)
theorem t8_11 : e_ok mD8 11 (13, 0, 1, 0, 0) := okt_throw (text := "the weeks are out of range") rfl (by decide +kernel) (wg3 12 rfl rfl) (wg1 26 rfl rfl) (by decide +kernel) (hat_of (by decide +kernel)) dX9_goOn_11 dX9_goOn_14 dX9_goOn_15 dX9_goOn_17 dX9_goOn_20
theorem t8_14 : e_ok mD8 14 (2, 1, 0, 0, 15) := oki_dup dX9_goOn_14
theorem t8_21 : e_ok mD8 21 (1, 1, 0, 0, 22) := okl_aload_n dX9_goOn_21 rfl
theorem t8_22 : e_ok mD8 22 (7, 0, 14, 0, 25) := And.intro (okw_get dX9_goOn_22 rfl hin_14 (by decide +kernel) (wg2 42 rfl rfl) rfl) (okx_none (by decide +kernel) _)
theorem t8_25 : e_ok mD8 25 (7, 0, 6, 3, 28) := And.intro (okw_getN dX9_goOn_25 rfl hin_6 (by decide +kernel) (wn1 62 rfl rfl) rfl) (okx_none (by decide +kernel) _)
theorem t8_28 : e_ok mD8 28 (1, 4, 2, 0, 29) := oks_istore_n dX9_goOn_28 rfl (by decide +kernel)
theorem t8_29 : e_ok mD8 29 (0, 0, 0, 0, 30) := Or.inl (okc_iconst dX9_goOn_29 (by decide +kernel))
theorem t8_30 : e_ok mD8 30 (1, 4, 3, 0, 31) := oks_istore_n dX9_goOn_30 rfl (by decide +kernel)
theorem t8_31 : e_ok mD8 31 (1, 0, 3, 0, 32) := okl_iload_n dX9_goOn_31 rfl
theorem t8_32 : e_ok mD8 32 (1, 0, 1, 0, 33) := okl_iload_n dX9_goOn_32 rfl
theorem t8_33 : e_ok mD8 33 (6, 3, 46, 0, 36) := okk_ge dX9_goOn_33 (by decide +kernel)
theorem t8_36 : e_ok mD8 36 (1, 1, 0, 0, 37) := okl_aload_n dX9_goOn_36 rfl
theorem t8_37 : e_ok mD8 37 (11, 2, 20, 1, 40) := And.intro (okCallX.M (okx_virtual (Da := mD20) dX9_goOn_37 rfl mwc_20 (wg4 90 rfl rfl) mwn_20 mwv_20 mwi_20 mwd_20)) (fun _ => okx_virtual (Da := mD20) dX9_goOn_37 rfl mwc_20 (wg4 90 rfl rfl) mwn_20 mwv_20 mwi_20 mwd_20)
theorem t8_40 : e_ok mD8 40 (2, 0, 3, 1, 43) := oki_iinc dX9_goOn_40 (by decide +kernel) (by decide +kernel)
theorem t8_43 : e_ok mD8 43 (2, 4, 0, 0, 31) := oki_goto dX9_goOn_43 (by decide +kernel)
theorem t8_46 : e_ok mD8 46 (1, 1, 0, 0, 47) := okl_aload_n dX9_goOn_46 rfl
theorem t8_47 : e_ok mD8 47 (7, 0, 14, 0, 50) := And.intro (okw_get dX9_goOn_47 rfl hin_14 (by decide +kernel) (wg2 42 rfl rfl) rfl) (okx_none (by decide +kernel) _)
theorem t8_50 : e_ok mD8 50 (7, 0, 6, 3, 53) := And.intro (okw_getN dX9_goOn_50 rfl hin_6 (by decide +kernel) (wn1 62 rfl rfl) rfl) (okx_none (by decide +kernel) _)
theorem t8_53 : e_ok mD8 53 (1, 0, 2, 0, 54) := okl_iload_n dX9_goOn_53 rfl
theorem t8_54 : e_ok mD8 54 (3, 1, 0, 0, 55) := okb_isub dX9_goOn_54
theorem t8_55 : e_ok mD8 55 (12, 1, 0, 0, 0) := okr_int dX9_goOn_55 rfl
theorem t9_0 : e_ok mD9 0 (1, 0, 1, 0, 1) := okl_iload_n dX9_grade_0 rfl
theorem t9_1 : e_ok mD9 1 (11, 0, 26, 1, 4) := And.intro (okCallX.M (okx_static (Da := mD26) dX9_grade_1 rfl mwc_26 (wg2 235 rfl rfl) mws_26 mwi_26 mwd_26)) (fun _ => okx_static (Da := mD26) dX9_grade_1 rfl mwc_26 (wg2 235 rfl rfl) mws_26 mwi_26 mwd_26)
theorem t9_4 : e_ok mD9 4 (1, 1, 0, 0, 5) := okl_aload_n dX9_grade_4 rfl
theorem t9_5 : e_ok mD9 5 (7, 0, 14, 1, 8) := And.intro (okw_get dX9_grade_5 rfl hin_14 (by decide +kernel) (wg2 43 rfl rfl) rfl) (okx_none (by decide +kernel) _)
theorem t9_8 : e_ok mD9 8 (1, 0, 1, 0, 9) := okl_iload_n dX9_grade_8 rfl
theorem t9_9 : e_ok mD9 9 (11, 2, 62, 2, 12) := And.intro (okCallX.M (okx_virtual (Da := mD62) dX9_grade_9 rfl mwc_62 (wg3 133 rfl rfl) mwn_62 mwv_62 mwi_62 mwd_62)) (fun _ => okx_virtual (Da := mD62) dX9_grade_9 rfl mwc_62 (wg3 133 rfl rfl) mwn_62 mwv_62 mwi_62 mwd_62)
theorem t9_12 : e_ok mD9 12 (12, 1, 0, 0, 0) := okr_int dX9_grade_12 rfl
theorem t10_0 : e_ok mD10 0 (0, 0, 10, 0, 2) := Or.inl (okc_bipush dX9_isBalanced_0 (by decide +kernel))
theorem t10_2 : e_ok mD10 2 (1, 1, 0, 0, 3) := okl_aload_n dX9_isBalanced_2 rfl
theorem t10_3 : e_ok mD10 3 (7, 0, 14, 6, 6) := And.intro (okw_get dX9_isBalanced_3 rfl hin_14 (by decide +kernel) (wg2 48 rfl rfl) rfl) (okx_none (by decide +kernel) _)
theorem t10_6 : e_ok mD10 6 (7, 0, 12, 3, 9) := And.intro (okw_getN dX9_isBalanced_6 rfl hin_12 (by decide +kernel) (wn1 211 rfl rfl) rfl) (okx_none (by decide +kernel) _)
theorem t10_9 : e_ok mD10 9 (1, 1, 0, 0, 10) := okl_aload_n dX9_isBalanced_9 rfl
theorem t10_10 : e_ok mD10 10 (7, 0, 14, 5, 13) := And.intro (okw_get dX9_isBalanced_10 rfl hin_14 (by decide +kernel) (wg2 47 rfl rfl) rfl) (okx_none (by decide +kernel) _)
theorem t10_13 : e_ok mD10 13 (11, 2, 77, 1, 16) := And.intro (okCallX.M (okx_virtual (Da := mD77) dX9_isBalanced_13 rfl mwc_77 (wg2 90 rfl rfl) mwn_77 mwv_77 mwi_77 mwd_77)) (fun _ => okx_virtual (Da := mD77) dX9_isBalanced_13 rfl mwc_77 (wg2 90 rfl rfl) mwn_77 mwv_77 mwi_77 mwd_77)
theorem t10_16 : e_ok mD10 16 (3, 0, 0, 0, 17) := okb_iadd dX9_isBalanced_16
theorem t10_17 : e_ok mD10 17 (1, 1, 0, 0, 18) := okl_aload_n dX9_isBalanced_17 rfl
theorem t10_18 : e_ok mD10 18 (7, 0, 14, 8, 21) := And.intro (okw_get dX9_isBalanced_18 rfl hin_14 (by decide +kernel) (wg2 50 rfl rfl) rfl) (okx_none (by decide +kernel) _)
theorem t10_21 : e_ok mD10 21 (7, 0, 5, 2, 24) := And.intro (okw_getN dX9_isBalanced_21 rfl hin_5 (by decide +kernel) (wn2 19 rfl rfl) rfl) (okx_none (by decide +kernel) _)
theorem t10_24 : e_ok mD10 24 (3, 0, 0, 0, 25) := okb_iadd dX9_isBalanced_24
theorem t10_25 : e_ok mD10 25 (3, 2, 0, 0, 26) := okb_imul dX9_isBalanced_25
theorem t10_26 : e_ok mD10 26 (1, 4, 1, 0, 27) := oks_istore_n dX9_isBalanced_26 rfl (by decide +kernel)
theorem t10_27 : e_ok mD10 27 (1, 0, 1, 0, 28) := okl_iload_n dX9_isBalanced_27 rfl
theorem t10_28 : e_ok mD10 28 (0, 0, 10, 0, 30) := Or.inl (okc_bipush dX9_isBalanced_28 (by decide +kernel))
theorem t10_30 : e_ok mD10 30 (1, 1, 0, 0, 31) := okl_aload_n dX9_isBalanced_30 rfl
theorem t10_31 : e_ok mD10 31 (7, 0, 14, 0, 34) := And.intro (okw_get dX9_isBalanced_31 rfl hin_14 (by decide +kernel) (wg2 42 rfl rfl) rfl) (okx_none (by decide +kernel) _)
theorem t10_34 : e_ok mD10 34 (7, 0, 6, 3, 37) := And.intro (okw_getN dX9_isBalanced_34 rfl hin_6 (by decide +kernel) (wn1 62 rfl rfl) rfl) (okx_none (by decide +kernel) _)
theorem t10_37 : e_ok mD10 37 (3, 2, 0, 0, 38) := okb_imul dX9_isBalanced_37
theorem t10_38 : e_ok mD10 38 (6, 1, 55, 0, 41) := okk_ne dX9_isBalanced_38 (by decide +kernel)
theorem t10_41 : e_ok mD10 41 (1, 1, 0, 0, 42) := okl_aload_n dX9_isBalanced_41 rfl
theorem t10_42 : e_ok mD10 42 (7, 0, 14, 0, 45) := And.intro (okw_get dX9_isBalanced_42 rfl hin_14 (by decide +kernel) (wg2 42 rfl rfl) rfl) (okx_none (by decide +kernel) _)
theorem t10_45 : e_ok mD10 45 (11, 2, 54, 1, 48) := And.intro (okCallX.M (okx_virtual (Da := mD54) dX9_isBalanced_45 rfl mwc_54 (wg2 118 rfl rfl) mwn_54 mwv_54 mwi_54 mwd_54)) (fun _ => okx_virtual (Da := mD54) dX9_isBalanced_45 rfl mwc_54 (wg2 118 rfl rfl) mwn_54 mwv_54 mwi_54 mwd_54)
theorem t10_48 : e_ok mD10 48 (5, 0, 55, 0, 51) := okj_eq dX9_isBalanced_48 (by decide +kernel)
theorem t10_51 : e_ok mD10 51 (0, 0, 1, 0, 52) := Or.inl (okc_iconst dX9_isBalanced_51 (by decide +kernel))
theorem t10_52 : e_ok mD10 52 (2, 4, 0, 0, 56) := oki_goto dX9_isBalanced_52 (by decide +kernel)
theorem t10_55 : e_ok mD10 55 (0, 0, 0, 0, 56) := Or.inl (okc_iconst dX9_isBalanced_55 (by decide +kernel))
theorem t10_56 : e_ok mD10 56 (12, 6, 0, 0, 0) := okr_bool dX9_isBalanced_56 rfl
theorem t11_0 : e_ok mD11 0 (1, 0, 0, 0, 1) := okl_iload_n dX9_isBlock_0 rfl
theorem t11_1 : e_ok mD11 1 (5, 2, 14, 0, 4) := okj_lt dX9_isBlock_1 (by decide +kernel)
theorem t11_4 : e_ok mD11 4 (1, 0, 0, 0, 5) := okl_iload_n dX9_isBlock_4 rfl
theorem t11_5 : e_ok mD11 5 (0, 0, 60, 0, 7) := Or.inl (okc_bipush dX9_isBlock_5 (by decide +kernel))
theorem t11_7 : e_ok mD11 7 (6, 3, 14, 0, 10) := okk_ge dX9_isBlock_7 (by decide +kernel)
theorem t11_10 : e_ok mD11 10 (0, 0, 1, 0, 11) := Or.inl (okc_iconst dX9_isBlock_10 (by decide +kernel))
theorem t11_11 : e_ok mD11 11 (2, 4, 0, 0, 15) := oki_goto dX9_isBlock_11 (by decide +kernel)
theorem t11_14 : e_ok mD11 14 (0, 0, 0, 0, 15) := Or.inl (okc_iconst dX9_isBlock_14 (by decide +kernel))
theorem t11_15 : e_ok mD11 15 (12, 6, 0, 0, 0) := okr_bool dX9_isBlock_15 rfl
theorem t12_0 : e_ok mD12 0 (1, 0, 1, 0, 1) := okl_iload_n dX9_isDug_0 rfl
theorem t12_1 : e_ok mD12 1 (11, 0, 26, 1, 4) := And.intro (okCallX.M (okx_static (Da := mD26) dX9_isDug_1 rfl mwc_26 (wg2 235 rfl rfl) mws_26 mwi_26 mwd_26)) (fun _ => okx_static (Da := mD26) dX9_isDug_1 rfl mwc_26 (wg2 235 rfl rfl) mws_26 mwi_26 mwd_26)
theorem t12_4 : e_ok mD12 4 (1, 1, 0, 0, 5) := okl_aload_n dX9_isDug_4 rfl
theorem t12_5 : e_ok mD12 5 (7, 0, 14, 0, 8) := And.intro (okw_get dX9_isDug_5 rfl hin_14 (by decide +kernel) (wg2 42 rfl rfl) rfl) (okx_none (by decide +kernel) _)
theorem t12_8 : e_ok mD12 8 (1, 0, 1, 0, 9) := okl_iload_n dX9_isDug_8 rfl
theorem t12_9 : e_ok mD12 9 (11, 2, 53, 2, 12) := And.intro (okCallX.M (okx_virtual (Da := mD53) dX9_isDug_9 rfl mwc_53 (wg3 32 rfl rfl) mwn_53 mwv_53 mwi_53 mwd_53)) (fun _ => okx_virtual (Da := mD53) dX9_isDug_9 rfl mwc_53 (wg3 32 rfl rfl) mwn_53 mwv_53 mwi_53 mwd_53)
theorem t12_12 : e_ok mD12 12 (12, 6, 0, 0, 0) := okr_bool dX9_isDug_12 rfl
theorem t13_0 : e_ok mD13 0 (1, 0, 1, 0, 1) := okl_iload_n dX9_isFree_0 rfl
theorem t13_1 : e_ok mD13 1 (11, 0, 26, 1, 4) := And.intro (okCallX.M (okx_static (Da := mD26) dX9_isFree_1 rfl mwc_26 (wg2 235 rfl rfl) mws_26 mwi_26 mwd_26)) (fun _ => okx_static (Da := mD26) dX9_isFree_1 rfl mwc_26 (wg2 235 rfl rfl) mws_26 mwi_26 mwd_26)
theorem t13_4 : e_ok mD13 4 (1, 1, 0, 0, 5) := okl_aload_n dX9_isFree_4 rfl
theorem t13_5 : e_ok mD13 5 (7, 0, 14, 0, 8) := And.intro (okw_get dX9_isFree_5 rfl hin_14 (by decide +kernel) (wg2 42 rfl rfl) rfl) (okx_none (by decide +kernel) _)
theorem t13_8 : e_ok mD13 8 (1, 0, 1, 0, 9) := okl_iload_n dX9_isFree_8 rfl
theorem t13_9 : e_ok mD13 9 (11, 2, 51, 2, 12) := And.intro (okCallX.M (okx_virtual (Da := mD51) dX9_isFree_9 rfl mwc_51 (wg3 163 rfl rfl) mwn_51 mwv_51 mwi_51 mwd_51)) (fun _ => okx_virtual (Da := mD51) dX9_isFree_9 rfl mwc_51 (wg3 163 rfl rfl) mwn_51 mwv_51 mwi_51 mwd_51)
theorem t13_12 : e_ok mD13 12 (12, 6, 0, 0, 0) := okr_bool dX9_isFree_12 rfl
theorem t14_0 : e_ok mD14 0 (1, 0, 1, 0, 1) := okl_iload_n dX9_isInPit_0 rfl
theorem t14_1 : e_ok mD14 1 (11, 0, 28, 1, 4) := And.intro (okCallX.M (okx_static (Da := mD28) dX9_isInPit_1 rfl mwc_28 (wg3 66 rfl rfl) mws_28 mwi_28 mwd_28)) (fun _ => okx_static (Da := mD28) dX9_isInPit_1 rfl mwc_28 (wg3 66 rfl rfl) mws_28 mwi_28 mwd_28)
theorem t14_4 : e_ok mD14 4 (1, 0, 2, 0, 5) := okl_iload_n dX9_isInPit_4 rfl
theorem t14_5 : e_ok mD14 5 (11, 0, 26, 1, 8) := And.intro (okCallX.M (okx_static (Da := mD26) dX9_isInPit_5 rfl mwc_26 (wg2 235 rfl rfl) mws_26 mwi_26 mwd_26)) (fun _ => okx_static (Da := mD26) dX9_isInPit_5 rfl mwc_26 (wg2 235 rfl rfl) mws_26 mwi_26 mwd_26)
theorem t14_8 : e_ok mD14 8 (1, 1, 0, 0, 9) := okl_aload_n dX9_isInPit_8 rfl
theorem t14_9 : e_ok mD14 9 (7, 0, 14, 2, 12) := And.intro (okw_get dX9_isInPit_9 rfl hin_14 (by decide +kernel) (wg2 44 rfl rfl) rfl) (okx_none (by decide +kernel) _)
theorem t14_12 : e_ok mD14 12 (1, 0, 1, 0, 13) := okl_iload_n dX9_isInPit_12 rfl
theorem t14_13 : e_ok mD14 13 (11, 2, 82, 2, 16) := And.intro (okCallX.M (okx_virtual (Da := mD82) dX9_isInPit_13 rfl mwc_82 (wg3 181 rfl rfl) mwn_82 mwv_82 mwi_82 mwd_82)) (fun _ => okx_virtual (Da := mD82) dX9_isInPit_13 rfl mwc_82 (wg3 181 rfl rfl) mwn_82 mwv_82 mwi_82 mwd_82)
theorem t14_16 : e_ok mD14 16 (1, 1, 0, 0, 17) := okl_aload_n dX9_isInPit_16 rfl
theorem t14_17 : e_ok mD14 17 (7, 0, 14, 2, 20) := And.intro (okw_get dX9_isInPit_17 rfl hin_14 (by decide +kernel) (wg2 44 rfl rfl) rfl) (okx_none (by decide +kernel) _)
theorem t14_20 : e_ok mD14 20 (1, 0, 2, 0, 21) := okl_iload_n dX9_isInPit_20 rfl
theorem t14_21 : e_ok mD14 21 (11, 2, 81, 2, 24) := And.intro (okCallX.M (okx_virtual (Da := mD81) dX9_isInPit_21 rfl mwc_81 (wg3 227 rfl rfl) mwn_81 mwv_81 mwi_81 mwd_81)) (fun _ => okx_virtual (Da := mD81) dX9_isInPit_21 rfl mwc_81 (wg3 227 rfl rfl) mwn_81 mwv_81 mwi_81 mwd_81)
theorem t14_24 : e_ok mD14 24 (12, 6, 0, 0, 0) := okr_bool dX9_isInPit_24 rfl
theorem t15_0 : e_ok mD15 0 (1, 1, 0, 0, 1) := okl_aload_n dX9_meanFed_0 rfl
theorem t15_1 : e_ok mD15 1 (7, 0, 14, 6, 4) := And.intro (okw_get dX9_meanFed_1 rfl hin_14 (by decide +kernel) (wg2 48 rfl rfl) rfl) (okx_none (by decide +kernel) _)
theorem t15_4 : e_ok mD15 4 (7, 0, 12, 3, 7) := And.intro (okw_getN dX9_meanFed_4 rfl hin_12 (by decide +kernel) (wn1 211 rfl rfl) rfl) (okx_none (by decide +kernel) _)
theorem t15_7 : e_ok mD15 7 (5, 4, 20, 0, 10) := okj_gt dX9_meanFed_7 (by decide +kernel)
theorem t15_10 : e_ok mD15 10 (13, 0, 4, 0, 0) := okt_throw (text := "the plant had nothing yet") rfl (by decide +kernel) (wg5 23 rfl rfl) (wg1 43 rfl rfl) (by decide +kernel) (hat_of (by decide +kernel)) dX9_meanFed_10 dX9_meanFed_13 dX9_meanFed_14 dX9_meanFed_16 dX9_meanFed_19
theorem t15_13 : e_ok mD15 13 (2, 1, 0, 0, 14) := oki_dup dX9_meanFed_13
theorem t15_20 : e_ok mD15 20 (1, 1, 0, 0, 21) := okl_aload_n dX9_meanFed_20 rfl
theorem t15_21 : e_ok mD15 21 (7, 0, 14, 6, 24) := And.intro (okw_get dX9_meanFed_21 rfl hin_14 (by decide +kernel) (wg2 48 rfl rfl) rfl) (okx_none (by decide +kernel) _)
theorem t15_24 : e_ok mD15 24 (7, 0, 12, 4, 27) := And.intro (okw_getN dX9_meanFed_24 rfl hin_12 (by decide +kernel) (wn1 213 rfl rfl) rfl) (okx_none (by decide +kernel) _)
theorem t15_28 : e_ok mD15 28 (1, 1, 0, 0, 29) := okl_aload_n dX9_meanFed_28 rfl
theorem t15_29 : e_ok mD15 29 (7, 0, 14, 6, 32) := And.intro (okw_get dX9_meanFed_29 rfl hin_14 (by decide +kernel) (wg2 48 rfl rfl) rfl) (okx_none (by decide +kernel) _)
theorem t15_32 : e_ok mD15 32 (7, 0, 12, 3, 35) := And.intro (okw_getN dX9_meanFed_32 rfl hin_12 (by decide +kernel) (wn1 211 rfl rfl) rfl) (okx_none (by decide +kernel) _)
theorem t15_37 : e_ok mD15 37 (12, 3, 0, 0, 0) := okr_double dX9_meanFed_37 rfl
theorem t16_0 : e_ok mD16 0 (1, 1, 0, 0, 1) := okl_aload_n dX9_metal_0 rfl
theorem t16_1 : e_ok mD16 1 (7, 0, 14, 6, 4) := And.intro (okw_get dX9_metal_1 rfl hin_14 (by decide +kernel) (wg2 48 rfl rfl) rfl) (okx_none (by decide +kernel) _)
theorem t16_4 : e_ok mD16 4 (7, 0, 12, 8, 7) := And.intro (okw_getN dX9_metal_4 rfl hin_12 (by decide +kernel) (wn1 220 rfl rfl) rfl) (okx_none (by decide +kernel) _)
theorem t16_7 : e_ok mD16 7 (12, 2, 0, 0, 0) := okr_long dX9_metal_7 rfl
theorem t17_0 : e_ok mD17 0 (1, 1, 0, 0, 1) := okl_aload_n dX9_mix_0 rfl
theorem t17_1 : e_ok mD17 1 (7, 0, 14, 5, 4) := And.intro (okw_get dX9_mix_1 rfl hin_14 (by decide +kernel) (wg2 47 rfl rfl) rfl) (okx_none (by decide +kernel) _)
theorem t17_4 : e_ok mD17 4 (7, 0, 10, 6, 7) := And.intro (okw_getN dX9_mix_4 rfl hin_10 (by decide +kernel) (wn1 184 rfl rfl) rfl) (okx_none (by decide +kernel) _)
theorem t17_7 : e_ok mD17 7 (1, 4, 2, 0, 8) := oks_istore_n dX9_mix_7 rfl (by decide +kernel)
theorem t17_8 : e_ok mD17 8 (1, 1, 0, 0, 9) := okl_aload_n dX9_mix_8 rfl
theorem t17_9 : e_ok mD17 9 (7, 0, 14, 5, 12) := And.intro (okw_get dX9_mix_9 rfl hin_14 (by decide +kernel) (wg2 47 rfl rfl) rfl) (okx_none (by decide +kernel) _)
theorem t17_12 : e_ok mD17 12 (1, 0, 1, 0, 13) := okl_iload_n dX9_mix_12 rfl
theorem t17_13 : e_ok mD17 13 (9, 1, 10, 6, 16) := okw_putN dX9_mix_13 rfl hin_10 tyX5_ok nmX5 (by decide +kernel) (wn1 184 rfl rfl) rfl rfl (tyX5_ok 6 (by decide +kernel)) (fun V h => fitV_bool h)
theorem t17_16 : e_ok mD17 16 (1, 0, 2, 0, 17) := okl_iload_n dX9_mix_16 rfl
theorem t17_17 : e_ok mD17 17 (12, 6, 0, 0, 0) := okr_bool dX9_mix_17 rfl
theorem t18_0 : e_ok mD18 0 (1, 1, 0, 0, 1) := okl_aload_n dX9_money_0 rfl
theorem t18_1 : e_ok mD18 1 (7, 0, 14, 8, 4) := And.intro (okw_get dX9_money_1 rfl hin_14 (by decide +kernel) (wg2 50 rfl rfl) rfl) (okx_none (by decide +kernel) _)
theorem t18_4 : e_ok mD18 4 (7, 0, 5, 6, 7) := And.intro (okw_getN dX9_money_4 rfl hin_5 (by decide +kernel) (wn2 25 rfl rfl) rfl) (okx_none (by decide +kernel) _)
theorem t18_7 : e_ok mD18 7 (12, 2, 0, 0, 0) := okr_long dX9_money_7 rfl
theorem t19_0 : e_ok mD19 0 (0, 0, 4294967295, 0, 1) := Or.inl (okc_iconst dX9_nextBlock_0 (by decide +kernel))
theorem t19_1 : e_ok mD19 1 (1, 4, 2, 0, 2) := oks_istore_n dX9_nextBlock_1 rfl (by decide +kernel)
theorem t19_2 : e_ok mD19 2 (0, 0, 4, 0, 3) := Or.inl (okc_iconst dX9_nextBlock_2 (by decide +kernel))
theorem t19_3 : e_ok mD19 3 (1, 4, 3, 0, 4) := oks_istore_n dX9_nextBlock_3 rfl (by decide +kernel)
theorem t19_4 : e_ok mD19 4 (0, 0, 0, 0, 5) := Or.inl (okc_iconst dX9_nextBlock_4 (by decide +kernel))
theorem t19_5 : e_ok mD19 5 (1, 4, 4, 0, 7) := oks_istore dX9_nextBlock_5 (by decide +kernel)
theorem t19_7 : e_ok mD19 7 (1, 0, 4, 0, 9) := okl_iload dX9_nextBlock_7
theorem t19_9 : e_ok mD19 9 (1, 0, 1, 0, 10) := okl_iload_n dX9_nextBlock_9 rfl
theorem t19_10 : e_ok mD19 10 (0, 0, 10, 0, 12) := Or.inl (okc_bipush dX9_nextBlock_10 (by decide +kernel))
theorem t19_12 : e_ok mD19 12 (3, 2, 0, 0, 13) := okb_imul dX9_nextBlock_12
theorem t19_13 : e_ok mD19 13 (6, 3, 62, 0, 16) := okk_ge dX9_nextBlock_13 (by decide +kernel)
theorem t19_16 : e_ok mD19 16 (1, 1, 0, 0, 17) := okl_aload_n dX9_nextBlock_16 rfl
theorem t19_17 : e_ok mD19 17 (7, 0, 14, 3, 20) := And.intro (okw_get dX9_nextBlock_17 rfl hin_14 (by decide +kernel) (wg2 45 rfl rfl) rfl) (okx_none (by decide +kernel) _)
theorem t19_20 : e_ok mD19 20 (1, 0, 4, 0, 22) := okl_iload dX9_nextBlock_20
theorem t19_22 : e_ok mD19 22 (11, 2, 74, 2, 25) := And.intro (okCallX.M (okx_virtual (Da := mD74) dX9_nextBlock_22 rfl mwc_74 (wg4 48 rfl rfl) mwn_74 mwv_74 mwi_74 mwd_74)) (fun _ => okx_virtual (Da := mD74) dX9_nextBlock_22 rfl mwc_74 (wg4 48 rfl rfl) mwn_74 mwv_74 mwi_74 mwd_74)
theorem t19_25 : e_ok mD19 25 (1, 4, 5, 0, 27) := oks_istore dX9_nextBlock_25 (by decide +kernel)
theorem t19_27 : e_ok mD19 27 (1, 0, 5, 0, 29) := okl_iload dX9_nextBlock_27
theorem t19_29 : e_ok mD19 29 (5, 2, 56, 0, 32) := okj_lt dX9_nextBlock_29 (by decide +kernel)
theorem t19_32 : e_ok mD19 32 (1, 0, 5, 0, 34) := okl_iload dX9_nextBlock_32
theorem t19_34 : e_ok mD19 34 (1, 0, 3, 0, 35) := okl_iload_n dX9_nextBlock_34 rfl
theorem t19_35 : e_ok mD19 35 (6, 3, 56, 0, 38) := okk_ge dX9_nextBlock_35 (by decide +kernel)
theorem t19_38 : e_ok mD19 38 (1, 1, 0, 0, 39) := okl_aload_n dX9_nextBlock_38 rfl
theorem t19_39 : e_ok mD19 39 (7, 0, 14, 0, 42) := And.intro (okw_get dX9_nextBlock_39 rfl hin_14 (by decide +kernel) (wg2 42 rfl rfl) rfl) (okx_none (by decide +kernel) _)
theorem t19_42 : e_ok mD19 42 (1, 0, 4, 0, 44) := okl_iload dX9_nextBlock_42
theorem t19_44 : e_ok mD19 44 (11, 2, 51, 2, 47) := And.intro (okCallX.M (okx_virtual (Da := mD51) dX9_nextBlock_44 rfl mwc_51 (wg3 163 rfl rfl) mwn_51 mwv_51 mwi_51 mwd_51)) (fun _ => okx_virtual (Da := mD51) dX9_nextBlock_44 rfl mwc_51 (wg3 163 rfl rfl) mwn_51 mwv_51 mwi_51 mwd_51)
theorem t19_47 : e_ok mD19 47 (5, 0, 56, 0, 50) := okj_eq dX9_nextBlock_47 (by decide +kernel)
theorem t19_50 : e_ok mD19 50 (1, 0, 4, 0, 52) := okl_iload dX9_nextBlock_50
theorem t19_52 : e_ok mD19 52 (1, 4, 2, 0, 53) := oks_istore_n dX9_nextBlock_52 rfl (by decide +kernel)
theorem t19_53 : e_ok mD19 53 (1, 0, 5, 0, 55) := okl_iload dX9_nextBlock_53
theorem t19_55 : e_ok mD19 55 (1, 4, 3, 0, 56) := oks_istore_n dX9_nextBlock_55 rfl (by decide +kernel)
theorem t19_56 : e_ok mD19 56 (2, 0, 4, 1, 59) := oki_iinc dX9_nextBlock_56 (by decide +kernel) (by decide +kernel)
theorem t19_59 : e_ok mD19 59 (2, 4, 0, 0, 7) := oki_goto dX9_nextBlock_59 (by decide +kernel)
theorem t19_62 : e_ok mD19 62 (1, 0, 2, 0, 63) := okl_iload_n dX9_nextBlock_62 rfl
theorem t19_63 : e_ok mD19 63 (12, 1, 0, 0, 0) := okr_int dX9_nextBlock_63 rfl
theorem t20_0 : e_ok mD20 0 (1, 1, 0, 0, 1) := okl_aload_n dX9_passWeek_0 rfl
theorem t20_1 : e_ok mD20 1 (7, 0, 14, 3, 4) := And.intro (okw_get dX9_passWeek_1 rfl hin_14 (by decide +kernel) (wg2 45 rfl rfl) rfl) (okx_none (by decide +kernel) _)
theorem t20_4 : e_ok mD20 4 (11, 2, 75, 1, 7) := And.intro (okCallX.M (okx_virtual (Da := mD75) dX9_passWeek_4 rfl mwc_75 (wg4 38 rfl rfl) mwn_75 mwv_75 mwi_75 mwd_75)) (fun _ => okx_virtual (Da := mD75) dX9_passWeek_4 rfl mwc_75 (wg4 38 rfl rfl) mwn_75 mwv_75 mwi_75 mwd_75)
theorem t20_7 : e_ok mD20 7 (1, 1, 0, 0, 8) := okl_aload_n dX9_passWeek_7 rfl
theorem t20_8 : e_ok mD20 8 (7, 0, 14, 6, 11) := And.intro (okw_get dX9_passWeek_8 rfl hin_14 (by decide +kernel) (wg2 48 rfl rfl) rfl) (okx_none (by decide +kernel) _)
theorem t20_11 : e_ok mD20 11 (11, 2, 91, 1, 14) := And.intro (okCallX.M (okx_virtual (Da := mD91) dX9_passWeek_11 rfl mwc_91 (wg4 94 rfl rfl) mwn_91 mwv_91 mwi_91 mwd_91)) (fun _ => okx_virtual (Da := mD91) dX9_passWeek_11 rfl mwc_91 (wg4 94 rfl rfl) mwn_91 mwv_91 mwi_91 mwd_91)
theorem t20_14 : e_ok mD20 14 (1, 1, 0, 0, 15) := okl_aload_n dX9_passWeek_14 rfl
theorem t20_15 : e_ok mD20 15 (11, 2, 3, 1, 18) := And.intro (okCallX.M (okx_virtual (Da := mD3) dX9_passWeek_15 rfl mwc_3 (wg4 98 rfl rfl) mwn_3 mwv_3 mwi_3 mwd_3)) (fun _ => okx_virtual (Da := mD3) dX9_passWeek_15 rfl mwc_3 (wg4 98 rfl rfl) mwn_3 mwv_3 mwi_3 mwd_3)
theorem t20_18 : e_ok mD20 18 (1, 4, 1, 0, 19) := oks_istore_n dX9_passWeek_18 rfl (by decide +kernel)
theorem t20_19 : e_ok mD20 19 (1, 1, 0, 0, 20) := okl_aload_n dX9_passWeek_19 rfl
theorem t20_20 : e_ok mD20 20 (7, 0, 14, 4, 23) := And.intro (okw_get dX9_passWeek_20 rfl hin_14 (by decide +kernel) (wg2 46 rfl rfl) rfl) (okx_none (by decide +kernel) _)
theorem t20_23 : e_ok mD20 23 (0, 0, 115, 0, 25) := Or.inl (okc_bipush dX9_passWeek_23 (by decide +kernel))
theorem t20_25 : e_ok mD20 25 (11, 2, 57, 2, 28) := And.intro (okCallX.M (okx_virtual (Da := mD57) dX9_passWeek_25 rfl mwc_57 (wg4 74 rfl rfl) mwn_57 mwv_57 mwi_57 mwd_57)) (fun _ => okx_virtual (Da := mD57) dX9_passWeek_25 rfl mwc_57 (wg4 74 rfl rfl) mwn_57 mwv_57 mwi_57 mwd_57)
theorem t20_28 : e_ok mD20 28 (1, 4, 2, 0, 29) := oks_istore_n dX9_passWeek_28 rfl (by decide +kernel)
theorem t20_29 : e_ok mD20 29 (0, 0, 0, 0, 30) := Or.inl (okc_iconst dX9_passWeek_29 (by decide +kernel))
theorem t20_30 : e_ok mD20 30 (1, 4, 3, 0, 31) := oks_istore_n dX9_passWeek_30 rfl (by decide +kernel)
theorem t20_31 : e_ok mD20 31 (1, 0, 3, 0, 32) := okl_iload_n dX9_passWeek_31 rfl
theorem t20_32 : e_ok mD20 32 (1, 0, 2, 0, 33) := okl_iload_n dX9_passWeek_32 rfl
theorem t20_33 : e_ok mD20 33 (6, 3, 63, 0, 36) := okk_ge dX9_passWeek_33 (by decide +kernel)
theorem t20_36 : e_ok mD20 36 (1, 1, 0, 0, 37) := okl_aload_n dX9_passWeek_36 rfl
theorem t20_37 : e_ok mD20 37 (1, 0, 1, 0, 38) := okl_iload_n dX9_passWeek_37 rfl
theorem t20_38 : e_ok mD20 38 (11, 2, 19, 2, 41) := And.intro (okCallX.M (okx_virtual (Da := mD19) dX9_passWeek_38 rfl mwc_19 (wg4 109 rfl rfl) mwn_19 mwv_19 mwi_19 mwd_19)) (fun _ => okx_virtual (Da := mD19) dX9_passWeek_38 rfl mwc_19 (wg4 109 rfl rfl) mwn_19 mwv_19 mwi_19 mwd_19)
theorem t20_41 : e_ok mD20 41 (1, 4, 4, 0, 43) := oks_istore dX9_passWeek_41 (by decide +kernel)
theorem t20_43 : e_ok mD20 43 (1, 0, 4, 0, 45) := okl_iload dX9_passWeek_43
theorem t20_45 : e_ok mD20 45 (5, 3, 51, 0, 48) := okj_ge dX9_passWeek_45 (by decide +kernel)
theorem t20_48 : e_ok mD20 48 (2, 4, 0, 0, 63) := oki_goto dX9_passWeek_48 (by decide +kernel)
theorem t20_51 : e_ok mD20 51 (1, 1, 0, 0, 52) := okl_aload_n dX9_passWeek_51 rfl
theorem t20_52 : e_ok mD20 52 (1, 0, 4, 0, 54) := okl_iload dX9_passWeek_52
theorem t20_54 : e_ok mD20 54 (11, 2, 207, 2, 57) := And.intro (okCallX.M (okx_virtual (Da := mD207) dX9_passWeek_54 rfl mwc_207 (wg4 113 rfl rfl) mwn_207 mwv_207 mwi_207 mwd_207)) (fun _ => okx_virtual (Da := mD207) dX9_passWeek_54 rfl mwc_207 (wg4 113 rfl rfl) mwn_207 mwv_207 mwi_207 mwd_207)
theorem t20_57 : e_ok mD20 57 (2, 0, 3, 1, 60) := oki_iinc dX9_passWeek_57 (by decide +kernel) (by decide +kernel)
theorem t20_60 : e_ok mD20 60 (2, 4, 0, 0, 31) := oki_goto dX9_passWeek_60 (by decide +kernel)
theorem t20_63 : e_ok mD20 63 (1, 1, 0, 0, 64) := okl_aload_n dX9_passWeek_63 rfl
theorem t20_64 : e_ok mD20 64 (11, 2, 7, 1, 67) := And.intro (okCallX.M (okx_virtual (Da := mD7) dX9_passWeek_64 rfl mwc_7 (wg4 142 rfl rfl) mwn_7 mwv_7 mwi_7 mwd_7)) (fun _ => okx_virtual (Da := mD7) dX9_passWeek_64 rfl mwc_7 (wg4 142 rfl rfl) mwn_7 mwv_7 mwi_7 mwd_7)
theorem t20_67 : e_ok mD20 67 (1, 1, 0, 0, 68) := okl_aload_n dX9_passWeek_67 rfl
theorem t20_68 : e_ok mD20 68 (7, 0, 14, 8, 71) := And.intro (okw_get dX9_passWeek_68 rfl hin_14 (by decide +kernel) (wg2 50 rfl rfl) rfl) (okx_none (by decide +kernel) _)
theorem t20_71 : e_ok mD20 71 (2, 1, 0, 0, 72) := oki_dup dX9_passWeek_71
theorem t20_72 : e_ok mD20 72 (7, 0, 5, 6, 75) := And.intro (okw_getN dX9_passWeek_72 rfl hin_5 (by decide +kernel) (wn2 25 rfl rfl) rfl) (okx_none (by decide +kernel) _)
theorem t20_75 : e_ok mD20 75 (1, 1, 0, 0, 76) := okl_aload_n dX9_passWeek_75 rfl
theorem t20_76 : e_ok mD20 76 (7, 0, 14, 6, 79) := And.intro (okw_get dX9_passWeek_76 rfl hin_14 (by decide +kernel) (wg2 48 rfl rfl) rfl) (okx_none (by decide +kernel) _)
theorem t20_79 : e_ok mD20 79 (11, 2, 90, 1, 82) := And.intro (okCallX.M (okx_virtual (Da := mD90) dX9_passWeek_79 rfl mwc_90 (wg4 164 rfl rfl) mwn_90 mwv_90 mwi_90 mwd_90)) (fun _ => okx_virtual (Da := mD90) dX9_passWeek_79 rfl mwc_90 (wg4 164 rfl rfl) mwn_90 mwv_90 mwi_90 mwd_90)
theorem t20_82 : e_ok mD20 82 (1, 1, 0, 0, 83) := okl_aload_n dX9_passWeek_82 rfl
theorem t20_83 : e_ok mD20 83 (7, 0, 14, 4, 86) := And.intro (okw_get dX9_passWeek_83 rfl hin_14 (by decide +kernel) (wg2 46 rfl rfl) rfl) (okx_none (by decide +kernel) _)
theorem t20_86 : e_ok mD20 86 (0, 0, 109, 0, 88) := Or.inl (okc_bipush dX9_passWeek_86 (by decide +kernel))
theorem t20_88 : e_ok mD20 88 (11, 2, 57, 2, 91) := And.intro (okCallX.M (okx_virtual (Da := mD57) dX9_passWeek_88 rfl mwc_57 (wg4 74 rfl rfl) mwn_57 mwv_57 mwi_57 mwd_57)) (fun _ => okx_virtual (Da := mD57) dX9_passWeek_88 rfl mwc_57 (wg4 74 rfl rfl) mwn_57 mwv_57 mwi_57 mwd_57)
theorem t20_91 : e_ok mD20 91 (15, 5, 0, 0, 92) := okm_i2l dX9_passWeek_91
theorem t20_92 : e_ok mD20 92 (15, 2, 0, 0, 93) := okm_lmul dX9_passWeek_92
theorem t20_93 : e_ok mD20 93 (0, 1, 10, 0, 96) := okc_ldc2 dX9_passWeek_93 (wg4 175 rfl rfl)
theorem t20_96 : e_ok mD20 96 (15, 3, 0, 0, 97) := okm_ldiv dX9_passWeek_96
theorem t20_97 : e_ok mD20 97 (0, 1, 200, 0, 100) := okc_ldc2 dX9_passWeek_97 (wg4 176 rfl rfl)
theorem t20_100 : e_ok mD20 100 (1, 1, 0, 0, 101) := okl_aload_n dX9_passWeek_100 rfl
theorem t20_101 : e_ok mD20 101 (7, 0, 14, 6, 104) := And.intro (okw_get dX9_passWeek_101 rfl hin_14 (by decide +kernel) (wg2 48 rfl rfl) rfl) (okx_none (by decide +kernel) _)
theorem t20_104 : e_ok mD20 104 (7, 0, 12, 1, 107) := And.intro (okw_getN dX9_passWeek_104 rfl hin_12 (by decide +kernel) (wn1 208 rfl rfl) rfl) (okx_none (by decide +kernel) _)
theorem t20_107 : e_ok mD20 107 (15, 5, 0, 0, 108) := okm_i2l dX9_passWeek_107
theorem t20_108 : e_ok mD20 108 (15, 2, 0, 0, 109) := okm_lmul dX9_passWeek_108
theorem t20_109 : e_ok mD20 109 (15, 1, 0, 0, 110) := okm_lsub dX9_passWeek_109
theorem t20_110 : e_ok mD20 110 (15, 0, 0, 0, 111) := okm_ladd dX9_passWeek_110
theorem t20_111 : e_ok mD20 111 (9, 3, 5, 6, 114) := okw_putN dX9_passWeek_111 rfl hin_5 tyX0_ok nmX0 (by decide +kernel) (wn2 25 rfl rfl) rfl rfl (tyX0_ok 6 (by decide +kernel)) (fun V h => fitV_long h)
theorem t20_114 : e_ok mD20 114 (1, 1, 0, 0, 115) := okl_aload_n dX9_passWeek_114 rfl
theorem t20_115 : e_ok mD20 115 (7, 0, 14, 7, 118) := And.intro (okw_get dX9_passWeek_115 rfl hin_14 (by decide +kernel) (wg2 49 rfl rfl) rfl) (okx_none (by decide +kernel) _)
theorem t20_118 : e_ok mD20 118 (1, 1, 0, 0, 119) := okl_aload_n dX9_passWeek_118 rfl
theorem t20_119 : e_ok mD20 119 (7, 0, 14, 4, 122) := And.intro (okw_get dX9_passWeek_119 rfl hin_14 (by decide +kernel) (wg2 46 rfl rfl) rfl) (okx_none (by decide +kernel) _)
theorem t20_122 : e_ok mD20 122 (0, 0, 114, 0, 124) := Or.inl (okc_bipush dX9_passWeek_122 (by decide +kernel))
theorem t20_124 : e_ok mD20 124 (11, 2, 57, 2, 127) := And.intro (okCallX.M (okx_virtual (Da := mD57) dX9_passWeek_124 rfl mwc_57 (wg4 74 rfl rfl) mwn_57 mwv_57 mwi_57 mwd_57)) (fun _ => okx_virtual (Da := mD57) dX9_passWeek_124 rfl mwc_57 (wg4 74 rfl rfl) mwn_57 mwv_57 mwi_57 mwd_57)
theorem t20_127 : e_ok mD20 127 (1, 1, 0, 0, 128) := okl_aload_n dX9_passWeek_127 rfl
theorem t20_128 : e_ok mD20 128 (7, 0, 14, 4, 131) := And.intro (okw_get dX9_passWeek_128 rfl hin_14 (by decide +kernel) (wg2 46 rfl rfl) rfl) (okx_none (by decide +kernel) _)
theorem t20_131 : e_ok mD20 131 (0, 0, 119, 0, 133) := Or.inl (okc_bipush dX9_passWeek_131 (by decide +kernel))
theorem t20_133 : e_ok mD20 133 (11, 2, 57, 2, 136) := And.intro (okCallX.M (okx_virtual (Da := mD57) dX9_passWeek_133 rfl mwc_57 (wg4 74 rfl rfl) mwn_57 mwv_57 mwi_57 mwd_57)) (fun _ => okx_virtual (Da := mD57) dX9_passWeek_133 rfl mwc_57 (wg4 74 rfl rfl) mwn_57 mwv_57 mwi_57 mwd_57)
theorem t20_136 : e_ok mD20 136 (11, 2, 93, 3, 139) := And.intro (okCallX.M (okx_virtual (Da := mD93) dX9_passWeek_136 rfl mwc_93 (wg4 177 rfl rfl) mwn_93 mwv_93 mwi_93 mwd_93)) (fun _ => okx_virtual (Da := mD93) dX9_passWeek_136 rfl mwc_93 (wg4 177 rfl rfl) mwn_93 mwv_93 mwi_93 mwd_93)
theorem t20_139 : e_ok mD20 139 (1, 4, 3, 0, 140) := oks_istore_n dX9_passWeek_139 rfl (by decide +kernel)
theorem t20_140 : e_ok mD20 140 (1, 1, 0, 0, 141) := okl_aload_n dX9_passWeek_140 rfl
theorem t20_141 : e_ok mD20 141 (7, 0, 14, 8, 144) := And.intro (okw_get dX9_passWeek_141 rfl hin_14 (by decide +kernel) (wg2 50 rfl rfl) rfl) (okx_none (by decide +kernel) _)
theorem t20_144 : e_ok mD20 144 (2, 1, 0, 0, 145) := oki_dup dX9_passWeek_144
theorem t20_145 : e_ok mD20 145 (7, 0, 5, 6, 148) := And.intro (okw_getN dX9_passWeek_145 rfl hin_5 (by decide +kernel) (wn2 25 rfl rfl) rfl) (okx_none (by decide +kernel) _)
theorem t20_148 : e_ok mD20 148 (0, 0, 5, 0, 149) := Or.inl (okc_iconst dX9_passWeek_148 (by decide +kernel))
theorem t20_149 : e_ok mD20 149 (1, 0, 3, 0, 150) := okl_iload_n dX9_passWeek_149 rfl
theorem t20_150 : e_ok mD20 150 (0, 0, 9, 0, 152) := Or.inl (okc_bipush dX9_passWeek_150 (by decide +kernel))
theorem t20_152 : e_ok mD20 152 (3, 0, 0, 0, 153) := okb_iadd dX9_passWeek_152
theorem t20_153 : e_ok mD20 153 (0, 0, 10, 0, 155) := Or.inl (okc_bipush dX9_passWeek_153 (by decide +kernel))
theorem t20_155 : e_ok mD20 155 (3, 3, 0, 0, 156) := okb_idiv dX9_passWeek_155
theorem t20_156 : e_ok mD20 156 (3, 2, 0, 0, 157) := okb_imul dX9_passWeek_156
theorem t20_157 : e_ok mD20 157 (15, 5, 0, 0, 158) := okm_i2l dX9_passWeek_157
theorem t20_158 : e_ok mD20 158 (15, 1, 0, 0, 159) := okm_lsub dX9_passWeek_158
theorem t20_159 : e_ok mD20 159 (9, 3, 5, 6, 162) := okw_putN dX9_passWeek_159 rfl hin_5 tyX0_ok nmX0 (by decide +kernel) (wn2 25 rfl rfl) rfl rfl (tyX0_ok 6 (by decide +kernel)) (fun V h => fitV_long h)
theorem t20_162 : e_ok mD20 162 (1, 1, 0, 0, 163) := okl_aload_n dX9_passWeek_162 rfl
theorem t20_163 : e_ok mD20 163 (7, 0, 14, 8, 166) := And.intro (okw_get dX9_passWeek_163 rfl hin_14 (by decide +kernel) (wg2 50 rfl rfl) rfl) (okx_none (by decide +kernel) _)
theorem t20_166 : e_ok mD20 166 (2, 1, 0, 0, 167) := oki_dup dX9_passWeek_166
theorem t20_167 : e_ok mD20 167 (7, 0, 5, 5, 170) := And.intro (okw_getN dX9_passWeek_167 rfl hin_5 (by decide +kernel) (wn2 24 rfl rfl) rfl) (okx_none (by decide +kernel) _)
theorem t20_170 : e_ok mD20 170 (0, 0, 1, 0, 171) := Or.inl (okc_iconst dX9_passWeek_170 (by decide +kernel))
theorem t20_171 : e_ok mD20 171 (3, 0, 0, 0, 172) := okb_iadd dX9_passWeek_171
theorem t20_172 : e_ok mD20 172 (9, 0, 5, 5, 175) := okw_putN dX9_passWeek_172 rfl hin_5 tyX0_ok nmX0 (by decide +kernel) (wn2 24 rfl rfl) rfl rfl (tyX0_ok 5 (by decide +kernel)) (fun V h => fitV_int h)
theorem t20_175 : e_ok mD20 175 (12, 0, 0, 0, 0) := okr_void dX9_passWeek_175 rfl
theorem t21_0 : e_ok mD21 0 (1, 0, 1, 0, 1) := okl_iload_n dX9_phase_0 rfl
theorem t21_1 : e_ok mD21 1 (11, 0, 28, 1, 4) := And.intro (okCallX.M (okx_static (Da := mD28) dX9_phase_1 rfl mwc_28 (wg3 66 rfl rfl) mws_28 mwi_28 mwd_28)) (fun _ => okx_static (Da := mD28) dX9_phase_1 rfl mwc_28 (wg3 66 rfl rfl) mws_28 mwi_28 mwd_28)
theorem t21_4 : e_ok mD21 4 (1, 0, 1, 0, 5) := okl_iload_n dX9_phase_4 rfl
theorem t21_5 : e_ok mD21 5 (1, 1, 0, 0, 6) := okl_aload_n dX9_phase_5 rfl
theorem t21_6 : e_ok mD21 6 (7, 0, 14, 3, 9) := And.intro (okw_get dX9_phase_6 rfl hin_14 (by decide +kernel) (wg2 45 rfl rfl) rfl) (okx_none (by decide +kernel) _)
theorem t21_9 : e_ok mD21 9 (11, 2, 73, 1, 12) := And.intro (okCallX.M (okx_virtual (Da := mD73) dX9_phase_9 rfl mwc_73 (wg4 16 rfl rfl) mwn_73 mwv_73 mwi_73 mwd_73)) (fun _ => okx_virtual (Da := mD73) dX9_phase_9 rfl mwc_73 (wg4 16 rfl rfl) mwn_73 mwv_73 mwi_73 mwd_73)
theorem t21_12 : e_ok mD21 12 (6, 4, 25, 0, 15) := okk_gt dX9_phase_12 (by decide +kernel)
theorem t21_15 : e_ok mD21 15 (13, 0, 1, 0, 0) := okt_throw (text := "not greater than the price before") rfl (by decide +kernel) (wg3 12 rfl rfl) (wg1 26 rfl rfl) (by decide +kernel) (hat_of (by decide +kernel)) dX9_phase_15 dX9_phase_18 dX9_phase_19 dX9_phase_21 dX9_phase_24
theorem t21_18 : e_ok mD21 18 (2, 1, 0, 0, 19) := oki_dup dX9_phase_18
theorem t21_25 : e_ok mD21 25 (1, 1, 0, 0, 26) := okl_aload_n dX9_phase_25 rfl
theorem t21_26 : e_ok mD21 26 (7, 0, 14, 3, 29) := And.intro (okw_get dX9_phase_26 rfl hin_14 (by decide +kernel) (wg2 45 rfl rfl) rfl) (okx_none (by decide +kernel) _)
theorem t21_29 : e_ok mD21 29 (11, 2, 72, 1, 32) := And.intro (okCallX.M (okx_virtual (Da := mD72) dX9_phase_29 rfl mwc_72 (wg4 21 rfl rfl) mwn_72 mwv_72 mwi_72 mwd_72)) (fun _ => okx_virtual (Da := mD72) dX9_phase_29 rfl mwc_72 (wg4 21 rfl rfl) mwn_72 mwv_72 mwi_72 mwd_72)
theorem t21_32 : e_ok mD21 32 (5, 0, 45, 0, 35) := okj_eq dX9_phase_32 (by decide +kernel)
theorem t21_35 : e_ok mD21 35 (13, 0, 3, 0, 0) := okt_throw (text := "no more phases") rfl (by decide +kernel) (wg3 74 rfl rfl) (wg1 30 rfl rfl) (by decide +kernel) (hat_of (by decide +kernel)) dX9_phase_35 dX9_phase_38 dX9_phase_39 dX9_phase_41 dX9_phase_44
theorem t21_38 : e_ok mD21 38 (2, 1, 0, 0, 39) := oki_dup dX9_phase_38
theorem t21_45 : e_ok mD21 45 (1, 1, 0, 0, 46) := okl_aload_n dX9_phase_45 rfl
theorem t21_46 : e_ok mD21 46 (7, 0, 14, 3, 49) := And.intro (okw_get dX9_phase_46 rfl hin_14 (by decide +kernel) (wg2 45 rfl rfl) rfl) (okx_none (by decide +kernel) _)
theorem t21_49 : e_ok mD21 49 (1, 0, 1, 0, 50) := okl_iload_n dX9_phase_49 rfl
theorem t21_50 : e_ok mD21 50 (11, 2, 69, 2, 53) := And.intro (okCallX.M (okx_virtual (Da := mD69) dX9_phase_50 rfl mwc_69 (wg4 26 rfl rfl) mwn_69 mwv_69 mwi_69 mwd_69)) (fun _ => okx_virtual (Da := mD69) dX9_phase_50 rfl mwc_69 (wg4 26 rfl rfl) mwn_69 mwv_69 mwi_69 mwd_69)
theorem t21_53 : e_ok mD21 53 (1, 1, 0, 0, 54) := okl_aload_n dX9_phase_53 rfl
theorem t21_54 : e_ok mD21 54 (7, 0, 14, 3, 57) := And.intro (okw_get dX9_phase_54 rfl hin_14 (by decide +kernel) (wg2 45 rfl rfl) rfl) (okx_none (by decide +kernel) _)
theorem t21_57 : e_ok mD21 57 (7, 0, 9, 4, 60) := And.intro (okw_getN dX9_phase_57 rfl hin_9 (by decide +kernel) (wn1 146 rfl rfl) rfl) (okx_none (by decide +kernel) _)
theorem t21_60 : e_ok mD21 60 (12, 1, 0, 0, 0) := okr_int dX9_phase_60 rfl
theorem t22_0 : e_ok mD22 0 (1, 0, 1, 0, 1) := okl_iload_n dX9_phaseOf_0 rfl
theorem t22_1 : e_ok mD22 1 (11, 0, 26, 1, 4) := And.intro (okCallX.M (okx_static (Da := mD26) dX9_phaseOf_1 rfl mwc_26 (wg2 235 rfl rfl) mws_26 mwi_26 mwd_26)) (fun _ => okx_static (Da := mD26) dX9_phaseOf_1 rfl mwc_26 (wg2 235 rfl rfl) mws_26 mwi_26 mwd_26)
theorem t22_4 : e_ok mD22 4 (1, 1, 0, 0, 5) := okl_aload_n dX9_phaseOf_4 rfl
theorem t22_5 : e_ok mD22 5 (7, 0, 14, 3, 8) := And.intro (okw_get dX9_phaseOf_5 rfl hin_14 (by decide +kernel) (wg2 45 rfl rfl) rfl) (okx_none (by decide +kernel) _)
theorem t22_8 : e_ok mD22 8 (11, 2, 75, 1, 11) := And.intro (okCallX.M (okx_virtual (Da := mD75) dX9_phaseOf_8 rfl mwc_75 (wg4 38 rfl rfl) mwn_75 mwv_75 mwi_75 mwd_75)) (fun _ => okx_virtual (Da := mD75) dX9_phaseOf_8 rfl mwc_75 (wg4 38 rfl rfl) mwn_75 mwv_75 mwi_75 mwd_75)
theorem t22_11 : e_ok mD22 11 (1, 1, 0, 0, 12) := okl_aload_n dX9_phaseOf_11 rfl
theorem t22_12 : e_ok mD22 12 (7, 0, 14, 3, 15) := And.intro (okw_get dX9_phaseOf_12 rfl hin_14 (by decide +kernel) (wg2 45 rfl rfl) rfl) (okx_none (by decide +kernel) _)
theorem t22_15 : e_ok mD22 15 (1, 0, 1, 0, 16) := okl_iload_n dX9_phaseOf_15 rfl
theorem t22_16 : e_ok mD22 16 (11, 2, 74, 2, 19) := And.intro (okCallX.M (okx_virtual (Da := mD74) dX9_phaseOf_16 rfl mwc_74 (wg4 48 rfl rfl) mwn_74 mwv_74 mwi_74 mwd_74)) (fun _ => okx_virtual (Da := mD74) dX9_phaseOf_16 rfl mwc_74 (wg4 48 rfl rfl) mwn_74 mwv_74 mwi_74 mwd_74)
theorem t22_19 : e_ok mD22 19 (12, 1, 0, 0, 0) := okr_int dX9_phaseOf_19 rfl
theorem t23_0 : e_ok mD23 0 (1, 0, 1, 0, 1) := okl_iload_n dX9_pitSize_0 rfl
theorem t23_1 : e_ok mD23 1 (11, 0, 28, 1, 4) := And.intro (okCallX.M (okx_static (Da := mD28) dX9_pitSize_1 rfl mwc_28 (wg3 66 rfl rfl) mws_28 mwi_28 mwd_28)) (fun _ => okx_static (Da := mD28) dX9_pitSize_1 rfl mwc_28 (wg3 66 rfl rfl) mws_28 mwi_28 mwd_28)
theorem t23_4 : e_ok mD23 4 (1, 1, 0, 0, 5) := okl_aload_n dX9_pitSize_4 rfl
theorem t23_5 : e_ok mD23 5 (7, 0, 14, 2, 8) := And.intro (okw_get dX9_pitSize_5 rfl hin_14 (by decide +kernel) (wg2 44 rfl rfl) rfl) (okx_none (by decide +kernel) _)
theorem t23_8 : e_ok mD23 8 (1, 0, 1, 0, 9) := okl_iload_n dX9_pitSize_8 rfl
theorem t23_9 : e_ok mD23 9 (11, 2, 82, 2, 12) := And.intro (okCallX.M (okx_virtual (Da := mD82) dX9_pitSize_9 rfl mwc_82 (wg3 181 rfl rfl) mwn_82 mwv_82 mwi_82 mwd_82)) (fun _ => okx_virtual (Da := mD82) dX9_pitSize_9 rfl mwc_82 (wg3 181 rfl rfl) mwn_82 mwv_82 mwi_82 mwd_82)
theorem t23_12 : e_ok mD23 12 (1, 1, 0, 0, 13) := okl_aload_n dX9_pitSize_12 rfl
theorem t23_13 : e_ok mD23 13 (7, 0, 14, 2, 16) := And.intro (okw_get dX9_pitSize_13 rfl hin_14 (by decide +kernel) (wg2 44 rfl rfl) rfl) (okx_none (by decide +kernel) _)
theorem t23_16 : e_ok mD23 16 (7, 0, 11, 9, 19) := And.intro (okw_getN dX9_pitSize_16 rfl hin_11 (by decide +kernel) (wn1 113 rfl rfl) rfl) (okx_none (by decide +kernel) _)
theorem t23_19 : e_ok mD23 19 (12, 1, 0, 0, 0) := okr_int dX9_pitSize_19 rfl
theorem t24_0 : e_ok mD24 0 (1, 0, 1, 0, 1) := okl_iload_n dX9_pitWorth_0 rfl
theorem t24_1 : e_ok mD24 1 (11, 0, 28, 1, 4) := And.intro (okCallX.M (okx_static (Da := mD28) dX9_pitWorth_1 rfl mwc_28 (wg3 66 rfl rfl) mws_28 mwi_28 mwd_28)) (fun _ => okx_static (Da := mD28) dX9_pitWorth_1 rfl mwc_28 (wg3 66 rfl rfl) mws_28 mwi_28 mwd_28)
theorem t24_4 : e_ok mD24 4 (1, 1, 0, 0, 5) := okl_aload_n dX9_pitWorth_4 rfl
theorem t24_5 : e_ok mD24 5 (7, 0, 14, 2, 8) := And.intro (okw_get dX9_pitWorth_5 rfl hin_14 (by decide +kernel) (wg2 44 rfl rfl) rfl) (okx_none (by decide +kernel) _)
theorem t24_8 : e_ok mD24 8 (1, 0, 1, 0, 9) := okl_iload_n dX9_pitWorth_8 rfl
theorem t24_9 : e_ok mD24 9 (11, 2, 82, 2, 12) := And.intro (okCallX.M (okx_virtual (Da := mD82) dX9_pitWorth_9 rfl mwc_82 (wg3 181 rfl rfl) mwn_82 mwv_82 mwi_82 mwd_82)) (fun _ => okx_virtual (Da := mD82) dX9_pitWorth_9 rfl mwc_82 (wg3 181 rfl rfl) mwn_82 mwv_82 mwi_82 mwd_82)
theorem t24_12 : e_ok mD24 12 (1, 1, 0, 0, 13) := okl_aload_n dX9_pitWorth_12 rfl
theorem t24_13 : e_ok mD24 13 (7, 0, 14, 2, 16) := And.intro (okw_get dX9_pitWorth_13 rfl hin_14 (by decide +kernel) (wg2 44 rfl rfl) rfl) (okx_none (by decide +kernel) _)
theorem t24_16 : e_ok mD24 16 (7, 0, 11, 8, 19) := And.intro (okw_getN dX9_pitWorth_16 rfl hin_11 (by decide +kernel) (wn1 111 rfl rfl) rfl) (okx_none (by decide +kernel) _)
theorem t24_19 : e_ok mD24 19 (12, 2, 0, 0, 0) := okr_long dX9_pitWorth_19 rfl
theorem t25_0 : e_ok mD25 0 (1, 1, 0, 0, 1) := okl_aload_n dX9_recovery_0 rfl
theorem t25_1 : e_ok mD25 1 (7, 0, 14, 6, 4) := And.intro (okw_get dX9_recovery_1 rfl hin_14 (by decide +kernel) (wg2 48 rfl rfl) rfl) (okx_none (by decide +kernel) _)
theorem t25_4 : e_ok mD25 4 (7, 0, 12, 5, 7) := And.intro (okw_getN dX9_recovery_4 rfl hin_12 (by decide +kernel) (wn1 215 rfl rfl) rfl) (okx_none (by decide +kernel) _)
theorem t25_7 : e_ok mD25 7 (5, 1, 20, 0, 10) := okj_ne dX9_recovery_7 (by decide +kernel)
theorem t25_13 : e_ok mD25 13 (2, 1, 0, 0, 14) := oki_dup dX9_recovery_13
theorem t25_20 : e_ok mD25 20 (1, 1, 0, 0, 21) := okl_aload_n dX9_recovery_20 rfl
theorem t25_21 : e_ok mD25 21 (7, 0, 14, 6, 24) := And.intro (okw_get dX9_recovery_21 rfl hin_14 (by decide +kernel) (wg2 48 rfl rfl) rfl) (okx_none (by decide +kernel) _)
theorem t25_24 : e_ok mD25 24 (7, 0, 12, 7, 27) := And.intro (okw_getN dX9_recovery_24 rfl hin_12 (by decide +kernel) (wn1 218 rfl rfl) rfl) (okx_none (by decide +kernel) _)
theorem t25_27 : e_ok mD25 27 (12, 1, 0, 0, 0) := okr_int dX9_recovery_27 rfl
theorem t26_0 : e_ok mD26 0 (1, 0, 0, 0, 1) := okl_iload_n dX9_requireBlock_0 rfl
theorem t26_1 : e_ok mD26 1 (11, 0, 11, 1, 4) := And.intro (okCallX.M (okx_static (Da := mD11) dX9_requireBlock_1 rfl mwc_11 (wg2 238 rfl rfl) mws_11 mwi_11 mwd_11)) (fun _ => okx_static (Da := mD11) dX9_requireBlock_1 rfl mwc_11 (wg2 238 rfl rfl) mws_11 mwi_11 mwd_11)
theorem t26_4 : e_ok mD26 4 (5, 1, 18, 0, 7) := okj_ne dX9_requireBlock_4 (by decide +kernel)
theorem t26_7 : e_ok mD26 7 (13, 0, 0, 0, 0) := okt_throwW (text := "no such block") rfl (by decide +kernel) (wg2 239 rfl rfl) (wg1 23 rfl rfl) (by decide +kernel) (hat_of (by decide +kernel)) dX9_requireBlock_7 dX9_requireBlock_10 dX9_requireBlock_11 dX9_requireBlock_14 dX9_requireBlock_17
theorem t26_10 : e_ok mD26 10 (2, 1, 0, 0, 11) := oki_dup dX9_requireBlock_10
theorem t26_18 : e_ok mD26 18 (12, 0, 0, 0, 0) := okr_void dX9_requireBlock_18 rfl
theorem t27_0 : e_ok mD27 0 (1, 1, 0, 0, 1) := okl_aload_n dX9_requireDug_0 rfl
theorem t27_1 : e_ok mD27 1 (7, 0, 14, 0, 4) := And.intro (okw_get dX9_requireDug_1 rfl hin_14 (by decide +kernel) (wg2 42 rfl rfl) rfl) (okx_none (by decide +kernel) _)
theorem t27_4 : e_ok mD27 4 (1, 0, 1, 0, 5) := okl_iload_n dX9_requireDug_4 rfl
theorem t27_5 : e_ok mD27 5 (11, 2, 53, 2, 8) := And.intro (okCallX.M (okx_virtual (Da := mD53) dX9_requireDug_5 rfl mwc_53 (wg3 32 rfl rfl) mwn_53 mwv_53 mwi_53 mwd_53)) (fun _ => okx_virtual (Da := mD53) dX9_requireDug_5 rfl mwc_53 (wg3 32 rfl rfl) mwn_53 mwv_53 mwi_53 mwd_53)
theorem t27_8 : e_ok mD27 8 (5, 1, 22, 0, 11) := okj_ne dX9_requireDug_8 (by decide +kernel)
theorem t27_14 : e_ok mD27 14 (2, 1, 0, 0, 15) := oki_dup dX9_requireDug_14
theorem t27_22 : e_ok mD27 22 (12, 0, 0, 0, 0) := okr_void dX9_requireDug_22 rfl
theorem t28_0 : e_ok mD28 0 (1, 0, 0, 0, 1) := okl_iload_n dX9_requireHundred_0 rfl
theorem t28_1 : e_ok mD28 1 (5, 2, 10, 0, 4) := okj_lt dX9_requireHundred_1 (by decide +kernel)
theorem t28_4 : e_ok mD28 4 (1, 0, 0, 0, 5) := okl_iload_n dX9_requireHundred_4 rfl
theorem t28_5 : e_ok mD28 5 (0, 0, 99, 0, 7) := Or.inl (okc_bipush dX9_requireHundred_5 (by decide +kernel))
theorem t28_7 : e_ok mD28 7 (6, 5, 21, 0, 10) := okk_le dX9_requireHundred_7 (by decide +kernel)
theorem t28_10 : e_ok mD28 10 (13, 0, 1, 0, 0) := okt_throwW (text := "out of range") rfl (by decide +kernel) (wg3 12 rfl rfl) (wg1 26 rfl rfl) (by decide +kernel) (hat_of (by decide +kernel)) dX9_requireHundred_10 dX9_requireHundred_13 dX9_requireHundred_14 dX9_requireHundred_17 dX9_requireHundred_20
theorem t28_13 : e_ok mD28 13 (2, 1, 0, 0, 14) := oki_dup dX9_requireHundred_13
theorem t28_21 : e_ok mD28 21 (12, 0, 0, 0, 0) := okr_void dX9_requireHundred_21 rfl
theorem t29_0 : e_ok mD29 0 (1, 1, 0, 0, 1) := okl_aload_n dX9_requireUndug_0 rfl
theorem t29_1 : e_ok mD29 1 (7, 0, 14, 0, 4) := And.intro (okw_get dX9_requireUndug_1 rfl hin_14 (by decide +kernel) (wg2 42 rfl rfl) rfl) (okx_none (by decide +kernel) _)
theorem t29_4 : e_ok mD29 4 (1, 0, 1, 0, 5) := okl_iload_n dX9_requireUndug_4 rfl
theorem t29_5 : e_ok mD29 5 (11, 2, 53, 2, 8) := And.intro (okCallX.M (okx_virtual (Da := mD53) dX9_requireUndug_5 rfl mwc_53 (wg3 32 rfl rfl) mwn_53 mwv_53 mwi_53 mwd_53)) (fun _ => okx_virtual (Da := mD53) dX9_requireUndug_5 rfl mwc_53 (wg3 32 rfl rfl) mwn_53 mwv_53 mwi_53 mwd_53)
theorem t29_8 : e_ok mD29 8 (5, 0, 22, 0, 11) := okj_eq dX9_requireUndug_8 (by decide +kernel)
theorem t29_11 : e_ok mD29 11 (13, 0, 2, 0, 0) := okt_throwW (text := "the block has been dug") rfl (by decide +kernel) (wg3 33 rfl rfl) (wg1 27 rfl rfl) (by decide +kernel) (hat_of (by decide +kernel)) dX9_requireUndug_11 dX9_requireUndug_14 dX9_requireUndug_15 dX9_requireUndug_18 dX9_requireUndug_21
theorem t29_14 : e_ok mD29 14 (2, 1, 0, 0, 15) := oki_dup dX9_requireUndug_14
theorem t29_22 : e_ok mD29 22 (12, 0, 0, 0, 0) := okr_void dX9_requireUndug_22 rfl
theorem t30_0 : e_ok mD30 0 (1, 0, 1, 0, 1) := okl_iload_n dX9_rock_0 rfl
theorem t30_1 : e_ok mD30 1 (11, 0, 26, 1, 4) := And.intro (okCallX.M (okx_static (Da := mD26) dX9_rock_1 rfl mwc_26 (wg2 235 rfl rfl) mws_26 mwi_26 mwd_26)) (fun _ => okx_static (Da := mD26) dX9_rock_1 rfl mwc_26 (wg2 235 rfl rfl) mws_26 mwi_26 mwd_26)
theorem t30_4 : e_ok mD30 4 (1, 0, 2, 0, 5) := okl_iload_n dX9_rock_4 rfl
theorem t30_5 : e_ok mD30 5 (0, 0, 115, 0, 7) := Or.inl (okc_bipush dX9_rock_5 (by decide +kernel))
theorem t30_7 : e_ok mD30 7 (6, 0, 26, 0, 10) := okk_eq dX9_rock_7 (by decide +kernel)
theorem t30_10 : e_ok mD30 10 (1, 0, 2, 0, 11) := okl_iload_n dX9_rock_10 rfl
theorem t30_11 : e_ok mD30 11 (0, 0, 104, 0, 13) := Or.inl (okc_bipush dX9_rock_11 (by decide +kernel))
theorem t30_13 : e_ok mD30 13 (6, 0, 26, 0, 16) := okk_eq dX9_rock_13 (by decide +kernel)
theorem t30_16 : e_ok mD30 16 (13, 0, 1, 0, 0) := okt_throw (text := "no such rock") rfl (by decide +kernel) (wg3 12 rfl rfl) (wg1 26 rfl rfl) (by decide +kernel) (hat_of (by decide +kernel)) dX9_rock_16 dX9_rock_19 dX9_rock_20 dX9_rock_22 dX9_rock_25
theorem t30_19 : e_ok mD30 19 (2, 1, 0, 0, 20) := oki_dup dX9_rock_19
theorem t30_26 : e_ok mD30 26 (1, 1, 0, 0, 27) := okl_aload_n dX9_rock_26 rfl
theorem t30_27 : e_ok mD30 27 (1, 0, 1, 0, 28) := okl_iload_n dX9_rock_27 rfl
theorem t30_28 : e_ok mD30 28 (11, 2, 29, 2, 31) := And.intro (okCallX.M (okx_virtual (Da := mD29) dX9_rock_28 rfl mwc_29 (wg3 28 rfl rfl) mwn_29 mwv_29 mwi_29 mwd_29)) (fun _ => okx_virtual (Da := mD29) dX9_rock_28 rfl mwc_29 (wg3 28 rfl rfl) mwn_29 mwv_29 mwi_29 mwd_29)
theorem t30_31 : e_ok mD30 31 (1, 1, 0, 0, 32) := okl_aload_n dX9_rock_31 rfl
theorem t30_32 : e_ok mD30 32 (7, 0, 14, 0, 35) := And.intro (okw_get dX9_rock_32 rfl hin_14 (by decide +kernel) (wg2 42 rfl rfl) rfl) (okx_none (by decide +kernel) _)
theorem t30_35 : e_ok mD30 35 (1, 0, 1, 0, 36) := okl_iload_n dX9_rock_35 rfl
theorem t30_36 : e_ok mD30 36 (11, 2, 50, 2, 39) := And.intro (okCallX.M (okx_virtual (Da := mD50) dX9_rock_36 rfl mwc_50 (wg3 49 rfl rfl) mwn_50 mwv_50 mwi_50 mwd_50)) (fun _ => okx_virtual (Da := mD50) dX9_rock_36 rfl mwc_50 (wg3 49 rfl rfl) mwn_50 mwv_50 mwi_50 mwd_50)
theorem t30_39 : e_ok mD30 39 (5, 0, 47, 0, 42) := okj_eq dX9_rock_39 (by decide +kernel)
theorem t30_42 : e_ok mD30 42 (0, 0, 104, 0, 44) := Or.inl (okc_bipush dX9_rock_42 (by decide +kernel))
theorem t30_44 : e_ok mD30 44 (2, 4, 0, 0, 49) := oki_goto dX9_rock_44 (by decide +kernel)
theorem t30_47 : e_ok mD30 47 (0, 0, 115, 0, 49) := Or.inl (okc_bipush dX9_rock_47 (by decide +kernel))
theorem t30_49 : e_ok mD30 49 (1, 4, 3, 0, 50) := oks_istore_n dX9_rock_49 rfl (by decide +kernel)
theorem t30_50 : e_ok mD30 50 (1, 1, 0, 0, 51) := okl_aload_n dX9_rock_50 rfl
theorem t30_51 : e_ok mD30 51 (7, 0, 14, 0, 54) := And.intro (okw_get dX9_rock_51 rfl hin_14 (by decide +kernel) (wg2 42 rfl rfl) rfl) (okx_none (by decide +kernel) _)
theorem t30_54 : e_ok mD30 54 (1, 0, 1, 0, 55) := okl_iload_n dX9_rock_54 rfl
theorem t30_55 : e_ok mD30 55 (1, 0, 2, 0, 56) := okl_iload_n dX9_rock_55 rfl
theorem t30_56 : e_ok mD30 56 (0, 0, 104, 0, 58) := Or.inl (okc_bipush dX9_rock_56 (by decide +kernel))
theorem t30_58 : e_ok mD30 58 (6, 1, 65, 0, 61) := okk_ne dX9_rock_58 (by decide +kernel)
theorem t30_61 : e_ok mD30 61 (0, 0, 1, 0, 62) := Or.inl (okc_iconst dX9_rock_61 (by decide +kernel))
theorem t30_62 : e_ok mD30 62 (2, 4, 0, 0, 66) := oki_goto dX9_rock_62 (by decide +kernel)
theorem t30_65 : e_ok mD30 65 (0, 0, 0, 0, 66) := Or.inl (okc_iconst dX9_rock_65 (by decide +kernel))
theorem t30_66 : e_ok mD30 66 (11, 2, 49, 3, 69) := And.intro (okCallX.M (okx_virtual (Da := mD49) dX9_rock_66 rfl mwc_49 (wg3 50 rfl rfl) mwn_49 mwv_49 mwi_49 mwd_49)) (fun _ => okx_virtual (Da := mD49) dX9_rock_66 rfl mwc_49 (wg3 50 rfl rfl) mwn_49 mwv_49 mwi_49 mwd_49)
theorem t30_69 : e_ok mD30 69 (1, 1, 0, 0, 70) := okl_aload_n dX9_rock_69 rfl
theorem t30_70 : e_ok mD30 70 (7, 0, 14, 3, 73) := And.intro (okw_get dX9_rock_70 rfl hin_14 (by decide +kernel) (wg2 45 rfl rfl) rfl) (okx_none (by decide +kernel) _)
theorem t30_73 : e_ok mD30 73 (11, 2, 71, 1, 76) := And.intro (okCallX.M (okx_virtual (Da := mD71) dX9_rock_73 rfl mwc_71 (wg3 54 rfl rfl) mwn_71 mwv_71 mwi_71 mwd_71)) (fun _ => okx_virtual (Da := mD71) dX9_rock_73 rfl mwc_71 (wg3 54 rfl rfl) mwn_71 mwv_71 mwi_71 mwd_71)
theorem t30_76 : e_ok mD30 76 (1, 0, 3, 0, 77) := okl_iload_n dX9_rock_76 rfl
theorem t30_77 : e_ok mD30 77 (12, 7, 0, 0, 0) := okr_char dX9_rock_77 rfl
theorem t31_0 : e_ok mD31 0 (1, 0, 1, 0, 1) := okl_iload_n dX9_sample_0 rfl
theorem t31_1 : e_ok mD31 1 (11, 0, 26, 1, 4) := And.intro (okCallX.M (okx_static (Da := mD26) dX9_sample_1 rfl mwc_26 (wg2 235 rfl rfl) mws_26 mwi_26 mwd_26)) (fun _ => okx_static (Da := mD26) dX9_sample_1 rfl mwc_26 (wg2 235 rfl rfl) mws_26 mwi_26 mwd_26)
theorem t31_4 : e_ok mD31 4 (1, 0, 2, 0, 5) := okl_iload_n dX9_sample_4 rfl
theorem t31_5 : e_ok mD31 5 (11, 0, 28, 1, 8) := And.intro (okCallX.M (okx_static (Da := mD28) dX9_sample_5 rfl mwc_28 (wg3 66 rfl rfl) mws_28 mwi_28 mwd_28)) (fun _ => okx_static (Da := mD28) dX9_sample_5 rfl mwc_28 (wg3 66 rfl rfl) mws_28 mwi_28 mwd_28)
theorem t31_8 : e_ok mD31 8 (1, 1, 0, 0, 9) := okl_aload_n dX9_sample_8 rfl
theorem t31_9 : e_ok mD31 9 (7, 0, 14, 1, 12) := And.intro (okw_get dX9_sample_9 rfl hin_14 (by decide +kernel) (wg2 43 rfl rfl) rfl) (okx_none (by decide +kernel) _)
theorem t31_12 : e_ok mD31 12 (11, 2, 63, 1, 15) := And.intro (okCallX.M (okx_virtual (Da := mD63) dX9_sample_12 rfl mwc_63 (wg3 70 rfl rfl) mwn_63 mwv_63 mwi_63 mwd_63)) (fun _ => okx_virtual (Da := mD63) dX9_sample_12 rfl mwc_63 (wg3 70 rfl rfl) mwn_63 mwv_63 mwi_63 mwd_63)
theorem t31_15 : e_ok mD31 15 (5, 0, 28, 0, 18) := okj_eq dX9_sample_15 (by decide +kernel)
theorem t31_18 : e_ok mD31 18 (13, 0, 3, 0, 0) := okt_throw (text := "no more samples") rfl (by decide +kernel) (wg3 74 rfl rfl) (wg1 30 rfl rfl) (by decide +kernel) (hat_of (by decide +kernel)) dX9_sample_18 dX9_sample_21 dX9_sample_22 dX9_sample_24 dX9_sample_27
theorem t31_21 : e_ok mD31 21 (2, 1, 0, 0, 22) := oki_dup dX9_sample_21
theorem t31_28 : e_ok mD31 28 (1, 1, 0, 0, 29) := okl_aload_n dX9_sample_28 rfl
theorem t31_29 : e_ok mD31 29 (7, 0, 14, 1, 32) := And.intro (okw_get dX9_sample_29 rfl hin_14 (by decide +kernel) (wg2 43 rfl rfl) rfl) (okx_none (by decide +kernel) _)
theorem t31_32 : e_ok mD31 32 (1, 0, 1, 0, 33) := okl_iload_n dX9_sample_32 rfl
theorem t31_33 : e_ok mD31 33 (1, 0, 2, 0, 34) := okl_iload_n dX9_sample_33 rfl
theorem t31_34 : e_ok mD31 34 (11, 2, 61, 3, 37) := And.intro (okCallX.M (okx_virtual (Da := mD61) dX9_sample_34 rfl mwc_61 (wg3 90 rfl rfl) mwn_61 mwv_61 mwi_61 mwd_61)) (fun _ => okx_virtual (Da := mD61) dX9_sample_34 rfl mwc_61 (wg3 90 rfl rfl) mwn_61 mwv_61 mwi_61 mwd_61)
theorem t31_37 : e_ok mD31 37 (1, 1, 0, 0, 38) := okl_aload_n dX9_sample_37 rfl
theorem t31_38 : e_ok mD31 38 (7, 0, 14, 3, 41) := And.intro (okw_get dX9_sample_38 rfl hin_14 (by decide +kernel) (wg2 45 rfl rfl) rfl) (okx_none (by decide +kernel) _)
theorem t31_41 : e_ok mD31 41 (11, 2, 71, 1, 44) := And.intro (okCallX.M (okx_virtual (Da := mD71) dX9_sample_41 rfl mwc_71 (wg3 54 rfl rfl) mwn_71 mwv_71 mwi_71 mwd_71)) (fun _ => okx_virtual (Da := mD71) dX9_sample_41 rfl mwc_71 (wg3 54 rfl rfl) mwn_71 mwv_71 mwi_71 mwd_71)
theorem t31_44 : e_ok mD31 44 (1, 1, 0, 0, 45) := okl_aload_n dX9_sample_44 rfl
theorem t31_45 : e_ok mD31 45 (7, 0, 14, 1, 48) := And.intro (okw_get dX9_sample_45 rfl hin_14 (by decide +kernel) (wg2 43 rfl rfl) rfl) (okx_none (by decide +kernel) _)
theorem t31_48 : e_ok mD31 48 (7, 0, 8, 3, 51) := And.intro (okw_getN dX9_sample_48 rfl hin_8 (by decide +kernel) (wn1 84 rfl rfl) rfl) (okx_none (by decide +kernel) _)
theorem t31_51 : e_ok mD31 51 (12, 1, 0, 0, 0) := okr_int dX9_sample_51 rfl
theorem t32_0 : e_ok mD32 0 (1, 1, 0, 0, 1) := okl_aload_n dX9_set_0 rfl
theorem t32_1 : e_ok mD32 1 (7, 0, 14, 4, 4) := And.intro (okw_get dX9_set_1 rfl hin_14 (by decide +kernel) (wg2 46 rfl rfl) rfl) (okx_none (by decide +kernel) _)
theorem t32_4 : e_ok mD32 4 (1, 0, 1, 0, 5) := okl_iload_n dX9_set_4 rfl
theorem t32_5 : e_ok mD32 5 (11, 2, 59, 2, 8) := And.intro (okCallX.M (okx_virtual (Da := mD59) dX9_set_5 rfl mwc_59 (wg4 61 rfl rfl) mwn_59 mwv_59 mwi_59 mwd_59)) (fun _ => okx_virtual (Da := mD59) dX9_set_5 rfl mwc_59 (wg4 61 rfl rfl) mwn_59 mwv_59 mwi_59 mwd_59)
theorem t32_8 : e_ok mD32 8 (1, 4, 3, 0, 9) := oks_istore_n dX9_set_8 rfl (by decide +kernel)
theorem t32_9 : e_ok mD32 9 (1, 0, 3, 0, 10) := okl_iload_n dX9_set_9 rfl
theorem t32_10 : e_ok mD32 10 (5, 3, 23, 0, 13) := okj_ge dX9_set_10 (by decide +kernel)
theorem t32_13 : e_ok mD32 13 (13, 0, 1, 0, 0) := okt_throw (text := "no such kind") rfl (by decide +kernel) (wg3 12 rfl rfl) (wg1 26 rfl rfl) (by decide +kernel) (hat_of (by decide +kernel)) dX9_set_13 dX9_set_16 dX9_set_17 dX9_set_19 dX9_set_22
theorem t32_16 : e_ok mD32 16 (2, 1, 0, 0, 17) := oki_dup dX9_set_16
theorem t32_23 : e_ok mD32 23 (1, 0, 2, 0, 24) := okl_iload_n dX9_set_23 rfl
theorem t32_24 : e_ok mD32 24 (5, 2, 32, 0, 27) := okj_lt dX9_set_24 (by decide +kernel)
theorem t32_27 : e_ok mD32 27 (1, 0, 2, 0, 28) := okl_iload_n dX9_set_27 rfl
theorem t32_28 : e_ok mD32 28 (1, 0, 3, 0, 29) := okl_iload_n dX9_set_28 rfl
theorem t32_29 : e_ok mD32 29 (6, 5, 42, 0, 32) := okk_le dX9_set_29 (by decide +kernel)
theorem t32_32 : e_ok mD32 32 (13, 0, 1, 0, 0) := okt_throw (text := "the number is out of range") rfl (by decide +kernel) (wg3 12 rfl rfl) (wg1 26 rfl rfl) (by decide +kernel) (hat_of (by decide +kernel)) dX9_set_32 dX9_set_35 dX9_set_36 dX9_set_38 dX9_set_41
theorem t32_35 : e_ok mD32 35 (2, 1, 0, 0, 36) := oki_dup dX9_set_35
theorem t32_42 : e_ok mD32 42 (1, 1, 0, 0, 43) := okl_aload_n dX9_set_42 rfl
theorem t32_43 : e_ok mD32 43 (7, 0, 14, 4, 46) := And.intro (okw_get dX9_set_43 rfl hin_14 (by decide +kernel) (wg2 46 rfl rfl) rfl) (okx_none (by decide +kernel) _)
theorem t32_46 : e_ok mD32 46 (1, 0, 1, 0, 47) := okl_iload_n dX9_set_46 rfl
theorem t32_47 : e_ok mD32 47 (11, 2, 57, 2, 50) := And.intro (okCallX.M (okx_virtual (Da := mD57) dX9_set_47 rfl mwc_57 (wg4 74 rfl rfl) mwn_57 mwv_57 mwi_57 mwd_57)) (fun _ => okx_virtual (Da := mD57) dX9_set_47 rfl mwc_57 (wg4 74 rfl rfl) mwn_57 mwv_57 mwi_57 mwd_57)
theorem t32_50 : e_ok mD32 50 (1, 4, 4, 0, 52) := oks_istore dX9_set_50 (by decide +kernel)
theorem t32_52 : e_ok mD32 52 (1, 1, 0, 0, 53) := okl_aload_n dX9_set_52 rfl
theorem t32_53 : e_ok mD32 53 (7, 0, 14, 4, 56) := And.intro (okw_get dX9_set_53 rfl hin_14 (by decide +kernel) (wg2 46 rfl rfl) rfl) (okx_none (by decide +kernel) _)
theorem t32_56 : e_ok mD32 56 (1, 0, 1, 0, 57) := okl_iload_n dX9_set_56 rfl
theorem t32_57 : e_ok mD32 57 (1, 0, 2, 0, 58) := okl_iload_n dX9_set_57 rfl
theorem t32_58 : e_ok mD32 58 (11, 2, 56, 3, 61) := And.intro (okCallX.M (okx_virtual (Da := mD56) dX9_set_58 rfl mwc_56 (wg4 78 rfl rfl) mwn_56 mwv_56 mwi_56 mwd_56)) (fun _ => okx_virtual (Da := mD56) dX9_set_58 rfl mwc_56 (wg4 78 rfl rfl) mwn_56 mwv_56 mwi_56 mwd_56)
theorem t32_61 : e_ok mD32 61 (1, 0, 4, 0, 63) := okl_iload dX9_set_61
theorem t32_63 : e_ok mD32 63 (12, 1, 0, 0, 0) := okr_int dX9_set_63 rfl
theorem t33_0 : e_ok mD33 0 (1, 1, 0, 0, 1) := okl_aload_n dX9_stock_0 rfl
theorem t33_1 : e_ok mD33 1 (7, 0, 14, 5, 4) := And.intro (okw_get dX9_stock_1 rfl hin_14 (by decide +kernel) (wg2 47 rfl rfl) rfl) (okx_none (by decide +kernel) _)
theorem t33_4 : e_ok mD33 4 (11, 2, 77, 1, 7) := And.intro (okCallX.M (okx_virtual (Da := mD77) dX9_stock_4 rfl mwc_77 (wg2 90 rfl rfl) mwn_77 mwv_77 mwi_77 mwd_77)) (fun _ => okx_virtual (Da := mD77) dX9_stock_4 rfl mwc_77 (wg2 90 rfl rfl) mwn_77 mwv_77 mwi_77 mwd_77)
theorem t33_7 : e_ok mD33 7 (12, 1, 0, 0, 0) := okr_int dX9_stock_7 rfl
theorem t34_0 : e_ok mD34 0 (1, 1, 0, 0, 1) := okl_aload_n dX9_stockGrades_0 rfl
theorem t34_1 : e_ok mD34 1 (7, 0, 14, 5, 4) := And.intro (okw_get dX9_stockGrades_1 rfl hin_14 (by decide +kernel) (wg2 47 rfl rfl) rfl) (okx_none (by decide +kernel) _)
theorem t34_4 : e_ok mD34 4 (11, 2, 78, 1, 7) := And.intro (okCallX.M (okx_virtual (Da := mD78) dX9_stockGrades_4 rfl mwc_78 (wg2 98 rfl rfl) mwn_78 mwv_78 mwi_78 mwd_78)) (fun _ => okx_virtual (Da := mD78) dX9_stockGrades_4 rfl mwc_78 (wg2 98 rfl rfl) mwn_78 mwv_78 mwi_78 mwd_78)
theorem t34_7 : e_ok mD34 7 (12, 1, 0, 0, 0) := okr_int dX9_stockGrades_7 rfl
theorem t35_0 : e_ok mD35 0 (1, 0, 1, 0, 1) := okl_iload_n dX9_tellTruth_0 rfl
theorem t35_1 : e_ok mD35 1 (11, 0, 26, 1, 4) := And.intro (okCallX.M (okx_static (Da := mD26) dX9_tellTruth_1 rfl mwc_26 (wg2 235 rfl rfl) mws_26 mwi_26 mwd_26)) (fun _ => okx_static (Da := mD26) dX9_tellTruth_1 rfl mwc_26 (wg2 235 rfl rfl) mws_26 mwi_26 mwd_26)
theorem t35_4 : e_ok mD35 4 (1, 0, 2, 0, 5) := okl_iload_n dX9_tellTruth_4 rfl
theorem t35_5 : e_ok mD35 5 (11, 0, 28, 1, 8) := And.intro (okCallX.M (okx_static (Da := mD28) dX9_tellTruth_5 rfl mwc_28 (wg3 66 rfl rfl) mws_28 mwi_28 mwd_28)) (fun _ => okx_static (Da := mD28) dX9_tellTruth_5 rfl mwc_28 (wg3 66 rfl rfl) mws_28 mwi_28 mwd_28)
theorem t35_8 : e_ok mD35 8 (1, 1, 0, 0, 9) := okl_aload_n dX9_tellTruth_8 rfl
theorem t35_9 : e_ok mD35 9 (1, 0, 1, 0, 10) := okl_iload_n dX9_tellTruth_9 rfl
theorem t35_10 : e_ok mD35 10 (11, 2, 29, 2, 13) := And.intro (okCallX.M (okx_virtual (Da := mD29) dX9_tellTruth_10 rfl mwc_29 (wg3 28 rfl rfl) mwn_29 mwv_29 mwi_29 mwd_29)) (fun _ => okx_virtual (Da := mD29) dX9_tellTruth_10 rfl mwc_29 (wg3 28 rfl rfl) mwn_29 mwv_29 mwi_29 mwd_29)
theorem t35_13 : e_ok mD35 13 (1, 1, 0, 0, 14) := okl_aload_n dX9_tellTruth_13 rfl
theorem t35_14 : e_ok mD35 14 (7, 0, 14, 8, 17) := And.intro (okw_get dX9_tellTruth_14 rfl hin_14 (by decide +kernel) (wg2 50 rfl rfl) rfl) (okx_none (by decide +kernel) _)
theorem t35_17 : e_ok mD35 17 (1, 0, 1, 0, 18) := okl_iload_n dX9_tellTruth_17 rfl
theorem t35_18 : e_ok mD35 18 (11, 2, 45, 2, 21) := And.intro (okCallX.M (okx_virtual (Da := mD45) dX9_tellTruth_18 rfl mwc_45 (wg3 117 rfl rfl) mwn_45 mwv_45 mwi_45 mwd_45)) (fun _ => okx_virtual (Da := mD45) dX9_tellTruth_18 rfl mwc_45 (wg3 117 rfl rfl) mwn_45 mwv_45 mwi_45 mwd_45)
theorem t35_21 : e_ok mD35 21 (1, 4, 3, 0, 22) := oks_istore_n dX9_tellTruth_21 rfl (by decide +kernel)
theorem t35_22 : e_ok mD35 22 (1, 1, 0, 0, 23) := okl_aload_n dX9_tellTruth_22 rfl
theorem t35_23 : e_ok mD35 23 (7, 0, 14, 8, 26) := And.intro (okw_get dX9_tellTruth_23 rfl hin_14 (by decide +kernel) (wg2 50 rfl rfl) rfl) (okx_none (by decide +kernel) _)
theorem t35_26 : e_ok mD35 26 (1, 0, 1, 0, 27) := okl_iload_n dX9_tellTruth_26 rfl
theorem t35_27 : e_ok mD35 27 (1, 0, 2, 0, 28) := okl_iload_n dX9_tellTruth_27 rfl
theorem t35_28 : e_ok mD35 28 (11, 2, 44, 3, 31) := And.intro (okCallX.M (okx_virtual (Da := mD44) dX9_tellTruth_28 rfl mwc_44 (wg3 122 rfl rfl) mwn_44 mwv_44 mwi_44 mwd_44)) (fun _ => okx_virtual (Da := mD44) dX9_tellTruth_28 rfl mwc_44 (wg3 122 rfl rfl) mwn_44 mwv_44 mwi_44 mwd_44)
theorem t35_31 : e_ok mD35 31 (1, 0, 3, 0, 32) := okl_iload_n dX9_tellTruth_31 rfl
theorem t35_32 : e_ok mD35 32 (12, 1, 0, 0, 0) := okr_int dX9_tellTruth_32 rfl
theorem t36_0 : e_ok mD36 0 (1, 3, 0, 0, 1) := okl_dload_n dX9_toNearest_0 rfl
theorem t36_2 : e_ok mD36 2 (1, 4, 2, 0, 3) := oks_istore_n dX9_toNearest_2 rfl (by decide +kernel)
