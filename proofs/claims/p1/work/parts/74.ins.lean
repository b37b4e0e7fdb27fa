/-! every entry of the tables -/
theorem t90_22 : e_ok mD90 22 (1, 1, 0, 0, 23) := okl_aload_n dX7_closeWeek_22 rfl
theorem t90_23 : e_ok mD90 23 (7, 0, 12, 5, 26) := And.intro (okw_get dX7_closeWeek_23 rfl hin_12 (by decide +kernel) (wg1 214 rfl rfl) rfl) (okx_none (by decide +kernel) _)
theorem t90_26 : e_ok mD90 26 (5, 0, 37, 0, 29) := okj_eq dX7_closeWeek_26 (by decide +kernel)
theorem t90_29 : e_ok mD90 29 (1, 1, 0, 0, 30) := okl_aload_n dX7_closeWeek_29 rfl
theorem t90_30 : e_ok mD90 30 (1, 3, 1, 0, 31) := okl_dload_n dX7_closeWeek_30 rfl
theorem t90_31 : e_ok mD90 31 (11, 2, 218, 2, 34) := And.intro (okCallX.M (okx_virtual (Da := mD218) dX7_closeWeek_31 rfl mwc_218 (wg4 168 rfl rfl) mwn_218 mwv_218 mwi_218 mwd_218)) (fun _ => okx_virtual (Da := mD218) dX7_closeWeek_31 rfl mwc_218 (wg4 168 rfl rfl) mwn_218 mwv_218 mwi_218 mwd_218)
theorem t90_34 : e_ok mD90 34 (2, 4, 0, 0, 39) := oki_goto dX7_closeWeek_34 (by decide +kernel)
theorem t90_37 : e_ok mD90 37 (0, 0, 90, 0, 39) := Or.inl (okc_bipush dX7_closeWeek_37 (by decide +kernel))
theorem t90_39 : e_ok mD90 39 (9, 0, 12, 7, 42) := okw_put dX7_closeWeek_39 rfl hin_12 tyX7_ok nmX7 (by decide +kernel) (wg1 217 rfl rfl) rfl rfl (tyX7_ok 7 (by decide +kernel)) (fun V h => fitV_int h)
theorem t90_42 : e_ok mD90 42 (1, 1, 0, 0, 43) := okl_aload_n dX7_closeWeek_42 rfl
theorem t90_43 : e_ok mD90 43 (1, 3, 1, 0, 44) := okl_dload_n dX7_closeWeek_43 rfl
theorem t90_44 : e_ok mD90 44 (9, 4, 12, 6, 47) := okw_put dX7_closeWeek_44 rfl hin_12 tyX7_ok nmX7 (by decide +kernel) (wg1 216 rfl rfl) rfl rfl (tyX7_ok 6 (by decide +kernel)) (fun V h => fitV_double h)
theorem t90_47 : e_ok mD90 47 (1, 1, 0, 0, 48) := okl_aload_n dX7_closeWeek_47 rfl
theorem t90_48 : e_ok mD90 48 (0, 0, 1, 0, 49) := Or.inl (okc_iconst dX7_closeWeek_48 (by decide +kernel))
theorem t90_49 : e_ok mD90 49 (9, 1, 12, 5, 52) := okw_put dX7_closeWeek_49 rfl hin_12 tyX7_ok nmX7 (by decide +kernel) (wg1 214 rfl rfl) rfl rfl (tyX7_ok 5 (by decide +kernel)) (fun V h => fitV_bool h)
theorem t90_52 : e_ok mD90 52 (0, 1, 0, 0, 53) := okc_lconst dX7_closeWeek_52 (by decide +kernel)
theorem t90_53 : e_ok mD90 53 (1, 6, 3, 0, 54) := oks_lstore_n dX7_closeWeek_53 rfl (by decide +kernel)
theorem t90_54 : e_ok mD90 54 (0, 0, 0, 0, 55) := Or.inl (okc_iconst dX7_closeWeek_54 (by decide +kernel))
theorem t90_55 : e_ok mD90 55 (1, 4, 5, 0, 57) := oks_istore dX7_closeWeek_55 (by decide +kernel)
theorem t90_57 : e_ok mD90 57 (1, 0, 5, 0, 59) := okl_iload dX7_closeWeek_57
theorem t90_59 : e_ok mD90 59 (1, 1, 0, 0, 60) := okl_aload_n dX7_closeWeek_59 rfl
theorem t90_60 : e_ok mD90 60 (7, 0, 12, 1, 63) := And.intro (okw_get dX7_closeWeek_60 rfl hin_12 (by decide +kernel) (wg1 207 rfl rfl) rfl) (okx_none (by decide +kernel) _)
theorem t90_63 : e_ok mD90 63 (6, 3, 101, 0, 66) := okk_ge dX7_closeWeek_63 (by decide +kernel)
theorem t90_66 : e_ok mD90 66 (1, 0, 5, 0, 68) := okl_iload dX7_closeWeek_66
theorem t90_68 : e_ok mD90 68 (0, 0, 10, 0, 70) := Or.inl (okc_bipush dX7_closeWeek_68 (by decide +kernel))
theorem t90_70 : e_ok mD90 70 (6, 3, 101, 0, 73) := okk_ge dX7_closeWeek_70 (by decide +kernel)
theorem t90_73 : e_ok mD90 73 (1, 2, 3, 0, 74) := okl_lload_n dX7_closeWeek_73 rfl
theorem t90_74 : e_ok mD90 74 (0, 0, 10, 0, 76) := Or.inl (okc_bipush dX7_closeWeek_74 (by decide +kernel))
theorem t90_76 : e_ok mD90 76 (1, 1, 0, 0, 77) := okl_aload_n dX7_closeWeek_76 rfl
theorem t90_77 : e_ok mD90 77 (7, 0, 12, 0, 80) := And.intro (okw_get dX7_closeWeek_77 rfl hin_12 (by decide +kernel) (wg1 206 rfl rfl) rfl) (okx_none (by decide +kernel) _)
theorem t90_80 : e_ok mD90 80 (1, 0, 5, 0, 82) := okl_iload dX7_closeWeek_80
theorem t90_82 : e_ok mD90 82 (8, 0, 0, 0, 83) := And.intro (oka_i dX7_closeWeek_82) (oky_i dX7_closeWeek_82)
theorem t90_83 : e_ok mD90 83 (3, 2, 0, 0, 84) := okb_imul dX7_closeWeek_83
theorem t90_84 : e_ok mD90 84 (1, 1, 0, 0, 85) := okl_aload_n dX7_closeWeek_84 rfl
theorem t90_85 : e_ok mD90 85 (7, 0, 12, 7, 88) := And.intro (okw_get dX7_closeWeek_85 rfl hin_12 (by decide +kernel) (wg1 217 rfl rfl) rfl) (okx_none (by decide +kernel) _)
theorem t90_88 : e_ok mD90 88 (3, 2, 0, 0, 89) := okb_imul dX7_closeWeek_88
theorem t90_89 : e_ok mD90 89 (0, 0, 100, 0, 91) := Or.inl (okc_bipush dX7_closeWeek_89 (by decide +kernel))
theorem t90_91 : e_ok mD90 91 (3, 3, 0, 0, 92) := okb_idiv dX7_closeWeek_91
theorem t90_92 : e_ok mD90 92 (15, 5, 0, 0, 93) := okm_i2l dX7_closeWeek_92
theorem t90_93 : e_ok mD90 93 (15, 0, 0, 0, 94) := okm_ladd dX7_closeWeek_93
theorem t90_94 : e_ok mD90 94 (1, 6, 3, 0, 95) := oks_lstore_n dX7_closeWeek_94 rfl (by decide +kernel)
theorem t90_95 : e_ok mD90 95 (2, 0, 5, 1, 98) := oki_iinc dX7_closeWeek_95 (by decide +kernel) (by decide +kernel)
theorem t90_98 : e_ok mD90 98 (2, 4, 0, 0, 57) := oki_goto dX7_closeWeek_98 (by decide +kernel)
theorem t90_101 : e_ok mD90 101 (1, 1, 0, 0, 102) := okl_aload_n dX7_closeWeek_101 rfl
theorem t90_102 : e_ok mD90 102 (2, 1, 0, 0, 103) := oki_dup dX7_closeWeek_102
theorem t90_103 : e_ok mD90 103 (7, 0, 12, 8, 106) := And.intro (okw_get dX7_closeWeek_103 rfl hin_12 (by decide +kernel) (wg1 219 rfl rfl) rfl) (okx_none (by decide +kernel) _)
theorem t90_106 : e_ok mD90 106 (1, 2, 3, 0, 107) := okl_lload_n dX7_closeWeek_106 rfl
theorem t90_107 : e_ok mD90 107 (15, 0, 0, 0, 108) := okm_ladd dX7_closeWeek_107
theorem t90_108 : e_ok mD90 108 (9, 3, 12, 8, 111) := okw_put dX7_closeWeek_108 rfl hin_12 tyX7_ok nmX7 (by decide +kernel) (wg1 219 rfl rfl) rfl rfl (tyX7_ok 8 (by decide +kernel)) (fun V h => fitV_long h)
theorem t90_111 : e_ok mD90 111 (1, 2, 3, 0, 112) := okl_lload_n dX7_closeWeek_111 rfl
theorem t90_112 : e_ok mD90 112 (12, 2, 0, 0, 0) := okr_long dX7_closeWeek_112 rfl
theorem t91_0 : e_ok mD91 0 (1, 1, 0, 0, 1) := okl_aload_n dX7_openWeek_0 rfl
theorem t91_1 : e_ok mD91 1 (0, 0, 0, 0, 2) := Or.inl (okc_iconst dX7_openWeek_1 (by decide +kernel))
theorem t91_2 : e_ok mD91 2 (9, 0, 12, 1, 5) := okw_put dX7_openWeek_2 rfl hin_12 tyX7_ok nmX7 (by decide +kernel) (wg1 207 rfl rfl) rfl rfl (tyX7_ok 1 (by decide +kernel)) (fun V h => fitV_int h)
theorem t91_5 : e_ok mD91 5 (1, 1, 0, 0, 6) := okl_aload_n dX7_openWeek_5 rfl
theorem t91_6 : e_ok mD91 6 (0, 0, 0, 0, 7) := Or.inl (okc_iconst dX7_openWeek_6 (by decide +kernel))
theorem t91_7 : e_ok mD91 7 (9, 0, 12, 2, 10) := okw_put dX7_openWeek_7 rfl hin_12 tyX7_ok nmX7 (by decide +kernel) (wg1 209 rfl rfl) rfl rfl (tyX7_ok 2 (by decide +kernel)) (fun V h => fitV_int h)
theorem t91_10 : e_ok mD91 10 (12, 0, 0, 0, 0) := okr_void dX7_openWeek_10 rfl
theorem t92_0 : e_ok mD92 0 (1, 1, 0, 0, 1) := okl_aload_n dX8_init_0 rfl
theorem t92_1 : e_ok mD92 1 (7, 4, 0, 0, 4) := okw_obj dX8_init_1 (wg2 5 rfl rfl) w_obj1 w_obj2
theorem t92_4 : e_ok mD92 4 (12, 0, 0, 0, 0) := okr_void dX8_init_4 rfl
theorem t93_0 : e_ok mD93 0 (1, 1, 0, 0, 1) := okl_aload_n dX8_rainAndPump_0 rfl
theorem t93_1 : e_ok mD93 1 (2, 1, 0, 0, 2) := oki_dup dX8_rainAndPump_1
theorem t93_2 : e_ok mD93 2 (7, 0, 13, 0, 5) := And.intro (okw_get dX8_rainAndPump_2 rfl hin_13 (by decide +kernel) (wg2 6 rfl rfl) rfl) (okx_none (by decide +kernel) _)
theorem t93_5 : e_ok mD93 5 (1, 0, 1, 0, 6) := okl_iload_n dX8_rainAndPump_5 rfl
theorem t93_6 : e_ok mD93 6 (3, 0, 0, 0, 7) := okb_iadd dX8_rainAndPump_6
theorem t93_7 : e_ok mD93 7 (9, 0, 13, 0, 10) := okw_put dX8_rainAndPump_7 rfl hin_13 tyX8_ok nmX8 (by decide +kernel) (wg2 6 rfl rfl) rfl rfl (tyX8_ok 0 (by decide +kernel)) (fun V h => fitV_int h)
theorem t93_10 : e_ok mD93 10 (1, 0, 2, 0, 11) := okl_iload_n dX8_rainAndPump_10 rfl
theorem t93_11 : e_ok mD93 11 (1, 1, 0, 0, 12) := okl_aload_n dX8_rainAndPump_11 rfl
theorem t93_12 : e_ok mD93 12 (7, 0, 13, 0, 15) := And.intro (okw_get dX8_rainAndPump_12 rfl hin_13 (by decide +kernel) (wg2 6 rfl rfl) rfl) (okx_none (by decide +kernel) _)
theorem t93_15 : e_ok mD93 15 (11, 0, 173, 2, 18) := And.intro (okCallX.M (okx_static (Da := mD173) dX8_rainAndPump_15 rfl mwc_173 (wg4 181 rfl rfl) mws_173 mwi_173 mwd_173)) (fun _ => okx_static (Da := mD173) dX8_rainAndPump_15 rfl mwc_173 (wg4 181 rfl rfl) mws_173 mwi_173 mwd_173)
theorem t93_18 : e_ok mD93 18 (1, 4, 3, 0, 19) := oks_istore_n dX8_rainAndPump_18 rfl (by decide +kernel)
theorem t93_19 : e_ok mD93 19 (1, 1, 0, 0, 20) := okl_aload_n dX8_rainAndPump_19 rfl
theorem t93_20 : e_ok mD93 20 (2, 1, 0, 0, 21) := oki_dup dX8_rainAndPump_20
theorem t93_21 : e_ok mD93 21 (7, 0, 13, 0, 24) := And.intro (okw_get dX8_rainAndPump_21 rfl hin_13 (by decide +kernel) (wg2 6 rfl rfl) rfl) (okx_none (by decide +kernel) _)
theorem t93_24 : e_ok mD93 24 (1, 0, 3, 0, 25) := okl_iload_n dX8_rainAndPump_24 rfl
theorem t93_25 : e_ok mD93 25 (3, 1, 0, 0, 26) := okb_isub dX8_rainAndPump_25
theorem t93_26 : e_ok mD93 26 (9, 0, 13, 0, 29) := okw_put dX8_rainAndPump_26 rfl hin_13 tyX8_ok nmX8 (by decide +kernel) (wg2 6 rfl rfl) rfl rfl (tyX8_ok 0 (by decide +kernel)) (fun V h => fitV_int h)
theorem t93_29 : e_ok mD93 29 (1, 0, 3, 0, 30) := okl_iload_n dX8_rainAndPump_29 rfl
theorem t93_30 : e_ok mD93 30 (12, 1, 0, 0, 0) := okr_int dX8_rainAndPump_30 rfl
theorem t94_0 : e_ok mD94 0 (1, 1, 2, 0, 1) := okl_aload_n dL_dugIn_0 rfl
theorem t94_1 : e_ok mD94 1 (0, 0, 0, 0, 2) := Or.inl (okc_iconst dL_dugIn_1 (by decide +kernel))
theorem t94_2 : e_ok mD94 2 (1, 1, 0, 0, 3) := okl_aload_n dL_dugIn_2 rfl
theorem t94_3 : e_ok mD94 3 (1, 0, 1, 0, 4) := okl_iload_n dL_dugIn_3 rfl
theorem t94_4 : e_ok mD94 4 (11, 2, 4, 2, 7) := And.intro (okCallX.M (okx_virtual (Da := mD4) dL_dugIn_4 rfl mwc_4 (wg4 219 rfl rfl) mwn_4 mwv_4 mwi_4 mwd_4)) (fun _ => okx_virtual (Da := mD4) dL_dugIn_4 rfl mwc_4 (wg4 219 rfl rfl) mwn_4 mwv_4 mwi_4 mwd_4)
theorem t94_7 : e_ok mD94 7 (15, 5, 0, 0, 8) := okm_i2l dL_dugIn_7
theorem t94_8 : e_ok mD94 8 (10, 3, 0, 0, 9) := oka_stl dL_dugIn_8
theorem t94_9 : e_ok mD94 9 (2, 4, 0, 0, 18) := oki_goto dL_dugIn_9 (by decide +kernel)
theorem t94_12 : e_ok mD94 12 (1, 5, 3, 0, 13) := oks_astore_n dL_dugIn_12 rfl (by decide +kernel)
theorem t94_13 : e_ok mD94 13 (0, 0, 1, 0, 14) := Or.inl (okc_iconst dL_dugIn_13 (by decide +kernel))
theorem t94_14 : e_ok mD94 14 (12, 1, 0, 0, 0) := okr_int dL_dugIn_14 rfl
theorem t94_15 : e_ok mD94 15 (1, 5, 3, 0, 16) := oks_astore_n dL_dugIn_15 rfl (by decide +kernel)
theorem t94_16 : e_ok mD94 16 (0, 0, 2, 0, 17) := Or.inl (okc_iconst dL_dugIn_16 (by decide +kernel))
theorem t94_17 : e_ok mD94 17 (12, 1, 0, 0, 0) := okr_int dL_dugIn_17 rfl
theorem t94_18 : e_ok mD94 18 (0, 0, 0, 0, 19) := Or.inl (okc_iconst dL_dugIn_18 (by decide +kernel))
theorem t94_19 : e_ok mD94 19 (12, 1, 0, 0, 0) := okr_int dL_dugIn_19 rfl
theorem t95_0 : e_ok mD95 0 (1, 1, 1, 0, 1) := okl_aload_n dL_factor_0 rfl
theorem t95_1 : e_ok mD95 1 (0, 0, 0, 0, 2) := Or.inl (okc_iconst dL_factor_1 (by decide +kernel))
theorem t95_2 : e_ok mD95 2 (1, 1, 0, 0, 3) := okl_aload_n dL_factor_2 rfl
theorem t95_3 : e_ok mD95 3 (11, 2, 6, 1, 6) := And.intro (okCallX.M (okx_virtual (Da := mD6) dL_factor_3 rfl mwc_6 (wg5 19 rfl rfl) mwn_6 mwv_6 mwi_6 mwd_6)) (fun _ => okx_virtual (Da := mD6) dL_factor_3 rfl mwc_6 (wg5 19 rfl rfl) mwn_6 mwv_6 mwi_6 mwd_6)
theorem t95_6 : e_ok mD95 6 (15, 5, 0, 0, 7) := okm_i2l dL_factor_6
theorem t95_7 : e_ok mD95 7 (10, 3, 0, 0, 8) := oka_stl dL_factor_7
theorem t95_8 : e_ok mD95 8 (2, 4, 0, 0, 14) := oki_goto dL_factor_8 (by decide +kernel)
theorem t95_11 : e_ok mD95 11 (1, 5, 2, 0, 12) := oks_astore_n dL_factor_11 rfl (by decide +kernel)
theorem t95_12 : e_ok mD95 12 (0, 0, 1, 0, 13) := Or.inl (okc_iconst dL_factor_12 (by decide +kernel))
theorem t95_13 : e_ok mD95 13 (12, 1, 0, 0, 0) := okr_int dL_factor_13 rfl
theorem t95_14 : e_ok mD95 14 (0, 0, 0, 0, 15) := Or.inl (okc_iconst dL_factor_14 (by decide +kernel))
theorem t95_15 : e_ok mD95 15 (12, 1, 0, 0, 0) := okr_int dL_factor_15 rfl
theorem t96_0 : e_ok mD96 0 (1, 1, 2, 0, 1) := okl_aload_n dL_goOn_0 rfl
theorem t96_1 : e_ok mD96 1 (0, 0, 0, 0, 2) := Or.inl (okc_iconst dL_goOn_1 (by decide +kernel))
theorem t96_2 : e_ok mD96 2 (1, 1, 0, 0, 3) := okl_aload_n dL_goOn_2 rfl
theorem t96_3 : e_ok mD96 3 (1, 0, 1, 0, 4) := okl_iload_n dL_goOn_3 rfl
theorem t96_4 : e_ok mD96 4 (11, 2, 8, 2, 7) := And.intro (okCallX.M (okx_virtual (Da := mD8) dL_goOn_4 rfl mwc_8 (wg4 85 rfl rfl) mwn_8 mwv_8 mwi_8 mwd_8)) (fun _ => okx_virtual (Da := mD8) dL_goOn_4 rfl mwc_8 (wg4 85 rfl rfl) mwn_8 mwv_8 mwi_8 mwd_8)
theorem t96_7 : e_ok mD96 7 (15, 5, 0, 0, 8) := okm_i2l dL_goOn_7
theorem t96_8 : e_ok mD96 8 (10, 3, 0, 0, 9) := oka_stl dL_goOn_8
theorem t96_9 : e_ok mD96 9 (2, 4, 0, 0, 15) := oki_goto dL_goOn_9 (by decide +kernel)
theorem t96_12 : e_ok mD96 12 (1, 5, 3, 0, 13) := oks_astore_n dL_goOn_12 rfl (by decide +kernel)
theorem t96_13 : e_ok mD96 13 (0, 0, 1, 0, 14) := Or.inl (okc_iconst dL_goOn_13 (by decide +kernel))
theorem t96_14 : e_ok mD96 14 (12, 1, 0, 0, 0) := okr_int dL_goOn_14 rfl
theorem t96_15 : e_ok mD96 15 (0, 0, 0, 0, 16) := Or.inl (okc_iconst dL_goOn_15 (by decide +kernel))
theorem t96_16 : e_ok mD96 16 (12, 1, 0, 0, 0) := okr_int dL_goOn_16 rfl
theorem t97_0 : e_ok mD97 0 (1, 1, 2, 0, 1) := okl_aload_n dL_grade_0 rfl
theorem t97_1 : e_ok mD97 1 (0, 0, 0, 0, 2) := Or.inl (okc_iconst dL_grade_1 (by decide +kernel))
theorem t97_2 : e_ok mD97 2 (1, 1, 0, 0, 3) := okl_aload_n dL_grade_2 rfl
theorem t97_3 : e_ok mD97 3 (1, 0, 1, 0, 4) := okl_iload_n dL_grade_3 rfl
theorem t97_4 : e_ok mD97 4 (11, 2, 9, 2, 7) := And.intro (okCallX.M (okx_virtual (Da := mD9) dL_grade_4 rfl mwc_9 (wg3 129 rfl rfl) mwn_9 mwv_9 mwi_9 mwd_9)) (fun _ => okx_virtual (Da := mD9) dL_grade_4 rfl mwc_9 (wg3 129 rfl rfl) mwn_9 mwv_9 mwi_9 mwd_9)
theorem t97_7 : e_ok mD97 7 (15, 5, 0, 0, 8) := okm_i2l dL_grade_7
theorem t97_8 : e_ok mD97 8 (10, 3, 0, 0, 9) := oka_stl dL_grade_8
theorem t97_9 : e_ok mD97 9 (2, 4, 0, 0, 15) := oki_goto dL_grade_9 (by decide +kernel)
theorem t97_12 : e_ok mD97 12 (1, 5, 3, 0, 13) := oks_astore_n dL_grade_12 rfl (by decide +kernel)
theorem t97_13 : e_ok mD97 13 (0, 0, 1, 0, 14) := Or.inl (okc_iconst dL_grade_13 (by decide +kernel))
theorem t97_14 : e_ok mD97 14 (12, 1, 0, 0, 0) := okr_int dL_grade_14 rfl
theorem t97_15 : e_ok mD97 15 (0, 0, 0, 0, 16) := Or.inl (okc_iconst dL_grade_15 (by decide +kernel))
theorem t97_16 : e_ok mD97 16 (12, 1, 0, 0, 0) := okr_int dL_grade_16 rfl
theorem t98_0 : e_ok mD98 0 (1, 1, 2, 0, 1) := okl_aload_n dL_isDug_0 rfl
theorem t98_1 : e_ok mD98 1 (0, 0, 0, 0, 2) := Or.inl (okc_iconst dL_isDug_1 (by decide +kernel))
theorem t98_2 : e_ok mD98 2 (1, 1, 0, 0, 3) := okl_aload_n dL_isDug_2 rfl
theorem t98_3 : e_ok mD98 3 (1, 0, 1, 0, 4) := okl_iload_n dL_isDug_3 rfl
theorem t98_4 : e_ok mD98 4 (11, 2, 12, 2, 7) := And.intro (okCallX.M (okx_virtual (Da := mD12) dL_isDug_4 rfl mwc_12 (wg3 170 rfl rfl) mwn_12 mwv_12 mwi_12 mwd_12)) (fun _ => okx_virtual (Da := mD12) dL_isDug_4 rfl mwc_12 (wg3 170 rfl rfl) mwn_12 mwv_12 mwi_12 mwd_12)
theorem t98_7 : e_ok mD98 7 (5, 0, 14, 0, 10) := okj_eq dL_isDug_7 (by decide +kernel)
theorem t98_10 : e_ok mD98 10 (0, 1, 1, 0, 11) := okc_lconst dL_isDug_10 (by decide +kernel)
theorem t98_11 : e_ok mD98 11 (2, 4, 0, 0, 15) := oki_goto dL_isDug_11 (by decide +kernel)
theorem t98_14 : e_ok mD98 14 (0, 1, 0, 0, 15) := okc_lconst dL_isDug_14 (by decide +kernel)
theorem t98_15 : e_ok mD98 15 (10, 3, 0, 0, 16) := oka_stl dL_isDug_15
theorem t98_16 : e_ok mD98 16 (2, 4, 0, 0, 22) := oki_goto dL_isDug_16 (by decide +kernel)
theorem t98_19 : e_ok mD98 19 (1, 5, 3, 0, 20) := oks_astore_n dL_isDug_19 rfl (by decide +kernel)
theorem t98_20 : e_ok mD98 20 (0, 0, 1, 0, 21) := Or.inl (okc_iconst dL_isDug_20 (by decide +kernel))
theorem t98_21 : e_ok mD98 21 (12, 1, 0, 0, 0) := okr_int dL_isDug_21 rfl
theorem t98_22 : e_ok mD98 22 (0, 0, 0, 0, 23) := Or.inl (okc_iconst dL_isDug_22 (by decide +kernel))
theorem t98_23 : e_ok mD98 23 (12, 1, 0, 0, 0) := okr_int dL_isDug_23 rfl
theorem t99_0 : e_ok mD99 0 (1, 1, 2, 0, 1) := okl_aload_n dL_isFree_0 rfl
theorem t99_1 : e_ok mD99 1 (0, 0, 0, 0, 2) := Or.inl (okc_iconst dL_isFree_1 (by decide +kernel))
theorem t99_2 : e_ok mD99 2 (1, 1, 0, 0, 3) := okl_aload_n dL_isFree_2 rfl
theorem t99_3 : e_ok mD99 3 (1, 0, 1, 0, 4) := okl_iload_n dL_isFree_3 rfl
theorem t99_4 : e_ok mD99 4 (11, 2, 13, 2, 7) := And.intro (okCallX.M (okx_virtual (Da := mD13) dL_isFree_4 rfl mwc_13 (wg3 159 rfl rfl) mwn_13 mwv_13 mwi_13 mwd_13)) (fun _ => okx_virtual (Da := mD13) dL_isFree_4 rfl mwc_13 (wg3 159 rfl rfl) mwn_13 mwv_13 mwi_13 mwd_13)
theorem t99_7 : e_ok mD99 7 (5, 0, 14, 0, 10) := okj_eq dL_isFree_7 (by decide +kernel)
theorem t99_10 : e_ok mD99 10 (0, 1, 1, 0, 11) := okc_lconst dL_isFree_10 (by decide +kernel)
theorem t99_11 : e_ok mD99 11 (2, 4, 0, 0, 15) := oki_goto dL_isFree_11 (by decide +kernel)
theorem t99_14 : e_ok mD99 14 (0, 1, 0, 0, 15) := okc_lconst dL_isFree_14 (by decide +kernel)
theorem t99_15 : e_ok mD99 15 (10, 3, 0, 0, 16) := oka_stl dL_isFree_15
theorem t99_16 : e_ok mD99 16 (2, 4, 0, 0, 22) := oki_goto dL_isFree_16 (by decide +kernel)
theorem t99_19 : e_ok mD99 19 (1, 5, 3, 0, 20) := oks_astore_n dL_isFree_19 rfl (by decide +kernel)
theorem t99_20 : e_ok mD99 20 (0, 0, 1, 0, 21) := Or.inl (okc_iconst dL_isFree_20 (by decide +kernel))
theorem t99_21 : e_ok mD99 21 (12, 1, 0, 0, 0) := okr_int dL_isFree_21 rfl
theorem t99_22 : e_ok mD99 22 (0, 0, 0, 0, 23) := Or.inl (okc_iconst dL_isFree_22 (by decide +kernel))
theorem t99_23 : e_ok mD99 23 (12, 1, 0, 0, 0) := okr_int dL_isFree_23 rfl
theorem t100_0 : e_ok mD100 0 (1, 1, 3, 0, 1) := okl_aload_n dL_isInPit_0 rfl
theorem t100_1 : e_ok mD100 1 (0, 0, 0, 0, 2) := Or.inl (okc_iconst dL_isInPit_1 (by decide +kernel))
theorem t100_2 : e_ok mD100 2 (1, 1, 0, 0, 3) := okl_aload_n dL_isInPit_2 rfl
theorem t100_3 : e_ok mD100 3 (1, 0, 1, 0, 4) := okl_iload_n dL_isInPit_3 rfl
theorem t100_4 : e_ok mD100 4 (1, 0, 2, 0, 5) := okl_iload_n dL_isInPit_4 rfl
theorem t100_5 : e_ok mD100 5 (11, 2, 14, 3, 8) := And.intro (okCallX.M (okx_virtual (Da := mD14) dL_isInPit_5 rfl mwc_14 (wg3 223 rfl rfl) mwn_14 mwv_14 mwi_14 mwd_14)) (fun _ => okx_virtual (Da := mD14) dL_isInPit_5 rfl mwc_14 (wg3 223 rfl rfl) mwn_14 mwv_14 mwi_14 mwd_14)
theorem t100_8 : e_ok mD100 8 (5, 0, 15, 0, 11) := okj_eq dL_isInPit_8 (by decide +kernel)
theorem t100_11 : e_ok mD100 11 (0, 1, 1, 0, 12) := okc_lconst dL_isInPit_11 (by decide +kernel)
theorem t100_12 : e_ok mD100 12 (2, 4, 0, 0, 16) := oki_goto dL_isInPit_12 (by decide +kernel)
theorem t100_15 : e_ok mD100 15 (0, 1, 0, 0, 16) := okc_lconst dL_isInPit_15 (by decide +kernel)
theorem t100_16 : e_ok mD100 16 (10, 3, 0, 0, 17) := oka_stl dL_isInPit_16
theorem t100_17 : e_ok mD100 17 (2, 4, 0, 0, 28) := oki_goto dL_isInPit_17 (by decide +kernel)
theorem t100_20 : e_ok mD100 20 (1, 5, 4, 0, 22) := oks_astore dL_isInPit_20 (by decide +kernel)
theorem t100_22 : e_ok mD100 22 (0, 0, 1, 0, 23) := Or.inl (okc_iconst dL_isInPit_22 (by decide +kernel))
theorem t100_23 : e_ok mD100 23 (12, 1, 0, 0, 0) := okr_int dL_isInPit_23 rfl
theorem t100_24 : e_ok mD100 24 (1, 5, 4, 0, 26) := oks_astore dL_isInPit_24 (by decide +kernel)
theorem t100_26 : e_ok mD100 26 (0, 0, 2, 0, 27) := Or.inl (okc_iconst dL_isInPit_26 (by decide +kernel))
theorem t100_27 : e_ok mD100 27 (12, 1, 0, 0, 0) := okr_int dL_isInPit_27 rfl
theorem t100_28 : e_ok mD100 28 (0, 0, 0, 0, 29) := Or.inl (okc_iconst dL_isInPit_28 (by decide +kernel))
theorem t100_29 : e_ok mD100 29 (12, 1, 0, 0, 0) := okr_int dL_isInPit_29 rfl
theorem t101_0 : e_ok mD101 0 (1, 1, 1, 0, 1) := okl_aload_n dL_meanFed_0 rfl
theorem t101_1 : e_ok mD101 1 (0, 0, 0, 0, 2) := Or.inl (okc_iconst dL_meanFed_1 (by decide +kernel))
theorem t101_2 : e_ok mD101 2 (1, 1, 0, 0, 3) := okl_aload_n dL_meanFed_2 rfl
theorem t101_3 : e_ok mD101 3 (11, 2, 15, 1, 6) := And.intro (okCallX.M (okx_virtual (Da := mD15) dL_meanFed_3 rfl mwc_15 (wg5 29 rfl rfl) mwn_15 mwv_15 mwi_15 mwd_15)) (fun _ => okx_virtual (Da := mD15) dL_meanFed_3 rfl mwc_15 (wg5 29 rfl rfl) mwn_15 mwv_15 mwi_15 mwd_15)
theorem t101_7 : e_ok mD101 7 (2, 4, 0, 0, 13) := oki_goto dL_meanFed_7 (by decide +kernel)
theorem t101_10 : e_ok mD101 10 (1, 5, 2, 0, 11) := oks_astore_n dL_meanFed_10 rfl (by decide +kernel)
theorem t101_11 : e_ok mD101 11 (0, 0, 1, 0, 12) := Or.inl (okc_iconst dL_meanFed_11 (by decide +kernel))
theorem t101_12 : e_ok mD101 12 (12, 1, 0, 0, 0) := okr_int dL_meanFed_12 rfl
theorem t101_13 : e_ok mD101 13 (0, 0, 0, 0, 14) := Or.inl (okc_iconst dL_meanFed_13 (by decide +kernel))
theorem t101_14 : e_ok mD101 14 (12, 1, 0, 0, 0) := okr_int dL_meanFed_14 rfl
theorem t102_0 : e_ok mD102 0 (1, 1, 2, 0, 1) := okl_aload_n dL_phase_0 rfl
theorem t102_1 : e_ok mD102 1 (0, 0, 0, 0, 2) := Or.inl (okc_iconst dL_phase_1 (by decide +kernel))
theorem t102_2 : e_ok mD102 2 (1, 1, 0, 0, 3) := okl_aload_n dL_phase_2 rfl
theorem t102_3 : e_ok mD102 3 (1, 0, 1, 0, 4) := okl_iload_n dL_phase_3 rfl
theorem t102_4 : e_ok mD102 4 (11, 2, 21, 2, 7) := And.intro (okCallX.M (okx_virtual (Da := mD21) dL_phase_4 rfl mwc_21 (wg4 12 rfl rfl) mwn_21 mwv_21 mwi_21 mwd_21)) (fun _ => okx_virtual (Da := mD21) dL_phase_4 rfl mwc_21 (wg4 12 rfl rfl) mwn_21 mwv_21 mwi_21 mwd_21)
theorem t102_7 : e_ok mD102 7 (15, 5, 0, 0, 8) := okm_i2l dL_phase_7
theorem t102_8 : e_ok mD102 8 (10, 3, 0, 0, 9) := oka_stl dL_phase_8
theorem t102_9 : e_ok mD102 9 (2, 4, 0, 0, 18) := oki_goto dL_phase_9 (by decide +kernel)
theorem t102_12 : e_ok mD102 12 (1, 5, 3, 0, 13) := oks_astore_n dL_phase_12 rfl (by decide +kernel)
theorem t102_13 : e_ok mD102 13 (0, 0, 1, 0, 14) := Or.inl (okc_iconst dL_phase_13 (by decide +kernel))
theorem t102_14 : e_ok mD102 14 (12, 1, 0, 0, 0) := okr_int dL_phase_14 rfl
theorem t102_15 : e_ok mD102 15 (1, 5, 3, 0, 16) := oks_astore_n dL_phase_15 rfl (by decide +kernel)
theorem t102_16 : e_ok mD102 16 (0, 0, 2, 0, 17) := Or.inl (okc_iconst dL_phase_16 (by decide +kernel))
theorem t102_17 : e_ok mD102 17 (12, 1, 0, 0, 0) := okr_int dL_phase_17 rfl
theorem t102_18 : e_ok mD102 18 (0, 0, 0, 0, 19) := Or.inl (okc_iconst dL_phase_18 (by decide +kernel))
theorem t102_19 : e_ok mD102 19 (12, 1, 0, 0, 0) := okr_int dL_phase_19 rfl
theorem t103_0 : e_ok mD103 0 (1, 1, 2, 0, 1) := okl_aload_n dL_phaseOf_0 rfl
theorem t103_1 : e_ok mD103 1 (0, 0, 0, 0, 2) := Or.inl (okc_iconst dL_phaseOf_1 (by decide +kernel))
theorem t103_2 : e_ok mD103 2 (1, 1, 0, 0, 3) := okl_aload_n dL_phaseOf_2 rfl
theorem t103_3 : e_ok mD103 3 (1, 0, 1, 0, 4) := okl_iload_n dL_phaseOf_3 rfl
theorem t103_4 : e_ok mD103 4 (11, 2, 22, 2, 7) := And.intro (okCallX.M (okx_virtual (Da := mD22) dL_phaseOf_4 rfl mwc_22 (wg4 34 rfl rfl) mwn_22 mwv_22 mwi_22 mwd_22)) (fun _ => okx_virtual (Da := mD22) dL_phaseOf_4 rfl mwc_22 (wg4 34 rfl rfl) mwn_22 mwv_22 mwi_22 mwd_22)
theorem t103_7 : e_ok mD103 7 (15, 5, 0, 0, 8) := okm_i2l dL_phaseOf_7
theorem t103_8 : e_ok mD103 8 (10, 3, 0, 0, 9) := oka_stl dL_phaseOf_8
theorem t103_9 : e_ok mD103 9 (2, 4, 0, 0, 15) := oki_goto dL_phaseOf_9 (by decide +kernel)
theorem t103_12 : e_ok mD103 12 (1, 5, 3, 0, 13) := oks_astore_n dL_phaseOf_12 rfl (by decide +kernel)
theorem t103_13 : e_ok mD103 13 (0, 0, 1, 0, 14) := Or.inl (okc_iconst dL_phaseOf_13 (by decide +kernel))
theorem t103_14 : e_ok mD103 14 (12, 1, 0, 0, 0) := okr_int dL_phaseOf_14 rfl
theorem t103_15 : e_ok mD103 15 (0, 0, 0, 0, 16) := Or.inl (okc_iconst dL_phaseOf_15 (by decide +kernel))
theorem t103_16 : e_ok mD103 16 (12, 1, 0, 0, 0) := okr_int dL_phaseOf_16 rfl
theorem t104_0 : e_ok mD104 0 (1, 1, 2, 0, 1) := okl_aload_n dL_pitSize_0 rfl
theorem t104_1 : e_ok mD104 1 (0, 0, 0, 0, 2) := Or.inl (okc_iconst dL_pitSize_1 (by decide +kernel))
theorem t104_2 : e_ok mD104 2 (1, 1, 0, 0, 3) := okl_aload_n dL_pitSize_2 rfl
theorem t104_3 : e_ok mD104 3 (1, 0, 1, 0, 4) := okl_iload_n dL_pitSize_3 rfl
theorem t104_4 : e_ok mD104 4 (11, 2, 23, 2, 7) := And.intro (okCallX.M (okx_virtual (Da := mD23) dL_pitSize_4 rfl mwc_23 (wg3 216 rfl rfl) mwn_23 mwv_23 mwi_23 mwd_23)) (fun _ => okx_virtual (Da := mD23) dL_pitSize_4 rfl mwc_23 (wg3 216 rfl rfl) mwn_23 mwv_23 mwi_23 mwd_23)
theorem t104_7 : e_ok mD104 7 (15, 5, 0, 0, 8) := okm_i2l dL_pitSize_7
theorem t104_8 : e_ok mD104 8 (10, 3, 0, 0, 9) := oka_stl dL_pitSize_8
theorem t104_9 : e_ok mD104 9 (2, 4, 0, 0, 15) := oki_goto dL_pitSize_9 (by decide +kernel)
theorem t104_12 : e_ok mD104 12 (1, 5, 3, 0, 13) := oks_astore_n dL_pitSize_12 rfl (by decide +kernel)
theorem t104_13 : e_ok mD104 13 (0, 0, 1, 0, 14) := Or.inl (okc_iconst dL_pitSize_13 (by decide +kernel))
theorem t104_14 : e_ok mD104 14 (12, 1, 0, 0, 0) := okr_int dL_pitSize_14 rfl
theorem t104_15 : e_ok mD104 15 (0, 0, 0, 0, 16) := Or.inl (okc_iconst dL_pitSize_15 (by decide +kernel))
theorem t104_16 : e_ok mD104 16 (12, 1, 0, 0, 0) := okr_int dL_pitSize_16 rfl
theorem t105_0 : e_ok mD105 0 (1, 1, 2, 0, 1) := okl_aload_n dL_pitWorth_0 rfl
theorem t105_1 : e_ok mD105 1 (0, 0, 0, 0, 2) := Or.inl (okc_iconst dL_pitWorth_1 (by decide +kernel))
theorem t105_2 : e_ok mD105 2 (1, 1, 0, 0, 3) := okl_aload_n dL_pitWorth_2 rfl
theorem t105_3 : e_ok mD105 3 (1, 0, 1, 0, 4) := okl_iload_n dL_pitWorth_3 rfl
theorem t105_4 : e_ok mD105 4 (11, 2, 24, 2, 7) := And.intro (okCallX.M (okx_virtual (Da := mD24) dL_pitWorth_4 rfl mwc_24 (wg3 177 rfl rfl) mwn_24 mwv_24 mwi_24 mwd_24)) (fun _ => okx_virtual (Da := mD24) dL_pitWorth_4 rfl mwc_24 (wg3 177 rfl rfl) mwn_24 mwv_24 mwi_24 mwd_24)
theorem t105_7 : e_ok mD105 7 (10, 3, 0, 0, 8) := oka_stl dL_pitWorth_7
theorem t105_8 : e_ok mD105 8 (2, 4, 0, 0, 14) := oki_goto dL_pitWorth_8 (by decide +kernel)
theorem t105_11 : e_ok mD105 11 (1, 5, 3, 0, 12) := oks_astore_n dL_pitWorth_11 rfl (by decide +kernel)
theorem t105_12 : e_ok mD105 12 (0, 0, 1, 0, 13) := Or.inl (okc_iconst dL_pitWorth_12 (by decide +kernel))
theorem t105_13 : e_ok mD105 13 (12, 1, 0, 0, 0) := okr_int dL_pitWorth_13 rfl
theorem t105_14 : e_ok mD105 14 (0, 0, 0, 0, 15) := Or.inl (okc_iconst dL_pitWorth_14 (by decide +kernel))
theorem t105_15 : e_ok mD105 15 (12, 1, 0, 0, 0) := okr_int dL_pitWorth_15 rfl
theorem t106_0 : e_ok mD106 0 (1, 1, 1, 0, 1) := okl_aload_n dL_recovery_0 rfl
theorem t106_1 : e_ok mD106 1 (0, 0, 0, 0, 2) := Or.inl (okc_iconst dL_recovery_1 (by decide +kernel))
theorem t106_2 : e_ok mD106 2 (1, 1, 0, 0, 3) := okl_aload_n dL_recovery_2 rfl
theorem t106_3 : e_ok mD106 3 (11, 2, 25, 1, 6) := And.intro (okCallX.M (okx_virtual (Da := mD25) dL_recovery_3 rfl mwc_25 (wg4 230 rfl rfl) mwn_25 mwv_25 mwi_25 mwd_25)) (fun _ => okx_virtual (Da := mD25) dL_recovery_3 rfl mwc_25 (wg4 230 rfl rfl) mwn_25 mwv_25 mwi_25 mwd_25)
theorem t106_6 : e_ok mD106 6 (15, 5, 0, 0, 7) := okm_i2l dL_recovery_6
theorem t106_7 : e_ok mD106 7 (10, 3, 0, 0, 8) := oka_stl dL_recovery_7
theorem t106_8 : e_ok mD106 8 (2, 4, 0, 0, 14) := oki_goto dL_recovery_8 (by decide +kernel)
theorem t106_11 : e_ok mD106 11 (1, 5, 2, 0, 12) := oks_astore_n dL_recovery_11 rfl (by decide +kernel)
theorem t106_12 : e_ok mD106 12 (0, 0, 1, 0, 13) := Or.inl (okc_iconst dL_recovery_12 (by decide +kernel))
theorem t106_13 : e_ok mD106 13 (12, 1, 0, 0, 0) := okr_int dL_recovery_13 rfl
theorem t106_14 : e_ok mD106 14 (0, 0, 0, 0, 15) := Or.inl (okc_iconst dL_recovery_14 (by decide +kernel))
theorem t106_15 : e_ok mD106 15 (12, 1, 0, 0, 0) := okr_int dL_recovery_15 rfl
theorem t107_0 : e_ok mD107 0 (1, 1, 3, 0, 1) := okl_aload_n dL_rock_0 rfl
theorem t107_1 : e_ok mD107 1 (0, 0, 0, 0, 2) := Or.inl (okc_iconst dL_rock_1 (by decide +kernel))
theorem t107_2 : e_ok mD107 2 (1, 1, 0, 0, 3) := okl_aload_n dL_rock_2 rfl
theorem t107_3 : e_ok mD107 3 (1, 0, 1, 0, 4) := okl_iload_n dL_rock_3 rfl
theorem t107_4 : e_ok mD107 4 (1, 0, 2, 0, 5) := okl_iload_n dL_rock_4 rfl
theorem t107_5 : e_ok mD107 5 (11, 2, 30, 3, 8) := And.intro (okCallX.M (okx_virtual (Da := mD30) dL_rock_5 rfl mwc_30 (wg2 231 rfl rfl) mwn_30 mwv_30 mwi_30 mwd_30)) (fun _ => okx_virtual (Da := mD30) dL_rock_5 rfl mwc_30 (wg2 231 rfl rfl) mwn_30 mwv_30 mwi_30 mwd_30)
theorem t107_8 : e_ok mD107 8 (15, 5, 0, 0, 9) := okm_i2l dL_rock_8
theorem t107_9 : e_ok mD107 9 (10, 3, 0, 0, 10) := oka_stl dL_rock_9
theorem t107_10 : e_ok mD107 10 (2, 4, 0, 0, 25) := oki_goto dL_rock_10 (by decide +kernel)
theorem t107_13 : e_ok mD107 13 (1, 5, 4, 0, 15) := oks_astore dL_rock_13 (by decide +kernel)
theorem t107_15 : e_ok mD107 15 (0, 0, 1, 0, 16) := Or.inl (okc_iconst dL_rock_15 (by decide +kernel))
theorem t107_16 : e_ok mD107 16 (12, 1, 0, 0, 0) := okr_int dL_rock_16 rfl
theorem t107_17 : e_ok mD107 17 (1, 5, 4, 0, 19) := oks_astore dL_rock_17 (by decide +kernel)
theorem t107_19 : e_ok mD107 19 (0, 0, 2, 0, 20) := Or.inl (okc_iconst dL_rock_19 (by decide +kernel))
theorem t107_20 : e_ok mD107 20 (12, 1, 0, 0, 0) := okr_int dL_rock_20 rfl
theorem t107_21 : e_ok mD107 21 (1, 5, 4, 0, 23) := oks_astore dL_rock_21 (by decide +kernel)
theorem t107_23 : e_ok mD107 23 (0, 0, 3, 0, 24) := Or.inl (okc_iconst dL_rock_23 (by decide +kernel))
theorem t107_24 : e_ok mD107 24 (12, 1, 0, 0, 0) := okr_int dL_rock_24 rfl
theorem t107_25 : e_ok mD107 25 (0, 0, 0, 0, 26) := Or.inl (okc_iconst dL_rock_25 (by decide +kernel))
theorem t107_26 : e_ok mD107 26 (12, 1, 0, 0, 0) := okr_int dL_rock_26 rfl
theorem t108_0 : e_ok mD108 0 (1, 1, 3, 0, 1) := okl_aload_n dL_sample_0 rfl
theorem t108_1 : e_ok mD108 1 (0, 0, 0, 0, 2) := Or.inl (okc_iconst dL_sample_1 (by decide +kernel))
theorem t108_2 : e_ok mD108 2 (1, 1, 0, 0, 3) := okl_aload_n dL_sample_2 rfl
theorem t108_3 : e_ok mD108 3 (1, 0, 1, 0, 4) := okl_iload_n dL_sample_3 rfl
theorem t108_4 : e_ok mD108 4 (1, 0, 2, 0, 5) := okl_iload_n dL_sample_4 rfl
theorem t108_5 : e_ok mD108 5 (11, 2, 31, 3, 8) := And.intro (okCallX.M (okx_virtual (Da := mD31) dL_sample_5 rfl mwc_31 (wg3 62 rfl rfl) mwn_31 mwv_31 mwi_31 mwd_31)) (fun _ => okx_virtual (Da := mD31) dL_sample_5 rfl mwc_31 (wg3 62 rfl rfl) mwn_31 mwv_31 mwi_31 mwd_31)
theorem t108_8 : e_ok mD108 8 (15, 5, 0, 0, 9) := okm_i2l dL_sample_8
theorem t108_9 : e_ok mD108 9 (10, 3, 0, 0, 10) := oka_stl dL_sample_9
theorem t108_10 : e_ok mD108 10 (2, 4, 0, 0, 25) := oki_goto dL_sample_10 (by decide +kernel)
theorem t108_13 : e_ok mD108 13 (1, 5, 4, 0, 15) := oks_astore dL_sample_13 (by decide +kernel)
theorem t108_15 : e_ok mD108 15 (0, 0, 1, 0, 16) := Or.inl (okc_iconst dL_sample_15 (by decide +kernel))
theorem t108_16 : e_ok mD108 16 (12, 1, 0, 0, 0) := okr_int dL_sample_16 rfl
theorem t108_17 : e_ok mD108 17 (1, 5, 4, 0, 19) := oks_astore dL_sample_17 (by decide +kernel)
theorem t108_19 : e_ok mD108 19 (0, 0, 2, 0, 20) := Or.inl (okc_iconst dL_sample_19 (by decide +kernel))
theorem t108_20 : e_ok mD108 20 (12, 1, 0, 0, 0) := okr_int dL_sample_20 rfl
theorem t108_21 : e_ok mD108 21 (1, 5, 4, 0, 23) := oks_astore dL_sample_21 (by decide +kernel)
theorem t108_23 : e_ok mD108 23 (0, 0, 3, 0, 24) := Or.inl (okc_iconst dL_sample_23 (by decide +kernel))
theorem t108_24 : e_ok mD108 24 (12, 1, 0, 0, 0) := okr_int dL_sample_24 rfl
theorem t108_25 : e_ok mD108 25 (0, 0, 0, 0, 26) := Or.inl (okc_iconst dL_sample_25 (by decide +kernel))
theorem t108_26 : e_ok mD108 26 (12, 1, 0, 0, 0) := okr_int dL_sample_26 rfl
theorem t109_0 : e_ok mD109 0 (1, 1, 3, 0, 1) := okl_aload_n dL_set_0 rfl
theorem t109_1 : e_ok mD109 1 (0, 0, 0, 0, 2) := Or.inl (okc_iconst dL_set_1 (by decide +kernel))
theorem t109_2 : e_ok mD109 2 (1, 1, 0, 0, 3) := okl_aload_n dL_set_2 rfl
theorem t109_3 : e_ok mD109 3 (1, 0, 1, 0, 4) := okl_iload_n dL_set_3 rfl
theorem t109_4 : e_ok mD109 4 (1, 0, 2, 0, 5) := okl_iload_n dL_set_4 rfl
theorem t109_5 : e_ok mD109 5 (11, 2, 32, 3, 8) := And.intro (okCallX.M (okx_virtual (Da := mD32) dL_set_5 rfl mwc_32 (wg4 57 rfl rfl) mwn_32 mwv_32 mwi_32 mwd_32)) (fun _ => okx_virtual (Da := mD32) dL_set_5 rfl mwc_32 (wg4 57 rfl rfl) mwn_32 mwv_32 mwi_32 mwd_32)
theorem t109_8 : e_ok mD109 8 (15, 5, 0, 0, 9) := okm_i2l dL_set_8
theorem t109_9 : e_ok mD109 9 (10, 3, 0, 0, 10) := oka_stl dL_set_9
theorem t109_10 : e_ok mD109 10 (2, 4, 0, 0, 17) := oki_goto dL_set_10 (by decide +kernel)
theorem t109_13 : e_ok mD109 13 (1, 5, 4, 0, 15) := oks_astore dL_set_13 (by decide +kernel)
theorem t109_15 : e_ok mD109 15 (0, 0, 1, 0, 16) := Or.inl (okc_iconst dL_set_15 (by decide +kernel))
theorem t109_16 : e_ok mD109 16 (12, 1, 0, 0, 0) := okr_int dL_set_16 rfl
theorem t109_17 : e_ok mD109 17 (0, 0, 0, 0, 18) := Or.inl (okc_iconst dL_set_17 (by decide +kernel))
theorem t109_18 : e_ok mD109 18 (12, 1, 0, 0, 0) := okr_int dL_set_18 rfl
theorem t110_0 : e_ok mD110 0 (1, 1, 3, 0, 1) := okl_aload_n dL_tellTruth_0 rfl
theorem t110_1 : e_ok mD110 1 (0, 0, 0, 0, 2) := Or.inl (okc_iconst dL_tellTruth_1 (by decide +kernel))
theorem t110_2 : e_ok mD110 2 (1, 1, 0, 0, 3) := okl_aload_n dL_tellTruth_2 rfl
theorem t110_3 : e_ok mD110 3 (1, 0, 1, 0, 4) := okl_iload_n dL_tellTruth_3 rfl
theorem t110_4 : e_ok mD110 4 (1, 0, 2, 0, 5) := okl_iload_n dL_tellTruth_4 rfl
theorem t110_5 : e_ok mD110 5 (11, 2, 35, 3, 8) := And.intro (okCallX.M (okx_virtual (Da := mD35) dL_tellTruth_5 rfl mwc_35 (wg3 113 rfl rfl) mwn_35 mwv_35 mwi_35 mwd_35)) (fun _ => okx_virtual (Da := mD35) dL_tellTruth_5 rfl mwc_35 (wg3 113 rfl rfl) mwn_35 mwv_35 mwi_35 mwd_35)
theorem t110_8 : e_ok mD110 8 (15, 5, 0, 0, 9) := okm_i2l dL_tellTruth_8
theorem t110_9 : e_ok mD110 9 (10, 3, 0, 0, 10) := oka_stl dL_tellTruth_9
theorem t110_10 : e_ok mD110 10 (2, 4, 0, 0, 25) := oki_goto dL_tellTruth_10 (by decide +kernel)
theorem t110_13 : e_ok mD110 13 (1, 5, 4, 0, 15) := oks_astore dL_tellTruth_13 (by decide +kernel)
theorem t110_15 : e_ok mD110 15 (0, 0, 1, 0, 16) := Or.inl (okc_iconst dL_tellTruth_15 (by decide +kernel))
theorem t110_16 : e_ok mD110 16 (12, 1, 0, 0, 0) := okr_int dL_tellTruth_16 rfl
theorem t110_17 : e_ok mD110 17 (1, 5, 4, 0, 19) := oks_astore dL_tellTruth_17 (by decide +kernel)
theorem t110_19 : e_ok mD110 19 (0, 0, 2, 0, 20) := Or.inl (okc_iconst dL_tellTruth_19 (by decide +kernel))
theorem t110_20 : e_ok mD110 20 (12, 1, 0, 0, 0) := okr_int dL_tellTruth_20 rfl
theorem t110_21 : e_ok mD110 21 (1, 5, 4, 0, 23) := oks_astore dL_tellTruth_21 (by decide +kernel)
theorem t110_23 : e_ok mD110 23 (0, 0, 3, 0, 24) := Or.inl (okc_iconst dL_tellTruth_23 (by decide +kernel))
theorem t110_24 : e_ok mD110 24 (12, 1, 0, 0, 0) := okr_int dL_tellTruth_24 rfl
theorem t110_25 : e_ok mD110 25 (0, 0, 0, 0, 26) := Or.inl (okc_iconst dL_tellTruth_25 (by decide +kernel))
theorem t110_26 : e_ok mD110 26 (12, 1, 0, 0, 0) := okr_int dL_tellTruth_26 rfl
theorem t111_0 : e_ok mD111 0 (1, 1, 2, 0, 1) := okl_aload_n dL_tons_0 rfl
theorem t111_1 : e_ok mD111 1 (0, 0, 0, 0, 2) := Or.inl (okc_iconst dL_tons_1 (by decide +kernel))
theorem t111_2 : e_ok mD111 2 (1, 1, 0, 0, 3) := okl_aload_n dL_tons_2 rfl
theorem t111_3 : e_ok mD111 3 (1, 0, 1, 0, 4) := okl_iload_n dL_tons_3 rfl
theorem t111_4 : e_ok mD111 4 (11, 2, 37, 2, 7) := And.intro (okCallX.M (okx_virtual (Da := mD37) dL_tons_4 rfl mwc_37 (wg4 238 rfl rfl) mwn_37 mwv_37 mwi_37 mwd_37)) (fun _ => okx_virtual (Da := mD37) dL_tons_4 rfl mwc_37 (wg4 238 rfl rfl) mwn_37 mwv_37 mwi_37 mwd_37)
theorem t111_7 : e_ok mD111 7 (15, 5, 0, 0, 8) := okm_i2l dL_tons_7
theorem t111_8 : e_ok mD111 8 (10, 3, 0, 0, 9) := oka_stl dL_tons_8
theorem t111_9 : e_ok mD111 9 (2, 4, 0, 0, 15) := oki_goto dL_tons_9 (by decide +kernel)
theorem t111_12 : e_ok mD111 12 (1, 5, 3, 0, 13) := oks_astore_n dL_tons_12 rfl (by decide +kernel)
theorem t111_13 : e_ok mD111 13 (0, 0, 1, 0, 14) := Or.inl (okc_iconst dL_tons_13 (by decide +kernel))
theorem t111_14 : e_ok mD111 14 (12, 1, 0, 0, 0) := okr_int dL_tons_14 rfl
theorem t111_15 : e_ok mD111 15 (0, 0, 0, 0, 16) := Or.inl (okc_iconst dL_tons_15 (by decide +kernel))
theorem t111_16 : e_ok mD111 16 (12, 1, 0, 0, 0) := okr_int dL_tons_16 rfl
theorem t112_0 : e_ok mD112 0 (1, 1, 2, 0, 1) := okl_aload_n dL_wentTo_0 rfl
theorem t112_1 : e_ok mD112 1 (0, 0, 0, 0, 2) := Or.inl (okc_iconst dL_wentTo_1 (by decide +kernel))
theorem t112_2 : e_ok mD112 2 (1, 1, 0, 0, 3) := okl_aload_n dL_wentTo_2 rfl
theorem t112_3 : e_ok mD112 3 (1, 0, 1, 0, 4) := okl_iload_n dL_wentTo_3 rfl
theorem t112_4 : e_ok mD112 4 (11, 2, 40, 2, 7) := And.intro (okCallX.M (okx_virtual (Da := mD40) dL_wentTo_4 rfl mwc_40 (wg4 188 rfl rfl) mwn_40 mwv_40 mwi_40 mwd_40)) (fun _ => okx_virtual (Da := mD40) dL_wentTo_4 rfl mwc_40 (wg4 188 rfl rfl) mwn_40 mwv_40 mwi_40 mwd_40)
theorem t112_7 : e_ok mD112 7 (15, 5, 0, 0, 8) := okm_i2l dL_wentTo_7
theorem t112_8 : e_ok mD112 8 (10, 3, 0, 0, 9) := oka_stl dL_wentTo_8
theorem t112_9 : e_ok mD112 9 (2, 4, 0, 0, 18) := oki_goto dL_wentTo_9 (by decide +kernel)
theorem t112_12 : e_ok mD112 12 (1, 5, 3, 0, 13) := oks_astore_n dL_wentTo_12 rfl (by decide +kernel)
theorem t112_13 : e_ok mD112 13 (0, 0, 1, 0, 14) := Or.inl (okc_iconst dL_wentTo_13 (by decide +kernel))
theorem t112_14 : e_ok mD112 14 (12, 1, 0, 0, 0) := okr_int dL_wentTo_14 rfl
theorem t112_15 : e_ok mD112 15 (1, 5, 3, 0, 16) := oks_astore_n dL_wentTo_15 rfl (by decide +kernel)
theorem t112_16 : e_ok mD112 16 (0, 0, 2, 0, 17) := Or.inl (okc_iconst dL_wentTo_16 (by decide +kernel))
theorem t112_17 : e_ok mD112 17 (12, 1, 0, 0, 0) := okr_int dL_wentTo_17 rfl
theorem t112_18 : e_ok mD112 18 (0, 0, 0, 0, 19) := Or.inl (okc_iconst dL_wentTo_18 (by decide +kernel))
theorem t112_19 : e_ok mD112 19 (12, 1, 0, 0, 0) := okr_int dL_wentTo_19 rfl
theorem t113_0 : e_ok mD113 0 (1, 1, 3, 0, 1) := okl_aload_n dL_worth_0 rfl
theorem t113_1 : e_ok mD113 1 (0, 0, 0, 0, 2) := Or.inl (okc_iconst dL_worth_1 (by decide +kernel))
theorem t113_2 : e_ok mD113 2 (1, 1, 0, 0, 3) := okl_aload_n dL_worth_2 rfl
theorem t113_3 : e_ok mD113 3 (1, 0, 1, 0, 4) := okl_iload_n dL_worth_3 rfl
theorem t113_4 : e_ok mD113 4 (1, 0, 2, 0, 5) := okl_iload_n dL_worth_4 rfl
theorem t113_5 : e_ok mD113 5 (11, 2, 41, 3, 8) := And.intro (okCallX.M (okx_virtual (Da := mD41) dL_worth_5 rfl mwc_41 (wg3 141 rfl rfl) mwn_41 mwv_41 mwi_41 mwd_41)) (fun _ => okx_virtual (Da := mD41) dL_worth_5 rfl mwc_41 (wg3 141 rfl rfl) mwn_41 mwv_41 mwi_41 mwd_41)
theorem t113_8 : e_ok mD113 8 (15, 5, 0, 0, 9) := okm_i2l dL_worth_8
theorem t113_9 : e_ok mD113 9 (10, 3, 0, 0, 10) := oka_stl dL_worth_9
theorem t113_10 : e_ok mD113 10 (2, 4, 0, 0, 21) := oki_goto dL_worth_10 (by decide +kernel)
theorem t113_13 : e_ok mD113 13 (1, 5, 4, 0, 15) := oks_astore dL_worth_13 (by decide +kernel)
theorem t113_15 : e_ok mD113 15 (0, 0, 1, 0, 16) := Or.inl (okc_iconst dL_worth_15 (by decide +kernel))
theorem t113_16 : e_ok mD113 16 (12, 1, 0, 0, 0) := okr_int dL_worth_16 rfl
theorem t113_17 : e_ok mD113 17 (1, 5, 4, 0, 19) := oks_astore dL_worth_17 (by decide +kernel)
theorem t113_19 : e_ok mD113 19 (0, 0, 2, 0, 20) := Or.inl (okc_iconst dL_worth_19 (by decide +kernel))
theorem t113_20 : e_ok mD113 20 (12, 1, 0, 0, 0) := okr_int dL_worth_20 rfl
theorem t113_21 : e_ok mD113 21 (0, 0, 0, 0, 22) := Or.inl (okc_iconst dL_worth_21 (by decide +kernel))
theorem t113_22 : e_ok mD113 22 (12, 1, 0, 0, 0) := okr_int dL_worth_22 rfl
theorem t114_0 : e_ok mD114 0 (1, 1, 3, 0, 1) := okl_aload_n dL_worthWith_0 rfl
theorem t114_1 : e_ok mD114 1 (0, 0, 0, 0, 2) := Or.inl (okc_iconst dL_worthWith_1 (by decide +kernel))
theorem t114_2 : e_ok mD114 2 (1, 1, 0, 0, 3) := okl_aload_n dL_worthWith_2 rfl
theorem t114_3 : e_ok mD114 3 (1, 0, 1, 0, 4) := okl_iload_n dL_worthWith_3 rfl
theorem t114_4 : e_ok mD114 4 (1, 0, 2, 0, 5) := okl_iload_n dL_worthWith_4 rfl
theorem t114_5 : e_ok mD114 5 (11, 2, 42, 3, 8) := And.intro (okCallX.M (okx_virtual (Da := mD42) dL_worthWith_5 rfl mwc_42 (wg3 235 rfl rfl) mwn_42 mwv_42 mwi_42 mwd_42)) (fun _ => okx_virtual (Da := mD42) dL_worthWith_5 rfl mwc_42 (wg3 235 rfl rfl) mwn_42 mwv_42 mwi_42 mwd_42)
theorem t114_8 : e_ok mD114 8 (10, 3, 0, 0, 9) := oka_stl dL_worthWith_8
theorem t114_9 : e_ok mD114 9 (2, 4, 0, 0, 24) := oki_goto dL_worthWith_9 (by decide +kernel)
theorem t114_12 : e_ok mD114 12 (1, 5, 4, 0, 14) := oks_astore dL_worthWith_12 (by decide +kernel)
theorem t114_14 : e_ok mD114 14 (0, 0, 1, 0, 15) := Or.inl (okc_iconst dL_worthWith_14 (by decide +kernel))
theorem t114_15 : e_ok mD114 15 (12, 1, 0, 0, 0) := okr_int dL_worthWith_15 rfl
theorem t114_16 : e_ok mD114 16 (1, 5, 4, 0, 18) := oks_astore dL_worthWith_16 (by decide +kernel)
theorem t114_18 : e_ok mD114 18 (0, 0, 2, 0, 19) := Or.inl (okc_iconst dL_worthWith_18 (by decide +kernel))
theorem t114_19 : e_ok mD114 19 (12, 1, 0, 0, 0) := okr_int dL_worthWith_19 rfl
theorem t114_20 : e_ok mD114 20 (1, 5, 4, 0, 22) := oks_astore dL_worthWith_20 (by decide +kernel)
theorem t114_22 : e_ok mD114 22 (0, 0, 3, 0, 23) := Or.inl (okc_iconst dL_worthWith_22 (by decide +kernel))
theorem t114_23 : e_ok mD114 23 (12, 1, 0, 0, 0) := okr_int dL_worthWith_23 rfl
theorem t114_24 : e_ok mD114 24 (0, 0, 0, 0, 25) := Or.inl (okc_iconst dL_worthWith_24 (by decide +kernel))
theorem t114_25 : e_ok mD114 25 (12, 1, 0, 0, 0) := okr_int dL_worthWith_25 rfl
theorem t115_0 : e_ok mD115 0 (1, 1, 0, 0, 1) := okl_aload_n dX13_init_0 rfl
theorem t115_1 : e_ok mD115 1 (7, 4, 0, 0, 4) := okw_obj dX13_init_1 (wg5 42 rfl rfl) w_obj1 w_obj2
theorem t115_4 : e_ok mD115 4 (1, 1, 0, 0, 5) := okl_aload_n dX13_init_4 rfl
theorem t115_5 : e_ok mD115 5 (7, 1, 4, 3, 8) := And.intro (fun X ρ => okw_new dX13_init_5 rfl hin_4 tyJx4a65c_ok (wg5 43 rfl rfl) (wg5 44 rfl rfl) (wg1 14 rfl rfl) rfl) (by decide)
theorem t115_8 : e_ok mD115 8 (2, 1, 0, 0, 9) := oki_dup dX13_init_8
theorem t115_9 : e_ok mD115 9 (11, 1, 184, 1, 12) := And.intro (okm_init (Da := mD184) dX13_init_9 rfl rfl mwc_184 (wg5 45 rfl rfl) mwn_184 mwi_184 rfl mwd_184) (fun h => h.elim nofun nofun)
theorem t115_12 : e_ok mD115 12 (9, 7, 18, 1, 15) := okw_putF dX13_init_12 rfl hin_18 tyX13_ok nmX13 (by decide +kernel) (wg5 171 rfl rfl) rfl rfl rfl rfl (tyX13_ok 1 (by decide +kernel)) (fun V h => fitV_obj h)
theorem t115_15 : e_ok mD115 15 (1, 1, 0, 0, 16) := okl_aload_n dX13_init_15 rfl
theorem t115_16 : e_ok mD115 16 (7, 1, 4, 3, 19) := And.intro (fun X ρ => okw_new dX13_init_16 rfl hin_4 tyJx4a65c_ok (wg5 43 rfl rfl) (wg5 44 rfl rfl) (wg1 14 rfl rfl) rfl) (by decide)
theorem t115_19 : e_ok mD115 19 (2, 1, 0, 0, 20) := oki_dup dX13_init_19
theorem t115_20 : e_ok mD115 20 (11, 1, 184, 1, 23) := And.intro (okm_init (Da := mD184) dX13_init_20 rfl rfl mwc_184 (wg5 45 rfl rfl) mwn_184 mwi_184 rfl mwd_184) (fun h => h.elim nofun nofun)
theorem t115_23 : e_ok mD115 23 (9, 7, 18, 2, 26) := okw_putF dX13_init_23 rfl hin_18 tyX13_ok nmX13 (by decide +kernel) (wg5 172 rfl rfl) rfl rfl rfl rfl (tyX13_ok 2 (by decide +kernel)) (fun V h => fitV_obj h)
theorem t115_26 : e_ok mD115 26 (1, 1, 0, 0, 27) := okl_aload_n dX13_init_26 rfl
theorem t115_27 : e_ok mD115 27 (7, 1, 4, 3, 30) := And.intro (fun X ρ => okw_new dX13_init_27 rfl hin_4 tyJx4a65c_ok (wg5 43 rfl rfl) (wg5 44 rfl rfl) (wg1 14 rfl rfl) rfl) (by decide)
theorem t115_30 : e_ok mD115 30 (2, 1, 0, 0, 31) := oki_dup dX13_init_30
theorem t115_31 : e_ok mD115 31 (11, 1, 184, 1, 34) := And.intro (okm_init (Da := mD184) dX13_init_31 rfl rfl mwc_184 (wg5 45 rfl rfl) mwn_184 mwi_184 rfl mwd_184) (fun h => h.elim nofun nofun)
theorem t115_34 : e_ok mD115 34 (9, 7, 18, 3, 37) := okw_putF dX13_init_34 rfl hin_18 tyX13_ok nmX13 (by decide +kernel) (wg5 173 rfl rfl) rfl rfl rfl rfl (tyX13_ok 3 (by decide +kernel)) (fun V h => fitV_obj h)
theorem t115_37 : e_ok mD115 37 (1, 1, 0, 0, 38) := okl_aload_n dX13_init_37 rfl
theorem t115_38 : e_ok mD115 38 (7, 1, 4, 3, 41) := And.intro (fun X ρ => okw_new dX13_init_38 rfl hin_4 tyJx4a65c_ok (wg5 43 rfl rfl) (wg5 44 rfl rfl) (wg1 14 rfl rfl) rfl) (by decide)
theorem t115_41 : e_ok mD115 41 (2, 1, 0, 0, 42) := oki_dup dX13_init_41
theorem t115_42 : e_ok mD115 42 (11, 1, 184, 1, 45) := And.intro (okm_init (Da := mD184) dX13_init_42 rfl rfl mwc_184 (wg5 45 rfl rfl) mwn_184 mwi_184 rfl mwd_184) (fun h => h.elim nofun nofun)
theorem t115_45 : e_ok mD115 45 (9, 7, 18, 4, 48) := okw_putF dX13_init_45 rfl hin_18 tyX13_ok nmX13 (by decide +kernel) (wg5 174 rfl rfl) rfl rfl rfl rfl (tyX13_ok 4 (by decide +kernel)) (fun V h => fitV_obj h)
theorem t115_48 : e_ok mD115 48 (1, 1, 0, 0, 49) := okl_aload_n dX13_init_48 rfl
theorem t115_49 : e_ok mD115 49 (0, 0, 7, 0, 51) := Or.inl (okc_bipush dX13_init_49 (by decide +kernel))
theorem t115_51 : e_ok mD115 51 (16, 0, 0, 0, 53) := And.intro (oka_new (by decide) rfl (wg1 73 rfl rfl) dX13_init_51) (by decide)
theorem t115_53 : e_ok mD115 53 (2, 1, 0, 0, 54) := oki_dup dX13_init_53
theorem t115_54 : e_ok mD115 54 (0, 0, 0, 0, 55) := Or.inl (okc_iconst dX13_init_54 (by decide +kernel))
theorem t115_55 : e_ok mD115 55 (0, 0, 3, 0, 56) := Or.inl (okc_iconst dX13_init_55 (by decide +kernel))
theorem t115_56 : e_ok mD115 56 (10, 0, 0, 0, 57) := oka_sti dX13_init_56
theorem t115_57 : e_ok mD115 57 (2, 1, 0, 0, 58) := oki_dup dX13_init_57
theorem t115_58 : e_ok mD115 58 (0, 0, 1, 0, 59) := Or.inl (okc_iconst dX13_init_58 (by decide +kernel))
theorem t115_59 : e_ok mD115 59 (0, 0, 2, 0, 60) := Or.inl (okc_iconst dX13_init_59 (by decide +kernel))
theorem t115_60 : e_ok mD115 60 (10, 0, 0, 0, 61) := oka_sti dX13_init_60
theorem t115_61 : e_ok mD115 61 (2, 1, 0, 0, 62) := oki_dup dX13_init_61
theorem t115_62 : e_ok mD115 62 (0, 0, 2, 0, 63) := Or.inl (okc_iconst dX13_init_62 (by decide +kernel))
theorem t115_63 : e_ok mD115 63 (0, 0, 20, 0, 65) := Or.inl (okc_bipush dX13_init_63 (by decide +kernel))
theorem t115_65 : e_ok mD115 65 (10, 0, 0, 0, 66) := oka_sti dX13_init_65
theorem t115_66 : e_ok mD115 66 (2, 1, 0, 0, 67) := oki_dup dX13_init_66
theorem t115_67 : e_ok mD115 67 (0, 0, 3, 0, 68) := Or.inl (okc_iconst dX13_init_67 (by decide +kernel))
theorem t115_68 : e_ok mD115 68 (0, 0, 10, 0, 70) := Or.inl (okc_bipush dX13_init_68 (by decide +kernel))
theorem t115_70 : e_ok mD115 70 (10, 0, 0, 0, 71) := oka_sti dX13_init_70
theorem t115_71 : e_ok mD115 71 (2, 1, 0, 0, 72) := oki_dup dX13_init_71
theorem t115_72 : e_ok mD115 72 (0, 0, 4, 0, 73) := Or.inl (okc_iconst dX13_init_72 (by decide +kernel))
theorem t115_73 : e_ok mD115 73 (0, 0, 10, 0, 75) := Or.inl (okc_bipush dX13_init_73 (by decide +kernel))
theorem t115_75 : e_ok mD115 75 (10, 0, 0, 0, 76) := oka_sti dX13_init_75
theorem t115_76 : e_ok mD115 76 (2, 1, 0, 0, 77) := oki_dup dX13_init_76
theorem t115_77 : e_ok mD115 77 (0, 0, 5, 0, 78) := Or.inl (okc_iconst dX13_init_77 (by decide +kernel))
theorem t115_78 : e_ok mD115 78 (0, 0, 10, 0, 80) := Or.inl (okc_bipush dX13_init_78 (by decide +kernel))
theorem t115_80 : e_ok mD115 80 (10, 0, 0, 0, 81) := oka_sti dX13_init_80
theorem t115_81 : e_ok mD115 81 (2, 1, 0, 0, 82) := oki_dup dX13_init_81
theorem t115_82 : e_ok mD115 82 (0, 0, 6, 0, 84) := Or.inl (okc_bipush dX13_init_82 (by decide +kernel))
theorem t115_84 : e_ok mD115 84 (0, 0, 5, 0, 85) := Or.inl (okc_iconst dX13_init_84 (by decide +kernel))
theorem t115_85 : e_ok mD115 85 (10, 0, 0, 0, 86) := oka_sti dX13_init_85
theorem t115_86 : e_ok mD115 86 (9, 7, 18, 5, 89) := okw_putF dX13_init_86 rfl hin_18 tyX13_ok nmX13 (by decide +kernel) (wg5 175 rfl rfl) rfl rfl rfl rfl (tyX13_ok 5 (by decide +kernel)) (fun V h => fitV_arr h)
theorem t115_89 : e_ok mD115 89 (0, 0, 0, 0, 90) := Or.inl (okc_iconst dX13_init_89 (by decide +kernel))
theorem t115_90 : e_ok mD115 90 (1, 4, 1, 0, 91) := oks_istore_n dX13_init_90 rfl (by decide +kernel)
theorem t115_91 : e_ok mD115 91 (1, 0, 1, 0, 92) := okl_iload_n dX13_init_91 rfl
theorem t115_92 : e_ok mD115 92 (0, 0, 60, 0, 94) := Or.inl (okc_bipush dX13_init_92 (by decide +kernel))
theorem t115_94 : e_ok mD115 94 (6, 3, 120, 0, 97) := okk_ge dX13_init_94 (by decide +kernel)
theorem t115_97 : e_ok mD115 97 (1, 1, 0, 0, 98) := okl_aload_n dX13_init_97 rfl
theorem t115_98 : e_ok mD115 98 (7, 0, 18, 1, 101) := And.intro (okw_get dX13_init_98 rfl hin_18 (by decide +kernel) (wg5 171 rfl rfl) rfl) (okx_none (by decide +kernel) _)
theorem t115_101 : e_ok mD115 101 (7, 1, 15, 5, 104) := And.intro (fun X ρ => okw_new dX13_init_101 rfl hin_15 tyX10_ok (wg5 72 rfl rfl) (wg5 73 rfl rfl) (wg1 15 rfl rfl) rfl) (by decide)
theorem t115_104 : e_ok mD115 104 (2, 1, 0, 0, 105) := oki_dup dX13_init_104
theorem t115_105 : e_ok mD115 105 (11, 1, 165, 1, 108) := And.intro (okm_initN (Da := mD165) dX13_init_105 rfl rfl mwc_165 (wn5 74 rfl rfl) mwn_165 mwi_165 rfl mwd_165) (fun h => h.elim nofun nofun)
theorem t115_108 : e_ok mD115 108 (11, 3, 185, 2, 113) := And.intro (okm_iface (ci := 4) (x := ⟨"java/util/List", "add", "(Ljava/lang/Object;)Z"⟩) (Da := mD185) rfl dX13_init_108 rfl mwc_185 (wg5 97 rfl rfl) mwn_185 (wg5 101 rfl rfl) mwi_185 (wn5 99 rfl rfl) (wn5 98 rfl rfl) (wn5 104 rfl rfl) (wn5 102 rfl rfl) (wn5 100 rfl rfl) ⟨by decide +kernel, by decide +kernel, by decide +kernel⟩) (fun h => h.elim nofun nofun)
theorem t115_113 : e_ok mD115 113 (2, 2, 0, 0, 114) := oki_pop dX13_init_113
theorem t115_114 : e_ok mD115 114 (2, 0, 1, 1, 117) := oki_iinc dX13_init_114 (by decide +kernel) (by decide +kernel)
theorem t115_117 : e_ok mD115 117 (2, 4, 0, 0, 91) := oki_goto dX13_init_117 (by decide +kernel)
theorem t115_120 : e_ok mD115 120 (12, 0, 0, 0, 0) := okr_void dX13_init_120 rfl
theorem t116_0 : e_ok mD116 0 (1, 1, 0, 0, 1) := okl_aload_n dX13_aWeek_0 rfl
theorem t116_1 : e_ok mD116 1 (11, 2, 146, 1, 4) := And.intro (okCallX.M (okx_virtual (Da := mD146) dX13_aWeek_1 rfl mwc_146 (wg7 58 rfl rfl) mwn_146 mwv_146 mwi_146 mwd_146)) (fun _ => okx_virtual (Da := mD146) dX13_aWeek_1 rfl mwc_146 (wg7 58 rfl rfl) mwn_146 mwv_146 mwi_146 mwd_146)
theorem t116_4 : e_ok mD116 4 (1, 5, 1, 0, 5) := oks_astore_n dX13_aWeek_4 rfl (by decide +kernel)
theorem t116_5 : e_ok mD116 5 (1, 1, 0, 0, 6) := okl_aload_n dX13_aWeek_5 rfl
theorem t116_6 : e_ok mD116 6 (11, 2, 124, 1, 9) := And.intro (okCallX.M (okx_virtual (Da := mD124) dX13_aWeek_6 rfl mwc_124 (wg7 170 rfl rfl) mwn_124 mwv_124 mwi_124 mwd_124)) (fun _ => okx_virtual (Da := mD124) dX13_aWeek_6 rfl mwc_124 (wg7 170 rfl rfl) mwn_124 mwv_124 mwi_124 mwd_124)
theorem t116_9 : e_ok mD116 9 (1, 4, 2, 0, 10) := oks_istore_n dX13_aWeek_9 rfl (by decide +kernel)
theorem t116_10 : e_ok mD116 10 (7, 1, 4, 3, 13) := And.intro (fun X ρ => okw_new dX13_aWeek_10 rfl hin_4 tyJx4a65c_ok (wg5 43 rfl rfl) (wg5 44 rfl rfl) (wg1 14 rfl rfl) rfl) (by decide)
theorem t116_13 : e_ok mD116 13 (2, 1, 0, 0, 14) := oki_dup dX13_aWeek_13
theorem t116_14 : e_ok mD116 14 (11, 1, 184, 1, 17) := And.intro (okm_init (Da := mD184) dX13_aWeek_14 rfl rfl mwc_184 (wg5 45 rfl rfl) mwn_184 mwi_184 rfl mwd_184) (fun h => h.elim nofun nofun)
theorem t116_17 : e_ok mD116 17 (1, 5, 3, 0, 18) := oks_astore_n dX13_aWeek_17 rfl (by decide +kernel)
theorem t116_18 : e_ok mD116 18 (1, 1, 0, 0, 19) := okl_aload_n dX13_aWeek_18 rfl
theorem t116_19 : e_ok mD116 19 (0, 0, 112, 0, 21) := Or.inl (okc_bipush dX13_aWeek_19 (by decide +kernel))
theorem t116_21 : e_ok mD116 21 (11, 2, 157, 2, 24) := And.intro (okCallX.M (okx_virtual (Da := mD157) dX13_aWeek_21 rfl mwc_157 (wg7 174 rfl rfl) mwn_157 mwv_157 mwi_157 mwd_157)) (fun _ => okx_virtual (Da := mD157) dX13_aWeek_21 rfl mwc_157 (wg7 174 rfl rfl) mwn_157 mwv_157 mwi_157 mwd_157)
theorem t116_24 : e_ok mD116 24 (1, 4, 4, 0, 26) := oks_istore dX13_aWeek_24 (by decide +kernel)
theorem t116_26 : e_ok mD116 26 (0, 0, 0, 0, 27) := Or.inl (okc_iconst dX13_aWeek_26 (by decide +kernel))
theorem t116_27 : e_ok mD116 27 (1, 4, 5, 0, 29) := oks_istore dX13_aWeek_27 (by decide +kernel)
theorem t116_29 : e_ok mD116 29 (1, 0, 5, 0, 31) := okl_iload dX13_aWeek_29
theorem t116_31 : e_ok mD116 31 (1, 1, 0, 0, 32) := okl_aload_n dX13_aWeek_31 rfl
theorem t116_32 : e_ok mD116 32 (0, 0, 115, 0, 34) := Or.inl (okc_bipush dX13_aWeek_32 (by decide +kernel))
theorem t116_34 : e_ok mD116 34 (11, 2, 157, 2, 37) := And.intro (okCallX.M (okx_virtual (Da := mD157) dX13_aWeek_34 rfl mwc_157 (wg7 174 rfl rfl) mwn_157 mwv_157 mwi_157 mwd_157)) (fun _ => okx_virtual (Da := mD157) dX13_aWeek_34 rfl mwc_157 (wg7 174 rfl rfl) mwn_157 mwv_157 mwi_157 mwd_157)
theorem t116_37 : e_ok mD116 37 (6, 3, 72, 0, 40) := okk_ge dX13_aWeek_37 (by decide +kernel)
theorem t116_40 : e_ok mD116 40 (1, 1, 0, 0, 41) := okl_aload_n dX13_aWeek_40 rfl
theorem t116_41 : e_ok mD116 41 (1, 0, 2, 0, 42) := okl_iload_n dX13_aWeek_41 rfl
theorem t116_42 : e_ok mD116 42 (1, 1, 1, 0, 43) := okl_aload_n dX13_aWeek_42 rfl
theorem t116_43 : e_ok mD116 43 (11, 2, 143, 3, 46) := And.intro (okCallX.M (okx_virtual (Da := mD143) dX13_aWeek_43 rfl mwc_143 (wg7 178 rfl rfl) mwn_143 mwv_143 mwi_143 mwd_143)) (fun _ => okx_virtual (Da := mD143) dX13_aWeek_43 rfl mwc_143 (wg7 178 rfl rfl) mwn_143 mwv_143 mwi_143 mwd_143)
theorem t116_46 : e_ok mD116 46 (1, 4, 6, 0, 48) := oks_istore dX13_aWeek_46 (by decide +kernel)
theorem t116_48 : e_ok mD116 48 (1, 0, 6, 0, 50) := okl_iload dX13_aWeek_48
theorem t116_50 : e_ok mD116 50 (0, 0, 4294967295, 0, 51) := Or.inl (okc_iconst dX13_aWeek_50 (by decide +kernel))
theorem t116_51 : e_ok mD116 51 (6, 1, 57, 0, 54) := okk_ne dX13_aWeek_51 (by decide +kernel)
theorem t116_54 : e_ok mD116 54 (2, 4, 0, 0, 72) := oki_goto dX13_aWeek_54 (by decide +kernel)
theorem t116_57 : e_ok mD116 57 (1, 1, 0, 0, 58) := okl_aload_n dX13_aWeek_57 rfl
theorem t116_58 : e_ok mD116 58 (1, 0, 6, 0, 60) := okl_iload dX13_aWeek_58
theorem t116_60 : e_ok mD116 60 (1, 1, 3, 0, 61) := okl_aload_n dX13_aWeek_60 rfl
theorem t116_61 : e_ok mD116 61 (1, 0, 4, 0, 63) := okl_iload dX13_aWeek_61
theorem t116_63 : e_ok mD116 63 (11, 2, 221, 4, 66) := And.intro (okCallX.M (okx_virtual (Da := mD221) dX13_aWeek_63 rfl mwc_221 (wg7 182 rfl rfl) mwn_221 mwv_221 mwi_221 mwd_221)) (fun _ => okx_virtual (Da := mD221) dX13_aWeek_63 rfl mwc_221 (wg7 182 rfl rfl) mwn_221 mwv_221 mwi_221 mwd_221)
theorem t116_66 : e_ok mD116 66 (2, 0, 5, 1, 69) := oki_iinc dX13_aWeek_66 (by decide +kernel) (by decide +kernel)
theorem t116_69 : e_ok mD116 69 (2, 4, 0, 0, 29) := oki_goto dX13_aWeek_69 (by decide +kernel)
theorem t116_72 : e_ok mD116 72 (1, 1, 3, 0, 73) := okl_aload_n dX13_aWeek_72 rfl
theorem t116_73 : e_ok mD116 73 (11, 3, 194, 1, 78) := And.intro (okm_iface (ci := 4) (x := ⟨"java/util/List", "size", "()I"⟩) (Da := mD194) rfl dX13_aWeek_73 rfl mwc_194 (wg6 38 rfl rfl) mwn_194 (wg6 41 rfl rfl) mwi_194 (wn6 40 rfl rfl) (wn6 39 rfl rfl) (wn6 44 rfl rfl) (wn6 42 rfl rfl) (wn5 100 rfl rfl) ⟨by decide +kernel, by decide +kernel, by decide +kernel⟩) (fun h => h.elim nofun nofun)
theorem t116_78 : e_ok mD116 78 (1, 0, 4, 0, 80) := okl_iload dX13_aWeek_78
theorem t116_80 : e_ok mD116 80 (6, 3, 107, 0, 83) := okk_ge dX13_aWeek_80 (by decide +kernel)
theorem t116_83 : e_ok mD116 83 (1, 1, 0, 0, 84) := okl_aload_n dX13_aWeek_83 rfl
theorem t116_84 : e_ok mD116 84 (7, 0, 18, 16, 87) := And.intro (okw_get dX13_aWeek_84 rfl hin_18 (by decide +kernel) (wg5 186 rfl rfl) rfl) (okx_none (by decide +kernel) _)
theorem t116_87 : e_ok mD116 87 (5, 5, 107, 0, 90) := okj_le dX13_aWeek_87 (by decide +kernel)
theorem t116_90 : e_ok mD116 90 (1, 1, 3, 0, 91) := okl_aload_n dX13_aWeek_90 rfl
theorem t116_91 : e_ok mD116 91 (1, 1, 0, 0, 92) := okl_aload_n dX13_aWeek_91 rfl
theorem t116_92 : e_ok mD116 92 (11, 2, 222, 1, 95) := And.intro (okCallX.M (okx_virtual (Da := mD222) dX13_aWeek_92 rfl mwc_222 (wg7 186 rfl rfl) mwn_222 mwv_222 mwi_222 mwd_222)) (fun _ => okx_virtual (Da := mD222) dX13_aWeek_92 rfl mwc_222 (wg7 186 rfl rfl) mwn_222 mwv_222 mwi_222 mwd_222)
theorem t116_95 : e_ok mD116 95 (11, 0, 171, 1, 98) := And.intro (okCallX.M (okx_static (Da := mD171) dX13_aWeek_95 rfl mwc_171 (wg6 192 rfl rfl) mws_171 mwi_171 mwd_171)) (fun _ => okx_static (Da := mD171) dX13_aWeek_95 rfl mwc_171 (wg6 192 rfl rfl) mws_171 mwi_171 mwd_171)
theorem t116_98 : e_ok mD116 98 (11, 3, 185, 2, 103) := And.intro (okm_iface (ci := 4) (x := ⟨"java/util/List", "add", "(Ljava/lang/Object;)Z"⟩) (Da := mD185) rfl dX13_aWeek_98 rfl mwc_185 (wg5 97 rfl rfl) mwn_185 (wg5 101 rfl rfl) mwi_185 (wn5 99 rfl rfl) (wn5 98 rfl rfl) (wn5 104 rfl rfl) (wn5 102 rfl rfl) (wn5 100 rfl rfl) ⟨by decide +kernel, by decide +kernel, by decide +kernel⟩) (fun h => h.elim nofun nofun)
theorem t116_103 : e_ok mD116 103 (2, 2, 0, 0, 104) := oki_pop dX13_aWeek_103
theorem t116_104 : e_ok mD116 104 (2, 4, 0, 0, 72) := oki_goto dX13_aWeek_104 (by decide +kernel)
theorem t116_107 : e_ok mD116 107 (1, 1, 0, 0, 108) := okl_aload_n dX13_aWeek_107 rfl
theorem t116_108 : e_ok mD116 108 (1, 1, 3, 0, 109) := okl_aload_n dX13_aWeek_108 rfl
theorem t116_109 : e_ok mD116 109 (11, 2, 140, 2, 112) := And.intro (okCallX.M (okx_virtual (Da := mD140) dX13_aWeek_109 rfl mwc_140 (wg7 204 rfl rfl) mwn_140 mwv_140 mwi_140 mwd_140)) (fun _ => okx_virtual (Da := mD140) dX13_aWeek_109 rfl mwc_140 (wg7 204 rfl rfl) mwn_140 mwv_140 mwi_140 mwd_140)
theorem t116_112 : e_ok mD116 112 (1, 1, 0, 0, 113) := okl_aload_n dX13_aWeek_112 rfl
theorem t116_113 : e_ok mD116 113 (2, 1, 0, 0, 114) := oki_dup dX13_aWeek_113
theorem t116_114 : e_ok mD116 114 (7, 0, 18, 9, 117) := And.intro (okw_get dX13_aWeek_114 rfl hin_18 (by decide +kernel) (wg5 179 rfl rfl) rfl) (okx_none (by decide +kernel) _)
theorem t116_117 : e_ok mD116 117 (1, 1, 0, 0, 118) := okl_aload_n dX13_aWeek_117 rfl
theorem t116_118 : e_ok mD116 118 (0, 0, 114, 0, 120) := Or.inl (okc_bipush dX13_aWeek_118 (by decide +kernel))
theorem t116_120 : e_ok mD116 120 (11, 2, 157, 2, 123) := And.intro (okCallX.M (okx_virtual (Da := mD157) dX13_aWeek_120 rfl mwc_157 (wg7 174 rfl rfl) mwn_157 mwv_157 mwi_157 mwd_157)) (fun _ => okx_virtual (Da := mD157) dX13_aWeek_120 rfl mwc_157 (wg7 174 rfl rfl) mwn_157 mwv_157 mwi_157 mwd_157)
theorem t116_123 : e_ok mD116 123 (3, 0, 0, 0, 124) := okb_iadd dX13_aWeek_123
theorem t116_124 : e_ok mD116 124 (9, 0, 18, 9, 127) := okw_put dX13_aWeek_124 rfl hin_18 tyX13_ok nmX13 (by decide +kernel) (wg5 179 rfl rfl) rfl rfl (tyX13_ok 9 (by decide +kernel)) (fun V h => fitV_int h)
theorem t116_127 : e_ok mD116 127 (1, 1, 0, 0, 128) := okl_aload_n dX13_aWeek_127 rfl
theorem t116_128 : e_ok mD116 128 (0, 0, 119, 0, 130) := Or.inl (okc_bipush dX13_aWeek_128 (by decide +kernel))
theorem t116_130 : e_ok mD116 130 (11, 2, 157, 2, 133) := And.intro (okCallX.M (okx_virtual (Da := mD157) dX13_aWeek_130 rfl mwc_157 (wg7 174 rfl rfl) mwn_157 mwv_157 mwi_157 mwd_157)) (fun _ => okx_virtual (Da := mD157) dX13_aWeek_130 rfl mwc_157 (wg7 174 rfl rfl) mwn_157 mwv_157 mwi_157 mwd_157)
theorem t116_133 : e_ok mD116 133 (1, 1, 0, 0, 134) := okl_aload_n dX13_aWeek_133 rfl
theorem t116_134 : e_ok mD116 134 (7, 0, 18, 9, 137) := And.intro (okw_get dX13_aWeek_134 rfl hin_18 (by decide +kernel) (wg5 179 rfl rfl) rfl) (okx_none (by decide +kernel) _)
theorem t116_137 : e_ok mD116 137 (11, 0, 173, 2, 140) := And.intro (okCallX.M (okx_static (Da := mD173) dX13_aWeek_137 rfl mwc_173 (wg7 218 rfl rfl) mws_173 mwi_173 mwd_173)) (fun _ => okx_static (Da := mD173) dX13_aWeek_137 rfl mwc_173 (wg7 218 rfl rfl) mws_173 mwi_173 mwd_173)
theorem t116_140 : e_ok mD116 140 (1, 4, 5, 0, 142) := oks_istore dX13_aWeek_140 (by decide +kernel)
theorem t116_142 : e_ok mD116 142 (1, 1, 0, 0, 143) := okl_aload_n dX13_aWeek_142 rfl
theorem t116_143 : e_ok mD116 143 (2, 1, 0, 0, 144) := oki_dup dX13_aWeek_143
theorem t116_144 : e_ok mD116 144 (7, 0, 18, 9, 147) := And.intro (okw_get dX13_aWeek_144 rfl hin_18 (by decide +kernel) (wg5 179 rfl rfl) rfl) (okx_none (by decide +kernel) _)
theorem t116_147 : e_ok mD116 147 (1, 0, 5, 0, 149) := okl_iload dX13_aWeek_147
theorem t116_149 : e_ok mD116 149 (3, 1, 0, 0, 150) := okb_isub dX13_aWeek_149
theorem t116_150 : e_ok mD116 150 (9, 0, 18, 9, 153) := okw_put dX13_aWeek_150 rfl hin_18 tyX13_ok nmX13 (by decide +kernel) (wg5 179 rfl rfl) rfl rfl (tyX13_ok 9 (by decide +kernel)) (fun V h => fitV_int h)
theorem t116_153 : e_ok mD116 153 (1, 1, 0, 0, 154) := okl_aload_n dX13_aWeek_153 rfl
theorem t116_154 : e_ok mD116 154 (2, 1, 0, 0, 155) := oki_dup dX13_aWeek_154
theorem t116_155 : e_ok mD116 155 (7, 0, 18, 22, 158) := And.intro (okw_get dX13_aWeek_155 rfl hin_18 (by decide +kernel) (wg5 192 rfl rfl) rfl) (okx_none (by decide +kernel) _)
theorem t116_158 : e_ok mD116 158 (0, 1, 5, 0, 161) := okc_ldc2 dX13_aWeek_158 (wg7 219 rfl rfl)
theorem t116_161 : e_ok mD116 161 (1, 0, 5, 0, 163) := okl_iload dX13_aWeek_161
theorem t116_163 : e_ok mD116 163 (0, 0, 9, 0, 165) := Or.inl (okc_bipush dX13_aWeek_163 (by decide +kernel))
theorem t116_165 : e_ok mD116 165 (3, 0, 0, 0, 166) := okb_iadd dX13_aWeek_165
theorem t116_166 : e_ok mD116 166 (0, 0, 10, 0, 168) := Or.inl (okc_bipush dX13_aWeek_166 (by decide +kernel))
theorem t116_168 : e_ok mD116 168 (3, 3, 0, 0, 169) := okb_idiv dX13_aWeek_168
theorem t116_169 : e_ok mD116 169 (15, 5, 0, 0, 170) := okm_i2l dX13_aWeek_169
theorem t116_170 : e_ok mD116 170 (15, 2, 0, 0, 171) := okm_lmul dX13_aWeek_170
theorem t116_171 : e_ok mD116 171 (15, 1, 0, 0, 172) := okm_lsub dX13_aWeek_171
theorem t116_172 : e_ok mD116 172 (9, 3, 18, 22, 175) := okw_put dX13_aWeek_172 rfl hin_18 tyX13_ok nmX13 (by decide +kernel) (wg5 192 rfl rfl) rfl rfl (tyX13_ok 22 (by decide +kernel)) (fun V h => fitV_long h)
theorem t116_175 : e_ok mD116 175 (1, 1, 0, 0, 176) := okl_aload_n dX13_aWeek_175 rfl
theorem t116_176 : e_ok mD116 176 (2, 1, 0, 0, 177) := oki_dup dX13_aWeek_176
theorem t116_177 : e_ok mD116 177 (7, 0, 18, 8, 180) := And.intro (okw_get dX13_aWeek_177 rfl hin_18 (by decide +kernel) (wg5 178 rfl rfl) rfl) (okx_none (by decide +kernel) _)
theorem t116_180 : e_ok mD116 180 (0, 0, 1, 0, 181) := Or.inl (okc_iconst dX13_aWeek_180 (by decide +kernel))
theorem t116_181 : e_ok mD116 181 (3, 0, 0, 0, 182) := okb_iadd dX13_aWeek_181
theorem t116_182 : e_ok mD116 182 (9, 0, 18, 8, 185) := okw_put dX13_aWeek_182 rfl hin_18 tyX13_ok nmX13 (by decide +kernel) (wg5 178 rfl rfl) rfl rfl (tyX13_ok 8 (by decide +kernel)) (fun V h => fitV_int h)
theorem t116_185 : e_ok mD116 185 (12, 0, 0, 0, 0) := okr_void dX13_aWeek_185 rfl
theorem t117_0 : e_ok mD117 0 (7, 1, 4, 3, 3) := And.intro (fun X ρ => okw_new dX13_above_0 rfl hin_4 tyJx4a65c_ok (wg5 43 rfl rfl) (wg5 44 rfl rfl) (wg1 14 rfl rfl) rfl) (by decide)
theorem t117_3 : e_ok mD117 3 (2, 1, 0, 0, 4) := oki_dup dX13_above_3
theorem t117_4 : e_ok mD117 4 (11, 1, 184, 1, 7) := And.intro (okm_init (Da := mD184) dX13_above_4 rfl rfl mwc_184 (wg5 45 rfl rfl) mwn_184 mwi_184 rfl mwd_184) (fun h => h.elim nofun nofun)
theorem t117_7 : e_ok mD117 7 (1, 5, 2, 0, 8) := oks_astore_n dX13_above_7 rfl (by decide +kernel)
theorem t117_8 : e_ok mD117 8 (1, 0, 1, 0, 9) := okl_iload_n dX13_above_8 rfl
theorem t117_9 : e_ok mD117 9 (0, 0, 10, 0, 11) := Or.inl (okc_bipush dX13_above_9 (by decide +kernel))
theorem t117_11 : e_ok mD117 11 (3, 4, 0, 0, 12) := okb_irem dX13_above_11
theorem t117_12 : e_ok mD117 12 (1, 4, 3, 0, 13) := oks_istore_n dX13_above_12 rfl (by decide +kernel)
theorem t117_13 : e_ok mD117 13 (1, 0, 3, 0, 14) := okl_iload_n dX13_above_13 rfl
theorem t117_14 : e_ok mD117 14 (0, 0, 1, 0, 15) := Or.inl (okc_iconst dX13_above_14 (by decide +kernel))
theorem t117_15 : e_ok mD117 15 (3, 1, 0, 0, 16) := okb_isub dX13_above_15
theorem t117_16 : e_ok mD117 16 (1, 4, 4, 0, 18) := oks_istore dX13_above_16 (by decide +kernel)
theorem t117_18 : e_ok mD117 18 (1, 0, 4, 0, 20) := okl_iload dX13_above_18
theorem t117_20 : e_ok mD117 20 (1, 0, 3, 0, 21) := okl_iload_n dX13_above_20 rfl
theorem t117_21 : e_ok mD117 21 (0, 0, 1, 0, 22) := Or.inl (okc_iconst dX13_above_21 (by decide +kernel))
theorem t117_22 : e_ok mD117 22 (3, 0, 0, 0, 23) := okb_iadd dX13_above_22
theorem t117_23 : e_ok mD117 23 (6, 4, 105, 0, 26) := okk_gt dX13_above_23 (by decide +kernel)
theorem t117_26 : e_ok mD117 26 (1, 0, 4, 0, 28) := okl_iload dX13_above_26
theorem t117_28 : e_ok mD117 28 (1, 0, 3, 0, 29) := okl_iload_n dX13_above_28 rfl
theorem t117_29 : e_ok mD117 29 (6, 0, 62, 0, 32) := okk_eq dX13_above_29 (by decide +kernel)
theorem t117_32 : e_ok mD117 32 (1, 1, 0, 0, 33) := okl_aload_n dX13_above_32 rfl
theorem t117_33 : e_ok mD117 33 (7, 0, 18, 1, 36) := And.intro (okw_get dX13_above_33 rfl hin_18 (by decide +kernel) (wg5 171 rfl rfl) rfl) (okx_none (by decide +kernel) _)
theorem t117_36 : e_ok mD117 36 (1, 0, 1, 0, 37) := okl_iload_n dX13_above_36 rfl
theorem t117_37 : e_ok mD117 37 (11, 3, 189, 2, 42) := And.intro (okm_iface (ci := 4) (x := ⟨"java/util/List", "get", "(I)Ljava/lang/Object;"⟩) (Da := mD189) rfl dX13_above_37 rfl mwc_189 (wg6 11 rfl rfl) mwn_189 (wg6 14 rfl rfl) mwi_189 (wn6 13 rfl rfl) (wn6 12 rfl rfl) (wn6 17 rfl rfl) (wn6 15 rfl rfl) (wn5 100 rfl rfl) ⟨by decide +kernel, by decide +kernel, by decide +kernel⟩) (fun h => h.elim nofun nofun)
theorem t117_42 : e_ok mD117 42 (7, 2, 15, 0, 45) := okw_cast dX13_above_42 rfl (wg5 72 rfl rfl)
theorem t117_45 : e_ok mD117 45 (7, 0, 15, 0, 48) := And.intro (okw_getN dX13_above_45 rfl hin_15 (by decide +kernel) (wn5 78 rfl rfl) rfl) (okx_none (by decide +kernel) _)
theorem t117_48 : e_ok mD117 48 (5, 1, 66, 0, 51) := okj_ne dX13_above_48 (by decide +kernel)
theorem t117_51 : e_ok mD117 51 (1, 0, 4, 0, 53) := okl_iload dX13_above_51
theorem t117_53 : e_ok mD117 53 (0, 0, 0, 0, 54) := Or.inl (okc_iconst dX13_above_53 (by decide +kernel))
theorem t117_54 : e_ok mD117 54 (0, 0, 9, 0, 56) := Or.inl (okc_bipush dX13_above_54 (by decide +kernel))
theorem t117_56 : e_ok mD117 56 (11, 0, 129, 3, 59) := And.intro (okCallX.M (okx_static (Da := mD129) dX13_above_56 rfl mwc_129 (wg6 7 rfl rfl) mws_129 mwi_129 mwd_129)) (fun _ => okx_static (Da := mD129) dX13_above_56 rfl mwc_129 (wg6 7 rfl rfl) mws_129 mwi_129 mwd_129)
theorem t117_59 : e_ok mD117 59 (5, 0, 66, 0, 62) := okj_eq dX13_above_59 (by decide +kernel)
theorem t117_62 : e_ok mD117 62 (0, 0, 1, 0, 63) := Or.inl (okc_iconst dX13_above_62 (by decide +kernel))
theorem t117_63 : e_ok mD117 63 (2, 4, 0, 0, 67) := oki_goto dX13_above_63 (by decide +kernel)
theorem t117_66 : e_ok mD117 66 (0, 0, 0, 0, 67) := Or.inl (okc_iconst dX13_above_66 (by decide +kernel))
theorem t117_67 : e_ok mD117 67 (1, 4, 5, 0, 69) := oks_istore dX13_above_67 (by decide +kernel)
theorem t117_69 : e_ok mD117 69 (1, 0, 1, 0, 70) := okl_iload_n dX13_above_69 rfl
theorem t117_70 : e_ok mD117 70 (0, 0, 10, 0, 72) := Or.inl (okc_bipush dX13_above_70 (by decide +kernel))
theorem t117_72 : e_ok mD117 72 (6, 2, 99, 0, 75) := okk_lt dX13_above_72 (by decide +kernel)
theorem t117_75 : e_ok mD117 75 (1, 0, 5, 0, 77) := okl_iload dX13_above_75
theorem t117_77 : e_ok mD117 77 (5, 0, 99, 0, 80) := okj_eq dX13_above_77 (by decide +kernel)
theorem t117_80 : e_ok mD117 80 (1, 1, 2, 0, 81) := okl_aload_n dX13_above_80 rfl
theorem t117_81 : e_ok mD117 81 (1, 0, 1, 0, 82) := okl_iload_n dX13_above_81 rfl
theorem t117_82 : e_ok mD117 82 (0, 0, 10, 0, 84) := Or.inl (okc_bipush dX13_above_82 (by decide +kernel))
theorem t117_84 : e_ok mD117 84 (3, 1, 0, 0, 85) := okb_isub dX13_above_84
