/-! every entry of the tables -/
theorem t36_12 : e_ok mD36 12 (7, 0, 12, 3, 15) := And.intro (okw_getN dX9_tons_12 rfl hin_12 (by decide +kernel) (wn1 211 rfl rfl) rfl) (okx_none (by decide +kernel) _)
theorem t36_15 : e_ok mD36 15 (3, 2, 0, 0, 16) := okb_imul dX9_tons_15
theorem t36_16 : e_ok mD36 16 (12, 1, 0, 0, 0) := okr_int dX9_tons_16 rfl
theorem t36_17 : e_ok mD36 17 (1, 0, 1, 0, 18) := okl_iload_n dX9_tons_17 rfl
theorem t36_18 : e_ok mD36 18 (0, 0, 115, 0, 20) := Or.inl (okc_bipush dX9_tons_18 (by decide +kernel))
theorem t36_20 : e_ok mD36 20 (6, 1, 34, 0, 23) := okk_ne dX9_tons_20 (by decide +kernel)
theorem t36_23 : e_ok mD36 23 (0, 0, 10, 0, 25) := Or.inl (okc_bipush dX9_tons_23 (by decide +kernel))
theorem t36_25 : e_ok mD36 25 (1, 1, 0, 0, 26) := okl_aload_n dX9_tons_25 rfl
theorem t36_26 : e_ok mD36 26 (7, 0, 14, 5, 29) := And.intro (okw_get dX9_tons_26 rfl hin_14 (by decide +kernel) (wg2 47 rfl rfl) rfl) (okx_none (by decide +kernel) _)
theorem t36_29 : e_ok mD36 29 (11, 2, 73, 1, 32) := And.intro (okCallX.M (okx_virtual (Da := mD73) dX9_tons_29 rfl mwc_73 (wg2 90 rfl rfl) mwn_73 mwv_73 mwi_73 mwd_73)) (fun _ => okx_virtual (Da := mD73) dX9_tons_29 rfl mwc_73 (wg2 90 rfl rfl) mwn_73 mwv_73 mwi_73 mwd_73)
theorem t36_32 : e_ok mD36 32 (3, 2, 0, 0, 33) := okb_imul dX9_tons_32
theorem t36_33 : e_ok mD36 33 (12, 1, 0, 0, 0) := okr_int dX9_tons_33 rfl
theorem t36_34 : e_ok mD36 34 (1, 0, 1, 0, 35) := okl_iload_n dX9_tons_34 rfl
theorem t36_35 : e_ok mD36 35 (0, 0, 100, 0, 37) := Or.inl (okc_bipush dX9_tons_35 (by decide +kernel))
theorem t36_37 : e_ok mD36 37 (6, 1, 51, 0, 40) := okk_ne dX9_tons_37 (by decide +kernel)
theorem t36_40 : e_ok mD36 40 (0, 0, 10, 0, 42) := Or.inl (okc_bipush dX9_tons_40 (by decide +kernel))
theorem t36_42 : e_ok mD36 42 (1, 1, 0, 0, 43) := okl_aload_n dX9_tons_42 rfl
theorem t36_43 : e_ok mD36 43 (7, 0, 14, 8, 46) := And.intro (okw_get dX9_tons_43 rfl hin_14 (by decide +kernel) (wg2 50 rfl rfl) rfl) (okx_none (by decide +kernel) _)
theorem t36_46 : e_ok mD36 46 (7, 0, 5, 2, 49) := And.intro (okw_getN dX9_tons_46 rfl hin_5 (by decide +kernel) (wn2 19 rfl rfl) rfl) (okx_none (by decide +kernel) _)
theorem t36_49 : e_ok mD36 49 (3, 2, 0, 0, 50) := okb_imul dX9_tons_49
theorem t36_50 : e_ok mD36 50 (12, 1, 0, 0, 0) := okr_int dX9_tons_50 rfl
theorem t36_51 : e_ok mD36 51 (13, 0, 1, 0, 0) := okt_throw (text := "no such kind") rfl (by decide +kernel) (wg3 12 rfl rfl) (wg1 26 rfl rfl) (by decide +kernel) (hat_of (by decide +kernel)) dX9_tons_51 dX9_tons_54 dX9_tons_55 dX9_tons_57 dX9_tons_60
theorem t36_54 : e_ok mD36 54 (2, 1, 0, 0, 55) := oki_dup dX9_tons_54
theorem t37_0 : e_ok mD37 0 (1, 1, 0, 0, 1) := okl_aload_n dX9_water_0 rfl
theorem t37_1 : e_ok mD37 1 (7, 0, 14, 7, 4) := And.intro (okw_get dX9_water_1 rfl hin_14 (by decide +kernel) (wg2 49 rfl rfl) rfl) (okx_none (by decide +kernel) _)
theorem t37_4 : e_ok mD37 4 (7, 0, 13, 0, 7) := And.intro (okw_getN dX9_water_4 rfl hin_13 (by decide +kernel) (wn2 7 rfl rfl) rfl) (okx_none (by decide +kernel) _)
theorem t37_7 : e_ok mD37 7 (12, 1, 0, 0, 0) := okr_int dX9_water_7 rfl
theorem t38_0 : e_ok mD38 0 (1, 1, 0, 0, 1) := okl_aload_n dX9_week_0 rfl
theorem t38_1 : e_ok mD38 1 (7, 0, 14, 8, 4) := And.intro (okw_get dX9_week_1 rfl hin_14 (by decide +kernel) (wg2 50 rfl rfl) rfl) (okx_none (by decide +kernel) _)
theorem t38_4 : e_ok mD38 4 (7, 0, 5, 5, 7) := And.intro (okw_getN dX9_week_4 rfl hin_5 (by decide +kernel) (wn2 24 rfl rfl) rfl) (okx_none (by decide +kernel) _)
theorem t38_7 : e_ok mD38 7 (12, 1, 0, 0, 0) := okr_int dX9_week_7 rfl
theorem t39_0 : e_ok mD39 0 (1, 0, 1, 0, 1) := okl_iload_n dX9_wentTo_0 rfl
theorem t39_1 : e_ok mD39 1 (11, 0, 26, 1, 4) := And.intro (okCallX.M (okx_static (Da := mD26) dX9_wentTo_1 rfl mwc_26 (wg2 235 rfl rfl) mws_26 mwi_26 mwd_26)) (fun _ => okx_static (Da := mD26) dX9_wentTo_1 rfl mwc_26 (wg2 235 rfl rfl) mws_26 mwi_26 mwd_26)
theorem t39_4 : e_ok mD39 4 (1, 1, 0, 0, 5) := okl_aload_n dX9_wentTo_4 rfl
theorem t39_5 : e_ok mD39 5 (1, 0, 1, 0, 6) := okl_iload_n dX9_wentTo_5 rfl
theorem t39_6 : e_ok mD39 6 (11, 2, 27, 2, 9) := And.intro (okCallX.M (okx_virtual (Da := mD27) dX9_wentTo_6 rfl mwc_27 (wg4 189 rfl rfl) mwn_27 mwv_27 mwi_27 mwd_27)) (fun _ => okx_virtual (Da := mD27) dX9_wentTo_6 rfl mwc_27 (wg4 189 rfl rfl) mwn_27 mwv_27 mwi_27 mwd_27)
theorem t39_9 : e_ok mD39 9 (1, 1, 0, 0, 10) := okl_aload_n dX9_wentTo_9 rfl
theorem t39_10 : e_ok mD39 10 (7, 0, 14, 8, 13) := And.intro (okw_get dX9_wentTo_10 rfl hin_14 (by decide +kernel) (wg2 50 rfl rfl) rfl) (okx_none (by decide +kernel) _)
theorem t39_13 : e_ok mD39 13 (1, 0, 1, 0, 14) := okl_iload_n dX9_wentTo_13 rfl
theorem t39_14 : e_ok mD39 14 (11, 2, 218, 2, 17) := And.intro (okCallX.M (okx_virtual (Da := mD218) dX9_wentTo_14 rfl mwc_218 (wg4 209 rfl rfl) mwn_218 mwv_218 mwi_218 mwd_218)) (fun _ => okx_virtual (Da := mD218) dX9_wentTo_14 rfl mwc_218 (wg4 209 rfl rfl) mwn_218 mwv_218 mwi_218 mwd_218)
theorem t39_17 : e_ok mD39 17 (12, 7, 0, 0, 0) := okr_char dX9_wentTo_17 rfl
theorem t40_0 : e_ok mD40 0 (1, 0, 1, 0, 1) := okl_iload_n dX9_worth_0 rfl
theorem t40_1 : e_ok mD40 1 (11, 0, 26, 1, 4) := And.intro (okCallX.M (okx_static (Da := mD26) dX9_worth_1 rfl mwc_26 (wg2 235 rfl rfl) mws_26 mwi_26 mwd_26)) (fun _ => okx_static (Da := mD26) dX9_worth_1 rfl mwc_26 (wg2 235 rfl rfl) mws_26 mwi_26 mwd_26)
theorem t40_4 : e_ok mD40 4 (1, 0, 2, 0, 5) := okl_iload_n dX9_worth_4 rfl
theorem t40_5 : e_ok mD40 5 (11, 0, 28, 1, 8) := And.intro (okCallX.M (okx_static (Da := mD28) dX9_worth_5 rfl mwc_28 (wg3 66 rfl rfl) mws_28 mwi_28 mwd_28)) (fun _ => okx_static (Da := mD28) dX9_worth_5 rfl mwc_28 (wg3 66 rfl rfl) mws_28 mwi_28 mwd_28)
theorem t40_8 : e_ok mD40 8 (1, 1, 0, 0, 9) := okl_aload_n dX9_worth_8 rfl
theorem t40_9 : e_ok mD40 9 (7, 0, 14, 1, 12) := And.intro (okw_get dX9_worth_9 rfl hin_14 (by decide +kernel) (wg2 43 rfl rfl) rfl) (okx_none (by decide +kernel) _)
theorem t40_12 : e_ok mD40 12 (1, 0, 1, 0, 13) := okl_iload_n dX9_worth_12 rfl
theorem t40_13 : e_ok mD40 13 (1, 0, 2, 0, 14) := okl_iload_n dX9_worth_13 rfl
theorem t40_14 : e_ok mD40 14 (11, 2, 63, 3, 17) := And.intro (okCallX.M (okx_virtual (Da := mD63) dX9_worth_14 rfl mwc_63 (wg3 145 rfl rfl) mwn_63 mwv_63 mwi_63 mwd_63)) (fun _ => okx_virtual (Da := mD63) dX9_worth_14 rfl mwc_63 (wg3 145 rfl rfl) mwn_63 mwv_63 mwi_63 mwd_63)
theorem t40_17 : e_ok mD40 17 (12, 1, 0, 0, 0) := okr_int dX9_worth_17 rfl
theorem t41_0 : e_ok mD41 0 (1, 0, 1, 0, 1) := okl_iload_n dX9_worthWith_0 rfl
theorem t41_1 : e_ok mD41 1 (11, 0, 28, 1, 4) := And.intro (okCallX.M (okx_static (Da := mD28) dX9_worthWith_1 rfl mwc_28 (wg3 66 rfl rfl) mws_28 mwi_28 mwd_28)) (fun _ => okx_static (Da := mD28) dX9_worthWith_1 rfl mwc_28 (wg3 66 rfl rfl) mws_28 mwi_28 mwd_28)
theorem t41_4 : e_ok mD41 4 (1, 0, 2, 0, 5) := okl_iload_n dX9_worthWith_4 rfl
theorem t41_5 : e_ok mD41 5 (11, 0, 26, 1, 8) := And.intro (okCallX.M (okx_static (Da := mD26) dX9_worthWith_5 rfl mwc_26 (wg2 235 rfl rfl) mws_26 mwi_26 mwd_26)) (fun _ => okx_static (Da := mD26) dX9_worthWith_5 rfl mwc_26 (wg2 235 rfl rfl) mws_26 mwi_26 mwd_26)
theorem t41_8 : e_ok mD41 8 (1, 1, 0, 0, 9) := okl_aload_n dX9_worthWith_8 rfl
theorem t41_9 : e_ok mD41 9 (1, 0, 2, 0, 10) := okl_iload_n dX9_worthWith_9 rfl
theorem t41_10 : e_ok mD41 10 (11, 2, 29, 2, 13) := And.intro (okCallX.M (okx_virtual (Da := mD29) dX9_worthWith_10 rfl mwc_29 (wg3 28 rfl rfl) mwn_29 mwv_29 mwi_29 mwd_29)) (fun _ => okx_virtual (Da := mD29) dX9_worthWith_10 rfl mwc_29 (wg3 28 rfl rfl) mwn_29 mwv_29 mwi_29 mwd_29)
theorem t41_13 : e_ok mD41 13 (1, 1, 0, 0, 14) := okl_aload_n dX9_worthWith_13 rfl
theorem t41_14 : e_ok mD41 14 (7, 0, 14, 2, 17) := And.intro (okw_get dX9_worthWith_14 rfl hin_14 (by decide +kernel) (wg2 44 rfl rfl) rfl) (okx_none (by decide +kernel) _)
theorem t41_17 : e_ok mD41 17 (1, 0, 1, 0, 18) := okl_iload_n dX9_worthWith_17 rfl
theorem t41_18 : e_ok mD41 18 (1, 0, 2, 0, 19) := okl_iload_n dX9_worthWith_18 rfl
theorem t41_19 : e_ok mD41 19 (11, 2, 80, 3, 22) := And.intro (okCallX.M (okx_virtual (Da := mD80) dX9_worthWith_19 rfl mwc_80 (wg3 236 rfl rfl) mwn_80 mwv_80 mwi_80 mwd_80)) (fun _ => okx_virtual (Da := mD80) dX9_worthWith_19 rfl mwc_80 (wg3 236 rfl rfl) mwn_80 mwv_80 mwi_80 mwd_80)
theorem t41_22 : e_ok mD41 22 (12, 2, 0, 0, 0) := okr_long dX9_worthWith_22 rfl
theorem t42_0 : e_ok mD42 0 (1, 1, 0, 0, 1) := okl_aload_n dX0_init_0 rfl
theorem t42_1 : e_ok mD42 1 (7, 4, 0, 0, 4) := okw_obj dX0_init_1 (wg2 16 rfl rfl) w_obj1 w_obj2
theorem t42_4 : e_ok mD42 4 (1, 1, 0, 0, 5) := okl_aload_n dX0_init_4 rfl
theorem t42_5 : e_ok mD42 5 (0, 0, 60, 0, 7) := Or.inl (okc_bipush dX0_init_5 (by decide +kernel))
theorem t42_7 : e_ok mD42 7 (16, 0, 0, 0, 9) := And.intro (oka_new (by decide) rfl (wg1 73 rfl rfl) dX0_init_7) (by decide)
theorem t42_9 : e_ok mD42 9 (9, 7, 5, 0, 12) := okw_putF dX0_init_9 rfl hin_5 tyX0_ok nmX0 (by decide +kernel) (wg2 17 rfl rfl) rfl rfl rfl rfl (tyX0_ok 0 (by decide +kernel)) (fun V h => fitV_arr h)
theorem t42_12 : e_ok mD42 12 (1, 1, 0, 0, 13) := okl_aload_n dX0_init_12 rfl
theorem t42_13 : e_ok mD42 13 (0, 0, 60, 0, 15) := Or.inl (okc_bipush dX0_init_13 (by decide +kernel))
theorem t42_15 : e_ok mD42 15 (16, 0, 2, 0, 17) := And.intro (oka_new (by decide) rfl (wg2 41 rfl rfl) dX0_init_15) (by decide)
theorem t42_17 : e_ok mD42 17 (9, 7, 5, 1, 20) := okw_putF dX0_init_17 rfl hin_5 tyX0_ok nmX0 (by decide +kernel) (wg2 18 rfl rfl) rfl rfl rfl rfl (tyX0_ok 1 (by decide +kernel)) (fun V h => fitV_arr h)
theorem t42_20 : e_ok mD42 20 (12, 0, 0, 0, 0) := okr_void dX0_init_20 rfl
theorem t43_0 : e_ok mD43 0 (1, 0, 1, 0, 1) := okl_iload_n dX0_noteTruth_0 rfl
theorem t43_1 : e_ok mD43 1 (11, 4, 11, 1, 4) := And.intro (okm_staticN (Da := mD11) dX0_noteTruth_1 rfl mwc_11 (wn3 106 rfl rfl) mws_11 mwi_11 mwd_11) (fun h => h.elim nofun nofun)
theorem t43_4 : e_ok mD43 4 (5, 0, 16, 0, 7) := okj_eq dX0_noteTruth_4 (by decide +kernel)
theorem t43_7 : e_ok mD43 7 (1, 1, 0, 0, 8) := okl_aload_n dX0_noteTruth_7 rfl
theorem t43_8 : e_ok mD43 8 (7, 0, 5, 0, 11) := And.intro (okw_get dX0_noteTruth_8 rfl hin_5 (by decide +kernel) (wg2 17 rfl rfl) rfl) (okx_none (by decide +kernel) _)
theorem t43_11 : e_ok mD43 11 (1, 0, 1, 0, 12) := okl_iload_n dX0_noteTruth_11 rfl
theorem t43_12 : e_ok mD43 12 (1, 0, 2, 0, 13) := okl_iload_n dX0_noteTruth_12 rfl
theorem t43_13 : e_ok mD43 13 (0, 0, 1, 0, 14) := Or.inl (okc_iconst dX0_noteTruth_13 (by decide +kernel))
theorem t43_14 : e_ok mD43 14 (3, 0, 0, 0, 15) := okb_iadd dX0_noteTruth_14
theorem t43_15 : e_ok mD43 15 (10, 0, 0, 0, 16) := oka_sti dX0_noteTruth_15
theorem t43_16 : e_ok mD43 16 (12, 0, 0, 0, 0) := okr_void dX0_noteTruth_16 rfl
theorem t44_0 : e_ok mD44 0 (1, 0, 1, 0, 1) := okl_iload_n dX0_truthOf_0 rfl
theorem t44_1 : e_ok mD44 1 (11, 4, 11, 1, 4) := And.intro (okm_staticN (Da := mD11) dX0_truthOf_1 rfl mwc_11 (wn3 106 rfl rfl) mws_11 mwi_11 mwd_11) (fun h => h.elim nofun nofun)
theorem t44_4 : e_ok mD44 4 (5, 0, 18, 0, 7) := okj_eq dX0_truthOf_4 (by decide +kernel)
theorem t44_7 : e_ok mD44 7 (1, 1, 0, 0, 8) := okl_aload_n dX0_truthOf_7 rfl
theorem t44_8 : e_ok mD44 8 (7, 0, 5, 0, 11) := And.intro (okw_get dX0_truthOf_8 rfl hin_5 (by decide +kernel) (wg2 17 rfl rfl) rfl) (okx_none (by decide +kernel) _)
theorem t44_11 : e_ok mD44 11 (1, 0, 1, 0, 12) := okl_iload_n dX0_truthOf_11 rfl
theorem t44_12 : e_ok mD44 12 (8, 0, 0, 0, 13) := And.intro (oka_i dX0_truthOf_12) (oky_i dX0_truthOf_12)
theorem t44_13 : e_ok mD44 13 (0, 0, 1, 0, 14) := Or.inl (okc_iconst dX0_truthOf_13 (by decide +kernel))
theorem t44_14 : e_ok mD44 14 (3, 1, 0, 0, 15) := okb_isub dX0_truthOf_14
theorem t44_15 : e_ok mD44 15 (2, 4, 0, 0, 19) := oki_goto dX0_truthOf_15 (by decide +kernel)
theorem t44_18 : e_ok mD44 18 (0, 0, 4294967295, 0, 19) := Or.inl (okc_iconst dX0_truthOf_18 (by decide +kernel))
theorem t44_19 : e_ok mD44 19 (12, 1, 0, 0, 0) := okr_int dX0_truthOf_19 rfl
theorem t45_0 : e_ok mD45 0 (1, 1, 0, 0, 1) := okl_aload_n dX1_init_0 rfl
theorem t45_1 : e_ok mD45 1 (7, 4, 0, 0, 4) := okw_obj dX1_init_1 (wg1 57 rfl rfl) w_obj1 w_obj2
theorem t45_4 : e_ok mD45 4 (1, 1, 0, 0, 5) := okl_aload_n dX1_init_4 rfl
theorem t45_5 : e_ok mD45 5 (0, 0, 60, 0, 7) := Or.inl (okc_bipush dX1_init_5 (by decide +kernel))
theorem t45_7 : e_ok mD45 7 (16, 0, 1, 0, 9) := And.intro (oka_new (by decide) rfl (wg1 72 rfl rfl) dX1_init_7) (by decide)
theorem t45_9 : e_ok mD45 9 (9, 7, 6, 0, 12) := okw_putF dX1_init_9 rfl hin_6 tyX1_ok nmX1 (by decide +kernel) (wg1 58 rfl rfl) rfl rfl rfl rfl (tyX1_ok 0 (by decide +kernel)) (fun V h => fitV_arr h)
theorem t45_12 : e_ok mD45 12 (1, 1, 0, 0, 13) := okl_aload_n dX1_init_12 rfl
theorem t45_13 : e_ok mD45 13 (0, 0, 60, 0, 15) := Or.inl (okc_bipush dX1_init_13 (by decide +kernel))
theorem t45_15 : e_ok mD45 15 (16, 0, 0, 0, 17) := And.intro (oka_new (by decide) rfl (wg1 73 rfl rfl) dX1_init_15) (by decide)
theorem t45_17 : e_ok mD45 17 (9, 7, 6, 1, 20) := okw_putF dX1_init_17 rfl hin_6 tyX1_ok nmX1 (by decide +kernel) (wg1 59 rfl rfl) rfl rfl rfl rfl (tyX1_ok 1 (by decide +kernel)) (fun V h => fitV_arr h)
theorem t45_20 : e_ok mD45 20 (1, 1, 0, 0, 21) := okl_aload_n dX1_init_20 rfl
theorem t45_21 : e_ok mD45 21 (0, 0, 60, 0, 23) := Or.inl (okc_bipush dX1_init_21 (by decide +kernel))
theorem t45_23 : e_ok mD45 23 (16, 0, 0, 0, 25) := And.intro (oka_new (by decide) rfl (wg1 73 rfl rfl) dX1_init_23) (by decide)
theorem t45_25 : e_ok mD45 25 (9, 7, 6, 2, 28) := okw_putF dX1_init_25 rfl hin_6 tyX1_ok nmX1 (by decide +kernel) (wg1 60 rfl rfl) rfl rfl rfl rfl (tyX1_ok 2 (by decide +kernel)) (fun V h => fitV_arr h)
theorem t45_28 : e_ok mD45 28 (12, 0, 0, 0, 0) := okr_void dX1_init_28 rfl
theorem t46_0 : e_ok mD46 0 (0, 0, 4294967295, 0, 1) := Or.inl (okc_iconst dX1_deepestDug_0 (by decide +kernel))
theorem t46_1 : e_ok mD46 1 (1, 4, 1, 0, 2) := oks_istore_n dX1_deepestDug_1 rfl (by decide +kernel)
theorem t46_2 : e_ok mD46 2 (0, 0, 0, 0, 3) := Or.inl (okc_iconst dX1_deepestDug_2 (by decide +kernel))
theorem t46_3 : e_ok mD46 3 (1, 4, 2, 0, 4) := oks_istore_n dX1_deepestDug_3 rfl (by decide +kernel)
theorem t46_4 : e_ok mD46 4 (1, 0, 2, 0, 5) := okl_iload_n dX1_deepestDug_4 rfl
theorem t46_5 : e_ok mD46 5 (0, 0, 10, 0, 7) := Or.inl (okc_bipush dX1_deepestDug_5 (by decide +kernel))
theorem t46_7 : e_ok mD46 7 (6, 3, 28, 0, 10) := okk_ge dX1_deepestDug_7 (by decide +kernel)
theorem t46_10 : e_ok mD46 10 (1, 0, 1, 0, 11) := okl_iload_n dX1_deepestDug_10 rfl
theorem t46_11 : e_ok mD46 11 (1, 1, 0, 0, 12) := okl_aload_n dX1_deepestDug_11 rfl
theorem t46_12 : e_ok mD46 12 (1, 0, 2, 0, 13) := okl_iload_n dX1_deepestDug_12 rfl
theorem t46_13 : e_ok mD46 13 (11, 2, 47, 2, 16) := And.intro (okCallX.M (okx_virtual (Da := mD47) dX1_deepestDug_13 rfl mwc_47 (wg4 103 rfl rfl) mwn_47 mwv_47 mwi_47 mwd_47)) (fun _ => okx_virtual (Da := mD47) dX1_deepestDug_13 rfl mwc_47 (wg4 103 rfl rfl) mwn_47 mwv_47 mwi_47 mwd_47)
theorem t46_16 : e_ok mD46 16 (0, 0, 1, 0, 17) := Or.inl (okc_iconst dX1_deepestDug_16 (by decide +kernel))
theorem t46_17 : e_ok mD46 17 (3, 1, 0, 0, 18) := okb_isub dX1_deepestDug_17
theorem t46_18 : e_ok mD46 18 (11, 0, 167, 2, 21) := And.intro (okCallX.M (okx_static (Da := mD167) dX1_deepestDug_18 rfl mwc_167 (wg4 104 rfl rfl) mws_167 mwi_167 mwd_167)) (fun _ => okx_static (Da := mD167) dX1_deepestDug_18 rfl mwc_167 (wg4 104 rfl rfl) mws_167 mwi_167 mwd_167)
theorem t46_21 : e_ok mD46 21 (1, 4, 1, 0, 22) := oks_istore_n dX1_deepestDug_21 rfl (by decide +kernel)
theorem t46_22 : e_ok mD46 22 (2, 0, 2, 1, 25) := oki_iinc dX1_deepestDug_22 (by decide +kernel) (by decide +kernel)
theorem t46_25 : e_ok mD46 25 (2, 4, 0, 0, 4) := oki_goto dX1_deepestDug_25 (by decide +kernel)
theorem t46_28 : e_ok mD46 28 (1, 0, 1, 0, 29) := okl_iload_n dX1_deepestDug_28 rfl
theorem t46_29 : e_ok mD46 29 (12, 1, 0, 0, 0) := okr_int dX1_deepestDug_29 rfl
theorem t47_0 : e_ok mD47 0 (0, 0, 0, 0, 1) := Or.inl (okc_iconst dX1_dugInColumn_0 (by decide +kernel))
theorem t47_1 : e_ok mD47 1 (1, 4, 2, 0, 2) := oks_istore_n dX1_dugInColumn_1 rfl (by decide +kernel)
theorem t47_2 : e_ok mD47 2 (1, 0, 2, 0, 3) := okl_iload_n dX1_dugInColumn_2 rfl
theorem t47_3 : e_ok mD47 3 (0, 0, 6, 0, 5) := Or.inl (okc_bipush dX1_dugInColumn_3 (by decide +kernel))
theorem t47_5 : e_ok mD47 5 (6, 3, 27, 0, 8) := okk_ge dX1_dugInColumn_5 (by decide +kernel)
theorem t47_8 : e_ok mD47 8 (1, 1, 0, 0, 9) := okl_aload_n dX1_dugInColumn_8 rfl
theorem t47_9 : e_ok mD47 9 (1, 0, 2, 0, 10) := okl_iload_n dX1_dugInColumn_9 rfl
theorem t47_10 : e_ok mD47 10 (0, 0, 10, 0, 12) := Or.inl (okc_bipush dX1_dugInColumn_10 (by decide +kernel))
theorem t47_12 : e_ok mD47 12 (3, 2, 0, 0, 13) := okb_imul dX1_dugInColumn_12
theorem t47_13 : e_ok mD47 13 (1, 0, 1, 0, 14) := okl_iload_n dX1_dugInColumn_13 rfl
theorem t47_14 : e_ok mD47 14 (3, 0, 0, 0, 15) := okb_iadd dX1_dugInColumn_14
theorem t47_15 : e_ok mD47 15 (11, 2, 52, 2, 18) := And.intro (okCallX.M (okx_virtual (Da := mD52) dX1_dugInColumn_15 rfl mwc_52 (wg2 122 rfl rfl) mwn_52 mwv_52 mwi_52 mwd_52)) (fun _ => okx_virtual (Da := mD52) dX1_dugInColumn_15 rfl mwc_52 (wg2 122 rfl rfl) mwn_52 mwv_52 mwi_52 mwd_52)
theorem t47_18 : e_ok mD47 18 (5, 0, 27, 0, 21) := okj_eq dX1_dugInColumn_18 (by decide +kernel)
theorem t47_21 : e_ok mD47 21 (2, 0, 2, 1, 24) := oki_iinc dX1_dugInColumn_21 (by decide +kernel) (by decide +kernel)
theorem t47_24 : e_ok mD47 24 (2, 4, 0, 0, 2) := oki_goto dX1_dugInColumn_24 (by decide +kernel)
theorem t47_27 : e_ok mD47 27 (1, 0, 2, 0, 28) := okl_iload_n dX1_dugInColumn_27 rfl
theorem t47_28 : e_ok mD47 28 (12, 1, 0, 0, 0) := okr_int dX1_dugInColumn_28 rfl
theorem t48_0 : e_ok mD48 0 (1, 0, 1, 0, 1) := okl_iload_n dX1_harden_0 rfl
theorem t48_1 : e_ok mD48 1 (11, 4, 11, 1, 4) := And.intro (okm_staticN (Da := mD11) dX1_harden_1 rfl mwc_11 (wn2 126 rfl rfl) mws_11 mwi_11 mwd_11) (fun h => h.elim nofun nofun)
theorem t48_4 : e_ok mD48 4 (5, 0, 14, 0, 7) := okj_eq dX1_harden_4 (by decide +kernel)
theorem t48_7 : e_ok mD48 7 (1, 1, 0, 0, 8) := okl_aload_n dX1_harden_7 rfl
theorem t48_8 : e_ok mD48 8 (7, 0, 6, 0, 11) := And.intro (okw_get dX1_harden_8 rfl hin_6 (by decide +kernel) (wg1 58 rfl rfl) rfl) (okx_none (by decide +kernel) _)
theorem t48_11 : e_ok mD48 11 (1, 0, 1, 0, 12) := okl_iload_n dX1_harden_11 rfl
theorem t48_12 : e_ok mD48 12 (1, 0, 2, 0, 13) := okl_iload_n dX1_harden_12 rfl
theorem t48_13 : e_ok mD48 13 (10, 1, 0, 0, 14) := oka_stz dX1_harden_13
theorem t48_14 : e_ok mD48 14 (12, 0, 0, 0, 0) := okr_void dX1_harden_14 rfl
theorem t49_0 : e_ok mD49 0 (1, 0, 1, 0, 1) := okl_iload_n dX1_isHard_0 rfl
theorem t49_1 : e_ok mD49 1 (11, 4, 11, 1, 4) := And.intro (okm_staticN (Da := mD11) dX1_isHard_1 rfl mwc_11 (wn2 126 rfl rfl) mws_11 mwi_11 mwd_11) (fun h => h.elim nofun nofun)
theorem t49_4 : e_ok mD49 4 (5, 0, 20, 0, 7) := okj_eq dX1_isHard_4 (by decide +kernel)
theorem t49_7 : e_ok mD49 7 (1, 1, 0, 0, 8) := okl_aload_n dX1_isHard_7 rfl
theorem t49_8 : e_ok mD49 8 (7, 0, 6, 0, 11) := And.intro (okw_get dX1_isHard_8 rfl hin_6 (by decide +kernel) (wg1 58 rfl rfl) rfl) (okx_none (by decide +kernel) _)
theorem t49_11 : e_ok mD49 11 (1, 0, 1, 0, 12) := okl_iload_n dX1_isHard_11 rfl
theorem t49_12 : e_ok mD49 12 (8, 1, 0, 0, 13) := And.intro (oka_z dX1_isHard_12) (oky_none (by decide) _)
theorem t49_13 : e_ok mD49 13 (5, 0, 20, 0, 16) := okj_eq dX1_isHard_13 (by decide +kernel)
theorem t49_16 : e_ok mD49 16 (0, 0, 1, 0, 17) := Or.inl (okc_iconst dX1_isHard_16 (by decide +kernel))
theorem t49_17 : e_ok mD49 17 (2, 4, 0, 0, 21) := oki_goto dX1_isHard_17 (by decide +kernel)
theorem t49_20 : e_ok mD49 20 (0, 0, 0, 0, 21) := Or.inl (okc_iconst dX1_isHard_20 (by decide +kernel))
theorem t49_21 : e_ok mD49 21 (12, 6, 0, 0, 0) := okr_bool dX1_isHard_21 rfl
theorem t50_0 : e_ok mD50 0 (1, 1, 0, 0, 1) := okl_aload_n dX1_liesFree_0 rfl
theorem t50_1 : e_ok mD50 1 (1, 0, 1, 0, 2) := okl_iload_n dX1_liesFree_1 rfl
theorem t50_2 : e_ok mD50 2 (11, 2, 52, 2, 5) := And.intro (okCallX.M (okx_virtual (Da := mD52) dX1_liesFree_2 rfl mwc_52 (wg2 122 rfl rfl) mwn_52 mwv_52 mwi_52 mwd_52)) (fun _ => okx_virtual (Da := mD52) dX1_liesFree_2 rfl mwc_52 (wg2 122 rfl rfl) mwn_52 mwv_52 mwi_52 mwd_52)
theorem t50_5 : e_ok mD50 5 (5, 0, 10, 0, 8) := okj_eq dX1_liesFree_5 (by decide +kernel)
theorem t50_8 : e_ok mD50 8 (0, 0, 0, 0, 9) := Or.inl (okc_iconst dX1_liesFree_8 (by decide +kernel))
theorem t50_9 : e_ok mD50 9 (12, 6, 0, 0, 0) := okr_bool dX1_liesFree_9 rfl
theorem t50_10 : e_ok mD50 10 (0, 0, 4294967295, 0, 11) := Or.inl (okc_iconst dX1_liesFree_10 (by decide +kernel))
theorem t50_11 : e_ok mD50 11 (1, 4, 2, 0, 12) := oks_istore_n dX1_liesFree_11 rfl (by decide +kernel)
theorem t50_12 : e_ok mD50 12 (1, 0, 2, 0, 13) := okl_iload_n dX1_liesFree_12 rfl
theorem t50_13 : e_ok mD50 13 (0, 0, 1, 0, 14) := Or.inl (okc_iconst dX1_liesFree_13 (by decide +kernel))
theorem t50_14 : e_ok mD50 14 (6, 4, 44, 0, 17) := okk_gt dX1_liesFree_14 (by decide +kernel)
theorem t50_17 : e_ok mD50 17 (1, 1, 0, 0, 18) := okl_aload_n dX1_liesFree_17 rfl
theorem t50_18 : e_ok mD50 18 (1, 0, 1, 0, 19) := okl_iload_n dX1_liesFree_18 rfl
theorem t50_19 : e_ok mD50 19 (1, 0, 2, 0, 20) := okl_iload_n dX1_liesFree_19 rfl
theorem t50_20 : e_ok mD50 20 (11, 2, 51, 3, 23) := And.intro (okCallX.M (okx_virtual (Da := mD51) dX1_liesFree_20 rfl mwc_51 (wg2 129 rfl rfl) mwn_51 mwv_51 mwi_51 mwd_51)) (fun _ => okx_virtual (Da := mD51) dX1_liesFree_20 rfl mwc_51 (wg2 129 rfl rfl) mwn_51 mwv_51 mwi_51 mwd_51)
theorem t50_23 : e_ok mD50 23 (1, 4, 3, 0, 24) := oks_istore_n dX1_liesFree_23 rfl (by decide +kernel)
theorem t50_24 : e_ok mD50 24 (1, 0, 3, 0, 25) := okl_iload_n dX1_liesFree_24 rfl
theorem t50_25 : e_ok mD50 25 (5, 2, 38, 0, 28) := okj_lt dX1_liesFree_25 (by decide +kernel)
theorem t50_28 : e_ok mD50 28 (1, 1, 0, 0, 29) := okl_aload_n dX1_liesFree_28 rfl
theorem t50_29 : e_ok mD50 29 (1, 0, 3, 0, 30) := okl_iload_n dX1_liesFree_29 rfl
theorem t50_30 : e_ok mD50 30 (11, 2, 52, 2, 33) := And.intro (okCallX.M (okx_virtual (Da := mD52) dX1_liesFree_30 rfl mwc_52 (wg2 122 rfl rfl) mwn_52 mwv_52 mwi_52 mwd_52)) (fun _ => okx_virtual (Da := mD52) dX1_liesFree_30 rfl mwc_52 (wg2 122 rfl rfl) mwn_52 mwv_52 mwi_52 mwd_52)
theorem t50_33 : e_ok mD50 33 (5, 1, 38, 0, 36) := okj_ne dX1_liesFree_33 (by decide +kernel)
theorem t50_36 : e_ok mD50 36 (0, 0, 0, 0, 37) := Or.inl (okc_iconst dX1_liesFree_36 (by decide +kernel))
theorem t50_37 : e_ok mD50 37 (12, 6, 0, 0, 0) := okr_bool dX1_liesFree_37 rfl
theorem t50_38 : e_ok mD50 38 (2, 0, 2, 1, 41) := oki_iinc dX1_liesFree_38 (by decide +kernel) (by decide +kernel)
theorem t50_41 : e_ok mD50 41 (2, 4, 0, 0, 12) := oki_goto dX1_liesFree_41 (by decide +kernel)
theorem t50_44 : e_ok mD50 44 (0, 0, 1, 0, 45) := Or.inl (okc_iconst dX1_liesFree_44 (by decide +kernel))
theorem t50_45 : e_ok mD50 45 (12, 6, 0, 0, 0) := okr_bool dX1_liesFree_45 rfl
theorem t51_0 : e_ok mD51 0 (1, 0, 1, 0, 1) := okl_iload_n dX1_neededAbove_0 rfl
theorem t51_1 : e_ok mD51 1 (0, 0, 10, 0, 3) := Or.inl (okc_bipush dX1_neededAbove_1 (by decide +kernel))
theorem t51_3 : e_ok mD51 3 (3, 4, 0, 0, 4) := okb_irem dX1_neededAbove_3
theorem t51_4 : e_ok mD51 4 (1, 0, 2, 0, 5) := okl_iload_n dX1_neededAbove_4 rfl
theorem t51_5 : e_ok mD51 5 (3, 0, 0, 0, 6) := okb_iadd dX1_neededAbove_5
theorem t51_6 : e_ok mD51 6 (1, 4, 3, 0, 7) := oks_istore_n dX1_neededAbove_6 rfl (by decide +kernel)
theorem t51_7 : e_ok mD51 7 (1, 0, 1, 0, 8) := okl_iload_n dX1_neededAbove_7 rfl
theorem t51_8 : e_ok mD51 8 (0, 0, 10, 0, 10) := Or.inl (okc_bipush dX1_neededAbove_8 (by decide +kernel))
theorem t51_10 : e_ok mD51 10 (6, 2, 35, 0, 13) := okk_lt dX1_neededAbove_10 (by decide +kernel)
theorem t51_13 : e_ok mD51 13 (1, 0, 3, 0, 14) := okl_iload_n dX1_neededAbove_13 rfl
theorem t51_14 : e_ok mD51 14 (5, 2, 35, 0, 17) := okj_lt dX1_neededAbove_14 (by decide +kernel)
theorem t51_17 : e_ok mD51 17 (1, 0, 3, 0, 18) := okl_iload_n dX1_neededAbove_17 rfl
theorem t51_18 : e_ok mD51 18 (0, 0, 10, 0, 20) := Or.inl (okc_bipush dX1_neededAbove_18 (by decide +kernel))
theorem t51_20 : e_ok mD51 20 (6, 3, 35, 0, 23) := okk_ge dX1_neededAbove_20 (by decide +kernel)
theorem t51_23 : e_ok mD51 23 (1, 0, 2, 0, 24) := okl_iload_n dX1_neededAbove_23 rfl
theorem t51_24 : e_ok mD51 24 (5, 0, 37, 0, 27) := okj_eq dX1_neededAbove_24 (by decide +kernel)
theorem t51_27 : e_ok mD51 27 (1, 1, 0, 0, 28) := okl_aload_n dX1_neededAbove_27 rfl
theorem t51_28 : e_ok mD51 28 (1, 0, 1, 0, 29) := okl_iload_n dX1_neededAbove_28 rfl
theorem t51_29 : e_ok mD51 29 (11, 2, 49, 2, 32) := And.intro (okCallX.M (okx_virtual (Da := mD49) dX1_neededAbove_29 rfl mwc_49 (wg2 133 rfl rfl) mwn_49 mwv_49 mwi_49 mwd_49)) (fun _ => okx_virtual (Da := mD49) dX1_neededAbove_29 rfl mwc_49 (wg2 133 rfl rfl) mwn_49 mwv_49 mwi_49 mwd_49)
theorem t51_32 : e_ok mD51 32 (5, 0, 37, 0, 35) := okj_eq dX1_neededAbove_32 (by decide +kernel)
theorem t51_35 : e_ok mD51 35 (0, 0, 4294967295, 0, 36) := Or.inl (okc_iconst dX1_neededAbove_35 (by decide +kernel))
theorem t51_36 : e_ok mD51 36 (12, 1, 0, 0, 0) := okr_int dX1_neededAbove_36 rfl
theorem t51_37 : e_ok mD51 37 (1, 0, 1, 0, 38) := okl_iload_n dX1_neededAbove_37 rfl
theorem t51_38 : e_ok mD51 38 (0, 0, 10, 0, 40) := Or.inl (okc_bipush dX1_neededAbove_38 (by decide +kernel))
theorem t51_40 : e_ok mD51 40 (3, 1, 0, 0, 41) := okb_isub dX1_neededAbove_40
theorem t51_41 : e_ok mD51 41 (1, 0, 2, 0, 42) := okl_iload_n dX1_neededAbove_41 rfl
theorem t51_42 : e_ok mD51 42 (3, 0, 0, 0, 43) := okb_iadd dX1_neededAbove_42
theorem t51_43 : e_ok mD51 43 (12, 1, 0, 0, 0) := okr_int dX1_neededAbove_43 rfl
theorem t52_0 : e_ok mD52 0 (1, 0, 1, 0, 1) := okl_iload_n dX1_wasDug_0 rfl
theorem t52_1 : e_ok mD52 1 (11, 4, 11, 1, 4) := And.intro (okm_staticN (Da := mD11) dX1_wasDug_1 rfl mwc_11 (wn2 126 rfl rfl) mws_11 mwi_11 mwd_11) (fun h => h.elim nofun nofun)
theorem t52_4 : e_ok mD52 4 (5, 0, 20, 0, 7) := okj_eq dX1_wasDug_4 (by decide +kernel)
theorem t52_7 : e_ok mD52 7 (1, 1, 0, 0, 8) := okl_aload_n dX1_wasDug_7 rfl
theorem t52_8 : e_ok mD52 8 (7, 0, 6, 1, 11) := And.intro (okw_get dX1_wasDug_8 rfl hin_6 (by decide +kernel) (wg1 59 rfl rfl) rfl) (okx_none (by decide +kernel) _)
theorem t52_11 : e_ok mD52 11 (1, 0, 1, 0, 12) := okl_iload_n dX1_wasDug_11 rfl
theorem t52_12 : e_ok mD52 12 (8, 0, 0, 0, 13) := And.intro (oka_i dX1_wasDug_12) (oky_i dX1_wasDug_12)
theorem t52_13 : e_ok mD52 13 (5, 5, 20, 0, 16) := okj_le dX1_wasDug_13 (by decide +kernel)
theorem t52_16 : e_ok mD52 16 (0, 0, 1, 0, 17) := Or.inl (okc_iconst dX1_wasDug_16 (by decide +kernel))
theorem t52_17 : e_ok mD52 17 (2, 4, 0, 0, 21) := oki_goto dX1_wasDug_17 (by decide +kernel)
theorem t52_20 : e_ok mD52 20 (0, 0, 0, 0, 21) := Or.inl (okc_iconst dX1_wasDug_20 (by decide +kernel))
theorem t52_21 : e_ok mD52 21 (12, 6, 0, 0, 0) := okr_bool dX1_wasDug_21 rfl
theorem t53_0 : e_ok mD53 0 (0, 0, 0, 0, 1) := Or.inl (okc_iconst dX1_wasDugInOrder_0 (by decide +kernel))
theorem t53_1 : e_ok mD53 1 (1, 4, 1, 0, 2) := oks_istore_n dX1_wasDugInOrder_1 rfl (by decide +kernel)
theorem t53_2 : e_ok mD53 2 (1, 0, 1, 0, 3) := okl_iload_n dX1_wasDugInOrder_2 rfl
theorem t53_3 : e_ok mD53 3 (0, 0, 60, 0, 5) := Or.inl (okc_bipush dX1_wasDugInOrder_3 (by decide +kernel))
theorem t53_5 : e_ok mD53 5 (6, 3, 51, 0, 8) := okk_ge dX1_wasDugInOrder_5 (by decide +kernel)
theorem t53_8 : e_ok mD53 8 (0, 0, 4294967295, 0, 9) := Or.inl (okc_iconst dX1_wasDugInOrder_8 (by decide +kernel))
theorem t53_9 : e_ok mD53 9 (1, 4, 2, 0, 10) := oks_istore_n dX1_wasDugInOrder_9 rfl (by decide +kernel)
theorem t53_10 : e_ok mD53 10 (1, 0, 2, 0, 11) := okl_iload_n dX1_wasDugInOrder_10 rfl
theorem t53_11 : e_ok mD53 11 (0, 0, 1, 0, 12) := Or.inl (okc_iconst dX1_wasDugInOrder_11 (by decide +kernel))
theorem t53_12 : e_ok mD53 12 (6, 4, 45, 0, 15) := okk_gt dX1_wasDugInOrder_12 (by decide +kernel)
theorem t53_15 : e_ok mD53 15 (1, 1, 0, 0, 16) := okl_aload_n dX1_wasDugInOrder_15 rfl
theorem t53_16 : e_ok mD53 16 (1, 0, 1, 0, 17) := okl_iload_n dX1_wasDugInOrder_16 rfl
theorem t53_17 : e_ok mD53 17 (11, 2, 52, 2, 20) := And.intro (okCallX.M (okx_virtual (Da := mD52) dX1_wasDugInOrder_17 rfl mwc_52 (wg2 122 rfl rfl) mwn_52 mwv_52 mwi_52 mwd_52)) (fun _ => okx_virtual (Da := mD52) dX1_wasDugInOrder_17 rfl mwc_52 (wg2 122 rfl rfl) mwn_52 mwv_52 mwi_52 mwd_52)
theorem t53_20 : e_ok mD53 20 (5, 0, 39, 0, 23) := okj_eq dX1_wasDugInOrder_20 (by decide +kernel)
theorem t53_23 : e_ok mD53 23 (1, 1, 0, 0, 24) := okl_aload_n dX1_wasDugInOrder_23 rfl
theorem t53_24 : e_ok mD53 24 (1, 1, 0, 0, 25) := okl_aload_n dX1_wasDugInOrder_24 rfl
theorem t53_25 : e_ok mD53 25 (1, 0, 1, 0, 26) := okl_iload_n dX1_wasDugInOrder_25 rfl
theorem t53_26 : e_ok mD53 26 (1, 0, 2, 0, 27) := okl_iload_n dX1_wasDugInOrder_26 rfl
theorem t53_27 : e_ok mD53 27 (11, 2, 51, 3, 30) := And.intro (okCallX.M (okx_virtual (Da := mD51) dX1_wasDugInOrder_27 rfl mwc_51 (wg2 129 rfl rfl) mwn_51 mwv_51 mwi_51 mwd_51)) (fun _ => okx_virtual (Da := mD51) dX1_wasDugInOrder_27 rfl mwc_51 (wg2 129 rfl rfl) mwn_51 mwv_51 mwi_51 mwd_51)
theorem t53_30 : e_ok mD53 30 (1, 0, 1, 0, 31) := okl_iload_n dX1_wasDugInOrder_30 rfl
theorem t53_31 : e_ok mD53 31 (11, 2, 200, 3, 34) := And.intro (okCallX.M (okx_virtual (Da := mD200) dX1_wasDugInOrder_31 rfl mwc_200 (wg2 137 rfl rfl) mwn_200 mwv_200 mwi_200 mwd_200)) (fun _ => okx_virtual (Da := mD200) dX1_wasDugInOrder_31 rfl mwc_200 (wg2 137 rfl rfl) mwn_200 mwv_200 mwi_200 mwd_200)
theorem t53_34 : e_ok mD53 34 (5, 1, 39, 0, 37) := okj_ne dX1_wasDugInOrder_34 (by decide +kernel)
theorem t53_37 : e_ok mD53 37 (0, 0, 0, 0, 38) := Or.inl (okc_iconst dX1_wasDugInOrder_37 (by decide +kernel))
theorem t53_38 : e_ok mD53 38 (12, 6, 0, 0, 0) := okr_bool dX1_wasDugInOrder_38 rfl
theorem t53_39 : e_ok mD53 39 (2, 0, 2, 1, 42) := oki_iinc dX1_wasDugInOrder_39 (by decide +kernel) (by decide +kernel)
theorem t53_42 : e_ok mD53 42 (2, 4, 0, 0, 10) := oki_goto dX1_wasDugInOrder_42 (by decide +kernel)
theorem t53_45 : e_ok mD53 45 (2, 0, 1, 1, 48) := oki_iinc dX1_wasDugInOrder_45 (by decide +kernel) (by decide +kernel)
theorem t53_48 : e_ok mD53 48 (2, 4, 0, 0, 2) := oki_goto dX1_wasDugInOrder_48 (by decide +kernel)
theorem t53_51 : e_ok mD53 51 (0, 0, 1, 0, 52) := Or.inl (okc_iconst dX1_wasDugInOrder_51 (by decide +kernel))
theorem t53_52 : e_ok mD53 52 (12, 6, 0, 0, 0) := okr_bool dX1_wasDugInOrder_52 rfl
theorem t54_0 : e_ok mD54 0 (1, 1, 0, 0, 1) := okl_aload_n dX2_init_0 rfl
theorem t54_1 : e_ok mD54 1 (7, 4, 0, 0, 4) := okw_obj dX2_init_1 (wg1 166 rfl rfl) w_obj1 w_obj2
theorem t54_4 : e_ok mD54 4 (1, 1, 0, 0, 5) := okl_aload_n dX2_init_4 rfl
theorem t54_5 : e_ok mD54 5 (0, 0, 7, 0, 7) := Or.inl (okc_bipush dX2_init_5 (by decide +kernel))
theorem t54_7 : e_ok mD54 7 (16, 0, 0, 0, 9) := And.intro (oka_new (by decide) rfl (wg1 73 rfl rfl) dX2_init_7) (by decide)
theorem t54_9 : e_ok mD54 9 (2, 1, 0, 0, 10) := oki_dup dX2_init_9
theorem t54_10 : e_ok mD54 10 (0, 0, 0, 0, 11) := Or.inl (okc_iconst dX2_init_10 (by decide +kernel))
theorem t54_11 : e_ok mD54 11 (0, 0, 3, 0, 12) := Or.inl (okc_iconst dX2_init_11 (by decide +kernel))
theorem t54_12 : e_ok mD54 12 (10, 0, 0, 0, 13) := oka_sti dX2_init_12
theorem t54_13 : e_ok mD54 13 (2, 1, 0, 0, 14) := oki_dup dX2_init_13
theorem t54_14 : e_ok mD54 14 (0, 0, 1, 0, 15) := Or.inl (okc_iconst dX2_init_14 (by decide +kernel))
theorem t54_15 : e_ok mD54 15 (0, 0, 2, 0, 16) := Or.inl (okc_iconst dX2_init_15 (by decide +kernel))
theorem t54_16 : e_ok mD54 16 (10, 0, 0, 0, 17) := oka_sti dX2_init_16
theorem t54_17 : e_ok mD54 17 (2, 1, 0, 0, 18) := oki_dup dX2_init_17
theorem t54_18 : e_ok mD54 18 (0, 0, 2, 0, 19) := Or.inl (okc_iconst dX2_init_18 (by decide +kernel))
theorem t54_19 : e_ok mD54 19 (0, 0, 20, 0, 21) := Or.inl (okc_bipush dX2_init_19 (by decide +kernel))
theorem t54_21 : e_ok mD54 21 (10, 0, 0, 0, 22) := oka_sti dX2_init_21
theorem t54_22 : e_ok mD54 22 (2, 1, 0, 0, 23) := oki_dup dX2_init_22
theorem t54_23 : e_ok mD54 23 (0, 0, 3, 0, 24) := Or.inl (okc_iconst dX2_init_23 (by decide +kernel))
theorem t54_24 : e_ok mD54 24 (0, 0, 10, 0, 26) := Or.inl (okc_bipush dX2_init_24 (by decide +kernel))
theorem t54_26 : e_ok mD54 26 (10, 0, 0, 0, 27) := oka_sti dX2_init_26
theorem t54_27 : e_ok mD54 27 (2, 1, 0, 0, 28) := oki_dup dX2_init_27
theorem t54_28 : e_ok mD54 28 (0, 0, 4, 0, 29) := Or.inl (okc_iconst dX2_init_28 (by decide +kernel))
theorem t54_29 : e_ok mD54 29 (0, 0, 10, 0, 31) := Or.inl (okc_bipush dX2_init_29 (by decide +kernel))
theorem t54_31 : e_ok mD54 31 (10, 0, 0, 0, 32) := oka_sti dX2_init_31
theorem t54_32 : e_ok mD54 32 (2, 1, 0, 0, 33) := oki_dup dX2_init_32
theorem t54_33 : e_ok mD54 33 (0, 0, 5, 0, 34) := Or.inl (okc_iconst dX2_init_33 (by decide +kernel))
theorem t54_34 : e_ok mD54 34 (0, 0, 10, 0, 36) := Or.inl (okc_bipush dX2_init_34 (by decide +kernel))
theorem t54_36 : e_ok mD54 36 (10, 0, 0, 0, 37) := oka_sti dX2_init_36
theorem t54_37 : e_ok mD54 37 (2, 1, 0, 0, 38) := oki_dup dX2_init_37
theorem t54_38 : e_ok mD54 38 (0, 0, 6, 0, 40) := Or.inl (okc_bipush dX2_init_38 (by decide +kernel))
theorem t54_40 : e_ok mD54 40 (0, 0, 5, 0, 41) := Or.inl (okc_iconst dX2_init_40 (by decide +kernel))
theorem t54_41 : e_ok mD54 41 (10, 0, 0, 0, 42) := oka_sti dX2_init_41
theorem t54_42 : e_ok mD54 42 (9, 7, 7, 0, 45) := okw_putF dX2_init_42 rfl hin_7 tyX2_ok nmX2 (by decide +kernel) (wg1 167 rfl rfl) rfl rfl rfl rfl (tyX2_ok 0 (by decide +kernel)) (fun V h => fitV_arr h)
theorem t54_45 : e_ok mD54 45 (12, 0, 0, 0, 0) := okr_void dX2_init_45 rfl
theorem t55_0 : e_ok mD55 0 (1, 0, 1, 0, 1) := okl_iload_n dX2_change_0 rfl
theorem t55_1 : e_ok mD55 1 (11, 0, 57, 1, 4) := And.intro (okCallX.M (okx_static (Da := mD57) dX2_change_1 rfl mwc_57 (wg4 62 rfl rfl) mws_57 mwi_57 mwd_57)) (fun _ => okx_static (Da := mD57) dX2_change_1 rfl mwc_57 (wg4 62 rfl rfl) mws_57 mwi_57 mwd_57)
theorem t55_4 : e_ok mD55 4 (1, 4, 3, 0, 5) := oks_istore_n dX2_change_4 rfl (by decide +kernel)
theorem t55_5 : e_ok mD55 5 (1, 0, 3, 0, 6) := okl_iload_n dX2_change_5 rfl
theorem t55_6 : e_ok mD55 6 (5, 2, 25, 0, 9) := okj_lt dX2_change_6 (by decide +kernel)
theorem t55_9 : e_ok mD55 9 (1, 0, 3, 0, 10) := okl_iload_n dX2_change_9 rfl
theorem t55_10 : e_ok mD55 10 (1, 1, 0, 0, 11) := okl_aload_n dX2_change_10 rfl
theorem t55_11 : e_ok mD55 11 (7, 0, 7, 0, 14) := And.intro (okw_get dX2_change_11 rfl hin_7 (by decide +kernel) (wg1 167 rfl rfl) rfl) (okx_none (by decide +kernel) _)
theorem t55_14 : e_ok mD55 14 (7, 3, 0, 0, 15) := And.intro (okal dX2_change_14) (oky_len dX2_change_14)
theorem t55_15 : e_ok mD55 15 (6, 3, 25, 0, 18) := okk_ge dX2_change_15 (by decide +kernel)
theorem t55_18 : e_ok mD55 18 (1, 1, 0, 0, 19) := okl_aload_n dX2_change_18 rfl
theorem t55_19 : e_ok mD55 19 (7, 0, 7, 0, 22) := And.intro (okw_get dX2_change_19 rfl hin_7 (by decide +kernel) (wg1 167 rfl rfl) rfl) (okx_none (by decide +kernel) _)
theorem t55_22 : e_ok mD55 22 (1, 0, 3, 0, 23) := okl_iload_n dX2_change_22 rfl
theorem t55_23 : e_ok mD55 23 (1, 0, 2, 0, 24) := okl_iload_n dX2_change_23 rfl
theorem t55_24 : e_ok mD55 24 (10, 0, 0, 0, 25) := oka_sti dX2_change_24
theorem t55_25 : e_ok mD55 25 (12, 0, 0, 0, 0) := okr_void dX2_change_25 rfl
theorem t56_0 : e_ok mD56 0 (1, 0, 1, 0, 1) := okl_iload_n dX2_current_0 rfl
theorem t56_1 : e_ok mD56 1 (11, 0, 57, 1, 4) := And.intro (okCallX.M (okx_static (Da := mD57) dX2_current_1 rfl mwc_57 (wg4 62 rfl rfl) mws_57 mwi_57 mwd_57)) (fun _ => okx_static (Da := mD57) dX2_current_1 rfl mwc_57 (wg4 62 rfl rfl) mws_57 mwi_57 mwd_57)
theorem t56_4 : e_ok mD56 4 (1, 4, 2, 0, 5) := oks_istore_n dX2_current_4 rfl (by decide +kernel)
theorem t56_5 : e_ok mD56 5 (1, 0, 2, 0, 6) := okl_iload_n dX2_current_5 rfl
theorem t56_6 : e_ok mD56 6 (5, 2, 27, 0, 9) := okj_lt dX2_current_6 (by decide +kernel)
theorem t56_9 : e_ok mD56 9 (1, 0, 2, 0, 10) := okl_iload_n dX2_current_9 rfl
theorem t56_10 : e_ok mD56 10 (1, 1, 0, 0, 11) := okl_aload_n dX2_current_10 rfl
theorem t56_11 : e_ok mD56 11 (7, 0, 7, 0, 14) := And.intro (okw_get dX2_current_11 rfl hin_7 (by decide +kernel) (wg1 167 rfl rfl) rfl) (okx_none (by decide +kernel) _)
theorem t56_14 : e_ok mD56 14 (7, 3, 0, 0, 15) := And.intro (okal dX2_current_14) (oky_len dX2_current_14)
theorem t56_15 : e_ok mD56 15 (6, 3, 27, 0, 18) := okk_ge dX2_current_15 (by decide +kernel)
theorem t56_18 : e_ok mD56 18 (1, 1, 0, 0, 19) := okl_aload_n dX2_current_18 rfl
theorem t56_19 : e_ok mD56 19 (7, 0, 7, 0, 22) := And.intro (okw_get dX2_current_19 rfl hin_7 (by decide +kernel) (wg1 167 rfl rfl) rfl) (okx_none (by decide +kernel) _)
theorem t56_22 : e_ok mD56 22 (1, 0, 2, 0, 23) := okl_iload_n dX2_current_22 rfl
theorem t56_23 : e_ok mD56 23 (8, 0, 0, 0, 24) := And.intro (oka_i dX2_current_23) (oky_i dX2_current_23)
theorem t56_24 : e_ok mD56 24 (2, 4, 0, 0, 28) := oki_goto dX2_current_24 (by decide +kernel)
theorem t56_27 : e_ok mD56 27 (0, 0, 0, 0, 28) := Or.inl (okc_iconst dX2_current_27 (by decide +kernel))
theorem t56_28 : e_ok mD56 28 (12, 1, 0, 0, 0) := okr_int dX2_current_28 rfl
theorem t57_0 : e_ok mD57 0 (0, 0, 0, 0, 1) := Or.inl (okc_iconst dX2_indexOf_0 (by decide +kernel))
theorem t57_1 : e_ok mD57 1 (1, 4, 1, 0, 2) := oks_istore_n dX2_indexOf_1 rfl (by decide +kernel)
theorem t57_2 : e_ok mD57 2 (1, 0, 1, 0, 3) := okl_iload_n dX2_indexOf_2 rfl
theorem t57_3 : e_ok mD57 3 (0, 5, 3, 0, 6) := okw_getstatic (C := "PitForge$Numbers") (n := "KINDS") (ds := "[C") dX2_indexOf_3 (by decide +kernel) (wg4 65 rfl rfl)
theorem t57_6 : e_ok mD57 6 (7, 3, 0, 0, 7) := And.intro (okal dX2_indexOf_6) (oky_len dX2_indexOf_6)
theorem t57_7 : e_ok mD57 7 (6, 3, 27, 0, 10) := okk_ge dX2_indexOf_7 (by decide +kernel)
theorem t57_10 : e_ok mD57 10 (0, 5, 3, 0, 13) := okw_getstatic (C := "PitForge$Numbers") (n := "KINDS") (ds := "[C") dX2_indexOf_10 (by decide +kernel) (wg4 65 rfl rfl)
theorem t57_13 : e_ok mD57 13 (1, 0, 1, 0, 14) := okl_iload_n dX2_indexOf_13 rfl
theorem t57_14 : e_ok mD57 14 (8, 2, 0, 0, 15) := And.intro (oka_c dX2_indexOf_14) (oky_c dX2_indexOf_14)
theorem t57_15 : e_ok mD57 15 (1, 0, 0, 0, 16) := okl_iload_n dX2_indexOf_15 rfl
theorem t57_16 : e_ok mD57 16 (6, 1, 21, 0, 19) := okk_ne dX2_indexOf_16 (by decide +kernel)
theorem t57_19 : e_ok mD57 19 (1, 0, 1, 0, 20) := okl_iload_n dX2_indexOf_19 rfl
theorem t57_20 : e_ok mD57 20 (12, 1, 0, 0, 0) := okr_int dX2_indexOf_20 rfl
theorem t57_21 : e_ok mD57 21 (2, 0, 1, 1, 24) := oki_iinc dX2_indexOf_21 (by decide +kernel) (by decide +kernel)
theorem t57_24 : e_ok mD57 24 (2, 4, 0, 0, 2) := oki_goto dX2_indexOf_24 (by decide +kernel)
theorem t57_27 : e_ok mD57 27 (0, 0, 4294967295, 0, 28) := Or.inl (okc_iconst dX2_indexOf_27 (by decide +kernel))
theorem t57_28 : e_ok mD57 28 (12, 1, 0, 0, 0) := okr_int dX2_indexOf_28 rfl
theorem t58_0 : e_ok mD58 0 (1, 0, 1, 0, 1) := okl_iload_n dX2_mostFor_0 rfl
theorem t58_1 : e_ok mD58 1 (11, 0, 57, 1, 4) := And.intro (okCallX.M (okx_static (Da := mD57) dX2_mostFor_1 rfl mwc_57 (wg4 62 rfl rfl) mws_57 mwi_57 mwd_57)) (fun _ => okx_static (Da := mD57) dX2_mostFor_1 rfl mwc_57 (wg4 62 rfl rfl) mws_57 mwi_57 mwd_57)
theorem t58_4 : e_ok mD58 4 (1, 4, 2, 0, 5) := oks_istore_n dX2_mostFor_4 rfl (by decide +kernel)
theorem t58_5 : e_ok mD58 5 (1, 0, 2, 0, 6) := okl_iload_n dX2_mostFor_5 rfl
theorem t58_6 : e_ok mD58 6 (5, 2, 25, 0, 9) := okj_lt dX2_mostFor_6 (by decide +kernel)
theorem t58_9 : e_ok mD58 9 (1, 0, 2, 0, 10) := okl_iload_n dX2_mostFor_9 rfl
theorem t58_10 : e_ok mD58 10 (0, 5, 4, 0, 13) := okw_getstatic (C := "PitForge$Numbers") (n := "MOST") (ds := "[I") dX2_mostFor_10 (by decide +kernel) (wg4 67 rfl rfl)
theorem t58_13 : e_ok mD58 13 (7, 3, 0, 0, 14) := And.intro (okal dX2_mostFor_13) (oky_len dX2_mostFor_13)
theorem t58_14 : e_ok mD58 14 (6, 3, 25, 0, 17) := okk_ge dX2_mostFor_14 (by decide +kernel)
theorem t58_17 : e_ok mD58 17 (0, 5, 4, 0, 20) := okw_getstatic (C := "PitForge$Numbers") (n := "MOST") (ds := "[I") dX2_mostFor_17 (by decide +kernel) (wg4 67 rfl rfl)
theorem t58_20 : e_ok mD58 20 (1, 0, 2, 0, 21) := okl_iload_n dX2_mostFor_20 rfl
theorem t58_21 : e_ok mD58 21 (8, 0, 0, 0, 22) := And.intro (oka_i dX2_mostFor_21) (oky_i dX2_mostFor_21)
theorem t58_22 : e_ok mD58 22 (2, 4, 0, 0, 26) := oki_goto dX2_mostFor_22 (by decide +kernel)
theorem t58_25 : e_ok mD58 25 (0, 0, 4294967295, 0, 26) := Or.inl (okc_iconst dX2_mostFor_25 (by decide +kernel))
theorem t58_26 : e_ok mD58 26 (12, 1, 0, 0, 0) := okr_int dX2_mostFor_26 rfl
theorem t59_0 : e_ok mD59 0 (1, 1, 0, 0, 1) := okl_aload_n dX3_init_0 rfl
theorem t59_1 : e_ok mD59 1 (7, 4, 0, 0, 4) := okw_obj dX3_init_1 (wg1 79 rfl rfl) w_obj1 w_obj2
theorem t59_4 : e_ok mD59 4 (1, 1, 0, 0, 5) := okl_aload_n dX3_init_4 rfl
theorem t59_5 : e_ok mD59 5 (0, 0, 40, 0, 7) := Or.inl (okc_bipush dX3_init_5 (by decide +kernel))
theorem t59_7 : e_ok mD59 7 (16, 0, 0, 0, 9) := And.intro (oka_new (by decide) rfl (wg1 73 rfl rfl) dX3_init_7) (by decide)
theorem t59_9 : e_ok mD59 9 (9, 7, 8, 0, 12) := okw_putF dX3_init_9 rfl hin_8 tyX3_ok nmX3 (by decide +kernel) (wg1 80 rfl rfl) rfl rfl rfl rfl (tyX3_ok 0 (by decide +kernel)) (fun V h => fitV_arr h)
theorem t59_12 : e_ok mD59 12 (1, 1, 0, 0, 13) := okl_aload_n dX3_init_12 rfl
theorem t59_13 : e_ok mD59 13 (0, 0, 40, 0, 15) := Or.inl (okc_bipush dX3_init_13 (by decide +kernel))
theorem t59_15 : e_ok mD59 15 (16, 0, 0, 0, 17) := And.intro (oka_new (by decide) rfl (wg1 73 rfl rfl) dX3_init_15) (by decide)
theorem t59_17 : e_ok mD59 17 (9, 7, 8, 1, 20) := okw_putF dX3_init_17 rfl hin_8 tyX3_ok nmX3 (by decide +kernel) (wg1 81 rfl rfl) rfl rfl rfl rfl (tyX3_ok 1 (by decide +kernel)) (fun V h => fitV_arr h)
theorem t59_20 : e_ok mD59 20 (1, 1, 0, 0, 21) := okl_aload_n dX3_init_20 rfl
theorem t59_21 : e_ok mD59 21 (0, 0, 60, 0, 23) := Or.inl (okc_bipush dX3_init_21 (by decide +kernel))
theorem t59_23 : e_ok mD59 23 (16, 0, 0, 0, 25) := And.intro (oka_new (by decide) rfl (wg1 73 rfl rfl) dX3_init_23) (by decide)
theorem t59_25 : e_ok mD59 25 (9, 7, 8, 2, 28) := okw_putF dX3_init_25 rfl hin_8 tyX3_ok nmX3 (by decide +kernel) (wg1 82 rfl rfl) rfl rfl rfl rfl (tyX3_ok 2 (by decide +kernel)) (fun V h => fitV_arr h)
theorem t59_28 : e_ok mD59 28 (12, 0, 0, 0, 0) := okr_void dX3_init_28 rfl
theorem t60_0 : e_ok mD60 0 (1, 1, 0, 0, 1) := okl_aload_n dX3_addSample_0 rfl
theorem t60_1 : e_ok mD60 1 (11, 2, 62, 1, 4) := And.intro (okCallX.M (okx_virtual (Da := mD62) dX3_addSample_1 rfl mwc_62 (wg3 94 rfl rfl) mwn_62 mwv_62 mwi_62 mwd_62)) (fun _ => okx_virtual (Da := mD62) dX3_addSample_1 rfl mwc_62 (wg3 94 rfl rfl) mwn_62 mwv_62 mwi_62 mwd_62)
theorem t60_4 : e_ok mD60 4 (5, 0, 8, 0, 7) := okj_eq dX3_addSample_4 (by decide +kernel)
theorem t60_7 : e_ok mD60 7 (12, 0, 0, 0, 0) := okr_void dX3_addSample_7 rfl
theorem t60_8 : e_ok mD60 8 (1, 1, 0, 0, 9) := okl_aload_n dX3_addSample_8 rfl
theorem t60_9 : e_ok mD60 9 (7, 0, 8, 0, 12) := And.intro (okw_get dX3_addSample_9 rfl hin_8 (by decide +kernel) (wg1 80 rfl rfl) rfl) (okx_none (by decide +kernel) _)
theorem t60_12 : e_ok mD60 12 (1, 1, 0, 0, 13) := okl_aload_n dX3_addSample_12 rfl
theorem t60_13 : e_ok mD60 13 (7, 0, 8, 3, 16) := And.intro (okw_get dX3_addSample_13 rfl hin_8 (by decide +kernel) (wg1 83 rfl rfl) rfl) (okx_none (by decide +kernel) _)
theorem t60_16 : e_ok mD60 16 (1, 0, 1, 0, 17) := okl_iload_n dX3_addSample_16 rfl
theorem t60_17 : e_ok mD60 17 (10, 0, 0, 0, 18) := oka_sti dX3_addSample_17
theorem t60_18 : e_ok mD60 18 (1, 1, 0, 0, 19) := okl_aload_n dX3_addSample_18 rfl
theorem t60_19 : e_ok mD60 19 (7, 0, 8, 1, 22) := And.intro (okw_get dX3_addSample_19 rfl hin_8 (by decide +kernel) (wg1 81 rfl rfl) rfl) (okx_none (by decide +kernel) _)
theorem t60_22 : e_ok mD60 22 (1, 1, 0, 0, 23) := okl_aload_n dX3_addSample_22 rfl
theorem t60_23 : e_ok mD60 23 (7, 0, 8, 3, 26) := And.intro (okw_get dX3_addSample_23 rfl hin_8 (by decide +kernel) (wg1 83 rfl rfl) rfl) (okx_none (by decide +kernel) _)
theorem t60_26 : e_ok mD60 26 (1, 0, 2, 0, 27) := okl_iload_n dX3_addSample_26 rfl
theorem t60_27 : e_ok mD60 27 (10, 0, 0, 0, 28) := oka_sti dX3_addSample_27
theorem t60_28 : e_ok mD60 28 (1, 1, 0, 0, 29) := okl_aload_n dX3_addSample_28 rfl
theorem t60_29 : e_ok mD60 29 (2, 1, 0, 0, 30) := oki_dup dX3_addSample_29
theorem t60_30 : e_ok mD60 30 (7, 0, 8, 3, 33) := And.intro (okw_get dX3_addSample_30 rfl hin_8 (by decide +kernel) (wg1 83 rfl rfl) rfl) (okx_none (by decide +kernel) _)
theorem t60_33 : e_ok mD60 33 (0, 0, 1, 0, 34) := Or.inl (okc_iconst dX3_addSample_33 (by decide +kernel))
theorem t60_34 : e_ok mD60 34 (3, 0, 0, 0, 35) := okb_iadd dX3_addSample_34
theorem t60_35 : e_ok mD60 35 (9, 0, 8, 3, 38) := okw_put dX3_addSample_35 rfl hin_8 tyX3_ok nmX3 (by decide +kernel) (wg1 83 rfl rfl) rfl rfl (tyX3_ok 3 (by decide +kernel)) (fun V h => fitV_int h)
theorem t60_38 : e_ok mD60 38 (0, 0, 0, 0, 39) := Or.inl (okc_iconst dX3_addSample_38 (by decide +kernel))
theorem t60_39 : e_ok mD60 39 (1, 4, 3, 0, 40) := oks_istore_n dX3_addSample_39 rfl (by decide +kernel)
theorem t60_40 : e_ok mD60 40 (1, 0, 3, 0, 41) := okl_iload_n dX3_addSample_40 rfl
theorem t60_41 : e_ok mD60 41 (0, 0, 60, 0, 43) := Or.inl (okc_bipush dX3_addSample_41 (by decide +kernel))
theorem t60_43 : e_ok mD60 43 (6, 3, 59, 0, 46) := okk_ge dX3_addSample_43 (by decide +kernel)
theorem t60_46 : e_ok mD60 46 (1, 1, 0, 0, 47) := okl_aload_n dX3_addSample_46 rfl
theorem t60_47 : e_ok mD60 47 (7, 0, 8, 2, 50) := And.intro (okw_get dX3_addSample_47 rfl hin_8 (by decide +kernel) (wg1 82 rfl rfl) rfl) (okx_none (by decide +kernel) _)
theorem t60_50 : e_ok mD60 50 (1, 0, 3, 0, 51) := okl_iload_n dX3_addSample_50 rfl
theorem t60_51 : e_ok mD60 51 (0, 0, 4294967295, 0, 52) := Or.inl (okc_iconst dX3_addSample_51 (by decide +kernel))
theorem t60_52 : e_ok mD60 52 (10, 0, 0, 0, 53) := oka_sti dX3_addSample_52
theorem t60_53 : e_ok mD60 53 (2, 0, 3, 1, 56) := oki_iinc dX3_addSample_53 (by decide +kernel) (by decide +kernel)
theorem t60_56 : e_ok mD60 56 (2, 4, 0, 0, 40) := oki_goto dX3_addSample_56 (by decide +kernel)
theorem t60_59 : e_ok mD60 59 (12, 0, 0, 0, 0) := okr_void dX3_addSample_59 rfl
theorem t61_0 : e_ok mD61 0 (1, 0, 1, 0, 1) := okl_iload_n dX3_estimate_0 rfl
theorem t61_1 : e_ok mD61 1 (11, 4, 11, 1, 4) := And.intro (okm_staticN (Da := mD11) dX3_estimate_1 rfl mwc_11 (wn3 122 rfl rfl) mws_11 mwi_11 mwd_11) (fun h => h.elim nofun nofun)
theorem t61_4 : e_ok mD61 4 (5, 1, 9, 0, 7) := okj_ne dX3_estimate_4 (by decide +kernel)
theorem t61_7 : e_ok mD61 7 (0, 0, 0, 0, 8) := Or.inl (okc_iconst dX3_estimate_7 (by decide +kernel))
theorem t61_8 : e_ok mD61 8 (12, 1, 0, 0, 0) := okr_int dX3_estimate_8 rfl
theorem t61_9 : e_ok mD61 9 (1, 1, 0, 0, 10) := okl_aload_n dX3_estimate_9 rfl
theorem t61_10 : e_ok mD61 10 (7, 0, 8, 2, 13) := And.intro (okw_get dX3_estimate_10 rfl hin_8 (by decide +kernel) (wg1 82 rfl rfl) rfl) (okx_none (by decide +kernel) _)
theorem t61_13 : e_ok mD61 13 (1, 0, 1, 0, 14) := okl_iload_n dX3_estimate_13 rfl
theorem t61_14 : e_ok mD61 14 (8, 0, 0, 0, 15) := And.intro (oka_i dX3_estimate_14) (oky_i dX3_estimate_14)
theorem t61_15 : e_ok mD61 15 (0, 0, 4294967295, 0, 16) := Or.inl (okc_iconst dX3_estimate_15 (by decide +kernel))
theorem t61_16 : e_ok mD61 16 (6, 1, 33, 0, 19) := okk_ne dX3_estimate_16 (by decide +kernel)
theorem t61_19 : e_ok mD61 19 (1, 1, 0, 0, 20) := okl_aload_n dX3_estimate_19 rfl
theorem t61_20 : e_ok mD61 20 (7, 0, 8, 2, 23) := And.intro (okw_get dX3_estimate_20 rfl hin_8 (by decide +kernel) (wg1 82 rfl rfl) rfl) (okx_none (by decide +kernel) _)
theorem t61_23 : e_ok mD61 23 (1, 0, 1, 0, 24) := okl_iload_n dX3_estimate_23 rfl
theorem t61_24 : e_ok mD61 24 (1, 1, 0, 0, 25) := okl_aload_n dX3_estimate_24 rfl
theorem t61_25 : e_ok mD61 25 (1, 0, 1, 0, 26) := okl_iload_n dX3_estimate_25 rfl
theorem t61_26 : e_ok mD61 26 (11, 2, 201, 2, 29) := And.intro (okCallX.M (okx_virtual (Da := mD201) dX3_estimate_26 rfl mwc_201 (wg3 123 rfl rfl) mwn_201 mwv_201 mwi_201 mwd_201)) (fun _ => okx_virtual (Da := mD201) dX3_estimate_26 rfl mwc_201 (wg3 123 rfl rfl) mwn_201 mwv_201 mwi_201 mwd_201)
theorem t61_29 : e_ok mD61 29 (11, 4, 204, 1, 32) := And.intro (okm_staticN (Da := mD204) dX3_estimate_29 rfl mwc_204 (wn3 134 rfl rfl) mws_204 mwi_204 mwd_204) (fun h => h.elim nofun nofun)
theorem t61_32 : e_ok mD61 32 (10, 0, 0, 0, 33) := oka_sti dX3_estimate_32
theorem t61_33 : e_ok mD61 33 (1, 1, 0, 0, 34) := okl_aload_n dX3_estimate_33 rfl
theorem t61_34 : e_ok mD61 34 (7, 0, 8, 2, 37) := And.intro (okw_get dX3_estimate_34 rfl hin_8 (by decide +kernel) (wg1 82 rfl rfl) rfl) (okx_none (by decide +kernel) _)
theorem t61_37 : e_ok mD61 37 (1, 0, 1, 0, 38) := okl_iload_n dX3_estimate_37 rfl
theorem t61_38 : e_ok mD61 38 (8, 0, 0, 0, 39) := And.intro (oka_i dX3_estimate_38) (oky_i dX3_estimate_38)
theorem t61_39 : e_ok mD61 39 (12, 1, 0, 0, 0) := okr_int dX3_estimate_39 rfl
theorem t62_0 : e_ok mD62 0 (1, 1, 0, 0, 1) := okl_aload_n dX3_isFull_0 rfl
theorem t62_1 : e_ok mD62 1 (7, 0, 8, 3, 4) := And.intro (okw_get dX3_isFull_1 rfl hin_8 (by decide +kernel) (wg1 83 rfl rfl) rfl) (okx_none (by decide +kernel) _)
theorem t62_4 : e_ok mD62 4 (0, 0, 40, 0, 6) := Or.inl (okc_bipush dX3_isFull_4 (by decide +kernel))
theorem t62_6 : e_ok mD62 6 (6, 2, 13, 0, 9) := okk_lt dX3_isFull_6 (by decide +kernel)
theorem t62_9 : e_ok mD62 9 (0, 0, 1, 0, 10) := Or.inl (okc_iconst dX3_isFull_9 (by decide +kernel))
theorem t62_10 : e_ok mD62 10 (2, 4, 0, 0, 14) := oki_goto dX3_isFull_10 (by decide +kernel)
theorem t62_13 : e_ok mD62 13 (0, 0, 0, 0, 14) := Or.inl (okc_iconst dX3_isFull_13 (by decide +kernel))
theorem t62_14 : e_ok mD62 14 (12, 6, 0, 0, 0) := okr_bool dX3_isFull_14 rfl
theorem t63_0 : e_ok mD63 0 (1, 1, 0, 0, 1) := okl_aload_n dX3_valueOf_0 rfl
theorem t63_1 : e_ok mD63 1 (1, 0, 1, 0, 2) := okl_iload_n dX3_valueOf_1 rfl
theorem t63_2 : e_ok mD63 2 (11, 2, 61, 2, 5) := And.intro (okCallX.M (okx_virtual (Da := mD61) dX3_valueOf_2 rfl mwc_61 (wg3 149 rfl rfl) mwn_61 mwv_61 mwi_61 mwd_61)) (fun _ => okx_virtual (Da := mD61) dX3_valueOf_2 rfl mwc_61 (wg3 149 rfl rfl) mwn_61 mwv_61 mwi_61 mwd_61)
theorem t63_5 : e_ok mD63 5 (1, 0, 2, 0, 6) := okl_iload_n dX3_valueOf_5 rfl
theorem t63_6 : e_ok mD63 6 (3, 2, 0, 0, 7) := okb_imul dX3_valueOf_6
theorem t63_7 : e_ok mD63 7 (0, 0, 200, 0, 10) := Or.inl (okc_sipush dX3_valueOf_7 (by decide +kernel))
theorem t63_10 : e_ok mD63 10 (3, 1, 0, 0, 11) := okb_isub dX3_valueOf_10
theorem t63_11 : e_ok mD63 11 (1, 4, 3, 0, 12) := oks_istore_n dX3_valueOf_11 rfl (by decide +kernel)
theorem t63_12 : e_ok mD63 12 (1, 0, 3, 0, 13) := okl_iload_n dX3_valueOf_12 rfl
theorem t63_13 : e_ok mD63 13 (0, 0, 0, 0, 14) := Or.inl (okc_iconst dX3_valueOf_13 (by decide +kernel))
theorem t63_14 : e_ok mD63 14 (11, 0, 167, 2, 17) := And.intro (okCallX.M (okx_static (Da := mD167) dX3_valueOf_14 rfl mwc_167 (wg3 150 rfl rfl) mws_167 mwi_167 mwd_167)) (fun _ => okx_static (Da := mD167) dX3_valueOf_14 rfl mwc_167 (wg3 150 rfl rfl) mws_167 mwi_167 mwd_167)
theorem t63_17 : e_ok mD63 17 (1, 0, 1, 0, 18) := okl_iload_n dX3_valueOf_17 rfl
theorem t63_18 : e_ok mD63 18 (11, 4, 2, 1, 21) := And.intro (okm_staticN (Da := mD2) dX3_valueOf_18 rfl mwc_2 (wn3 153 rfl rfl) mws_2 mwi_2 mwd_2) (fun h => h.elim nofun nofun)
theorem t63_21 : e_ok mD63 21 (3, 1, 0, 0, 22) := okb_isub dX3_valueOf_21
theorem t63_22 : e_ok mD63 22 (12, 1, 0, 0, 0) := okr_int dX3_valueOf_22 rfl
theorem t64_0 : e_ok mD64 0 (1, 1, 0, 0, 1) := okl_aload_n dX4_init_0 rfl
theorem t64_1 : e_ok mD64 1 (7, 4, 0, 0, 4) := okw_obj dX4_init_1 (wg1 140 rfl rfl) w_obj1 w_obj2
theorem t64_4 : e_ok mD64 4 (1, 1, 0, 0, 5) := okl_aload_n dX4_init_4 rfl
theorem t64_5 : e_ok mD64 5 (0, 0, 4, 0, 6) := Or.inl (okc_iconst dX4_init_5 (by decide +kernel))
theorem t64_6 : e_ok mD64 6 (16, 0, 0, 0, 8) := And.intro (oka_new (by decide) rfl (wg1 73 rfl rfl) dX4_init_6) (by decide)
theorem t64_8 : e_ok mD64 8 (9, 7, 9, 2, 11) := okw_putF dX4_init_8 rfl hin_9 tyX4_ok nmX4 (by decide +kernel) (wg1 143 rfl rfl) rfl rfl rfl rfl (tyX4_ok 2 (by decide +kernel)) (fun V h => fitV_arr h)
theorem t64_11 : e_ok mD64 11 (1, 1, 0, 0, 12) := okl_aload_n dX4_init_11 rfl
theorem t64_12 : e_ok mD64 12 (0, 0, 60, 0, 14) := Or.inl (okc_bipush dX4_init_12 (by decide +kernel))
theorem t64_14 : e_ok mD64 14 (16, 0, 0, 0, 16) := And.intro (oka_new (by decide) rfl (wg1 73 rfl rfl) dX4_init_14) (by decide)
theorem t64_16 : e_ok mD64 16 (9, 7, 9, 3, 19) := okw_putF dX4_init_16 rfl hin_9 tyX4_ok nmX4 (by decide +kernel) (wg1 144 rfl rfl) rfl rfl rfl rfl (tyX4_ok 3 (by decide +kernel)) (fun V h => fitV_arr h)
theorem t64_19 : e_ok mD64 19 (1, 1, 0, 0, 20) := okl_aload_n dX4_init_19 rfl
theorem t64_20 : e_ok mD64 20 (0, 0, 1, 0, 21) := Or.inl (okc_iconst dX4_init_20 (by decide +kernel))
theorem t64_21 : e_ok mD64 21 (9, 1, 9, 5, 24) := okw_put dX4_init_21 rfl hin_9 tyX4_ok nmX4 (by decide +kernel) (wg1 147 rfl rfl) rfl rfl (tyX4_ok 5 (by decide +kernel)) (fun V h => fitV_bool h)
theorem t64_24 : e_ok mD64 24 (1, 1, 0, 0, 25) := okl_aload_n dX4_init_24 rfl
theorem t64_25 : e_ok mD64 25 (1, 1, 1, 0, 26) := okl_aload_n dX4_init_25 rfl
theorem t64_26 : e_ok mD64 26 (9, 7, 9, 0, 29) := okw_putF dX4_init_26 rfl hin_9 tyX4_ok nmX4 (by decide +kernel) (wg1 141 rfl rfl) rfl rfl rfl rfl (tyX4_ok 0 (by decide +kernel)) (fun V h => fitV_obj h)
theorem t64_29 : e_ok mD64 29 (1, 1, 0, 0, 30) := okl_aload_n dX4_init_29 rfl
theorem t64_30 : e_ok mD64 30 (1, 1, 2, 0, 31) := okl_aload_n dX4_init_30 rfl
theorem t64_31 : e_ok mD64 31 (9, 7, 9, 1, 34) := okw_putF dX4_init_31 rfl hin_9 tyX4_ok nmX4 (by decide +kernel) (wg1 142 rfl rfl) rfl rfl rfl rfl (tyX4_ok 1 (by decide +kernel)) (fun V h => fitV_obj h)
theorem t64_34 : e_ok mD64 34 (12, 0, 0, 0, 0) := okr_void dX4_init_34 rfl
theorem t65_0 : e_ok mD65 0 (1, 1, 0, 0, 1) := okl_aload_n dX4_addPrice_0 rfl
theorem t65_1 : e_ok mD65 1 (11, 2, 68, 1, 4) := And.intro (okCallX.M (okx_virtual (Da := mD68) dX4_addPrice_1 rfl mwc_68 (wg4 27 rfl rfl) mwn_68 mwv_68 mwi_68 mwd_68)) (fun _ => okx_virtual (Da := mD68) dX4_addPrice_1 rfl mwc_68 (wg4 27 rfl rfl) mwn_68 mwv_68 mwi_68 mwd_68)
theorem t65_4 : e_ok mD65 4 (5, 1, 32, 0, 7) := okj_ne dX4_addPrice_4 (by decide +kernel)
theorem t65_7 : e_ok mD65 7 (1, 1, 0, 0, 8) := okl_aload_n dX4_addPrice_7 rfl
theorem t65_8 : e_ok mD65 8 (7, 0, 9, 2, 11) := And.intro (okw_get dX4_addPrice_8 rfl hin_9 (by decide +kernel) (wg1 143 rfl rfl) rfl) (okx_none (by decide +kernel) _)
theorem t65_11 : e_ok mD65 11 (1, 1, 0, 0, 12) := okl_aload_n dX4_addPrice_11 rfl
theorem t65_12 : e_ok mD65 12 (7, 0, 9, 4, 15) := And.intro (okw_get dX4_addPrice_12 rfl hin_9 (by decide +kernel) (wg1 145 rfl rfl) rfl) (okx_none (by decide +kernel) _)
theorem t65_15 : e_ok mD65 15 (1, 0, 1, 0, 16) := okl_iload_n dX4_addPrice_15 rfl
theorem t65_16 : e_ok mD65 16 (10, 0, 0, 0, 17) := oka_sti dX4_addPrice_16
theorem t65_17 : e_ok mD65 17 (1, 1, 0, 0, 18) := okl_aload_n dX4_addPrice_17 rfl
theorem t65_18 : e_ok mD65 18 (2, 1, 0, 0, 19) := oki_dup dX4_addPrice_18
theorem t65_19 : e_ok mD65 19 (7, 0, 9, 4, 22) := And.intro (okw_get dX4_addPrice_19 rfl hin_9 (by decide +kernel) (wg1 145 rfl rfl) rfl) (okx_none (by decide +kernel) _)
theorem t65_22 : e_ok mD65 22 (0, 0, 1, 0, 23) := Or.inl (okc_iconst dX4_addPrice_22 (by decide +kernel))
theorem t65_23 : e_ok mD65 23 (3, 0, 0, 0, 24) := okb_iadd dX4_addPrice_23
theorem t65_24 : e_ok mD65 24 (9, 0, 9, 4, 27) := okw_put dX4_addPrice_24 rfl hin_9 tyX4_ok nmX4 (by decide +kernel) (wg1 145 rfl rfl) rfl rfl (tyX4_ok 4 (by decide +kernel)) (fun V h => fitV_int h)
theorem t65_27 : e_ok mD65 27 (1, 1, 0, 0, 28) := okl_aload_n dX4_addPrice_27 rfl
theorem t65_28 : e_ok mD65 28 (0, 0, 1, 0, 29) := Or.inl (okc_iconst dX4_addPrice_28 (by decide +kernel))
theorem t65_29 : e_ok mD65 29 (9, 1, 9, 5, 32) := okw_put dX4_addPrice_29 rfl hin_9 tyX4_ok nmX4 (by decide +kernel) (wg1 147 rfl rfl) rfl rfl (tyX4_ok 5 (by decide +kernel)) (fun V h => fitV_bool h)
theorem t65_32 : e_ok mD65 32 (12, 0, 0, 0, 0) := okr_void dX4_addPrice_32 rfl
theorem t66_0 : e_ok mD66 0 (1, 1, 0, 0, 1) := okl_aload_n dX4_dropAll_0 rfl
theorem t66_1 : e_ok mD66 1 (0, 0, 0, 0, 2) := Or.inl (okc_iconst dX4_dropAll_1 (by decide +kernel))
theorem t66_2 : e_ok mD66 2 (9, 0, 9, 4, 5) := okw_put dX4_dropAll_2 rfl hin_9 tyX4_ok nmX4 (by decide +kernel) (wg1 145 rfl rfl) rfl rfl (tyX4_ok 4 (by decide +kernel)) (fun V h => fitV_int h)
theorem t66_5 : e_ok mD66 5 (1, 1, 0, 0, 6) := okl_aload_n dX4_dropAll_5 rfl
theorem t66_6 : e_ok mD66 6 (0, 0, 1, 0, 7) := Or.inl (okc_iconst dX4_dropAll_6 (by decide +kernel))
theorem t66_7 : e_ok mD66 7 (9, 1, 9, 5, 10) := okw_put dX4_dropAll_7 rfl hin_9 tyX4_ok nmX4 (by decide +kernel) (wg1 147 rfl rfl) rfl rfl (tyX4_ok 5 (by decide +kernel)) (fun V h => fitV_bool h)
theorem t66_10 : e_ok mD66 10 (12, 0, 0, 0, 0) := okr_void dX4_dropAll_10 rfl
theorem t67_0 : e_ok mD67 0 (1, 1, 0, 0, 1) := okl_aload_n dX4_forget_0 rfl
theorem t67_1 : e_ok mD67 1 (0, 0, 1, 0, 2) := Or.inl (okc_iconst dX4_forget_1 (by decide +kernel))
theorem t67_2 : e_ok mD67 2 (9, 1, 9, 5, 5) := okw_put dX4_forget_2 rfl hin_9 tyX4_ok nmX4 (by decide +kernel) (wg1 147 rfl rfl) rfl rfl (tyX4_ok 5 (by decide +kernel)) (fun V h => fitV_bool h)
theorem t67_5 : e_ok mD67 5 (12, 0, 0, 0, 0) := okr_void dX4_forget_5 rfl
theorem t68_0 : e_ok mD68 0 (1, 1, 0, 0, 1) := okl_aload_n dX4_isFull_0 rfl
theorem t68_1 : e_ok mD68 1 (7, 0, 9, 4, 4) := And.intro (okw_get dX4_isFull_1 rfl hin_9 (by decide +kernel) (wg1 145 rfl rfl) rfl) (okx_none (by decide +kernel) _)
theorem t68_4 : e_ok mD68 4 (0, 0, 4, 0, 5) := Or.inl (okc_iconst dX4_isFull_4 (by decide +kernel))
theorem t68_5 : e_ok mD68 5 (6, 2, 12, 0, 8) := okk_lt dX4_isFull_5 (by decide +kernel)
theorem t68_8 : e_ok mD68 8 (0, 0, 1, 0, 9) := Or.inl (okc_iconst dX4_isFull_8 (by decide +kernel))
theorem t68_9 : e_ok mD68 9 (2, 4, 0, 0, 13) := oki_goto dX4_isFull_9 (by decide +kernel)
theorem t68_12 : e_ok mD68 12 (0, 0, 0, 0, 13) := Or.inl (okc_iconst dX4_isFull_12 (by decide +kernel))
theorem t68_13 : e_ok mD68 13 (12, 6, 0, 0, 0) := okr_bool dX4_isFull_13 rfl
theorem t69_0 : e_ok mD69 0 (1, 1, 0, 0, 1) := okl_aload_n dX4_lastPrice_0 rfl
theorem t69_1 : e_ok mD69 1 (7, 0, 9, 4, 4) := And.intro (okw_get dX4_lastPrice_1 rfl hin_9 (by decide +kernel) (wg1 145 rfl rfl) rfl) (okx_none (by decide +kernel) _)
theorem t69_4 : e_ok mD69 4 (5, 5, 29, 0, 7) := okj_le dX4_lastPrice_4 (by decide +kernel)
theorem t69_7 : e_ok mD69 7 (1, 1, 0, 0, 8) := okl_aload_n dX4_lastPrice_7 rfl
theorem t69_8 : e_ok mD69 8 (7, 0, 9, 4, 11) := And.intro (okw_get dX4_lastPrice_8 rfl hin_9 (by decide +kernel) (wg1 145 rfl rfl) rfl) (okx_none (by decide +kernel) _)
theorem t69_11 : e_ok mD69 11 (0, 0, 4, 0, 12) := Or.inl (okc_iconst dX4_lastPrice_11 (by decide +kernel))
theorem t69_12 : e_ok mD69 12 (6, 4, 29, 0, 15) := okk_gt dX4_lastPrice_12 (by decide +kernel)
theorem t69_15 : e_ok mD69 15 (1, 1, 0, 0, 16) := okl_aload_n dX4_lastPrice_15 rfl
theorem t69_16 : e_ok mD69 16 (7, 0, 9, 2, 19) := And.intro (okw_get dX4_lastPrice_16 rfl hin_9 (by decide +kernel) (wg1 143 rfl rfl) rfl) (okx_none (by decide +kernel) _)
theorem t69_19 : e_ok mD69 19 (1, 1, 0, 0, 20) := okl_aload_n dX4_lastPrice_19 rfl
theorem t69_20 : e_ok mD69 20 (7, 0, 9, 4, 23) := And.intro (okw_get dX4_lastPrice_20 rfl hin_9 (by decide +kernel) (wg1 145 rfl rfl) rfl) (okx_none (by decide +kernel) _)
theorem t69_23 : e_ok mD69 23 (0, 0, 1, 0, 24) := Or.inl (okc_iconst dX4_lastPrice_23 (by decide +kernel))
theorem t69_24 : e_ok mD69 24 (3, 1, 0, 0, 25) := okb_isub dX4_lastPrice_24
theorem t69_25 : e_ok mD69 25 (8, 0, 0, 0, 26) := And.intro (oka_i dX4_lastPrice_25) (oky_i dX4_lastPrice_25)
theorem t69_26 : e_ok mD69 26 (2, 4, 0, 0, 30) := oki_goto dX4_lastPrice_26 (by decide +kernel)
theorem t69_29 : e_ok mD69 29 (0, 0, 4294967295, 0, 30) := Or.inl (okc_iconst dX4_lastPrice_29 (by decide +kernel))
theorem t69_30 : e_ok mD69 30 (12, 1, 0, 0, 0) := okr_int dX4_lastPrice_30 rfl
theorem t70_0 : e_ok mD70 0 (1, 0, 1, 0, 1) := okl_iload_n dX4_numberFor_0 rfl
theorem t70_1 : e_ok mD70 1 (11, 4, 11, 1, 4) := And.intro (okm_staticN (Da := mD11) dX4_numberFor_1 rfl mwc_11 (wn4 49 rfl rfl) mws_11 mwi_11 mwd_11) (fun h => h.elim nofun nofun)
theorem t70_4 : e_ok mD70 4 (5, 0, 27, 0, 7) := okj_eq dX4_numberFor_4 (by decide +kernel)
theorem t70_7 : e_ok mD70 7 (1, 1, 0, 0, 8) := okl_aload_n dX4_numberFor_7 rfl
theorem t70_8 : e_ok mD70 8 (7, 0, 9, 0, 11) := And.intro (okw_get dX4_numberFor_8 rfl hin_9 (by decide +kernel) (wg1 141 rfl rfl) rfl) (okx_none (by decide +kernel) _)
theorem t70_11 : e_ok mD70 11 (1, 0, 1, 0, 12) := okl_iload_n dX4_numberFor_11 rfl
theorem t70_12 : e_ok mD70 12 (11, 2, 52, 2, 15) := And.intro (okCallX.M (okx_virtual (Da := mD52) dX4_numberFor_12 rfl mwc_52 (wg4 50 rfl rfl) mwn_52 mwv_52 mwi_52 mwd_52)) (fun _ => okx_virtual (Da := mD52) dX4_numberFor_12 rfl mwc_52 (wg4 50 rfl rfl) mwn_52 mwv_52 mwi_52 mwd_52)
theorem t70_15 : e_ok mD70 15 (5, 1, 27, 0, 18) := okj_ne dX4_numberFor_15 (by decide +kernel)
theorem t70_18 : e_ok mD70 18 (1, 1, 0, 0, 19) := okl_aload_n dX4_numberFor_18 rfl
theorem t70_19 : e_ok mD70 19 (7, 0, 9, 3, 22) := And.intro (okw_get dX4_numberFor_19 rfl hin_9 (by decide +kernel) (wg1 144 rfl rfl) rfl) (okx_none (by decide +kernel) _)
theorem t70_22 : e_ok mD70 22 (1, 0, 1, 0, 23) := okl_iload_n dX4_numberFor_22 rfl
theorem t70_23 : e_ok mD70 23 (8, 0, 0, 0, 24) := And.intro (oka_i dX4_numberFor_23) (oky_i dX4_numberFor_23)
theorem t70_24 : e_ok mD70 24 (2, 4, 0, 0, 28) := oki_goto dX4_numberFor_24 (by decide +kernel)
theorem t70_27 : e_ok mD70 27 (0, 0, 4294967295, 0, 28) := Or.inl (okc_iconst dX4_numberFor_27 (by decide +kernel))
theorem t70_28 : e_ok mD70 28 (12, 1, 0, 0, 0) := okr_int dX4_numberFor_28 rfl
theorem t71_0 : e_ok mD71 0 (1, 1, 0, 0, 1) := okl_aload_n dX4_refresh_0 rfl
theorem t71_1 : e_ok mD71 1 (7, 0, 9, 5, 4) := And.intro (okw_get dX4_refresh_1 rfl hin_9 (by decide +kernel) (wg1 147 rfl rfl) rfl) (okx_none (by decide +kernel) _)
theorem t71_4 : e_ok mD71 4 (5, 1, 8, 0, 7) := okj_ne dX4_refresh_4 (by decide +kernel)
theorem t71_7 : e_ok mD71 7 (12, 0, 0, 0, 0) := okr_void dX4_refresh_7 rfl
theorem t71_8 : e_ok mD71 8 (0, 0, 0, 0, 9) := Or.inl (okc_iconst dX4_refresh_8 (by decide +kernel))
theorem t71_9 : e_ok mD71 9 (1, 4, 1, 0, 10) := oks_istore_n dX4_refresh_9 rfl (by decide +kernel)
theorem t71_10 : e_ok mD71 10 (1, 0, 1, 0, 11) := okl_iload_n dX4_refresh_10 rfl
theorem t71_11 : e_ok mD71 11 (0, 0, 60, 0, 13) := Or.inl (okc_bipush dX4_refresh_11 (by decide +kernel))
theorem t71_13 : e_ok mD71 13 (6, 3, 29, 0, 16) := okk_ge dX4_refresh_13 (by decide +kernel)
theorem t71_16 : e_ok mD71 16 (1, 1, 0, 0, 17) := okl_aload_n dX4_refresh_16 rfl
theorem t71_17 : e_ok mD71 17 (7, 0, 9, 3, 20) := And.intro (okw_get dX4_refresh_17 rfl hin_9 (by decide +kernel) (wg1 144 rfl rfl) rfl) (okx_none (by decide +kernel) _)
theorem t71_20 : e_ok mD71 20 (1, 0, 1, 0, 21) := okl_iload_n dX4_refresh_20 rfl
theorem t71_21 : e_ok mD71 21 (0, 0, 4294967295, 0, 22) := Or.inl (okc_iconst dX4_refresh_21 (by decide +kernel))
theorem t71_22 : e_ok mD71 22 (10, 0, 0, 0, 23) := oka_sti dX4_refresh_22
theorem t71_23 : e_ok mD71 23 (2, 0, 1, 1, 26) := oki_iinc dX4_refresh_23 (by decide +kernel) (by decide +kernel)
theorem t71_26 : e_ok mD71 26 (2, 4, 0, 0, 10) := oki_goto dX4_refresh_26 (by decide +kernel)
theorem t71_29 : e_ok mD71 29 (0, 0, 0, 0, 30) := Or.inl (okc_iconst dX4_refresh_29 (by decide +kernel))
theorem t71_30 : e_ok mD71 30 (1, 4, 1, 0, 31) := oks_istore_n dX4_refresh_30 rfl (by decide +kernel)
theorem t71_31 : e_ok mD71 31 (1, 0, 1, 0, 32) := okl_iload_n dX4_refresh_31 rfl
theorem t71_32 : e_ok mD71 32 (1, 1, 0, 0, 33) := okl_aload_n dX4_refresh_32 rfl
theorem t71_33 : e_ok mD71 33 (7, 0, 9, 4, 36) := And.intro (okw_get dX4_refresh_33 rfl hin_9 (by decide +kernel) (wg1 145 rfl rfl) rfl) (okx_none (by decide +kernel) _)
theorem t71_36 : e_ok mD71 36 (6, 3, 68, 0, 39) := okk_ge dX4_refresh_36 (by decide +kernel)
theorem t71_39 : e_ok mD71 39 (1, 0, 1, 0, 40) := okl_iload_n dX4_refresh_39 rfl
theorem t71_40 : e_ok mD71 40 (0, 0, 4, 0, 41) := Or.inl (okc_iconst dX4_refresh_40 (by decide +kernel))
theorem t71_41 : e_ok mD71 41 (6, 3, 68, 0, 44) := okk_ge dX4_refresh_41 (by decide +kernel)
theorem t71_44 : e_ok mD71 44 (1, 1, 0, 0, 45) := okl_aload_n dX4_refresh_44 rfl
theorem t71_45 : e_ok mD71 45 (7, 0, 9, 1, 48) := And.intro (okw_get dX4_refresh_45 rfl hin_9 (by decide +kernel) (wg1 142 rfl rfl) rfl) (okx_none (by decide +kernel) _)
theorem t71_48 : e_ok mD71 48 (1, 1, 0, 0, 49) := okl_aload_n dX4_refresh_48 rfl
theorem t71_49 : e_ok mD71 49 (7, 0, 9, 2, 52) := And.intro (okw_get dX4_refresh_49 rfl hin_9 (by decide +kernel) (wg1 143 rfl rfl) rfl) (okx_none (by decide +kernel) _)
theorem t71_52 : e_ok mD71 52 (1, 0, 1, 0, 53) := okl_iload_n dX4_refresh_52 rfl
theorem t71_53 : e_ok mD71 53 (8, 0, 0, 0, 54) := And.intro (oka_i dX4_refresh_53) (oky_i dX4_refresh_53)
theorem t71_54 : e_ok mD71 54 (11, 2, 78, 2, 57) := And.intro (okCallX.M (okx_virtual (Da := mD78) dX4_refresh_54 rfl mwc_78 (wg4 39 rfl rfl) mwn_78 mwv_78 mwi_78 mwd_78)) (fun _ => okx_virtual (Da := mD78) dX4_refresh_54 rfl mwc_78 (wg4 39 rfl rfl) mwn_78 mwv_78 mwi_78 mwd_78)
theorem t71_57 : e_ok mD71 57 (1, 1, 0, 0, 58) := okl_aload_n dX4_refresh_57 rfl
theorem t71_58 : e_ok mD71 58 (1, 0, 1, 0, 59) := okl_iload_n dX4_refresh_58 rfl
theorem t71_59 : e_ok mD71 59 (11, 2, 205, 2, 62) := And.intro (okCallX.M (okx_virtual (Da := mD205) dX4_refresh_59 rfl mwc_205 (wg4 40 rfl rfl) mwn_205 mwv_205 mwi_205 mwd_205)) (fun _ => okx_virtual (Da := mD205) dX4_refresh_59 rfl mwc_205 (wg4 40 rfl rfl) mwn_205 mwv_205 mwi_205 mwd_205)
theorem t71_62 : e_ok mD71 62 (2, 0, 1, 1, 65) := oki_iinc dX4_refresh_62 (by decide +kernel) (by decide +kernel)
theorem t71_65 : e_ok mD71 65 (2, 4, 0, 0, 31) := oki_goto dX4_refresh_65 (by decide +kernel)
theorem t71_68 : e_ok mD71 68 (1, 1, 0, 0, 69) := okl_aload_n dX4_refresh_68 rfl
theorem t71_69 : e_ok mD71 69 (0, 0, 0, 0, 70) := Or.inl (okc_iconst dX4_refresh_69 (by decide +kernel))
theorem t71_70 : e_ok mD71 70 (9, 1, 9, 5, 73) := okw_put dX4_refresh_70 rfl hin_9 tyX4_ok nmX4 (by decide +kernel) (wg1 147 rfl rfl) rfl rfl (tyX4_ok 5 (by decide +kernel)) (fun V h => fitV_bool h)
theorem t71_73 : e_ok mD71 73 (12, 0, 0, 0, 0) := okr_void dX4_refresh_73 rfl
theorem t72_0 : e_ok mD72 0 (1, 1, 0, 0, 1) := okl_aload_n dX5_init_0 rfl
theorem t72_1 : e_ok mD72 1 (7, 4, 0, 0, 4) := okw_obj dX5_init_1 (wg1 176 rfl rfl) w_obj1 w_obj2
theorem t72_4 : e_ok mD72 4 (1, 1, 0, 0, 5) := okl_aload_n dX5_init_4 rfl
theorem t72_5 : e_ok mD72 5 (0, 0, 60, 0, 7) := Or.inl (okc_bipush dX5_init_5 (by decide +kernel))
theorem t72_7 : e_ok mD72 7 (16, 0, 0, 0, 9) := And.intro (oka_new (by decide) rfl (wg1 73 rfl rfl) dX5_init_7) (by decide)
theorem t72_9 : e_ok mD72 9 (9, 7, 10, 0, 12) := okw_putF dX5_init_9 rfl hin_10 tyX5_ok nmX5 (by decide +kernel) (wg1 177 rfl rfl) rfl rfl rfl rfl (tyX5_ok 0 (by decide +kernel)) (fun V h => fitV_arr h)
theorem t72_12 : e_ok mD72 12 (12, 0, 0, 0, 0) := okr_void dX5_init_12 rfl
theorem t73_0 : e_ok mD73 0 (1, 1, 0, 0, 1) := okl_aload_n dX5_count_0 rfl
theorem t73_1 : e_ok mD73 1 (7, 0, 10, 4, 4) := And.intro (okw_get dX5_count_1 rfl hin_10 (by decide +kernel) (wg1 181 rfl rfl) rfl) (okx_none (by decide +kernel) _)
theorem t73_4 : e_ok mD73 4 (1, 1, 0, 0, 5) := okl_aload_n dX5_count_4 rfl
theorem t73_5 : e_ok mD73 5 (7, 0, 10, 2, 8) := And.intro (okw_get dX5_count_5 rfl hin_10 (by decide +kernel) (wg1 179 rfl rfl) rfl) (okx_none (by decide +kernel) _)
theorem t73_8 : e_ok mD73 8 (3, 0, 0, 0, 9) := okb_iadd dX5_count_8
theorem t73_9 : e_ok mD73 9 (1, 1, 0, 0, 10) := okl_aload_n dX5_count_9 rfl
theorem t73_10 : e_ok mD73 10 (7, 0, 10, 1, 13) := And.intro (okw_get dX5_count_10 rfl hin_10 (by decide +kernel) (wg1 178 rfl rfl) rfl) (okx_none (by decide +kernel) _)
