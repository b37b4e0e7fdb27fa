/-! every entry of the tables -/
theorem t205_35 : e_ok mD205 35 (8, 0, 0, 0, 36) := And.intro (oka_i dX1_wasAhead_35) (oky_i dX1_wasAhead_35)
theorem t205_36 : e_ok mD205 36 (6, 3, 58, 0, 39) := okk_ge dX1_wasAhead_36 (by decide +kernel)
theorem t205_39 : e_ok mD205 39 (1, 1, 0, 0, 40) := okl_aload_n dX1_wasAhead_39 rfl
theorem t205_40 : e_ok mD205 40 (7, 0, 6, 2, 43) := And.intro (okw_get dX1_wasAhead_40 rfl hin_6 (by decide +kernel) (wg1 60 rfl rfl) rfl) (okx_none (by decide +kernel) _)
theorem t205_43 : e_ok mD205 43 (1, 0, 1, 0, 44) := okl_iload_n dX1_wasAhead_43 rfl
theorem t205_44 : e_ok mD205 44 (8, 0, 0, 0, 45) := And.intro (oka_i dX1_wasAhead_44) (oky_i dX1_wasAhead_44)
theorem t205_45 : e_ok mD205 45 (1, 1, 0, 0, 46) := okl_aload_n dX1_wasAhead_45 rfl
theorem t205_46 : e_ok mD205 46 (7, 0, 6, 2, 49) := And.intro (okw_get dX1_wasAhead_46 rfl hin_6 (by decide +kernel) (wg1 60 rfl rfl) rfl) (okx_none (by decide +kernel) _)
theorem t205_49 : e_ok mD205 49 (1, 0, 2, 0, 50) := okl_iload_n dX1_wasAhead_49 rfl
theorem t205_50 : e_ok mD205 50 (8, 0, 0, 0, 51) := And.intro (oka_i dX1_wasAhead_50) (oky_i dX1_wasAhead_50)
theorem t205_51 : e_ok mD205 51 (6, 4, 58, 0, 54) := okk_gt dX1_wasAhead_51 (by decide +kernel)
theorem t205_54 : e_ok mD205 54 (0, 0, 1, 0, 55) := Or.inl (okc_iconst dX1_wasAhead_54 (by decide +kernel))
theorem t205_55 : e_ok mD205 55 (2, 4, 0, 0, 59) := oki_goto dX1_wasAhead_55 (by decide +kernel)
theorem t205_58 : e_ok mD205 58 (0, 0, 0, 0, 59) := Or.inl (okc_iconst dX1_wasAhead_58 (by decide +kernel))
theorem t205_59 : e_ok mD205 59 (12, 6, 0, 0, 0) := okr_bool dX1_wasAhead_59 rfl
theorem t206_0 : e_ok mD206 0 (0, 0, 0, 0, 1) := Or.inl (okc_iconst dX4_numberFound_0 (by decide +kernel))
theorem t206_1 : e_ok mD206 1 (1, 4, 2, 0, 2) := oks_istore_n dX4_numberFound_1 rfl (by decide +kernel)
theorem t206_2 : e_ok mD206 2 (1, 0, 2, 0, 3) := okl_iload_n dX4_numberFound_2 rfl
theorem t206_3 : e_ok mD206 3 (0, 0, 60, 0, 5) := Or.inl (okc_bipush dX4_numberFound_3 (by decide +kernel))
theorem t206_5 : e_ok mD206 5 (6, 3, 41, 0, 8) := okk_ge dX4_numberFound_5 (by decide +kernel)
theorem t206_8 : e_ok mD206 8 (1, 1, 0, 0, 9) := okl_aload_n dX4_numberFound_8 rfl
theorem t206_9 : e_ok mD206 9 (7, 0, 9, 3, 12) := And.intro (okw_get dX4_numberFound_9 rfl hin_9 (by decide +kernel) (wg1 144 rfl rfl) rfl) (okx_none (by decide +kernel) _)
theorem t206_12 : e_ok mD206 12 (1, 0, 2, 0, 13) := okl_iload_n dX4_numberFound_12 rfl
theorem t206_13 : e_ok mD206 13 (8, 0, 0, 0, 14) := And.intro (oka_i dX4_numberFound_13) (oky_i dX4_numberFound_13)
theorem t206_14 : e_ok mD206 14 (5, 3, 35, 0, 17) := okj_ge dX4_numberFound_14 (by decide +kernel)
theorem t206_17 : e_ok mD206 17 (1, 1, 0, 0, 18) := okl_aload_n dX4_numberFound_17 rfl
theorem t206_18 : e_ok mD206 18 (7, 0, 9, 1, 21) := And.intro (okw_get dX4_numberFound_18 rfl hin_9 (by decide +kernel) (wg1 142 rfl rfl) rfl) (okx_none (by decide +kernel) _)
theorem t206_21 : e_ok mD206 21 (1, 0, 2, 0, 22) := okl_iload_n dX4_numberFound_21 rfl
theorem t206_22 : e_ok mD206 22 (11, 2, 81, 2, 25) := And.intro (okCallX.M (okx_virtual (Da := mD81) dX4_numberFound_22 rfl mwc_81 (wg4 47 rfl rfl) mwn_81 mwv_81 mwi_81 mwd_81)) (fun _ => okx_virtual (Da := mD81) dX4_numberFound_22 rfl mwc_81 (wg4 47 rfl rfl) mwn_81 mwv_81 mwi_81 mwd_81)
theorem t206_25 : e_ok mD206 25 (5, 0, 35, 0, 28) := okj_eq dX4_numberFound_25 (by decide +kernel)
theorem t206_28 : e_ok mD206 28 (1, 1, 0, 0, 29) := okl_aload_n dX4_numberFound_28 rfl
theorem t206_29 : e_ok mD206 29 (7, 0, 9, 3, 32) := And.intro (okw_get dX4_numberFound_29 rfl hin_9 (by decide +kernel) (wg1 144 rfl rfl) rfl) (okx_none (by decide +kernel) _)
theorem t206_32 : e_ok mD206 32 (1, 0, 2, 0, 33) := okl_iload_n dX4_numberFound_32 rfl
theorem t206_33 : e_ok mD206 33 (1, 0, 1, 0, 34) := okl_iload_n dX4_numberFound_33 rfl
theorem t206_34 : e_ok mD206 34 (10, 0, 0, 0, 35) := oka_sti dX4_numberFound_34
theorem t206_35 : e_ok mD206 35 (2, 0, 2, 1, 38) := oki_iinc dX4_numberFound_35 (by decide +kernel) (by decide +kernel)
theorem t206_38 : e_ok mD206 38 (2, 4, 0, 0, 2) := oki_goto dX4_numberFound_38 (by decide +kernel)
theorem t206_41 : e_ok mD206 41 (12, 0, 0, 0, 0) := okr_void dX4_numberFound_41 rfl
theorem t207_0 : e_ok mD207 0 (1, 1, 0, 0, 1) := okl_aload_n dX9_digOut_0 rfl
theorem t207_1 : e_ok mD207 1 (7, 0, 14, 1, 4) := And.intro (okw_get dX9_digOut_1 rfl hin_14 (by decide +kernel) (wg2 43 rfl rfl) rfl) (okx_none (by decide +kernel) _)
theorem t207_4 : e_ok mD207 4 (1, 0, 1, 0, 5) := okl_iload_n dX9_digOut_4 rfl
theorem t207_5 : e_ok mD207 5 (11, 2, 62, 2, 8) := And.intro (okCallX.M (okx_virtual (Da := mD62) dX9_digOut_5 rfl mwc_62 (wg3 133 rfl rfl) mwn_62 mwv_62 mwi_62 mwd_62)) (fun _ => okx_virtual (Da := mD62) dX9_digOut_5 rfl mwc_62 (wg3 133 rfl rfl) mwn_62 mwv_62 mwi_62 mwd_62)
theorem t207_8 : e_ok mD207 8 (1, 4, 2, 0, 9) := oks_istore_n dX9_digOut_8 rfl (by decide +kernel)
theorem t207_9 : e_ok mD207 9 (1, 1, 0, 0, 10) := okl_aload_n dX9_digOut_9 rfl
theorem t207_10 : e_ok mD207 10 (7, 0, 14, 8, 13) := And.intro (okw_get dX9_digOut_10 rfl hin_14 (by decide +kernel) (wg2 50 rfl rfl) rfl) (okx_none (by decide +kernel) _)
theorem t207_13 : e_ok mD207 13 (1, 0, 1, 0, 14) := okl_iload_n dX9_digOut_13 rfl
theorem t207_14 : e_ok mD207 14 (11, 2, 45, 2, 17) := And.intro (okCallX.M (okx_virtual (Da := mD45) dX9_digOut_14 rfl mwc_45 (wg3 117 rfl rfl) mwn_45 mwv_45 mwi_45 mwd_45)) (fun _ => okx_virtual (Da := mD45) dX9_digOut_14 rfl mwc_45 (wg3 117 rfl rfl) mwn_45 mwv_45 mwi_45 mwd_45)
theorem t207_17 : e_ok mD207 17 (1, 4, 3, 0, 18) := oks_istore_n dX9_digOut_17 rfl (by decide +kernel)
theorem t207_18 : e_ok mD207 18 (1, 0, 3, 0, 19) := okl_iload_n dX9_digOut_18 rfl
theorem t207_19 : e_ok mD207 19 (5, 2, 26, 0, 22) := okj_lt dX9_digOut_19 (by decide +kernel)
theorem t207_22 : e_ok mD207 22 (1, 0, 3, 0, 23) := okl_iload_n dX9_digOut_22 rfl
theorem t207_23 : e_ok mD207 23 (2, 4, 0, 0, 27) := oki_goto dX9_digOut_23 (by decide +kernel)
theorem t207_26 : e_ok mD207 26 (1, 0, 2, 0, 27) := okl_iload_n dX9_digOut_26 rfl
theorem t207_27 : e_ok mD207 27 (1, 4, 4, 0, 29) := oks_istore dX9_digOut_27 (by decide +kernel)
theorem t207_29 : e_ok mD207 29 (1, 1, 0, 0, 30) := okl_aload_n dX9_digOut_29 rfl
theorem t207_30 : e_ok mD207 30 (7, 0, 14, 0, 33) := And.intro (okw_get dX9_digOut_30 rfl hin_14 (by decide +kernel) (wg2 42 rfl rfl) rfl) (okx_none (by decide +kernel) _)
theorem t207_33 : e_ok mD207 33 (1, 0, 1, 0, 34) := okl_iload_n dX9_digOut_33 rfl
theorem t207_34 : e_ok mD207 34 (1, 1, 0, 0, 35) := okl_aload_n dX9_digOut_34 rfl
theorem t207_35 : e_ok mD207 35 (7, 0, 14, 8, 38) := And.intro (okw_get dX9_digOut_35 rfl hin_14 (by decide +kernel) (wg2 50 rfl rfl) rfl) (okx_none (by decide +kernel) _)
theorem t207_38 : e_ok mD207 38 (7, 0, 5, 5, 41) := And.intro (okw_getN dX9_digOut_38 rfl hin_5 (by decide +kernel) (wn2 24 rfl rfl) rfl) (okx_none (by decide +kernel) _)
theorem t207_41 : e_ok mD207 41 (11, 2, 208, 3, 44) := And.intro (okCallX.M (okx_virtual (Da := mD208) dX9_digOut_41 rfl mwc_208 (wg4 117 rfl rfl) mwn_208 mwv_208 mwi_208 mwd_208)) (fun _ => okx_virtual (Da := mD208) dX9_digOut_41 rfl mwc_208 (wg4 117 rfl rfl) mwn_208 mwv_208 mwi_208 mwd_208)
theorem t207_44 : e_ok mD207 44 (1, 1, 0, 0, 45) := okl_aload_n dX9_digOut_44 rfl
theorem t207_45 : e_ok mD207 45 (7, 0, 14, 8, 48) := And.intro (okw_get dX9_digOut_45 rfl hin_14 (by decide +kernel) (wg2 50 rfl rfl) rfl) (okx_none (by decide +kernel) _)
theorem t207_48 : e_ok mD207 48 (1, 0, 4, 0, 50) := okl_iload dX9_digOut_48
theorem t207_50 : e_ok mD207 50 (1, 0, 2, 0, 51) := okl_iload_n dX9_digOut_50 rfl
theorem t207_51 : e_ok mD207 51 (11, 2, 209, 3, 54) := And.intro (okCallX.M (okx_virtual (Da := mD209) dX9_digOut_51 rfl mwc_209 (wg4 121 rfl rfl) mwn_209 mwv_209 mwi_209 mwd_209)) (fun _ => okx_virtual (Da := mD209) dX9_digOut_51 rfl mwc_209 (wg4 121 rfl rfl) mwn_209 mwv_209 mwi_209 mwd_209)
theorem t207_54 : e_ok mD207 54 (1, 1, 0, 0, 55) := okl_aload_n dX9_digOut_54 rfl
theorem t207_55 : e_ok mD207 55 (7, 0, 14, 8, 58) := And.intro (okw_get dX9_digOut_55 rfl hin_14 (by decide +kernel) (wg2 50 rfl rfl) rfl) (okx_none (by decide +kernel) _)
theorem t207_58 : e_ok mD207 58 (2, 1, 0, 0, 59) := oki_dup dX9_digOut_58
theorem t207_59 : e_ok mD207 59 (7, 0, 5, 6, 62) := And.intro (okw_getN dX9_digOut_59 rfl hin_5 (by decide +kernel) (wn2 25 rfl rfl) rfl) (okx_none (by decide +kernel) _)
theorem t207_62 : e_ok mD207 62 (1, 0, 1, 0, 63) := okl_iload_n dX9_digOut_62 rfl
theorem t207_63 : e_ok mD207 63 (11, 0, 2, 1, 66) := And.intro (okCallX.M (okx_static (Da := mD2) dX9_digOut_63 rfl mwc_2 (wg4 125 rfl rfl) mws_2 mwi_2 mwd_2)) (fun _ => okx_static (Da := mD2) dX9_digOut_63 rfl mwc_2 (wg4 125 rfl rfl) mws_2 mwi_2 mwd_2)
theorem t207_66 : e_ok mD207 66 (15, 5, 0, 0, 67) := okm_i2l dX9_digOut_66
theorem t207_67 : e_ok mD207 67 (15, 1, 0, 0, 68) := okm_lsub dX9_digOut_67
theorem t207_68 : e_ok mD207 68 (9, 3, 5, 6, 71) := okw_putN dX9_digOut_68 rfl hin_5 tyX0_ok nmX0 (by decide +kernel) (wn2 25 rfl rfl) rfl rfl (tyX0_ok 6 (by decide +kernel)) (fun V h => fitV_long h)
theorem t207_71 : e_ok mD207 71 (1, 1, 0, 0, 72) := okl_aload_n dX9_digOut_71 rfl
theorem t207_72 : e_ok mD207 72 (1, 0, 1, 0, 73) := okl_iload_n dX9_digOut_72 rfl
theorem t207_73 : e_ok mD207 73 (1, 0, 4, 0, 75) := okl_iload dX9_digOut_73
theorem t207_75 : e_ok mD207 75 (11, 2, 210, 3, 78) := And.intro (okCallX.M (okx_virtual (Da := mD210) dX9_digOut_75 rfl mwc_210 (wg4 126 rfl rfl) mwn_210 mwv_210 mwi_210 mwd_210)) (fun _ => okx_virtual (Da := mD210) dX9_digOut_75 rfl mwc_210 (wg4 126 rfl rfl) mwn_210 mwv_210 mwi_210 mwd_210)
theorem t207_78 : e_ok mD207 78 (1, 0, 3, 0, 79) := okl_iload_n dX9_digOut_78 rfl
theorem t207_79 : e_ok mD207 79 (5, 2, 101, 0, 82) := okj_lt dX9_digOut_79 (by decide +kernel)
theorem t207_82 : e_ok mD207 82 (1, 1, 0, 0, 83) := okl_aload_n dX9_digOut_82 rfl
theorem t207_83 : e_ok mD207 83 (7, 0, 14, 1, 86) := And.intro (okw_get dX9_digOut_83 rfl hin_14 (by decide +kernel) (wg2 43 rfl rfl) rfl) (okx_none (by decide +kernel) _)
theorem t207_86 : e_ok mD207 86 (11, 2, 63, 1, 89) := And.intro (okCallX.M (okx_virtual (Da := mD63) dX9_digOut_86 rfl mwc_63 (wg3 70 rfl rfl) mwn_63 mwv_63 mwi_63 mwd_63)) (fun _ => okx_virtual (Da := mD63) dX9_digOut_86 rfl mwc_63 (wg3 70 rfl rfl) mwn_63 mwv_63 mwi_63 mwd_63)
theorem t207_89 : e_ok mD207 89 (5, 1, 101, 0, 92) := okj_ne dX9_digOut_89 (by decide +kernel)
theorem t207_92 : e_ok mD207 92 (1, 1, 0, 0, 93) := okl_aload_n dX9_digOut_92 rfl
theorem t207_93 : e_ok mD207 93 (7, 0, 14, 1, 96) := And.intro (okw_get dX9_digOut_93 rfl hin_14 (by decide +kernel) (wg2 43 rfl rfl) rfl) (okx_none (by decide +kernel) _)
theorem t207_96 : e_ok mD207 96 (1, 0, 1, 0, 97) := okl_iload_n dX9_digOut_96 rfl
theorem t207_97 : e_ok mD207 97 (1, 0, 3, 0, 98) := okl_iload_n dX9_digOut_97 rfl
theorem t207_98 : e_ok mD207 98 (11, 2, 61, 3, 101) := And.intro (okCallX.M (okx_virtual (Da := mD61) dX9_digOut_98 rfl mwc_61 (wg3 90 rfl rfl) mwn_61 mwv_61 mwi_61 mwd_61)) (fun _ => okx_virtual (Da := mD61) dX9_digOut_98 rfl mwc_61 (wg3 90 rfl rfl) mwn_61 mwv_61 mwi_61 mwd_61)
theorem t207_101 : e_ok mD207 101 (1, 1, 0, 0, 102) := okl_aload_n dX9_digOut_101 rfl
theorem t207_102 : e_ok mD207 102 (7, 0, 14, 3, 105) := And.intro (okw_get dX9_digOut_102 rfl hin_14 (by decide +kernel) (wg2 45 rfl rfl) rfl) (okx_none (by decide +kernel) _)
theorem t207_105 : e_ok mD207 105 (11, 2, 71, 1, 108) := And.intro (okCallX.M (okx_virtual (Da := mD71) dX9_digOut_105 rfl mwc_71 (wg3 54 rfl rfl) mwn_71 mwv_71 mwi_71 mwd_71)) (fun _ => okx_virtual (Da := mD71) dX9_digOut_105 rfl mwc_71 (wg3 54 rfl rfl) mwn_71 mwv_71 mwi_71 mwd_71)
theorem t207_108 : e_ok mD207 108 (12, 0, 0, 0, 0) := okr_void dX9_digOut_108 rfl
theorem t208_0 : e_ok mD208 0 (1, 0, 1, 0, 1) := okl_iload_n dX1_markDug_0 rfl
theorem t208_1 : e_ok mD208 1 (11, 4, 11, 1, 4) := And.intro (okm_staticN (Da := mD11) dX1_markDug_1 rfl mwc_11 (wn2 126 rfl rfl) mws_11 mwi_11 mwd_11) (fun h => h.elim nofun nofun)
theorem t208_4 : e_ok mD208 4 (5, 0, 34, 0, 7) := okj_eq dX1_markDug_4 (by decide +kernel)
theorem t208_7 : e_ok mD208 7 (1, 1, 0, 0, 8) := okl_aload_n dX1_markDug_7 rfl
theorem t208_8 : e_ok mD208 8 (2, 1, 0, 0, 9) := oki_dup dX1_markDug_8
theorem t208_9 : e_ok mD208 9 (7, 0, 6, 3, 12) := And.intro (okw_get dX1_markDug_9 rfl hin_6 (by decide +kernel) (wg1 61 rfl rfl) rfl) (okx_none (by decide +kernel) _)
theorem t208_12 : e_ok mD208 12 (0, 0, 1, 0, 13) := Or.inl (okc_iconst dX1_markDug_12 (by decide +kernel))
theorem t208_13 : e_ok mD208 13 (3, 0, 0, 0, 14) := okb_iadd dX1_markDug_13
theorem t208_14 : e_ok mD208 14 (9, 0, 6, 3, 17) := okw_put dX1_markDug_14 rfl hin_6 tyX1_ok nmX1 (by decide +kernel) (wg1 61 rfl rfl) rfl rfl (tyX1_ok 3 (by decide +kernel)) (fun V h => fitV_int h)
theorem t208_17 : e_ok mD208 17 (1, 1, 0, 0, 18) := okl_aload_n dX1_markDug_17 rfl
theorem t208_18 : e_ok mD208 18 (7, 0, 6, 1, 21) := And.intro (okw_get dX1_markDug_18 rfl hin_6 (by decide +kernel) (wg1 59 rfl rfl) rfl) (okx_none (by decide +kernel) _)
theorem t208_21 : e_ok mD208 21 (1, 0, 1, 0, 22) := okl_iload_n dX1_markDug_21 rfl
theorem t208_22 : e_ok mD208 22 (1, 1, 0, 0, 23) := okl_aload_n dX1_markDug_22 rfl
theorem t208_23 : e_ok mD208 23 (7, 0, 6, 3, 26) := And.intro (okw_get dX1_markDug_23 rfl hin_6 (by decide +kernel) (wg1 61 rfl rfl) rfl) (okx_none (by decide +kernel) _)
theorem t208_26 : e_ok mD208 26 (10, 0, 0, 0, 27) := oka_sti dX1_markDug_26
theorem t208_27 : e_ok mD208 27 (1, 1, 0, 0, 28) := okl_aload_n dX1_markDug_27 rfl
theorem t208_28 : e_ok mD208 28 (7, 0, 6, 2, 31) := And.intro (okw_get dX1_markDug_28 rfl hin_6 (by decide +kernel) (wg1 60 rfl rfl) rfl) (okx_none (by decide +kernel) _)
theorem t208_31 : e_ok mD208 31 (1, 0, 1, 0, 32) := okl_iload_n dX1_markDug_31 rfl
theorem t208_32 : e_ok mD208 32 (1, 0, 2, 0, 33) := okl_iload_n dX1_markDug_32 rfl
theorem t208_33 : e_ok mD208 33 (10, 0, 0, 0, 34) := oka_sti dX1_markDug_33
theorem t208_34 : e_ok mD208 34 (12, 0, 0, 0, 0) := okr_void dX1_markDug_34 rfl
theorem t209_0 : e_ok mD209 0 (1, 1, 0, 0, 1) := okl_aload_n dX0_noteGrades_0 rfl
theorem t209_1 : e_ok mD209 1 (2, 1, 0, 0, 2) := oki_dup dX0_noteGrades_1
theorem t209_2 : e_ok mD209 2 (7, 0, 5, 3, 5) := And.intro (okw_get dX0_noteGrades_2 rfl hin_5 (by decide +kernel) (wg2 20 rfl rfl) rfl) (okx_none (by decide +kernel) _)
theorem t209_5 : e_ok mD209 5 (1, 0, 1, 0, 6) := okl_iload_n dX0_noteGrades_5 rfl
theorem t209_6 : e_ok mD209 6 (3, 0, 0, 0, 7) := okb_iadd dX0_noteGrades_6
theorem t209_7 : e_ok mD209 7 (9, 0, 5, 3, 10) := okw_put dX0_noteGrades_7 rfl hin_5 tyX0_ok nmX0 (by decide +kernel) (wg2 20 rfl rfl) rfl rfl (tyX0_ok 3 (by decide +kernel)) (fun V h => fitV_int h)
theorem t209_10 : e_ok mD209 10 (1, 1, 0, 0, 11) := okl_aload_n dX0_noteGrades_10 rfl
theorem t209_11 : e_ok mD209 11 (2, 1, 0, 0, 12) := oki_dup dX0_noteGrades_11
theorem t209_12 : e_ok mD209 12 (7, 0, 5, 4, 15) := And.intro (okw_get dX0_noteGrades_12 rfl hin_5 (by decide +kernel) (wg2 22 rfl rfl) rfl) (okx_none (by decide +kernel) _)
theorem t209_15 : e_ok mD209 15 (1, 0, 2, 0, 16) := okl_iload_n dX0_noteGrades_15 rfl
theorem t209_16 : e_ok mD209 16 (3, 0, 0, 0, 17) := okb_iadd dX0_noteGrades_16
theorem t209_17 : e_ok mD209 17 (9, 0, 5, 4, 20) := okw_put dX0_noteGrades_17 rfl hin_5 tyX0_ok nmX0 (by decide +kernel) (wg2 22 rfl rfl) rfl rfl (tyX0_ok 4 (by decide +kernel)) (fun V h => fitV_int h)
theorem t209_20 : e_ok mD209 20 (12, 0, 0, 0, 0) := okr_void dX0_noteGrades_20 rfl
theorem t210_0 : e_ok mD210 0 (1, 0, 2, 0, 1) := okl_iload_n dX9_haul_0 rfl
theorem t210_1 : e_ok mD210 1 (1, 1, 0, 0, 2) := okl_aload_n dX9_haul_1 rfl
theorem t210_2 : e_ok mD210 2 (7, 0, 14, 4, 5) := And.intro (okw_get dX9_haul_2 rfl hin_14 (by decide +kernel) (wg2 46 rfl rfl) rfl) (okx_none (by decide +kernel) _)
theorem t210_5 : e_ok mD210 5 (0, 0, 99, 0, 7) := Or.inl (okc_bipush dX9_haul_5 (by decide +kernel))
theorem t210_7 : e_ok mD210 7 (11, 2, 57, 2, 10) := And.intro (okCallX.M (okx_virtual (Da := mD57) dX9_haul_7 rfl mwc_57 (wg4 74 rfl rfl) mwn_57 mwv_57 mwi_57 mwd_57)) (fun _ => okx_virtual (Da := mD57) dX9_haul_7 rfl mwc_57 (wg4 74 rfl rfl) mwn_57 mwv_57 mwi_57 mwd_57)
theorem t210_10 : e_ok mD210 10 (6, 2, 53, 0, 13) := okk_lt dX9_haul_10 (by decide +kernel)
theorem t210_13 : e_ok mD210 13 (1, 1, 0, 0, 14) := okl_aload_n dX9_haul_13 rfl
theorem t210_14 : e_ok mD210 14 (7, 0, 14, 6, 17) := And.intro (okw_get dX9_haul_14 rfl hin_14 (by decide +kernel) (wg2 48 rfl rfl) rfl) (okx_none (by decide +kernel) _)
theorem t210_17 : e_ok mD210 17 (7, 0, 12, 1, 20) := And.intro (okw_getN dX9_haul_17 rfl hin_12 (by decide +kernel) (wn1 208 rfl rfl) rfl) (okx_none (by decide +kernel) _)
theorem t210_20 : e_ok mD210 20 (1, 1, 0, 0, 21) := okl_aload_n dX9_haul_20 rfl
theorem t210_21 : e_ok mD210 21 (7, 0, 14, 4, 24) := And.intro (okw_get dX9_haul_21 rfl hin_14 (by decide +kernel) (wg2 46 rfl rfl) rfl) (okx_none (by decide +kernel) _)
theorem t210_24 : e_ok mD210 24 (0, 0, 112, 0, 26) := Or.inl (okc_bipush dX9_haul_24 (by decide +kernel))
theorem t210_26 : e_ok mD210 26 (11, 2, 57, 2, 29) := And.intro (okCallX.M (okx_virtual (Da := mD57) dX9_haul_26 rfl mwc_57 (wg4 74 rfl rfl) mwn_57 mwv_57 mwi_57 mwd_57)) (fun _ => okx_virtual (Da := mD57) dX9_haul_26 rfl mwc_57 (wg4 74 rfl rfl) mwn_57 mwv_57 mwi_57 mwd_57)
theorem t210_29 : e_ok mD210 29 (6, 3, 53, 0, 32) := okk_ge dX9_haul_29 (by decide +kernel)
theorem t210_32 : e_ok mD210 32 (1, 1, 0, 0, 33) := okl_aload_n dX9_haul_32 rfl
theorem t210_33 : e_ok mD210 33 (7, 0, 14, 6, 36) := And.intro (okw_get dX9_haul_33 rfl hin_14 (by decide +kernel) (wg2 48 rfl rfl) rfl) (okx_none (by decide +kernel) _)
theorem t210_36 : e_ok mD210 36 (1, 0, 2, 0, 37) := okl_iload_n dX9_haul_36 rfl
theorem t210_37 : e_ok mD210 37 (11, 2, 211, 2, 40) := And.intro (okCallX.M (okx_virtual (Da := mD211) dX9_haul_37 rfl mwc_211 (wg4 130 rfl rfl) mwn_211 mwv_211 mwi_211 mwd_211)) (fun _ => okx_virtual (Da := mD211) dX9_haul_37 rfl mwc_211 (wg4 130 rfl rfl) mwn_211 mwv_211 mwi_211 mwd_211)
theorem t210_40 : e_ok mD210 40 (1, 1, 0, 0, 41) := okl_aload_n dX9_haul_40 rfl
theorem t210_41 : e_ok mD210 41 (7, 0, 14, 8, 44) := And.intro (okw_get dX9_haul_41 rfl hin_14 (by decide +kernel) (wg2 50 rfl rfl) rfl) (okx_none (by decide +kernel) _)
theorem t210_44 : e_ok mD210 44 (1, 0, 1, 0, 45) := okl_iload_n dX9_haul_44 rfl
theorem t210_45 : e_ok mD210 45 (0, 0, 112, 0, 47) := Or.inl (okc_bipush dX9_haul_45 (by decide +kernel))
theorem t210_47 : e_ok mD210 47 (11, 2, 212, 3, 50) := And.intro (okCallX.M (okx_virtual (Da := mD212) dX9_haul_47 rfl mwc_212 (wg4 134 rfl rfl) mwn_212 mwv_212 mwi_212 mwd_212)) (fun _ => okx_virtual (Da := mD212) dX9_haul_47 rfl mwc_212 (wg4 134 rfl rfl) mwn_212 mwv_212 mwi_212 mwd_212)
theorem t210_50 : e_ok mD210 50 (2, 4, 0, 0, 110) := oki_goto dX9_haul_50 (by decide +kernel)
theorem t210_53 : e_ok mD210 53 (1, 0, 2, 0, 54) := okl_iload_n dX9_haul_53 rfl
theorem t210_54 : e_ok mD210 54 (1, 1, 0, 0, 55) := okl_aload_n dX9_haul_54 rfl
theorem t210_55 : e_ok mD210 55 (7, 0, 14, 4, 58) := And.intro (okw_get dX9_haul_55 rfl hin_14 (by decide +kernel) (wg2 46 rfl rfl) rfl) (okx_none (by decide +kernel) _)
theorem t210_58 : e_ok mD210 58 (0, 0, 108, 0, 60) := Or.inl (okc_bipush dX9_haul_58 (by decide +kernel))
theorem t210_60 : e_ok mD210 60 (11, 2, 57, 2, 63) := And.intro (okCallX.M (okx_virtual (Da := mD57) dX9_haul_60 rfl mwc_57 (wg4 74 rfl rfl) mwn_57 mwv_57 mwi_57 mwd_57)) (fun _ => okx_virtual (Da := mD57) dX9_haul_60 rfl mwc_57 (wg4 74 rfl rfl) mwn_57 mwv_57 mwi_57 mwd_57)
theorem t210_63 : e_ok mD210 63 (6, 2, 87, 0, 66) := okk_lt dX9_haul_63 (by decide +kernel)
theorem t210_66 : e_ok mD210 66 (1, 1, 0, 0, 67) := okl_aload_n dX9_haul_66 rfl
theorem t210_67 : e_ok mD210 67 (7, 0, 14, 5, 70) := And.intro (okw_get dX9_haul_67 rfl hin_14 (by decide +kernel) (wg2 47 rfl rfl) rfl) (okx_none (by decide +kernel) _)
theorem t210_70 : e_ok mD210 70 (1, 0, 2, 0, 71) := okl_iload_n dX9_haul_70 rfl
theorem t210_71 : e_ok mD210 71 (11, 2, 213, 2, 74) := And.intro (okCallX.M (okx_virtual (Da := mD213) dX9_haul_71 rfl mwc_213 (wg4 138 rfl rfl) mwn_213 mwv_213 mwi_213 mwd_213)) (fun _ => okx_virtual (Da := mD213) dX9_haul_71 rfl mwc_213 (wg4 138 rfl rfl) mwn_213 mwv_213 mwi_213 mwd_213)
theorem t210_74 : e_ok mD210 74 (1, 1, 0, 0, 75) := okl_aload_n dX9_haul_74 rfl
theorem t210_75 : e_ok mD210 75 (7, 0, 14, 8, 78) := And.intro (okw_get dX9_haul_75 rfl hin_14 (by decide +kernel) (wg2 50 rfl rfl) rfl) (okx_none (by decide +kernel) _)
theorem t210_78 : e_ok mD210 78 (1, 0, 1, 0, 79) := okl_iload_n dX9_haul_78 rfl
theorem t210_79 : e_ok mD210 79 (0, 0, 115, 0, 81) := Or.inl (okc_bipush dX9_haul_79 (by decide +kernel))
theorem t210_81 : e_ok mD210 81 (11, 2, 212, 3, 84) := And.intro (okCallX.M (okx_virtual (Da := mD212) dX9_haul_81 rfl mwc_212 (wg4 134 rfl rfl) mwn_212 mwv_212 mwi_212 mwd_212)) (fun _ => okx_virtual (Da := mD212) dX9_haul_81 rfl mwc_212 (wg4 134 rfl rfl) mwn_212 mwv_212 mwi_212 mwd_212)
theorem t210_84 : e_ok mD210 84 (2, 4, 0, 0, 110) := oki_goto dX9_haul_84 (by decide +kernel)
theorem t210_87 : e_ok mD210 87 (1, 1, 0, 0, 88) := okl_aload_n dX9_haul_87 rfl
theorem t210_88 : e_ok mD210 88 (7, 0, 14, 8, 91) := And.intro (okw_get dX9_haul_88 rfl hin_14 (by decide +kernel) (wg2 50 rfl rfl) rfl) (okx_none (by decide +kernel) _)
theorem t210_91 : e_ok mD210 91 (2, 1, 0, 0, 92) := oki_dup dX9_haul_91
theorem t210_92 : e_ok mD210 92 (7, 0, 5, 2, 95) := And.intro (okw_getN dX9_haul_92 rfl hin_5 (by decide +kernel) (wn2 19 rfl rfl) rfl) (okx_none (by decide +kernel) _)
theorem t210_95 : e_ok mD210 95 (0, 0, 1, 0, 96) := Or.inl (okc_iconst dX9_haul_95 (by decide +kernel))
theorem t210_96 : e_ok mD210 96 (3, 0, 0, 0, 97) := okb_iadd dX9_haul_96
theorem t210_97 : e_ok mD210 97 (9, 0, 5, 2, 100) := okw_putN dX9_haul_97 rfl hin_5 tyX0_ok nmX0 (by decide +kernel) (wn2 19 rfl rfl) rfl rfl (tyX0_ok 2 (by decide +kernel)) (fun V h => fitV_int h)
theorem t210_100 : e_ok mD210 100 (1, 1, 0, 0, 101) := okl_aload_n dX9_haul_100 rfl
theorem t210_101 : e_ok mD210 101 (7, 0, 14, 8, 104) := And.intro (okw_get dX9_haul_101 rfl hin_14 (by decide +kernel) (wg2 50 rfl rfl) rfl) (okx_none (by decide +kernel) _)
theorem t210_104 : e_ok mD210 104 (1, 0, 1, 0, 105) := okl_iload_n dX9_haul_104 rfl
theorem t210_105 : e_ok mD210 105 (0, 0, 100, 0, 107) := Or.inl (okc_bipush dX9_haul_105 (by decide +kernel))
theorem t210_107 : e_ok mD210 107 (11, 2, 212, 3, 110) := And.intro (okCallX.M (okx_virtual (Da := mD212) dX9_haul_107 rfl mwc_212 (wg4 134 rfl rfl) mwn_212 mwv_212 mwi_212 mwd_212)) (fun _ => okx_virtual (Da := mD212) dX9_haul_107 rfl mwc_212 (wg4 134 rfl rfl) mwn_212 mwv_212 mwi_212 mwd_212)
theorem t210_110 : e_ok mD210 110 (12, 0, 0, 0, 0) := okr_void dX9_haul_110 rfl
theorem t211_0 : e_ok mD211 0 (1, 1, 0, 0, 1) := okl_aload_n dX7_feed_0 rfl
theorem t211_1 : e_ok mD211 1 (7, 0, 12, 1, 4) := And.intro (okw_get dX7_feed_1 rfl hin_12 (by decide +kernel) (wg1 207 rfl rfl) rfl) (okx_none (by decide +kernel) _)
theorem t211_4 : e_ok mD211 4 (5, 2, 66, 0, 7) := okj_lt dX7_feed_4 (by decide +kernel)
theorem t211_7 : e_ok mD211 7 (1, 1, 0, 0, 8) := okl_aload_n dX7_feed_7 rfl
theorem t211_8 : e_ok mD211 8 (7, 0, 12, 1, 11) := And.intro (okw_get dX7_feed_8 rfl hin_12 (by decide +kernel) (wg1 207 rfl rfl) rfl) (okx_none (by decide +kernel) _)
theorem t211_11 : e_ok mD211 11 (0, 0, 10, 0, 13) := Or.inl (okc_bipush dX7_feed_11 (by decide +kernel))
theorem t211_13 : e_ok mD211 13 (6, 3, 66, 0, 16) := okk_ge dX7_feed_13 (by decide +kernel)
theorem t211_16 : e_ok mD211 16 (1, 1, 0, 0, 17) := okl_aload_n dX7_feed_16 rfl
theorem t211_17 : e_ok mD211 17 (7, 0, 12, 0, 20) := And.intro (okw_get dX7_feed_17 rfl hin_12 (by decide +kernel) (wg1 206 rfl rfl) rfl) (okx_none (by decide +kernel) _)
theorem t211_20 : e_ok mD211 20 (1, 1, 0, 0, 21) := okl_aload_n dX7_feed_20 rfl
theorem t211_21 : e_ok mD211 21 (7, 0, 12, 1, 24) := And.intro (okw_get dX7_feed_21 rfl hin_12 (by decide +kernel) (wg1 207 rfl rfl) rfl) (okx_none (by decide +kernel) _)
theorem t211_24 : e_ok mD211 24 (1, 0, 1, 0, 25) := okl_iload_n dX7_feed_24 rfl
theorem t211_25 : e_ok mD211 25 (10, 0, 0, 0, 26) := oka_sti dX7_feed_25
theorem t211_26 : e_ok mD211 26 (1, 1, 0, 0, 27) := okl_aload_n dX7_feed_26 rfl
theorem t211_27 : e_ok mD211 27 (2, 1, 0, 0, 28) := oki_dup dX7_feed_27
theorem t211_28 : e_ok mD211 28 (7, 0, 12, 1, 31) := And.intro (okw_get dX7_feed_28 rfl hin_12 (by decide +kernel) (wg1 207 rfl rfl) rfl) (okx_none (by decide +kernel) _)
theorem t211_31 : e_ok mD211 31 (0, 0, 1, 0, 32) := Or.inl (okc_iconst dX7_feed_31 (by decide +kernel))
theorem t211_32 : e_ok mD211 32 (3, 0, 0, 0, 33) := okb_iadd dX7_feed_32
theorem t211_33 : e_ok mD211 33 (9, 0, 12, 1, 36) := okw_put dX7_feed_33 rfl hin_12 tyX7_ok nmX7 (by decide +kernel) (wg1 207 rfl rfl) rfl rfl (tyX7_ok 1 (by decide +kernel)) (fun V h => fitV_int h)
theorem t211_36 : e_ok mD211 36 (1, 1, 0, 0, 37) := okl_aload_n dX7_feed_36 rfl
theorem t211_37 : e_ok mD211 37 (2, 1, 0, 0, 38) := oki_dup dX7_feed_37
theorem t211_38 : e_ok mD211 38 (7, 0, 12, 2, 41) := And.intro (okw_get dX7_feed_38 rfl hin_12 (by decide +kernel) (wg1 209 rfl rfl) rfl) (okx_none (by decide +kernel) _)
theorem t211_41 : e_ok mD211 41 (1, 0, 1, 0, 42) := okl_iload_n dX7_feed_41 rfl
theorem t211_42 : e_ok mD211 42 (3, 0, 0, 0, 43) := okb_iadd dX7_feed_42
theorem t211_43 : e_ok mD211 43 (9, 0, 12, 2, 46) := okw_put dX7_feed_43 rfl hin_12 tyX7_ok nmX7 (by decide +kernel) (wg1 209 rfl rfl) rfl rfl (tyX7_ok 2 (by decide +kernel)) (fun V h => fitV_int h)
theorem t211_46 : e_ok mD211 46 (1, 1, 0, 0, 47) := okl_aload_n dX7_feed_46 rfl
theorem t211_47 : e_ok mD211 47 (2, 1, 0, 0, 48) := oki_dup dX7_feed_47
theorem t211_48 : e_ok mD211 48 (7, 0, 12, 3, 51) := And.intro (okw_get dX7_feed_48 rfl hin_12 (by decide +kernel) (wg1 210 rfl rfl) rfl) (okx_none (by decide +kernel) _)
theorem t211_51 : e_ok mD211 51 (0, 0, 1, 0, 52) := Or.inl (okc_iconst dX7_feed_51 (by decide +kernel))
theorem t211_52 : e_ok mD211 52 (3, 0, 0, 0, 53) := okb_iadd dX7_feed_52
theorem t211_53 : e_ok mD211 53 (9, 0, 12, 3, 56) := okw_put dX7_feed_53 rfl hin_12 tyX7_ok nmX7 (by decide +kernel) (wg1 210 rfl rfl) rfl rfl (tyX7_ok 3 (by decide +kernel)) (fun V h => fitV_int h)
theorem t211_56 : e_ok mD211 56 (1, 1, 0, 0, 57) := okl_aload_n dX7_feed_56 rfl
theorem t211_57 : e_ok mD211 57 (2, 1, 0, 0, 58) := oki_dup dX7_feed_57
theorem t211_58 : e_ok mD211 58 (7, 0, 12, 4, 61) := And.intro (okw_get dX7_feed_58 rfl hin_12 (by decide +kernel) (wg1 212 rfl rfl) rfl) (okx_none (by decide +kernel) _)
theorem t211_61 : e_ok mD211 61 (1, 0, 1, 0, 62) := okl_iload_n dX7_feed_61 rfl
theorem t211_62 : e_ok mD211 62 (3, 0, 0, 0, 63) := okb_iadd dX7_feed_62
theorem t211_63 : e_ok mD211 63 (9, 0, 12, 4, 66) := okw_put dX7_feed_63 rfl hin_12 tyX7_ok nmX7 (by decide +kernel) (wg1 212 rfl rfl) rfl rfl (tyX7_ok 4 (by decide +kernel)) (fun V h => fitV_int h)
theorem t211_66 : e_ok mD211 66 (12, 0, 0, 0, 0) := okr_void dX7_feed_66 rfl
theorem t212_0 : e_ok mD212 0 (1, 0, 1, 0, 1) := okl_iload_n dX0_notePlace_0 rfl
theorem t212_1 : e_ok mD212 1 (11, 4, 11, 1, 4) := And.intro (okm_staticN (Da := mD11) dX0_notePlace_1 rfl mwc_11 (wn3 121 rfl rfl) mws_11 mwi_11 mwd_11) (fun h => h.elim nofun nofun)
theorem t212_4 : e_ok mD212 4 (5, 0, 14, 0, 7) := okj_eq dX0_notePlace_4 (by decide +kernel)
theorem t212_7 : e_ok mD212 7 (1, 1, 0, 0, 8) := okl_aload_n dX0_notePlace_7 rfl
theorem t212_8 : e_ok mD212 8 (7, 0, 5, 1, 11) := And.intro (okw_get dX0_notePlace_8 rfl hin_5 (by decide +kernel) (wg2 18 rfl rfl) rfl) (okx_none (by decide +kernel) _)
theorem t212_11 : e_ok mD212 11 (1, 0, 1, 0, 12) := okl_iload_n dX0_notePlace_11 rfl
theorem t212_12 : e_ok mD212 12 (1, 0, 2, 0, 13) := okl_iload_n dX0_notePlace_12 rfl
theorem t212_13 : e_ok mD212 13 (10, 2, 0, 0, 14) := oka_stc dX0_notePlace_13
theorem t212_14 : e_ok mD212 14 (12, 0, 0, 0, 0) := okr_void dX0_notePlace_14 rfl
theorem t213_0 : e_ok mD213 0 (1, 1, 0, 0, 1) := okl_aload_n dX5_put_0 rfl
theorem t213_1 : e_ok mD213 1 (7, 0, 10, 2, 4) := And.intro (okw_get dX5_put_1 rfl hin_10 (by decide +kernel) (wg1 179 rfl rfl) rfl) (okx_none (by decide +kernel) _)
theorem t213_4 : e_ok mD213 4 (5, 2, 46, 0, 7) := okj_lt dX5_put_4 (by decide +kernel)
theorem t213_7 : e_ok mD213 7 (1, 1, 0, 0, 8) := okl_aload_n dX5_put_7 rfl
theorem t213_8 : e_ok mD213 8 (7, 0, 10, 2, 11) := And.intro (okw_get dX5_put_8 rfl hin_10 (by decide +kernel) (wg1 179 rfl rfl) rfl) (okx_none (by decide +kernel) _)
theorem t213_11 : e_ok mD213 11 (0, 0, 60, 0, 13) := Or.inl (okc_bipush dX5_put_11 (by decide +kernel))
theorem t213_13 : e_ok mD213 13 (6, 3, 46, 0, 16) := okk_ge dX5_put_13 (by decide +kernel)
theorem t213_16 : e_ok mD213 16 (1, 1, 0, 0, 17) := okl_aload_n dX5_put_16 rfl
theorem t213_17 : e_ok mD213 17 (7, 0, 10, 0, 20) := And.intro (okw_get dX5_put_17 rfl hin_10 (by decide +kernel) (wg1 177 rfl rfl) rfl) (okx_none (by decide +kernel) _)
theorem t213_20 : e_ok mD213 20 (1, 1, 0, 0, 21) := okl_aload_n dX5_put_20 rfl
theorem t213_21 : e_ok mD213 21 (7, 0, 10, 2, 24) := And.intro (okw_get dX5_put_21 rfl hin_10 (by decide +kernel) (wg1 179 rfl rfl) rfl) (okx_none (by decide +kernel) _)
theorem t213_24 : e_ok mD213 24 (1, 0, 1, 0, 25) := okl_iload_n dX5_put_24 rfl
theorem t213_25 : e_ok mD213 25 (10, 0, 0, 0, 26) := oka_sti dX5_put_25
theorem t213_26 : e_ok mD213 26 (1, 1, 0, 0, 27) := okl_aload_n dX5_put_26 rfl
theorem t213_27 : e_ok mD213 27 (2, 1, 0, 0, 28) := oki_dup dX5_put_27
theorem t213_28 : e_ok mD213 28 (7, 0, 10, 3, 31) := And.intro (okw_get dX5_put_28 rfl hin_10 (by decide +kernel) (wg1 180 rfl rfl) rfl) (okx_none (by decide +kernel) _)
theorem t213_31 : e_ok mD213 31 (1, 0, 1, 0, 32) := okl_iload_n dX5_put_31 rfl
theorem t213_32 : e_ok mD213 32 (3, 0, 0, 0, 33) := okb_iadd dX5_put_32
theorem t213_33 : e_ok mD213 33 (9, 0, 10, 3, 36) := okw_put dX5_put_33 rfl hin_10 tyX5_ok nmX5 (by decide +kernel) (wg1 180 rfl rfl) rfl rfl (tyX5_ok 3 (by decide +kernel)) (fun V h => fitV_int h)
theorem t213_36 : e_ok mD213 36 (1, 1, 0, 0, 37) := okl_aload_n dX5_put_36 rfl
theorem t213_37 : e_ok mD213 37 (2, 1, 0, 0, 38) := oki_dup dX5_put_37
theorem t213_38 : e_ok mD213 38 (7, 0, 10, 2, 41) := And.intro (okw_get dX5_put_38 rfl hin_10 (by decide +kernel) (wg1 179 rfl rfl) rfl) (okx_none (by decide +kernel) _)
theorem t213_41 : e_ok mD213 41 (0, 0, 1, 0, 42) := Or.inl (okc_iconst dX5_put_41 (by decide +kernel))
theorem t213_42 : e_ok mD213 42 (3, 0, 0, 0, 43) := okb_iadd dX5_put_42
theorem t213_43 : e_ok mD213 43 (9, 0, 10, 2, 46) := okw_put dX5_put_43 rfl hin_10 tyX5_ok nmX5 (by decide +kernel) (wg1 179 rfl rfl) rfl rfl (tyX5_ok 2 (by decide +kernel)) (fun V h => fitV_int h)
theorem t213_46 : e_ok mD213 46 (12, 0, 0, 0, 0) := okr_void dX5_put_46 rfl
theorem t214_0 : e_ok mD214 0 (1, 1, 0, 0, 1) := okl_aload_n dX5_give_0 rfl
theorem t214_1 : e_ok mD214 1 (7, 0, 10, 6, 4) := And.intro (okw_get dX5_give_1 rfl hin_10 (by decide +kernel) (wg1 183 rfl rfl) rfl) (okx_none (by decide +kernel) _)
theorem t214_4 : e_ok mD214 4 (5, 0, 11, 0, 7) := okj_eq dX5_give_4 (by decide +kernel)
theorem t214_7 : e_ok mD214 7 (1, 1, 0, 0, 8) := okl_aload_n dX5_give_7 rfl
theorem t214_8 : e_ok mD214 8 (11, 2, 215, 1, 11) := And.intro (okCallX.M (okx_virtual (Da := mD215) dX5_give_8 rfl mwc_215 (wg4 150 rfl rfl) mwn_215 mwv_215 mwi_215 mwd_215)) (fun _ => okx_virtual (Da := mD215) dX5_give_8 rfl mwc_215 (wg4 150 rfl rfl) mwn_215 mwv_215 mwi_215 mwd_215)
theorem t214_11 : e_ok mD214 11 (1, 1, 0, 0, 12) := okl_aload_n dX5_give_11 rfl
theorem t214_12 : e_ok mD214 12 (7, 0, 10, 4, 15) := And.intro (okw_get dX5_give_12 rfl hin_10 (by decide +kernel) (wg1 181 rfl rfl) rfl) (okx_none (by decide +kernel) _)
theorem t214_15 : e_ok mD214 15 (5, 5, 25, 0, 18) := okj_le dX5_give_15 (by decide +kernel)
theorem t214_18 : e_ok mD214 18 (1, 1, 0, 0, 19) := okl_aload_n dX5_give_18 rfl
theorem t214_19 : e_ok mD214 19 (11, 2, 216, 1, 22) := And.intro (okCallX.M (okx_virtual (Da := mD216) dX5_give_19 rfl mwc_216 (wg4 156 rfl rfl) mwn_216 mwv_216 mwi_216 mwd_216)) (fun _ => okx_virtual (Da := mD216) dX5_give_19 rfl mwc_216 (wg4 156 rfl rfl) mwn_216 mwv_216 mwi_216 mwd_216)
theorem t214_22 : e_ok mD214 22 (2, 4, 0, 0, 29) := oki_goto dX5_give_22 (by decide +kernel)
theorem t214_25 : e_ok mD214 25 (1, 1, 0, 0, 26) := okl_aload_n dX5_give_25 rfl
theorem t214_26 : e_ok mD214 26 (11, 2, 217, 1, 29) := And.intro (okCallX.M (okx_virtual (Da := mD217) dX5_give_26 rfl mwc_217 (wg4 160 rfl rfl) mwn_217 mwv_217 mwi_217 mwd_217)) (fun _ => okx_virtual (Da := mD217) dX5_give_26 rfl mwc_217 (wg4 160 rfl rfl) mwn_217 mwv_217 mwi_217 mwd_217)
theorem t214_29 : e_ok mD214 29 (12, 1, 0, 0, 0) := okr_int dX5_give_29 rfl
theorem t215_0 : e_ok mD215 0 (1, 1, 0, 0, 1) := okl_aload_n dX5_heapUp_0 rfl
theorem t215_1 : e_ok mD215 1 (1, 1, 0, 0, 2) := okl_aload_n dX5_heapUp_1 rfl
theorem t215_2 : e_ok mD215 2 (11, 2, 77, 1, 5) := And.intro (okCallX.M (okx_virtual (Da := mD77) dX5_heapUp_2 rfl mwc_77 (wg4 154 rfl rfl) mwn_77 mwv_77 mwi_77 mwd_77)) (fun _ => okx_virtual (Da := mD77) dX5_heapUp_2 rfl mwc_77 (wg4 154 rfl rfl) mwn_77 mwv_77 mwi_77 mwd_77)
theorem t215_5 : e_ok mD215 5 (9, 0, 10, 4, 8) := okw_put dX5_heapUp_5 rfl hin_10 tyX5_ok nmX5 (by decide +kernel) (wg1 181 rfl rfl) rfl rfl (tyX5_ok 4 (by decide +kernel)) (fun V h => fitV_int h)
theorem t215_8 : e_ok mD215 8 (1, 1, 0, 0, 9) := okl_aload_n dX5_heapUp_8 rfl
theorem t215_9 : e_ok mD215 9 (1, 1, 0, 0, 10) := okl_aload_n dX5_heapUp_9 rfl
theorem t215_10 : e_ok mD215 10 (11, 2, 78, 1, 13) := And.intro (okCallX.M (okx_virtual (Da := mD78) dX5_heapUp_10 rfl mwc_78 (wg4 155 rfl rfl) mwn_78 mwv_78 mwi_78 mwd_78)) (fun _ => okx_virtual (Da := mD78) dX5_heapUp_10 rfl mwc_78 (wg4 155 rfl rfl) mwn_78 mwv_78 mwi_78 mwd_78)
theorem t215_13 : e_ok mD215 13 (9, 0, 10, 5, 16) := okw_put dX5_heapUp_13 rfl hin_10 tyX5_ok nmX5 (by decide +kernel) (wg1 182 rfl rfl) rfl rfl (tyX5_ok 5 (by decide +kernel)) (fun V h => fitV_int h)
theorem t215_16 : e_ok mD215 16 (1, 1, 0, 0, 17) := okl_aload_n dX5_heapUp_16 rfl
theorem t215_17 : e_ok mD215 17 (1, 1, 0, 0, 18) := okl_aload_n dX5_heapUp_17 rfl
theorem t215_18 : e_ok mD215 18 (7, 0, 10, 2, 21) := And.intro (okw_get dX5_heapUp_18 rfl hin_10 (by decide +kernel) (wg1 179 rfl rfl) rfl) (okx_none (by decide +kernel) _)
theorem t215_21 : e_ok mD215 21 (9, 0, 10, 1, 24) := okw_put dX5_heapUp_21 rfl hin_10 tyX5_ok nmX5 (by decide +kernel) (wg1 178 rfl rfl) rfl rfl (tyX5_ok 1 (by decide +kernel)) (fun V h => fitV_int h)
theorem t215_24 : e_ok mD215 24 (1, 1, 0, 0, 25) := okl_aload_n dX5_heapUp_24 rfl
theorem t215_25 : e_ok mD215 25 (0, 0, 0, 0, 26) := Or.inl (okc_iconst dX5_heapUp_25 (by decide +kernel))
theorem t215_26 : e_ok mD215 26 (9, 0, 10, 3, 29) := okw_put dX5_heapUp_26 rfl hin_10 tyX5_ok nmX5 (by decide +kernel) (wg1 180 rfl rfl) rfl rfl (tyX5_ok 3 (by decide +kernel)) (fun V h => fitV_int h)
theorem t215_29 : e_ok mD215 29 (12, 0, 0, 0, 0) := okr_void dX5_heapUp_29 rfl
theorem t216_0 : e_ok mD216 0 (1, 1, 0, 0, 1) := okl_aload_n dX5_giveOfHeap_0 rfl
theorem t216_1 : e_ok mD216 1 (7, 0, 10, 4, 4) := And.intro (okw_get dX5_giveOfHeap_1 rfl hin_10 (by decide +kernel) (wg1 181 rfl rfl) rfl) (okx_none (by decide +kernel) _)
theorem t216_4 : e_ok mD216 4 (5, 5, 19, 0, 7) := okj_le dX5_giveOfHeap_4 (by decide +kernel)
theorem t216_7 : e_ok mD216 7 (1, 1, 0, 0, 8) := okl_aload_n dX5_giveOfHeap_7 rfl
theorem t216_8 : e_ok mD216 8 (7, 0, 10, 5, 11) := And.intro (okw_get dX5_giveOfHeap_8 rfl hin_10 (by decide +kernel) (wg1 182 rfl rfl) rfl) (okx_none (by decide +kernel) _)
theorem t216_11 : e_ok mD216 11 (1, 1, 0, 0, 12) := okl_aload_n dX5_giveOfHeap_11 rfl
theorem t216_12 : e_ok mD216 12 (7, 0, 10, 4, 15) := And.intro (okw_get dX5_giveOfHeap_12 rfl hin_10 (by decide +kernel) (wg1 181 rfl rfl) rfl) (okx_none (by decide +kernel) _)
theorem t216_15 : e_ok mD216 15 (3, 3, 0, 0, 16) := okb_idiv dX5_giveOfHeap_15
theorem t216_16 : e_ok mD216 16 (2, 4, 0, 0, 20) := oki_goto dX5_giveOfHeap_16 (by decide +kernel)
theorem t216_19 : e_ok mD216 19 (0, 0, 0, 0, 20) := Or.inl (okc_iconst dX5_giveOfHeap_19 (by decide +kernel))
theorem t216_20 : e_ok mD216 20 (1, 4, 1, 0, 21) := oks_istore_n dX5_giveOfHeap_20 rfl (by decide +kernel)
theorem t216_21 : e_ok mD216 21 (1, 1, 0, 0, 22) := okl_aload_n dX5_giveOfHeap_21 rfl
theorem t216_22 : e_ok mD216 22 (2, 1, 0, 0, 23) := oki_dup dX5_giveOfHeap_22
theorem t216_23 : e_ok mD216 23 (7, 0, 10, 4, 26) := And.intro (okw_get dX5_giveOfHeap_23 rfl hin_10 (by decide +kernel) (wg1 181 rfl rfl) rfl) (okx_none (by decide +kernel) _)
theorem t216_26 : e_ok mD216 26 (0, 0, 1, 0, 27) := Or.inl (okc_iconst dX5_giveOfHeap_26 (by decide +kernel))
theorem t216_27 : e_ok mD216 27 (3, 1, 0, 0, 28) := okb_isub dX5_giveOfHeap_27
theorem t216_28 : e_ok mD216 28 (9, 0, 10, 4, 31) := okw_put dX5_giveOfHeap_28 rfl hin_10 tyX5_ok nmX5 (by decide +kernel) (wg1 181 rfl rfl) rfl rfl (tyX5_ok 4 (by decide +kernel)) (fun V h => fitV_int h)
theorem t216_31 : e_ok mD216 31 (1, 1, 0, 0, 32) := okl_aload_n dX5_giveOfHeap_31 rfl
theorem t216_32 : e_ok mD216 32 (2, 1, 0, 0, 33) := oki_dup dX5_giveOfHeap_32
theorem t216_33 : e_ok mD216 33 (7, 0, 10, 5, 36) := And.intro (okw_get dX5_giveOfHeap_33 rfl hin_10 (by decide +kernel) (wg1 182 rfl rfl) rfl) (okx_none (by decide +kernel) _)
theorem t216_36 : e_ok mD216 36 (1, 0, 1, 0, 37) := okl_iload_n dX5_giveOfHeap_36 rfl
theorem t216_37 : e_ok mD216 37 (3, 1, 0, 0, 38) := okb_isub dX5_giveOfHeap_37
theorem t216_38 : e_ok mD216 38 (9, 0, 10, 5, 41) := okw_put dX5_giveOfHeap_38 rfl hin_10 tyX5_ok nmX5 (by decide +kernel) (wg1 182 rfl rfl) rfl rfl (tyX5_ok 5 (by decide +kernel)) (fun V h => fitV_int h)
theorem t216_41 : e_ok mD216 41 (1, 0, 1, 0, 42) := okl_iload_n dX5_giveOfHeap_41 rfl
theorem t216_42 : e_ok mD216 42 (12, 1, 0, 0, 0) := okr_int dX5_giveOfHeap_42 rfl
theorem t217_0 : e_ok mD217 0 (1, 1, 0, 0, 1) := okl_aload_n dX5_giveLayer_0 rfl
theorem t217_1 : e_ok mD217 1 (7, 0, 10, 1, 4) := And.intro (okw_get dX5_giveLayer_1 rfl hin_10 (by decide +kernel) (wg1 178 rfl rfl) rfl) (okx_none (by decide +kernel) _)
theorem t217_4 : e_ok mD217 4 (5, 2, 27, 0, 7) := okj_lt dX5_giveLayer_4 (by decide +kernel)
theorem t217_7 : e_ok mD217 7 (1, 1, 0, 0, 8) := okl_aload_n dX5_giveLayer_7 rfl
theorem t217_8 : e_ok mD217 8 (7, 0, 10, 1, 11) := And.intro (okw_get dX5_giveLayer_8 rfl hin_10 (by decide +kernel) (wg1 178 rfl rfl) rfl) (okx_none (by decide +kernel) _)
theorem t217_11 : e_ok mD217 11 (1, 1, 0, 0, 12) := okl_aload_n dX5_giveLayer_11 rfl
theorem t217_12 : e_ok mD217 12 (7, 0, 10, 2, 15) := And.intro (okw_get dX5_giveLayer_12 rfl hin_10 (by decide +kernel) (wg1 179 rfl rfl) rfl) (okx_none (by decide +kernel) _)
theorem t217_15 : e_ok mD217 15 (6, 3, 27, 0, 18) := okk_ge dX5_giveLayer_15 (by decide +kernel)
theorem t217_18 : e_ok mD217 18 (1, 1, 0, 0, 19) := okl_aload_n dX5_giveLayer_18 rfl
theorem t217_19 : e_ok mD217 19 (7, 0, 10, 1, 22) := And.intro (okw_get dX5_giveLayer_19 rfl hin_10 (by decide +kernel) (wg1 178 rfl rfl) rfl) (okx_none (by decide +kernel) _)
theorem t217_22 : e_ok mD217 22 (0, 0, 60, 0, 24) := Or.inl (okc_bipush dX5_giveLayer_22 (by decide +kernel))
theorem t217_24 : e_ok mD217 24 (6, 2, 29, 0, 27) := okk_lt dX5_giveLayer_24 (by decide +kernel)
theorem t217_27 : e_ok mD217 27 (0, 0, 0, 0, 28) := Or.inl (okc_iconst dX5_giveLayer_27 (by decide +kernel))
theorem t217_28 : e_ok mD217 28 (12, 1, 0, 0, 0) := okr_int dX5_giveLayer_28 rfl
theorem t217_29 : e_ok mD217 29 (1, 1, 0, 0, 30) := okl_aload_n dX5_giveLayer_29 rfl
theorem t217_30 : e_ok mD217 30 (7, 0, 10, 0, 33) := And.intro (okw_get dX5_giveLayer_30 rfl hin_10 (by decide +kernel) (wg1 177 rfl rfl) rfl) (okx_none (by decide +kernel) _)
theorem t217_33 : e_ok mD217 33 (1, 1, 0, 0, 34) := okl_aload_n dX5_giveLayer_33 rfl
theorem t217_34 : e_ok mD217 34 (7, 0, 10, 1, 37) := And.intro (okw_get dX5_giveLayer_34 rfl hin_10 (by decide +kernel) (wg1 178 rfl rfl) rfl) (okx_none (by decide +kernel) _)
theorem t217_37 : e_ok mD217 37 (8, 0, 0, 0, 38) := And.intro (oka_i dX5_giveLayer_37) (oky_i dX5_giveLayer_37)
theorem t217_38 : e_ok mD217 38 (1, 4, 1, 0, 39) := oks_istore_n dX5_giveLayer_38 rfl (by decide +kernel)
theorem t217_39 : e_ok mD217 39 (1, 1, 0, 0, 40) := okl_aload_n dX5_giveLayer_39 rfl
theorem t217_40 : e_ok mD217 40 (2, 1, 0, 0, 41) := oki_dup dX5_giveLayer_40
theorem t217_41 : e_ok mD217 41 (7, 0, 10, 3, 44) := And.intro (okw_get dX5_giveLayer_41 rfl hin_10 (by decide +kernel) (wg1 180 rfl rfl) rfl) (okx_none (by decide +kernel) _)
theorem t217_44 : e_ok mD217 44 (1, 0, 1, 0, 45) := okl_iload_n dX5_giveLayer_44 rfl
theorem t217_45 : e_ok mD217 45 (3, 1, 0, 0, 46) := okb_isub dX5_giveLayer_45
theorem t217_46 : e_ok mD217 46 (9, 0, 10, 3, 49) := okw_put dX5_giveLayer_46 rfl hin_10 tyX5_ok nmX5 (by decide +kernel) (wg1 180 rfl rfl) rfl rfl (tyX5_ok 3 (by decide +kernel)) (fun V h => fitV_int h)
theorem t217_49 : e_ok mD217 49 (1, 1, 0, 0, 50) := okl_aload_n dX5_giveLayer_49 rfl
theorem t217_50 : e_ok mD217 50 (2, 1, 0, 0, 51) := oki_dup dX5_giveLayer_50
theorem t217_51 : e_ok mD217 51 (7, 0, 10, 1, 54) := And.intro (okw_get dX5_giveLayer_51 rfl hin_10 (by decide +kernel) (wg1 178 rfl rfl) rfl) (okx_none (by decide +kernel) _)
theorem t217_54 : e_ok mD217 54 (0, 0, 1, 0, 55) := Or.inl (okc_iconst dX5_giveLayer_54 (by decide +kernel))
theorem t217_55 : e_ok mD217 55 (3, 0, 0, 0, 56) := okb_iadd dX5_giveLayer_55
theorem t217_56 : e_ok mD217 56 (9, 0, 10, 1, 59) := okw_put dX5_giveLayer_56 rfl hin_10 tyX5_ok nmX5 (by decide +kernel) (wg1 178 rfl rfl) rfl rfl (tyX5_ok 1 (by decide +kernel)) (fun V h => fitV_int h)
theorem t217_59 : e_ok mD217 59 (1, 0, 1, 0, 60) := okl_iload_n dX5_giveLayer_59 rfl
theorem t217_60 : e_ok mD217 60 (12, 1, 0, 0, 0) := okr_int dX5_giveLayer_60 rfl
theorem t218_0 : e_ok mD218 0 (1, 3, 1, 0, 1) := okl_dload_n dX7_recoveryAt_0 rfl
theorem t218_1 : e_ok mD218 1 (1, 1, 0, 0, 2) := okl_aload_n dX7_recoveryAt_1 rfl
theorem t218_2 : e_ok mD218 2 (7, 0, 12, 6, 5) := And.intro (okw_get dX7_recoveryAt_2 rfl hin_12 (by decide +kernel) (wg1 216 rfl rfl) rfl) (okx_none (by decide +kernel) _)
theorem t218_6 : e_ok mD218 6 (5, 3, 18, 0, 9) := okj_ge dX7_recoveryAt_6 (by decide +kernel)
theorem t218_9 : e_ok mD218 9 (1, 1, 0, 0, 10) := okl_aload_n dX7_recoveryAt_9 rfl
theorem t218_10 : e_ok mD218 10 (7, 0, 12, 6, 13) := And.intro (okw_get dX7_recoveryAt_10 rfl hin_12 (by decide +kernel) (wg1 216 rfl rfl) rfl) (okx_none (by decide +kernel) _)
theorem t218_13 : e_ok mD218 13 (1, 3, 1, 0, 14) := okl_dload_n dX7_recoveryAt_13 rfl
theorem t218_15 : e_ok mD218 15 (2, 4, 0, 0, 24) := oki_goto dX7_recoveryAt_15 (by decide +kernel)
theorem t218_18 : e_ok mD218 18 (1, 3, 1, 0, 19) := okl_dload_n dX7_recoveryAt_18 rfl
theorem t218_19 : e_ok mD218 19 (1, 1, 0, 0, 20) := okl_aload_n dX7_recoveryAt_19 rfl
theorem t218_20 : e_ok mD218 20 (7, 0, 12, 6, 23) := And.intro (okw_get dX7_recoveryAt_20 rfl hin_12 (by decide +kernel) (wg1 216 rfl rfl) rfl) (okx_none (by decide +kernel) _)
theorem t218_24 : e_ok mD218 24 (1, 7, 3, 0, 25) := oks_dstore_n dX7_recoveryAt_24 rfl (by decide +kernel)
theorem t218_25 : e_ok mD218 25 (0, 2, 4632233691727265792, 0, 28) := okc_ldc2d dX7_recoveryAt_25 (wg4 172 rfl rfl)
theorem t218_28 : e_ok mD218 28 (1, 7, 5, 0, 30) := oks_dstore dX7_recoveryAt_28 (by decide +kernel)
theorem t218_30 : e_ok mD218 30 (0, 2, 4636033603912859648, 0, 33) := okc_ldc2d dX7_recoveryAt_30 (wg4 173 rfl rfl)
theorem t218_33 : e_ok mD218 33 (1, 3, 3, 0, 34) := okl_dload_n dX7_recoveryAt_33 rfl
theorem t218_35 : e_ok mD218 35 (1, 7, 7, 0, 37) := oks_dstore dX7_recoveryAt_35 (by decide +kernel)
theorem t218_37 : e_ok mD218 37 (1, 3, 7, 0, 39) := okl_dload dX7_recoveryAt_37
theorem t218_39 : e_ok mD218 39 (1, 3, 5, 0, 41) := okl_dload dX7_recoveryAt_39
theorem t218_42 : e_ok mD218 42 (5, 3, 50, 0, 45) := okj_ge dX7_recoveryAt_42 (by decide +kernel)
theorem t218_45 : e_ok mD218 45 (1, 3, 5, 0, 47) := okl_dload dX7_recoveryAt_45
theorem t218_47 : e_ok mD218 47 (2, 4, 0, 0, 52) := oki_goto dX7_recoveryAt_47 (by decide +kernel)
theorem t218_50 : e_ok mD218 50 (1, 3, 7, 0, 52) := okl_dload dX7_recoveryAt_50
theorem t218_52 : e_ok mD218 52 (11, 4, 36, 1, 55) := And.intro (okm_staticN (Da := mD36) dX7_recoveryAt_52 rfl mwc_36 (wn4 174 rfl rfl) mws_36 mwi_36 mwd_36) (fun h => h.elim nofun nofun)
theorem t218_55 : e_ok mD218 55 (12, 1, 0, 0, 0) := okr_int dX7_recoveryAt_55 rfl
theorem t219_0 : e_ok mD219 0 (1, 0, 1, 0, 1) := okl_iload_n dX0_placeOf_0 rfl
theorem t219_1 : e_ok mD219 1 (11, 4, 11, 1, 4) := And.intro (okm_staticN (Da := mD11) dX0_placeOf_1 rfl mwc_11 (wn3 121 rfl rfl) mws_11 mwi_11 mwd_11) (fun h => h.elim nofun nofun)
theorem t219_4 : e_ok mD219 4 (5, 0, 16, 0, 7) := okj_eq dX0_placeOf_4 (by decide +kernel)
theorem t219_7 : e_ok mD219 7 (1, 1, 0, 0, 8) := okl_aload_n dX0_placeOf_7 rfl
theorem t219_8 : e_ok mD219 8 (7, 0, 5, 1, 11) := And.intro (okw_get dX0_placeOf_8 rfl hin_5 (by decide +kernel) (wg2 18 rfl rfl) rfl) (okx_none (by decide +kernel) _)
theorem t219_11 : e_ok mD219 11 (1, 0, 1, 0, 12) := okl_iload_n dX0_placeOf_11 rfl
theorem t219_12 : e_ok mD219 12 (8, 2, 0, 0, 13) := And.intro (oka_c dX0_placeOf_12) (oky_c dX0_placeOf_12)
theorem t219_13 : e_ok mD219 13 (2, 4, 0, 0, 18) := oki_goto dX0_placeOf_13 (by decide +kernel)
theorem t219_16 : e_ok mD219 16 (0, 0, 32, 0, 18) := Or.inl (okc_bipush dX0_placeOf_16 (by decide +kernel))
theorem t219_18 : e_ok mD219 18 (12, 7, 0, 0, 0) := okr_char dX0_placeOf_18 rfl
theorem t220_0 : e_ok mD220 0 (1, 0, 1, 0, 1) := okl_iload_n dX1_weekOf_0 rfl
theorem t220_1 : e_ok mD220 1 (11, 4, 11, 1, 4) := And.intro (okm_staticN (Da := mD11) dX1_weekOf_1 rfl mwc_11 (wn2 126 rfl rfl) mws_11 mwi_11 mwd_11) (fun h => h.elim nofun nofun)
theorem t220_4 : e_ok mD220 4 (5, 0, 16, 0, 7) := okj_eq dX1_weekOf_4 (by decide +kernel)
theorem t220_7 : e_ok mD220 7 (1, 1, 0, 0, 8) := okl_aload_n dX1_weekOf_7 rfl
theorem t220_8 : e_ok mD220 8 (7, 0, 6, 2, 11) := And.intro (okw_get dX1_weekOf_8 rfl hin_6 (by decide +kernel) (wg1 60 rfl rfl) rfl) (okx_none (by decide +kernel) _)
theorem t220_11 : e_ok mD220 11 (1, 0, 1, 0, 12) := okl_iload_n dX1_weekOf_11 rfl
theorem t220_12 : e_ok mD220 12 (8, 0, 0, 0, 13) := And.intro (oka_i dX1_weekOf_12) (oky_i dX1_weekOf_12)
theorem t220_13 : e_ok mD220 13 (2, 4, 0, 0, 17) := oki_goto dX1_weekOf_13 (by decide +kernel)
theorem t220_16 : e_ok mD220 16 (0, 0, 4294967295, 0, 17) := Or.inl (okc_iconst dX1_weekOf_16 (by decide +kernel))
theorem t220_17 : e_ok mD220 17 (12, 1, 0, 0, 0) := okr_int dX1_weekOf_17 rfl
theorem t221_0 : e_ok mD221 0 (1, 1, 0, 0, 1) := okl_aload_n dX13_digs_0 rfl
theorem t221_1 : e_ok mD221 1 (7, 0, 18, 1, 4) := And.intro (okw_get dX13_digs_1 rfl hin_18 (by decide +kernel) (wg5 171 rfl rfl) rfl) (okx_none (by decide +kernel) _)
theorem t221_4 : e_ok mD221 4 (1, 0, 1, 0, 5) := okl_iload_n dX13_digs_4 rfl
theorem t221_5 : e_ok mD221 5 (11, 3, 189, 2, 10) := And.intro (okm_iface (ci := 4) (x := ⟨"java/util/List", "get", "(I)Ljava/lang/Object;"⟩) (Da := mD189) rfl dX13_digs_5 rfl mwc_189 (wg6 11 rfl rfl) mwn_189 (wg6 14 rfl rfl) mwi_189 (wn6 13 rfl rfl) (wn6 12 rfl rfl) (wn6 17 rfl rfl) (wn6 15 rfl rfl) (wn5 100 rfl rfl) ⟨by decide +kernel, by decide +kernel, by decide +kernel⟩) (fun h => h.elim nofun nofun)
theorem t221_10 : e_ok mD221 10 (7, 2, 15, 0, 13) := okw_cast dX13_digs_10 rfl (wg5 72 rfl rfl)
theorem t221_13 : e_ok mD221 13 (1, 5, 4, 0, 15) := oks_astore dX13_digs_13 (by decide +kernel)
theorem t221_15 : e_ok mD221 15 (1, 1, 0, 0, 16) := okl_aload_n dX13_digs_15 rfl
theorem t221_16 : e_ok mD221 16 (1, 0, 1, 0, 17) := okl_iload_n dX13_digs_16 rfl
theorem t221_17 : e_ok mD221 17 (11, 2, 127, 2, 20) := And.intro (okCallX.M (okx_virtual (Da := mD127) dX13_digs_17 rfl mwc_127 (wg6 69 rfl rfl) mwn_127 mwv_127 mwi_127 mwd_127)) (fun _ => okx_virtual (Da := mD127) dX13_digs_17 rfl mwc_127 (wg6 69 rfl rfl) mwn_127 mwv_127 mwi_127 mwd_127)
theorem t221_20 : e_ok mD221 20 (1, 4, 5, 0, 22) := oks_istore dX13_digs_20 (by decide +kernel)
theorem t221_22 : e_ok mD221 22 (1, 1, 4, 0, 24) := okl_aload dX13_digs_22
theorem t221_24 : e_ok mD221 24 (7, 0, 15, 2, 27) := And.intro (okw_getN dX13_digs_24 rfl hin_15 (by decide +kernel) (wn5 82 rfl rfl) rfl) (okx_none (by decide +kernel) _)
theorem t221_27 : e_ok mD221 27 (0, 0, 4294967295, 0, 28) := Or.inl (okc_iconst dX13_digs_27 (by decide +kernel))
theorem t221_28 : e_ok mD221 28 (6, 1, 36, 0, 31) := okk_ne dX13_digs_28 (by decide +kernel)
theorem t221_31 : e_ok mD221 31 (1, 0, 5, 0, 33) := okl_iload dX13_digs_31
theorem t221_33 : e_ok mD221 33 (2, 4, 0, 0, 41) := oki_goto dX13_digs_33 (by decide +kernel)
theorem t221_36 : e_ok mD221 36 (1, 1, 4, 0, 38) := okl_aload dX13_digs_36
theorem t221_38 : e_ok mD221 38 (7, 0, 15, 2, 41) := And.intro (okw_getN dX13_digs_38 rfl hin_15 (by decide +kernel) (wn5 82 rfl rfl) rfl) (okx_none (by decide +kernel) _)
theorem t221_41 : e_ok mD221 41 (1, 4, 6, 0, 43) := oks_istore dX13_digs_41 (by decide +kernel)
theorem t221_43 : e_ok mD221 43 (1, 1, 0, 0, 44) := okl_aload_n dX13_digs_43 rfl
theorem t221_44 : e_ok mD221 44 (2, 1, 0, 0, 45) := oki_dup dX13_digs_44
theorem t221_45 : e_ok mD221 45 (7, 0, 18, 12, 48) := And.intro (okw_get dX13_digs_45 rfl hin_18 (by decide +kernel) (wg5 182 rfl rfl) rfl) (okx_none (by decide +kernel) _)
theorem t221_48 : e_ok mD221 48 (1, 0, 5, 0, 50) := okl_iload dX13_digs_48
theorem t221_50 : e_ok mD221 50 (3, 0, 0, 0, 51) := okb_iadd dX13_digs_50
theorem t221_51 : e_ok mD221 51 (9, 0, 18, 12, 54) := okw_put dX13_digs_51 rfl hin_18 tyX13_ok nmX13 (by decide +kernel) (wg5 182 rfl rfl) rfl rfl (tyX13_ok 12 (by decide +kernel)) (fun V h => fitV_int h)
theorem t221_54 : e_ok mD221 54 (1, 1, 0, 0, 55) := okl_aload_n dX13_digs_54 rfl
theorem t221_55 : e_ok mD221 55 (2, 1, 0, 0, 56) := oki_dup dX13_digs_55
theorem t221_56 : e_ok mD221 56 (7, 0, 18, 11, 59) := And.intro (okw_get dX13_digs_56 rfl hin_18 (by decide +kernel) (wg5 181 rfl rfl) rfl) (okx_none (by decide +kernel) _)
theorem t221_59 : e_ok mD221 59 (1, 0, 6, 0, 61) := okl_iload dX13_digs_59
theorem t221_61 : e_ok mD221 61 (3, 0, 0, 0, 62) := okb_iadd dX13_digs_61
theorem t221_62 : e_ok mD221 62 (9, 0, 18, 11, 65) := okw_put dX13_digs_62 rfl hin_18 tyX13_ok nmX13 (by decide +kernel) (wg5 181 rfl rfl) rfl rfl (tyX13_ok 11 (by decide +kernel)) (fun V h => fitV_int h)
theorem t221_65 : e_ok mD221 65 (1, 1, 0, 0, 66) := okl_aload_n dX13_digs_65 rfl
theorem t221_66 : e_ok mD221 66 (2, 1, 0, 0, 67) := oki_dup dX13_digs_66
theorem t221_67 : e_ok mD221 67 (7, 0, 18, 22, 70) := And.intro (okw_get dX13_digs_67 rfl hin_18 (by decide +kernel) (wg5 192 rfl rfl) rfl) (okx_none (by decide +kernel) _)
theorem t221_70 : e_ok mD221 70 (1, 0, 1, 0, 71) := okl_iload_n dX13_digs_70 rfl
theorem t221_71 : e_ok mD221 71 (11, 0, 119, 1, 74) := And.intro (okCallX.M (okx_static (Da := mD119) dX13_digs_71 rfl mwc_119 (wg6 177 rfl rfl) mws_119 mwi_119 mwd_119)) (fun _ => okx_static (Da := mD119) dX13_digs_71 rfl mwc_119 (wg6 177 rfl rfl) mws_119 mwi_119 mwd_119)
theorem t221_74 : e_ok mD221 74 (15, 5, 0, 0, 75) := okm_i2l dX13_digs_74
theorem t221_75 : e_ok mD221 75 (15, 1, 0, 0, 76) := okm_lsub dX13_digs_75
theorem t221_76 : e_ok mD221 76 (9, 3, 18, 22, 79) := okw_put dX13_digs_76 rfl hin_18 tyX13_ok nmX13 (by decide +kernel) (wg5 192 rfl rfl) rfl rfl (tyX13_ok 22 (by decide +kernel)) (fun V h => fitV_long h)
theorem t221_79 : e_ok mD221 79 (1, 1, 4, 0, 81) := okl_aload dX13_digs_79
theorem t221_81 : e_ok mD221 81 (0, 0, 1, 0, 82) := Or.inl (okc_iconst dX13_digs_81 (by decide +kernel))
theorem t221_82 : e_ok mD221 82 (9, 1, 15, 1, 85) := okw_putN dX13_digs_82 rfl hin_15 tyX10_ok nmX10 (by decide +kernel) (wn5 80 rfl rfl) rfl rfl (tyX10_ok 1 (by decide +kernel)) (fun V h => fitV_bool h)
theorem t221_85 : e_ok mD221 85 (1, 1, 4, 0, 87) := okl_aload dX13_digs_85
theorem t221_87 : e_ok mD221 87 (1, 1, 0, 0, 88) := okl_aload_n dX13_digs_87 rfl
theorem t221_88 : e_ok mD221 88 (7, 0, 18, 8, 91) := And.intro (okw_get dX13_digs_88 rfl hin_18 (by decide +kernel) (wg5 178 rfl rfl) rfl) (okx_none (by decide +kernel) _)
theorem t221_91 : e_ok mD221 91 (9, 0, 15, 3, 94) := okw_putN dX13_digs_91 rfl hin_15 tyX10_ok nmX10 (by decide +kernel) (wn5 83 rfl rfl) rfl rfl (tyX10_ok 3 (by decide +kernel)) (fun V h => fitV_int h)
theorem t221_94 : e_ok mD221 94 (1, 1, 4, 0, 96) := okl_aload dX13_digs_94
theorem t221_96 : e_ok mD221 96 (1, 0, 6, 0, 98) := okl_iload dX13_digs_96
theorem t221_98 : e_ok mD221 98 (1, 1, 0, 0, 99) := okl_aload_n dX13_digs_98 rfl
theorem t221_99 : e_ok mD221 99 (0, 0, 99, 0, 101) := Or.inl (okc_bipush dX13_digs_99 (by decide +kernel))
theorem t221_101 : e_ok mD221 101 (11, 2, 157, 2, 104) := And.intro (okCallX.M (okx_virtual (Da := mD157) dX13_digs_101 rfl mwc_157 (wg7 174 rfl rfl) mwn_157 mwv_157 mwi_157 mwd_157)) (fun _ => okx_virtual (Da := mD157) dX13_digs_101 rfl mwc_157 (wg7 174 rfl rfl) mwn_157 mwv_157 mwi_157 mwd_157)
theorem t221_104 : e_ok mD221 104 (6, 2, 122, 0, 107) := okk_lt dX13_digs_104 (by decide +kernel)
theorem t221_107 : e_ok mD221 107 (1, 1, 2, 0, 108) := okl_aload_n dX13_digs_107 rfl
theorem t221_108 : e_ok mD221 108 (11, 3, 194, 1, 113) := And.intro (okm_iface (ci := 4) (x := ⟨"java/util/List", "size", "()I"⟩) (Da := mD194) rfl dX13_digs_108 rfl mwc_194 (wg6 38 rfl rfl) mwn_194 (wg6 41 rfl rfl) mwi_194 (wn6 40 rfl rfl) (wn6 39 rfl rfl) (wn6 44 rfl rfl) (wn6 42 rfl rfl) (wn5 100 rfl rfl) ⟨by decide +kernel, by decide +kernel, by decide +kernel⟩) (fun h => h.elim nofun nofun)
theorem t221_113 : e_ok mD221 113 (1, 0, 3, 0, 114) := okl_iload_n dX13_digs_113 rfl
theorem t221_114 : e_ok mD221 114 (6, 3, 122, 0, 117) := okk_ge dX13_digs_114 (by decide +kernel)
theorem t221_117 : e_ok mD221 117 (0, 0, 112, 0, 119) := Or.inl (okc_bipush dX13_digs_117 (by decide +kernel))
theorem t221_119 : e_ok mD221 119 (2, 4, 0, 0, 140) := oki_goto dX13_digs_119 (by decide +kernel)
theorem t221_122 : e_ok mD221 122 (1, 0, 6, 0, 124) := okl_iload dX13_digs_122
theorem t221_124 : e_ok mD221 124 (1, 1, 0, 0, 125) := okl_aload_n dX13_digs_124 rfl
theorem t221_125 : e_ok mD221 125 (0, 0, 108, 0, 127) := Or.inl (okc_bipush dX13_digs_125 (by decide +kernel))
theorem t221_127 : e_ok mD221 127 (11, 2, 157, 2, 130) := And.intro (okCallX.M (okx_virtual (Da := mD157) dX13_digs_127 rfl mwc_157 (wg7 174 rfl rfl) mwn_157 mwv_157 mwi_157 mwd_157)) (fun _ => okx_virtual (Da := mD157) dX13_digs_127 rfl mwc_157 (wg7 174 rfl rfl) mwn_157 mwv_157 mwi_157 mwd_157)
theorem t221_130 : e_ok mD221 130 (6, 2, 138, 0, 133) := okk_lt dX13_digs_130 (by decide +kernel)
theorem t221_133 : e_ok mD221 133 (0, 0, 115, 0, 135) := Or.inl (okc_bipush dX13_digs_133 (by decide +kernel))
theorem t221_135 : e_ok mD221 135 (2, 4, 0, 0, 140) := oki_goto dX13_digs_135 (by decide +kernel)
theorem t221_138 : e_ok mD221 138 (0, 0, 100, 0, 140) := Or.inl (okc_bipush dX13_digs_138 (by decide +kernel))
theorem t221_140 : e_ok mD221 140 (9, 2, 15, 4, 143) := okw_putN dX13_digs_140 rfl hin_15 tyX10_ok nmX10 (by decide +kernel) (wn5 84 rfl rfl) rfl rfl (tyX10_ok 4 (by decide +kernel)) (fun V h => fitV_char h)
theorem t221_143 : e_ok mD221 143 (1, 1, 4, 0, 145) := okl_aload dX13_digs_143
theorem t221_145 : e_ok mD221 145 (7, 0, 15, 4, 148) := And.intro (okw_getN dX13_digs_145 rfl hin_15 (by decide +kernel) (wn5 84 rfl rfl) rfl) (okx_none (by decide +kernel) _)
theorem t221_148 : e_ok mD221 148 (0, 0, 112, 0, 150) := Or.inl (okc_bipush dX13_digs_148 (by decide +kernel))
theorem t221_150 : e_ok mD221 150 (6, 1, 165, 0, 153) := okk_ne dX13_digs_150 (by decide +kernel)
theorem t221_153 : e_ok mD221 153 (1, 1, 2, 0, 154) := okl_aload_n dX13_digs_153 rfl
theorem t221_154 : e_ok mD221 154 (1, 0, 6, 0, 156) := okl_iload dX13_digs_154
theorem t221_156 : e_ok mD221 156 (11, 0, 171, 1, 159) := And.intro (okCallX.M (okx_static (Da := mD171) dX13_digs_156 rfl mwc_171 (wg6 192 rfl rfl) mws_171 mwi_171 mwd_171)) (fun _ => okx_static (Da := mD171) dX13_digs_156 rfl mwc_171 (wg6 192 rfl rfl) mws_171 mwi_171 mwd_171)
theorem t221_159 : e_ok mD221 159 (11, 3, 185, 2, 164) := And.intro (okm_iface (ci := 4) (x := ⟨"java/util/List", "add", "(Ljava/lang/Object;)Z"⟩) (Da := mD185) rfl dX13_digs_159 rfl mwc_185 (wg5 97 rfl rfl) mwn_185 (wg5 101 rfl rfl) mwi_185 (wn5 99 rfl rfl) (wn5 98 rfl rfl) (wn5 104 rfl rfl) (wn5 102 rfl rfl) (wn5 100 rfl rfl) ⟨by decide +kernel, by decide +kernel, by decide +kernel⟩) (fun h => h.elim nofun nofun)
theorem t221_164 : e_ok mD221 164 (2, 2, 0, 0, 165) := oki_pop dX13_digs_164
theorem t221_165 : e_ok mD221 165 (1, 1, 4, 0, 167) := okl_aload dX13_digs_165
theorem t221_167 : e_ok mD221 167 (7, 0, 15, 4, 170) := And.intro (okw_getN dX13_digs_167 rfl hin_15 (by decide +kernel) (wn5 84 rfl rfl) rfl) (okx_none (by decide +kernel) _)
theorem t221_170 : e_ok mD221 170 (0, 0, 100, 0, 172) := Or.inl (okc_bipush dX13_digs_170 (by decide +kernel))
theorem t221_172 : e_ok mD221 172 (6, 1, 185, 0, 175) := okk_ne dX13_digs_172 (by decide +kernel)
theorem t221_175 : e_ok mD221 175 (1, 1, 0, 0, 176) := okl_aload_n dX13_digs_175 rfl
theorem t221_176 : e_ok mD221 176 (2, 1, 0, 0, 177) := oki_dup dX13_digs_176
theorem t221_177 : e_ok mD221 177 (7, 0, 18, 15, 180) := And.intro (okw_get dX13_digs_177 rfl hin_18 (by decide +kernel) (wg5 185 rfl rfl) rfl) (okx_none (by decide +kernel) _)
theorem t221_180 : e_ok mD221 180 (0, 0, 1, 0, 181) := Or.inl (okc_iconst dX13_digs_180 (by decide +kernel))
theorem t221_181 : e_ok mD221 181 (3, 0, 0, 0, 182) := okb_iadd dX13_digs_181
theorem t221_182 : e_ok mD221 182 (9, 0, 18, 15, 185) := okw_put dX13_digs_182 rfl hin_18 tyX13_ok nmX13 (by decide +kernel) (wg5 185 rfl rfl) rfl rfl (tyX13_ok 15 (by decide +kernel)) (fun V h => fitV_int h)
theorem t221_185 : e_ok mD221 185 (1, 1, 4, 0, 187) := okl_aload dX13_digs_185
theorem t221_187 : e_ok mD221 187 (7, 0, 15, 4, 190) := And.intro (okw_getN dX13_digs_187 rfl hin_15 (by decide +kernel) (wn5 84 rfl rfl) rfl) (okx_none (by decide +kernel) _)
theorem t221_190 : e_ok mD221 190 (0, 0, 115, 0, 192) := Or.inl (okc_bipush dX13_digs_190 (by decide +kernel))
theorem t221_192 : e_ok mD221 192 (6, 1, 231, 0, 195) := okk_ne dX13_digs_192 (by decide +kernel)
theorem t221_195 : e_ok mD221 195 (1, 1, 0, 0, 196) := okl_aload_n dX13_digs_195 rfl
theorem t221_196 : e_ok mD221 196 (7, 0, 18, 4, 199) := And.intro (okw_get dX13_digs_196 rfl hin_18 (by decide +kernel) (wg5 174 rfl rfl) rfl) (okx_none (by decide +kernel) _)
theorem t221_199 : e_ok mD221 199 (1, 0, 6, 0, 201) := okl_iload dX13_digs_199
theorem t221_201 : e_ok mD221 201 (11, 0, 171, 1, 204) := And.intro (okCallX.M (okx_static (Da := mD171) dX13_digs_201 rfl mwc_171 (wg6 192 rfl rfl) mws_171 mwi_171 mwd_171)) (fun _ => okx_static (Da := mD171) dX13_digs_201 rfl mwc_171 (wg6 192 rfl rfl) mws_171 mwi_171 mwd_171)
theorem t221_204 : e_ok mD221 204 (11, 3, 185, 2, 209) := And.intro (okm_iface (ci := 4) (x := ⟨"java/util/List", "add", "(Ljava/lang/Object;)Z"⟩) (Da := mD185) rfl dX13_digs_204 rfl mwc_185 (wg5 97 rfl rfl) mwn_185 (wg5 101 rfl rfl) mwi_185 (wn5 99 rfl rfl) (wn5 98 rfl rfl) (wn5 104 rfl rfl) (wn5 102 rfl rfl) (wn5 100 rfl rfl) ⟨by decide +kernel, by decide +kernel, by decide +kernel⟩) (fun h => h.elim nofun nofun)
theorem t221_209 : e_ok mD221 209 (2, 2, 0, 0, 210) := oki_pop dX13_digs_209
theorem t221_210 : e_ok mD221 210 (1, 1, 0, 0, 211) := okl_aload_n dX13_digs_210 rfl
theorem t221_211 : e_ok mD221 211 (2, 1, 0, 0, 212) := oki_dup dX13_digs_211
theorem t221_212 : e_ok mD221 212 (7, 0, 18, 16, 215) := And.intro (okw_get dX13_digs_212 rfl hin_18 (by decide +kernel) (wg5 186 rfl rfl) rfl) (okx_none (by decide +kernel) _)
theorem t221_215 : e_ok mD221 215 (0, 0, 1, 0, 216) := Or.inl (okc_iconst dX13_digs_215 (by decide +kernel))
theorem t221_216 : e_ok mD221 216 (3, 0, 0, 0, 217) := okb_iadd dX13_digs_216
theorem t221_217 : e_ok mD221 217 (9, 0, 18, 16, 220) := okw_put dX13_digs_217 rfl hin_18 tyX13_ok nmX13 (by decide +kernel) (wg5 186 rfl rfl) rfl rfl (tyX13_ok 16 (by decide +kernel)) (fun V h => fitV_int h)
theorem t221_220 : e_ok mD221 220 (1, 1, 0, 0, 221) := okl_aload_n dX13_digs_220 rfl
theorem t221_221 : e_ok mD221 221 (2, 1, 0, 0, 222) := oki_dup dX13_digs_221
theorem t221_222 : e_ok mD221 222 (7, 0, 18, 17, 225) := And.intro (okw_get dX13_digs_222 rfl hin_18 (by decide +kernel) (wg5 187 rfl rfl) rfl) (okx_none (by decide +kernel) _)
theorem t221_225 : e_ok mD221 225 (1, 0, 6, 0, 227) := okl_iload dX13_digs_225
theorem t221_227 : e_ok mD221 227 (3, 0, 0, 0, 228) := okb_iadd dX13_digs_227
theorem t221_228 : e_ok mD221 228 (9, 0, 18, 17, 231) := okw_put dX13_digs_228 rfl hin_18 tyX13_ok nmX13 (by decide +kernel) (wg5 187 rfl rfl) rfl rfl (tyX13_ok 17 (by decide +kernel)) (fun V h => fitV_int h)
theorem t221_231 : e_ok mD221 231 (1, 1, 4, 0, 233) := okl_aload dX13_digs_231
theorem t221_233 : e_ok mD221 233 (7, 0, 15, 2, 236) := And.intro (okw_getN dX13_digs_233 rfl hin_15 (by decide +kernel) (wn5 82 rfl rfl) rfl) (okx_none (by decide +kernel) _)
theorem t221_236 : e_ok mD221 236 (0, 0, 4294967295, 0, 237) := Or.inl (okc_iconst dX13_digs_236 (by decide +kernel))
theorem t221_237 : e_ok mD221 237 (6, 0, 274, 0, 240) := okk_eq dX13_digs_237 (by decide +kernel)
theorem t221_240 : e_ok mD221 240 (1, 1, 0, 0, 241) := okl_aload_n dX13_digs_240 rfl
theorem t221_241 : e_ok mD221 241 (7, 0, 18, 2, 244) := And.intro (okw_get dX13_digs_241 rfl hin_18 (by decide +kernel) (wg5 172 rfl rfl) rfl) (okx_none (by decide +kernel) _)
theorem t221_244 : e_ok mD221 244 (11, 3, 194, 1, 249) := And.intro (okm_iface (ci := 4) (x := ⟨"java/util/List", "size", "()I"⟩) (Da := mD194) rfl dX13_digs_244 rfl mwc_194 (wg6 38 rfl rfl) mwn_194 (wg6 41 rfl rfl) mwi_194 (wn6 40 rfl rfl) (wn6 39 rfl rfl) (wn6 44 rfl rfl) (wn6 42 rfl rfl) (wn5 100 rfl rfl) ⟨by decide +kernel, by decide +kernel, by decide +kernel⟩) (fun h => h.elim nofun nofun)
theorem t221_249 : e_ok mD221 249 (0, 0, 40, 0, 251) := Or.inl (okc_bipush dX13_digs_249 (by decide +kernel))
theorem t221_251 : e_ok mD221 251 (6, 3, 274, 0, 254) := okk_ge dX13_digs_251 (by decide +kernel)
theorem t221_254 : e_ok mD221 254 (1, 1, 0, 0, 255) := okl_aload_n dX13_digs_254 rfl
theorem t221_255 : e_ok mD221 255 (7, 0, 18, 2, 258) := And.intro (okw_get dX13_digs_255 rfl hin_18 (by decide +kernel) (wg5 172 rfl rfl) rfl) (okx_none (by decide +kernel) _)
theorem t221_258 : e_ok mD221 258 (7, 1, 17, 2, 261) := And.intro (fun X ρ => okw_new dX13_digs_258 rfl hin_17 tyX12_ok (wg6 46 rfl rfl) (wg6 47 rfl rfl) (wg1 31 rfl rfl) rfl) (by decide)
theorem t221_261 : e_ok mD221 261 (2, 1, 0, 0, 262) := oki_dup dX13_digs_261
theorem t221_262 : e_ok mD221 262 (1, 0, 1, 0, 263) := okl_iload_n dX13_digs_262 rfl
theorem t221_263 : e_ok mD221 263 (1, 0, 6, 0, 265) := okl_iload dX13_digs_263
theorem t221_265 : e_ok mD221 265 (11, 1, 169, 3, 268) := And.intro (okm_init (Da := mD169) dX13_digs_265 rfl rfl mwc_169 (wg6 48 rfl rfl) mwn_169 mwi_169 rfl mwd_169) (fun h => h.elim nofun nofun)
theorem t221_268 : e_ok mD221 268 (11, 3, 185, 2, 273) := And.intro (okm_iface (ci := 4) (x := ⟨"java/util/List", "add", "(Ljava/lang/Object;)Z"⟩) (Da := mD185) rfl dX13_digs_268 rfl mwc_185 (wg5 97 rfl rfl) mwn_185 (wg5 101 rfl rfl) mwi_185 (wn5 99 rfl rfl) (wn5 98 rfl rfl) (wn5 104 rfl rfl) (wn5 102 rfl rfl) (wn5 100 rfl rfl) ⟨by decide +kernel, by decide +kernel, by decide +kernel⟩) (fun h => h.elim nofun nofun)
theorem t221_273 : e_ok mD221 273 (2, 2, 0, 0, 274) := oki_pop dX13_digs_273
theorem t221_274 : e_ok mD221 274 (12, 0, 0, 0, 0) := okr_void dX13_digs_274 rfl
theorem t222_0 : e_ok mD222 0 (1, 1, 0, 0, 1) := okl_aload_n dX13_given_0 rfl
theorem t222_1 : e_ok mD222 1 (7, 0, 18, 6, 4) := And.intro (okw_get dX13_given_1 rfl hin_18 (by decide +kernel) (wg5 176 rfl rfl) rfl) (okx_none (by decide +kernel) _)
theorem t222_4 : e_ok mD222 4 (5, 0, 32, 0, 7) := okj_eq dX13_given_4 (by decide +kernel)
theorem t222_7 : e_ok mD222 7 (1, 1, 0, 0, 8) := okl_aload_n dX13_given_7 rfl
theorem t222_8 : e_ok mD222 8 (1, 1, 0, 0, 9) := okl_aload_n dX13_given_8 rfl
theorem t222_9 : e_ok mD222 9 (7, 0, 18, 16, 12) := And.intro (okw_get dX13_given_9 rfl hin_18 (by decide +kernel) (wg5 186 rfl rfl) rfl) (okx_none (by decide +kernel) _)
theorem t222_12 : e_ok mD222 12 (9, 0, 18, 18, 15) := okw_put dX13_given_12 rfl hin_18 tyX13_ok nmX13 (by decide +kernel) (wg5 188 rfl rfl) rfl rfl (tyX13_ok 18 (by decide +kernel)) (fun V h => fitV_int h)
theorem t222_15 : e_ok mD222 15 (1, 1, 0, 0, 16) := okl_aload_n dX13_given_15 rfl
theorem t222_16 : e_ok mD222 16 (1, 1, 0, 0, 17) := okl_aload_n dX13_given_16 rfl
theorem t222_17 : e_ok mD222 17 (7, 0, 18, 17, 20) := And.intro (okw_get dX13_given_17 rfl hin_18 (by decide +kernel) (wg5 187 rfl rfl) rfl) (okx_none (by decide +kernel) _)
theorem t222_20 : e_ok mD222 20 (9, 0, 18, 19, 23) := okw_put dX13_given_20 rfl hin_18 tyX13_ok nmX13 (by decide +kernel) (wg5 189 rfl rfl) rfl rfl (tyX13_ok 19 (by decide +kernel)) (fun V h => fitV_int h)
theorem t222_23 : e_ok mD222 23 (1, 1, 0, 0, 24) := okl_aload_n dX13_given_23 rfl
theorem t222_24 : e_ok mD222 24 (7, 0, 18, 4, 27) := And.intro (okw_get dX13_given_24 rfl hin_18 (by decide +kernel) (wg5 174 rfl rfl) rfl) (okx_none (by decide +kernel) _)
theorem t222_27 : e_ok mD222 27 (11, 3, 187, 1, 32) := And.intro (okm_iface (ci := 4) (x := ⟨"java/util/List", "clear", "()V"⟩) (Da := mD187) rfl dX13_given_27 rfl mwc_187 (wg7 46 rfl rfl) mwn_187 (wg7 49 rfl rfl) mwi_187 (wn7 48 rfl rfl) (wn7 47 rfl rfl) (wn7 52 rfl rfl) (wn7 50 rfl rfl) (wn5 100 rfl rfl) ⟨by decide +kernel, by decide +kernel, by decide +kernel⟩) (fun h => h.elim nofun nofun)
theorem t222_32 : e_ok mD222 32 (1, 1, 0, 0, 33) := okl_aload_n dX13_given_32 rfl
theorem t222_33 : e_ok mD222 33 (7, 0, 18, 18, 36) := And.intro (okw_get dX13_given_33 rfl hin_18 (by decide +kernel) (wg5 188 rfl rfl) rfl) (okx_none (by decide +kernel) _)
theorem t222_36 : e_ok mD222 36 (5, 5, 51, 0, 39) := okj_le dX13_given_36 (by decide +kernel)
theorem t222_39 : e_ok mD222 39 (1, 1, 0, 0, 40) := okl_aload_n dX13_given_39 rfl
theorem t222_40 : e_ok mD222 40 (7, 0, 18, 19, 43) := And.intro (okw_get dX13_given_40 rfl hin_18 (by decide +kernel) (wg5 189 rfl rfl) rfl) (okx_none (by decide +kernel) _)
theorem t222_43 : e_ok mD222 43 (1, 1, 0, 0, 44) := okl_aload_n dX13_given_43 rfl
theorem t222_44 : e_ok mD222 44 (7, 0, 18, 18, 47) := And.intro (okw_get dX13_given_44 rfl hin_18 (by decide +kernel) (wg5 188 rfl rfl) rfl) (okx_none (by decide +kernel) _)
theorem t222_47 : e_ok mD222 47 (3, 3, 0, 0, 48) := okb_idiv dX13_given_47
theorem t222_48 : e_ok mD222 48 (2, 4, 0, 0, 67) := oki_goto dX13_given_48 (by decide +kernel)
theorem t222_51 : e_ok mD222 51 (1, 1, 0, 0, 52) := okl_aload_n dX13_given_51 rfl
theorem t222_52 : e_ok mD222 52 (7, 0, 18, 4, 55) := And.intro (okw_get dX13_given_52 rfl hin_18 (by decide +kernel) (wg5 174 rfl rfl) rfl) (okx_none (by decide +kernel) _)
theorem t222_55 : e_ok mD222 55 (0, 0, 0, 0, 56) := Or.inl (okc_iconst dX13_given_55 (by decide +kernel))
theorem t222_61 : e_ok mD222 61 (7, 2, 1, 0, 64) := okw_cast dX13_given_61 rfl (wg6 212 rfl rfl)
theorem t222_64 : e_ok mD222 64 (11, 2, 170, 1, 67) := And.intro (okCallX.M (okx_virtual (Da := mD170) dX13_given_64 rfl mwc_170 (wg6 213 rfl rfl) mwn_170 mwv_170 mwi_170 mwd_170)) (fun _ => okx_virtual (Da := mD170) dX13_given_64 rfl mwc_170 (wg6 213 rfl rfl) mwn_170 mwv_170 mwi_170 mwd_170)
theorem t222_67 : e_ok mD222 67 (1, 4, 1, 0, 68) := oks_istore_n dX13_given_67 rfl (by decide +kernel)
theorem t222_68 : e_ok mD222 68 (1, 1, 0, 0, 69) := okl_aload_n dX13_given_68 rfl
theorem t222_69 : e_ok mD222 69 (2, 1, 0, 0, 70) := oki_dup dX13_given_69
theorem t222_70 : e_ok mD222 70 (7, 0, 18, 19, 73) := And.intro (okw_get dX13_given_70 rfl hin_18 (by decide +kernel) (wg5 189 rfl rfl) rfl) (okx_none (by decide +kernel) _)
theorem t222_73 : e_ok mD222 73 (1, 1, 0, 0, 74) := okl_aload_n dX13_given_73 rfl
theorem t222_74 : e_ok mD222 74 (7, 0, 18, 18, 77) := And.intro (okw_get dX13_given_74 rfl hin_18 (by decide +kernel) (wg5 188 rfl rfl) rfl) (okx_none (by decide +kernel) _)
theorem t222_77 : e_ok mD222 77 (5, 5, 84, 0, 80) := okj_le dX13_given_77 (by decide +kernel)
theorem t222_80 : e_ok mD222 80 (1, 0, 1, 0, 81) := okl_iload_n dX13_given_80 rfl
theorem t222_81 : e_ok mD222 81 (2, 4, 0, 0, 85) := oki_goto dX13_given_81 (by decide +kernel)
theorem t222_84 : e_ok mD222 84 (0, 0, 0, 0, 85) := Or.inl (okc_iconst dX13_given_84 (by decide +kernel))
theorem t222_85 : e_ok mD222 85 (3, 1, 0, 0, 86) := okb_isub dX13_given_85
theorem t222_86 : e_ok mD222 86 (9, 0, 18, 19, 89) := okw_put dX13_given_86 rfl hin_18 tyX13_ok nmX13 (by decide +kernel) (wg5 189 rfl rfl) rfl rfl (tyX13_ok 19 (by decide +kernel)) (fun V h => fitV_int h)
theorem t222_89 : e_ok mD222 89 (1, 1, 0, 0, 90) := okl_aload_n dX13_given_89 rfl
theorem t222_90 : e_ok mD222 90 (2, 1, 0, 0, 91) := oki_dup dX13_given_90
theorem t222_91 : e_ok mD222 91 (7, 0, 18, 18, 94) := And.intro (okw_get dX13_given_91 rfl hin_18 (by decide +kernel) (wg5 188 rfl rfl) rfl) (okx_none (by decide +kernel) _)
theorem t222_94 : e_ok mD222 94 (1, 1, 0, 0, 95) := okl_aload_n dX13_given_94 rfl
theorem t222_95 : e_ok mD222 95 (7, 0, 18, 18, 98) := And.intro (okw_get dX13_given_95 rfl hin_18 (by decide +kernel) (wg5 188 rfl rfl) rfl) (okx_none (by decide +kernel) _)
theorem t222_98 : e_ok mD222 98 (5, 5, 105, 0, 101) := okj_le dX13_given_98 (by decide +kernel)
theorem t222_101 : e_ok mD222 101 (0, 0, 1, 0, 102) := Or.inl (okc_iconst dX13_given_101 (by decide +kernel))
theorem t222_102 : e_ok mD222 102 (2, 4, 0, 0, 106) := oki_goto dX13_given_102 (by decide +kernel)
theorem t222_105 : e_ok mD222 105 (0, 0, 0, 0, 106) := Or.inl (okc_iconst dX13_given_105 (by decide +kernel))
theorem t222_106 : e_ok mD222 106 (3, 1, 0, 0, 107) := okb_isub dX13_given_106
theorem t222_107 : e_ok mD222 107 (9, 0, 18, 18, 110) := okw_put dX13_given_107 rfl hin_18 tyX13_ok nmX13 (by decide +kernel) (wg5 188 rfl rfl) rfl rfl (tyX13_ok 18 (by decide +kernel)) (fun V h => fitV_int h)
theorem t222_110 : e_ok mD222 110 (1, 1, 0, 0, 111) := okl_aload_n dX13_given_110 rfl
theorem t222_111 : e_ok mD222 111 (2, 1, 0, 0, 112) := oki_dup dX13_given_111
theorem t222_112 : e_ok mD222 112 (7, 0, 18, 16, 115) := And.intro (okw_get dX13_given_112 rfl hin_18 (by decide +kernel) (wg5 186 rfl rfl) rfl) (okx_none (by decide +kernel) _)
theorem t222_115 : e_ok mD222 115 (0, 0, 1, 0, 116) := Or.inl (okc_iconst dX13_given_115 (by decide +kernel))
theorem t222_116 : e_ok mD222 116 (3, 1, 0, 0, 117) := okb_isub dX13_given_116
theorem t222_117 : e_ok mD222 117 (9, 0, 18, 16, 120) := okw_put dX13_given_117 rfl hin_18 tyX13_ok nmX13 (by decide +kernel) (wg5 186 rfl rfl) rfl rfl (tyX13_ok 16 (by decide +kernel)) (fun V h => fitV_int h)
theorem t222_120 : e_ok mD222 120 (1, 1, 0, 0, 121) := okl_aload_n dX13_given_120 rfl
theorem t222_121 : e_ok mD222 121 (2, 1, 0, 0, 122) := oki_dup dX13_given_121
theorem t222_122 : e_ok mD222 122 (7, 0, 18, 17, 125) := And.intro (okw_get dX13_given_122 rfl hin_18 (by decide +kernel) (wg5 187 rfl rfl) rfl) (okx_none (by decide +kernel) _)
theorem t222_125 : e_ok mD222 125 (1, 0, 1, 0, 126) := okl_iload_n dX13_given_125 rfl
theorem t222_126 : e_ok mD222 126 (3, 1, 0, 0, 127) := okb_isub dX13_given_126
theorem t222_127 : e_ok mD222 127 (9, 0, 18, 17, 130) := okw_put dX13_given_127 rfl hin_18 tyX13_ok nmX13 (by decide +kernel) (wg5 187 rfl rfl) rfl rfl (tyX13_ok 17 (by decide +kernel)) (fun V h => fitV_int h)
theorem t222_130 : e_ok mD222 130 (1, 0, 1, 0, 131) := okl_iload_n dX13_given_130 rfl
theorem t222_131 : e_ok mD222 131 (12, 1, 0, 0, 0) := okr_int dX13_given_131 rfl
theorem t223_0 : e_ok mD223 0 (7, 1, 14, 9, 3) := And.intro (fun X ρ => okw_new dL_law_0 rfl hin_14 tyX9_ok (wg1 44 rfl rfl) (wg1 45 rfl rfl) (wg1 1 rfl rfl) rfl) (by decide)
theorem t223_3 : e_ok mD223 3 (2, 1, 0, 0, 4) := oki_dup dL_law_3
theorem t223_4 : e_ok mD223 4 (11, 1, 0, 1, 7) := And.intro (okm_init (Da := mD0) dL_law_4 rfl rfl mwc_0 (wg1 46 rfl rfl) mwn_0 mwi_0 rfl mwd_0) (fun h => h.elim nofun nofun)
theorem t223_7 : e_ok mD223 7 (1, 5, 1, 0, 8) := oks_astore_n dL_law_7 rfl (by decide +kernel)
theorem t223_8 : e_ok mD223 8 (7, 1, 18, 23, 11) := And.intro (fun X ρ => okw_new dL_law_8 rfl hin_18 tyX13_ok (wg5 37 rfl rfl) (wg5 38 rfl rfl) (wg1 11 rfl rfl) rfl) (by decide)
theorem t223_11 : e_ok mD223 11 (2, 1, 0, 0, 12) := oki_dup dL_law_11
theorem t223_12 : e_ok mD223 12 (11, 1, 115, 1, 15) := And.intro (okm_init (Da := mD115) dL_law_12 rfl rfl mwc_115 (wg5 39 rfl rfl) mwn_115 mwi_115 rfl mwd_115) (fun h => h.elim nofun nofun)
theorem t223_15 : e_ok mD223 15 (1, 5, 2, 0, 16) := oks_astore_n dL_law_15 rfl (by decide +kernel)
theorem t223_16 : e_ok mD223 16 (0, 0, 1, 0, 17) := Or.inl (okc_iconst dL_law_16 (by decide +kernel))
theorem t223_17 : e_ok mD223 17 (16, 0, 3, 0, 19) := And.intro (oka_new (by decide) rfl (wg8 41 rfl rfl) dL_law_17) (by decide)
theorem t223_19 : e_ok mD223 19 (1, 5, 3, 0, 20) := oks_astore_n dL_law_19 rfl (by decide +kernel)
theorem t223_20 : e_ok mD223 20 (0, 0, 1, 0, 21) := Or.inl (okc_iconst dL_law_20 (by decide +kernel))
theorem t223_21 : e_ok mD223 21 (16, 0, 4, 0, 23) := And.intro (oka_new (by decide) rfl (wg8 42 rfl rfl) dL_law_21) (by decide)
theorem t223_23 : e_ok mD223 23 (1, 5, 4, 0, 25) := oks_astore dL_law_23 (by decide +kernel)
theorem t223_25 : e_ok mD223 25 (0, 0, 0, 0, 26) := Or.inl (okc_iconst dL_law_25 (by decide +kernel))
theorem t223_26 : e_ok mD223 26 (1, 4, 5, 0, 28) := oks_istore dL_law_26 (by decide +kernel)
theorem t223_28 : e_ok mD223 28 (1, 0, 5, 0, 30) := okl_iload dL_law_28
theorem t223_30 : e_ok mD223 30 (1, 1, 0, 0, 31) := okl_aload_n dL_law_30 rfl
theorem t223_31 : e_ok mD223 31 (14, 2, 0, 0, 32) := trivial
theorem t223_32 : e_ok mD223 32 (0, 0, 3, 0, 33) := Or.inl (okc_iconst dL_law_32 (by decide +kernel))
theorem t223_33 : e_ok mD223 33 (3, 1, 0, 0, 34) := okb_isub dL_law_33
theorem t223_34 : e_ok mD223 34 (6, 4, 1650, 0, 37) := okk_gt dL_law_34 (by decide +kernel)
theorem t223_37 : e_ok mD223 37 (1, 1, 0, 0, 38) := okl_aload_n dL_law_37 rfl
theorem t223_38 : e_ok mD223 38 (1, 0, 5, 0, 40) := okl_iload dL_law_38
theorem t223_40 : e_ok mD223 40 (14, 1, 0, 0, 41) := trivial
theorem t223_41 : e_ok mD223 41 (0, 0, 31, 0, 43) := Or.inl (okc_bipush dL_law_41 (by decide +kernel))
theorem t223_43 : e_ok mD223 43 (3, 5, 0, 0, 44) := okb_iand dL_law_43
theorem t223_44 : e_ok mD223 44 (14, 3, 0, 0, 184) := trivial
theorem t223_184 : e_ok mD223 184 (1, 1, 1, 0, 185) := okl_aload_n dL_law_184 rfl
theorem t223_185 : e_ok mD223 185 (1, 1, 0, 0, 186) := okl_aload_n dL_law_185 rfl
