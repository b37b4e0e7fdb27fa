/-! every entry of the tables -/
theorem t117_85 : e_ok mD117 85 (1, 0, 3, 0, 86) := okl_iload_n dX13_above_85 rfl
theorem t117_86 : e_ok mD117 86 (3, 1, 0, 0, 87) := okb_isub dX13_above_86
theorem t117_87 : e_ok mD117 87 (1, 0, 4, 0, 89) := okl_iload dX13_above_87
theorem t117_89 : e_ok mD117 89 (3, 0, 0, 0, 90) := okb_iadd dX13_above_89
theorem t117_90 : e_ok mD117 90 (11, 0, 171, 1, 93) := And.intro (okCallX.M (okx_static (Da := mD171) dX13_above_90 rfl mwc_171 (wg6 192 rfl rfl) mws_171 mwi_171 mwd_171)) (fun _ => okx_static (Da := mD171) dX13_above_90 rfl mwc_171 (wg6 192 rfl rfl) mws_171 mwi_171 mwd_171)
theorem t117_93 : e_ok mD117 93 (11, 3, 185, 2, 98) := And.intro (okm_iface (ci := 4) (x := ⟨"java/util/List", "add", "(Ljava/lang/Object;)Z"⟩) (Da := mD185) rfl dX13_above_93 rfl mwc_185 (wg5 97 rfl rfl) mwn_185 (wg5 101 rfl rfl) mwi_185 (wn5 99 rfl rfl) (wn5 98 rfl rfl) (wn5 104 rfl rfl) (wn5 102 rfl rfl) (wn5 100 rfl rfl) ⟨by decide +kernel, by decide +kernel, by decide +kernel⟩) (fun h => h.elim nofun nofun)
theorem t117_98 : e_ok mD117 98 (2, 2, 0, 0, 99) := oki_pop dX13_above_98
theorem t117_99 : e_ok mD117 99 (2, 0, 4, 1, 102) := oki_iinc dX13_above_99 (by decide +kernel) (by decide +kernel)
theorem t117_102 : e_ok mD117 102 (2, 4, 0, 0, 18) := oki_goto dX13_above_102 (by decide +kernel)
theorem t117_105 : e_ok mD117 105 (1, 1, 2, 0, 106) := okl_aload_n dX13_above_105 rfl
theorem t117_106 : e_ok mD117 106 (12, 4, 0, 0, 0) := okr_ref dX13_above_106 rfl (Or.inl ⟨_, rfl⟩)
theorem t118_0 : e_ok mD118 0 (1, 1, 0, 0, 1) := okl_aload_n dX13_clearPhases_0 rfl
theorem t118_1 : e_ok mD118 1 (0, 0, 0, 0, 2) := Or.inl (okc_iconst dX13_clearPhases_1 (by decide +kernel))
theorem t118_2 : e_ok mD118 2 (9, 0, 18, 0, 5) := okw_put dX13_clearPhases_2 rfl hin_18 tyX13_ok nmX13 (by decide +kernel) (wg5 169 rfl rfl) rfl rfl (tyX13_ok 0 (by decide +kernel)) (fun V h => fitV_int h)
theorem t118_5 : e_ok mD118 5 (1, 1, 0, 0, 6) := okl_aload_n dX13_clearPhases_5 rfl
theorem t118_6 : e_ok mD118 6 (7, 0, 18, 3, 9) := And.intro (okw_get dX13_clearPhases_6 rfl hin_18 (by decide +kernel) (wg5 173 rfl rfl) rfl) (okx_none (by decide +kernel) _)
theorem t118_9 : e_ok mD118 9 (11, 3, 194, 1, 14) := And.intro (okm_iface (ci := 4) (x := ⟨"java/util/List", "size", "()I"⟩) (Da := mD194) rfl dX13_clearPhases_9 rfl mwc_194 (wg6 38 rfl rfl) mwn_194 (wg6 41 rfl rfl) mwi_194 (wn6 40 rfl rfl) (wn6 39 rfl rfl) (wn6 44 rfl rfl) (wn6 42 rfl rfl) (wn5 100 rfl rfl) ⟨by decide +kernel, by decide +kernel, by decide +kernel⟩) (fun h => h.elim nofun nofun)
theorem t118_14 : e_ok mD118 14 (1, 4, 1, 0, 15) := oks_istore_n dX13_clearPhases_14 rfl (by decide +kernel)
theorem t118_15 : e_ok mD118 15 (1, 1, 0, 0, 16) := okl_aload_n dX13_clearPhases_15 rfl
theorem t118_16 : e_ok mD118 16 (7, 0, 18, 3, 19) := And.intro (okw_get dX13_clearPhases_16 rfl hin_18 (by decide +kernel) (wg5 173 rfl rfl) rfl) (okx_none (by decide +kernel) _)
theorem t118_19 : e_ok mD118 19 (11, 3, 187, 1, 24) := And.intro (okm_iface (ci := 4) (x := ⟨"java/util/List", "clear", "()V"⟩) (Da := mD187) rfl dX13_clearPhases_19 rfl mwc_187 (wg7 46 rfl rfl) mwn_187 (wg7 49 rfl rfl) mwi_187 (wn7 48 rfl rfl) (wn7 47 rfl rfl) (wn7 52 rfl rfl) (wn7 50 rfl rfl) (wn5 100 rfl rfl) ⟨by decide +kernel, by decide +kernel, by decide +kernel⟩) (fun h => h.elim nofun nofun)
theorem t118_24 : e_ok mD118 24 (1, 0, 1, 0, 25) := okl_iload_n dX13_clearPhases_24 rfl
theorem t118_25 : e_ok mD118 25 (12, 1, 0, 0, 0) := okr_int dX13_clearPhases_25 rfl
theorem t119_0 : e_ok mD119 0 (0, 0, 30, 0, 2) := Or.inl (okc_bipush dX13_digging_0 (by decide +kernel))
theorem t119_2 : e_ok mD119 2 (0, 0, 10, 0, 4) := Or.inl (okc_bipush dX13_digging_2 (by decide +kernel))
theorem t119_4 : e_ok mD119 4 (1, 0, 0, 0, 5) := okl_iload_n dX13_digging_4 rfl
theorem t119_5 : e_ok mD119 5 (0, 0, 10, 0, 7) := Or.inl (okc_bipush dX13_digging_5 (by decide +kernel))
theorem t119_7 : e_ok mD119 7 (3, 3, 0, 0, 8) := okb_idiv dX13_digging_7
theorem t119_8 : e_ok mD119 8 (3, 2, 0, 0, 9) := okb_imul dX13_digging_8
theorem t119_9 : e_ok mD119 9 (3, 0, 0, 0, 10) := okb_iadd dX13_digging_9
theorem t119_10 : e_ok mD119 10 (12, 1, 0, 0, 0) := okr_int dX13_digging_10 rfl
theorem t120_0 : e_ok mD120 0 (0, 0, 0, 0, 1) := Or.inl (okc_iconst dX13_dug_0 (by decide +kernel))
theorem t120_1 : e_ok mD120 1 (1, 4, 1, 0, 2) := oks_istore_n dX13_dug_1 rfl (by decide +kernel)
theorem t120_2 : e_ok mD120 2 (1, 1, 0, 0, 3) := okl_aload_n dX13_dug_2 rfl
theorem t120_3 : e_ok mD120 3 (7, 0, 18, 1, 6) := And.intro (okw_get dX13_dug_3 rfl hin_18 (by decide +kernel) (wg5 171 rfl rfl) rfl) (okx_none (by decide +kernel) _)
theorem t120_6 : e_ok mD120 6 (11, 3, 193, 1, 11) := And.intro (okm_iface (ci := 4) (x := ⟨"java/util/List", "iterator", "()Ljava/util/Iterator;"⟩) (Da := mD193) rfl dX13_dug_6 rfl mwc_193 (wg6 74 rfl rfl) mwn_193 (wg6 77 rfl rfl) mwi_193 (wn6 76 rfl rfl) (wn6 75 rfl rfl) (wn6 80 rfl rfl) (wn6 78 rfl rfl) (wn5 100 rfl rfl) ⟨by decide +kernel, by decide +kernel, by decide +kernel⟩) (fun h => h.elim nofun nofun)
theorem t120_11 : e_ok mD120 11 (1, 5, 2, 0, 12) := oks_astore_n dX13_dug_11 rfl (by decide +kernel)
theorem t120_12 : e_ok mD120 12 (1, 1, 2, 0, 13) := okl_aload_n dX13_dug_12 rfl
theorem t120_13 : e_ok mD120 13 (11, 3, 197, 1, 18) := And.intro (okm_iface (ci := 3) (x := ⟨"java/util/Iterator", "hasNext", "()Z"⟩) (Da := mD197) rfl dX13_dug_13 rfl mwc_197 (wg6 102 rfl rfl) mwn_197 (wg6 106 rfl rfl) mwi_197 (wn6 104 rfl rfl) (wn6 103 rfl rfl) (wn6 109 rfl rfl) (wn6 107 rfl rfl) (wn6 105 rfl rfl) ⟨by decide +kernel, by decide +kernel, by decide +kernel⟩) (fun h => h.elim nofun nofun)
theorem t120_18 : e_ok mD120 18 (5, 0, 49, 0, 21) := okj_eq dX13_dug_18 (by decide +kernel)
theorem t120_21 : e_ok mD120 21 (1, 1, 2, 0, 22) := okl_aload_n dX13_dug_21 rfl
theorem t120_22 : e_ok mD120 22 (11, 3, 198, 1, 27) := And.intro (okm_iface (ci := 3) (x := ⟨"java/util/Iterator", "next", "()Ljava/lang/Object;"⟩) (Da := mD198) rfl dX13_dug_22 rfl mwc_198 (wg6 112 rfl rfl) mwn_198 (wg6 115 rfl rfl) mwi_198 (wn6 114 rfl rfl) (wn6 113 rfl rfl) (wn6 118 rfl rfl) (wn6 116 rfl rfl) (wn6 105 rfl rfl) ⟨by decide +kernel, by decide +kernel, by decide +kernel⟩) (fun h => h.elim nofun nofun)
theorem t120_27 : e_ok mD120 27 (7, 2, 15, 0, 30) := okw_cast dX13_dug_27 rfl (wg5 72 rfl rfl)
theorem t120_30 : e_ok mD120 30 (1, 5, 3, 0, 31) := oks_astore_n dX13_dug_30 rfl (by decide +kernel)
theorem t120_31 : e_ok mD120 31 (1, 0, 1, 0, 32) := okl_iload_n dX13_dug_31 rfl
theorem t120_32 : e_ok mD120 32 (1, 1, 3, 0, 33) := okl_aload_n dX13_dug_32 rfl
theorem t120_33 : e_ok mD120 33 (7, 0, 15, 1, 36) := And.intro (okw_getN dX13_dug_33 rfl hin_15 (by decide +kernel) (wn5 80 rfl rfl) rfl) (okx_none (by decide +kernel) _)
theorem t120_36 : e_ok mD120 36 (5, 0, 43, 0, 39) := okj_eq dX13_dug_36 (by decide +kernel)
theorem t120_39 : e_ok mD120 39 (0, 0, 1, 0, 40) := Or.inl (okc_iconst dX13_dug_39 (by decide +kernel))
theorem t120_40 : e_ok mD120 40 (2, 4, 0, 0, 44) := oki_goto dX13_dug_40 (by decide +kernel)
theorem t120_43 : e_ok mD120 43 (0, 0, 0, 0, 44) := Or.inl (okc_iconst dX13_dug_43 (by decide +kernel))
theorem t120_44 : e_ok mD120 44 (3, 0, 0, 0, 45) := okb_iadd dX13_dug_44
theorem t120_45 : e_ok mD120 45 (1, 4, 1, 0, 46) := oks_istore_n dX13_dug_45 rfl (by decide +kernel)
theorem t120_46 : e_ok mD120 46 (2, 4, 0, 0, 12) := oki_goto dX13_dug_46 (by decide +kernel)
theorem t120_49 : e_ok mD120 49 (1, 0, 1, 0, 50) := okl_iload_n dX13_dug_49 rfl
theorem t120_50 : e_ok mD120 50 (12, 1, 0, 0, 0) := okr_int dX13_dug_50 rfl
theorem t121_0 : e_ok mD121 0 (1, 1, 0, 0, 1) := okl_aload_n dX13_dugIn_0 rfl
theorem t121_1 : e_ok mD121 1 (1, 0, 1, 0, 2) := okl_iload_n dX13_dugIn_1 rfl
theorem t121_2 : e_ok mD121 2 (11, 2, 134, 2, 5) := And.intro (okCallX.M (okx_virtual (Da := mD134) dX13_dugIn_2 rfl mwc_134 (wg7 228 rfl rfl) mwn_134 mwv_134 mwi_134 mwd_134)) (fun _ => okx_virtual (Da := mD134) dX13_dugIn_2 rfl mwc_134 (wg7 228 rfl rfl) mwn_134 mwv_134 mwi_134 mwd_134)
theorem t121_5 : e_ok mD121 5 (5, 0, 12, 0, 8) := okj_eq dX13_dugIn_5 (by decide +kernel)
theorem t121_8 : e_ok mD121 8 (0, 0, 0, 0, 9) := Or.inl (okc_iconst dX13_dugIn_8 (by decide +kernel))
theorem t121_9 : e_ok mD121 9 (2, 4, 0, 0, 28) := oki_goto dX13_dugIn_9 (by decide +kernel)
theorem t121_12 : e_ok mD121 12 (1, 1, 0, 0, 13) := okl_aload_n dX13_dugIn_12 rfl
theorem t121_13 : e_ok mD121 13 (7, 0, 18, 1, 16) := And.intro (okw_get dX13_dugIn_13 rfl hin_18 (by decide +kernel) (wg5 171 rfl rfl) rfl) (okx_none (by decide +kernel) _)
theorem t121_16 : e_ok mD121 16 (1, 0, 1, 0, 17) := okl_iload_n dX13_dugIn_16 rfl
theorem t121_17 : e_ok mD121 17 (11, 3, 189, 2, 22) := And.intro (okm_iface (ci := 4) (x := ⟨"java/util/List", "get", "(I)Ljava/lang/Object;"⟩) (Da := mD189) rfl dX13_dugIn_17 rfl mwc_189 (wg6 11 rfl rfl) mwn_189 (wg6 14 rfl rfl) mwi_189 (wn6 13 rfl rfl) (wn6 12 rfl rfl) (wn6 17 rfl rfl) (wn6 15 rfl rfl) (wn5 100 rfl rfl) ⟨by decide +kernel, by decide +kernel, by decide +kernel⟩) (fun h => h.elim nofun nofun)
theorem t121_22 : e_ok mD121 22 (7, 2, 15, 0, 25) := okw_cast dX13_dugIn_22 rfl (wg5 72 rfl rfl)
theorem t121_25 : e_ok mD121 25 (7, 0, 15, 3, 28) := And.intro (okw_getN dX13_dugIn_25 rfl hin_15 (by decide +kernel) (wn5 83 rfl rfl) rfl) (okx_none (by decide +kernel) _)
theorem t121_28 : e_ok mD121 28 (12, 1, 0, 0, 0) := okr_int dX13_dugIn_28 rfl
theorem t122_0 : e_ok mD122 0 (1, 1, 0, 0, 1) := okl_aload_n dX13_dugShare_0 rfl
theorem t122_1 : e_ok mD122 1 (0, 0, 0, 0, 2) := Or.inl (okc_iconst dX13_dugShare_1 (by decide +kernel))
theorem t122_2 : e_ok mD122 2 (9, 0, 18, 0, 5) := okw_put dX13_dugShare_2 rfl hin_18 tyX13_ok nmX13 (by decide +kernel) (wg5 169 rfl rfl) rfl rfl (tyX13_ok 0 (by decide +kernel)) (fun V h => fitV_int h)
theorem t122_5 : e_ok mD122 5 (1, 1, 0, 0, 6) := okl_aload_n dX13_dugShare_5 rfl
theorem t122_6 : e_ok mD122 6 (11, 2, 120, 1, 9) := And.intro (okCallX.M (okx_virtual (Da := mD120) dX13_dugShare_6 rfl mwc_120 (wg7 162 rfl rfl) mwn_120 mwv_120 mwi_120 mwd_120)) (fun _ => okx_virtual (Da := mD120) dX13_dugShare_6 rfl mwc_120 (wg7 162 rfl rfl) mwn_120 mwv_120 mwi_120 mwd_120)
theorem t122_9 : e_ok mD122 9 (15, 6, 0, 0, 10) := okm_i2f dX13_dugShare_9
theorem t122_10 : e_ok mD122 10 (0, 3, 1114636288, 0, 13) := okc_ldcfw dX13_dugShare_10 (wg8 36 rfl rfl)
theorem t122_13 : e_ok mD122 13 (15, 7, 0, 0, 14) := okm_fdiv dX13_dugShare_13
theorem t122_14 : e_ok mD122 14 (12, 5, 0, 0, 0) := okr_float dX13_dugShare_14 rfl
theorem t123_0 : e_ok mD123 0 (1, 1, 0, 0, 1) := okl_aload_n dX13_factor_0 rfl
theorem t123_1 : e_ok mD123 1 (1, 1, 0, 0, 2) := okl_aload_n dX13_factor_1 rfl
theorem t123_2 : e_ok mD123 2 (7, 0, 18, 12, 5) := And.intro (okw_get dX13_factor_2 rfl hin_18 (by decide +kernel) (wg5 182 rfl rfl) rfl) (okx_none (by decide +kernel) _)
theorem t123_5 : e_ok mD123 5 (5, 1, 12, 0, 8) := okj_ne dX13_factor_5 (by decide +kernel)
theorem t123_8 : e_ok mD123 8 (0, 0, 1, 0, 9) := Or.inl (okc_iconst dX13_factor_8 (by decide +kernel))
theorem t123_9 : e_ok mD123 9 (2, 4, 0, 0, 13) := oki_goto dX13_factor_9 (by decide +kernel)
theorem t123_12 : e_ok mD123 12 (0, 0, 0, 0, 13) := Or.inl (okc_iconst dX13_factor_12 (by decide +kernel))
theorem t123_13 : e_ok mD123 13 (11, 2, 136, 2, 16) := And.intro (okCallX.M (okx_virtual (Da := mD136) dX13_factor_13 rfl mwc_136 (wg6 29 rfl rfl) mwn_136 mwv_136 mwi_136 mwd_136)) (fun _ => okx_virtual (Da := mD136) dX13_factor_13 rfl mwc_136 (wg6 29 rfl rfl) mwn_136 mwv_136 mwi_136 mwd_136)
theorem t123_16 : e_ok mD123 16 (5, 0, 23, 0, 19) := okj_eq dX13_factor_16 (by decide +kernel)
theorem t123_19 : e_ok mD123 19 (0, 0, 0, 0, 20) := Or.inl (okc_iconst dX13_factor_19 (by decide +kernel))
theorem t123_20 : e_ok mD123 20 (2, 4, 0, 0, 35) := oki_goto dX13_factor_20 (by decide +kernel)
theorem t123_23 : e_ok mD123 23 (0, 0, 100, 0, 25) := Or.inl (okc_bipush dX13_factor_23 (by decide +kernel))
theorem t123_25 : e_ok mD123 25 (1, 1, 0, 0, 26) := okl_aload_n dX13_factor_25 rfl
theorem t123_26 : e_ok mD123 26 (7, 0, 18, 11, 29) := And.intro (okw_get dX13_factor_26 rfl hin_18 (by decide +kernel) (wg5 181 rfl rfl) rfl) (okx_none (by decide +kernel) _)
theorem t123_29 : e_ok mD123 29 (3, 2, 0, 0, 30) := okb_imul dX13_factor_29
theorem t123_30 : e_ok mD123 30 (1, 1, 0, 0, 31) := okl_aload_n dX13_factor_30 rfl
theorem t123_31 : e_ok mD123 31 (7, 0, 18, 12, 34) := And.intro (okw_get dX13_factor_31 rfl hin_18 (by decide +kernel) (wg5 182 rfl rfl) rfl) (okx_none (by decide +kernel) _)
theorem t123_34 : e_ok mD123 34 (3, 3, 0, 0, 35) := okb_idiv dX13_factor_34
theorem t123_35 : e_ok mD123 35 (12, 1, 0, 0, 0) := okr_int dX13_factor_35 rfl
theorem t124_0 : e_ok mD124 0 (0, 0, 4294967295, 0, 1) := Or.inl (okc_iconst dX13_flooded_0 (by decide +kernel))
theorem t124_1 : e_ok mD124 1 (1, 4, 1, 0, 2) := oks_istore_n dX13_flooded_1 rfl (by decide +kernel)
theorem t124_2 : e_ok mD124 2 (0, 0, 0, 0, 3) := Or.inl (okc_iconst dX13_flooded_2 (by decide +kernel))
theorem t124_3 : e_ok mD124 3 (1, 4, 2, 0, 4) := oks_istore_n dX13_flooded_3 rfl (by decide +kernel)
theorem t124_4 : e_ok mD124 4 (1, 0, 2, 0, 5) := okl_iload_n dX13_flooded_4 rfl
theorem t124_5 : e_ok mD124 5 (0, 0, 60, 0, 7) := Or.inl (okc_bipush dX13_flooded_5 (by decide +kernel))
theorem t124_7 : e_ok mD124 7 (6, 3, 44, 0, 10) := okk_ge dX13_flooded_7 (by decide +kernel)
theorem t124_10 : e_ok mD124 10 (1, 1, 0, 0, 11) := okl_aload_n dX13_flooded_10 rfl
theorem t124_11 : e_ok mD124 11 (7, 0, 18, 1, 14) := And.intro (okw_get dX13_flooded_11 rfl hin_18 (by decide +kernel) (wg5 171 rfl rfl) rfl) (okx_none (by decide +kernel) _)
theorem t124_14 : e_ok mD124 14 (1, 0, 2, 0, 15) := okl_iload_n dX13_flooded_14 rfl
theorem t124_15 : e_ok mD124 15 (11, 3, 189, 2, 20) := And.intro (okm_iface (ci := 4) (x := ⟨"java/util/List", "get", "(I)Ljava/lang/Object;"⟩) (Da := mD189) rfl dX13_flooded_15 rfl mwc_189 (wg6 11 rfl rfl) mwn_189 (wg6 14 rfl rfl) mwi_189 (wn6 13 rfl rfl) (wn6 12 rfl rfl) (wn6 17 rfl rfl) (wn6 15 rfl rfl) (wn5 100 rfl rfl) ⟨by decide +kernel, by decide +kernel, by decide +kernel⟩) (fun h => h.elim nofun nofun)
theorem t124_20 : e_ok mD124 20 (7, 2, 15, 0, 23) := okw_cast dX13_flooded_20 rfl (wg5 72 rfl rfl)
theorem t124_23 : e_ok mD124 23 (7, 0, 15, 1, 26) := And.intro (okw_getN dX13_flooded_23 rfl hin_15 (by decide +kernel) (wn5 80 rfl rfl) rfl) (okx_none (by decide +kernel) _)
theorem t124_26 : e_ok mD124 26 (5, 0, 36, 0, 29) := okj_eq dX13_flooded_26 (by decide +kernel)
theorem t124_29 : e_ok mD124 29 (1, 0, 2, 0, 30) := okl_iload_n dX13_flooded_29 rfl
theorem t124_30 : e_ok mD124 30 (0, 0, 10, 0, 32) := Or.inl (okc_bipush dX13_flooded_30 (by decide +kernel))
theorem t124_32 : e_ok mD124 32 (3, 3, 0, 0, 33) := okb_idiv dX13_flooded_32
theorem t124_33 : e_ok mD124 33 (2, 4, 0, 0, 37) := oki_goto dX13_flooded_33 (by decide +kernel)
theorem t124_36 : e_ok mD124 36 (1, 0, 1, 0, 37) := okl_iload_n dX13_flooded_36 rfl
theorem t124_37 : e_ok mD124 37 (1, 4, 1, 0, 38) := oks_istore_n dX13_flooded_37 rfl (by decide +kernel)
theorem t124_38 : e_ok mD124 38 (2, 0, 2, 1, 41) := oki_iinc dX13_flooded_38 (by decide +kernel) (by decide +kernel)
theorem t124_41 : e_ok mD124 41 (2, 4, 0, 0, 4) := oki_goto dX13_flooded_41 (by decide +kernel)
theorem t124_44 : e_ok mD124 44 (1, 1, 0, 0, 45) := okl_aload_n dX13_flooded_44 rfl
theorem t124_45 : e_ok mD124 45 (7, 0, 18, 9, 48) := And.intro (okw_get dX13_flooded_45 rfl hin_18 (by decide +kernel) (wg5 179 rfl rfl) rfl) (okx_none (by decide +kernel) _)
theorem t124_48 : e_ok mD124 48 (0, 0, 50, 0, 50) := Or.inl (okc_bipush dX13_flooded_48 (by decide +kernel))
theorem t124_50 : e_ok mD124 50 (6, 5, 65, 0, 53) := okk_le dX13_flooded_50 (by decide +kernel)
theorem t124_53 : e_ok mD124 53 (1, 0, 1, 0, 54) := okl_iload_n dX13_flooded_53 rfl
theorem t124_54 : e_ok mD124 54 (5, 2, 65, 0, 57) := okj_lt dX13_flooded_54 (by decide +kernel)
theorem t124_57 : e_ok mD124 57 (0, 0, 1, 0, 58) := Or.inl (okc_iconst dX13_flooded_57 (by decide +kernel))
theorem t124_58 : e_ok mD124 58 (1, 0, 1, 0, 59) := okl_iload_n dX13_flooded_58 rfl
theorem t124_59 : e_ok mD124 59 (11, 0, 172, 2, 62) := And.intro (okCallX.M (okx_static (Da := mD172) dX13_flooded_59 rfl mwc_172 (wg6 176 rfl rfl) mws_172 mwi_172 mwd_172)) (fun _ => okx_static (Da := mD172) dX13_flooded_59 rfl mwc_172 (wg6 176 rfl rfl) mws_172 mwi_172 mwd_172)
theorem t124_62 : e_ok mD124 62 (2, 4, 0, 0, 67) := oki_goto dX13_flooded_62 (by decide +kernel)
theorem t124_65 : e_ok mD124 65 (0, 0, 6, 0, 67) := Or.inl (okc_bipush dX13_flooded_65 (by decide +kernel))
theorem t124_67 : e_ok mD124 67 (12, 1, 0, 0, 0) := okr_int dX13_flooded_67 rfl
theorem t125_0 : e_ok mD125 0 (1, 1, 0, 0, 1) := okl_aload_n dX13_goOn_0 rfl
theorem t125_1 : e_ok mD125 1 (1, 0, 1, 0, 2) := okl_iload_n dX13_goOn_1 rfl
theorem t125_2 : e_ok mD125 2 (0, 0, 1, 0, 3) := Or.inl (okc_iconst dX13_goOn_2 (by decide +kernel))
theorem t125_3 : e_ok mD125 3 (0, 0, 20, 0, 5) := Or.inl (okc_bipush dX13_goOn_3 (by decide +kernel))
theorem t125_5 : e_ok mD125 5 (11, 0, 129, 3, 8) := And.intro (okCallX.M (okx_static (Da := mD129) dX13_goOn_5 rfl mwc_129 (wg6 7 rfl rfl) mws_129 mwi_129 mwd_129)) (fun _ => okx_static (Da := mD129) dX13_goOn_5 rfl mwc_129 (wg6 7 rfl rfl) mws_129 mwi_129 mwd_129)
theorem t125_8 : e_ok mD125 8 (5, 0, 15, 0, 11) := okj_eq dX13_goOn_8 (by decide +kernel)
theorem t125_11 : e_ok mD125 11 (0, 0, 0, 0, 12) := Or.inl (okc_iconst dX13_goOn_11 (by decide +kernel))
theorem t125_12 : e_ok mD125 12 (2, 4, 0, 0, 16) := oki_goto dX13_goOn_12 (by decide +kernel)
theorem t125_15 : e_ok mD125 15 (0, 0, 1, 0, 16) := Or.inl (okc_iconst dX13_goOn_15 (by decide +kernel))
theorem t125_16 : e_ok mD125 16 (11, 2, 136, 2, 19) := And.intro (okCallX.M (okx_virtual (Da := mD136) dX13_goOn_16 rfl mwc_136 (wg6 29 rfl rfl) mwn_136 mwv_136 mwi_136 mwd_136)) (fun _ => okx_virtual (Da := mD136) dX13_goOn_16 rfl mwc_136 (wg6 29 rfl rfl) mwn_136 mwv_136 mwi_136 mwd_136)
theorem t125_19 : e_ok mD125 19 (5, 0, 24, 0, 22) := okj_eq dX13_goOn_19 (by decide +kernel)
theorem t125_22 : e_ok mD125 22 (0, 0, 0, 0, 23) := Or.inl (okc_iconst dX13_goOn_22 (by decide +kernel))
theorem t125_23 : e_ok mD125 23 (12, 1, 0, 0, 0) := okr_int dX13_goOn_23 rfl
theorem t125_24 : e_ok mD125 24 (1, 1, 0, 0, 25) := okl_aload_n dX13_goOn_24 rfl
theorem t125_25 : e_ok mD125 25 (11, 2, 120, 1, 28) := And.intro (okCallX.M (okx_virtual (Da := mD120) dX13_goOn_25 rfl mwc_120 (wg7 162 rfl rfl) mwn_120 mwv_120 mwi_120 mwd_120)) (fun _ => okx_virtual (Da := mD120) dX13_goOn_25 rfl mwc_120 (wg7 162 rfl rfl) mwn_120 mwv_120 mwi_120 mwd_120)
theorem t125_28 : e_ok mD125 28 (1, 4, 2, 0, 29) := oks_istore_n dX13_goOn_28 rfl (by decide +kernel)
theorem t125_29 : e_ok mD125 29 (0, 0, 0, 0, 30) := Or.inl (okc_iconst dX13_goOn_29 (by decide +kernel))
theorem t125_30 : e_ok mD125 30 (1, 4, 3, 0, 31) := oks_istore_n dX13_goOn_30 rfl (by decide +kernel)
theorem t125_31 : e_ok mD125 31 (1, 0, 3, 0, 32) := okl_iload_n dX13_goOn_31 rfl
theorem t125_32 : e_ok mD125 32 (1, 0, 1, 0, 33) := okl_iload_n dX13_goOn_32 rfl
theorem t125_33 : e_ok mD125 33 (6, 3, 46, 0, 36) := okk_ge dX13_goOn_33 (by decide +kernel)
theorem t125_36 : e_ok mD125 36 (1, 1, 0, 0, 37) := okl_aload_n dX13_goOn_36 rfl
theorem t125_37 : e_ok mD125 37 (11, 2, 116, 1, 40) := And.intro (okCallX.M (okx_virtual (Da := mD116) dX13_goOn_37 rfl mwc_116 (wg7 166 rfl rfl) mwn_116 mwv_116 mwi_116 mwd_116)) (fun _ => okx_virtual (Da := mD116) dX13_goOn_37 rfl mwc_116 (wg7 166 rfl rfl) mwn_116 mwv_116 mwi_116 mwd_116)
theorem t125_40 : e_ok mD125 40 (2, 0, 3, 1, 43) := oki_iinc dX13_goOn_40 (by decide +kernel) (by decide +kernel)
theorem t125_43 : e_ok mD125 43 (2, 4, 0, 0, 31) := oki_goto dX13_goOn_43 (by decide +kernel)
theorem t125_46 : e_ok mD125 46 (1, 1, 0, 0, 47) := okl_aload_n dX13_goOn_46 rfl
theorem t125_47 : e_ok mD125 47 (11, 2, 120, 1, 50) := And.intro (okCallX.M (okx_virtual (Da := mD120) dX13_goOn_47 rfl mwc_120 (wg7 162 rfl rfl) mwn_120 mwv_120 mwi_120 mwd_120)) (fun _ => okx_virtual (Da := mD120) dX13_goOn_47 rfl mwc_120 (wg7 162 rfl rfl) mwn_120 mwv_120 mwi_120 mwd_120)
theorem t125_50 : e_ok mD125 50 (1, 0, 2, 0, 51) := okl_iload_n dX13_goOn_50 rfl
theorem t125_51 : e_ok mD125 51 (3, 1, 0, 0, 52) := okb_isub dX13_goOn_51
theorem t125_52 : e_ok mD125 52 (12, 1, 0, 0, 0) := okr_int dX13_goOn_52 rfl
theorem t126_0 : e_ok mD126 0 (1, 1, 0, 0, 1) := okl_aload_n dX13_grade_0 rfl
theorem t126_1 : e_ok mD126 1 (1, 0, 1, 0, 2) := okl_iload_n dX13_grade_1 rfl
theorem t126_2 : e_ok mD126 2 (11, 0, 130, 1, 5) := And.intro (okCallX.M (okx_static (Da := mD130) dX13_grade_2 rfl mwc_130 (wg6 4 rfl rfl) mws_130 mwi_130 mwd_130)) (fun _ => okx_static (Da := mD130) dX13_grade_2 rfl mwc_130 (wg6 4 rfl rfl) mws_130 mwi_130 mwd_130)
theorem t126_5 : e_ok mD126 5 (5, 0, 12, 0, 8) := okj_eq dX13_grade_5 (by decide +kernel)
theorem t126_8 : e_ok mD126 8 (0, 0, 0, 0, 9) := Or.inl (okc_iconst dX13_grade_8 (by decide +kernel))
theorem t126_9 : e_ok mD126 9 (2, 4, 0, 0, 13) := oki_goto dX13_grade_9 (by decide +kernel)
theorem t126_12 : e_ok mD126 12 (0, 0, 1, 0, 13) := Or.inl (okc_iconst dX13_grade_12 (by decide +kernel))
theorem t126_13 : e_ok mD126 13 (11, 2, 136, 2, 16) := And.intro (okCallX.M (okx_virtual (Da := mD136) dX13_grade_13 rfl mwc_136 (wg6 29 rfl rfl) mwn_136 mwv_136 mwi_136 mwd_136)) (fun _ => okx_virtual (Da := mD136) dX13_grade_13 rfl mwc_136 (wg6 29 rfl rfl) mwn_136 mwv_136 mwi_136 mwd_136)
theorem t126_16 : e_ok mD126 16 (5, 0, 23, 0, 19) := okj_eq dX13_grade_16 (by decide +kernel)
theorem t126_19 : e_ok mD126 19 (0, 0, 0, 0, 20) := Or.inl (okc_iconst dX13_grade_19 (by decide +kernel))
theorem t126_20 : e_ok mD126 20 (2, 4, 0, 0, 28) := oki_goto dX13_grade_20 (by decide +kernel)
theorem t126_23 : e_ok mD126 23 (1, 1, 0, 0, 24) := okl_aload_n dX13_grade_23 rfl
theorem t126_24 : e_ok mD126 24 (1, 0, 1, 0, 25) := okl_iload_n dX13_grade_24 rfl
theorem t126_25 : e_ok mD126 25 (11, 2, 127, 2, 28) := And.intro (okCallX.M (okx_virtual (Da := mD127) dX13_grade_25 rfl mwc_127 (wg6 69 rfl rfl) mwn_127 mwv_127 mwi_127 mwd_127)) (fun _ => okx_virtual (Da := mD127) dX13_grade_25 rfl mwc_127 (wg6 69 rfl rfl) mwn_127 mwv_127 mwi_127 mwd_127)
theorem t126_28 : e_ok mD126 28 (12, 1, 0, 0, 0) := okr_int dX13_grade_28 rfl
theorem t127_0 : e_ok mD127 0 (0, 2, 0, 0, 1) := okc_dconst0 dX13_gradeOf_0
theorem t127_1 : e_ok mD127 1 (1, 7, 2, 0, 2) := oks_dstore_n dX13_gradeOf_1 rfl (by decide +kernel)
theorem t127_2 : e_ok mD127 2 (0, 2, 0, 0, 3) := okc_dconst0 dX13_gradeOf_2
theorem t127_3 : e_ok mD127 3 (1, 7, 4, 0, 5) := oks_dstore dX13_gradeOf_3 (by decide +kernel)
theorem t127_5 : e_ok mD127 5 (0, 2, 0, 0, 6) := okc_dconst0 dX13_gradeOf_5
theorem t127_6 : e_ok mD127 6 (1, 7, 6, 0, 8) := oks_dstore dX13_gradeOf_6 (by decide +kernel)
theorem t127_8 : e_ok mD127 8 (0, 0, 0, 0, 9) := Or.inl (okc_iconst dX13_gradeOf_8 (by decide +kernel))
theorem t127_9 : e_ok mD127 9 (1, 4, 8, 0, 11) := oks_istore dX13_gradeOf_9 (by decide +kernel)
theorem t127_11 : e_ok mD127 11 (1, 1, 0, 0, 12) := okl_aload_n dX13_gradeOf_11 rfl
theorem t127_12 : e_ok mD127 12 (7, 0, 18, 2, 15) := And.intro (okw_get dX13_gradeOf_12 rfl hin_18 (by decide +kernel) (wg5 172 rfl rfl) rfl) (okx_none (by decide +kernel) _)
theorem t127_15 : e_ok mD127 15 (11, 3, 193, 1, 20) := And.intro (okm_iface (ci := 4) (x := ⟨"java/util/List", "iterator", "()Ljava/util/Iterator;"⟩) (Da := mD193) rfl dX13_gradeOf_15 rfl mwc_193 (wg6 74 rfl rfl) mwn_193 (wg6 77 rfl rfl) mwi_193 (wn6 76 rfl rfl) (wn6 75 rfl rfl) (wn6 80 rfl rfl) (wn6 78 rfl rfl) (wn5 100 rfl rfl) ⟨by decide +kernel, by decide +kernel, by decide +kernel⟩) (fun h => h.elim nofun nofun)
theorem t127_20 : e_ok mD127 20 (1, 5, 9, 0, 22) := oks_astore dX13_gradeOf_20 (by decide +kernel)
theorem t127_22 : e_ok mD127 22 (1, 1, 9, 0, 24) := okl_aload dX13_gradeOf_22
theorem t127_24 : e_ok mD127 24 (11, 3, 197, 1, 29) := And.intro (okm_iface (ci := 3) (x := ⟨"java/util/Iterator", "hasNext", "()Z"⟩) (Da := mD197) rfl dX13_gradeOf_24 rfl mwc_197 (wg6 102 rfl rfl) mwn_197 (wg6 106 rfl rfl) mwi_197 (wn6 104 rfl rfl) (wn6 103 rfl rfl) (wn6 109 rfl rfl) (wn6 107 rfl rfl) (wn6 105 rfl rfl) ⟨by decide +kernel, by decide +kernel, by decide +kernel⟩) (fun h => h.elim nofun nofun)
theorem t127_29 : e_ok mD127 29 (5, 0, 140, 0, 32) := okj_eq dX13_gradeOf_29 (by decide +kernel)
theorem t127_32 : e_ok mD127 32 (1, 1, 9, 0, 34) := okl_aload dX13_gradeOf_32
theorem t127_34 : e_ok mD127 34 (11, 3, 198, 1, 39) := And.intro (okm_iface (ci := 3) (x := ⟨"java/util/Iterator", "next", "()Ljava/lang/Object;"⟩) (Da := mD198) rfl dX13_gradeOf_34 rfl mwc_198 (wg6 112 rfl rfl) mwn_198 (wg6 115 rfl rfl) mwi_198 (wn6 114 rfl rfl) (wn6 113 rfl rfl) (wn6 118 rfl rfl) (wn6 116 rfl rfl) (wn6 105 rfl rfl) ⟨by decide +kernel, by decide +kernel, by decide +kernel⟩) (fun h => h.elim nofun nofun)
theorem t127_39 : e_ok mD127 39 (7, 2, 17, 0, 42) := okw_cast dX13_gradeOf_39 rfl (wg6 46 rfl rfl)
theorem t127_42 : e_ok mD127 42 (1, 5, 10, 0, 44) := oks_astore dX13_gradeOf_42 (by decide +kernel)
theorem t127_44 : e_ok mD127 44 (1, 1, 10, 0, 46) := okl_aload dX13_gradeOf_44
theorem t127_46 : e_ok mD127 46 (7, 0, 17, 0, 49) := And.intro (okw_getN dX13_gradeOf_46 rfl hin_17 (by decide +kernel) (wn6 53 rfl rfl) rfl) (okx_none (by decide +kernel) _)
theorem t127_49 : e_ok mD127 49 (1, 0, 1, 0, 50) := okl_iload_n dX13_gradeOf_49 rfl
theorem t127_50 : e_ok mD127 50 (6, 1, 68, 0, 53) := okk_ne dX13_gradeOf_50 (by decide +kernel)
theorem t127_53 : e_ok mD127 53 (1, 3, 2, 0, 54) := okl_dload_n dX13_gradeOf_53 rfl
theorem t127_54 : e_ok mD127 54 (1, 1, 10, 0, 56) := okl_aload dX13_gradeOf_54
theorem t127_56 : e_ok mD127 56 (7, 0, 17, 1, 59) := And.intro (okw_getN dX13_gradeOf_56 rfl hin_17 (by decide +kernel) (wn6 55 rfl rfl) rfl) (okx_none (by decide +kernel) _)
theorem t127_61 : e_ok mD127 61 (1, 7, 2, 0, 62) := oks_dstore_n dX13_gradeOf_61 rfl (by decide +kernel)
theorem t127_62 : e_ok mD127 62 (2, 0, 8, 1, 65) := oki_iinc dX13_gradeOf_62 (by decide +kernel) (by decide +kernel)
theorem t127_65 : e_ok mD127 65 (2, 4, 0, 0, 22) := oki_goto dX13_gradeOf_65 (by decide +kernel)
theorem t127_68 : e_ok mD127 68 (1, 1, 10, 0, 70) := okl_aload dX13_gradeOf_68
theorem t127_70 : e_ok mD127 70 (7, 0, 17, 0, 73) := And.intro (okw_getN dX13_gradeOf_70 rfl hin_17 (by decide +kernel) (wn6 53 rfl rfl) rfl) (okx_none (by decide +kernel) _)
theorem t127_73 : e_ok mD127 73 (0, 0, 10, 0, 75) := Or.inl (okc_bipush dX13_gradeOf_73 (by decide +kernel))
theorem t127_75 : e_ok mD127 75 (3, 4, 0, 0, 76) := okb_irem dX13_gradeOf_75
theorem t127_76 : e_ok mD127 76 (1, 0, 1, 0, 77) := okl_iload_n dX13_gradeOf_76 rfl
theorem t127_77 : e_ok mD127 77 (0, 0, 10, 0, 79) := Or.inl (okc_bipush dX13_gradeOf_77 (by decide +kernel))
theorem t127_79 : e_ok mD127 79 (3, 4, 0, 0, 80) := okb_irem dX13_gradeOf_79
theorem t127_80 : e_ok mD127 80 (3, 1, 0, 0, 81) := okb_isub dX13_gradeOf_80
theorem t127_81 : e_ok mD127 81 (1, 4, 11, 0, 83) := oks_istore dX13_gradeOf_81 (by decide +kernel)
theorem t127_83 : e_ok mD127 83 (1, 1, 10, 0, 85) := okl_aload dX13_gradeOf_83
theorem t127_85 : e_ok mD127 85 (7, 0, 17, 0, 88) := And.intro (okw_getN dX13_gradeOf_85 rfl hin_17 (by decide +kernel) (wn6 53 rfl rfl) rfl) (okx_none (by decide +kernel) _)
theorem t127_88 : e_ok mD127 88 (0, 0, 10, 0, 90) := Or.inl (okc_bipush dX13_gradeOf_88 (by decide +kernel))
theorem t127_90 : e_ok mD127 90 (3, 3, 0, 0, 91) := okb_idiv dX13_gradeOf_90
theorem t127_91 : e_ok mD127 91 (1, 0, 1, 0, 92) := okl_iload_n dX13_gradeOf_91 rfl
theorem t127_92 : e_ok mD127 92 (0, 0, 10, 0, 94) := Or.inl (okc_bipush dX13_gradeOf_92 (by decide +kernel))
theorem t127_94 : e_ok mD127 94 (3, 3, 0, 0, 95) := okb_idiv dX13_gradeOf_94
theorem t127_95 : e_ok mD127 95 (3, 1, 0, 0, 96) := okb_isub dX13_gradeOf_95
theorem t127_96 : e_ok mD127 96 (1, 4, 12, 0, 98) := oks_istore dX13_gradeOf_96 (by decide +kernel)
theorem t127_99 : e_ok mD127 99 (1, 0, 11, 0, 101) := okl_iload dX13_gradeOf_99
theorem t127_101 : e_ok mD127 101 (1, 0, 11, 0, 103) := okl_iload dX13_gradeOf_101
theorem t127_103 : e_ok mD127 103 (3, 2, 0, 0, 104) := okb_imul dX13_gradeOf_103
theorem t127_104 : e_ok mD127 104 (0, 0, 4, 0, 105) := Or.inl (okc_iconst dX13_gradeOf_104 (by decide +kernel))
theorem t127_105 : e_ok mD127 105 (1, 0, 12, 0, 107) := okl_iload dX13_gradeOf_105
theorem t127_107 : e_ok mD127 107 (3, 2, 0, 0, 108) := okb_imul dX13_gradeOf_107
theorem t127_108 : e_ok mD127 108 (1, 0, 12, 0, 110) := okl_iload dX13_gradeOf_108
theorem t127_110 : e_ok mD127 110 (3, 2, 0, 0, 111) := okb_imul dX13_gradeOf_110
theorem t127_111 : e_ok mD127 111 (3, 0, 0, 0, 112) := okb_iadd dX13_gradeOf_111
theorem t127_114 : e_ok mD127 114 (1, 7, 13, 0, 116) := oks_dstore dX13_gradeOf_114 (by decide +kernel)
theorem t127_116 : e_ok mD127 116 (1, 3, 4, 0, 118) := okl_dload dX13_gradeOf_116
theorem t127_118 : e_ok mD127 118 (1, 3, 13, 0, 120) := okl_dload dX13_gradeOf_118
theorem t127_120 : e_ok mD127 120 (1, 1, 10, 0, 122) := okl_aload dX13_gradeOf_120
theorem t127_122 : e_ok mD127 122 (7, 0, 17, 1, 125) := And.intro (okw_getN dX13_gradeOf_122 rfl hin_17 (by decide +kernel) (wn6 55 rfl rfl) rfl) (okx_none (by decide +kernel) _)
theorem t127_128 : e_ok mD127 128 (1, 7, 4, 0, 130) := oks_dstore dX13_gradeOf_128 (by decide +kernel)
theorem t127_130 : e_ok mD127 130 (1, 3, 6, 0, 132) := okl_dload dX13_gradeOf_130
theorem t127_132 : e_ok mD127 132 (1, 3, 13, 0, 134) := okl_dload dX13_gradeOf_132
theorem t127_135 : e_ok mD127 135 (1, 7, 6, 0, 137) := oks_dstore dX13_gradeOf_135 (by decide +kernel)
theorem t127_137 : e_ok mD127 137 (2, 4, 0, 0, 22) := oki_goto dX13_gradeOf_137 (by decide +kernel)
theorem t127_140 : e_ok mD127 140 (1, 1, 0, 0, 141) := okl_aload_n dX13_gradeOf_140 rfl
theorem t127_141 : e_ok mD127 141 (7, 0, 18, 2, 144) := And.intro (okw_get dX13_gradeOf_141 rfl hin_18 (by decide +kernel) (wg5 172 rfl rfl) rfl) (okx_none (by decide +kernel) _)
theorem t127_144 : e_ok mD127 144 (11, 3, 192, 1, 149) := And.intro (okm_iface (ci := 4) (x := ⟨"java/util/List", "isEmpty", "()Z"⟩) (Da := mD192) rfl dX13_gradeOf_144 rfl mwc_192 (wg6 136 rfl rfl) mwn_192 (wg6 139 rfl rfl) mwi_192 (wn6 138 rfl rfl) (wn6 137 rfl rfl) (wn6 142 rfl rfl) (wn6 140 rfl rfl) (wn5 100 rfl rfl) ⟨by decide +kernel, by decide +kernel, by decide +kernel⟩) (fun h => h.elim nofun nofun)
theorem t127_149 : e_ok mD127 149 (5, 0, 154, 0, 152) := okj_eq dX13_gradeOf_149 (by decide +kernel)
theorem t127_152 : e_ok mD127 152 (0, 0, 0, 0, 153) := Or.inl (okc_iconst dX13_gradeOf_152 (by decide +kernel))
theorem t127_153 : e_ok mD127 153 (12, 1, 0, 0, 0) := okr_int dX13_gradeOf_153 rfl
theorem t127_154 : e_ok mD127 154 (1, 0, 8, 0, 156) := okl_iload dX13_gradeOf_154
theorem t127_156 : e_ok mD127 156 (5, 5, 167, 0, 159) := okj_le dX13_gradeOf_156 (by decide +kernel)
theorem t127_159 : e_ok mD127 159 (1, 3, 2, 0, 160) := okl_dload_n dX13_gradeOf_159 rfl
theorem t127_160 : e_ok mD127 160 (1, 0, 8, 0, 162) := okl_iload dX13_gradeOf_160
theorem t127_164 : e_ok mD127 164 (2, 4, 0, 0, 172) := oki_goto dX13_gradeOf_164 (by decide +kernel)
theorem t127_167 : e_ok mD127 167 (1, 3, 4, 0, 169) := okl_dload dX13_gradeOf_167
theorem t127_169 : e_ok mD127 169 (1, 3, 6, 0, 171) := okl_dload dX13_gradeOf_169
theorem t127_176 : e_ok mD127 176 (12, 1, 0, 0, 0) := okr_int dX13_gradeOf_176 rfl
theorem t128_0 : e_ok mD128 0 (1, 1, 0, 0, 1) := okl_aload_n dX13_isBalanced_0 rfl
theorem t128_1 : e_ok mD128 1 (0, 0, 0, 0, 2) := Or.inl (okc_iconst dX13_isBalanced_1 (by decide +kernel))
theorem t128_2 : e_ok mD128 2 (9, 0, 18, 0, 5) := okw_put dX13_isBalanced_2 rfl hin_18 tyX13_ok nmX13 (by decide +kernel) (wg5 169 rfl rfl) rfl rfl (tyX13_ok 0 (by decide +kernel)) (fun V h => fitV_int h)
theorem t128_5 : e_ok mD128 5 (0, 0, 1, 0, 6) := Or.inl (okc_iconst dX13_isBalanced_5 (by decide +kernel))
theorem t128_6 : e_ok mD128 6 (12, 6, 0, 0, 0) := okr_bool dX13_isBalanced_6 rfl
theorem t129_0 : e_ok mD129 0 (1, 0, 1, 0, 1) := okl_iload_n dX13_isBetween_0 rfl
theorem t129_1 : e_ok mD129 1 (1, 0, 0, 0, 2) := okl_iload_n dX13_isBetween_1 rfl
theorem t129_2 : e_ok mD129 2 (6, 4, 14, 0, 5) := okk_gt dX13_isBetween_2 (by decide +kernel)
theorem t129_5 : e_ok mD129 5 (1, 0, 0, 0, 6) := okl_iload_n dX13_isBetween_5 rfl
theorem t129_6 : e_ok mD129 6 (1, 0, 2, 0, 7) := okl_iload_n dX13_isBetween_6 rfl
theorem t129_7 : e_ok mD129 7 (6, 4, 14, 0, 10) := okk_gt dX13_isBetween_7 (by decide +kernel)
theorem t129_10 : e_ok mD129 10 (0, 0, 1, 0, 11) := Or.inl (okc_iconst dX13_isBetween_10 (by decide +kernel))
theorem t129_11 : e_ok mD129 11 (2, 4, 0, 0, 15) := oki_goto dX13_isBetween_11 (by decide +kernel)
theorem t129_14 : e_ok mD129 14 (0, 0, 0, 0, 15) := Or.inl (okc_iconst dX13_isBetween_14 (by decide +kernel))
theorem t129_15 : e_ok mD129 15 (12, 6, 0, 0, 0) := okr_bool dX13_isBetween_15 rfl
theorem t130_0 : e_ok mD130 0 (1, 0, 0, 0, 1) := okl_iload_n dX13_isBlock_0 rfl
theorem t130_1 : e_ok mD130 1 (0, 0, 0, 0, 2) := Or.inl (okc_iconst dX13_isBlock_1 (by decide +kernel))
theorem t130_2 : e_ok mD130 2 (0, 0, 59, 0, 4) := Or.inl (okc_bipush dX13_isBlock_2 (by decide +kernel))
theorem t130_4 : e_ok mD130 4 (11, 0, 129, 3, 7) := And.intro (okCallX.M (okx_static (Da := mD129) dX13_isBlock_4 rfl mwc_129 (wg6 7 rfl rfl) mws_129 mwi_129 mwd_129)) (fun _ => okx_static (Da := mD129) dX13_isBlock_4 rfl mwc_129 (wg6 7 rfl rfl) mws_129 mwi_129 mwd_129)
theorem t130_7 : e_ok mD130 7 (12, 6, 0, 0, 0) := okr_bool dX13_isBlock_7 rfl
theorem t131_0 : e_ok mD131 0 (1, 1, 0, 0, 1) := okl_aload_n dX13_isDug_0 rfl
theorem t131_1 : e_ok mD131 1 (1, 0, 1, 0, 2) := okl_iload_n dX13_isDug_1 rfl
theorem t131_2 : e_ok mD131 2 (11, 0, 130, 1, 5) := And.intro (okCallX.M (okx_static (Da := mD130) dX13_isDug_2 rfl mwc_130 (wg6 4 rfl rfl) mws_130 mwi_130 mwd_130)) (fun _ => okx_static (Da := mD130) dX13_isDug_2 rfl mwc_130 (wg6 4 rfl rfl) mws_130 mwi_130 mwd_130)
theorem t131_5 : e_ok mD131 5 (5, 0, 12, 0, 8) := okj_eq dX13_isDug_5 (by decide +kernel)
theorem t131_8 : e_ok mD131 8 (0, 0, 0, 0, 9) := Or.inl (okc_iconst dX13_isDug_8 (by decide +kernel))
theorem t131_9 : e_ok mD131 9 (2, 4, 0, 0, 13) := oki_goto dX13_isDug_9 (by decide +kernel)
theorem t131_12 : e_ok mD131 12 (0, 0, 1, 0, 13) := Or.inl (okc_iconst dX13_isDug_12 (by decide +kernel))
theorem t131_13 : e_ok mD131 13 (11, 2, 136, 2, 16) := And.intro (okCallX.M (okx_virtual (Da := mD136) dX13_isDug_13 rfl mwc_136 (wg6 29 rfl rfl) mwn_136 mwv_136 mwi_136 mwd_136)) (fun _ => okx_virtual (Da := mD136) dX13_isDug_13 rfl mwc_136 (wg6 29 rfl rfl) mwn_136 mwv_136 mwi_136 mwd_136)
theorem t131_16 : e_ok mD131 16 (5, 1, 42, 0, 19) := okj_ne dX13_isDug_16 (by decide +kernel)
theorem t131_19 : e_ok mD131 19 (1, 1, 0, 0, 20) := okl_aload_n dX13_isDug_19 rfl
theorem t131_20 : e_ok mD131 20 (7, 0, 18, 1, 23) := And.intro (okw_get dX13_isDug_20 rfl hin_18 (by decide +kernel) (wg5 171 rfl rfl) rfl) (okx_none (by decide +kernel) _)
theorem t131_23 : e_ok mD131 23 (1, 0, 1, 0, 24) := okl_iload_n dX13_isDug_23 rfl
theorem t131_24 : e_ok mD131 24 (11, 3, 189, 2, 29) := And.intro (okm_iface (ci := 4) (x := ⟨"java/util/List", "get", "(I)Ljava/lang/Object;"⟩) (Da := mD189) rfl dX13_isDug_24 rfl mwc_189 (wg6 11 rfl rfl) mwn_189 (wg6 14 rfl rfl) mwi_189 (wn6 13 rfl rfl) (wn6 12 rfl rfl) (wn6 17 rfl rfl) (wn6 15 rfl rfl) (wn5 100 rfl rfl) ⟨by decide +kernel, by decide +kernel, by decide +kernel⟩) (fun h => h.elim nofun nofun)
theorem t131_29 : e_ok mD131 29 (7, 2, 15, 0, 32) := okw_cast dX13_isDug_29 rfl (wg5 72 rfl rfl)
theorem t131_32 : e_ok mD131 32 (7, 0, 15, 1, 35) := And.intro (okw_getN dX13_isDug_32 rfl hin_15 (by decide +kernel) (wn5 80 rfl rfl) rfl) (okx_none (by decide +kernel) _)
theorem t131_35 : e_ok mD131 35 (5, 0, 42, 0, 38) := okj_eq dX13_isDug_35 (by decide +kernel)
theorem t131_38 : e_ok mD131 38 (0, 0, 1, 0, 39) := Or.inl (okc_iconst dX13_isDug_38 (by decide +kernel))
theorem t131_39 : e_ok mD131 39 (2, 4, 0, 0, 43) := oki_goto dX13_isDug_39 (by decide +kernel)
theorem t131_42 : e_ok mD131 42 (0, 0, 0, 0, 43) := Or.inl (okc_iconst dX13_isDug_42 (by decide +kernel))
theorem t131_43 : e_ok mD131 43 (12, 6, 0, 0, 0) := okr_bool dX13_isDug_43 rfl
theorem t132_0 : e_ok mD132 0 (1, 1, 0, 0, 1) := okl_aload_n dX13_isFree_0 rfl
theorem t132_1 : e_ok mD132 1 (1, 0, 1, 0, 2) := okl_iload_n dX13_isFree_1 rfl
theorem t132_2 : e_ok mD132 2 (11, 0, 130, 1, 5) := And.intro (okCallX.M (okx_static (Da := mD130) dX13_isFree_2 rfl mwc_130 (wg6 4 rfl rfl) mws_130 mwi_130 mwd_130)) (fun _ => okx_static (Da := mD130) dX13_isFree_2 rfl mwc_130 (wg6 4 rfl rfl) mws_130 mwi_130 mwd_130)
theorem t132_5 : e_ok mD132 5 (5, 0, 12, 0, 8) := okj_eq dX13_isFree_5 (by decide +kernel)
theorem t132_8 : e_ok mD132 8 (0, 0, 0, 0, 9) := Or.inl (okc_iconst dX13_isFree_8 (by decide +kernel))
theorem t132_9 : e_ok mD132 9 (2, 4, 0, 0, 13) := oki_goto dX13_isFree_9 (by decide +kernel)
theorem t132_12 : e_ok mD132 12 (0, 0, 1, 0, 13) := Or.inl (okc_iconst dX13_isFree_12 (by decide +kernel))
theorem t132_13 : e_ok mD132 13 (11, 2, 136, 2, 16) := And.intro (okCallX.M (okx_virtual (Da := mD136) dX13_isFree_13 rfl mwc_136 (wg6 29 rfl rfl) mwn_136 mwv_136 mwi_136 mwd_136)) (fun _ => okx_virtual (Da := mD136) dX13_isFree_13 rfl mwc_136 (wg6 29 rfl rfl) mwn_136 mwv_136 mwi_136 mwd_136)
theorem t132_16 : e_ok mD132 16 (5, 1, 31, 0, 19) := okj_ne dX13_isFree_16 (by decide +kernel)
theorem t132_19 : e_ok mD132 19 (1, 1, 0, 0, 20) := okl_aload_n dX13_isFree_19 rfl
theorem t132_20 : e_ok mD132 20 (1, 0, 1, 0, 21) := okl_iload_n dX13_isFree_20 rfl
theorem t132_21 : e_ok mD132 21 (11, 2, 137, 2, 24) := And.intro (okCallX.M (okx_virtual (Da := mD137) dX13_isFree_21 rfl mwc_137 (wg6 184 rfl rfl) mwn_137 mwv_137 mwi_137 mwd_137)) (fun _ => okx_virtual (Da := mD137) dX13_isFree_21 rfl mwc_137 (wg6 184 rfl rfl) mwn_137 mwv_137 mwi_137 mwd_137)
theorem t132_24 : e_ok mD132 24 (5, 0, 31, 0, 27) := okj_eq dX13_isFree_24 (by decide +kernel)
theorem t132_27 : e_ok mD132 27 (0, 0, 1, 0, 28) := Or.inl (okc_iconst dX13_isFree_27 (by decide +kernel))
theorem t132_28 : e_ok mD132 28 (2, 4, 0, 0, 32) := oki_goto dX13_isFree_28 (by decide +kernel)
theorem t132_31 : e_ok mD132 31 (0, 0, 0, 0, 32) := Or.inl (okc_iconst dX13_isFree_31 (by decide +kernel))
theorem t132_32 : e_ok mD132 32 (12, 6, 0, 0, 0) := okr_bool dX13_isFree_32 rfl
theorem t133_0 : e_ok mD133 0 (1, 1, 0, 0, 1) := okl_aload_n dX13_isInPit_0 rfl
theorem t133_1 : e_ok mD133 1 (1, 0, 1, 0, 2) := okl_iload_n dX13_isInPit_1 rfl
theorem t133_2 : e_ok mD133 2 (11, 0, 135, 1, 5) := And.intro (okCallX.M (okx_static (Da := mD135) dX13_isInPit_2 rfl mwc_135 (wg6 169 rfl rfl) mws_135 mwi_135 mwd_135)) (fun _ => okx_static (Da := mD135) dX13_isInPit_2 rfl mwc_135 (wg6 169 rfl rfl) mws_135 mwi_135 mwd_135)
theorem t133_5 : e_ok mD133 5 (5, 1, 12, 0, 8) := okj_ne dX13_isInPit_5 (by decide +kernel)
theorem t133_8 : e_ok mD133 8 (0, 0, 1, 0, 9) := Or.inl (okc_iconst dX13_isInPit_8 (by decide +kernel))
theorem t133_9 : e_ok mD133 9 (2, 4, 0, 0, 24) := oki_goto dX13_isInPit_9 (by decide +kernel)
theorem t133_12 : e_ok mD133 12 (1, 0, 2, 0, 13) := okl_iload_n dX13_isInPit_12 rfl
theorem t133_13 : e_ok mD133 13 (11, 0, 130, 1, 16) := And.intro (okCallX.M (okx_static (Da := mD130) dX13_isInPit_13 rfl mwc_130 (wg6 4 rfl rfl) mws_130 mwi_130 mwd_130)) (fun _ => okx_static (Da := mD130) dX13_isInPit_13 rfl mwc_130 (wg6 4 rfl rfl) mws_130 mwi_130 mwd_130)
theorem t133_16 : e_ok mD133 16 (5, 1, 23, 0, 19) := okj_ne dX13_isInPit_16 (by decide +kernel)
theorem t133_19 : e_ok mD133 19 (0, 0, 2, 0, 20) := Or.inl (okc_iconst dX13_isInPit_19 (by decide +kernel))
theorem t133_20 : e_ok mD133 20 (2, 4, 0, 0, 24) := oki_goto dX13_isInPit_20 (by decide +kernel)
theorem t133_23 : e_ok mD133 23 (0, 0, 0, 0, 24) := Or.inl (okc_iconst dX13_isInPit_23 (by decide +kernel))
theorem t133_24 : e_ok mD133 24 (11, 2, 136, 2, 27) := And.intro (okCallX.M (okx_virtual (Da := mD136) dX13_isInPit_24 rfl mwc_136 (wg6 29 rfl rfl) mwn_136 mwv_136 mwi_136 mwd_136)) (fun _ => okx_virtual (Da := mD136) dX13_isInPit_24 rfl mwc_136 (wg6 29 rfl rfl) mwn_136 mwv_136 mwi_136 mwd_136)
theorem t133_27 : e_ok mD133 27 (5, 1, 50, 0, 30) := okj_ne dX13_isInPit_27 (by decide +kernel)
theorem t133_30 : e_ok mD133 30 (7, 1, 16, 3, 33) := And.intro (fun X ρ => okw_new dX13_isInPit_30 rfl hin_16 tyX11_ok (wg6 225 rfl rfl) (wg6 226 rfl rfl) (wg1 39 rfl rfl) rfl) (by decide)
theorem t133_33 : e_ok mD133 33 (2, 1, 0, 0, 34) := oki_dup dX13_isInPit_33
theorem t133_34 : e_ok mD133 34 (1, 1, 0, 0, 35) := okl_aload_n dX13_isInPit_34 rfl
theorem t133_35 : e_ok mD133 35 (1, 0, 1, 0, 36) := okl_iload_n dX13_isInPit_35 rfl
theorem t133_36 : e_ok mD133 36 (11, 1, 166, 3, 39) := And.intro (okm_init (Da := mD166) dX13_isInPit_36 rfl rfl mwc_166 (wg6 227 rfl rfl) mwn_166 mwi_166 rfl mwd_166) (fun h => h.elim nofun nofun)
theorem t133_39 : e_ok mD133 39 (1, 0, 2, 0, 40) := okl_iload_n dX13_isInPit_39 rfl
theorem t133_40 : e_ok mD133 40 (11, 2, 167, 2, 43) := And.intro (okCallX.M (okx_virtual (Da := mD167) dX13_isInPit_40 rfl mwc_167 (wg7 21 rfl rfl) mwn_167 mwv_167 mwi_167 mwd_167)) (fun _ => okx_virtual (Da := mD167) dX13_isInPit_40 rfl mwc_167 (wg7 21 rfl rfl) mwn_167 mwv_167 mwi_167 mwd_167)
theorem t133_43 : e_ok mD133 43 (5, 0, 50, 0, 46) := okj_eq dX13_isInPit_43 (by decide +kernel)
theorem t133_46 : e_ok mD133 46 (0, 0, 1, 0, 47) := Or.inl (okc_iconst dX13_isInPit_46 (by decide +kernel))
theorem t133_47 : e_ok mD133 47 (2, 4, 0, 0, 51) := oki_goto dX13_isInPit_47 (by decide +kernel)
theorem t133_50 : e_ok mD133 50 (0, 0, 0, 0, 51) := Or.inl (okc_iconst dX13_isInPit_50 (by decide +kernel))
theorem t133_51 : e_ok mD133 51 (12, 6, 0, 0, 0) := okr_bool dX13_isInPit_51 rfl
theorem t134_0 : e_ok mD134 0 (1, 1, 0, 0, 1) := okl_aload_n dX13_isNotDug_0 rfl
theorem t134_1 : e_ok mD134 1 (1, 0, 1, 0, 2) := okl_iload_n dX13_isNotDug_1 rfl
theorem t134_2 : e_ok mD134 2 (11, 0, 130, 1, 5) := And.intro (okCallX.M (okx_static (Da := mD130) dX13_isNotDug_2 rfl mwc_130 (wg6 4 rfl rfl) mws_130 mwi_130 mwd_130)) (fun _ => okx_static (Da := mD130) dX13_isNotDug_2 rfl mwc_130 (wg6 4 rfl rfl) mws_130 mwi_130 mwd_130)
theorem t134_5 : e_ok mD134 5 (5, 1, 12, 0, 8) := okj_ne dX13_isNotDug_5 (by decide +kernel)
theorem t134_8 : e_ok mD134 8 (0, 0, 1, 0, 9) := Or.inl (okc_iconst dX13_isNotDug_8 (by decide +kernel))
theorem t134_9 : e_ok mD134 9 (2, 4, 0, 0, 36) := oki_goto dX13_isNotDug_9 (by decide +kernel)
theorem t134_12 : e_ok mD134 12 (1, 1, 0, 0, 13) := okl_aload_n dX13_isNotDug_12 rfl
theorem t134_13 : e_ok mD134 13 (7, 0, 18, 1, 16) := And.intro (okw_get dX13_isNotDug_13 rfl hin_18 (by decide +kernel) (wg5 171 rfl rfl) rfl) (okx_none (by decide +kernel) _)
theorem t134_16 : e_ok mD134 16 (1, 0, 1, 0, 17) := okl_iload_n dX13_isNotDug_16 rfl
theorem t134_17 : e_ok mD134 17 (11, 3, 189, 2, 22) := And.intro (okm_iface (ci := 4) (x := ⟨"java/util/List", "get", "(I)Ljava/lang/Object;"⟩) (Da := mD189) rfl dX13_isNotDug_17 rfl mwc_189 (wg6 11 rfl rfl) mwn_189 (wg6 14 rfl rfl) mwi_189 (wn6 13 rfl rfl) (wn6 12 rfl rfl) (wn6 17 rfl rfl) (wn6 15 rfl rfl) (wn5 100 rfl rfl) ⟨by decide +kernel, by decide +kernel, by decide +kernel⟩) (fun h => h.elim nofun nofun)
theorem t134_22 : e_ok mD134 22 (7, 2, 15, 0, 25) := okw_cast dX13_isNotDug_22 rfl (wg5 72 rfl rfl)
theorem t134_25 : e_ok mD134 25 (7, 0, 15, 1, 28) := And.intro (okw_getN dX13_isNotDug_25 rfl hin_15 (by decide +kernel) (wn5 80 rfl rfl) rfl) (okx_none (by decide +kernel) _)
theorem t134_28 : e_ok mD134 28 (5, 1, 35, 0, 31) := okj_ne dX13_isNotDug_28 (by decide +kernel)
theorem t134_31 : e_ok mD134 31 (0, 0, 2, 0, 32) := Or.inl (okc_iconst dX13_isNotDug_31 (by decide +kernel))
theorem t134_32 : e_ok mD134 32 (2, 4, 0, 0, 36) := oki_goto dX13_isNotDug_32 (by decide +kernel)
theorem t134_35 : e_ok mD134 35 (0, 0, 0, 0, 36) := Or.inl (okc_iconst dX13_isNotDug_35 (by decide +kernel))
theorem t134_36 : e_ok mD134 36 (11, 2, 136, 2, 39) := And.intro (okCallX.M (okx_virtual (Da := mD136) dX13_isNotDug_36 rfl mwc_136 (wg6 29 rfl rfl) mwn_136 mwv_136 mwi_136 mwd_136)) (fun _ => okx_virtual (Da := mD136) dX13_isNotDug_36 rfl mwc_136 (wg6 29 rfl rfl) mwn_136 mwv_136 mwi_136 mwd_136)
theorem t134_39 : e_ok mD134 39 (12, 6, 0, 0, 0) := okr_bool dX13_isNotDug_39 rfl
theorem t135_0 : e_ok mD135 0 (1, 0, 0, 0, 1) := okl_iload_n dX13_isPrice_0 rfl
theorem t135_1 : e_ok mD135 1 (0, 0, 0, 0, 2) := Or.inl (okc_iconst dX13_isPrice_1 (by decide +kernel))
theorem t135_2 : e_ok mD135 2 (0, 0, 99, 0, 4) := Or.inl (okc_bipush dX13_isPrice_2 (by decide +kernel))
theorem t135_4 : e_ok mD135 4 (11, 0, 129, 3, 7) := And.intro (okCallX.M (okx_static (Da := mD129) dX13_isPrice_4 rfl mwc_129 (wg6 7 rfl rfl) mws_129 mwi_129 mwd_129)) (fun _ => okx_static (Da := mD129) dX13_isPrice_4 rfl mwc_129 (wg6 7 rfl rfl) mws_129 mwi_129 mwd_129)
theorem t135_7 : e_ok mD135 7 (12, 6, 0, 0, 0) := okr_bool dX13_isPrice_7 rfl
theorem t136_0 : e_ok mD136 0 (1, 1, 0, 0, 1) := okl_aload_n dX13_isWrong_0 rfl
theorem t136_1 : e_ok mD136 1 (1, 0, 1, 0, 2) := okl_iload_n dX13_isWrong_1 rfl
theorem t136_2 : e_ok mD136 2 (9, 0, 18, 0, 5) := okw_put dX13_isWrong_2 rfl hin_18 tyX13_ok nmX13 (by decide +kernel) (wg5 169 rfl rfl) rfl rfl (tyX13_ok 0 (by decide +kernel)) (fun V h => fitV_int h)
theorem t136_5 : e_ok mD136 5 (1, 0, 1, 0, 6) := okl_iload_n dX13_isWrong_5 rfl
theorem t136_6 : e_ok mD136 6 (5, 5, 13, 0, 9) := okj_le dX13_isWrong_6 (by decide +kernel)
theorem t136_9 : e_ok mD136 9 (0, 0, 1, 0, 10) := Or.inl (okc_iconst dX13_isWrong_9 (by decide +kernel))
theorem t136_10 : e_ok mD136 10 (2, 4, 0, 0, 14) := oki_goto dX13_isWrong_10 (by decide +kernel)
theorem t136_13 : e_ok mD136 13 (0, 0, 0, 0, 14) := Or.inl (okc_iconst dX13_isWrong_13 (by decide +kernel))
theorem t136_14 : e_ok mD136 14 (12, 6, 0, 0, 0) := okr_bool dX13_isWrong_14 rfl
theorem t137_0 : e_ok mD137 0 (1, 1, 0, 0, 1) := okl_aload_n dX13_liesFree_0 rfl
theorem t137_1 : e_ok mD137 1 (7, 0, 18, 1, 4) := And.intro (okw_get dX13_liesFree_1 rfl hin_18 (by decide +kernel) (wg5 171 rfl rfl) rfl) (okx_none (by decide +kernel) _)
theorem t137_4 : e_ok mD137 4 (1, 0, 1, 0, 5) := okl_iload_n dX13_liesFree_4 rfl
theorem t137_5 : e_ok mD137 5 (11, 3, 189, 2, 10) := And.intro (okm_iface (ci := 4) (x := ⟨"java/util/List", "get", "(I)Ljava/lang/Object;"⟩) (Da := mD189) rfl dX13_liesFree_5 rfl mwc_189 (wg6 11 rfl rfl) mwn_189 (wg6 14 rfl rfl) mwi_189 (wn6 13 rfl rfl) (wn6 12 rfl rfl) (wn6 17 rfl rfl) (wn6 15 rfl rfl) (wn5 100 rfl rfl) ⟨by decide +kernel, by decide +kernel, by decide +kernel⟩) (fun h => h.elim nofun nofun)
theorem t137_10 : e_ok mD137 10 (7, 2, 15, 0, 13) := okw_cast dX13_liesFree_10 rfl (wg5 72 rfl rfl)
theorem t137_13 : e_ok mD137 13 (7, 0, 15, 1, 16) := And.intro (okw_getN dX13_liesFree_13 rfl hin_15 (by decide +kernel) (wn5 80 rfl rfl) rfl) (okx_none (by decide +kernel) _)
theorem t137_16 : e_ok mD137 16 (5, 1, 23, 0, 19) := okj_ne dX13_liesFree_16 (by decide +kernel)
theorem t137_19 : e_ok mD137 19 (0, 0, 1, 0, 20) := Or.inl (okc_iconst dX13_liesFree_19 (by decide +kernel))
theorem t137_20 : e_ok mD137 20 (2, 4, 0, 0, 24) := oki_goto dX13_liesFree_20 (by decide +kernel)
theorem t137_23 : e_ok mD137 23 (0, 0, 0, 0, 24) := Or.inl (okc_iconst dX13_liesFree_23 (by decide +kernel))
theorem t137_24 : e_ok mD137 24 (1, 4, 2, 0, 25) := oks_istore_n dX13_liesFree_24 rfl (by decide +kernel)
theorem t137_25 : e_ok mD137 25 (1, 1, 0, 0, 26) := okl_aload_n dX13_liesFree_25 rfl
theorem t137_26 : e_ok mD137 26 (1, 0, 1, 0, 27) := okl_iload_n dX13_liesFree_26 rfl
theorem t137_27 : e_ok mD137 27 (11, 2, 117, 2, 30) := And.intro (okCallX.M (okx_virtual (Da := mD117) dX13_liesFree_27 rfl mwc_117 (wg6 188 rfl rfl) mwn_117 mwv_117 mwi_117 mwd_117)) (fun _ => okx_virtual (Da := mD117) dX13_liesFree_27 rfl mwc_117 (wg6 188 rfl rfl) mwn_117 mwv_117 mwi_117 mwd_117)
theorem t137_30 : e_ok mD137 30 (11, 3, 193, 1, 35) := And.intro (okm_iface (ci := 4) (x := ⟨"java/util/List", "iterator", "()Ljava/util/Iterator;"⟩) (Da := mD193) rfl dX13_liesFree_30 rfl mwc_193 (wg6 74 rfl rfl) mwn_193 (wg6 77 rfl rfl) mwi_193 (wn6 76 rfl rfl) (wn6 75 rfl rfl) (wn6 80 rfl rfl) (wn6 78 rfl rfl) (wn5 100 rfl rfl) ⟨by decide +kernel, by decide +kernel, by decide +kernel⟩) (fun h => h.elim nofun nofun)
theorem t137_35 : e_ok mD137 35 (1, 5, 3, 0, 36) := oks_astore_n dX13_liesFree_35 rfl (by decide +kernel)
theorem t137_36 : e_ok mD137 36 (1, 1, 3, 0, 37) := okl_aload_n dX13_liesFree_36 rfl
theorem t137_37 : e_ok mD137 37 (11, 3, 197, 1, 42) := And.intro (okm_iface (ci := 3) (x := ⟨"java/util/Iterator", "hasNext", "()Z"⟩) (Da := mD197) rfl dX13_liesFree_37 rfl mwc_197 (wg6 102 rfl rfl) mwn_197 (wg6 106 rfl rfl) mwi_197 (wn6 104 rfl rfl) (wn6 103 rfl rfl) (wn6 109 rfl rfl) (wn6 107 rfl rfl) (wn6 105 rfl rfl) ⟨by decide +kernel, by decide +kernel, by decide +kernel⟩) (fun h => h.elim nofun nofun)
theorem t137_42 : e_ok mD137 42 (5, 0, 82, 0, 45) := okj_eq dX13_liesFree_42 (by decide +kernel)
theorem t137_45 : e_ok mD137 45 (1, 1, 3, 0, 46) := okl_aload_n dX13_liesFree_45 rfl
theorem t137_46 : e_ok mD137 46 (11, 3, 198, 1, 51) := And.intro (okm_iface (ci := 3) (x := ⟨"java/util/Iterator", "next", "()Ljava/lang/Object;"⟩) (Da := mD198) rfl dX13_liesFree_46 rfl mwc_198 (wg6 112 rfl rfl) mwn_198 (wg6 115 rfl rfl) mwi_198 (wn6 114 rfl rfl) (wn6 113 rfl rfl) (wn6 118 rfl rfl) (wn6 116 rfl rfl) (wn6 105 rfl rfl) ⟨by decide +kernel, by decide +kernel, by decide +kernel⟩) (fun h => h.elim nofun nofun)
theorem t137_51 : e_ok mD137 51 (7, 2, 1, 0, 54) := okw_cast dX13_liesFree_51 rfl (wg6 212 rfl rfl)
theorem t137_54 : e_ok mD137 54 (11, 2, 170, 1, 57) := And.intro (okCallX.M (okx_virtual (Da := mD170) dX13_liesFree_54 rfl mwc_170 (wg6 213 rfl rfl) mwn_170 mwv_170 mwi_170 mwd_170)) (fun _ => okx_virtual (Da := mD170) dX13_liesFree_54 rfl mwc_170 (wg6 213 rfl rfl) mwn_170 mwv_170 mwi_170 mwd_170)
theorem t137_57 : e_ok mD137 57 (1, 4, 4, 0, 59) := oks_istore dX13_liesFree_57 (by decide +kernel)
theorem t137_59 : e_ok mD137 59 (1, 0, 2, 0, 60) := okl_iload_n dX13_liesFree_59 rfl
theorem t137_60 : e_ok mD137 60 (1, 1, 0, 0, 61) := okl_aload_n dX13_liesFree_60 rfl
theorem t137_61 : e_ok mD137 61 (7, 0, 18, 1, 64) := And.intro (okw_get dX13_liesFree_61 rfl hin_18 (by decide +kernel) (wg5 171 rfl rfl) rfl) (okx_none (by decide +kernel) _)
theorem t137_64 : e_ok mD137 64 (1, 0, 4, 0, 66) := okl_iload dX13_liesFree_64
theorem t137_66 : e_ok mD137 66 (11, 3, 189, 2, 71) := And.intro (okm_iface (ci := 4) (x := ⟨"java/util/List", "get", "(I)Ljava/lang/Object;"⟩) (Da := mD189) rfl dX13_liesFree_66 rfl mwc_189 (wg6 11 rfl rfl) mwn_189 (wg6 14 rfl rfl) mwi_189 (wn6 13 rfl rfl) (wn6 12 rfl rfl) (wn6 17 rfl rfl) (wn6 15 rfl rfl) (wn5 100 rfl rfl) ⟨by decide +kernel, by decide +kernel, by decide +kernel⟩) (fun h => h.elim nofun nofun)
theorem t137_71 : e_ok mD137 71 (7, 2, 15, 0, 74) := okw_cast dX13_liesFree_71 rfl (wg5 72 rfl rfl)
theorem t137_74 : e_ok mD137 74 (7, 0, 15, 1, 77) := And.intro (okw_getN dX13_liesFree_74 rfl hin_15 (by decide +kernel) (wn5 80 rfl rfl) rfl) (okx_none (by decide +kernel) _)
theorem t137_77 : e_ok mD137 77 (3, 5, 0, 0, 78) := okb_iand dX13_liesFree_77
theorem t137_78 : e_ok mD137 78 (1, 4, 2, 0, 79) := oks_istore_n dX13_liesFree_78 rfl (by decide +kernel)
theorem t137_79 : e_ok mD137 79 (2, 4, 0, 0, 36) := oki_goto dX13_liesFree_79 (by decide +kernel)
theorem t137_82 : e_ok mD137 82 (1, 0, 2, 0, 83) := okl_iload_n dX13_liesFree_82 rfl
theorem t137_83 : e_ok mD137 83 (12, 6, 0, 0, 0) := okr_bool dX13_liesFree_83 rfl
theorem t138_0 : e_ok mD138 0 (1, 1, 0, 0, 1) := okl_aload_n dX13_meanFed_0 rfl
theorem t138_1 : e_ok mD138 1 (1, 1, 0, 0, 2) := okl_aload_n dX13_meanFed_1 rfl
theorem t138_2 : e_ok mD138 2 (7, 0, 18, 13, 5) := And.intro (okw_get dX13_meanFed_2 rfl hin_18 (by decide +kernel) (wg5 183 rfl rfl) rfl) (okx_none (by decide +kernel) _)
theorem t138_5 : e_ok mD138 5 (5, 1, 12, 0, 8) := okj_ne dX13_meanFed_5 (by decide +kernel)
theorem t138_8 : e_ok mD138 8 (0, 0, 1, 0, 9) := Or.inl (okc_iconst dX13_meanFed_8 (by decide +kernel))
theorem t138_9 : e_ok mD138 9 (2, 4, 0, 0, 13) := oki_goto dX13_meanFed_9 (by decide +kernel)
theorem t138_12 : e_ok mD138 12 (0, 0, 0, 0, 13) := Or.inl (okc_iconst dX13_meanFed_12 (by decide +kernel))
theorem t138_13 : e_ok mD138 13 (11, 2, 136, 2, 16) := And.intro (okCallX.M (okx_virtual (Da := mD136) dX13_meanFed_13 rfl mwc_136 (wg6 29 rfl rfl) mwn_136 mwv_136 mwi_136 mwd_136)) (fun _ => okx_virtual (Da := mD136) dX13_meanFed_13 rfl mwc_136 (wg6 29 rfl rfl) mwn_136 mwv_136 mwi_136 mwd_136)
theorem t138_16 : e_ok mD138 16 (5, 0, 23, 0, 19) := okj_eq dX13_meanFed_16 (by decide +kernel)
theorem t138_19 : e_ok mD138 19 (0, 2, 0, 0, 20) := okc_dconst0 dX13_meanFed_19
theorem t138_20 : e_ok mD138 20 (2, 4, 0, 0, 34) := oki_goto dX13_meanFed_20 (by decide +kernel)
theorem t138_23 : e_ok mD138 23 (1, 1, 0, 0, 24) := okl_aload_n dX13_meanFed_23 rfl
theorem t138_24 : e_ok mD138 24 (7, 0, 18, 14, 27) := And.intro (okw_get dX13_meanFed_24 rfl hin_18 (by decide +kernel) (wg5 184 rfl rfl) rfl) (okx_none (by decide +kernel) _)
theorem t138_28 : e_ok mD138 28 (1, 1, 0, 0, 29) := okl_aload_n dX13_meanFed_28 rfl
theorem t138_29 : e_ok mD138 29 (7, 0, 18, 13, 32) := And.intro (okw_get dX13_meanFed_29 rfl hin_18 (by decide +kernel) (wg5 183 rfl rfl) rfl) (okx_none (by decide +kernel) _)
theorem t138_34 : e_ok mD138 34 (12, 3, 0, 0, 0) := okr_double dX13_meanFed_34 rfl
theorem t139_0 : e_ok mD139 0 (1, 1, 0, 0, 1) := okl_aload_n dX13_metal_0 rfl
theorem t139_1 : e_ok mD139 1 (0, 0, 0, 0, 2) := Or.inl (okc_iconst dX13_metal_1 (by decide +kernel))
theorem t139_2 : e_ok mD139 2 (9, 0, 18, 0, 5) := okw_put dX13_metal_2 rfl hin_18 tyX13_ok nmX13 (by decide +kernel) (wg5 169 rfl rfl) rfl rfl (tyX13_ok 0 (by decide +kernel)) (fun V h => fitV_int h)
theorem t139_5 : e_ok mD139 5 (1, 1, 0, 0, 6) := okl_aload_n dX13_metal_5 rfl
theorem t139_6 : e_ok mD139 6 (7, 0, 18, 21, 9) := And.intro (okw_get dX13_metal_6 rfl hin_18 (by decide +kernel) (wg5 191 rfl rfl) rfl) (okx_none (by decide +kernel) _)
theorem t139_9 : e_ok mD139 9 (12, 2, 0, 0, 0) := okr_long dX13_metal_9 rfl
theorem t140_0 : e_ok mD140 0 (1, 1, 1, 0, 1) := okl_aload_n dX13_mills_0 rfl
theorem t140_1 : e_ok mD140 1 (11, 3, 192, 1, 6) := And.intro (okm_iface (ci := 4) (x := ⟨"java/util/List", "isEmpty", "()Z"⟩) (Da := mD192) rfl dX13_mills_1 rfl mwc_192 (wg6 136 rfl rfl) mwn_192 (wg6 139 rfl rfl) mwi_192 (wn6 138 rfl rfl) (wn6 137 rfl rfl) (wn6 142 rfl rfl) (wn6 140 rfl rfl) (wn5 100 rfl rfl) ⟨by decide +kernel, by decide +kernel, by decide +kernel⟩) (fun h => h.elim nofun nofun)
theorem t140_6 : e_ok mD140 6 (5, 0, 10, 0, 9) := okj_eq dX13_mills_6 (by decide +kernel)
theorem t140_9 : e_ok mD140 9 (12, 0, 0, 0, 0) := okr_void dX13_mills_9 rfl
theorem t140_10 : e_ok mD140 10 (0, 0, 0, 0, 11) := Or.inl (okc_iconst dX13_mills_10 (by decide +kernel))
theorem t140_11 : e_ok mD140 11 (1, 4, 2, 0, 12) := oks_istore_n dX13_mills_11 rfl (by decide +kernel)
theorem t140_12 : e_ok mD140 12 (1, 1, 1, 0, 13) := okl_aload_n dX13_mills_12 rfl
theorem t140_13 : e_ok mD140 13 (11, 3, 193, 1, 18) := And.intro (okm_iface (ci := 4) (x := ⟨"java/util/List", "iterator", "()Ljava/util/Iterator;"⟩) (Da := mD193) rfl dX13_mills_13 rfl mwc_193 (wg6 74 rfl rfl) mwn_193 (wg6 77 rfl rfl) mwi_193 (wn6 76 rfl rfl) (wn6 75 rfl rfl) (wn6 80 rfl rfl) (wn6 78 rfl rfl) (wn5 100 rfl rfl) ⟨by decide +kernel, by decide +kernel, by decide +kernel⟩) (fun h => h.elim nofun nofun)
theorem t140_18 : e_ok mD140 18 (1, 5, 3, 0, 19) := oks_astore_n dX13_mills_18 rfl (by decide +kernel)
theorem t140_19 : e_ok mD140 19 (1, 1, 3, 0, 20) := okl_aload_n dX13_mills_19 rfl
theorem t140_20 : e_ok mD140 20 (11, 3, 197, 1, 25) := And.intro (okm_iface (ci := 3) (x := ⟨"java/util/Iterator", "hasNext", "()Z"⟩) (Da := mD197) rfl dX13_mills_20 rfl mwc_197 (wg6 102 rfl rfl) mwn_197 (wg6 106 rfl rfl) mwi_197 (wn6 104 rfl rfl) (wn6 103 rfl rfl) (wn6 109 rfl rfl) (wn6 107 rfl rfl) (wn6 105 rfl rfl) ⟨by decide +kernel, by decide +kernel, by decide +kernel⟩) (fun h => h.elim nofun nofun)
theorem t140_25 : e_ok mD140 25 (5, 0, 50, 0, 28) := okj_eq dX13_mills_25 (by decide +kernel)
theorem t140_28 : e_ok mD140 28 (1, 1, 3, 0, 29) := okl_aload_n dX13_mills_28 rfl
theorem t140_29 : e_ok mD140 29 (11, 3, 198, 1, 34) := And.intro (okm_iface (ci := 3) (x := ⟨"java/util/Iterator", "next", "()Ljava/lang/Object;"⟩) (Da := mD198) rfl dX13_mills_29 rfl mwc_198 (wg6 112 rfl rfl) mwn_198 (wg6 115 rfl rfl) mwi_198 (wn6 114 rfl rfl) (wn6 113 rfl rfl) (wn6 118 rfl rfl) (wn6 116 rfl rfl) (wn6 105 rfl rfl) ⟨by decide +kernel, by decide +kernel, by decide +kernel⟩) (fun h => h.elim nofun nofun)
theorem t140_34 : e_ok mD140 34 (7, 2, 1, 0, 37) := okw_cast dX13_mills_34 rfl (wg6 212 rfl rfl)
theorem t140_37 : e_ok mD140 37 (11, 2, 170, 1, 40) := And.intro (okCallX.M (okx_virtual (Da := mD170) dX13_mills_37 rfl mwc_170 (wg6 213 rfl rfl) mwn_170 mwv_170 mwi_170 mwd_170)) (fun _ => okx_virtual (Da := mD170) dX13_mills_37 rfl mwc_170 (wg6 213 rfl rfl) mwn_170 mwv_170 mwi_170 mwd_170)
theorem t140_40 : e_ok mD140 40 (1, 4, 4, 0, 42) := oks_istore dX13_mills_40 (by decide +kernel)
theorem t140_42 : e_ok mD140 42 (1, 0, 2, 0, 43) := okl_iload_n dX13_mills_42 rfl
theorem t140_43 : e_ok mD140 43 (1, 0, 4, 0, 45) := okl_iload dX13_mills_43
theorem t140_45 : e_ok mD140 45 (3, 0, 0, 0, 46) := okb_iadd dX13_mills_45
theorem t140_46 : e_ok mD140 46 (1, 4, 2, 0, 47) := oks_istore_n dX13_mills_46 rfl (by decide +kernel)
theorem t140_47 : e_ok mD140 47 (2, 4, 0, 0, 19) := oki_goto dX13_mills_47 (by decide +kernel)
theorem t140_50 : e_ok mD140 50 (1, 0, 2, 0, 51) := okl_iload_n dX13_mills_50 rfl
theorem t140_52 : e_ok mD140 52 (1, 1, 1, 0, 53) := okl_aload_n dX13_mills_52 rfl
theorem t140_53 : e_ok mD140 53 (11, 3, 194, 1, 58) := And.intro (okm_iface (ci := 4) (x := ⟨"java/util/List", "size", "()I"⟩) (Da := mD194) rfl dX13_mills_53 rfl mwc_194 (wg6 38 rfl rfl) mwn_194 (wg6 41 rfl rfl) mwi_194 (wn6 40 rfl rfl) (wn6 39 rfl rfl) (wn6 44 rfl rfl) (wn6 42 rfl rfl) (wn5 100 rfl rfl) ⟨by decide +kernel, by decide +kernel, by decide +kernel⟩) (fun h => h.elim nofun nofun)
theorem t140_60 : e_ok mD140 60 (1, 7, 3, 0, 61) := oks_dstore_n dX13_mills_60 rfl (by decide +kernel)
theorem t140_61 : e_ok mD140 61 (1, 1, 0, 0, 62) := okl_aload_n dX13_mills_61 rfl
theorem t140_62 : e_ok mD140 62 (1, 1, 0, 0, 63) := okl_aload_n dX13_mills_62 rfl
theorem t140_63 : e_ok mD140 63 (7, 0, 18, 7, 66) := And.intro (okw_get dX13_mills_63 rfl hin_18 (by decide +kernel) (wg5 177 rfl rfl) rfl) (okx_none (by decide +kernel) _)
theorem t140_66 : e_ok mD140 66 (5, 0, 95, 0, 69) := okj_eq dX13_mills_66 (by decide +kernel)
theorem t140_69 : e_ok mD140 69 (0, 2, 4632233691727265792, 0, 72) := okc_ldc2d dX13_mills_69 (wg7 208 rfl rfl)
theorem t140_72 : e_ok mD140 72 (0, 2, 4636033603912859648, 0, 75) := okc_ldc2d dX13_mills_72 (wg7 209 rfl rfl)
theorem t140_75 : e_ok mD140 75 (1, 3, 3, 0, 76) := okl_dload_n dX13_mills_75 rfl
theorem t140_76 : e_ok mD140 76 (1, 1, 0, 0, 77) := okl_aload_n dX13_mills_76 rfl
theorem t140_77 : e_ok mD140 77 (7, 0, 18, 20, 80) := And.intro (okw_get dX13_mills_77 rfl hin_18 (by decide +kernel) (wg5 190 rfl rfl) rfl) (okx_none (by decide +kernel) _)
theorem t140_92 : e_ok mD140 92 (2, 4, 0, 0, 97) := oki_goto dX13_mills_92 (by decide +kernel)
theorem t140_95 : e_ok mD140 95 (0, 0, 90, 0, 97) := Or.inl (okc_bipush dX13_mills_95 (by decide +kernel))
theorem t140_97 : e_ok mD140 97 (9, 0, 18, 10, 100) := okw_put dX13_mills_97 rfl hin_18 tyX13_ok nmX13 (by decide +kernel) (wg5 180 rfl rfl) rfl rfl (tyX13_ok 10 (by decide +kernel)) (fun V h => fitV_int h)
theorem t140_100 : e_ok mD140 100 (1, 1, 0, 0, 101) := okl_aload_n dX13_mills_100 rfl
theorem t140_101 : e_ok mD140 101 (0, 0, 1, 0, 102) := Or.inl (okc_iconst dX13_mills_101 (by decide +kernel))
theorem t140_102 : e_ok mD140 102 (9, 1, 18, 7, 105) := okw_put dX13_mills_102 rfl hin_18 tyX13_ok nmX13 (by decide +kernel) (wg5 177 rfl rfl) rfl rfl (tyX13_ok 7 (by decide +kernel)) (fun V h => fitV_bool h)
theorem t140_105 : e_ok mD140 105 (1, 1, 0, 0, 106) := okl_aload_n dX13_mills_105 rfl
theorem t140_106 : e_ok mD140 106 (1, 3, 3, 0, 107) := okl_dload_n dX13_mills_106 rfl
theorem t140_107 : e_ok mD140 107 (9, 4, 18, 20, 110) := okw_put dX13_mills_107 rfl hin_18 tyX13_ok nmX13 (by decide +kernel) (wg5 190 rfl rfl) rfl rfl (tyX13_ok 20 (by decide +kernel)) (fun V h => fitV_double h)
theorem t140_110 : e_ok mD140 110 (0, 1, 0, 0, 111) := okc_lconst dX13_mills_110 (by decide +kernel)
theorem t140_111 : e_ok mD140 111 (1, 6, 5, 0, 113) := oks_lstore dX13_mills_111 (by decide +kernel)
theorem t140_113 : e_ok mD140 113 (1, 1, 1, 0, 114) := okl_aload_n dX13_mills_113 rfl
theorem t140_114 : e_ok mD140 114 (11, 3, 193, 1, 119) := And.intro (okm_iface (ci := 4) (x := ⟨"java/util/List", "iterator", "()Ljava/util/Iterator;"⟩) (Da := mD193) rfl dX13_mills_114 rfl mwc_193 (wg6 74 rfl rfl) mwn_193 (wg6 77 rfl rfl) mwi_193 (wn6 76 rfl rfl) (wn6 75 rfl rfl) (wn6 80 rfl rfl) (wn6 78 rfl rfl) (wn5 100 rfl rfl) ⟨by decide +kernel, by decide +kernel, by decide +kernel⟩) (fun h => h.elim nofun nofun)
theorem t140_119 : e_ok mD140 119 (1, 5, 7, 0, 121) := oks_astore dX13_mills_119 (by decide +kernel)
theorem t140_121 : e_ok mD140 121 (1, 1, 7, 0, 123) := okl_aload dX13_mills_121
theorem t140_123 : e_ok mD140 123 (11, 3, 197, 1, 128) := And.intro (okm_iface (ci := 3) (x := ⟨"java/util/Iterator", "hasNext", "()Z"⟩) (Da := mD197) rfl dX13_mills_123 rfl mwc_197 (wg6 102 rfl rfl) mwn_197 (wg6 106 rfl rfl) mwi_197 (wn6 104 rfl rfl) (wn6 103 rfl rfl) (wn6 109 rfl rfl) (wn6 107 rfl rfl) (wn6 105 rfl rfl) ⟨by decide +kernel, by decide +kernel, by decide +kernel⟩) (fun h => h.elim nofun nofun)
theorem t140_128 : e_ok mD140 128 (5, 0, 168, 0, 131) := okj_eq dX13_mills_128 (by decide +kernel)
theorem t140_131 : e_ok mD140 131 (1, 1, 7, 0, 133) := okl_aload dX13_mills_131
theorem t140_133 : e_ok mD140 133 (11, 3, 198, 1, 138) := And.intro (okm_iface (ci := 3) (x := ⟨"java/util/Iterator", "next", "()Ljava/lang/Object;"⟩) (Da := mD198) rfl dX13_mills_133 rfl mwc_198 (wg6 112 rfl rfl) mwn_198 (wg6 115 rfl rfl) mwi_198 (wn6 114 rfl rfl) (wn6 113 rfl rfl) (wn6 118 rfl rfl) (wn6 116 rfl rfl) (wn6 105 rfl rfl) ⟨by decide +kernel, by decide +kernel, by decide +kernel⟩) (fun h => h.elim nofun nofun)
theorem t140_138 : e_ok mD140 138 (7, 2, 1, 0, 141) := okw_cast dX13_mills_138 rfl (wg6 212 rfl rfl)
theorem t140_141 : e_ok mD140 141 (11, 2, 170, 1, 144) := And.intro (okCallX.M (okx_virtual (Da := mD170) dX13_mills_141 rfl mwc_170 (wg6 213 rfl rfl) mwn_170 mwv_170 mwi_170 mwd_170)) (fun _ => okx_virtual (Da := mD170) dX13_mills_141 rfl mwc_170 (wg6 213 rfl rfl) mwn_170 mwv_170 mwi_170 mwd_170)
theorem t140_144 : e_ok mD140 144 (1, 4, 8, 0, 146) := oks_istore dX13_mills_144 (by decide +kernel)
theorem t140_146 : e_ok mD140 146 (1, 2, 5, 0, 148) := okl_lload dX13_mills_146
theorem t140_148 : e_ok mD140 148 (0, 0, 10, 0, 150) := Or.inl (okc_bipush dX13_mills_148 (by decide +kernel))
theorem t140_150 : e_ok mD140 150 (1, 0, 8, 0, 152) := okl_iload dX13_mills_150
theorem t140_152 : e_ok mD140 152 (3, 2, 0, 0, 153) := okb_imul dX13_mills_152
theorem t140_153 : e_ok mD140 153 (1, 1, 0, 0, 154) := okl_aload_n dX13_mills_153 rfl
theorem t140_154 : e_ok mD140 154 (7, 0, 18, 10, 157) := And.intro (okw_get dX13_mills_154 rfl hin_18 (by decide +kernel) (wg5 180 rfl rfl) rfl) (okx_none (by decide +kernel) _)
theorem t140_157 : e_ok mD140 157 (3, 2, 0, 0, 158) := okb_imul dX13_mills_157
theorem t140_158 : e_ok mD140 158 (0, 0, 100, 0, 160) := Or.inl (okc_bipush dX13_mills_158 (by decide +kernel))
theorem t140_160 : e_ok mD140 160 (3, 3, 0, 0, 161) := okb_idiv dX13_mills_160
theorem t140_161 : e_ok mD140 161 (15, 5, 0, 0, 162) := okm_i2l dX13_mills_161
theorem t140_162 : e_ok mD140 162 (15, 0, 0, 0, 163) := okm_ladd dX13_mills_162
theorem t140_163 : e_ok mD140 163 (1, 6, 5, 0, 165) := oks_lstore dX13_mills_163 (by decide +kernel)
theorem t140_165 : e_ok mD140 165 (2, 4, 0, 0, 121) := oki_goto dX13_mills_165 (by decide +kernel)
theorem t140_168 : e_ok mD140 168 (1, 1, 0, 0, 169) := okl_aload_n dX13_mills_168 rfl
theorem t140_169 : e_ok mD140 169 (2, 1, 0, 0, 170) := oki_dup dX13_mills_169
theorem t140_170 : e_ok mD140 170 (7, 0, 18, 21, 173) := And.intro (okw_get dX13_mills_170 rfl hin_18 (by decide +kernel) (wg5 191 rfl rfl) rfl) (okx_none (by decide +kernel) _)
theorem t140_173 : e_ok mD140 173 (1, 2, 5, 0, 175) := okl_lload dX13_mills_173
theorem t140_175 : e_ok mD140 175 (15, 0, 0, 0, 176) := okm_ladd dX13_mills_175
theorem t140_176 : e_ok mD140 176 (9, 3, 18, 21, 179) := okw_put dX13_mills_176 rfl hin_18 tyX13_ok nmX13 (by decide +kernel) (wg5 191 rfl rfl) rfl rfl (tyX13_ok 21 (by decide +kernel)) (fun V h => fitV_long h)
theorem t140_179 : e_ok mD140 179 (1, 1, 0, 0, 180) := okl_aload_n dX13_mills_179 rfl
theorem t140_180 : e_ok mD140 180 (2, 1, 0, 0, 181) := oki_dup dX13_mills_180
theorem t140_181 : e_ok mD140 181 (7, 0, 18, 22, 184) := And.intro (okw_get dX13_mills_181 rfl hin_18 (by decide +kernel) (wg5 192 rfl rfl) rfl) (okx_none (by decide +kernel) _)
theorem t140_184 : e_ok mD140 184 (1, 2, 5, 0, 186) := okl_lload dX13_mills_184
theorem t140_186 : e_ok mD140 186 (1, 1, 0, 0, 187) := okl_aload_n dX13_mills_186 rfl
theorem t140_187 : e_ok mD140 187 (0, 0, 109, 0, 189) := Or.inl (okc_bipush dX13_mills_187 (by decide +kernel))
theorem t140_189 : e_ok mD140 189 (11, 2, 157, 2, 192) := And.intro (okCallX.M (okx_virtual (Da := mD157) dX13_mills_189 rfl mwc_157 (wg7 174 rfl rfl) mwn_157 mwv_157 mwi_157 mwd_157)) (fun _ => okx_virtual (Da := mD157) dX13_mills_189 rfl mwc_157 (wg7 174 rfl rfl) mwn_157 mwv_157 mwi_157 mwd_157)
theorem t140_192 : e_ok mD140 192 (15, 5, 0, 0, 193) := okm_i2l dX13_mills_192
theorem t140_193 : e_ok mD140 193 (15, 2, 0, 0, 194) := okm_lmul dX13_mills_193
theorem t140_194 : e_ok mD140 194 (0, 1, 10, 0, 197) := okc_ldc2 dX13_mills_194 (wg7 216 rfl rfl)
theorem t140_197 : e_ok mD140 197 (15, 3, 0, 0, 198) := okm_ldiv dX13_mills_197
theorem t140_198 : e_ok mD140 198 (0, 1, 200, 0, 201) := okc_ldc2 dX13_mills_198 (wg7 217 rfl rfl)
theorem t140_201 : e_ok mD140 201 (1, 1, 1, 0, 202) := okl_aload_n dX13_mills_201 rfl
theorem t140_202 : e_ok mD140 202 (11, 3, 194, 1, 207) := And.intro (okm_iface (ci := 4) (x := ⟨"java/util/List", "size", "()I"⟩) (Da := mD194) rfl dX13_mills_202 rfl mwc_194 (wg6 38 rfl rfl) mwn_194 (wg6 41 rfl rfl) mwi_194 (wn6 40 rfl rfl) (wn6 39 rfl rfl) (wn6 44 rfl rfl) (wn6 42 rfl rfl) (wn5 100 rfl rfl) ⟨by decide +kernel, by decide +kernel, by decide +kernel⟩) (fun h => h.elim nofun nofun)
theorem t140_207 : e_ok mD140 207 (15, 5, 0, 0, 208) := okm_i2l dX13_mills_207
theorem t140_208 : e_ok mD140 208 (15, 2, 0, 0, 209) := okm_lmul dX13_mills_208
theorem t140_209 : e_ok mD140 209 (15, 1, 0, 0, 210) := okm_lsub dX13_mills_209
theorem t140_210 : e_ok mD140 210 (15, 0, 0, 0, 211) := okm_ladd dX13_mills_210
theorem t140_211 : e_ok mD140 211 (9, 3, 18, 22, 214) := okw_put dX13_mills_211 rfl hin_18 tyX13_ok nmX13 (by decide +kernel) (wg5 192 rfl rfl) rfl rfl (tyX13_ok 22 (by decide +kernel)) (fun V h => fitV_long h)
theorem t140_214 : e_ok mD140 214 (1, 1, 0, 0, 215) := okl_aload_n dX13_mills_214 rfl
theorem t140_215 : e_ok mD140 215 (2, 1, 0, 0, 216) := oki_dup dX13_mills_215
theorem t140_216 : e_ok mD140 216 (7, 0, 18, 13, 219) := And.intro (okw_get dX13_mills_216 rfl hin_18 (by decide +kernel) (wg5 183 rfl rfl) rfl) (okx_none (by decide +kernel) _)
theorem t140_219 : e_ok mD140 219 (1, 1, 1, 0, 220) := okl_aload_n dX13_mills_219 rfl
theorem t140_220 : e_ok mD140 220 (11, 3, 194, 1, 225) := And.intro (okm_iface (ci := 4) (x := ⟨"java/util/List", "size", "()I"⟩) (Da := mD194) rfl dX13_mills_220 rfl mwc_194 (wg6 38 rfl rfl) mwn_194 (wg6 41 rfl rfl) mwi_194 (wn6 40 rfl rfl) (wn6 39 rfl rfl) (wn6 44 rfl rfl) (wn6 42 rfl rfl) (wn5 100 rfl rfl) ⟨by decide +kernel, by decide +kernel, by decide +kernel⟩) (fun h => h.elim nofun nofun)
theorem t140_225 : e_ok mD140 225 (3, 0, 0, 0, 226) := okb_iadd dX13_mills_225
theorem t140_226 : e_ok mD140 226 (9, 0, 18, 13, 229) := okw_put dX13_mills_226 rfl hin_18 tyX13_ok nmX13 (by decide +kernel) (wg5 183 rfl rfl) rfl rfl (tyX13_ok 13 (by decide +kernel)) (fun V h => fitV_int h)
theorem t140_229 : e_ok mD140 229 (1, 1, 0, 0, 230) := okl_aload_n dX13_mills_229 rfl
theorem t140_230 : e_ok mD140 230 (2, 1, 0, 0, 231) := oki_dup dX13_mills_230
theorem t140_231 : e_ok mD140 231 (7, 0, 18, 14, 234) := And.intro (okw_get dX13_mills_231 rfl hin_18 (by decide +kernel) (wg5 184 rfl rfl) rfl) (okx_none (by decide +kernel) _)
theorem t140_234 : e_ok mD140 234 (1, 0, 2, 0, 235) := okl_iload_n dX13_mills_234 rfl
theorem t140_235 : e_ok mD140 235 (3, 0, 0, 0, 236) := okb_iadd dX13_mills_235
theorem t140_236 : e_ok mD140 236 (9, 0, 18, 14, 239) := okw_put dX13_mills_236 rfl hin_18 tyX13_ok nmX13 (by decide +kernel) (wg5 184 rfl rfl) rfl rfl (tyX13_ok 14 (by decide +kernel)) (fun V h => fitV_int h)
theorem t140_239 : e_ok mD140 239 (12, 0, 0, 0, 0) := okr_void dX13_mills_239 rfl
theorem t141_0 : e_ok mD141 0 (1, 1, 0, 0, 1) := okl_aload_n dX13_mix_0 rfl
theorem t141_1 : e_ok mD141 1 (0, 0, 0, 0, 2) := Or.inl (okc_iconst dX13_mix_1 (by decide +kernel))
theorem t141_2 : e_ok mD141 2 (9, 0, 18, 0, 5) := okw_put dX13_mix_2 rfl hin_18 tyX13_ok nmX13 (by decide +kernel) (wg5 169 rfl rfl) rfl rfl (tyX13_ok 0 (by decide +kernel)) (fun V h => fitV_int h)
theorem t141_5 : e_ok mD141 5 (1, 1, 0, 0, 6) := okl_aload_n dX13_mix_5 rfl
theorem t141_6 : e_ok mD141 6 (7, 0, 18, 6, 9) := And.intro (okw_get dX13_mix_6 rfl hin_18 (by decide +kernel) (wg5 176 rfl rfl) rfl) (okx_none (by decide +kernel) _)
theorem t141_9 : e_ok mD141 9 (1, 4, 2, 0, 10) := oks_istore_n dX13_mix_9 rfl (by decide +kernel)
theorem t141_10 : e_ok mD141 10 (1, 1, 0, 0, 11) := okl_aload_n dX13_mix_10 rfl
theorem t141_11 : e_ok mD141 11 (1, 0, 1, 0, 12) := okl_iload_n dX13_mix_11 rfl
theorem t141_12 : e_ok mD141 12 (9, 1, 18, 6, 15) := okw_put dX13_mix_12 rfl hin_18 tyX13_ok nmX13 (by decide +kernel) (wg5 176 rfl rfl) rfl rfl (tyX13_ok 6 (by decide +kernel)) (fun V h => fitV_bool h)
theorem t141_15 : e_ok mD141 15 (1, 0, 2, 0, 16) := okl_iload_n dX13_mix_15 rfl
theorem t141_16 : e_ok mD141 16 (12, 6, 0, 0, 0) := okr_bool dX13_mix_16 rfl
theorem t142_0 : e_ok mD142 0 (1, 1, 0, 0, 1) := okl_aload_n dX13_money_0 rfl
theorem t142_1 : e_ok mD142 1 (0, 0, 0, 0, 2) := Or.inl (okc_iconst dX13_money_1 (by decide +kernel))
theorem t142_2 : e_ok mD142 2 (9, 0, 18, 0, 5) := okw_put dX13_money_2 rfl hin_18 tyX13_ok nmX13 (by decide +kernel) (wg5 169 rfl rfl) rfl rfl (tyX13_ok 0 (by decide +kernel)) (fun V h => fitV_int h)
theorem t142_5 : e_ok mD142 5 (1, 1, 0, 0, 6) := okl_aload_n dX13_money_5 rfl
theorem t142_6 : e_ok mD142 6 (7, 0, 18, 22, 9) := And.intro (okw_get dX13_money_6 rfl hin_18 (by decide +kernel) (wg5 192 rfl rfl) rfl) (okx_none (by decide +kernel) _)
theorem t142_9 : e_ok mD142 9 (12, 2, 0, 0, 0) := okr_long dX13_money_9 rfl
theorem t143_0 : e_ok mD143 0 (0, 0, 4294967295, 0, 1) := Or.inl (okc_iconst dX13_next_0 (by decide +kernel))
theorem t143_1 : e_ok mD143 1 (1, 4, 3, 0, 2) := oks_istore_n dX13_next_1 rfl (by decide +kernel)
theorem t143_2 : e_ok mD143 2 (0, 0, 0, 0, 3) := Or.inl (okc_iconst dX13_next_2 (by decide +kernel))
theorem t143_3 : e_ok mD143 3 (1, 4, 4, 0, 5) := oks_istore dX13_next_3 (by decide +kernel)
theorem t143_5 : e_ok mD143 5 (1, 0, 4, 0, 7) := okl_iload dX13_next_5
theorem t143_7 : e_ok mD143 7 (0, 0, 60, 0, 9) := Or.inl (okc_bipush dX13_next_7 (by decide +kernel))
theorem t143_9 : e_ok mD143 9 (6, 3, 65, 0, 12) := okk_ge dX13_next_9 (by decide +kernel)
theorem t143_12 : e_ok mD143 12 (1, 1, 2, 0, 13) := okl_aload_n dX13_next_12 rfl
theorem t143_13 : e_ok mD143 13 (1, 0, 4, 0, 15) := okl_iload dX13_next_13
theorem t143_15 : e_ok mD143 15 (8, 0, 0, 0, 16) := And.intro (oka_i dX13_next_15) (oky_i dX13_next_15)
theorem t143_16 : e_ok mD143 16 (0, 0, 4294967295, 0, 17) := Or.inl (okc_iconst dX13_next_16 (by decide +kernel))
theorem t143_17 : e_ok mD143 17 (6, 0, 59, 0, 20) := okk_eq dX13_next_17 (by decide +kernel)
theorem t143_20 : e_ok mD143 20 (1, 0, 4, 0, 22) := okl_iload dX13_next_20
theorem t143_22 : e_ok mD143 22 (0, 0, 10, 0, 24) := Or.inl (okc_bipush dX13_next_22 (by decide +kernel))
theorem t143_24 : e_ok mD143 24 (3, 3, 0, 0, 25) := okb_idiv dX13_next_24
theorem t143_25 : e_ok mD143 25 (1, 0, 1, 0, 26) := okl_iload_n dX13_next_25 rfl
theorem t143_26 : e_ok mD143 26 (6, 3, 59, 0, 29) := okk_ge dX13_next_26 (by decide +kernel)
theorem t143_29 : e_ok mD143 29 (1, 1, 0, 0, 30) := okl_aload_n dX13_next_29 rfl
theorem t143_30 : e_ok mD143 30 (1, 0, 4, 0, 32) := okl_iload dX13_next_30
theorem t143_32 : e_ok mD143 32 (11, 2, 137, 2, 35) := And.intro (okCallX.M (okx_virtual (Da := mD137) dX13_next_32 rfl mwc_137 (wg6 184 rfl rfl) mwn_137 mwv_137 mwi_137 mwd_137)) (fun _ => okx_virtual (Da := mD137) dX13_next_32 rfl mwc_137 (wg6 184 rfl rfl) mwn_137 mwv_137 mwi_137 mwd_137)
theorem t143_35 : e_ok mD143 35 (5, 1, 41, 0, 38) := okj_ne dX13_next_35 (by decide +kernel)
theorem t143_38 : e_ok mD143 38 (2, 4, 0, 0, 59) := oki_goto dX13_next_38 (by decide +kernel)
theorem t143_41 : e_ok mD143 41 (1, 0, 3, 0, 42) := okl_iload_n dX13_next_41 rfl
theorem t143_42 : e_ok mD143 42 (0, 0, 4294967295, 0, 43) := Or.inl (okc_iconst dX13_next_42 (by decide +kernel))
theorem t143_43 : e_ok mD143 43 (6, 0, 56, 0, 46) := okk_eq dX13_next_43 (by decide +kernel)
theorem t143_46 : e_ok mD143 46 (1, 1, 2, 0, 47) := okl_aload_n dX13_next_46 rfl
theorem t143_47 : e_ok mD143 47 (1, 0, 4, 0, 49) := okl_iload dX13_next_47
theorem t143_49 : e_ok mD143 49 (8, 0, 0, 0, 50) := And.intro (oka_i dX13_next_49) (oky_i dX13_next_49)
theorem t143_50 : e_ok mD143 50 (1, 1, 2, 0, 51) := okl_aload_n dX13_next_50 rfl
theorem t143_51 : e_ok mD143 51 (1, 0, 3, 0, 52) := okl_iload_n dX13_next_51 rfl
theorem t143_52 : e_ok mD143 52 (8, 0, 0, 0, 53) := And.intro (oka_i dX13_next_52) (oky_i dX13_next_52)
theorem t143_53 : e_ok mD143 53 (6, 3, 59, 0, 56) := okk_ge dX13_next_53 (by decide +kernel)
theorem t143_56 : e_ok mD143 56 (1, 0, 4, 0, 58) := okl_iload dX13_next_56
theorem t143_58 : e_ok mD143 58 (1, 4, 3, 0, 59) := oks_istore_n dX13_next_58 rfl (by decide +kernel)
theorem t143_59 : e_ok mD143 59 (2, 0, 4, 1, 62) := oki_iinc dX13_next_59 (by decide +kernel) (by decide +kernel)
theorem t143_62 : e_ok mD143 62 (2, 4, 0, 0, 5) := oki_goto dX13_next_62 (by decide +kernel)
theorem t143_65 : e_ok mD143 65 (1, 0, 3, 0, 66) := okl_iload_n dX13_next_65 rfl
theorem t143_66 : e_ok mD143 66 (12, 1, 0, 0, 0) := okr_int dX13_next_66 rfl
theorem t144_0 : e_ok mD144 0 (1, 0, 1, 0, 1) := okl_iload_n dX13_phase_0 rfl
theorem t144_1 : e_ok mD144 1 (11, 0, 135, 1, 4) := And.intro (okCallX.M (okx_static (Da := mD135) dX13_phase_1 rfl mwc_135 (wg6 169 rfl rfl) mws_135 mwi_135 mwd_135)) (fun _ => okx_static (Da := mD135) dX13_phase_1 rfl mwc_135 (wg6 169 rfl rfl) mws_135 mwi_135 mwd_135)
theorem t144_4 : e_ok mD144 4 (5, 0, 53, 0, 7) := okj_eq dX13_phase_4 (by decide +kernel)
theorem t144_7 : e_ok mD144 7 (1, 1, 0, 0, 8) := okl_aload_n dX13_phase_7 rfl
theorem t144_8 : e_ok mD144 8 (7, 0, 18, 3, 11) := And.intro (okw_get dX13_phase_8 rfl hin_18 (by decide +kernel) (wg5 173 rfl rfl) rfl) (okx_none (by decide +kernel) _)
theorem t144_11 : e_ok mD144 11 (11, 3, 192, 1, 16) := And.intro (okm_iface (ci := 4) (x := ⟨"java/util/List", "isEmpty", "()Z"⟩) (Da := mD192) rfl dX13_phase_11 rfl mwc_192 (wg6 136 rfl rfl) mwn_192 (wg6 139 rfl rfl) mwi_192 (wn6 138 rfl rfl) (wn6 137 rfl rfl) (wn6 142 rfl rfl) (wn6 140 rfl rfl) (wn5 100 rfl rfl) ⟨by decide +kernel, by decide +kernel, by decide +kernel⟩) (fun h => h.elim nofun nofun)
theorem t144_16 : e_ok mD144 16 (5, 1, 49, 0, 19) := okj_ne dX13_phase_16 (by decide +kernel)
theorem t144_19 : e_ok mD144 19 (1, 0, 1, 0, 20) := okl_iload_n dX13_phase_19 rfl
theorem t144_20 : e_ok mD144 20 (1, 1, 0, 0, 21) := okl_aload_n dX13_phase_20 rfl
theorem t144_21 : e_ok mD144 21 (7, 0, 18, 3, 24) := And.intro (okw_get dX13_phase_21 rfl hin_18 (by decide +kernel) (wg5 173 rfl rfl) rfl) (okx_none (by decide +kernel) _)
theorem t144_24 : e_ok mD144 24 (1, 1, 0, 0, 25) := okl_aload_n dX13_phase_24 rfl
theorem t144_25 : e_ok mD144 25 (7, 0, 18, 3, 28) := And.intro (okw_get dX13_phase_25 rfl hin_18 (by decide +kernel) (wg5 173 rfl rfl) rfl) (okx_none (by decide +kernel) _)
theorem t144_28 : e_ok mD144 28 (11, 3, 194, 1, 33) := And.intro (okm_iface (ci := 4) (x := ⟨"java/util/List", "size", "()I"⟩) (Da := mD194) rfl dX13_phase_28 rfl mwc_194 (wg6 38 rfl rfl) mwn_194 (wg6 41 rfl rfl) mwi_194 (wn6 40 rfl rfl) (wn6 39 rfl rfl) (wn6 44 rfl rfl) (wn6 42 rfl rfl) (wn5 100 rfl rfl) ⟨by decide +kernel, by decide +kernel, by decide +kernel⟩) (fun h => h.elim nofun nofun)
theorem t144_33 : e_ok mD144 33 (0, 0, 1, 0, 34) := Or.inl (okc_iconst dX13_phase_33 (by decide +kernel))
theorem t144_34 : e_ok mD144 34 (3, 1, 0, 0, 35) := okb_isub dX13_phase_34
theorem t144_35 : e_ok mD144 35 (11, 3, 189, 2, 40) := And.intro (okm_iface (ci := 4) (x := ⟨"java/util/List", "get", "(I)Ljava/lang/Object;"⟩) (Da := mD189) rfl dX13_phase_35 rfl mwc_189 (wg6 11 rfl rfl) mwn_189 (wg6 14 rfl rfl) mwi_189 (wn6 13 rfl rfl) (wn6 12 rfl rfl) (wn6 17 rfl rfl) (wn6 15 rfl rfl) (wn5 100 rfl rfl) ⟨by decide +kernel, by decide +kernel, by decide +kernel⟩) (fun h => h.elim nofun nofun)
theorem t144_40 : e_ok mD144 40 (7, 2, 1, 0, 43) := okw_cast dX13_phase_40 rfl (wg6 212 rfl rfl)
