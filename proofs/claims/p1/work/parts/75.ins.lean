/-! every entry of the tables -/
theorem t121_0 : e_ok mD121 0 (1, 1, 0, 0, 1) := okl_aload_n dX13_grade_0 rfl
theorem t121_1 : e_ok mD121 1 (1, 0, 1, 0, 2) := okl_iload_n dX13_grade_1 rfl
theorem t121_2 : e_ok mD121 2 (11, 0, 125, 1, 5) := And.intro (okCallX.M (okx_static (Da := mD125) dX13_grade_2 rfl mwc_125 (wg6 1 rfl rfl) mws_125 mwi_125 mwd_125)) (fun _ => okx_static (Da := mD125) dX13_grade_2 rfl mwc_125 (wg6 1 rfl rfl) mws_125 mwi_125 mwd_125)
theorem t121_5 : e_ok mD121 5 (5, 0, 12, 0, 8) := okj_eq dX13_grade_5 (by decide +kernel)
theorem t121_8 : e_ok mD121 8 (0, 0, 0, 0, 9) := Or.inl (okc_iconst dX13_grade_8 (by decide +kernel))
theorem t121_9 : e_ok mD121 9 (2, 4, 0, 0, 13) := oki_goto dX13_grade_9 (by decide +kernel)
theorem t121_12 : e_ok mD121 12 (0, 0, 1, 0, 13) := Or.inl (okc_iconst dX13_grade_12 (by decide +kernel))
theorem t121_13 : e_ok mD121 13 (11, 2, 131, 2, 16) := And.intro (okCallX.M (okx_virtual (Da := mD131) dX13_grade_13 rfl mwc_131 (wg6 26 rfl rfl) mwn_131 mwv_131 mwi_131 mwd_131)) (fun _ => okx_virtual (Da := mD131) dX13_grade_13 rfl mwc_131 (wg6 26 rfl rfl) mwn_131 mwv_131 mwi_131 mwd_131)
theorem t121_16 : e_ok mD121 16 (5, 0, 23, 0, 19) := okj_eq dX13_grade_16 (by decide +kernel)
theorem t121_19 : e_ok mD121 19 (0, 0, 0, 0, 20) := Or.inl (okc_iconst dX13_grade_19 (by decide +kernel))
theorem t121_20 : e_ok mD121 20 (2, 4, 0, 0, 28) := oki_goto dX13_grade_20 (by decide +kernel)
theorem t121_23 : e_ok mD121 23 (1, 1, 0, 0, 24) := okl_aload_n dX13_grade_23 rfl
theorem t121_24 : e_ok mD121 24 (1, 0, 1, 0, 25) := okl_iload_n dX13_grade_24 rfl
theorem t121_25 : e_ok mD121 25 (11, 2, 122, 2, 28) := And.intro (okCallX.M (okx_virtual (Da := mD122) dX13_grade_25 rfl mwc_122 (wg6 66 rfl rfl) mwn_122 mwv_122 mwi_122 mwd_122)) (fun _ => okx_virtual (Da := mD122) dX13_grade_25 rfl mwc_122 (wg6 66 rfl rfl) mwn_122 mwv_122 mwi_122 mwd_122)
theorem t121_28 : e_ok mD121 28 (12, 1, 0, 0, 0) := okr_int dX13_grade_28 rfl
theorem t122_0 : e_ok mD122 0 (0, 2, 0, 0, 1) := okc_dconst0 dX13_gradeOf_0
theorem t122_1 : e_ok mD122 1 (1, 7, 2, 0, 2) := oks_dstore_n dX13_gradeOf_1 rfl (by decide +kernel)
theorem t122_2 : e_ok mD122 2 (0, 2, 0, 0, 3) := okc_dconst0 dX13_gradeOf_2
theorem t122_3 : e_ok mD122 3 (1, 7, 4, 0, 5) := oks_dstore dX13_gradeOf_3 (by decide +kernel)
theorem t122_5 : e_ok mD122 5 (0, 2, 0, 0, 6) := okc_dconst0 dX13_gradeOf_5
theorem t122_6 : e_ok mD122 6 (1, 7, 6, 0, 8) := oks_dstore dX13_gradeOf_6 (by decide +kernel)
theorem t122_8 : e_ok mD122 8 (0, 0, 0, 0, 9) := Or.inl (okc_iconst dX13_gradeOf_8 (by decide +kernel))
theorem t122_9 : e_ok mD122 9 (1, 4, 8, 0, 11) := oks_istore dX13_gradeOf_9 (by decide +kernel)
theorem t122_11 : e_ok mD122 11 (1, 1, 0, 0, 12) := okl_aload_n dX13_gradeOf_11 rfl
theorem t122_12 : e_ok mD122 12 (7, 0, 18, 2, 15) := And.intro (okw_get dX13_gradeOf_12 rfl hin_18 (by decide +kernel) (wg5 169 rfl rfl) rfl) (okx_none (by decide +kernel) _)
theorem t122_15 : e_ok mD122 15 (11, 3, 188, 1, 20) := And.intro (okm_iface (ci := 4) (x := ⟨"java/util/List", "iterator", "()Ljava/util/Iterator;"⟩) (Da := mD188) rfl dX13_gradeOf_15 rfl mwc_188 (wg6 71 rfl rfl) mwn_188 (wg6 74 rfl rfl) mwi_188 (wn6 73 rfl rfl) (wn6 72 rfl rfl) (wn6 77 rfl rfl) (wn6 75 rfl rfl) (wn5 97 rfl rfl) ⟨by decide +kernel, by decide +kernel, by decide +kernel⟩) (fun h => h.elim nofun nofun)
theorem t122_20 : e_ok mD122 20 (1, 5, 9, 0, 22) := oks_astore dX13_gradeOf_20 (by decide +kernel)
theorem t122_22 : e_ok mD122 22 (1, 1, 9, 0, 24) := okl_aload dX13_gradeOf_22
theorem t122_24 : e_ok mD122 24 (11, 3, 192, 1, 29) := And.intro (okm_iface (ci := 3) (x := ⟨"java/util/Iterator", "hasNext", "()Z"⟩) (Da := mD192) rfl dX13_gradeOf_24 rfl mwc_192 (wg6 99 rfl rfl) mwn_192 (wg6 103 rfl rfl) mwi_192 (wn6 101 rfl rfl) (wn6 100 rfl rfl) (wn6 106 rfl rfl) (wn6 104 rfl rfl) (wn6 102 rfl rfl) ⟨by decide +kernel, by decide +kernel, by decide +kernel⟩) (fun h => h.elim nofun nofun)
theorem t122_29 : e_ok mD122 29 (5, 0, 140, 0, 32) := okj_eq dX13_gradeOf_29 (by decide +kernel)
theorem t122_32 : e_ok mD122 32 (1, 1, 9, 0, 34) := okl_aload dX13_gradeOf_32
theorem t122_34 : e_ok mD122 34 (11, 3, 193, 1, 39) := And.intro (okm_iface (ci := 3) (x := ⟨"java/util/Iterator", "next", "()Ljava/lang/Object;"⟩) (Da := mD193) rfl dX13_gradeOf_34 rfl mwc_193 (wg6 109 rfl rfl) mwn_193 (wg6 112 rfl rfl) mwi_193 (wn6 111 rfl rfl) (wn6 110 rfl rfl) (wn6 115 rfl rfl) (wn6 113 rfl rfl) (wn6 102 rfl rfl) ⟨by decide +kernel, by decide +kernel, by decide +kernel⟩) (fun h => h.elim nofun nofun)
theorem t122_39 : e_ok mD122 39 (7, 2, 17, 0, 42) := okw_cast dX13_gradeOf_39 rfl (wg6 43 rfl rfl)
theorem t122_42 : e_ok mD122 42 (1, 5, 10, 0, 44) := oks_astore dX13_gradeOf_42 (by decide +kernel)
theorem t122_44 : e_ok mD122 44 (1, 1, 10, 0, 46) := okl_aload dX13_gradeOf_44
theorem t122_46 : e_ok mD122 46 (7, 0, 17, 0, 49) := And.intro (okw_getN dX13_gradeOf_46 rfl hin_17 (by decide +kernel) (wn6 50 rfl rfl) rfl) (okx_none (by decide +kernel) _)
theorem t122_49 : e_ok mD122 49 (1, 0, 1, 0, 50) := okl_iload_n dX13_gradeOf_49 rfl
theorem t122_50 : e_ok mD122 50 (6, 1, 68, 0, 53) := okk_ne dX13_gradeOf_50 (by decide +kernel)
theorem t122_53 : e_ok mD122 53 (1, 3, 2, 0, 54) := okl_dload_n dX13_gradeOf_53 rfl
theorem t122_54 : e_ok mD122 54 (1, 1, 10, 0, 56) := okl_aload dX13_gradeOf_54
theorem t122_56 : e_ok mD122 56 (7, 0, 17, 1, 59) := And.intro (okw_getN dX13_gradeOf_56 rfl hin_17 (by decide +kernel) (wn6 52 rfl rfl) rfl) (okx_none (by decide +kernel) _)
theorem t122_61 : e_ok mD122 61 (1, 7, 2, 0, 62) := oks_dstore_n dX13_gradeOf_61 rfl (by decide +kernel)
theorem t122_62 : e_ok mD122 62 (2, 0, 8, 1, 65) := oki_iinc dX13_gradeOf_62 (by decide +kernel) (by decide +kernel)
theorem t122_65 : e_ok mD122 65 (2, 4, 0, 0, 22) := oki_goto dX13_gradeOf_65 (by decide +kernel)
theorem t122_68 : e_ok mD122 68 (1, 1, 10, 0, 70) := okl_aload dX13_gradeOf_68
theorem t122_70 : e_ok mD122 70 (7, 0, 17, 0, 73) := And.intro (okw_getN dX13_gradeOf_70 rfl hin_17 (by decide +kernel) (wn6 50 rfl rfl) rfl) (okx_none (by decide +kernel) _)
theorem t122_73 : e_ok mD122 73 (0, 0, 10, 0, 75) := Or.inl (okc_bipush dX13_gradeOf_73 (by decide +kernel))
theorem t122_75 : e_ok mD122 75 (3, 4, 0, 0, 76) := okb_irem dX13_gradeOf_75
theorem t122_76 : e_ok mD122 76 (1, 0, 1, 0, 77) := okl_iload_n dX13_gradeOf_76 rfl
theorem t122_77 : e_ok mD122 77 (0, 0, 10, 0, 79) := Or.inl (okc_bipush dX13_gradeOf_77 (by decide +kernel))
theorem t122_79 : e_ok mD122 79 (3, 4, 0, 0, 80) := okb_irem dX13_gradeOf_79
theorem t122_80 : e_ok mD122 80 (3, 1, 0, 0, 81) := okb_isub dX13_gradeOf_80
theorem t122_81 : e_ok mD122 81 (1, 4, 11, 0, 83) := oks_istore dX13_gradeOf_81 (by decide +kernel)
theorem t122_83 : e_ok mD122 83 (1, 1, 10, 0, 85) := okl_aload dX13_gradeOf_83
theorem t122_85 : e_ok mD122 85 (7, 0, 17, 0, 88) := And.intro (okw_getN dX13_gradeOf_85 rfl hin_17 (by decide +kernel) (wn6 50 rfl rfl) rfl) (okx_none (by decide +kernel) _)
theorem t122_88 : e_ok mD122 88 (0, 0, 10, 0, 90) := Or.inl (okc_bipush dX13_gradeOf_88 (by decide +kernel))
theorem t122_90 : e_ok mD122 90 (3, 3, 0, 0, 91) := okb_idiv dX13_gradeOf_90
theorem t122_91 : e_ok mD122 91 (1, 0, 1, 0, 92) := okl_iload_n dX13_gradeOf_91 rfl
theorem t122_92 : e_ok mD122 92 (0, 0, 10, 0, 94) := Or.inl (okc_bipush dX13_gradeOf_92 (by decide +kernel))
theorem t122_94 : e_ok mD122 94 (3, 3, 0, 0, 95) := okb_idiv dX13_gradeOf_94
theorem t122_95 : e_ok mD122 95 (3, 1, 0, 0, 96) := okb_isub dX13_gradeOf_95
theorem t122_96 : e_ok mD122 96 (1, 4, 12, 0, 98) := oks_istore dX13_gradeOf_96 (by decide +kernel)
theorem t122_99 : e_ok mD122 99 (1, 0, 11, 0, 101) := okl_iload dX13_gradeOf_99
theorem t122_101 : e_ok mD122 101 (1, 0, 11, 0, 103) := okl_iload dX13_gradeOf_101
theorem t122_103 : e_ok mD122 103 (3, 2, 0, 0, 104) := okb_imul dX13_gradeOf_103
theorem t122_104 : e_ok mD122 104 (0, 0, 4, 0, 105) := Or.inl (okc_iconst dX13_gradeOf_104 (by decide +kernel))
theorem t122_105 : e_ok mD122 105 (1, 0, 12, 0, 107) := okl_iload dX13_gradeOf_105
theorem t122_107 : e_ok mD122 107 (3, 2, 0, 0, 108) := okb_imul dX13_gradeOf_107
theorem t122_108 : e_ok mD122 108 (1, 0, 12, 0, 110) := okl_iload dX13_gradeOf_108
theorem t122_110 : e_ok mD122 110 (3, 2, 0, 0, 111) := okb_imul dX13_gradeOf_110
theorem t122_111 : e_ok mD122 111 (3, 0, 0, 0, 112) := okb_iadd dX13_gradeOf_111
theorem t122_114 : e_ok mD122 114 (1, 7, 13, 0, 116) := oks_dstore dX13_gradeOf_114 (by decide +kernel)
theorem t122_116 : e_ok mD122 116 (1, 3, 4, 0, 118) := okl_dload dX13_gradeOf_116
theorem t122_118 : e_ok mD122 118 (1, 3, 13, 0, 120) := okl_dload dX13_gradeOf_118
theorem t122_120 : e_ok mD122 120 (1, 1, 10, 0, 122) := okl_aload dX13_gradeOf_120
theorem t122_122 : e_ok mD122 122 (7, 0, 17, 1, 125) := And.intro (okw_getN dX13_gradeOf_122 rfl hin_17 (by decide +kernel) (wn6 52 rfl rfl) rfl) (okx_none (by decide +kernel) _)
theorem t122_128 : e_ok mD122 128 (1, 7, 4, 0, 130) := oks_dstore dX13_gradeOf_128 (by decide +kernel)
theorem t122_130 : e_ok mD122 130 (1, 3, 6, 0, 132) := okl_dload dX13_gradeOf_130
theorem t122_132 : e_ok mD122 132 (1, 3, 13, 0, 134) := okl_dload dX13_gradeOf_132
theorem t122_135 : e_ok mD122 135 (1, 7, 6, 0, 137) := oks_dstore dX13_gradeOf_135 (by decide +kernel)
theorem t122_137 : e_ok mD122 137 (2, 4, 0, 0, 22) := oki_goto dX13_gradeOf_137 (by decide +kernel)
theorem t122_140 : e_ok mD122 140 (1, 1, 0, 0, 141) := okl_aload_n dX13_gradeOf_140 rfl
theorem t122_141 : e_ok mD122 141 (7, 0, 18, 2, 144) := And.intro (okw_get dX13_gradeOf_141 rfl hin_18 (by decide +kernel) (wg5 169 rfl rfl) rfl) (okx_none (by decide +kernel) _)
theorem t122_144 : e_ok mD122 144 (11, 3, 187, 1, 149) := And.intro (okm_iface (ci := 4) (x := ⟨"java/util/List", "isEmpty", "()Z"⟩) (Da := mD187) rfl dX13_gradeOf_144 rfl mwc_187 (wg6 133 rfl rfl) mwn_187 (wg6 136 rfl rfl) mwi_187 (wn6 135 rfl rfl) (wn6 134 rfl rfl) (wn6 139 rfl rfl) (wn6 137 rfl rfl) (wn5 97 rfl rfl) ⟨by decide +kernel, by decide +kernel, by decide +kernel⟩) (fun h => h.elim nofun nofun)
theorem t122_149 : e_ok mD122 149 (5, 0, 154, 0, 152) := okj_eq dX13_gradeOf_149 (by decide +kernel)
theorem t122_152 : e_ok mD122 152 (0, 0, 0, 0, 153) := Or.inl (okc_iconst dX13_gradeOf_152 (by decide +kernel))
theorem t122_153 : e_ok mD122 153 (12, 1, 0, 0, 0) := okr_int dX13_gradeOf_153 rfl
theorem t122_154 : e_ok mD122 154 (1, 0, 8, 0, 156) := okl_iload dX13_gradeOf_154
theorem t122_156 : e_ok mD122 156 (5, 5, 167, 0, 159) := okj_le dX13_gradeOf_156 (by decide +kernel)
theorem t122_159 : e_ok mD122 159 (1, 3, 2, 0, 160) := okl_dload_n dX13_gradeOf_159 rfl
theorem t122_160 : e_ok mD122 160 (1, 0, 8, 0, 162) := okl_iload dX13_gradeOf_160
theorem t122_164 : e_ok mD122 164 (2, 4, 0, 0, 172) := oki_goto dX13_gradeOf_164 (by decide +kernel)
theorem t122_167 : e_ok mD122 167 (1, 3, 4, 0, 169) := okl_dload dX13_gradeOf_167
theorem t122_169 : e_ok mD122 169 (1, 3, 6, 0, 171) := okl_dload dX13_gradeOf_169
theorem t122_176 : e_ok mD122 176 (12, 1, 0, 0, 0) := okr_int dX13_gradeOf_176 rfl
theorem t123_0 : e_ok mD123 0 (1, 1, 0, 0, 1) := okl_aload_n dX13_isBalanced_0 rfl
theorem t123_1 : e_ok mD123 1 (0, 0, 0, 0, 2) := Or.inl (okc_iconst dX13_isBalanced_1 (by decide +kernel))
theorem t123_2 : e_ok mD123 2 (9, 0, 18, 0, 5) := okw_put dX13_isBalanced_2 rfl hin_18 tyX13_ok nmX13 (by decide +kernel) (wg5 166 rfl rfl) rfl rfl (tyX13_ok 0 (by decide +kernel)) (fun V h => fitV_int h)
theorem t123_5 : e_ok mD123 5 (0, 0, 1, 0, 6) := Or.inl (okc_iconst dX13_isBalanced_5 (by decide +kernel))
theorem t123_6 : e_ok mD123 6 (12, 6, 0, 0, 0) := okr_bool dX13_isBalanced_6 rfl
theorem t124_0 : e_ok mD124 0 (1, 0, 1, 0, 1) := okl_iload_n dX13_isBetween_0 rfl
theorem t124_1 : e_ok mD124 1 (1, 0, 0, 0, 2) := okl_iload_n dX13_isBetween_1 rfl
theorem t124_2 : e_ok mD124 2 (6, 4, 14, 0, 5) := okk_gt dX13_isBetween_2 (by decide +kernel)
theorem t124_5 : e_ok mD124 5 (1, 0, 0, 0, 6) := okl_iload_n dX13_isBetween_5 rfl
theorem t124_6 : e_ok mD124 6 (1, 0, 2, 0, 7) := okl_iload_n dX13_isBetween_6 rfl
theorem t124_7 : e_ok mD124 7 (6, 4, 14, 0, 10) := okk_gt dX13_isBetween_7 (by decide +kernel)
theorem t124_10 : e_ok mD124 10 (0, 0, 1, 0, 11) := Or.inl (okc_iconst dX13_isBetween_10 (by decide +kernel))
theorem t124_11 : e_ok mD124 11 (2, 4, 0, 0, 15) := oki_goto dX13_isBetween_11 (by decide +kernel)
theorem t124_14 : e_ok mD124 14 (0, 0, 0, 0, 15) := Or.inl (okc_iconst dX13_isBetween_14 (by decide +kernel))
theorem t124_15 : e_ok mD124 15 (12, 6, 0, 0, 0) := okr_bool dX13_isBetween_15 rfl
theorem t125_0 : e_ok mD125 0 (1, 0, 0, 0, 1) := okl_iload_n dX13_isBlock_0 rfl
theorem t125_1 : e_ok mD125 1 (0, 0, 0, 0, 2) := Or.inl (okc_iconst dX13_isBlock_1 (by decide +kernel))
theorem t125_2 : e_ok mD125 2 (0, 0, 59, 0, 4) := Or.inl (okc_bipush dX13_isBlock_2 (by decide +kernel))
theorem t125_4 : e_ok mD125 4 (11, 0, 124, 3, 7) := And.intro (okCallX.M (okx_static (Da := mD124) dX13_isBlock_4 rfl mwc_124 (wg6 4 rfl rfl) mws_124 mwi_124 mwd_124)) (fun _ => okx_static (Da := mD124) dX13_isBlock_4 rfl mwc_124 (wg6 4 rfl rfl) mws_124 mwi_124 mwd_124)
theorem t125_7 : e_ok mD125 7 (12, 6, 0, 0, 0) := okr_bool dX13_isBlock_7 rfl
theorem t126_0 : e_ok mD126 0 (1, 1, 0, 0, 1) := okl_aload_n dX13_isDug_0 rfl
theorem t126_1 : e_ok mD126 1 (1, 0, 1, 0, 2) := okl_iload_n dX13_isDug_1 rfl
theorem t126_2 : e_ok mD126 2 (11, 0, 125, 1, 5) := And.intro (okCallX.M (okx_static (Da := mD125) dX13_isDug_2 rfl mwc_125 (wg6 1 rfl rfl) mws_125 mwi_125 mwd_125)) (fun _ => okx_static (Da := mD125) dX13_isDug_2 rfl mwc_125 (wg6 1 rfl rfl) mws_125 mwi_125 mwd_125)
theorem t126_5 : e_ok mD126 5 (5, 0, 12, 0, 8) := okj_eq dX13_isDug_5 (by decide +kernel)
theorem t126_8 : e_ok mD126 8 (0, 0, 0, 0, 9) := Or.inl (okc_iconst dX13_isDug_8 (by decide +kernel))
theorem t126_9 : e_ok mD126 9 (2, 4, 0, 0, 13) := oki_goto dX13_isDug_9 (by decide +kernel)
theorem t126_12 : e_ok mD126 12 (0, 0, 1, 0, 13) := Or.inl (okc_iconst dX13_isDug_12 (by decide +kernel))
theorem t126_13 : e_ok mD126 13 (11, 2, 131, 2, 16) := And.intro (okCallX.M (okx_virtual (Da := mD131) dX13_isDug_13 rfl mwc_131 (wg6 26 rfl rfl) mwn_131 mwv_131 mwi_131 mwd_131)) (fun _ => okx_virtual (Da := mD131) dX13_isDug_13 rfl mwc_131 (wg6 26 rfl rfl) mwn_131 mwv_131 mwi_131 mwd_131)
theorem t126_16 : e_ok mD126 16 (5, 1, 42, 0, 19) := okj_ne dX13_isDug_16 (by decide +kernel)
theorem t126_19 : e_ok mD126 19 (1, 1, 0, 0, 20) := okl_aload_n dX13_isDug_19 rfl
theorem t126_20 : e_ok mD126 20 (7, 0, 18, 1, 23) := And.intro (okw_get dX13_isDug_20 rfl hin_18 (by decide +kernel) (wg5 168 rfl rfl) rfl) (okx_none (by decide +kernel) _)
theorem t126_23 : e_ok mD126 23 (1, 0, 1, 0, 24) := okl_iload_n dX13_isDug_23 rfl
theorem t126_24 : e_ok mD126 24 (11, 3, 184, 2, 29) := And.intro (okm_iface (ci := 4) (x := ⟨"java/util/List", "get", "(I)Ljava/lang/Object;"⟩) (Da := mD184) rfl dX13_isDug_24 rfl mwc_184 (wg6 8 rfl rfl) mwn_184 (wg6 11 rfl rfl) mwi_184 (wn6 10 rfl rfl) (wn6 9 rfl rfl) (wn6 14 rfl rfl) (wn6 12 rfl rfl) (wn5 97 rfl rfl) ⟨by decide +kernel, by decide +kernel, by decide +kernel⟩) (fun h => h.elim nofun nofun)
theorem t126_29 : e_ok mD126 29 (7, 2, 15, 0, 32) := okw_cast dX13_isDug_29 rfl (wg5 69 rfl rfl)
theorem t126_32 : e_ok mD126 32 (7, 0, 15, 1, 35) := And.intro (okw_getN dX13_isDug_32 rfl hin_15 (by decide +kernel) (wn5 77 rfl rfl) rfl) (okx_none (by decide +kernel) _)
theorem t126_35 : e_ok mD126 35 (5, 0, 42, 0, 38) := okj_eq dX13_isDug_35 (by decide +kernel)
theorem t126_38 : e_ok mD126 38 (0, 0, 1, 0, 39) := Or.inl (okc_iconst dX13_isDug_38 (by decide +kernel))
theorem t126_39 : e_ok mD126 39 (2, 4, 0, 0, 43) := oki_goto dX13_isDug_39 (by decide +kernel)
theorem t126_42 : e_ok mD126 42 (0, 0, 0, 0, 43) := Or.inl (okc_iconst dX13_isDug_42 (by decide +kernel))
theorem t126_43 : e_ok mD126 43 (12, 6, 0, 0, 0) := okr_bool dX13_isDug_43 rfl
theorem t127_0 : e_ok mD127 0 (1, 1, 0, 0, 1) := okl_aload_n dX13_isFree_0 rfl
theorem t127_1 : e_ok mD127 1 (1, 0, 1, 0, 2) := okl_iload_n dX13_isFree_1 rfl
theorem t127_2 : e_ok mD127 2 (11, 0, 125, 1, 5) := And.intro (okCallX.M (okx_static (Da := mD125) dX13_isFree_2 rfl mwc_125 (wg6 1 rfl rfl) mws_125 mwi_125 mwd_125)) (fun _ => okx_static (Da := mD125) dX13_isFree_2 rfl mwc_125 (wg6 1 rfl rfl) mws_125 mwi_125 mwd_125)
theorem t127_5 : e_ok mD127 5 (5, 0, 12, 0, 8) := okj_eq dX13_isFree_5 (by decide +kernel)
theorem t127_8 : e_ok mD127 8 (0, 0, 0, 0, 9) := Or.inl (okc_iconst dX13_isFree_8 (by decide +kernel))
theorem t127_9 : e_ok mD127 9 (2, 4, 0, 0, 13) := oki_goto dX13_isFree_9 (by decide +kernel)
theorem t127_12 : e_ok mD127 12 (0, 0, 1, 0, 13) := Or.inl (okc_iconst dX13_isFree_12 (by decide +kernel))
theorem t127_13 : e_ok mD127 13 (11, 2, 131, 2, 16) := And.intro (okCallX.M (okx_virtual (Da := mD131) dX13_isFree_13 rfl mwc_131 (wg6 26 rfl rfl) mwn_131 mwv_131 mwi_131 mwd_131)) (fun _ => okx_virtual (Da := mD131) dX13_isFree_13 rfl mwc_131 (wg6 26 rfl rfl) mwn_131 mwv_131 mwi_131 mwd_131)
theorem t127_16 : e_ok mD127 16 (5, 1, 31, 0, 19) := okj_ne dX13_isFree_16 (by decide +kernel)
theorem t127_19 : e_ok mD127 19 (1, 1, 0, 0, 20) := okl_aload_n dX13_isFree_19 rfl
theorem t127_20 : e_ok mD127 20 (1, 0, 1, 0, 21) := okl_iload_n dX13_isFree_20 rfl
theorem t127_21 : e_ok mD127 21 (11, 2, 132, 2, 24) := And.intro (okCallX.M (okx_virtual (Da := mD132) dX13_isFree_21 rfl mwc_132 (wg6 181 rfl rfl) mwn_132 mwv_132 mwi_132 mwd_132)) (fun _ => okx_virtual (Da := mD132) dX13_isFree_21 rfl mwc_132 (wg6 181 rfl rfl) mwn_132 mwv_132 mwi_132 mwd_132)
theorem t127_24 : e_ok mD127 24 (5, 0, 31, 0, 27) := okj_eq dX13_isFree_24 (by decide +kernel)
theorem t127_27 : e_ok mD127 27 (0, 0, 1, 0, 28) := Or.inl (okc_iconst dX13_isFree_27 (by decide +kernel))
theorem t127_28 : e_ok mD127 28 (2, 4, 0, 0, 32) := oki_goto dX13_isFree_28 (by decide +kernel)
theorem t127_31 : e_ok mD127 31 (0, 0, 0, 0, 32) := Or.inl (okc_iconst dX13_isFree_31 (by decide +kernel))
theorem t127_32 : e_ok mD127 32 (12, 6, 0, 0, 0) := okr_bool dX13_isFree_32 rfl
theorem t128_0 : e_ok mD128 0 (1, 1, 0, 0, 1) := okl_aload_n dX13_isInPit_0 rfl
theorem t128_1 : e_ok mD128 1 (1, 0, 1, 0, 2) := okl_iload_n dX13_isInPit_1 rfl
theorem t128_2 : e_ok mD128 2 (11, 0, 130, 1, 5) := And.intro (okCallX.M (okx_static (Da := mD130) dX13_isInPit_2 rfl mwc_130 (wg6 166 rfl rfl) mws_130 mwi_130 mwd_130)) (fun _ => okx_static (Da := mD130) dX13_isInPit_2 rfl mwc_130 (wg6 166 rfl rfl) mws_130 mwi_130 mwd_130)
theorem t128_5 : e_ok mD128 5 (5, 1, 12, 0, 8) := okj_ne dX13_isInPit_5 (by decide +kernel)
theorem t128_8 : e_ok mD128 8 (0, 0, 1, 0, 9) := Or.inl (okc_iconst dX13_isInPit_8 (by decide +kernel))
theorem t128_9 : e_ok mD128 9 (2, 4, 0, 0, 24) := oki_goto dX13_isInPit_9 (by decide +kernel)
theorem t128_12 : e_ok mD128 12 (1, 0, 2, 0, 13) := okl_iload_n dX13_isInPit_12 rfl
theorem t128_13 : e_ok mD128 13 (11, 0, 125, 1, 16) := And.intro (okCallX.M (okx_static (Da := mD125) dX13_isInPit_13 rfl mwc_125 (wg6 1 rfl rfl) mws_125 mwi_125 mwd_125)) (fun _ => okx_static (Da := mD125) dX13_isInPit_13 rfl mwc_125 (wg6 1 rfl rfl) mws_125 mwi_125 mwd_125)
theorem t128_16 : e_ok mD128 16 (5, 1, 23, 0, 19) := okj_ne dX13_isInPit_16 (by decide +kernel)
theorem t128_19 : e_ok mD128 19 (0, 0, 2, 0, 20) := Or.inl (okc_iconst dX13_isInPit_19 (by decide +kernel))
theorem t128_20 : e_ok mD128 20 (2, 4, 0, 0, 24) := oki_goto dX13_isInPit_20 (by decide +kernel)
theorem t128_23 : e_ok mD128 23 (0, 0, 0, 0, 24) := Or.inl (okc_iconst dX13_isInPit_23 (by decide +kernel))
theorem t128_24 : e_ok mD128 24 (11, 2, 131, 2, 27) := And.intro (okCallX.M (okx_virtual (Da := mD131) dX13_isInPit_24 rfl mwc_131 (wg6 26 rfl rfl) mwn_131 mwv_131 mwi_131 mwd_131)) (fun _ => okx_virtual (Da := mD131) dX13_isInPit_24 rfl mwc_131 (wg6 26 rfl rfl) mwn_131 mwv_131 mwi_131 mwd_131)
theorem t128_27 : e_ok mD128 27 (5, 1, 50, 0, 30) := okj_ne dX13_isInPit_27 (by decide +kernel)
theorem t128_30 : e_ok mD128 30 (7, 1, 16, 3, 33) := And.intro (fun X ρ => okw_new dX13_isInPit_30 rfl hin_16 tyX11_ok (wg6 222 rfl rfl) (wg6 223 rfl rfl) (wg1 39 rfl rfl) rfl) (by decide)
theorem t128_33 : e_ok mD128 33 (2, 1, 0, 0, 34) := oki_dup dX13_isInPit_33
theorem t128_34 : e_ok mD128 34 (1, 1, 0, 0, 35) := okl_aload_n dX13_isInPit_34 rfl
theorem t128_35 : e_ok mD128 35 (1, 0, 1, 0, 36) := okl_iload_n dX13_isInPit_35 rfl
theorem t128_36 : e_ok mD128 36 (11, 1, 161, 3, 39) := And.intro (okm_init (Da := mD161) dX13_isInPit_36 rfl rfl mwc_161 (wg6 224 rfl rfl) mwn_161 mwi_161 rfl mwd_161) (fun h => h.elim nofun nofun)
theorem t128_39 : e_ok mD128 39 (1, 0, 2, 0, 40) := okl_iload_n dX13_isInPit_39 rfl
theorem t128_40 : e_ok mD128 40 (11, 2, 162, 2, 43) := And.intro (okCallX.M (okx_virtual (Da := mD162) dX13_isInPit_40 rfl mwc_162 (wg7 18 rfl rfl) mwn_162 mwv_162 mwi_162 mwd_162)) (fun _ => okx_virtual (Da := mD162) dX13_isInPit_40 rfl mwc_162 (wg7 18 rfl rfl) mwn_162 mwv_162 mwi_162 mwd_162)
theorem t128_43 : e_ok mD128 43 (5, 0, 50, 0, 46) := okj_eq dX13_isInPit_43 (by decide +kernel)
theorem t128_46 : e_ok mD128 46 (0, 0, 1, 0, 47) := Or.inl (okc_iconst dX13_isInPit_46 (by decide +kernel))
theorem t128_47 : e_ok mD128 47 (2, 4, 0, 0, 51) := oki_goto dX13_isInPit_47 (by decide +kernel)
theorem t128_50 : e_ok mD128 50 (0, 0, 0, 0, 51) := Or.inl (okc_iconst dX13_isInPit_50 (by decide +kernel))
theorem t128_51 : e_ok mD128 51 (12, 6, 0, 0, 0) := okr_bool dX13_isInPit_51 rfl
theorem t129_0 : e_ok mD129 0 (1, 1, 0, 0, 1) := okl_aload_n dX13_isNotDug_0 rfl
theorem t129_1 : e_ok mD129 1 (1, 0, 1, 0, 2) := okl_iload_n dX13_isNotDug_1 rfl
theorem t129_2 : e_ok mD129 2 (11, 0, 125, 1, 5) := And.intro (okCallX.M (okx_static (Da := mD125) dX13_isNotDug_2 rfl mwc_125 (wg6 1 rfl rfl) mws_125 mwi_125 mwd_125)) (fun _ => okx_static (Da := mD125) dX13_isNotDug_2 rfl mwc_125 (wg6 1 rfl rfl) mws_125 mwi_125 mwd_125)
theorem t129_5 : e_ok mD129 5 (5, 1, 12, 0, 8) := okj_ne dX13_isNotDug_5 (by decide +kernel)
theorem t129_8 : e_ok mD129 8 (0, 0, 1, 0, 9) := Or.inl (okc_iconst dX13_isNotDug_8 (by decide +kernel))
theorem t129_9 : e_ok mD129 9 (2, 4, 0, 0, 36) := oki_goto dX13_isNotDug_9 (by decide +kernel)
theorem t129_12 : e_ok mD129 12 (1, 1, 0, 0, 13) := okl_aload_n dX13_isNotDug_12 rfl
theorem t129_13 : e_ok mD129 13 (7, 0, 18, 1, 16) := And.intro (okw_get dX13_isNotDug_13 rfl hin_18 (by decide +kernel) (wg5 168 rfl rfl) rfl) (okx_none (by decide +kernel) _)
theorem t129_16 : e_ok mD129 16 (1, 0, 1, 0, 17) := okl_iload_n dX13_isNotDug_16 rfl
theorem t129_17 : e_ok mD129 17 (11, 3, 184, 2, 22) := And.intro (okm_iface (ci := 4) (x := ⟨"java/util/List", "get", "(I)Ljava/lang/Object;"⟩) (Da := mD184) rfl dX13_isNotDug_17 rfl mwc_184 (wg6 8 rfl rfl) mwn_184 (wg6 11 rfl rfl) mwi_184 (wn6 10 rfl rfl) (wn6 9 rfl rfl) (wn6 14 rfl rfl) (wn6 12 rfl rfl) (wn5 97 rfl rfl) ⟨by decide +kernel, by decide +kernel, by decide +kernel⟩) (fun h => h.elim nofun nofun)
theorem t129_22 : e_ok mD129 22 (7, 2, 15, 0, 25) := okw_cast dX13_isNotDug_22 rfl (wg5 69 rfl rfl)
theorem t129_25 : e_ok mD129 25 (7, 0, 15, 1, 28) := And.intro (okw_getN dX13_isNotDug_25 rfl hin_15 (by decide +kernel) (wn5 77 rfl rfl) rfl) (okx_none (by decide +kernel) _)
theorem t129_28 : e_ok mD129 28 (5, 1, 35, 0, 31) := okj_ne dX13_isNotDug_28 (by decide +kernel)
theorem t129_31 : e_ok mD129 31 (0, 0, 2, 0, 32) := Or.inl (okc_iconst dX13_isNotDug_31 (by decide +kernel))
theorem t129_32 : e_ok mD129 32 (2, 4, 0, 0, 36) := oki_goto dX13_isNotDug_32 (by decide +kernel)
theorem t129_35 : e_ok mD129 35 (0, 0, 0, 0, 36) := Or.inl (okc_iconst dX13_isNotDug_35 (by decide +kernel))
theorem t129_36 : e_ok mD129 36 (11, 2, 131, 2, 39) := And.intro (okCallX.M (okx_virtual (Da := mD131) dX13_isNotDug_36 rfl mwc_131 (wg6 26 rfl rfl) mwn_131 mwv_131 mwi_131 mwd_131)) (fun _ => okx_virtual (Da := mD131) dX13_isNotDug_36 rfl mwc_131 (wg6 26 rfl rfl) mwn_131 mwv_131 mwi_131 mwd_131)
theorem t129_39 : e_ok mD129 39 (12, 6, 0, 0, 0) := okr_bool dX13_isNotDug_39 rfl
theorem t130_0 : e_ok mD130 0 (1, 0, 0, 0, 1) := okl_iload_n dX13_isPrice_0 rfl
theorem t130_1 : e_ok mD130 1 (0, 0, 0, 0, 2) := Or.inl (okc_iconst dX13_isPrice_1 (by decide +kernel))
theorem t130_2 : e_ok mD130 2 (0, 0, 99, 0, 4) := Or.inl (okc_bipush dX13_isPrice_2 (by decide +kernel))
theorem t130_4 : e_ok mD130 4 (11, 0, 124, 3, 7) := And.intro (okCallX.M (okx_static (Da := mD124) dX13_isPrice_4 rfl mwc_124 (wg6 4 rfl rfl) mws_124 mwi_124 mwd_124)) (fun _ => okx_static (Da := mD124) dX13_isPrice_4 rfl mwc_124 (wg6 4 rfl rfl) mws_124 mwi_124 mwd_124)
theorem t130_7 : e_ok mD130 7 (12, 6, 0, 0, 0) := okr_bool dX13_isPrice_7 rfl
theorem t131_0 : e_ok mD131 0 (1, 1, 0, 0, 1) := okl_aload_n dX13_isWrong_0 rfl
theorem t131_1 : e_ok mD131 1 (1, 0, 1, 0, 2) := okl_iload_n dX13_isWrong_1 rfl
theorem t131_2 : e_ok mD131 2 (9, 0, 18, 0, 5) := okw_put dX13_isWrong_2 rfl hin_18 tyX13_ok nmX13 (by decide +kernel) (wg5 166 rfl rfl) rfl rfl (tyX13_ok 0 (by decide +kernel)) (fun V h => fitV_int h)
theorem t131_5 : e_ok mD131 5 (1, 0, 1, 0, 6) := okl_iload_n dX13_isWrong_5 rfl
theorem t131_6 : e_ok mD131 6 (5, 5, 13, 0, 9) := okj_le dX13_isWrong_6 (by decide +kernel)
theorem t131_9 : e_ok mD131 9 (0, 0, 1, 0, 10) := Or.inl (okc_iconst dX13_isWrong_9 (by decide +kernel))
theorem t131_10 : e_ok mD131 10 (2, 4, 0, 0, 14) := oki_goto dX13_isWrong_10 (by decide +kernel)
theorem t131_13 : e_ok mD131 13 (0, 0, 0, 0, 14) := Or.inl (okc_iconst dX13_isWrong_13 (by decide +kernel))
theorem t131_14 : e_ok mD131 14 (12, 6, 0, 0, 0) := okr_bool dX13_isWrong_14 rfl
theorem t132_0 : e_ok mD132 0 (1, 1, 0, 0, 1) := okl_aload_n dX13_liesFree_0 rfl
theorem t132_1 : e_ok mD132 1 (7, 0, 18, 1, 4) := And.intro (okw_get dX13_liesFree_1 rfl hin_18 (by decide +kernel) (wg5 168 rfl rfl) rfl) (okx_none (by decide +kernel) _)
theorem t132_4 : e_ok mD132 4 (1, 0, 1, 0, 5) := okl_iload_n dX13_liesFree_4 rfl
theorem t132_5 : e_ok mD132 5 (11, 3, 184, 2, 10) := And.intro (okm_iface (ci := 4) (x := ⟨"java/util/List", "get", "(I)Ljava/lang/Object;"⟩) (Da := mD184) rfl dX13_liesFree_5 rfl mwc_184 (wg6 8 rfl rfl) mwn_184 (wg6 11 rfl rfl) mwi_184 (wn6 10 rfl rfl) (wn6 9 rfl rfl) (wn6 14 rfl rfl) (wn6 12 rfl rfl) (wn5 97 rfl rfl) ⟨by decide +kernel, by decide +kernel, by decide +kernel⟩) (fun h => h.elim nofun nofun)
theorem t132_10 : e_ok mD132 10 (7, 2, 15, 0, 13) := okw_cast dX13_liesFree_10 rfl (wg5 69 rfl rfl)
theorem t132_13 : e_ok mD132 13 (7, 0, 15, 1, 16) := And.intro (okw_getN dX13_liesFree_13 rfl hin_15 (by decide +kernel) (wn5 77 rfl rfl) rfl) (okx_none (by decide +kernel) _)
theorem t132_16 : e_ok mD132 16 (5, 1, 23, 0, 19) := okj_ne dX13_liesFree_16 (by decide +kernel)
theorem t132_19 : e_ok mD132 19 (0, 0, 1, 0, 20) := Or.inl (okc_iconst dX13_liesFree_19 (by decide +kernel))
theorem t132_20 : e_ok mD132 20 (2, 4, 0, 0, 24) := oki_goto dX13_liesFree_20 (by decide +kernel)
theorem t132_23 : e_ok mD132 23 (0, 0, 0, 0, 24) := Or.inl (okc_iconst dX13_liesFree_23 (by decide +kernel))
theorem t132_24 : e_ok mD132 24 (1, 4, 2, 0, 25) := oks_istore_n dX13_liesFree_24 rfl (by decide +kernel)
theorem t132_25 : e_ok mD132 25 (1, 1, 0, 0, 26) := okl_aload_n dX13_liesFree_25 rfl
theorem t132_26 : e_ok mD132 26 (1, 0, 1, 0, 27) := okl_iload_n dX13_liesFree_26 rfl
theorem t132_27 : e_ok mD132 27 (11, 2, 112, 2, 30) := And.intro (okCallX.M (okx_virtual (Da := mD112) dX13_liesFree_27 rfl mwc_112 (wg6 185 rfl rfl) mwn_112 mwv_112 mwi_112 mwd_112)) (fun _ => okx_virtual (Da := mD112) dX13_liesFree_27 rfl mwc_112 (wg6 185 rfl rfl) mwn_112 mwv_112 mwi_112 mwd_112)
theorem t132_30 : e_ok mD132 30 (11, 3, 188, 1, 35) := And.intro (okm_iface (ci := 4) (x := ⟨"java/util/List", "iterator", "()Ljava/util/Iterator;"⟩) (Da := mD188) rfl dX13_liesFree_30 rfl mwc_188 (wg6 71 rfl rfl) mwn_188 (wg6 74 rfl rfl) mwi_188 (wn6 73 rfl rfl) (wn6 72 rfl rfl) (wn6 77 rfl rfl) (wn6 75 rfl rfl) (wn5 97 rfl rfl) ⟨by decide +kernel, by decide +kernel, by decide +kernel⟩) (fun h => h.elim nofun nofun)
theorem t132_35 : e_ok mD132 35 (1, 5, 3, 0, 36) := oks_astore_n dX13_liesFree_35 rfl (by decide +kernel)
theorem t132_36 : e_ok mD132 36 (1, 1, 3, 0, 37) := okl_aload_n dX13_liesFree_36 rfl
theorem t132_37 : e_ok mD132 37 (11, 3, 192, 1, 42) := And.intro (okm_iface (ci := 3) (x := ⟨"java/util/Iterator", "hasNext", "()Z"⟩) (Da := mD192) rfl dX13_liesFree_37 rfl mwc_192 (wg6 99 rfl rfl) mwn_192 (wg6 103 rfl rfl) mwi_192 (wn6 101 rfl rfl) (wn6 100 rfl rfl) (wn6 106 rfl rfl) (wn6 104 rfl rfl) (wn6 102 rfl rfl) ⟨by decide +kernel, by decide +kernel, by decide +kernel⟩) (fun h => h.elim nofun nofun)
theorem t132_42 : e_ok mD132 42 (5, 0, 82, 0, 45) := okj_eq dX13_liesFree_42 (by decide +kernel)
theorem t132_45 : e_ok mD132 45 (1, 1, 3, 0, 46) := okl_aload_n dX13_liesFree_45 rfl
theorem t132_46 : e_ok mD132 46 (11, 3, 193, 1, 51) := And.intro (okm_iface (ci := 3) (x := ⟨"java/util/Iterator", "next", "()Ljava/lang/Object;"⟩) (Da := mD193) rfl dX13_liesFree_46 rfl mwc_193 (wg6 109 rfl rfl) mwn_193 (wg6 112 rfl rfl) mwi_193 (wn6 111 rfl rfl) (wn6 110 rfl rfl) (wn6 115 rfl rfl) (wn6 113 rfl rfl) (wn6 102 rfl rfl) ⟨by decide +kernel, by decide +kernel, by decide +kernel⟩) (fun h => h.elim nofun nofun)
theorem t132_51 : e_ok mD132 51 (7, 2, 1, 0, 54) := okw_cast dX13_liesFree_51 rfl (wg6 209 rfl rfl)
theorem t132_54 : e_ok mD132 54 (11, 2, 165, 1, 57) := And.intro (okCallX.M (okx_virtual (Da := mD165) dX13_liesFree_54 rfl mwc_165 (wg6 210 rfl rfl) mwn_165 mwv_165 mwi_165 mwd_165)) (fun _ => okx_virtual (Da := mD165) dX13_liesFree_54 rfl mwc_165 (wg6 210 rfl rfl) mwn_165 mwv_165 mwi_165 mwd_165)
theorem t132_57 : e_ok mD132 57 (1, 4, 4, 0, 59) := oks_istore dX13_liesFree_57 (by decide +kernel)
theorem t132_59 : e_ok mD132 59 (1, 0, 2, 0, 60) := okl_iload_n dX13_liesFree_59 rfl
theorem t132_60 : e_ok mD132 60 (1, 1, 0, 0, 61) := okl_aload_n dX13_liesFree_60 rfl
theorem t132_61 : e_ok mD132 61 (7, 0, 18, 1, 64) := And.intro (okw_get dX13_liesFree_61 rfl hin_18 (by decide +kernel) (wg5 168 rfl rfl) rfl) (okx_none (by decide +kernel) _)
theorem t132_64 : e_ok mD132 64 (1, 0, 4, 0, 66) := okl_iload dX13_liesFree_64
theorem t132_66 : e_ok mD132 66 (11, 3, 184, 2, 71) := And.intro (okm_iface (ci := 4) (x := ⟨"java/util/List", "get", "(I)Ljava/lang/Object;"⟩) (Da := mD184) rfl dX13_liesFree_66 rfl mwc_184 (wg6 8 rfl rfl) mwn_184 (wg6 11 rfl rfl) mwi_184 (wn6 10 rfl rfl) (wn6 9 rfl rfl) (wn6 14 rfl rfl) (wn6 12 rfl rfl) (wn5 97 rfl rfl) ⟨by decide +kernel, by decide +kernel, by decide +kernel⟩) (fun h => h.elim nofun nofun)
theorem t132_71 : e_ok mD132 71 (7, 2, 15, 0, 74) := okw_cast dX13_liesFree_71 rfl (wg5 69 rfl rfl)
theorem t132_74 : e_ok mD132 74 (7, 0, 15, 1, 77) := And.intro (okw_getN dX13_liesFree_74 rfl hin_15 (by decide +kernel) (wn5 77 rfl rfl) rfl) (okx_none (by decide +kernel) _)
theorem t132_77 : e_ok mD132 77 (3, 5, 0, 0, 78) := okb_iand dX13_liesFree_77
theorem t132_78 : e_ok mD132 78 (1, 4, 2, 0, 79) := oks_istore_n dX13_liesFree_78 rfl (by decide +kernel)
theorem t132_79 : e_ok mD132 79 (2, 4, 0, 0, 36) := oki_goto dX13_liesFree_79 (by decide +kernel)
theorem t132_82 : e_ok mD132 82 (1, 0, 2, 0, 83) := okl_iload_n dX13_liesFree_82 rfl
theorem t132_83 : e_ok mD132 83 (12, 6, 0, 0, 0) := okr_bool dX13_liesFree_83 rfl
theorem t133_0 : e_ok mD133 0 (1, 1, 0, 0, 1) := okl_aload_n dX13_meanFed_0 rfl
theorem t133_1 : e_ok mD133 1 (1, 1, 0, 0, 2) := okl_aload_n dX13_meanFed_1 rfl
theorem t133_2 : e_ok mD133 2 (7, 0, 18, 13, 5) := And.intro (okw_get dX13_meanFed_2 rfl hin_18 (by decide +kernel) (wg5 180 rfl rfl) rfl) (okx_none (by decide +kernel) _)
theorem t133_5 : e_ok mD133 5 (5, 1, 12, 0, 8) := okj_ne dX13_meanFed_5 (by decide +kernel)
theorem t133_8 : e_ok mD133 8 (0, 0, 1, 0, 9) := Or.inl (okc_iconst dX13_meanFed_8 (by decide +kernel))
theorem t133_9 : e_ok mD133 9 (2, 4, 0, 0, 13) := oki_goto dX13_meanFed_9 (by decide +kernel)
theorem t133_12 : e_ok mD133 12 (0, 0, 0, 0, 13) := Or.inl (okc_iconst dX13_meanFed_12 (by decide +kernel))
theorem t133_13 : e_ok mD133 13 (11, 2, 131, 2, 16) := And.intro (okCallX.M (okx_virtual (Da := mD131) dX13_meanFed_13 rfl mwc_131 (wg6 26 rfl rfl) mwn_131 mwv_131 mwi_131 mwd_131)) (fun _ => okx_virtual (Da := mD131) dX13_meanFed_13 rfl mwc_131 (wg6 26 rfl rfl) mwn_131 mwv_131 mwi_131 mwd_131)
theorem t133_16 : e_ok mD133 16 (5, 0, 23, 0, 19) := okj_eq dX13_meanFed_16 (by decide +kernel)
theorem t133_19 : e_ok mD133 19 (0, 2, 0, 0, 20) := okc_dconst0 dX13_meanFed_19
theorem t133_20 : e_ok mD133 20 (2, 4, 0, 0, 34) := oki_goto dX13_meanFed_20 (by decide +kernel)
theorem t133_23 : e_ok mD133 23 (1, 1, 0, 0, 24) := okl_aload_n dX13_meanFed_23 rfl
theorem t133_24 : e_ok mD133 24 (7, 0, 18, 14, 27) := And.intro (okw_get dX13_meanFed_24 rfl hin_18 (by decide +kernel) (wg5 181 rfl rfl) rfl) (okx_none (by decide +kernel) _)
theorem t133_28 : e_ok mD133 28 (1, 1, 0, 0, 29) := okl_aload_n dX13_meanFed_28 rfl
theorem t133_29 : e_ok mD133 29 (7, 0, 18, 13, 32) := And.intro (okw_get dX13_meanFed_29 rfl hin_18 (by decide +kernel) (wg5 180 rfl rfl) rfl) (okx_none (by decide +kernel) _)
theorem t133_34 : e_ok mD133 34 (12, 3, 0, 0, 0) := okr_double dX13_meanFed_34 rfl
theorem t134_0 : e_ok mD134 0 (1, 1, 0, 0, 1) := okl_aload_n dX13_metal_0 rfl
theorem t134_1 : e_ok mD134 1 (0, 0, 0, 0, 2) := Or.inl (okc_iconst dX13_metal_1 (by decide +kernel))
theorem t134_2 : e_ok mD134 2 (9, 0, 18, 0, 5) := okw_put dX13_metal_2 rfl hin_18 tyX13_ok nmX13 (by decide +kernel) (wg5 166 rfl rfl) rfl rfl (tyX13_ok 0 (by decide +kernel)) (fun V h => fitV_int h)
theorem t134_5 : e_ok mD134 5 (1, 1, 0, 0, 6) := okl_aload_n dX13_metal_5 rfl
theorem t134_6 : e_ok mD134 6 (7, 0, 18, 21, 9) := And.intro (okw_get dX13_metal_6 rfl hin_18 (by decide +kernel) (wg5 188 rfl rfl) rfl) (okx_none (by decide +kernel) _)
theorem t134_9 : e_ok mD134 9 (12, 2, 0, 0, 0) := okr_long dX13_metal_9 rfl
theorem t135_0 : e_ok mD135 0 (1, 1, 1, 0, 1) := okl_aload_n dX13_mills_0 rfl
theorem t135_1 : e_ok mD135 1 (11, 3, 187, 1, 6) := And.intro (okm_iface (ci := 4) (x := ⟨"java/util/List", "isEmpty", "()Z"⟩) (Da := mD187) rfl dX13_mills_1 rfl mwc_187 (wg6 133 rfl rfl) mwn_187 (wg6 136 rfl rfl) mwi_187 (wn6 135 rfl rfl) (wn6 134 rfl rfl) (wn6 139 rfl rfl) (wn6 137 rfl rfl) (wn5 97 rfl rfl) ⟨by decide +kernel, by decide +kernel, by decide +kernel⟩) (fun h => h.elim nofun nofun)
theorem t135_6 : e_ok mD135 6 (5, 0, 10, 0, 9) := okj_eq dX13_mills_6 (by decide +kernel)
theorem t135_9 : e_ok mD135 9 (12, 0, 0, 0, 0) := okr_void dX13_mills_9 rfl
theorem t135_10 : e_ok mD135 10 (0, 0, 0, 0, 11) := Or.inl (okc_iconst dX13_mills_10 (by decide +kernel))
theorem t135_11 : e_ok mD135 11 (1, 4, 2, 0, 12) := oks_istore_n dX13_mills_11 rfl (by decide +kernel)
theorem t135_12 : e_ok mD135 12 (1, 1, 1, 0, 13) := okl_aload_n dX13_mills_12 rfl
theorem t135_13 : e_ok mD135 13 (11, 3, 188, 1, 18) := And.intro (okm_iface (ci := 4) (x := ⟨"java/util/List", "iterator", "()Ljava/util/Iterator;"⟩) (Da := mD188) rfl dX13_mills_13 rfl mwc_188 (wg6 71 rfl rfl) mwn_188 (wg6 74 rfl rfl) mwi_188 (wn6 73 rfl rfl) (wn6 72 rfl rfl) (wn6 77 rfl rfl) (wn6 75 rfl rfl) (wn5 97 rfl rfl) ⟨by decide +kernel, by decide +kernel, by decide +kernel⟩) (fun h => h.elim nofun nofun)
theorem t135_18 : e_ok mD135 18 (1, 5, 3, 0, 19) := oks_astore_n dX13_mills_18 rfl (by decide +kernel)
theorem t135_19 : e_ok mD135 19 (1, 1, 3, 0, 20) := okl_aload_n dX13_mills_19 rfl
theorem t135_20 : e_ok mD135 20 (11, 3, 192, 1, 25) := And.intro (okm_iface (ci := 3) (x := ⟨"java/util/Iterator", "hasNext", "()Z"⟩) (Da := mD192) rfl dX13_mills_20 rfl mwc_192 (wg6 99 rfl rfl) mwn_192 (wg6 103 rfl rfl) mwi_192 (wn6 101 rfl rfl) (wn6 100 rfl rfl) (wn6 106 rfl rfl) (wn6 104 rfl rfl) (wn6 102 rfl rfl) ⟨by decide +kernel, by decide +kernel, by decide +kernel⟩) (fun h => h.elim nofun nofun)
theorem t135_25 : e_ok mD135 25 (5, 0, 50, 0, 28) := okj_eq dX13_mills_25 (by decide +kernel)
theorem t135_28 : e_ok mD135 28 (1, 1, 3, 0, 29) := okl_aload_n dX13_mills_28 rfl
theorem t135_29 : e_ok mD135 29 (11, 3, 193, 1, 34) := And.intro (okm_iface (ci := 3) (x := ⟨"java/util/Iterator", "next", "()Ljava/lang/Object;"⟩) (Da := mD193) rfl dX13_mills_29 rfl mwc_193 (wg6 109 rfl rfl) mwn_193 (wg6 112 rfl rfl) mwi_193 (wn6 111 rfl rfl) (wn6 110 rfl rfl) (wn6 115 rfl rfl) (wn6 113 rfl rfl) (wn6 102 rfl rfl) ⟨by decide +kernel, by decide +kernel, by decide +kernel⟩) (fun h => h.elim nofun nofun)
theorem t135_34 : e_ok mD135 34 (7, 2, 1, 0, 37) := okw_cast dX13_mills_34 rfl (wg6 209 rfl rfl)
theorem t135_37 : e_ok mD135 37 (11, 2, 165, 1, 40) := And.intro (okCallX.M (okx_virtual (Da := mD165) dX13_mills_37 rfl mwc_165 (wg6 210 rfl rfl) mwn_165 mwv_165 mwi_165 mwd_165)) (fun _ => okx_virtual (Da := mD165) dX13_mills_37 rfl mwc_165 (wg6 210 rfl rfl) mwn_165 mwv_165 mwi_165 mwd_165)
theorem t135_40 : e_ok mD135 40 (1, 4, 4, 0, 42) := oks_istore dX13_mills_40 (by decide +kernel)
theorem t135_42 : e_ok mD135 42 (1, 0, 2, 0, 43) := okl_iload_n dX13_mills_42 rfl
theorem t135_43 : e_ok mD135 43 (1, 0, 4, 0, 45) := okl_iload dX13_mills_43
theorem t135_45 : e_ok mD135 45 (3, 0, 0, 0, 46) := okb_iadd dX13_mills_45
theorem t135_46 : e_ok mD135 46 (1, 4, 2, 0, 47) := oks_istore_n dX13_mills_46 rfl (by decide +kernel)
theorem t135_47 : e_ok mD135 47 (2, 4, 0, 0, 19) := oki_goto dX13_mills_47 (by decide +kernel)
theorem t135_50 : e_ok mD135 50 (1, 0, 2, 0, 51) := okl_iload_n dX13_mills_50 rfl
theorem t135_52 : e_ok mD135 52 (1, 1, 1, 0, 53) := okl_aload_n dX13_mills_52 rfl
theorem t135_53 : e_ok mD135 53 (11, 3, 189, 1, 58) := And.intro (okm_iface (ci := 4) (x := ⟨"java/util/List", "size", "()I"⟩) (Da := mD189) rfl dX13_mills_53 rfl mwc_189 (wg6 35 rfl rfl) mwn_189 (wg6 38 rfl rfl) mwi_189 (wn6 37 rfl rfl) (wn6 36 rfl rfl) (wn6 41 rfl rfl) (wn6 39 rfl rfl) (wn5 97 rfl rfl) ⟨by decide +kernel, by decide +kernel, by decide +kernel⟩) (fun h => h.elim nofun nofun)
theorem t135_60 : e_ok mD135 60 (1, 7, 3, 0, 61) := oks_dstore_n dX13_mills_60 rfl (by decide +kernel)
theorem t135_61 : e_ok mD135 61 (1, 1, 0, 0, 62) := okl_aload_n dX13_mills_61 rfl
theorem t135_62 : e_ok mD135 62 (1, 1, 0, 0, 63) := okl_aload_n dX13_mills_62 rfl
theorem t135_63 : e_ok mD135 63 (7, 0, 18, 7, 66) := And.intro (okw_get dX13_mills_63 rfl hin_18 (by decide +kernel) (wg5 174 rfl rfl) rfl) (okx_none (by decide +kernel) _)
theorem t135_66 : e_ok mD135 66 (5, 0, 95, 0, 69) := okj_eq dX13_mills_66 (by decide +kernel)
theorem t135_69 : e_ok mD135 69 (0, 2, 4632233691727265792, 0, 72) := okc_ldc2d dX13_mills_69 (wg7 205 rfl rfl)
theorem t135_72 : e_ok mD135 72 (0, 2, 4636033603912859648, 0, 75) := okc_ldc2d dX13_mills_72 (wg7 206 rfl rfl)
theorem t135_75 : e_ok mD135 75 (1, 3, 3, 0, 76) := okl_dload_n dX13_mills_75 rfl
theorem t135_76 : e_ok mD135 76 (1, 1, 0, 0, 77) := okl_aload_n dX13_mills_76 rfl
theorem t135_77 : e_ok mD135 77 (7, 0, 18, 20, 80) := And.intro (okw_get dX13_mills_77 rfl hin_18 (by decide +kernel) (wg5 187 rfl rfl) rfl) (okx_none (by decide +kernel) _)
theorem t135_92 : e_ok mD135 92 (2, 4, 0, 0, 97) := oki_goto dX13_mills_92 (by decide +kernel)
theorem t135_95 : e_ok mD135 95 (0, 0, 90, 0, 97) := Or.inl (okc_bipush dX13_mills_95 (by decide +kernel))
theorem t135_97 : e_ok mD135 97 (9, 0, 18, 10, 100) := okw_put dX13_mills_97 rfl hin_18 tyX13_ok nmX13 (by decide +kernel) (wg5 177 rfl rfl) rfl rfl (tyX13_ok 10 (by decide +kernel)) (fun V h => fitV_int h)
theorem t135_100 : e_ok mD135 100 (1, 1, 0, 0, 101) := okl_aload_n dX13_mills_100 rfl
theorem t135_101 : e_ok mD135 101 (0, 0, 1, 0, 102) := Or.inl (okc_iconst dX13_mills_101 (by decide +kernel))
theorem t135_102 : e_ok mD135 102 (9, 1, 18, 7, 105) := okw_put dX13_mills_102 rfl hin_18 tyX13_ok nmX13 (by decide +kernel) (wg5 174 rfl rfl) rfl rfl (tyX13_ok 7 (by decide +kernel)) (fun V h => fitV_bool h)
theorem t135_105 : e_ok mD135 105 (1, 1, 0, 0, 106) := okl_aload_n dX13_mills_105 rfl
theorem t135_106 : e_ok mD135 106 (1, 3, 3, 0, 107) := okl_dload_n dX13_mills_106 rfl
theorem t135_107 : e_ok mD135 107 (9, 4, 18, 20, 110) := okw_put dX13_mills_107 rfl hin_18 tyX13_ok nmX13 (by decide +kernel) (wg5 187 rfl rfl) rfl rfl (tyX13_ok 20 (by decide +kernel)) (fun V h => fitV_double h)
theorem t135_110 : e_ok mD135 110 (0, 1, 0, 0, 111) := okc_lconst dX13_mills_110 (by decide +kernel)
theorem t135_111 : e_ok mD135 111 (1, 6, 5, 0, 113) := oks_lstore dX13_mills_111 (by decide +kernel)
theorem t135_113 : e_ok mD135 113 (1, 1, 1, 0, 114) := okl_aload_n dX13_mills_113 rfl
theorem t135_114 : e_ok mD135 114 (11, 3, 188, 1, 119) := And.intro (okm_iface (ci := 4) (x := ⟨"java/util/List", "iterator", "()Ljava/util/Iterator;"⟩) (Da := mD188) rfl dX13_mills_114 rfl mwc_188 (wg6 71 rfl rfl) mwn_188 (wg6 74 rfl rfl) mwi_188 (wn6 73 rfl rfl) (wn6 72 rfl rfl) (wn6 77 rfl rfl) (wn6 75 rfl rfl) (wn5 97 rfl rfl) ⟨by decide +kernel, by decide +kernel, by decide +kernel⟩) (fun h => h.elim nofun nofun)
theorem t135_119 : e_ok mD135 119 (1, 5, 7, 0, 121) := oks_astore dX13_mills_119 (by decide +kernel)
theorem t135_121 : e_ok mD135 121 (1, 1, 7, 0, 123) := okl_aload dX13_mills_121
theorem t135_123 : e_ok mD135 123 (11, 3, 192, 1, 128) := And.intro (okm_iface (ci := 3) (x := ⟨"java/util/Iterator", "hasNext", "()Z"⟩) (Da := mD192) rfl dX13_mills_123 rfl mwc_192 (wg6 99 rfl rfl) mwn_192 (wg6 103 rfl rfl) mwi_192 (wn6 101 rfl rfl) (wn6 100 rfl rfl) (wn6 106 rfl rfl) (wn6 104 rfl rfl) (wn6 102 rfl rfl) ⟨by decide +kernel, by decide +kernel, by decide +kernel⟩) (fun h => h.elim nofun nofun)
theorem t135_128 : e_ok mD135 128 (5, 0, 168, 0, 131) := okj_eq dX13_mills_128 (by decide +kernel)
theorem t135_131 : e_ok mD135 131 (1, 1, 7, 0, 133) := okl_aload dX13_mills_131
theorem t135_133 : e_ok mD135 133 (11, 3, 193, 1, 138) := And.intro (okm_iface (ci := 3) (x := ⟨"java/util/Iterator", "next", "()Ljava/lang/Object;"⟩) (Da := mD193) rfl dX13_mills_133 rfl mwc_193 (wg6 109 rfl rfl) mwn_193 (wg6 112 rfl rfl) mwi_193 (wn6 111 rfl rfl) (wn6 110 rfl rfl) (wn6 115 rfl rfl) (wn6 113 rfl rfl) (wn6 102 rfl rfl) ⟨by decide +kernel, by decide +kernel, by decide +kernel⟩) (fun h => h.elim nofun nofun)
theorem t135_138 : e_ok mD135 138 (7, 2, 1, 0, 141) := okw_cast dX13_mills_138 rfl (wg6 209 rfl rfl)
theorem t135_141 : e_ok mD135 141 (11, 2, 165, 1, 144) := And.intro (okCallX.M (okx_virtual (Da := mD165) dX13_mills_141 rfl mwc_165 (wg6 210 rfl rfl) mwn_165 mwv_165 mwi_165 mwd_165)) (fun _ => okx_virtual (Da := mD165) dX13_mills_141 rfl mwc_165 (wg6 210 rfl rfl) mwn_165 mwv_165 mwi_165 mwd_165)
theorem t135_144 : e_ok mD135 144 (1, 4, 8, 0, 146) := oks_istore dX13_mills_144 (by decide +kernel)
theorem t135_146 : e_ok mD135 146 (1, 2, 5, 0, 148) := okl_lload dX13_mills_146
theorem t135_148 : e_ok mD135 148 (0, 0, 10, 0, 150) := Or.inl (okc_bipush dX13_mills_148 (by decide +kernel))
theorem t135_150 : e_ok mD135 150 (1, 0, 8, 0, 152) := okl_iload dX13_mills_150
theorem t135_152 : e_ok mD135 152 (3, 2, 0, 0, 153) := okb_imul dX13_mills_152
theorem t135_153 : e_ok mD135 153 (1, 1, 0, 0, 154) := okl_aload_n dX13_mills_153 rfl
theorem t135_154 : e_ok mD135 154 (7, 0, 18, 10, 157) := And.intro (okw_get dX13_mills_154 rfl hin_18 (by decide +kernel) (wg5 177 rfl rfl) rfl) (okx_none (by decide +kernel) _)
theorem t135_157 : e_ok mD135 157 (3, 2, 0, 0, 158) := okb_imul dX13_mills_157
theorem t135_158 : e_ok mD135 158 (0, 0, 100, 0, 160) := Or.inl (okc_bipush dX13_mills_158 (by decide +kernel))
theorem t135_160 : e_ok mD135 160 (3, 3, 0, 0, 161) := okb_idiv dX13_mills_160
theorem t135_161 : e_ok mD135 161 (15, 5, 0, 0, 162) := okm_i2l dX13_mills_161
theorem t135_162 : e_ok mD135 162 (15, 0, 0, 0, 163) := okm_ladd dX13_mills_162
theorem t135_163 : e_ok mD135 163 (1, 6, 5, 0, 165) := oks_lstore dX13_mills_163 (by decide +kernel)
theorem t135_165 : e_ok mD135 165 (2, 4, 0, 0, 121) := oki_goto dX13_mills_165 (by decide +kernel)
theorem t135_168 : e_ok mD135 168 (1, 1, 0, 0, 169) := okl_aload_n dX13_mills_168 rfl
theorem t135_169 : e_ok mD135 169 (2, 1, 0, 0, 170) := oki_dup dX13_mills_169
theorem t135_170 : e_ok mD135 170 (7, 0, 18, 21, 173) := And.intro (okw_get dX13_mills_170 rfl hin_18 (by decide +kernel) (wg5 188 rfl rfl) rfl) (okx_none (by decide +kernel) _)
theorem t135_173 : e_ok mD135 173 (1, 2, 5, 0, 175) := okl_lload dX13_mills_173
theorem t135_175 : e_ok mD135 175 (15, 0, 0, 0, 176) := okm_ladd dX13_mills_175
theorem t135_176 : e_ok mD135 176 (9, 3, 18, 21, 179) := okw_put dX13_mills_176 rfl hin_18 tyX13_ok nmX13 (by decide +kernel) (wg5 188 rfl rfl) rfl rfl (tyX13_ok 21 (by decide +kernel)) (fun V h => fitV_long h)
theorem t135_179 : e_ok mD135 179 (1, 1, 0, 0, 180) := okl_aload_n dX13_mills_179 rfl
theorem t135_180 : e_ok mD135 180 (2, 1, 0, 0, 181) := oki_dup dX13_mills_180
theorem t135_181 : e_ok mD135 181 (7, 0, 18, 22, 184) := And.intro (okw_get dX13_mills_181 rfl hin_18 (by decide +kernel) (wg5 189 rfl rfl) rfl) (okx_none (by decide +kernel) _)
theorem t135_184 : e_ok mD135 184 (1, 2, 5, 0, 186) := okl_lload dX13_mills_184
theorem t135_186 : e_ok mD135 186 (1, 1, 0, 0, 187) := okl_aload_n dX13_mills_186 rfl
theorem t135_187 : e_ok mD135 187 (0, 0, 109, 0, 189) := Or.inl (okc_bipush dX13_mills_187 (by decide +kernel))
theorem t135_189 : e_ok mD135 189 (11, 2, 152, 2, 192) := And.intro (okCallX.M (okx_virtual (Da := mD152) dX13_mills_189 rfl mwc_152 (wg7 171 rfl rfl) mwn_152 mwv_152 mwi_152 mwd_152)) (fun _ => okx_virtual (Da := mD152) dX13_mills_189 rfl mwc_152 (wg7 171 rfl rfl) mwn_152 mwv_152 mwi_152 mwd_152)
theorem t135_192 : e_ok mD135 192 (15, 5, 0, 0, 193) := okm_i2l dX13_mills_192
theorem t135_193 : e_ok mD135 193 (15, 2, 0, 0, 194) := okm_lmul dX13_mills_193
theorem t135_194 : e_ok mD135 194 (0, 1, 10, 0, 197) := okc_ldc2 dX13_mills_194 (wg7 213 rfl rfl)
theorem t135_197 : e_ok mD135 197 (15, 3, 0, 0, 198) := okm_ldiv dX13_mills_197
theorem t135_198 : e_ok mD135 198 (0, 1, 200, 0, 201) := okc_ldc2 dX13_mills_198 (wg7 214 rfl rfl)
theorem t135_201 : e_ok mD135 201 (1, 1, 1, 0, 202) := okl_aload_n dX13_mills_201 rfl
theorem t135_202 : e_ok mD135 202 (11, 3, 189, 1, 207) := And.intro (okm_iface (ci := 4) (x := ⟨"java/util/List", "size", "()I"⟩) (Da := mD189) rfl dX13_mills_202 rfl mwc_189 (wg6 35 rfl rfl) mwn_189 (wg6 38 rfl rfl) mwi_189 (wn6 37 rfl rfl) (wn6 36 rfl rfl) (wn6 41 rfl rfl) (wn6 39 rfl rfl) (wn5 97 rfl rfl) ⟨by decide +kernel, by decide +kernel, by decide +kernel⟩) (fun h => h.elim nofun nofun)
theorem t135_207 : e_ok mD135 207 (15, 5, 0, 0, 208) := okm_i2l dX13_mills_207
theorem t135_208 : e_ok mD135 208 (15, 2, 0, 0, 209) := okm_lmul dX13_mills_208
theorem t135_209 : e_ok mD135 209 (15, 1, 0, 0, 210) := okm_lsub dX13_mills_209
theorem t135_210 : e_ok mD135 210 (15, 0, 0, 0, 211) := okm_ladd dX13_mills_210
theorem t135_211 : e_ok mD135 211 (9, 3, 18, 22, 214) := okw_put dX13_mills_211 rfl hin_18 tyX13_ok nmX13 (by decide +kernel) (wg5 189 rfl rfl) rfl rfl (tyX13_ok 22 (by decide +kernel)) (fun V h => fitV_long h)
theorem t135_214 : e_ok mD135 214 (1, 1, 0, 0, 215) := okl_aload_n dX13_mills_214 rfl
theorem t135_215 : e_ok mD135 215 (2, 1, 0, 0, 216) := oki_dup dX13_mills_215
theorem t135_216 : e_ok mD135 216 (7, 0, 18, 13, 219) := And.intro (okw_get dX13_mills_216 rfl hin_18 (by decide +kernel) (wg5 180 rfl rfl) rfl) (okx_none (by decide +kernel) _)
theorem t135_219 : e_ok mD135 219 (1, 1, 1, 0, 220) := okl_aload_n dX13_mills_219 rfl
theorem t135_220 : e_ok mD135 220 (11, 3, 189, 1, 225) := And.intro (okm_iface (ci := 4) (x := ⟨"java/util/List", "size", "()I"⟩) (Da := mD189) rfl dX13_mills_220 rfl mwc_189 (wg6 35 rfl rfl) mwn_189 (wg6 38 rfl rfl) mwi_189 (wn6 37 rfl rfl) (wn6 36 rfl rfl) (wn6 41 rfl rfl) (wn6 39 rfl rfl) (wn5 97 rfl rfl) ⟨by decide +kernel, by decide +kernel, by decide +kernel⟩) (fun h => h.elim nofun nofun)
theorem t135_225 : e_ok mD135 225 (3, 0, 0, 0, 226) := okb_iadd dX13_mills_225
theorem t135_226 : e_ok mD135 226 (9, 0, 18, 13, 229) := okw_put dX13_mills_226 rfl hin_18 tyX13_ok nmX13 (by decide +kernel) (wg5 180 rfl rfl) rfl rfl (tyX13_ok 13 (by decide +kernel)) (fun V h => fitV_int h)
theorem t135_229 : e_ok mD135 229 (1, 1, 0, 0, 230) := okl_aload_n dX13_mills_229 rfl
theorem t135_230 : e_ok mD135 230 (2, 1, 0, 0, 231) := oki_dup dX13_mills_230
theorem t135_231 : e_ok mD135 231 (7, 0, 18, 14, 234) := And.intro (okw_get dX13_mills_231 rfl hin_18 (by decide +kernel) (wg5 181 rfl rfl) rfl) (okx_none (by decide +kernel) _)
theorem t135_234 : e_ok mD135 234 (1, 0, 2, 0, 235) := okl_iload_n dX13_mills_234 rfl
theorem t135_235 : e_ok mD135 235 (3, 0, 0, 0, 236) := okb_iadd dX13_mills_235
theorem t135_236 : e_ok mD135 236 (9, 0, 18, 14, 239) := okw_put dX13_mills_236 rfl hin_18 tyX13_ok nmX13 (by decide +kernel) (wg5 181 rfl rfl) rfl rfl (tyX13_ok 14 (by decide +kernel)) (fun V h => fitV_int h)
theorem t135_239 : e_ok mD135 239 (12, 0, 0, 0, 0) := okr_void dX13_mills_239 rfl
theorem t136_0 : e_ok mD136 0 (1, 1, 0, 0, 1) := okl_aload_n dX13_mix_0 rfl
theorem t136_1 : e_ok mD136 1 (0, 0, 0, 0, 2) := Or.inl (okc_iconst dX13_mix_1 (by decide +kernel))
theorem t136_2 : e_ok mD136 2 (9, 0, 18, 0, 5) := okw_put dX13_mix_2 rfl hin_18 tyX13_ok nmX13 (by decide +kernel) (wg5 166 rfl rfl) rfl rfl (tyX13_ok 0 (by decide +kernel)) (fun V h => fitV_int h)
theorem t136_5 : e_ok mD136 5 (1, 1, 0, 0, 6) := okl_aload_n dX13_mix_5 rfl
theorem t136_6 : e_ok mD136 6 (7, 0, 18, 6, 9) := And.intro (okw_get dX13_mix_6 rfl hin_18 (by decide +kernel) (wg5 173 rfl rfl) rfl) (okx_none (by decide +kernel) _)
theorem t136_9 : e_ok mD136 9 (1, 4, 2, 0, 10) := oks_istore_n dX13_mix_9 rfl (by decide +kernel)
theorem t136_10 : e_ok mD136 10 (1, 1, 0, 0, 11) := okl_aload_n dX13_mix_10 rfl
theorem t136_11 : e_ok mD136 11 (1, 0, 1, 0, 12) := okl_iload_n dX13_mix_11 rfl
theorem t136_12 : e_ok mD136 12 (9, 1, 18, 6, 15) := okw_put dX13_mix_12 rfl hin_18 tyX13_ok nmX13 (by decide +kernel) (wg5 173 rfl rfl) rfl rfl (tyX13_ok 6 (by decide +kernel)) (fun V h => fitV_bool h)
theorem t136_15 : e_ok mD136 15 (1, 0, 2, 0, 16) := okl_iload_n dX13_mix_15 rfl
theorem t136_16 : e_ok mD136 16 (12, 6, 0, 0, 0) := okr_bool dX13_mix_16 rfl
theorem t137_0 : e_ok mD137 0 (1, 1, 0, 0, 1) := okl_aload_n dX13_money_0 rfl
theorem t137_1 : e_ok mD137 1 (0, 0, 0, 0, 2) := Or.inl (okc_iconst dX13_money_1 (by decide +kernel))
theorem t137_2 : e_ok mD137 2 (9, 0, 18, 0, 5) := okw_put dX13_money_2 rfl hin_18 tyX13_ok nmX13 (by decide +kernel) (wg5 166 rfl rfl) rfl rfl (tyX13_ok 0 (by decide +kernel)) (fun V h => fitV_int h)
theorem t137_5 : e_ok mD137 5 (1, 1, 0, 0, 6) := okl_aload_n dX13_money_5 rfl
theorem t137_6 : e_ok mD137 6 (7, 0, 18, 22, 9) := And.intro (okw_get dX13_money_6 rfl hin_18 (by decide +kernel) (wg5 189 rfl rfl) rfl) (okx_none (by decide +kernel) _)
theorem t137_9 : e_ok mD137 9 (12, 2, 0, 0, 0) := okr_long dX13_money_9 rfl
theorem t138_0 : e_ok mD138 0 (0, 0, 4294967295, 0, 1) := Or.inl (okc_iconst dX13_next_0 (by decide +kernel))
theorem t138_1 : e_ok mD138 1 (1, 4, 3, 0, 2) := oks_istore_n dX13_next_1 rfl (by decide +kernel)
theorem t138_2 : e_ok mD138 2 (0, 0, 0, 0, 3) := Or.inl (okc_iconst dX13_next_2 (by decide +kernel))
theorem t138_3 : e_ok mD138 3 (1, 4, 4, 0, 5) := oks_istore dX13_next_3 (by decide +kernel)
theorem t138_5 : e_ok mD138 5 (1, 0, 4, 0, 7) := okl_iload dX13_next_5
theorem t138_7 : e_ok mD138 7 (0, 0, 60, 0, 9) := Or.inl (okc_bipush dX13_next_7 (by decide +kernel))
theorem t138_9 : e_ok mD138 9 (6, 3, 65, 0, 12) := okk_ge dX13_next_9 (by decide +kernel)
theorem t138_12 : e_ok mD138 12 (1, 1, 2, 0, 13) := okl_aload_n dX13_next_12 rfl
theorem t138_13 : e_ok mD138 13 (1, 0, 4, 0, 15) := okl_iload dX13_next_13
theorem t138_15 : e_ok mD138 15 (8, 0, 0, 0, 16) := And.intro (oka_i dX13_next_15) (oky_i dX13_next_15)
theorem t138_16 : e_ok mD138 16 (0, 0, 4294967295, 0, 17) := Or.inl (okc_iconst dX13_next_16 (by decide +kernel))
theorem t138_17 : e_ok mD138 17 (6, 0, 59, 0, 20) := okk_eq dX13_next_17 (by decide +kernel)
theorem t138_20 : e_ok mD138 20 (1, 0, 4, 0, 22) := okl_iload dX13_next_20
theorem t138_22 : e_ok mD138 22 (0, 0, 10, 0, 24) := Or.inl (okc_bipush dX13_next_22 (by decide +kernel))
theorem t138_24 : e_ok mD138 24 (3, 3, 0, 0, 25) := okb_idiv dX13_next_24
theorem t138_25 : e_ok mD138 25 (1, 0, 1, 0, 26) := okl_iload_n dX13_next_25 rfl
theorem t138_26 : e_ok mD138 26 (6, 3, 59, 0, 29) := okk_ge dX13_next_26 (by decide +kernel)
theorem t138_29 : e_ok mD138 29 (1, 1, 0, 0, 30) := okl_aload_n dX13_next_29 rfl
theorem t138_30 : e_ok mD138 30 (1, 0, 4, 0, 32) := okl_iload dX13_next_30
theorem t138_32 : e_ok mD138 32 (11, 2, 132, 2, 35) := And.intro (okCallX.M (okx_virtual (Da := mD132) dX13_next_32 rfl mwc_132 (wg6 181 rfl rfl) mwn_132 mwv_132 mwi_132 mwd_132)) (fun _ => okx_virtual (Da := mD132) dX13_next_32 rfl mwc_132 (wg6 181 rfl rfl) mwn_132 mwv_132 mwi_132 mwd_132)
theorem t138_35 : e_ok mD138 35 (5, 1, 41, 0, 38) := okj_ne dX13_next_35 (by decide +kernel)
theorem t138_38 : e_ok mD138 38 (2, 4, 0, 0, 59) := oki_goto dX13_next_38 (by decide +kernel)
theorem t138_41 : e_ok mD138 41 (1, 0, 3, 0, 42) := okl_iload_n dX13_next_41 rfl
theorem t138_42 : e_ok mD138 42 (0, 0, 4294967295, 0, 43) := Or.inl (okc_iconst dX13_next_42 (by decide +kernel))
theorem t138_43 : e_ok mD138 43 (6, 0, 56, 0, 46) := okk_eq dX13_next_43 (by decide +kernel)
theorem t138_46 : e_ok mD138 46 (1, 1, 2, 0, 47) := okl_aload_n dX13_next_46 rfl
theorem t138_47 : e_ok mD138 47 (1, 0, 4, 0, 49) := okl_iload dX13_next_47
theorem t138_49 : e_ok mD138 49 (8, 0, 0, 0, 50) := And.intro (oka_i dX13_next_49) (oky_i dX13_next_49)
theorem t138_50 : e_ok mD138 50 (1, 1, 2, 0, 51) := okl_aload_n dX13_next_50 rfl
theorem t138_51 : e_ok mD138 51 (1, 0, 3, 0, 52) := okl_iload_n dX13_next_51 rfl
theorem t138_52 : e_ok mD138 52 (8, 0, 0, 0, 53) := And.intro (oka_i dX13_next_52) (oky_i dX13_next_52)
theorem t138_53 : e_ok mD138 53 (6, 3, 59, 0, 56) := okk_ge dX13_next_53 (by decide +kernel)
theorem t138_56 : e_ok mD138 56 (1, 0, 4, 0, 58) := okl_iload dX13_next_56
theorem t138_58 : e_ok mD138 58 (1, 4, 3, 0, 59) := oks_istore_n dX13_next_58 rfl (by decide +kernel)
theorem t138_59 : e_ok mD138 59 (2, 0, 4, 1, 62) := oki_iinc dX13_next_59 (by decide +kernel) (by decide +kernel)
theorem t138_62 : e_ok mD138 62 (2, 4, 0, 0, 5) := oki_goto dX13_next_62 (by decide +kernel)
theorem t138_65 : e_ok mD138 65 (1, 0, 3, 0, 66) := okl_iload_n dX13_next_65 rfl
theorem t138_66 : e_ok mD138 66 (12, 1, 0, 0, 0) := okr_int dX13_next_66 rfl
theorem t139_0 : e_ok mD139 0 (1, 0, 1, 0, 1) := okl_iload_n dX13_phase_0 rfl
theorem t139_1 : e_ok mD139 1 (11, 0, 130, 1, 4) := And.intro (okCallX.M (okx_static (Da := mD130) dX13_phase_1 rfl mwc_130 (wg6 166 rfl rfl) mws_130 mwi_130 mwd_130)) (fun _ => okx_static (Da := mD130) dX13_phase_1 rfl mwc_130 (wg6 166 rfl rfl) mws_130 mwi_130 mwd_130)
theorem t139_4 : e_ok mD139 4 (5, 0, 53, 0, 7) := okj_eq dX13_phase_4 (by decide +kernel)
theorem t139_7 : e_ok mD139 7 (1, 1, 0, 0, 8) := okl_aload_n dX13_phase_7 rfl
theorem t139_8 : e_ok mD139 8 (7, 0, 18, 3, 11) := And.intro (okw_get dX13_phase_8 rfl hin_18 (by decide +kernel) (wg5 170 rfl rfl) rfl) (okx_none (by decide +kernel) _)
theorem t139_11 : e_ok mD139 11 (11, 3, 187, 1, 16) := And.intro (okm_iface (ci := 4) (x := ⟨"java/util/List", "isEmpty", "()Z"⟩) (Da := mD187) rfl dX13_phase_11 rfl mwc_187 (wg6 133 rfl rfl) mwn_187 (wg6 136 rfl rfl) mwi_187 (wn6 135 rfl rfl) (wn6 134 rfl rfl) (wn6 139 rfl rfl) (wn6 137 rfl rfl) (wn5 97 rfl rfl) ⟨by decide +kernel, by decide +kernel, by decide +kernel⟩) (fun h => h.elim nofun nofun)
theorem t139_16 : e_ok mD139 16 (5, 1, 49, 0, 19) := okj_ne dX13_phase_16 (by decide +kernel)
theorem t139_19 : e_ok mD139 19 (1, 0, 1, 0, 20) := okl_iload_n dX13_phase_19 rfl
theorem t139_20 : e_ok mD139 20 (1, 1, 0, 0, 21) := okl_aload_n dX13_phase_20 rfl
theorem t139_21 : e_ok mD139 21 (7, 0, 18, 3, 24) := And.intro (okw_get dX13_phase_21 rfl hin_18 (by decide +kernel) (wg5 170 rfl rfl) rfl) (okx_none (by decide +kernel) _)
theorem t139_24 : e_ok mD139 24 (1, 1, 0, 0, 25) := okl_aload_n dX13_phase_24 rfl
theorem t139_25 : e_ok mD139 25 (7, 0, 18, 3, 28) := And.intro (okw_get dX13_phase_25 rfl hin_18 (by decide +kernel) (wg5 170 rfl rfl) rfl) (okx_none (by decide +kernel) _)
theorem t139_28 : e_ok mD139 28 (11, 3, 189, 1, 33) := And.intro (okm_iface (ci := 4) (x := ⟨"java/util/List", "size", "()I"⟩) (Da := mD189) rfl dX13_phase_28 rfl mwc_189 (wg6 35 rfl rfl) mwn_189 (wg6 38 rfl rfl) mwi_189 (wn6 37 rfl rfl) (wn6 36 rfl rfl) (wn6 41 rfl rfl) (wn6 39 rfl rfl) (wn5 97 rfl rfl) ⟨by decide +kernel, by decide +kernel, by decide +kernel⟩) (fun h => h.elim nofun nofun)
theorem t139_33 : e_ok mD139 33 (0, 0, 1, 0, 34) := Or.inl (okc_iconst dX13_phase_33 (by decide +kernel))
theorem t139_34 : e_ok mD139 34 (3, 1, 0, 0, 35) := okb_isub dX13_phase_34
theorem t139_35 : e_ok mD139 35 (11, 3, 184, 2, 40) := And.intro (okm_iface (ci := 4) (x := ⟨"java/util/List", "get", "(I)Ljava/lang/Object;"⟩) (Da := mD184) rfl dX13_phase_35 rfl mwc_184 (wg6 8 rfl rfl) mwn_184 (wg6 11 rfl rfl) mwi_184 (wn6 10 rfl rfl) (wn6 9 rfl rfl) (wn6 14 rfl rfl) (wn6 12 rfl rfl) (wn5 97 rfl rfl) ⟨by decide +kernel, by decide +kernel, by decide +kernel⟩) (fun h => h.elim nofun nofun)
theorem t139_40 : e_ok mD139 40 (7, 2, 1, 0, 43) := okw_cast dX13_phase_40 rfl (wg6 209 rfl rfl)
theorem t139_43 : e_ok mD139 43 (11, 2, 165, 1, 46) := And.intro (okCallX.M (okx_virtual (Da := mD165) dX13_phase_43 rfl mwc_165 (wg6 210 rfl rfl) mwn_165 mwv_165 mwi_165 mwd_165)) (fun _ => okx_virtual (Da := mD165) dX13_phase_43 rfl mwc_165 (wg6 210 rfl rfl) mwn_165 mwv_165 mwi_165 mwd_165)
theorem t139_46 : e_ok mD139 46 (6, 5, 53, 0, 49) := okk_le dX13_phase_46 (by decide +kernel)
theorem t139_49 : e_ok mD139 49 (0, 0, 1, 0, 50) := Or.inl (okc_iconst dX13_phase_49 (by decide +kernel))
theorem t139_50 : e_ok mD139 50 (2, 4, 0, 0, 54) := oki_goto dX13_phase_50 (by decide +kernel)
theorem t139_53 : e_ok mD139 53 (0, 0, 0, 0, 54) := Or.inl (okc_iconst dX13_phase_53 (by decide +kernel))
theorem t139_54 : e_ok mD139 54 (1, 4, 2, 0, 55) := oks_istore_n dX13_phase_54 rfl (by decide +kernel)
theorem t139_55 : e_ok mD139 55 (1, 1, 0, 0, 56) := okl_aload_n dX13_phase_55 rfl
theorem t139_56 : e_ok mD139 56 (1, 0, 2, 0, 57) := okl_iload_n dX13_phase_56 rfl
theorem t139_57 : e_ok mD139 57 (5, 1, 64, 0, 60) := okj_ne dX13_phase_57 (by decide +kernel)
theorem t139_60 : e_ok mD139 60 (0, 0, 1, 0, 61) := Or.inl (okc_iconst dX13_phase_60 (by decide +kernel))
theorem t139_61 : e_ok mD139 61 (2, 4, 0, 0, 82) := oki_goto dX13_phase_61 (by decide +kernel)
theorem t139_64 : e_ok mD139 64 (1, 1, 0, 0, 65) := okl_aload_n dX13_phase_64 rfl
theorem t139_65 : e_ok mD139 65 (7, 0, 18, 3, 68) := And.intro (okw_get dX13_phase_65 rfl hin_18 (by decide +kernel) (wg5 170 rfl rfl) rfl) (okx_none (by decide +kernel) _)
theorem t139_68 : e_ok mD139 68 (11, 3, 189, 1, 73) := And.intro (okm_iface (ci := 4) (x := ⟨"java/util/List", "size", "()I"⟩) (Da := mD189) rfl dX13_phase_68 rfl mwc_189 (wg6 35 rfl rfl) mwn_189 (wg6 38 rfl rfl) mwi_189 (wn6 37 rfl rfl) (wn6 36 rfl rfl) (wn6 41 rfl rfl) (wn6 39 rfl rfl) (wn5 97 rfl rfl) ⟨by decide +kernel, by decide +kernel, by decide +kernel⟩) (fun h => h.elim nofun nofun)
theorem t139_73 : e_ok mD139 73 (0, 0, 4, 0, 74) := Or.inl (okc_iconst dX13_phase_73 (by decide +kernel))
theorem t139_74 : e_ok mD139 74 (6, 1, 81, 0, 77) := okk_ne dX13_phase_74 (by decide +kernel)
theorem t139_77 : e_ok mD139 77 (0, 0, 2, 0, 78) := Or.inl (okc_iconst dX13_phase_77 (by decide +kernel))
theorem t139_78 : e_ok mD139 78 (2, 4, 0, 0, 82) := oki_goto dX13_phase_78 (by decide +kernel)
theorem t139_81 : e_ok mD139 81 (0, 0, 0, 0, 82) := Or.inl (okc_iconst dX13_phase_81 (by decide +kernel))
theorem t139_82 : e_ok mD139 82 (11, 2, 131, 2, 85) := And.intro (okCallX.M (okx_virtual (Da := mD131) dX13_phase_82 rfl mwc_131 (wg6 26 rfl rfl) mwn_131 mwv_131 mwi_131 mwd_131)) (fun _ => okx_virtual (Da := mD131) dX13_phase_82 rfl mwc_131 (wg6 26 rfl rfl) mwn_131 mwv_131 mwi_131 mwd_131)
theorem t139_85 : e_ok mD139 85 (5, 0, 90, 0, 88) := okj_eq dX13_phase_85 (by decide +kernel)
theorem t139_88 : e_ok mD139 88 (0, 0, 0, 0, 89) := Or.inl (okc_iconst dX13_phase_88 (by decide +kernel))
theorem t139_89 : e_ok mD139 89 (12, 1, 0, 0, 0) := okr_int dX13_phase_89 rfl
theorem t139_90 : e_ok mD139 90 (1, 1, 0, 0, 91) := okl_aload_n dX13_phase_90 rfl
theorem t139_91 : e_ok mD139 91 (7, 0, 18, 3, 94) := And.intro (okw_get dX13_phase_91 rfl hin_18 (by decide +kernel) (wg5 170 rfl rfl) rfl) (okx_none (by decide +kernel) _)
theorem t139_94 : e_ok mD139 94 (1, 0, 1, 0, 95) := okl_iload_n dX13_phase_94 rfl
theorem t139_95 : e_ok mD139 95 (11, 0, 166, 1, 98) := And.intro (okCallX.M (okx_static (Da := mD166) dX13_phase_95 rfl mwc_166 (wg6 189 rfl rfl) mws_166 mwi_166 mwd_166)) (fun _ => okx_static (Da := mD166) dX13_phase_95 rfl mwc_166 (wg6 189 rfl rfl) mws_166 mwi_166 mwd_166)
theorem t139_98 : e_ok mD139 98 (11, 3, 180, 2, 103) := And.intro (okm_iface (ci := 4) (x := ⟨"java/util/List", "add", "(Ljava/lang/Object;)Z"⟩) (Da := mD180) rfl dX13_phase_98 rfl mwc_180 (wg5 94 rfl rfl) mwn_180 (wg5 98 rfl rfl) mwi_180 (wn5 96 rfl rfl) (wn5 95 rfl rfl) (wn5 101 rfl rfl) (wn5 99 rfl rfl) (wn5 97 rfl rfl) ⟨by decide +kernel, by decide +kernel, by decide +kernel⟩) (fun h => h.elim nofun nofun)
theorem t139_103 : e_ok mD139 103 (2, 2, 0, 0, 104) := oki_pop dX13_phase_103
theorem t139_104 : e_ok mD139 104 (1, 1, 0, 0, 105) := okl_aload_n dX13_phase_104 rfl
theorem t139_105 : e_ok mD139 105 (7, 0, 18, 3, 108) := And.intro (okw_get dX13_phase_105 rfl hin_18 (by decide +kernel) (wg5 170 rfl rfl) rfl) (okx_none (by decide +kernel) _)
theorem t139_108 : e_ok mD139 108 (11, 3, 189, 1, 113) := And.intro (okm_iface (ci := 4) (x := ⟨"java/util/List", "size", "()I"⟩) (Da := mD189) rfl dX13_phase_108 rfl mwc_189 (wg6 35 rfl rfl) mwn_189 (wg6 38 rfl rfl) mwi_189 (wn6 37 rfl rfl) (wn6 36 rfl rfl) (wn6 41 rfl rfl) (wn6 39 rfl rfl) (wn5 97 rfl rfl) ⟨by decide +kernel, by decide +kernel, by decide +kernel⟩) (fun h => h.elim nofun nofun)
theorem t139_113 : e_ok mD139 113 (12, 1, 0, 0, 0) := okr_int dX13_phase_113 rfl
theorem t140_0 : e_ok mD140 0 (1, 1, 0, 0, 1) := okl_aload_n dX13_phaseOf_0 rfl
theorem t140_1 : e_ok mD140 1 (1, 0, 1, 0, 2) := okl_iload_n dX13_phaseOf_1 rfl
theorem t140_2 : e_ok mD140 2 (11, 0, 125, 1, 5) := And.intro (okCallX.M (okx_static (Da := mD125) dX13_phaseOf_2 rfl mwc_125 (wg6 1 rfl rfl) mws_125 mwi_125 mwd_125)) (fun _ => okx_static (Da := mD125) dX13_phaseOf_2 rfl mwc_125 (wg6 1 rfl rfl) mws_125 mwi_125 mwd_125)
theorem t140_5 : e_ok mD140 5 (5, 0, 12, 0, 8) := okj_eq dX13_phaseOf_5 (by decide +kernel)
theorem t140_8 : e_ok mD140 8 (0, 0, 0, 0, 9) := Or.inl (okc_iconst dX13_phaseOf_8 (by decide +kernel))
theorem t140_9 : e_ok mD140 9 (2, 4, 0, 0, 13) := oki_goto dX13_phaseOf_9 (by decide +kernel)
theorem t140_12 : e_ok mD140 12 (0, 0, 1, 0, 13) := Or.inl (okc_iconst dX13_phaseOf_12 (by decide +kernel))
theorem t140_13 : e_ok mD140 13 (11, 2, 131, 2, 16) := And.intro (okCallX.M (okx_virtual (Da := mD131) dX13_phaseOf_13 rfl mwc_131 (wg6 26 rfl rfl) mwn_131 mwv_131 mwi_131 mwd_131)) (fun _ => okx_virtual (Da := mD131) dX13_phaseOf_13 rfl mwc_131 (wg6 26 rfl rfl) mwn_131 mwv_131 mwi_131 mwd_131)
theorem t140_16 : e_ok mD140 16 (5, 0, 23, 0, 19) := okj_eq dX13_phaseOf_16 (by decide +kernel)
theorem t140_19 : e_ok mD140 19 (0, 0, 0, 0, 20) := Or.inl (okc_iconst dX13_phaseOf_19 (by decide +kernel))
theorem t140_20 : e_ok mD140 20 (2, 4, 0, 0, 29) := oki_goto dX13_phaseOf_20 (by decide +kernel)
theorem t140_23 : e_ok mD140 23 (1, 1, 0, 0, 24) := okl_aload_n dX13_phaseOf_23 rfl
theorem t140_24 : e_ok mD140 24 (11, 2, 141, 1, 27) := And.intro (okCallX.M (okx_virtual (Da := mD141) dX13_phaseOf_24 rfl mwc_141 (wg7 55 rfl rfl) mwn_141 mwv_141 mwi_141 mwd_141)) (fun _ => okx_virtual (Da := mD141) dX13_phaseOf_24 rfl mwc_141 (wg7 55 rfl rfl) mwn_141 mwv_141 mwi_141 mwd_141)
theorem t140_27 : e_ok mD140 27 (1, 0, 1, 0, 28) := okl_iload_n dX13_phaseOf_27 rfl
theorem t140_28 : e_ok mD140 28 (8, 0, 0, 0, 29) := And.intro (oka_i dX13_phaseOf_28) (oky_i dX13_phaseOf_28)
theorem t140_29 : e_ok mD140 29 (12, 1, 0, 0, 0) := okr_int dX13_phaseOf_29 rfl
theorem t141_0 : e_ok mD141 0 (0, 0, 60, 0, 2) := Or.inl (okc_bipush dX13_phasesNow_0 (by decide +kernel))
theorem t141_2 : e_ok mD141 2 (16, 0, 0, 0, 4) := And.intro (oka_new (by decide) rfl (wg1 73 rfl rfl) dX13_phasesNow_2) (by decide)
theorem t141_4 : e_ok mD141 4 (1, 5, 1, 0, 5) := oks_astore_n dX13_phasesNow_4 rfl (by decide +kernel)
theorem t141_5 : e_ok mD141 5 (1, 1, 1, 0, 6) := okl_aload_n dX13_phasesNow_5 rfl
theorem t141_6 : e_ok mD141 6 (0, 0, 4294967295, 0, 7) := Or.inl (okc_iconst dX13_phasesNow_6 (by decide +kernel))
theorem t141_7 : e_ok mD141 7 (11, 0, 194, 2, 10) := And.intro (okCallX.M (okx_static (Da := mD194) dX13_phasesNow_7 rfl mwc_194 (wg7 59 rfl rfl) mws_194 mwi_194 mwd_194)) (fun _ => okx_static (Da := mD194) dX13_phasesNow_7 rfl mwc_194 (wg7 59 rfl rfl) mws_194 mwi_194 mwd_194)
theorem t141_10 : e_ok mD141 10 (1, 1, 0, 0, 11) := okl_aload_n dX13_phasesNow_10 rfl
theorem t141_11 : e_ok mD141 11 (7, 0, 18, 3, 14) := And.intro (okw_get dX13_phasesNow_11 rfl hin_18 (by decide +kernel) (wg5 170 rfl rfl) rfl) (okx_none (by decide +kernel) _)
theorem t141_14 : e_ok mD141 14 (11, 3, 189, 1, 19) := And.intro (okm_iface (ci := 4) (x := ⟨"java/util/List", "size", "()I"⟩) (Da := mD189) rfl dX13_phasesNow_14 rfl mwc_189 (wg6 35 rfl rfl) mwn_189 (wg6 38 rfl rfl) mwi_189 (wn6 37 rfl rfl) (wn6 36 rfl rfl) (wn6 41 rfl rfl) (wn6 39 rfl rfl) (wn5 97 rfl rfl) ⟨by decide +kernel, by decide +kernel, by decide +kernel⟩) (fun h => h.elim nofun nofun)
theorem t141_19 : e_ok mD141 19 (0, 0, 1, 0, 20) := Or.inl (okc_iconst dX13_phasesNow_19 (by decide +kernel))
theorem t141_20 : e_ok mD141 20 (3, 1, 0, 0, 21) := okb_isub dX13_phasesNow_20
theorem t141_21 : e_ok mD141 21 (1, 4, 2, 0, 22) := oks_istore_n dX13_phasesNow_21 rfl (by decide +kernel)
theorem t141_22 : e_ok mD141 22 (1, 0, 2, 0, 23) := okl_iload_n dX13_phasesNow_22 rfl
theorem t141_23 : e_ok mD141 23 (5, 2, 94, 0, 26) := okj_lt dX13_phasesNow_23 (by decide +kernel)
theorem t141_26 : e_ok mD141 26 (7, 1, 16, 3, 29) := And.intro (fun X ρ => okw_new dX13_phasesNow_26 rfl hin_16 tyX11_ok (wg6 222 rfl rfl) (wg6 223 rfl rfl) (wg1 39 rfl rfl) rfl) (by decide)
theorem t141_29 : e_ok mD141 29 (2, 1, 0, 0, 30) := oki_dup dX13_phasesNow_29
theorem t141_30 : e_ok mD141 30 (1, 1, 0, 0, 31) := okl_aload_n dX13_phasesNow_30 rfl
theorem t141_31 : e_ok mD141 31 (1, 1, 0, 0, 32) := okl_aload_n dX13_phasesNow_31 rfl
theorem t141_32 : e_ok mD141 32 (7, 0, 18, 3, 35) := And.intro (okw_get dX13_phasesNow_32 rfl hin_18 (by decide +kernel) (wg5 170 rfl rfl) rfl) (okx_none (by decide +kernel) _)
theorem t141_35 : e_ok mD141 35 (1, 0, 2, 0, 36) := okl_iload_n dX13_phasesNow_35 rfl
theorem t141_36 : e_ok mD141 36 (11, 3, 184, 2, 41) := And.intro (okm_iface (ci := 4) (x := ⟨"java/util/List", "get", "(I)Ljava/lang/Object;"⟩) (Da := mD184) rfl dX13_phasesNow_36 rfl mwc_184 (wg6 8 rfl rfl) mwn_184 (wg6 11 rfl rfl) mwi_184 (wn6 10 rfl rfl) (wn6 9 rfl rfl) (wn6 14 rfl rfl) (wn6 12 rfl rfl) (wn5 97 rfl rfl) ⟨by decide +kernel, by decide +kernel, by decide +kernel⟩) (fun h => h.elim nofun nofun)
theorem t141_41 : e_ok mD141 41 (7, 2, 1, 0, 44) := okw_cast dX13_phasesNow_41 rfl (wg6 209 rfl rfl)
theorem t141_44 : e_ok mD141 44 (11, 2, 165, 1, 47) := And.intro (okCallX.M (okx_virtual (Da := mD165) dX13_phasesNow_44 rfl mwc_165 (wg6 210 rfl rfl) mwn_165 mwv_165 mwi_165 mwd_165)) (fun _ => okx_virtual (Da := mD165) dX13_phasesNow_44 rfl mwc_165 (wg6 210 rfl rfl) mwn_165 mwv_165 mwi_165 mwd_165)
theorem t141_47 : e_ok mD141 47 (11, 1, 161, 3, 50) := And.intro (okm_init (Da := mD161) dX13_phasesNow_47 rfl rfl mwc_161 (wg6 224 rfl rfl) mwn_161 mwi_161 rfl mwd_161) (fun h => h.elim nofun nofun)
theorem t141_50 : e_ok mD141 50 (1, 5, 3, 0, 51) := oks_astore_n dX13_phasesNow_50 rfl (by decide +kernel)
theorem t141_51 : e_ok mD141 51 (0, 0, 0, 0, 52) := Or.inl (okc_iconst dX13_phasesNow_51 (by decide +kernel))
theorem t141_52 : e_ok mD141 52 (1, 4, 4, 0, 54) := oks_istore dX13_phasesNow_52 (by decide +kernel)
theorem t141_54 : e_ok mD141 54 (1, 0, 4, 0, 56) := okl_iload dX13_phasesNow_54
theorem t141_56 : e_ok mD141 56 (0, 0, 60, 0, 58) := Or.inl (okc_bipush dX13_phasesNow_56 (by decide +kernel))
theorem t141_58 : e_ok mD141 58 (6, 3, 88, 0, 61) := okk_ge dX13_phasesNow_58 (by decide +kernel)
theorem t141_61 : e_ok mD141 61 (1, 1, 1, 0, 62) := okl_aload_n dX13_phasesNow_61 rfl
theorem t141_62 : e_ok mD141 62 (1, 0, 4, 0, 64) := okl_iload dX13_phasesNow_62
theorem t141_64 : e_ok mD141 64 (1, 1, 3, 0, 65) := okl_aload_n dX13_phasesNow_64 rfl
theorem t141_65 : e_ok mD141 65 (1, 0, 4, 0, 67) := okl_iload dX13_phasesNow_65
theorem t141_67 : e_ok mD141 67 (11, 2, 162, 2, 70) := And.intro (okCallX.M (okx_virtual (Da := mD162) dX13_phasesNow_67 rfl mwc_162 (wg7 18 rfl rfl) mwn_162 mwv_162 mwi_162 mwd_162)) (fun _ => okx_virtual (Da := mD162) dX13_phasesNow_67 rfl mwc_162 (wg7 18 rfl rfl) mwn_162 mwv_162 mwi_162 mwd_162)
theorem t141_70 : e_ok mD141 70 (5, 0, 77, 0, 73) := okj_eq dX13_phasesNow_70 (by decide +kernel)
theorem t141_73 : e_ok mD141 73 (1, 0, 2, 0, 74) := okl_iload_n dX13_phasesNow_73 rfl
theorem t141_74 : e_ok mD141 74 (2, 4, 0, 0, 81) := oki_goto dX13_phasesNow_74 (by decide +kernel)
theorem t141_77 : e_ok mD141 77 (1, 1, 1, 0, 78) := okl_aload_n dX13_phasesNow_77 rfl
theorem t141_78 : e_ok mD141 78 (1, 0, 4, 0, 80) := okl_iload dX13_phasesNow_78
theorem t141_80 : e_ok mD141 80 (8, 0, 0, 0, 81) := And.intro (oka_i dX13_phasesNow_80) (oky_i dX13_phasesNow_80)
theorem t141_81 : e_ok mD141 81 (10, 0, 0, 0, 82) := oka_sti dX13_phasesNow_81
theorem t141_82 : e_ok mD141 82 (2, 0, 4, 1, 85) := oki_iinc dX13_phasesNow_82 (by decide +kernel) (by decide +kernel)
theorem t141_85 : e_ok mD141 85 (2, 4, 0, 0, 54) := oki_goto dX13_phasesNow_85 (by decide +kernel)
theorem t141_88 : e_ok mD141 88 (2, 0, 2, 4294967295, 91) := oki_iinc dX13_phasesNow_88 (by decide +kernel) (by decide +kernel)
theorem t141_91 : e_ok mD141 91 (2, 4, 0, 0, 22) := oki_goto dX13_phasesNow_91 (by decide +kernel)
theorem t141_94 : e_ok mD141 94 (1, 1, 1, 0, 95) := okl_aload_n dX13_phasesNow_94 rfl
theorem t141_95 : e_ok mD141 95 (12, 4, 0, 0, 0) := okr_ref dX13_phasesNow_95 rfl (Or.inr ⟨_, rfl⟩)
theorem t142_0 : e_ok mD142 0 (1, 1, 0, 0, 1) := okl_aload_n dX13_pitSize_0 rfl
theorem t142_1 : e_ok mD142 1 (1, 0, 1, 0, 2) := okl_iload_n dX13_pitSize_1 rfl
theorem t142_2 : e_ok mD142 2 (11, 0, 130, 1, 5) := And.intro (okCallX.M (okx_static (Da := mD130) dX13_pitSize_2 rfl mwc_130 (wg6 166 rfl rfl) mws_130 mwi_130 mwd_130)) (fun _ => okx_static (Da := mD130) dX13_pitSize_2 rfl mwc_130 (wg6 166 rfl rfl) mws_130 mwi_130 mwd_130)
theorem t142_5 : e_ok mD142 5 (5, 0, 12, 0, 8) := okj_eq dX13_pitSize_5 (by decide +kernel)
theorem t142_8 : e_ok mD142 8 (0, 0, 0, 0, 9) := Or.inl (okc_iconst dX13_pitSize_8 (by decide +kernel))
theorem t142_9 : e_ok mD142 9 (2, 4, 0, 0, 13) := oki_goto dX13_pitSize_9 (by decide +kernel)
theorem t142_12 : e_ok mD142 12 (0, 0, 1, 0, 13) := Or.inl (okc_iconst dX13_pitSize_12 (by decide +kernel))
theorem t142_13 : e_ok mD142 13 (11, 2, 131, 2, 16) := And.intro (okCallX.M (okx_virtual (Da := mD131) dX13_pitSize_13 rfl mwc_131 (wg6 26 rfl rfl) mwn_131 mwv_131 mwi_131 mwd_131)) (fun _ => okx_virtual (Da := mD131) dX13_pitSize_13 rfl mwc_131 (wg6 26 rfl rfl) mwn_131 mwv_131 mwi_131 mwd_131)
theorem t142_16 : e_ok mD142 16 (5, 0, 21, 0, 19) := okj_eq dX13_pitSize_16 (by decide +kernel)
theorem t142_19 : e_ok mD142 19 (0, 0, 0, 0, 20) := Or.inl (okc_iconst dX13_pitSize_19 (by decide +kernel))
theorem t142_20 : e_ok mD142 20 (12, 1, 0, 0, 0) := okr_int dX13_pitSize_20 rfl
theorem t142_21 : e_ok mD142 21 (7, 1, 16, 3, 24) := And.intro (fun X ρ => okw_new dX13_pitSize_21 rfl hin_16 tyX11_ok (wg6 222 rfl rfl) (wg6 223 rfl rfl) (wg1 39 rfl rfl) rfl) (by decide)
theorem t142_24 : e_ok mD142 24 (2, 1, 0, 0, 25) := oki_dup dX13_pitSize_24
theorem t142_25 : e_ok mD142 25 (1, 1, 0, 0, 26) := okl_aload_n dX13_pitSize_25 rfl
theorem t142_26 : e_ok mD142 26 (1, 0, 1, 0, 27) := okl_iload_n dX13_pitSize_26 rfl
theorem t142_27 : e_ok mD142 27 (11, 1, 161, 3, 30) := And.intro (okm_init (Da := mD161) dX13_pitSize_27 rfl rfl mwc_161 (wg6 224 rfl rfl) mwn_161 mwi_161 rfl mwd_161) (fun h => h.elim nofun nofun)
theorem t142_30 : e_ok mD142 30 (1, 5, 2, 0, 31) := oks_astore_n dX13_pitSize_30 rfl (by decide +kernel)
theorem t142_31 : e_ok mD142 31 (0, 0, 0, 0, 32) := Or.inl (okc_iconst dX13_pitSize_31 (by decide +kernel))
theorem t142_32 : e_ok mD142 32 (1, 4, 3, 0, 33) := oks_istore_n dX13_pitSize_32 rfl (by decide +kernel)
theorem t142_33 : e_ok mD142 33 (0, 0, 0, 0, 34) := Or.inl (okc_iconst dX13_pitSize_33 (by decide +kernel))
theorem t142_34 : e_ok mD142 34 (1, 4, 4, 0, 36) := oks_istore dX13_pitSize_34 (by decide +kernel)
theorem t142_36 : e_ok mD142 36 (1, 0, 4, 0, 38) := okl_iload dX13_pitSize_36
theorem t142_38 : e_ok mD142 38 (0, 0, 60, 0, 40) := Or.inl (okc_bipush dX13_pitSize_38 (by decide +kernel))
theorem t142_40 : e_ok mD142 40 (6, 3, 66, 0, 43) := okk_ge dX13_pitSize_40 (by decide +kernel)
theorem t142_43 : e_ok mD142 43 (1, 0, 3, 0, 44) := okl_iload_n dX13_pitSize_43 rfl
theorem t142_44 : e_ok mD142 44 (1, 1, 2, 0, 45) := okl_aload_n dX13_pitSize_44 rfl
theorem t142_45 : e_ok mD142 45 (1, 0, 4, 0, 47) := okl_iload dX13_pitSize_45
theorem t142_47 : e_ok mD142 47 (11, 2, 162, 2, 50) := And.intro (okCallX.M (okx_virtual (Da := mD162) dX13_pitSize_47 rfl mwc_162 (wg7 18 rfl rfl) mwn_162 mwv_162 mwi_162 mwd_162)) (fun _ => okx_virtual (Da := mD162) dX13_pitSize_47 rfl mwc_162 (wg7 18 rfl rfl) mwn_162 mwv_162 mwi_162 mwd_162)
theorem t142_50 : e_ok mD142 50 (5, 0, 57, 0, 53) := okj_eq dX13_pitSize_50 (by decide +kernel)
theorem t142_53 : e_ok mD142 53 (0, 0, 1, 0, 54) := Or.inl (okc_iconst dX13_pitSize_53 (by decide +kernel))
theorem t142_54 : e_ok mD142 54 (2, 4, 0, 0, 58) := oki_goto dX13_pitSize_54 (by decide +kernel)
theorem t142_57 : e_ok mD142 57 (0, 0, 0, 0, 58) := Or.inl (okc_iconst dX13_pitSize_57 (by decide +kernel))
theorem t142_58 : e_ok mD142 58 (3, 0, 0, 0, 59) := okb_iadd dX13_pitSize_58
theorem t142_59 : e_ok mD142 59 (1, 4, 3, 0, 60) := oks_istore_n dX13_pitSize_59 rfl (by decide +kernel)
theorem t142_60 : e_ok mD142 60 (2, 0, 4, 1, 63) := oki_iinc dX13_pitSize_60 (by decide +kernel) (by decide +kernel)
theorem t142_63 : e_ok mD142 63 (2, 4, 0, 0, 36) := oki_goto dX13_pitSize_63 (by decide +kernel)
theorem t142_66 : e_ok mD142 66 (1, 0, 3, 0, 67) := okl_iload_n dX13_pitSize_66 rfl
theorem t142_67 : e_ok mD142 67 (12, 1, 0, 0, 0) := okr_int dX13_pitSize_67 rfl
theorem t143_0 : e_ok mD143 0 (1, 1, 0, 0, 1) := okl_aload_n dX13_pitWorth_0 rfl
theorem t143_1 : e_ok mD143 1 (1, 0, 1, 0, 2) := okl_iload_n dX13_pitWorth_1 rfl
theorem t143_2 : e_ok mD143 2 (11, 0, 130, 1, 5) := And.intro (okCallX.M (okx_static (Da := mD130) dX13_pitWorth_2 rfl mwc_130 (wg6 166 rfl rfl) mws_130 mwi_130 mwd_130)) (fun _ => okx_static (Da := mD130) dX13_pitWorth_2 rfl mwc_130 (wg6 166 rfl rfl) mws_130 mwi_130 mwd_130)
theorem t143_5 : e_ok mD143 5 (5, 0, 12, 0, 8) := okj_eq dX13_pitWorth_5 (by decide +kernel)
theorem t143_8 : e_ok mD143 8 (0, 0, 0, 0, 9) := Or.inl (okc_iconst dX13_pitWorth_8 (by decide +kernel))
theorem t143_9 : e_ok mD143 9 (2, 4, 0, 0, 13) := oki_goto dX13_pitWorth_9 (by decide +kernel)
theorem t143_12 : e_ok mD143 12 (0, 0, 1, 0, 13) := Or.inl (okc_iconst dX13_pitWorth_12 (by decide +kernel))
theorem t143_13 : e_ok mD143 13 (11, 2, 131, 2, 16) := And.intro (okCallX.M (okx_virtual (Da := mD131) dX13_pitWorth_13 rfl mwc_131 (wg6 26 rfl rfl) mwn_131 mwv_131 mwi_131 mwd_131)) (fun _ => okx_virtual (Da := mD131) dX13_pitWorth_13 rfl mwc_131 (wg6 26 rfl rfl) mwn_131 mwv_131 mwi_131 mwd_131)
theorem t143_16 : e_ok mD143 16 (5, 0, 21, 0, 19) := okj_eq dX13_pitWorth_16 (by decide +kernel)
theorem t143_19 : e_ok mD143 19 (0, 1, 0, 0, 20) := okc_lconst dX13_pitWorth_19 (by decide +kernel)
theorem t143_20 : e_ok mD143 20 (12, 2, 0, 0, 0) := okr_long dX13_pitWorth_20 rfl
theorem t143_21 : e_ok mD143 21 (7, 1, 16, 3, 24) := And.intro (fun X ρ => okw_new dX13_pitWorth_21 rfl hin_16 tyX11_ok (wg6 222 rfl rfl) (wg6 223 rfl rfl) (wg1 39 rfl rfl) rfl) (by decide)
theorem t143_24 : e_ok mD143 24 (2, 1, 0, 0, 25) := oki_dup dX13_pitWorth_24
theorem t143_25 : e_ok mD143 25 (1, 1, 0, 0, 26) := okl_aload_n dX13_pitWorth_25 rfl
theorem t143_26 : e_ok mD143 26 (1, 0, 1, 0, 27) := okl_iload_n dX13_pitWorth_26 rfl
theorem t143_27 : e_ok mD143 27 (11, 1, 161, 3, 30) := And.intro (okm_init (Da := mD161) dX13_pitWorth_27 rfl rfl mwc_161 (wg6 224 rfl rfl) mwn_161 mwi_161 rfl mwd_161) (fun h => h.elim nofun nofun)
theorem t143_30 : e_ok mD143 30 (1, 5, 2, 0, 31) := oks_astore_n dX13_pitWorth_30 rfl (by decide +kernel)
theorem t143_31 : e_ok mD143 31 (0, 1, 0, 0, 32) := okc_lconst dX13_pitWorth_31 (by decide +kernel)
theorem t143_32 : e_ok mD143 32 (1, 6, 3, 0, 33) := oks_lstore_n dX13_pitWorth_32 rfl (by decide +kernel)
theorem t143_33 : e_ok mD143 33 (0, 0, 0, 0, 34) := Or.inl (okc_iconst dX13_pitWorth_33 (by decide +kernel))
theorem t143_34 : e_ok mD143 34 (1, 4, 5, 0, 36) := oks_istore dX13_pitWorth_34 (by decide +kernel)
theorem t143_36 : e_ok mD143 36 (1, 0, 5, 0, 38) := okl_iload dX13_pitWorth_36
theorem t143_38 : e_ok mD143 38 (0, 0, 60, 0, 40) := Or.inl (okc_bipush dX13_pitWorth_38 (by decide +kernel))
theorem t143_40 : e_ok mD143 40 (6, 3, 73, 0, 43) := okk_ge dX13_pitWorth_40 (by decide +kernel)
theorem t143_43 : e_ok mD143 43 (1, 2, 3, 0, 44) := okl_lload_n dX13_pitWorth_43 rfl
theorem t143_44 : e_ok mD143 44 (1, 1, 2, 0, 45) := okl_aload_n dX13_pitWorth_44 rfl
