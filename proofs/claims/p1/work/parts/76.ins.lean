/-! every entry of the tables -/
theorem t144_43 : e_ok mD144 43 (11, 2, 170, 1, 46) := And.intro (okCallX.M (okx_virtual (Da := mD170) dX13_phase_43 rfl mwc_170 (wg6 213 rfl rfl) mwn_170 mwv_170 mwi_170 mwd_170)) (fun _ => okx_virtual (Da := mD170) dX13_phase_43 rfl mwc_170 (wg6 213 rfl rfl) mwn_170 mwv_170 mwi_170 mwd_170)
theorem t144_46 : e_ok mD144 46 (6, 5, 53, 0, 49) := okk_le dX13_phase_46 (by decide +kernel)
theorem t144_49 : e_ok mD144 49 (0, 0, 1, 0, 50) := Or.inl (okc_iconst dX13_phase_49 (by decide +kernel))
theorem t144_50 : e_ok mD144 50 (2, 4, 0, 0, 54) := oki_goto dX13_phase_50 (by decide +kernel)
theorem t144_53 : e_ok mD144 53 (0, 0, 0, 0, 54) := Or.inl (okc_iconst dX13_phase_53 (by decide +kernel))
theorem t144_54 : e_ok mD144 54 (1, 4, 2, 0, 55) := oks_istore_n dX13_phase_54 rfl (by decide +kernel)
theorem t144_55 : e_ok mD144 55 (1, 1, 0, 0, 56) := okl_aload_n dX13_phase_55 rfl
theorem t144_56 : e_ok mD144 56 (1, 0, 2, 0, 57) := okl_iload_n dX13_phase_56 rfl
theorem t144_57 : e_ok mD144 57 (5, 1, 64, 0, 60) := okj_ne dX13_phase_57 (by decide +kernel)
theorem t144_60 : e_ok mD144 60 (0, 0, 1, 0, 61) := Or.inl (okc_iconst dX13_phase_60 (by decide +kernel))
theorem t144_61 : e_ok mD144 61 (2, 4, 0, 0, 82) := oki_goto dX13_phase_61 (by decide +kernel)
theorem t144_64 : e_ok mD144 64 (1, 1, 0, 0, 65) := okl_aload_n dX13_phase_64 rfl
theorem t144_65 : e_ok mD144 65 (7, 0, 18, 3, 68) := And.intro (okw_get dX13_phase_65 rfl hin_18 (by decide +kernel) (wg5 173 rfl rfl) rfl) (okx_none (by decide +kernel) _)
theorem t144_68 : e_ok mD144 68 (11, 3, 194, 1, 73) := And.intro (okm_iface (ci := 4) (x := ⟨"java/util/List", "size", "()I"⟩) (Da := mD194) rfl dX13_phase_68 rfl mwc_194 (wg6 38 rfl rfl) mwn_194 (wg6 41 rfl rfl) mwi_194 (wn6 40 rfl rfl) (wn6 39 rfl rfl) (wn6 44 rfl rfl) (wn6 42 rfl rfl) (wn5 100 rfl rfl) ⟨by decide +kernel, by decide +kernel, by decide +kernel⟩) (fun h => h.elim nofun nofun)
theorem t144_73 : e_ok mD144 73 (0, 0, 4, 0, 74) := Or.inl (okc_iconst dX13_phase_73 (by decide +kernel))
theorem t144_74 : e_ok mD144 74 (6, 1, 81, 0, 77) := okk_ne dX13_phase_74 (by decide +kernel)
theorem t144_77 : e_ok mD144 77 (0, 0, 2, 0, 78) := Or.inl (okc_iconst dX13_phase_77 (by decide +kernel))
theorem t144_78 : e_ok mD144 78 (2, 4, 0, 0, 82) := oki_goto dX13_phase_78 (by decide +kernel)
theorem t144_81 : e_ok mD144 81 (0, 0, 0, 0, 82) := Or.inl (okc_iconst dX13_phase_81 (by decide +kernel))
theorem t144_82 : e_ok mD144 82 (11, 2, 136, 2, 85) := And.intro (okCallX.M (okx_virtual (Da := mD136) dX13_phase_82 rfl mwc_136 (wg6 29 rfl rfl) mwn_136 mwv_136 mwi_136 mwd_136)) (fun _ => okx_virtual (Da := mD136) dX13_phase_82 rfl mwc_136 (wg6 29 rfl rfl) mwn_136 mwv_136 mwi_136 mwd_136)
theorem t144_85 : e_ok mD144 85 (5, 0, 90, 0, 88) := okj_eq dX13_phase_85 (by decide +kernel)
theorem t144_88 : e_ok mD144 88 (0, 0, 0, 0, 89) := Or.inl (okc_iconst dX13_phase_88 (by decide +kernel))
theorem t144_89 : e_ok mD144 89 (12, 1, 0, 0, 0) := okr_int dX13_phase_89 rfl
theorem t144_90 : e_ok mD144 90 (1, 1, 0, 0, 91) := okl_aload_n dX13_phase_90 rfl
theorem t144_91 : e_ok mD144 91 (7, 0, 18, 3, 94) := And.intro (okw_get dX13_phase_91 rfl hin_18 (by decide +kernel) (wg5 173 rfl rfl) rfl) (okx_none (by decide +kernel) _)
theorem t144_94 : e_ok mD144 94 (1, 0, 1, 0, 95) := okl_iload_n dX13_phase_94 rfl
theorem t144_95 : e_ok mD144 95 (11, 0, 171, 1, 98) := And.intro (okCallX.M (okx_static (Da := mD171) dX13_phase_95 rfl mwc_171 (wg6 192 rfl rfl) mws_171 mwi_171 mwd_171)) (fun _ => okx_static (Da := mD171) dX13_phase_95 rfl mwc_171 (wg6 192 rfl rfl) mws_171 mwi_171 mwd_171)
theorem t144_98 : e_ok mD144 98 (11, 3, 185, 2, 103) := And.intro (okm_iface (ci := 4) (x := ⟨"java/util/List", "add", "(Ljava/lang/Object;)Z"⟩) (Da := mD185) rfl dX13_phase_98 rfl mwc_185 (wg5 97 rfl rfl) mwn_185 (wg5 101 rfl rfl) mwi_185 (wn5 99 rfl rfl) (wn5 98 rfl rfl) (wn5 104 rfl rfl) (wn5 102 rfl rfl) (wn5 100 rfl rfl) ⟨by decide +kernel, by decide +kernel, by decide +kernel⟩) (fun h => h.elim nofun nofun)
theorem t144_103 : e_ok mD144 103 (2, 2, 0, 0, 104) := oki_pop dX13_phase_103
theorem t144_104 : e_ok mD144 104 (1, 1, 0, 0, 105) := okl_aload_n dX13_phase_104 rfl
theorem t144_105 : e_ok mD144 105 (7, 0, 18, 3, 108) := And.intro (okw_get dX13_phase_105 rfl hin_18 (by decide +kernel) (wg5 173 rfl rfl) rfl) (okx_none (by decide +kernel) _)
theorem t144_108 : e_ok mD144 108 (11, 3, 194, 1, 113) := And.intro (okm_iface (ci := 4) (x := ⟨"java/util/List", "size", "()I"⟩) (Da := mD194) rfl dX13_phase_108 rfl mwc_194 (wg6 38 rfl rfl) mwn_194 (wg6 41 rfl rfl) mwi_194 (wn6 40 rfl rfl) (wn6 39 rfl rfl) (wn6 44 rfl rfl) (wn6 42 rfl rfl) (wn5 100 rfl rfl) ⟨by decide +kernel, by decide +kernel, by decide +kernel⟩) (fun h => h.elim nofun nofun)
theorem t144_113 : e_ok mD144 113 (12, 1, 0, 0, 0) := okr_int dX13_phase_113 rfl
theorem t145_0 : e_ok mD145 0 (1, 1, 0, 0, 1) := okl_aload_n dX13_phaseOf_0 rfl
theorem t145_1 : e_ok mD145 1 (1, 0, 1, 0, 2) := okl_iload_n dX13_phaseOf_1 rfl
theorem t145_2 : e_ok mD145 2 (11, 0, 130, 1, 5) := And.intro (okCallX.M (okx_static (Da := mD130) dX13_phaseOf_2 rfl mwc_130 (wg6 4 rfl rfl) mws_130 mwi_130 mwd_130)) (fun _ => okx_static (Da := mD130) dX13_phaseOf_2 rfl mwc_130 (wg6 4 rfl rfl) mws_130 mwi_130 mwd_130)
theorem t145_5 : e_ok mD145 5 (5, 0, 12, 0, 8) := okj_eq dX13_phaseOf_5 (by decide +kernel)
theorem t145_8 : e_ok mD145 8 (0, 0, 0, 0, 9) := Or.inl (okc_iconst dX13_phaseOf_8 (by decide +kernel))
theorem t145_9 : e_ok mD145 9 (2, 4, 0, 0, 13) := oki_goto dX13_phaseOf_9 (by decide +kernel)
theorem t145_12 : e_ok mD145 12 (0, 0, 1, 0, 13) := Or.inl (okc_iconst dX13_phaseOf_12 (by decide +kernel))
theorem t145_13 : e_ok mD145 13 (11, 2, 136, 2, 16) := And.intro (okCallX.M (okx_virtual (Da := mD136) dX13_phaseOf_13 rfl mwc_136 (wg6 29 rfl rfl) mwn_136 mwv_136 mwi_136 mwd_136)) (fun _ => okx_virtual (Da := mD136) dX13_phaseOf_13 rfl mwc_136 (wg6 29 rfl rfl) mwn_136 mwv_136 mwi_136 mwd_136)
theorem t145_16 : e_ok mD145 16 (5, 0, 23, 0, 19) := okj_eq dX13_phaseOf_16 (by decide +kernel)
theorem t145_19 : e_ok mD145 19 (0, 0, 0, 0, 20) := Or.inl (okc_iconst dX13_phaseOf_19 (by decide +kernel))
theorem t145_20 : e_ok mD145 20 (2, 4, 0, 0, 29) := oki_goto dX13_phaseOf_20 (by decide +kernel)
theorem t145_23 : e_ok mD145 23 (1, 1, 0, 0, 24) := okl_aload_n dX13_phaseOf_23 rfl
theorem t145_24 : e_ok mD145 24 (11, 2, 146, 1, 27) := And.intro (okCallX.M (okx_virtual (Da := mD146) dX13_phaseOf_24 rfl mwc_146 (wg7 58 rfl rfl) mwn_146 mwv_146 mwi_146 mwd_146)) (fun _ => okx_virtual (Da := mD146) dX13_phaseOf_24 rfl mwc_146 (wg7 58 rfl rfl) mwn_146 mwv_146 mwi_146 mwd_146)
theorem t145_27 : e_ok mD145 27 (1, 0, 1, 0, 28) := okl_iload_n dX13_phaseOf_27 rfl
theorem t145_28 : e_ok mD145 28 (8, 0, 0, 0, 29) := And.intro (oka_i dX13_phaseOf_28) (oky_i dX13_phaseOf_28)
theorem t145_29 : e_ok mD145 29 (12, 1, 0, 0, 0) := okr_int dX13_phaseOf_29 rfl
theorem t146_0 : e_ok mD146 0 (0, 0, 60, 0, 2) := Or.inl (okc_bipush dX13_phasesNow_0 (by decide +kernel))
theorem t146_2 : e_ok mD146 2 (16, 0, 0, 0, 4) := And.intro (oka_new (by decide) rfl (wg1 73 rfl rfl) dX13_phasesNow_2) (by decide)
theorem t146_4 : e_ok mD146 4 (1, 5, 1, 0, 5) := oks_astore_n dX13_phasesNow_4 rfl (by decide +kernel)
theorem t146_5 : e_ok mD146 5 (1, 1, 1, 0, 6) := okl_aload_n dX13_phasesNow_5 rfl
theorem t146_6 : e_ok mD146 6 (0, 0, 4294967295, 0, 7) := Or.inl (okc_iconst dX13_phasesNow_6 (by decide +kernel))
theorem t146_7 : e_ok mD146 7 (11, 0, 199, 2, 10) := And.intro (okCallX.M (okx_static (Da := mD199) dX13_phasesNow_7 rfl mwc_199 (wg7 62 rfl rfl) mws_199 mwi_199 mwd_199)) (fun _ => okx_static (Da := mD199) dX13_phasesNow_7 rfl mwc_199 (wg7 62 rfl rfl) mws_199 mwi_199 mwd_199)
theorem t146_10 : e_ok mD146 10 (1, 1, 0, 0, 11) := okl_aload_n dX13_phasesNow_10 rfl
theorem t146_11 : e_ok mD146 11 (7, 0, 18, 3, 14) := And.intro (okw_get dX13_phasesNow_11 rfl hin_18 (by decide +kernel) (wg5 173 rfl rfl) rfl) (okx_none (by decide +kernel) _)
theorem t146_14 : e_ok mD146 14 (11, 3, 194, 1, 19) := And.intro (okm_iface (ci := 4) (x := ⟨"java/util/List", "size", "()I"⟩) (Da := mD194) rfl dX13_phasesNow_14 rfl mwc_194 (wg6 38 rfl rfl) mwn_194 (wg6 41 rfl rfl) mwi_194 (wn6 40 rfl rfl) (wn6 39 rfl rfl) (wn6 44 rfl rfl) (wn6 42 rfl rfl) (wn5 100 rfl rfl) ⟨by decide +kernel, by decide +kernel, by decide +kernel⟩) (fun h => h.elim nofun nofun)
theorem t146_19 : e_ok mD146 19 (0, 0, 1, 0, 20) := Or.inl (okc_iconst dX13_phasesNow_19 (by decide +kernel))
theorem t146_20 : e_ok mD146 20 (3, 1, 0, 0, 21) := okb_isub dX13_phasesNow_20
theorem t146_21 : e_ok mD146 21 (1, 4, 2, 0, 22) := oks_istore_n dX13_phasesNow_21 rfl (by decide +kernel)
theorem t146_22 : e_ok mD146 22 (1, 0, 2, 0, 23) := okl_iload_n dX13_phasesNow_22 rfl
theorem t146_23 : e_ok mD146 23 (5, 2, 94, 0, 26) := okj_lt dX13_phasesNow_23 (by decide +kernel)
theorem t146_26 : e_ok mD146 26 (7, 1, 16, 3, 29) := And.intro (fun X ρ => okw_new dX13_phasesNow_26 rfl hin_16 tyX11_ok (wg6 225 rfl rfl) (wg6 226 rfl rfl) (wg1 39 rfl rfl) rfl) (by decide)
theorem t146_29 : e_ok mD146 29 (2, 1, 0, 0, 30) := oki_dup dX13_phasesNow_29
theorem t146_30 : e_ok mD146 30 (1, 1, 0, 0, 31) := okl_aload_n dX13_phasesNow_30 rfl
theorem t146_31 : e_ok mD146 31 (1, 1, 0, 0, 32) := okl_aload_n dX13_phasesNow_31 rfl
theorem t146_32 : e_ok mD146 32 (7, 0, 18, 3, 35) := And.intro (okw_get dX13_phasesNow_32 rfl hin_18 (by decide +kernel) (wg5 173 rfl rfl) rfl) (okx_none (by decide +kernel) _)
theorem t146_35 : e_ok mD146 35 (1, 0, 2, 0, 36) := okl_iload_n dX13_phasesNow_35 rfl
theorem t146_36 : e_ok mD146 36 (11, 3, 189, 2, 41) := And.intro (okm_iface (ci := 4) (x := ⟨"java/util/List", "get", "(I)Ljava/lang/Object;"⟩) (Da := mD189) rfl dX13_phasesNow_36 rfl mwc_189 (wg6 11 rfl rfl) mwn_189 (wg6 14 rfl rfl) mwi_189 (wn6 13 rfl rfl) (wn6 12 rfl rfl) (wn6 17 rfl rfl) (wn6 15 rfl rfl) (wn5 100 rfl rfl) ⟨by decide +kernel, by decide +kernel, by decide +kernel⟩) (fun h => h.elim nofun nofun)
theorem t146_41 : e_ok mD146 41 (7, 2, 1, 0, 44) := okw_cast dX13_phasesNow_41 rfl (wg6 212 rfl rfl)
theorem t146_44 : e_ok mD146 44 (11, 2, 170, 1, 47) := And.intro (okCallX.M (okx_virtual (Da := mD170) dX13_phasesNow_44 rfl mwc_170 (wg6 213 rfl rfl) mwn_170 mwv_170 mwi_170 mwd_170)) (fun _ => okx_virtual (Da := mD170) dX13_phasesNow_44 rfl mwc_170 (wg6 213 rfl rfl) mwn_170 mwv_170 mwi_170 mwd_170)
theorem t146_47 : e_ok mD146 47 (11, 1, 166, 3, 50) := And.intro (okm_init (Da := mD166) dX13_phasesNow_47 rfl rfl mwc_166 (wg6 227 rfl rfl) mwn_166 mwi_166 rfl mwd_166) (fun h => h.elim nofun nofun)
theorem t146_50 : e_ok mD146 50 (1, 5, 3, 0, 51) := oks_astore_n dX13_phasesNow_50 rfl (by decide +kernel)
theorem t146_51 : e_ok mD146 51 (0, 0, 0, 0, 52) := Or.inl (okc_iconst dX13_phasesNow_51 (by decide +kernel))
theorem t146_52 : e_ok mD146 52 (1, 4, 4, 0, 54) := oks_istore dX13_phasesNow_52 (by decide +kernel)
theorem t146_54 : e_ok mD146 54 (1, 0, 4, 0, 56) := okl_iload dX13_phasesNow_54
theorem t146_56 : e_ok mD146 56 (0, 0, 60, 0, 58) := Or.inl (okc_bipush dX13_phasesNow_56 (by decide +kernel))
theorem t146_58 : e_ok mD146 58 (6, 3, 88, 0, 61) := okk_ge dX13_phasesNow_58 (by decide +kernel)
theorem t146_61 : e_ok mD146 61 (1, 1, 1, 0, 62) := okl_aload_n dX13_phasesNow_61 rfl
theorem t146_62 : e_ok mD146 62 (1, 0, 4, 0, 64) := okl_iload dX13_phasesNow_62
theorem t146_64 : e_ok mD146 64 (1, 1, 3, 0, 65) := okl_aload_n dX13_phasesNow_64 rfl
theorem t146_65 : e_ok mD146 65 (1, 0, 4, 0, 67) := okl_iload dX13_phasesNow_65
theorem t146_67 : e_ok mD146 67 (11, 2, 167, 2, 70) := And.intro (okCallX.M (okx_virtual (Da := mD167) dX13_phasesNow_67 rfl mwc_167 (wg7 21 rfl rfl) mwn_167 mwv_167 mwi_167 mwd_167)) (fun _ => okx_virtual (Da := mD167) dX13_phasesNow_67 rfl mwc_167 (wg7 21 rfl rfl) mwn_167 mwv_167 mwi_167 mwd_167)
theorem t146_70 : e_ok mD146 70 (5, 0, 77, 0, 73) := okj_eq dX13_phasesNow_70 (by decide +kernel)
theorem t146_73 : e_ok mD146 73 (1, 0, 2, 0, 74) := okl_iload_n dX13_phasesNow_73 rfl
theorem t146_74 : e_ok mD146 74 (2, 4, 0, 0, 81) := oki_goto dX13_phasesNow_74 (by decide +kernel)
theorem t146_77 : e_ok mD146 77 (1, 1, 1, 0, 78) := okl_aload_n dX13_phasesNow_77 rfl
theorem t146_78 : e_ok mD146 78 (1, 0, 4, 0, 80) := okl_iload dX13_phasesNow_78
theorem t146_80 : e_ok mD146 80 (8, 0, 0, 0, 81) := And.intro (oka_i dX13_phasesNow_80) (oky_i dX13_phasesNow_80)
theorem t146_81 : e_ok mD146 81 (10, 0, 0, 0, 82) := oka_sti dX13_phasesNow_81
theorem t146_82 : e_ok mD146 82 (2, 0, 4, 1, 85) := oki_iinc dX13_phasesNow_82 (by decide +kernel) (by decide +kernel)
theorem t146_85 : e_ok mD146 85 (2, 4, 0, 0, 54) := oki_goto dX13_phasesNow_85 (by decide +kernel)
theorem t146_88 : e_ok mD146 88 (2, 0, 2, 4294967295, 91) := oki_iinc dX13_phasesNow_88 (by decide +kernel) (by decide +kernel)
theorem t146_91 : e_ok mD146 91 (2, 4, 0, 0, 22) := oki_goto dX13_phasesNow_91 (by decide +kernel)
theorem t146_94 : e_ok mD146 94 (1, 1, 1, 0, 95) := okl_aload_n dX13_phasesNow_94 rfl
theorem t146_95 : e_ok mD146 95 (12, 4, 0, 0, 0) := okr_ref dX13_phasesNow_95 rfl (Or.inr ⟨_, rfl⟩)
theorem t147_0 : e_ok mD147 0 (1, 1, 0, 0, 1) := okl_aload_n dX13_pitSize_0 rfl
theorem t147_1 : e_ok mD147 1 (1, 0, 1, 0, 2) := okl_iload_n dX13_pitSize_1 rfl
theorem t147_2 : e_ok mD147 2 (11, 0, 135, 1, 5) := And.intro (okCallX.M (okx_static (Da := mD135) dX13_pitSize_2 rfl mwc_135 (wg6 169 rfl rfl) mws_135 mwi_135 mwd_135)) (fun _ => okx_static (Da := mD135) dX13_pitSize_2 rfl mwc_135 (wg6 169 rfl rfl) mws_135 mwi_135 mwd_135)
theorem t147_5 : e_ok mD147 5 (5, 0, 12, 0, 8) := okj_eq dX13_pitSize_5 (by decide +kernel)
theorem t147_8 : e_ok mD147 8 (0, 0, 0, 0, 9) := Or.inl (okc_iconst dX13_pitSize_8 (by decide +kernel))
theorem t147_9 : e_ok mD147 9 (2, 4, 0, 0, 13) := oki_goto dX13_pitSize_9 (by decide +kernel)
theorem t147_12 : e_ok mD147 12 (0, 0, 1, 0, 13) := Or.inl (okc_iconst dX13_pitSize_12 (by decide +kernel))
theorem t147_13 : e_ok mD147 13 (11, 2, 136, 2, 16) := And.intro (okCallX.M (okx_virtual (Da := mD136) dX13_pitSize_13 rfl mwc_136 (wg6 29 rfl rfl) mwn_136 mwv_136 mwi_136 mwd_136)) (fun _ => okx_virtual (Da := mD136) dX13_pitSize_13 rfl mwc_136 (wg6 29 rfl rfl) mwn_136 mwv_136 mwi_136 mwd_136)
theorem t147_16 : e_ok mD147 16 (5, 0, 21, 0, 19) := okj_eq dX13_pitSize_16 (by decide +kernel)
theorem t147_19 : e_ok mD147 19 (0, 0, 0, 0, 20) := Or.inl (okc_iconst dX13_pitSize_19 (by decide +kernel))
theorem t147_20 : e_ok mD147 20 (12, 1, 0, 0, 0) := okr_int dX13_pitSize_20 rfl
theorem t147_21 : e_ok mD147 21 (7, 1, 16, 3, 24) := And.intro (fun X ρ => okw_new dX13_pitSize_21 rfl hin_16 tyX11_ok (wg6 225 rfl rfl) (wg6 226 rfl rfl) (wg1 39 rfl rfl) rfl) (by decide)
theorem t147_24 : e_ok mD147 24 (2, 1, 0, 0, 25) := oki_dup dX13_pitSize_24
theorem t147_25 : e_ok mD147 25 (1, 1, 0, 0, 26) := okl_aload_n dX13_pitSize_25 rfl
theorem t147_26 : e_ok mD147 26 (1, 0, 1, 0, 27) := okl_iload_n dX13_pitSize_26 rfl
theorem t147_27 : e_ok mD147 27 (11, 1, 166, 3, 30) := And.intro (okm_init (Da := mD166) dX13_pitSize_27 rfl rfl mwc_166 (wg6 227 rfl rfl) mwn_166 mwi_166 rfl mwd_166) (fun h => h.elim nofun nofun)
theorem t147_30 : e_ok mD147 30 (1, 5, 2, 0, 31) := oks_astore_n dX13_pitSize_30 rfl (by decide +kernel)
theorem t147_31 : e_ok mD147 31 (0, 0, 0, 0, 32) := Or.inl (okc_iconst dX13_pitSize_31 (by decide +kernel))
theorem t147_32 : e_ok mD147 32 (1, 4, 3, 0, 33) := oks_istore_n dX13_pitSize_32 rfl (by decide +kernel)
theorem t147_33 : e_ok mD147 33 (0, 0, 0, 0, 34) := Or.inl (okc_iconst dX13_pitSize_33 (by decide +kernel))
theorem t147_34 : e_ok mD147 34 (1, 4, 4, 0, 36) := oks_istore dX13_pitSize_34 (by decide +kernel)
theorem t147_36 : e_ok mD147 36 (1, 0, 4, 0, 38) := okl_iload dX13_pitSize_36
theorem t147_38 : e_ok mD147 38 (0, 0, 60, 0, 40) := Or.inl (okc_bipush dX13_pitSize_38 (by decide +kernel))
theorem t147_40 : e_ok mD147 40 (6, 3, 66, 0, 43) := okk_ge dX13_pitSize_40 (by decide +kernel)
theorem t147_43 : e_ok mD147 43 (1, 0, 3, 0, 44) := okl_iload_n dX13_pitSize_43 rfl
theorem t147_44 : e_ok mD147 44 (1, 1, 2, 0, 45) := okl_aload_n dX13_pitSize_44 rfl
theorem t147_45 : e_ok mD147 45 (1, 0, 4, 0, 47) := okl_iload dX13_pitSize_45
theorem t147_47 : e_ok mD147 47 (11, 2, 167, 2, 50) := And.intro (okCallX.M (okx_virtual (Da := mD167) dX13_pitSize_47 rfl mwc_167 (wg7 21 rfl rfl) mwn_167 mwv_167 mwi_167 mwd_167)) (fun _ => okx_virtual (Da := mD167) dX13_pitSize_47 rfl mwc_167 (wg7 21 rfl rfl) mwn_167 mwv_167 mwi_167 mwd_167)
theorem t147_50 : e_ok mD147 50 (5, 0, 57, 0, 53) := okj_eq dX13_pitSize_50 (by decide +kernel)
theorem t147_53 : e_ok mD147 53 (0, 0, 1, 0, 54) := Or.inl (okc_iconst dX13_pitSize_53 (by decide +kernel))
theorem t147_54 : e_ok mD147 54 (2, 4, 0, 0, 58) := oki_goto dX13_pitSize_54 (by decide +kernel)
theorem t147_57 : e_ok mD147 57 (0, 0, 0, 0, 58) := Or.inl (okc_iconst dX13_pitSize_57 (by decide +kernel))
theorem t147_58 : e_ok mD147 58 (3, 0, 0, 0, 59) := okb_iadd dX13_pitSize_58
theorem t147_59 : e_ok mD147 59 (1, 4, 3, 0, 60) := oks_istore_n dX13_pitSize_59 rfl (by decide +kernel)
theorem t147_60 : e_ok mD147 60 (2, 0, 4, 1, 63) := oki_iinc dX13_pitSize_60 (by decide +kernel) (by decide +kernel)
theorem t147_63 : e_ok mD147 63 (2, 4, 0, 0, 36) := oki_goto dX13_pitSize_63 (by decide +kernel)
theorem t147_66 : e_ok mD147 66 (1, 0, 3, 0, 67) := okl_iload_n dX13_pitSize_66 rfl
theorem t147_67 : e_ok mD147 67 (12, 1, 0, 0, 0) := okr_int dX13_pitSize_67 rfl
theorem t148_0 : e_ok mD148 0 (1, 1, 0, 0, 1) := okl_aload_n dX13_pitWorth_0 rfl
theorem t148_1 : e_ok mD148 1 (1, 0, 1, 0, 2) := okl_iload_n dX13_pitWorth_1 rfl
theorem t148_2 : e_ok mD148 2 (11, 0, 135, 1, 5) := And.intro (okCallX.M (okx_static (Da := mD135) dX13_pitWorth_2 rfl mwc_135 (wg6 169 rfl rfl) mws_135 mwi_135 mwd_135)) (fun _ => okx_static (Da := mD135) dX13_pitWorth_2 rfl mwc_135 (wg6 169 rfl rfl) mws_135 mwi_135 mwd_135)
theorem t148_5 : e_ok mD148 5 (5, 0, 12, 0, 8) := okj_eq dX13_pitWorth_5 (by decide +kernel)
theorem t148_8 : e_ok mD148 8 (0, 0, 0, 0, 9) := Or.inl (okc_iconst dX13_pitWorth_8 (by decide +kernel))
theorem t148_9 : e_ok mD148 9 (2, 4, 0, 0, 13) := oki_goto dX13_pitWorth_9 (by decide +kernel)
theorem t148_12 : e_ok mD148 12 (0, 0, 1, 0, 13) := Or.inl (okc_iconst dX13_pitWorth_12 (by decide +kernel))
theorem t148_13 : e_ok mD148 13 (11, 2, 136, 2, 16) := And.intro (okCallX.M (okx_virtual (Da := mD136) dX13_pitWorth_13 rfl mwc_136 (wg6 29 rfl rfl) mwn_136 mwv_136 mwi_136 mwd_136)) (fun _ => okx_virtual (Da := mD136) dX13_pitWorth_13 rfl mwc_136 (wg6 29 rfl rfl) mwn_136 mwv_136 mwi_136 mwd_136)
theorem t148_16 : e_ok mD148 16 (5, 0, 21, 0, 19) := okj_eq dX13_pitWorth_16 (by decide +kernel)
theorem t148_19 : e_ok mD148 19 (0, 1, 0, 0, 20) := okc_lconst dX13_pitWorth_19 (by decide +kernel)
theorem t148_20 : e_ok mD148 20 (12, 2, 0, 0, 0) := okr_long dX13_pitWorth_20 rfl
theorem t148_21 : e_ok mD148 21 (7, 1, 16, 3, 24) := And.intro (fun X ρ => okw_new dX13_pitWorth_21 rfl hin_16 tyX11_ok (wg6 225 rfl rfl) (wg6 226 rfl rfl) (wg1 39 rfl rfl) rfl) (by decide)
theorem t148_24 : e_ok mD148 24 (2, 1, 0, 0, 25) := oki_dup dX13_pitWorth_24
theorem t148_25 : e_ok mD148 25 (1, 1, 0, 0, 26) := okl_aload_n dX13_pitWorth_25 rfl
theorem t148_26 : e_ok mD148 26 (1, 0, 1, 0, 27) := okl_iload_n dX13_pitWorth_26 rfl
theorem t148_27 : e_ok mD148 27 (11, 1, 166, 3, 30) := And.intro (okm_init (Da := mD166) dX13_pitWorth_27 rfl rfl mwc_166 (wg6 227 rfl rfl) mwn_166 mwi_166 rfl mwd_166) (fun h => h.elim nofun nofun)
theorem t148_30 : e_ok mD148 30 (1, 5, 2, 0, 31) := oks_astore_n dX13_pitWorth_30 rfl (by decide +kernel)
theorem t148_31 : e_ok mD148 31 (0, 1, 0, 0, 32) := okc_lconst dX13_pitWorth_31 (by decide +kernel)
theorem t148_32 : e_ok mD148 32 (1, 6, 3, 0, 33) := oks_lstore_n dX13_pitWorth_32 rfl (by decide +kernel)
theorem t148_33 : e_ok mD148 33 (0, 0, 0, 0, 34) := Or.inl (okc_iconst dX13_pitWorth_33 (by decide +kernel))
theorem t148_34 : e_ok mD148 34 (1, 4, 5, 0, 36) := oks_istore dX13_pitWorth_34 (by decide +kernel)
theorem t148_36 : e_ok mD148 36 (1, 0, 5, 0, 38) := okl_iload dX13_pitWorth_36
theorem t148_38 : e_ok mD148 38 (0, 0, 60, 0, 40) := Or.inl (okc_bipush dX13_pitWorth_38 (by decide +kernel))
theorem t148_40 : e_ok mD148 40 (6, 3, 73, 0, 43) := okk_ge dX13_pitWorth_40 (by decide +kernel)
theorem t148_43 : e_ok mD148 43 (1, 2, 3, 0, 44) := okl_lload_n dX13_pitWorth_43 rfl
theorem t148_44 : e_ok mD148 44 (1, 1, 2, 0, 45) := okl_aload_n dX13_pitWorth_44 rfl
theorem t148_45 : e_ok mD148 45 (1, 0, 5, 0, 47) := okl_iload dX13_pitWorth_45
theorem t148_47 : e_ok mD148 47 (11, 2, 167, 2, 50) := And.intro (okCallX.M (okx_virtual (Da := mD167) dX13_pitWorth_47 rfl mwc_167 (wg7 21 rfl rfl) mwn_167 mwv_167 mwi_167 mwd_167)) (fun _ => okx_virtual (Da := mD167) dX13_pitWorth_47 rfl mwc_167 (wg7 21 rfl rfl) mwn_167 mwv_167 mwi_167 mwd_167)
theorem t148_50 : e_ok mD148 50 (5, 0, 64, 0, 53) := okj_eq dX13_pitWorth_50 (by decide +kernel)
theorem t148_53 : e_ok mD148 53 (1, 1, 0, 0, 54) := okl_aload_n dX13_pitWorth_53 rfl
theorem t148_54 : e_ok mD148 54 (1, 0, 5, 0, 56) := okl_iload dX13_pitWorth_54
theorem t148_56 : e_ok mD148 56 (1, 0, 1, 0, 57) := okl_iload_n dX13_pitWorth_56 rfl
theorem t148_57 : e_ok mD148 57 (11, 2, 163, 3, 60) := And.intro (okCallX.M (okx_virtual (Da := mD163) dX13_pitWorth_57 rfl mwc_163 (wg6 172 rfl rfl) mwn_163 mwv_163 mwi_163 mwd_163)) (fun _ => okx_virtual (Da := mD163) dX13_pitWorth_57 rfl mwc_163 (wg6 172 rfl rfl) mwn_163 mwv_163 mwi_163 mwd_163)
theorem t148_60 : e_ok mD148 60 (15, 5, 0, 0, 61) := okm_i2l dX13_pitWorth_60
theorem t148_61 : e_ok mD148 61 (2, 4, 0, 0, 65) := oki_goto dX13_pitWorth_61 (by decide +kernel)
theorem t148_64 : e_ok mD148 64 (0, 1, 0, 0, 65) := okc_lconst dX13_pitWorth_64 (by decide +kernel)
theorem t148_65 : e_ok mD148 65 (15, 0, 0, 0, 66) := okm_ladd dX13_pitWorth_65
theorem t148_66 : e_ok mD148 66 (1, 6, 3, 0, 67) := oks_lstore_n dX13_pitWorth_66 rfl (by decide +kernel)
theorem t148_67 : e_ok mD148 67 (2, 0, 5, 1, 70) := oki_iinc dX13_pitWorth_67 (by decide +kernel) (by decide +kernel)
theorem t148_70 : e_ok mD148 70 (2, 4, 0, 0, 36) := oki_goto dX13_pitWorth_70 (by decide +kernel)
theorem t148_73 : e_ok mD148 73 (1, 2, 3, 0, 74) := okl_lload_n dX13_pitWorth_73 rfl
theorem t148_74 : e_ok mD148 74 (12, 2, 0, 0, 0) := okr_long dX13_pitWorth_74 rfl
theorem t149_0 : e_ok mD149 0 (1, 1, 0, 0, 1) := okl_aload_n dX13_recovery_0 rfl
theorem t149_1 : e_ok mD149 1 (1, 1, 0, 0, 2) := okl_aload_n dX13_recovery_1 rfl
theorem t149_2 : e_ok mD149 2 (7, 0, 18, 7, 5) := And.intro (okw_get dX13_recovery_2 rfl hin_18 (by decide +kernel) (wg5 177 rfl rfl) rfl) (okx_none (by decide +kernel) _)
theorem t149_5 : e_ok mD149 5 (5, 0, 12, 0, 8) := okj_eq dX13_recovery_5 (by decide +kernel)
theorem t149_8 : e_ok mD149 8 (0, 0, 0, 0, 9) := Or.inl (okc_iconst dX13_recovery_8 (by decide +kernel))
theorem t149_9 : e_ok mD149 9 (2, 4, 0, 0, 13) := oki_goto dX13_recovery_9 (by decide +kernel)
theorem t149_12 : e_ok mD149 12 (0, 0, 1, 0, 13) := Or.inl (okc_iconst dX13_recovery_12 (by decide +kernel))
theorem t149_13 : e_ok mD149 13 (11, 2, 136, 2, 16) := And.intro (okCallX.M (okx_virtual (Da := mD136) dX13_recovery_13 rfl mwc_136 (wg6 29 rfl rfl) mwn_136 mwv_136 mwi_136 mwd_136)) (fun _ => okx_virtual (Da := mD136) dX13_recovery_13 rfl mwc_136 (wg6 29 rfl rfl) mwn_136 mwv_136 mwi_136 mwd_136)
theorem t149_16 : e_ok mD149 16 (5, 0, 23, 0, 19) := okj_eq dX13_recovery_16 (by decide +kernel)
theorem t149_19 : e_ok mD149 19 (0, 0, 0, 0, 20) := Or.inl (okc_iconst dX13_recovery_19 (by decide +kernel))
theorem t149_20 : e_ok mD149 20 (2, 4, 0, 0, 27) := oki_goto dX13_recovery_20 (by decide +kernel)
theorem t149_23 : e_ok mD149 23 (1, 1, 0, 0, 24) := okl_aload_n dX13_recovery_23 rfl
theorem t149_24 : e_ok mD149 24 (7, 0, 18, 10, 27) := And.intro (okw_get dX13_recovery_24 rfl hin_18 (by decide +kernel) (wg5 180 rfl rfl) rfl) (okx_none (by decide +kernel) _)
theorem t149_27 : e_ok mD149 27 (12, 1, 0, 0, 0) := okr_int dX13_recovery_27 rfl
theorem t150_0 : e_ok mD150 0 (1, 1, 0, 0, 1) := okl_aload_n dX13_rock_0 rfl
theorem t150_1 : e_ok mD150 1 (1, 0, 1, 0, 2) := okl_iload_n dX13_rock_1 rfl
theorem t150_2 : e_ok mD150 2 (11, 0, 130, 1, 5) := And.intro (okCallX.M (okx_static (Da := mD130) dX13_rock_2 rfl mwc_130 (wg6 4 rfl rfl) mws_130 mwi_130 mwd_130)) (fun _ => okx_static (Da := mD130) dX13_rock_2 rfl mwc_130 (wg6 4 rfl rfl) mws_130 mwi_130 mwd_130)
theorem t150_5 : e_ok mD150 5 (5, 1, 12, 0, 8) := okj_ne dX13_rock_5 (by decide +kernel)
theorem t150_8 : e_ok mD150 8 (0, 0, 1, 0, 9) := Or.inl (okc_iconst dX13_rock_8 (by decide +kernel))
theorem t150_9 : e_ok mD150 9 (2, 4, 0, 0, 52) := oki_goto dX13_rock_9 (by decide +kernel)
theorem t150_12 : e_ok mD150 12 (1, 0, 2, 0, 13) := okl_iload_n dX13_rock_12 rfl
theorem t150_13 : e_ok mD150 13 (0, 0, 115, 0, 15) := Or.inl (okc_bipush dX13_rock_13 (by decide +kernel))
theorem t150_15 : e_ok mD150 15 (6, 0, 28, 0, 18) := okk_eq dX13_rock_15 (by decide +kernel)
theorem t150_18 : e_ok mD150 18 (1, 0, 2, 0, 19) := okl_iload_n dX13_rock_18 rfl
theorem t150_19 : e_ok mD150 19 (0, 0, 104, 0, 21) := Or.inl (okc_bipush dX13_rock_19 (by decide +kernel))
theorem t150_21 : e_ok mD150 21 (6, 0, 28, 0, 24) := okk_eq dX13_rock_21 (by decide +kernel)
theorem t150_24 : e_ok mD150 24 (0, 0, 2, 0, 25) := Or.inl (okc_iconst dX13_rock_24 (by decide +kernel))
theorem t150_25 : e_ok mD150 25 (2, 4, 0, 0, 52) := oki_goto dX13_rock_25 (by decide +kernel)
theorem t150_28 : e_ok mD150 28 (1, 1, 0, 0, 29) := okl_aload_n dX13_rock_28 rfl
theorem t150_29 : e_ok mD150 29 (7, 0, 18, 1, 32) := And.intro (okw_get dX13_rock_29 rfl hin_18 (by decide +kernel) (wg5 171 rfl rfl) rfl) (okx_none (by decide +kernel) _)
theorem t150_32 : e_ok mD150 32 (1, 0, 1, 0, 33) := okl_iload_n dX13_rock_32 rfl
theorem t150_33 : e_ok mD150 33 (11, 3, 189, 2, 38) := And.intro (okm_iface (ci := 4) (x := ⟨"java/util/List", "get", "(I)Ljava/lang/Object;"⟩) (Da := mD189) rfl dX13_rock_33 rfl mwc_189 (wg6 11 rfl rfl) mwn_189 (wg6 14 rfl rfl) mwi_189 (wn6 13 rfl rfl) (wn6 12 rfl rfl) (wn6 17 rfl rfl) (wn6 15 rfl rfl) (wn5 100 rfl rfl) ⟨by decide +kernel, by decide +kernel, by decide +kernel⟩) (fun h => h.elim nofun nofun)
theorem t150_38 : e_ok mD150 38 (7, 2, 15, 0, 41) := okw_cast dX13_rock_38 rfl (wg5 72 rfl rfl)
theorem t150_41 : e_ok mD150 41 (7, 0, 15, 1, 44) := And.intro (okw_getN dX13_rock_41 rfl hin_15 (by decide +kernel) (wn5 80 rfl rfl) rfl) (okx_none (by decide +kernel) _)
theorem t150_44 : e_ok mD150 44 (5, 0, 51, 0, 47) := okj_eq dX13_rock_44 (by decide +kernel)
theorem t150_47 : e_ok mD150 47 (0, 0, 3, 0, 48) := Or.inl (okc_iconst dX13_rock_47 (by decide +kernel))
theorem t150_48 : e_ok mD150 48 (2, 4, 0, 0, 52) := oki_goto dX13_rock_48 (by decide +kernel)
theorem t150_51 : e_ok mD150 51 (0, 0, 0, 0, 52) := Or.inl (okc_iconst dX13_rock_51 (by decide +kernel))
theorem t150_52 : e_ok mD150 52 (11, 2, 136, 2, 55) := And.intro (okCallX.M (okx_virtual (Da := mD136) dX13_rock_52 rfl mwc_136 (wg6 29 rfl rfl) mwn_136 mwv_136 mwi_136 mwd_136)) (fun _ => okx_virtual (Da := mD136) dX13_rock_52 rfl mwc_136 (wg6 29 rfl rfl) mwn_136 mwv_136 mwi_136 mwd_136)
theorem t150_55 : e_ok mD150 55 (5, 0, 60, 0, 58) := okj_eq dX13_rock_55 (by decide +kernel)
theorem t150_58 : e_ok mD150 58 (0, 0, 0, 0, 59) := Or.inl (okc_iconst dX13_rock_58 (by decide +kernel))
theorem t150_59 : e_ok mD150 59 (12, 7, 0, 0, 0) := okr_char dX13_rock_59 rfl
theorem t150_60 : e_ok mD150 60 (1, 1, 0, 0, 61) := okl_aload_n dX13_rock_60 rfl
theorem t150_61 : e_ok mD150 61 (7, 0, 18, 1, 64) := And.intro (okw_get dX13_rock_61 rfl hin_18 (by decide +kernel) (wg5 171 rfl rfl) rfl) (okx_none (by decide +kernel) _)
theorem t150_64 : e_ok mD150 64 (1, 0, 1, 0, 65) := okl_iload_n dX13_rock_64 rfl
theorem t150_65 : e_ok mD150 65 (11, 3, 189, 2, 70) := And.intro (okm_iface (ci := 4) (x := ⟨"java/util/List", "get", "(I)Ljava/lang/Object;"⟩) (Da := mD189) rfl dX13_rock_65 rfl mwc_189 (wg6 11 rfl rfl) mwn_189 (wg6 14 rfl rfl) mwi_189 (wn6 13 rfl rfl) (wn6 12 rfl rfl) (wn6 17 rfl rfl) (wn6 15 rfl rfl) (wn5 100 rfl rfl) ⟨by decide +kernel, by decide +kernel, by decide +kernel⟩) (fun h => h.elim nofun nofun)
theorem t150_70 : e_ok mD150 70 (7, 2, 15, 0, 73) := okw_cast dX13_rock_70 rfl (wg5 72 rfl rfl)
theorem t150_73 : e_ok mD150 73 (7, 0, 15, 0, 76) := And.intro (okw_getN dX13_rock_73 rfl hin_15 (by decide +kernel) (wn5 78 rfl rfl) rfl) (okx_none (by decide +kernel) _)
theorem t150_76 : e_ok mD150 76 (5, 0, 84, 0, 79) := okj_eq dX13_rock_76 (by decide +kernel)
theorem t150_79 : e_ok mD150 79 (0, 0, 104, 0, 81) := Or.inl (okc_bipush dX13_rock_79 (by decide +kernel))
theorem t150_81 : e_ok mD150 81 (2, 4, 0, 0, 86) := oki_goto dX13_rock_81 (by decide +kernel)
theorem t150_84 : e_ok mD150 84 (0, 0, 115, 0, 86) := Or.inl (okc_bipush dX13_rock_84 (by decide +kernel))
theorem t150_86 : e_ok mD150 86 (1, 4, 3, 0, 87) := oks_istore_n dX13_rock_86 rfl (by decide +kernel)
theorem t150_87 : e_ok mD150 87 (1, 1, 0, 0, 88) := okl_aload_n dX13_rock_87 rfl
theorem t150_88 : e_ok mD150 88 (7, 0, 18, 1, 91) := And.intro (okw_get dX13_rock_88 rfl hin_18 (by decide +kernel) (wg5 171 rfl rfl) rfl) (okx_none (by decide +kernel) _)
theorem t150_91 : e_ok mD150 91 (1, 0, 1, 0, 92) := okl_iload_n dX13_rock_91 rfl
theorem t150_92 : e_ok mD150 92 (11, 3, 189, 2, 97) := And.intro (okm_iface (ci := 4) (x := ⟨"java/util/List", "get", "(I)Ljava/lang/Object;"⟩) (Da := mD189) rfl dX13_rock_92 rfl mwc_189 (wg6 11 rfl rfl) mwn_189 (wg6 14 rfl rfl) mwi_189 (wn6 13 rfl rfl) (wn6 12 rfl rfl) (wn6 17 rfl rfl) (wn6 15 rfl rfl) (wn5 100 rfl rfl) ⟨by decide +kernel, by decide +kernel, by decide +kernel⟩) (fun h => h.elim nofun nofun)
theorem t150_97 : e_ok mD150 97 (7, 2, 15, 0, 100) := okw_cast dX13_rock_97 rfl (wg5 72 rfl rfl)
theorem t150_100 : e_ok mD150 100 (1, 0, 2, 0, 101) := okl_iload_n dX13_rock_100 rfl
theorem t150_101 : e_ok mD150 101 (0, 0, 104, 0, 103) := Or.inl (okc_bipush dX13_rock_101 (by decide +kernel))
theorem t150_103 : e_ok mD150 103 (6, 1, 110, 0, 106) := okk_ne dX13_rock_103 (by decide +kernel)
theorem t150_106 : e_ok mD150 106 (0, 0, 1, 0, 107) := Or.inl (okc_iconst dX13_rock_106 (by decide +kernel))
theorem t150_107 : e_ok mD150 107 (2, 4, 0, 0, 111) := oki_goto dX13_rock_107 (by decide +kernel)
theorem t150_110 : e_ok mD150 110 (0, 0, 0, 0, 111) := Or.inl (okc_iconst dX13_rock_110 (by decide +kernel))
theorem t150_111 : e_ok mD150 111 (9, 1, 15, 0, 114) := okw_putN dX13_rock_111 rfl hin_15 tyX10_ok nmX10 (by decide +kernel) (wn5 78 rfl rfl) rfl rfl (tyX10_ok 0 (by decide +kernel)) (fun V h => fitV_bool h)
theorem t150_114 : e_ok mD150 114 (1, 0, 3, 0, 115) := okl_iload_n dX13_rock_114 rfl
theorem t150_115 : e_ok mD150 115 (12, 7, 0, 0, 0) := okr_char dX13_rock_115 rfl
theorem t151_0 : e_ok mD151 0 (1, 1, 0, 0, 1) := okl_aload_n dX13_sample_0 rfl
theorem t151_1 : e_ok mD151 1 (1, 0, 1, 0, 2) := okl_iload_n dX13_sample_1 rfl
theorem t151_2 : e_ok mD151 2 (11, 0, 130, 1, 5) := And.intro (okCallX.M (okx_static (Da := mD130) dX13_sample_2 rfl mwc_130 (wg6 4 rfl rfl) mws_130 mwi_130 mwd_130)) (fun _ => okx_static (Da := mD130) dX13_sample_2 rfl mwc_130 (wg6 4 rfl rfl) mws_130 mwi_130 mwd_130)
theorem t151_5 : e_ok mD151 5 (5, 1, 12, 0, 8) := okj_ne dX13_sample_5 (by decide +kernel)
theorem t151_8 : e_ok mD151 8 (0, 0, 1, 0, 9) := Or.inl (okc_iconst dX13_sample_8 (by decide +kernel))
theorem t151_9 : e_ok mD151 9 (2, 4, 0, 0, 45) := oki_goto dX13_sample_9 (by decide +kernel)
theorem t151_12 : e_ok mD151 12 (1, 0, 2, 0, 13) := okl_iload_n dX13_sample_12 rfl
theorem t151_13 : e_ok mD151 13 (0, 0, 0, 0, 14) := Or.inl (okc_iconst dX13_sample_13 (by decide +kernel))
theorem t151_14 : e_ok mD151 14 (0, 0, 99, 0, 16) := Or.inl (okc_bipush dX13_sample_14 (by decide +kernel))
theorem t151_16 : e_ok mD151 16 (11, 0, 129, 3, 19) := And.intro (okCallX.M (okx_static (Da := mD129) dX13_sample_16 rfl mwc_129 (wg6 7 rfl rfl) mws_129 mwi_129 mwd_129)) (fun _ => okx_static (Da := mD129) dX13_sample_16 rfl mwc_129 (wg6 7 rfl rfl) mws_129 mwi_129 mwd_129)
theorem t151_19 : e_ok mD151 19 (5, 1, 26, 0, 22) := okj_ne dX13_sample_19 (by decide +kernel)
theorem t151_22 : e_ok mD151 22 (0, 0, 2, 0, 23) := Or.inl (okc_iconst dX13_sample_22 (by decide +kernel))
theorem t151_23 : e_ok mD151 23 (2, 4, 0, 0, 45) := oki_goto dX13_sample_23 (by decide +kernel)
theorem t151_26 : e_ok mD151 26 (1, 1, 0, 0, 27) := okl_aload_n dX13_sample_26 rfl
theorem t151_27 : e_ok mD151 27 (7, 0, 18, 2, 30) := And.intro (okw_get dX13_sample_27 rfl hin_18 (by decide +kernel) (wg5 172 rfl rfl) rfl) (okx_none (by decide +kernel) _)
theorem t151_30 : e_ok mD151 30 (11, 3, 194, 1, 35) := And.intro (okm_iface (ci := 4) (x := ⟨"java/util/List", "size", "()I"⟩) (Da := mD194) rfl dX13_sample_30 rfl mwc_194 (wg6 38 rfl rfl) mwn_194 (wg6 41 rfl rfl) mwi_194 (wn6 40 rfl rfl) (wn6 39 rfl rfl) (wn6 44 rfl rfl) (wn6 42 rfl rfl) (wn5 100 rfl rfl) ⟨by decide +kernel, by decide +kernel, by decide +kernel⟩) (fun h => h.elim nofun nofun)
theorem t151_35 : e_ok mD151 35 (0, 0, 40, 0, 37) := Or.inl (okc_bipush dX13_sample_35 (by decide +kernel))
theorem t151_37 : e_ok mD151 37 (6, 1, 44, 0, 40) := okk_ne dX13_sample_37 (by decide +kernel)
theorem t151_40 : e_ok mD151 40 (0, 0, 3, 0, 41) := Or.inl (okc_iconst dX13_sample_40 (by decide +kernel))
theorem t151_41 : e_ok mD151 41 (2, 4, 0, 0, 45) := oki_goto dX13_sample_41 (by decide +kernel)
theorem t151_44 : e_ok mD151 44 (0, 0, 0, 0, 45) := Or.inl (okc_iconst dX13_sample_44 (by decide +kernel))
theorem t151_45 : e_ok mD151 45 (11, 2, 136, 2, 48) := And.intro (okCallX.M (okx_virtual (Da := mD136) dX13_sample_45 rfl mwc_136 (wg6 29 rfl rfl) mwn_136 mwv_136 mwi_136 mwd_136)) (fun _ => okx_virtual (Da := mD136) dX13_sample_45 rfl mwc_136 (wg6 29 rfl rfl) mwn_136 mwv_136 mwi_136 mwd_136)
theorem t151_48 : e_ok mD151 48 (5, 0, 53, 0, 51) := okj_eq dX13_sample_48 (by decide +kernel)
theorem t151_51 : e_ok mD151 51 (0, 0, 0, 0, 52) := Or.inl (okc_iconst dX13_sample_51 (by decide +kernel))
theorem t151_52 : e_ok mD151 52 (12, 1, 0, 0, 0) := okr_int dX13_sample_52 rfl
theorem t151_53 : e_ok mD151 53 (1, 1, 0, 0, 54) := okl_aload_n dX13_sample_53 rfl
theorem t151_54 : e_ok mD151 54 (7, 0, 18, 2, 57) := And.intro (okw_get dX13_sample_54 rfl hin_18 (by decide +kernel) (wg5 172 rfl rfl) rfl) (okx_none (by decide +kernel) _)
theorem t151_57 : e_ok mD151 57 (7, 1, 17, 2, 60) := And.intro (fun X ρ => okw_new dX13_sample_57 rfl hin_17 tyX12_ok (wg6 46 rfl rfl) (wg6 47 rfl rfl) (wg1 31 rfl rfl) rfl) (by decide)
theorem t151_60 : e_ok mD151 60 (2, 1, 0, 0, 61) := oki_dup dX13_sample_60
theorem t151_61 : e_ok mD151 61 (1, 0, 1, 0, 62) := okl_iload_n dX13_sample_61 rfl
theorem t151_62 : e_ok mD151 62 (1, 0, 2, 0, 63) := okl_iload_n dX13_sample_62 rfl
theorem t151_63 : e_ok mD151 63 (11, 1, 169, 3, 66) := And.intro (okm_init (Da := mD169) dX13_sample_63 rfl rfl mwc_169 (wg6 48 rfl rfl) mwn_169 mwi_169 rfl mwd_169) (fun h => h.elim nofun nofun)
theorem t151_66 : e_ok mD151 66 (11, 3, 185, 2, 71) := And.intro (okm_iface (ci := 4) (x := ⟨"java/util/List", "add", "(Ljava/lang/Object;)Z"⟩) (Da := mD185) rfl dX13_sample_66 rfl mwc_185 (wg5 97 rfl rfl) mwn_185 (wg5 101 rfl rfl) mwi_185 (wn5 99 rfl rfl) (wn5 98 rfl rfl) (wn5 104 rfl rfl) (wn5 102 rfl rfl) (wn5 100 rfl rfl) ⟨by decide +kernel, by decide +kernel, by decide +kernel⟩) (fun h => h.elim nofun nofun)
theorem t151_71 : e_ok mD151 71 (2, 2, 0, 0, 72) := oki_pop dX13_sample_71
theorem t151_72 : e_ok mD151 72 (1, 1, 0, 0, 73) := okl_aload_n dX13_sample_72 rfl
theorem t151_73 : e_ok mD151 73 (7, 0, 18, 2, 76) := And.intro (okw_get dX13_sample_73 rfl hin_18 (by decide +kernel) (wg5 172 rfl rfl) rfl) (okx_none (by decide +kernel) _)
theorem t151_76 : e_ok mD151 76 (11, 3, 194, 1, 81) := And.intro (okm_iface (ci := 4) (x := ⟨"java/util/List", "size", "()I"⟩) (Da := mD194) rfl dX13_sample_76 rfl mwc_194 (wg6 38 rfl rfl) mwn_194 (wg6 41 rfl rfl) mwi_194 (wn6 40 rfl rfl) (wn6 39 rfl rfl) (wn6 44 rfl rfl) (wn6 42 rfl rfl) (wn5 100 rfl rfl) ⟨by decide +kernel, by decide +kernel, by decide +kernel⟩) (fun h => h.elim nofun nofun)
theorem t151_81 : e_ok mD151 81 (12, 1, 0, 0, 0) := okr_int dX13_sample_81 rfl
theorem t152_0 : e_ok mD152 0 (0, 5, 5, 0, 2) := okw_ldcS rfl dX13_set_0
theorem t152_2 : e_ok mD152 2 (1, 0, 1, 0, 3) := okl_iload_n dX13_set_2 rfl
theorem t152_3 : e_ok mD152 3 (11, 2, 175, 2, 6) := And.intro (okCallX.M (okx_virtual (Da := mD175) dX13_set_3 rfl mwc_175 (wg7 70 rfl rfl) mwn_175 mwv_175 mwi_175 mwd_175)) (fun _ => okx_virtual (Da := mD175) dX13_set_3 rfl mwc_175 (wg7 70 rfl rfl) mwn_175 mwv_175 mwi_175 mwd_175)
theorem t152_6 : e_ok mD152 6 (1, 4, 3, 0, 7) := oks_istore_n dX13_set_6 rfl (by decide +kernel)
theorem t152_7 : e_ok mD152 7 (1, 1, 0, 0, 8) := okl_aload_n dX13_set_7 rfl
theorem t152_8 : e_ok mD152 8 (1, 0, 3, 0, 9) := okl_iload_n dX13_set_8 rfl
theorem t152_9 : e_ok mD152 9 (5, 2, 25, 0, 12) := okj_lt dX13_set_9 (by decide +kernel)
theorem t152_12 : e_ok mD152 12 (1, 0, 2, 0, 13) := okl_iload_n dX13_set_12 rfl
theorem t152_13 : e_ok mD152 13 (0, 0, 0, 0, 14) := Or.inl (okc_iconst dX13_set_13 (by decide +kernel))
theorem t152_14 : e_ok mD152 14 (0, 5, 2, 0, 17) := okw_getstatic (C := "PitForgeModel") (n := "MOST") (ds := "[I") dX13_set_14 (by decide +kernel) (wg7 152 rfl rfl)
theorem t152_17 : e_ok mD152 17 (1, 0, 3, 0, 18) := okl_iload_n dX13_set_17 rfl
theorem t152_18 : e_ok mD152 18 (8, 0, 0, 0, 19) := And.intro (oka_i dX13_set_18) (oky_i dX13_set_18)
theorem t152_19 : e_ok mD152 19 (11, 0, 129, 3, 22) := And.intro (okCallX.M (okx_static (Da := mD129) dX13_set_19 rfl mwc_129 (wg6 7 rfl rfl) mws_129 mwi_129 mwd_129)) (fun _ => okx_static (Da := mD129) dX13_set_19 rfl mwc_129 (wg6 7 rfl rfl) mws_129 mwi_129 mwd_129)
theorem t152_22 : e_ok mD152 22 (5, 1, 29, 0, 25) := okj_ne dX13_set_22 (by decide +kernel)
theorem t152_25 : e_ok mD152 25 (0, 0, 1, 0, 26) := Or.inl (okc_iconst dX13_set_25 (by decide +kernel))
theorem t152_26 : e_ok mD152 26 (2, 4, 0, 0, 30) := oki_goto dX13_set_26 (by decide +kernel)
theorem t152_29 : e_ok mD152 29 (0, 0, 0, 0, 30) := Or.inl (okc_iconst dX13_set_29 (by decide +kernel))
theorem t152_30 : e_ok mD152 30 (11, 2, 136, 2, 33) := And.intro (okCallX.M (okx_virtual (Da := mD136) dX13_set_30 rfl mwc_136 (wg6 29 rfl rfl) mwn_136 mwv_136 mwi_136 mwd_136)) (fun _ => okx_virtual (Da := mD136) dX13_set_30 rfl mwc_136 (wg6 29 rfl rfl) mwn_136 mwv_136 mwi_136 mwd_136)
theorem t152_33 : e_ok mD152 33 (5, 0, 38, 0, 36) := okj_eq dX13_set_33 (by decide +kernel)
theorem t152_36 : e_ok mD152 36 (0, 0, 0, 0, 37) := Or.inl (okc_iconst dX13_set_36 (by decide +kernel))
theorem t152_37 : e_ok mD152 37 (12, 1, 0, 0, 0) := okr_int dX13_set_37 rfl
theorem t152_38 : e_ok mD152 38 (1, 1, 0, 0, 39) := okl_aload_n dX13_set_38 rfl
theorem t152_39 : e_ok mD152 39 (7, 0, 18, 5, 42) := And.intro (okw_get dX13_set_39 rfl hin_18 (by decide +kernel) (wg5 175 rfl rfl) rfl) (okx_none (by decide +kernel) _)
theorem t152_42 : e_ok mD152 42 (1, 0, 3, 0, 43) := okl_iload_n dX13_set_42 rfl
theorem t152_43 : e_ok mD152 43 (8, 0, 0, 0, 44) := And.intro (oka_i dX13_set_43) (oky_i dX13_set_43)
theorem t152_44 : e_ok mD152 44 (1, 4, 4, 0, 46) := oks_istore dX13_set_44 (by decide +kernel)
theorem t152_46 : e_ok mD152 46 (1, 1, 0, 0, 47) := okl_aload_n dX13_set_46 rfl
theorem t152_47 : e_ok mD152 47 (7, 0, 18, 5, 50) := And.intro (okw_get dX13_set_47 rfl hin_18 (by decide +kernel) (wg5 175 rfl rfl) rfl) (okx_none (by decide +kernel) _)
theorem t152_50 : e_ok mD152 50 (1, 0, 3, 0, 51) := okl_iload_n dX13_set_50 rfl
theorem t152_51 : e_ok mD152 51 (1, 0, 2, 0, 52) := okl_iload_n dX13_set_51 rfl
theorem t152_52 : e_ok mD152 52 (10, 0, 0, 0, 53) := oka_sti dX13_set_52
theorem t152_53 : e_ok mD152 53 (1, 0, 4, 0, 55) := okl_iload dX13_set_53
theorem t152_55 : e_ok mD152 55 (12, 1, 0, 0, 0) := okr_int dX13_set_55 rfl
theorem t153_0 : e_ok mD153 0 (1, 1, 0, 0, 1) := okl_aload_n dX13_stock_0 rfl
theorem t153_1 : e_ok mD153 1 (0, 0, 0, 0, 2) := Or.inl (okc_iconst dX13_stock_1 (by decide +kernel))
theorem t153_2 : e_ok mD153 2 (9, 0, 18, 0, 5) := okw_put dX13_stock_2 rfl hin_18 tyX13_ok nmX13 (by decide +kernel) (wg5 169 rfl rfl) rfl rfl (tyX13_ok 0 (by decide +kernel)) (fun V h => fitV_int h)
theorem t153_5 : e_ok mD153 5 (1, 1, 0, 0, 6) := okl_aload_n dX13_stock_5 rfl
theorem t153_6 : e_ok mD153 6 (7, 0, 18, 16, 9) := And.intro (okw_get dX13_stock_6 rfl hin_18 (by decide +kernel) (wg5 186 rfl rfl) rfl) (okx_none (by decide +kernel) _)
theorem t153_9 : e_ok mD153 9 (12, 1, 0, 0, 0) := okr_int dX13_stock_9 rfl
theorem t154_0 : e_ok mD154 0 (1, 1, 0, 0, 1) := okl_aload_n dX13_stockGrades_0 rfl
theorem t154_1 : e_ok mD154 1 (0, 0, 0, 0, 2) := Or.inl (okc_iconst dX13_stockGrades_1 (by decide +kernel))
theorem t154_2 : e_ok mD154 2 (9, 0, 18, 0, 5) := okw_put dX13_stockGrades_2 rfl hin_18 tyX13_ok nmX13 (by decide +kernel) (wg5 169 rfl rfl) rfl rfl (tyX13_ok 0 (by decide +kernel)) (fun V h => fitV_int h)
theorem t154_5 : e_ok mD154 5 (1, 1, 0, 0, 6) := okl_aload_n dX13_stockGrades_5 rfl
theorem t154_6 : e_ok mD154 6 (7, 0, 18, 17, 9) := And.intro (okw_get dX13_stockGrades_6 rfl hin_18 (by decide +kernel) (wg5 187 rfl rfl) rfl) (okx_none (by decide +kernel) _)
theorem t154_9 : e_ok mD154 9 (12, 1, 0, 0, 0) := okr_int dX13_stockGrades_9 rfl
theorem t155_0 : e_ok mD155 0 (1, 1, 0, 0, 1) := okl_aload_n dX13_tellTruth_0 rfl
theorem t155_1 : e_ok mD155 1 (1, 0, 1, 0, 2) := okl_iload_n dX13_tellTruth_1 rfl
theorem t155_2 : e_ok mD155 2 (11, 0, 130, 1, 5) := And.intro (okCallX.M (okx_static (Da := mD130) dX13_tellTruth_2 rfl mwc_130 (wg6 4 rfl rfl) mws_130 mwi_130 mwd_130)) (fun _ => okx_static (Da := mD130) dX13_tellTruth_2 rfl mwc_130 (wg6 4 rfl rfl) mws_130 mwi_130 mwd_130)
theorem t155_5 : e_ok mD155 5 (5, 1, 12, 0, 8) := okj_ne dX13_tellTruth_5 (by decide +kernel)
theorem t155_8 : e_ok mD155 8 (0, 0, 1, 0, 9) := Or.inl (okc_iconst dX13_tellTruth_8 (by decide +kernel))
theorem t155_9 : e_ok mD155 9 (2, 4, 0, 0, 50) := oki_goto dX13_tellTruth_9 (by decide +kernel)
theorem t155_12 : e_ok mD155 12 (1, 0, 2, 0, 13) := okl_iload_n dX13_tellTruth_12 rfl
theorem t155_13 : e_ok mD155 13 (0, 0, 0, 0, 14) := Or.inl (okc_iconst dX13_tellTruth_13 (by decide +kernel))
theorem t155_14 : e_ok mD155 14 (0, 0, 99, 0, 16) := Or.inl (okc_bipush dX13_tellTruth_14 (by decide +kernel))
theorem t155_16 : e_ok mD155 16 (11, 0, 129, 3, 19) := And.intro (okCallX.M (okx_static (Da := mD129) dX13_tellTruth_16 rfl mwc_129 (wg6 7 rfl rfl) mws_129 mwi_129 mwd_129)) (fun _ => okx_static (Da := mD129) dX13_tellTruth_16 rfl mwc_129 (wg6 7 rfl rfl) mws_129 mwi_129 mwd_129)
theorem t155_19 : e_ok mD155 19 (5, 1, 26, 0, 22) := okj_ne dX13_tellTruth_19 (by decide +kernel)
theorem t155_22 : e_ok mD155 22 (0, 0, 2, 0, 23) := Or.inl (okc_iconst dX13_tellTruth_22 (by decide +kernel))
theorem t155_23 : e_ok mD155 23 (2, 4, 0, 0, 50) := oki_goto dX13_tellTruth_23 (by decide +kernel)
theorem t155_26 : e_ok mD155 26 (1, 1, 0, 0, 27) := okl_aload_n dX13_tellTruth_26 rfl
theorem t155_27 : e_ok mD155 27 (7, 0, 18, 1, 30) := And.intro (okw_get dX13_tellTruth_27 rfl hin_18 (by decide +kernel) (wg5 171 rfl rfl) rfl) (okx_none (by decide +kernel) _)
theorem t155_30 : e_ok mD155 30 (1, 0, 1, 0, 31) := okl_iload_n dX13_tellTruth_30 rfl
theorem t155_31 : e_ok mD155 31 (11, 3, 189, 2, 36) := And.intro (okm_iface (ci := 4) (x := ⟨"java/util/List", "get", "(I)Ljava/lang/Object;"⟩) (Da := mD189) rfl dX13_tellTruth_31 rfl mwc_189 (wg6 11 rfl rfl) mwn_189 (wg6 14 rfl rfl) mwi_189 (wn6 13 rfl rfl) (wn6 12 rfl rfl) (wn6 17 rfl rfl) (wn6 15 rfl rfl) (wn5 100 rfl rfl) ⟨by decide +kernel, by decide +kernel, by decide +kernel⟩) (fun h => h.elim nofun nofun)
theorem t155_36 : e_ok mD155 36 (7, 2, 15, 0, 39) := okw_cast dX13_tellTruth_36 rfl (wg5 72 rfl rfl)
theorem t155_39 : e_ok mD155 39 (7, 0, 15, 1, 42) := And.intro (okw_getN dX13_tellTruth_39 rfl hin_15 (by decide +kernel) (wn5 80 rfl rfl) rfl) (okx_none (by decide +kernel) _)
theorem t155_42 : e_ok mD155 42 (5, 0, 49, 0, 45) := okj_eq dX13_tellTruth_42 (by decide +kernel)
theorem t155_45 : e_ok mD155 45 (0, 0, 3, 0, 46) := Or.inl (okc_iconst dX13_tellTruth_45 (by decide +kernel))
theorem t155_46 : e_ok mD155 46 (2, 4, 0, 0, 50) := oki_goto dX13_tellTruth_46 (by decide +kernel)
theorem t155_49 : e_ok mD155 49 (0, 0, 0, 0, 50) := Or.inl (okc_iconst dX13_tellTruth_49 (by decide +kernel))
theorem t155_50 : e_ok mD155 50 (11, 2, 136, 2, 53) := And.intro (okCallX.M (okx_virtual (Da := mD136) dX13_tellTruth_50 rfl mwc_136 (wg6 29 rfl rfl) mwn_136 mwv_136 mwi_136 mwd_136)) (fun _ => okx_virtual (Da := mD136) dX13_tellTruth_50 rfl mwc_136 (wg6 29 rfl rfl) mwn_136 mwv_136 mwi_136 mwd_136)
theorem t155_53 : e_ok mD155 53 (5, 0, 58, 0, 56) := okj_eq dX13_tellTruth_53 (by decide +kernel)
theorem t155_56 : e_ok mD155 56 (0, 0, 0, 0, 57) := Or.inl (okc_iconst dX13_tellTruth_56 (by decide +kernel))
theorem t155_57 : e_ok mD155 57 (12, 1, 0, 0, 0) := okr_int dX13_tellTruth_57 rfl
theorem t155_58 : e_ok mD155 58 (1, 1, 0, 0, 59) := okl_aload_n dX13_tellTruth_58 rfl
theorem t155_59 : e_ok mD155 59 (7, 0, 18, 1, 62) := And.intro (okw_get dX13_tellTruth_59 rfl hin_18 (by decide +kernel) (wg5 171 rfl rfl) rfl) (okx_none (by decide +kernel) _)
theorem t155_62 : e_ok mD155 62 (1, 0, 1, 0, 63) := okl_iload_n dX13_tellTruth_62 rfl
theorem t155_63 : e_ok mD155 63 (11, 3, 189, 2, 68) := And.intro (okm_iface (ci := 4) (x := ⟨"java/util/List", "get", "(I)Ljava/lang/Object;"⟩) (Da := mD189) rfl dX13_tellTruth_63 rfl mwc_189 (wg6 11 rfl rfl) mwn_189 (wg6 14 rfl rfl) mwi_189 (wn6 13 rfl rfl) (wn6 12 rfl rfl) (wn6 17 rfl rfl) (wn6 15 rfl rfl) (wn5 100 rfl rfl) ⟨by decide +kernel, by decide +kernel, by decide +kernel⟩) (fun h => h.elim nofun nofun)
theorem t155_68 : e_ok mD155 68 (7, 2, 15, 0, 71) := okw_cast dX13_tellTruth_68 rfl (wg5 72 rfl rfl)
theorem t155_71 : e_ok mD155 71 (7, 0, 15, 2, 74) := And.intro (okw_getN dX13_tellTruth_71 rfl hin_15 (by decide +kernel) (wn5 82 rfl rfl) rfl) (okx_none (by decide +kernel) _)
theorem t155_74 : e_ok mD155 74 (1, 4, 3, 0, 75) := oks_istore_n dX13_tellTruth_74 rfl (by decide +kernel)
theorem t155_75 : e_ok mD155 75 (1, 1, 0, 0, 76) := okl_aload_n dX13_tellTruth_75 rfl
theorem t155_76 : e_ok mD155 76 (7, 0, 18, 1, 79) := And.intro (okw_get dX13_tellTruth_76 rfl hin_18 (by decide +kernel) (wg5 171 rfl rfl) rfl) (okx_none (by decide +kernel) _)
theorem t155_79 : e_ok mD155 79 (1, 0, 1, 0, 80) := okl_iload_n dX13_tellTruth_79 rfl
theorem t155_80 : e_ok mD155 80 (11, 3, 189, 2, 85) := And.intro (okm_iface (ci := 4) (x := ⟨"java/util/List", "get", "(I)Ljava/lang/Object;"⟩) (Da := mD189) rfl dX13_tellTruth_80 rfl mwc_189 (wg6 11 rfl rfl) mwn_189 (wg6 14 rfl rfl) mwi_189 (wn6 13 rfl rfl) (wn6 12 rfl rfl) (wn6 17 rfl rfl) (wn6 15 rfl rfl) (wn5 100 rfl rfl) ⟨by decide +kernel, by decide +kernel, by decide +kernel⟩) (fun h => h.elim nofun nofun)
theorem t155_85 : e_ok mD155 85 (7, 2, 15, 0, 88) := okw_cast dX13_tellTruth_85 rfl (wg5 72 rfl rfl)
theorem t155_88 : e_ok mD155 88 (1, 0, 2, 0, 89) := okl_iload_n dX13_tellTruth_88 rfl
theorem t155_89 : e_ok mD155 89 (9, 0, 15, 2, 92) := okw_putN dX13_tellTruth_89 rfl hin_15 tyX10_ok nmX10 (by decide +kernel) (wn5 82 rfl rfl) rfl rfl (tyX10_ok 2 (by decide +kernel)) (fun V h => fitV_int h)
theorem t155_92 : e_ok mD155 92 (1, 0, 3, 0, 93) := okl_iload_n dX13_tellTruth_92 rfl
theorem t155_93 : e_ok mD155 93 (12, 1, 0, 0, 0) := okr_int dX13_tellTruth_93 rfl
theorem t156_0 : e_ok mD156 0 (1, 1, 0, 0, 1) := okl_aload_n dX13_thrown_0 rfl
theorem t156_1 : e_ok mD156 1 (7, 0, 18, 0, 4) := And.intro (okw_get dX13_thrown_1 rfl hin_18 (by decide +kernel) (wg5 169 rfl rfl) rfl) (okx_none (by decide +kernel) _)
theorem t156_4 : e_ok mD156 4 (12, 1, 0, 0, 0) := okr_int dX13_thrown_4 rfl
theorem t157_0 : e_ok mD157 0 (1, 1, 0, 0, 1) := okl_aload_n dX13_toldOf_0 rfl
theorem t157_1 : e_ok mD157 1 (7, 0, 18, 5, 4) := And.intro (okw_get dX13_toldOf_1 rfl hin_18 (by decide +kernel) (wg5 175 rfl rfl) rfl) (okx_none (by decide +kernel) _)
theorem t157_4 : e_ok mD157 4 (0, 5, 5, 0, 6) := okw_ldcS rfl dX13_toldOf_4
theorem t157_6 : e_ok mD157 6 (1, 0, 1, 0, 7) := okl_iload_n dX13_toldOf_6 rfl
theorem t157_7 : e_ok mD157 7 (11, 2, 175, 2, 10) := And.intro (okCallX.M (okx_virtual (Da := mD175) dX13_toldOf_7 rfl mwc_175 (wg7 70 rfl rfl) mwn_175 mwv_175 mwi_175 mwd_175)) (fun _ => okx_virtual (Da := mD175) dX13_toldOf_7 rfl mwc_175 (wg7 70 rfl rfl) mwn_175 mwv_175 mwi_175 mwd_175)
theorem t157_10 : e_ok mD157 10 (8, 0, 0, 0, 11) := And.intro (oka_i dX13_toldOf_10) (oky_i dX13_toldOf_10)
theorem t157_11 : e_ok mD157 11 (12, 1, 0, 0, 0) := okr_int dX13_toldOf_11 rfl
theorem t158_0 : e_ok mD158 0 (1, 1, 0, 0, 1) := okl_aload_n dX13_tons_0 rfl
theorem t158_1 : e_ok mD158 1 (1, 0, 1, 0, 2) := okl_iload_n dX13_tons_1 rfl
theorem t158_2 : e_ok mD158 2 (0, 0, 112, 0, 4) := Or.inl (okc_bipush dX13_tons_2 (by decide +kernel))
theorem t158_4 : e_ok mD158 4 (6, 0, 19, 0, 7) := okk_eq dX13_tons_4 (by decide +kernel)
theorem t158_7 : e_ok mD158 7 (1, 0, 1, 0, 8) := okl_iload_n dX13_tons_7 rfl
theorem t158_8 : e_ok mD158 8 (0, 0, 115, 0, 10) := Or.inl (okc_bipush dX13_tons_8 (by decide +kernel))
theorem t158_10 : e_ok mD158 10 (6, 0, 19, 0, 13) := okk_eq dX13_tons_10 (by decide +kernel)
theorem t158_13 : e_ok mD158 13 (1, 0, 1, 0, 14) := okl_iload_n dX13_tons_13 rfl
theorem t158_14 : e_ok mD158 14 (0, 0, 100, 0, 16) := Or.inl (okc_bipush dX13_tons_14 (by decide +kernel))
theorem t158_16 : e_ok mD158 16 (6, 1, 23, 0, 19) := okk_ne dX13_tons_16 (by decide +kernel)
theorem t158_19 : e_ok mD158 19 (0, 0, 0, 0, 20) := Or.inl (okc_iconst dX13_tons_19 (by decide +kernel))
theorem t158_20 : e_ok mD158 20 (2, 4, 0, 0, 24) := oki_goto dX13_tons_20 (by decide +kernel)
theorem t158_23 : e_ok mD158 23 (0, 0, 1, 0, 24) := Or.inl (okc_iconst dX13_tons_23 (by decide +kernel))
theorem t158_24 : e_ok mD158 24 (11, 2, 136, 2, 27) := And.intro (okCallX.M (okx_virtual (Da := mD136) dX13_tons_24 rfl mwc_136 (wg6 29 rfl rfl) mwn_136 mwv_136 mwi_136 mwd_136)) (fun _ => okx_virtual (Da := mD136) dX13_tons_24 rfl mwc_136 (wg6 29 rfl rfl) mwn_136 mwv_136 mwi_136 mwd_136)
theorem t158_27 : e_ok mD158 27 (5, 0, 32, 0, 30) := okj_eq dX13_tons_27 (by decide +kernel)
theorem t158_30 : e_ok mD158 30 (0, 0, 0, 0, 31) := Or.inl (okc_iconst dX13_tons_30 (by decide +kernel))
theorem t158_31 : e_ok mD158 31 (12, 1, 0, 0, 0) := okr_int dX13_tons_31 rfl
theorem t158_32 : e_ok mD158 32 (0, 0, 10, 0, 34) := Or.inl (okc_bipush dX13_tons_32 (by decide +kernel))
theorem t158_34 : e_ok mD158 34 (1, 0, 1, 0, 35) := okl_iload_n dX13_tons_34 rfl
theorem t158_35 : e_ok mD158 35 (0, 0, 112, 0, 37) := Or.inl (okc_bipush dX13_tons_35 (by decide +kernel))
theorem t158_37 : e_ok mD158 37 (6, 1, 47, 0, 40) := okk_ne dX13_tons_37 (by decide +kernel)
theorem t158_40 : e_ok mD158 40 (1, 1, 0, 0, 41) := okl_aload_n dX13_tons_40 rfl
theorem t158_41 : e_ok mD158 41 (7, 0, 18, 13, 44) := And.intro (okw_get dX13_tons_41 rfl hin_18 (by decide +kernel) (wg5 183 rfl rfl) rfl) (okx_none (by decide +kernel) _)
theorem t158_44 : e_ok mD158 44 (2, 4, 0, 0, 64) := oki_goto dX13_tons_44 (by decide +kernel)
theorem t158_47 : e_ok mD158 47 (1, 0, 1, 0, 48) := okl_iload_n dX13_tons_47 rfl
theorem t158_48 : e_ok mD158 48 (0, 0, 115, 0, 50) := Or.inl (okc_bipush dX13_tons_48 (by decide +kernel))
theorem t158_50 : e_ok mD158 50 (6, 1, 60, 0, 53) := okk_ne dX13_tons_50 (by decide +kernel)
theorem t158_53 : e_ok mD158 53 (1, 1, 0, 0, 54) := okl_aload_n dX13_tons_53 rfl
theorem t158_54 : e_ok mD158 54 (7, 0, 18, 16, 57) := And.intro (okw_get dX13_tons_54 rfl hin_18 (by decide +kernel) (wg5 186 rfl rfl) rfl) (okx_none (by decide +kernel) _)
theorem t158_57 : e_ok mD158 57 (2, 4, 0, 0, 64) := oki_goto dX13_tons_57 (by decide +kernel)
theorem t158_60 : e_ok mD158 60 (1, 1, 0, 0, 61) := okl_aload_n dX13_tons_60 rfl
theorem t158_61 : e_ok mD158 61 (7, 0, 18, 15, 64) := And.intro (okw_get dX13_tons_61 rfl hin_18 (by decide +kernel) (wg5 185 rfl rfl) rfl) (okx_none (by decide +kernel) _)
theorem t158_64 : e_ok mD158 64 (3, 2, 0, 0, 65) := okb_imul dX13_tons_64
theorem t158_65 : e_ok mD158 65 (12, 1, 0, 0, 0) := okr_int dX13_tons_65 rfl
theorem t159_0 : e_ok mD159 0 (1, 1, 0, 0, 1) := okl_aload_n dX13_water_0 rfl
theorem t159_1 : e_ok mD159 1 (0, 0, 0, 0, 2) := Or.inl (okc_iconst dX13_water_1 (by decide +kernel))
theorem t159_2 : e_ok mD159 2 (9, 0, 18, 0, 5) := okw_put dX13_water_2 rfl hin_18 tyX13_ok nmX13 (by decide +kernel) (wg5 169 rfl rfl) rfl rfl (tyX13_ok 0 (by decide +kernel)) (fun V h => fitV_int h)
theorem t159_5 : e_ok mD159 5 (1, 1, 0, 0, 6) := okl_aload_n dX13_water_5 rfl
theorem t159_6 : e_ok mD159 6 (7, 0, 18, 9, 9) := And.intro (okw_get dX13_water_6 rfl hin_18 (by decide +kernel) (wg5 179 rfl rfl) rfl) (okx_none (by decide +kernel) _)
theorem t159_9 : e_ok mD159 9 (12, 1, 0, 0, 0) := okr_int dX13_water_9 rfl
theorem t160_0 : e_ok mD160 0 (1, 1, 0, 0, 1) := okl_aload_n dX13_week_0 rfl
theorem t160_1 : e_ok mD160 1 (0, 0, 0, 0, 2) := Or.inl (okc_iconst dX13_week_1 (by decide +kernel))
theorem t160_2 : e_ok mD160 2 (9, 0, 18, 0, 5) := okw_put dX13_week_2 rfl hin_18 tyX13_ok nmX13 (by decide +kernel) (wg5 169 rfl rfl) rfl rfl (tyX13_ok 0 (by decide +kernel)) (fun V h => fitV_int h)
theorem t160_5 : e_ok mD160 5 (1, 1, 0, 0, 6) := okl_aload_n dX13_week_5 rfl
theorem t160_6 : e_ok mD160 6 (7, 0, 18, 8, 9) := And.intro (okw_get dX13_week_6 rfl hin_18 (by decide +kernel) (wg5 178 rfl rfl) rfl) (okx_none (by decide +kernel) _)
theorem t160_9 : e_ok mD160 9 (12, 1, 0, 0, 0) := okr_int dX13_week_9 rfl
theorem t161_0 : e_ok mD161 0 (1, 1, 0, 0, 1) := okl_aload_n dX13_wentTo_0 rfl
theorem t161_1 : e_ok mD161 1 (1, 0, 1, 0, 2) := okl_iload_n dX13_wentTo_1 rfl
theorem t161_2 : e_ok mD161 2 (11, 2, 134, 2, 5) := And.intro (okCallX.M (okx_virtual (Da := mD134) dX13_wentTo_2 rfl mwc_134 (wg7 228 rfl rfl) mwn_134 mwv_134 mwi_134 mwd_134)) (fun _ => okx_virtual (Da := mD134) dX13_wentTo_2 rfl mwc_134 (wg7 228 rfl rfl) mwn_134 mwv_134 mwi_134 mwd_134)
theorem t161_5 : e_ok mD161 5 (5, 0, 12, 0, 8) := okj_eq dX13_wentTo_5 (by decide +kernel)
theorem t161_8 : e_ok mD161 8 (0, 0, 0, 0, 9) := Or.inl (okc_iconst dX13_wentTo_8 (by decide +kernel))
theorem t161_9 : e_ok mD161 9 (2, 4, 0, 0, 28) := oki_goto dX13_wentTo_9 (by decide +kernel)
theorem t161_12 : e_ok mD161 12 (1, 1, 0, 0, 13) := okl_aload_n dX13_wentTo_12 rfl
theorem t161_13 : e_ok mD161 13 (7, 0, 18, 1, 16) := And.intro (okw_get dX13_wentTo_13 rfl hin_18 (by decide +kernel) (wg5 171 rfl rfl) rfl) (okx_none (by decide +kernel) _)
theorem t161_16 : e_ok mD161 16 (1, 0, 1, 0, 17) := okl_iload_n dX13_wentTo_16 rfl
theorem t161_17 : e_ok mD161 17 (11, 3, 189, 2, 22) := And.intro (okm_iface (ci := 4) (x := ⟨"java/util/List", "get", "(I)Ljava/lang/Object;"⟩) (Da := mD189) rfl dX13_wentTo_17 rfl mwc_189 (wg6 11 rfl rfl) mwn_189 (wg6 14 rfl rfl) mwi_189 (wn6 13 rfl rfl) (wn6 12 rfl rfl) (wn6 17 rfl rfl) (wn6 15 rfl rfl) (wn5 100 rfl rfl) ⟨by decide +kernel, by decide +kernel, by decide +kernel⟩) (fun h => h.elim nofun nofun)
theorem t161_22 : e_ok mD161 22 (7, 2, 15, 0, 25) := okw_cast dX13_wentTo_22 rfl (wg5 72 rfl rfl)
theorem t161_25 : e_ok mD161 25 (7, 0, 15, 4, 28) := And.intro (okw_getN dX13_wentTo_25 rfl hin_15 (by decide +kernel) (wn5 84 rfl rfl) rfl) (okx_none (by decide +kernel) _)
theorem t161_28 : e_ok mD161 28 (12, 7, 0, 0, 0) := okr_char dX13_wentTo_28 rfl
theorem t162_0 : e_ok mD162 0 (1, 1, 0, 0, 1) := okl_aload_n dX13_worth_0 rfl
theorem t162_1 : e_ok mD162 1 (1, 0, 1, 0, 2) := okl_iload_n dX13_worth_1 rfl
theorem t162_2 : e_ok mD162 2 (11, 0, 130, 1, 5) := And.intro (okCallX.M (okx_static (Da := mD130) dX13_worth_2 rfl mwc_130 (wg6 4 rfl rfl) mws_130 mwi_130 mwd_130)) (fun _ => okx_static (Da := mD130) dX13_worth_2 rfl mwc_130 (wg6 4 rfl rfl) mws_130 mwi_130 mwd_130)
theorem t162_5 : e_ok mD162 5 (5, 1, 12, 0, 8) := okj_ne dX13_worth_5 (by decide +kernel)
theorem t162_8 : e_ok mD162 8 (0, 0, 1, 0, 9) := Or.inl (okc_iconst dX13_worth_8 (by decide +kernel))
theorem t162_9 : e_ok mD162 9 (2, 4, 0, 0, 24) := oki_goto dX13_worth_9 (by decide +kernel)
theorem t162_12 : e_ok mD162 12 (1, 0, 2, 0, 13) := okl_iload_n dX13_worth_12 rfl
theorem t162_13 : e_ok mD162 13 (11, 0, 135, 1, 16) := And.intro (okCallX.M (okx_static (Da := mD135) dX13_worth_13 rfl mwc_135 (wg6 169 rfl rfl) mws_135 mwi_135 mwd_135)) (fun _ => okx_static (Da := mD135) dX13_worth_13 rfl mwc_135 (wg6 169 rfl rfl) mws_135 mwi_135 mwd_135)
theorem t162_16 : e_ok mD162 16 (5, 1, 23, 0, 19) := okj_ne dX13_worth_16 (by decide +kernel)
theorem t162_19 : e_ok mD162 19 (0, 0, 2, 0, 20) := Or.inl (okc_iconst dX13_worth_19 (by decide +kernel))
theorem t162_20 : e_ok mD162 20 (2, 4, 0, 0, 24) := oki_goto dX13_worth_20 (by decide +kernel)
theorem t162_23 : e_ok mD162 23 (0, 0, 0, 0, 24) := Or.inl (okc_iconst dX13_worth_23 (by decide +kernel))
theorem t162_24 : e_ok mD162 24 (11, 2, 136, 2, 27) := And.intro (okCallX.M (okx_virtual (Da := mD136) dX13_worth_24 rfl mwc_136 (wg6 29 rfl rfl) mwn_136 mwv_136 mwi_136 mwd_136)) (fun _ => okx_virtual (Da := mD136) dX13_worth_24 rfl mwc_136 (wg6 29 rfl rfl) mwn_136 mwv_136 mwi_136 mwd_136)
theorem t162_27 : e_ok mD162 27 (5, 0, 34, 0, 30) := okj_eq dX13_worth_27 (by decide +kernel)
theorem t162_30 : e_ok mD162 30 (0, 0, 0, 0, 31) := Or.inl (okc_iconst dX13_worth_30 (by decide +kernel))
theorem t162_31 : e_ok mD162 31 (2, 4, 0, 0, 40) := oki_goto dX13_worth_31 (by decide +kernel)
theorem t162_34 : e_ok mD162 34 (1, 1, 0, 0, 35) := okl_aload_n dX13_worth_34 rfl
theorem t162_35 : e_ok mD162 35 (1, 0, 1, 0, 36) := okl_iload_n dX13_worth_35 rfl
theorem t162_36 : e_ok mD162 36 (1, 0, 2, 0, 37) := okl_iload_n dX13_worth_36 rfl
theorem t162_37 : e_ok mD162 37 (11, 2, 163, 3, 40) := And.intro (okCallX.M (okx_virtual (Da := mD163) dX13_worth_37 rfl mwc_163 (wg6 172 rfl rfl) mwn_163 mwv_163 mwi_163 mwd_163)) (fun _ => okx_virtual (Da := mD163) dX13_worth_37 rfl mwc_163 (wg6 172 rfl rfl) mwn_163 mwv_163 mwi_163 mwd_163)
theorem t162_40 : e_ok mD162 40 (12, 1, 0, 0, 0) := okr_int dX13_worth_40 rfl
theorem t163_0 : e_ok mD163 0 (0, 0, 0, 0, 1) := Or.inl (okc_iconst dX13_worthOf_0 (by decide +kernel))
theorem t163_1 : e_ok mD163 1 (1, 1, 0, 0, 2) := okl_aload_n dX13_worthOf_1 rfl
theorem t163_2 : e_ok mD163 2 (1, 0, 1, 0, 3) := okl_iload_n dX13_worthOf_2 rfl
theorem t163_3 : e_ok mD163 3 (11, 2, 127, 2, 6) := And.intro (okCallX.M (okx_virtual (Da := mD127) dX13_worthOf_3 rfl mwc_127 (wg6 69 rfl rfl) mwn_127 mwv_127 mwi_127 mwd_127)) (fun _ => okx_virtual (Da := mD127) dX13_worthOf_3 rfl mwc_127 (wg6 69 rfl rfl) mwn_127 mwv_127 mwi_127 mwd_127)
theorem t163_6 : e_ok mD163 6 (1, 0, 2, 0, 7) := okl_iload_n dX13_worthOf_6 rfl
theorem t163_7 : e_ok mD163 7 (3, 2, 0, 0, 8) := okb_imul dX13_worthOf_7
theorem t163_8 : e_ok mD163 8 (0, 0, 200, 0, 11) := Or.inl (okc_sipush dX13_worthOf_8 (by decide +kernel))
theorem t163_11 : e_ok mD163 11 (3, 1, 0, 0, 12) := okb_isub dX13_worthOf_11
theorem t163_12 : e_ok mD163 12 (11, 0, 172, 2, 15) := And.intro (okCallX.M (okx_static (Da := mD172) dX13_worthOf_12 rfl mwc_172 (wg6 176 rfl rfl) mws_172 mwi_172 mwd_172)) (fun _ => okx_static (Da := mD172) dX13_worthOf_12 rfl mwc_172 (wg6 176 rfl rfl) mws_172 mwi_172 mwd_172)
theorem t163_15 : e_ok mD163 15 (1, 0, 1, 0, 16) := okl_iload_n dX13_worthOf_15 rfl
theorem t163_16 : e_ok mD163 16 (11, 0, 119, 1, 19) := And.intro (okCallX.M (okx_static (Da := mD119) dX13_worthOf_16 rfl mwc_119 (wg6 177 rfl rfl) mws_119 mwi_119 mwd_119)) (fun _ => okx_static (Da := mD119) dX13_worthOf_16 rfl mwc_119 (wg6 177 rfl rfl) mws_119 mwi_119 mwd_119)
theorem t163_19 : e_ok mD163 19 (3, 1, 0, 0, 20) := okb_isub dX13_worthOf_19
theorem t163_20 : e_ok mD163 20 (12, 1, 0, 0, 0) := okr_int dX13_worthOf_20 rfl
theorem t164_0 : e_ok mD164 0 (1, 1, 0, 0, 1) := okl_aload_n dX13_worthWith_0 rfl
theorem t164_1 : e_ok mD164 1 (1, 0, 1, 0, 2) := okl_iload_n dX13_worthWith_1 rfl
theorem t164_2 : e_ok mD164 2 (11, 0, 135, 1, 5) := And.intro (okCallX.M (okx_static (Da := mD135) dX13_worthWith_2 rfl mwc_135 (wg6 169 rfl rfl) mws_135 mwi_135 mwd_135)) (fun _ => okx_static (Da := mD135) dX13_worthWith_2 rfl mwc_135 (wg6 169 rfl rfl) mws_135 mwi_135 mwd_135)
theorem t164_5 : e_ok mD164 5 (5, 1, 12, 0, 8) := okj_ne dX13_worthWith_5 (by decide +kernel)
theorem t164_8 : e_ok mD164 8 (0, 0, 1, 0, 9) := Or.inl (okc_iconst dX13_worthWith_8 (by decide +kernel))
theorem t164_9 : e_ok mD164 9 (2, 4, 0, 0, 47) := oki_goto dX13_worthWith_9 (by decide +kernel)
theorem t164_12 : e_ok mD164 12 (1, 0, 2, 0, 13) := okl_iload_n dX13_worthWith_12 rfl
theorem t164_13 : e_ok mD164 13 (11, 0, 130, 1, 16) := And.intro (okCallX.M (okx_static (Da := mD130) dX13_worthWith_13 rfl mwc_130 (wg6 4 rfl rfl) mws_130 mwi_130 mwd_130)) (fun _ => okx_static (Da := mD130) dX13_worthWith_13 rfl mwc_130 (wg6 4 rfl rfl) mws_130 mwi_130 mwd_130)
theorem t164_16 : e_ok mD164 16 (5, 1, 23, 0, 19) := okj_ne dX13_worthWith_16 (by decide +kernel)
theorem t164_19 : e_ok mD164 19 (0, 0, 2, 0, 20) := Or.inl (okc_iconst dX13_worthWith_19 (by decide +kernel))
theorem t164_20 : e_ok mD164 20 (2, 4, 0, 0, 47) := oki_goto dX13_worthWith_20 (by decide +kernel)
theorem t164_23 : e_ok mD164 23 (1, 1, 0, 0, 24) := okl_aload_n dX13_worthWith_23 rfl
theorem t164_24 : e_ok mD164 24 (7, 0, 18, 1, 27) := And.intro (okw_get dX13_worthWith_24 rfl hin_18 (by decide +kernel) (wg5 171 rfl rfl) rfl) (okx_none (by decide +kernel) _)
theorem t164_27 : e_ok mD164 27 (1, 0, 2, 0, 28) := okl_iload_n dX13_worthWith_27 rfl
theorem t164_28 : e_ok mD164 28 (11, 3, 189, 2, 33) := And.intro (okm_iface (ci := 4) (x := ⟨"java/util/List", "get", "(I)Ljava/lang/Object;"⟩) (Da := mD189) rfl dX13_worthWith_28 rfl mwc_189 (wg6 11 rfl rfl) mwn_189 (wg6 14 rfl rfl) mwi_189 (wn6 13 rfl rfl) (wn6 12 rfl rfl) (wn6 17 rfl rfl) (wn6 15 rfl rfl) (wn5 100 rfl rfl) ⟨by decide +kernel, by decide +kernel, by decide +kernel⟩) (fun h => h.elim nofun nofun)
theorem t164_33 : e_ok mD164 33 (7, 2, 15, 0, 36) := okw_cast dX13_worthWith_33 rfl (wg5 72 rfl rfl)
theorem t164_36 : e_ok mD164 36 (7, 0, 15, 1, 39) := And.intro (okw_getN dX13_worthWith_36 rfl hin_15 (by decide +kernel) (wn5 80 rfl rfl) rfl) (okx_none (by decide +kernel) _)
theorem t164_39 : e_ok mD164 39 (5, 0, 46, 0, 42) := okj_eq dX13_worthWith_39 (by decide +kernel)
theorem t164_42 : e_ok mD164 42 (0, 0, 3, 0, 43) := Or.inl (okc_iconst dX13_worthWith_42 (by decide +kernel))
theorem t164_43 : e_ok mD164 43 (2, 4, 0, 0, 47) := oki_goto dX13_worthWith_43 (by decide +kernel)
theorem t164_46 : e_ok mD164 46 (0, 0, 0, 0, 47) := Or.inl (okc_iconst dX13_worthWith_46 (by decide +kernel))
theorem t164_47 : e_ok mD164 47 (11, 2, 136, 2, 50) := And.intro (okCallX.M (okx_virtual (Da := mD136) dX13_worthWith_47 rfl mwc_136 (wg6 29 rfl rfl) mwn_136 mwv_136 mwi_136 mwd_136)) (fun _ => okx_virtual (Da := mD136) dX13_worthWith_47 rfl mwc_136 (wg6 29 rfl rfl) mwn_136 mwv_136 mwi_136 mwd_136)
theorem t164_50 : e_ok mD164 50 (5, 0, 55, 0, 53) := okj_eq dX13_worthWith_50 (by decide +kernel)
theorem t164_53 : e_ok mD164 53 (0, 1, 0, 0, 54) := okc_lconst dX13_worthWith_53 (by decide +kernel)
theorem t164_54 : e_ok mD164 54 (12, 2, 0, 0, 0) := okr_long dX13_worthWith_54 rfl
theorem t164_55 : e_ok mD164 55 (0, 0, 60, 0, 57) := Or.inl (okc_bipush dX13_worthWith_55 (by decide +kernel))
theorem t164_57 : e_ok mD164 57 (16, 0, 1, 0, 59) := And.intro (oka_new (by decide) rfl (wg1 72 rfl rfl) dX13_worthWith_57) (by decide)
theorem t164_59 : e_ok mD164 59 (1, 5, 3, 0, 60) := oks_astore_n dX13_worthWith_59 rfl (by decide +kernel)
theorem t164_60 : e_ok mD164 60 (1, 1, 3, 0, 61) := okl_aload_n dX13_worthWith_60 rfl
theorem t164_61 : e_ok mD164 61 (1, 0, 2, 0, 62) := okl_iload_n dX13_worthWith_61 rfl
theorem t164_62 : e_ok mD164 62 (0, 0, 1, 0, 63) := Or.inl (okc_iconst dX13_worthWith_62 (by decide +kernel))
theorem t164_63 : e_ok mD164 63 (10, 1, 0, 0, 64) := oka_stz dX13_worthWith_63
theorem t164_64 : e_ok mD164 64 (0, 1, 0, 0, 65) := okc_lconst dX13_worthWith_64 (by decide +kernel)
theorem t164_65 : e_ok mD164 65 (1, 6, 4, 0, 67) := oks_lstore dX13_worthWith_65 (by decide +kernel)
theorem t164_67 : e_ok mD164 67 (1, 0, 2, 0, 68) := okl_iload_n dX13_worthWith_67 rfl
theorem t164_68 : e_ok mD164 68 (1, 4, 6, 0, 70) := oks_istore dX13_worthWith_68 (by decide +kernel)
theorem t164_70 : e_ok mD164 70 (1, 0, 6, 0, 72) := okl_iload dX13_worthWith_70
theorem t164_72 : e_ok mD164 72 (5, 2, 170, 0, 75) := okj_lt dX13_worthWith_72 (by decide +kernel)
theorem t164_75 : e_ok mD164 75 (1, 1, 3, 0, 76) := okl_aload_n dX13_worthWith_75 rfl
theorem t164_76 : e_ok mD164 76 (1, 0, 6, 0, 78) := okl_iload dX13_worthWith_76
theorem t164_78 : e_ok mD164 78 (8, 1, 0, 0, 79) := And.intro (oka_z dX13_worthWith_78) (oky_none (by decide) _)
theorem t164_79 : e_ok mD164 79 (5, 0, 164, 0, 82) := okj_eq dX13_worthWith_79 (by decide +kernel)
theorem t164_82 : e_ok mD164 82 (1, 1, 0, 0, 83) := okl_aload_n dX13_worthWith_82 rfl
theorem t164_83 : e_ok mD164 83 (7, 0, 18, 1, 86) := And.intro (okw_get dX13_worthWith_83 rfl hin_18 (by decide +kernel) (wg5 171 rfl rfl) rfl) (okx_none (by decide +kernel) _)
theorem t164_86 : e_ok mD164 86 (1, 0, 6, 0, 88) := okl_iload dX13_worthWith_86
theorem t164_88 : e_ok mD164 88 (11, 3, 189, 2, 93) := And.intro (okm_iface (ci := 4) (x := ⟨"java/util/List", "get", "(I)Ljava/lang/Object;"⟩) (Da := mD189) rfl dX13_worthWith_88 rfl mwc_189 (wg6 11 rfl rfl) mwn_189 (wg6 14 rfl rfl) mwi_189 (wn6 13 rfl rfl) (wn6 12 rfl rfl) (wn6 17 rfl rfl) (wn6 15 rfl rfl) (wn5 100 rfl rfl) ⟨by decide +kernel, by decide +kernel, by decide +kernel⟩) (fun h => h.elim nofun nofun)
theorem t164_93 : e_ok mD164 93 (7, 2, 15, 0, 96) := okw_cast dX13_worthWith_93 rfl (wg5 72 rfl rfl)
theorem t164_96 : e_ok mD164 96 (7, 0, 15, 1, 99) := And.intro (okw_getN dX13_worthWith_96 rfl hin_15 (by decide +kernel) (wn5 80 rfl rfl) rfl) (okx_none (by decide +kernel) _)
theorem t164_99 : e_ok mD164 99 (5, 0, 105, 0, 102) := okj_eq dX13_worthWith_99 (by decide +kernel)
theorem t164_102 : e_ok mD164 102 (2, 4, 0, 0, 164) := oki_goto dX13_worthWith_102 (by decide +kernel)
theorem t164_105 : e_ok mD164 105 (1, 2, 4, 0, 107) := okl_lload dX13_worthWith_105
theorem t164_107 : e_ok mD164 107 (1, 1, 0, 0, 108) := okl_aload_n dX13_worthWith_107 rfl
theorem t164_108 : e_ok mD164 108 (1, 0, 6, 0, 110) := okl_iload dX13_worthWith_108
theorem t164_110 : e_ok mD164 110 (1, 0, 1, 0, 111) := okl_iload_n dX13_worthWith_110 rfl
theorem t164_111 : e_ok mD164 111 (11, 2, 163, 3, 114) := And.intro (okCallX.M (okx_virtual (Da := mD163) dX13_worthWith_111 rfl mwc_163 (wg6 172 rfl rfl) mwn_163 mwv_163 mwi_163 mwd_163)) (fun _ => okx_virtual (Da := mD163) dX13_worthWith_111 rfl mwc_163 (wg6 172 rfl rfl) mwn_163 mwv_163 mwi_163 mwd_163)
theorem t164_114 : e_ok mD164 114 (15, 5, 0, 0, 115) := okm_i2l dX13_worthWith_114
theorem t164_115 : e_ok mD164 115 (15, 0, 0, 0, 116) := okm_ladd dX13_worthWith_115
theorem t164_116 : e_ok mD164 116 (1, 6, 4, 0, 118) := oks_lstore dX13_worthWith_116 (by decide +kernel)
theorem t164_118 : e_ok mD164 118 (1, 1, 0, 0, 119) := okl_aload_n dX13_worthWith_118 rfl
theorem t164_119 : e_ok mD164 119 (1, 0, 6, 0, 121) := okl_iload dX13_worthWith_119
theorem t164_121 : e_ok mD164 121 (11, 2, 117, 2, 124) := And.intro (okCallX.M (okx_virtual (Da := mD117) dX13_worthWith_121 rfl mwc_117 (wg6 188 rfl rfl) mwn_117 mwv_117 mwi_117 mwd_117)) (fun _ => okx_virtual (Da := mD117) dX13_worthWith_121 rfl mwc_117 (wg6 188 rfl rfl) mwn_117 mwv_117 mwi_117 mwd_117)
theorem t164_124 : e_ok mD164 124 (11, 3, 193, 1, 129) := And.intro (okm_iface (ci := 4) (x := ⟨"java/util/List", "iterator", "()Ljava/util/Iterator;"⟩) (Da := mD193) rfl dX13_worthWith_124 rfl mwc_193 (wg6 74 rfl rfl) mwn_193 (wg6 77 rfl rfl) mwi_193 (wn6 76 rfl rfl) (wn6 75 rfl rfl) (wn6 80 rfl rfl) (wn6 78 rfl rfl) (wn5 100 rfl rfl) ⟨by decide +kernel, by decide +kernel, by decide +kernel⟩) (fun h => h.elim nofun nofun)
theorem t164_129 : e_ok mD164 129 (1, 5, 7, 0, 131) := oks_astore dX13_worthWith_129 (by decide +kernel)
theorem t164_131 : e_ok mD164 131 (1, 1, 7, 0, 133) := okl_aload dX13_worthWith_131
theorem t164_133 : e_ok mD164 133 (11, 3, 197, 1, 138) := And.intro (okm_iface (ci := 3) (x := ⟨"java/util/Iterator", "hasNext", "()Z"⟩) (Da := mD197) rfl dX13_worthWith_133 rfl mwc_197 (wg6 102 rfl rfl) mwn_197 (wg6 106 rfl rfl) mwi_197 (wn6 104 rfl rfl) (wn6 103 rfl rfl) (wn6 109 rfl rfl) (wn6 107 rfl rfl) (wn6 105 rfl rfl) ⟨by decide +kernel, by decide +kernel, by decide +kernel⟩) (fun h => h.elim nofun nofun)
theorem t164_138 : e_ok mD164 138 (5, 0, 164, 0, 141) := okj_eq dX13_worthWith_138 (by decide +kernel)
theorem t164_141 : e_ok mD164 141 (1, 1, 7, 0, 143) := okl_aload dX13_worthWith_141
theorem t164_143 : e_ok mD164 143 (11, 3, 198, 1, 148) := And.intro (okm_iface (ci := 3) (x := ⟨"java/util/Iterator", "next", "()Ljava/lang/Object;"⟩) (Da := mD198) rfl dX13_worthWith_143 rfl mwc_198 (wg6 112 rfl rfl) mwn_198 (wg6 115 rfl rfl) mwi_198 (wn6 114 rfl rfl) (wn6 113 rfl rfl) (wn6 118 rfl rfl) (wn6 116 rfl rfl) (wn6 105 rfl rfl) ⟨by decide +kernel, by decide +kernel, by decide +kernel⟩) (fun h => h.elim nofun nofun)
theorem t164_148 : e_ok mD164 148 (7, 2, 1, 0, 151) := okw_cast dX13_worthWith_148 rfl (wg6 212 rfl rfl)
theorem t164_151 : e_ok mD164 151 (11, 2, 170, 1, 154) := And.intro (okCallX.M (okx_virtual (Da := mD170) dX13_worthWith_151 rfl mwc_170 (wg6 213 rfl rfl) mwn_170 mwv_170 mwi_170 mwd_170)) (fun _ => okx_virtual (Da := mD170) dX13_worthWith_151 rfl mwc_170 (wg6 213 rfl rfl) mwn_170 mwv_170 mwi_170 mwd_170)
theorem t164_154 : e_ok mD164 154 (1, 4, 8, 0, 156) := oks_istore dX13_worthWith_154 (by decide +kernel)
theorem t164_156 : e_ok mD164 156 (1, 1, 3, 0, 157) := okl_aload_n dX13_worthWith_156 rfl
theorem t164_157 : e_ok mD164 157 (1, 0, 8, 0, 159) := okl_iload dX13_worthWith_157
theorem t164_159 : e_ok mD164 159 (0, 0, 1, 0, 160) := Or.inl (okc_iconst dX13_worthWith_159 (by decide +kernel))
theorem t164_160 : e_ok mD164 160 (10, 1, 0, 0, 161) := oka_stz dX13_worthWith_160
theorem t164_161 : e_ok mD164 161 (2, 4, 0, 0, 131) := oki_goto dX13_worthWith_161 (by decide +kernel)
theorem t164_164 : e_ok mD164 164 (2, 0, 6, 4294967295, 167) := oki_iinc dX13_worthWith_164 (by decide +kernel) (by decide +kernel)
theorem t164_167 : e_ok mD164 167 (2, 4, 0, 0, 70) := oki_goto dX13_worthWith_167 (by decide +kernel)
theorem t164_170 : e_ok mD164 170 (1, 2, 4, 0, 172) := okl_lload dX13_worthWith_170
theorem t164_172 : e_ok mD164 172 (12, 2, 0, 0, 0) := okr_long dX13_worthWith_172 rfl
theorem t165_0 : e_ok mD165 0 (1, 1, 0, 0, 1) := okl_aload_n dX10_init_0 rfl
theorem t165_1 : e_ok mD165 1 (7, 4, 0, 0, 4) := okw_obj dX10_init_1 (wg5 77 rfl rfl) w_obj1 w_obj2
theorem t165_4 : e_ok mD165 4 (1, 1, 0, 0, 5) := okl_aload_n dX10_init_4 rfl
theorem t165_5 : e_ok mD165 5 (0, 0, 4294967295, 0, 6) := Or.inl (okc_iconst dX10_init_5 (by decide +kernel))
theorem t165_6 : e_ok mD165 6 (9, 0, 15, 2, 9) := okw_put dX10_init_6 rfl hin_15 tyX10_ok nmX10 (by decide +kernel) (wg5 81 rfl rfl) rfl rfl (tyX10_ok 2 (by decide +kernel)) (fun V h => fitV_int h)
theorem t165_9 : e_ok mD165 9 (12, 0, 0, 0, 0) := okr_void dX10_init_9 rfl
theorem t166_0 : e_ok mD166 0 (1, 1, 0, 0, 1) := okl_aload_n dX11_init_0 rfl
theorem t166_1 : e_ok mD166 1 (1, 1, 1, 0, 2) := okl_aload_n dX11_init_1 rfl
theorem t166_2 : e_ok mD166 2 (9, 7, 16, 2, 5) := okw_putF dX11_init_2 rfl hin_16 tyX11_ok nmX11 (by decide +kernel) (wg7 13 rfl rfl) rfl rfl rfl rfl (tyX11_ok 2 (by decide +kernel)) (fun V h => fitV_obj h)
theorem t166_5 : e_ok mD166 5 (1, 1, 0, 0, 6) := okl_aload_n dX11_init_5 rfl
theorem t166_6 : e_ok mD166 6 (7, 4, 0, 0, 9) := okw_obj dX11_init_6 (wg6 230 rfl rfl) w_obj1 w_obj2
theorem t166_9 : e_ok mD166 9 (1, 1, 0, 0, 10) := okl_aload_n dX11_init_9 rfl
theorem t166_10 : e_ok mD166 10 (0, 0, 62, 0, 12) := Or.inl (okc_bipush dX11_init_10 (by decide +kernel))
theorem t166_12 : e_ok mD166 12 (0, 0, 62, 0, 14) := Or.inl (okc_bipush dX11_init_12 (by decide +kernel))
theorem t166_14 : e_ok mD166 14 (16, 2, 0, 0, 18) := oka_multi (wg6 231 rfl rfl) (wg1 73 rfl rfl) dX11_init_14
theorem t166_18 : e_ok mD166 18 (9, 7, 16, 0, 21) := okw_putF dX11_init_18 rfl hin_16 tyX11_ok nmX11 (by decide +kernel) (wg7 11 rfl rfl) rfl rfl rfl rfl (tyX11_ok 0 (by decide +kernel)) (fun V h => fitV_arr h)
theorem t166_21 : e_ok mD166 21 (0, 0, 0, 0, 22) := Or.inl (okc_iconst dX11_init_21 (by decide +kernel))
theorem t166_22 : e_ok mD166 22 (1, 4, 3, 0, 23) := oks_istore_n dX11_init_22 rfl (by decide +kernel)
theorem t166_23 : e_ok mD166 23 (1, 0, 3, 0, 24) := okl_iload_n dX11_init_23 rfl
theorem t166_24 : e_ok mD166 24 (0, 0, 60, 0, 26) := Or.inl (okc_bipush dX11_init_24 (by decide +kernel))
theorem t166_26 : e_ok mD166 26 (6, 3, 171, 0, 29) := okk_ge dX11_init_26 (by decide +kernel)
theorem t166_29 : e_ok mD166 29 (1, 1, 1, 0, 30) := okl_aload_n dX11_init_29 rfl
theorem t166_30 : e_ok mD166 30 (7, 0, 18, 1, 33) := And.intro (okw_getN dX11_init_30 rfl hin_18 (by decide +kernel) (wn5 170 rfl rfl) rfl) (okx_none (by decide +kernel) _)
theorem t166_33 : e_ok mD166 33 (1, 0, 3, 0, 34) := okl_iload_n dX11_init_33 rfl
theorem t166_34 : e_ok mD166 34 (11, 3, 189, 2, 39) := And.intro (okm_iface (ci := 4) (x := ⟨"java/util/List", "get", "(I)Ljava/lang/Object;"⟩) (Da := mD189) rfl dX11_init_34 rfl mwc_189 (wg6 233 rfl rfl) mwn_189 (wg6 14 rfl rfl) mwi_189 (wn6 13 rfl rfl) (wn6 12 rfl rfl) (wn6 17 rfl rfl) (wn6 15 rfl rfl) (wn5 100 rfl rfl) ⟨by decide +kernel, by decide +kernel, by decide +kernel⟩) (fun h => h.elim nofun nofun)
theorem t166_39 : e_ok mD166 39 (7, 2, 15, 0, 42) := okw_cast dX11_init_39 rfl (wg6 234 rfl rfl)
theorem t166_42 : e_ok mD166 42 (7, 0, 15, 1, 45) := And.intro (okw_getN dX11_init_42 rfl hin_15 (by decide +kernel) (wn5 79 rfl rfl) rfl) (okx_none (by decide +kernel) _)
theorem t166_45 : e_ok mD166 45 (5, 0, 51, 0, 48) := okj_eq dX11_init_45 (by decide +kernel)
theorem t166_48 : e_ok mD166 48 (2, 4, 0, 0, 165) := oki_goto dX11_init_48 (by decide +kernel)
theorem t166_51 : e_ok mD166 51 (1, 1, 1, 0, 52) := okl_aload_n dX11_init_51 rfl
theorem t166_52 : e_ok mD166 52 (1, 0, 3, 0, 53) := okl_iload_n dX11_init_52 rfl
theorem t166_53 : e_ok mD166 53 (1, 0, 2, 0, 54) := okl_iload_n dX11_init_53 rfl
theorem t166_54 : e_ok mD166 54 (11, 5, 163, 3, 57) := And.intro (okm_virtualN (Da := mD163) dX11_init_54 rfl mwc_163 (wn6 235 rfl rfl) mwn_163 mwv_163 mwi_163 mwd_163) (fun h => h.elim nofun nofun)
theorem t166_57 : e_ok mD166 57 (1, 4, 4, 0, 59) := oks_istore dX11_init_57 (by decide +kernel)
theorem t166_59 : e_ok mD166 59 (1, 0, 4, 0, 61) := okl_iload dX11_init_59
theorem t166_61 : e_ok mD166 61 (5, 5, 78, 0, 64) := okj_le dX11_init_61 (by decide +kernel)
theorem t166_64 : e_ok mD166 64 (1, 1, 0, 0, 65) := okl_aload_n dX11_init_64 rfl
theorem t166_65 : e_ok mD166 65 (7, 0, 16, 0, 68) := And.intro (okw_get dX11_init_65 rfl hin_16 (by decide +kernel) (wg7 11 rfl rfl) rfl) (okx_none (by decide +kernel) _)
theorem t166_68 : e_ok mD166 68 (0, 0, 60, 0, 70) := Or.inl (okc_bipush dX11_init_68 (by decide +kernel))
theorem t166_70 : e_ok mD166 70 (8, 6, 0, 0, 71) := And.intro (oka_q (Or.inl rfl) dX11_init_70) (oky_none (by decide) _)
theorem t166_71 : e_ok mD166 71 (1, 0, 3, 0, 72) := okl_iload_n dX11_init_71 rfl
theorem t166_72 : e_ok mD166 72 (1, 0, 4, 0, 74) := okl_iload dX11_init_72
theorem t166_74 : e_ok mD166 74 (10, 0, 0, 0, 75) := oka_sti dX11_init_74
theorem t166_75 : e_ok mD166 75 (2, 4, 0, 0, 90) := oki_goto dX11_init_75 (by decide +kernel)
theorem t166_78 : e_ok mD166 78 (1, 1, 0, 0, 79) := okl_aload_n dX11_init_78 rfl
theorem t166_79 : e_ok mD166 79 (7, 0, 16, 0, 82) := And.intro (okw_get dX11_init_79 rfl hin_16 (by decide +kernel) (wg7 11 rfl rfl) rfl) (okx_none (by decide +kernel) _)
theorem t166_82 : e_ok mD166 82 (1, 0, 3, 0, 83) := okl_iload_n dX11_init_82 rfl
theorem t166_83 : e_ok mD166 83 (8, 6, 0, 0, 84) := And.intro (oka_q (Or.inl rfl) dX11_init_83) (oky_none (by decide) _)
theorem t166_84 : e_ok mD166 84 (0, 0, 61, 0, 86) := Or.inl (okc_bipush dX11_init_84 (by decide +kernel))
theorem t166_86 : e_ok mD166 86 (1, 0, 4, 0, 88) := okl_iload dX11_init_86
theorem t166_88 : e_ok mD166 88 (4, 9, 0, 0, 89) := oku_ineg dX11_init_88
theorem t166_89 : e_ok mD166 89 (10, 0, 0, 0, 90) := oka_sti dX11_init_89
theorem t166_90 : e_ok mD166 90 (1, 1, 1, 0, 91) := okl_aload_n dX11_init_90 rfl
theorem t166_91 : e_ok mD166 91 (1, 0, 3, 0, 92) := okl_iload_n dX11_init_91 rfl
theorem t166_92 : e_ok mD166 92 (11, 5, 117, 2, 95) := And.intro (okm_virtualN (Da := mD117) dX11_init_92 rfl mwc_117 (wn6 236 rfl rfl) mwn_117 mwv_117 mwi_117 mwd_117) (fun h => h.elim nofun nofun)
theorem t166_95 : e_ok mD166 95 (11, 3, 193, 1, 100) := And.intro (okm_iface (ci := 4) (x := ⟨"java/util/List", "iterator", "()Ljava/util/Iterator;"⟩) (Da := mD193) rfl dX11_init_95 rfl mwc_193 (wg6 238 rfl rfl) mwn_193 (wg6 77 rfl rfl) mwi_193 (wn6 76 rfl rfl) (wn6 75 rfl rfl) (wn6 80 rfl rfl) (wn6 78 rfl rfl) (wn5 100 rfl rfl) ⟨by decide +kernel, by decide +kernel, by decide +kernel⟩) (fun h => h.elim nofun nofun)
theorem t166_100 : e_ok mD166 100 (1, 5, 5, 0, 102) := oks_astore dX11_init_100 (by decide +kernel)
