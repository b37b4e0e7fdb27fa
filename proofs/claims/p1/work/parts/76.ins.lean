/-! every entry of the tables -/
theorem t143_45 : e_ok mD143 45 (1, 0, 5, 0, 47) := okl_iload dX13_pitWorth_45
theorem t143_47 : e_ok mD143 47 (11, 2, 162, 2, 50) := And.intro (okCallX.M (okx_virtual (Da := mD162) dX13_pitWorth_47 rfl mwc_162 (wg7 18 rfl rfl) mwn_162 mwv_162 mwi_162 mwd_162)) (fun _ => okx_virtual (Da := mD162) dX13_pitWorth_47 rfl mwc_162 (wg7 18 rfl rfl) mwn_162 mwv_162 mwi_162 mwd_162)
theorem t143_50 : e_ok mD143 50 (5, 0, 64, 0, 53) := okj_eq dX13_pitWorth_50 (by decide +kernel)
theorem t143_53 : e_ok mD143 53 (1, 1, 0, 0, 54) := okl_aload_n dX13_pitWorth_53 rfl
theorem t143_54 : e_ok mD143 54 (1, 0, 5, 0, 56) := okl_iload dX13_pitWorth_54
theorem t143_56 : e_ok mD143 56 (1, 0, 1, 0, 57) := okl_iload_n dX13_pitWorth_56 rfl
theorem t143_57 : e_ok mD143 57 (11, 2, 158, 3, 60) := And.intro (okCallX.M (okx_virtual (Da := mD158) dX13_pitWorth_57 rfl mwc_158 (wg6 169 rfl rfl) mwn_158 mwv_158 mwi_158 mwd_158)) (fun _ => okx_virtual (Da := mD158) dX13_pitWorth_57 rfl mwc_158 (wg6 169 rfl rfl) mwn_158 mwv_158 mwi_158 mwd_158)
theorem t143_60 : e_ok mD143 60 (15, 5, 0, 0, 61) := okm_i2l dX13_pitWorth_60
theorem t143_61 : e_ok mD143 61 (2, 4, 0, 0, 65) := oki_goto dX13_pitWorth_61 (by decide +kernel)
theorem t143_64 : e_ok mD143 64 (0, 1, 0, 0, 65) := okc_lconst dX13_pitWorth_64 (by decide +kernel)
theorem t143_65 : e_ok mD143 65 (15, 0, 0, 0, 66) := okm_ladd dX13_pitWorth_65
theorem t143_66 : e_ok mD143 66 (1, 6, 3, 0, 67) := oks_lstore_n dX13_pitWorth_66 rfl (by decide +kernel)
theorem t143_67 : e_ok mD143 67 (2, 0, 5, 1, 70) := oki_iinc dX13_pitWorth_67 (by decide +kernel) (by decide +kernel)
theorem t143_70 : e_ok mD143 70 (2, 4, 0, 0, 36) := oki_goto dX13_pitWorth_70 (by decide +kernel)
theorem t143_73 : e_ok mD143 73 (1, 2, 3, 0, 74) := okl_lload_n dX13_pitWorth_73 rfl
theorem t143_74 : e_ok mD143 74 (12, 2, 0, 0, 0) := okr_long dX13_pitWorth_74 rfl
theorem t144_0 : e_ok mD144 0 (1, 1, 0, 0, 1) := okl_aload_n dX13_recovery_0 rfl
theorem t144_1 : e_ok mD144 1 (1, 1, 0, 0, 2) := okl_aload_n dX13_recovery_1 rfl
theorem t144_2 : e_ok mD144 2 (7, 0, 18, 7, 5) := And.intro (okw_get dX13_recovery_2 rfl hin_18 (by decide +kernel) (wg5 174 rfl rfl) rfl) (okx_none (by decide +kernel) _)
theorem t144_5 : e_ok mD144 5 (5, 0, 12, 0, 8) := okj_eq dX13_recovery_5 (by decide +kernel)
theorem t144_8 : e_ok mD144 8 (0, 0, 0, 0, 9) := Or.inl (okc_iconst dX13_recovery_8 (by decide +kernel))
theorem t144_9 : e_ok mD144 9 (2, 4, 0, 0, 13) := oki_goto dX13_recovery_9 (by decide +kernel)
theorem t144_12 : e_ok mD144 12 (0, 0, 1, 0, 13) := Or.inl (okc_iconst dX13_recovery_12 (by decide +kernel))
theorem t144_13 : e_ok mD144 13 (11, 2, 131, 2, 16) := And.intro (okCallX.M (okx_virtual (Da := mD131) dX13_recovery_13 rfl mwc_131 (wg6 26 rfl rfl) mwn_131 mwv_131 mwi_131 mwd_131)) (fun _ => okx_virtual (Da := mD131) dX13_recovery_13 rfl mwc_131 (wg6 26 rfl rfl) mwn_131 mwv_131 mwi_131 mwd_131)
theorem t144_16 : e_ok mD144 16 (5, 0, 23, 0, 19) := okj_eq dX13_recovery_16 (by decide +kernel)
theorem t144_19 : e_ok mD144 19 (0, 0, 0, 0, 20) := Or.inl (okc_iconst dX13_recovery_19 (by decide +kernel))
theorem t144_20 : e_ok mD144 20 (2, 4, 0, 0, 27) := oki_goto dX13_recovery_20 (by decide +kernel)
theorem t144_23 : e_ok mD144 23 (1, 1, 0, 0, 24) := okl_aload_n dX13_recovery_23 rfl
theorem t144_24 : e_ok mD144 24 (7, 0, 18, 10, 27) := And.intro (okw_get dX13_recovery_24 rfl hin_18 (by decide +kernel) (wg5 177 rfl rfl) rfl) (okx_none (by decide +kernel) _)
theorem t144_27 : e_ok mD144 27 (12, 1, 0, 0, 0) := okr_int dX13_recovery_27 rfl
theorem t145_0 : e_ok mD145 0 (1, 1, 0, 0, 1) := okl_aload_n dX13_rock_0 rfl
theorem t145_1 : e_ok mD145 1 (1, 0, 1, 0, 2) := okl_iload_n dX13_rock_1 rfl
theorem t145_2 : e_ok mD145 2 (11, 0, 125, 1, 5) := And.intro (okCallX.M (okx_static (Da := mD125) dX13_rock_2 rfl mwc_125 (wg6 1 rfl rfl) mws_125 mwi_125 mwd_125)) (fun _ => okx_static (Da := mD125) dX13_rock_2 rfl mwc_125 (wg6 1 rfl rfl) mws_125 mwi_125 mwd_125)
theorem t145_5 : e_ok mD145 5 (5, 1, 12, 0, 8) := okj_ne dX13_rock_5 (by decide +kernel)
theorem t145_8 : e_ok mD145 8 (0, 0, 1, 0, 9) := Or.inl (okc_iconst dX13_rock_8 (by decide +kernel))
theorem t145_9 : e_ok mD145 9 (2, 4, 0, 0, 52) := oki_goto dX13_rock_9 (by decide +kernel)
theorem t145_12 : e_ok mD145 12 (1, 0, 2, 0, 13) := okl_iload_n dX13_rock_12 rfl
theorem t145_13 : e_ok mD145 13 (0, 0, 115, 0, 15) := Or.inl (okc_bipush dX13_rock_13 (by decide +kernel))
theorem t145_15 : e_ok mD145 15 (6, 0, 28, 0, 18) := okk_eq dX13_rock_15 (by decide +kernel)
theorem t145_18 : e_ok mD145 18 (1, 0, 2, 0, 19) := okl_iload_n dX13_rock_18 rfl
theorem t145_19 : e_ok mD145 19 (0, 0, 104, 0, 21) := Or.inl (okc_bipush dX13_rock_19 (by decide +kernel))
theorem t145_21 : e_ok mD145 21 (6, 0, 28, 0, 24) := okk_eq dX13_rock_21 (by decide +kernel)
theorem t145_24 : e_ok mD145 24 (0, 0, 2, 0, 25) := Or.inl (okc_iconst dX13_rock_24 (by decide +kernel))
theorem t145_25 : e_ok mD145 25 (2, 4, 0, 0, 52) := oki_goto dX13_rock_25 (by decide +kernel)
theorem t145_28 : e_ok mD145 28 (1, 1, 0, 0, 29) := okl_aload_n dX13_rock_28 rfl
theorem t145_29 : e_ok mD145 29 (7, 0, 18, 1, 32) := And.intro (okw_get dX13_rock_29 rfl hin_18 (by decide +kernel) (wg5 168 rfl rfl) rfl) (okx_none (by decide +kernel) _)
theorem t145_32 : e_ok mD145 32 (1, 0, 1, 0, 33) := okl_iload_n dX13_rock_32 rfl
theorem t145_33 : e_ok mD145 33 (11, 3, 184, 2, 38) := And.intro (okm_iface (ci := 4) (x := ⟨"java/util/List", "get", "(I)Ljava/lang/Object;"⟩) (Da := mD184) rfl dX13_rock_33 rfl mwc_184 (wg6 8 rfl rfl) mwn_184 (wg6 11 rfl rfl) mwi_184 (wn6 10 rfl rfl) (wn6 9 rfl rfl) (wn6 14 rfl rfl) (wn6 12 rfl rfl) (wn5 97 rfl rfl) ⟨by decide +kernel, by decide +kernel, by decide +kernel⟩) (fun h => h.elim nofun nofun)
theorem t145_38 : e_ok mD145 38 (7, 2, 15, 0, 41) := okw_cast dX13_rock_38 rfl (wg5 69 rfl rfl)
theorem t145_41 : e_ok mD145 41 (7, 0, 15, 1, 44) := And.intro (okw_getN dX13_rock_41 rfl hin_15 (by decide +kernel) (wn5 77 rfl rfl) rfl) (okx_none (by decide +kernel) _)
theorem t145_44 : e_ok mD145 44 (5, 0, 51, 0, 47) := okj_eq dX13_rock_44 (by decide +kernel)
theorem t145_47 : e_ok mD145 47 (0, 0, 3, 0, 48) := Or.inl (okc_iconst dX13_rock_47 (by decide +kernel))
theorem t145_48 : e_ok mD145 48 (2, 4, 0, 0, 52) := oki_goto dX13_rock_48 (by decide +kernel)
theorem t145_51 : e_ok mD145 51 (0, 0, 0, 0, 52) := Or.inl (okc_iconst dX13_rock_51 (by decide +kernel))
theorem t145_52 : e_ok mD145 52 (11, 2, 131, 2, 55) := And.intro (okCallX.M (okx_virtual (Da := mD131) dX13_rock_52 rfl mwc_131 (wg6 26 rfl rfl) mwn_131 mwv_131 mwi_131 mwd_131)) (fun _ => okx_virtual (Da := mD131) dX13_rock_52 rfl mwc_131 (wg6 26 rfl rfl) mwn_131 mwv_131 mwi_131 mwd_131)
theorem t145_55 : e_ok mD145 55 (5, 0, 60, 0, 58) := okj_eq dX13_rock_55 (by decide +kernel)
theorem t145_58 : e_ok mD145 58 (0, 0, 0, 0, 59) := Or.inl (okc_iconst dX13_rock_58 (by decide +kernel))
theorem t145_59 : e_ok mD145 59 (12, 7, 0, 0, 0) := okr_char dX13_rock_59 rfl
theorem t145_60 : e_ok mD145 60 (1, 1, 0, 0, 61) := okl_aload_n dX13_rock_60 rfl
theorem t145_61 : e_ok mD145 61 (7, 0, 18, 1, 64) := And.intro (okw_get dX13_rock_61 rfl hin_18 (by decide +kernel) (wg5 168 rfl rfl) rfl) (okx_none (by decide +kernel) _)
theorem t145_64 : e_ok mD145 64 (1, 0, 1, 0, 65) := okl_iload_n dX13_rock_64 rfl
theorem t145_65 : e_ok mD145 65 (11, 3, 184, 2, 70) := And.intro (okm_iface (ci := 4) (x := ⟨"java/util/List", "get", "(I)Ljava/lang/Object;"⟩) (Da := mD184) rfl dX13_rock_65 rfl mwc_184 (wg6 8 rfl rfl) mwn_184 (wg6 11 rfl rfl) mwi_184 (wn6 10 rfl rfl) (wn6 9 rfl rfl) (wn6 14 rfl rfl) (wn6 12 rfl rfl) (wn5 97 rfl rfl) ⟨by decide +kernel, by decide +kernel, by decide +kernel⟩) (fun h => h.elim nofun nofun)
theorem t145_70 : e_ok mD145 70 (7, 2, 15, 0, 73) := okw_cast dX13_rock_70 rfl (wg5 69 rfl rfl)
theorem t145_73 : e_ok mD145 73 (7, 0, 15, 0, 76) := And.intro (okw_getN dX13_rock_73 rfl hin_15 (by decide +kernel) (wn5 75 rfl rfl) rfl) (okx_none (by decide +kernel) _)
theorem t145_76 : e_ok mD145 76 (5, 0, 84, 0, 79) := okj_eq dX13_rock_76 (by decide +kernel)
theorem t145_79 : e_ok mD145 79 (0, 0, 104, 0, 81) := Or.inl (okc_bipush dX13_rock_79 (by decide +kernel))
theorem t145_81 : e_ok mD145 81 (2, 4, 0, 0, 86) := oki_goto dX13_rock_81 (by decide +kernel)
theorem t145_84 : e_ok mD145 84 (0, 0, 115, 0, 86) := Or.inl (okc_bipush dX13_rock_84 (by decide +kernel))
theorem t145_86 : e_ok mD145 86 (1, 4, 3, 0, 87) := oks_istore_n dX13_rock_86 rfl (by decide +kernel)
theorem t145_87 : e_ok mD145 87 (1, 1, 0, 0, 88) := okl_aload_n dX13_rock_87 rfl
theorem t145_88 : e_ok mD145 88 (7, 0, 18, 1, 91) := And.intro (okw_get dX13_rock_88 rfl hin_18 (by decide +kernel) (wg5 168 rfl rfl) rfl) (okx_none (by decide +kernel) _)
theorem t145_91 : e_ok mD145 91 (1, 0, 1, 0, 92) := okl_iload_n dX13_rock_91 rfl
theorem t145_92 : e_ok mD145 92 (11, 3, 184, 2, 97) := And.intro (okm_iface (ci := 4) (x := ⟨"java/util/List", "get", "(I)Ljava/lang/Object;"⟩) (Da := mD184) rfl dX13_rock_92 rfl mwc_184 (wg6 8 rfl rfl) mwn_184 (wg6 11 rfl rfl) mwi_184 (wn6 10 rfl rfl) (wn6 9 rfl rfl) (wn6 14 rfl rfl) (wn6 12 rfl rfl) (wn5 97 rfl rfl) ⟨by decide +kernel, by decide +kernel, by decide +kernel⟩) (fun h => h.elim nofun nofun)
theorem t145_97 : e_ok mD145 97 (7, 2, 15, 0, 100) := okw_cast dX13_rock_97 rfl (wg5 69 rfl rfl)
theorem t145_100 : e_ok mD145 100 (1, 0, 2, 0, 101) := okl_iload_n dX13_rock_100 rfl
theorem t145_101 : e_ok mD145 101 (0, 0, 104, 0, 103) := Or.inl (okc_bipush dX13_rock_101 (by decide +kernel))
theorem t145_103 : e_ok mD145 103 (6, 1, 110, 0, 106) := okk_ne dX13_rock_103 (by decide +kernel)
theorem t145_106 : e_ok mD145 106 (0, 0, 1, 0, 107) := Or.inl (okc_iconst dX13_rock_106 (by decide +kernel))
theorem t145_107 : e_ok mD145 107 (2, 4, 0, 0, 111) := oki_goto dX13_rock_107 (by decide +kernel)
theorem t145_110 : e_ok mD145 110 (0, 0, 0, 0, 111) := Or.inl (okc_iconst dX13_rock_110 (by decide +kernel))
theorem t145_111 : e_ok mD145 111 (9, 1, 15, 0, 114) := okw_putN dX13_rock_111 rfl hin_15 tyX10_ok nmX10 (by decide +kernel) (wn5 75 rfl rfl) rfl rfl (tyX10_ok 0 (by decide +kernel)) (fun V h => fitV_bool h)
theorem t145_114 : e_ok mD145 114 (1, 0, 3, 0, 115) := okl_iload_n dX13_rock_114 rfl
theorem t145_115 : e_ok mD145 115 (12, 7, 0, 0, 0) := okr_char dX13_rock_115 rfl
theorem t146_0 : e_ok mD146 0 (1, 1, 0, 0, 1) := okl_aload_n dX13_sample_0 rfl
theorem t146_1 : e_ok mD146 1 (1, 0, 1, 0, 2) := okl_iload_n dX13_sample_1 rfl
theorem t146_2 : e_ok mD146 2 (11, 0, 125, 1, 5) := And.intro (okCallX.M (okx_static (Da := mD125) dX13_sample_2 rfl mwc_125 (wg6 1 rfl rfl) mws_125 mwi_125 mwd_125)) (fun _ => okx_static (Da := mD125) dX13_sample_2 rfl mwc_125 (wg6 1 rfl rfl) mws_125 mwi_125 mwd_125)
theorem t146_5 : e_ok mD146 5 (5, 1, 12, 0, 8) := okj_ne dX13_sample_5 (by decide +kernel)
theorem t146_8 : e_ok mD146 8 (0, 0, 1, 0, 9) := Or.inl (okc_iconst dX13_sample_8 (by decide +kernel))
theorem t146_9 : e_ok mD146 9 (2, 4, 0, 0, 45) := oki_goto dX13_sample_9 (by decide +kernel)
theorem t146_12 : e_ok mD146 12 (1, 0, 2, 0, 13) := okl_iload_n dX13_sample_12 rfl
theorem t146_13 : e_ok mD146 13 (0, 0, 0, 0, 14) := Or.inl (okc_iconst dX13_sample_13 (by decide +kernel))
theorem t146_14 : e_ok mD146 14 (0, 0, 99, 0, 16) := Or.inl (okc_bipush dX13_sample_14 (by decide +kernel))
theorem t146_16 : e_ok mD146 16 (11, 0, 124, 3, 19) := And.intro (okCallX.M (okx_static (Da := mD124) dX13_sample_16 rfl mwc_124 (wg6 4 rfl rfl) mws_124 mwi_124 mwd_124)) (fun _ => okx_static (Da := mD124) dX13_sample_16 rfl mwc_124 (wg6 4 rfl rfl) mws_124 mwi_124 mwd_124)
theorem t146_19 : e_ok mD146 19 (5, 1, 26, 0, 22) := okj_ne dX13_sample_19 (by decide +kernel)
theorem t146_22 : e_ok mD146 22 (0, 0, 2, 0, 23) := Or.inl (okc_iconst dX13_sample_22 (by decide +kernel))
theorem t146_23 : e_ok mD146 23 (2, 4, 0, 0, 45) := oki_goto dX13_sample_23 (by decide +kernel)
theorem t146_26 : e_ok mD146 26 (1, 1, 0, 0, 27) := okl_aload_n dX13_sample_26 rfl
theorem t146_27 : e_ok mD146 27 (7, 0, 18, 2, 30) := And.intro (okw_get dX13_sample_27 rfl hin_18 (by decide +kernel) (wg5 169 rfl rfl) rfl) (okx_none (by decide +kernel) _)
theorem t146_30 : e_ok mD146 30 (11, 3, 189, 1, 35) := And.intro (okm_iface (ci := 4) (x := ⟨"java/util/List", "size", "()I"⟩) (Da := mD189) rfl dX13_sample_30 rfl mwc_189 (wg6 35 rfl rfl) mwn_189 (wg6 38 rfl rfl) mwi_189 (wn6 37 rfl rfl) (wn6 36 rfl rfl) (wn6 41 rfl rfl) (wn6 39 rfl rfl) (wn5 97 rfl rfl) ⟨by decide +kernel, by decide +kernel, by decide +kernel⟩) (fun h => h.elim nofun nofun)
theorem t146_35 : e_ok mD146 35 (0, 0, 40, 0, 37) := Or.inl (okc_bipush dX13_sample_35 (by decide +kernel))
theorem t146_37 : e_ok mD146 37 (6, 1, 44, 0, 40) := okk_ne dX13_sample_37 (by decide +kernel)
theorem t146_40 : e_ok mD146 40 (0, 0, 3, 0, 41) := Or.inl (okc_iconst dX13_sample_40 (by decide +kernel))
theorem t146_41 : e_ok mD146 41 (2, 4, 0, 0, 45) := oki_goto dX13_sample_41 (by decide +kernel)
theorem t146_44 : e_ok mD146 44 (0, 0, 0, 0, 45) := Or.inl (okc_iconst dX13_sample_44 (by decide +kernel))
theorem t146_45 : e_ok mD146 45 (11, 2, 131, 2, 48) := And.intro (okCallX.M (okx_virtual (Da := mD131) dX13_sample_45 rfl mwc_131 (wg6 26 rfl rfl) mwn_131 mwv_131 mwi_131 mwd_131)) (fun _ => okx_virtual (Da := mD131) dX13_sample_45 rfl mwc_131 (wg6 26 rfl rfl) mwn_131 mwv_131 mwi_131 mwd_131)
theorem t146_48 : e_ok mD146 48 (5, 0, 53, 0, 51) := okj_eq dX13_sample_48 (by decide +kernel)
theorem t146_51 : e_ok mD146 51 (0, 0, 0, 0, 52) := Or.inl (okc_iconst dX13_sample_51 (by decide +kernel))
theorem t146_52 : e_ok mD146 52 (12, 1, 0, 0, 0) := okr_int dX13_sample_52 rfl
theorem t146_53 : e_ok mD146 53 (1, 1, 0, 0, 54) := okl_aload_n dX13_sample_53 rfl
theorem t146_54 : e_ok mD146 54 (7, 0, 18, 2, 57) := And.intro (okw_get dX13_sample_54 rfl hin_18 (by decide +kernel) (wg5 169 rfl rfl) rfl) (okx_none (by decide +kernel) _)
theorem t146_57 : e_ok mD146 57 (7, 1, 17, 2, 60) := And.intro (fun X ρ => okw_new dX13_sample_57 rfl hin_17 tyX12_ok (wg6 43 rfl rfl) (wg6 44 rfl rfl) (wg1 31 rfl rfl) rfl) (by decide)
theorem t146_60 : e_ok mD146 60 (2, 1, 0, 0, 61) := oki_dup dX13_sample_60
theorem t146_61 : e_ok mD146 61 (1, 0, 1, 0, 62) := okl_iload_n dX13_sample_61 rfl
theorem t146_62 : e_ok mD146 62 (1, 0, 2, 0, 63) := okl_iload_n dX13_sample_62 rfl
theorem t146_63 : e_ok mD146 63 (11, 1, 164, 3, 66) := And.intro (okm_init (Da := mD164) dX13_sample_63 rfl rfl mwc_164 (wg6 45 rfl rfl) mwn_164 mwi_164 rfl mwd_164) (fun h => h.elim nofun nofun)
theorem t146_66 : e_ok mD146 66 (11, 3, 180, 2, 71) := And.intro (okm_iface (ci := 4) (x := ⟨"java/util/List", "add", "(Ljava/lang/Object;)Z"⟩) (Da := mD180) rfl dX13_sample_66 rfl mwc_180 (wg5 94 rfl rfl) mwn_180 (wg5 98 rfl rfl) mwi_180 (wn5 96 rfl rfl) (wn5 95 rfl rfl) (wn5 101 rfl rfl) (wn5 99 rfl rfl) (wn5 97 rfl rfl) ⟨by decide +kernel, by decide +kernel, by decide +kernel⟩) (fun h => h.elim nofun nofun)
theorem t146_71 : e_ok mD146 71 (2, 2, 0, 0, 72) := oki_pop dX13_sample_71
theorem t146_72 : e_ok mD146 72 (1, 1, 0, 0, 73) := okl_aload_n dX13_sample_72 rfl
theorem t146_73 : e_ok mD146 73 (7, 0, 18, 2, 76) := And.intro (okw_get dX13_sample_73 rfl hin_18 (by decide +kernel) (wg5 169 rfl rfl) rfl) (okx_none (by decide +kernel) _)
theorem t146_76 : e_ok mD146 76 (11, 3, 189, 1, 81) := And.intro (okm_iface (ci := 4) (x := ⟨"java/util/List", "size", "()I"⟩) (Da := mD189) rfl dX13_sample_76 rfl mwc_189 (wg6 35 rfl rfl) mwn_189 (wg6 38 rfl rfl) mwi_189 (wn6 37 rfl rfl) (wn6 36 rfl rfl) (wn6 41 rfl rfl) (wn6 39 rfl rfl) (wn5 97 rfl rfl) ⟨by decide +kernel, by decide +kernel, by decide +kernel⟩) (fun h => h.elim nofun nofun)
theorem t146_81 : e_ok mD146 81 (12, 1, 0, 0, 0) := okr_int dX13_sample_81 rfl
theorem t147_0 : e_ok mD147 0 (0, 5, 5, 0, 2) := okw_ldcS rfl dX13_set_0
theorem t147_2 : e_ok mD147 2 (1, 0, 1, 0, 3) := okl_iload_n dX13_set_2 rfl
theorem t147_3 : e_ok mD147 3 (11, 2, 170, 2, 6) := And.intro (okCallX.M (okx_virtual (Da := mD170) dX13_set_3 rfl mwc_170 (wg7 67 rfl rfl) mwn_170 mwv_170 mwi_170 mwd_170)) (fun _ => okx_virtual (Da := mD170) dX13_set_3 rfl mwc_170 (wg7 67 rfl rfl) mwn_170 mwv_170 mwi_170 mwd_170)
theorem t147_6 : e_ok mD147 6 (1, 4, 3, 0, 7) := oks_istore_n dX13_set_6 rfl (by decide +kernel)
theorem t147_7 : e_ok mD147 7 (1, 1, 0, 0, 8) := okl_aload_n dX13_set_7 rfl
theorem t147_8 : e_ok mD147 8 (1, 0, 3, 0, 9) := okl_iload_n dX13_set_8 rfl
theorem t147_9 : e_ok mD147 9 (5, 2, 25, 0, 12) := okj_lt dX13_set_9 (by decide +kernel)
theorem t147_12 : e_ok mD147 12 (1, 0, 2, 0, 13) := okl_iload_n dX13_set_12 rfl
theorem t147_13 : e_ok mD147 13 (0, 0, 0, 0, 14) := Or.inl (okc_iconst dX13_set_13 (by decide +kernel))
theorem t147_14 : e_ok mD147 14 (0, 5, 2, 0, 17) := okw_getstatic (C := "PitForgeModel") (n := "MOST") (ds := "[I") dX13_set_14 (by decide +kernel) (wg7 149 rfl rfl)
theorem t147_17 : e_ok mD147 17 (1, 0, 3, 0, 18) := okl_iload_n dX13_set_17 rfl
theorem t147_18 : e_ok mD147 18 (8, 0, 0, 0, 19) := And.intro (oka_i dX13_set_18) (oky_i dX13_set_18)
theorem t147_19 : e_ok mD147 19 (11, 0, 124, 3, 22) := And.intro (okCallX.M (okx_static (Da := mD124) dX13_set_19 rfl mwc_124 (wg6 4 rfl rfl) mws_124 mwi_124 mwd_124)) (fun _ => okx_static (Da := mD124) dX13_set_19 rfl mwc_124 (wg6 4 rfl rfl) mws_124 mwi_124 mwd_124)
theorem t147_22 : e_ok mD147 22 (5, 1, 29, 0, 25) := okj_ne dX13_set_22 (by decide +kernel)
theorem t147_25 : e_ok mD147 25 (0, 0, 1, 0, 26) := Or.inl (okc_iconst dX13_set_25 (by decide +kernel))
theorem t147_26 : e_ok mD147 26 (2, 4, 0, 0, 30) := oki_goto dX13_set_26 (by decide +kernel)
theorem t147_29 : e_ok mD147 29 (0, 0, 0, 0, 30) := Or.inl (okc_iconst dX13_set_29 (by decide +kernel))
theorem t147_30 : e_ok mD147 30 (11, 2, 131, 2, 33) := And.intro (okCallX.M (okx_virtual (Da := mD131) dX13_set_30 rfl mwc_131 (wg6 26 rfl rfl) mwn_131 mwv_131 mwi_131 mwd_131)) (fun _ => okx_virtual (Da := mD131) dX13_set_30 rfl mwc_131 (wg6 26 rfl rfl) mwn_131 mwv_131 mwi_131 mwd_131)
theorem t147_33 : e_ok mD147 33 (5, 0, 38, 0, 36) := okj_eq dX13_set_33 (by decide +kernel)
theorem t147_36 : e_ok mD147 36 (0, 0, 0, 0, 37) := Or.inl (okc_iconst dX13_set_36 (by decide +kernel))
theorem t147_37 : e_ok mD147 37 (12, 1, 0, 0, 0) := okr_int dX13_set_37 rfl
theorem t147_38 : e_ok mD147 38 (1, 1, 0, 0, 39) := okl_aload_n dX13_set_38 rfl
theorem t147_39 : e_ok mD147 39 (7, 0, 18, 5, 42) := And.intro (okw_get dX13_set_39 rfl hin_18 (by decide +kernel) (wg5 172 rfl rfl) rfl) (okx_none (by decide +kernel) _)
theorem t147_42 : e_ok mD147 42 (1, 0, 3, 0, 43) := okl_iload_n dX13_set_42 rfl
theorem t147_43 : e_ok mD147 43 (8, 0, 0, 0, 44) := And.intro (oka_i dX13_set_43) (oky_i dX13_set_43)
theorem t147_44 : e_ok mD147 44 (1, 4, 4, 0, 46) := oks_istore dX13_set_44 (by decide +kernel)
theorem t147_46 : e_ok mD147 46 (1, 1, 0, 0, 47) := okl_aload_n dX13_set_46 rfl
theorem t147_47 : e_ok mD147 47 (7, 0, 18, 5, 50) := And.intro (okw_get dX13_set_47 rfl hin_18 (by decide +kernel) (wg5 172 rfl rfl) rfl) (okx_none (by decide +kernel) _)
theorem t147_50 : e_ok mD147 50 (1, 0, 3, 0, 51) := okl_iload_n dX13_set_50 rfl
theorem t147_51 : e_ok mD147 51 (1, 0, 2, 0, 52) := okl_iload_n dX13_set_51 rfl
theorem t147_52 : e_ok mD147 52 (10, 0, 0, 0, 53) := oka_sti dX13_set_52
theorem t147_53 : e_ok mD147 53 (1, 0, 4, 0, 55) := okl_iload dX13_set_53
theorem t147_55 : e_ok mD147 55 (12, 1, 0, 0, 0) := okr_int dX13_set_55 rfl
theorem t148_0 : e_ok mD148 0 (1, 1, 0, 0, 1) := okl_aload_n dX13_stock_0 rfl
theorem t148_1 : e_ok mD148 1 (0, 0, 0, 0, 2) := Or.inl (okc_iconst dX13_stock_1 (by decide +kernel))
theorem t148_2 : e_ok mD148 2 (9, 0, 18, 0, 5) := okw_put dX13_stock_2 rfl hin_18 tyX13_ok nmX13 (by decide +kernel) (wg5 166 rfl rfl) rfl rfl (tyX13_ok 0 (by decide +kernel)) (fun V h => fitV_int h)
theorem t148_5 : e_ok mD148 5 (1, 1, 0, 0, 6) := okl_aload_n dX13_stock_5 rfl
theorem t148_6 : e_ok mD148 6 (7, 0, 18, 16, 9) := And.intro (okw_get dX13_stock_6 rfl hin_18 (by decide +kernel) (wg5 183 rfl rfl) rfl) (okx_none (by decide +kernel) _)
theorem t148_9 : e_ok mD148 9 (12, 1, 0, 0, 0) := okr_int dX13_stock_9 rfl
theorem t149_0 : e_ok mD149 0 (1, 1, 0, 0, 1) := okl_aload_n dX13_stockGrades_0 rfl
theorem t149_1 : e_ok mD149 1 (0, 0, 0, 0, 2) := Or.inl (okc_iconst dX13_stockGrades_1 (by decide +kernel))
theorem t149_2 : e_ok mD149 2 (9, 0, 18, 0, 5) := okw_put dX13_stockGrades_2 rfl hin_18 tyX13_ok nmX13 (by decide +kernel) (wg5 166 rfl rfl) rfl rfl (tyX13_ok 0 (by decide +kernel)) (fun V h => fitV_int h)
theorem t149_5 : e_ok mD149 5 (1, 1, 0, 0, 6) := okl_aload_n dX13_stockGrades_5 rfl
theorem t149_6 : e_ok mD149 6 (7, 0, 18, 17, 9) := And.intro (okw_get dX13_stockGrades_6 rfl hin_18 (by decide +kernel) (wg5 184 rfl rfl) rfl) (okx_none (by decide +kernel) _)
theorem t149_9 : e_ok mD149 9 (12, 1, 0, 0, 0) := okr_int dX13_stockGrades_9 rfl
theorem t150_0 : e_ok mD150 0 (1, 1, 0, 0, 1) := okl_aload_n dX13_tellTruth_0 rfl
theorem t150_1 : e_ok mD150 1 (1, 0, 1, 0, 2) := okl_iload_n dX13_tellTruth_1 rfl
theorem t150_2 : e_ok mD150 2 (11, 0, 125, 1, 5) := And.intro (okCallX.M (okx_static (Da := mD125) dX13_tellTruth_2 rfl mwc_125 (wg6 1 rfl rfl) mws_125 mwi_125 mwd_125)) (fun _ => okx_static (Da := mD125) dX13_tellTruth_2 rfl mwc_125 (wg6 1 rfl rfl) mws_125 mwi_125 mwd_125)
theorem t150_5 : e_ok mD150 5 (5, 1, 12, 0, 8) := okj_ne dX13_tellTruth_5 (by decide +kernel)
theorem t150_8 : e_ok mD150 8 (0, 0, 1, 0, 9) := Or.inl (okc_iconst dX13_tellTruth_8 (by decide +kernel))
theorem t150_9 : e_ok mD150 9 (2, 4, 0, 0, 50) := oki_goto dX13_tellTruth_9 (by decide +kernel)
theorem t150_12 : e_ok mD150 12 (1, 0, 2, 0, 13) := okl_iload_n dX13_tellTruth_12 rfl
theorem t150_13 : e_ok mD150 13 (0, 0, 0, 0, 14) := Or.inl (okc_iconst dX13_tellTruth_13 (by decide +kernel))
theorem t150_14 : e_ok mD150 14 (0, 0, 99, 0, 16) := Or.inl (okc_bipush dX13_tellTruth_14 (by decide +kernel))
theorem t150_16 : e_ok mD150 16 (11, 0, 124, 3, 19) := And.intro (okCallX.M (okx_static (Da := mD124) dX13_tellTruth_16 rfl mwc_124 (wg6 4 rfl rfl) mws_124 mwi_124 mwd_124)) (fun _ => okx_static (Da := mD124) dX13_tellTruth_16 rfl mwc_124 (wg6 4 rfl rfl) mws_124 mwi_124 mwd_124)
theorem t150_19 : e_ok mD150 19 (5, 1, 26, 0, 22) := okj_ne dX13_tellTruth_19 (by decide +kernel)
theorem t150_22 : e_ok mD150 22 (0, 0, 2, 0, 23) := Or.inl (okc_iconst dX13_tellTruth_22 (by decide +kernel))
theorem t150_23 : e_ok mD150 23 (2, 4, 0, 0, 50) := oki_goto dX13_tellTruth_23 (by decide +kernel)
theorem t150_26 : e_ok mD150 26 (1, 1, 0, 0, 27) := okl_aload_n dX13_tellTruth_26 rfl
theorem t150_27 : e_ok mD150 27 (7, 0, 18, 1, 30) := And.intro (okw_get dX13_tellTruth_27 rfl hin_18 (by decide +kernel) (wg5 168 rfl rfl) rfl) (okx_none (by decide +kernel) _)
theorem t150_30 : e_ok mD150 30 (1, 0, 1, 0, 31) := okl_iload_n dX13_tellTruth_30 rfl
theorem t150_31 : e_ok mD150 31 (11, 3, 184, 2, 36) := And.intro (okm_iface (ci := 4) (x := ⟨"java/util/List", "get", "(I)Ljava/lang/Object;"⟩) (Da := mD184) rfl dX13_tellTruth_31 rfl mwc_184 (wg6 8 rfl rfl) mwn_184 (wg6 11 rfl rfl) mwi_184 (wn6 10 rfl rfl) (wn6 9 rfl rfl) (wn6 14 rfl rfl) (wn6 12 rfl rfl) (wn5 97 rfl rfl) ⟨by decide +kernel, by decide +kernel, by decide +kernel⟩) (fun h => h.elim nofun nofun)
theorem t150_36 : e_ok mD150 36 (7, 2, 15, 0, 39) := okw_cast dX13_tellTruth_36 rfl (wg5 69 rfl rfl)
theorem t150_39 : e_ok mD150 39 (7, 0, 15, 1, 42) := And.intro (okw_getN dX13_tellTruth_39 rfl hin_15 (by decide +kernel) (wn5 77 rfl rfl) rfl) (okx_none (by decide +kernel) _)
theorem t150_42 : e_ok mD150 42 (5, 0, 49, 0, 45) := okj_eq dX13_tellTruth_42 (by decide +kernel)
theorem t150_45 : e_ok mD150 45 (0, 0, 3, 0, 46) := Or.inl (okc_iconst dX13_tellTruth_45 (by decide +kernel))
theorem t150_46 : e_ok mD150 46 (2, 4, 0, 0, 50) := oki_goto dX13_tellTruth_46 (by decide +kernel)
theorem t150_49 : e_ok mD150 49 (0, 0, 0, 0, 50) := Or.inl (okc_iconst dX13_tellTruth_49 (by decide +kernel))
theorem t150_50 : e_ok mD150 50 (11, 2, 131, 2, 53) := And.intro (okCallX.M (okx_virtual (Da := mD131) dX13_tellTruth_50 rfl mwc_131 (wg6 26 rfl rfl) mwn_131 mwv_131 mwi_131 mwd_131)) (fun _ => okx_virtual (Da := mD131) dX13_tellTruth_50 rfl mwc_131 (wg6 26 rfl rfl) mwn_131 mwv_131 mwi_131 mwd_131)
theorem t150_53 : e_ok mD150 53 (5, 0, 58, 0, 56) := okj_eq dX13_tellTruth_53 (by decide +kernel)
theorem t150_56 : e_ok mD150 56 (0, 0, 0, 0, 57) := Or.inl (okc_iconst dX13_tellTruth_56 (by decide +kernel))
theorem t150_57 : e_ok mD150 57 (12, 1, 0, 0, 0) := okr_int dX13_tellTruth_57 rfl
theorem t150_58 : e_ok mD150 58 (1, 1, 0, 0, 59) := okl_aload_n dX13_tellTruth_58 rfl
theorem t150_59 : e_ok mD150 59 (7, 0, 18, 1, 62) := And.intro (okw_get dX13_tellTruth_59 rfl hin_18 (by decide +kernel) (wg5 168 rfl rfl) rfl) (okx_none (by decide +kernel) _)
theorem t150_62 : e_ok mD150 62 (1, 0, 1, 0, 63) := okl_iload_n dX13_tellTruth_62 rfl
theorem t150_63 : e_ok mD150 63 (11, 3, 184, 2, 68) := And.intro (okm_iface (ci := 4) (x := ⟨"java/util/List", "get", "(I)Ljava/lang/Object;"⟩) (Da := mD184) rfl dX13_tellTruth_63 rfl mwc_184 (wg6 8 rfl rfl) mwn_184 (wg6 11 rfl rfl) mwi_184 (wn6 10 rfl rfl) (wn6 9 rfl rfl) (wn6 14 rfl rfl) (wn6 12 rfl rfl) (wn5 97 rfl rfl) ⟨by decide +kernel, by decide +kernel, by decide +kernel⟩) (fun h => h.elim nofun nofun)
theorem t150_68 : e_ok mD150 68 (7, 2, 15, 0, 71) := okw_cast dX13_tellTruth_68 rfl (wg5 69 rfl rfl)
theorem t150_71 : e_ok mD150 71 (7, 0, 15, 2, 74) := And.intro (okw_getN dX13_tellTruth_71 rfl hin_15 (by decide +kernel) (wn5 79 rfl rfl) rfl) (okx_none (by decide +kernel) _)
theorem t150_74 : e_ok mD150 74 (1, 4, 3, 0, 75) := oks_istore_n dX13_tellTruth_74 rfl (by decide +kernel)
theorem t150_75 : e_ok mD150 75 (1, 1, 0, 0, 76) := okl_aload_n dX13_tellTruth_75 rfl
theorem t150_76 : e_ok mD150 76 (7, 0, 18, 1, 79) := And.intro (okw_get dX13_tellTruth_76 rfl hin_18 (by decide +kernel) (wg5 168 rfl rfl) rfl) (okx_none (by decide +kernel) _)
theorem t150_79 : e_ok mD150 79 (1, 0, 1, 0, 80) := okl_iload_n dX13_tellTruth_79 rfl
theorem t150_80 : e_ok mD150 80 (11, 3, 184, 2, 85) := And.intro (okm_iface (ci := 4) (x := ⟨"java/util/List", "get", "(I)Ljava/lang/Object;"⟩) (Da := mD184) rfl dX13_tellTruth_80 rfl mwc_184 (wg6 8 rfl rfl) mwn_184 (wg6 11 rfl rfl) mwi_184 (wn6 10 rfl rfl) (wn6 9 rfl rfl) (wn6 14 rfl rfl) (wn6 12 rfl rfl) (wn5 97 rfl rfl) ⟨by decide +kernel, by decide +kernel, by decide +kernel⟩) (fun h => h.elim nofun nofun)
theorem t150_85 : e_ok mD150 85 (7, 2, 15, 0, 88) := okw_cast dX13_tellTruth_85 rfl (wg5 69 rfl rfl)
theorem t150_88 : e_ok mD150 88 (1, 0, 2, 0, 89) := okl_iload_n dX13_tellTruth_88 rfl
theorem t150_89 : e_ok mD150 89 (9, 0, 15, 2, 92) := okw_putN dX13_tellTruth_89 rfl hin_15 tyX10_ok nmX10 (by decide +kernel) (wn5 79 rfl rfl) rfl rfl (tyX10_ok 2 (by decide +kernel)) (fun V h => fitV_int h)
theorem t150_92 : e_ok mD150 92 (1, 0, 3, 0, 93) := okl_iload_n dX13_tellTruth_92 rfl
theorem t150_93 : e_ok mD150 93 (12, 1, 0, 0, 0) := okr_int dX13_tellTruth_93 rfl
theorem t151_0 : e_ok mD151 0 (1, 1, 0, 0, 1) := okl_aload_n dX13_thrown_0 rfl
theorem t151_1 : e_ok mD151 1 (7, 0, 18, 0, 4) := And.intro (okw_get dX13_thrown_1 rfl hin_18 (by decide +kernel) (wg5 166 rfl rfl) rfl) (okx_none (by decide +kernel) _)
theorem t151_4 : e_ok mD151 4 (12, 1, 0, 0, 0) := okr_int dX13_thrown_4 rfl
theorem t152_0 : e_ok mD152 0 (1, 1, 0, 0, 1) := okl_aload_n dX13_toldOf_0 rfl
theorem t152_1 : e_ok mD152 1 (7, 0, 18, 5, 4) := And.intro (okw_get dX13_toldOf_1 rfl hin_18 (by decide +kernel) (wg5 172 rfl rfl) rfl) (okx_none (by decide +kernel) _)
theorem t152_4 : e_ok mD152 4 (0, 5, 5, 0, 6) := okw_ldcS rfl dX13_toldOf_4
theorem t152_6 : e_ok mD152 6 (1, 0, 1, 0, 7) := okl_iload_n dX13_toldOf_6 rfl
theorem t152_7 : e_ok mD152 7 (11, 2, 170, 2, 10) := And.intro (okCallX.M (okx_virtual (Da := mD170) dX13_toldOf_7 rfl mwc_170 (wg7 67 rfl rfl) mwn_170 mwv_170 mwi_170 mwd_170)) (fun _ => okx_virtual (Da := mD170) dX13_toldOf_7 rfl mwc_170 (wg7 67 rfl rfl) mwn_170 mwv_170 mwi_170 mwd_170)
theorem t152_10 : e_ok mD152 10 (8, 0, 0, 0, 11) := And.intro (oka_i dX13_toldOf_10) (oky_i dX13_toldOf_10)
theorem t152_11 : e_ok mD152 11 (12, 1, 0, 0, 0) := okr_int dX13_toldOf_11 rfl
theorem t153_0 : e_ok mD153 0 (1, 1, 0, 0, 1) := okl_aload_n dX13_tons_0 rfl
theorem t153_1 : e_ok mD153 1 (1, 0, 1, 0, 2) := okl_iload_n dX13_tons_1 rfl
theorem t153_2 : e_ok mD153 2 (0, 0, 112, 0, 4) := Or.inl (okc_bipush dX13_tons_2 (by decide +kernel))
theorem t153_4 : e_ok mD153 4 (6, 0, 19, 0, 7) := okk_eq dX13_tons_4 (by decide +kernel)
theorem t153_7 : e_ok mD153 7 (1, 0, 1, 0, 8) := okl_iload_n dX13_tons_7 rfl
theorem t153_8 : e_ok mD153 8 (0, 0, 115, 0, 10) := Or.inl (okc_bipush dX13_tons_8 (by decide +kernel))
theorem t153_10 : e_ok mD153 10 (6, 0, 19, 0, 13) := okk_eq dX13_tons_10 (by decide +kernel)
theorem t153_13 : e_ok mD153 13 (1, 0, 1, 0, 14) := okl_iload_n dX13_tons_13 rfl
theorem t153_14 : e_ok mD153 14 (0, 0, 100, 0, 16) := Or.inl (okc_bipush dX13_tons_14 (by decide +kernel))
theorem t153_16 : e_ok mD153 16 (6, 1, 23, 0, 19) := okk_ne dX13_tons_16 (by decide +kernel)
theorem t153_19 : e_ok mD153 19 (0, 0, 0, 0, 20) := Or.inl (okc_iconst dX13_tons_19 (by decide +kernel))
theorem t153_20 : e_ok mD153 20 (2, 4, 0, 0, 24) := oki_goto dX13_tons_20 (by decide +kernel)
theorem t153_23 : e_ok mD153 23 (0, 0, 1, 0, 24) := Or.inl (okc_iconst dX13_tons_23 (by decide +kernel))
theorem t153_24 : e_ok mD153 24 (11, 2, 131, 2, 27) := And.intro (okCallX.M (okx_virtual (Da := mD131) dX13_tons_24 rfl mwc_131 (wg6 26 rfl rfl) mwn_131 mwv_131 mwi_131 mwd_131)) (fun _ => okx_virtual (Da := mD131) dX13_tons_24 rfl mwc_131 (wg6 26 rfl rfl) mwn_131 mwv_131 mwi_131 mwd_131)
theorem t153_27 : e_ok mD153 27 (5, 0, 32, 0, 30) := okj_eq dX13_tons_27 (by decide +kernel)
theorem t153_30 : e_ok mD153 30 (0, 0, 0, 0, 31) := Or.inl (okc_iconst dX13_tons_30 (by decide +kernel))
theorem t153_31 : e_ok mD153 31 (12, 1, 0, 0, 0) := okr_int dX13_tons_31 rfl
theorem t153_32 : e_ok mD153 32 (0, 0, 10, 0, 34) := Or.inl (okc_bipush dX13_tons_32 (by decide +kernel))
theorem t153_34 : e_ok mD153 34 (1, 0, 1, 0, 35) := okl_iload_n dX13_tons_34 rfl
theorem t153_35 : e_ok mD153 35 (0, 0, 112, 0, 37) := Or.inl (okc_bipush dX13_tons_35 (by decide +kernel))
theorem t153_37 : e_ok mD153 37 (6, 1, 47, 0, 40) := okk_ne dX13_tons_37 (by decide +kernel)
theorem t153_40 : e_ok mD153 40 (1, 1, 0, 0, 41) := okl_aload_n dX13_tons_40 rfl
theorem t153_41 : e_ok mD153 41 (7, 0, 18, 13, 44) := And.intro (okw_get dX13_tons_41 rfl hin_18 (by decide +kernel) (wg5 180 rfl rfl) rfl) (okx_none (by decide +kernel) _)
theorem t153_44 : e_ok mD153 44 (2, 4, 0, 0, 64) := oki_goto dX13_tons_44 (by decide +kernel)
theorem t153_47 : e_ok mD153 47 (1, 0, 1, 0, 48) := okl_iload_n dX13_tons_47 rfl
theorem t153_48 : e_ok mD153 48 (0, 0, 115, 0, 50) := Or.inl (okc_bipush dX13_tons_48 (by decide +kernel))
theorem t153_50 : e_ok mD153 50 (6, 1, 60, 0, 53) := okk_ne dX13_tons_50 (by decide +kernel)
theorem t153_53 : e_ok mD153 53 (1, 1, 0, 0, 54) := okl_aload_n dX13_tons_53 rfl
theorem t153_54 : e_ok mD153 54 (7, 0, 18, 16, 57) := And.intro (okw_get dX13_tons_54 rfl hin_18 (by decide +kernel) (wg5 183 rfl rfl) rfl) (okx_none (by decide +kernel) _)
theorem t153_57 : e_ok mD153 57 (2, 4, 0, 0, 64) := oki_goto dX13_tons_57 (by decide +kernel)
theorem t153_60 : e_ok mD153 60 (1, 1, 0, 0, 61) := okl_aload_n dX13_tons_60 rfl
theorem t153_61 : e_ok mD153 61 (7, 0, 18, 15, 64) := And.intro (okw_get dX13_tons_61 rfl hin_18 (by decide +kernel) (wg5 182 rfl rfl) rfl) (okx_none (by decide +kernel) _)
theorem t153_64 : e_ok mD153 64 (3, 2, 0, 0, 65) := okb_imul dX13_tons_64
theorem t153_65 : e_ok mD153 65 (12, 1, 0, 0, 0) := okr_int dX13_tons_65 rfl
theorem t154_0 : e_ok mD154 0 (1, 1, 0, 0, 1) := okl_aload_n dX13_water_0 rfl
theorem t154_1 : e_ok mD154 1 (0, 0, 0, 0, 2) := Or.inl (okc_iconst dX13_water_1 (by decide +kernel))
theorem t154_2 : e_ok mD154 2 (9, 0, 18, 0, 5) := okw_put dX13_water_2 rfl hin_18 tyX13_ok nmX13 (by decide +kernel) (wg5 166 rfl rfl) rfl rfl (tyX13_ok 0 (by decide +kernel)) (fun V h => fitV_int h)
theorem t154_5 : e_ok mD154 5 (1, 1, 0, 0, 6) := okl_aload_n dX13_water_5 rfl
theorem t154_6 : e_ok mD154 6 (7, 0, 18, 9, 9) := And.intro (okw_get dX13_water_6 rfl hin_18 (by decide +kernel) (wg5 176 rfl rfl) rfl) (okx_none (by decide +kernel) _)
theorem t154_9 : e_ok mD154 9 (12, 1, 0, 0, 0) := okr_int dX13_water_9 rfl
theorem t155_0 : e_ok mD155 0 (1, 1, 0, 0, 1) := okl_aload_n dX13_week_0 rfl
theorem t155_1 : e_ok mD155 1 (0, 0, 0, 0, 2) := Or.inl (okc_iconst dX13_week_1 (by decide +kernel))
theorem t155_2 : e_ok mD155 2 (9, 0, 18, 0, 5) := okw_put dX13_week_2 rfl hin_18 tyX13_ok nmX13 (by decide +kernel) (wg5 166 rfl rfl) rfl rfl (tyX13_ok 0 (by decide +kernel)) (fun V h => fitV_int h)
theorem t155_5 : e_ok mD155 5 (1, 1, 0, 0, 6) := okl_aload_n dX13_week_5 rfl
theorem t155_6 : e_ok mD155 6 (7, 0, 18, 8, 9) := And.intro (okw_get dX13_week_6 rfl hin_18 (by decide +kernel) (wg5 175 rfl rfl) rfl) (okx_none (by decide +kernel) _)
theorem t155_9 : e_ok mD155 9 (12, 1, 0, 0, 0) := okr_int dX13_week_9 rfl
theorem t156_0 : e_ok mD156 0 (1, 1, 0, 0, 1) := okl_aload_n dX13_wentTo_0 rfl
theorem t156_1 : e_ok mD156 1 (1, 0, 1, 0, 2) := okl_iload_n dX13_wentTo_1 rfl
theorem t156_2 : e_ok mD156 2 (11, 2, 129, 2, 5) := And.intro (okCallX.M (okx_virtual (Da := mD129) dX13_wentTo_2 rfl mwc_129 (wg7 225 rfl rfl) mwn_129 mwv_129 mwi_129 mwd_129)) (fun _ => okx_virtual (Da := mD129) dX13_wentTo_2 rfl mwc_129 (wg7 225 rfl rfl) mwn_129 mwv_129 mwi_129 mwd_129)
theorem t156_5 : e_ok mD156 5 (5, 0, 12, 0, 8) := okj_eq dX13_wentTo_5 (by decide +kernel)
theorem t156_8 : e_ok mD156 8 (0, 0, 0, 0, 9) := Or.inl (okc_iconst dX13_wentTo_8 (by decide +kernel))
theorem t156_9 : e_ok mD156 9 (2, 4, 0, 0, 28) := oki_goto dX13_wentTo_9 (by decide +kernel)
theorem t156_12 : e_ok mD156 12 (1, 1, 0, 0, 13) := okl_aload_n dX13_wentTo_12 rfl
theorem t156_13 : e_ok mD156 13 (7, 0, 18, 1, 16) := And.intro (okw_get dX13_wentTo_13 rfl hin_18 (by decide +kernel) (wg5 168 rfl rfl) rfl) (okx_none (by decide +kernel) _)
theorem t156_16 : e_ok mD156 16 (1, 0, 1, 0, 17) := okl_iload_n dX13_wentTo_16 rfl
theorem t156_17 : e_ok mD156 17 (11, 3, 184, 2, 22) := And.intro (okm_iface (ci := 4) (x := ⟨"java/util/List", "get", "(I)Ljava/lang/Object;"⟩) (Da := mD184) rfl dX13_wentTo_17 rfl mwc_184 (wg6 8 rfl rfl) mwn_184 (wg6 11 rfl rfl) mwi_184 (wn6 10 rfl rfl) (wn6 9 rfl rfl) (wn6 14 rfl rfl) (wn6 12 rfl rfl) (wn5 97 rfl rfl) ⟨by decide +kernel, by decide +kernel, by decide +kernel⟩) (fun h => h.elim nofun nofun)
theorem t156_22 : e_ok mD156 22 (7, 2, 15, 0, 25) := okw_cast dX13_wentTo_22 rfl (wg5 69 rfl rfl)
theorem t156_25 : e_ok mD156 25 (7, 0, 15, 4, 28) := And.intro (okw_getN dX13_wentTo_25 rfl hin_15 (by decide +kernel) (wn5 81 rfl rfl) rfl) (okx_none (by decide +kernel) _)
theorem t156_28 : e_ok mD156 28 (12, 7, 0, 0, 0) := okr_char dX13_wentTo_28 rfl
theorem t157_0 : e_ok mD157 0 (1, 1, 0, 0, 1) := okl_aload_n dX13_worth_0 rfl
theorem t157_1 : e_ok mD157 1 (1, 0, 1, 0, 2) := okl_iload_n dX13_worth_1 rfl
theorem t157_2 : e_ok mD157 2 (11, 0, 125, 1, 5) := And.intro (okCallX.M (okx_static (Da := mD125) dX13_worth_2 rfl mwc_125 (wg6 1 rfl rfl) mws_125 mwi_125 mwd_125)) (fun _ => okx_static (Da := mD125) dX13_worth_2 rfl mwc_125 (wg6 1 rfl rfl) mws_125 mwi_125 mwd_125)
theorem t157_5 : e_ok mD157 5 (5, 1, 12, 0, 8) := okj_ne dX13_worth_5 (by decide +kernel)
theorem t157_8 : e_ok mD157 8 (0, 0, 1, 0, 9) := Or.inl (okc_iconst dX13_worth_8 (by decide +kernel))
theorem t157_9 : e_ok mD157 9 (2, 4, 0, 0, 24) := oki_goto dX13_worth_9 (by decide +kernel)
theorem t157_12 : e_ok mD157 12 (1, 0, 2, 0, 13) := okl_iload_n dX13_worth_12 rfl
theorem t157_13 : e_ok mD157 13 (11, 0, 130, 1, 16) := And.intro (okCallX.M (okx_static (Da := mD130) dX13_worth_13 rfl mwc_130 (wg6 166 rfl rfl) mws_130 mwi_130 mwd_130)) (fun _ => okx_static (Da := mD130) dX13_worth_13 rfl mwc_130 (wg6 166 rfl rfl) mws_130 mwi_130 mwd_130)
theorem t157_16 : e_ok mD157 16 (5, 1, 23, 0, 19) := okj_ne dX13_worth_16 (by decide +kernel)
theorem t157_19 : e_ok mD157 19 (0, 0, 2, 0, 20) := Or.inl (okc_iconst dX13_worth_19 (by decide +kernel))
theorem t157_20 : e_ok mD157 20 (2, 4, 0, 0, 24) := oki_goto dX13_worth_20 (by decide +kernel)
theorem t157_23 : e_ok mD157 23 (0, 0, 0, 0, 24) := Or.inl (okc_iconst dX13_worth_23 (by decide +kernel))
theorem t157_24 : e_ok mD157 24 (11, 2, 131, 2, 27) := And.intro (okCallX.M (okx_virtual (Da := mD131) dX13_worth_24 rfl mwc_131 (wg6 26 rfl rfl) mwn_131 mwv_131 mwi_131 mwd_131)) (fun _ => okx_virtual (Da := mD131) dX13_worth_24 rfl mwc_131 (wg6 26 rfl rfl) mwn_131 mwv_131 mwi_131 mwd_131)
theorem t157_27 : e_ok mD157 27 (5, 0, 34, 0, 30) := okj_eq dX13_worth_27 (by decide +kernel)
theorem t157_30 : e_ok mD157 30 (0, 0, 0, 0, 31) := Or.inl (okc_iconst dX13_worth_30 (by decide +kernel))
theorem t157_31 : e_ok mD157 31 (2, 4, 0, 0, 40) := oki_goto dX13_worth_31 (by decide +kernel)
theorem t157_34 : e_ok mD157 34 (1, 1, 0, 0, 35) := okl_aload_n dX13_worth_34 rfl
theorem t157_35 : e_ok mD157 35 (1, 0, 1, 0, 36) := okl_iload_n dX13_worth_35 rfl
theorem t157_36 : e_ok mD157 36 (1, 0, 2, 0, 37) := okl_iload_n dX13_worth_36 rfl
theorem t157_37 : e_ok mD157 37 (11, 2, 158, 3, 40) := And.intro (okCallX.M (okx_virtual (Da := mD158) dX13_worth_37 rfl mwc_158 (wg6 169 rfl rfl) mwn_158 mwv_158 mwi_158 mwd_158)) (fun _ => okx_virtual (Da := mD158) dX13_worth_37 rfl mwc_158 (wg6 169 rfl rfl) mwn_158 mwv_158 mwi_158 mwd_158)
theorem t157_40 : e_ok mD157 40 (12, 1, 0, 0, 0) := okr_int dX13_worth_40 rfl
theorem t158_0 : e_ok mD158 0 (0, 0, 0, 0, 1) := Or.inl (okc_iconst dX13_worthOf_0 (by decide +kernel))
theorem t158_1 : e_ok mD158 1 (1, 1, 0, 0, 2) := okl_aload_n dX13_worthOf_1 rfl
theorem t158_2 : e_ok mD158 2 (1, 0, 1, 0, 3) := okl_iload_n dX13_worthOf_2 rfl
theorem t158_3 : e_ok mD158 3 (11, 2, 122, 2, 6) := And.intro (okCallX.M (okx_virtual (Da := mD122) dX13_worthOf_3 rfl mwc_122 (wg6 66 rfl rfl) mwn_122 mwv_122 mwi_122 mwd_122)) (fun _ => okx_virtual (Da := mD122) dX13_worthOf_3 rfl mwc_122 (wg6 66 rfl rfl) mwn_122 mwv_122 mwi_122 mwd_122)
theorem t158_6 : e_ok mD158 6 (1, 0, 2, 0, 7) := okl_iload_n dX13_worthOf_6 rfl
theorem t158_7 : e_ok mD158 7 (3, 2, 0, 0, 8) := okb_imul dX13_worthOf_7
theorem t158_8 : e_ok mD158 8 (0, 0, 200, 0, 11) := Or.inl (okc_sipush dX13_worthOf_8 (by decide +kernel))
theorem t158_11 : e_ok mD158 11 (3, 1, 0, 0, 12) := okb_isub dX13_worthOf_11
theorem t158_12 : e_ok mD158 12 (11, 0, 167, 2, 15) := And.intro (okCallX.M (okx_static (Da := mD167) dX13_worthOf_12 rfl mwc_167 (wg6 173 rfl rfl) mws_167 mwi_167 mwd_167)) (fun _ => okx_static (Da := mD167) dX13_worthOf_12 rfl mwc_167 (wg6 173 rfl rfl) mws_167 mwi_167 mwd_167)
theorem t158_15 : e_ok mD158 15 (1, 0, 1, 0, 16) := okl_iload_n dX13_worthOf_15 rfl
theorem t158_16 : e_ok mD158 16 (11, 0, 114, 1, 19) := And.intro (okCallX.M (okx_static (Da := mD114) dX13_worthOf_16 rfl mwc_114 (wg6 174 rfl rfl) mws_114 mwi_114 mwd_114)) (fun _ => okx_static (Da := mD114) dX13_worthOf_16 rfl mwc_114 (wg6 174 rfl rfl) mws_114 mwi_114 mwd_114)
theorem t158_19 : e_ok mD158 19 (3, 1, 0, 0, 20) := okb_isub dX13_worthOf_19
theorem t158_20 : e_ok mD158 20 (12, 1, 0, 0, 0) := okr_int dX13_worthOf_20 rfl
theorem t159_0 : e_ok mD159 0 (1, 1, 0, 0, 1) := okl_aload_n dX13_worthWith_0 rfl
theorem t159_1 : e_ok mD159 1 (1, 0, 1, 0, 2) := okl_iload_n dX13_worthWith_1 rfl
theorem t159_2 : e_ok mD159 2 (11, 0, 130, 1, 5) := And.intro (okCallX.M (okx_static (Da := mD130) dX13_worthWith_2 rfl mwc_130 (wg6 166 rfl rfl) mws_130 mwi_130 mwd_130)) (fun _ => okx_static (Da := mD130) dX13_worthWith_2 rfl mwc_130 (wg6 166 rfl rfl) mws_130 mwi_130 mwd_130)
theorem t159_5 : e_ok mD159 5 (5, 1, 12, 0, 8) := okj_ne dX13_worthWith_5 (by decide +kernel)
theorem t159_8 : e_ok mD159 8 (0, 0, 1, 0, 9) := Or.inl (okc_iconst dX13_worthWith_8 (by decide +kernel))
theorem t159_9 : e_ok mD159 9 (2, 4, 0, 0, 47) := oki_goto dX13_worthWith_9 (by decide +kernel)
theorem t159_12 : e_ok mD159 12 (1, 0, 2, 0, 13) := okl_iload_n dX13_worthWith_12 rfl
theorem t159_13 : e_ok mD159 13 (11, 0, 125, 1, 16) := And.intro (okCallX.M (okx_static (Da := mD125) dX13_worthWith_13 rfl mwc_125 (wg6 1 rfl rfl) mws_125 mwi_125 mwd_125)) (fun _ => okx_static (Da := mD125) dX13_worthWith_13 rfl mwc_125 (wg6 1 rfl rfl) mws_125 mwi_125 mwd_125)
theorem t159_16 : e_ok mD159 16 (5, 1, 23, 0, 19) := okj_ne dX13_worthWith_16 (by decide +kernel)
theorem t159_19 : e_ok mD159 19 (0, 0, 2, 0, 20) := Or.inl (okc_iconst dX13_worthWith_19 (by decide +kernel))
theorem t159_20 : e_ok mD159 20 (2, 4, 0, 0, 47) := oki_goto dX13_worthWith_20 (by decide +kernel)
theorem t159_23 : e_ok mD159 23 (1, 1, 0, 0, 24) := okl_aload_n dX13_worthWith_23 rfl
theorem t159_24 : e_ok mD159 24 (7, 0, 18, 1, 27) := And.intro (okw_get dX13_worthWith_24 rfl hin_18 (by decide +kernel) (wg5 168 rfl rfl) rfl) (okx_none (by decide +kernel) _)
theorem t159_27 : e_ok mD159 27 (1, 0, 2, 0, 28) := okl_iload_n dX13_worthWith_27 rfl
theorem t159_28 : e_ok mD159 28 (11, 3, 184, 2, 33) := And.intro (okm_iface (ci := 4) (x := ⟨"java/util/List", "get", "(I)Ljava/lang/Object;"⟩) (Da := mD184) rfl dX13_worthWith_28 rfl mwc_184 (wg6 8 rfl rfl) mwn_184 (wg6 11 rfl rfl) mwi_184 (wn6 10 rfl rfl) (wn6 9 rfl rfl) (wn6 14 rfl rfl) (wn6 12 rfl rfl) (wn5 97 rfl rfl) ⟨by decide +kernel, by decide +kernel, by decide +kernel⟩) (fun h => h.elim nofun nofun)
theorem t159_33 : e_ok mD159 33 (7, 2, 15, 0, 36) := okw_cast dX13_worthWith_33 rfl (wg5 69 rfl rfl)
theorem t159_36 : e_ok mD159 36 (7, 0, 15, 1, 39) := And.intro (okw_getN dX13_worthWith_36 rfl hin_15 (by decide +kernel) (wn5 77 rfl rfl) rfl) (okx_none (by decide +kernel) _)
theorem t159_39 : e_ok mD159 39 (5, 0, 46, 0, 42) := okj_eq dX13_worthWith_39 (by decide +kernel)
theorem t159_42 : e_ok mD159 42 (0, 0, 3, 0, 43) := Or.inl (okc_iconst dX13_worthWith_42 (by decide +kernel))
theorem t159_43 : e_ok mD159 43 (2, 4, 0, 0, 47) := oki_goto dX13_worthWith_43 (by decide +kernel)
theorem t159_46 : e_ok mD159 46 (0, 0, 0, 0, 47) := Or.inl (okc_iconst dX13_worthWith_46 (by decide +kernel))
theorem t159_47 : e_ok mD159 47 (11, 2, 131, 2, 50) := And.intro (okCallX.M (okx_virtual (Da := mD131) dX13_worthWith_47 rfl mwc_131 (wg6 26 rfl rfl) mwn_131 mwv_131 mwi_131 mwd_131)) (fun _ => okx_virtual (Da := mD131) dX13_worthWith_47 rfl mwc_131 (wg6 26 rfl rfl) mwn_131 mwv_131 mwi_131 mwd_131)
theorem t159_50 : e_ok mD159 50 (5, 0, 55, 0, 53) := okj_eq dX13_worthWith_50 (by decide +kernel)
theorem t159_53 : e_ok mD159 53 (0, 1, 0, 0, 54) := okc_lconst dX13_worthWith_53 (by decide +kernel)
theorem t159_54 : e_ok mD159 54 (12, 2, 0, 0, 0) := okr_long dX13_worthWith_54 rfl
theorem t159_55 : e_ok mD159 55 (0, 0, 60, 0, 57) := Or.inl (okc_bipush dX13_worthWith_55 (by decide +kernel))
theorem t159_57 : e_ok mD159 57 (16, 0, 1, 0, 59) := And.intro (oka_new (by decide) rfl (wg1 72 rfl rfl) dX13_worthWith_57) (by decide)
theorem t159_59 : e_ok mD159 59 (1, 5, 3, 0, 60) := oks_astore_n dX13_worthWith_59 rfl (by decide +kernel)
theorem t159_60 : e_ok mD159 60 (1, 1, 3, 0, 61) := okl_aload_n dX13_worthWith_60 rfl
theorem t159_61 : e_ok mD159 61 (1, 0, 2, 0, 62) := okl_iload_n dX13_worthWith_61 rfl
theorem t159_62 : e_ok mD159 62 (0, 0, 1, 0, 63) := Or.inl (okc_iconst dX13_worthWith_62 (by decide +kernel))
theorem t159_63 : e_ok mD159 63 (10, 1, 0, 0, 64) := oka_stz dX13_worthWith_63
theorem t159_64 : e_ok mD159 64 (0, 1, 0, 0, 65) := okc_lconst dX13_worthWith_64 (by decide +kernel)
theorem t159_65 : e_ok mD159 65 (1, 6, 4, 0, 67) := oks_lstore dX13_worthWith_65 (by decide +kernel)
theorem t159_67 : e_ok mD159 67 (1, 0, 2, 0, 68) := okl_iload_n dX13_worthWith_67 rfl
theorem t159_68 : e_ok mD159 68 (1, 4, 6, 0, 70) := oks_istore dX13_worthWith_68 (by decide +kernel)
theorem t159_70 : e_ok mD159 70 (1, 0, 6, 0, 72) := okl_iload dX13_worthWith_70
theorem t159_72 : e_ok mD159 72 (5, 2, 170, 0, 75) := okj_lt dX13_worthWith_72 (by decide +kernel)
theorem t159_75 : e_ok mD159 75 (1, 1, 3, 0, 76) := okl_aload_n dX13_worthWith_75 rfl
theorem t159_76 : e_ok mD159 76 (1, 0, 6, 0, 78) := okl_iload dX13_worthWith_76
theorem t159_78 : e_ok mD159 78 (8, 1, 0, 0, 79) := And.intro (oka_z dX13_worthWith_78) (oky_none (by decide) _)
theorem t159_79 : e_ok mD159 79 (5, 0, 164, 0, 82) := okj_eq dX13_worthWith_79 (by decide +kernel)
theorem t159_82 : e_ok mD159 82 (1, 1, 0, 0, 83) := okl_aload_n dX13_worthWith_82 rfl
theorem t159_83 : e_ok mD159 83 (7, 0, 18, 1, 86) := And.intro (okw_get dX13_worthWith_83 rfl hin_18 (by decide +kernel) (wg5 168 rfl rfl) rfl) (okx_none (by decide +kernel) _)
theorem t159_86 : e_ok mD159 86 (1, 0, 6, 0, 88) := okl_iload dX13_worthWith_86
theorem t159_88 : e_ok mD159 88 (11, 3, 184, 2, 93) := And.intro (okm_iface (ci := 4) (x := ⟨"java/util/List", "get", "(I)Ljava/lang/Object;"⟩) (Da := mD184) rfl dX13_worthWith_88 rfl mwc_184 (wg6 8 rfl rfl) mwn_184 (wg6 11 rfl rfl) mwi_184 (wn6 10 rfl rfl) (wn6 9 rfl rfl) (wn6 14 rfl rfl) (wn6 12 rfl rfl) (wn5 97 rfl rfl) ⟨by decide +kernel, by decide +kernel, by decide +kernel⟩) (fun h => h.elim nofun nofun)
theorem t159_93 : e_ok mD159 93 (7, 2, 15, 0, 96) := okw_cast dX13_worthWith_93 rfl (wg5 69 rfl rfl)
theorem t159_96 : e_ok mD159 96 (7, 0, 15, 1, 99) := And.intro (okw_getN dX13_worthWith_96 rfl hin_15 (by decide +kernel) (wn5 77 rfl rfl) rfl) (okx_none (by decide +kernel) _)
theorem t159_99 : e_ok mD159 99 (5, 0, 105, 0, 102) := okj_eq dX13_worthWith_99 (by decide +kernel)
theorem t159_102 : e_ok mD159 102 (2, 4, 0, 0, 164) := oki_goto dX13_worthWith_102 (by decide +kernel)
theorem t159_105 : e_ok mD159 105 (1, 2, 4, 0, 107) := okl_lload dX13_worthWith_105
theorem t159_107 : e_ok mD159 107 (1, 1, 0, 0, 108) := okl_aload_n dX13_worthWith_107 rfl
theorem t159_108 : e_ok mD159 108 (1, 0, 6, 0, 110) := okl_iload dX13_worthWith_108
theorem t159_110 : e_ok mD159 110 (1, 0, 1, 0, 111) := okl_iload_n dX13_worthWith_110 rfl
theorem t159_111 : e_ok mD159 111 (11, 2, 158, 3, 114) := And.intro (okCallX.M (okx_virtual (Da := mD158) dX13_worthWith_111 rfl mwc_158 (wg6 169 rfl rfl) mwn_158 mwv_158 mwi_158 mwd_158)) (fun _ => okx_virtual (Da := mD158) dX13_worthWith_111 rfl mwc_158 (wg6 169 rfl rfl) mwn_158 mwv_158 mwi_158 mwd_158)
theorem t159_114 : e_ok mD159 114 (15, 5, 0, 0, 115) := okm_i2l dX13_worthWith_114
theorem t159_115 : e_ok mD159 115 (15, 0, 0, 0, 116) := okm_ladd dX13_worthWith_115
theorem t159_116 : e_ok mD159 116 (1, 6, 4, 0, 118) := oks_lstore dX13_worthWith_116 (by decide +kernel)
theorem t159_118 : e_ok mD159 118 (1, 1, 0, 0, 119) := okl_aload_n dX13_worthWith_118 rfl
theorem t159_119 : e_ok mD159 119 (1, 0, 6, 0, 121) := okl_iload dX13_worthWith_119
theorem t159_121 : e_ok mD159 121 (11, 2, 112, 2, 124) := And.intro (okCallX.M (okx_virtual (Da := mD112) dX13_worthWith_121 rfl mwc_112 (wg6 185 rfl rfl) mwn_112 mwv_112 mwi_112 mwd_112)) (fun _ => okx_virtual (Da := mD112) dX13_worthWith_121 rfl mwc_112 (wg6 185 rfl rfl) mwn_112 mwv_112 mwi_112 mwd_112)
theorem t159_124 : e_ok mD159 124 (11, 3, 188, 1, 129) := And.intro (okm_iface (ci := 4) (x := ⟨"java/util/List", "iterator", "()Ljava/util/Iterator;"⟩) (Da := mD188) rfl dX13_worthWith_124 rfl mwc_188 (wg6 71 rfl rfl) mwn_188 (wg6 74 rfl rfl) mwi_188 (wn6 73 rfl rfl) (wn6 72 rfl rfl) (wn6 77 rfl rfl) (wn6 75 rfl rfl) (wn5 97 rfl rfl) ⟨by decide +kernel, by decide +kernel, by decide +kernel⟩) (fun h => h.elim nofun nofun)
theorem t159_129 : e_ok mD159 129 (1, 5, 7, 0, 131) := oks_astore dX13_worthWith_129 (by decide +kernel)
theorem t159_131 : e_ok mD159 131 (1, 1, 7, 0, 133) := okl_aload dX13_worthWith_131
theorem t159_133 : e_ok mD159 133 (11, 3, 192, 1, 138) := And.intro (okm_iface (ci := 3) (x := ⟨"java/util/Iterator", "hasNext", "()Z"⟩) (Da := mD192) rfl dX13_worthWith_133 rfl mwc_192 (wg6 99 rfl rfl) mwn_192 (wg6 103 rfl rfl) mwi_192 (wn6 101 rfl rfl) (wn6 100 rfl rfl) (wn6 106 rfl rfl) (wn6 104 rfl rfl) (wn6 102 rfl rfl) ⟨by decide +kernel, by decide +kernel, by decide +kernel⟩) (fun h => h.elim nofun nofun)
theorem t159_138 : e_ok mD159 138 (5, 0, 164, 0, 141) := okj_eq dX13_worthWith_138 (by decide +kernel)
theorem t159_141 : e_ok mD159 141 (1, 1, 7, 0, 143) := okl_aload dX13_worthWith_141
theorem t159_143 : e_ok mD159 143 (11, 3, 193, 1, 148) := And.intro (okm_iface (ci := 3) (x := ⟨"java/util/Iterator", "next", "()Ljava/lang/Object;"⟩) (Da := mD193) rfl dX13_worthWith_143 rfl mwc_193 (wg6 109 rfl rfl) mwn_193 (wg6 112 rfl rfl) mwi_193 (wn6 111 rfl rfl) (wn6 110 rfl rfl) (wn6 115 rfl rfl) (wn6 113 rfl rfl) (wn6 102 rfl rfl) ⟨by decide +kernel, by decide +kernel, by decide +kernel⟩) (fun h => h.elim nofun nofun)
theorem t159_148 : e_ok mD159 148 (7, 2, 1, 0, 151) := okw_cast dX13_worthWith_148 rfl (wg6 209 rfl rfl)
theorem t159_151 : e_ok mD159 151 (11, 2, 165, 1, 154) := And.intro (okCallX.M (okx_virtual (Da := mD165) dX13_worthWith_151 rfl mwc_165 (wg6 210 rfl rfl) mwn_165 mwv_165 mwi_165 mwd_165)) (fun _ => okx_virtual (Da := mD165) dX13_worthWith_151 rfl mwc_165 (wg6 210 rfl rfl) mwn_165 mwv_165 mwi_165 mwd_165)
theorem t159_154 : e_ok mD159 154 (1, 4, 8, 0, 156) := oks_istore dX13_worthWith_154 (by decide +kernel)
theorem t159_156 : e_ok mD159 156 (1, 1, 3, 0, 157) := okl_aload_n dX13_worthWith_156 rfl
theorem t159_157 : e_ok mD159 157 (1, 0, 8, 0, 159) := okl_iload dX13_worthWith_157
theorem t159_159 : e_ok mD159 159 (0, 0, 1, 0, 160) := Or.inl (okc_iconst dX13_worthWith_159 (by decide +kernel))
theorem t159_160 : e_ok mD159 160 (10, 1, 0, 0, 161) := oka_stz dX13_worthWith_160
theorem t159_161 : e_ok mD159 161 (2, 4, 0, 0, 131) := oki_goto dX13_worthWith_161 (by decide +kernel)
theorem t159_164 : e_ok mD159 164 (2, 0, 6, 4294967295, 167) := oki_iinc dX13_worthWith_164 (by decide +kernel) (by decide +kernel)
theorem t159_167 : e_ok mD159 167 (2, 4, 0, 0, 70) := oki_goto dX13_worthWith_167 (by decide +kernel)
theorem t159_170 : e_ok mD159 170 (1, 2, 4, 0, 172) := okl_lload dX13_worthWith_170
theorem t159_172 : e_ok mD159 172 (12, 2, 0, 0, 0) := okr_long dX13_worthWith_172 rfl
theorem t160_0 : e_ok mD160 0 (1, 1, 0, 0, 1) := okl_aload_n dX10_init_0 rfl
theorem t160_1 : e_ok mD160 1 (7, 4, 0, 0, 4) := okw_obj dX10_init_1 (wg5 74 rfl rfl) w_obj1 w_obj2
theorem t160_4 : e_ok mD160 4 (1, 1, 0, 0, 5) := okl_aload_n dX10_init_4 rfl
theorem t160_5 : e_ok mD160 5 (0, 0, 4294967295, 0, 6) := Or.inl (okc_iconst dX10_init_5 (by decide +kernel))
theorem t160_6 : e_ok mD160 6 (9, 0, 15, 2, 9) := okw_put dX10_init_6 rfl hin_15 tyX10_ok nmX10 (by decide +kernel) (wg5 78 rfl rfl) rfl rfl (tyX10_ok 2 (by decide +kernel)) (fun V h => fitV_int h)
theorem t160_9 : e_ok mD160 9 (12, 0, 0, 0, 0) := okr_void dX10_init_9 rfl
theorem t161_0 : e_ok mD161 0 (1, 1, 0, 0, 1) := okl_aload_n dX11_init_0 rfl
theorem t161_1 : e_ok mD161 1 (1, 1, 1, 0, 2) := okl_aload_n dX11_init_1 rfl
theorem t161_2 : e_ok mD161 2 (9, 7, 16, 2, 5) := okw_putF dX11_init_2 rfl hin_16 tyX11_ok nmX11 (by decide +kernel) (wg7 10 rfl rfl) rfl rfl rfl rfl (tyX11_ok 2 (by decide +kernel)) (fun V h => fitV_obj h)
theorem t161_5 : e_ok mD161 5 (1, 1, 0, 0, 6) := okl_aload_n dX11_init_5 rfl
theorem t161_6 : e_ok mD161 6 (7, 4, 0, 0, 9) := okw_obj dX11_init_6 (wg6 227 rfl rfl) w_obj1 w_obj2
theorem t161_9 : e_ok mD161 9 (1, 1, 0, 0, 10) := okl_aload_n dX11_init_9 rfl
theorem t161_10 : e_ok mD161 10 (0, 0, 62, 0, 12) := Or.inl (okc_bipush dX11_init_10 (by decide +kernel))
theorem t161_12 : e_ok mD161 12 (0, 0, 62, 0, 14) := Or.inl (okc_bipush dX11_init_12 (by decide +kernel))
theorem t161_14 : e_ok mD161 14 (16, 2, 0, 0, 18) := oka_multi (wg6 228 rfl rfl) (wg1 73 rfl rfl) dX11_init_14
theorem t161_18 : e_ok mD161 18 (9, 7, 16, 0, 21) := okw_putF dX11_init_18 rfl hin_16 tyX11_ok nmX11 (by decide +kernel) (wg7 8 rfl rfl) rfl rfl rfl rfl (tyX11_ok 0 (by decide +kernel)) (fun V h => fitV_arr h)
theorem t161_21 : e_ok mD161 21 (0, 0, 0, 0, 22) := Or.inl (okc_iconst dX11_init_21 (by decide +kernel))
theorem t161_22 : e_ok mD161 22 (1, 4, 3, 0, 23) := oks_istore_n dX11_init_22 rfl (by decide +kernel)
theorem t161_23 : e_ok mD161 23 (1, 0, 3, 0, 24) := okl_iload_n dX11_init_23 rfl
theorem t161_24 : e_ok mD161 24 (0, 0, 60, 0, 26) := Or.inl (okc_bipush dX11_init_24 (by decide +kernel))
theorem t161_26 : e_ok mD161 26 (6, 3, 171, 0, 29) := okk_ge dX11_init_26 (by decide +kernel)
theorem t161_29 : e_ok mD161 29 (1, 1, 1, 0, 30) := okl_aload_n dX11_init_29 rfl
theorem t161_30 : e_ok mD161 30 (7, 0, 18, 1, 33) := And.intro (okw_getN dX11_init_30 rfl hin_18 (by decide +kernel) (wn5 167 rfl rfl) rfl) (okx_none (by decide +kernel) _)
theorem t161_33 : e_ok mD161 33 (1, 0, 3, 0, 34) := okl_iload_n dX11_init_33 rfl
theorem t161_34 : e_ok mD161 34 (11, 3, 184, 2, 39) := And.intro (okm_iface (ci := 4) (x := ⟨"java/util/List", "get", "(I)Ljava/lang/Object;"⟩) (Da := mD184) rfl dX11_init_34 rfl mwc_184 (wg6 230 rfl rfl) mwn_184 (wg6 11 rfl rfl) mwi_184 (wn6 10 rfl rfl) (wn6 9 rfl rfl) (wn6 14 rfl rfl) (wn6 12 rfl rfl) (wn5 97 rfl rfl) ⟨by decide +kernel, by decide +kernel, by decide +kernel⟩) (fun h => h.elim nofun nofun)
theorem t161_39 : e_ok mD161 39 (7, 2, 15, 0, 42) := okw_cast dX11_init_39 rfl (wg6 231 rfl rfl)
theorem t161_42 : e_ok mD161 42 (7, 0, 15, 1, 45) := And.intro (okw_getN dX11_init_42 rfl hin_15 (by decide +kernel) (wn5 76 rfl rfl) rfl) (okx_none (by decide +kernel) _)
theorem t161_45 : e_ok mD161 45 (5, 0, 51, 0, 48) := okj_eq dX11_init_45 (by decide +kernel)
theorem t161_48 : e_ok mD161 48 (2, 4, 0, 0, 165) := oki_goto dX11_init_48 (by decide +kernel)
theorem t161_51 : e_ok mD161 51 (1, 1, 1, 0, 52) := okl_aload_n dX11_init_51 rfl
theorem t161_52 : e_ok mD161 52 (1, 0, 3, 0, 53) := okl_iload_n dX11_init_52 rfl
theorem t161_53 : e_ok mD161 53 (1, 0, 2, 0, 54) := okl_iload_n dX11_init_53 rfl
theorem t161_54 : e_ok mD161 54 (11, 5, 158, 3, 57) := And.intro (okm_virtualN (Da := mD158) dX11_init_54 rfl mwc_158 (wn6 232 rfl rfl) mwn_158 mwv_158 mwi_158 mwd_158) (fun h => h.elim nofun nofun)
theorem t161_57 : e_ok mD161 57 (1, 4, 4, 0, 59) := oks_istore dX11_init_57 (by decide +kernel)
theorem t161_59 : e_ok mD161 59 (1, 0, 4, 0, 61) := okl_iload dX11_init_59
theorem t161_61 : e_ok mD161 61 (5, 5, 78, 0, 64) := okj_le dX11_init_61 (by decide +kernel)
theorem t161_64 : e_ok mD161 64 (1, 1, 0, 0, 65) := okl_aload_n dX11_init_64 rfl
theorem t161_65 : e_ok mD161 65 (7, 0, 16, 0, 68) := And.intro (okw_get dX11_init_65 rfl hin_16 (by decide +kernel) (wg7 8 rfl rfl) rfl) (okx_none (by decide +kernel) _)
theorem t161_68 : e_ok mD161 68 (0, 0, 60, 0, 70) := Or.inl (okc_bipush dX11_init_68 (by decide +kernel))
theorem t161_70 : e_ok mD161 70 (8, 6, 0, 0, 71) := And.intro (oka_q (Or.inl rfl) dX11_init_70) (oky_none (by decide) _)
theorem t161_71 : e_ok mD161 71 (1, 0, 3, 0, 72) := okl_iload_n dX11_init_71 rfl
theorem t161_72 : e_ok mD161 72 (1, 0, 4, 0, 74) := okl_iload dX11_init_72
theorem t161_74 : e_ok mD161 74 (10, 0, 0, 0, 75) := oka_sti dX11_init_74
theorem t161_75 : e_ok mD161 75 (2, 4, 0, 0, 90) := oki_goto dX11_init_75 (by decide +kernel)
theorem t161_78 : e_ok mD161 78 (1, 1, 0, 0, 79) := okl_aload_n dX11_init_78 rfl
theorem t161_79 : e_ok mD161 79 (7, 0, 16, 0, 82) := And.intro (okw_get dX11_init_79 rfl hin_16 (by decide +kernel) (wg7 8 rfl rfl) rfl) (okx_none (by decide +kernel) _)
theorem t161_82 : e_ok mD161 82 (1, 0, 3, 0, 83) := okl_iload_n dX11_init_82 rfl
theorem t161_83 : e_ok mD161 83 (8, 6, 0, 0, 84) := And.intro (oka_q (Or.inl rfl) dX11_init_83) (oky_none (by decide) _)
theorem t161_84 : e_ok mD161 84 (0, 0, 61, 0, 86) := Or.inl (okc_bipush dX11_init_84 (by decide +kernel))
theorem t161_86 : e_ok mD161 86 (1, 0, 4, 0, 88) := okl_iload dX11_init_86
theorem t161_88 : e_ok mD161 88 (4, 9, 0, 0, 89) := oku_ineg dX11_init_88
theorem t161_89 : e_ok mD161 89 (10, 0, 0, 0, 90) := oka_sti dX11_init_89
theorem t161_90 : e_ok mD161 90 (1, 1, 1, 0, 91) := okl_aload_n dX11_init_90 rfl
theorem t161_91 : e_ok mD161 91 (1, 0, 3, 0, 92) := okl_iload_n dX11_init_91 rfl
theorem t161_92 : e_ok mD161 92 (11, 5, 112, 2, 95) := And.intro (okm_virtualN (Da := mD112) dX11_init_92 rfl mwc_112 (wn6 233 rfl rfl) mwn_112 mwv_112 mwi_112 mwd_112) (fun h => h.elim nofun nofun)
theorem t161_95 : e_ok mD161 95 (11, 3, 188, 1, 100) := And.intro (okm_iface (ci := 4) (x := ⟨"java/util/List", "iterator", "()Ljava/util/Iterator;"⟩) (Da := mD188) rfl dX11_init_95 rfl mwc_188 (wg6 235 rfl rfl) mwn_188 (wg6 74 rfl rfl) mwi_188 (wn6 73 rfl rfl) (wn6 72 rfl rfl) (wn6 77 rfl rfl) (wn6 75 rfl rfl) (wn5 97 rfl rfl) ⟨by decide +kernel, by decide +kernel, by decide +kernel⟩) (fun h => h.elim nofun nofun)
theorem t161_100 : e_ok mD161 100 (1, 5, 5, 0, 102) := oks_astore dX11_init_100 (by decide +kernel)
theorem t161_102 : e_ok mD161 102 (1, 1, 5, 0, 104) := okl_aload dX11_init_102
theorem t161_104 : e_ok mD161 104 (11, 3, 192, 1, 109) := And.intro (okm_iface (ci := 3) (x := ⟨"java/util/Iterator", "hasNext", "()Z"⟩) (Da := mD192) rfl dX11_init_104 rfl mwc_192 (wg6 237 rfl rfl) mwn_192 (wg6 103 rfl rfl) mwi_192 (wn6 101 rfl rfl) (wn6 100 rfl rfl) (wn6 106 rfl rfl) (wn6 104 rfl rfl) (wn6 102 rfl rfl) ⟨by decide +kernel, by decide +kernel, by decide +kernel⟩) (fun h => h.elim nofun nofun)
theorem t161_109 : e_ok mD161 109 (5, 0, 165, 0, 112) := okj_eq dX11_init_109 (by decide +kernel)
theorem t161_112 : e_ok mD161 112 (1, 1, 5, 0, 114) := okl_aload dX11_init_112
theorem t161_114 : e_ok mD161 114 (11, 3, 193, 1, 119) := And.intro (okm_iface (ci := 3) (x := ⟨"java/util/Iterator", "next", "()Ljava/lang/Object;"⟩) (Da := mD193) rfl dX11_init_114 rfl mwc_193 (wg6 239 rfl rfl) mwn_193 (wg6 112 rfl rfl) mwi_193 (wn6 111 rfl rfl) (wn6 110 rfl rfl) (wn6 115 rfl rfl) (wn6 113 rfl rfl) (wn6 102 rfl rfl) ⟨by decide +kernel, by decide +kernel, by decide +kernel⟩) (fun h => h.elim nofun nofun)
theorem t161_119 : e_ok mD161 119 (7, 2, 1, 0, 122) := okw_cast dX11_init_119 rfl (wg7 0 rfl rfl)
theorem t161_122 : e_ok mD161 122 (11, 2, 165, 1, 125) := And.intro (okCallX.M (okx_virtual (Da := mD165) dX11_init_122 rfl mwc_165 (wg7 1 rfl rfl) mwn_165 mwv_165 mwi_165 mwd_165)) (fun _ => okx_virtual (Da := mD165) dX11_init_122 rfl mwc_165 (wg7 1 rfl rfl) mwn_165 mwv_165 mwi_165 mwd_165)
theorem t161_125 : e_ok mD161 125 (1, 4, 6, 0, 127) := oks_istore dX11_init_125 (by decide +kernel)
theorem t161_127 : e_ok mD161 127 (1, 1, 0, 0, 128) := okl_aload_n dX11_init_127 rfl
theorem t161_128 : e_ok mD161 128 (7, 0, 16, 0, 131) := And.intro (okw_get dX11_init_128 rfl hin_16 (by decide +kernel) (wg7 8 rfl rfl) rfl) (okx_none (by decide +kernel) _)
theorem t161_131 : e_ok mD161 131 (1, 0, 3, 0, 132) := okl_iload_n dX11_init_131 rfl
theorem t161_132 : e_ok mD161 132 (8, 6, 0, 0, 133) := And.intro (oka_q (Or.inl rfl) dX11_init_132) (oky_none (by decide) _)
theorem t161_133 : e_ok mD161 133 (1, 0, 6, 0, 135) := okl_iload dX11_init_133
theorem t161_135 : e_ok mD161 135 (1, 1, 1, 0, 136) := okl_aload_n dX11_init_135 rfl
theorem t161_136 : e_ok mD161 136 (7, 0, 18, 1, 139) := And.intro (okw_getN dX11_init_136 rfl hin_18 (by decide +kernel) (wn5 167 rfl rfl) rfl) (okx_none (by decide +kernel) _)
theorem t161_139 : e_ok mD161 139 (1, 0, 6, 0, 141) := okl_iload dX11_init_139
theorem t161_141 : e_ok mD161 141 (11, 3, 184, 2, 146) := And.intro (okm_iface (ci := 4) (x := ⟨"java/util/List", "get", "(I)Ljava/lang/Object;"⟩) (Da := mD184) rfl dX11_init_141 rfl mwc_184 (wg6 230 rfl rfl) mwn_184 (wg6 11 rfl rfl) mwi_184 (wn6 10 rfl rfl) (wn6 9 rfl rfl) (wn6 14 rfl rfl) (wn6 12 rfl rfl) (wn5 97 rfl rfl) ⟨by decide +kernel, by decide +kernel, by decide +kernel⟩) (fun h => h.elim nofun nofun)
theorem t161_146 : e_ok mD161 146 (7, 2, 15, 0, 149) := okw_cast dX11_init_146 rfl (wg6 231 rfl rfl)
theorem t161_149 : e_ok mD161 149 (7, 0, 15, 1, 152) := And.intro (okw_getN dX11_init_149 rfl hin_15 (by decide +kernel) (wn5 76 rfl rfl) rfl) (okx_none (by decide +kernel) _)
theorem t161_152 : e_ok mD161 152 (5, 0, 159, 0, 155) := okj_eq dX11_init_152 (by decide +kernel)
theorem t161_155 : e_ok mD161 155 (0, 0, 0, 0, 156) := Or.inl (okc_iconst dX11_init_155 (by decide +kernel))
theorem t161_156 : e_ok mD161 156 (2, 4, 0, 0, 161) := oki_goto dX11_init_156 (by decide +kernel)
theorem t161_159 : e_ok mD161 159 (0, 0, 268435456, 0, 161) := Or.inl (okc_ldc dX11_init_159 (wg7 2 rfl rfl))
theorem t161_161 : e_ok mD161 161 (10, 0, 0, 0, 162) := oka_sti dX11_init_161
theorem t161_162 : e_ok mD161 162 (2, 4, 0, 0, 102) := oki_goto dX11_init_162 (by decide +kernel)
theorem t161_165 : e_ok mD161 165 (2, 0, 3, 1, 168) := oki_iinc dX11_init_165 (by decide +kernel) (by decide +kernel)
theorem t161_168 : e_ok mD161 168 (2, 4, 0, 0, 23) := oki_goto dX11_init_168 (by decide +kernel)
theorem t161_171 : e_ok mD161 171 (1, 1, 0, 0, 172) := okl_aload_n dX11_init_171 rfl
theorem t161_172 : e_ok mD161 172 (11, 2, 163, 1, 175) := And.intro (okCallX.M (okx_virtual (Da := mD163) dX11_init_172 rfl mwc_163 (wg7 3 rfl rfl) mwn_163 mwv_163 mwi_163 mwd_163)) (fun _ => okx_virtual (Da := mD163) dX11_init_172 rfl mwc_163 (wg7 3 rfl rfl) mwn_163 mwv_163 mwi_163 mwd_163)
theorem t161_175 : e_ok mD161 175 (1, 5, 3, 0, 176) := oks_astore_n dX11_init_175 rfl (by decide +kernel)
theorem t161_176 : e_ok mD161 176 (1, 1, 0, 0, 177) := okl_aload_n dX11_init_176 rfl
theorem t161_177 : e_ok mD161 177 (7, 0, 16, 1, 180) := And.intro (okw_get dX11_init_177 rfl hin_16 (by decide +kernel) (wg7 9 rfl rfl) rfl) (okx_none (by decide +kernel) _)
theorem t161_180 : e_ok mD161 180 (0, 0, 61, 0, 182) := Or.inl (okc_bipush dX11_init_180 (by decide +kernel))
theorem t161_182 : e_ok mD161 182 (8, 1, 0, 0, 183) := And.intro (oka_z dX11_init_182) (oky_none (by decide) _)
theorem t161_183 : e_ok mD161 183 (5, 0, 291, 0, 186) := okj_eq dX11_init_183 (by decide +kernel)
theorem t161_186 : e_ok mD161 186 (0, 0, 268435456, 0, 188) := Or.inl (okc_ldc dX11_init_186 (wg7 2 rfl rfl))
theorem t161_188 : e_ok mD161 188 (1, 4, 4, 0, 190) := oks_istore dX11_init_188 (by decide +kernel)
theorem t161_190 : e_ok mD161 190 (0, 0, 61, 0, 192) := Or.inl (okc_bipush dX11_init_190 (by decide +kernel))
theorem t161_192 : e_ok mD161 192 (1, 4, 5, 0, 194) := oks_istore dX11_init_192 (by decide +kernel)
theorem t161_194 : e_ok mD161 194 (1, 0, 5, 0, 196) := okl_iload dX11_init_194
theorem t161_196 : e_ok mD161 196 (0, 0, 60, 0, 198) := Or.inl (okc_bipush dX11_init_196 (by decide +kernel))
theorem t161_198 : e_ok mD161 198 (6, 0, 229, 0, 201) := okk_eq dX11_init_198 (by decide +kernel)
theorem t161_201 : e_ok mD161 201 (1, 0, 4, 0, 203) := okl_iload dX11_init_201
theorem t161_203 : e_ok mD161 203 (1, 1, 0, 0, 204) := okl_aload_n dX11_init_203 rfl
theorem t161_204 : e_ok mD161 204 (7, 0, 16, 0, 207) := And.intro (okw_get dX11_init_204 rfl hin_16 (by decide +kernel) (wg7 8 rfl rfl) rfl) (okx_none (by decide +kernel) _)
theorem t161_207 : e_ok mD161 207 (1, 1, 3, 0, 208) := okl_aload_n dX11_init_207 rfl
theorem t161_208 : e_ok mD161 208 (1, 0, 5, 0, 210) := okl_iload dX11_init_208
theorem t161_210 : e_ok mD161 210 (8, 0, 0, 0, 211) := And.intro (oka_i dX11_init_210) (oky_i dX11_init_210)
theorem t161_211 : e_ok mD161 211 (8, 6, 0, 0, 212) := And.intro (oka_q (Or.inl rfl) dX11_init_211) (oky_none (by decide) _)
theorem t161_212 : e_ok mD161 212 (1, 0, 5, 0, 214) := okl_iload dX11_init_212
theorem t161_214 : e_ok mD161 214 (8, 0, 0, 0, 215) := And.intro (oka_i dX11_init_214) (oky_i dX11_init_214)
theorem t161_215 : e_ok mD161 215 (11, 0, 168, 2, 218) := And.intro (okCallX.M (okx_static (Da := mD168) dX11_init_215 rfl mwc_168 (wg7 7 rfl rfl) mws_168 mwi_168 mwd_168)) (fun _ => okx_static (Da := mD168) dX11_init_215 rfl mwc_168 (wg7 7 rfl rfl) mws_168 mwi_168 mwd_168)
theorem t161_218 : e_ok mD161 218 (1, 4, 4, 0, 220) := oks_istore dX11_init_218 (by decide +kernel)
theorem t161_220 : e_ok mD161 220 (1, 1, 3, 0, 221) := okl_aload_n dX11_init_220 rfl
theorem t161_221 : e_ok mD161 221 (1, 0, 5, 0, 223) := okl_iload dX11_init_221
theorem t161_223 : e_ok mD161 223 (8, 0, 0, 0, 224) := And.intro (oka_i dX11_init_223) (oky_i dX11_init_223)
theorem t161_224 : e_ok mD161 224 (1, 4, 5, 0, 226) := oks_istore dX11_init_224 (by decide +kernel)
theorem t161_226 : e_ok mD161 226 (2, 4, 0, 0, 194) := oki_goto dX11_init_226 (by decide +kernel)
theorem t161_229 : e_ok mD161 229 (0, 0, 61, 0, 231) := Or.inl (okc_bipush dX11_init_229 (by decide +kernel))
theorem t161_231 : e_ok mD161 231 (1, 4, 5, 0, 233) := oks_istore dX11_init_231 (by decide +kernel)
theorem t161_233 : e_ok mD161 233 (1, 0, 5, 0, 235) := okl_iload dX11_init_233
theorem t161_235 : e_ok mD161 235 (0, 0, 60, 0, 237) := Or.inl (okc_bipush dX11_init_235 (by decide +kernel))
theorem t161_237 : e_ok mD161 237 (6, 0, 283, 0, 240) := okk_eq dX11_init_237 (by decide +kernel)
theorem t161_240 : e_ok mD161 240 (1, 1, 0, 0, 241) := okl_aload_n dX11_init_240 rfl
theorem t161_241 : e_ok mD161 241 (7, 0, 16, 0, 244) := And.intro (okw_get dX11_init_241 rfl hin_16 (by decide +kernel) (wg7 8 rfl rfl) rfl) (okx_none (by decide +kernel) _)
theorem t161_244 : e_ok mD161 244 (1, 1, 3, 0, 245) := okl_aload_n dX11_init_244 rfl
theorem t161_245 : e_ok mD161 245 (1, 0, 5, 0, 247) := okl_iload dX11_init_245
theorem t161_247 : e_ok mD161 247 (8, 0, 0, 0, 248) := And.intro (oka_i dX11_init_247) (oky_i dX11_init_247)
theorem t161_248 : e_ok mD161 248 (8, 6, 0, 0, 249) := And.intro (oka_q (Or.inl rfl) dX11_init_248) (oky_none (by decide) _)
theorem t161_249 : e_ok mD161 249 (1, 0, 5, 0, 251) := okl_iload dX11_init_249
theorem t161_252 : e_ok mD161 252 (8, 0, 0, 0, 253) := And.intro (oka_i dX11_init_252) (oky_i dX11_init_252)
theorem t161_253 : e_ok mD161 253 (1, 0, 4, 0, 255) := okl_iload dX11_init_253
theorem t161_255 : e_ok mD161 255 (3, 1, 0, 0, 256) := okb_isub dX11_init_255
theorem t161_256 : e_ok mD161 256 (10, 0, 0, 0, 257) := oka_sti dX11_init_256
theorem t161_257 : e_ok mD161 257 (1, 1, 0, 0, 258) := okl_aload_n dX11_init_257 rfl
theorem t161_258 : e_ok mD161 258 (7, 0, 16, 0, 261) := And.intro (okw_get dX11_init_258 rfl hin_16 (by decide +kernel) (wg7 8 rfl rfl) rfl) (okx_none (by decide +kernel) _)
theorem t161_261 : e_ok mD161 261 (1, 0, 5, 0, 263) := okl_iload dX11_init_261
theorem t161_263 : e_ok mD161 263 (8, 6, 0, 0, 264) := And.intro (oka_q (Or.inl rfl) dX11_init_263) (oky_none (by decide) _)
theorem t161_264 : e_ok mD161 264 (1, 1, 3, 0, 265) := okl_aload_n dX11_init_264 rfl
theorem t161_265 : e_ok mD161 265 (1, 0, 5, 0, 267) := okl_iload dX11_init_265
theorem t161_267 : e_ok mD161 267 (8, 0, 0, 0, 268) := And.intro (oka_i dX11_init_267) (oky_i dX11_init_267)
theorem t161_269 : e_ok mD161 269 (8, 0, 0, 0, 270) := And.intro (oka_i dX11_init_269) (oky_i dX11_init_269)
theorem t161_270 : e_ok mD161 270 (1, 0, 4, 0, 272) := okl_iload dX11_init_270
theorem t161_272 : e_ok mD161 272 (3, 0, 0, 0, 273) := okb_iadd dX11_init_272
theorem t161_273 : e_ok mD161 273 (10, 0, 0, 0, 274) := oka_sti dX11_init_273
theorem t161_274 : e_ok mD161 274 (1, 1, 3, 0, 275) := okl_aload_n dX11_init_274 rfl
theorem t161_275 : e_ok mD161 275 (1, 0, 5, 0, 277) := okl_iload dX11_init_275
theorem t161_277 : e_ok mD161 277 (8, 0, 0, 0, 278) := And.intro (oka_i dX11_init_277) (oky_i dX11_init_277)
theorem t161_278 : e_ok mD161 278 (1, 4, 5, 0, 280) := oks_istore dX11_init_278 (by decide +kernel)
theorem t161_280 : e_ok mD161 280 (2, 4, 0, 0, 233) := oki_goto dX11_init_280 (by decide +kernel)
theorem t161_283 : e_ok mD161 283 (1, 1, 0, 0, 284) := okl_aload_n dX11_init_283 rfl
theorem t161_284 : e_ok mD161 284 (11, 2, 163, 1, 287) := And.intro (okCallX.M (okx_virtual (Da := mD163) dX11_init_284 rfl mwc_163 (wg7 3 rfl rfl) mwn_163 mwv_163 mwi_163 mwd_163)) (fun _ => okx_virtual (Da := mD163) dX11_init_284 rfl mwc_163 (wg7 3 rfl rfl) mwn_163 mwv_163 mwi_163 mwd_163)
theorem t161_287 : e_ok mD161 287 (1, 5, 3, 0, 288) := oks_astore_n dX11_init_287 rfl (by decide +kernel)
theorem t161_288 : e_ok mD161 288 (2, 4, 0, 0, 176) := oki_goto dX11_init_288 (by decide +kernel)
theorem t161_291 : e_ok mD161 291 (12, 0, 0, 0, 0) := okr_void dX11_init_291 rfl
theorem t162_0 : e_ok mD162 0 (1, 1, 0, 0, 1) := okl_aload_n dX11_has_0 rfl
theorem t162_1 : e_ok mD162 1 (7, 0, 16, 1, 4) := And.intro (okw_get dX11_has_1 rfl hin_16 (by decide +kernel) (wg7 9 rfl rfl) rfl) (okx_none (by decide +kernel) _)
theorem t162_4 : e_ok mD162 4 (1, 0, 1, 0, 5) := okl_iload_n dX11_has_4 rfl
theorem t162_5 : e_ok mD162 5 (8, 1, 0, 0, 6) := And.intro (oka_z dX11_has_5) (oky_none (by decide) _)
theorem t162_6 : e_ok mD162 6 (12, 6, 0, 0, 0) := okr_bool dX11_has_6 rfl
theorem t163_0 : e_ok mD163 0 (0, 0, 62, 0, 2) := Or.inl (okc_bipush dX11_way_0 (by decide +kernel))
theorem t163_2 : e_ok mD163 2 (16, 0, 0, 0, 4) := And.intro (oka_new (by decide) rfl (wg1 73 rfl rfl) dX11_way_2) (by decide)
theorem t163_4 : e_ok mD163 4 (1, 5, 1, 0, 5) := oks_astore_n dX11_way_4 rfl (by decide +kernel)
theorem t163_5 : e_ok mD163 5 (1, 1, 0, 0, 6) := okl_aload_n dX11_way_5 rfl
theorem t163_6 : e_ok mD163 6 (0, 0, 62, 0, 8) := Or.inl (okc_bipush dX11_way_6 (by decide +kernel))
theorem t163_8 : e_ok mD163 8 (16, 0, 1, 0, 10) := And.intro (oka_new (by decide) rfl (wg1 72 rfl rfl) dX11_way_8) (by decide)
theorem t163_10 : e_ok mD163 10 (9, 7, 16, 1, 13) := okw_put dX11_way_10 rfl hin_16 tyX11_ok nmX11 (by decide +kernel) (wg7 9 rfl rfl) rfl rfl (tyX11_ok 1 (by decide +kernel)) (fun V h => fitV_arr h)
theorem t163_13 : e_ok mD163 13 (1, 1, 0, 0, 14) := okl_aload_n dX11_way_13 rfl
theorem t163_14 : e_ok mD163 14 (7, 0, 16, 1, 17) := And.intro (okw_get dX11_way_14 rfl hin_16 (by decide +kernel) (wg7 9 rfl rfl) rfl) (okx_none (by decide +kernel) _)
theorem t163_17 : e_ok mD163 17 (0, 0, 60, 0, 19) := Or.inl (okc_bipush dX11_way_17 (by decide +kernel))
theorem t163_19 : e_ok mD163 19 (0, 0, 1, 0, 20) := Or.inl (okc_iconst dX11_way_19 (by decide +kernel))
theorem t163_20 : e_ok mD163 20 (10, 1, 0, 0, 21) := oka_stz dX11_way_20
theorem t163_21 : e_ok mD163 21 (0, 0, 62, 0, 23) := Or.inl (okc_bipush dX11_way_21 (by decide +kernel))
theorem t163_23 : e_ok mD163 23 (16, 0, 0, 0, 25) := And.intro (oka_new (by decide) rfl (wg1 73 rfl rfl) dX11_way_23) (by decide)
theorem t163_25 : e_ok mD163 25 (1, 5, 2, 0, 26) := oks_astore_n dX11_way_25 rfl (by decide +kernel)
theorem t163_26 : e_ok mD163 26 (1, 1, 2, 0, 27) := okl_aload_n dX11_way_26 rfl
theorem t163_27 : e_ok mD163 27 (0, 0, 0, 0, 28) := Or.inl (okc_iconst dX11_way_27 (by decide +kernel))
theorem t163_28 : e_ok mD163 28 (0, 0, 60, 0, 30) := Or.inl (okc_bipush dX11_way_28 (by decide +kernel))
theorem t163_30 : e_ok mD163 30 (10, 0, 0, 0, 31) := oka_sti dX11_way_30
theorem t163_31 : e_ok mD163 31 (0, 0, 1, 0, 32) := Or.inl (okc_iconst dX11_way_31 (by decide +kernel))
theorem t163_32 : e_ok mD163 32 (1, 4, 3, 0, 33) := oks_istore_n dX11_way_32 rfl (by decide +kernel)
theorem t163_33 : e_ok mD163 33 (0, 0, 0, 0, 34) := Or.inl (okc_iconst dX11_way_33 (by decide +kernel))
theorem t163_34 : e_ok mD163 34 (1, 4, 4, 0, 36) := oks_istore dX11_way_34 (by decide +kernel)
theorem t163_36 : e_ok mD163 36 (1, 0, 4, 0, 38) := okl_iload dX11_way_36
theorem t163_38 : e_ok mD163 38 (1, 0, 3, 0, 39) := okl_iload_n dX11_way_38 rfl
theorem t163_39 : e_ok mD163 39 (6, 3, 116, 0, 42) := okk_ge dX11_way_39 (by decide +kernel)
theorem t163_42 : e_ok mD163 42 (0, 0, 0, 0, 43) := Or.inl (okc_iconst dX11_way_42 (by decide +kernel))
theorem t163_43 : e_ok mD163 43 (1, 4, 5, 0, 45) := oks_istore dX11_way_43 (by decide +kernel)
theorem t163_45 : e_ok mD163 45 (1, 0, 5, 0, 47) := okl_iload dX11_way_45
theorem t163_47 : e_ok mD163 47 (0, 0, 62, 0, 49) := Or.inl (okc_bipush dX11_way_47 (by decide +kernel))
theorem t163_49 : e_ok mD163 49 (6, 3, 110, 0, 52) := okk_ge dX11_way_49 (by decide +kernel)
theorem t163_52 : e_ok mD163 52 (1, 1, 0, 0, 53) := okl_aload_n dX11_way_52 rfl
theorem t163_53 : e_ok mD163 53 (7, 0, 16, 1, 56) := And.intro (okw_get dX11_way_53 rfl hin_16 (by decide +kernel) (wg7 9 rfl rfl) rfl) (okx_none (by decide +kernel) _)
theorem t163_56 : e_ok mD163 56 (1, 0, 5, 0, 58) := okl_iload dX11_way_56
theorem t163_58 : e_ok mD163 58 (8, 1, 0, 0, 59) := And.intro (oka_z dX11_way_58) (oky_none (by decide) _)
theorem t163_59 : e_ok mD163 59 (5, 1, 104, 0, 62) := okj_ne dX11_way_59 (by decide +kernel)
theorem t163_62 : e_ok mD163 62 (1, 1, 0, 0, 63) := okl_aload_n dX11_way_62 rfl
theorem t163_63 : e_ok mD163 63 (7, 0, 16, 0, 66) := And.intro (okw_get dX11_way_63 rfl hin_16 (by decide +kernel) (wg7 8 rfl rfl) rfl) (okx_none (by decide +kernel) _)
theorem t163_66 : e_ok mD163 66 (1, 1, 2, 0, 67) := okl_aload_n dX11_way_66 rfl
theorem t163_67 : e_ok mD163 67 (1, 0, 4, 0, 69) := okl_iload dX11_way_67
theorem t163_69 : e_ok mD163 69 (8, 0, 0, 0, 70) := And.intro (oka_i dX11_way_69) (oky_i dX11_way_69)
theorem t163_70 : e_ok mD163 70 (8, 6, 0, 0, 71) := And.intro (oka_q (Or.inl rfl) dX11_way_70) (oky_none (by decide) _)
theorem t163_71 : e_ok mD163 71 (1, 0, 5, 0, 73) := okl_iload dX11_way_71
theorem t163_73 : e_ok mD163 73 (8, 0, 0, 0, 74) := And.intro (oka_i dX11_way_73) (oky_i dX11_way_73)
theorem t163_74 : e_ok mD163 74 (5, 1, 80, 0, 77) := okj_ne dX11_way_74 (by decide +kernel)
theorem t163_77 : e_ok mD163 77 (2, 4, 0, 0, 104) := oki_goto dX11_way_77 (by decide +kernel)
theorem t163_80 : e_ok mD163 80 (1, 1, 0, 0, 81) := okl_aload_n dX11_way_80 rfl
theorem t163_81 : e_ok mD163 81 (7, 0, 16, 1, 84) := And.intro (okw_get dX11_way_81 rfl hin_16 (by decide +kernel) (wg7 9 rfl rfl) rfl) (okx_none (by decide +kernel) _)
theorem t163_84 : e_ok mD163 84 (1, 0, 5, 0, 86) := okl_iload dX11_way_84
theorem t163_86 : e_ok mD163 86 (0, 0, 1, 0, 87) := Or.inl (okc_iconst dX11_way_86 (by decide +kernel))
theorem t163_87 : e_ok mD163 87 (10, 1, 0, 0, 88) := oka_stz dX11_way_87
theorem t163_88 : e_ok mD163 88 (1, 1, 1, 0, 89) := okl_aload_n dX11_way_88 rfl
theorem t163_89 : e_ok mD163 89 (1, 0, 5, 0, 91) := okl_iload dX11_way_89
theorem t163_91 : e_ok mD163 91 (1, 1, 2, 0, 92) := okl_aload_n dX11_way_91 rfl
theorem t163_92 : e_ok mD163 92 (1, 0, 4, 0, 94) := okl_iload dX11_way_92
theorem t163_94 : e_ok mD163 94 (8, 0, 0, 0, 95) := And.intro (oka_i dX11_way_94) (oky_i dX11_way_94)
theorem t163_95 : e_ok mD163 95 (10, 0, 0, 0, 96) := oka_sti dX11_way_95
theorem t163_96 : e_ok mD163 96 (1, 1, 2, 0, 97) := okl_aload_n dX11_way_96 rfl
theorem t163_97 : e_ok mD163 97 (1, 0, 3, 0, 98) := okl_iload_n dX11_way_97 rfl
theorem t163_98 : e_ok mD163 98 (1, 0, 5, 0, 100) := okl_iload dX11_way_98
theorem t163_100 : e_ok mD163 100 (10, 0, 0, 0, 101) := oka_sti dX11_way_100
