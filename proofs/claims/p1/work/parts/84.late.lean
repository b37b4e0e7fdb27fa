/-! .. and those that want more -/
theorem t25_10 : e_ok mD25 10 (13, 0, 5, 0, 0) := okt_throwX (text := "the plant had nothing yet") rfl (by decide +kernel) (wg4 196 rfl rfl) (wg1 33 rfl rfl) (by decide +kernel) (hat_of (by decide +kernel)) dX9_recovery_10 dX9_recovery_13 dX9_recovery_14 dX9_recovery_16 dX9_recovery_19
theorem t27_11 : e_ok mD27 11 (13, 0, 5, 0, 0) := okt_throwXW (text := "the block has not been dug") rfl (by decide +kernel) (wg4 196 rfl rfl) (wg1 33 rfl rfl) (by decide +kernel) (hat_of (by decide +kernel)) dX9_requireDug_11 dX9_requireDug_14 dX9_requireDug_15 dX9_requireDug_18 dX9_requireDug_21
theorem t61_53 : e_ok mD61 53 (18, 0, 0, 0, 59) := mdl_ok
