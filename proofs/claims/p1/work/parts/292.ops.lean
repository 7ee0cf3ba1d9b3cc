/-! the ops, run through: each leaf answers 1 -/
theorem o_32 : g_run (g_cd 32) = true := by decide +kernel
theorem o_33 : g_run (g_cd 33) = true := by decide +kernel
theorem o_34 : g_run (g_cd 34) = true := by decide +kernel
theorem o_35 : g_run (g_cd 35) = true := by decide +kernel
theorem o_36 : g_run (g_cd 36) = true := by decide +kernel
theorem o_37 : g_run (g_cd 37) = true := by decide +kernel
theorem o_38 : g_run (g_cd 38) = true := by decide +kernel
theorem o_39 : g_run (g_cd 39) = true := by decide +kernel
theorem o_40 : g_run (g_cd 40) = true := by decide +kernel
theorem o_41 : g_run (g_cd 41) = true := by decide +kernel
theorem o_42 : g_run (g_cd 42) = true := by decide +kernel
theorem o_43 : g_run (g_cd 43) = true := by decide +kernel
theorem o_44 : g_run (g_cd 44) = true := by decide +kernel
theorem o_45 : g_run (g_cd 45) = true := by decide +kernel
theorem o_46 : g_run (g_cd 46) = true := by decide +kernel
theorem o_47 : g_run (g_cd 47) = true := by decide +kernel
theorem o_48 : g_run (g_cd 48) = true := by decide +kernel
theorem o_49 : g_run (g_cd 49) = true := by decide +kernel
theorem o_50 : g_run (g_cd 50) = true := by decide +kernel
theorem o_51 : g_run (g_cd 51) = true := by decide +kernel
theorem o_52 : g_run (g_cd 52) = true := by decide +kernel
theorem o_53 : g_run (g_cd 53) = true := by decide +kernel
theorem o_54 : g_run (g_cd 54) = true := by decide +kernel
theorem o_55 : g_run (g_cd 55) = true := by decide +kernel
theorem o_56 : g_run (g_cd 56) = true := by decide +kernel
theorem o_57 : g_run (g_cd 57) = true := by decide +kernel
theorem o_58 : g_run (g_cd 58) = true := by decide +kernel
theorem o_59 : g_run (g_cd 59) = true := by decide +kernel
theorem o_60 : g_run (g_cd 60) = true := by decide +kernel
theorem o_61 : g_run [(1, .op2 .iand (.arg 0) (.int 63), .int 61, false)] = true := by decide +kernel
theorem o_18a : g_st1 1204 (g_cd 18) g_cs18 = true := by decide +kernel
theorem o_18b : g_st2 1204 g_cs18 = true := by decide +kernel
