/-! add: start by start -/
theorem o_17lo : g_run [(1, .arg 1, .int 0, true), (0, .op2 .iand (.arg 0) (.int 63), .int 17, true)] = true := by decide +kernel
theorem o_17hi : g_run [(1, .arg 1, .int 64, false), (0, .op2 .iand (.arg 0) (.int 63), .int 17, true)] = true := by decide +kernel
theorem o_17_0 : g_17 0 = true := by decide +kernel
theorem o_17_1 : g_17 1 = true := by decide +kernel
theorem o_17_2 : g_17 2 = true := by decide +kernel
theorem o_17_3 : g_17 3 = true := by decide +kernel
theorem o_17_4 : g_17 4 = true := by decide +kernel
theorem o_17_5 : g_17 5 = true := by decide +kernel
theorem o_17_6 : g_17 6 = true := by decide +kernel
theorem o_17_7 : g_17 7 = true := by decide +kernel
theorem o_17_8 : g_17 8 = true := by decide +kernel
theorem o_17_9 : g_17 9 = true := by decide +kernel
theorem o_17_10 : g_17 10 = true := by decide +kernel
theorem o_17_11 : g_17 11 = true := by decide +kernel
theorem o_17_12 : g_17 12 = true := by decide +kernel
theorem o_17_13 : g_17 13 = true := by decide +kernel
theorem o_17_14 : g_17 14 = true := by decide +kernel
theorem o_17_15 : g_17 15 = true := by decide +kernel
theorem o_17_16 : g_17 16 = true := by decide +kernel
theorem o_17_17 : g_17 17 = true := by decide +kernel
theorem o_17_18 : g_17 18 = true := by decide +kernel
theorem o_17_19 : g_17 19 = true := by decide +kernel
theorem o_17_20 : g_17 20 = true := by decide +kernel
theorem o_17_21 : g_17 21 = true := by decide +kernel
theorem o_17_22 : g_17 22 = true := by decide +kernel
theorem o_17_23 : g_17 23 = true := by decide +kernel
