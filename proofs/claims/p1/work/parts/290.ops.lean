/-! the ops, run through: each leaf answers 1 -/
def g_cd (n : Int32) : List ri_Cd := [(0, .op2 .iand (.arg 0) (.int 63), .int n, true)]
noncomputable def g_run (cs : List ri_Cd) : Bool := match rz_runB g_G (rz_call g_G 30000 8) g_law ri_B0 400 23 g_lv1 [] cs g_mem1 with
  | some r => ri_okB 500 5000 r
  | none => false
theorem o_0 : g_run (g_cd 0) = true := by decide +kernel
theorem o_1 : g_run (g_cd 1) = true := by decide +kernel
theorem o_2 : g_run (g_cd 2) = true := by decide +kernel
theorem o_3 : g_run (g_cd 3) = true := by decide +kernel
theorem o_4 : g_run (g_cd 4) = true := by decide +kernel
theorem o_5 : g_run (g_cd 5) = true := by decide +kernel
theorem o_6 : g_run (g_cd 6) = true := by decide +kernel
theorem o_7 : g_run (g_cd 7) = true := by decide +kernel
theorem o_8 : g_run (g_cd 8) = true := by decide +kernel
theorem o_9 : g_run (g_cd 9) = true := by decide +kernel
theorem o_10 : g_run (g_cd 10) = true := by decide +kernel
theorem o_11 : g_run (g_cd 11) = true := by decide +kernel
theorem o_12 : g_run (g_cd 12) = true := by decide +kernel
theorem o_13 : g_run (g_cd 13) = true := by decide +kernel
theorem o_14 : g_run (g_cd 14) = true := by decide +kernel
theorem o_15 : g_run (g_cd 15) = true := by decide +kernel
theorem o_16 : g_run (g_cd 16) = true := by decide +kernel
theorem o_19 : g_run (g_cd 19) = true := by decide +kernel
theorem o_20 : g_run (g_cd 20) = true := by decide +kernel
theorem o_21 : g_run (g_cd 21) = true := by decide +kernel
theorem o_22 : g_run (g_cd 22) = true := by decide +kernel
theorem o_23 : g_run (g_cd 23) = true := by decide +kernel
theorem o_24 : g_run (g_cd 24) = true := by decide +kernel
theorem o_25 : g_run (g_cd 25) = true := by decide +kernel
theorem o_26 : g_run (g_cd 26) = true := by decide +kernel
theorem o_27 : g_run (g_cd 27) = true := by decide +kernel
theorem o_28 : g_run (g_cd 28) = true := by decide +kernel
theorem o_29 : g_run (g_cd 29) = true := by decide +kernel
theorem o_30 : g_run (g_cd 30) = true := by decide +kernel
theorem o_31 : g_run (g_cd 31) = true := by decide +kernel
