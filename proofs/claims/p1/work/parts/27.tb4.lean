/-! decoded code: checked -/
theorem tb_d6 : g_mts_6.all ri_deB = true := by decide +kernel
theorem tb_d7 : g_mts_7.all ri_deB = true := by decide +kernel
theorem tb_d8 : g_mts_8.all ri_deB = true := by decide +kernel
theorem tb_d9 : g_mts_9.all ri_deB = true := by decide +kernel
