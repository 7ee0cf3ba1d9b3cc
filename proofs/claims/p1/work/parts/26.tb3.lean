/-! decoded code: checked -/
theorem tb_d3 : g_mts_3.all ri_deB = true := by decide +kernel
theorem tb_d4 : g_mts_4.all ri_deB = true := by decide +kernel
theorem tb_d5 : g_mts_5.all ri_deB = true := by decide +kernel
