/-! decoded code: checked -/
theorem tb_d0 : g_mts_0.all ri_deB = true := by decide +kernel
theorem tb_d1 : g_mts_1.all ri_deB = true := by decide +kernel
theorem tb_d2 : g_mts_2.all ri_deB = true := by decide +kernel
