/-! decoded code of the law: checked, a stretch at a time -/
theorem tb_w720 : ri_deR g_law 720 120 = true := by decide +kernel
theorem tb_w840 : ri_deR g_law 840 120 = true := by decide +kernel
theorem tb_w960 : ri_deR g_law 960 120 = true := by decide +kernel
theorem tb_w1080 : ri_deR g_law 1080 120 = true := by decide +kernel
theorem tb_w1200 : ri_deR g_law 1200 120 = true := by decide +kernel
theorem tb_w1320 : ri_deR g_law 1320 120 = true := by decide +kernel
