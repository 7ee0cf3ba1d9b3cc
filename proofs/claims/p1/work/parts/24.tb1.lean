/-! kinds of objects, methods: checked -/
theorem tb_cl : ri_clL g_TT g_cls g_fts g_hc = true := by decide +kernel
theorem tb_m0 : ri_moL g_TT g_mts_0 g_hm_0 = true := by decide +kernel
theorem tb_m1 : ri_moL g_TT g_mts_1 g_hm_1 = true := by decide +kernel
theorem tb_m2 : ri_moL g_TT g_mts_2 g_hm_2 = true := by decide +kernel
theorem tb_m3 : ri_moL g_TT g_mts_3 g_hm_3 = true := by decide +kernel
theorem tb_m4 : ri_moL g_TT g_mts_4 g_hm_4 = true := by decide +kernel
theorem tb_m5 : ri_moL g_TT g_mts_5 g_hm_5 = true := by decide +kernel
theorem tb_m6 : ri_moL g_TT g_mts_6 g_hm_6 = true := by decide +kernel
theorem tb_m7 : ri_moL g_TT g_mts_7 g_hm_7 = true := by decide +kernel
theorem tb_m8 : ri_moL g_TT g_mts_8 g_hm_8 = true := by decide +kernel
theorem tb_m9 : ri_moL g_TT g_mts_9 g_hm_9 = true := by decide +kernel
theorem tb_ac : ∀ t : ArrayType, ri_isI (newarray.typeOf t) = true → Jvm.Cond.arrayClass (newarray.typeOf t) ∈ g_ALL := by
  intro t h
  cases t <;> first | exact ri_hs_s (T := g_TT) (h := (0, 91)) (by decide +kernel) | exact ri_hs_s (T := g_TT) (h := (8, 215)) (by decide +kernel) | cases h
theorem tb_nc : ∀ q ∈ g_nc, q.2.2 = true → Jvm.Cond.castable q.1 q.2.1 ∈ g_ALL := by
  have h : ri_hsW g_TT ((g_nc.filter (fun q => q.2.2)).map (fun q => Jvm.Cond.castable q.1 q.2.1)) [(3, 166), (4, 140), (4, 35), (4, 7)] = true := by decide +kernel
  intro q hq h1
  exact ri_hsW_s _ _ h _ (List.mem_map.mpr ⟨q, List.mem_filter.mpr ⟨hq, h1⟩, rfl⟩)
