/-! decoded code of the law: the rest of it -/
theorem tb_w1440 : ri_deR g_law 1440 60 = true := by decide +kernel
theorem tb_w1500 : ri_deR g_law 1500 60 = true := by decide +kernel
theorem tb_w1560 : ri_deR g_law 1560 60 = true := by decide +kernel
theorem tb_w1620 : ri_deR g_law 1620 60 = true := by decide +kernel
theorem tb_w1680 : ri_deR g_law 1680 60 = true := by decide +kernel
theorem tb_w1740 : ri_deR g_law 1740 60 = true := by decide +kernel
theorem tb_w1800 : ri_deR g_law 1800 60 = true := by decide +kernel
theorem tb_w1860 : ri_deR g_law 1860 60 = true := by decide +kernel
theorem tb_w1920 : ri_deR g_law 1920 60 = true := by decide +kernel
theorem tb_w1980 : ri_deR g_law 1980 60 = true := by decide +kernel
theorem tb_w2040 : ri_deR g_law 2040 50 = true := by decide +kernel
theorem tb_w2090 : ri_deR g_law 2090 50 = true := by decide +kernel
theorem tb_w2140 : ri_deR g_law 2140 50 = true := by decide +kernel
theorem tb_w2190 : ri_deR g_law 2190 50 = true := by decide +kernel
theorem tb_w2240 : ri_deR g_law 2240 50 = true := by decide +kernel
theorem tb_w2290 : ri_deR g_law 2290 50 = true := by decide +kernel
theorem tb_w2340 : ri_deR g_law 2340 50 = true := by decide +kernel
theorem tb_w2390 : ri_deR g_law 2390 50 = true := by decide +kernel
theorem tb_w2440 : ri_deR g_law 2440 50 = true := by decide +kernel
theorem tb_w2490 : ri_deR g_law 2490 50 = true := by decide +kernel
theorem tb_w2540 : ri_deR g_law 2540 40 = true := by decide +kernel
theorem tb_w2580 : ri_deR g_law 2580 40 = true := by decide +kernel
theorem tb_w2620 : ri_deR g_law 2620 40 = true := by decide +kernel
theorem tb_w2660 : ri_deR g_law 2660 40 = true := by decide +kernel
theorem tb_w2700 : ri_deR g_law 2700 40 = true := by decide +kernel
theorem tb_w2740 : ri_deR g_law 2740 40 = true := by decide +kernel
theorem tb_w2780 : ri_deR g_law 2780 40 = true := by decide +kernel
theorem tb_w2820 : ri_deR g_law 2820 40 = true := by decide +kernel
theorem tb_w2860 : ri_deR g_law 2860 40 = true := by decide +kernel
theorem tb_w2900 : ri_deR g_law 2900 40 = true := by decide +kernel
theorem tb_w2940 : ri_deR g_law 2940 40 = true := by decide +kernel
theorem tb_w2980 : ri_deR g_law 2980 40 = true := by decide +kernel
theorem tb_w3020 : ri_deR g_law 3020 40 = true := by decide +kernel
theorem tb_w3060 : ri_deR g_law 3060 40 = true := by decide +kernel
theorem tb_w3100 : ri_deR g_law 3100 40 = true := by decide +kernel
theorem tb_w3140 : ri_deR g_law 3140 40 = true := by decide +kernel
theorem tb_w3180 : ri_deR g_law 3180 40 = true := by decide +kernel
theorem tb_w3220 : ri_deR g_law 3220 40 = true := by decide +kernel
theorem tb_w3260 : ri_deR g_law 3260 13 = true := by decide +kernel
theorem tb_dl : ∀ pc i len, (ri_co g_law)[pc]? = some (some (i, len)) → decode (ri_by g_law) pc = .ok (i, len) := by
  intro pc i len h
  have hl : pc < 3273 := by
    have h1 := (List.getElem?_eq_some_iff.mp h).1
    have h2 : (ri_co g_law).length = 3273 := by decide +kernel
    omega
  by_cases h0 : pc < 120
  · exact ri_deR_s tb_w0 (by omega) (by omega) h
  by_cases h120 : pc < 240
  · exact ri_deR_s tb_w120 (by omega) (by omega) h
  by_cases h240 : pc < 360
  · exact ri_deR_s tb_w240 (by omega) (by omega) h
  by_cases h360 : pc < 480
  · exact ri_deR_s tb_w360 (by omega) (by omega) h
  by_cases h480 : pc < 600
  · exact ri_deR_s tb_w480 (by omega) (by omega) h
  by_cases h600 : pc < 720
  · exact ri_deR_s tb_w600 (by omega) (by omega) h
  by_cases h720 : pc < 840
  · exact ri_deR_s tb_w720 (by omega) (by omega) h
  by_cases h840 : pc < 960
  · exact ri_deR_s tb_w840 (by omega) (by omega) h
  by_cases h960 : pc < 1080
  · exact ri_deR_s tb_w960 (by omega) (by omega) h
  by_cases h1080 : pc < 1200
  · exact ri_deR_s tb_w1080 (by omega) (by omega) h
  by_cases h1200 : pc < 1320
  · exact ri_deR_s tb_w1200 (by omega) (by omega) h
  by_cases h1320 : pc < 1440
  · exact ri_deR_s tb_w1320 (by omega) (by omega) h
  by_cases h1440 : pc < 1500
  · exact ri_deR_s tb_w1440 (by omega) (by omega) h
  by_cases h1500 : pc < 1560
  · exact ri_deR_s tb_w1500 (by omega) (by omega) h
  by_cases h1560 : pc < 1620
  · exact ri_deR_s tb_w1560 (by omega) (by omega) h
  by_cases h1620 : pc < 1680
  · exact ri_deR_s tb_w1620 (by omega) (by omega) h
  by_cases h1680 : pc < 1740
  · exact ri_deR_s tb_w1680 (by omega) (by omega) h
  by_cases h1740 : pc < 1800
  · exact ri_deR_s tb_w1740 (by omega) (by omega) h
  by_cases h1800 : pc < 1860
  · exact ri_deR_s tb_w1800 (by omega) (by omega) h
  by_cases h1860 : pc < 1920
  · exact ri_deR_s tb_w1860 (by omega) (by omega) h
  by_cases h1920 : pc < 1980
  · exact ri_deR_s tb_w1920 (by omega) (by omega) h
  by_cases h1980 : pc < 2040
  · exact ri_deR_s tb_w1980 (by omega) (by omega) h
  by_cases h2040 : pc < 2090
  · exact ri_deR_s tb_w2040 (by omega) (by omega) h
  by_cases h2090 : pc < 2140
  · exact ri_deR_s tb_w2090 (by omega) (by omega) h
  by_cases h2140 : pc < 2190
  · exact ri_deR_s tb_w2140 (by omega) (by omega) h
  by_cases h2190 : pc < 2240
  · exact ri_deR_s tb_w2190 (by omega) (by omega) h
  by_cases h2240 : pc < 2290
  · exact ri_deR_s tb_w2240 (by omega) (by omega) h
  by_cases h2290 : pc < 2340
  · exact ri_deR_s tb_w2290 (by omega) (by omega) h
  by_cases h2340 : pc < 2390
  · exact ri_deR_s tb_w2340 (by omega) (by omega) h
  by_cases h2390 : pc < 2440
  · exact ri_deR_s tb_w2390 (by omega) (by omega) h
  by_cases h2440 : pc < 2490
  · exact ri_deR_s tb_w2440 (by omega) (by omega) h
  by_cases h2490 : pc < 2540
  · exact ri_deR_s tb_w2490 (by omega) (by omega) h
  by_cases h2540 : pc < 2580
  · exact ri_deR_s tb_w2540 (by omega) (by omega) h
  by_cases h2580 : pc < 2620
  · exact ri_deR_s tb_w2580 (by omega) (by omega) h
  by_cases h2620 : pc < 2660
  · exact ri_deR_s tb_w2620 (by omega) (by omega) h
  by_cases h2660 : pc < 2700
  · exact ri_deR_s tb_w2660 (by omega) (by omega) h
  by_cases h2700 : pc < 2740
  · exact ri_deR_s tb_w2700 (by omega) (by omega) h
  by_cases h2740 : pc < 2780
  · exact ri_deR_s tb_w2740 (by omega) (by omega) h
  by_cases h2780 : pc < 2820
  · exact ri_deR_s tb_w2780 (by omega) (by omega) h
  by_cases h2820 : pc < 2860
  · exact ri_deR_s tb_w2820 (by omega) (by omega) h
  by_cases h2860 : pc < 2900
  · exact ri_deR_s tb_w2860 (by omega) (by omega) h
  by_cases h2900 : pc < 2940
  · exact ri_deR_s tb_w2900 (by omega) (by omega) h
  by_cases h2940 : pc < 2980
  · exact ri_deR_s tb_w2940 (by omega) (by omega) h
  by_cases h2980 : pc < 3020
  · exact ri_deR_s tb_w2980 (by omega) (by omega) h
  by_cases h3020 : pc < 3060
  · exact ri_deR_s tb_w3020 (by omega) (by omega) h
  by_cases h3060 : pc < 3100
  · exact ri_deR_s tb_w3060 (by omega) (by omega) h
  by_cases h3100 : pc < 3140
  · exact ri_deR_s tb_w3100 (by omega) (by omega) h
  by_cases h3140 : pc < 3180
  · exact ri_deR_s tb_w3140 (by omega) (by omega) h
  by_cases h3180 : pc < 3220
  · exact ri_deR_s tb_w3180 (by omega) (by omega) h
  by_cases h3220 : pc < 3260
  · exact ri_deR_s tb_w3220 (by omega) (by omega) h
  by_cases h3260 : pc < 3273
  · exact ri_deR_s tb_w3260 (by omega) (by omega) h
  omega
