/-! add: start by start -/
def g_cd17 (s : Nat) (v : Bool) : List ri_Cd := [(1, .arg 2, .int (Int32.ofNat (65 - s)), v), (0, .arg 1, .int (Int32.ofNat s), true), (0, .op2 .iand (.arg 0) (.int 63), .int 17, true)]
def g_cs17 (s : Nat) : List ri_Cd := [(1, .arg 2, .int 1, false), (1, .arg 2, .arg 4, false), (1, .arg 4, .int 1, false), (1, .arg 3, .int 10, true), (1, .arg 3, .int 0, false), (1, .arg 2, .int (Int32.ofNat (65 - s)), true), (0, .arg 1, .int (Int32.ofNat s), true), (0, .op2 .iand (.arg 0) (.int 63), .int 17, true)]
noncomputable def g_17 (s : Nat) : Bool := g_run (g_cd17 s false) && (g_st1 1112 (g_cd17 s true) (g_cs17 s) && g_st2 1112 (g_cs17 s))
theorem o_17lo : g_run [(1, .arg 1, .int 0, true), (0, .op2 .iand (.arg 0) (.int 63), .int 17, true)] = true := (gy_run_eq _).symm.trans (by decide +kernel)
theorem o_17hi : g_run [(1, .arg 1, .int 64, false), (0, .op2 .iand (.arg 0) (.int 63), .int 17, true)] = true := (gy_run_eq _).symm.trans (by decide +kernel)
noncomputable def gy_17 (s : Nat) : Bool := gy_run (g_cd17 s false) && (gy_st1 1112 (g_cd17 s true) (g_cs17 s) && gy_st2 1112 (g_cs17 s))
theorem gy_17_eq (s : Nat) : g_17 s = gy_17 s := by
  unfold gy_17 g_17
  rw [gy_run_eq, gy_st1_eq, gy_st2_eq]
theorem o_17_0 : g_17 0 = true := (gy_17_eq 0).trans (by decide +kernel)
theorem o_17_1 : g_17 1 = true := (gy_17_eq 1).trans (by decide +kernel)
theorem o_17_2 : g_17 2 = true := (gy_17_eq 2).trans (by decide +kernel)
theorem o_17_3 : g_17 3 = true := (gy_17_eq 3).trans (by decide +kernel)
theorem o_17_4 : g_17 4 = true := (gy_17_eq 4).trans (by decide +kernel)
theorem o_17_5 : g_17 5 = true := (gy_17_eq 5).trans (by decide +kernel)
theorem o_17_6 : g_17 6 = true := (gy_17_eq 6).trans (by decide +kernel)
theorem o_17_7 : g_17 7 = true := (gy_17_eq 7).trans (by decide +kernel)
theorem o_17_8 : g_17 8 = true := (gy_17_eq 8).trans (by decide +kernel)
theorem o_17_9 : g_17 9 = true := (gy_17_eq 9).trans (by decide +kernel)
theorem o_17_10 : g_17 10 = true := (gy_17_eq 10).trans (by decide +kernel)
theorem o_17_11 : g_17 11 = true := (gy_17_eq 11).trans (by decide +kernel)
theorem o_17_12 : g_17 12 = true := (gy_17_eq 12).trans (by decide +kernel)
theorem o_17_13 : g_17 13 = true := (gy_17_eq 13).trans (by decide +kernel)
theorem o_17_14 : g_17 14 = true := (gy_17_eq 14).trans (by decide +kernel)
theorem o_17_15 : g_17 15 = true := (gy_17_eq 15).trans (by decide +kernel)
theorem o_17_16 : g_17 16 = true := (gy_17_eq 16).trans (by decide +kernel)
theorem o_17_17 : g_17 17 = true := (gy_17_eq 17).trans (by decide +kernel)
theorem o_17_18 : g_17 18 = true := (gy_17_eq 18).trans (by decide +kernel)
theorem o_17_19 : g_17 19 = true := (gy_17_eq 19).trans (by decide +kernel)
theorem o_17_20 : g_17 20 = true := (gy_17_eq 20).trans (by decide +kernel)
theorem o_17_21 : g_17 21 = true := (gy_17_eq 21).trans (by decide +kernel)
theorem o_17_22 : g_17 22 = true := (gy_17_eq 22).trans (by decide +kernel)
theorem o_17_23 : g_17 23 = true := (gy_17_eq 23).trans (by decide +kernel)
