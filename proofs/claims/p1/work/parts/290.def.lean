/-! the ops: what is run, what is asked -/
def g_cd (n : Int32) : List ri_Cd := [(0, .op2 .iand (.arg 0) (.int 63), .int n, true)]
noncomputable def g_run (cs : List ri_Cd) : Bool := match ry_runB g_G (ry_call g_G 30000 8) g_law ri_B0 400 23 g_lv1 [] cs g_mem1 with
  | some r => ri_okB 500 5000 r
  | none => false
/-! add and addBy, in two stages: the call of the program's own method, then the other's, over a world without the program's objects -/
def g_pi2 : List Nat := [0, 1, 15, 19, 20, 21, 22, 23, 24, 29, 30, 31, 32]
def g_lv2 : List (Nat × Jvm.Term) := [(4, .int 0), (3, .index 2), (2, .index 1), (0, .string "" 0)]
def g_mem2 : ri_Me := [.inr (0, 688, .int 0, [(16, .int (-1)), (4, .int 4), (3, .int 1), (0, .int 64)]),
 .inl (8, [.index 0, .index 5, .index 6, .index 3, .index 4, .int 0, .int 0, .int 0, .index 7, .index 8, .int 0, .index 9, .int 0, .int 0, .int (-1), .int 0, .int 0, .int 0, .int 0, .int 0, .int 0, .int 0, .index 10, .index 11, .index 12, .int 0]),
 .inr (3, 1, .long 0, []),
 .inr (0, 688, .int 0, []),
 .inr (0, 6880, .int 0, []),
 .inr (0, 688, .int 0, []),
 .inr (0, 688, .int 0, []),
 .inr (0, 301, .int 0, []),
 .inr (0, 301, .int 0, []),
 .inr (0, 500, .int 0, []),
 .inr (0, 4, .int 0, []),
 .inr (0, 8, .int 0, []),
 .inr (0, 150, .int 0, [])]
theorem g_fit2 : ri_fitB g_pi2 g_lv2 [.int 0] g_mem2 = true := by decide +kernel
noncomputable def g_sum (o : Option ri_Rs) : Option ri_Rs := rz_o none (fun r => rz_if (ri_okB 500 5000 r) (some (ri_Rz 500 5000)) none) o
noncomputable def g_rest : ri_K := fun pc lv st cs mem => g_sum (ry_runB g_G (ry_call g_G 30000 8) g_law ri_B0 400 pc lv st cs mem)
/-- the first stage -/
noncomputable def g_st1 (pc0 : Nat) (cs cs2 : List ri_Cd) : Bool := match ry_runB g_G (ry_call g_G 30000 8) g_law (ri_gs g_pi2 pc0 g_lv2 [.int 0] cs2 g_mem2 500 5000 g_rest) 35 23 g_lv1 [] cs g_mem1 with
  | some r => r.1.isEmpty && (Nat.ble r.2.1 1000 && (Nat.ble r.2.2.1 10000 && r.2.2.2.isEmpty))
  | none => false
/-- the second -/
noncomputable def g_st2 (pc0 : Nat) (cs2 : List ri_Cd) : Bool := match ry_runB g_G (ry_call g_G 30000 8) g_law ri_B0 400 pc0 g_lv2 [.int 0] cs2 g_mem2 with
  | some r => ri_okB 500 5000 r
  | none => false
def g_cs18 : List ri_Cd := [(1, .arg 1, .int 65, true), (1, .arg 1, .int 1, false), (1, .arg 4, .int 3, true), (1, .arg 4, .int 0, false), (1, .arg 1, .arg 3, false), (1, .arg 3, .int 1, false), (1, .arg 2, .int 10, true), (1, .arg 2, .int 0, false), (0, .op2 .iand (.arg 0) (.int 63), .int 18, true)]
def g_cd17 (s : Nat) (v : Bool) : List ri_Cd := [(1, .arg 2, .int (Int32.ofNat (65 - s)), v), (0, .arg 1, .int (Int32.ofNat s), true), (0, .op2 .iand (.arg 0) (.int 63), .int 17, true)]
def g_cs17 (s : Nat) : List ri_Cd := [(1, .arg 2, .int 1, false), (1, .arg 2, .arg 4, false), (1, .arg 4, .int 1, false), (1, .arg 3, .int 10, true), (1, .arg 3, .int 0, false), (1, .arg 2, .int (Int32.ofNat (65 - s)), true), (0, .arg 1, .int (Int32.ofNat s), true), (0, .op2 .iand (.arg 0) (.int 63), .int 17, true)]
noncomputable def g_17 (s : Nat) : Bool := g_run (g_cd17 s false) && (g_st1 1112 (g_cd17 s true) (g_cs17 s) && g_st2 1112 (g_cs17 s))
