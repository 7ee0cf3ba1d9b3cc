/-! the state of the law behind its constructors; what is asked of an op-/
def g_cd (n : Int32) : List ri_Cd := [(0, .op2 .iand (.arg 0) (.int 63), .int n, true)]
def g_ok (r : ri_Rs) : Bool := r.1.all (fun x => match x.2.2 with
  | .inl (some (.int v)) => v == 1
  | _ => false) && (Nat.ble r.2.1 1000 && (Nat.ble r.2.2.1 10000 && r.2.2.2.isEmpty))
theorem t_pre : (ri_runB g_G (ri_call g_G 30000 8) g_law (ri_stop 23 g_lv0 g_mem0 ([], 0, 0, [])) 13 0 [(0, .string "" 0)] [] [] []).map (fun r => (r.1.length, r.2.1, r.2.2.1, r.2.2.2.length)) = some (0, 192, 20738, 0) := by decide +kernel
