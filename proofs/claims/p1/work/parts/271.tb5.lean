/-! decoded code of the law: checked, a stretch at a time -/
def ri_deR (M : ri_Mt) (lo n : Nat) : Bool := (List.range n).all (fun k => match (ri_co M)[lo + k]? with
  | some (some (i, len)) => decide (decode (ri_by M) (lo + k) = .ok (i, len))
  | _ => true)
theorem ri_deR_s {M : ri_Mt} {lo n : Nat} (e : ri_deR M lo n = true) {pc : Nat} {i : Instr} {len : Nat} (h1 : lo ≤ pc) (h2 : pc < lo + n) (h : (ri_co M)[pc]? = some (some (i, len))) : decode (ri_by M) pc = .ok (i, len) := by
  have h3 := (List.all_eq_true.mp e) (pc - lo) (List.mem_range.mpr (by omega))
  rw [show lo + (pc - lo) = pc by omega, h] at h3
  exact decide_eq_true_iff.mp h3
theorem tb_w0 : ri_deR g_law 0 120 = true := by decide +kernel
theorem tb_w120 : ri_deR g_law 120 120 = true := by decide +kernel
theorem tb_w240 : ri_deR g_law 240 120 = true := by decide +kernel
theorem tb_w360 : ri_deR g_law 360 120 = true := by decide +kernel
theorem tb_w480 : ri_deR g_law 480 120 = true := by decide +kernel
theorem tb_w600 : ri_deR g_law 600 120 = true := by decide +kernel
