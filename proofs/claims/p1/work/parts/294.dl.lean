theorem tb_dl : ∀ pc i len, (ri_co g_law)[pc]? = some (some (i, len)) → decode (ri_by g_law) pc = .ok (i, len) := sorry
