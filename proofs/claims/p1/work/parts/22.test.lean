def t_mem0 : ri_Me := [.inl (7, [.null, .null, .null, .int 0, .null, .null, .null, .null])]
theorem t_c : (ri_call g_G 9000 5 113 [.index 0] [] t_mem0).map (fun r => (r.1.length, r.2.1)) = some (1, 178) := by decide +kernel
