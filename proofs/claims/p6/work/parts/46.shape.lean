/-! the shape of the cells behind the constructors -/
def g_shP (i : Nat) : ra_Hc := .inl (5, [some (ra_I i), none, none, none, none, some (.arg 0), none, none])
def g_shD (D : Nat) : ra_Sh := [.inl (0, [some (.index (D + 1)), some (.index (D + 2)), some (.index (D + 3)), some (.index (D + 4)), none, none, none, none, none, none, none, none, none]), .inr (0, 600, false, none), .inr (2, 8, false, some [.index (D + 5), .index (D + 6), .index (D + 7), .index (D + 8), .index (D + 9), .index (D + 10), .index (D + 11), .index (D + 12)]), .inl (3, [none, none, none, none, none, none, none, none, some (.arg 0)]), .inr (0, 8, false, none), g_shP 0, g_shP 1, g_shP 2, g_shP 3, g_shP 4, g_shP 5, g_shP 6, g_shP 7]
def g_sh : ra_Sh := [.inl (7, [some (.index 1), some (.index 14), some (.index 27), some (.arg 0), some (.index 40), some (.index 172), some (.index 175), some (.index 177)])] ++ g_shD 1 ++ g_shD 14 ++ g_shD 27 ++ [.inl (2, [some (.index 41), none, none]), .inr (1, 10, false, some [.index 42, .index 55, .index 68, .index 81, .index 94, .index 107, .index 120, .index 133, .index 146, .index 159])] ++ g_shD 42 ++ g_shD 55 ++ g_shD 68 ++ g_shD 81 ++ g_shD 94 ++ g_shD 107 ++ g_shD 120 ++ g_shD 133 ++ g_shD 146 ++ g_shD 159 ++ [.inl (1, [some (.index 173), some (.index 174), none, none]), .inr (0, 11, false, none), .inr (0, 11, false, none), .inl (6, [some (.index 176), none, none, none, none, none, none, none, some (.arg 0), some (.arg 0), some (.arg 0), some (.arg 0)]), .inr (0, 500, false, none), .inl (4, [some (.index 178), none]), .inr (0, 128, false, none), .inl (8, [some (.index 180), some (.index 181), some (.index 182), some (.index 183), some (.index 184), none, some (.arg 0), none, some (.index 185), some (.index 186), none, some (.index 187), none, none, none, none, none, none, none, none, none, none, some (.index 188), some (.index 189), some (.index 190), none]), .inr (0, 688, false, none), .inr (0, 688, false, none), .inr (0, 688, false, none), .inr (0, 688, false, none), .inr (0, 6880, false, none), .inr (0, 301, false, none), .inr (0, 301, false, none), .inr (0, 500, false, none), .inr (0, 4, false, none), .inr (0, 8, false, none), .inr (0, 150, false, none), .inr (3, 1, true, none)]
def g_bases : List Nat := [1, 14, 27, 42, 55, 68, 81, 94, 107, 120, 133, 146, 159]
def isD (D : Nat) : Prop := D ∈ g_bases
theorem sh_len : g_sh.length = 192 := by decide +kernel
theorem sh_at_1 (j : Nat) (hj : j < 13) : g_sh[1 + j]? = (g_shD 1)[j]? := by
  match j, hj with
  | 0, _ => rfl
  | 1, _ => rfl
  | 2, _ => rfl
  | 3, _ => rfl
  | 4, _ => rfl
  | 5, _ => rfl
  | 6, _ => rfl
  | 7, _ => rfl
  | 8, _ => rfl
  | 9, _ => rfl
  | 10, _ => rfl
  | 11, _ => rfl
  | 12, _ => rfl
theorem sh_at_14 (j : Nat) (hj : j < 13) : g_sh[14 + j]? = (g_shD 14)[j]? := by
  match j, hj with
  | 0, _ => rfl
  | 1, _ => rfl
  | 2, _ => rfl
  | 3, _ => rfl
  | 4, _ => rfl
  | 5, _ => rfl
  | 6, _ => rfl
  | 7, _ => rfl
  | 8, _ => rfl
  | 9, _ => rfl
  | 10, _ => rfl
  | 11, _ => rfl
  | 12, _ => rfl
theorem sh_at_27 (j : Nat) (hj : j < 13) : g_sh[27 + j]? = (g_shD 27)[j]? := by
  match j, hj with
  | 0, _ => rfl
  | 1, _ => rfl
  | 2, _ => rfl
  | 3, _ => rfl
  | 4, _ => rfl
  | 5, _ => rfl
  | 6, _ => rfl
  | 7, _ => rfl
  | 8, _ => rfl
  | 9, _ => rfl
  | 10, _ => rfl
  | 11, _ => rfl
  | 12, _ => rfl
theorem sh_at_42 (j : Nat) (hj : j < 13) : g_sh[42 + j]? = (g_shD 42)[j]? := by
  match j, hj with
  | 0, _ => rfl
  | 1, _ => rfl
  | 2, _ => rfl
  | 3, _ => rfl
  | 4, _ => rfl
  | 5, _ => rfl
  | 6, _ => rfl
  | 7, _ => rfl
  | 8, _ => rfl
  | 9, _ => rfl
  | 10, _ => rfl
  | 11, _ => rfl
  | 12, _ => rfl
theorem sh_at_55 (j : Nat) (hj : j < 13) : g_sh[55 + j]? = (g_shD 55)[j]? := by
  match j, hj with
  | 0, _ => rfl
  | 1, _ => rfl
  | 2, _ => rfl
  | 3, _ => rfl
  | 4, _ => rfl
  | 5, _ => rfl
  | 6, _ => rfl
  | 7, _ => rfl
  | 8, _ => rfl
  | 9, _ => rfl
  | 10, _ => rfl
  | 11, _ => rfl
  | 12, _ => rfl
theorem sh_at_68 (j : Nat) (hj : j < 13) : g_sh[68 + j]? = (g_shD 68)[j]? := by
  match j, hj with
  | 0, _ => rfl
  | 1, _ => rfl
  | 2, _ => rfl
  | 3, _ => rfl
  | 4, _ => rfl
  | 5, _ => rfl
  | 6, _ => rfl
  | 7, _ => rfl
  | 8, _ => rfl
  | 9, _ => rfl
  | 10, _ => rfl
  | 11, _ => rfl
  | 12, _ => rfl
theorem sh_at_81 (j : Nat) (hj : j < 13) : g_sh[81 + j]? = (g_shD 81)[j]? := by
  match j, hj with
  | 0, _ => rfl
  | 1, _ => rfl
  | 2, _ => rfl
  | 3, _ => rfl
  | 4, _ => rfl
  | 5, _ => rfl
  | 6, _ => rfl
  | 7, _ => rfl
  | 8, _ => rfl
  | 9, _ => rfl
  | 10, _ => rfl
  | 11, _ => rfl
  | 12, _ => rfl
theorem sh_at_94 (j : Nat) (hj : j < 13) : g_sh[94 + j]? = (g_shD 94)[j]? := by
  match j, hj with
  | 0, _ => rfl
  | 1, _ => rfl
  | 2, _ => rfl
  | 3, _ => rfl
  | 4, _ => rfl
  | 5, _ => rfl
  | 6, _ => rfl
  | 7, _ => rfl
  | 8, _ => rfl
  | 9, _ => rfl
  | 10, _ => rfl
  | 11, _ => rfl
  | 12, _ => rfl
theorem sh_at_107 (j : Nat) (hj : j < 13) : g_sh[107 + j]? = (g_shD 107)[j]? := by
  match j, hj with
  | 0, _ => rfl
  | 1, _ => rfl
  | 2, _ => rfl
  | 3, _ => rfl
  | 4, _ => rfl
  | 5, _ => rfl
  | 6, _ => rfl
  | 7, _ => rfl
  | 8, _ => rfl
  | 9, _ => rfl
  | 10, _ => rfl
  | 11, _ => rfl
  | 12, _ => rfl
theorem sh_at_120 (j : Nat) (hj : j < 13) : g_sh[120 + j]? = (g_shD 120)[j]? := by
  match j, hj with
  | 0, _ => rfl
  | 1, _ => rfl
  | 2, _ => rfl
  | 3, _ => rfl
  | 4, _ => rfl
  | 5, _ => rfl
  | 6, _ => rfl
  | 7, _ => rfl
  | 8, _ => rfl
  | 9, _ => rfl
  | 10, _ => rfl
  | 11, _ => rfl
  | 12, _ => rfl
theorem sh_at_133 (j : Nat) (hj : j < 13) : g_sh[133 + j]? = (g_shD 133)[j]? := by
  match j, hj with
  | 0, _ => rfl
  | 1, _ => rfl
  | 2, _ => rfl
  | 3, _ => rfl
  | 4, _ => rfl
  | 5, _ => rfl
  | 6, _ => rfl
  | 7, _ => rfl
  | 8, _ => rfl
  | 9, _ => rfl
  | 10, _ => rfl
  | 11, _ => rfl
  | 12, _ => rfl
theorem sh_at_146 (j : Nat) (hj : j < 13) : g_sh[146 + j]? = (g_shD 146)[j]? := by
  match j, hj with
  | 0, _ => rfl
  | 1, _ => rfl
  | 2, _ => rfl
  | 3, _ => rfl
  | 4, _ => rfl
  | 5, _ => rfl
  | 6, _ => rfl
  | 7, _ => rfl
  | 8, _ => rfl
  | 9, _ => rfl
  | 10, _ => rfl
  | 11, _ => rfl
  | 12, _ => rfl
theorem sh_at_159 (j : Nat) (hj : j < 13) : g_sh[159 + j]? = (g_shD 159)[j]? := by
  match j, hj with
  | 0, _ => rfl
  | 1, _ => rfl
  | 2, _ => rfl
  | 3, _ => rfl
  | 4, _ => rfl
  | 5, _ => rfl
  | 6, _ => rfl
  | 7, _ => rfl
  | 8, _ => rfl
  | 9, _ => rfl
  | 10, _ => rfl
  | 11, _ => rfl
  | 12, _ => rfl
theorem sh_at (D : Nat) (h : isD D) (j : Nat) (hj : j < 13) : g_sh[D + j]? = (g_shD D)[j]? := by
  unfold isD g_bases at h
  simp only [List.mem_cons, List.not_mem_nil, or_false] at h
  rcases h with rfl | rfl | rfl | rfl | rfl | rfl | rfl | rfl | rfl | rfl | rfl | rfl | rfl
  · exact sh_at_1 j hj
  · exact sh_at_14 j hj
  · exact sh_at_27 j hj
  · exact sh_at_42 j hj
  · exact sh_at_55 j hj
  · exact sh_at_68 j hj
  · exact sh_at_81 j hj
  · exact sh_at_94 j hj
  · exact sh_at_107 j hj
  · exact sh_at_120 j hj
  · exact sh_at_133 j hj
  · exact sh_at_146 j hj
  · exact sh_at_159 j hj
theorem sh_D {D : Nat} (h : isD D) : g_sh[D]? = some (.inl (0, [some (.index (D + 1)), some (.index (D + 2)), some (.index (D + 3)), some (.index (D + 4)), none, none, none, none, none, none, none, none, none])) := sh_at D h 0 (by decide)
theorem sh_D1 {D : Nat} (h : isD D) : g_sh[D + 1]? = some (.inr (0, 600, false, none)) := sh_at D h 1 (by decide)
theorem sh_D2 {D : Nat} (h : isD D) : g_sh[D + 2]? = some (.inr (2, 8, false, some [.index (D + 5), .index (D + 6), .index (D + 7), .index (D + 8), .index (D + 9), .index (D + 10), .index (D + 11), .index (D + 12)])) := sh_at D h 2 (by decide)
theorem sh_D3 {D : Nat} (h : isD D) : g_sh[D + 3]? = some (.inl (3, [none, none, none, none, none, none, none, none, some (.arg 0)])) := sh_at D h 3 (by decide)
theorem sh_D4 {D : Nat} (h : isD D) : g_sh[D + 4]? = some (.inr (0, 8, false, none)) := sh_at D h 4 (by decide)
theorem sh_P {D i : Nat} (h : isD D) (hi : i < 8) : g_sh[D + 5 + i]? = some (.inl (5, [some (ra_I i), none, none, none, none, some (.arg 0), none, none])) := by
  rw [Nat.add_assoc, sh_at D h (5 + i) (by omega)]
  match i, hi with
  | 0, _ => rfl
  | 1, _ => rfl
  | 2, _ => rfl
  | 3, _ => rfl
  | 4, _ => rfl
  | 5, _ => rfl
  | 6, _ => rfl
  | 7, _ => rfl
theorem sh_pt {D : Nat} {z : Int} (h0 : 0 ≤ z) (h1 : z < 8) : ([.index (D + 5), .index (D + 6), .index (D + 7), .index (D + 8), .index (D + 9), .index (D + 10), .index (D + 11), .index (D + 12)] : List Jvm.Term)[z.toNat]? = some (.index (D + 5 + z.toNat)) := by
  have h : z.toNat < 8 := by omega
  generalize z.toNat = i at h
  match i, h with
  | 0, _ => rfl
  | 1, _ => rfl
  | 2, _ => rfl
  | 3, _ => rfl
  | 4, _ => rfl
  | 5, _ => rfl
  | 6, _ => rfl
  | 7, _ => rfl
theorem isD_le {D : Nat} (h : isD D) : 1 ≤ D ∧ D ≤ 159 := by
  have key : ∀ D ∈ g_bases, 1 ≤ D ∧ D ≤ 159 := by decide
  exact key D h
theorem isD_1 : isD 1 := by unfold isD; decide
theorem isD_14 : isD 14 := by unfold isD; decide
theorem isD_27 : isD 27 := by unfold isD; decide
theorem isD_h {i : Nat} (h : i < 10) : isD (42 + 13 * i) := by
  have key : ∀ i, i < 10 → 42 + 13 * i ∈ g_bases := by decide
  exact key i h
theorem sh_past {z : Int} (h0 : 0 ≤ z) (h1 : z < 10) : ([.index 42, .index 55, .index 68, .index 81, .index 94, .index 107, .index 120, .index 133, .index 146, .index 159] : List Jvm.Term)[z.toNat]? = some (.index (42 + 13 * z.toNat)) := by
  have h : z.toNat < 10 := by omega
  generalize z.toNat = i at h
  match i, h with
  | 0, _ => rfl
  | 1, _ => rfl
  | 2, _ => rfl
  | 3, _ => rfl
  | 4, _ => rfl
  | 5, _ => rfl
  | 6, _ => rfl
  | 7, _ => rfl
  | 8, _ => rfl
  | 9, _ => rfl
theorem sh_0 : g_sh[0]? = some (.inl (7, [some (.index 1), some (.index 14), some (.index 27), some (.arg 0), some (.index 40), some (.index 172), some (.index 175), some (.index 177)])) := rfl
theorem sh_40 : g_sh[40]? = some (.inl (2, [some (.index 41), none, none])) := rfl
theorem sh_41 : g_sh[41]? = some (.inr (1, 10, false, some [.index 42, .index 55, .index 68, .index 81, .index 94, .index 107, .index 120, .index 133, .index 146, .index 159])) := rfl
theorem sh_172 : g_sh[172]? = some (.inl (1, [some (.index 173), some (.index 174), none, none])) := rfl
theorem sh_173 : g_sh[173]? = some (.inr (0, 11, false, none)) := rfl
theorem sh_174 : g_sh[174]? = some (.inr (0, 11, false, none)) := rfl
theorem sh_175 : g_sh[175]? = some (.inl (6, [some (.index 176), none, none, none, none, none, none, none, some (.arg 0), some (.arg 0), some (.arg 0), some (.arg 0)])) := rfl
theorem sh_176 : g_sh[176]? = some (.inr (0, 500, false, none)) := rfl
theorem sh_177 : g_sh[177]? = some (.inl (4, [some (.index 178), none])) := rfl
theorem sh_178 : g_sh[178]? = some (.inr (0, 128, false, none)) := rfl
theorem sh_179 : g_sh[179]? = some (.inl (8, [some (.index 180), some (.index 181), some (.index 182), some (.index 183), some (.index 184), none, some (.arg 0), none, some (.index 185), some (.index 186), none, some (.index 187), none, none, none, none, none, none, none, none, none, none, some (.index 188), some (.index 189), some (.index 190), none])) := rfl
theorem sh_180 : g_sh[180]? = some (.inr (0, 688, false, none)) := rfl
theorem sh_181 : g_sh[181]? = some (.inr (0, 688, false, none)) := rfl
theorem sh_182 : g_sh[182]? = some (.inr (0, 688, false, none)) := rfl
theorem sh_183 : g_sh[183]? = some (.inr (0, 688, false, none)) := rfl
theorem sh_184 : g_sh[184]? = some (.inr (0, 6880, false, none)) := rfl
theorem sh_185 : g_sh[185]? = some (.inr (0, 301, false, none)) := rfl
theorem sh_186 : g_sh[186]? = some (.inr (0, 301, false, none)) := rfl
theorem sh_187 : g_sh[187]? = some (.inr (0, 500, false, none)) := rfl
theorem sh_188 : g_sh[188]? = some (.inr (0, 4, false, none)) := rfl
theorem sh_189 : g_sh[189]? = some (.inr (0, 8, false, none)) := rfl
theorem sh_190 : g_sh[190]? = some (.inr (0, 150, false, none)) := rfl
theorem sh_191 : g_sh[191]? = some (.inr (3, 1, true, none)) := rfl
