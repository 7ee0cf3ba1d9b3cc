/-! halves -/
section RB
theorem td2 {b : Int} (h : 0 ≤ b) : 0 ≤ b.tdiv 2 ∧ b.tdiv 2 ≤ b := by
  rw [Int.tdiv_eq_ediv_of_nonneg h]
  omega
end RB
