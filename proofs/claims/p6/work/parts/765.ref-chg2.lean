/-! told of one state, told of another with the same row -/
section RB
section
variable {s t : ra_V}
theorem wn_k (h : s 180 = t 180) {a m : Int} (q : US s a m ∧ ¬ TK s a m (-1) ∧ ¬ BT s a m) : US t a m ∧ ¬ TK t a m (-1) ∧ ¬ BT t a m := by
  unfold US TK BT wq at *
  simp only [ra_gk h] at q
  exact q
theorem szk_k (h : s 180 = t 180) {p m : Int} (q : SZK s p m) : SZK t p m := by
  unfold SZK US TK BT wq at *
  simp only [ra_gk h] at q
  exact q
def EX8 (σ : ra_V) : Prop := ∃ p, 0 ≤ p ∧ p < 8 ∧ wq σ p 0 ≠ 1
theorem exn_k (h : s 180 = t 180) (q : ∃ p, 0 ≤ p ∧ p < 8 ∧ wq s p 0 = 0) : EX8 t := by
  obtain ⟨p, h0, h1, h2⟩ := q
  rw [wq_k h] at h2
  exact ⟨p, h0, h1, by omega⟩
theorem exm_k (h : s 180 = t 180) (q : EX8 t) : ∃ p, 0 ≤ p ∧ p < 8 ∧ wq s p 0 ≠ 1 := by
  obtain ⟨p, h0, h1, h2⟩ := q
  rw [← wq_k h] at h2
  exact ⟨p, h0, h1, h2⟩
end
end RB
