/-! scratch areas of the reference -/
section RB
/-- a sector that a scratch area may have -/
def CAN (σ : ra_V) (p to k : Int) : Prop := US σ k 1 ∧ ¬ TK σ k 1 (-1) ∧ ¬ (k < to + wq σ p 2 ∧ to < k + 1)
def SCE (σ : ra_V) (p to m : Int) : Prop := ∃ k, 0 ≤ k ∧ ∀ j, k ≤ j → j < k + m → CAN σ p to j
/-- from above down to k (not itself): v sectors in a row lie there -/
def SCI (σ : ra_V) (p to m v k : Int) : Prop := (0 ≤ v ∧ v < m) ∧ (∀ j, k < j → j ≤ k + v → CAN σ p to j) ∧ ¬ CAN σ p to (k + v + 1) ∧ ∀ q, k < q → ¬ (∀ j, q ≤ j → j < q + m → CAN σ p to j)
section
variable {σ : ra_V} {p to m v k : Int}
theorem can_hi (h : CAN σ p to k) (hw : WFa σ) : 0 ≤ k ∧ k < ra_g σ 180 0 := by
  unfold WFa at hw
  obtain ⟨⟨-, h1, h2⟩, -⟩ := h
  omega
theorem sci_0 (hm : 1 ≤ m) (hw : WFa σ) : SCI σ p to m 0 (ra_g σ 180 0 - 1) := by
  refine ⟨⟨by omega, by omega⟩, fun j a b => absurd b (by omega), fun h => ?_, fun q hq h => ?_⟩
  · have := (can_hi h hw).2; omega
  · have := (can_hi (h q (by omega) (by omega)) hw).2; omega
theorem sci_n (h : SCI σ p to m v k) (hk : 0 ≤ k) (hc : ¬ CAN σ p to k) : SCI σ p to m 0 (k + (-1)) := by
  obtain ⟨h1, h2, h3, h4⟩ := h
  refine ⟨⟨by omega, by omega⟩, fun j a b => absurd b (by omega), ?_, fun q hq hh => ?_⟩
  · rw [show k + (-1) + 0 + 1 = k by omega]; exact hc
  · by_cases e : q = k
    · subst e; exact hc (hh q (by omega) (by omega))
    · exact h4 q (by omega) hh
theorem sci_y (h : SCI σ p to m v k) (hk : 0 ≤ k) (hc : CAN σ p to k) (hn : ¬ v + 1 = m) : SCI σ p to m (v + 1) (k + (-1)) := by
  obtain ⟨h1, h2, h3, h4⟩ := h
  refine ⟨⟨by omega, by omega⟩, fun j a b => ?_, ?_, fun q hq hh => ?_⟩
  · by_cases e : j = k
    · rw [e]; exact hc
    · exact h2 j (by omega) (by omega)
  · rw [show k + (-1) + (v + 1) + 1 = k + v + 1 by omega]; exact h3
  · by_cases e : q = k
    · subst e; exact h3 (hh (q + v + 1) (by omega) (by omega))
    · exact h4 q (by omega) hh
theorem sci_z (h : SCI σ p to m v (-1)) : ¬ SCE σ p to m := by
  rintro ⟨k, k0, hk⟩
  exact h.2.2.2 k (by omega) hk
theorem sci_f (h : SCI σ p to m v k) (hk : 0 ≤ k) (hc : CAN σ p to k) (hn : v + 1 = m) (hw : WFa σ) : (k = -1 ∨ (0 ≤ k ∧ k + m ≤ 600)) ∧ (k = -1 → ¬ SCE σ p to m) ∧ (k ≠ -1 → SCE σ p to m) := by
  obtain ⟨h1, h2, h3, h4⟩ := h
  have hA : ∀ j, k ≤ j → j < k + m → CAN σ p to j := fun j a b => by
    by_cases e : j = k
    · rw [e]; exact hc
    · exact h2 j (by omega) (by omega)
  have h5 := can_hi (hA (k + m - 1) (by omega) (by omega)) hw
  have h6 := hw
  unfold WFa at h6
  exact ⟨Or.inr ⟨hk, by omega⟩, fun q => by omega, fun _ => ⟨k, hk, hA⟩⟩
end
end RB
