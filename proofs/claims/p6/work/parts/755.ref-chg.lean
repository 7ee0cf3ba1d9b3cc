/-! small changes of the row -/
section RB
section
variable {σ s : ra_V}
/-- only a partition's own minimum -/
theorem WF_mn {p : Int} (hw : WF σ) (hp : 0 ≤ p ∧ p < 8) (h : ∀ a, a ≠ (24 + 8 * p + 3).toNat → ra_g s 180 a = ra_g σ 180 a) (v : 1 ≤ wq s p 3 ∧ wq s p 3 ≤ wq σ p 2) : WF s := by
  have e : ∀ q w, 0 ≤ q → q < 8 → 0 ≤ w → w < 3 → wf (rw_ s) q w = wf (rw_ σ) q w := fun q w q0 q1 w0 w1 => h _ (by omega)
  have e0 : ∀ j, j < 24 → rw_ s j = rw_ σ j := fun j hj => h j (by omega)
  obtain ⟨h1, h2, h3, h4, h5⟩ := hw
  refine ⟨?_, fun q p0 p1 => ?_, fun q p0 p1 pe => ?_, fun q r p0 p1 q0 q1 hn pe qe => ?_, ?_⟩
  · unfold WFs
    rw [e0 0 (by omega), e0 1 (by omega), e0 2 (by omega), e0 3 (by omega), e0 4 (by omega)]
    exact h1
  · rw [e q 0 p0 p1 (by omega) (by omega)]
    exact h2 q p0 p1
  · rw [e q 0 p0 p1 (by omega) (by omega)] at pe
    have h6 := h3 q p0 p1 pe
    unfold WFp at *
    rw [e q 2 p0 p1 (by omega) (by omega), e q 1 p0 p1 (by omega) (by omega), e0 0 (by omega), e0 1 (by omega), e0 2 (by omega)]
    by_cases eq : q = p
    · subst eq
      exact ⟨v.1, v.2, h6.2.2⟩
    · have e3 : wf (rw_ s) q 3 = wf (rw_ σ) q 3 := h _ (by omega)
      rw [e3]
      exact h6
  · rw [e q 0 p0 p1 (by omega) (by omega)] at pe
    rw [e r 0 q0 q1 (by omega) (by omega)] at qe
    rw [e q 1 p0 p1 (by omega) (by omega), e q 2 p0 p1 (by omega) (by omega), e r 1 q0 q1 (by omega) (by omega), e r 2 q0 q1 (by omega) (by omega)]
    exact h4 q r p0 p1 q0 q1 hn pe qe
  · rcases h5 with h5 | h5
    · exact Or.inl ((e0 16 (by omega)).trans h5)
    · refine Or.inr ?_
      have hq := h5.1
      unfold WFm at *
      rw [e0 16 (by omega), e0 17 (by omega), e0 18 (by omega), e0 19 (by omega), e0 20 (by omega), e0 21 (by omega), e0 22 (by omega), e0 0 (by omega), e0 1 (by omega), e0 2 (by omega), e _ 0 hq.1 hq.2 (by omega) (by omega), e _ 1 hq.1 hq.2 (by omega) (by omega), e _ 2 hq.1 hq.2 (by omega) (by omega)]
      obtain ⟨c1, c2, c3, c4, c5, c6, c7, c8, c9, c10, c11⟩ := h5
      refine ⟨c1, c2, c3, c4, c5, c6, c7, c8, c9, c10, fun r q0 q1 hn qe => ?_⟩
      rw [e r 0 q0 q1 (by omega) (by omega)] at qe
      rw [e r 1 q0 q1 (by omega) (by omega), e r 2 q0 q1 (by omega) (by omega)]
      exact c11 r q0 q1 hn qe
/-- only what partitions and moves are to keep to from now on -/
theorem WF_set {j : Nat} (hw : WF σ) (hj : j = 3 ∨ j = 4) (h : ∀ a, a ≠ j → ra_g s 180 a = ra_g σ 180 a) (v : 1 ≤ ra_g s 180 j ∧ ra_g s 180 j ≤ 32 ∧ (j = 4 → ra_g s 180 j ≤ 16)) : WF s := by
  have e : ∀ q w, 0 ≤ q → q < 8 → 0 ≤ w → wf (rw_ s) q w = wf (rw_ σ) q w := fun q w q0 q1 w0 => h _ (by omega)
  have e0 : ∀ i, (i < 3 ∨ 5 ≤ i) → rw_ s i = rw_ σ i := fun i hi => h i (by omega)
  have ea := WF_a hw
  unfold WFa at ea
  obtain ⟨h1, h2, h3, h4, h5⟩ := hw
  refine ⟨?_, fun q p0 p1 => ?_, fun q p0 p1 pe => ?_, fun q r p0 p1 q0 q1 hn pe qe => ?_, ?_⟩
  · show (64 ≤ ra_g s 180 0 ∧ ra_g s 180 0 ≤ 600) ∧ (0 ≤ ra_g s 180 1 ∧ ra_g s 180 1 ≤ 31) ∧ (0 ≤ ra_g s 180 2 ∧ ra_g s 180 2 ≤ 31) ∧ (1 ≤ ra_g s 180 3 ∧ ra_g s 180 3 ≤ 32) ∧ (1 ≤ ra_g s 180 4 ∧ ra_g s 180 4 ≤ 16)
    rw [h 0 (by omega), h 1 (by omega), h 2 (by omega)]
    rcases hj with rfl | rfl
    · rw [h 4 (by omega)]; omega
    · rw [h 3 (by omega)]; omega
  · rw [e q 0 p0 p1 (by omega)]
    exact h2 q p0 p1
  · rw [e q 0 p0 p1 (by omega)] at pe
    have h6 := h3 q p0 p1 pe
    unfold WFp at *
    rw [e q 3 p0 p1 (by omega), e q 2 p0 p1 (by omega), e q 1 p0 p1 (by omega), e0 0 (by omega), e0 1 (by omega), e0 2 (by omega)]
    exact h6
  · rw [e q 0 p0 p1 (by omega)] at pe
    rw [e r 0 q0 q1 (by omega)] at qe
    rw [e q 1 p0 p1 (by omega), e q 2 p0 p1 (by omega), e r 1 q0 q1 (by omega), e r 2 q0 q1 (by omega)]
    exact h4 q r p0 p1 q0 q1 hn pe qe
  · rcases h5 with h5 | h5
    · exact Or.inl ((e0 16 (by omega)).trans h5)
    · refine Or.inr ?_
      have hq := h5.1
      unfold WFm at *
      rw [e0 16 (by omega), e0 17 (by omega), e0 18 (by omega), e0 19 (by omega), e0 20 (by omega), e0 21 (by omega), e0 22 (by omega), e0 0 (by omega), e0 1 (by omega), e0 2 (by omega), e _ 0 hq.1 hq.2 (by omega), e _ 1 hq.1 hq.2 (by omega), e _ 2 hq.1 hq.2 (by omega)]
      obtain ⟨c1, c2, c3, c4, c5, c6, c7, c8, c9, c10, c11⟩ := h5
      refine ⟨c1, c2, c3, c4, c5, c6, c7, c8, c9, c10, fun r q0 q1 hn qe => ?_⟩
      rw [e r 0 q0 q1 (by omega)] at qe
      rw [e r 1 q0 q1 (by omega), e r 2 q0 q1 (by omega)]
      exact c11 r q0 q1 hn qe
end
end RB
