/-! T5: bounds of rooms and starts -/
section
section
variable {τ : ra_V} {x y a size rule : Int}
theorem x5rbw_in (h : 0 ≤ x ∧ x ≤ 100000 ∧ 1 ≤ a ∧ a ≤ 1000) (h1 : 0 ≤ y ∧ y ≤ 100000) : ra_in (max 0 (y - (x + a - 1).tdiv a * a)) := by
  have h2 := up_b (a := x) (m := a) h.1 h.2.2.1
  unfold ra_in
  omega
theorem x5gf_c {σ : ra_V} (hg : x5GFC τ σ) (hi : 0 ≤ x ∧ x < x5gpN τ) : 0 ≤ x5gpS τ x ∧ 1 ≤ x5gpZ τ x ∧ x5gpS τ x + x5gpZ τ x ≤ 600 := (x5gf_b hg.2.1 ⟨hi.1, by rw [hg.2.1.1]; exact hi.2⟩).2
theorem x5gs_in {σ : ra_V} (hW : x5W2 τ) (hg : x5GFC τ σ) (hi : 0 ≤ x ∧ x < x5gpN τ) : ra_in (x5gpS τ x) := by have := x5gf_c hg hi; unfold ra_in; omega
theorem x5gz_in {σ : ra_V} (hW : x5W2 τ) (hg : x5GFC τ σ) (hi : 0 ≤ x ∧ x < x5gpN τ) : ra_in (x5gpZ τ x) := by have := x5gf_c hg hi; unfold ra_in; omega
theorem x5gr_in {σ : ra_V} (hW : x5W2 τ) (hg : x5GFC τ σ) (hi : 0 ≤ x ∧ x < x5gpN τ) : ra_in (x5rsG τ x) := (x5rs_g hW.1 (x5gf_c hg hi)).2.1
theorem x5gm_in {σ : ra_V} (hW : x5W2 τ) (hg : x5GFC τ σ) (hi : 0 ≤ x ∧ x < x5gpN τ) : ra_in (x5rmG τ x) := (x5rs_g hW.1 (x5gf_c hg hi)).2.2.1
/-- a start by a rule is none, or begins in a gap -/
theorem x5fit_b {σ : ra_V} (hW : x5W2 τ) (hg : x5GFC τ σ) : x5fitF τ size rule = -1 ∨ (0 ≤ x5fitF τ size rule ∧ x5fitF τ size rule ≤ 1000) := by
  by_cases c : size < 1
  · exact Or.inl (x5fit_0 c).symm
  · by_cases d : x5fbG τ size rule (x5gpN τ).toNat = -1
    · exact Or.inl (x5fit_n c d).symm
    · obtain ⟨h1, h2, -⟩ := (x5fbG_b (τ := τ) (size := size) (rule := rule) (x5gpN τ).toNat).resolve_left d
      have h0 := hg.2.1.2.1
      rw [hg.2.1.1] at h0
      have q := x5gf_c hg (x := x5fbG τ size rule (x5gpN τ).toNat) ⟨h1, by omega⟩
      have r := x5rs_g hW.1 q
      have ha := WF_a hW.1
      unfold WFa at ha
      rw [← x5fit_y c d]
      exact Or.inr ⟨by omega, by omega⟩
theorem x5fit_i {σ : ra_V} (hW : x5W2 τ) (hg : x5GFC τ σ) : ra_in (x5fitF τ size rule) := by have := x5fit_b (size := size) (rule := rule) hW hg; unfold ra_in; omega
end
end
