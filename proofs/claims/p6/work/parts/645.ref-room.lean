/-! rooms -/
section RB
def rs_ (σ : ra_V) (g : Int) : Int := (ra_g σ 185 g.toNat + ra_g σ 180 3 - 1).tdiv (ra_g σ 180 3) * ra_g σ 180 3
def rz_ (σ : ra_V) (g : Int) : Int := max 0 (ra_g σ 185 g.toNat + ra_g σ 186 g.toNat - rs_ σ g)
theorem up_b {a m : Int} (ha : 0 ≤ a) (hm : 1 ≤ m) : a ≤ (a + m - 1).tdiv m * m ∧ (a + m - 1).tdiv m * m < a + m := by
  have h1 := Int.tmod_add_mul_tdiv (a + m - 1) m
  have h2 := Int.tmod_lt_of_pos (a + m - 1) (by omega : 0 < m)
  have h3 := Int.tmod_nonneg m (by omega : 0 ≤ a + m - 1)
  rw [Int.mul_comm] at h1
  omega
theorem GZ_k {σ s : ra_V} (h : s 180 = σ 180) (hz : GZ σ s) : GZ s s := by
  obtain ⟨h1, h2, h3⟩ := hz
  refine ⟨h1, h2, fun g g1 g2 => ?_⟩
  obtain ⟨p1, p2, p3, p4⟩ := h3 g g1 g2
  exact ⟨p1, p2, by rw [ra_gk h]; exact p3, fun k k1 k2 => FRq_k h.symm (p4 k k1 k2)⟩
theorem GZ_s {σ s t : ra_V} (h : s 180 = σ 180) (hz : GZ s t) : GZ σ t := by
  obtain ⟨h1, h2, h3⟩ := hz
  refine ⟨h1, h2, fun g g1 g2 => ?_⟩
  obtain ⟨p1, p2, p3, p4⟩ := h3 g g1 g2
  exact ⟨p1, p2, by rw [ra_gk h] at p3; exact p3, fun k k1 k2 => FRq_k h (p4 k k1 k2)⟩
theorem GZ_t {σ s t : ra_V} (h1 : ra_g t 179 10 = ra_g s 179 10) (h2 : t 185 = s 185) (h3 : t 186 = s 186) (h : GZ σ s) : GZ σ t := by
  unfold GZ GP at *
  rw [h1]
  refine ⟨h.1, h.2.1, fun g g1 g2 => ?_⟩
  rw [ra_gk h2, ra_gk h3]
  exact h.2.2 g g1 g2
section
variable {σ : ra_V} {g : Int}
theorem rs_b (hw : WF σ) (hz : GZ σ σ) (hi : 0 ≤ g ∧ g < ra_g σ 179 10) : ra_g σ 185 g.toNat ≤ rs_ σ g ∧ rs_ σ g < ra_g σ 185 g.toNat + ra_g σ 180 3 := by
  have hw0 := WF_a hw
  unfold WFa at hw0
  obtain ⟨p1, p2, p3, p4⟩ := hz.2.2 g hi.1 hi.2
  exact up_b p1 (by omega)
theorem rs_in (hw : WF σ) (hz : GZ σ σ) (hi : 0 ≤ g ∧ g < ra_g σ 179 10) : ra_in (rs_ σ g) := by
  have hw0 := WF_a hw
  unfold WFa at hw0
  obtain ⟨p1, p2, p3, p4⟩ := hz.2.2 g hi.1 hi.2
  have := rs_b hw hz hi
  unfold ra_in
  omega
theorem rz_in (hw : WF σ) (hz : GZ σ σ) (hi : 0 ≤ g ∧ g < ra_g σ 179 10) : ra_in (rz_ σ g) := by
  have hw0 := WF_a hw
  unfold WFa at hw0
  obtain ⟨p1, p2, p3, p4⟩ := hz.2.2 g hi.1 hi.2
  have := rs_b hw hz hi
  unfold ra_in rz_
  omega
theorem rz_fit {s : ra_V} {m : Int} (h : s 180 = σ 180) (hw : WF σ) (hz : GZ σ s) (hi : 0 ≤ g ∧ g < ra_g s 179 10) (hm : 1 ≤ m) (hr : m ≤ rz_ s g) : US σ (rs_ s g) m ∧ ¬ TK σ (rs_ s g) m (-1) ∧ ¬ BT σ (rs_ s g) m := by
  have hb := rs_b (WF_k h hw) (GZ_k h hz) hi
  refine gp_free hw (hz.2.2 g hi.1 hi.2) hm hb.1 ?_
  unfold rz_ at hr
  omega
end
end RB
