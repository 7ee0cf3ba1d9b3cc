/-! a move turned back -/
section RB
section
variable {σ s : ra_V}
theorem mv_off (hw : WF σ) (h : ∀ a, REL a → a ≠ 16 → ra_g s 180 a = ra_g σ 180 a) (v16 : ra_g s 180 16 = -1) : WF s := by
  have e : ∀ q w, 0 ≤ q → q < 8 → 0 ≤ w → w < 4 → wf (rw_ s) q w = wf (rw_ σ) q w := fun q w p0 p1 w0 w1 => h _ (Or.inr (Or.inr (by omega))) (by omega)
  have e0 : ∀ j, j < 5 → rw_ s j = rw_ σ j := fun j hj => h j (by unfold REL; omega) (by omega)
  obtain ⟨h1, h2, h3, h4, h5⟩ := hw
  refine ⟨?_, fun q p0 p1 => ?_, fun q p0 p1 pe => ?_, fun q r p0 p1 q0 q1 hn pe qe => ?_, Or.inl v16⟩
  · unfold WFs
    rw [e0 0 (by omega), e0 1 (by omega), e0 2 (by omega), e0 3 (by omega), e0 4 (by omega)]
    exact h1
  · rw [e q 0 p0 p1 (by omega) (by omega)]
    exact h2 q p0 p1
  · rw [e q 0 p0 p1 (by omega) (by omega)] at pe
    have h6 := h3 q p0 p1 pe
    unfold WFp at *
    rw [e q 3 p0 p1 (by omega) (by omega), e q 2 p0 p1 (by omega) (by omega), e q 1 p0 p1 (by omega) (by omega), e0 0 (by omega), e0 1 (by omega), e0 2 (by omega)]
    exact h6
  · rw [e q 0 p0 p1 (by omega) (by omega)] at pe
    rw [e r 0 q0 q1 (by omega) (by omega)] at qe
    rw [e q 1 p0 p1 (by omega) (by omega), e q 2 p0 p1 (by omega) (by omega), e r 1 q0 q1 (by omega) (by omega), e r 2 q0 q1 (by omega) (by omega)]
    exact h4 q r p0 p1 q0 q1 hn pe qe
theorem tb_w {p : Int} (hw : WF σ) (hm1 : ra_g σ 180 16 ≠ -1) (ep : p = ra_g σ 180 16) (h : ∀ a, REL a → a ≠ 17 → a ≠ 18 → a ≠ 21 → a ≠ (24 + 8 * p + 1).toNat → ra_g s 180 a = ra_g σ 180 a) (v : wq s p 1 = ra_g σ 180 18) (v17 : ra_g s 180 17 = ra_g σ 180 18) (v18 : ra_g s 180 18 = ra_g σ 180 17)
    (v21 : 0 ≤ ra_g s 180 21 ∧ ra_g s 180 21 < rch σ) : WF s := by
  have hm := MV_f hw hm1
  have hp := hm.1
  have e : ∀ q w, 0 ≤ q → q < 8 → 0 ≤ w → w < 4 → (q ≠ p ∨ w ≠ 1) → wf (rw_ s) q w = wf (rw_ σ) q w := fun q w p0 p1 w0 w1 hn => h _ (Or.inr (Or.inr (by omega))) (by omega) (by omega) (by omega) (by omega)
  have e0 : ∀ j, (j < 5 ∨ j = 16 ∨ j = 19 ∨ j = 20 ∨ j = 22) → rw_ s j = rw_ σ j := fun j hj => h j (by unfold REL; omega) (by omega) (by omega) (by omega) (by omega)
  have hv := WF_m hw hm1
  subst ep
  have hp2 : wq σ (ra_g σ 180 16) 0 = 1 := hm.2.1
  have hpp := WF_p hw hp.1 hp.2 hp2
  have hap := fun q q0 q1 hn qe => WF_ap hw (p := ra_g σ 180 16) (q := q) hp.1 hp.2 q0 q1 hn hp2 qe
  obtain ⟨h1, h2, h3, h4, h5⟩ := hw
  obtain ⟨c1, c2, c3, c4, c5, c6, c7, c8, c9, c10, c11⟩ := hv
  have c3 : wq σ (ra_g σ 180 16) 1 = ra_g σ 180 17 := c3
  have d4 : ra_g σ 180 1 ≤ ra_g σ 180 18 ∧ ra_g σ 180 18 + wq σ (ra_g σ 180 16) 2 ≤ ra_g σ 180 0 - ra_g σ 180 2 := c4
  have d11 : ∀ q, 0 ≤ q → q < 8 → q ≠ ra_g σ 180 16 → wq σ q 0 = 1 → ra_g σ 180 18 + wq σ (ra_g σ 180 16) 2 ≤ wq σ q 1 ∨ wq σ q 1 + wq σ q 2 ≤ ra_g σ 180 18 := c11
  have v : wf (rw_ s) (ra_g σ 180 16) 1 = ra_g σ 180 18 := v
  refine ⟨?_, fun q p0 p1 => ?_, fun q p0 p1 pe => ?_, fun q r p0 p1 q0 q1 hn pe qe => ?_, Or.inr ?_⟩
  · unfold WFs
    rw [e0 0 (by omega), e0 1 (by omega), e0 2 (by omega), e0 3 (by omega), e0 4 (by omega)]
    exact h1
  · rw [e q 0 p0 p1 (by omega) (by omega) (by omega)]
    exact h2 q p0 p1
  · rw [e q 0 p0 p1 (by omega) (by omega) (by omega)] at pe
    have h6 := h3 q p0 p1 pe
    unfold WFp at *
    rw [e q 3 p0 p1 (by omega) (by omega) (by omega), e q 2 p0 p1 (by omega) (by omega) (by omega), e0 0 (by omega), e0 1 (by omega), e0 2 (by omega)]
    by_cases eq : q = ra_g σ 180 16
    · subst eq
      rw [v]
      exact ⟨h6.1, h6.2.1, d4.1, d4.2⟩
    · rw [e q 1 p0 p1 (by omega) (by omega) (by omega)]
      exact h6
  · rw [e q 0 p0 p1 (by omega) (by omega) (by omega)] at pe
    rw [e r 0 q0 q1 (by omega) (by omega) (by omega)] at qe
    rw [e q 2 p0 p1 (by omega) (by omega) (by omega), e r 2 q0 q1 (by omega) (by omega) (by omega)]
    by_cases eq : q = ra_g σ 180 16
    · subst eq
      rw [v, e r 1 q0 q1 (by omega) (by omega) (by omega)]
      exact d11 r q0 q1 (Ne.symm hn) qe
    · by_cases er : r = ra_g σ 180 16
      · subst er
        rw [v, e q 1 p0 p1 (by omega) (by omega) (by omega)]
        have t : ra_g σ 180 18 + wf (rw_ σ) (ra_g σ 180 16) 2 ≤ wf (rw_ σ) q 1 ∨ wf (rw_ σ) q 1 + wf (rw_ σ) q 2 ≤ ra_g σ 180 18 := d11 q p0 p1 eq pe
        unfold ref_apart
        omega
      · rw [e q 1 p0 p1 (by omega) (by omega) (by omega), e r 1 q0 q1 (by omega) (by omega) (by omega)]
        exact h4 q r p0 p1 q0 q1 hn pe qe
  · have r17 : rw_ s 17 = ra_g σ 180 18 := v17
    have r18 : rw_ s 18 = ra_g σ 180 17 := v18
    have r16 : rw_ s 16 = ra_g σ 180 16 := e0 16 (by omega)
    unfold WFm
    rw [r17, r18, r16, e0 19 (by omega), e0 20 (by omega), e0 22 (by omega), e0 0 (by omega), e0 1 (by omega), e0 2 (by omega), v, e _ 0 hp.1 hp.2 (by omega) (by omega) (by omega), e _ 2 hp.1 hp.2 (by omega) (by omega) (by omega)]
    refine ⟨hp, hp2, rfl, ⟨by rw [← c3]; exact hpp.2.2.1, by rw [← c3]; exact hpp.2.2.2⟩, Ne.symm c5, c6, v21, c8, c9, fun q => ?_, fun q q0 q1 hn qe => ?_⟩
    · exact (c10 q).symm
    · rw [e q 0 q0 q1 (by omega) (by omega) (by omega)] at qe
      rw [e q 1 q0 q1 (by omega) (by omega) (by omega), e q 2 q0 q1 (by omega) (by omega) (by omega)]
      rw [← c3]
      exact hap q q0 q1 (Ne.symm hn) qe
theorem tb_c {s1 s2 s3 s4 : ra_V} {p : Int} (hw : WF σ) (hm1 : ra_g σ 180 16 ≠ -1) (h0 : ra_g σ 180 21 ≠ 0) (v1 : ra_g s1 180 21 = rch σ - ra_g σ 180 21) (o1 : ∀ a, a ≠ 21 → ra_g s1 180 a = ra_g σ 180 a) (v2 : ra_g s2 180 17 = ra_g s1 180 18) (o2 : ∀ a, a ≠ 17 → ra_g s2 180 a = ra_g s1 180 a)
    (v3 : ra_g s3 180 18 = ra_g σ 180 17) (o3 : ∀ a, a ≠ 18 → ra_g s3 180 a = ra_g s2 180 a) (ep : p = ra_g s3 180 16) (v4 : wq s4 p 1 = ra_g s3 180 17) (o4 : ∀ a, a ≠ (24 + 8 * p + 1).toNat → ra_g s4 180 a = ra_g s3 180 a) : WF s4 ∧ ra_g s4 180 16 = ra_g σ 180 16 := by
  have hm := MV_f hw hm1
  have e16 : ra_g s3 180 16 = ra_g σ 180 16 := by rw [o3 16 (by omega), o2 16 (by omega), o1 16 (by omega)]
  have hp := hm.1
  have w17 : ra_g s3 180 17 = ra_g σ 180 18 := by rw [o3 17 (by omega), v2, o1 18 (by omega)]
  have w21 : ra_g s4 180 21 = rch σ - ra_g σ 180 21 := by rw [o4 21 (by omega), o3 21 (by omega), o2 21 (by omega), v1]
  obtain ⟨-, -, -, -, -, -, -, -, m9, -⟩ := hm
  refine ⟨tb_w (p := p) hw hm1 (by omega) (fun a ha h1 h2 h3 h4 => ?_) (v4.trans w17) ?_ ?_ ⟨by omega, by omega⟩, ?_⟩
  · rw [o4 a h4, o3 a h2, o2 a h1, o1 a h3]
  · rw [o4 17 (by omega), w17]
  · rw [o4 18 (by omega), v3]
  · rw [o4 16 (by omega), e16]
end
end RB
