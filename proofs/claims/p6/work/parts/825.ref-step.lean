/-! a step of a move -/
section RB
def MG (σ : ra_V) : Prop := (0 ≤ ra_g σ 180 16 ∧ ra_g σ 180 16 < 8) ∧ (1 ≤ msz σ ∧ msz σ ≤ 600 ∧ wq σ (ra_g σ 180 16) 2 = msz σ) ∧ (1 ≤ ra_g σ 180 19 ∧ ra_g σ 180 19 ≤ 16)
section
variable {σ s : ra_V}
theorem st_rel {s1 s2 s3 : ra_V} (c : SC σ s1) (o2 : ∀ a, a ≠ 6 → ra_g s2 180 a = ra_g s1 180 a) (o3 : ∀ a, a ≠ 22 → ra_g s3 180 a = ra_g s2 180 a) : ∀ a, REL a → a ≠ 21 → a ≠ 22 → ra_g s3 180 a = ra_g σ 180 a := fun a ha _ h2 => by
  unfold REL at ha
  rw [o3 a h2, o2 a (by omega), c a (by omega)]
theorem st_rel2 {t : ra_V} (h : ∀ a, REL a → a ≠ 21 → a ≠ 22 → ra_g s 180 a = ra_g σ 180 a) (o : ∀ a, a ≠ 21 → ra_g t 180 a = ra_g s 180 a) : ∀ a, REL a → a ≠ 21 → a ≠ 22 → ra_g t 180 a = ra_g σ 180 a := fun a ha h1 h2 => (o a h1).trans (h a ha h1 h2)
theorem mg_r (hm : MF σ) (h : ∀ a, REL a → a ≠ 21 → a ≠ 22 → ra_g s 180 a = ra_g σ 180 a) : ra_g s 180 16 = ra_g σ 180 16 ∧ ra_g s 180 18 = ra_g σ 180 18 ∧ MG s ∧ rch s = rch σ := by
  have e16 := h 16 (Or.inr (Or.inl (by omega))) (by omega) (by omega)
  have e18 := h 18 (Or.inr (Or.inl (by omega))) (by omega) (by omega)
  have e19 := h 19 (Or.inr (Or.inl (by omega))) (by omega) (by omega)
  obtain ⟨m1, -, -, m4, -, -, -, m8, -⟩ := hm
  have ez : msz s = msz σ := by
    unfold msz
    rw [e16]
    exact h _ (Or.inr (Or.inr (by omega))) (by omega) (by omega)
  refine ⟨e16, e18, ⟨by omega, ⟨by omega, by omega, rfl⟩, by omega⟩, ?_⟩
  unfold rch
  rw [ez, e19]
theorem mv_w (hw : WF σ) (hm : MF σ) (h : ∀ a, REL a → a ≠ 21 → a ≠ 22 → ra_g s 180 a = ra_g σ 180 a) (h21 : 0 ≤ ra_g s 180 21 ∧ ra_g s 180 21 < rch σ) (h22 : ra_g s 180 22 = 0 ∨ ra_g s 180 22 = 1) : WF s := by
  have e : ∀ p w, 0 ≤ p → p < 8 → 0 ≤ w → w < 4 → wf (rw_ s) p w = wf (rw_ σ) p w := fun p w p0 p1 w0 w1 => h _ (Or.inr (Or.inr (by omega))) (by omega) (by omega)
  have e0 : ∀ j, (j < 5 ∨ (16 ≤ j ∧ j ≤ 20)) → rw_ s j = rw_ σ j := fun j hj => h j (by unfold REL; omega) (by omega) (by omega)
  obtain ⟨h1, h2, h3, h4, h5⟩ := hw
  have hp := hm.1
  have hm1 : ra_g σ 180 16 ≠ -1 := by omega
  refine ⟨?_, fun q p0 p1 => ?_, fun q p0 p1 pe => ?_, fun q r p0 p1 q0 q1 hn pe qe => ?_, Or.inr ?_⟩
  · unfold WFs
    rw [e0 0 (by omega), e0 1 (by omega), e0 2 (by omega), e0 3 (by omega), e0 4 (by omega)]
    exact h1
  · rw [e q 0 p0 p1 (by omega) (by omega)]
    exact h2 q p0 p1
  · rw [e q 0 p0 p1 (by omega) (by omega)] at pe
    have h6 := h3 q p0 p1 pe
    unfold WFp at *
    rw [e q 3 p0 p1 (by omega) (by omega), e q 2 p0 p1 (by omega) (by omega), e q 1 p0 p1 (by omega) (by omega), e0 0 (by omega), e0 1 (by omega), e0 2 (by omega)]
    exact h6
  · rw [e q 0 p0 p1 (by omega) (by omega)] at pe
    rw [e r 0 q0 q1 (by omega) (by omega)] at qe
    rw [e q 1 p0 p1 (by omega) (by omega), e q 2 p0 p1 (by omega) (by omega), e r 1 q0 q1 (by omega) (by omega), e r 2 q0 q1 (by omega) (by omega)]
    exact h4 q r p0 p1 q0 q1 hn pe qe
  · rcases h5 with h5 | h5
    · exact absurd h5 hm1
    · have hq := h5.1
      unfold WFm at *
      rw [e0 16 (by omega), e0 17 (by omega), e0 18 (by omega), e0 19 (by omega), e0 20 (by omega), e0 0 (by omega), e0 1 (by omega), e0 2 (by omega), e _ 0 hq.1 hq.2 (by omega) (by omega), e _ 1 hq.1 hq.2 (by omega) (by omega), e _ 2 hq.1 hq.2 (by omega) (by omega)]
      obtain ⟨c1, c2, c3, c4, c5, c6, c7, c8, c9, c10, c11⟩ := h5
      refine ⟨c1, c2, c3, c4, c5, c6, h21, h22, c9, c10, fun r q0 q1 hn qe => ?_⟩
      rw [e r 0 q0 q1 (by omega) (by omega)] at qe
      rw [e r 1 q0 q1 (by omega) (by omega), e r 2 q0 q1 (by omega) (by omega)]
      exact c11 r q0 q1 hn qe
theorem mv_e {p : Int} (hw : WF σ) (hm : MF σ) (ep : p = ra_g σ 180 16) (h : ∀ a, REL a → a ≠ 16 → a ≠ 21 → a ≠ 22 → a ≠ (24 + 8 * p + 1).toNat → ra_g s 180 a = ra_g σ 180 a) (v : wq s p 1 = ra_g σ 180 18) (v16 : ra_g s 180 16 = -1) : WF s := by
  have hp := hm.1
  have e : ∀ q w, 0 ≤ q → q < 8 → 0 ≤ w → w < 4 → (q ≠ p ∨ w ≠ 1) → wf (rw_ s) q w = wf (rw_ σ) q w := fun q w p0 p1 w0 w1 hn => h _ (Or.inr (Or.inr (by omega))) (by omega) (by omega) (by omega) (by omega)
  have e0 : ∀ j, j < 5 → rw_ s j = rw_ σ j := fun j hj => h j (by unfold REL; omega) (by omega) (by omega) (by omega) (by omega)
  have hv := WF_m hw (by omega)
  subst ep
  have hp2 : wq σ (ra_g σ 180 16) 0 = 1 := hm.2.1
  have hpp := WF_p hw hp.1 hp.2 hp2
  have c4 : ra_g σ 180 1 ≤ ra_g σ 180 18 ∧ ra_g σ 180 18 + wq σ (ra_g σ 180 16) 2 ≤ ra_g σ 180 0 - ra_g σ 180 2 := hv.2.2.2.1
  have c11 : ∀ q, 0 ≤ q → q < 8 → q ≠ ra_g σ 180 16 → wq σ q 0 = 1 → ra_g σ 180 18 + wq σ (ra_g σ 180 16) 2 ≤ wq σ q 1 ∨ wq σ q 1 + wq σ q 2 ≤ ra_g σ 180 18 := hv.2.2.2.2.2.2.2.2.2.2
  obtain ⟨h1, h2, h3, h4, h5⟩ := hw
  refine ⟨?_, fun q p0 p1 => ?_, fun q p0 p1 pe => ?_, fun q r p0 p1 q0 q1 hn pe qe => ?_, Or.inl v16⟩
  · unfold WFs
    rw [e0 0 (by omega), e0 1 (by omega), e0 2 (by omega), e0 3 (by omega), e0 4 (by omega)]
    exact h1
  · rw [e q 0 p0 p1 (by omega) (by omega) (by omega)]
    exact h2 q p0 p1
  · rw [e q 0 p0 p1 (by omega) (by omega) (by omega)] at pe
    have h6 := h3 q p0 p1 pe
    unfold WFp at *
    rw [e q 3 p0 p1 (by omega) (by omega) (by omega), e q 2 p0 p1 (by omega) (by omega) (by omega), e0 0 (by omega), e0 1 (by omega), e0 2 (by omega)]
    by_cases eq : q = ra_g σ 180 16
    · subst eq
      have v : wf (rw_ s) (ra_g σ 180 16) 1 = ra_g σ 180 18 := v
      rw [v]
      exact ⟨h6.1, h6.2.1, c4.1, c4.2⟩
    · rw [e q 1 p0 p1 (by omega) (by omega) (by omega)]
      exact h6
  · rw [e q 0 p0 p1 (by omega) (by omega) (by omega)] at pe
    rw [e r 0 q0 q1 (by omega) (by omega) (by omega)] at qe
    have v : wf (rw_ s) (ra_g σ 180 16) 1 = ra_g σ 180 18 := v
    rw [e q 2 p0 p1 (by omega) (by omega) (by omega), e r 2 q0 q1 (by omega) (by omega) (by omega)]
    by_cases eq : q = ra_g σ 180 16
    · subst eq
      rw [v, e r 1 q0 q1 (by omega) (by omega) (by omega)]
      exact c11 r q0 q1 (Ne.symm hn) qe
    · by_cases er : r = ra_g σ 180 16
      · subst er
        rw [v, e q 1 p0 p1 (by omega) (by omega) (by omega)]
        have t : ra_g σ 180 18 + wf (rw_ σ) (ra_g σ 180 16) 2 ≤ wf (rw_ σ) q 1 ∨ wf (rw_ σ) q 1 + wf (rw_ σ) q 2 ≤ ra_g σ 180 18 := c11 q p0 p1 eq pe
        unfold ref_apart
        omega
      · rw [e q 1 p0 p1 (by omega) (by omega) (by omega), e r 1 q0 q1 (by omega) (by omega) (by omega)]
        exact h4 q r p0 p1 q0 q1 hn pe qe
theorem mv_ec {s4 s5 s6 s7 s8 : ra_V} {p : Int} (hw : WF σ) (hm : MF σ) (h : ∀ a, REL a → a ≠ 21 → a ≠ 22 → ra_g s4 180 a = ra_g σ 180 a) (ep : p = ra_g s4 180 16) (v5 : wq s5 p 1 = ra_g s4 180 18) (o5 : ∀ a, a ≠ (24 + 8 * p + 1).toNat → ra_g s5 180 a = ra_g s4 180 a) (o6 : ∀ a, a ≠ (24 + 8 * p + 7).toNat → ra_g s6 180 a = ra_g s5 180 a)
    (v7 : ra_g s7 180 16 = -1) (o7 : ∀ a, a ≠ 16 → ra_g s7 180 a = ra_g s6 180 a) (o8 : ∀ a, a ≠ 8 → ra_g s8 180 a = ra_g s7 180 a) : WF s8 := by
  have hg := mg_r hm h
  have hp := hm.1
  refine mv_e (p := p) hw hm (by omega) (fun a ha h1 h2 h3 h4 => ?_) ?_ ((o8 16 (by omega)).trans v7)
  · unfold REL at ha
    rw [o8 a (by omega), o7 a h1, o6 a (by omega), o5 a h4]
    exact h a (by unfold REL; omega) h2 h3
  · have e : wq s8 p 1 = wq s5 p 1 := by
      show ra_g s8 180 _ = _
      rw [o8 _ (by omega), o7 _ (by omega), o6 _ (by omega)]
      rfl
    rw [e, v5]
    exact hg.2.1
end
end RB
