/-! joined -/
section RB
theorem cj_k {s t : ra_V} (h : s 180 = t 180) {p : Int} (q : CJ s p) : CJ t p := by
  unfold CJ wq at *
  simp only [ra_gk h] at q
  exact q
def JN (σ : ra_V) (p z : Int) : Prop := 0 ≤ z ∧ z < 8 ∧ z ≠ p ∧ wq σ z 0 = 1 ∧ wq σ z 1 = wq σ p 1 + wq σ p 2 ∧ ra_g σ 180 16 ≠ p ∧ ra_g σ 180 16 ≠ z
section
variable {σ s t : ra_V} {p z : Int}
theorem nb_j (hw : WF σ) (hp : 0 ≤ p ∧ p < 8 ∧ wq σ p 0 = 1) (hc : CJ σ p) (hz : (z = -1 ∧ NN σ p 8) ∨ (0 ≤ z ∧ z < 8 ∧ wq σ z 0 = 1 ∧ wq σ z 1 = wq σ p 1 + wq σ p 2)) : JN σ p z := by
  obtain ⟨q, q0, q1, q2, q3, q4, q5⟩ := hc
  rcases hz with ⟨e, hn⟩ | ⟨z0, z1, z2, z3⟩
  · exact absurd q3 (hn q q0 q1 q2)
  · have hq := WF_p hw hp.1 hp.2.1 hp.2.2
    have hq2 := WF_p hw q0 q1 q2
    have hzz := WF_p hw z0 z1 z2
    by_cases e : z = q
    · subst e
      exact ⟨z0, z1, (fun e => by rw [e] at z3; omega), z2, z3, q4, q5⟩
    · have := WF_ap hw z0 z1 q0 q1 e z2 q2
      omega
theorem jn_b (hw : WF σ) (hp : 0 ≤ p ∧ p < 8 ∧ wq σ p 0 = 1) (hj : JN σ p z) (o : ∀ a, a ≠ (24 + 8 * z + 0).toNat → ra_g s 180 a = ra_g σ 180 a) : wq s p 0 = 1 ∧ wq s p 1 = wq σ p 1 ∧ wq s p 2 = wq σ p 2 ∧ wq s z 2 = wq σ z 2 ∧ 0 ≤ wq s p 1 ∧ wq s p 1 + (wq s p 2 + wq s z 2) ≤ 600 ∧ 0 ≤ wq s p 2 ∧ 1 ≤ wq s z 2 := by
  obtain ⟨j0, j1, j2, j3, j4, j5, j6⟩ := hj
  have hq := WF_p hw hp.1 hp.2.1 hp.2.2
  have hz := WF_p hw j0 j1 j3
  have ha := WF_a hw
  unfold WFa at ha
  have e0 : wq s p 0 = wq σ p 0 := o _ (by omega)
  have e1 : wq s p 1 = wq σ p 1 := o _ (by omega)
  have e2 : wq s p 2 = wq σ p 2 := o _ (by omega)
  have e3 : wq s z 2 = wq σ z 2 := o _ (by omega)
  omega
theorem jn_w (hw : WF σ) (hp : 0 ≤ p ∧ p < 8 ∧ wq σ p 0 = 1) (hj : JN σ p z) (v : wq s z 0 = 0) (o : ∀ a, a ≠ (24 + 8 * z + 0).toNat → ra_g s 180 a = ra_g σ 180 a) (r : RSZ s t p (wq s p 2 + wq s z 2)) : WF t := by
  have hb := jn_b hw hp hj o
  obtain ⟨j0, j1, j2, j3, j4, j5, j6⟩ := hj
  have w1 : WF s := WF_chg (p := z) hw ⟨j0, j1⟩ (fun a ha hn => o a (by omega)) j6 (Or.inl v)
  have g : ∀ j : Nat, j < 24 → ra_g s 180 j = ra_g σ 180 j := fun j hj => o j (by omega)
  have e16 := g 16 (by omega)
  have hq := WF_p w1 hp.1 hp.2.1 hb.1
  have hz := WF_p hw j0 j1 j3
  refine WF_rsz w1 ⟨hp.1, hp.2.1, hb.1⟩ (by omega) r ⟨by omega, ⟨by omega, by omega, ?_⟩, ?_, ?_⟩
  · rw [g 0 (by omega), g 2 (by omega)]; omega
  · rintro ⟨q, q0, q1, q2, q3, q4, q5⟩
    have qz : q ≠ z := fun e => by rw [e] at q3; omega
    have a0 : wq s q 0 = wq σ q 0 := o _ (by omega)
    have a1 : wq s q 1 = wq σ q 1 := o _ (by omega)
    have a2 : wq s q 2 = wq σ q 2 := o _ (by omega)
    have h1 := WF_ap hw q0 q1 hp.1 hp.2.1 q2 (by omega) hp.2.2
    have h2 := WF_ap hw q0 q1 j0 j1 qz (by omega) j3
    have h3 := WF_p hw q0 q1 (by omega)
    omega
  · rintro ⟨b1, b2, b3, b4⟩
    have hm : ra_g σ 180 16 ≠ -1 := by omega
    have hv := (WF_m hw hm).2.2.2.2.2.2.2.2.2.2 z j0 j1 (Ne.symm j6) j3
    have hs := WF_msz hw hm
    have a2 : wq s (ra_g s 180 16) 2 = wq σ (ra_g σ 180 16) 2 := by
      rw [e16]
      exact o _ (by omega)
    have e18 := g 18 (by omega)
    have hv : ra_g σ 180 18 + wq σ (ra_g σ 180 16) 2 ≤ wq σ z 1 ∨ wq σ z 1 + wq σ z 2 ≤ ra_g σ 180 18 := hv
    omega
end
end RB
