/-! split -/
section RB
section
variable {σ s : ra_V} {p x a m : Int}
theorem spl_x (hp : 0 ≤ p ∧ p < 8) (o : ∀ a, a ≠ (24 + 8 * p + 2).toNat → ra_g s 180 a = ra_g σ 180 a) (h : EX8 σ) : EX8 s := by
  obtain ⟨q, q0, q1, q2⟩ := h
  have e : wq s q 0 = wq σ q 0 := o _ (by omega)
  exact ⟨q, q0, q1, by omega⟩
theorem spl_b (hp : 0 ≤ p ∧ p < 8) (o : ∀ a, a ≠ (24 + 8 * p + 2).toNat → ra_g s 180 a = ra_g σ 180 a) : wq s p 1 = wq σ p 1 := o _ (by omega)
theorem spl_w (hw : WF σ) (hp : 0 ≤ p ∧ p < 8 ∧ wq σ p 0 = 1) (hm : ra_g σ 180 16 ≠ p) (hx : wq σ p 3 ≤ x ∧ x < wq σ p 2) (v : wq s p 2 = x) (o : ∀ a, a ≠ (24 + 8 * p + 2).toNat → ra_g s 180 a = ra_g σ 180 a) (ea : a = wq s p 1 + x) (em : m = wq σ p 2 - x) :
    WF s ∧ US s a m ∧ ¬ TK s a m (-1) ∧ ¬ BT s a m := by
  have hq := WF_p hw hp.1 hp.2.1 hp.2.2
  have w1 : WF s := WF_rsz hw hp hm (m := x) ⟨v, fun a _ h => o a h⟩ (szk_le hw ⟨hp.1, hp.2.1⟩ hp.2.2 (by omega) (by omega))
  have g : ∀ j : Nat, j < 24 → ra_g s 180 j = ra_g σ 180 j := fun j hj => o j (by omega)
  have e1 : wq s p 1 = wq σ p 1 := o _ (by omega)
  subst ea em
  refine ⟨w1, ⟨by omega, ?_, ?_⟩, ?_, ?_⟩
  · rw [g 1 (by omega)]; omega
  · rw [g 0 (by omega), g 2 (by omega)]; omega
  · rintro ⟨q, q0, q1, q2, q3, q4, q5⟩
    by_cases e : q = p
    · subst e
      omega
    · have a0 : wq s q 0 = wq σ q 0 := o _ (by omega)
      have a1 : wq s q 1 = wq σ q 1 := o _ (by omega)
      have a2 : wq s q 2 = wq σ q 2 := o _ (by omega)
      have h1 := WF_ap hw q0 q1 hp.1 hp.2.1 e (by omega) hp.2.2
      omega
  · rintro ⟨b1, b2, b3, b4⟩
    have e16 := g 16 (by omega)
    have hmv : ra_g σ 180 16 ≠ -1 := by omega
    have hv := (WF_m hw hmv).2.2.2.2.2.2.2.2.2.2 p hp.1 hp.2.1 (Ne.symm hm) hp.2.2
    have hs := WF_msz hw hmv
    have a2 : wq s (ra_g s 180 16) 2 = wq σ (ra_g σ 180 16) 2 := by
      rw [e16]
      exact o _ (by omega)
    have e18 := g 18 (by omega)
    have hv : ra_g σ 180 18 + wq σ (ra_g σ 180 16) 2 ≤ wq σ p 1 ∨ wq σ p 1 + wq σ p 2 ≤ ra_g σ 180 18 := hv
    omega
theorem spl_n {t : ra_V} {z : Int} (hw : WF σ) (hp : 0 ≤ p ∧ p < 8 ∧ wq σ p 0 = 1) (hm : ra_g σ 180 16 ≠ p) (hx : wq σ p 3 ≤ x ∧ x < wq σ p 2) (v : wq s p 2 = x) (o : ∀ a, a ≠ (24 + 8 * p + 2).toNat → ra_g s 180 a = ra_g σ 180 a) (h : MKN s t z a m 1) (ea : a = wq s p 1 + x) (em : m = wq σ p 2 - x) : WF t := by
  have sw := spl_w hw hp hm hx v o ea em
  exact WF_new sw.1 h sw.2.1 sw.2.2.1 sw.2.2.2 ⟨by omega, by omega⟩
end
end RB
