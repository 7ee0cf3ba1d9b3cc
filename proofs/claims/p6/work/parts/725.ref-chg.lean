/-! the row changed: it stays right -/
section RB
/-- places that matter -/
def REL (a : Nat) : Prop := a < 5 ∨ (16 ≤ a ∧ a ≤ 22) ∨ (24 ≤ a ∧ a < 88 ∧ (a - 24) % 8 < 4)
section
variable {σ s : ra_V}
theorem wq_rel (h : ∀ a, REL a → ra_g s 180 a = ra_g σ 180 a) {p w : Int} (h0 : 0 ≤ p) (h1 : p < 8) (h2 : 0 ≤ w) (h3 : w < 4) : wq s p w = wq σ p w := h _ (Or.inr (Or.inr (by omega)))
theorem WF_rel (h : ∀ a, REL a → ra_g s 180 a = ra_g σ 180 a) (hw : WF σ) : WF s := by
  obtain ⟨h1, h2, h3, h4, h5⟩ := hw
  have e : ∀ p w, 0 ≤ p → p < 8 → 0 ≤ w → w < 4 → wf (rw_ s) p w = wf (rw_ σ) p w := fun p w p0 p1 w0 w1 => wq_rel h p0 p1 w0 w1
  have e0 : ∀ j, REL j → rw_ s j = rw_ σ j := fun j hj => h j hj
  have r : ∀ j, j < 5 → REL j := fun j hj => Or.inl hj
  have r2 : ∀ j, 16 ≤ j → j ≤ 22 → REL j := fun j a b => Or.inr (Or.inl ⟨a, b⟩)
  refine ⟨?_, fun p p0 p1 => ?_, fun p p0 p1 pe => ?_, fun p q p0 p1 q0 q1 hn pe qe => ?_, ?_⟩
  · unfold WFs
    rw [e0 0 (r 0 (by omega)), e0 1 (r 1 (by omega)), e0 2 (r 2 (by omega)), e0 3 (r 3 (by omega)), e0 4 (r 4 (by omega))]
    exact h1
  · rw [e p 0 p0 p1 (by omega) (by omega)]
    exact h2 p p0 p1
  · rw [e p 0 p0 p1 (by omega) (by omega)] at pe
    have := h3 p p0 p1 pe
    unfold WFp at *
    rw [e p 3 p0 p1 (by omega) (by omega), e p 2 p0 p1 (by omega) (by omega), e p 1 p0 p1 (by omega) (by omega), e0 0 (r 0 (by omega)), e0 1 (r 1 (by omega)), e0 2 (r 2 (by omega))]
    exact this
  · rw [e p 0 p0 p1 (by omega) (by omega)] at pe
    rw [e q 0 q0 q1 (by omega) (by omega)] at qe
    rw [e p 1 p0 p1 (by omega) (by omega), e p 2 p0 p1 (by omega) (by omega), e q 1 q0 q1 (by omega) (by omega), e q 2 q0 q1 (by omega) (by omega)]
    exact h4 p q p0 p1 q0 q1 hn pe qe
  · rcases h5 with h5 | h5
    · exact Or.inl ((e0 16 (r2 16 (by omega) (by omega))).trans h5)
    · refine Or.inr ?_
      have hp := h5.1
      unfold WFm at *
      rw [e0 16 (r2 16 (by omega) (by omega)), e0 17 (r2 17 (by omega) (by omega)), e0 18 (r2 18 (by omega) (by omega)), e0 19 (r2 19 (by omega) (by omega)), e0 20 (r2 20 (by omega) (by omega)), e0 21 (r2 21 (by omega) (by omega)), e0 22 (r2 22 (by omega) (by omega)), e0 0 (r 0 (by omega)), e0 1 (r 1 (by omega)), e0 2 (r 2 (by omega)), e _ 0 hp.1 hp.2 (by omega) (by omega), e _ 1 hp.1 hp.2 (by omega) (by omega), e _ 2 hp.1 hp.2 (by omega) (by omega)]
      obtain ⟨c1, c2, c3, c4, c5, c6, c7, c8, c9, c10, c11⟩ := h5
      refine ⟨c1, c2, c3, c4, c5, c6, c7, c8, c9, c10, fun q q0 q1 hn qe => ?_⟩
      rw [e q 0 q0 q1 (by omega) (by omega)] at qe
      rw [e q 1 q0 q1 (by omega) (by omega), e q 2 q0 q1 (by omega) (by omega)]
      exact c11 q q0 q1 hn qe
/-- all that matters is as it was, but partition p's places -/
def AG (σ s : ra_V) (p : Int) : Prop := ∀ a : Nat, REL a → ¬ (24 + 8 * p ≤ (a : Int) ∧ (a : Int) < 24 + 8 * p + 8) → ra_g s 180 a = ra_g σ 180 a
theorem AG_q {p q w : Int} (h : AG σ s p) (hn : q ≠ p) (h0 : 0 ≤ q) (h1 : q < 8) (h2 : 0 ≤ w) (h3 : w < 4) : wq s q w = wq σ q w := h _ (Or.inr (Or.inr (by omega))) (by omega)
theorem AG_s {p : Int} (h : AG σ s p) (hp : 0 ≤ p) (j : Nat) (hj : j < 5 ∨ (16 ≤ j ∧ j ≤ 22)) : ra_g s 180 j = ra_g σ 180 j := h j (by unfold REL; omega) (by omega)
theorem WF_chg {p : Int} (hw : WF σ) (hp : 0 ≤ p ∧ p < 8) (h : AG σ s p) (hm : ra_g σ 180 16 ≠ p)
    (he : wq s p 0 = 0 ∨ (wq s p 0 = 1 ∧ 1 ≤ wq s p 3 ∧ wq s p 3 ≤ wq s p 2 ∧ US σ (wq s p 1) (wq s p 2) ∧ ¬ TK σ (wq s p 1) (wq s p 2) p ∧ ¬ BT σ (wq s p 1) (wq s p 2))) : WF s := by
  have g := AG_s h hp.1
  have q_ := fun {q w : Int} => AG_q (q := q) (w := w) h
  have ap : ∀ q, 0 ≤ q → q < 8 → q ≠ p → wq σ q 0 = 1 → wq s p 0 = 1 → wq s p 1 + wq s p 2 ≤ wq σ q 1 ∨ wq σ q 1 + wq σ q 2 ≤ wq s p 1 := fun q q0 q1 hn hq hs => by
    rcases he with he | ⟨-, e1, e2, e3, e4, -⟩
    · omega
    · by_cases c1 : wq s p 1 < wq σ q 1 + wq σ q 2
      · by_cases c2 : wq σ q 1 < wq s p 1 + wq s p 2
        · exact absurd ⟨q, q0, q1, hn, hq, c1, c2⟩ e4
        · omega
      · omega
  refine ⟨?_, fun q q0 q1 => ?_, fun q q0 q1 qe => ?_, fun q r q0 q1 r0 r1 hn qe re => ?_, ?_⟩
  · have := hw.1
    unfold WFs at *
    show (64 ≤ ra_g s 180 0 ∧ ra_g s 180 0 ≤ 600) ∧ (0 ≤ ra_g s 180 1 ∧ ra_g s 180 1 ≤ 31) ∧ (0 ≤ ra_g s 180 2 ∧ ra_g s 180 2 ≤ 31) ∧ (1 ≤ ra_g s 180 3 ∧ ra_g s 180 3 ≤ 32) ∧ (1 ≤ ra_g s 180 4 ∧ ra_g s 180 4 ≤ 16)
    rw [g 0 (by omega), g 1 (by omega), g 2 (by omega), g 3 (by omega), g 4 (by omega)]
    exact this
  · show wq s q 0 = 0 ∨ wq s q 0 = 1
    by_cases e : q = p
    · rw [e]; rcases he with he | ⟨he, -⟩ <;> omega
    · rw [q_ e q0 q1 (by omega) (by omega)]; exact WF_ex hw q0 q1
  · have qe : wq s q 0 = 1 := qe
    show 1 ≤ wq s q 3 ∧ wq s q 3 ≤ wq s q 2 ∧ ra_g s 180 1 ≤ wq s q 1 ∧ wq s q 1 + wq s q 2 ≤ ra_g s 180 0 - ra_g s 180 2
    rw [g 1 (by omega), g 0 (by omega), g 2 (by omega)]
    by_cases e : q = p
    · rw [e] at qe ⊢
      rcases he with he | ⟨-, e1, e2, e3, -, -⟩
      · omega
      · unfold US at e3; omega
    · rw [q_ e q0 q1 (by omega) (by omega)] at qe
      rw [q_ e q0 q1 (by omega) (by omega), q_ e q0 q1 (by omega) (by omega), q_ e q0 q1 (by omega) (by omega)]
      exact WF_p hw q0 q1 qe
  · have qe : wq s q 0 = 1 := qe
    have re : wq s r 0 = 1 := re
    show wq s q 1 + wq s q 2 ≤ wq s r 1 ∨ wq s r 1 + wq s r 2 ≤ wq s q 1
    by_cases e : q = p
    · subst e
      have e2 : r ≠ q := Ne.symm hn
      rw [q_ e2 r0 r1 (by omega) (by omega)] at re
      rw [q_ e2 r0 r1 (by omega) (by omega), q_ e2 r0 r1 (by omega) (by omega)]
      exact ap r r0 r1 e2 re qe
    · rw [q_ e q0 q1 (by omega) (by omega)] at qe
      rw [q_ e q0 q1 (by omega) (by omega), q_ e q0 q1 (by omega) (by omega)]
      by_cases e2 : r = p
      · subst e2
        have := ap q q0 q1 e qe re
        omega
      · rw [q_ e2 r0 r1 (by omega) (by omega)] at re
        rw [q_ e2 r0 r1 (by omega) (by omega), q_ e2 r0 r1 (by omega) (by omega)]
        exact WF_ap hw q0 q1 r0 r1 hn qe re
  · by_cases hmv : ra_g σ 180 16 = -1
    · exact Or.inl ((g 16 (by omega)).trans hmv)
    · refine Or.inr ?_
      have hv := WF_m hw hmv
      have hz := WF_msz hw hmv
      have e16 := g 16 (by omega)
      obtain ⟨c1, c2, c3, c4, c5, c6, c7, c8, c9, c10, c11⟩ := hv
      have k : ∀ w, 0 ≤ w → w < 4 → wq s (ra_g s 180 16) w = wq σ (ra_g σ 180 16) w := fun w w0 w1 => by
        rw [e16]
        exact q_ hm hz.1.1 hz.1.2 w0 w1
      have k0 : wf (rw_ s) (rw_ s 16) 0 = wf (rw_ σ) (rw_ σ 16) 0 := k 0 (by omega) (by omega)
      have k1 : wf (rw_ s) (rw_ s 16) 1 = wf (rw_ σ) (rw_ σ 16) 1 := k 1 (by omega) (by omega)
      have k2 : wf (rw_ s) (rw_ s 16) 2 = wf (rw_ σ) (rw_ σ 16) 2 := k 2 (by omega) (by omega)
      have j : ∀ n, (n < 5 ∨ (16 ≤ n ∧ n ≤ 22)) → rw_ s n = rw_ σ n := fun n hn => g n hn
      unfold WFm
      rw [k0, k1, k2, j 16 (by omega), j 17 (by omega), j 18 (by omega), j 19 (by omega), j 20 (by omega), j 21 (by omega), j 22 (by omega), j 0 (by omega), j 1 (by omega), j 2 (by omega)]
      refine ⟨c1, c2, c3, c4, c5, c6, c7, c8, c9, c10, fun q q0 q1 hn qe => ?_⟩
      have qe : wq s q 0 = 1 := qe
      show ra_g σ 180 18 + wq σ (ra_g σ 180 16) 2 ≤ wq s q 1 ∨ wq s q 1 + wq s q 2 ≤ ra_g σ 180 18
      by_cases e : q = p
      · subst e
        rcases he with he | ⟨-, e1, e2, e3, -, e5⟩
        · omega
        · unfold BT at e5
          omega
      · rw [q_ e q0 q1 (by omega) (by omega)] at qe
        rw [q_ e q0 q1 (by omega) (by omega), q_ e q0 q1 (by omega) (by omega)]
        exact c11 q q0 q1 hn qe
end
end RB
