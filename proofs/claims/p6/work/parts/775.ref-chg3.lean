/-! partitions made smaller, joined, split -/
section RB
section
variable {σ s : ra_V} {p : Int}
theorem szk_le (hw : WF σ) (hp : 0 ≤ p ∧ p < 8) (he : wq σ p 0 = 1) {m : Int} (h1 : wq σ p 3 ≤ m) (h2 : m ≤ wq σ p 2) : SZK σ p m := by
  have hq := WF_p hw hp.1 hp.2 he
  refine ⟨h1, ⟨by omega, by omega, by omega⟩, ?_, fun q => ?_⟩
  · rintro ⟨q, q0, q1, q2, q3, q4, q5⟩
    have := WF_ap hw hp.1 hp.2 q0 q1 (Ne.symm q2) he q3
    omega
  · have := q.2.1
    omega
theorem shr_w (hw : WF σ) (hp : 0 ≤ p ∧ p < 8) {z : Int} (hz : z = 0 ∨ (z = wq σ p 2 - wq σ p 3 ∧ wq σ p 0 = 1 ∧ ra_g σ 180 16 ≠ p)) (v : wq s p 2 = wq σ p 2 - z) (o : ∀ a, a ≠ (24 + 8 * p + 2).toNat → ra_g s 180 a = ra_g σ 180 a) : WF s := by
  rcases hz with hz | ⟨hz, he, hm⟩
  · refine WF_sc (fun a _ => ?_) hw
    by_cases e : a = (24 + 8 * p + 2).toNat
    · rw [e]
      have : wq s p 2 = wq σ p 2 := by omega
      exact this
    · exact o a e
  · have hq := WF_p hw hp.1 hp.2 he
    exact WF_rsz hw ⟨hp.1, hp.2, he⟩ hm (m := wq σ p 2 - z) ⟨v, fun a _ h => o a h⟩ (szk_le hw hp he (by omega) (by omega))
end
end RB
