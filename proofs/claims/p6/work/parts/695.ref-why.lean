/-! why not, where else: what is needed of the numbers -/
section RB
def MOK (σ : ra_V) (p to : Int) : Prop := ra_g σ 180 16 = -1 ∧ to ≠ wq σ p 1 ∧ US σ to (wq σ p 2) ∧ ¬ TK σ to (wq σ p 2) p ∧ (min (ra_g σ 180 4) (wq σ p 2) ≤ rfar (wq σ p 1) to ∨ SCE σ p to (min (ra_g σ 180 4) (wq σ p 2)))
def SZK (σ : ra_V) (p m : Int) : Prop := wq σ p 3 ≤ m ∧ US σ (wq σ p 1) m ∧ ¬ TK σ (wq σ p 1) m p ∧ ¬ BT σ (wq σ p 1 + wq σ p 2) (m - wq σ p 2)
section
variable {σ : ra_V} {p : Int}
theorem tk_self (hw : WF σ) (hp : 0 ≤ p ∧ p < 8 ∧ wq σ p 0 = 1) : ¬ TK σ (wq σ p 1) (wq σ p 2) p := by
  rintro ⟨q, q0, q1, q2, q3, q4, q5⟩
  have := WF_ap hw hp.1 hp.2.1 q0 q1 (Ne.symm q2) hp.2.2 q3
  omega
theorem us_self (hw : WF σ) (hp : 0 ≤ p ∧ p < 8 ∧ wq σ p 0 = 1) : US σ (wq σ p 1) (wq σ p 2) := by
  have := WF_p hw hp.1 hp.2.1 hp.2.2
  unfold US
  omega
theorem tdiv_b {x c : Int} (hx : 0 ≤ x) (hc : 1 ≤ c) : x.tdiv c * c ≤ x ∧ x < x.tdiv c * c + c ∧ 0 ≤ x.tdiv c := by
  have h1 := Int.tmod_add_mul_tdiv x c
  have h2 := Int.tmod_lt_of_pos x (by omega : 0 < c)
  have h3 := Int.tmod_nonneg c hx
  have h4 := Int.tdiv_nonneg hx (by omega : 0 ≤ c)
  rw [Int.mul_comm] at h1
  omega
theorem pl_in {x : Int} (hx : 0 ≤ x) (hc : 1 ≤ ra_g σ 180 19) (h : x.tdiv (ra_g σ 180 19) = rnx σ) : rfb σ ≤ x ∧ x < rfb σ + ra_g σ 180 19 := by
  have := tdiv_b hx hc
  rw [h] at this
  unfold rfb
  omega
end
theorem mok_to {s : ra_V} {p to : Int} (hw : WF s) (h : MOK s p to) : 0 ≤ to ∧ to ≤ 600 := by
  have ha := WF_a hw
  unfold WFa at ha
  obtain ⟨-, -, h1, -⟩ := h
  unfold US at h1
  omega
theorem sp_k {σ s t : ra_V} {p : Int} (h2 : t 180 = σ 180) (h1 : s 180 = σ 180) (h : 0 ≤ p ∧ p < 8 ∧ wq s p 0 = 1) : 0 ≤ p ∧ p < 8 ∧ wq t p 0 = 1 := ⟨h.1, h.2.1, by rw [wq_k (h2.trans h1.symm)]; exact h.2.2⟩
/-- the next one by its start -/
def NB (σ : ra_V) (c v z : Int) : Prop := (z = -1 ∨ (0 ≤ z ∧ z < v ∧ wq σ z 0 = 1 ∧ c < wq σ z 1)) ∧ ∀ q, 0 ≤ q → q < v → wq σ q 0 = 1 → c < wq σ q 1 → z ≠ -1 ∧ wq σ z 1 ≤ wq σ q 1
section
variable {σ : ra_V} {c v z : Int}
theorem nb_0 : NB σ c 0 (-1) := ⟨Or.inl rfl, fun q a b => by omega⟩
theorem nb_n (h : NB σ c v z) (hv : 0 ≤ v) (hn : ¬ (wq σ v 0 = 1 ∧ c < wq σ v 1)) : NB σ c (v + 1) z := by
  obtain ⟨h1, h2⟩ := h
  refine ⟨by omega, fun q a b d e => ?_⟩
  by_cases hq : q = v
  · rw [hq] at d e; exact absurd ⟨d, e⟩ hn
  · exact h2 q a (by omega) d e
theorem nb_k (h : NB σ c v z) (hv : 0 ≤ v) (hz : z ≠ -1) (hl : wq σ z 1 ≤ wq σ v 1) : NB σ c (v + 1) z := by
  obtain ⟨h1, h2⟩ := h
  refine ⟨by omega, fun q a b d e => ?_⟩
  by_cases hq : q = v
  · rw [hq]; exact ⟨hz, hl⟩
  · exact h2 q a (by omega) d e
theorem nb_y (h : NB σ c v z) (hv : 0 ≤ v) (he : wq σ v 0 = 1) (hc : c < wq σ v 1) (hl : z = -1 ∨ wq σ v 1 < wq σ z 1) : NB σ c (v + 1) v := by
  obtain ⟨h1, h2⟩ := h
  refine ⟨Or.inr ⟨hv, by omega, he, hc⟩, fun q a b d e => ⟨by omega, ?_⟩⟩
  by_cases hq : q = v
  · rw [hq]; omega
  · have := h2 q a (by omega) d e
    omega
end
/-- no partition begins behind p -/
def NN (σ : ra_V) (p v : Int) : Prop := ∀ r, 0 ≤ r → r < v → wq σ r 0 = 1 → wq σ r 1 ≠ wq σ p 1 + wq σ p 2
theorem nn_0 {σ : ra_V} {p : Int} : NN σ p 0 := fun r a b => by omega
theorem nn_y {σ : ra_V} {p v : Int} (h : NN σ p v) (hx : wq σ v 0 = 1 → wq σ v 1 ≠ wq σ p 1 + wq σ p 2) : NN σ p (v + 1) := fun r a b c => by
  by_cases e : r = v
  · rw [e] at c ⊢; exact hx c
  · exact h r a (by omega) c
/-- a partition can be joined with the next one -/
def CJ (σ : ra_V) (p : Int) : Prop := ∃ q, 0 ≤ q ∧ q < 8 ∧ wq σ q 0 = 1 ∧ wq σ q 1 = wq σ p 1 + wq σ p 2 ∧ ra_g σ 180 16 ≠ p ∧ ra_g σ 180 16 ≠ q
end RB
