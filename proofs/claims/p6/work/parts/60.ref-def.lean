/-! the reference's row: what holds of it -/
section RB
def wf (f : Nat → Int) (p w : Int) : Int := f (24 + 8 * p + w).toNat
def ref_apart (a m b n : Int) : Prop := a + m ≤ b ∨ b + n ≤ a
def ref_chunks (size chunk : Int) : Int := (size + chunk - 1).tdiv chunk
/-- a move that is on -/
def WFm (f : Nat → Int) : Prop :=
  (0 ≤ f 16 ∧ f 16 < 8) ∧ wf f (f 16) 0 = 1 ∧ wf f (f 16) 1 = f 17 ∧ (f 1 ≤ f 18 ∧ f 18 + wf f (f 16) 2 ≤ f 0 - f 2) ∧ f 17 ≠ f 18 ∧ (1 ≤ f 19 ∧ f 19 ≤ 16) ∧ (0 ≤ f 21 ∧ f 21 < ref_chunks (wf f (f 16) 2) (f 19)) ∧ (f 22 = 0 ∨ f 22 = 1) ∧
  (-1 ≤ f 20 ∧ f 20 + min (f 19) (wf f (f 16) 2) ≤ 600) ∧ (f 20 = -1 → min (f 19) (wf f (f 16) 2) ≤ f 17 - f 18 ∨ min (f 19) (wf f (f 16) 2) ≤ f 18 - f 17) ∧
  (∀ q, 0 ≤ q → q < 8 → q ≠ f 16 → wf f q 0 = 1 → ref_apart (f 18) (wf f (f 16) 2) (wf f q 1) (wf f q 2))
def WFp (f : Nat → Int) (p : Int) : Prop := 1 ≤ wf f p 3 ∧ wf f p 3 ≤ wf f p 2 ∧ f 1 ≤ wf f p 1 ∧ wf f p 1 + wf f p 2 ≤ f 0 - f 2
def WFs (f : Nat → Int) : Prop := (64 ≤ f 0 ∧ f 0 ≤ 600) ∧ (0 ≤ f 1 ∧ f 1 ≤ 31) ∧ (0 ≤ f 2 ∧ f 2 ≤ 31) ∧ (1 ≤ f 3 ∧ f 3 ≤ 32) ∧ (1 ≤ f 4 ∧ f 4 ≤ 16)
def WFf (f : Nat → Int) : Prop :=
  WFs f ∧ (∀ p, 0 ≤ p → p < 8 → wf f p 0 = 0 ∨ wf f p 0 = 1) ∧ (∀ p, 0 ≤ p → p < 8 → wf f p 0 = 1 → WFp f p) ∧
  (∀ p q, 0 ≤ p → p < 8 → 0 ≤ q → q < 8 → p ≠ q → wf f p 0 = 1 → wf f q 0 = 1 → ref_apart (wf f p 1) (wf f p 2) (wf f q 1) (wf f q 2)) ∧ (f 16 = -1 ∨ WFm f)
/-- the row w -/
def rw_ (σ : ra_V) (j : Nat) : Int := ra_g σ 180 j
def wq (σ : ra_V) (p w : Int) : Int := ra_g σ 180 (24 + 8 * p + w).toNat
theorem wq_eq {σ : ra_V} {p w : Int} : wf (rw_ σ) p w = wq σ p w := rfl
theorem ra_in_wq (σ : ra_V) (p w : Int) : ra_in (wq σ p w) := ra_in_g _ _ _
def WF (σ : ra_V) : Prop := WFf (rw_ σ)
theorem wq_k {s t : ra_V} {p w : Int} (h : s 180 = t 180) : wq s p w = wq t p w := ra_gk h
theorem rw_k {s t : ra_V} (h : s 180 = t 180) : rw_ s = rw_ t := by funext j; exact ra_gk h
theorem WF_k {s t : ra_V} (h : s 180 = t 180) (hw : WF t) : WF s := by unfold WF; rw [rw_k h]; exact hw
/-- what is easy to see of it -/
def WFa (σ : ra_V) : Prop := (64 ≤ ra_g σ 180 0 ∧ ra_g σ 180 0 ≤ 600) ∧ (0 ≤ ra_g σ 180 1 ∧ ra_g σ 180 1 ≤ 31) ∧ (0 ≤ ra_g σ 180 2 ∧ ra_g σ 180 2 ≤ 31) ∧ (1 ≤ ra_g σ 180 3 ∧ ra_g σ 180 3 ≤ 32) ∧ (1 ≤ ra_g σ 180 4 ∧ ra_g σ 180 4 ≤ 16) ∧ (-1 ≤ ra_g σ 180 16 ∧ ra_g σ 180 16 < 8)
theorem WF_a {σ : ra_V} (h : WF σ) : WFa σ := by
  obtain ⟨⟨h1, h2, h3, h4, h5⟩, -, -, -, h6⟩ := h
  refine ⟨h1, h2, h3, h4, h5, ?_⟩
  rcases h6 with h6 | ⟨h6, -⟩
  · have h6 : ra_g σ 180 16 = -1 := h6
    omega
  · have h6 : 0 ≤ ra_g σ 180 16 ∧ ra_g σ 180 16 < 8 := h6
    omega
theorem WF_ex {σ : ra_V} (h : WF σ) {p : Int} (h0 : 0 ≤ p) (h1 : p < 8) : wq σ p 0 = 0 ∨ wq σ p 0 = 1 := h.2.1 p h0 h1
theorem WF_p {σ : ra_V} (h : WF σ) {p : Int} (h0 : 0 ≤ p) (h1 : p < 8) (he : wq σ p 0 = 1) : 1 ≤ wq σ p 3 ∧ wq σ p 3 ≤ wq σ p 2 ∧ ra_g σ 180 1 ≤ wq σ p 1 ∧ wq σ p 1 + wq σ p 2 ≤ ra_g σ 180 0 - ra_g σ 180 2 := h.2.2.1 p h0 h1 he
theorem WF_ap {σ : ra_V} (h : WF σ) {p q : Int} (h0 : 0 ≤ p) (h1 : p < 8) (h2 : 0 ≤ q) (h3 : q < 8) (hn : p ≠ q) (he : wq σ p 0 = 1) (hf : wq σ q 0 = 1) : wq σ p 1 + wq σ p 2 ≤ wq σ q 1 ∨ wq σ q 1 + wq σ q 2 ≤ wq σ p 1 := h.2.2.2.1 p q h0 h1 h2 h3 hn he hf
/-- an area meets a partition, but one -/
def TK (σ : ra_V) (a m w : Int) : Prop := ∃ p, 0 ≤ p ∧ p < 8 ∧ p ≠ w ∧ wq σ p 0 = 1 ∧ a < wq σ p 1 + wq σ p 2 ∧ wq σ p 1 < a + m
def US (σ : ra_V) (a m : Int) : Prop := 1 ≤ m ∧ ra_g σ 180 1 ≤ a ∧ a + m ≤ ra_g σ 180 0 - ra_g σ 180 2
/-- the room that a move needs: where it goes to -/
def BT (σ : ra_V) (a m : Int) : Prop := ra_g σ 180 16 ≠ -1 ∧ 1 ≤ m ∧ a < ra_g σ 180 18 + wq σ (ra_g σ 180 16) 2 ∧ ra_g σ 180 18 < a + m
theorem ex_s1 {P : Int → Prop} {v : Int} (h : ∃ p, 0 ≤ p ∧ p < v ∧ P p) : ∃ p, 0 ≤ p ∧ p < v + 1 ∧ P p := by
  obtain ⟨p, h1, h2, h3⟩ := h
  exact ⟨p, h1, by omega, h3⟩
theorem ex_s2 {P : Int → Prop} {v : Int} (h : 0 ≤ v) (hp : P v) : ∃ p, 0 ≤ p ∧ p < v + 1 ∧ P p := ⟨v, h, by omega, hp⟩
theorem ex_s0 {P : Int → Prop} {v : Int} (h : ¬ ∃ p, 0 ≤ p ∧ p < v ∧ P p) (hp : ¬ P v) : ¬ ∃ p, 0 ≤ p ∧ p < v + 1 ∧ P p := by
  rintro ⟨p, h1, h2, h3⟩
  by_cases e : p = v
  · rw [e] at h3; exact hp h3
  · exact h ⟨p, h1, by omega, h3⟩
theorem ra_in_tmod {x y : Int} (hx : ra_in x) (hy : 1 ≤ y) : ra_in (x.tmod y) := by
  have h1 := Int.natAbs_tdiv_le_natAbs x y
  have h2 := Int.tmod_lt_of_pos x (by omega : 0 < y)
  have h3 := Int.lt_tmod_of_pos x (by omega : 0 < y)
  have h4 : 0 ≤ x → x.tmod y ≤ x := fun h => by
    have := Int.tmod_add_mul_tdiv x y
    have := Int.mul_nonneg (by omega : 0 ≤ y) (Int.tdiv_nonneg h (by omega : 0 ≤ y))
    omega
  have h5 : 0 ≤ x → 0 ≤ x.tmod y := fun h => Int.tmod_nonneg _ h
  have h6 : x ≤ 0 → x ≤ x.tmod y := fun h => by
    have := Int.tmod_add_mul_tdiv x y
    have := Int.mul_nonneg (by omega : 0 ≤ y) (Int.tdiv_nonneg (a := -x) (by omega) (by omega : 0 ≤ y))
    rw [Int.neg_tdiv, Int.mul_neg] at this
    omega
  have h7 : x ≤ 0 → x.tmod y ≤ 0 := fun h => by
    have := Int.tmod_nonneg (a := -x) y (by omega)
    rw [Int.neg_tmod] at this
    omega
  unfold ra_in at *
  rcases Int.le_total 0 x with h | h
  · have := h4 h; have := h5 h; omega
  · have := h6 h; have := h7 h; omega
theorem WFa_k {s t : ra_V} (h : s 180 = t 180) (hw : WFa t) : WFa s := by
  unfold WFa at *
  rw [ra_gk h, ra_gk h, ra_gk h, ra_gk h, ra_gk h, ra_gk h]
  exact hw
end RB
