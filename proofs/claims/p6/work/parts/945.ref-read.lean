/-! while a text is read: the partitions that exist are the first ones -/
section RB
def LD (σ : ra_V) : Prop := WF σ ∧ ra_g σ 180 16 = -1 ∧ (0 ≤ ra_g σ 180 5 ∧ ra_g σ 180 5 ≤ 8) ∧ ∀ p, 0 ≤ p → p < 8 → (wq σ p 0 = 1 ↔ p < ra_g σ 180 5)
section
variable {σ s : ra_V}
theorem LD_k (h : s 180 = σ 180) (q : LD σ) : LD s := by
  obtain ⟨h1, h2, h3, h4⟩ := q
  refine ⟨WF_k h h1, by rw [ra_gk h]; exact h2, by rw [ra_gk h]; exact h3, fun p p0 p1 => ?_⟩
  rw [wq_k h, ra_gk h]
  exact h4 p p0 p1
theorem WF_emp (h1 : WFs (rw_ s)) (e : ∀ p, 0 ≤ p → p < 8 → wq s p 0 = 0) (h16 : ra_g s 180 16 = -1) : WF s := by
  refine ⟨h1, fun p p0 p1 => Or.inl (e p p0 p1), fun p p0 p1 pe => ?_, fun p q p0 p1 q0 q1 hn pe qe => ?_, Or.inl h16⟩
  · have e2 : wf (rw_ s) p 0 = 0 := e p p0 p1
    rw [e2] at pe
    omega
  · have e2 : wf (rw_ s) p 0 = 0 := e p p0 p1
    rw [e2] at pe
    omega
theorem LD_0 (h : WF s) (hz : ∀ a, a < 88 → a ≠ 0 → a ≠ 3 → a ≠ 4 → a ≠ 16 → ra_g s 180 a = 0) : LD s ∧ ra_g s 180 5 = 0 := by
  have e : ∀ p, 0 ≤ p → p < 8 → wq s p 0 = 0 := fun p p0 p1 => hz (24 + 8 * p + 0).toNat (by omega) (by omega) (by omega) (by omega) (by omega)
  have h5 : ra_g s 180 5 = 0 := hz 5 (by omega) (by omega) (by omega) (by omega) (by omega)
  refine ⟨⟨h, ?_, by omega, fun p p0 p1 => ⟨fun q => ?_, fun q => by omega⟩⟩, h5⟩
  · by_cases c : ra_g s 180 16 = -1
    · exact c
    · obtain ⟨⟨c0, c1⟩, c2, -⟩ := WF_msz h c
      have := e _ c0 c1
      omega
  · have := e p p0 p1
    omega
theorem LD_set {j : Nat} (h : LD σ) (hj : j < 5) (o : ∀ a, a ≠ j → ra_g s 180 a = ra_g σ 180 a) (v0 : j = 0 → 64 ≤ ra_g s 180 j ∧ ra_g s 180 j ≤ 600) (v1 : j = 1 ∨ j = 2 → 0 ≤ ra_g s 180 j ∧ ra_g s 180 j ≤ 31) (v3 : j = 3 → 1 ≤ ra_g s 180 j ∧ ra_g s 180 j ≤ 32) (v4 : j = 4 → 1 ≤ ra_g s 180 j ∧ ra_g s 180 j ≤ 16) (hm : ra_g σ 180 5 = 0 ∨ j = 4) : LD s := by
  obtain ⟨h1, h2, h3, h4⟩ := h
  have o5 : ra_g s 180 5 = ra_g σ 180 5 := o 5 (by omega)
  have oq : ∀ p, 0 ≤ p → p < 8 → wq s p 0 = wq σ p 0 := fun p p0 p1 => o (24 + 8 * p + 0).toNat (by omega)
  have o16 : ra_g s 180 16 = -1 := (o 16 (by omega)).trans h2
  refine ⟨?_, o16, by omega, fun p p0 p1 => by rw [oq p p0 p1, o5]; exact h4 p p0 p1⟩
  rcases hm with hm | hm
  · have hs := WF_a h1
    unfold WFa at hs
    refine WF_emp ?_ (fun p p0 p1 => ?_) o16
    · show (64 ≤ ra_g s 180 0 ∧ ra_g s 180 0 ≤ 600) ∧ (0 ≤ ra_g s 180 1 ∧ ra_g s 180 1 ≤ 31) ∧ (0 ≤ ra_g s 180 2 ∧ ra_g s 180 2 ≤ 31) ∧ (1 ≤ ra_g s 180 3 ∧ ra_g s 180 3 ≤ 32) ∧ (1 ≤ ra_g s 180 4 ∧ ra_g s 180 4 ≤ 16)
      have k : ∀ i, i < 5 → i = j ∨ ra_g s 180 i = ra_g σ 180 i := fun i hi => if e : i = j then Or.inl e else Or.inr (o i e)
      refine ⟨?_, ?_, ?_, ?_, ?_⟩
      · rcases k 0 (by omega) with e | e
        · have := v0 e.symm; rw [← e] at this; exact this
        · rw [e]; exact hs.1
      · rcases k 1 (by omega) with e | e
        · have := v1 (Or.inl e.symm); rw [← e] at this; exact this
        · rw [e]; exact hs.2.1
      · rcases k 2 (by omega) with e | e
        · have := v1 (Or.inr e.symm); rw [← e] at this; exact this
        · rw [e]; exact hs.2.2.1
      · rcases k 3 (by omega) with e | e
        · have := v3 e.symm; rw [← e] at this; exact this
        · rw [e]; exact hs.2.2.2.1
      · rcases k 4 (by omega) with e | e
        · have := v4 e.symm; rw [← e] at this; exact this
        · rw [e]; exact hs.2.2.2.2.1
    · rw [oq p p0 p1]
      have := WF_ex h1 p0 p1
      have := h4 p p0 p1
      omega
  · subst hm
    have := v4 rfl
    exact WF_set (j := 4) h1 (Or.inr rfl) o ⟨by omega, by omega, fun _ => by omega⟩
theorem LD_x (h : LD σ) (h8 : ra_g σ 180 5 ≠ 8) : ∃ q, 0 ≤ q ∧ q < 8 ∧ wq σ q 0 ≠ 1 := by
  obtain ⟨h1, h2, h3, h4⟩ := h
  have := h4 (ra_g σ 180 5) (by omega) (by omega)
  exact ⟨ra_g σ 180 5, by omega, by omega, by omega⟩
def MK2 (σ s : ra_V) (z a m mn : Int) : Prop := MKN σ s z a m mn ∧ ra_g s 180 5 = ra_g σ 180 5 + 1 ∧ ∀ r, 0 ≤ r → r < z → wq σ r 0 = 1
theorem LD_new {z a m mn : Int} (h : LD σ) (hk : MK2 σ s z a m mn) (h8 : ra_g σ 180 5 ≠ 8) (hu : US σ a m) (ht : ¬ TK σ a m (-1)) (hm : 1 ≤ mn ∧ mn ≤ m) : LD s := by
  obtain ⟨h1, h2, h3, h4⟩ := h
  obtain ⟨k1, k2, k3⟩ := hk
  have hw := WF_new h1 k1 hu ht (fun q => q.1 h2) hm
  obtain ⟨⟨z0, z1, z2⟩, w0, -, -, -, w4⟩ := k1
  have ez : z = ra_g σ 180 5 := by
    have a1 := h4 z z0 z1
    by_cases c : ra_g σ 180 5 < z
    · have := k3 (ra_g σ 180 5) (by omega) c
      have := h4 (ra_g σ 180 5) (by omega) (by omega)
      omega
    · omega
  refine ⟨hw, ?_, by omega, fun p p0 p1 => ?_⟩
  · exact (w4 16 (by omega) (by omega) (by omega)).trans h2
  · by_cases c : p = z
    · subst c
      omega
    · have e : wq s p 0 = wq σ p 0 := w4 (24 + 8 * p + 0).toNat (by omega) (by omega) (by omega)
      have := h4 p p0 p1
      omega
theorem LD_lock {p : Int} (h : LD σ) (hp : 0 ≤ p ∧ p < 8) (o : ∀ a, a ≠ (24 + 8 * p + 5).toNat → ra_g s 180 a = ra_g σ 180 a) : LD s := by
  obtain ⟨h1, h2, h3, h4⟩ := h
  have o5 : ra_g s 180 5 = ra_g σ 180 5 := o 5 (by omega)
  refine ⟨WF_rel (fun a ha => o a (by unfold REL at ha; omega)) h1, (o 16 (by omega)).trans h2, by omega, fun q q0 q1 => ?_⟩
  have e : wq s q 0 = wq σ q 0 := o (24 + 8 * q + 0).toNat (by omega)
  have := h4 q q0 q1
  omega
end
theorem toN0 : (0 : Int).toNat = 0 := rfl
theorem toN1 : (1 : Int).toNat = 1 := rfl
theorem toN2 : (2 : Int).toNat = 2 := rfl
theorem toN3 : (3 : Int).toNat = 3 := rfl
end RB
