/-! T5: the order, one by one *-/
section
section
variable {τ : ra_V} {k : Nat} {i z c lo hi : Int} {P : Int → Prop}
theorem x5ls_b (h : x5LST P lo hi z) (hz : z ≠ -1) : lo ≤ z ∧ z < hi ∧ P z := by
  rcases h with ⟨h, -⟩ | ⟨h1, h2, h3, -⟩
  · exact absurd h hz
  · exact ⟨h1, h2, h3⟩
theorem x5oq_0 (hW : WF τ) (h : NB τ (-1) 8 z) : (z = -1 → 0 = ct τ (-1) ∧ x5ordN τ 0 = -1) ∧ (z ≠ -1 → x5ordN τ 0 = z ∧ wq τ z 0 = 1 ∧ 0 < ct τ (-1) ∧ ct τ (wq τ z 1) = ct τ (-1) - 1) := by
  have e : x5ordN τ 0 = z := (x5nb_f hW h).symm
  refine ⟨fun q => ?_, fun q => ?_⟩
  · rw [q] at h e
    exact ⟨(cnt_0 h).symm, e⟩
  · obtain ⟨z0, z1, z2, z3⟩ := h.1.resolve_left q
    have h1 := cnt_1 hW h q
    have h2 := ct_b (σ := τ) (c := wq τ z 1)
    exact ⟨e, z2, by omega, h1⟩
theorem x5oq_s (hW : WF τ) (ho : x5ordN τ k = i) (hi : 0 ≤ i) (hc : ct τ (wq τ i 1) = ct τ (-1) - k - 1) (h : NB τ (wq τ i 1) 8 z) : (z = -1 → ((k + 1 : Nat) : Int) = ct τ (-1) ∧ x5ordN τ (k + 1) = -1) ∧ (z ≠ -1 → x5ordN τ (k + 1) = z ∧ wq τ z 0 = 1 ∧ ((k + 1 : Nat) : Int) < ct τ (-1) ∧ ct τ (wq τ z 1) = ct τ (-1) - ((k + 1 : Nat) : Int) - 1) := by
  have e : x5ordN τ (k + 1) = z := by
    rw [x5ord_s (by omega), ho]
    exact (x5nb_f hW h).symm
  refine ⟨fun q => ?_, fun q => ?_⟩
  · rw [q] at h e
    have := cnt_0 h
    exact ⟨by omega, e⟩
  · obtain ⟨z0, z1, z2, z3⟩ := h.1.resolve_left q
    have h1 := cnt_1 hW h q
    have h2 := ct_b (σ := τ) (c := wq τ z 1)
    exact ⟨e, z2, by omega, by omega⟩
theorem x5pkN_b : ∀ k : Nat, 0 ≤ x5pkN k τ ∧ x5pkN k τ ≤ k
  | 0 => ⟨Int.le_refl _, Int.le_refl _⟩
  | k + 1 => by
    have h := x5pkN_b k
    show 0 ≤ x5pkN k τ + (if _ then _ else _) ∧ x5pkN k τ + (if _ then _ else _) ≤ _
    split <;> omega
theorem x5pkN_in : ra_in (x5pkN (ct τ (-1)).toNat τ) := by
  have h := x5pkN_b (τ := τ) (ct τ (-1)).toNat
  have h2 := ct_b (σ := τ) (c := -1)
  unfold ra_in
  omega
end
end
