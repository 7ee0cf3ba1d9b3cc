/-! a number taken -/
section RB
section
variable {G : ri_Tb} {sh : ra_Sh} {b d mi : Nat} {M : ri_Mt} {pc : Nat} {L : List (Option Jvm.Term)} {st rest args : List Jvm.Term} {σ : ra_V} {Q : ra_Q} {i : Instr} {S : ra_V → Prop} {P : Int → ra_V → Prop}
theorem ra_cQPs (hC : ra_C G sh 0 d mi args σ (fun r s => (∃ z : Int, (z = 0 ∨ z = 1) ∧ P z s ∧ r = .inl (some (ra_I z))) ∧ S s)) (hd : (ri_co M)[pc]? = some (some (i, 3))) (ht : ra_ct G sh M i st args rest mi) (k : ∀ (z : Int) s, (z = 0 ∨ z = 1) → P z s → S s → ra_P G sh b d M (pc + 3) L (ra_I z :: rest) s Q) : ra_P G sh b d M pc L st σ Q :=
  ra_callA hC hd ht (fun E s h => by obtain ⟨⟨z, -, -, e⟩, -⟩ := h; cases e) (fun t s h => by obtain ⟨⟨z, hz, hp, e⟩, hs⟩ := h; cases e; exact k z s hz hp hs)
end
theorem pt_k {σ s : ra_V} (h : ∀ a, a ≠ 15 → a ≠ 16 → ra_g s 179 a = ra_g σ 179 a) (q : 0 ≤ ra_g σ 179 18 ∧ ra_g σ 179 18 ≤ ra_g σ 179 17 ∧ ra_g σ 179 17 ≤ ra_g σ 179 12 ∧ ra_g σ 179 12 ≤ 500 ∧ 0 ≤ ra_g σ 179 19 ∧ ra_g σ 179 19 ≤ 999) : 0 ≤ ra_g s 179 18 ∧ ra_g s 179 18 ≤ ra_g s 179 17 ∧ ra_g s 179 17 ≤ ra_g s 179 12 ∧ ra_g s 179 12 ≤ 500 ∧ 0 ≤ ra_g s 179 19 ∧ ra_g s 179 19 ≤ 999 := by
  have h1 := h 12 (by decide) (by decide)
  have h2 := h 17 (by decide) (by decide)
  have h3 := h 18 (by decide) (by decide)
  have h4 := h 19 (by decide) (by decide)
  omega
theorem pt_e {σ s : ra_V} (h1 : ra_g s 179 12 = ra_g σ 179 12) (h2 : ra_g s 179 17 = ra_g σ 179 17) (h3 : ra_g s 179 18 = ra_g σ 179 18) (h4 : ra_g s 179 19 = ra_g σ 179 19) (q : 0 ≤ ra_g σ 179 18 ∧ ra_g σ 179 18 ≤ ra_g σ 179 17 ∧ ra_g σ 179 17 ≤ ra_g σ 179 12 ∧ ra_g σ 179 12 ≤ 500 ∧ 0 ≤ ra_g σ 179 19 ∧ ra_g σ 179 19 ≤ 999) : 0 ≤ ra_g s 179 18 ∧ ra_g s 179 18 ≤ ra_g s 179 17 ∧ ra_g s 179 17 ≤ ra_g s 179 12 ∧ ra_g s 179 12 ≤ 500 ∧ 0 ≤ ra_g s 179 19 ∧ ra_g s 179 19 ≤ 999 := by
  omega
end RB
