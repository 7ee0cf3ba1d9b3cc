/-! T5: split, joined, made smaller: the reference's rows -/
section
section
variable {σ s t τ μ υ : ra_V} {j k : Nat} {m a z x y kd mn v : Int}
theorem x5mk_sc (h : SC μ s) (q : SC (x5mkV s z a m kd mn) t) : SC (x5mkV μ z a m kd mn) t := fun b hb => by
  rw [q b hb]
  unfold x5mkV
  simp only [x5up_g, h 5 (by omega), h b hb]
theorem x5nfr_sc (h : SC μ s) : x5nfr s = x5nfr μ := by
  unfold x5nfr
  rw [wq_sc h (p := 0) (w := 0) (by omega) (by omega), wq_sc h (p := 1) (w := 0) (by omega) (by omega), wq_sc h (p := 2) (w := 0) (by omega) (by omega), wq_sc h (p := 3) (w := 0) (by omega) (by omega), wq_sc h (p := 4) (w := 0) (by omega) (by omega), wq_sc h (p := 5) (w := 0) (by omega) (by omega), wq_sc h (p := 6) (w := 0) (by omega) (by omega), wq_sc h (p := 7) (w := 0) (by omega) (by omega)]
theorem x5jn_v (hw : WF σ) (hp : 0 ≤ x ∧ x < 8 ∧ wq σ x 0 = 1) (hx : ∃ q, x5CJ2 σ x q) (h0 : s 180 = σ 180) (h : (z = -1 ∧ NN s x 8) ∨ (0 ≤ z ∧ z < 8 ∧ wq s z 0 = 1 ∧ wq s z 1 = wq s x 1 + wq s x 2)) : z = x5jnF σ x ∧ 0 ≤ z ∧ z < 8 := by
  obtain ⟨q, hq⟩ := hx
  have hq0 := hq
  obtain ⟨⟨q0, q1, q2, q3⟩, q4, q5, q6⟩ := hq
  rw [wq_k h0, wq_k h0, wq_k h0, wq_k h0] at h
  rcases h with ⟨-, h⟩ | ⟨z0, z1, z2, z3⟩
  · have h' := h q q0 q1 (by rw [wq_k h0]; exact q2)
    rw [wq_k h0, wq_k h0, wq_k h0] at h'
    exact absurd q3 h'
  · have e : q = z := by
      by_cases e : q = z
      · exact e
      · have ha := WF_ap hw q0 q1 z0 z1 e q2 z2
        have h1 := WF_p hw q0 q1 q2
        have h2 := WF_p hw z0 z1 z2
        omega
    rw [← e]
    exact ⟨x5jn_f hw hp hq0, q0, q1⟩
theorem x5frP_sc (h : SC μ s) (hk : k < 8) : x5frP s k ↔ x5frP μ k := by
  unfold x5frP
  rw [wq_sc h (p := (k : Int)) (w := 0) (by omega) (by omega), wq_sc h (p := (k : Int)) (w := 5) (by omega) (by omega), h 16 (by omega)]
theorem x5sh_sc (h : SC (x5shV k σ) s) (hk : k < 8) (hx : x = (k : Int)) (hz : z = x5cif (x5frP s x) (wq s x 2 - wq s x 3) 0) (hv : wq t x 2 = wq s x 2 - z) (ho : ∀ a, a ≠ (24 + 8 * x + 2).toNat → ra_g t 180 a = ra_g s 180 a) : SC (x5shV (k + 1) σ) t ∧ x5shL (k + 1) σ = ra_w (x5shL k σ + z) := by
  subst hx
  by_cases c : x5frP s k
  · have c2 := (x5frP_sc h hk).mp c
    rw [x5cif_y c] at hz
    have e2 : wq s k 2 = wq (x5shV k σ) k 2 := wq_sc h (by omega) (by omega)
    have e3 : wq s k 3 = wq (x5shV k σ) k 3 := wq_sc h (by omega) (by omega)
    rw [x5sh_y c2, x5shl_y c2]
    refine ⟨x5sc_up h (show wq t k 2 = _ by omega) ho, by rw [hz, e2, e3]⟩
  · have c2 : ¬ x5frP (x5shV k σ) k := fun q => c ((x5frP_sc h hk).mpr q)
    rw [x5cif_n c] at hz
    rw [x5sh_n c2, x5shl_n c2, hz, Int.add_zero]
    refine ⟨fun b hb => ?_, (ra_w_id (x5shl_in k)).symm⟩
    by_cases e : b = (24 + 8 * (k : Int) + 2).toNat
    · have e2 : wq s k 2 = wq (x5shV k σ) k 2 := wq_sc h (by omega) (by omega)
      rw [e]
      show wq t k 2 = wq (x5shV k σ) k 2
      omega
    · rw [ho b e]; exact h b hb
theorem x5fs_cp {k0 : Nat} {off : Int} (h0 : 0 ≤ off) (c : CPO s t k0 180 off 0 688) : x5FS (rowV s k0 off.toNat) t := fun a ha => by
  rw [c a, if_pos (by omega), rowV_g]
  congr 1
  omega
theorem x5fs_sv (c : CPO s t 180 183 0 0 688) (h0 : s 180 = σ 180) : x5FS σ (rowV t 183 0) := fun a ha => by
  rw [rowV_g, c (0 + a), if_pos (by omega), ra_gk h0]
  congr 1
  omega
end
end
