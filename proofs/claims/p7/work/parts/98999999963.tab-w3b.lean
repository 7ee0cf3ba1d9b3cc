/-! T5: x5W3 behind shrinkAll, split, join, compact, run -/
section
section
variable {σ s t τ υ : ra_V} {j w : Nat} {a b k m mn v x y z to : Int}
theorem x5w2_sh (hW : x5W2 τ) : ∀ k : Nat, k ≤ 8 → x5W2 (x5shV k τ)
  | 0, _ => hW
  | k + 1, hk => by
    have ih := x5w2_sh hW k (by omega)
    by_cases h : x5frP (x5shV k τ) k
    · rw [x5sh_y h]
      have hp := WF_p ih.1 (p := (k : Int)) (by omega) (by omega) h.1
      exact x5w2_sz (x := (k : Int)) ih ⟨by omega, by omega, h.1⟩ h.2.2 ⟨by omega, by omega⟩ rfl
    · rw [x5sh_n h]; exact ih
theorem x5q3_sp (hW : x5W2 τ) (hc : x5dcSp τ x m = 0) : x5W3 (x5mkV (x5up τ (24 + 8 * x + 2).toNat m) (x5nfr (x5up τ (24 + 8 * x + 2).toNat m)) (wq τ x 1 + m) (wq τ x 2 - m) (wq τ x 4) 1) := by
  obtain ⟨h1, h2⟩ := x5q3_0 hc (by decide)
  obtain ⟨h3, h4⟩ := x5q3_0 h2 (by decide)
  obtain ⟨h5, h6⟩ := x5q3_0 h4 (by decide)
  obtain ⟨-, h8⟩ := x5q3_0 h6 (by decide)
  obtain ⟨h9, -⟩ := x5q3_0 h8 (by decide)
  have hx : x5EX τ x := Classical.byContradiction h1
  have hm : wq τ x 3 ≤ m ∧ m < wq τ x 2 := Classical.byContradiction h3
  have hp := WF_p hW.1 hx.1 hx.2.1 hx.2.2
  have hx0 := hx.1
  have hwa := WF_a hW.1
  unfold WFa at hwa
  have hW2 : x5W2 (x5up τ (24 + 8 * x + 2).toNat m) := x5w2_sz hW hx (fun q => h5 (Or.inr q)) ⟨hm.1, by omega⟩ rfl
  obtain ⟨q, q0, q8, qq⟩ := x5full_n hW.1 h9
  obtain ⟨n0, n8, nn⟩ := x5q3_nfr (τ := x5up τ (24 + 8 * x + 2).toNat m) ⟨q, q0, q8, by rw [x5up_wn (by omega)]; exact qq⟩
  exact x5q3_mk hW2 n0 n8 nn (by unfold ra_in; omega) (by unfold ra_in; omega) (ra_in_wq _ _ _) (by unfold ra_in; omega)
theorem x5q3_jn (hW : x5W2 τ) (hc : x5dcJn τ x = 0) : x5W3 (x5up (x5up τ (24 + 8 * x5jnF τ x + 0).toNat 0) (24 + 8 * x + 2).toNat (wq τ x 2 + wq τ (x5jnF τ x) 2)) := by
  obtain ⟨h1, h2⟩ := x5q3_0 hc (by decide)
  obtain ⟨h3, -⟩ := x5q3_0 h2 (by decide)
  have hx : x5EX τ x := Classical.byContradiction h1
  have he : ∃ q, x5CJ2 τ x q := Classical.byContradiction h3
  have hj : x5CJ2 τ x (x5jnF τ x) := by
    have e : x5jnF τ x = Classical.choose he := dif_pos he
    rw [e]
    exact Classical.choose_spec he
  obtain ⟨⟨j0, j8, je, j1⟩, -, f1, f2⟩ := hj
  have hp := WF_p hW.1 hx.1 hx.2.1 hx.2.2
  have hne : x5jnF τ x ≠ x := fun e => by rw [e] at j1; omega
  have hx0 := hx.1
  have h16 : ra_g (x5up τ (24 + 8 * x5jnF τ x + 0).toNat 0) 180 16 = ra_g τ 180 16 := x5uo_n (by omega)
  have hW2 : x5W2 (x5up τ (24 + 8 * x5jnF τ x + 0).toNat 0) := x5w2_rm hW ⟨j0, j8, je⟩ (fun q => f2 (Or.inr q)) rfl
  exact x5w3_up (w := 2) hW2 ⟨hx.1, hx.2.1, by rw [x5up_wn (by omega)]; exact hx.2.2⟩ (by omega) rfl (fun q => absurd q (by decide)) (fun _ => by rw [h16]; exact fun q => f1 (Or.inr q))
theorem x5q3_run (hW : x5W2 τ) (n : Nat) : x5W3 (x5runV n τ) := (x5w2_run n hW).2
theorem x5q3_cp (hW : x5W2 τ) (hc : x5dcCp τ = 0) (k : Nat) (h : ∀ j, j < k → x5EX τ (x5ordN τ j)) : x5W3 (x5pkV k τ) := by
  obtain ⟨h1, -⟩ := x5q3_0 hc (by decide)
  exact (x5pks hW (Classical.byContradiction h1) k h).1.2
end
end
