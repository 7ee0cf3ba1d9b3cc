/-! T5: the gaps as functions of the row *-/
section
section
variable {σ s t τ υ : ra_V} {D p q j : Nat} {a m x y z v k g n b : Int} {st sz st2 sz2 : Int → Int}
def x5GPS (τ : ra_V) : Prop := ∃ q : Int × (Int → Int) × (Int → Int), 0 ≤ q.1 ∧ x5GL (x5FRE τ) q.1 q.2.1 q.2.2
noncomputable def x5gpQ (τ : ra_V) : Int × (Int → Int) × (Int → Int) := @dite _ (x5GPS τ) (Classical.propDecidable _) (fun h => Classical.choose h) (fun _ => (0, fun _ => 0, fun _ => 0))
noncomputable def x5gpN (τ : ra_V) : Int := (x5gpQ τ).1
noncomputable def x5gpS (τ : ra_V) (g : Int) : Int := (x5gpQ τ).2.1 g
noncomputable def x5gpZ (τ : ra_V) (g : Int) : Int := (x5gpQ τ).2.2 g
theorem x5gp_e (h0 : 0 ≤ n) (h : x5GL (x5FRE τ) n st sz) : n = x5gpN τ ∧ ∀ g, 0 ≤ g → g < n → st g = x5gpS τ g ∧ sz g = x5gpZ τ g := by
  have hx : x5GPS τ := ⟨(n, st, sz), h0, h⟩
  have e : x5gpQ τ = Classical.choose hx := @dif_pos (x5GPS τ) (Classical.propDecidable _) hx _ (fun h => Classical.choose h) (fun _ => (0, fun _ => 0, fun _ => 0))
  have c := Classical.choose_spec hx
  rw [← e] at c
  refine ⟨x5gl_n h0 h c.1 c.2, fun g g0 g1 => ?_⟩
  have := x5gl_u h c.2 g.toNat (by omega)
  rw [show ((g.toNat : Nat) : Int) = g by omega] at this
  exact ⟨this.2.1, this.2.2⟩
/-- what a search found: so many, there, so long -/
def x5GF (τ : ra_V) (n : Int) (st sz : Int → Int) : Prop := n = x5gpN τ ∧ (0 ≤ n ∧ n ≤ 300) ∧ ∀ g, 0 ≤ g → g < n → (st g = x5gpS τ g ∧ sz g = x5gpZ τ g) ∧ 0 ≤ st g ∧ 1 ≤ sz g ∧ st g + sz g ≤ 600
theorem x5gf_i (hW : WF τ) (h0 : 0 ≤ n) (hn : n ≤ 300) (h : x5GL (x5FRE τ) n st sz) : x5GF τ n st sz := by
  obtain ⟨e1, e2⟩ := x5gp_e h0 h
  have ha := WF_a hW
  unfold WFa at ha
  refine ⟨e1, ⟨h0, hn⟩, fun g g0 g1 => ⟨e2 g g0 g1, ?_⟩⟩
  obtain ⟨a1, a2, a3, a4⟩ := h.1 g g0 g1
  have u1 := (x5us_1).mp (a2 (st g) (by omega) (by omega)).1
  have u2 := (x5us_1).mp (a2 (st g + sz g - 1) (by omega) (by omega)).1
  omega
/-! the class -/
def x5EOB (τ : ra_V) (x z : Int) : Prop := (z = x ∧ ¬ x5HIT τ 8 x ∧ ¬ x5HIT τ 9 x) ∨ (x < z ∧ ∃ j, (j = 8 ∨ j = 9) ∧ x5HIT τ j x ∧ x5aen τ j = z)
theorem x5hit_8 : x5HIT τ 8 x ↔ (ra_g τ 180 16 ≠ -1 ∧ ra_g τ 180 18 ≤ x ∧ x < ra_g τ 180 18 + msz τ) := by
  constructor
  · rintro ⟨h1, h2, h3⟩
    have h2 : ra_g τ 180 18 ≤ x := h2
    have h3 : x < ra_g τ 180 18 + msz τ := h3
    rcases h1 with ⟨c, -⟩ | ⟨-, c⟩ | ⟨c, -⟩
    · omega
    · exact ⟨c, h2, h3⟩
    · omega
  · rintro ⟨h1, h2, h3⟩
    exact ⟨Or.inr (Or.inl ⟨rfl, h1⟩), h2, h3⟩
theorem x5hit_9 : x5HIT τ 9 x ↔ (ra_g τ 180 16 ≠ -1 ∧ ra_g τ 180 20 ≠ -1 ∧ ra_g τ 180 20 ≤ x ∧ x < ra_g τ 180 20 + min (ra_g τ 180 19) (msz τ)) := by
  constructor
  · rintro ⟨h1, h2, h3⟩
    have h2 : ra_g τ 180 20 ≤ x := h2
    have h3 : x < ra_g τ 180 20 + min (ra_g τ 180 19) (msz τ) := h3
    rcases h1 with ⟨c, -⟩ | ⟨c, -⟩ | ⟨-, c, d⟩
    · omega
    · omega
    · exact ⟨c, d, h2, h3⟩
  · rintro ⟨h1, h2, h3, h4⟩
    exact ⟨Or.inr (Or.inr ⟨rfl, h1, h2⟩), h3, h4⟩
theorem x5eob_8 (h : ra_g τ 180 16 ≠ -1 ∧ ra_g τ 180 18 ≤ x ∧ x < ra_g τ 180 18 + msz τ) (hz : z = ra_g τ 180 18 + msz τ) : x5EOB τ x z := Or.inr ⟨by omega, 8, Or.inl rfl, x5hit_8.mpr h, by rw [hz]; rfl⟩
theorem x5eob_9 (h : ra_g τ 180 16 ≠ -1 ∧ ra_g τ 180 20 ≠ -1 ∧ ra_g τ 180 20 ≤ x ∧ x < ra_g τ 180 20 + min (ra_g τ 180 19) (msz τ)) (hz : z = ra_g τ 180 20 + min (ra_g τ 180 19) (msz τ)) : x5EOB τ x z := Or.inr ⟨by omega, 9, Or.inr rfl, x5hit_9.mpr h, by rw [hz]; rfl⟩
theorem x5eob_n (h : ¬ (ra_g τ 180 16 ≠ -1 ∧ ra_g τ 180 18 ≤ x ∧ x < ra_g τ 180 18 + msz τ)) (h2 : ¬ (ra_g τ 180 16 ≠ -1 ∧ ra_g τ 180 20 ≠ -1 ∧ ra_g τ 180 20 ≤ x ∧ x < ra_g τ 180 20 + min (ra_g τ 180 19) (msz τ))) (hz : z = x) : x5EOB τ x z := Or.inl ⟨hz, fun q => h (x5hit_8.mp q), fun q => h2 (x5hit_9.mp q)⟩
theorem x5eot_p (hq : q < 8) (he : wq τ q 0 = 1) (h : x < wq τ q 1 + wq τ q 2 ∧ wq τ q 1 < x + 1) (hz : z = wq τ q 1 + wq τ q 2) : x5EOT τ x z := by
  have e1 : x5ast τ q = wq τ q 1 := if_pos hq
  have e2 : x5aen τ q = wq τ q 1 + wq τ q 2 := if_pos hq
  exact Or.inr ⟨by omega, q, by omega, ⟨Or.inl ⟨hq, he⟩, by omega, by omega⟩, by omega⟩
theorem x5hit_p (hq : q < 8) : x5HIT τ q x ↔ (wq τ q 0 = 1 ∧ x < wq τ q 1 + wq τ q 2 ∧ wq τ q 1 < x + 1) := by
  have e1 : x5ast τ q = wq τ q 1 := if_pos hq
  have e2 : x5aen τ q = wq τ q 1 + wq τ q 2 := if_pos hq
  constructor
  · rintro ⟨h1, h2, h3⟩
    rcases h1 with ⟨-, c⟩ | ⟨c, -⟩ | ⟨c, -⟩
    · exact ⟨c, by omega, by omega⟩
    · omega
    · omega
  · rintro ⟨h1, h2, h3⟩
    exact ⟨Or.inl ⟨hq, h1⟩, by omega, by omega⟩
theorem x5eot_b (hT : x5CT τ σ D) (hn : ∀ j : Nat, j < 8 → ¬ x4MT σ D x 1 j) (h : x5EOB τ x z) : x5EOT τ x z := by
  rcases h with ⟨h1, h2, h3⟩ | ⟨h1, j, hj, h2, h3⟩
  · refine Or.inl ⟨h1, fun j hj q => ?_⟩
    by_cases c : j < 8
    · exact hn j c ((x5mt_q hT c).mpr ((x5hit_p c).mp q))
    · rcases (show j = 8 ∨ j = 9 by omega) with rfl | rfl
      · exact h2 q
      · exact h3 q
  · exact Or.inr ⟨h1, j, by omega, h2, h3⟩
def x5NXB (τ : ra_V) (x m z : Int) : Prop := z ≤ m ∧ (∀ j, j = 8 ∨ j = 9 → x5apr τ j → x < x5ast τ j → z ≤ x5ast τ j) ∧ (z = m ∨ ∃ j, (j = 8 ∨ j = 9) ∧ x5apr τ j ∧ x5ast τ j = z ∧ x < z)
theorem x5apr_8 : x5apr τ 8 ↔ ra_g τ 180 16 ≠ -1 := by
  constructor
  · rintro (⟨c, -⟩ | ⟨-, c⟩ | ⟨c, -⟩)
    · omega
    · exact c
    · omega
  · exact fun c => Or.inr (Or.inl ⟨rfl, c⟩)
theorem x5apr_9 : x5apr τ 9 ↔ (ra_g τ 180 16 ≠ -1 ∧ ra_g τ 180 20 ≠ -1) := by
  constructor
  · rintro (⟨c, -⟩ | ⟨c, -⟩ | ⟨-, c⟩)
    · omega
    · omega
    · exact c
  · exact fun c => Or.inr (Or.inr ⟨rfl, c⟩)
theorem x5ast_8 : x5ast τ 8 = ra_g τ 180 18 := rfl
theorem x5ast_9 : x5ast τ 9 = ra_g τ 180 20 := rfl
/-- the least of two starts and a bound -/
theorem x5nxb_i (h1 : z ≤ m) (h8 : ra_g τ 180 16 ≠ -1 → x < ra_g τ 180 18 → z ≤ ra_g τ 180 18) (h9 : ra_g τ 180 16 ≠ -1 → ra_g τ 180 20 ≠ -1 → x < ra_g τ 180 20 → z ≤ ra_g τ 180 20) (hz : z = m ∨ (ra_g τ 180 16 ≠ -1 ∧ z = ra_g τ 180 18 ∧ x < z) ∨ (ra_g τ 180 16 ≠ -1 ∧ ra_g τ 180 20 ≠ -1 ∧ z = ra_g τ 180 20 ∧ x < z)) : x5NXB τ x m z := by
  refine ⟨h1, fun j hj ha hx => ?_, ?_⟩
  · rcases hj with rfl | rfl
    · rw [x5ast_8] at *; exact h8 (x5apr_8.mp ha) hx
    · rw [x5ast_9] at *; exact h9 (x5apr_9.mp ha).1 (x5apr_9.mp ha).2 hx
  · rcases hz with h | ⟨a, b, c⟩ | ⟨a, b, c, d⟩
    · exact Or.inl h
    · exact Or.inr ⟨8, Or.inl rfl, x5apr_8.mpr a, by rw [x5ast_8]; omega, c⟩
    · exact Or.inr ⟨9, Or.inr rfl, x5apr_9.mpr ⟨a, b⟩, by rw [x5ast_9]; omega, d⟩
theorem x5nxt_n (h : x5NXB τ x (ra_g τ 180 0 - ra_g τ 180 2) z) (hn : NB τ x 8 (-1)) : x5NXT τ x z := by
  obtain ⟨h1, h2, h3⟩ := h
  refine ⟨fun j hj ha hx => ?_, h1, ?_⟩
  · by_cases c : j < 8
    · have e1 : x5ast τ j = wq τ j 1 := if_pos c
      rcases ha with ⟨-, d⟩ | ⟨d, -⟩ | ⟨d, -⟩
      · exact absurd rfl (hn.2 j (by omega) (by omega) d (by omega)).1
      · omega
      · omega
    · exact h2 j (by omega) ha hx
  · rcases h3 with h3 | ⟨j, hj, h4, h5, h6⟩
    · exact Or.inl h3
    · exact Or.inr ⟨j, by omega, h4, h5, h6⟩
theorem x5nxt_y (h : x5NXB τ x (ra_g τ 180 0 - ra_g τ 180 2) y) (hW : WF τ) (hq : q < 8) (hn : NB τ x 8 (q : Int)) (hz : z = min y (wq τ q 1)) : x5NXT τ x z := by
  obtain ⟨h1, h2, h3⟩ := h
  obtain ⟨n0, n1, n2, n3⟩ := hn.1.resolve_left (by omega)
  have eq : x5ast τ q = wq τ q 1 := if_pos hq
  refine ⟨fun j hj ha hx => ?_, by omega, ?_⟩
  · by_cases c : j < 8
    · have e1 : x5ast τ j = wq τ j 1 := if_pos c
      rcases ha with ⟨-, d⟩ | ⟨d, -⟩ | ⟨d, -⟩
      · have := (hn.2 j (by omega) (by omega) d (by omega)).2
        omega
      · omega
      · omega
    · have := h2 j (by omega) ha hx
      omega
  · by_cases c : y ≤ wq τ q 1
    · rcases h3 with h3 | ⟨j, hj, h4, h5, h6⟩
      · exact Or.inl (by omega)
      · exact Or.inr ⟨j, by omega, h4, by omega, by omega⟩
    · clear h3
      exact Or.inr ⟨q, by omega, Or.inl ⟨hq, n2⟩, by omega, by omega⟩
end
end
