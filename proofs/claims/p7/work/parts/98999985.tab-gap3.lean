/-! T5: gaps noted, rooms, where a partition begins by a rule -/
section
section
variable {σ s t τ υ : ra_V} {D p q j k : Nat} {a m x y z v g n b w size rule : Int} {st sz st2 sz2 : Int → Int}
theorem x5gb_10 (hW : WF τ) (h : x5GB τ n st sz x) (he : x5EOT τ x x) (hn : x5NXT τ x y) (hU : ra_g τ 180 1 ≤ x ∧ x < ra_g τ 180 0 - ra_g τ 180 2) : n ≤ 10 ∧ x < y := by
  have q := x5gb_n (st2 := fun g => if g = n then x else st g) (sz2 := fun g => if g = n then y - x else sz g) hW h he hn hU (fun g _ g1 => ⟨if_neg (by omega), if_neg (by omega)⟩) ⟨if_pos rfl, if_pos rfl⟩
  exact ⟨q.2.2, q.2.1⟩
def x5NTE (σ s : ra_V) (a b : Int) : Prop := (ra_g s 172 2 = ra_g σ 172 2 + 1 ∧ ra_g s 172 3 = ra_g σ 172 3) ∧ (ra_g s 173 (ra_g σ 172 2).toNat = a ∧ ∀ j, j ≠ (ra_g σ 172 2).toNat → ra_g s 173 j = ra_g σ 173 j) ∧ (ra_g s 174 (ra_g σ 172 2).toNat = b ∧ ∀ j, j ≠ (ra_g σ 172 2).toNat → ra_g s 174 j = ra_g σ 174 j)
theorem x5gb_nt (hW : WF τ) (h : x5GB τ (ra_g σ 172 2) (fun g => ra_g σ 173 g.toNat) (fun g => ra_g σ 174 g.toNat) x) (he : x5EOT τ x z) (hz : z = x) (hn : x5NXT τ x y) (hU : ra_g τ 180 1 ≤ x ∧ x < ra_g τ 180 0 - ra_g τ 180 2) (q : x5NTE σ s x (y - x)) : x5GB τ (ra_g s 172 2) (fun g => ra_g s 173 g.toNat) (fun g => ra_g s 174 g.toNat) y := by
  obtain ⟨⟨q1, q2⟩, ⟨q3, q4⟩, q5, q6⟩ := q
  rw [hz] at he
  have h0 := h.1
  rw [q1]
  exact (x5gb_n hW h he hn hU (fun g g0 g1 => ⟨q4 _ (by omega), q6 _ (by omega)⟩) ⟨q3, q5⟩).1
def x5GFC (τ s : ra_V) : Prop := ra_g s 172 3 = ra_g τ 180 3 ∧ x5GF τ (ra_g s 172 2) (fun g => ra_g s 173 g.toNat) (fun g => ra_g s 174 g.toNat) ∧ ra_g s 172 2 ≤ 11
theorem x5gb_f (hW : WF τ) (h : x5GB τ (ra_g σ 172 2) (fun g => ra_g σ 173 g.toNat) (fun g => ra_g σ 174 g.toNat) x) (hx : ra_g τ 180 0 - ra_g τ 180 2 ≤ x) (h3 : ra_g σ 172 3 = ra_g τ 180 3) : x5GFC τ σ := by
  have h0 := h.1
  have h5 := h.2.2.2.2.2.1
  have c := x5cnt_10 (τ := τ) (x := x)
  exact ⟨h3, x5gf_i hW h0 (by omega) (x5gb_e h hx), by omega⟩
noncomputable def x5rsG (τ : ra_V) (g : Int) : Int := (x5gpS τ g + ra_g τ 180 3 - 1).tdiv (ra_g τ 180 3) * ra_g τ 180 3
noncomputable def x5rmG (τ : ra_V) (g : Int) : Int := max 0 (x5gpS τ g + x5gpZ τ g - x5rsG τ g)
theorem x5gf_b (h : x5GF τ n st sz) (hg : 0 ≤ g ∧ g < n) : (st g = x5gpS τ g ∧ sz g = x5gpZ τ g) ∧ 0 ≤ x5gpS τ g ∧ 1 ≤ x5gpZ τ g ∧ x5gpS τ g + x5gpZ τ g ≤ 600 := by
  obtain ⟨⟨e1, e2⟩, h1, h2, h3⟩ := h.2.2 g hg.1 hg.2
  rw [e1] at h1 h3
  rw [e2] at h2 h3
  exact ⟨⟨e1, e2⟩, h1, h2, h3⟩
theorem x5rs_g (hW : WF τ) (h : 0 ≤ x5gpS τ g ∧ 1 ≤ x5gpZ τ g ∧ x5gpS τ g + x5gpZ τ g ≤ 600) : (x5gpS τ g ≤ x5rsG τ g ∧ x5rsG τ g < x5gpS τ g + ra_g τ 180 3) ∧ ra_in (x5rsG τ g) ∧ ra_in (x5rmG τ g) ∧ 0 ≤ x5rmG τ g := by
  have ha := WF_a hW
  unfold WFa at ha
  have hb := up_b (a := x5gpS τ g) (m := ra_g τ 180 3) h.1 (by omega)
  have e : x5rsG τ g = (x5gpS τ g + ra_g τ 180 3 - 1).tdiv (ra_g τ 180 3) * ra_g τ 180 3 := rfl
  rw [← e] at hb
  unfold x5rmG ra_in
  omega
/-- where a partition begins by a rule -/
noncomputable def x5fbG (τ : ra_V) (size rule : Int) (k : Nat) : Int := x5fb (fun k => x5rmG τ k) size rule k
noncomputable def x5fitF (τ : ra_V) (size rule : Int) : Int := if size < 1 then -1 else if x5fbG τ size rule (x5gpN τ).toNat = -1 then -1 else x5rsG τ (x5fbG τ size rule (x5gpN τ).toNat)
theorem x5fbG_0 : x5fbG τ size rule 0 = -1 := rfl
theorem x5fbG_b : ∀ k : Nat, x5fbG τ size rule k = -1 ∨ (0 ≤ x5fbG τ size rule k ∧ x5fbG τ size rule k < k ∧ size ≤ x5rmG τ (x5fbG τ size rule k))
  | 0 => Or.inl rfl
  | k + 1 => by
    have h := x5fbG_b k
    show (if _ then _ else _) = -1 ∨ _
    by_cases c : size ≤ x5rmG τ (k : Int) ∧ (x5fbG τ size rule k = -1 ∨ (rule = 1 ∧ x5rmG τ (k : Int) < x5rmG τ ((x5fbG τ size rule k).toNat : Int)) ∨ (rule = 2 ∧ x5rmG τ ((x5fbG τ size rule k).toNat : Int) < x5rmG τ (k : Int)))
    · have e : x5fbG τ size rule (k + 1) = (k : Int) := if_pos c
      rw [e]
      exact Or.inr ⟨by omega, by omega, c.1⟩
    · have e : x5fbG τ size rule (k + 1) = x5fbG τ size rule k := if_neg c
      rw [e]
      rcases h with h | ⟨h1, h2, h3⟩
      · exact Or.inl (e.trans h)
      · exact Or.inr ⟨h1, by omega, h3⟩
theorem x5fbG_y (h1 : size ≤ x5rmG τ (k : Int)) (h : x5fbG τ size rule k = -1 ∨ (rule = 1 ∧ x5rmG τ (k : Int) < x5rmG τ (x5fbG τ size rule k)) ∨ (rule = 2 ∧ x5rmG τ (x5fbG τ size rule k) < x5rmG τ (k : Int))) : x5fbG τ size rule (k + 1) = (k : Int) := by
  have hb := x5fbG_b (τ := τ) (size := size) (rule := rule) k
  refine if_pos ⟨h1, ?_⟩
  rcases hb with hb | ⟨hb, -, -⟩
  · exact Or.inl hb
  · show x5fbG τ size rule k = -1 ∨ (rule = 1 ∧ x5rmG τ (k : Int) < x5rmG τ ((x5fbG τ size rule k).toNat : Int)) ∨ (rule = 2 ∧ x5rmG τ ((x5fbG τ size rule k).toNat : Int) < x5rmG τ (k : Int))
    rw [show ((x5fbG τ size rule k).toNat : Int) = x5fbG τ size rule k by omega]
    exact h
theorem x5fbG_n (h : ¬ (size ≤ x5rmG τ (k : Int) ∧ (x5fbG τ size rule k = -1 ∨ (rule = 1 ∧ x5rmG τ (k : Int) < x5rmG τ (x5fbG τ size rule k)) ∨ (rule = 2 ∧ x5rmG τ (x5fbG τ size rule k) < x5rmG τ (k : Int))))) : x5fbG τ size rule (k + 1) = x5fbG τ size rule k := by
  have hb := x5fbG_b (τ := τ) (size := size) (rule := rule) k
  refine if_neg (fun c => h ⟨c.1, ?_⟩)
  rcases hb with hb | ⟨hb, -, -⟩
  · exact Or.inl hb
  · have c2 : x5fbG τ size rule k = -1 ∨ (rule = 1 ∧ x5rmG τ (k : Int) < x5rmG τ ((x5fbG τ size rule k).toNat : Int)) ∨ (rule = 2 ∧ x5rmG τ ((x5fbG τ size rule k).toNat : Int) < x5rmG τ (k : Int)) := c.2
    rw [show ((x5fbG τ size rule k).toNat : Int) = x5fbG τ size rule k by omega] at c2
    exact c2
theorem x5fit_0 (h : size < 1) : -1 = x5fitF τ size rule := by unfold x5fitF; rw [if_pos h]
theorem x5fit_n (h : ¬ size < 1) (h2 : x5fbG τ size rule (x5gpN τ).toNat = -1) : -1 = x5fitF τ size rule := by unfold x5fitF; rw [if_neg h, if_pos h2]
theorem x5fit_y (h : ¬ size < 1) (h2 : x5fbG τ size rule (x5gpN τ).toNat ≠ -1) : x5rsG τ (x5fbG τ size rule (x5gpN τ).toNat) = x5fitF τ size rule := by unfold x5fitF; rw [if_neg h, if_neg h2]
noncomputable def x5dcAb (τ : ra_V) (m k mn rule : Int) : Int := x5cif (¬ x5TLD k mn m) 1 (x5cif (¬ (0 ≤ rule ∧ rule ≤ 2)) 1 (x5cif (x5FUL τ) 2 (x5cif (x5fitF τ m rule = -1) 2 0)))
end
end
