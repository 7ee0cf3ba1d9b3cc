/-! T5: the row that a class's disk stands for, told as a state of its own -/
section
section
variable {σ s t τ υ : ra_V} {D i p q : Nat} {a m w x y z : Int}
/-- in σ the class's disk D is the row 180 of τ (but for its sectors) -/
def x5CT (τ σ : ra_V) (D : Nat) : Prop :=
  (∀ j : Nat, j ≤ 8 → ra_g σ D (4 + j) = ra_g τ 180 j) ∧
  (∀ p : Nat, p < 8 → (0 < ra_g σ (D + 5 + p) 2 ↔ wq τ p 0 = 1) ∧ 0 ≤ ra_g σ (D + 5 + p) 2) ∧
  (∀ p : Nat, p < 8 → wq τ p 0 = 1 → ∀ j : Nat, 1 ≤ j → j ≤ 7 → ra_g σ (D + 5 + p) j = wq τ p j) ∧
  ra_g σ (D + 3) 0 = ra_g τ 180 16 ∧
  (ra_g τ 180 16 ≠ -1 → ra_g σ (D + 3) 1 = msz τ ∧ ra_g σ (D + 3) 2 = ra_g τ 180 17 ∧ ra_g σ (D + 3) 3 = ra_g τ 180 18 ∧ ra_g σ (D + 3) 4 = ra_g τ 180 19 ∧ ra_g σ (D + 3) 5 = rch τ ∧ ra_g σ (D + 3) 6 = ra_g τ 180 20 ∧ ra_g σ (D + 3) 7 = ra_g τ 180 21 ∧ ra_g σ (D + 3) 8 = ra_g τ 180 22)
theorem x5CT_s (h : x5CT τ σ D) : ra_g σ D 4 = ra_g τ 180 0 ∧ ra_g σ D 5 = ra_g τ 180 1 ∧ ra_g σ D 6 = ra_g τ 180 2 ∧ ra_g σ D 7 = ra_g τ 180 3 ∧ ra_g σ D 8 = ra_g τ 180 4 ∧ ra_g σ D 9 = ra_g τ 180 5 ∧ ra_g σ D 10 = ra_g τ 180 6 ∧ ra_g σ D 11 = ra_g τ 180 7 ∧ ra_g σ D 12 = ra_g τ 180 8 :=
  ⟨h.1 0 (by omega), h.1 1 (by omega), h.1 2 (by omega), h.1 3 (by omega), h.1 4 (by omega), h.1 5 (by omega), h.1 6 (by omega), h.1 7 (by omega), h.1 8 (by omega)⟩
theorem x5CT_e (h : x5CT τ σ D) (hp : p < 8) : 0 < ra_g σ (D + 5 + p) 2 ↔ wq τ p 0 = 1 := (h.2.1 p hp).1
theorem x5CT_p (h : x5CT τ σ D) (hp : p < 8) (he : wq τ p 0 = 1) : ra_g σ (D + 5 + p) 1 = wq τ p 1 ∧ ra_g σ (D + 5 + p) 2 = wq τ p 2 ∧ ra_g σ (D + 5 + p) 3 = wq τ p 3 ∧ ra_g σ (D + 5 + p) 4 = wq τ p 4 ∧ ra_g σ (D + 5 + p) 5 = wq τ p 5 ∧ ra_g σ (D + 5 + p) 6 = wq τ p 6 ∧ ra_g σ (D + 5 + p) 7 = wq τ p 7 :=
  ⟨h.2.2.1 p hp he 1 (by omega) (by omega), h.2.2.1 p hp he 2 (by omega) (by omega), h.2.2.1 p hp he 3 (by omega) (by omega), h.2.2.1 p hp he 4 (by omega) (by omega), h.2.2.1 p hp he 5 (by omega) (by omega), h.2.2.1 p hp he 6 (by omega) (by omega), h.2.2.1 p hp he 7 (by omega) (by omega)⟩
theorem x5CT_on (h : x5CT τ σ D) : ra_g σ (D + 3) 0 = ra_g τ 180 16 := h.2.2.2.1
theorem x5CT_m (h : x5CT τ σ D) (hm : ra_g τ 180 16 ≠ -1) : ra_g σ (D + 3) 1 = msz τ ∧ ra_g σ (D + 3) 2 = ra_g τ 180 17 ∧ ra_g σ (D + 3) 3 = ra_g τ 180 18 ∧ ra_g σ (D + 3) 4 = ra_g τ 180 19 ∧ ra_g σ (D + 3) 5 = rch τ ∧ ra_g σ (D + 3) 6 = ra_g τ 180 20 ∧ ra_g σ (D + 3) 7 = ra_g τ 180 21 ∧ ra_g σ (D + 3) 8 = ra_g τ 180 22 := h.2.2.2.2 hm
/-- the disk's cells are as they were -/
theorem x5CT_k (hk : ∀ j : Nat, j < 13 → j ≠ 1 → j ≠ 2 → j ≠ 4 → s (D + j) = σ (D + j)) (h : x5CT τ σ D) : x5CT τ s D := by
  obtain ⟨h1, h2, h3, h4, h5⟩ := h
  have e0 : s D = σ D := hk 0 (by omega) (by omega) (by omega) (by omega)
  have e3 : s (D + 3) = σ (D + 3) := hk 3 (by omega) (by omega) (by omega) (by omega)
  have ep : ∀ p : Nat, p < 8 → s (D + 5 + p) = σ (D + 5 + p) := fun p hp => by rw [Nat.add_assoc]; exact hk (5 + p) (by omega) (by omega) (by omega) (by omega)
  refine ⟨fun j hj => by rw [ra_gk e0]; exact h1 j hj, fun p hp => by rw [ra_gk (ep p hp)]; exact h2 p hp, fun p hp he j j1 j2 => by rw [ra_gk (ep p hp)]; exact h3 p hp he j j1 j2, by rw [ra_gk e3]; exact h4, fun hm => ?_⟩
  rw [ra_gk e3, ra_gk e3, ra_gk e3, ra_gk e3, ra_gk e3, ra_gk e3, ra_gk e3, ra_gk e3]
  exact h5 hm
/-- the row below its sectors is the same -/
theorem x5CT_t (hs : SC τ υ) (hW : WFa τ) (h : x5CT τ σ D) : x5CT υ σ D := by
  obtain ⟨h1, h2, h3, h4, h5⟩ := h
  unfold WFa at hW
  have e : ∀ p : Nat, p < 8 → ∀ w : Int, w < 8 → wq υ p w = wq τ p w := fun p hp w hw => wq_sc hs (by omega) hw
  obtain ⟨m1, m2, -⟩ := mv_sc hs (by omega)
  refine ⟨fun j hj => by rw [hs j (by omega)]; exact h1 j hj, fun p hp => by rw [e p hp 0 (by omega)]; exact h2 p hp, fun p hp he j j1 j2 => ?_, by rw [hs 16 (by omega)]; exact h4, fun hm => ?_⟩
  · rw [e p hp 0 (by omega)] at he
    rw [e p hp j (by omega)]
    exact h3 p hp he j j1 j2
  · rw [hs 16 (by omega)] at hm
    rw [m1, m2, hs 17 (by omega), hs 18 (by omega), hs 19 (by omega), hs 20 (by omega), hs 21 (by omega), hs 22 (by omega)]
    exact h5 hm
/-- what else holds of the row: locks, a chunk in the scratch area is longer than the way -/
def x5W2 (τ : ra_V) : Prop := WF τ ∧ (∀ p, 0 ≤ p → p < 8 → wq τ p 5 = 0 ∨ wq τ p 5 = 1) ∧ (ra_g τ 180 16 ≠ -1 → ra_g τ 180 22 = 1 → rds τ < rbn τ)
theorem x5rch_in (hW : x5W2 τ) (hm : ra_g τ 180 16 ≠ -1) : ra_in (rch τ) := by
  have h := MV_f hW.1 hm
  unfold MF at h
  unfold ra_in
  omega
theorem x5rfar_in (h1 : -1000000 ≤ x ∧ x ≤ 1000000) (h2 : -1000000 ≤ y ∧ y ≤ 1000000) : ra_in (rfar x y) := by
  have h := rfar_b x y
  unfold ra_in
  omega
theorem x5ue_in (hW : x5W2 τ) : ra_in (ra_g τ 180 0 - ra_g τ 180 2) := by
  have h := WF_a hW.1
  unfold WFa at h
  unfold ra_in
  omega
/-! choices by propositions -/
noncomputable def x5cif (P : Prop) (a b : Int) : Int := @ite Int P (Classical.propDecidable P) a b
theorem x5cif_y {P : Prop} {a b : Int} (h : P) : x5cif P a b = a := @if_pos P (Classical.propDecidable P) h Int a b
theorem x5cif_n {P : Prop} {a b : Int} (h : ¬ P) : x5cif P a b = b := @if_neg P (Classical.propDecidable P) h Int a b
theorem x5cif_in {P : Prop} {a b : Int} (h1 : ra_in a) (h2 : ra_in b) : ra_in (x5cif P a b) := by
  by_cases h : P
  · rw [x5cif_y h]; exact h1
  · rw [x5cif_n h]; exact h2
/-- an area meets what a move keeps busy -/
def x5BSY (τ : ra_V) (a m : Int) : Prop := ra_g τ 180 16 ≠ -1 ∧ 1 ≤ m ∧ ((a < ra_g τ 180 18 + msz τ ∧ ra_g τ 180 18 < a + m) ∨ (ra_g τ 180 20 ≠ -1 ∧ a < ra_g τ 180 20 + min (ra_g τ 180 19) (msz τ) ∧ ra_g τ 180 20 < a + m))
/-- x5why a partition cannot stand there -/
noncomputable def x5why (τ : ra_V) (a m : Int) : Int := x5cif (¬ US τ a m) 1 (x5cif (a % ra_g τ 180 3 ≠ 0) 2 (x5cif (TK τ a m (-1)) 3 (x5cif (x5BSY τ a m) 4 0)))
theorem x5why_in : ra_in (x5why τ a m) := x5cif_in (by unfold ra_in; omega) (x5cif_in (by unfold ra_in; omega) (x5cif_in (by unfold ra_in; omega) (x5cif_in (by unfold ra_in; omega) (by unfold ra_in; omega))))
/-- a sector is free -/
def x5FRE (τ : ra_V) (k : Int) : Prop := US τ k 1 ∧ ¬ TK τ k 1 (-1) ∧ ¬ x5BSY τ k 1
/-! the gaps: greatest runs of free sectors -/
def x5GL (F : Int → Prop) (n : Int) (st sz : Int → Int) : Prop :=
  (∀ g, 0 ≤ g → g < n → 1 ≤ sz g ∧ (∀ k, st g ≤ k → k < st g + sz g → F k) ∧ ¬ F (st g - 1) ∧ ¬ F (st g + sz g)) ∧ (∀ g, 0 ≤ g → g + 1 < n → st g + sz g < st (g + 1)) ∧ ∀ k, F k → ∃ g, 0 ≤ g ∧ g < n ∧ st g ≤ k ∧ k < st g + sz g
section
variable {F : Int → Prop} {n n2 : Int} {st sz st2 sz2 : Int → Int}
theorem x5gl_lt (h : x5GL F n st sz) : ∀ (d : Nat) (g : Int), 0 ≤ g → g + d + 1 < n → st g + sz g < st (g + d + 1)
  | 0, g, g0, g1 => by
    have := h.2.1 g g0 (by omega)
    rw [show g + ((0 : Nat) : Int) + 1 = g + 1 by omega]
    exact this
  | d + 1, g, g0, g1 => by
    have h1 := x5gl_lt h d g g0 (by omega)
    have h2 := h.2.1 (g + d + 1) (by omega) (by omega)
    have h3 := (h.1 (g + d + 1) (by omega) (by omega)).1
    rw [show g + ((d + 1 : Nat) : Int) + 1 = g + d + 1 + 1 by omega]
    omega
theorem x5gl_lt2 (h : x5GL F n st sz) {g j : Int} (g0 : 0 ≤ g) (gj : g < j) (j1 : j < n) : st g + sz g < st j := by
  have := x5gl_lt h (j - g - 1).toNat g g0 (by omega)
  rw [show g + ((j - g - 1).toNat : Int) + 1 = j by omega] at this
  exact this
theorem x5gl_u (h : x5GL F n st sz) (h2 : x5GL F n2 st2 sz2) : ∀ (d : Nat), (d : Int) < n → (d : Int) < n2 ∧ st d = st2 d ∧ sz d = sz2 d := by
  intro d
  induction d using Nat.strongRecOn with
  | _ d ih =>
    intro hd
    obtain ⟨a1, a2, a3, a4⟩ := h.1 d (by omega) hd
    -- its start lies in a gap of the other row, not in an earlier one
    obtain ⟨g, g0, g1, g2, g3⟩ := h2.2.2 (st d) (a2 (st d) (by omega) (by omega))
    have hg : (d : Int) ≤ g := by
      by_cases c : g < d
      · have e := ih g.toNat (by omega) (by omega)
        rw [show (g.toNat : Int) = g by omega] at e
        have := x5gl_lt2 h g0 c hd
        omega
      · omega
    have hd2 : (d : Int) < n2 := by omega
    obtain ⟨b1, b2, b3, b4⟩ := h2.1 d (by omega) hd2
    obtain ⟨j, j0, j1, j2, j3⟩ := h.2.2 (st2 d) (b2 (st2 d) (by omega) (by omega))
    have hj : (d : Int) ≤ j := by
      by_cases c : j < d
      · have e := ih j.toNat (by omega) (by omega)
        rw [show (j.toNat : Int) = j by omega] at e
        have := x5gl_lt2 h2 j0 c hd2
        omega
      · omega
    have e1 : st2 d ≤ st d := by
      by_cases c : g = d
      · rw [c] at g2; exact g2
      · have := x5gl_lt2 h2 (g := d) (j := g) (by omega) (by omega) g1
        omega
    have e2 : st d ≤ st2 d := by
      by_cases c : j = d
      · rw [c] at j2; exact j2
      · have := x5gl_lt2 h (g := d) (j := j) (by omega) (by omega) j1
        omega
    have e : st d = st2 d := by omega
    refine ⟨hd2, e, ?_⟩
    by_cases c : sz d < sz2 d
    · exact absurd (b2 (st d + sz d) (by omega) (by omega)) a4
    · by_cases c2 : sz2 d < sz d
      · exact absurd (a2 (st2 d + sz2 d) (by omega) (by omega)) b4
      · omega
theorem x5gl_n (h0 : 0 ≤ n) (h : x5GL F n st sz) (k0 : 0 ≤ n2) (h2 : x5GL F n2 st2 sz2) : n = n2 := by
  by_cases c : n2 < n
  · have := (x5gl_u h h2 n2.toNat (by omega)).1
    omega
  · by_cases c2 : n < n2
    · have := (x5gl_u h2 h n.toNat (by omega)).1
      omega
    · omega
end
/-! where a partition would begin by a rule -/
def x5fb (room : Nat → Int) (size rule : Int) : Nat → Int
  | 0 => -1
  | k + 1 => if size ≤ room k ∧ (x5fb room size rule k = -1 ∨ (rule = 1 ∧ room k < room (x5fb room size rule k).toNat) ∨ (rule = 2 ∧ room (x5fb room size rule k).toNat < room k)) then (k : Int) else x5fb room size rule k
/-! searches -/
def x5LST (P : Int → Prop) (lo hi z : Int) : Prop := (z = -1 ∧ ∀ k, lo ≤ k → k < hi → ¬ P k) ∨ (lo ≤ z ∧ z < hi ∧ P z ∧ ∀ k, lo ≤ k → k < z → ¬ P k)
def x5GST (P : Int → Prop) (lo hi z : Int) : Prop := (z = -1 ∧ ∀ k, lo ≤ k → k < hi → ¬ P k) ∨ (lo ≤ z ∧ z < hi ∧ P z ∧ ∀ k, z < k → k < hi → ¬ P k)
theorem x5lst_u {P : Int → Prop} {lo lo2 hi z z2 : Int} (h0 : 0 ≤ lo) (h02 : 0 ≤ lo2) (hl : ∀ k, P k → k < hi → (lo ≤ k ↔ lo2 ≤ k)) (h : x5LST P lo hi z) (h2 : x5LST P lo2 hi z2) : z = z2 := by
  rcases h with ⟨a, b⟩ | ⟨a, b, c, d⟩ <;> rcases h2 with ⟨a2, b2⟩ | ⟨a2, b2, c2, d2⟩
  · omega
  · exact absurd c2 (b z2 ((hl z2 c2 b2).mpr a2) b2)
  · exact absurd c (b2 z ((hl z c b).mp a) b)
  · have h1 := (hl z c b).mp a
    have h3 := (hl z2 c2 b2).mpr a2
    by_cases e : z < z2
    · exact absurd c (d2 z h1 e)
    · by_cases e2 : z2 < z
      · exact absurd c2 (d z2 h3 e2)
      · omega
theorem x5gst_u {P : Int → Prop} {lo lo2 hi hi2 z z2 : Int} (h0 : 0 ≤ lo) (h02 : 0 ≤ lo2) (hl : ∀ k, P k → ((lo ≤ k ∧ k < hi) ↔ (lo2 ≤ k ∧ k < hi2))) (h : x5GST P lo hi z) (h2 : x5GST P lo2 hi2 z2) : z = z2 := by
  rcases h with ⟨a, b⟩ | ⟨a, b, c, d⟩ <;> rcases h2 with ⟨a2, b2⟩ | ⟨a2, b2, c2, d2⟩
  · omega
  · have h1 := (hl z2 c2).mpr ⟨a2, b2⟩
    exact absurd c2 (b z2 h1.1 h1.2)
  · have h1 := (hl z c).mp ⟨a, b⟩
    exact absurd c (b2 z h1.1 h1.2)
  · have h1 := (hl z c).mp ⟨a, b⟩
    have h3 := (hl z2 c2).mpr ⟨a2, b2⟩
    by_cases e : z < z2
    · exact absurd c2 (d z2 e h3.2)
    · by_cases e2 : z2 < z
      · exact absurd c (d2 z e2 h1.2)
      · omega
/-- the greatest start of m free sectors for a scratch area -/
def x5RUN (τ : ra_V) (p to m q : Int) : Prop := 0 ≤ q ∧ ∀ j, q ≤ j → j < q + m → CAN τ p to j
def x5SCG (τ : ra_V) (p to m z : Int) : Prop := (z = -1 ∧ ∀ q, ¬ x5RUN τ p to m q) ∨ (x5RUN τ p to m z ∧ ∀ q, z < q → ¬ x5RUN τ p to m q)
theorem x5scg_u (h : x5SCG τ a w m z) (h2 : x5SCG τ a w m y) : z = y := by
  rcases h with ⟨e, b⟩ | ⟨c, d⟩ <;> rcases h2 with ⟨e2, b2⟩ | ⟨c2, d2⟩
  · omega
  · exact absurd c2 (b y)
  · exact absurd c (b2 z)
  · by_cases e : z < y
    · exact absurd c2 (d y e)
    · by_cases e2 : y < z
      · exact absurd c (d2 z e2)
      · omega
/-- x5why a partition cannot be moved there -/
noncomputable def x5whyM (τ : ra_V) (p to c : Int) : Int :=
  x5cif (wq τ p 5 = 1) 1 (x5cif (ra_g τ 180 16 ≠ -1) 2 (x5cif (to = wq τ p 1) 3 (x5cif (¬ US τ to (wq τ p 2)) 4 (x5cif (to % ra_g τ 180 3 ≠ 0) 5 (x5cif (TK τ to (wq τ p 2) p) 6 (x5cif (rfar (wq τ p 1) to < min c (wq τ p 2) ∧ ∀ q, ¬ x5RUN τ p to (min c (wq τ p 2)) q) 7 0))))))
noncomputable def x5whyS (τ : ra_V) (p m : Int) : Int := x5cif (m < wq τ p 3) 3 (x5cif (¬ US τ (wq τ p 1) m) 4 (x5cif (TK τ (wq τ p 1) m p) 5 (x5cif (x5BSY τ (wq τ p 1 + wq τ p 2) (m - wq τ p 2)) 6 0)))
noncomputable def x5whyR (τ : ra_V) (p m : Int) : Int := x5cif (wq τ p 5 = 1) 1 (x5cif (ra_g τ 180 16 = p) 2 (x5whyS τ p m))
end
end
