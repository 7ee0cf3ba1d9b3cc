/-! T5: gaps: what is taken, by areas; both ways to find the gaps come to the same row of them -/
section
section
variable {σ s τ : ra_V} {D j : Nat} {k x y z n at_ : Int} {st sz : Int → Int}
/-- the areas that are taken: 8 partitions, where a move goes to, its scratch area -/
def x5apr (τ : ra_V) (j : Nat) : Prop := (j < 8 ∧ wq τ j 0 = 1) ∨ (j = 8 ∧ ra_g τ 180 16 ≠ -1) ∨ (j = 9 ∧ ra_g τ 180 16 ≠ -1 ∧ ra_g τ 180 20 ≠ -1)
def x5ast (τ : ra_V) (j : Nat) : Int := if j < 8 then wq τ j 1 else if j = 8 then ra_g τ 180 18 else ra_g τ 180 20
def x5aen (τ : ra_V) (j : Nat) : Int := if j < 8 then wq τ j 1 + wq τ j 2 else if j = 8 then ra_g τ 180 18 + msz τ else ra_g τ 180 20 + min (ra_g τ 180 19) (msz τ)
def x5HIT (τ : ra_V) (j : Nat) (k : Int) : Prop := x5apr τ j ∧ x5ast τ j ≤ k ∧ k < x5aen τ j
theorem x5fre_iff : x5FRE τ k ↔ (US τ k 1 ∧ ∀ j, j < 10 → ¬ x5HIT τ j k) := by
  constructor
  · rintro ⟨h1, h2, h3⟩
    refine ⟨h1, fun j hj ⟨ha, hs, he⟩ => ?_⟩
    rcases ha with ⟨a1, a2⟩ | ⟨a1, a2⟩ | ⟨a1, a2, a3⟩
    · unfold x5ast at hs
      unfold x5aen at he
      rw [if_pos a1] at hs he
      exact h2 ⟨j, by omega, by omega, by omega, a2, by omega, by omega⟩
    · subst a1
      have hs : ra_g τ 180 18 ≤ k := hs
      have he : k < ra_g τ 180 18 + msz τ := he
      exact h3 ⟨a2, by omega, Or.inl ⟨by omega, by omega⟩⟩
    · subst a1
      have hs : ra_g τ 180 20 ≤ k := hs
      have he : k < ra_g τ 180 20 + min (ra_g τ 180 19) (msz τ) := he
      exact h3 ⟨a2, by omega, Or.inr ⟨a3, by omega, by omega⟩⟩
  · rintro ⟨h1, h2⟩
    refine ⟨h1, ?_, ?_⟩
    · rintro ⟨p, p0, p8, -, pe, k1, k2⟩
      have e : ((p.toNat : Nat) : Int) = p := by omega
      refine h2 p.toNat (by omega) ⟨Or.inl ⟨by omega, by rw [e]; exact pe⟩, ?_, ?_⟩
      · unfold x5ast
        rw [if_pos (by omega), e]
        omega
      · unfold x5aen
        rw [if_pos (by omega), e]
        omega
    · rintro ⟨b1, b2, ⟨b3, b4⟩ | ⟨b3, b4, b5⟩⟩
      · exact h2 8 (by omega) ⟨Or.inr (Or.inl ⟨rfl, b1⟩), (by omega : ra_g τ 180 18 ≤ k), (by omega : k < ra_g τ 180 18 + msz τ)⟩
      · exact h2 9 (by omega) ⟨Or.inr (Or.inr ⟨rfl, b1, b3⟩), (by omega : ra_g τ 180 20 ≤ k), (by omega : k < ra_g τ 180 20 + min (ra_g τ 180 19) (msz τ))⟩
theorem x5area_pos (hW : WF τ) (h : x5apr τ j) : x5ast τ j < x5aen τ j := by
  rcases h with ⟨a1, a2⟩ | ⟨a1, a2⟩ | ⟨a1, a2, a3⟩
  · have hp := WF_p hW (p := (j : Int)) (by omega) (by omega) a2
    unfold x5ast x5aen
    rw [if_pos a1, if_pos a1]
    omega
  · have hm := MV_f hW a2
    unfold MF at hm
    subst a1
    show ra_g τ 180 18 < ra_g τ 180 18 + msz τ
    omega
  · have hm := MV_f hW a2
    unfold MF at hm
    subst a1
    show ra_g τ 180 20 < ra_g τ 180 20 + min (ra_g τ 180 19) (msz τ)
    omega
/-- the end of what is taken there -/
def x5EOT (τ : ra_V) (x z : Int) : Prop := (z = x ∧ ∀ j, j < 10 → ¬ x5HIT τ j x) ∨ (x < z ∧ ∃ j, j < 10 ∧ x5HIT τ j x ∧ x5aen τ j = z)
/-- where the next area begins -/
def x5NXT (τ : ra_V) (x z : Int) : Prop := (∀ j, j < 10 → x5apr τ j → x < x5ast τ j → z ≤ x5ast τ j) ∧ z ≤ ra_g τ 180 0 - ra_g τ 180 2 ∧ (z = ra_g τ 180 0 - ra_g τ 180 2 ∨ ∃ j, j < 10 ∧ x5apr τ j ∧ x5ast τ j = z ∧ x < z)
/-- how many areas end at or below a sector -/
noncomputable def x5cnt (τ : ra_V) (x : Int) : Nat := x5bq (fun j => x5apr τ j ∧ x5aen τ j ≤ x) 0 + x5bq (fun j => x5apr τ j ∧ x5aen τ j ≤ x) 1 + x5bq (fun j => x5apr τ j ∧ x5aen τ j ≤ x) 2 + x5bq (fun j => x5apr τ j ∧ x5aen τ j ≤ x) 3 + x5bq (fun j => x5apr τ j ∧ x5aen τ j ≤ x) 4 + x5bq (fun j => x5apr τ j ∧ x5aen τ j ≤ x) 5 + x5bq (fun j => x5apr τ j ∧ x5aen τ j ≤ x) 6 + x5bq (fun j => x5apr τ j ∧ x5aen τ j ≤ x) 7 + x5bq (fun j => x5apr τ j ∧ x5aen τ j ≤ x) 8 + x5bq (fun j => x5apr τ j ∧ x5aen τ j ≤ x) 9
theorem x5bq_mono (h : x ≤ y) : x5bq (fun j => x5apr τ j ∧ x5aen τ j ≤ x) j ≤ x5bq (fun j => x5apr τ j ∧ x5aen τ j ≤ y) j := by
  by_cases c : x5apr τ j ∧ x5aen τ j ≤ x
  · rw [x5bq_y (P := fun j => x5apr τ j ∧ x5aen τ j ≤ x) c, x5bq_y (P := fun j => x5apr τ j ∧ x5aen τ j ≤ y) ⟨c.1, by omega⟩]
    exact Nat.le_refl _
  · rw [x5bq_n (P := fun j => x5apr τ j ∧ x5aen τ j ≤ x) c]
    exact Nat.zero_le _
theorem x5cnt_10 : x5cnt τ x ≤ 10 := by
  have b := fun j => x5bq_b (P := fun j => x5apr τ j ∧ x5aen τ j ≤ x) (q := j)
  have b0 := b 0
  have b1 := b 1
  have b2 := b 2
  have b3 := b 3
  have b4 := b 4
  have b5 := b 5
  have b6 := b 6
  have b7 := b 7
  have x4b8 := b 8
  have b9 := b 9
  unfold x5cnt
  omega
theorem x5cnt_mono (h : x ≤ y) : x5cnt τ x ≤ x5cnt τ y := by
  have b := fun j => x5bq_mono (τ := τ) (j := j) h
  have b0 := b 0
  have b1 := b 1
  have b2 := b 2
  have b3 := b 3
  have b4 := b 4
  have b5 := b 5
  have b6 := b 6
  have b7 := b 7
  have x4b8 := b 8
  have b9 := b 9
  unfold x5cnt
  omega
theorem x5cnt_s (h : x < y) (hj : j < 10) (ha : x5apr τ j) (he : x < x5aen τ j ∧ x5aen τ j ≤ y) : x5cnt τ x + 1 ≤ x5cnt τ y := by
  have b := fun j => x5bq_mono (τ := τ) (j := j) (Int.le_of_lt h)
  have b0 := b 0
  have b1 := b 1
  have b2 := b 2
  have b3 := b 3
  have b4 := b 4
  have b5 := b 5
  have b6 := b 6
  have b7 := b 7
  have x4b8 := b 8
  have b9 := b 9
  have e1 : x5bq (fun j => x5apr τ j ∧ x5aen τ j ≤ x) j = 0 := x5bq_n (fun q => by have := q.2; omega)
  have e2 : x5bq (fun j => x5apr τ j ∧ x5aen τ j ≤ y) j = 1 := x5bq_y ⟨ha, he.2⟩
  unfold x5cnt
  rcases (show j = 0 ∨ j = 1 ∨ j = 2 ∨ j = 3 ∨ j = 4 ∨ j = 5 ∨ j = 6 ∨ j = 7 ∨ j = 8 ∨ j = 9 by omega) with rfl | rfl | rfl | rfl | rfl | rfl | rfl | rfl | rfl | rfl <;> omega
/-- the gaps below a sector -/
def x5GB (τ : ra_V) (n : Int) (st sz : Int → Int) (x : Int) : Prop :=
  0 ≤ n ∧ (∀ g, 0 ≤ g → g < n → 1 ≤ sz g ∧ (∀ k, st g ≤ k → k < st g + sz g → x5FRE τ k) ∧ ¬ x5FRE τ (st g - 1) ∧ ¬ x5FRE τ (st g + sz g) ∧ st g + sz g ≤ x) ∧ (∀ g, 0 ≤ g → g + 1 < n → st g + sz g < st (g + 1)) ∧
  (∀ k, x5FRE τ k → k < x → ∃ g, 0 ≤ g ∧ g < n ∧ st g ≤ k ∧ k < st g + sz g) ∧ (x5FRE τ x → ¬ x5FRE τ (x - 1)) ∧ n ≤ x5cnt τ x + 1 ∧ (x5FRE τ x → n ≤ x5cnt τ x)
theorem x5us_1 : US τ k 1 ↔ (ra_g τ 180 1 ≤ k ∧ k < ra_g τ 180 0 - ra_g τ 180 2) := by
  unfold US
  omega
theorem x5gb_0 : x5GB τ 0 st sz (ra_g τ 180 1) := by
  refine ⟨by omega, fun g g0 g1 => by omega, fun g g0 g1 => by omega, fun k hk h => ?_, fun _ h => ?_, by omega, fun _ => by omega⟩
  · have := x5us_1.mp hk.1
    omega
  · have := x5us_1.mp h.1
    omega
/-- over what is taken -/
theorem x5gb_t (h : x5GB τ n st sz x) (he : x5EOT τ x y) (hx : y ≠ x) (hU : ra_g τ 180 1 ≤ x ∧ x < ra_g τ 180 0 - ra_g τ 180 2) : x5GB τ n st sz y ∧ x < y := by
  obtain ⟨h0, h1, h2, h3, h4, h5, h6⟩ := h
  rcases he with ⟨e, -⟩ | ⟨hl, j, hj, ⟨ja, js, jk⟩, je⟩
  · exact absurd e hx
  · have nf : ∀ k, x ≤ k → k < y → ¬ x5FRE τ k := fun k k1 k2 q => (x5fre_iff.mp q).2 j hj ⟨ja, by omega, by omega⟩
    have hc := x5cnt_s (τ := τ) hl hj ja ⟨by omega, by omega⟩
    refine ⟨⟨h0, fun g g0 g1 => ?_, h2, fun k hk k1 => ?_, fun _ => nf (y - 1) (by omega) (by omega), by omega, fun _ => by omega⟩, hl⟩
    · obtain ⟨a1, a2, a3, a4, a5⟩ := h1 g g0 g1
      exact ⟨a1, a2, a3, a4, by omega⟩
    · by_cases c : k < x
      · exact h3 k hk c
      · exact absurd hk (nf k (by omega) k1)
/-- a gap noted -/
theorem x5gb_n {st2 sz2 : Int → Int} (hW : WF τ) (h : x5GB τ n st sz x) (he : x5EOT τ x x) (hn : x5NXT τ x y) (hU : ra_g τ 180 1 ≤ x ∧ x < ra_g τ 180 0 - ra_g τ 180 2) (hs : ∀ g, 0 ≤ g → g < n → st2 g = st g ∧ sz2 g = sz g) (hs2 : st2 n = x ∧ sz2 n = y - x) : x5GB τ (n + 1) st2 sz2 y ∧ x < y ∧ n ≤ 10 := by
  obtain ⟨h0, h1, h2, h3, h4, h5, h6⟩ := h
  obtain ⟨n1, n2, n3⟩ := hn
  have hno : ∀ j, j < 10 → ¬ x5HIT τ j x := by
    rcases he with ⟨-, q⟩ | ⟨q, -⟩
    · exact q
    · omega
  have fx : x5FRE τ x := x5fre_iff.mpr ⟨x5us_1.mpr hU, hno⟩
  have hxy : x < y := by
    rcases n3 with q | ⟨j, -, -, -, q⟩
    · omega
    · exact q
  -- all between are free
  have fk : ∀ k, x ≤ k → k < y → x5FRE τ k := fun k k1 k2 => x5fre_iff.mpr ⟨x5us_1.mpr ⟨by omega, by omega⟩, fun j hj ⟨ja, js, jk⟩ => by
    by_cases c : x < x5ast τ j
    · have := n1 j hj ja c
      omega
    · exact hno j hj ⟨ja, by omega, by omega⟩⟩
  -- its end is not
  have ny : ¬ x5FRE τ y := by
    rcases n3 with q | ⟨j, hj, ja, js, -⟩
    · intro c
      have := x5us_1.mp c.1
      omega
    · intro c
      have hw : x5ast τ j < x5aen τ j → False := fun w => (x5fre_iff.mp c).2 j hj ⟨ja, by omega, by omega⟩
      exact hw (x5area_pos hW ja)
  have hc := h6 fx
  have c10 := x5cnt_10 (τ := τ) (x := x)
  have cm := x5cnt_mono (τ := τ) (Int.le_of_lt hxy)
  refine ⟨⟨by omega, fun g g0 g1 => ?_, fun g g0 g1 => ?_, fun k hk k1 => ?_, fun q => absurd q ny, by omega, fun q => absurd q ny⟩, hxy, by omega⟩
  · by_cases c : g = n
    · rw [c, hs2.1, hs2.2]
      refine ⟨by omega, fun k k1 k2 => fk k k1 (by omega), h4 fx, ?_, by omega⟩
      rw [show x + (y - x) = y by omega]
      exact ny
    · obtain ⟨e1, e2⟩ := hs g g0 (by omega)
      obtain ⟨a1, a2, a3, a4, a5⟩ := h1 g g0 (by omega)
      rw [e1, e2]
      exact ⟨a1, a2, a3, a4, by omega⟩
  · by_cases c : g + 1 = n
    · obtain ⟨e1, e2⟩ := hs g g0 (by omega)
      obtain ⟨a1, a2, a3, a4, a5⟩ := h1 g g0 (by omega)
      rw [c, hs2.1, e1, e2]
      by_cases d : st g + sz g = x
      · rw [d] at a4
        exact absurd fx a4
      · omega
    · obtain ⟨e1, e2⟩ := hs g g0 (by omega)
      obtain ⟨e3, e4⟩ := hs (g + 1) (by omega) (by omega)
      rw [e1, e2, e3]
      exact h2 g g0 (by omega)
  · by_cases c : k < x
    · obtain ⟨g, g0, g1, g2, g3⟩ := h3 k hk c
      obtain ⟨e1, e2⟩ := hs g g0 g1
      exact ⟨g, g0, by omega, by omega, by omega⟩
    · exact ⟨n, h0, by omega, by omega, by omega⟩
/-- all of them -/
theorem x5gb_e (h : x5GB τ n st sz x) (hx : ra_g τ 180 0 - ra_g τ 180 2 ≤ x) : x5GL (x5FRE τ) n st sz := by
  obtain ⟨h0, h1, h2, h3, h4, h5, h6⟩ := h
  refine ⟨fun g g0 g1 => ?_, h2, fun k hk => h3 k hk (by have := x5us_1.mp hk.1; omega)⟩
  obtain ⟨a1, a2, a3, a4, -⟩ := h1 g g0 g1
  exact ⟨a1, a2, a3, a4⟩
end
end
