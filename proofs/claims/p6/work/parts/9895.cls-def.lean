/-! T4: the class's disk that a text is read into -/
section
section
variable {σ s t : ra_V} {B : Nat → Int} {bn n a i k D p e : Nat} {pk x y v z : Int} {r : Nat → Int}
/-- the partitions that stand are the first ones -/
def x4SZ (σ : ra_V) (D : Nat) (pk : Int) : Prop := (0 ≤ pk ∧ pk ≤ 8) ∧ ∀ p : Nat, p < 8 → (0 < ra_g σ (D + 5 + p) 2 ↔ (p : Int) < pk)
def x4BD (σ : ra_V) (D : Nat) : Prop := ∀ p : Nat, p < 8 → 0 < ra_g σ (D + 5 + p) 2 → 0 ≤ ra_g σ (D + 5 + p) 1 ∧ ra_g σ (D + 5 + p) 1 + ra_g σ (D + 5 + p) 2 ≤ 600
abbrev x4MT (σ : ra_V) (D : Nat) (x y : Int) (p : Nat) : Prop := 0 < ra_g σ (D + 5 + p) 2 ∧ ra_g σ (D + 5 + p) 1 < x + y ∧ x < ra_g σ (D + 5 + p) 1 + ra_g σ (D + 5 + p) 2
theorem x4or_z {m y : Int} (h : ra_op .ior m y = 0) (hy : ra_in y) : y = 0 := by
  have h1 : (Int32.ofInt m ||| Int32.ofInt y).toInt = (0 : Int32).toInt := h
  have h2 : Int32.ofInt m ||| Int32.ofInt y = 0 := Int32.toInt_inj.mp h1
  have h3 : (Int32.ofInt m ||| Int32.ofInt y).toBitVec = 0#32 := by rw [h2]; rfl
  rw [Int32.toBitVec_or] at h3
  have h4 : (Int32.ofInt y).toBitVec = 0#32 := (BitVec.or_eq_zero_iff.mp h3).2
  have h5 : Int32.ofInt y = 0 := Int32.toBitVec_inj.mp h4
  have h6 : (Int32.ofInt y).toInt = (0 : Int32).toInt := by rw [h5]
  rw [ra_ofI hy] at h6
  exact h6
theorem x4sh_nz : ∀ j : Nat, j < 8 → ra_op .ishl 1 (j : Int) ≠ 0 := by decide +kernel
theorem x4or_ne {m : Int} {j : Nat} (hj : j < 8) : ra_op .ior m (ra_op .ishl 1 (j : Int)) ≠ 0 := fun h => x4sh_nz j hj (x4or_z h (ra_in_op _ _ _))
/-- what a text has made so far: the class's disk D, the numbers of the text -/
def x4AR (r : Nat → Int) (σ : ra_V) (D : Nat) : Prop :=
  (ra_g σ D 4 = r 0 ∧ ra_g σ D 5 = r 1 ∧ ra_g σ D 6 = r 2 ∧ ra_g σ D 7 = r 3 ∧ ra_g σ D 8 = r 4) ∧
  ((64 ≤ r 0 ∧ r 0 ≤ 600) ∧ (0 ≤ r 1 ∧ r 1 ≤ 31) ∧ (0 ≤ r 2 ∧ r 2 ≤ 31) ∧ (1 ≤ r 3 ∧ r 3 ≤ 32) ∧ (0 ≤ r 5 ∧ r 5 ≤ 8)) ∧
  (ra_g σ 175 8 = r 101 ∧ ra_g σ 175 9 = r 102 ∧ ra_g σ 175 10 = r 103 ∧ ra_g σ 175 11 = r 104) ∧
  ((r 101 = 0 ∨ r 101 = 1) ∧ (r 102 = 0 ∨ r 102 = 1) ∧ (r 103 = 0 ∨ r 103 = 1) ∧ (r 104 = 0 ∨ r 104 = 1)) ∧
  (ra_g σ 175 2 = 0 ∧ ra_g σ 175 3 = -1) ∧ x4SZ σ D (r 5) ∧
  ∀ p : Nat, p < 8 → (p : Int) < r 5 → ra_g σ (D + 5 + p) 1 = r (25 + 8 * p) ∧ ra_g σ (D + 5 + p) 2 = r (26 + 8 * p) ∧ ra_g σ (D + 5 + p) 5 = r (29 + 8 * p) ∧ (r (29 + 8 * p) = 0 ∨ r (29 + 8 * p) = 1) ∧ 0 ≤ r (25 + 8 * p) ∧ r (25 + 8 * p) + r (26 + 8 * p) ≤ 600
theorem x4SZ_k (h : ∀ p : Nat, p < 8 → ra_g s (D + 5 + p) 2 = ra_g σ (D + 5 + p) 2) (q : x4SZ σ D pk) : x4SZ s D pk := ⟨q.1, fun p hp => by rw [h p hp]; exact q.2 p hp⟩
theorem x4SZ_in (q : x4SZ σ D pk) : ra_in pk := by have := q.1; unfold ra_in; omega
theorem x4AR_bd (h : x4AR r σ D) : x4BD σ D := fun p hp h0 => by
  obtain ⟨-, -, -, -, -, hz, hp2⟩ := h
  obtain ⟨a1, a2, a3, a4, a5, a6⟩ := hp2 p hp ((hz.2 p hp).mp h0)
  rw [a1, a2]
  exact ⟨a5, a6⟩
theorem x4AR_k (h1 : ∀ j : Nat, j < 13 → s (D + j) = σ (D + j)) (h2 : ra_g s 175 2 = ra_g σ 175 2 ∧ ra_g s 175 3 = ra_g σ 175 3 ∧ ra_g s 175 8 = ra_g σ 175 8 ∧ ra_g s 175 9 = ra_g σ 175 9 ∧ ra_g s 175 10 = ra_g σ 175 10 ∧ ra_g s 175 11 = ra_g σ 175 11) (h : x4AR r σ D) : x4AR r s D := by
  obtain ⟨a1, a2, a3, a4, a5, a6, a7⟩ := h
  have e0 : s D = σ D := h1 0 (by omega)
  have ep : ∀ p : Nat, p < 8 → s (D + 5 + p) = σ (D + 5 + p) := fun p hp => by rw [Nat.add_assoc]; exact h1 (5 + p) (by omega)
  refine ⟨?_, a2, by omega, a4, by omega, x4SZ_k (fun p hp => ra_gk (ep p hp)) a6, fun p hp hq => ?_⟩
  · rw [ra_gk e0, ra_gk e0, ra_gk e0, ra_gk e0, ra_gk e0]; exact a1
  · rw [ra_gk (ep p hp), ra_gk (ep p hp), ra_gk (ep p hp)]; exact a7 p hp hq
theorem x4up_n {w j : Nat} (h : j ≠ w) : tx_up r w v j = r j := if_neg h
theorem x4up_y {w : Nat} : tx_up r w v w = v := if_pos rfl
theorem x4AR_set {w : Nat} (hw : 1 ≤ w ∧ w ≤ 4) (h : x4AR r σ D) (hr : (w = 1 ∨ w = 2 → 0 ≤ v ∧ v ≤ 31) ∧ (w = 3 → 1 ≤ v ∧ v ≤ 32)) (hs : ∀ j : Nat, 4 ≤ j → j ≤ 8 → j ≠ 4 + w → ra_g s D j = ra_g σ D j) (hv : ra_g s D (4 + w) = v)
    (ht : ra_g s 175 (7 + w) = 1) (ho : ∀ j : Nat, 8 ≤ j → j ≤ 11 → j ≠ 7 + w → ra_g s 175 j = ra_g σ 175 j) (he : ra_g s 175 2 = ra_g σ 175 2 ∧ ra_g s 175 3 = ra_g σ 175 3) (hp : ∀ p : Nat, p < 8 → s (D + 5 + p) = σ (D + 5 + p)) : x4AR (tx_up (tx_up r w v) (100 + w) 1) s D := by
  obtain ⟨a1, a2, a3, a4, a5, a6, a7⟩ := h
  have f : ∀ j : Nat, j ≠ w → j ≠ 100 + w → tx_up (tx_up r w v) (100 + w) 1 j = r j := fun j h1 h2 => by rw [x4up_n h2, x4up_n h1]
  have g1 : tx_up (tx_up r w v) (100 + w) 1 w = v := by rw [x4up_n (by omega), x4up_y]
  have g2 : tx_up (tx_up r w v) (100 + w) 1 (100 + w) = 1 := x4up_y
  have u : ∀ j : Nat, j < 5 → (j = w ∧ tx_up (tx_up r w v) (100 + w) 1 j = v ∧ ra_g s D (4 + j) = v) ∨ (j ≠ w ∧ tx_up (tx_up r w v) (100 + w) 1 j = r j ∧ ra_g s D (4 + j) = ra_g σ D (4 + j)) := fun j hj => by
    by_cases e : j = w
    · subst e; exact Or.inl ⟨rfl, g1, hv⟩
    · exact Or.inr ⟨e, f j e (by omega), hs (4 + j) (by omega) (by omega) (by omega)⟩
  have q : ∀ j : Nat, 1 ≤ j → j ≤ 4 → (j = w ∧ tx_up (tx_up r w v) (100 + w) 1 (100 + j) = 1 ∧ ra_g s 175 (7 + j) = 1) ∨ (j ≠ w ∧ tx_up (tx_up r w v) (100 + w) 1 (100 + j) = r (100 + j) ∧ ra_g s 175 (7 + j) = ra_g σ 175 (7 + j)) := fun j h1 h2 => by
    by_cases e : j = w
    · subst e; exact Or.inl ⟨rfl, g2, ht⟩
    · exact Or.inr ⟨e, f (100 + j) (by omega) (by omega), ho (7 + j) (by omega) (by omega) (by omega)⟩
  have f5 : tx_up (tx_up r w v) (100 + w) 1 5 = r 5 := f 5 (by omega) (by omega)
  have u0 := u 0 (by omega)
  have u1 := u 1 (by omega)
  have u2 := u 2 (by omega)
  have u3 := u 3 (by omega)
  have u4 := u 4 (by omega)
  have q1 := q 1 (by omega) (by omega)
  have q2 := q 2 (by omega) (by omega)
  have q3 := q 3 (by omega) (by omega)
  have q4 := q 4 (by omega) (by omega)
  clear u q f
  simp only [Nat.reduceAdd] at u0 u1 u2 u3 u4 q1 q2 q3 q4
  refine ⟨by omega, by omega, by omega, by omega, by omega, ?_, fun p hp0 hq => ?_⟩
  · rw [f5]; exact x4SZ_k (fun p hp0 => ra_gk (hp p hp0)) a6
  · rw [f5] at hq
    rw [ra_gk (hp p hp0), ra_gk (hp p hp0), ra_gk (hp p hp0)]
    have f : ∀ j : Nat, j ≠ w → j ≠ 100 + w → tx_up (tx_up r w v) (100 + w) 1 j = r j := fun j h1 h2 => by rw [x4up_n h2, x4up_n h1]
    rw [f (25 + 8 * p) (by omega) (by omega), f (26 + 8 * p) (by omega) (by omega), f (29 + 8 * p) (by omega) (by omega)]
    exact a7 p hp0 hq
theorem x4AR_lock {j : Nat} (hj : j < 8) (hv : (j : Int) < r 5) (h : x4AR r σ D) (h0 : s D = σ D) (ho : ∀ p : Nat, p < 8 → p ≠ j → s (D + 5 + p) = σ (D + 5 + p)) (hl : ra_g s (D + 5 + j) 5 = 1) (hk : ra_g s (D + 5 + j) 1 = ra_g σ (D + 5 + j) 1 ∧ ra_g s (D + 5 + j) 2 = ra_g σ (D + 5 + j) 2)
    (he : ra_g s 175 2 = ra_g σ 175 2 ∧ ra_g s 175 3 = ra_g σ 175 3 ∧ ra_g s 175 8 = ra_g σ 175 8 ∧ ra_g s 175 9 = ra_g σ 175 9 ∧ ra_g s 175 10 = ra_g σ 175 10 ∧ ra_g s 175 11 = ra_g σ 175 11) : x4AR (tx_up r (29 + 8 * j) 1) s D := by
  obtain ⟨a1, a2, a3, a4, a5, a6, a7⟩ := h
  have f : ∀ i : Nat, i ≠ 29 + 8 * j → tx_up r (29 + 8 * j) 1 i = r i := fun i h1 => x4up_n h1
  have e2 : ∀ p : Nat, p < 8 → ra_g s (D + 5 + p) 2 = ra_g σ (D + 5 + p) 2 := fun p hp => by
    by_cases c : p = j
    · subst c; exact hk.2
    · exact ra_gk (ho p hp c)
  refine ⟨?_, ?_, ?_, ?_, by omega, ?_, fun p hp hq => ?_⟩
  · rw [ra_gk h0, ra_gk h0, ra_gk h0, ra_gk h0, ra_gk h0, f 0 (by omega), f 1 (by omega), f 2 (by omega), f 3 (by omega), f 4 (by omega)]; exact a1
  · rw [f 0 (by omega), f 1 (by omega), f 2 (by omega), f 3 (by omega), f 5 (by omega)]; exact a2
  · rw [f 101 (by omega), f 102 (by omega), f 103 (by omega), f 104 (by omega)]; omega
  · rw [f 101 (by omega), f 102 (by omega), f 103 (by omega), f 104 (by omega)]; exact a4
  · rw [f 5 (by omega)]; exact x4SZ_k e2 a6
  · rw [f 5 (by omega)] at hq
    have b := a7 p hp hq
    rw [e2 p hp, f (25 + 8 * p) (by omega), f (26 + 8 * p) (by omega)]
    by_cases c : p = j
    · subst c
      rw [x4up_y, hl, hk.1]
      exact ⟨b.1, b.2.1, rfl, Or.inr rfl, b.2.2.2.2.1, b.2.2.2.2.2⟩
    · rw [f (29 + 8 * p) (by omega), ra_gk (ho p hp c), ra_gk (ho p hp c)]
      exact b
/-- a partition made -/
def x4MKC (σ s : ra_V) (D : Nat) (k : Nat) (x y : Int) : Prop := (∀ j : Nat, 4 ≤ j → j ≤ 8 → ra_g s D j = ra_g σ D j) ∧ (∀ p : Nat, p < 8 → p ≠ k → s (D + 5 + p) = σ (D + 5 + p)) ∧ ra_g s (D + 5 + k) 1 = x ∧ ra_g s (D + 5 + k) 2 = y ∧ ra_g s (D + 5 + k) 5 = 0
theorem x4AR_mk {st sz kd mn : Int} (h : x4AR r σ D) (h8 : r 5 ≠ 8) (hm : x4MKC σ s D (r 5).toNat st sz) (hst : 0 ≤ st ∧ 1 ≤ sz ∧ st + sz ≤ 600) (h175 : s 175 = σ 175) : x4AR (tx_mk r st sz kd mn) s D := by
  obtain ⟨a1, a2, a3, a4, a5, a6, a7⟩ := h
  obtain ⟨m1, m2, m3, m4, m5⟩ := hm
  have f : ∀ j : Nat, (j < 5 ∨ 88 ≤ j) → tx_mk r st sz kd mn j = r j := fun j hj => by
    unfold tx_mk
    rw [if_neg (by omega), if_neg (by omega), if_neg (by omega), if_neg (by omega), if_neg (by omega), if_neg (by omega), if_neg (by omega), if_neg (by omega), if_neg (by omega)]
  have f5 : tx_mk r st sz kd mn 5 = r 5 + 1 := by unfold tx_mk; rw [if_pos rfl]
  have b4 := m1 4 (by omega) (by omega)
  have b5 := m1 5 (by omega) (by omega)
  have b6 := m1 6 (by omega) (by omega)
  have b7 := m1 7 (by omega) (by omega)
  have x4b8 := m1 8 (by omega) (by omega)
  refine ⟨?_, ?_, ?_, ?_, ?_, ?_, fun p hp hq => ?_⟩
  · rw [f 0 (by omega), f 1 (by omega), f 2 (by omega), f 3 (by omega), f 4 (by omega)]; omega
  · rw [f 0 (by omega), f 1 (by omega), f 2 (by omega), f 3 (by omega), f5]; omega
  · rw [f 101 (by omega), f 102 (by omega), f 103 (by omega), f 104 (by omega), ra_gk h175, ra_gk h175, ra_gk h175, ra_gk h175]; exact a3
  · rw [f 101 (by omega), f 102 (by omega), f 103 (by omega), f 104 (by omega)]; exact a4
  · rw [ra_gk h175, ra_gk h175]; exact a5
  · rw [f5]
    refine ⟨by omega, fun p hp => ?_⟩
    by_cases c : p = (r 5).toNat
    · rw [c, m4]; omega
    · rw [ra_gk (m2 p hp c)]
      have := a6.2 p hp
      omega
  · rw [f5] at hq
    by_cases c : p = (r 5).toNat
    · subst c
      have g1 : tx_mk r st sz kd mn (25 + 8 * (r 5).toNat) = st := by unfold tx_mk; rw [if_neg (by omega), if_neg (by omega), if_pos rfl]
      have g2 : tx_mk r st sz kd mn (26 + 8 * (r 5).toNat) = sz := by unfold tx_mk; rw [if_neg (by omega), if_neg (by omega), if_neg (by omega), if_pos rfl]
      have g3 : tx_mk r st sz kd mn (29 + 8 * (r 5).toNat) = 0 := by unfold tx_mk; rw [if_neg (by omega), if_neg (by omega), if_neg (by omega), if_neg (by omega), if_neg (by omega), if_neg (by omega), if_pos rfl]
      rw [g1, g2, g3]
      exact ⟨m3, m4, m5, Or.inl rfl, hst.1, hst.2.2⟩
    · have g : ∀ w : Nat, w < 8 → tx_mk r st sz kd mn (24 + w + 8 * p) = r (24 + w + 8 * p) := fun w hw => by
        unfold tx_mk
        rw [if_neg (by omega), if_neg (by omega), if_neg (by omega), if_neg (by omega), if_neg (by omega), if_neg (by omega), if_neg (by omega), if_neg (by omega), if_neg (by omega)]
      have g1 : tx_mk r st sz kd mn (25 + 8 * p) = r (25 + 8 * p) := g 1 (by omega)
      have g2 : tx_mk r st sz kd mn (26 + 8 * p) = r (26 + 8 * p) := g 2 (by omega)
      have g3 : tx_mk r st sz kd mn (29 + 8 * p) = r (29 + 8 * p) := g 5 (by omega)
      rw [g1, g2, g3, ra_gk (m2 p hp c), ra_gk (m2 p hp c), ra_gk (m2 p hp c)]
      exact a7 p hp (by omega)
/-- hidden from omega -/
def x4IFZ (P : Prop) (z : Int) : Prop := P ↔ z ≠ 0
def x4IFW (z : Int) (P : Prop) : Prop := z = 1 ↔ P
theorem x4tm_iff : tx_meets r x y = true ↔ ∃ p : Nat, p < 8 ∧ (p : Int) < r 5 ∧ x < r (25 + 8 * p) + r (26 + 8 * p) ∧ r (25 + 8 * p) < x + y := by
  unfold tx_meets
  simp only [List.any_eq_true, List.mem_range, decide_eq_true_eq]
theorem x4AR_mt (h : x4AR r σ D) : (∃ p : Int, 0 ≤ p ∧ p < 8 ∧ x4MT σ D x y p.toNat) ↔ tx_meets r x y = true := by
  obtain ⟨-, -, -, -, -, hz, ha⟩ := h
  rw [x4tm_iff]
  constructor
  · rintro ⟨p, p0, p1, m1, m2, m3⟩
    have hq := (hz.2 p.toNat (by omega)).mp m1
    obtain ⟨b1, b2, -⟩ := ha p.toNat (by omega) hq
    exact ⟨p.toNat, by omega, hq, by omega, by omega⟩
  · rintro ⟨p, p0, p1, m2, m3⟩
    obtain ⟨b1, b2, -⟩ := ha p p0 p1
    have m1 := (hz.2 p p0).mpr p1
    refine ⟨(p : Int), by omega, by omega, ?_⟩
    rw [Int.toNat_natCast]
    exact ⟨m1, by omega, by omega⟩
/-- what a piece of a text comes to: the class -/
def x4OC (bn : Nat) (s : ra_V) (D : Nat) (z : Int) (o : Sum (Int × Nat) ((Nat → Int) × Nat)) : Prop :=
  (z = 1 ∧ ∃ (r : Nat → Int) (e : Nat), o = .inr (r, e) ∧ x4AR r s D ∧ ra_g s 175 4 = (e : Nat) ∧ e ≤ bn) ∨ (z = 0 ∧ ∃ (c : Int) (a : Nat), o = .inl (c, a) ∧ ra_g s 175 2 = c ∧ ra_g s 175 3 = (a : Nat))
theorem x4oc_f {o : Sum (Int × Nat) ((Nat → Int) × Nat)} {c : Int} (hz : z = 0) (ho : o = .inl (c, a)) (h2 : ra_g s 175 2 = c) (h3 : ra_g s 175 3 = (a : Nat)) : x4OC bn s D z o := Or.inr ⟨hz, c, a, ho, h2, h3⟩
theorem x4oc_y {o : Sum (Int × Nat) ((Nat → Int) × Nat)} (hz : z = 1) (ho : o = .inr (r, e)) (hA : x4AR r s D) (hp : ra_g s 175 4 = (e : Nat)) (he : e ≤ bn) : x4OC bn s D z o := Or.inl ⟨hz, r, e, ho, hA, hp, he⟩
theorem x4oc_rd {o : Sum (Int × Nat) ((Nat → Int) × Nat)} {w lo hi : Int} (h : x4NUM B bn σ s w i lo hi) (hw : w = 0) (hz : z = 0) (ho : ∀ x, tx_rd B bn i lo hi = .inl x → o = .inl x) : x4OC bn s D z o := by
  rcases h with ⟨h, -⟩ | ⟨-, c, a, h1, h2, h3⟩
  · omega
  · exact x4oc_f hz (ho _ h1) h2 h3
/-! a setting -/
section
variable {slot what : Nat} {early : Bool} {lo hi : Int} {u : Int × Nat}
theorem x4set_e (h1 : early = true) (h2 : 0 < r 5) : tx_set B n r a what slot early lo hi = .inl (1, a) := by unfold tx_set; rw [if_pos ⟨h1, h2⟩]
theorem x4set_t (h1 : ¬ (early = true ∧ 0 < r 5)) (h2 : r slot = 1) : tx_set B n r a what slot early lo hi = .inl (3, a) := by unfold tx_set; rw [if_neg h1, if_pos h2]
theorem x4set_n (h1 : ¬ (early = true ∧ 0 < r 5)) (h2 : r slot ≠ 1) (h3 : tx_rd B n (tx_e B n a) lo hi = .inl u) : tx_set B n r a what slot early lo hi = .inl u := by unfold tx_set; rw [if_neg h1, if_neg h2, h3]
theorem x4set_y (h1 : ¬ (early = true ∧ 0 < r 5)) (h2 : r slot ≠ 1) (h3 : tx_rd B n (tx_e B n a) lo hi = .inr (v, e)) : tx_set B n r a what slot early lo hi = .inr (tx_up (tx_up r what v) slot 1, e) := by unfold tx_set; rw [if_neg h1, if_neg h2, h3]
theorem x4lock_n (h : tx_rd B n (tx_e B n a) 0 (r 5 - 1) = .inl u) : tx_lock B n r a = .inl u := by unfold tx_lock; rw [h]
theorem x4lock_t (h : tx_rd B n (tx_e B n a) 0 (r 5 - 1) = .inr (v, e)) (h2 : r (29 + 8 * v.toNat) = 1) : tx_lock B n r a = .inl (3, tx_a B n (tx_e B n a)) := by unfold tx_lock; rw [h]; dsimp only; rw [if_pos h2]
theorem x4lock_y (h : tx_rd B n (tx_e B n a) 0 (r 5 - 1) = .inr (v, e)) (h2 : r (29 + 8 * v.toNat) ≠ 1) : tx_lock B n r a = .inr (tx_up r (29 + 8 * v.toNat) 1, e) := by unfold tx_lock; rw [h]; dsimp only; rw [if_neg h2]
section
variable {st sz kd mn : Int} {e1 e2 e3 e4 : Nat}
theorem x4part_0 (h : r 5 = 8) : tx_part B n r a = .inl (5, a) := by unfold tx_part; rw [if_pos h]
theorem x4part_1 (h : r 5 ≠ 8) (h1 : tx_rd B n (tx_e B n a) (r 1) (r 0 - r 2 - 1) = .inl u) : tx_part B n r a = .inl u := by unfold tx_part; rw [if_neg h, h1]
theorem x4part_2 (h : r 5 ≠ 8) (h1 : tx_rd B n (tx_e B n a) (r 1) (r 0 - r 2 - 1) = .inr (st, e1)) (h2 : st % r 3 ≠ 0) : tx_part B n r a = .inl (2, tx_a B n (tx_e B n a)) := by unfold tx_part; rw [if_neg h, h1]; dsimp only; rw [if_pos h2]
theorem x4part_3 (h : r 5 ≠ 8) (h1 : tx_rd B n (tx_e B n a) (r 1) (r 0 - r 2 - 1) = .inr (st, e1)) (h2 : st % r 3 = 0) (h3 : tx_rd B n e1 1 (r 0 - r 2 - st) = .inl u) : tx_part B n r a = .inl u := by unfold tx_part; rw [if_neg h, h1]; dsimp only; rw [if_neg (fun q => q h2), h3]
theorem x4part_4 (h : r 5 ≠ 8) (h1 : tx_rd B n (tx_e B n a) (r 1) (r 0 - r 2 - 1) = .inr (st, e1)) (h2 : st % r 3 = 0) (h3 : tx_rd B n e1 1 (r 0 - r 2 - st) = .inr (sz, e2)) (h4 : tx_meets r st sz = true) : tx_part B n r a = .inl (4, tx_a B n e1) := by unfold tx_part; rw [if_neg h, h1]; dsimp only; rw [if_neg (fun q => q h2), h3]; dsimp only; rw [if_pos h4]
theorem x4part_5 (h : r 5 ≠ 8) (h1 : tx_rd B n (tx_e B n a) (r 1) (r 0 - r 2 - 1) = .inr (st, e1)) (h2 : st % r 3 = 0) (h3 : tx_rd B n e1 1 (r 0 - r 2 - st) = .inr (sz, e2)) (h4 : ¬ tx_meets r st sz = true) (h5 : tx_rd B n e2 0 9 = .inl u) : tx_part B n r a = .inl u := by unfold tx_part; rw [if_neg h, h1]; dsimp only; rw [if_neg (fun q => q h2), h3]; dsimp only; rw [if_neg h4, h5]
theorem x4part_6 (h : r 5 ≠ 8) (h1 : tx_rd B n (tx_e B n a) (r 1) (r 0 - r 2 - 1) = .inr (st, e1)) (h2 : st % r 3 = 0) (h3 : tx_rd B n e1 1 (r 0 - r 2 - st) = .inr (sz, e2)) (h4 : ¬ tx_meets r st sz = true) (h5 : tx_rd B n e2 0 9 = .inr (kd, e3)) (h6 : tx_rd B n e3 1 sz = .inl u) : tx_part B n r a = .inl u := by unfold tx_part; rw [if_neg h, h1]; dsimp only; rw [if_neg (fun q => q h2), h3]; dsimp only; rw [if_neg h4, h5]; dsimp only; rw [h6]
theorem x4part_y (h : r 5 ≠ 8) (h1 : tx_rd B n (tx_e B n a) (r 1) (r 0 - r 2 - 1) = .inr (st, e1)) (h2 : st % r 3 = 0) (h3 : tx_rd B n e1 1 (r 0 - r 2 - st) = .inr (sz, e2)) (h4 : ¬ tx_meets r st sz = true) (h5 : tx_rd B n e2 0 9 = .inr (kd, e3)) (h6 : tx_rd B n e3 1 sz = .inr (mn, e4)) : tx_part B n r a = .inr (tx_mk r st sz kd mn, e4) := by unfold tx_part; rw [if_neg h, h1]; dsimp only; rw [if_neg (fun q => q h2), h3]; dsimp only; rw [if_neg h4, h5]; dsimp only; rw [h6]
end
end
/-! a statement: its word -/
theorem x4isw_0 {c : Char} {w : List Char} (h : tx_isw B n a (c :: w) = true) : B a = (c.toNat : Int) := (x4isw_iff.mp h).2.2 0 (Nat.zero_lt_succ _)
theorem x4isw_x {c c2 : Char} {w w2 : List Char} (h : tx_isw B n a (c :: w) = true) (hc : c.toNat ≠ c2.toNat) : ¬ tx_isw B n a (c2 :: w2) = true := fun q => by
  have h1 := x4isw_0 h
  have h2 := x4isw_0 q
  omega
theorem x4stm_head (h : tx_isw B n a ['h', 'e', 'a', 'd'] = true) : tx_stmt B n r a = tx_set B n r a 1 101 true 0 31 := by unfold tx_stmt; rw [if_pos h]
theorem x4stm_tail (h : tx_isw B n a ['t', 'a', 'i', 'l'] = true) : tx_stmt B n r a = tx_set B n r a 2 102 true 0 31 := by unfold tx_stmt; rw [if_neg (x4isw_x h (by decide)), if_pos h]
theorem x4stm_align (h : tx_isw B n a ['a', 'l', 'i', 'g', 'n'] = true) : tx_stmt B n r a = tx_set B n r a 3 103 true 1 32 := by unfold tx_stmt; rw [if_neg (x4isw_x h (by decide)), if_neg (x4isw_x h (by decide)), if_pos h]
theorem x4stm_chunk (h : tx_isw B n a ['c', 'h', 'u', 'n', 'k'] = true) : tx_stmt B n r a = tx_set B n r a 4 104 false 1 16 := by unfold tx_stmt; rw [if_neg (x4isw_x h (by decide)), if_neg (x4isw_x h (by decide)), if_neg (x4isw_x h (by decide)), if_pos h]
theorem x4stm_part (h : tx_isw B n a ['p', 'a', 'r', 't'] = true) : tx_stmt B n r a = tx_part B n r a := by unfold tx_stmt; rw [if_neg (x4isw_x h (by decide)), if_neg (x4isw_x h (by decide)), if_neg (x4isw_x h (by decide)), if_neg (x4isw_x h (by decide)), if_pos h]
theorem x4stm_lock (h : tx_isw B n a ['l', 'o', 'c', 'k'] = true) : tx_stmt B n r a = tx_lock B n r a := by unfold tx_stmt; rw [if_neg (x4isw_x h (by decide)), if_neg (x4isw_x h (by decide)), if_neg (x4isw_x h (by decide)), if_neg (x4isw_x h (by decide)), if_neg (x4isw_x h (by decide)), if_pos h]
theorem x4stm_no (h1 : ¬ tx_isw B n a ['h', 'e', 'a', 'd'] = true) (h2 : ¬ tx_isw B n a ['t', 'a', 'i', 'l'] = true) (h3 : ¬ tx_isw B n a ['a', 'l', 'i', 'g', 'n'] = true) (h4 : ¬ tx_isw B n a ['c', 'h', 'u', 'n', 'k'] = true) (h5 : ¬ tx_isw B n a ['p', 'a', 'r', 't'] = true) (h6 : ¬ tx_isw B n a ['l', 'o', 'c', 'k'] = true) : tx_stmt B n r a = .inl (1, a) := by unfold tx_stmt; rw [if_neg h1, if_neg h2, if_neg h3, if_neg h4, if_neg h5, if_neg h6]
/-- a piece, then its semicolon -/
theorem x4ps_n {o : Sum (Int × Nat) ((Nat → Int) × Nat)} {z2 : Int} (h : x4OC bn s D z o) (hz : z = 0) (hz2 : z2 = 0) : x4OC bn s D z2 (tx_ps B bn o) := by
  rcases h with ⟨q, -⟩ | ⟨-, c, a, h1, h2, h3⟩
  · omega
  · rw [h1]; exact x4oc_f hz2 rfl h2 h3
theorem x4ps_f {o : Sum (Int × Nat) ((Nat → Int) × Nat)} {w : Int} (ho : o = .inr (r, e)) (h : x4SEM B bn t s w e) (hw : w = 0) (hz : z = 0) : x4OC bn s D z (tx_ps B bn o) := by
  rcases h with ⟨q, -⟩ | ⟨-, c, a, h1, h2, h3⟩
  · omega
  · refine x4oc_f (c := c) (a := a) hz ?_ h2 h3
    rw [ho]
    unfold tx_ps
    dsimp only
    rw [h1]
theorem x4ps_y {o : Sum (Int × Nat) ((Nat → Int) × Nat)} {w : Int} (ho : o = .inr (r, e)) (hA : x4AR r t D) (h : x4SEM B bn t s w e) (hw : w ≠ 0) (hz : z = 1) (hd : ∀ j : Nat, j < 13 → s (D + j) = t (D + j)) (h5 : ra_g s 175 8 = ra_g t 175 8 ∧ ra_g s 175 9 = ra_g t 175 9 ∧ ra_g s 175 10 = ra_g t 175 10 ∧ ra_g s 175 11 = ra_g t 175 11) : x4OC bn s D z (tx_ps B bn o) := by
  rcases h with ⟨-, e2, h1, h2, h3, h4, h6⟩ | ⟨q, -⟩
  · refine x4oc_y (r := r) (e := e2) hz ?_ (x4AR_k hd ⟨h4, h6, h5⟩ hA) h2 h3
    rw [ho]
    unfold tx_ps
    dsimp only
    rw [h1]
  · omega
/-! a setting ahead of all partitions -/
section
variable {v2 v3 lo hi : Int} {u : Int × Nat}
def x4LYW (B : Nat → Int) (n a : Nat) (v2 v3 : Int) : Prop := (v2 = 1 ∧ tx_isw B n a ['h', 'e', 'a', 'd'] = true) ∨ (v2 = 0 ∧ v3 = 1 ∧ tx_isw B n a ['t', 'a', 'i', 'l'] = true) ∨ (v2 = 0 ∧ v3 = 0 ∧ tx_isw B n a ['a', 'l', 'i', 'g', 'n'] = true)
def x4LNT (r : Nat → Int) (v2 v3 : Int) : Prop := (v2 = 1 → r 101 ≠ 1) ∧ (v2 = 0 → v3 = 1 → r 102 ≠ 1) ∧ (v2 = 0 → v3 = 0 → r 103 ≠ 1)
theorem x4lay_1 (hn : ¬ tx_isw B n a ['p', 'a', 'r', 't'] = true ∧ ¬ tx_isw B n a ['l', 'o', 'c', 'k'] = true ∧ ¬ tx_isw B n a ['c', 'h', 'u', 'n', 'k'] = true) (h : (¬ tx_isw B n a ['h', 'e', 'a', 'd'] = true ∧ ¬ tx_isw B n a ['t', 'a', 'i', 'l'] = true ∧ ¬ tx_isw B n a ['a', 'l', 'i', 'g', 'n'] = true) ∨ 0 < r 5) : tx_stmt B n r a = .inl (1, a) := by
  by_cases h1 : tx_isw B n a ['h', 'e', 'a', 'd'] = true
  · rw [x4stm_head h1]
    exact x4set_e rfl (h.resolve_left (fun q => q.1 h1))
  · by_cases h2 : tx_isw B n a ['t', 'a', 'i', 'l'] = true
    · rw [x4stm_tail h2]
      exact x4set_e rfl (h.resolve_left (fun q => q.2.1 h2))
    · by_cases h3 : tx_isw B n a ['a', 'l', 'i', 'g', 'n'] = true
      · rw [x4stm_align h3]
        exact x4set_e rfl (h.resolve_left (fun q => q.2.2 h3))
      · exact x4stm_no h1 h2 h3 hn.2.2 hn.1 hn.2.1
theorem x4lay_3 (hw : x4LYW B n a v2 v3) (h5 : r 5 ≤ 0) (ht : (v2 = 1 ∧ r 101 = 1) ∨ (v2 = 0 ∧ v3 = 1 ∧ r 102 = 1) ∨ (v2 = 0 ∧ v3 = 0 ∧ r 103 = 1)) : tx_stmt B n r a = .inl (3, a) := by
  rcases hw with ⟨q, h⟩ | ⟨q, q2, h⟩ | ⟨q, q2, h⟩
  · rw [x4stm_head h]; exact x4set_t (fun z => absurd z.2 (by omega)) (by omega)
  · rw [x4stm_tail h]; exact x4set_t (fun z => absurd z.2 (by omega)) (by omega)
  · rw [x4stm_align h]; exact x4set_t (fun z => absurd z.2 (by omega)) (by omega)
theorem x4lay_n1 (hw : x4LYW B n a v2 v3) (h5 : r 5 ≤ 0) (hnt0 : x4LNT r v2 v3) (hv : v2 = 1 ∨ v3 = 1) (hx : tx_rd B n (tx_e B n a) 0 31 = .inl u) : tx_stmt B n r a = .inl u := by
  have hnt : (v2 = 1 → r 101 ≠ 1) ∧ (v2 = 0 → v3 = 1 → r 102 ≠ 1) ∧ (v2 = 0 → v3 = 0 → r 103 ≠ 1) := hnt0
  rcases hw with ⟨q, h⟩ | ⟨q, q2, h⟩ | ⟨q, q2, h⟩
  · rw [x4stm_head h]; exact x4set_n (fun z => absurd z.2 (by omega)) (by omega) hx
  · rw [x4stm_tail h]; exact x4set_n (fun z => absurd z.2 (by omega)) (by omega) hx
  · omega
theorem x4lay_n2 (hw : x4LYW B n a v2 v3) (h5 : r 5 ≤ 0) (hnt0 : x4LNT r v2 v3) (hv : v2 = 0) (hv3 : v3 = 0) (hx : tx_rd B n (tx_e B n a) 1 32 = .inl u) : tx_stmt B n r a = .inl u := by
  have hnt : (v2 = 1 → r 101 ≠ 1) ∧ (v2 = 0 → v3 = 1 → r 102 ≠ 1) ∧ (v2 = 0 → v3 = 0 → r 103 ≠ 1) := hnt0
  rcases hw with ⟨q, h⟩ | ⟨q, q2, h⟩ | ⟨q, q2, h⟩
  · omega
  · omega
  · rw [x4stm_align h]; exact x4set_n (fun z => absurd z.2 (by omega)) (by omega) hx
theorem x4lay_y1 (hw : x4LYW B n a v2 v3) (h5 : r 5 ≤ 0) (hnt0 : x4LNT r v2 v3) (hv : v2 = 1) (hx : tx_rd B n (tx_e B n a) 0 31 = .inr (v, e)) : tx_stmt B n r a = .inr (tx_up (tx_up r 1 v) (100 + 1) 1, e) := by
  have hnt : (v2 = 1 → r 101 ≠ 1) ∧ (v2 = 0 → v3 = 1 → r 102 ≠ 1) ∧ (v2 = 0 → v3 = 0 → r 103 ≠ 1) := hnt0
  rcases hw with ⟨q, h⟩ | ⟨q, q2, h⟩ | ⟨q, q2, h⟩
  · rw [x4stm_head h]; exact x4set_y (fun z => absurd z.2 (by omega)) (by omega) hx
  · omega
  · omega
theorem x4lay_y2 (hw : x4LYW B n a v2 v3) (h5 : r 5 ≤ 0) (hnt0 : x4LNT r v2 v3) (hv : v2 = 0) (hv3 : v3 = 1) (hx : tx_rd B n (tx_e B n a) 0 31 = .inr (v, e)) : tx_stmt B n r a = .inr (tx_up (tx_up r 2 v) (100 + 2) 1, e) := by
  have hnt : (v2 = 1 → r 101 ≠ 1) ∧ (v2 = 0 → v3 = 1 → r 102 ≠ 1) ∧ (v2 = 0 → v3 = 0 → r 103 ≠ 1) := hnt0
  rcases hw with ⟨q, h⟩ | ⟨q, q2, h⟩ | ⟨q, q2, h⟩
  · omega
  · rw [x4stm_tail h]; exact x4set_y (fun z => absurd z.2 (by omega)) (by omega) hx
  · omega
theorem x4lay_y3 (hw : x4LYW B n a v2 v3) (h5 : r 5 ≤ 0) (hnt0 : x4LNT r v2 v3) (hv : v2 = 0) (hv3 : v3 = 0) (hx : tx_rd B n (tx_e B n a) 1 32 = .inr (v, e)) : tx_stmt B n r a = .inr (tx_up (tx_up r 3 v) (100 + 3) 1, e) := by
  have hnt : (v2 = 1 → r 101 ≠ 1) ∧ (v2 = 0 → v3 = 1 → r 102 ≠ 1) ∧ (v2 = 0 → v3 = 0 → r 103 ≠ 1) := hnt0
  rcases hw with ⟨q, h⟩ | ⟨q, q2, h⟩ | ⟨q, q2, h⟩
  · omega
  · omega
  · rw [x4stm_align h]; exact x4set_y (fun z => absurd z.2 (by omega)) (by omega) hx
end
/-! the whole text -/
def x4PO (s : ra_V) (D : Nat) (z : Int) (o : Sum (Int × Nat) (Nat → Int)) : Prop :=
  (z = 1 ∧ ∃ r : Nat → Int, o = .inr r ∧ x4AR r s D) ∨ (z = 0 ∧ ∃ (c : Int) (a : Nat), o = .inl (c, a) ∧ ra_g s 175 2 = c ∧ ra_g s 175 3 = (a : Nat))
def x4LI (B : Nat → Int) (bn : Nat) (s : ra_V) (D : Nat) (z k : Int) : Prop :=
  (z = 1 ∧ ∃ (r : Nat → Int) (e : Nat), tx_text B bn = tx_run B bn (500 - k).toNat r e ∧ x4AR r s D ∧ ra_g s 175 4 = (e : Nat) ∧ e ≤ bn) ∨ (z = 0 ∧ ∃ (c : Int) (a : Nat), tx_text B bn = .inl (c, a) ∧ ra_g s 175 2 = c ∧ ra_g s 175 3 = (a : Nat))
section
variable {o : Sum (Int × Nat) (Nat → Int)} {c : Int} {u : Int × Nat}
theorem x4po_f (hz : z = 0) (ho : o = .inl (c, a)) (h2 : ra_g s 175 2 = c) (h3 : ra_g s 175 3 = (a : Nat)) : x4PO s D z o := Or.inr ⟨hz, c, a, ho, h2, h3⟩
theorem x4po_rd {w lo hi : Int} (h : x4NUM B bn σ s w i lo hi) (hw : w = 0) (hz : z = 0) (ho : ∀ x, tx_rd B bn i lo hi = .inl x → o = .inl x) : x4PO s D z o := by
  rcases h with ⟨h, -⟩ | ⟨-, c, a, h1, h2, h3⟩
  · omega
  · exact x4po_f hz (ho _ h1) h2 h3
theorem x4text_1 (h : ¬ tx_isw B bn (tx_a B bn 0) ['d', 'i', 's', 'k'] = true) : tx_text B bn = .inl (1, tx_a B bn 0) := by unfold tx_text; rw [if_neg h]
theorem x4text_2 (h : tx_isw B bn (tx_a B bn 0) ['d', 'i', 's', 'k'] = true) (h1 : tx_rd B bn (tx_e B bn (tx_a B bn 0)) 64 600 = .inl u) : tx_text B bn = .inl u := by unfold tx_text; rw [if_pos h, h1]
theorem x4text_3 (h : tx_isw B bn (tx_a B bn 0) ['d', 'i', 's', 'k'] = true) (h1 : tx_rd B bn (tx_e B bn (tx_a B bn 0)) 64 600 = .inr (v, e)) (h2 : tx_semi B bn e = .inl u) : tx_text B bn = .inl u := by unfold tx_text; rw [if_pos h, h1]; dsimp only; rw [h2]
theorem x4text_4 (h : tx_isw B bn (tx_a B bn 0) ['d', 'i', 's', 'k'] = true) (h1 : tx_rd B bn (tx_e B bn (tx_a B bn 0)) 64 600 = .inr (v, e)) (h2 : tx_semi B bn e = .inr i) : tx_text B bn = tx_run B bn 500 (tx_r0 v) i := by unfold tx_text; rw [if_pos h, h1]; dsimp only; rw [h2]
theorem x4run_e (h : tx_k B bn (tx_a B bn i) = 0) : tx_run B bn k r i = .inr r := by
  cases k with
  | zero => rfl
  | succ k =>
    show (if tx_k B bn (tx_a B bn i) = 0 then _ else _) = _
    rw [if_pos h]
theorem x4run_n (h : tx_k B bn (tx_a B bn i) ≠ 0) (h2 : tx_ps B bn (tx_stmt B bn r (tx_a B bn i)) = .inl u) : tx_run B bn (k + 1) r i = .inl u := by
  show (if tx_k B bn (tx_a B bn i) = 0 then _ else _) = _
  rw [if_neg h, h2]
theorem x4run_y {r2 : Nat → Int} (h : tx_k B bn (tx_a B bn i) ≠ 0) (h2 : tx_ps B bn (tx_stmt B bn r (tx_a B bn i)) = .inr (r2, e)) : tx_run B bn (k + 1) r i = tx_run B bn k r2 e := by
  show (if tx_k B bn (tx_a B bn i) = 0 then _ else _) = _
  rw [if_neg h, h2]
theorem x4po_e {j : Int} (ht : tx_text B bn = tx_run B bn j.toNat r i) (hA : x4AR r s D) (hz : z = 1) (hN : tx_k B bn (tx_a B bn i) = 0) : x4PO s D z (tx_text B bn) := Or.inl ⟨hz, r, ht.trans (x4run_e hN), hA⟩
theorem x4po_l {j : Int} (h : x4LI B bn s D z j) (hj : z = 0 ∨ 500 ≤ j) : x4PO s D z (tx_text B bn) := by
  rcases h with ⟨q, r, e, h1, h2, h3, h4⟩ | h
  · refine Or.inl ⟨q, r, ?_, h2⟩
    rw [h1, show (500 - j).toNat = 0 by omega]
    rfl
  · exact Or.inr h
theorem x4li_0 {w : Int} (h : tx_isw B bn (tx_a B bn 0) ['d', 'i', 's', 'k'] = true) (h1 : tx_rd B bn (tx_e B bn (tx_a B bn 0)) 64 600 = .inr (v, e)) (hA : x4AR (tx_r0 v) t D) (hs : x4SEM B bn t s w e) (hd : ∀ j : Nat, j < 13 → s (D + j) = t (D + j)) (h5 : ra_g s 175 8 = ra_g t 175 8 ∧ ra_g s 175 9 = ra_g t 175 9 ∧ ra_g s 175 10 = ra_g t 175 10 ∧ ra_g s 175 11 = ra_g t 175 11) : x4LI B bn s D w 0 := by
  rcases hs with ⟨q, e2, s1, s2, s3, s4, s5⟩ | ⟨q, c, a, s1, s2, s3⟩
  · exact Or.inl ⟨q, tx_r0 v, e2, x4text_4 h h1 s1, x4AR_k hd ⟨s4, s5, h5⟩ hA, s2, s3⟩
  · exact Or.inr ⟨q, c, a, x4text_3 h h1 s1, s2, s3⟩
theorem x4li_s {w j : Int} (h : x4OC bn s D w (tx_ps B bn (tx_stmt B bn r (tx_a B bn i)))) (ht : tx_text B bn = tx_run B bn (500 - j).toNat r i) (hj : j < 500) (hk : tx_k B bn (tx_a B bn i) ≠ 0) : x4LI B bn s D w (j + 1) := by
  have e1 : (500 - j).toNat = (500 - (j + 1)).toNat + 1 := by omega
  rw [e1] at ht
  rcases h with ⟨q, r2, e2, h1, h2, h3, h4⟩ | ⟨q, c, a, h1, h2, h3⟩
  · exact Or.inl ⟨q, r2, e2, ht.trans (x4run_y hk h1), h2, h3, h4⟩
  · exact Or.inr ⟨q, c, a, ht.trans (x4run_n hk h1), h2, h3⟩
theorem x4AR_0 (hv : 64 ≤ v ∧ v ≤ 600) (h1 : ra_g s D 4 = v ∧ ra_g s D 5 = 0 ∧ ra_g s D 6 = 0 ∧ ra_g s D 7 = 1 ∧ ra_g s D 8 = 4) (hz : ∀ p : Nat, p < 8 → ra_g s (D + 5 + p) 2 = 0) (h5 : ra_g s 175 2 = 0 ∧ ra_g s 175 3 = -1 ∧ ra_g s 175 8 = 0 ∧ ra_g s 175 9 = 0 ∧ ra_g s 175 10 = 0 ∧ ra_g s 175 11 = 0) : x4AR (tx_r0 v) s D := by
  have f : ∀ j : Nat, j ≠ 0 → j ≠ 3 → j ≠ 4 → tx_r0 v j = 0 := fun j a b c => by unfold tx_r0; rw [if_neg a, if_neg b, if_neg c]
  have e0 : tx_r0 v 0 = v := rfl
  have e3 : tx_r0 v 3 = 1 := rfl
  have e4 : tx_r0 v 4 = 4 := rfl
  have e1 := f 1 (by decide) (by decide) (by decide)
  have e2 := f 2 (by decide) (by decide) (by decide)
  have e5 := f 5 (by decide) (by decide) (by decide)
  have e101 := f 101 (by decide) (by decide) (by decide)
  have e102 := f 102 (by decide) (by decide) (by decide)
  have e103 := f 103 (by decide) (by decide) (by decide)
  have e104 := f 104 (by decide) (by decide) (by decide)
  refine ⟨by omega, by omega, by omega, by omega, by omega, ⟨by omega, fun p hp => ?_⟩, fun p hp hq => ?_⟩
  · rw [hz p hp, e5]; omega
  · rw [e5] at hq; omega
theorem x4sz_cp {q q2 : ra_V} (hA : x4AR r σ 14) (h1 : ∀ p : Nat, p < 8 → ra_g s (1 + 5 + p) 2 = ra_g q (1 + 5 + p) 2) (h2 : ∀ p : Nat, p < 8 → ra_g q (1 + 5 + p) 2 = ra_g q2 (14 + 5 + p) 2) (h3 : ∀ p : Nat, p < 8 → ra_g q2 (14 + 5 + p) 2 = ra_g σ (14 + 5 + p) 2) : x4SZ s 1 (r 5) := by
  obtain ⟨-, -, -, -, -, hz, -⟩ := hA
  refine ⟨hz.1, fun p hp => ?_⟩
  rw [h1 p hp, h2 p hp, h3 p hp]
  exact hz.2 p hp
theorem x4po_2 (h : x4PO s D z o) : ra_g s 175 2 = tx_err o := by
  rcases h with ⟨-, r, h1, h2⟩ | ⟨-, c, a, h1, h2, h3⟩
  · rw [h1]; exact h2.2.2.2.2.1.1
  · rw [h1]; exact h2
theorem x4po_3 (h : x4PO s D z o) : ra_g s 175 3 = tx_off o := by
  rcases h with ⟨-, r, h1, h2⟩ | ⟨-, c, a, h1, h2, h3⟩
  · rw [h1]; exact h2.2.2.2.2.1.2
  · rw [h1]; exact h3
theorem x4po_n (h : x4PO s D z o) (hz : z = 0) : -1 = tx_ans o := by
  rcases h with ⟨q, -⟩ | ⟨-, c, a, h1, -⟩
  · omega
  · rw [h1]; rfl
theorem x4po_y (h : o = .inr r) : r 5 = tx_ans o := by rw [h]; rfl
end
end
end
