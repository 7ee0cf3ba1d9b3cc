/-! T5: the class's disk that a text is read into, all of its numbers -/
section
section
variable {σ s t τ υ : ra_V} {B : Nat → Int} {bn n a i k D p e : Nat} {pk x y v z : Int} {r r2 : Nat → Int} {o : Sum (Int × Nat) (Nat → Int)} {c : Int} {u : Int × Nat}
def x5AX (r : Nat → Int) (σ : ra_V) (D : Nat) : Prop :=
  (ra_g σ D 9 = r 5 ∧ ra_g σ D 10 = 0 ∧ ra_g σ D 11 = 0 ∧ ra_g σ D 12 = 0 ∧ ra_g σ (D + 3) 0 = -1) ∧ (r 6 = 0 ∧ r 7 = 0 ∧ r 8 = 0) ∧
  ∀ p : Nat, p < 8 → 0 ≤ ra_g σ (D + 5 + p) 2 ∧ (r 5 ≤ (p : Int) → r (24 + 8 * p) = 0) ∧ ((p : Int) < r 5 → r (24 + 8 * p) = 1 ∧ ra_g σ (D + 5 + p) 3 = r (27 + 8 * p) ∧ ra_g σ (D + 5 + p) 4 = r (28 + 8 * p) ∧ ra_g σ (D + 5 + p) 6 = r (30 + 8 * p) ∧ ra_g σ (D + 5 + p) 7 = r (31 + 8 * p))
theorem x5AX_w (h : x5AX r σ D) (e0 : ∀ j : Nat, 9 ≤ j → j ≤ 12 → ra_g s D j = ra_g σ D j) (e3 : s (D + 3) = σ (D + 3)) (ep : ∀ p : Nat, p < 8 → ∀ j : Nat, j ≠ 5 → ra_g s (D + 5 + p) j = ra_g σ (D + 5 + p) j) (er : ∀ j : Nat, 5 ≤ j → j < 88 → (∀ p : Nat, j ≠ 29 + 8 * p) → r2 j = r j) : x5AX r2 s D := by
  obtain ⟨⟨a1, a2, a3, a4, a5⟩, ⟨b1, b2, b3⟩, hp⟩ := h
  have r5 := er 5 (by omega) (by omega) (fun p => by omega)
  refine ⟨⟨?_, ?_, ?_, ?_, ?_⟩, ⟨?_, ?_, ?_⟩, fun p p8 => ?_⟩
  · rw [e0 9 (by omega) (by omega), r5]; exact a1
  · rw [e0 10 (by omega) (by omega)]; exact a2
  · rw [e0 11 (by omega) (by omega)]; exact a3
  · rw [e0 12 (by omega) (by omega)]; exact a4
  · rw [ra_gk e3]; exact a5
  · rw [er 6 (by omega) (by omega) (fun p => by omega)]; exact b1
  · rw [er 7 (by omega) (by omega) (fun p => by omega)]; exact b2
  · rw [er 8 (by omega) (by omega) (fun p => by omega)]; exact b3
  · rw [r5, ep p p8 2 (by omega), ep p p8 3 (by omega), ep p p8 4 (by omega), ep p p8 6 (by omega), ep p p8 7 (by omega), er (24 + 8 * p) (by omega) (by omega) (fun q => by omega), er (27 + 8 * p) (by omega) (by omega) (fun q => by omega), er (28 + 8 * p) (by omega) (by omega) (fun q => by omega), er (30 + 8 * p) (by omega) (by omega) (fun q => by omega), er (31 + 8 * p) (by omega) (by omega) (fun q => by omega)]
    exact hp p p8
def x5A6 (r : Nat → Int) (σ : ra_V) (D : Nat) : Prop := x4AR r σ D ∧ x5AX r σ D
theorem x5A6_bd (h : x5A6 r σ D) : x4BD σ D := x4AR_bd h.1
theorem x5A6_mt (h : x5A6 r σ D) : (∃ p : Int, 0 ≤ p ∧ p < 8 ∧ x4MT σ D x y p.toNat) ↔ tx_meets r x y = true := x4AR_mt h.1
theorem x5A6_k (h1 : ∀ j : Nat, j < 13 → s (D + j) = σ (D + j)) (h2 : ra_g s 175 2 = ra_g σ 175 2 ∧ ra_g s 175 3 = ra_g σ 175 3 ∧ ra_g s 175 8 = ra_g σ 175 8 ∧ ra_g s 175 9 = ra_g σ 175 9 ∧ ra_g s 175 10 = ra_g σ 175 10 ∧ ra_g s 175 11 = ra_g σ 175 11) (h : x5A6 r σ D) : x5A6 r s D :=
  ⟨x4AR_k h1 h2 h.1, x5AX_w h.2 (fun j _ _ => ra_gk (h1 0 (by omega))) (h1 3 (by omega)) (fun p hp j _ => ra_gk (by rw [Nat.add_assoc]; exact h1 (5 + p) (by omega))) (fun _ _ _ _ => rfl)⟩
theorem x5A6_set {w : Nat} (hw : 1 ≤ w ∧ w ≤ 4) (h : x5A6 r σ D) (hr : (w = 1 ∨ w = 2 → 0 ≤ v ∧ v ≤ 31) ∧ (w = 3 → 1 ≤ v ∧ v ≤ 32)) (hs : ∀ j : Nat, 4 ≤ j → j ≤ 12 → j ≠ 4 + w → ra_g s D j = ra_g σ D j) (hv : ra_g s D (4 + w) = v)
    (ht : ra_g s 175 (7 + w) = 1) (ho : ∀ j : Nat, 8 ≤ j → j ≤ 11 → j ≠ 7 + w → ra_g s 175 j = ra_g σ 175 j) (he : ra_g s 175 2 = ra_g σ 175 2 ∧ ra_g s 175 3 = ra_g σ 175 3) (hp : ∀ p : Nat, p < 8 → s (D + 5 + p) = σ (D + 5 + p)) (h3 : s (D + 3) = σ (D + 3)) : x5A6 (tx_up (tx_up r w v) (100 + w) 1) s D :=
  ⟨x4AR_set hw h.1 hr (fun j j1 j2 j3 => hs j j1 (by omega) j3) hv ht ho he hp, x5AX_w h.2 (fun j j1 j2 => hs j (by omega) j2 (by omega)) h3 (fun p hp0 j _ => ra_gk (hp p hp0)) (fun j j1 j2 _ => by rw [x4up_n (by omega), x4up_n (by omega)])⟩
theorem x5A6_lock {j : Nat} (hj : j < 8) (hv : (j : Int) < r 5) (h : x5A6 r σ D) (h0 : s D = σ D) (ho : ∀ p : Nat, p < 8 → p ≠ j → s (D + 5 + p) = σ (D + 5 + p)) (hl : ra_g s (D + 5 + j) 5 = 1) (hk : ∀ i : Nat, i ≠ 5 → ra_g s (D + 5 + j) i = ra_g σ (D + 5 + j) i) (h3 : s (D + 3) = σ (D + 3))
    (he : ra_g s 175 2 = ra_g σ 175 2 ∧ ra_g s 175 3 = ra_g σ 175 3 ∧ ra_g s 175 8 = ra_g σ 175 8 ∧ ra_g s 175 9 = ra_g σ 175 9 ∧ ra_g s 175 10 = ra_g σ 175 10 ∧ ra_g s 175 11 = ra_g σ 175 11) : x5A6 (tx_up r (29 + 8 * j) 1) s D :=
  ⟨x4AR_lock hj hv h.1 h0 ho hl ⟨hk 1 (by omega), hk 2 (by omega)⟩ he, x5AX_w h.2 (fun _ _ _ => ra_gk h0) h3 (fun p hp i hi => by
    by_cases c : p = j
    · subst c; exact hk i hi
    · exact ra_gk (ho p hp c)) (fun i _ _ hi => x4up_n (hi j))⟩
/-- a partition made -/
def x5MK6 (σ s : ra_V) (D : Nat) (k : Nat) (x y kd mn : Int) : Prop := x4MKC σ s D k x y ∧ (ra_g s D 9 = ra_w (ra_g σ D 9 + 1) ∧ (∀ j : Nat, 10 ≤ j → j ≤ 12 → ra_g s D j = ra_g σ D j) ∧ s (D + 3) = σ (D + 3)) ∧ ra_g s (D + 5 + k) 3 = mn ∧ ra_g s (D + 5 + k) 4 = kd ∧ ra_g s (D + 5 + k) 6 = ra_g σ D 9 ∧ ra_g s (D + 5 + k) 7 = 0
theorem x5A6_mk {st sz kd mn : Int} (h : x5A6 r σ D) (h8 : r 5 ≠ 8) (hm : x5MK6 σ s D (r 5).toNat st sz kd mn) (hst : 0 ≤ st ∧ 1 ≤ sz ∧ st + sz ≤ 600) (h175 : s 175 = σ 175) : x5A6 (tx_mk r st sz kd mn) s D := by
  obtain ⟨hm1, ⟨m1, m2, m3⟩, m4, m5, m6, m7⟩ := hm
  obtain ⟨h1, ⟨⟨a1, a2, a3, a4, a5⟩, ⟨b1, b2, b3⟩, hp⟩⟩ := h
  refine ⟨x4AR_mk h1 h8 hm1 hst h175, ?_⟩
  have b5 := h1.2.1.2.2.2.2
  have f : ∀ j : Nat, (6 ≤ j ∧ j < 24) → tx_mk r st sz kd mn j = r j := fun j hj => by
    unfold tx_mk
    rw [if_neg (by omega), if_neg (by omega), if_neg (by omega), if_neg (by omega), if_neg (by omega), if_neg (by omega), if_neg (by omega), if_neg (by omega), if_neg (by omega)]
  have f5 : tx_mk r st sz kd mn 5 = r 5 + 1 := by unfold tx_mk; rw [if_pos rfl]
  have w9 : ra_w (ra_g σ D 9 + 1) = ra_g σ D 9 + 1 := ra_w_id (by unfold ra_in; omega)
  have n10 := m2 10 (by omega) (by omega)
  have n11 := m2 11 (by omega) (by omega)
  have n12 := m2 12 (by omega) (by omega)
  refine ⟨⟨by omega, by omega, by omega, by omega, (ra_gk m3).trans a5⟩, ⟨?_, ?_, ?_⟩, fun p p8 => ?_⟩
  · rw [f 6 (by omega)]; exact b1
  · rw [f 7 (by omega)]; exact b2
  · rw [f 8 (by omega)]; exact b3
  · rw [f5]
    by_cases c : p = (r 5).toNat
    · subst c
      have g0 : tx_mk r st sz kd mn (24 + 8 * (r 5).toNat) = 1 := by unfold tx_mk; rw [if_neg (by omega), if_pos rfl]
      have g3 : tx_mk r st sz kd mn (27 + 8 * (r 5).toNat) = mn := by unfold tx_mk; rw [if_neg (by omega), if_neg (by omega), if_neg (by omega), if_neg (by omega), if_pos rfl]
      have g4 : tx_mk r st sz kd mn (28 + 8 * (r 5).toNat) = kd := by unfold tx_mk; rw [if_neg (by omega), if_neg (by omega), if_neg (by omega), if_neg (by omega), if_neg (by omega), if_pos rfl]
      have g6 : tx_mk r st sz kd mn (30 + 8 * (r 5).toNat) = r 5 := by unfold tx_mk; rw [if_neg (by omega), if_neg (by omega), if_neg (by omega), if_neg (by omega), if_neg (by omega), if_neg (by omega), if_neg (by omega), if_pos rfl]
      have g7 : tx_mk r st sz kd mn (31 + 8 * (r 5).toNat) = 0 := by unfold tx_mk; rw [if_neg (by omega), if_neg (by omega), if_neg (by omega), if_neg (by omega), if_neg (by omega), if_neg (by omega), if_neg (by omega), if_neg (by omega), if_pos rfl]
      have y2 := hm1.2.2.2.1
      rw [g0, g3, g4, g6, g7]
      exact ⟨by omega, fun q => by omega, fun _ => ⟨rfl, m4, m5, m6.trans a1, m7⟩⟩
    · have g : ∀ w : Nat, w < 8 → tx_mk r st sz kd mn (24 + w + 8 * p) = r (24 + w + 8 * p) := fun w hw => by
        unfold tx_mk
        rw [if_neg (by omega), if_neg (by omega), if_neg (by omega), if_neg (by omega), if_neg (by omega), if_neg (by omega), if_neg (by omega), if_neg (by omega), if_neg (by omega)]
      have g0 : tx_mk r st sz kd mn (24 + 8 * p) = r (24 + 8 * p) := g 0 (by omega)
      have g3 : tx_mk r st sz kd mn (27 + 8 * p) = r (27 + 8 * p) := g 3 (by omega)
      have g4 : tx_mk r st sz kd mn (28 + 8 * p) = r (28 + 8 * p) := g 4 (by omega)
      have g6 : tx_mk r st sz kd mn (30 + 8 * p) = r (30 + 8 * p) := g 6 (by omega)
      have g7 : tx_mk r st sz kd mn (31 + 8 * p) = r (31 + 8 * p) := g 7 (by omega)
      have o := hm1.2.1 p p8 c
      obtain ⟨q1, q2, q3⟩ := hp p p8
      rw [g0, g3, g4, g6, g7, ra_gk o, ra_gk o, ra_gk o, ra_gk o, ra_gk o]
      exact ⟨q1, fun q => q2 (by omega), fun q => q3 (by omega)⟩
theorem x5A6_0 (hv : 64 ≤ v ∧ v ≤ 600) (h1 : (ra_g s D 4 = v ∧ ra_g s D 5 = 0 ∧ ra_g s D 6 = 0 ∧ ra_g s D 7 = 1 ∧ ra_g s D 8 = 4) ∧ ra_g s D 9 = 0 ∧ ra_g s D 10 = 0 ∧ ra_g s D 11 = 0 ∧ ra_g s D 12 = 0 ∧ ra_g s (D + 3) 0 = -1) (hz : ∀ p : Nat, p < 8 → ra_g s (D + 5 + p) 2 = 0) (h5 : ra_g s 175 2 = 0 ∧ ra_g s 175 3 = -1 ∧ ra_g s 175 8 = 0 ∧ ra_g s 175 9 = 0 ∧ ra_g s 175 10 = 0 ∧ ra_g s 175 11 = 0) : x5A6 (tx_r0 v) s D := by
  have f : ∀ j : Nat, j ≠ 0 → j ≠ 3 → j ≠ 4 → tx_r0 v j = 0 := fun j a b c => by unfold tx_r0; rw [if_neg a, if_neg b, if_neg c]
  have e5 := f 5 (by decide) (by decide) (by decide)
  obtain ⟨h1, k1, k2, k3, k4, k5⟩ := h1
  refine ⟨x4AR_0 hv h1 hz h5, ⟨by rw [e5]; exact k1, k2, k3, k4, k5⟩, ⟨f 6 (by omega) (by omega) (by omega), f 7 (by omega) (by omega) (by omega), f 8 (by omega) (by omega) (by omega)⟩, fun p p8 => ⟨by rw [hz p p8]; omega, fun _ => f _ (by omega) (by omega) (by omega), fun q => by rw [e5] at q; omega⟩⟩
def x5O6 (bn : Nat) (s : ra_V) (D : Nat) (z : Int) (o : Sum (Int × Nat) ((Nat → Int) × Nat)) : Prop :=
  (z = 1 ∧ ∃ (r : Nat → Int) (e : Nat), o = .inr (r, e) ∧ x5A6 r s D ∧ ra_g s 175 4 = (e : Nat) ∧ e ≤ bn) ∨ (z = 0 ∧ ∃ (c : Int) (a : Nat), o = .inl (c, a) ∧ ra_g s 175 2 = c ∧ ra_g s 175 3 = (a : Nat))
theorem x5o6_f {o : Sum (Int × Nat) ((Nat → Int) × Nat)} {c : Int} (hz : z = 0) (ho : o = .inl (c, a)) (h2 : ra_g s 175 2 = c) (h3 : ra_g s 175 3 = (a : Nat)) : x5O6 bn s D z o := Or.inr ⟨hz, c, a, ho, h2, h3⟩
theorem x5o6_y {o : Sum (Int × Nat) ((Nat → Int) × Nat)} (hz : z = 1) (ho : o = .inr (r, e)) (hA : x5A6 r s D) (hp : ra_g s 175 4 = (e : Nat)) (he : e ≤ bn) : x5O6 bn s D z o := Or.inl ⟨hz, r, e, ho, hA, hp, he⟩
theorem x5o6_rd {o : Sum (Int × Nat) ((Nat → Int) × Nat)} {w lo hi : Int} (h : x4NUM B bn σ s w i lo hi) (hw : w = 0) (hz : z = 0) (ho : ∀ x, tx_rd B bn i lo hi = .inl x → o = .inl x) : x5O6 bn s D z o := by
  rcases h with ⟨h, -⟩ | ⟨-, c, a, h1, h2, h3⟩
  · omega
  · exact x5o6_f hz (ho _ h1) h2 h3
theorem x5s6n {o : Sum (Int × Nat) ((Nat → Int) × Nat)} {z2 : Int} (h : x5O6 bn s D z o) (hz : z = 0) (hz2 : z2 = 0) : x5O6 bn s D z2 (tx_ps B bn o) := by
  rcases h with ⟨q, -⟩ | ⟨-, c, a, h1, h2, h3⟩
  · omega
  · rw [h1]; exact x5o6_f hz2 rfl h2 h3
theorem x5s6f {o : Sum (Int × Nat) ((Nat → Int) × Nat)} {w : Int} (ho : o = .inr (r, e)) (h : x4SEM B bn t s w e) (hw : w = 0) (hz : z = 0) : x5O6 bn s D z (tx_ps B bn o) := by
  rcases h with ⟨q, -⟩ | ⟨-, c, a, h1, h2, h3⟩
  · omega
  · refine x5o6_f (c := c) (a := a) hz ?_ h2 h3
    rw [ho]
    unfold tx_ps
    dsimp only
    rw [h1]
theorem x5s6y {o : Sum (Int × Nat) ((Nat → Int) × Nat)} {w : Int} (ho : o = .inr (r, e)) (hA : x5A6 r t D) (h : x4SEM B bn t s w e) (hw : w ≠ 0) (hz : z = 1) (hd : ∀ j : Nat, j < 13 → s (D + j) = t (D + j)) (h5 : ra_g s 175 8 = ra_g t 175 8 ∧ ra_g s 175 9 = ra_g t 175 9 ∧ ra_g s 175 10 = ra_g t 175 10 ∧ ra_g s 175 11 = ra_g t 175 11) : x5O6 bn s D z (tx_ps B bn o) := by
  rcases h with ⟨-, e2, h1, h2, h3, h4, h6⟩ | ⟨q, -⟩
  · refine x5o6_y (r := r) (e := e2) hz ?_ (x5A6_k hd ⟨h4, h6, h5⟩ hA) h2 h3
    rw [ho]
    unfold tx_ps
    dsimp only
    rw [h1]
  · omega
def x5P6 (s : ra_V) (D : Nat) (z : Int) (o : Sum (Int × Nat) (Nat → Int)) : Prop :=
  (z = 1 ∧ ∃ r : Nat → Int, o = .inr r ∧ x5A6 r s D) ∨ (z = 0 ∧ ∃ (c : Int) (a : Nat), o = .inl (c, a) ∧ ra_g s 175 2 = c ∧ ra_g s 175 3 = (a : Nat))
def x5L6 (B : Nat → Int) (bn : Nat) (s : ra_V) (D : Nat) (z k : Int) : Prop :=
  (z = 1 ∧ ∃ (r : Nat → Int) (e : Nat), tx_text B bn = tx_run B bn (500 - k).toNat r e ∧ x5A6 r s D ∧ ra_g s 175 4 = (e : Nat) ∧ e ≤ bn) ∨ (z = 0 ∧ ∃ (c : Int) (a : Nat), tx_text B bn = .inl (c, a) ∧ ra_g s 175 2 = c ∧ ra_g s 175 3 = (a : Nat))
theorem x5p6_f (hz : z = 0) (ho : o = .inl (c, a)) (h2 : ra_g s 175 2 = c) (h3 : ra_g s 175 3 = (a : Nat)) : x5P6 s D z o := Or.inr ⟨hz, c, a, ho, h2, h3⟩
theorem x5p6_rd {w lo hi : Int} (h : x4NUM B bn σ s w i lo hi) (hw : w = 0) (hz : z = 0) (ho : ∀ x, tx_rd B bn i lo hi = .inl x → o = .inl x) : x5P6 s D z o := by
  rcases h with ⟨h, -⟩ | ⟨-, c, a, h1, h2, h3⟩
  · omega
  · exact x5p6_f hz (ho _ h1) h2 h3
theorem x5p6_e {j : Int} (ht : tx_text B bn = tx_run B bn j.toNat r i) (hA : x5A6 r s D) (hz : z = 1) (hN : tx_k B bn (tx_a B bn i) = 0) : x5P6 s D z (tx_text B bn) := Or.inl ⟨hz, r, ht.trans (x4run_e hN), hA⟩
theorem x5p6_l {j : Int} (h : x5L6 B bn s D z j) (hj : z = 0 ∨ 500 ≤ j) : x5P6 s D z (tx_text B bn) := by
  rcases h with ⟨q, r, e, h1, h2, h3, h4⟩ | h
  · refine Or.inl ⟨q, r, ?_, h2⟩
    rw [h1, show (500 - j).toNat = 0 by omega]
    rfl
  · exact Or.inr h
theorem x5l6_0 {w : Int} (h : tx_isw B bn (tx_a B bn 0) ['d', 'i', 's', 'k'] = true) (h1 : tx_rd B bn (tx_e B bn (tx_a B bn 0)) 64 600 = .inr (v, e)) (hA : x5A6 (tx_r0 v) t D) (hs : x4SEM B bn t s w e) (hd : ∀ j : Nat, j < 13 → s (D + j) = t (D + j)) (h5 : ra_g s 175 8 = ra_g t 175 8 ∧ ra_g s 175 9 = ra_g t 175 9 ∧ ra_g s 175 10 = ra_g t 175 10 ∧ ra_g s 175 11 = ra_g t 175 11) : x5L6 B bn s D w 0 := by
  rcases hs with ⟨q, e2, s1, s2, s3, s4, s5⟩ | ⟨q, c, a, s1, s2, s3⟩
  · exact Or.inl ⟨q, tx_r0 v, e2, x4text_4 h h1 s1, x5A6_k hd ⟨s4, s5, h5⟩ hA, s2, s3⟩
  · exact Or.inr ⟨q, c, a, x4text_3 h h1 s1, s2, s3⟩
theorem x5l6_s {w j : Int} (h : x5O6 bn s D w (tx_ps B bn (tx_stmt B bn r (tx_a B bn i)))) (ht : tx_text B bn = tx_run B bn (500 - j).toNat r i) (hj : j < 500) (hk : tx_k B bn (tx_a B bn i) ≠ 0) : x5L6 B bn s D w (j + 1) := by
  have e1 : (500 - j).toNat = (500 - (j + 1)).toNat + 1 := by omega
  rw [e1] at ht
  rcases h with ⟨q, r2, e2, h1, h2, h3, h4⟩ | ⟨q, c, a, h1, h2, h3⟩
  · exact Or.inl ⟨q, r2, e2, ht.trans (x4run_y hk h1), h2, h3, h4⟩
  · exact Or.inr ⟨q, c, a, ht.trans (x4run_n hk h1), h2, h3⟩
theorem x5sz6_cp {q q2 : ra_V} (hA : x5A6 r σ 14) (h1 : ∀ p : Nat, p < 8 → ra_g s (1 + 5 + p) 2 = ra_g q (1 + 5 + p) 2) (h2 : ∀ p : Nat, p < 8 → ra_g q (1 + 5 + p) 2 = ra_g q2 (14 + 5 + p) 2) (h3 : ∀ p : Nat, p < 8 → ra_g q2 (14 + 5 + p) 2 = ra_g σ (14 + 5 + p) 2) : x4SZ s 1 (r 5) := by
  obtain ⟨-, -, -, -, -, hz, -⟩ := hA.1
  refine ⟨hz.1, fun p hp => ?_⟩
  rw [h1 p hp, h2 p hp, h3 p hp]
  exact hz.2 p hp
theorem x5p6_2 (h : x5P6 s D z o) : ra_g s 175 2 = tx_err o := by
  rcases h with ⟨-, r, h1, h2⟩ | ⟨-, c, a, h1, h2, h3⟩
  · rw [h1]; exact h2.1.2.2.2.2.1.1
  · rw [h1]; exact h2
theorem x5p6_3 (h : x5P6 s D z o) : ra_g s 175 3 = tx_off o := by
  rcases h with ⟨-, r, h1, h2⟩ | ⟨-, c, a, h1, h2, h3⟩
  · rw [h1]; exact h2.1.2.2.2.2.1.2
  · rw [h1]; exact h3
theorem x5p6_n (h : x5P6 s D z o) (hz : z = 0) : -1 = tx_ans o := by
  rcases h with ⟨q, -⟩ | ⟨-, c, a, h1, -⟩
  · omega
  · rw [h1]; rfl
theorem x5p6_nr (h : x5P6 s D z o) (hz : z = 0) : o ≠ .inr r := fun q => by
  rcases h with ⟨h1, -⟩ | ⟨-, c, a, h1, -⟩
  · omega
  · rw [h1] at q; cases q
/-- the row of a text told as a state -/
def x5rT (r : Nat → Int) : ra_V := fun _ j => Int32.ofInt (if j = 16 then -1 else r j)
theorem x5rT_g (h : ra_in (r i)) (hi : i ≠ 16) : ra_g (x5rT r) 180 i = r i := by
  show (Int32.ofInt (if i = 16 then -1 else r i)).toInt = _
  rw [if_neg hi]
  exact ra_ofI h
theorem x5rT_e (h : x = r i) (hx : ra_in x) (hi : i ≠ 16) : x = ra_g (x5rT r) 180 i := by
  subst h
  exact (x5rT_g hx hi).symm
theorem x5rT_16 : ra_g (x5rT r) 180 16 = -1 := by
  show (Int32.ofInt (if 16 = 16 then -1 else r 16)).toInt = _
  rw [if_pos rfl]
  decide
theorem x5rT_w {w : Nat} (hw : w ≤ 7) (h : ra_in (r (24 + w + 8 * p))) : wq (x5rT r) p w = r (24 + w + 8 * p) := by
  unfold wq
  rw [show (24 + 8 * (p : Int) + (w : Int)).toNat = 24 + w + 8 * p by omega]
  exact x5rT_g h (by omega)
theorem x5A6_ct (h : x5A6 r σ D) : x5CT (x5rT r) σ D := by
  obtain ⟨⟨⟨c0, c1, c2, c3, c4⟩, b, -, -, -, hz, ha⟩, ⟨⟨a1, a2, a3, a4, a5⟩, ⟨b1, b2, b3⟩, hp⟩⟩ := h
  have hw0 : ∀ p : Nat, p < 8 → wq (x5rT r) p 0 = r (24 + 8 * p) := fun p p8 => by
    have q := hp p p8
    refine x5rT_w (w := 0) (by omega) ?_
    by_cases c : (p : Int) < r 5
    · have e : r (24 + 0 + 8 * p) = 1 := (q.2.2 c).1
      rw [e]; unfold ra_in; omega
    · have e : r (24 + 0 + 8 * p) = 0 := q.2.1 (by omega)
      rw [e]; unfold ra_in; omega
  have h01 : ∀ p : Nat, p < 8 → (wq (x5rT r) p 0 = 1 ↔ (p : Int) < r 5) := fun p p8 => by
    rw [hw0 p p8]
    obtain ⟨-, q1, q2⟩ := hp p p8
    constructor
    · intro e
      by_cases c : (p : Int) < r 5
      · exact c
      · have := q1 (by omega); omega
    · intro c; exact (q2 c).1
  refine x5CT_i (fun j hj => ?_) (fun p p8 => ⟨?_, (hp p p8).1, fun he j j1 j2 => ?_⟩) ⟨a5.trans x5rT_16.symm, fun q => absurd x5rT_16 q⟩
  · refine x5rT_e ?_ (ra_in_g _ _ _) (by omega)
    have hj9 : j = 0 ∨ j = 1 ∨ j = 2 ∨ j = 3 ∨ j = 4 ∨ j = 5 ∨ j = 6 ∨ j = 7 ∨ j = 8 := by omega
    rcases hj9 with rfl | rfl | rfl | rfl | rfl | rfl | rfl | rfl | rfl
    · exact c0
    · exact c1
    · exact c2
    · exact c3
    · exact c4
    · exact a1
    · exact a2.trans b1.symm
    · exact a3.trans b2.symm
    · exact a4.trans b3.symm
  · rw [h01 p p8]; exact hz.2 p p8
  · have hq := (h01 p p8).mp he
    obtain ⟨x1, x2, x5, -, -, -⟩ := ha p p8 hq
    obtain ⟨-, y3, y4, y6, y7⟩ := (hp p p8).2.2 hq
    have k : ∀ w : Nat, w ≤ 7 → ra_g σ (D + 5 + p) w = r (24 + w + 8 * p) → ra_g σ (D + 5 + p) w = wq (x5rT r) p w := fun w hw e => by
      rw [x5rT_w hw (by rw [← e]; exact ra_in_g _ _ _)]; exact e
    have hj9 : j = 1 ∨ j = 2 ∨ j = 3 ∨ j = 4 ∨ j = 5 ∨ j = 6 ∨ j = 7 := by omega
    rcases hj9 with rfl | rfl | rfl | rfl | rfl | rfl | rfl
    · exact k 1 (by omega) x1
    · exact k 2 (by omega) x2
    · exact k 3 (by omega) y3
    · exact k 4 (by omega) y4
    · exact k 5 (by omega) x5
    · exact k 6 (by omega) y6
    · exact k 7 (by omega) y7
/-- the row a text makes stands on the class's disk, its copy -/
theorem x5A6_cp (h : x5A6 r σ 14) (hk : ∀ c, 14 ≤ c → c < 27 → s c = σ c) (hc : x5DCP s t 1 14) (hk2 : ∀ c, 1 ≤ c → c < 14 → υ c = t c) (hT : SC (x5rT r) τ) (hW : x5W2 τ) : x5CT τ υ 1 :=
  x5CT_d (fun c c1 c2 => hk2 c c1 (by omega)) (x5ct_dc hc (x5CT_d (fun c c1 c2 => hk c c1 (by omega)) (x5CT_t hT (by
    have q := WF_a hW.1
    unfold WFa at *
    have e : ∀ a : Nat, a < 88 → ra_g τ 180 a = ra_g (x5rT r) 180 a := hT
    rw [e 0 (by omega), e 1 (by omega), e 2 (by omega), e 3 (by omega), e 4 (by omega), e 16 (by omega)] at q
    exact q) (x5A6_ct h))) hW)
end
end
