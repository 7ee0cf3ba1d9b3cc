/-! T4: the reference's tokens, what it reads -/
section
section
variable {σ s t : ra_V} {B : Nat → Int} {bn n a i k D p e : Nat} {pk x y v z w lo hi lo2 hi2 c : Int} {r : Nat → Int} {u : Int × Nat}
/-- the reference's bytes -/
def x4TR (σ : ra_V) (B : Nat → Int) (bn : Nat) : Prop := ra_g σ 179 12 = bn ∧ bn ≤ 500 ∧ (∀ i, i < bn → B i = ra_g σ 187 i ∧ 0 ≤ B i) ∧ ∀ i, bn ≤ i → B i = -1
theorem x4TR_k (h1 : ra_g s 179 12 = ra_g σ 179 12) (h2 : s 187 = σ 187) (h : x4TR σ B bn) : x4TR s B bn := by
  obtain ⟨a, b, c, d⟩ := h
  exact ⟨h1.trans a, b, fun i hi => by rw [ra_gk h2]; exact c i hi, d⟩
theorem x4TR_y (h : x4TR σ B bn) (h0 : 0 ≤ x) (h1 : x < bn) : ra_g σ 187 x.toNat = B x.toNat := ((h.2.2.1 x.toNat (by omega)).1).symm
theorem x4TR_n (h : x4TR σ B bn) (h1 : (bn : Int) ≤ x) : -1 = B x.toNat := (h.2.2.2 x.toNat (by omega)).symm
theorem x4TR_in (h : x4TR σ B bn) : ra_in (B i) := by
  by_cases c : i < bn
  · rw [(h.2.2.1 i c).1]; exact ra_in_g _ _ _
  · rw [h.2.2.2 i (by omega)]; unfold ra_in; omega
theorem x4TR_e (h : x4TR σ B bn) (hb : B i = -1) : bn ≤ i := by
  by_cases c : i < bn
  · have := (h.2.2.1 i c).2
    omega
  · omega
theorem x4TR_l (h : x4TR σ B bn) (hb : B i ≠ -1) : i < bn := by
  by_cases c : i < bn
  · exact c
  · exact absurd (h.2.2.2 i (by omega)) hb
/-- the reference stands at the token that begins at a -/
def x4RTK (B : Nat → Int) (bn : Nat) (s : ra_V) (a : Nat) : Prop := ra_g s 179 18 = (a : Nat) ∧ ra_g s 179 17 = (tx_e B bn a : Nat) ∧ ra_g s 179 20 = tx_k B bn a ∧ (tx_k B bn a = 2 → ra_g s 179 19 = tx_val B bn a) ∧ a ≤ bn ∧ a ≤ tx_e B bn a ∧ tx_e B bn a ≤ bn
theorem x4RTK_k (h17 : ra_g s 179 17 = ra_g σ 179 17) (h18 : ra_g s 179 18 = ra_g σ 179 18) (h19 : ra_g s 179 19 = ra_g σ 179 19) (h20 : ra_g s 179 20 = ra_g σ 179 20) (h : x4RTK B bn σ a) : x4RTK B bn s a := by
  obtain ⟨h1, h2, h3, h4, h5, h6, h7⟩ := h
  exact ⟨by omega, by omega, by omega, fun q => by have := h4 q; omega, h5, h6, h7⟩
theorem x4rtk_0 (hs : ra_g s 179 18 = (a : Nat)) (hp : ra_g s 179 17 = (a : Nat)) (ht : ra_g s 179 20 = 0) (h : bn ≤ a) (h2 : a ≤ bn) : x4RTK B bn s a := by
  have e1 := x4tk_0 (B := B) h
  have e2 := x4te_0 (B := B) h
  exact ⟨hs, by omega, by omega, fun q => by omega, h2, by omega, by omega⟩
theorem x4rtk_w (hs : ra_g s 179 18 = (a : Nat)) (hp : ra_g s 179 17 = (tx_sp tx_le B bn a : Nat)) (ht : ra_g s 179 20 = 1) (h : a < bn) (hl : tx_le (B a) = true) : x4RTK B bn s a := by
  have e1 := x4tk_1 h hl
  have e2 := x4te_1 h hl
  have e3 := x4te_le (B := B) (Nat.le_of_lt h)
  exact ⟨hs, by omega, by omega, fun q => by omega, by omega, by omega, by omega⟩
theorem x4rtk_1 (hs : ra_g s 179 18 = (a : Nat)) (hp : ra_g s 179 17 = (a : Nat) + 1) (h : a < bn) (hl : tx_le (B a) = false) (hd : tx_di (B a) = false) (ht : (B a = 59 → ra_g s 179 20 = 3) ∧ (B a ≠ 59 → ra_g s 179 20 = 4)) : x4RTK B bn s a := by
  have e1 := x4tk_3 h hl hd
  have e2 := x4te_3 h hl hd
  have e4 : tx_k B bn a = ra_g s 179 20 := by
    rw [e1]
    split
    · next q => exact (ht.1 q).symm
    · next q => exact (ht.2 q).symm
  have e5 : tx_k B bn a ≠ 2 := by
    rw [e1]
    split <;> omega
  exact ⟨hs, by omega, e4.symm, fun q => absurd q e5, by omega, by omega, by omega⟩
theorem x4rtk_n (hs : ra_g s 179 18 = (a : Nat)) (hp : ra_g s 179 17 = (tx_sp tx_di B bn a : Nat)) (h : a < bn) (hl : tx_le (B a) = false) (hd : tx_di (B a) = true) (ht : ra_g s 179 20 = 2) (hv : ra_g s 179 19 = tx_v B a (Nat.min 3 (tx_sp tx_di B bn a - a))) : x4RTK B bn s a := by
  have e1 := x4tk_2 h hl hd
  have e2 := x4te_2 h hl hd
  have e3 := x4te_le (B := B) (Nat.le_of_lt h)
  refine ⟨hs, by omega, by omega, fun _ => ?_, by omega, by omega, by omega⟩
  unfold tx_val
  rw [e2]
  exact hv
/-- where the token read at i ends -/
def x4tx_n (B : Nat → Int) (n i : Nat) : Nat := tx_e B n (tx_a B n i)
theorem x4rd_y (h : tx_k B n (tx_a B n i) = 2 ∧ tx_e B n (tx_a B n i) - tx_a B n i ≤ 3) (h2 : lo ≤ tx_val B n (tx_a B n i) ∧ tx_val B n (tx_a B n i) ≤ hi) : tx_rd B n i lo hi = .inr (tx_val B n (tx_a B n i), x4tx_n B n i) := by unfold tx_rd; rw [if_pos h, if_pos h2]; rfl
theorem x4rd_o (h : tx_k B n (tx_a B n i) = 2 ∧ tx_e B n (tx_a B n i) - tx_a B n i ≤ 3) (h2 : ¬ (lo ≤ tx_val B n (tx_a B n i) ∧ tx_val B n (tx_a B n i) ≤ hi)) : tx_rd B n i lo hi = .inl (2, tx_a B n i) := by unfold tx_rd; rw [if_pos h, if_neg h2]
theorem x4rd_x (h : ¬ (tx_k B n (tx_a B n i) = 2 ∧ tx_e B n (tx_a B n i) - tx_a B n i ≤ 3)) : tx_rd B n i lo hi = .inl (1, tx_a B n i) := by unfold tx_rd; rw [if_neg h]
/-- the same token in other bounds -/
theorem x4rd_c {e : Nat} (h : tx_rd B n i lo hi = .inr (v, e)) : (lo2 ≤ v ∧ v ≤ hi2 → tx_rd B n i lo2 hi2 = .inr (v, x4tx_n B n i)) ∧ (¬ (lo2 ≤ v ∧ v ≤ hi2) → tx_rd B n i lo2 hi2 = .inl (2, tx_a B n i)) ∧ e = x4tx_n B n i := by
  by_cases c : tx_k B n (tx_a B n i) = 2 ∧ tx_e B n (tx_a B n i) - tx_a B n i ≤ 3
  · by_cases d : lo ≤ tx_val B n (tx_a B n i) ∧ tx_val B n (tx_a B n i) ≤ hi
    · rw [x4rd_y c d] at h
      cases h
      exact ⟨fun q => x4rd_y c q, fun q => x4rd_o c q, rfl⟩
    · rw [x4rd_o c d] at h; cases h
  · rw [x4rd_x c] at h; cases h
theorem x4rd_nw (h : tx_rd B n i lo hi = .inl u) (h1 : lo ≤ lo2) (h2 : hi2 ≤ hi) : tx_rd B n i lo2 hi2 = .inl u := by
  by_cases c : tx_k B n (tx_a B n i) = 2 ∧ tx_e B n (tx_a B n i) - tx_a B n i ≤ 3
  · by_cases d : lo ≤ tx_val B n (tx_a B n i) ∧ tx_val B n (tx_a B n i) ≤ hi
    · rw [x4rd_y c d] at h; cases h
    · rw [x4rd_o c d] at h; cases h
      exact x4rd_o c (fun q => d ⟨by omega, by omega⟩)
  · rw [x4rd_x c] at h; cases h
    exact x4rd_x c
/-- a number seen -/
def x4RNM (B : Nat → Int) (bn : Nat) (σ s : ra_V) (z : Int) (i : Nat) (lo hi : Int) : Prop :=
  (z = 1 ∧ tx_rd B bn i lo hi = .inr (ra_g σ 179 19, x4tx_n B bn i) ∧ lo ≤ ra_g σ 179 19 ∧ ra_g σ 179 19 ≤ hi ∧ ra_g s 179 15 = 0 ∧ ra_g s 179 16 = ra_g σ 179 16) ∨
  (z = 0 ∧ ∃ c : Int, tx_rd B bn i lo hi = .inl (c, tx_a B bn i) ∧ ra_g s 179 15 = c ∧ ra_g s 179 16 = (tx_a B bn i : Nat))
theorem x4rn_1 (hK : x4RTK B bn σ (tx_a B bn i)) (h : ra_g σ 179 20 ≠ 2 ∨ 3 < ra_g σ 179 17 - ra_g σ 179 18) (hz : z = 0) (h2 : ra_g s 179 15 = 1 ∧ ra_g s 179 16 = ra_g σ 179 18) : x4RNM B bn σ s z i lo hi := by
  obtain ⟨k1, k2, k3, k4, k5, k6, k7⟩ := hK
  exact Or.inr ⟨hz, 1, x4rd_x (by omega), h2.1, by omega⟩
theorem x4rn_2 (hK : x4RTK B bn σ (tx_a B bn i)) (h : ra_g σ 179 20 = 2 ∧ ra_g σ 179 17 - ra_g σ 179 18 ≤ 3) (hv : ¬ (lo ≤ ra_g σ 179 19 ∧ ra_g σ 179 19 ≤ hi)) (hz : z = 0) (h2 : ra_g s 179 15 = 2 ∧ ra_g s 179 16 = ra_g σ 179 18) : x4RNM B bn σ s z i lo hi := by
  obtain ⟨k1, k2, k3, k4, k5, k6, k7⟩ := hK
  have e := k4 (by omega)
  exact Or.inr ⟨hz, 2, x4rd_o (by omega) (by omega), h2.1, by omega⟩
theorem x4rn_y (hK : x4RTK B bn σ (tx_a B bn i)) (h : ra_g σ 179 20 = 2 ∧ ra_g σ 179 17 - ra_g σ 179 18 ≤ 3) (hv : lo ≤ ra_g σ 179 19 ∧ ra_g σ 179 19 ≤ hi) (hz : z = 1) (h2 : ra_g s 179 15 = 0 ∧ ra_g s 179 16 = ra_g σ 179 16) : x4RNM B bn σ s z i lo hi := by
  obtain ⟨k1, k2, k3, k4, k5, k6, k7⟩ := hK
  have e := k4 (by omega)
  refine Or.inl ⟨hz, ?_, hv.1, hv.2, h2.1, h2.2⟩
  rw [e]
  exact x4rd_y (by omega) (by omega)
/-- a number taken -/
def x4RTA (B : Nat → Int) (bn : Nat) (σ s : ra_V) (z : Int) (i j : Nat) (lo hi : Int) : Prop :=
  (z = 1 ∧ tx_rd B bn i lo hi = .inr (ra_g s 188 j, x4tx_n B bn i) ∧ x4RTK B bn s (tx_a B bn (x4tx_n B bn i)) ∧ lo ≤ ra_g s 188 j ∧ ra_g s 188 j ≤ hi ∧ ra_g s 179 15 = 0 ∧ ra_g s 179 16 = ra_g σ 179 16) ∨
  (z = 0 ∧ ∃ c : Int, tx_rd B bn i lo hi = .inl (c, tx_a B bn i) ∧ ra_g s 179 15 = c ∧ ra_g s 179 16 = (tx_a B bn i : Nat))
theorem x4ta_n {j : Nat} (h : x4RNM B bn σ s w i lo hi) (hw : w = 0) (hz : z = 0) : x4RTA B bn σ s z i j lo hi := by
  rcases h with ⟨q, -⟩ | ⟨-, c, h1, h2, h3⟩
  · omega
  · exact Or.inr ⟨hz, c, h1, h2, h3⟩
theorem x4ta_y {j : Nat} (h : x4RNM B bn σ t w i lo hi) (hw : w ≠ 0) (hz : z = 1) (h19 : ra_g s 188 j = ra_g σ 179 19) (hK : x4RTK B bn s (tx_a B bn (x4tx_n B bn i))) (h5 : ra_g s 179 15 = ra_g t 179 15 ∧ ra_g s 179 16 = ra_g t 179 16) : x4RTA B bn σ s z i j lo hi := by
  rcases h with ⟨-, h1, h2, h3, h4, h6⟩ | ⟨q, -⟩
  · refine Or.inl ⟨hz, by rw [h19]; exact h1, hK, by omega, by omega, by omega, by omega⟩
  · omega
/-- a semicolon passed -/
def x4RSE (B : Nat → Int) (bn : Nat) (σ s : ra_V) (z : Int) (i : Nat) : Prop :=
  (z = 1 ∧ tx_semi B bn i = .inr (x4tx_n B bn i) ∧ x4RTK B bn s (tx_a B bn (x4tx_n B bn i)) ∧ x4tx_n B bn i ≤ bn ∧ ra_g s 179 15 = 0 ∧ ra_g s 179 16 = ra_g σ 179 16) ∨
  (z = 0 ∧ ∃ (c : Int) (a : Nat), tx_semi B bn i = .inl (c, a) ∧ ra_g s 179 15 = c ∧ ra_g s 179 16 = (a : Nat))
theorem x4se_n (hK : x4RTK B bn σ (tx_a B bn i)) (h : ra_g σ 179 20 ≠ 3) (hz : z = 0) (h2 : ra_g s 179 15 = 1 ∧ ra_g s 179 16 = ra_g σ 179 18) : x4RSE B bn σ s z i := by
  obtain ⟨k1, k2, k3, k4, k5, k6, k7⟩ := hK
  refine Or.inr ⟨hz, 1, tx_a B bn i, ?_, h2.1, by omega⟩
  unfold tx_semi
  rw [if_neg (by omega)]
theorem x4se_y (hK : x4RTK B bn σ (tx_a B bn i)) (h : ra_g σ 179 20 = 3) (hz : z = 1) (hK2 : x4RTK B bn s (tx_a B bn (x4tx_n B bn i))) (h5 : ra_g s 179 15 = 0 ∧ ra_g s 179 16 = ra_g σ 179 16) : x4RSE B bn σ s z i := by
  obtain ⟨k1, k2, k3, k4, k5, k6, k7⟩ := hK
  refine Or.inl ⟨hz, ?_, hK2, k7, h5.1, h5.2⟩
  unfold tx_semi
  rw [if_pos (by omega)]
  rfl
/-- what a text has made so far: the reference's row -/
def x4RR (r : Nat → Int) (σ : ra_V) : Prop := (ra_g σ 180 0 = r 0 ∧ ra_g σ 180 1 = r 1 ∧ ra_g σ 180 2 = r 2 ∧ ra_g σ 180 3 = r 3 ∧ ra_g σ 180 4 = r 4 ∧ ra_g σ 180 5 = r 5) ∧
  ra_g σ 179 21 = r 101 + 2 * r 102 + 4 * r 103 + 8 * r 104 ∧ ((r 101 = 0 ∨ r 101 = 1) ∧ (r 102 = 0 ∨ r 102 = 1) ∧ (r 103 = 0 ∨ r 103 = 1) ∧ (r 104 = 0 ∨ r 104 = 1)) ∧
  (ra_g σ 179 15 = 0 ∧ ra_g σ 179 16 = -1) ∧ ∀ p : Nat, p < 8 → (p : Int) < r 5 → ra_g σ 180 (25 + 8 * p) = r (25 + 8 * p) ∧ ra_g σ 180 (26 + 8 * p) = r (26 + 8 * p) ∧ ra_g σ 180 (29 + 8 * p) = r (29 + 8 * p)
theorem x4RR_k (h : s 180 = σ 180) (h5 : ra_g s 179 15 = ra_g σ 179 15 ∧ ra_g s 179 16 = ra_g σ 179 16 ∧ ra_g s 179 21 = ra_g σ 179 21) (q : x4RR r σ) : x4RR r s := by
  obtain ⟨a1, a2, a3, a4, a5⟩ := q
  refine ⟨?_, by omega, a3, by omega, fun p hp hq => ?_⟩
  · rw [ra_gk h, ra_gk h, ra_gk h, ra_gk h, ra_gk h, ra_gk h]; exact a1
  · rw [ra_gk h, ra_gk h, ra_gk h]; exact a5 p hp hq
theorem x4had_i {x a b c d : Int} (h : x = a + 2 * b + 4 * c + 8 * d) (ha : a = 0 ∨ a = 1) (hb : b = 0 ∨ b = 1) (hc : c = 0 ∨ c = 1) (hd : d = 0 ∨ d = 1) : ra_op .iand x 1 = a ∧ ra_op .iand x 2 = 2 * b ∧ ra_op .iand x 4 = 4 * c ∧ ra_op .iand x 8 = 8 * d ∧ (a = 0 → ra_op .ior x 1 = x + 1) ∧ (b = 0 → ra_op .ior x 2 = x + 2) ∧ (c = 0 → ra_op .ior x 4 = x + 4) ∧ (d = 0 → ra_op .ior x 8 = x + 8) := by
  subst h
  rcases ha with rfl | rfl <;> rcases hb with rfl | rfl <;> rcases hc with rfl | rfl <;> rcases hd with rfl | rfl <;> decide +kernel
/-- what a piece of a text comes to: the reference -/
def x4ROC (B : Nat → Int) (bn : Nat) (s : ra_V) (z : Int) (o : Sum (Int × Nat) ((Nat → Int) × Nat)) : Prop :=
  (z = 1 ∧ ∃ (r : Nat → Int) (e : Nat), o = .inr (r, e) ∧ x4RR r s ∧ x4RTK B bn s (tx_a B bn e) ∧ e ≤ bn) ∨ (z = 0 ∧ ∃ (c : Int) (a : Nat), o = .inl (c, a) ∧ ra_g s 179 15 = c ∧ ra_g s 179 16 = (a : Nat))
section
variable {o : Sum (Int × Nat) ((Nat → Int) × Nat)}
theorem x4ro_f (hz : z = 0) (ho : o = .inl (c, a)) (h2 : ra_g s 179 15 = c) (h3 : ra_g s 179 16 = (a : Nat)) : x4ROC B bn s z o := Or.inr ⟨hz, c, a, ho, h2, h3⟩
theorem x4ro_y (hz : z = 1) (ho : o = .inr (r, e)) (hR : x4RR r s) (hK : x4RTK B bn s (tx_a B bn e)) (he : e ≤ bn) : x4ROC B bn s z o := Or.inl ⟨hz, r, e, ho, hR, hK, he⟩
theorem x4ro_n (h : x4RNM B bn σ s w i lo hi) (hw : w = 0) (hz : z = 0) (ho : ∀ x, tx_rd B bn i lo hi = .inl x → o = .inl x) : x4ROC B bn s z o := by
  rcases h with ⟨q, -⟩ | ⟨-, c, h1, h2, h3⟩
  · omega
  · exact x4ro_f hz (ho _ h1) h2 h3
theorem x4ro_t {j : Nat} (h : x4RTA B bn σ s w i j lo hi) (hw : w = 0) (hz : z = 0) (ho : ∀ x, tx_rd B bn i lo hi = .inl x → o = .inl x) : x4ROC B bn s z o := by
  rcases h with ⟨q, -⟩ | ⟨-, c, h1, h2, h3⟩
  · omega
  · exact x4ro_f hz (ho _ h1) h2 h3
end
theorem x4n_le (h : i ≤ bn) : x4tx_n B bn i ≤ bn := by
  have h1 : tx_a B bn i ≤ bn := (tx_sp_le (P := tx_bl) (B := B) (n := bn) (i := i)).2 h
  exact (x4te_le (B := B) h1).2
theorem x4RTK_n (h : x4RTK B bn σ (tx_a B bn i)) : x4tx_n B bn i ≤ bn := h.2.2.2.2.2.2
/-! a setting -/
section
variable {x0 x1 x2 x3 : Int}
theorem x4rs_h (hst : (x0 = 1 ∧ x1 = 1 ∧ x2 = 0 ∧ x3 = 31) ∨ (x0 = 2 ∧ x1 = 2 ∧ x2 = 0 ∧ x3 = 31) ∨ (x0 = 3 ∧ x1 = 4 ∧ x2 = 1 ∧ x3 = 32) ∨ (x0 = 4 ∧ x1 = 8 ∧ x2 = 1 ∧ x3 = 16)) (hR : x4RR r σ) : (ra_op .iand (ra_g σ 179 21) x1 ≠ 0 → r (100 + x0.toNat) = 1) ∧ (ra_op .iand (ra_g σ 179 21) x1 = 0 → r (100 + x0.toNat) = 0 ∧ ra_op .ior (ra_g σ 179 21) x1 = ra_g σ 179 21 + x1) ∧ 0 ≤ ra_g σ 179 21 ∧ ra_g σ 179 21 ≤ 15 := by
  obtain ⟨a1, a2, ⟨f1, f2, f3, f4⟩, a4, a5⟩ := hR
  obtain ⟨b1, b2, b3, b4, c1, c2, c3, c4⟩ := x4had_i a2 f1 f2 f3 f4
  rcases hst with ⟨rfl, rfl, -, -⟩ | ⟨rfl, rfl, -, -⟩ | ⟨rfl, rfl, -, -⟩ | ⟨rfl, rfl, -, -⟩
  · exact ⟨fun q => (by omega : r 101 = 1), fun q => ⟨(by omega : r 101 = 0), c1 (by omega)⟩, by omega, by omega⟩
  · exact ⟨fun q => (by omega : r 102 = 1), fun q => ⟨(by omega : r 102 = 0), c2 (by omega)⟩, by omega, by omega⟩
  · exact ⟨fun q => (by omega : r 103 = 1), fun q => ⟨(by omega : r 103 = 0), c3 (by omega)⟩, by omega, by omega⟩
  · exact ⟨fun q => (by omega : r 104 = 1), fun q => ⟨(by omega : r 104 = 0), c4 (by omega)⟩, by omega, by omega⟩
theorem x4RR_set (hst : (x0 = 1 ∧ x1 = 1 ∧ x2 = 0 ∧ x3 = 31) ∨ (x0 = 2 ∧ x1 = 2 ∧ x2 = 0 ∧ x3 = 31) ∨ (x0 = 3 ∧ x1 = 4 ∧ x2 = 1 ∧ x3 = 32) ∨ (x0 = 4 ∧ x1 = 8 ∧ x2 = 1 ∧ x3 = 16)) (hR : x4RR r σ) (h0 : r (100 + x0.toNat) = 0) (h21 : ra_g s 179 21 = ra_g σ 179 21 + x1) (h5 : ra_g s 179 15 = ra_g σ 179 15 ∧ ra_g s 179 16 = ra_g σ 179 16) (hv : ra_g s 180 x0.toNat = v) (ho : ∀ j, j ≠ x0.toNat → ra_g s 180 j = ra_g σ 180 j) : x4RR (tx_up (tx_up r x0.toNat v) (100 + x0.toNat) 1) s := by
  obtain ⟨⟨a0, a1, a2, a3, a4, a5⟩, b, ⟨f1, f2, f3, f4⟩, c, d⟩ := hR
  have f : ∀ j : Nat, j ≠ x0.toNat → j ≠ 100 + x0.toNat → tx_up (tx_up r x0.toNat v) (100 + x0.toNat) 1 j = r j := fun j h1 h2 => by rw [x4up_n h2, x4up_n h1]
  have g1 : tx_up (tx_up r x0.toNat v) (100 + x0.toNat) 1 x0.toNat = v := by rw [x4up_n (by omega), x4up_y]
  have g2 : tx_up (tx_up r x0.toNat v) (100 + x0.toNat) 1 (100 + x0.toNat) = 1 := x4up_y
  have hw : x0.toNat < 5 := by omega
  have e5 : tx_up (tx_up r x0.toNat v) (100 + x0.toNat) 1 5 = r 5 := f 5 (by omega) (by omega)
  refine ⟨?_, ?_, ?_, by omega, fun p hp hq => ?_⟩
  · have k : ∀ j : Nat, j ≤ 5 → ra_g σ 180 j = r j → ra_g s 180 j = tx_up (tx_up r x0.toNat v) (100 + x0.toNat) 1 j := fun j hj q => by
      by_cases e : j = x0.toNat
      · rw [e, g1]; exact hv
      · rw [f j e (by omega), ho j e]; exact q
    exact ⟨k 0 (by omega) a0, k 1 (by omega) a1, k 2 (by omega) a2, k 3 (by omega) a3, k 4 (by omega) a4, k 5 (by omega) a5⟩
  · rcases hst with ⟨rfl, rfl, -, -⟩ | ⟨rfl, rfl, -, -⟩ | ⟨rfl, rfl, -, -⟩ | ⟨rfl, rfl, -, -⟩
    · rw [show tx_up (tx_up r (1 : Int).toNat v) (100 + (1 : Int).toNat) 1 101 = 1 from g2, f 102 (by decide) (by decide), f 103 (by decide) (by decide), f 104 (by decide) (by decide)]
      have h0 : r 101 = 0 := h0
      omega
    · rw [show tx_up (tx_up r (2 : Int).toNat v) (100 + (2 : Int).toNat) 1 102 = 1 from g2, f 101 (by decide) (by decide), f 103 (by decide) (by decide), f 104 (by decide) (by decide)]
      have h0 : r 102 = 0 := h0
      omega
    · rw [show tx_up (tx_up r (3 : Int).toNat v) (100 + (3 : Int).toNat) 1 103 = 1 from g2, f 101 (by decide) (by decide), f 102 (by decide) (by decide), f 104 (by decide) (by decide)]
      have h0 : r 103 = 0 := h0
      omega
    · rw [show tx_up (tx_up r (4 : Int).toNat v) (100 + (4 : Int).toNat) 1 104 = 1 from g2, f 101 (by decide) (by decide), f 102 (by decide) (by decide), f 103 (by decide) (by decide)]
      have h0 : r 104 = 0 := h0
      omega
  · rcases hst with ⟨rfl, rfl, -, -⟩ | ⟨rfl, rfl, -, -⟩ | ⟨rfl, rfl, -, -⟩ | ⟨rfl, rfl, -, -⟩
    · rw [show tx_up (tx_up r (1 : Int).toNat v) (100 + (1 : Int).toNat) 1 101 = 1 from g2, f 102 (by decide) (by decide), f 103 (by decide) (by decide), f 104 (by decide) (by decide)]
      exact ⟨Or.inr rfl, f2, f3, f4⟩
    · rw [show tx_up (tx_up r (2 : Int).toNat v) (100 + (2 : Int).toNat) 1 102 = 1 from g2, f 101 (by decide) (by decide), f 103 (by decide) (by decide), f 104 (by decide) (by decide)]
      exact ⟨f1, Or.inr rfl, f3, f4⟩
    · rw [show tx_up (tx_up r (3 : Int).toNat v) (100 + (3 : Int).toNat) 1 103 = 1 from g2, f 101 (by decide) (by decide), f 102 (by decide) (by decide), f 104 (by decide) (by decide)]
      exact ⟨f1, f2, Or.inr rfl, f4⟩
    · rw [show tx_up (tx_up r (4 : Int).toNat v) (100 + (4 : Int).toNat) 1 104 = 1 from g2, f 101 (by decide) (by decide), f 102 (by decide) (by decide), f 103 (by decide) (by decide)]
      exact ⟨f1, f2, f3, Or.inr rfl⟩
  · rw [e5] at hq
    rw [f (25 + 8 * p) (by omega) (by omega), f (26 + 8 * p) (by omega) (by omega), f (29 + 8 * p) (by omega) (by omega), ho (25 + 8 * p) (by omega), ho (26 + 8 * p) (by omega), ho (29 + 8 * p) (by omega)]
    exact d p hp hq
end
theorem x4RR_lock {j : Nat} (hj : j < 8) (hv : (j : Int) < r 5) (hR : x4RR r σ) (hl : ra_g s 180 (29 + 8 * j) = 1) (ho : ∀ a, a ≠ 29 + 8 * j → ra_g s 180 a = ra_g σ 180 a) (h5 : ra_g s 179 15 = ra_g σ 179 15 ∧ ra_g s 179 16 = ra_g σ 179 16 ∧ ra_g s 179 21 = ra_g σ 179 21) : x4RR (tx_up r (29 + 8 * j) 1) s := by
  obtain ⟨⟨a0, a1, a2, a3, a4, a5⟩, b, f0, c, d⟩ := hR
  have f : ∀ i : Nat, i ≠ 29 + 8 * j → tx_up r (29 + 8 * j) 1 i = r i := fun i h1 => x4up_n h1
  refine ⟨?_, ?_, ?_, by omega, fun p hp hq => ?_⟩
  · rw [f 0 (by omega), f 1 (by omega), f 2 (by omega), f 3 (by omega), f 4 (by omega), f 5 (by omega), ho 0 (by omega), ho 1 (by omega), ho 2 (by omega), ho 3 (by omega), ho 4 (by omega), ho 5 (by omega)]
    exact ⟨a0, a1, a2, a3, a4, a5⟩
  · rw [f 101 (by omega), f 102 (by omega), f 103 (by omega), f 104 (by omega)]; omega
  · rw [f 101 (by omega), f 102 (by omega), f 103 (by omega), f 104 (by omega)]; exact f0
  · rw [f 5 (by omega)] at hq
    have q := d p hp hq
    rw [f (25 + 8 * p) (by omega), f (26 + 8 * p) (by omega), ho (25 + 8 * p) (by omega), ho (26 + 8 * p) (by omega)]
    by_cases e : p = j
    · subst e
      rw [x4up_y, hl]
      exact ⟨q.1, q.2.1, rfl⟩
    · rw [f (29 + 8 * p) (by omega), ho (29 + 8 * p) (by omega)]
      exact q
theorem x4RR_mk {st sz kd mn : Int} (hR : x4RR r σ) (h5 : 0 ≤ r 5 ∧ r 5 < 8) (hm : z = r 5 ∧ wq s z 1 = st ∧ wq s z 2 = sz ∧ wq s z 5 = 0 ∧ ra_g s 180 5 = r 5 + 1) (ho : ∀ a : Nat, a < 88 → a ≠ 5 → ¬ (24 + 8 * z ≤ (a : Int) ∧ (a : Int) < 24 + 8 * z + 8) → ra_g s 180 a = ra_g σ 180 a) (h15 : ra_g s 179 15 = ra_g σ 179 15 ∧ ra_g s 179 16 = ra_g σ 179 16 ∧ ra_g s 179 21 = ra_g σ 179 21) : x4RR (tx_mk r st sz kd mn) s := by
  obtain ⟨⟨a0, a1, a2, a3, a4, a5⟩, b, f0, c, d⟩ := hR
  obtain ⟨rfl, m1, m2, m3, m4⟩ := hm
  have f : ∀ j : Nat, (j < 5 ∨ 88 ≤ j) → tx_mk r st sz kd mn j = r j := fun j hj => by
    unfold tx_mk
    rw [if_neg (by omega), if_neg (by omega), if_neg (by omega), if_neg (by omega), if_neg (by omega), if_neg (by omega), if_neg (by omega), if_neg (by omega), if_neg (by omega)]
  have f5 : tx_mk r st sz kd mn 5 = r 5 + 1 := by unfold tx_mk; rw [if_pos rfl]
  have o : ∀ j : Nat, j < 5 → ra_g s 180 j = ra_g σ 180 j := fun j hj => ho j (by omega) (by omega) (by omega)
  refine ⟨?_, ?_, ?_, by omega, fun p hp hq => ?_⟩
  · rw [f 0 (by omega), f 1 (by omega), f 2 (by omega), f 3 (by omega), f 4 (by omega), f5, o 0 (by omega), o 1 (by omega), o 2 (by omega), o 3 (by omega), o 4 (by omega)]
    exact ⟨a0, a1, a2, a3, a4, m4⟩
  · rw [f 101 (by omega), f 102 (by omega), f 103 (by omega), f 104 (by omega)]; omega
  · rw [f 101 (by omega), f 102 (by omega), f 103 (by omega), f 104 (by omega)]; exact f0
  · rw [f5] at hq
    by_cases e : p = (r 5).toNat
    · subst e
      have g1 : tx_mk r st sz kd mn (25 + 8 * (r 5).toNat) = st := by unfold tx_mk; rw [if_neg (by omega), if_neg (by omega), if_pos rfl]
      have g2 : tx_mk r st sz kd mn (26 + 8 * (r 5).toNat) = sz := by unfold tx_mk; rw [if_neg (by omega), if_neg (by omega), if_neg (by omega), if_pos rfl]
      have g3 : tx_mk r st sz kd mn (29 + 8 * (r 5).toNat) = 0 := by unfold tx_mk; rw [if_neg (by omega), if_neg (by omega), if_neg (by omega), if_neg (by omega), if_neg (by omega), if_neg (by omega), if_pos rfl]
      have n1 : ra_g s 180 (24 + 8 * r 5 + 1).toNat = st := m1
      have n2 : ra_g s 180 (24 + 8 * r 5 + 2).toNat = sz := m2
      have n3 : ra_g s 180 (24 + 8 * r 5 + 5).toNat = 0 := m3
      rw [g1, g2, g3, show 25 + 8 * (r 5).toNat = (24 + 8 * r 5 + 1).toNat by omega, show 26 + 8 * (r 5).toNat = (24 + 8 * r 5 + 2).toNat by omega, show 29 + 8 * (r 5).toNat = (24 + 8 * r 5 + 5).toNat by omega]
      exact ⟨n1, n2, n3⟩
    · have g : ∀ w : Nat, w < 8 → tx_mk r st sz kd mn (24 + w + 8 * p) = r (24 + w + 8 * p) := fun w hw => by
        unfold tx_mk
        rw [if_neg (by omega), if_neg (by omega), if_neg (by omega), if_neg (by omega), if_neg (by omega), if_neg (by omega), if_neg (by omega), if_neg (by omega), if_neg (by omega)]
      have g1 : tx_mk r st sz kd mn (25 + 8 * p) = r (25 + 8 * p) := g 1 (by omega)
      have g2 : tx_mk r st sz kd mn (26 + 8 * p) = r (26 + 8 * p) := g 2 (by omega)
      have g3 : tx_mk r st sz kd mn (29 + 8 * p) = r (29 + 8 * p) := g 5 (by omega)
      rw [g1, g2, g3, ho (25 + 8 * p) (by omega) (by omega) (by omega), ho (26 + 8 * p) (by omega) (by omega) (by omega), ho (29 + 8 * p) (by omega) (by omega) (by omega)]
      exact d p hp (by omega)
theorem x4RR_tk (hR : x4RR r σ) (hL : LD σ) : TK σ x y (-1) ↔ tx_meets r x y = true := by
  obtain ⟨⟨a0, a1, a2, a3, a4, a5⟩, b, f0, c, d⟩ := hR
  obtain ⟨h1, h2, h3, h4⟩ := hL
  rw [x4tm_iff]
  constructor
  · rintro ⟨p, p0, p1, -, q0, q1, q2⟩
    have hp := (h4 p p0 p1).mp q0
    obtain ⟨d1, d2, -⟩ := d p.toNat (by omega) (by omega)
    have n1 : wq σ p 1 = r (25 + 8 * p.toNat) := by
      rw [← d1]; exact congrArg (ra_g σ 180) (by omega : (24 + 8 * p + 1).toNat = 25 + 8 * p.toNat)
    have n2 : wq σ p 2 = r (26 + 8 * p.toNat) := by
      rw [← d2]; exact congrArg (ra_g σ 180) (by omega : (24 + 8 * p + 2).toNat = 26 + 8 * p.toNat)
    exact ⟨p.toNat, by omega, by omega, by omega, by omega⟩
  · rintro ⟨p, p0, p1, q1, q2⟩
    obtain ⟨d1, d2, -⟩ := d p p0 p1
    have n1 : wq σ p 1 = r (25 + 8 * p) := by
      rw [← d1]; exact congrArg (ra_g σ 180) (by omega : (24 + 8 * (p : Int) + 1).toNat = 25 + 8 * p)
    have n2 : wq σ p 2 = r (26 + 8 * p) := by
      rw [← d2]; exact congrArg (ra_g σ 180) (by omega : (24 + 8 * (p : Int) + 2).toNat = 26 + 8 * p)
    exact ⟨p, by omega, by omega, by omega, (h4 p (by omega) (by omega)).mpr (by omega), by omega, by omega⟩
end
end
