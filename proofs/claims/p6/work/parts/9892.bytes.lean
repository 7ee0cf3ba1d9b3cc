/-! T4: the bytes of the class, its tokens -/
section
section
variable {σ s t : ra_V} {B : Nat → Int} {bn a i k : Nat} {b x : Int}
/-- the class's bytes -/
def x4TB (σ : ra_V) (B : Nat → Int) (bn : Nat) : Prop := ra_g σ 175 1 = bn ∧ bn ≤ 500 ∧ (∀ i, i < bn → B i = ra_g σ 176 i ∧ 0 ≤ B i) ∧ ∀ i, bn ≤ i → B i = -1
theorem x4TB_k (h1 : ra_g s 175 1 = ra_g σ 175 1) (h2 : s 176 = σ 176) (h : x4TB σ B bn) : x4TB s B bn := by
  obtain ⟨a, b, c, d⟩ := h
  exact ⟨h1.trans a, b, fun i hi => by rw [ra_gk h2]; exact c i hi, d⟩
theorem x4TB_y (h : x4TB σ B bn) (h0 : 0 ≤ x) (h1 : x < bn) : ra_g σ 176 x.toNat = B x.toNat := ((h.2.2.1 x.toNat (by omega)).1).symm
theorem x4TB_n (h : x4TB σ B bn) (h1 : (bn : Int) ≤ x) : -1 = B x.toNat := (h.2.2.2 x.toNat (by omega)).symm
theorem x4TB_in (h : x4TB σ B bn) : ra_in (B i) := by
  by_cases c : i < bn
  · rw [(h.2.2.1 i c).1]; exact ra_in_g _ _ _
  · rw [h.2.2.2 i (by omega)]; unfold ra_in; omega
theorem x4bl_y (h : b = 32 ∨ b = 10) : tx_bl b = true := by rcases h with rfl | rfl <;> rfl
theorem x4bl_n (h : b ≠ 32) (h2 : b ≠ 10) : tx_bl b = false := by
  unfold tx_bl
  rw [Bool.or_eq_false_iff]
  exact ⟨by simpa using h, by simpa using h2⟩
theorem x4le_y (h : 97 ≤ b ∧ b ≤ 122) : tx_le b = true := decide_eq_true h
theorem x4le_n (h : ¬ (97 ≤ b ∧ b ≤ 122)) : tx_le b = false := decide_eq_false h
theorem x4di_y (h : 48 ≤ b ∧ b ≤ 57) : tx_di b = true := decide_eq_true h
theorem x4di_n (h : ¬ (48 ≤ b ∧ b ≤ 57)) : tx_di b = false := decide_eq_false h
theorem x4tv_y (hk : k < 3) (h : x = tx_v B a (Nat.min 3 k)) : x * 10 + B (a + k) - 48 = tx_v B a (Nat.min 3 (k + 1)) := by
  rw [show Nat.min 3 k = k from Nat.min_eq_right (by omega)] at h
  rw [show Nat.min 3 (k + 1) = k + 1 from Nat.min_eq_right (by omega)]
  show _ = 10 * tx_v B a k + (B (a + k) - 48)
  rw [h]
  omega
theorem x4tv_n (hk : 3 ≤ k) (h : x = tx_v B a (Nat.min 3 k)) : x = tx_v B a (Nat.min 3 (k + 1)) := by
  rw [show Nat.min 3 (k + 1) = 3 from Nat.min_eq_left (by omega)]
  rw [show Nat.min 3 k = 3 from Nat.min_eq_left (by omega)] at h
  exact h
/-- the class's token that begins at a -/
def x4NXC (B : Nat → Int) (bn : Nat) (s : ra_V) (a : Nat) : Prop := ra_g s 175 6 = (a : Nat) ∧ ra_g s 175 4 = (tx_e B bn a : Nat) ∧ (tx_k B bn a = 2 ∧ a + 3 < tx_e B bn a → ra_g s 175 5 = 4) ∧ (¬ (tx_k B bn a = 2 ∧ a + 3 < tx_e B bn a) → ra_g s 175 5 = tx_k B bn a) ∧ (tx_k B bn a = 2 → ra_g s 175 7 = tx_val B bn a) ∧ a ≤ bn ∧ a ≤ tx_e B bn a ∧ tx_e B bn a ≤ bn ∧ ra_in (tx_k B bn a)
theorem x4tk_0 (h : bn ≤ a) : tx_k B bn a = 0 := by unfold tx_k; rw [if_pos h]
theorem x4tk_1 (h : a < bn) (hl : tx_le (B a) = true) : tx_k B bn a = 1 := by unfold tx_k; rw [if_neg (by omega), if_pos hl]
theorem x4tk_2 (h : a < bn) (hl : tx_le (B a) = false) (hd : tx_di (B a) = true) : tx_k B bn a = 2 := by unfold tx_k; rw [if_neg (by omega), hl, if_neg (by decide), if_pos hd]
theorem x4tk_3 (h : a < bn) (hl : tx_le (B a) = false) (hd : tx_di (B a) = false) : tx_k B bn a = if B a = 59 then 3 else 4 := by unfold tx_k; rw [if_neg (by omega), hl, if_neg (by decide), hd, if_neg (by decide)]
theorem x4te_0 (h : bn ≤ a) : tx_e B bn a = a := by unfold tx_e; rw [if_pos h]
theorem x4te_1 (h : a < bn) (hl : tx_le (B a) = true) : tx_e B bn a = tx_sp tx_le B bn a := by unfold tx_e; rw [if_neg (by omega), if_pos hl]
theorem x4te_2 (h : a < bn) (hl : tx_le (B a) = false) (hd : tx_di (B a) = true) : tx_e B bn a = tx_sp tx_di B bn a := by unfold tx_e; rw [if_neg (by omega), hl, if_neg (by decide), if_pos hd]
theorem x4te_3 (h : a < bn) (hl : tx_le (B a) = false) (hd : tx_di (B a) = false) : tx_e B bn a = a + 1 := by unfold tx_e; rw [if_neg (by omega), hl, if_neg (by decide), hd, if_neg (by decide)]
theorem x4te_le (h : a ≤ bn) : a ≤ tx_e B bn a ∧ tx_e B bn a ≤ bn := by
  by_cases c : a = bn
  · rw [x4te_0 (by omega)]; omega
  · have := tx_e_gt (B := B) (n := bn) (a := a) (by omega)
    omega
theorem x4tk_in : ra_in (tx_k B bn a) := by
  unfold tx_k ra_in
  split
  · omega
  · split
    · omega
    · split
      · omega
      · split <;> omega
theorem x4nxc_0 (hs : ra_g s 175 6 = (a : Nat)) (hp : ra_g s 175 4 = (a : Nat)) (ht : ra_g s 175 5 = 0) (h : bn ≤ a) (h2 : a ≤ bn) : x4NXC B bn s a := by
  have e1 := x4tk_0 (B := B) h
  have e2 := x4te_0 (B := B) h
  have := x4tk_in (B := B) (bn := bn) (a := a)
  refine ⟨hs, by omega, fun q => by omega, fun q => by omega, fun q => by omega, h2, by omega, by omega, this⟩
theorem x4nxc_w (hs : ra_g s 175 6 = (a : Nat)) (hp : ra_g s 175 4 = (tx_sp tx_le B bn a : Nat)) (ht : ra_g s 175 5 = 1) (h : a < bn) (hl : tx_le (B a) = true) : x4NXC B bn s a := by
  have e1 := x4tk_1 h hl
  have e2 := x4te_1 h hl
  have e3 := x4te_le (B := B) (Nat.le_of_lt h)
  have := x4tk_in (B := B) (bn := bn) (a := a)
  refine ⟨hs, by omega, fun q => by omega, fun q => by omega, fun q => by omega, by omega, by omega, by omega, this⟩
theorem x4nxc_1 (hs : ra_g s 175 6 = (a : Nat)) (hp : ra_g s 175 4 = (a : Nat) + 1) (h : a < bn) (hl : tx_le (B a) = false) (hd : tx_di (B a) = false) (ht : (B a = 59 → ra_g s 175 5 = 3) ∧ (B a ≠ 59 → ra_g s 175 5 = 4)) : x4NXC B bn s a := by
  have e1 := x4tk_3 h hl hd
  have e2 := x4te_3 h hl hd
  have := x4tk_in (B := B) (bn := bn) (a := a)
  have e4 : tx_k B bn a = ra_g s 175 5 := by
    rw [e1]
    split
    · next q => exact (ht.1 q).symm
    · next q => exact (ht.2 q).symm
  have e5 : tx_k B bn a ≠ 2 := by
    rw [e1]
    split <;> omega
  refine ⟨hs, by omega, fun q => absurd q.1 e5, fun q => e4.symm, fun q => absurd q e5, by omega, by omega, by omega, this⟩
theorem x4nxc_n (hs : ra_g s 175 6 = (a : Nat)) (hp : ra_g s 175 4 = (tx_sp tx_di B bn a : Nat)) (h : a < bn) (hl : tx_le (B a) = false) (hd : tx_di (B a) = true) (ht : (3 < ra_g s 175 4 - ra_g s 175 6 → ra_g s 175 5 = 4) ∧ (ra_g s 175 4 - ra_g s 175 6 ≤ 3 → ra_g s 175 5 = 2)) (hv : ra_g s 175 7 = tx_v B a (Nat.min 3 (tx_sp tx_di B bn a - a))) : x4NXC B bn s a := by
  have e1 := x4tk_2 h hl hd
  have e2 := x4te_2 h hl hd
  have e3 := x4te_le (B := B) (Nat.le_of_lt h)
  have := x4tk_in (B := B) (bn := bn) (a := a)
  refine ⟨hs, by omega, fun q => by omega, fun q => by omega, fun _ => ?_, by omega, by omega, by omega, this⟩
  unfold tx_val
  rw [e2]
  exact hv
/-- a number read by the class -/
def x4NUM (B : Nat → Int) (bn : Nat) (σ s : ra_V) (z : Int) (i : Nat) (lo hi : Int) : Prop :=
  (z = 1 ∧ ∃ (v : Int) (e : Nat), tx_rd B bn i lo hi = .inr (v, e) ∧ ra_g s 175 7 = v ∧ ra_g s 175 4 = (e : Nat) ∧ e ≤ bn ∧ lo ≤ v ∧ v ≤ hi ∧ ra_g s 175 2 = ra_g σ 175 2 ∧ ra_g s 175 3 = ra_g σ 175 3 ∧ ra_g s 175 6 = (tx_a B bn i : Nat)) ∨
  (z = 0 ∧ ∃ (c : Int) (a : Nat), tx_rd B bn i lo hi = .inl (c, a) ∧ ra_g s 175 2 = c ∧ ra_g s 175 3 = (a : Nat))
theorem x4num_1 {z lo hi : Int} (hN : x4NXC B bn t (tx_a B bn i)) (ht : ra_g t 175 5 ≠ 2) (hz : z = 0) (h : ra_g s 175 2 = 1 ∧ ra_g s 175 3 = ra_g t 175 6) : x4NUM B bn σ s z i lo hi := by
  obtain ⟨n1, n2, n3, n4, n5, n6, n7, n8, -⟩ := hN
  refine Or.inr ⟨hz, 1, tx_a B bn i, ?_, by omega, by omega⟩
  unfold tx_rd
  rw [if_neg (by omega)]
theorem x4num_2 {z lo hi : Int} (hN : x4NXC B bn t (tx_a B bn i)) (ht : ra_g t 175 5 = 2) (hv : ¬ (lo ≤ ra_g t 175 7 ∧ ra_g t 175 7 ≤ hi)) (hz : z = 0) (h : ra_g s 175 2 = 2 ∧ ra_g s 175 3 = ra_g t 175 6) : x4NUM B bn σ s z i lo hi := by
  obtain ⟨n1, n2, n3, n4, n5, n6, n7, n8, -⟩ := hN
  have k2 : tx_k B bn (tx_a B bn i) = 2 ∧ tx_e B bn (tx_a B bn i) - tx_a B bn i ≤ 3 := by omega
  have e := n5 k2.1
  refine Or.inr ⟨hz, 2, tx_a B bn i, ?_, by omega, by omega⟩
  unfold tx_rd
  rw [if_pos k2, if_neg (by omega)]
theorem x4num_y {z lo hi : Int} (hN : x4NXC B bn s (tx_a B bn i)) (ht : ra_g s 175 5 = 2) (hv : lo ≤ ra_g s 175 7 ∧ ra_g s 175 7 ≤ hi) (hz : z = 1) (h : ra_g s 175 2 = ra_g σ 175 2 ∧ ra_g s 175 3 = ra_g σ 175 3) : x4NUM B bn σ s z i lo hi := by
  obtain ⟨n1, n2, n3, n4, n5, n6, n7, n8, -⟩ := hN
  have k2 : tx_k B bn (tx_a B bn i) = 2 ∧ tx_e B bn (tx_a B bn i) - tx_a B bn i ≤ 3 := by omega
  have e := n5 k2.1
  refine Or.inl ⟨hz, tx_val B bn (tx_a B bn i), tx_e B bn (tx_a B bn i), ?_, e, n2, n8, by omega, by omega, h.1, h.2, n1⟩
  unfold tx_rd
  rw [if_pos k2, if_pos (by omega)]
def x4SEM (B : Nat → Int) (bn : Nat) (σ s : ra_V) (z : Int) (i : Nat) : Prop :=
  (z = 1 ∧ ∃ e : Nat, tx_semi B bn i = .inr e ∧ ra_g s 175 4 = (e : Nat) ∧ e ≤ bn ∧ ra_g s 175 2 = ra_g σ 175 2 ∧ ra_g s 175 3 = ra_g σ 175 3) ∨
  (z = 0 ∧ ∃ (c : Int) (a : Nat), tx_semi B bn i = .inl (c, a) ∧ ra_g s 175 2 = c ∧ ra_g s 175 3 = (a : Nat))
theorem x4sem_n {z : Int} (hN : x4NXC B bn t (tx_a B bn i)) (ht : ra_g t 175 5 ≠ 3) (hz : z = 0) (h : ra_g s 175 2 = 1 ∧ ra_g s 175 3 = ra_g t 175 6) : x4SEM B bn σ s z i := by
  obtain ⟨n1, n2, n3, n4, n5, n6, n7, n8, -⟩ := hN
  refine Or.inr ⟨hz, 1, tx_a B bn i, ?_, by omega, by omega⟩
  unfold tx_semi
  rw [if_neg (by omega)]
theorem x4sem_y {z : Int} (hN : x4NXC B bn s (tx_a B bn i)) (ht : ra_g s 175 5 = 3) (hz : z = 1) (h : ra_g s 175 2 = ra_g σ 175 2 ∧ ra_g s 175 3 = ra_g σ 175 3) : x4SEM B bn σ s z i := by
  obtain ⟨n1, n2, n3, n4, n5, n6, n7, n8, -⟩ := hN
  refine Or.inl ⟨hz, tx_e B bn (tx_a B bn i), ?_, n2, n8, h.1, h.2⟩
  unfold tx_semi
  rw [if_pos (by omega)]
/-- a word is this one -/
theorem x4isw_iff {w : List Char} : tx_isw B bn a w = true ↔ (tx_k B bn a = 1 ∧ tx_e B bn a - a = w.length ∧ ∀ j, j < w.length → B (a + j) = ((w.getD j 'a').toNat : Int)) := by
  unfold tx_isw
  simp only [Bool.and_eq_true, beq_iff_eq, List.all_eq_true, List.mem_range]
theorem x4isw_n {w : List Char} {c : Char} {j : Nat} (h : w[j]? = some c) (hb : B (a + j) ≠ (c.toNat : Int)) : ¬ tx_isw B bn a w = true := by
  intro q
  have hj : j < w.length := (List.getElem?_eq_some_iff.mp h).1
  have := (x4isw_iff.mp q).2.2 j hj
  rw [List.getD_eq_getElem?_getD, h] at this
  exact hb this
theorem x4isw_s {w : List Char} {c : Char} {v : Int} (h0 : 0 ≤ v) (hs : ∀ j : Nat, (j : Int) < v → B (a + j) = ((w.getD j 'a').toNat : Int)) (h : w[v.toNat]? = some c) (hb : B (a + v.toNat) = (c.toNat : Int)) : ∀ j : Nat, (j : Int) < v + 1 → B (a + j) = ((w.getD j 'a').toNat : Int) := by
  intro j hj
  by_cases e : j = v.toNat
  · rw [e, hb, List.getD_eq_getElem?_getD, h]; rfl
  · exact hs j (by omega)
theorem x4ch_in (c : Char) : ra_in (c.toNat : Int) := by
  have := c.valid
  have h : c.toNat < 1114112 := by
    rcases this with h | h
    · have : c.val.toNat < 55296 := h
      show c.val.toNat < _
      omega
    · have : c.val.toNat < 1114112 := h.2
      exact this
  unfold ra_in
  omega
end
end
