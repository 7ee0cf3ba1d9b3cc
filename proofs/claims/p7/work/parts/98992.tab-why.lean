/-! T5: each answer of the lists of reasons -/
section
section
variable {σ s τ : ra_V} {p a m to c w : Int}
theorem x5min_in {a b : Int} (h1 : ra_in a) (h2 : ra_in b) : ra_in (min a b) := by unfold ra_in at *; omega
theorem x5why_1 (h : ¬ US τ a m) : 1 = x5why τ a m := (x5cif_y h).symm
theorem x5why_2 (h : US τ a m) (h2 : a % ra_g τ 180 3 ≠ 0) : 2 = x5why τ a m := ((x5cif_n (fun q => q h)).trans (x5cif_y h2)).symm
theorem x5why_3 (h : US τ a m) (h2 : a % ra_g τ 180 3 = 0) (h3 : TK τ a m (-1)) : 3 = x5why τ a m := ((x5cif_n (fun q => q h)).trans ((x5cif_n (fun q => q h2)).trans (x5cif_y h3))).symm
theorem x5why_4 (h : US τ a m) (h2 : a % ra_g τ 180 3 = 0) (h3 : ¬ TK τ a m (-1)) (h4 : x5BSY τ a m) : 4 = x5why τ a m := ((x5cif_n (fun q => q h)).trans ((x5cif_n (fun q => q h2)).trans ((x5cif_n h3).trans (x5cif_y h4)))).symm
theorem x5why_0 (h : US τ a m) (h2 : a % ra_g τ 180 3 = 0) (h3 : ¬ TK τ a m (-1)) (h4 : ¬ x5BSY τ a m) : 0 = x5why τ a m := ((x5cif_n (fun q => q h)).trans ((x5cif_n (fun q => q h2)).trans ((x5cif_n h3).trans (x5cif_n h4)))).symm
theorem x5whyS_in : ra_in (x5whyS τ p m) := x5cif_in (by unfold ra_in; omega) (x5cif_in (by unfold ra_in; omega) (x5cif_in (by unfold ra_in; omega) (x5cif_in (by unfold ra_in; omega) (by unfold ra_in; omega))))
theorem x5whyS_3 (h : m < wq τ p 3) : 3 = x5whyS τ p m := (x5cif_y h).symm
theorem x5whyS_4 (h : ¬ m < wq τ p 3) (h2 : ¬ US τ (wq τ p 1) m) : 4 = x5whyS τ p m := ((x5cif_n h).trans (x5cif_y h2)).symm
theorem x5whyS_5 (h : ¬ m < wq τ p 3) (h2 : US τ (wq τ p 1) m) (h3 : TK τ (wq τ p 1) m p) : 5 = x5whyS τ p m := ((x5cif_n h).trans ((x5cif_n (fun q => q h2)).trans (x5cif_y h3))).symm
theorem x5whyS_6 (h : ¬ m < wq τ p 3) (h2 : US τ (wq τ p 1) m) (h3 : ¬ TK τ (wq τ p 1) m p) (h4 : x5BSY τ (wq τ p 1 + wq τ p 2) (m - wq τ p 2)) : 6 = x5whyS τ p m := ((x5cif_n h).trans ((x5cif_n (fun q => q h2)).trans ((x5cif_n h3).trans (x5cif_y h4)))).symm
theorem x5whyS_0 (h : ¬ m < wq τ p 3) (h2 : US τ (wq τ p 1) m) (h3 : ¬ TK τ (wq τ p 1) m p) (h4 : ¬ x5BSY τ (wq τ p 1 + wq τ p 2) (m - wq τ p 2)) : 0 = x5whyS τ p m := ((x5cif_n h).trans ((x5cif_n (fun q => q h2)).trans ((x5cif_n h3).trans (x5cif_n h4)))).symm
theorem x5whyR_in : ra_in (x5whyR τ p m) := x5cif_in (by unfold ra_in; omega) (x5cif_in (by unfold ra_in; omega) x5whyS_in)
theorem x5whyR_1 (h : wq τ p 5 = 1) : 1 = x5whyR τ p m := (x5cif_y h).symm
theorem x5whyR_2 (h : wq τ p 5 ≠ 1) (h2 : ra_g τ 180 16 = p) : 2 = x5whyR τ p m := ((x5cif_n h).trans (x5cif_y h2)).symm
theorem x5whyR_s (h : wq τ p 5 ≠ 1) (h2 : ra_g τ 180 16 ≠ p) : x5whyS τ p m = x5whyR τ p m := ((x5cif_n h).trans (x5cif_n h2)).symm
theorem x5whyM_in : ra_in (x5whyM τ p to c) := x5cif_in (by unfold ra_in; omega) (x5cif_in (by unfold ra_in; omega) (x5cif_in (by unfold ra_in; omega) (x5cif_in (by unfold ra_in; omega) (x5cif_in (by unfold ra_in; omega) (x5cif_in (by unfold ra_in; omega) (x5cif_in (by unfold ra_in; omega) (by unfold ra_in; omega)))))))
theorem x5whyM_1 (h1 : wq τ p 5 = 1) : 1 = x5whyM τ p to c := (x5cif_y h1).symm
theorem x5whyM_2 (h1 : wq τ p 5 ≠ 1) (h2 : ra_g τ 180 16 ≠ -1) : 2 = x5whyM τ p to c := ((x5cif_n h1).trans (x5cif_y h2)).symm
theorem x5whyM_3 (h1 : wq τ p 5 ≠ 1) (h2 : ra_g τ 180 16 = -1) (h3 : to = wq τ p 1) : 3 = x5whyM τ p to c := ((x5cif_n h1).trans ((x5cif_n (fun q => q h2)).trans (x5cif_y h3))).symm
theorem x5whyM_4 (h1 : wq τ p 5 ≠ 1) (h2 : ra_g τ 180 16 = -1) (h3 : to ≠ wq τ p 1) (h4 : ¬ US τ to (wq τ p 2)) : 4 = x5whyM τ p to c := ((x5cif_n h1).trans ((x5cif_n (fun q => q h2)).trans ((x5cif_n h3).trans (x5cif_y h4)))).symm
theorem x5whyM_5 (h1 : wq τ p 5 ≠ 1) (h2 : ra_g τ 180 16 = -1) (h3 : to ≠ wq τ p 1) (h4 : US τ to (wq τ p 2)) (h5 : to % ra_g τ 180 3 ≠ 0) : 5 = x5whyM τ p to c := ((x5cif_n h1).trans ((x5cif_n (fun q => q h2)).trans ((x5cif_n h3).trans ((x5cif_n (fun q => q h4)).trans (x5cif_y h5))))).symm
theorem x5whyM_6 (h1 : wq τ p 5 ≠ 1) (h2 : ra_g τ 180 16 = -1) (h3 : to ≠ wq τ p 1) (h4 : US τ to (wq τ p 2)) (h5 : to % ra_g τ 180 3 = 0) (h6 : TK τ to (wq τ p 2) p) : 6 = x5whyM τ p to c := ((x5cif_n h1).trans ((x5cif_n (fun q => q h2)).trans ((x5cif_n h3).trans ((x5cif_n (fun q => q h4)).trans ((x5cif_n (fun q => q h5)).trans (x5cif_y h6)))))).symm
theorem x5whyM_7 (h1 : wq τ p 5 ≠ 1) (h2 : ra_g τ 180 16 = -1) (h3 : to ≠ wq τ p 1) (h4 : US τ to (wq τ p 2)) (h5 : to % ra_g τ 180 3 = 0) (h6 : ¬ TK τ to (wq τ p 2) p) (h7 : rfar (wq τ p 1) to < min c (wq τ p 2)) (h8 : x5SCG τ p to (min c (wq τ p 2)) (-1)) : 7 = x5whyM τ p to c :=
  ((x5cif_n h1).trans ((x5cif_n (fun q => q h2)).trans ((x5cif_n h3).trans ((x5cif_n (fun q => q h4)).trans ((x5cif_n (fun q => q h5)).trans ((x5cif_n h6).trans (x5cif_y ⟨h7, by
    rcases h8 with ⟨-, q⟩ | ⟨q, -⟩
    · exact q
    · exact absurd q.1 (by omega)⟩))))))).symm
theorem x5whyM_0 (h1 : wq τ p 5 ≠ 1) (h2 : ra_g τ 180 16 = -1) (h3 : to ≠ wq τ p 1) (h4 : US τ to (wq τ p 2)) (h5 : to % ra_g τ 180 3 = 0) (h6 : ¬ TK τ to (wq τ p 2) p) (h7 : ¬ rfar (wq τ p 1) to < min c (wq τ p 2)) : 0 = x5whyM τ p to c :=
  ((x5cif_n h1).trans ((x5cif_n (fun q => q h2)).trans ((x5cif_n h3).trans ((x5cif_n (fun q => q h4)).trans ((x5cif_n (fun q => q h5)).trans ((x5cif_n h6).trans (x5cif_n (fun q => h7 q.1)))))))).symm
theorem x5whyM_s {z : Int} (h1 : wq τ p 5 ≠ 1) (h2 : ra_g τ 180 16 = -1) (h3 : to ≠ wq τ p 1) (h4 : US τ to (wq τ p 2)) (h5 : to % ra_g τ 180 3 = 0) (h6 : ¬ TK τ to (wq τ p 2) p) (h8 : x5SCG τ p to (min c (wq τ p 2)) z) (hz : z ≠ -1) : 0 = x5whyM τ p to c :=
  ((x5cif_n h1).trans ((x5cif_n (fun q => q h2)).trans ((x5cif_n h3).trans ((x5cif_n (fun q => q h4)).trans ((x5cif_n (fun q => q h5)).trans ((x5cif_n h6).trans (x5cif_n (fun q => by
    rcases h8 with ⟨q8, -⟩ | ⟨q8, -⟩
    · exact hz q8
    · exact q.2 _ q8)))))))).symm
/-- what of it a move needs -/
theorem x5whyM_ok (h : x5whyM τ p to c = 0) : wq τ p 5 ≠ 1 ∧ ra_g τ 180 16 = -1 ∧ to ≠ wq τ p 1 ∧ US τ to (wq τ p 2) ∧ to % ra_g τ 180 3 = 0 ∧ ¬ TK τ to (wq τ p 2) p ∧ (rfar (wq τ p 1) to < min c (wq τ p 2) → ∃ q, x5RUN τ p to (min c (wq τ p 2)) q) := by
  by_cases h1 : wq τ p 5 = 1
  · have := x5whyM_1 (to := to) (c := c) h1; omega
  · by_cases h2 : ra_g τ 180 16 = -1
    · by_cases h3 : to = wq τ p 1
      · have := x5whyM_3 (c := c) h1 h2 h3; omega
      · by_cases h4 : US τ to (wq τ p 2)
        · by_cases h5 : to % ra_g τ 180 3 = 0
          · by_cases h6 : TK τ to (wq τ p 2) p
            · have := x5whyM_6 (c := c) h1 h2 h3 h4 h5 h6; omega
            · refine ⟨h1, h2, h3, h4, h5, h6, fun h7 => Classical.byContradiction fun h8 => ?_⟩
              have := x5whyM_7 (c := c) h1 h2 h3 h4 h5 h6 h7 (Or.inl ⟨rfl, fun q hq => h8 ⟨q, hq⟩⟩)
              omega
          · have := x5whyM_5 (c := c) h1 h2 h3 h4 h5; omega
        · have := x5whyM_4 (c := c) h1 h2 h3 h4; omega
    · have := x5whyM_2 (to := to) (c := c) h1 h2; omega
theorem x5sci_g {v k : Int} (h : SCI σ p to m v k) (hk : 0 ≤ k) (hc : CAN σ p to k) (hn : v + 1 = m) : x5SCG σ p to m k :=
  Or.inr ⟨⟨hk, fun j a b => by
    by_cases e : j = k
    · rw [e]; exact hc
    · exact h.2.1 j (by omega) (by omega)⟩, fun q hq hr => h.2.2.2 q hq hr.2⟩
theorem x5em_t {a b : Int} (h : 0 ≤ a) : a.tmod b = a % b := Int.tmod_eq_emod_of_nonneg h
/-! masks: a bit for each partition of which something holds -/
section
variable {P Q : Nat → Prop}
noncomputable def x5bq (P : Nat → Prop) (q : Nat) : Nat := @ite Nat (P q) (Classical.propDecidable (P q)) 1 0
theorem x5bq_y {q : Nat} (h : P q) : x5bq P q = 1 := @if_pos (P q) (Classical.propDecidable (P q)) h Nat 1 0
theorem x5bq_n {q : Nat} (h : ¬ P q) : x5bq P q = 0 := @if_neg (P q) (Classical.propDecidable (P q)) h Nat 1 0
theorem x5bq_b {q : Nat} : x5bq P q = 0 ∨ x5bq P q = 1 := by
  by_cases h : P q
  · exact Or.inr (x5bq_y h)
  · exact Or.inl (x5bq_n h)
theorem x5bq_i {q : Nat} : x5bq P q = 1 ↔ P q := by
  by_cases h : P q
  · exact iff_of_true (x5bq_y h) h
  · exact iff_of_false (by rw [x5bq_n h]; decide) h
noncomputable def x5mskN (P : Nat → Prop) : Nat → Nat
  | 0 => 0
  | k + 1 => x5mskN P k + 2 ^ k * x5bq P k
theorem x5mskN_y {k : Nat} (h : P k) : x5mskN P (k + 1) = x5mskN P k + 2 ^ k := by
  show x5mskN P k + 2 ^ k * x5bq P k = _
  rw [x5bq_y h, Nat.mul_one]
theorem x5mskN_n {k : Nat} (h : ¬ P k) : x5mskN P (k + 1) = x5mskN P k := by
  show x5mskN P k + 2 ^ k * x5bq P k = _
  rw [x5bq_n h, Nat.mul_zero, Nat.add_zero]
theorem x5mskN_lt : ∀ k : Nat, x5mskN P k < 2 ^ k
  | 0 => Nat.zero_lt_one
  | k + 1 => by
    have h := x5mskN_lt k
    have e : 2 ^ (k + 1) = 2 ^ k + 2 ^ k := by rw [Nat.pow_succ]; omega
    by_cases c : P k
    · rw [x5mskN_y c]; omega
    · rw [x5mskN_n c]; omega
theorem x5msk_in : ra_in ((x5mskN P 8 : Nat) : Int) := by
  have := x5mskN_lt (P := P) 8
  unfold ra_in
  omega
theorem x5mskN_8 : x5mskN P 8 = x5bq P 0 + 2 * x5bq P 1 + 4 * x5bq P 2 + 8 * x5bq P 3 + 16 * x5bq P 4 + 32 * x5bq P 5 + 64 * x5bq P 6 + 128 * x5bq P 7 := by
  show 0 + 2 ^ 0 * x5bq P 0 + 2 ^ 1 * x5bq P 1 + 2 ^ 2 * x5bq P 2 + 2 ^ 3 * x5bq P 3 + 2 ^ 4 * x5bq P 4 + 2 ^ 5 * x5bq P 5 + 2 ^ 6 * x5bq P 6 + 2 ^ 7 * x5bq P 7 = _
  omega
theorem x5msk_c : ∀ k : Nat, (∀ q, q < k → (P q ↔ Q q)) → x5mskN P k = x5mskN Q k
  | 0, _ => rfl
  | k + 1, h => by
    have e := x5msk_c k (fun q hq => h q (by omega))
    by_cases c : P k
    · rw [x5mskN_y c, x5mskN_y ((h k (by omega)).mp c), e]
    · rw [x5mskN_n c, x5mskN_n (fun z => c ((h k (by omega)).mpr z)), e]
theorem x5msk_nz : x5mskN P 8 ≠ 0 ↔ ∃ q, q < 8 ∧ P q := by
  have b := fun q => x5bq_b (P := P) (q := q)
  constructor
  · intro h
    apply Classical.byContradiction
    intro c
    have z : ∀ q, q < 8 → x5bq P q = 0 := fun q hq => x5bq_n (fun hP => c ⟨q, hq, hP⟩)
    rw [x5mskN_8, z 0 (by omega), z 1 (by omega), z 2 (by omega), z 3 (by omega), z 4 (by omega), z 5 (by omega), z 6 (by omega), z 7 (by omega)] at h
    exact h rfl
  · rintro ⟨q, hq, hP⟩ h
    have h1 := x5bq_y hP
    rw [x5mskN_8] at h
    rcases (show q = 0 ∨ q = 1 ∨ q = 2 ∨ q = 3 ∨ q = 4 ∨ q = 5 ∨ q = 6 ∨ q = 7 by omega) with rfl | rfl | rfl | rfl | rfl | rfl | rfl | rfl <;> omega
/-- a bit put in -/
theorem x5or_b : ∀ k : Nat, k < 8 → ∀ n : Nat, n < 2 ^ k → ra_op .ior (n : Int) (ra_op .ishl 1 (k : Int)) = ((n + 2 ^ k : Nat) : Int) := by decide +kernel
theorem x5or_0 : ∀ n : Nat, n < 256 → ra_op .ior (n : Int) 0 = (n : Int) := by decide +kernel
/-- a bit taken out -/
theorem x5and_b : ∀ i : Nat, i < 8 → ∀ n : Nat, n < 256 → (ra_op .iand (n : Int) (ra_op .ixor (ra_op .ishl 1 (i : Int)) (-1)) ≠ 0 ↔ n - (n / 2 ^ i % 2) * 2 ^ i ≠ 0) := by decide +kernel
theorem x5msk_o {i : Nat} (hi : i < 8) : ra_op .iand ((x5mskN P 8 : Nat) : Int) (ra_op .ixor (ra_op .ishl 1 (i : Int)) (-1)) ≠ 0 ↔ ∃ q, q < 8 ∧ q ≠ i ∧ P q := by
  rw [x5and_b i hi _ (x5mskN_lt 8)]
  have e : ∀ q, x5bq (fun j => j ≠ i ∧ P j) q = if q = i then 0 else x5bq P q := fun q => by
    by_cases c : q = i
    · rw [if_pos c]; exact x5bq_n (fun z => z.1 c)
    · rw [if_neg c]
      by_cases d : P q
      · rw [x5bq_y d]; exact x5bq_y ⟨c, d⟩
      · rw [x5bq_n d]; exact x5bq_n (fun z => d z.2)
  have h : x5mskN P 8 - (x5mskN P 8 / 2 ^ i % 2) * 2 ^ i = x5mskN (fun j => j ≠ i ∧ P j) 8 := by
    rw [x5mskN_8, x5mskN_8, e 0, e 1, e 2, e 3, e 4, e 5, e 6, e 7]
    have b0 := x5bq_b (P := P) (q := 0)
    have b1 := x5bq_b (P := P) (q := 1)
    have b2 := x5bq_b (P := P) (q := 2)
    have b3 := x5bq_b (P := P) (q := 3)
    have b4 := x5bq_b (P := P) (q := 4)
    have b5 := x5bq_b (P := P) (q := 5)
    have b6 := x5bq_b (P := P) (q := 6)
    have b7 := x5bq_b (P := P) (q := 7)
    rcases (show i = 0 ∨ i = 1 ∨ i = 2 ∨ i = 3 ∨ i = 4 ∨ i = 5 ∨ i = 6 ∨ i = 7 by omega) with rfl | rfl | rfl | rfl | rfl | rfl | rfl | rfl <;> simp only [Nat.reducePow, Nat.reduceEqDiff, if_true, if_false, reduceIte] <;> omega
  rw [h, x5msk_nz]
/-- what stands in an area, in the numbers of the row -/
theorem x5mt_q {D q : Nat} (hT : x5CT τ σ D) (hq : q < 8) : x4MT σ D a m q ↔ (wq τ q 0 = 1 ∧ a < wq τ q 1 + wq τ q 2 ∧ wq τ q 1 < a + m) := by
  have e := x5CT_e hT hq
  constructor
  · rintro ⟨m1, m2, m3⟩
    have he := e.mp m1
    have hp := x5CT_p hT hq he
    exact ⟨he, by omega, by omega⟩
  · rintro ⟨m1, m2, m3⟩
    have hp := x5CT_p hT hq m1
    exact ⟨e.mpr m1, by omega, by omega⟩
theorem x5tk_m {D : Nat} (hT : x5CT τ σ D) : x5mskN (fun q => x4MT σ D a m q) 8 ≠ 0 ↔ TK τ a m (-1) := by
  rw [x5msk_nz]
  constructor
  · rintro ⟨q, hq, h⟩
    have := (x5mt_q hT hq).mp h
    exact ⟨q, by omega, by omega, by omega, this⟩
  · rintro ⟨q, q0, q1, -, h⟩
    have e : ((q.toNat : Nat) : Int) = q := by omega
    exact ⟨q.toNat, by omega, (x5mt_q hT (by omega)).mpr (by rw [e]; exact h)⟩
theorem x5tk_o {D i : Nat} (hT : x5CT τ σ D) (hi : i < 8) : ra_op .iand ((x5mskN (fun q => x4MT σ D a m q) 8 : Nat) : Int) (ra_op .ixor (ra_op .ishl 1 (i : Int)) (-1)) ≠ 0 ↔ TK τ a m (i : Int) := by
  rw [x5msk_o hi]
  constructor
  · rintro ⟨q, hq, hn, h⟩
    have := (x5mt_q hT hq).mp h
    exact ⟨q, by omega, by omega, by omega, this⟩
  · rintro ⟨q, q0, q1, hn, h⟩
    have e : ((q.toNat : Nat) : Int) = q := by omega
    exact ⟨q.toNat, by omega, by omega, (x5mt_q hT (by omega)).mpr (by rw [e]; exact h)⟩
theorem x5CT_ei {D : Nat} {v : Int} (hT : x5CT τ σ D) (h0 : 0 ≤ v) (h8 : v < 8) : 0 < ra_g σ (D + 5 + v.toNat) 2 ↔ wq τ v 0 = 1 := by
  have h := x5CT_e hT (p := v.toNat) (by omega)
  rw [show ((v.toNat : Nat) : Int) = v by omega] at h
  exact h
theorem x5CT_pi {D : Nat} {v : Int} (hT : x5CT τ σ D) (h0 : 0 ≤ v) (h8 : v < 8) (he : wq τ v 0 = 1) : ra_g σ (D + 5 + v.toNat) 1 = wq τ v 1 ∧ ra_g σ (D + 5 + v.toNat) 2 = wq τ v 2 ∧ ra_g σ (D + 5 + v.toNat) 3 = wq τ v 3 ∧ ra_g σ (D + 5 + v.toNat) 4 = wq τ v 4 ∧ ra_g σ (D + 5 + v.toNat) 5 = wq τ v 5 ∧ ra_g σ (D + 5 + v.toNat) 6 = wq τ v 6 ∧ ra_g σ (D + 5 + v.toNat) 7 = wq τ v 7 := by
  have e : ((v.toNat : Nat) : Int) = v := by omega
  have h := x5CT_p hT (p := v.toNat) (by omega) (by rw [e]; exact he)
  rw [e] at h
  exact h
/-- a run of sectors, told by its ends -/
theorem x5run_iff {to m q : Int} (hW : WF τ) (hm : 1 ≤ m) (hs : 1 ≤ wq τ p 2) (h1 : 0 ≤ ra_g τ 180 1) : x5RUN τ p to m q ↔ (US τ q m ∧ ¬ TK τ q m (-1) ∧ ¬ (q < to + wq τ p 2 ∧ to < q + m)) := by
  constructor
  · rintro ⟨q0, h⟩
    have ha := h q (by omega) (by omega)
    have hb := h (q + m - 1) (by omega) (by omega)
    have ua := ha.1
    have ub := hb.1
    unfold US at ua ub
    refine ⟨⟨hm, by omega, by omega⟩, ?_, ?_⟩
    · rintro ⟨j, j0, j8, jn, je, k1, k2⟩
      have hj := WF_p hW j0 j8 je
      by_cases c : wq τ j 1 ≤ q
      · exact ha.2.1 ⟨j, j0, j8, jn, je, k1, by omega⟩
      · exact (h (wq τ j 1) (by omega) (by omega)).2.1 ⟨j, j0, j8, jn, je, by omega, by omega⟩
    · rintro ⟨k1, k2⟩
      by_cases c : to ≤ q
      · exact ha.2.2 ⟨k1, by omega⟩
      · exact (h to (by omega) (by omega)).2.2 ⟨by omega, by omega⟩
  · rintro ⟨hu, ht, hn⟩
    unfold US at hu
    refine ⟨by omega, fun j j1 j2 => ⟨⟨by omega, by omega, by omega⟩, ?_, fun z => hn ⟨by omega, by omega⟩⟩⟩
    rintro ⟨r, r0, r8, rn, re, k1, k2⟩
    exact ht ⟨r, r0, r8, rn, re, by omega, by omega⟩
/-- what stands in the way of a scratch area: none of its sectors x5up to an end behind the start may be taken -/
def x5SIW (τ : ra_V) (p to a m z : Int) : Prop := (z = -1 ∧ ¬ TK τ a m (-1) ∧ ¬ (a < to + wq τ p 2 ∧ to < a + m)) ∨ (0 ≤ z ∧ z < a + m ∧ ∃ e, a < e ∧ z < e ∧ ∀ k, z ≤ k → k < e → ¬ CAN τ p to k)
/-- a start with something in the way: so are all down to it -/
theorem x5siw_s {to a m z : Int} (hm : 1 ≤ m) (h : x5SIW τ p to a m z) (hz : z ≠ -1) (hq : ∀ q, a < q → ¬ x5RUN τ p to m q) : ∀ q, z - m < q → ¬ x5RUN τ p to m q := by
  rcases h with ⟨e, -⟩ | ⟨z0, z1, e, e1, e3, e2⟩
  · exact absurd e hz
  · intro q h1 hr
    by_cases c : a < q
    · exact hq q c hr
    · by_cases d : z ≤ q
      · exact e2 q d (by omega) (hr.2 q (by omega) (by omega))
      · exact e2 z (by omega) (by omega) (hr.2 z (by omega) (by omega))
theorem x5siw_b {to a m z : Int} (h : x5SIW τ p to a m z) (hz : z ≠ -1) : 0 ≤ z ∧ z < a + m := by
  rcases h with ⟨q, -⟩ | ⟨z0, z1, -⟩
  · exact absurd q hz
  · exact ⟨z0, z1⟩
theorem x5siw_n {to a m z : Int} (h : x5SIW τ p to a m z) (hz : z = -1) : ¬ TK τ a m (-1) ∧ ¬ (a < to + wq τ p 2 ∧ to < a + m) := by
  rcases h with ⟨-, q⟩ | ⟨z0, -⟩
  · exact q
  · omega
theorem x5siw_t {to a m : Int} (h0 : 0 ≤ to) (h1 : to < a + m) (h2 : a < to + wq τ p 2) (hs : 1 ≤ wq τ p 2) : x5SIW τ p to a m to := Or.inr ⟨h0, h1, to + wq τ p 2, h2, by omega, fun k k1 k2 hc => hc.2.2 ⟨k2, by omega⟩⟩
theorem x5siw_p {D : Nat} {to v : Int} (hT : x5CT τ σ D) (hW : x5W2 τ) (h0 : 0 ≤ v) (h8 : v < 8) (hm : x4MT σ D a m v.toNat) : x5SIW τ p to a m (ra_g σ (D + 5 + v.toNat) 1) := by
  have he := (x5CT_ei hT h0 h8).mp hm.1
  have hp := x5CT_pi hT h0 h8 he
  have hw := WF_p hW.1 h0 h8 he
  have ha := WF_a hW.1
  unfold WFa at ha
  have m2 := hm.2.1
  have m3 := hm.2.2
  exact Or.inr ⟨by omega, m2, ra_g σ (D + 5 + v.toNat) 1 + ra_g σ (D + 5 + v.toNat) 2, m3, by omega, fun k k1 k2 hc => hc.2.1 ⟨v, h0, h8, by omega, he, by omega, by omega⟩⟩
theorem x5tk_q {D : Nat} (hT : x5CT τ σ D) : TK τ a m (-1) ↔ ∃ j : Nat, j < 8 ∧ x4MT σ D a m j := by
  rw [← x5tk_m hT, x5msk_nz]
theorem x5CT_bd {D : Nat} (hT : x5CT τ σ D) (hW : WF τ) : x4BD σ D := fun p hp h0 => by
  have he := (x5CT_e hT hp).mp h0
  have hq := x5CT_p hT hp he
  have hw := WF_p hW (p := p) (by omega) (by omega) he
  have ha := WF_a hW
  unfold WFa at ha
  omega
end
/-! calls that answer a partition or none, of which something holds -/
section
variable {G : ri_Tb} {sh : ra_Sh} {b d mi pc : Nat} {M : ri_Mt} {L : List (Option Jvm.Term)} {st rest args : List Jvm.Term} {σ : ra_V} {Qq : ra_Q} {ins : Instr} {S : ra_V → Prop} {A : Prop} {Bq : Nat → Prop} {D : Nat}
theorem x5cPC (hC : ra_C G sh 0 d mi args σ (fun r s => ((r = .inl (some .null) ∧ A) ∨ ∃ q : Nat, q < 8 ∧ Bq q ∧ r = .inl (some (.index (D + 5 + q)))) ∧ S s)) (hd : (ri_co M)[pc]? = some (some (ins, 3))) (ht : ra_ct G sh M ins st args rest mi) (k0 : ∀ s, A → S s → ra_P G sh b d M (pc + 3) L (.null :: rest) s Qq) (k : ∀ (j : Nat) s, j < 8 → Bq j → S s → ra_P G sh b d M (pc + 3) L (.index (D + 5 + j) :: rest) s Qq) : ra_P G sh b d M pc L st σ Qq :=
  ra_callA hC hd ht (fun E s h => by rcases h.1 with ⟨e, -⟩ | ⟨j, -, -, e⟩ <;> cases e) (fun t s h => by
    obtain ⟨⟨e, hA⟩ | ⟨j, hj, hB, e⟩, hs⟩ := h
    · cases e; exact k0 s hA hs
    · cases e; exact k j s hj hB hs)
theorem x5cPCp (hC : ra_C G sh 0 d mi args σ (fun r s => ((r = .inl (some .null) ∧ A) ∨ ∃ q : Nat, q < 8 ∧ Bq q ∧ r = .inl (some (.index (D + 5 + q)))) ∧ s = σ)) (hd : (ri_co M)[pc]? = some (some (ins, 3))) (ht : ra_ct G sh M ins st args rest mi) (k0 : A → ra_P G sh b d M (pc + 3) L (.null :: rest) σ Qq) (k : ∀ (j : Nat), j < 8 → Bq j → ra_P G sh b d M (pc + 3) L (.index (D + 5 + j) :: rest) σ Qq) : ra_P G sh b d M pc L st σ Qq :=
  x5cPC (S := fun s => s = σ) hC hd ht (fun s hA hs => by rw [hs]; exact k0 hA) (fun j s hj hB hs => by rw [hs]; exact k j hj hB)
end
end
end
