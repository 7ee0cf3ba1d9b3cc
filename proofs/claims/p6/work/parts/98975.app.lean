/-! T4: bytes that are put in -/
section
section
variable {σ s t : ra_V} {f g g2 : Nat → Int} {L i k : Nat} {w v a b c d e : Int}
theorem x4bv_sh (w : BitVec 32) (n : Nat) (hn : n ≤ 24) : (w >>> n) &&& 255#32 = (w.sshiftRight n) &&& 255#32 := by
  apply BitVec.eq_of_getLsbD_eq
  intro i hi
  rw [BitVec.getLsbD_and, BitVec.getLsbD_and, BitVec.getLsbD_ushiftRight, BitVec.getLsbD_sshiftRight]
  by_cases c : i < 8
  · have h1 : n + i < 32 := by omega
    simp [h1, Nat.not_le.mpr hi]
  · have h2 : (255#32).getLsbD i = false := by
      rw [BitVec.getLsbD_ofNat, show (255 : Nat) = 2 ^ 8 - 1 by decide, Nat.testBit_two_pow_sub_one]
      simp [c]
    rw [h2, Bool.and_false, Bool.and_false]
/-- a byte of a word: the k-th from the left -/
def x4b8 (w : Int) (k : Nat) : Int := ra_op .iand (ra_op .ishr w (24 - 8 * (k : Int))) 255
theorem x4op_i (o : Binary) (x y : Int) : Int32.ofInt (ra_op o x y) = ri_b32 o (Int32.ofInt x) (Int32.ofInt y) := Int32.ofInt_toInt _
theorem x4sh_e (w : Int) : ∀ k : Nat, k ≤ 3 → (ri_b32 .iushr (Int32.ofInt w) (Int32.ofInt (24 - 8 * (k : Int)))).toBitVec = (Int32.ofInt w).toBitVec >>> (24 - 8 * k) ∧ (ri_b32 .ishr (Int32.ofInt w) (Int32.ofInt (24 - 8 * (k : Int)))).toBitVec = (Int32.ofInt w).toBitVec.sshiftRight (24 - 8 * k)
  | 0, _ => ⟨rfl, rfl⟩
  | 1, _ => ⟨rfl, rfl⟩
  | 2, _ => ⟨rfl, rfl⟩
  | 3, _ => ⟨rfl, rfl⟩
  | k + 4, h => by omega
theorem x4b8_u (hk : k ≤ 3) (hv : v = 24 - 8 * (k : Int)) : ra_op .iand (ra_op .iushr w v) 255 = x4b8 w k := by
  subst hv
  unfold x4b8
  obtain ⟨h1, h2⟩ := x4sh_e w k hk
  show (Int32.ofInt (ra_op .iushr w (24 - 8 * (k : Int))) &&& Int32.ofInt 255).toInt = (Int32.ofInt (ra_op .ishr w (24 - 8 * (k : Int))) &&& Int32.ofInt 255).toInt
  rw [x4op_i, x4op_i]
  refine congrArg Int32.toInt (Int32.toBitVec_inj.mp ?_)
  rw [Int32.toBitVec_and, Int32.toBitVec_and, h1, h2]
  exact x4bv_sh _ _ (by omega)
theorem x4b8_s (hv : v = 24 - 8 * (k : Int)) : ra_op .iand (ra_op .ishr w v) 255 = x4b8 w k := by rw [hv]; rfl
theorem x4b8_p : 0 ≤ x4b8 w k := by
  unfold x4b8
  show 0 ≤ (Int32.ofInt (ra_op .ishr w (24 - 8 * (k : Int))) &&& Int32.ofInt 255).toInt
  generalize Int32.ofInt (ra_op .ishr w (24 - 8 * (k : Int))) = x
  show 0 ≤ (x &&& Int32.ofInt 255).toBitVec.toInt
  rw [Int32.toBitVec_and]
  have h : (x.toBitVec &&& (Int32.ofInt 255).toBitVec).toNat ≤ 255 := by
    rw [BitVec.toNat_and]
    exact Nat.and_le_right
  rw [BitVec.toInt_eq_toNat_of_lt (by omega)]
  omega
def x4ap8 (f : Nat → Int) (L : Nat) (w : Int) : Nat → Int := fun i => if i < L then f i else x4b8 w (i - L)
theorem x4ap_y (h : i < L) : x4ap8 f L w i = f i := if_pos h
theorem x4ap_n (h : ¬ i < L) : x4ap8 f L w i = x4b8 w (i - L) := if_neg h
theorem x4ap_tr (h1 : ∀ i, i < L → g i = f i) (h2 : ∀ i, i < L + 4 → g2 i = x4ap8 g L w i) : ∀ i, i < L + 4 → g2 i = x4ap8 f L w i := fun i hi => by
  rw [h2 i hi]
  by_cases c : i < L
  · rw [x4ap_y c, x4ap_y c, h1 i c]
  · rw [x4ap_n c, x4ap_n c]
def x4ap5 (f : Nat → Int) (L : Nat) (a b c d e : Int) : Nat → Int := x4ap8 (x4ap8 (x4ap8 (x4ap8 (x4ap8 f L a) (L + 4) b) (L + 8) c) (L + 12) d) (L + 16) e
theorem x4ap_5 {g1 g3 g4 g5 : Nat → Int} (h1 : ∀ i, i < L + 4 → g1 i = x4ap8 f L a i) (h2 : ∀ i, i < L + 8 → g2 i = x4ap8 g1 (L + 4) b i) (h3 : ∀ i, i < L + 12 → g3 i = x4ap8 g2 (L + 8) c i) (h4 : ∀ i, i < L + 16 → g4 i = x4ap8 g3 (L + 12) d i) (h5 : ∀ i, i < L + 20 → g5 i = x4ap8 g4 (L + 16) e i) : ∀ i, i < L + 20 → g5 i = x4ap5 f L a b c d e i :=
  x4ap_tr (L := L + 16) (x4ap_tr (L := L + 12) (x4ap_tr (L := L + 8) (x4ap_tr (L := L + 4) h1 h2) h3) h4) h5
theorem x4ap_c (h : ∀ i, i < L → f i = g i ∧ 0 ≤ f i) : ∀ i, x4ap8 f L w i = x4ap8 g L w i ∧ 0 ≤ x4ap8 f L w i := fun i => by
  by_cases c : i < L
  · rw [x4ap_y c, x4ap_y c]; exact h i c
  · rw [x4ap_n c, x4ap_n c]; exact ⟨rfl, x4b8_p⟩
theorem x4ap_5c (h : ∀ i, i < L → f i = g i ∧ 0 ≤ f i) : ∀ i, x4ap5 f L a b c d e i = x4ap5 g L a b c d e i ∧ 0 ≤ x4ap5 f L a b c d e i :=
  x4ap_c (fun i _ => x4ap_c (fun i _ => x4ap_c (fun i _ => x4ap_c (fun i _ => x4ap_c h i) i) i) i)
/-- one byte more -/
theorem x4ap_s {p : Nat} {x : Int} (h : ∀ i : Nat, i < p → g i = x4ap8 f L w i) (hp : g2 p = x) (ho : ∀ i, i ≠ p → g2 i = g i) (hL : L ≤ p) (hx : x = x4b8 w (p - L)) : ∀ i : Nat, i < p + 1 → g2 i = x4ap8 f L w i := fun i hi => by
  by_cases c : i = p
  · rw [c, hp, x4ap_n (by omega), hx]
  · rw [ho i c]; exact h i (by omega)
end
end
