/-! the text: its tokens, as functions of the bytes -/
section TX
/-- behind what P holds of, from i on; n is the length -/
def tx_go (P : Int → Bool) (B : Nat → Int) : Nat → Nat → Nat
  | 0, i => i
  | k + 1, i => if P (B i) then tx_go P B k (i + 1) else i
def tx_sp (P : Int → Bool) (B : Nat → Int) (n i : Nat) : Nat := tx_go P B (n - i) i
theorem tx_sp_s {P : Int → Bool} {B : Nat → Int} {n i : Nat} (h : i < n) (hP : P (B i) = true) : tx_sp P B n i = tx_sp P B n (i + 1) := by
  unfold tx_sp
  rw [show n - i = (n - (i + 1)) + 1 by omega]
  show (if P (B i) = true then tx_go P B (n - (i + 1)) (i + 1) else i) = _
  rw [if_pos hP]
theorem tx_sp_0 {P : Int → Bool} {B : Nat → Int} {n i : Nat} (h : n ≤ i) : tx_sp P B n i = i := by
  unfold tx_sp
  rw [show n - i = 0 by omega]
  rfl
theorem tx_sp_e {P : Int → Bool} {B : Nat → Int} {n i : Nat} (hP : P (B i) = false) : tx_sp P B n i = i := by
  unfold tx_sp
  cases n - i with
  | zero => rfl
  | succ k =>
    show (if P (B i) = true then tx_go P B k (i + 1) else i) = _
    rw [if_neg (by rw [hP]; decide)]
theorem tx_go_le {P : Int → Bool} {B : Nat → Int} : ∀ (k i : Nat), i ≤ tx_go P B k i ∧ tx_go P B k i ≤ i + k
  | 0, i => ⟨Nat.le_refl _, Nat.le_refl _⟩
  | k + 1, i => by
    show i ≤ (if P (B i) = true then tx_go P B k (i + 1) else i) ∧ (if P (B i) = true then tx_go P B k (i + 1) else i) ≤ i + (k + 1)
    have := tx_go_le (P := P) (B := B) k (i + 1)
    split <;> omega
theorem tx_sp_le {P : Int → Bool} {B : Nat → Int} {n i : Nat} : i ≤ tx_sp P B n i ∧ (i ≤ n → tx_sp P B n i ≤ n) := by
  have := tx_go_le (P := P) (B := B) (n - i) i
  unfold tx_sp
  omega
theorem tx_go_c {P : Int → Bool} {B C : Nat → Int} : ∀ (k i : Nat), (∀ j, i ≤ j → j < i + k → B j = C j) → tx_go P B k i = tx_go P C k i
  | 0, _, _ => rfl
  | k + 1, i, h => by
    show (if P (B i) = true then tx_go P B k (i + 1) else i) = (if P (C i) = true then tx_go P C k (i + 1) else i)
    rw [h i (Nat.le_refl _) (by omega), tx_go_c k (i + 1) (fun j h1 h2 => h j (by omega) (by omega))]
/-- two rows of bytes that are the same below n have the same tokens -/
theorem tx_sp_c {P : Int → Bool} {B C : Nat → Int} {n i : Nat} (h : ∀ j, j < n → B j = C j) : tx_sp P B n i = tx_sp P C n i := tx_go_c (n - i) i (fun j _ h2 => h j (by omega))
def tx_bl (b : Int) : Bool := b == 32 || b == 10
def tx_le (b : Int) : Bool := decide (97 ≤ b ∧ b ≤ 122)
def tx_di (b : Int) : Bool := decide (48 ≤ b ∧ b ≤ 57)
/-- the number of the first k digits from a on -/
def tx_v (B : Nat → Int) (a : Nat) : Nat → Int
  | 0 => 0
  | k + 1 => 10 * tx_v B a k + (B (a + k) - 48)
/-- where the token begins that is read at i -/
def tx_a (B : Nat → Int) (n i : Nat) : Nat := tx_sp tx_bl B n i
/-- its sort: 0 end, 1 word, 2 number, 3 semicolon, 4 another -/
def tx_k (B : Nat → Int) (n a : Nat) : Int := if n ≤ a then 0 else if tx_le (B a) then 1 else if tx_di (B a) then 2 else if B a = 59 then 3 else 4
/-- where it ends -/
def tx_e (B : Nat → Int) (n a : Nat) : Nat := if n ≤ a then a else if tx_le (B a) then tx_sp tx_le B n a else if tx_di (B a) then tx_sp tx_di B n a else a + 1
def tx_val (B : Nat → Int) (n a : Nat) : Int := tx_v B a (Nat.min 3 (tx_e B n a - a))
theorem tx_e_gt {B : Nat → Int} {n a : Nat} (h : a < n) : a < tx_e B n a ∧ tx_e B n a ≤ n := by
  unfold tx_e
  rw [if_neg (by omega)]
  split
  · next h1 => rw [tx_sp_s h h1]; have := tx_sp_le (P := tx_le) (B := B) (n := n) (i := a + 1); omega
  · split
    · next h1 => rw [tx_sp_s h h1]; have := tx_sp_le (P := tx_di) (B := B) (n := n) (i := a + 1); omega
    · omega
end TX
