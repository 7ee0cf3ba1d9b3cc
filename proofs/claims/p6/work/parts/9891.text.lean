/-! the text: its statements, as functions of the bytes; a state r is numbered as the reference's row is (101 to 104: told already: head, tail, align, chunk) -/
section TX
def tx_up (r : Nat → Int) (k : Nat) (v : Int) : Nat → Int := fun j => if j = k then v else r j
/-- a number is read at i: a failure (code, place), or the number and where it ends -/
def tx_rd (B : Nat → Int) (n i : Nat) (lo hi : Int) : Sum (Int × Nat) (Int × Nat) :=
  if tx_k B n (tx_a B n i) = 2 ∧ tx_e B n (tx_a B n i) - tx_a B n i ≤ 3 then
    if lo ≤ tx_val B n (tx_a B n i) ∧ tx_val B n (tx_a B n i) ≤ hi then .inr (tx_val B n (tx_a B n i), tx_e B n (tx_a B n i)) else .inl (2, tx_a B n i)
  else .inl (1, tx_a B n i)
def tx_semi (B : Nat → Int) (n i : Nat) : Sum (Int × Nat) Nat := if tx_k B n (tx_a B n i) = 3 then .inr (tx_e B n (tx_a B n i)) else .inl (1, tx_a B n i)
def tx_isw (B : Nat → Int) (n a : Nat) (w : List Char) : Bool := tx_k B n a == 1 && (tx_e B n a - a == w.length && (List.range w.length).all (fun j => B (a + j) == ((w.getD j 'a').toNat : Int)))
/-- a setting, its word at a -/
def tx_set (B : Nat → Int) (n : Nat) (r : Nat → Int) (a what slot : Nat) (early : Bool) (lo hi : Int) : Sum (Int × Nat) ((Nat → Int) × Nat) :=
  if early = true ∧ 0 < r 5 then .inl (1, a) else if r slot = 1 then .inl (3, a) else
    match tx_rd B n (tx_e B n a) lo hi with
    | .inl x => .inl x
    | .inr (v, e) => .inr (tx_up (tx_up r what v) slot 1, e)
def tx_meets (r : Nat → Int) (s z : Int) : Bool := (List.range 8).any (fun p => decide ((p : Int) < r 5 ∧ s < r (25 + 8 * p) + r (26 + 8 * p) ∧ r (25 + 8 * p) < s + z))
def tx_mk (r : Nat → Int) (st sz kd mn : Int) : Nat → Int := fun j =>
  if j = 5 then r 5 + 1 else
  if j = 24 + 8 * (r 5).toNat then 1 else if j = 25 + 8 * (r 5).toNat then st else if j = 26 + 8 * (r 5).toNat then sz else if j = 27 + 8 * (r 5).toNat then mn else
  if j = 28 + 8 * (r 5).toNat then kd else if j = 29 + 8 * (r 5).toNat then 0 else if j = 30 + 8 * (r 5).toNat then r 5 else if j = 31 + 8 * (r 5).toNat then 0 else r j
def tx_part (B : Nat → Int) (n : Nat) (r : Nat → Int) (a : Nat) : Sum (Int × Nat) ((Nat → Int) × Nat) :=
  if r 5 = 8 then .inl (5, a) else
    match tx_rd B n (tx_e B n a) (r 1) (r 0 - r 2 - 1) with
    | .inl x => .inl x
    | .inr (st, e1) => if st % r 3 ≠ 0 then .inl (2, tx_a B n (tx_e B n a)) else
      match tx_rd B n e1 1 (r 0 - r 2 - st) with
      | .inl x => .inl x
      | .inr (sz, e2) => if tx_meets r st sz then .inl (4, tx_a B n e1) else
        match tx_rd B n e2 0 9 with
        | .inl x => .inl x
        | .inr (kd, e3) => match tx_rd B n e3 1 sz with
          | .inl x => .inl x
          | .inr (mn, e4) => .inr (tx_mk r st sz kd mn, e4)
def tx_lock (B : Nat → Int) (n : Nat) (r : Nat → Int) (a : Nat) : Sum (Int × Nat) ((Nat → Int) × Nat) :=
  match tx_rd B n (tx_e B n a) 0 (r 5 - 1) with
  | .inl x => .inl x
  | .inr (v, e) => if r (29 + 8 * v.toNat) = 1 then .inl (3, tx_a B n (tx_e B n a)) else .inr (tx_up r (29 + 8 * v.toNat) 1, e)
def tx_stmt (B : Nat → Int) (n : Nat) (r : Nat → Int) (a : Nat) : Sum (Int × Nat) ((Nat → Int) × Nat) :=
  if tx_isw B n a ['h', 'e', 'a', 'd'] then tx_set B n r a 1 101 true 0 31
  else if tx_isw B n a ['t', 'a', 'i', 'l'] then tx_set B n r a 2 102 true 0 31
  else if tx_isw B n a ['a', 'l', 'i', 'g', 'n'] then tx_set B n r a 3 103 true 1 32
  else if tx_isw B n a ['c', 'h', 'u', 'n', 'k'] then tx_set B n r a 4 104 false 1 16
  else if tx_isw B n a ['p', 'a', 'r', 't'] then tx_part B n r a
  else if tx_isw B n a ['l', 'o', 'c', 'k'] then tx_lock B n r a
  else .inl (1, a)
def tx_ps (B : Nat → Int) (n : Nat) (o : Sum (Int × Nat) ((Nat → Int) × Nat)) : Sum (Int × Nat) ((Nat → Int) × Nat) := match o with
  | .inl x => .inl x
  | .inr (r, e) => match tx_semi B n e with
    | .inl x => .inl x
    | .inr e2 => .inr (r, e2)
def tx_run (B : Nat → Int) (n : Nat) : Nat → (Nat → Int) → Nat → Sum (Int × Nat) (Nat → Int)
  | 0, r, _ => .inr r
  | k + 1, r, i => if tx_k B n (tx_a B n i) = 0 then .inr r else
    match tx_ps B n (tx_stmt B n r (tx_a B n i)) with
    | .inl x => .inl x
    | .inr (r2, e) => tx_run B n k r2 e
def tx_r0 (v : Int) : Nat → Int := fun j => if j = 0 then v else if j = 3 then 1 else if j = 4 then 4 else 0
/-- the whole text: a failure (code, place), or the state behind it -/
def tx_text (B : Nat → Int) (n : Nat) : Sum (Int × Nat) (Nat → Int) :=
  if tx_isw B n (tx_a B n 0) ['d', 'i', 's', 'k'] then
    match tx_rd B n (tx_e B n (tx_a B n 0)) 64 600 with
    | .inl x => .inl x
    | .inr (v, e) => match tx_semi B n e with
      | .inl x => .inl x
      | .inr e2 => tx_run B n 500 (tx_r0 v) e2
  else .inl (1, tx_a B n 0)
/-- what loadDisk answers, what errorCode and errorOffset answer behind it -/
def tx_ans (o : Sum (Int × Nat) (Nat → Int)) : Int := match o with
  | .inl _ => -1
  | .inr r => r 5
def tx_err (o : Sum (Int × Nat) (Nat → Int)) : Int := match o with
  | .inl x => x.1
  | .inr _ => 0
def tx_off (o : Sum (Int × Nat) (Nat → Int)) : Int := match o with
  | .inl x => x.2
  | .inr _ => -1
end TX
