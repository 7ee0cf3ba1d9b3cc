/-! RI: the run: forks, jumps, calls, answers, exceptions -/
section RIR
/-- what bounds tell -/
def ri_decB (k : Nat) (x y : Int × Int) : Option Bool := match k with
  | 0 => if x.2 < y.1 then some false else if y.2 < x.1 then some false else if x.1 = x.2 ∧ y.1 = y.2 ∧ x.1 = y.1 then some true else none
  | _ => if x.2 < y.1 then some true else if y.2 ≤ x.1 then some false else none
theorem ri_decB_s {k : Nat} {x y : Int × Int} {a b : Int32} {r : Bool} (hx : ri_B x a.toInt) (hy : ri_B y b.toInt) (h : ri_decB k x y = some r) : r = true ↔ ri_rel k a b := by
  obtain ⟨h1, h2⟩ := hx
  obtain ⟨h3, h4⟩ := hy
  cases k with
  | zero =>
    show _ ↔ a = b
    rw [← Int32.toInt_inj]
    simp only [ri_decB] at h
    split at h
    · cases h; exact ⟨fun z => (by cases z), fun z => by omega⟩
    · split at h
      · cases h; exact ⟨fun z => (by cases z), fun z => by omega⟩
      · split at h
        · cases h; exact ⟨fun _ => by omega, fun _ => rfl⟩
        · cases h
  | succ k =>
    show _ ↔ a < b
    rw [Int32.lt_iff_toInt_lt]
    simp only [ri_decB] at h
    split at h
    · cases h; exact ⟨fun _ => by omega, fun _ => rfl⟩
    · split at h
      · cases h; exact ⟨fun z => (by cases z), fun z => by omega⟩
      · cases h
/-- is it known already? -/
def ri_dec (cs : List ri_Cd) (k : Nat) (a b : Jvm.Term) : Option Bool := match a, b with
  | .int x, .int y => some (match k with
    | 0 => decide (x = y)
    | _ => decide (x < y))
  | _, _ => match cs.find? (fun q => q.1 == k && (ri_eqT q.2.1 a && ri_eqT q.2.2.1 b)) with
    | some q => some q.2.2.2
    | none => if ri_k a = 0 ∧ ri_k b = 0 then ri_decB k (ri_bd cs a) (ri_bd cs b) else none
theorem ri_dec_s {ρ : Nat → Int32} {cs : List ri_Cd} {k : Nat} {a b : Jvm.Term} {r : Bool} (hsat : ∀ q ∈ cs, ri_sat ρ q) (h : ri_dec cs k a b = some r) : r = true ↔ ri_rel k (ri_iv ρ a) (ri_iv ρ b) := by
  unfold ri_dec at h
  split at h
  · next x y =>
    cases h
    show _ ↔ ri_rel k x y
    unfold ri_rel
    split <;> simp
  · split at h
    · next q hq =>
      cases h
      have h1 := hsat q (List.mem_of_find?_eq_some hq)
      have h2 := List.find?_some hq
      simp only [Bool.and_eq_true, beq_iff_eq] at h2
      have e1 := ri_eqT_s _ _ h2.2.1
      have e2 := ri_eqT_s _ _ h2.2.2
      unfold ri_sat at h1
      rw [h2.1, e1, e2] at h1
      exact h1
    · split at h
      · next hk => exact ri_decB_s ((ri_bd_s hsat a).1 hk.1) ((ri_bd_s hsat b).1 hk.2) h
      · cases h
/-- a long that is an int's -/
def ri_i2 : Jvm.Term → Option Jvm.Term
  | .op1 .i2l a => if ri_k a = 0 then some a else none
  | .long c => if -2147483648 ≤ c.toInt ∧ c.toInt ≤ 2147483647 then some (ri_ci c.toInt32) else none
  | _ => none
theorem ri_i2_s {ρ : Nat → Int32} {t x : Jvm.Term} (h : ri_i2 t = some x) : (ri_il ρ t).toInt = (ri_iv ρ x).toInt := by
  unfold ri_i2 at h
  split at h
  · next a =>
    split at h
    · cases h; exact Int32.toInt_toInt64 _
    · cases h
  · next c =>
    split at h
    · next hc =>
      cases h
      rw [ri_ci_eq]
      show c.toInt = c.toInt32.toInt
      rw [Int64.toInt_toInt32, Int.bmod_eq_of_le (by omega) (by omega)]
    · cases h
  · cases h
/-- compares of longs that are ints', of constants, in one form -/
def ri_norm (q : ri_Cd) : ri_Cd := match q with
  | (k, .op2 .lcmp a b, .int z, v) => if z = 0 then (match ri_i2 a, ri_i2 b with
    | some x, some y => (k, x, y, v)
    | _, _ => q) else q
  | (k, .int z, .op2 .lcmp a b, v) => if z = 0 then (match ri_i2 a, ri_i2 b with
    | some x, some y => (k, y, x, v)
    | _, _ => q) else q
  | _ => q
def ri_norm2 (q : ri_Cd) : ri_Cd := match q with
  | (k, .int x, b, v) => match k with
    | 0 => (0, b, .int x, v)
    | _ => if x.toInt < 2147483647 then (1, b, ri_ci (x + 1), !v) else q
  | _ => q
theorem ri_norm_s {ρ : Nat → Int32} (q : ri_Cd) : ri_sat ρ (ri_norm q) ↔ ri_sat ρ q := by
  have e1 : (1 : Int32).toInt = 1 := by decide
  have e0 : (0 : Int32).toInt = 0 := by decide
  have em : (-1 : Int32).toInt = -1 := by decide
  have c0 : ∀ x y : Int64, lg_cmp x y = 0 ↔ x.toInt = y.toInt := fun x y => by
    rw [Int64.toInt_inj]
    unfold lg_cmp
    by_cases h1 : x > y
    · rw [if_pos h1]; exact ⟨fun h => absurd h (by decide), fun h => by rw [h] at h1; exact absurd h1 (Int64.lt_irrefl)⟩
    · rw [if_neg h1]
      by_cases h2 : x = y
      · rw [if_pos h2]; exact ⟨fun _ => h2, fun _ => rfl⟩
      · rw [if_neg h2]; exact ⟨fun h => absurd h (by decide), fun h => absurd h h2⟩
  have c1 : ∀ x y : Int64, lg_cmp x y < 0 ↔ x.toInt < y.toInt := fun x y => by
    unfold lg_cmp
    by_cases h1 : x > y
    · rw [if_pos h1]
      have h3 := Int64.lt_iff_toInt_lt.mp h1
      exact ⟨fun h => absurd h (by decide), fun h => by omega⟩
    · rw [if_neg h1]
      by_cases h2 : x = y
      · rw [if_pos h2]; exact ⟨fun h => absurd h (by decide), fun h => by rw [h2] at h; omega⟩
      · rw [if_neg h2]
        have h3 : ¬ y.toInt < x.toInt := fun z => h1 (Int64.lt_iff_toInt_lt.mpr z)
        have h4 : x.toInt ≠ y.toInt := fun z => h2 (Int64.toInt_inj.mp z)
        exact ⟨fun _ => by omega, fun _ => by decide⟩
  have c2 : ∀ x y : Int64, 0 < lg_cmp x y ↔ y.toInt < x.toInt := fun x y => by
    unfold lg_cmp
    by_cases h1 : x > y
    · rw [if_pos h1]
      have h3 := Int64.lt_iff_toInt_lt.mp h1
      exact ⟨fun _ => h3, fun _ => by decide⟩
    · rw [if_neg h1]
      have h3 : ¬ y.toInt < x.toInt := fun z => h1 (Int64.lt_iff_toInt_lt.mpr z)
      by_cases h2 : x = y
      · rw [if_pos h2]; exact ⟨fun h => absurd h (by decide), fun h => absurd h h3⟩
      · rw [if_neg h2]; exact ⟨fun h => absurd h (by decide), fun h => absurd h h3⟩
  unfold ri_norm
  split
  · next k a b z v =>
    split
    · next hz =>
      subst hz
      split
      · next x y hx hy =>
        have hx := ri_i2_s (ρ := ρ) hx
        have hy := ri_i2_s (ρ := ρ) hy
        unfold ri_sat
        cases k with
        | zero =>
          show (v = true ↔ ri_iv ρ x = ri_iv ρ y) ↔ (v = true ↔ lg_cmp (ri_il ρ a) (ri_il ρ b) = 0)
          rw [c0, ← Int32.toInt_inj, hx, hy]
        | succ k =>
          show (v = true ↔ ri_iv ρ x < ri_iv ρ y) ↔ (v = true ↔ lg_cmp (ri_il ρ a) (ri_il ρ b) < 0)
          rw [c1, Int32.lt_iff_toInt_lt, hx, hy]
      · exact Iff.rfl
    · exact Iff.rfl
  · next k z a b v =>
    split
    · next hz =>
      subst hz
      split
      · next x y hx hy =>
        have hx := ri_i2_s (ρ := ρ) hx
        have hy := ri_i2_s (ρ := ρ) hy
        unfold ri_sat
        cases k with
        | zero =>
          show (v = true ↔ ri_iv ρ y = ri_iv ρ x) ↔ (v = true ↔ 0 = lg_cmp (ri_il ρ a) (ri_il ρ b))
          rw [eq_comm (a := (0 : Int32)), c0, eq_comm (a := ri_iv ρ y), ← Int32.toInt_inj, hx, hy]
        | succ k =>
          show (v = true ↔ ri_iv ρ y < ri_iv ρ x) ↔ (v = true ↔ 0 < lg_cmp (ri_il ρ a) (ri_il ρ b))
          rw [c2, Int32.lt_iff_toInt_lt, hx, hy]
      · exact Iff.rfl
    · exact Iff.rfl
  · exact Iff.rfl
theorem ri_norm2_s {ρ : Nat → Int32} (q : ri_Cd) : ri_sat ρ (ri_norm2 q) ↔ ri_sat ρ q := by
  unfold ri_norm2
  split
  · next k x b v =>
    split
    · show (v = true ↔ ri_iv ρ b = x) ↔ (v = true ↔ x = ri_iv ρ b)
      rw [eq_comm (a := x)]
    · next hk =>
      split
      · next hx =>
        have hr : ri_sat ρ (k, .int x, b, v) ↔ (v = true ↔ x < ri_iv ρ b) := by
          cases k with
          | zero => exact absurd rfl hk
          | succ k => exact Iff.rfl
        have h1 := Int32.le_toInt x
        have h2 : (x + 1).toInt = x.toInt + 1 := by
          rw [Int32.toInt_add, show (1 : Int32).toInt = 1 from by decide]
          have : Int32.minValue.toInt = -2147483648 := by decide
          exact Int.bmod_eq_of_le (by omega) (by omega)
        rw [hr, ri_ci_eq]
        show ((!v) = true ↔ ri_iv ρ b < x + 1) ↔ _
        rw [Int32.lt_iff_toInt_lt, Int32.lt_iff_toInt_lt, h2]
        cases v <;> simp <;> omega
      · exact Iff.rfl
  · exact Iff.rfl
def ri_both (a b : Option ri_Rs) : Option ri_Rs := match a, b with
  | some (l1, c1, s1, o1), some (l2, c2, s2, o2) => some (l1 ++ l2, max c1 c2, max s1 s2, o1 ++ o2)
  | _, _ => none
/-- one result among another's -/
def ri_le (r1 r : ri_Rs) : Prop := (∀ x ∈ r1.1, x ∈ r.1) ∧ r1.2.1 ≤ r.2.1 ∧ r1.2.2.1 ≤ r.2.2.1 ∧ ∀ o ∈ r1.2.2.2, o ∈ r.2.2.2
theorem ri_both_s {a b : Option ri_Rs} {r : ri_Rs} (h : ri_both a b = some r) : ∃ ra rb, a = some ra ∧ b = some rb ∧ ri_le ra r ∧ ri_le rb r := by
  unfold ri_both at h
  split at h
  · next l1 c1 s1 o1 l2 c2 s2 o2 =>
    cases h
    exact ⟨_, _, rfl, rfl, ⟨fun x hx => List.mem_append_left _ hx, Nat.le_max_left _ _, Nat.le_max_left _ _, fun x hx => List.mem_append_left _ hx⟩, ⟨fun x hx => List.mem_append_right _ hx, Nat.le_max_right _ _, Nat.le_max_right _ _, fun x hx => List.mem_append_right _ hx⟩⟩
  · cases h
def ri_seq (k : ri_Lf → Option ri_Rs) : List ri_Lf → Option ri_Rs
  | [] => some ([], 0, 0, [])
  | x :: l => ri_both (k x) (ri_seq k l)
theorem ri_le_tr {a b c : ri_Rs} (h1 : ri_le a b) (h2 : ri_le b c) : ri_le a c := ⟨fun x hx => h2.1 x (h1.1 x hx), Nat.le_trans h1.2.1 h2.2.1, Nat.le_trans h1.2.2.1 h2.2.2.1, fun o ho => h2.2.2.2 o (h1.2.2.2 o ho)⟩
theorem ri_seq_s {k : ri_Lf → Option ri_Rs} : ∀ (l : List ri_Lf) {r : ri_Rs}, ri_seq k l = some r → ∀ x ∈ l, ∃ rx, k x = some rx ∧ ri_le rx r
  | [], _, _, x, hx => by cases hx
  | y :: l, r, h, x, hx => by
    obtain ⟨ra, rb, h1, h2, h3, h4⟩ := ri_both_s (show ri_both (k y) (ri_seq k l) = some r from h)
    rcases List.mem_cons.mp hx with rfl | hx
    · exact ⟨ra, h1, h3⟩
    · obtain ⟨rx, g1, g2⟩ := ri_seq_s l h2 x hx
      exact ⟨rx, g1, ri_le_tr g2 h4⟩
/-- a fork: (sort, a, b, v): T where (a sort b) is v, else F -/
def ri_br0 (cs : List ri_Cd) (q : ri_Cd) (T F : List ri_Cd → Option ri_Rs) : Option ri_Rs := match ri_dec cs q.1 q.2.1 q.2.2.1 with
  | some r => if r = q.2.2.2 then T cs else F cs
  | none => ri_both (T (q :: cs)) (F ((q.1, q.2.1, q.2.2.1, !q.2.2.2) :: cs))
/-- of constants at once; else in one form -/
def ri_br (cs : List ri_Cd) (q : ri_Cd) (T F : List ri_Cd → Option ri_Rs) : Option ri_Rs := match q.2.1, q.2.2.1 with
  | .int _, .int _ => ri_br0 cs q T F
  | _, _ => ri_br0 cs (ri_norm2 (ri_norm q)) T F
theorem ri_br0_s {ρ : Nat → Int32} {cs : List ri_Cd} {q : ri_Cd} {T F : List ri_Cd → Option ri_Rs} {r : ri_Rs} (hsat : ∀ q ∈ cs, ri_sat ρ q) (h : ri_br0 cs q T F = some r) :
    (ri_sat ρ q ∧ ∃ cs' r1, T cs' = some r1 ∧ (∀ q ∈ cs', ri_sat ρ q) ∧ ri_le r1 r) ∨ (¬ ri_sat ρ q ∧ ∃ cs' r1, F cs' = some r1 ∧ (∀ q ∈ cs', ri_sat ρ q) ∧ ri_le r1 r) := by
  unfold ri_br0 at h
  have rf : ri_le r r := ⟨fun _ h => h, Nat.le_refl _, Nat.le_refl _, fun _ h => h⟩
  split at h
  · next v hv =>
    have h1 := ri_dec_s hsat hv
    split at h
    · next e => exact Or.inl ⟨by unfold ri_sat; rw [← e]; exact h1, cs, r, h, hsat, rf⟩
    · next e =>
      refine Or.inr ⟨fun hs => e ?_, cs, r, h, hsat, rf⟩
      unfold ri_sat at hs
      rw [Bool.eq_iff_iff]
      exact h1.trans hs.symm
  · obtain ⟨ra, rb, h1, h2, h3, h4⟩ := ri_both_s h
    by_cases hq : ri_sat ρ q
    · exact Or.inl ⟨hq, _, ra, h1, fun z hz => by
        rcases List.mem_cons.mp hz with rfl | hz
        · exact hq
        · exact hsat z hz, h3⟩
    · refine Or.inr ⟨hq, _, rb, h2, fun z hz => ?_, h4⟩
      rcases List.mem_cons.mp hz with rfl | hz
      · unfold ri_sat at hq ⊢
        cases hv : q.2.2.2 <;> simp [hv] at hq ⊢ <;> exact hq
      · exact hsat z hz
theorem ri_br_s {ρ : Nat → Int32} {cs : List ri_Cd} {q : ri_Cd} {T F : List ri_Cd → Option ri_Rs} {r : ri_Rs} (hsat : ∀ q ∈ cs, ri_sat ρ q) (h : ri_br cs q T F = some r) :
    (ri_sat ρ q ∧ ∃ cs' r1, T cs' = some r1 ∧ (∀ q ∈ cs', ri_sat ρ q) ∧ ri_le r1 r) ∨ (¬ ri_sat ρ q ∧ ∃ cs' r1, F cs' = some r1 ∧ (∀ q ∈ cs', ri_sat ρ q) ∧ ri_le r1 r) := by
  unfold ri_br at h
  split at h
  · exact ri_br0_s hsat h
  · have h1 := ri_br0_s hsat h
    rw [ri_norm2_s, ri_norm_s] at h1
    exact h1
/-- each value of an int between bounds -/
def ri_vals (x : Jvm.Term) (K : Jvm.Term → List ri_Cd → Option ri_Rs) : Nat → Int → List ri_Cd → Option ri_Rs
  | 0, _, _ => some ([], 0, 0, [])
  | n + 1, lo, cs => ri_br cs (0, x, ri_ci (Int32.ofInt lo), true) (fun cs' => K (ri_ci (Int32.ofInt lo)) cs') (fun cs' => ri_vals x K n (lo + 1) cs')
theorem ri_vals_s {ρ : Nat → Int32} {x : Jvm.Term} {K : Jvm.Term → List ri_Cd → Option ri_Rs} : ∀ (n : Nat) (lo : Int) (cs : List ri_Cd) {r : ri_Rs}, (∀ q ∈ cs, ri_sat ρ q) → ri_vals x K n lo cs = some r → lo ≤ (ri_iv ρ x).toInt → (ri_iv ρ x).toInt < lo + (n : Int) →
    ∃ (v : Int32) (cs' : List ri_Cd) (r1 : ri_Rs), ri_iv ρ x = v ∧ K (.int v) cs' = some r1 ∧ (∀ q ∈ cs', ri_sat ρ q) ∧ ri_le r1 r
  | 0, lo, cs, r, hs, h, h1, h2 => absurd h2 (by omega)
  | n + 1, lo, cs, r, hs, h, h1, h2 => by
    unfold ri_vals at h
    rw [ri_ci_eq] at h
    have i1 : Int32.minValue.toInt ≤ (ri_iv ρ x).toInt := Int32.le_toInt _
    rcases ri_br_s hs h with ⟨g1, cs', r1, g2, g3, g4⟩ | ⟨g1, cs', r1, g2, g3, g4⟩
    · exact ⟨_, cs', r1, g1.mp rfl, g2, g3, g4⟩
    · have hne : (ri_iv ρ x).toInt ≠ lo := fun z => g1 ⟨fun _ => by
        show ri_iv ρ x = Int32.ofInt lo
        rw [← z, Int32.ofInt_toInt], fun _ => rfl⟩
      obtain ⟨v, cs2, r2, k1, k2, k3, k4⟩ := ri_vals_s n (lo + 1) cs' g3 g2 (by omega) (by omega)
      exact ⟨v, cs2, r2, k1, k2, k3, ri_le_tr k4 g4⟩
/-- what an instruction wants known -/
def ri_foc (i : Instr) (st : List Jvm.Term) : Option (List Jvm.Term × Jvm.Term × List Jvm.Term) := match i, st with
  | .iaload, x :: r => some ([], x, r)
  | .aaload, x :: r => some ([], x, r)
  | .laload, x :: r => some ([], x, r)
  | .iastore, t :: x :: r => some ([t], x, r)
  | .lastore, t :: x :: r => some ([t], x, r)
  | _, _ => none
theorem ri_foc_s {i : Instr} {st a r : List Jvm.Term} {x : Jvm.Term} (h : ri_foc i st = some (a, x, r)) : st = a ++ x :: r := by
  unfold ri_foc at h
  split at h <;> first | (cases h; rfl) | cases h
def ri_cst : Jvm.Term → Bool
  | .int _ => true
  | _ => false
def ri_tg (pc : Nat) (off : Int) : Option Nat := match (pc : Int) + off with
  | .ofNat n => some n
  | .negSucc _ => none
theorem ri_tg_s {pc t : Nat} {off : Int} (h : ri_tg pc off = some t) : (pc : Int) + off = (t : Int) := by
  unfold ri_tg at h
  split at h
  · next n e => cases h; rw [e]; rfl
  · cases h
def ri_cnd (c : ClassFile.Cond) (a b : Jvm.Term) : ri_Cd := match c with
  | .eq => (0, a, b, true)
  | .ne => (0, a, b, false)
  | .lt => (1, a, b, true)
  | .ge => (1, a, b, false)
  | .gt => (1, b, a, true)
  | .le => (1, b, a, false)
/-- a switch, as a row of forks -/
def ri_chain (x : Jvm.Term) (pc : Nat) (T : Nat → List ri_Cd → Option ri_Rs) (dflt : Int) : List (Int × Int) → List ri_Cd → Option ri_Rs
  | [], cs => match ri_tg pc dflt with
    | some t => T t cs
    | none => none
  | (v, off) :: l, cs => ri_br cs (0, x, ri_ci (Int32.ofInt v), true) (fun cs' => match ri_tg pc off with
    | some t => T t cs'
    | none => none) (fun cs' => ri_chain x pc T dflt l cs')
abbrev ri_K : Type := Nat → List (Nat × Jvm.Term) → List Jvm.Term → List ri_Cd → ri_Me → Option ri_Rs
abbrev ri_Call : Type := Nat → List Jvm.Term → List ri_Cd → ri_Me → Option ri_Rs
/-- more cells, more obligations ahead of what follows -/
def ri_more (c s : Nat) (o : List ri_Ob) (r : Option ri_Rs) : Option ri_Rs := match r with
  | some (l2, c2, s2, o2) => some (l2, c + c2, s + s2, o ++ o2)
  | none => none
theorem ri_more_s {c s : Nat} {o : List ri_Ob} {r : Option ri_Rs} {x : ri_Rs} (h : ri_more c s o r = some x) : ∃ r2, r = some r2 ∧ x.1 = r2.1 ∧ x.2.1 = c + r2.2.1 ∧ x.2.2.1 = s + r2.2.2.1 ∧ x.2.2.2 = o ++ r2.2.2.2 := by
  unfold ri_more at h
  split at h
  · cases h; exact ⟨_, rfl, rfl, rfl, rfl, rfl⟩
  · cases h
/-- a local less -/
def ri_ers (lv : List (Nat × Jvm.Term)) (i : Nat) : List (Nat × Jvm.Term) := lv.filter (fun q => !(q.1 == i) && !(q.1 + 1 == i && ri_wide q.2))
/-- who catches it -/
def ri_find (G : ri_Tb) (M : ri_Mt) (pc : Nat) (E : String) : List (Nat × Nat × Nat × Nat) → Option (Option Nat)
  | [] => some none
  | (a, b, h, ct) :: l => if a ≤ pc ∧ pc < b then (match ri_cp G M ct with
    | some (5, _, _, nm) => match (ri_nc G).find? (fun q => q.1 == E && q.2.1 == nm) with
      | some q => if ct = 0 then none else if q.2.2 = true then some (some h) else ri_find G M pc E l
      | none => none
    | _ => none) else ri_find G M pc E l
/-- at a handler: the exception goes into a local and is forgotten -/
def ri_catch (M : ri_Mt) (K : ri_K) (hp : Nat) (lv : List (Nat × Jvm.Term)) (cs : List ri_Cd) (mem : ri_Me) : Option ri_Rs := match (ri_co M)[hp]? with
  | some (some (.astore k, 2)) => if k < ri_mx M then K (hp + 2) (ri_ers lv k) [] cs mem else none
  | some (some (.astore_n k, 1)) => if (k : Nat) < ri_mx M then K (hp + 1) (ri_ers lv k) [] cs mem else none
  | _ => none
/-- behind a call -/
def ri_after (G : ri_Tb) (M : ri_Mt) (K : ri_K) (pc : Nat) (lv : List (Nat × Jvm.Term)) (rest : List Jvm.Term) (x : ri_Lf) : Option ri_Rs := match x.2.2 with
  | .inl none => K (pc + 3) lv rest x.1 x.2.1
  | .inl (some t) => K (pc + 3) lv (t :: rest) x.1 x.2.1
  | .inr E => match ri_find G M pc E (ri_hh M) with
    | some none => some ([(x.1, x.2.1, .inr E)], 0, 0, [])
    | some (some hp) => ri_catch M K hp lv x.1 x.2.1
    | none => none
/-- a receiver of that class -/
def ri_recv (G : ri_Tb) (cls : String) (mem : ri_Me) : List Jvm.Term → Bool
  | .index k :: _ => match mem[k]? with
    | some (.inl (ci, _)) => match (ri_cls G)[ci]? with
      | some r => r.1 == cls
      | none => false
    | _ => false
  | _ => false
def ri_nn (sort n : Nat) : Nat := if sort = 1 then n else n + 1
/-- the methods that throw, that read a text: they want more room -/
def ri_hi (M : ri_Mt) : Bool := (ri_pn M == 7 && ["add", "addBy", "begin", "blocksAt", "byStart", "cheapestMove", "count", "gap", "join", "move", "need", "needFree", "needKindAndMinimum", "needMove", "needNoMove", "needNumberLeft", "needRule", "needSector", "needSizeFor", "nextStep", "ofKind", "part", "place", "restoreState", "run", "set", "setMinimum", "split", "turnBack"].contains (ri_nm M).name) || (ri_nm M).name == "isWord"
/-- the length of a text out of the table of links, a char of it -/
def ri_strm (G : ri_Tb) (M : ri_Mt) (K : ri_K) (kd sort pc : Nat) (lv : List (Nat × Jvm.Term)) (st : List Jvm.Term) (cs : List ri_Cd) (mem : ri_Me) : Option ri_Rs := match st with
  | .string c i :: r => if kd = 16 ∧ sort = 0 ∧ c = ri_own M ∧ r.length ≤ 4 ∧ ri_hi M = true then (match ri_cp G M i with
    | some (9, _, _, tx) => K (pc + 3) lv (ri_ci (Int32.ofNat tx.toList.length) :: r) cs mem
    | _ => none) else none
  | .int v :: .string c i :: r => if kd = 17 ∧ sort = 0 ∧ c = ri_own M ∧ r.length ≤ 4 ∧ ¬ v < 0 ∧ ri_hi M = true then (match ri_cp G M i with
    | some (9, _, _, tx) => match tx.toList[v.toNatClampNeg]? with
      | some ch => K (pc + 3) lv (ri_ci (Int32.ofNat ch.toNat) :: r) cs mem
      | none => none
    | _ => none) else none
  | _ => none
/-- a call: sort 0 of an object, 1 static, 2 a constructor -/
def ri_inv (G : ri_Tb) (call : ri_Call) (M : ri_Mt) (K : ri_K) (sort pc idx : Nat) (lv : List (Nat × Jvm.Term)) (st : List Jvm.Term) (cs : List ri_Cd) (mem : ri_Me) : Option ri_Rs := match ri_cp G M idx with
  | some (kd, mi, n, _) =>
    if kd = 20 + sort ∨ kd = 30 + sort then (match (ri_mts G)[mi]? with
      | some M' =>
        if (kd = 21 ∨ (ri_hh M').isEmpty = true) ∧ ri_nn sort n ≤ st.length ∧ (st.drop (ri_nn sort n)).length ≤ 4 ∧ (sort = 1 ∨ ri_recv G (ri_nm M').cls mem (st.take (ri_nn sort n)).reverse = true) then (match call mi (st.take (ri_nn sort n)).reverse cs mem with
          | some (L, mc, ms, ob) => ri_more mc ms ob (ri_seq (ri_after G M K pc lv (st.drop (ri_nn sort n))) L)
          | none => none) else none
      | none => none)
    else if kd = 7 then (match st with
      | .index _ :: r => if sort = 2 ∧ r.length ≤ 4 then K (pc + 3) lv r cs mem else none
      | _ => none)
    else if kd = 10 then (match st with
      | y :: x :: r => if sort = 1 ∧ ri_k x = 0 ∧ ri_k y = 0 ∧ r.length ≤ 4 then ri_br cs (1, x, y, true) (fun cs' => K (pc + 3) lv (y :: r) cs' mem) (fun cs' => K (pc + 3) lv (x :: r) cs' mem) else none
      | _ => none)
    else if kd = 11 then (match st with
      | y :: x :: r => if sort = 1 ∧ ri_k x = 0 ∧ ri_k y = 0 ∧ r.length ≤ 4 then ri_br cs (1, y, x, true) (fun cs' => K (pc + 3) lv (y :: r) cs' mem) (fun cs' => K (pc + 3) lv (x :: r) cs' mem) else none
      | _ => none)
    else if kd = 16 ∨ kd = 17 then ri_strm G M K kd sort pc lv st cs mem
    else none
  | none => none
/-- new X(text), thrown -/
def ri_thr0 (G : ri_Tb) (M : ri_Mt) (pc ik : Nat) (st : List Jvm.Term) (cs : List ri_Cd) (mem : ri_Me) : Option ri_Rs := match ri_cp G M ik, (ri_co M)[pc + 3]?, (ri_co M)[pc + 4]? with
  | some (5, _, _, E), some (some (.dup, 1)), some (some (.ldc is, 2)) => match (ri_co M)[pc + 6]?, (ri_co M)[pc + 9]? with
    | some (some (.invokespecial ic, 3)), some (some (.athrow, 1)) => match ri_cp G M is, ri_cp G M ic with
      | some (9, _, _, _), some (kq, _, _, E2) => if (kq = 13 ∨ kq = 15) ∧ E2 = E ∧ st.length ≤ 4 ∧ (ri_hh M).isEmpty = true then some ([(cs, mem, .inr E)], 1, 6, []) else none
      | _, _ => none
    | _, _ => none
  | some (5, _, _, E), some (some (.dup, 1)), some (some (.ldc_w is, 3)) => match (ri_co M)[pc + 7]?, (ri_co M)[pc + 10]? with
    | some (some (.invokespecial ic, 3)), some (some (.athrow, 1)) => match ri_cp G M is, ri_cp G M ic with
      | some (9, _, _, _), some (kq, _, _, E2) => if (kq = 13 ∨ kq = 15) ∧ E2 = E ∧ st.length ≤ 4 ∧ (ri_hh M).isEmpty = true then some ([(cs, mem, .inr E)], 1, 6, []) else none
      | _, _ => none
    | _, _ => none
  | _, _, _ => none
def ri_thr (G : ri_Tb) (M : ri_Mt) (pc ik : Nat) (st : List Jvm.Term) (cs : List ri_Cd) (mem : ri_Me) : Option ri_Rs := if ri_hi M = true then ri_thr0 G M pc ik st cs mem else none
def ri_ans (M : ri_Mt) (st : List Jvm.Term) (cs : List ri_Cd) (mem : ri_Me) (ok : Jvm.Term → Option FieldType → Bool) : Option ri_Rs := match st with
  | [t] => if ok t (ri_rt M) = true then some ([(cs, mem, .inl (some t))], 0, 0, []) else none
  | _ => none
def ri_okI (t : Jvm.Term) : Option FieldType → Bool
  | some .int => ri_k t == 0
  | some .boolean => ri_fit .boolean t
  | _ => false
def ri_okA (t : Jvm.Term) : Option FieldType → Bool
  | some (.object _) => ri_k t == 2 || ri_k t == 3
  | some (.array _) => ri_k t == 2 || ri_k t == 3
  | _ => false
def ri_okD (t : Jvm.Term) : Option FieldType → Bool
  | some .double => ri_k t == 4
  | _ => false
def ri_okF (t : Jvm.Term) : Option FieldType → Bool
  | some .float => ri_k t == 5
  | _ => false
def ri_ctl (G : ri_Tb) (call : ri_Call) (M : ri_Mt) (K : ri_K) (pc : Nat) (i : Instr) (len : Nat) (lv : List (Nat × Jvm.Term)) (st : List Jvm.Term) (cs : List ri_Cd) (mem : ri_Me) : Option ri_Rs := match i with
  | .goto off => match ri_tg pc off with
    | some t => if len = 3 then K t lv st cs mem else none
    | none => none
  | .ifCond c off => match st, ri_tg pc off with
    | a :: r, some t => if ri_k a = 0 ∧ len = 3 then ri_br cs (ri_cnd c a (.int 0)) (fun cs' => K t lv r cs' mem) (fun cs' => K (pc + 3) lv r cs' mem) else none
    | _, _ => none
  | .if_icmp c off => match st, ri_tg pc off with
    | b :: a :: r, some t => if ri_k a = 0 ∧ ri_k b = 0 ∧ len = 3 then ri_br cs (ri_cnd c a b) (fun cs' => K t lv r cs' mem) (fun cs' => K (pc + 3) lv r cs' mem) else none
    | _, _ => none
  | .ifnull off => match st, ri_tg pc off with
    | a :: r, some t => if len = 3 then (if ri_k a = 3 then K t lv r cs mem else if ri_k a = 2 then K (pc + 3) lv r cs mem else none) else none
    | _, _ => none
  | .ifnonnull off => match st, ri_tg pc off with
    | a :: r, some t => if len = 3 then (if ri_k a = 2 then K t lv r cs mem else if ri_k a = 3 then K (pc + 3) lv r cs mem else none) else none
    | _, _ => none
  | .tableswitch d lo hi offs => match st with
    | x :: r => if ri_k x = 0 ∧ hi = lo + (offs.size : Int) - 1 ∧ -2147483648 ≤ lo ∧ hi < 2147483648 then ri_chain x pc (fun t cs' => K t lv r cs' mem) d (offs.toList.mapIdx (fun j o => (lo + (j : Int), o))) cs else none
    | _ => none
  | .lookupswitch d ps => match st with
    | x :: r => if ri_k x = 0 ∧ (ps.toList.zip (ps.toList.drop 1)).all (fun (a, next) => a.1 < next.1) = true ∧ ps.toList.all (fun q => decide (-2147483648 ≤ q.1 ∧ q.1 < 2147483648)) = true then ri_chain x pc (fun t cs' => K t lv r cs' mem) d ps.toList cs else none
    | _ => none
  | .ireturn => if len = 1 then ri_ans M st cs mem ri_okI else none
  | .areturn => if len = 1 then ri_ans M st cs mem ri_okA else none
  | .dreturn => if len = 1 then ri_ans M st cs mem ri_okD else none
  | .freturn => if len = 1 then ri_ans M st cs mem ri_okF else none
  | .return_ => match st, ri_rt M with
    | [], none => if len = 1 then some ([(cs, mem, .inl none)], 0, 0, []) else none
    | _, _ => none
  | .new ik => if len = 3 then ri_thr G M pc ik st cs mem else none
  | .invokevirtual idx => if len = 3 then ri_inv G call M K 0 pc idx lv st cs mem else none
  | .invokestatic idx => if len = 3 then ri_inv G call M K 1 pc idx lv st cs mem else none
  | .invokespecial idx => if len = 3 then ri_inv G call M K 2 pc idx lv st cs mem else none
  | _ => none
/-- one step, and what follows -/
def ri_one (G : ri_Tb) (call : ri_Call) (M : ri_Mt) (K : ri_K) (pc : Nat) (lv : List (Nat × Jvm.Term)) (st : List Jvm.Term) (cs : List ri_Cd) (mem : ri_Me) : Option ri_Rs := match (ri_co M)[pc]? with
  | some (some (i, len)) => match ri_pure (ri_mx M) i lv st with
    | some (len', lv', st') => if len' = len then K (pc + len) lv' st' cs mem else none
    | none => match ri_heap G M cs i st mem with
      | some x => if x.1 = len then ri_more x.2.2.2.1 x.2.2.2.2.1 x.2.2.2.2.2 (K (pc + len) lv x.2.1 cs x.2.2.1) else none
      | none => match ri_foc i st with
        | some (a, t, r) => if ri_k t = 0 ∧ ri_cst t = false ∧ (ri_bd cs t).2 < (ri_bd cs t).1 + 700 then ri_vals t (fun y cs' => K pc lv (a ++ y :: r) cs' mem) ((ri_bd cs t).2 - (ri_bd cs t).1 + 1).toNat (ri_bd cs t).1 cs else none
        | none => ri_ctl G call M K pc i len lv st cs mem
  | _ => none
/-- as many steps; then B -/
noncomputable def ri_runB (G : ri_Tb) (call : ri_Call) (M : ri_Mt) (B : ri_K) (f : Nat) : ri_K := Nat.rec (motive := fun _ => ri_K) B (fun _ K pc lv st cs mem => ri_one G call M K pc lv st cs mem) f
abbrev ri_B0 : ri_K := fun _ _ _ _ _ => none
noncomputable abbrev ri_run (G : ri_Tb) (call : ri_Call) (M : ri_Mt) (f : Nat) : ri_K := ri_runB G call M ri_B0 f
theorem ri_runB_S {G : ri_Tb} {call : ri_Call} {M : ri_Mt} {B : ri_K} {f pc : Nat} {lv : List (Nat × Jvm.Term)} {st : List Jvm.Term} {cs : List ri_Cd} {mem : ri_Me} : ri_runB G call M B (f + 1) pc lv st cs mem = ri_one G call M (ri_runB G call M B f) pc lv st cs mem := rfl
/-- two lists, two cells, two worlds alike -/
def ri_eqL : List Jvm.Term → List Jvm.Term → Bool
  | [], [] => true
  | a :: l, b :: r => ri_eqT a b && ri_eqL l r
  | _, _ => false
def ri_eqP : List (Nat × Jvm.Term) → List (Nat × Jvm.Term) → Bool
  | [], [] => true
  | a :: l, b :: r => a.1 == b.1 && (ri_eqT a.2 b.2 && ri_eqP l r)
  | _, _ => false
def ri_eqC : ri_Ce → ri_Ce → Bool
  | .inl (c, f), .inl (c2, f2) => c == c2 && ri_eqL f f2
  | .inr (t, n, d, o), .inr (t2, n2, d2, o2) => t == t2 && (n == n2 && (ri_eqT d d2 && ri_eqP o o2))
  | _, _ => false
def ri_eqM : ri_Me → ri_Me → Bool
  | [], [] => true
  | a :: l, b :: r => ri_eqC a b && ri_eqM l r
  | _, _ => false
theorem ri_eqL_s : ∀ (a b : List Jvm.Term), ri_eqL a b = true → a = b
  | [], [], _ => rfl
  | a :: l, b :: r, h => by
    simp only [ri_eqL, Bool.and_eq_true] at h
    rw [ri_eqT_s _ _ h.1, ri_eqL_s l r h.2]
  | [], _ :: _, h => by cases h
  | _ :: _, [], h => by cases h
theorem ri_eqP_s : ∀ (a b : List (Nat × Jvm.Term)), ri_eqP a b = true → a = b
  | [], [], _ => rfl
  | a :: l, b :: r, h => by
    simp only [ri_eqP, Bool.and_eq_true, beq_iff_eq] at h
    rw [Prod.ext h.1 (ri_eqT_s _ _ h.2.1), ri_eqP_s l r h.2.2]
  | [], _ :: _, h => by cases h
  | _ :: _, [], h => by cases h
theorem ri_eqC_s (a b : ri_Ce) (h : ri_eqC a b = true) : a = b := by
  unfold ri_eqC at h
  split at h
  · simp only [Bool.and_eq_true, beq_iff_eq] at h
    rw [h.1, ri_eqL_s _ _ h.2]
  · simp only [Bool.and_eq_true, beq_iff_eq] at h
    rw [h.1, h.2.1, ri_eqT_s _ _ h.2.2.1, ri_eqP_s _ _ h.2.2.2]
  · cases h
theorem ri_eqM_s : ∀ (a b : ri_Me), ri_eqM a b = true → a = b
  | [], [], _ => rfl
  | a :: l, b :: r, h => by
    simp only [ri_eqM, Bool.and_eq_true] at h
    rw [ri_eqC_s _ _ h.1, ri_eqM_s l r h.2]
  | [], _ :: _, h => by cases h
  | _ :: _, [], h => by cases h
/-- stop at this very place -/
def ri_stop (pc0 : Nat) (lv0 : List (Nat × Jvm.Term)) (mem0 : ri_Me) (r : ri_Rs) : ri_K := fun pc lv st cs mem => if (pc == pc0 && (ri_eqP lv lv0 && (st.isEmpty && (cs.isEmpty && ri_eqM mem mem0)))) = true then some r else none
theorem ri_stop_s {pc0 pc : Nat} {lv0 lv : List (Nat × Jvm.Term)} {mem0 mem : ri_Me} {r rs : ri_Rs} {st : List Jvm.Term} {cs : List ri_Cd} (h : ri_stop pc0 lv0 mem0 r pc lv st cs mem = some rs) : pc = pc0 ∧ lv = lv0 ∧ st = [] ∧ cs = [] ∧ mem = mem0 ∧ rs = r := by
  unfold ri_stop at h
  split at h
  · next hk =>
    cases h
    simp only [Bool.and_eq_true, beq_iff_eq] at hk
    exact ⟨hk.1, ri_eqP_s _ _ hk.2.1, List.isEmpty_iff.mp hk.2.2.1, List.isEmpty_iff.mp hk.2.2.2.1, ri_eqM_s _ _ hk.2.2.2.2, rfl⟩
  · cases h
/-- the locals with which a method begins -/
def ri_args : Nat → List Jvm.Term → List (Nat × Jvm.Term)
  | _, [] => []
  | i, t :: ts => (i, t) :: ri_args (if ri_wide t = true then i + 2 else i + 1) ts
noncomputable def ri_call (G : ri_Tb) (fuel d : Nat) : ri_Call := Nat.rec (motive := fun _ => ri_Call) (fun _ _ _ _ => none) (fun k C mi args cs mem => match (ri_mts G)[mi]? with
    | some M => if ri_lw M = false ∧ (args.map (fun t => if ri_wide t = true then 2 else 1)).sum ≤ ri_mx M ∧ (ri_hi M = true → 5 ≤ k) then ri_run G C M fuel 0 (ri_args 0 args) [] cs mem else none
    | none => none) d
theorem ri_call_0 {G : ri_Tb} {fuel mi : Nat} {args : List Jvm.Term} {cs : List ri_Cd} {mem : ri_Me} : ri_call G fuel 0 mi args cs mem = none := rfl
theorem ri_call_S {G : ri_Tb} {fuel d mi : Nat} {args : List Jvm.Term} {cs : List ri_Cd} {mem : ri_Me} : ri_call G fuel (d + 1) mi args cs mem = (match (ri_mts G)[mi]? with
    | some M => if ri_lw M = false ∧ (args.map (fun t => if ri_wide t = true then 2 else 1)).sum ≤ ri_mx M ∧ (ri_hi M = true → 5 ≤ d) then ri_run G (ri_call G fuel d) M fuel 0 (ri_args 0 args) [] cs mem else none
    | none => none) := rfl
end RIR
