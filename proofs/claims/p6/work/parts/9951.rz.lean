/-! RI a third time, quicker still: the commonest instructions over constants by recursors alone; all else as before -/
section RZ
noncomputable def rz_if {α : Type} (b : Bool) (x y : α) : α := Bool.rec (motive := fun _ => α) y x b
noncomputable def rz_o {α β : Type} (d : β) (f : α → β) (o : Option α) : β := Option.rec (motive := fun _ => β) d f o
noncomputable def rz_l {α β : Type} (d : β) (f : α → List α → β) (l : List α) : β := List.rec (motive := fun _ => β) d (fun a r _ => f a r) l
noncomputable def rz_tm {β : Type} (d : β) (fi : Int32 → β) (fl : Int64 → β) (fr : Nat → β) (t : Jvm.Term) : β :=
  Jvm.Term.rec (motive := fun _ => β) (fun _ => d) fi fl d fr (fun _ _ _ _ _ => d) (fun _ _ _ => d) (fun _ _ => d) (fun _ => d) (fun _ _ => d) (fun _ _ _ _ => d) (fun _ _ _ _ => d) (fun _ _ _ _ => d) (fun _ _ _ _ => d) (fun _ _ _ _ => d) (fun _ _ _ _ => d) (fun _ _ _ _ _ => d) (fun _ _ _ => d) (fun _ _ => d) d d (fun _ _ => d) t
noncomputable def rz_int (t : Jvm.Term) : Option Int32 := Jvm.Term.rec (motive := fun _ => Option Int32) (fun _ => none) (fun v => some v) (fun _ => none) none (fun _ => none) (fun _ _ _ _ _ => none) (fun _ _ _ => none) (fun _ _ => none) (fun _ => none) (fun _ _ => none) (fun _ _ _ _ => none) (fun _ _ _ _ => none) (fun _ _ _ _ => none) (fun _ _ _ _ => none) (fun _ _ _ _ => none) (fun _ _ _ _ => none) (fun _ _ _ _ _ => none) (fun _ _ _ => none) (fun _ _ => none) none none (fun _ _ => none) t
noncomputable def rz_nat (t : Jvm.Term) : Option Nat := Jvm.Term.rec (motive := fun _ => Option Nat) (fun _ => none) (fun v => some v.toBitVec.toNat) (fun _ => none) none (fun _ => none) (fun _ _ _ _ _ => none) (fun _ _ _ => none) (fun _ _ => none) (fun _ => none) (fun _ _ => none) (fun _ _ _ _ => none) (fun _ _ _ _ => none) (fun _ _ _ _ => none) (fun _ _ _ _ => none) (fun _ _ _ _ => none) (fun _ _ _ _ => none) (fun _ _ _ _ _ => none) (fun _ _ _ => none) (fun _ _ => none) none none (fun _ _ => none) t
noncomputable def rz_long (t : Jvm.Term) : Option Int64 := Jvm.Term.rec (motive := fun _ => Option Int64) (fun _ => none) (fun _ => none) (fun v => some v) none (fun _ => none) (fun _ _ _ _ _ => none) (fun _ _ _ => none) (fun _ _ => none) (fun _ => none) (fun _ _ => none) (fun _ _ _ _ => none) (fun _ _ _ _ => none) (fun _ _ _ _ => none) (fun _ _ _ _ => none) (fun _ _ _ _ => none) (fun _ _ _ _ => none) (fun _ _ _ _ _ => none) (fun _ _ _ => none) (fun _ _ => none) none none (fun _ _ => none) t
noncomputable def rz_ref (t : Jvm.Term) : Option Nat := Jvm.Term.rec (motive := fun _ => Option Nat) (fun _ => none) (fun _ => none) (fun _ => none) none (fun k => some k) (fun _ _ _ _ _ => none) (fun _ _ _ => none) (fun _ _ => none) (fun _ => none) (fun _ _ => none) (fun _ _ _ _ => none) (fun _ _ _ _ => none) (fun _ _ _ _ => none) (fun _ _ _ _ => none) (fun _ _ _ _ => none) (fun _ _ _ _ => none) (fun _ _ _ _ _ => none) (fun _ _ _ => none) (fun _ _ => none) none none (fun _ _ => none) t
noncomputable def rz_k (t : Jvm.Term) : Nat := Jvm.Term.rec (motive := fun _ => Nat) (fun _ => 0) (fun _ => 0) (fun _ => 1) 3 (fun _ => 2) (fun _ _ _ _ _ => 9) (fun _ _ _ => 9) (fun _ _ => 2) (fun _ => 9) (fun _ _ => 9) (fun _ _ _ _ => 9) (fun _ _ _ _ => 0) (fun _ _ _ _ => 0) (fun _ _ _ _ => 0) (fun _ _ _ _ => 0) (fun _ _ _ _ => 0) (fun o a b _ _ => ri_k (.op2 o a b)) (fun o a _ => ri_k (.op1 o a)) (fun _ _ => 9) 9 9 (fun _ _ => 9) t
theorem rz_int_s {t : Jvm.Term} {v : Int32} (h : rz_int t = some v) : t = .int v := by cases t <;> cases h; rfl
theorem rz_nat_s {t : Jvm.Term} {n : Nat} (h : rz_nat t = some n) : ∃ v : Int32, t = .int v ∧ n = v.toBitVec.toNat := by
  cases t <;> cases h
  exact ⟨_, rfl, rfl⟩
theorem rz_long_s {t : Jvm.Term} {v : Int64} (h : rz_long t = some v) : t = .long v := by cases t <;> cases h; rfl
theorem rz_ref_s {t : Jvm.Term} {k : Nat} (h : rz_ref t = some k) : t = .index k := by cases t <;> cases h; rfl
theorem rz_k_eq (t : Jvm.Term) : rz_k t = ri_k t := by cases t <;> rfl
theorem rz_beq {a b : Nat} (h : Nat.beq a b = true) : a = b := Nat.eq_of_beq_eq_true h
theorem rz_bne {a b : Nat} (h : Nat.beq a b = false) : a ≠ b := fun e => by rw [e, Nat.beq_refl] at h; cases h
theorem rz_ble {a b : Nat} (h : Nat.ble a b = true) : a ≤ b := Nat.le_of_ble_eq_true h
/-- lists -/
noncomputable def rz_get {α : Type} (l : List α) : Nat → Option α := List.rec (motive := fun _ => Nat → Option α) (fun _ => none) (fun a _ ih k => Nat.rec (motive := fun _ => Option α) (some a) (fun k' _ => ih k') k) l
theorem rz_get_eq {α : Type} (l : List α) : ∀ k, rz_get l k = l[k]? := by
  induction l with
  | nil => intro k; rfl
  | cons a l ih => intro k; cases k with
    | zero => rfl
    | succ k => exact ih k
noncomputable def rz_set {α : Type} (e : α) (l : List α) : Nat → List α := List.rec (motive := fun _ => Nat → List α) (fun _ => []) (fun a r ih k => Nat.rec (motive := fun _ => List α) (e :: r) (fun k' _ => a :: ih k') k) l
theorem rz_set_eq {α : Type} (e : α) (l : List α) : ∀ k, rz_set e l k = l.set k e := by
  induction l with
  | nil => intro k; rfl
  | cons a l ih => intro k; cases k with
    | zero => rfl
    | succ k => exact congrArg (a :: ·) (ih k)
noncomputable def rz_ld (lv : List (Nat × Jvm.Term)) (i : Nat) : Option Jvm.Term := List.rec (motive := fun _ => Option Jvm.Term) none (fun q _ ih => rz_if (Nat.beq q.1 i) (some q.2) ih) lv
theorem rz_ld_eq (lv : List (Nat × Jvm.Term)) (i : Nat) : rz_ld lv i = ri_ld lv i := by
  induction lv with
  | nil => rfl
  | cons q l ih =>
    show rz_if (Nat.beq q.1 i) (some q.2) (rz_ld l i) = _
    unfold ri_ld
    cases h : Nat.beq q.1 i with
    | true =>
      rw [List.find?_cons_of_pos (by rw [rz_beq h]; simp)]
      rfl
    | false =>
      rw [List.find?_cons_of_neg (by simpa using rz_bne h)]
      exact ih
noncomputable def rz_fl (i : Nat) (lv : List (Nat × Jvm.Term)) : List (Nat × Jvm.Term) := List.rec (motive := fun _ => List (Nat × Jvm.Term)) [] (fun q _ ih => rz_if (Nat.beq q.1 i) ih (rz_if (Nat.beq (Nat.succ q.1) i) (rz_if (ri_wide q.2) ih (q :: ih)) (q :: ih))) lv
theorem rz_fl_eq (i : Nat) (lv : List (Nat × Jvm.Term)) : rz_fl i lv = lv.filter (fun q => !(q.1 == i) && !(q.1 + 1 == i && ri_wide q.2)) := by
  induction lv with
  | nil => rfl
  | cons q l ih =>
    show rz_if (Nat.beq q.1 i) (rz_fl i l) (rz_if (Nat.beq (Nat.succ q.1) i) (rz_if (ri_wide q.2) (rz_fl i l) (q :: rz_fl i l)) (q :: rz_fl i l)) = _
    rw [List.filter_cons, ih]
    cases h : Nat.beq q.1 i with
    | true => rw [rz_beq h]; simp [rz_if]
    | false =>
      have h1 : (q.1 == i) = false := by simpa using rz_bne h
      cases h2 : Nat.beq (Nat.succ q.1) i with
      | true =>
        have h3 : (q.1 + 1 == i) = true := by simpa using rz_beq h2
        cases h4 : ri_wide q.2 <;> simp [rz_if, h1, h3, h4]
      | false =>
        have h3 : (q.1 + 1 == i) = false := by simpa using rz_bne h2
        simp [rz_if, h1, h3]
noncomputable def rz_sto (lv : List (Nat × Jvm.Term)) (i : Nat) (t : Jvm.Term) : List (Nat × Jvm.Term) := (i, t) :: rz_fl i lv
theorem rz_sto_eq (lv : List (Nat × Jvm.Term)) (i : Nat) (t : Jvm.Term) : rz_sto lv i t = ri_sto lv i t := by
  unfold rz_sto ri_sto
  rw [rz_fl_eq]
noncomputable def rz_lk (d : Jvm.Term) (ov : List (Nat × Jvm.Term)) (j : Nat) : Jvm.Term := List.rec (motive := fun _ => Jvm.Term) d (fun q _ ih => rz_if (Nat.beq q.1 j) q.2 ih) ov
theorem rz_lk_eq (d : Jvm.Term) (ov : List (Nat × Jvm.Term)) (j : Nat) : rz_lk d ov j = ri_look d ov j := by
  induction ov with
  | nil => rfl
  | cons q l ih =>
    show rz_if (Nat.beq q.1 j) q.2 (rz_lk d l j) = _
    unfold ri_look at ih ⊢
    cases h : Nat.beq q.1 j with
    | true =>
      rw [List.find?_cons_of_pos (by rw [rz_beq h]; simp)]
      rfl
    | false =>
      rw [List.find?_cons_of_neg (by simpa using rz_bne h)]
      exact ih
noncomputable def rz_f0 (j : Nat) (ov : List (Nat × Jvm.Term)) : List (Nat × Jvm.Term) := List.rec (motive := fun _ => List (Nat × Jvm.Term)) [] (fun q _ ih => rz_if (Nat.beq q.1 j) ih (q :: ih)) ov
theorem rz_f0_eq (j : Nat) (ov : List (Nat × Jvm.Term)) : rz_f0 j ov = ov.filter (fun q => !(q.1 == j)) := by
  induction ov with
  | nil => rfl
  | cons q l ih =>
    show rz_if (Nat.beq q.1 j) (rz_f0 j l) (q :: rz_f0 j l) = _
    rw [List.filter_cons, ih]
    cases h : Nat.beq q.1 j with
    | true => rw [rz_beq h]; simp [rz_if]
    | false =>
      have h1 : (q.1 == j) = false := by simpa using rz_bne h
      simp [rz_if, h1]
noncomputable def rz_same (t d : Jvm.Term) : Bool := rz_o (ri_sameC t d) (fun x => rz_o (ri_sameC t d) (fun y => Nat.beq x y) (rz_nat d)) (rz_nat t)
theorem rz_same_eq (t d : Jvm.Term) : rz_same t d = ri_sameC t d := by
  unfold rz_same
  cases ht : rz_nat t with
  | none => rfl
  | some x =>
    cases hd : rz_nat d with
    | none => rfl
    | some y =>
      obtain ⟨a, rfl, rfl⟩ := rz_nat_s ht
      obtain ⟨b, rfl, rfl⟩ := rz_nat_s hd
      show Nat.beq a.toBitVec.toNat b.toBitVec.toNat = (a == b)
      rw [Bool.eq_iff_iff, beq_iff_eq]
      exact ⟨fun h => Int32.toBitVec_inj.mp (BitVec.eq_of_toNat_eq (rz_beq h)), fun h => by rw [h]; exact Nat.beq_refl _⟩
noncomputable def rz_put (d : Jvm.Term) (ov : List (Nat × Jvm.Term)) (j : Nat) (t : Jvm.Term) : List (Nat × Jvm.Term) := rz_if (rz_same t d) (rz_f0 j ov) ((j, t) :: rz_f0 j ov)
theorem rz_put_eq (d : Jvm.Term) (ov : List (Nat × Jvm.Term)) (j : Nat) (t : Jvm.Term) : rz_put d ov j t = ri_put d ov j t := by
  unfold rz_put ri_put
  rw [rz_same_eq, rz_f0_eq]
  cases ri_sameC t d <;> rfl
/-- compares by numbers -/
noncomputable def rz_lt (x y : Nat) : Bool := Nat.ble (Nat.succ (Nat.mod (Nat.add x 2147483648) 4294967296)) (Nat.mod (Nat.add y 2147483648) 4294967296)
theorem rz_toInt (v : Int32) : v.toInt = if v.toBitVec.toNat < 2147483648 then (v.toBitVec.toNat : Int) else (v.toBitVec.toNat : Int) - 4294967296 := by
  show v.toBitVec.toInt = _
  rw [BitVec.toInt_eq_toNat_cond]
  have : v.toBitVec.toNat < 4294967296 := v.toBitVec.isLt
  split <;> split <;> omega
theorem rz_lt_eq (v w : Int32) : rz_lt v.toBitVec.toNat w.toBitVec.toNat = decide (v < w) := by
  rw [Bool.eq_iff_iff, decide_eq_true_iff, Int32.lt_iff_toInt_lt, rz_toInt, rz_toInt]
  unfold rz_lt
  rw [Nat.ble_eq]
  have h1 : v.toBitVec.toNat < 4294967296 := v.toBitVec.isLt
  have h2 : w.toBitVec.toNat < 4294967296 := w.toBitVec.isLt
  generalize v.toBitVec.toNat = a at *
  generalize w.toBitVec.toNat = b at *
  show (a + 2147483648) % 4294967296 + 1 ≤ (b + 2147483648) % 4294967296 ↔ _
  split <;> split <;> omega
noncomputable def rz_cmp (c : ClassFile.Cond) (x y : Nat) : Bool := ClassFile.Cond.rec (motive := fun _ => Bool) (Nat.beq x y) (rz_if (Nat.beq x y) false true) (rz_lt x y) (rz_if (rz_lt x y) false true) (rz_lt y x) (rz_if (rz_lt y x) false true) c
theorem rz_eqb (v w : Int32) : Nat.beq v.toBitVec.toNat w.toBitVec.toNat = decide (v = w) := by
  rw [Bool.eq_iff_iff, decide_eq_true_iff]
  exact ⟨fun h => Int32.toBitVec_inj.mp (BitVec.eq_of_toNat_eq (rz_beq h)), fun h => by rw [h]; exact Nat.beq_refl _⟩
theorem rz_br {cs : List ri_Cd} {k : Nat} {v w : Int32} {b : Bool} {T F : List ri_Cd → Option ri_Rs} : ri_br cs (k, .int v, .int w, b) T F = if (match k with
    | 0 => decide (v = w)
    | _ => decide (v < w)) = b then T cs else F cs := rfl
theorem rz_cmp_eq {c : ClassFile.Cond} {v w : Int32} {cs : List ri_Cd} {T F : List ri_Cd → Option ri_Rs} : ri_br cs (ri_cnd c (.int v) (.int w)) T F = rz_if (rz_cmp c v.toBitVec.toNat w.toBitVec.toNat) (T cs) (F cs) := by
  cases c with
  | eq => show ri_br cs (0, .int v, .int w, true) T F = rz_if (Nat.beq v.toBitVec.toNat w.toBitVec.toNat) _ _; rw [rz_br, rz_eqb]; cases decide (v = w) <;> rfl
  | ne => show ri_br cs (0, .int v, .int w, false) T F = rz_if (rz_if (Nat.beq v.toBitVec.toNat w.toBitVec.toNat) false true) _ _; rw [rz_br, rz_eqb]; cases decide (v = w) <;> rfl
  | lt => show ri_br cs (1, .int v, .int w, true) T F = rz_if (rz_lt v.toBitVec.toNat w.toBitVec.toNat) _ _; rw [rz_br, rz_lt_eq]; cases decide (v < w) <;> rfl
  | ge => show ri_br cs (1, .int v, .int w, false) T F = rz_if (rz_if (rz_lt v.toBitVec.toNat w.toBitVec.toNat) false true) _ _; rw [rz_br, rz_lt_eq]; cases decide (v < w) <;> rfl
  | gt => show ri_br cs (1, .int w, .int v, true) T F = rz_if (rz_lt w.toBitVec.toNat v.toBitVec.toNat) _ _; rw [rz_br, rz_lt_eq]; cases decide (w < v) <;> rfl
  | le => show ri_br cs (1, .int w, .int v, false) T F = rz_if (rz_if (rz_lt w.toBitVec.toNat v.toBitVec.toNat) false true) _ _; rw [rz_br, rz_lt_eq]; cases decide (w < v) <;> rfl
/-- canonical numbers: of a sum, a difference, a product -/
theorem rz_addc (v w : Int32) : ri_ci (v + w) = ri_cn (Nat.mod (Nat.add v.toBitVec.toNat w.toBitVec.toNat) 4294967296) := by
  unfold ri_ci
  congr 1
theorem rz_subc (v w : Int32) : ri_ci (v - w) = ri_cn (Nat.mod (Nat.add v.toBitVec.toNat (Nat.sub 4294967296 w.toBitVec.toNat)) 4294967296) := by
  unfold ri_ci
  congr 1
  show (v.toBitVec - w.toBitVec).toNat = _
  rw [BitVec.toNat_sub]
  have h2 : w.toBitVec.toNat < 4294967296 := w.toBitVec.isLt
  show (4294967296 - w.toBitVec.toNat + v.toBitVec.toNat) % 4294967296 = (v.toBitVec.toNat + (4294967296 - w.toBitVec.toNat)) % 4294967296
  rw [Nat.add_comm]
theorem rz_mulc (v w : Int32) : ri_ci (v * w) = ri_cn (Nat.mod (Nat.mul v.toBitVec.toNat w.toBitVec.toNat) 4294967296) := by
  unfold ri_ci
  congr 1
section RZ1
variable {G : ri_Tb} {call : ri_Call} {M : ri_Mt} {K : ri_K} {pc len : Nat} {i : Instr} {lv lv' : List (Nat × Jvm.Term)} {st st' : List Jvm.Term} {cs : List ri_Cd} {mem mem' : ri_Me}
theorem rz_P (h : (ri_co M)[pc]? = some (some (i, len))) (hp : ri_pure (ri_mx M) i lv st = some (len, lv', st')) : ri_one G call M K pc lv st cs mem = K (pc + len) lv' st' cs mem := by
  unfold ri_one
  rw [h]
  dsimp only
  rw [hp]
  dsimp only
  rw [if_pos rfl]
theorem rz_H (h : (ri_co M)[pc]? = some (some (i, len))) (hp : ri_pure (ri_mx M) i lv st = none) (hh : ri_heap G M cs i st mem = some (len, st', mem', 0, 0, [])) : ri_one G call M K pc lv st cs mem = K (pc + len) lv st' cs mem' := by
  unfold ri_one
  rw [h]
  dsimp only
  rw [hp]
  dsimp only
  rw [hh]
  dsimp only
  rw [if_pos rfl, ← rq_more_eq]
  rfl
theorem rz_C (h : (ri_co M)[pc]? = some (some (i, len))) (hp : ri_pure (ri_mx M) i lv st = none) (hh : ri_heap G M cs i st mem = none) (hf : ri_foc i st = none) : ri_one G call M K pc lv st cs mem = ri_ctl G call M K pc i len lv st cs mem := by
  unfold ri_one
  rw [h]
  dsimp only
  rw [hp]
  dsimp only
  rw [hh]
  dsimp only
  rw [hf]
/-- what the slow way answers -/
def rz_S (G : ri_Tb) (M : ri_Mt) (pc : Nat) (S : rq_S) : Prop := ∀ (call : ri_Call) (K : ri_K) (lv : List (Nat × Jvm.Term)) (st : List Jvm.Term) (cs : List ri_Cd) (mem : ri_Me), S call K lv st cs mem = ri_one G call M K pc lv st cs mem
noncomputable def rz_load (S : rq_S) (kk k nx : Nat) : rq_S := fun call K lv st cs mem => rz_o (S call K lv st cs mem) (fun t => rz_if (Nat.beq (rz_k t) kk) (K nx lv (t :: st) cs mem) (S call K lv st cs mem)) (rz_ld lv k)
theorem rz_load_s {S : rq_S} {kk k : Nat} (hS : rz_S G M pc S) (h : (ri_co M)[pc]? = some (some (i, len))) (hi : ∀ lv st, ri_pure (ri_mx M) i lv st = ri_pl len kk lv k st) : rz_S G M pc (rz_load S kk k (pc + len)) := by
  intro call K lv st cs mem
  unfold rz_load
  cases hl : rz_ld lv k with
  | none => exact hS _ _ _ _ _ _
  | some t =>
    show rz_if (Nat.beq (rz_k t) kk) (K (pc + len) lv (t :: st) cs mem) (S call K lv st cs mem) = _
    cases hb : Nat.beq (rz_k t) kk with
    | false => exact hS _ _ _ _ _ _
    | true =>
      refine (rz_P h ?_).symm
      rw [hi]
      unfold ri_pl
      rw [← rz_ld_eq, hl]
      dsimp only
      rw [if_pos (by rw [← rz_k_eq]; exact rz_beq hb)]
noncomputable def rz_loada (S : rq_S) (k nx : Nat) : rq_S := fun call K lv st cs mem => rz_o (S call K lv st cs mem) (fun t => rz_if (Nat.beq (rz_k t) 2) (K nx lv (t :: st) cs mem) (rz_if (Nat.beq (rz_k t) 3) (K nx lv (t :: st) cs mem) (S call K lv st cs mem))) (rz_ld lv k)
theorem rz_loada_s {S : rq_S} {k : Nat} (hS : rz_S G M pc S) (h : (ri_co M)[pc]? = some (some (i, len))) (hi : ∀ lv st, ri_pure (ri_mx M) i lv st = ri_pa len lv k st) : rz_S G M pc (rz_loada S k (pc + len)) := by
  intro call K lv st cs mem
  unfold rz_loada
  cases hl : rz_ld lv k with
  | none => exact hS _ _ _ _ _ _
  | some t =>
    have go : (ri_k t = 2 ∨ ri_k t = 3) → K (pc + len) lv (t :: st) cs mem = ri_one G call M K pc lv st cs mem := fun hk => by
      refine (rz_P h ?_).symm
      rw [hi]
      unfold ri_pa
      rw [← rz_ld_eq, hl]
      dsimp only
      rw [if_pos hk]
    show rz_if (Nat.beq (rz_k t) 2) (K (pc + len) lv (t :: st) cs mem) (rz_if (Nat.beq (rz_k t) 3) (K (pc + len) lv (t :: st) cs mem) (S call K lv st cs mem)) = _
    cases hb : Nat.beq (rz_k t) 2 with
    | true => exact go (Or.inl (by rw [← rz_k_eq]; exact rz_beq hb))
    | false =>
      cases hc : Nat.beq (rz_k t) 3 with
      | true => exact go (Or.inr (by rw [← rz_k_eq]; exact rz_beq hc))
      | false => exact hS _ _ _ _ _ _
noncomputable def rz_const (t : Jvm.Term) (nx : Nat) : rq_S := fun _ K lv st cs mem => K nx lv (t :: st) cs mem
theorem rz_const_s {t : Jvm.Term} (h : (ri_co M)[pc]? = some (some (i, len))) (hi : ∀ lv st, ri_pure (ri_mx M) i lv st = some (len, lv, t :: st)) : rz_S G M pc (rz_const t (pc + len)) := by
  intro call K lv st cs mem
  exact (rz_P h (hi lv st)).symm
noncomputable def rz_store (S : rq_S) (kk k nx : Nat) : rq_S := fun call K lv st cs mem => rz_l (S call K lv st cs mem) (fun t r => rz_if (Nat.beq (rz_k t) kk) (K nx (rz_sto lv k t) r cs mem) (S call K lv st cs mem)) st
theorem rz_store_s {S : rq_S} {kk k : Nat} (hS : rz_S G M pc S) (h : (ri_co M)[pc]? = some (some (i, len))) (hk : k < ri_mx M) (hi : ∀ lv st, ri_pure (ri_mx M) i lv st = ri_ps len kk (ri_mx M) lv k st) : rz_S G M pc (rz_store S kk k (pc + len)) := by
  intro call K lv st cs mem
  unfold rz_store
  cases st with
  | nil => exact hS _ _ _ _ _ _
  | cons t r =>
    show rz_if (Nat.beq (rz_k t) kk) (K (pc + len) (rz_sto lv k t) r cs mem) (S call K lv (t :: r) cs mem) = _
    cases hb : Nat.beq (rz_k t) kk with
    | false => exact hS _ _ _ _ _ _
    | true =>
      refine (rz_P h ?_).symm
      rw [hi]
      unfold ri_ps
      dsimp only
      rw [if_pos ⟨by rw [← rz_k_eq]; exact rz_beq hb, hk⟩, rz_sto_eq]
noncomputable def rz_s2 (S : rq_S) (f : Nat → Nat → Nat) (nx : Nat) : rq_S := fun call K lv st cs mem => rz_l (S call K lv st cs mem) (fun b r => rz_l (S call K lv st cs mem) (fun a r => rz_o (S call K lv st cs mem) (fun x => rz_o (S call K lv st cs mem) (fun y => K nx lv (ri_cn (f x y) :: r) cs mem) (rz_nat b)) (rz_nat a)) r) st
theorem rz_s2_s {S : rq_S} {f : Nat → Nat → Nat} {F : Int32 → Int32 → Int32} {T : Jvm.Term → Jvm.Term → Jvm.Term} (hS : rz_S G M pc S) (h : (ri_co M)[pc]? = some (some (i, 1))) (hi : ∀ lv st, ri_pure (ri_mx M) i lv st = ri_s2 0 (fun a b => ri_bin F (T a b) a b) lv st) (hf : ∀ v w : Int32, ri_ci (F v w) = ri_cn (f v.toBitVec.toNat w.toBitVec.toNat)) : rz_S G M pc (rz_s2 S f (pc + 1)) := by
  intro call K lv st cs mem
  unfold rz_s2
  cases st with
  | nil => exact hS _ _ _ _ _ _
  | cons b r => cases r with
    | nil => exact hS _ _ _ _ _ _
    | cons a r =>
      cases ha : rz_nat a with
      | none =>
        show rz_o (S call K lv (b :: a :: r) cs mem) _ (rz_nat a) = _
        rw [ha]
        exact hS _ _ _ _ _ _
      | some x =>
        show rz_o (S call K lv (b :: a :: r) cs mem) _ (rz_nat a) = _
        rw [ha]
        show rz_o (S call K lv (b :: a :: r) cs mem) _ (rz_nat b) = _
        cases hb : rz_nat b with
        | none => exact hS _ _ _ _ _ _
        | some y =>
          obtain ⟨v, rfl, rfl⟩ := rz_nat_s ha
          obtain ⟨w, rfl, rfl⟩ := rz_nat_s hb
          show K (pc + 1) lv (ri_cn (f v.toBitVec.toNat w.toBitVec.toNat) :: r) cs mem = _
          refine (rz_P h ?_).symm
          rw [hi, ← hf]
          rfl
noncomputable def rz_inc (S : rq_S) (k m nx : Nat) : rq_S := fun call K lv st cs mem => rz_o (S call K lv st cs mem) (fun t => rz_o (S call K lv st cs mem) (fun x => K nx (rz_sto lv k (ri_cn (Nat.mod (Nat.add x m) 4294967296))) st cs mem) (rz_nat t)) (rz_ld lv k)
theorem rz_inc_s {S : rq_S} {k : Nat} {n : Int} (hS : rz_S G M pc S) (h : (ri_co M)[pc]? = some (some (.iinc k n, 3))) (hk : k < ri_mx M) : rz_S G M pc (rz_inc S k (Int32.ofInt n).toBitVec.toNat (pc + 3)) := by
  intro call K lv st cs mem
  unfold rz_inc
  cases hl : rz_ld lv k with
  | none => exact hS _ _ _ _ _ _
  | some t =>
    show rz_o (S call K lv st cs mem) _ (rz_nat t) = _
    cases ht : rz_nat t with
    | none => exact hS _ _ _ _ _ _
    | some x =>
      obtain ⟨v, rfl, rfl⟩ := rz_nat_s ht
      show K (pc + 3) (rz_sto lv k (ri_cn (Nat.mod (Nat.add v.toBitVec.toNat (Int32.ofInt n).toBitVec.toNat) 4294967296))) st cs mem = _
      refine (rz_P h ?_).symm
      show ri_inc (ri_mx M) lv k n st = _
      unfold ri_inc
      rw [← rz_ld_eq, hl]
      dsimp only
      rw [if_pos ⟨rfl, hk⟩, ← rz_addc, rz_sto_eq]
      rfl
noncomputable def rz_ic (S : rq_S) (c : ClassFile.Cond) (t nx : Nat) : rq_S := fun call K lv st cs mem => rz_l (S call K lv st cs mem) (fun b r => rz_l (S call K lv st cs mem) (fun a r => rz_o (S call K lv st cs mem) (fun x => rz_o (S call K lv st cs mem) (fun y => rz_if (rz_cmp c x y) (K t lv r cs mem) (K nx lv r cs mem)) (rz_nat b)) (rz_nat a)) r) st
theorem rz_ic_s {S : rq_S} {c : ClassFile.Cond} {off : Int} {t : Nat} (hS : rz_S G M pc S) (h : (ri_co M)[pc]? = some (some (.if_icmp c off, 3))) (ht : ri_tg pc off = some t) : rz_S G M pc (rz_ic S c t (pc + 3)) := by
  intro call K lv st cs mem
  unfold rz_ic
  cases st with
  | nil => exact hS _ _ _ _ _ _
  | cons b r => cases r with
    | nil => exact hS _ _ _ _ _ _
    | cons a r =>
      show rz_o (S call K lv (b :: a :: r) cs mem) _ (rz_nat a) = _
      cases ha : rz_nat a with
      | none => exact hS _ _ _ _ _ _
      | some x =>
        show rz_o (S call K lv (b :: a :: r) cs mem) _ (rz_nat b) = _
        cases hb : rz_nat b with
        | none => exact hS _ _ _ _ _ _
        | some y =>
          obtain ⟨v, rfl, rfl⟩ := rz_nat_s ha
          obtain ⟨w, rfl, rfl⟩ := rz_nat_s hb
          rw [rz_C h rfl rfl rfl]
          show rz_if (rz_cmp c v.toBitVec.toNat w.toBitVec.toNat) (K t lv r cs mem) (K (pc + 3) lv r cs mem) = _
          simp only [ri_ctl]
          rw [ht]
          dsimp only
          rw [if_pos (by refine ⟨rfl, rfl, ?_⟩ <;> trivial), rz_cmp_eq]
noncomputable def rz_if0 (S : rq_S) (c : ClassFile.Cond) (t nx : Nat) : rq_S := fun call K lv st cs mem => rz_l (S call K lv st cs mem) (fun a r => rz_o (S call K lv st cs mem) (fun x => rz_if (rz_cmp c x 0) (K t lv r cs mem) (K nx lv r cs mem)) (rz_nat a)) st
theorem rz_if0_s {S : rq_S} {c : ClassFile.Cond} {off : Int} {t : Nat} (hS : rz_S G M pc S) (h : (ri_co M)[pc]? = some (some (.ifCond c off, 3))) (ht : ri_tg pc off = some t) : rz_S G M pc (rz_if0 S c t (pc + 3)) := by
  intro call K lv st cs mem
  unfold rz_if0
  cases st with
  | nil => exact hS _ _ _ _ _ _
  | cons a r =>
    show rz_o (S call K lv (a :: r) cs mem) _ (rz_nat a) = _
    cases ha : rz_nat a with
    | none => exact hS _ _ _ _ _ _
    | some x =>
      obtain ⟨v, rfl, rfl⟩ := rz_nat_s ha
      rw [rz_C h rfl rfl rfl]
      have e0 : (0 : Int32).toBitVec.toNat = 0 := rfl
      show rz_if (rz_cmp c v.toBitVec.toNat 0) (K t lv r cs mem) (K (pc + 3) lv r cs mem) = _
      rw [← e0, ]
      simp only [ri_ctl]
      rw [ht]
      dsimp only
      rw [if_pos (by refine ⟨rfl, ?_⟩ <;> trivial), rz_cmp_eq]
noncomputable def rz_go (t : Nat) : rq_S := fun _ K lv st cs mem => K t lv st cs mem
theorem rz_go_s {off : Int} {t : Nat} (h : (ri_co M)[pc]? = some (some (.goto off, 3))) (ht : ri_tg pc off = some t) : rz_S G M pc (rz_go t) := by
  intro call K lv st cs mem
  rw [rz_C h rfl rfl rfl]
  simp only [ri_ctl]
  rw [ht]
  rfl
noncomputable def rz_ce (d : Option ri_Rs) (f : Nat → List Jvm.Term → Option ri_Rs) (g : Nat → Nat → Jvm.Term → List (Nat × Jvm.Term) → Option ri_Rs) (e : ri_Ce) : Option ri_Rs := Sum.rec (motive := fun _ => Option ri_Rs) (fun p => f p.1 p.2) (fun p => g p.1 p.2.1 p.2.2.1 p.2.2.2) e
theorem rz_ce_l {d : Option ri_Rs} {f : Nat → List Jvm.Term → Option ri_Rs} {g : Nat → Nat → Jvm.Term → List (Nat × Jvm.Term) → Option ri_Rs} {c : Nat} {fs : List Jvm.Term} : rz_ce d f g (.inl (c, fs)) = f c fs := rfl
theorem rz_ce_r {d : Option ri_Rs} {f : Nat → List Jvm.Term → Option ri_Rs} {g : Nat → Nat → Jvm.Term → List (Nat × Jvm.Term) → Option ri_Rs} {a b : Nat} {t : Jvm.Term} {l : List (Nat × Jvm.Term)} : rz_ce d f g (.inr (a, b, t, l)) = g a b t l := rfl
theorem rz_o_some {α β : Type} {d : β} {f : α → β} {a : α} : rz_o d f (some a) = f a := rfl
noncomputable def rz_getf (S : rq_S) (ci j nx : Nat) : rq_S := fun call K lv st cs mem => rz_l (S call K lv st cs mem) (fun o r => rz_o (S call K lv st cs mem) (fun k => rz_o (S call K lv st cs mem) (fun e => rz_ce (S call K lv st cs mem) (fun c2 fs => rz_if (Nat.beq c2 ci) (rz_o (S call K lv st cs mem) (fun t => K nx lv (t :: r) cs mem) (rz_get fs j)) (S call K lv st cs mem)) (fun _ _ _ _ => S call K lv st cs mem) e) (rz_get mem k)) (rz_ref o)) st
theorem rz_getf_s {S : rq_S} {idx kd ci j : Nat} {tx : String} (hS : rz_S G M pc S) (h : (ri_co M)[pc]? = some (some (.getfield idx, 3))) (hc : ri_cp G M idx = some (kd, ci, j, tx)) (hkd : kd ≤ 1) : rz_S G M pc (rz_getf S ci j (pc + 3)) := by
  intro call K lv st cs mem
  unfold rz_getf
  cases st with
  | nil => exact hS _ _ _ _ _ _
  | cons o r =>
    show rz_o (S call K lv (o :: r) cs mem) _ (rz_ref o) = _
    cases ho : rz_ref o with
    | none => exact hS _ _ _ _ _ _
    | some k =>
      have eo := rz_ref_s ho
      subst eo
      show rz_o (S call K lv (.index k :: r) cs mem) _ (rz_get mem k) = _
      cases hm : rz_get mem k with
      | none => exact hS _ _ _ _ _ _
      | some e =>
        rw [rz_o_some]
        match e, hm with
        | .inr (a1, a2, a3, a4), hm => exact hS _ _ _ _ _ _
        | .inl (c2, fs), hm =>
          rw [rz_ce_l]
          cases hb : Nat.beq c2 ci with
          | false => exact hS _ _ _ _ _ _
          | true =>
            have ec := rz_beq hb
            subst ec
            show rz_o (S call K lv (.index k :: r) cs mem) _ (rz_get fs j) = _
            cases hj : rz_get fs j with
            | none => exact hS _ _ _ _ _ _
            | some t =>
              refine (rz_H h rfl ?_).symm
              show ri_getf G M idx (.index k :: r) mem = _
              unfold ri_getf
              rw [hc]
              dsimp only
              rw [← rz_get_eq, hm]
              dsimp only
              rw [← rz_get_eq, hj]
              dsimp only
              rw [if_pos ⟨hkd, rfl⟩]
noncomputable def rz_fk (ty : FieldType) (t : Jvm.Term) : Bool := match ty with
  | .int => Nat.beq (rz_k t) 0
  | .object _ => rz_if (Nat.beq (rz_k t) 2) true (Nat.beq (rz_k t) 3)
  | .array _ => rz_if (Nat.beq (rz_k t) 2) true (Nat.beq (rz_k t) 3)
  | ty => ri_fit ty t
theorem rz_bq (a b : Nat) : Nat.beq a b = (a == b) := by
  cases h : Nat.beq a b with
  | true => rw [rz_beq h]; simp
  | false => have := rz_bne h; simp [this]
theorem rz_fk_eq (ty : FieldType) (t : Jvm.Term) : rz_fk ty t = ri_fit ty t := by
  cases ty with
  | int => show Nat.beq (rz_k t) 0 = (ri_k t == 0); rw [rz_k_eq, rz_bq]
  | object n => show rz_if (Nat.beq (rz_k t) 2) true (Nat.beq (rz_k t) 3) = (ri_k t == 2 || ri_k t == 3); rw [rz_k_eq, rz_bq, rz_bq]; cases (ri_k t == 2) <;> rfl
  | array n => show rz_if (Nat.beq (rz_k t) 2) true (Nat.beq (rz_k t) 3) = (ri_k t == 2 || ri_k t == 3); rw [rz_k_eq, rz_bq, rz_bq]; cases (ri_k t == 2) <;> rfl
  | _ => rfl
noncomputable def rz_putf (S : rq_S) (ci j : Nat) (ty : FieldType) (nx : Nat) : rq_S := fun call K lv st cs mem => rz_l (S call K lv st cs mem) (fun t r => rz_l (S call K lv st cs mem) (fun o r => rz_o (S call K lv st cs mem) (fun k => rz_o (S call K lv st cs mem) (fun e => rz_ce (S call K lv st cs mem) (fun c2 fs => rz_if (Nat.beq c2 ci) (rz_o (S call K lv st cs mem) (fun _ => rz_if (rz_fk ty t) (K nx lv r cs (rz_set (.inl (ci, rz_set t fs j)) mem k)) (S call K lv st cs mem)) (rz_get fs j)) (S call K lv st cs mem)) (fun _ _ _ _ => S call K lv st cs mem) e) (rz_get mem k)) (rz_ref o)) r) st
theorem rz_putf_s {S : rq_S} {idx kd ci j N : Nat} {tx C : String} {T : u_T} {ty : FieldType} (hS : rz_S G M pc S) (h : (ri_co M)[pc]? = some (some (.putfield idx, 3))) (hc : ri_cp G M idx = some (kd, ci, j, tx)) (hkd : kd ≤ 1) (hcl : (ri_cls G)[ci]? = some (C, T, N)) (hty : ((ri_fts G).getD ci [])[j]? = some ty) (hf : (T j).2.2.2 = false ∨ (kd = 0 ∧ (ri_nm M).name = "<init>" ∧ (T j).1 = ri_own M)) : rz_S G M pc (rz_putf S ci j ty (pc + 3)) := by
  intro call K lv st cs mem
  unfold rz_putf
  cases st with
  | nil => exact hS _ _ _ _ _ _
  | cons t r => cases r with
    | nil => exact hS _ _ _ _ _ _
    | cons o r =>
    show rz_o (S call K lv (t :: o :: r) cs mem) _ (rz_ref o) = _
    cases ho : rz_ref o with
    | none => exact hS _ _ _ _ _ _
    | some k =>
      have eo := rz_ref_s ho
      subst eo
      show rz_o (S call K lv (t :: .index k :: r) cs mem) _ (rz_get mem k) = _
      cases hm : rz_get mem k with
      | none => exact hS _ _ _ _ _ _
      | some e =>
        rw [rz_o_some]
        match e, hm with
        | .inr (a1, a2, a3, a4), hm => exact hS _ _ _ _ _ _
        | .inl (c2, fs), hm =>
          rw [rz_ce_l]
          cases hb : Nat.beq c2 ci with
          | false => exact hS _ _ _ _ _ _
          | true =>
            have ec := rz_beq hb
            subst ec
            show rz_o (S call K lv (t :: .index k :: r) cs mem) _ (rz_get fs j) = _
            cases hj : rz_get fs j with
            | none => exact hS _ _ _ _ _ _
            | some t9 =>
              show rz_if (rz_fk ty t) _ _ = _
              cases hft : rz_fk ty t with
              | false => exact hS _ _ _ _ _ _
              | true =>
                have hjl : j < fs.length := by
                  rw [rz_get_eq] at hj
                  exact (List.getElem?_eq_some_iff.mp hj).1
                refine (rz_H h rfl ?_).symm
                show ri_putf G M idx (t :: .index k :: r) mem = _
                unfold ri_putf
                rw [hc]
                dsimp only
                rw [← rz_get_eq, hm, hcl, hty]
                dsimp only
                rw [if_pos ⟨hkd, rfl, hjl, by rw [← rz_fk_eq]; exact hft, hf⟩, rz_set_eq, rz_set_eq]
def rz_isI (G : ri_Tb) (ty : Nat) : Bool := match (ri_aty G)[ty]? with
  | some .int => true
  | _ => false
theorem rz_isI_s {ty : Nat} (h : rz_isI G ty = true) : (ri_aty G)[ty]? = some .int := by
  unfold rz_isI at h
  split at h
  · next e => exact e
  · cases h
def rz_isO (G : ri_Tb) (ty : Nat) : Bool := match (ri_aty G)[ty]? with
  | some (.object _) => true
  | _ => false
theorem rz_isO_s {ty : Nat} (h : rz_isO G ty = true) : ∃ C, (ri_aty G)[ty]? = some (.object C) := by
  unfold rz_isO at h
  split at h
  · next C e => exact ⟨C, e⟩
  · cases h
theorem rz_ix {v : Int32} {n : Nat} (h1 : Nat.ble (Nat.succ v.toBitVec.toNat) n = true) (h2 : Nat.ble (Nat.succ v.toBitVec.toNat) 2147483648 = true) : ri_ix (.int v) n = some v.toBitVec.toNat := by
  have h1 := rz_ble h1
  have h2 := rz_ble h2
  have h3 : v.toInt = (v.toBitVec.toNat : Int) := by rw [rz_toInt, if_pos (by omega)]
  have h4 : v.toNatClampNeg = v.toBitVec.toNat := by
    show v.toInt.toNat = _
    rw [h3]
    rfl
  unfold ri_ix
  dsimp only
  rw [if_neg, h4]
  rintro (h | h)
  · rw [Int32.lt_iff_toInt_lt, h3] at h
    have : (0 : Int32).toInt = 0 := by decide
    omega
  · omega
noncomputable def rz_iald (G : ri_Tb) (S : rq_S) (nx : Nat) : rq_S := fun call K lv st cs mem => rz_l (S call K lv st cs mem) (fun i r => rz_l (S call K lv st cs mem) (fun o r => rz_o (S call K lv st cs mem) (fun k => rz_o (S call K lv st cs mem) (fun e => rz_ce (S call K lv st cs mem) (fun _ _ => S call K lv st cs mem) (fun ty n d ov => rz_o (S call K lv st cs mem) (fun x => rz_if (Nat.ble (Nat.succ x) n) (rz_if (Nat.ble (Nat.succ x) 2147483648) (rz_if (rz_isI G ty) (rz_if (Nat.beq (rz_k (rz_lk d ov x)) 0) (K nx lv (rz_lk d ov x :: r) cs mem) (S call K lv st cs mem)) (S call K lv st cs mem)) (S call K lv st cs mem)) (S call K lv st cs mem)) (rz_nat i)) e) (rz_get mem k)) (rz_ref o)) r) st
theorem rz_iald_s {S : rq_S} (hS : rz_S G M pc S) (h : (ri_co M)[pc]? = some (some (.iaload, 1))) : rz_S G M pc (rz_iald G S (pc + 1)) := by
  intro call K lv st cs mem
  unfold rz_iald
  cases st with
  | nil => exact hS _ _ _ _ _ _
  | cons i r => cases r with
    | nil => exact hS _ _ _ _ _ _
    | cons o r =>
    show rz_o (S call K lv (i :: o :: r) cs mem) _ (rz_ref o) = _
    cases ho : rz_ref o with
    | none => exact hS _ _ _ _ _ _
    | some k =>
      have eo := rz_ref_s ho
      subst eo
      show rz_o (S call K lv (i :: .index k :: r) cs mem) _ (rz_get mem k) = _
      cases hm : rz_get mem k with
      | none => exact hS _ _ _ _ _ _
      | some e =>
        rw [rz_o_some]
        match e, hm with
        | .inl (c2, fs), hm => exact hS _ _ _ _ _ _
        | .inr (ty, n, d, ov), hm =>
          rw [rz_ce_r]
          cases hi : rz_nat i with
          | none => exact hS _ _ _ _ _ _
          | some x =>
            obtain ⟨v, rfl, rfl⟩ := rz_nat_s hi
            show rz_if (Nat.ble (Nat.succ v.toBitVec.toNat) n) _ _ = _
            cases h1 : Nat.ble (Nat.succ v.toBitVec.toNat) n with
            | false => exact hS _ _ _ _ _ _
            | true =>
              show rz_if (Nat.ble (Nat.succ v.toBitVec.toNat) 2147483648) _ _ = _
              cases h2 : Nat.ble (Nat.succ v.toBitVec.toNat) 2147483648 with
              | false => exact hS _ _ _ _ _ _
              | true =>
                show rz_if (rz_isI G ty) _ _ = _
                cases h3 : rz_isI G ty with
                | false => exact hS _ _ _ _ _ _
                | true =>
                  show rz_if (Nat.beq (rz_k (rz_lk d ov v.toBitVec.toNat)) 0) _ _ = _
                  cases h4 : Nat.beq (rz_k (rz_lk d ov v.toBitVec.toNat)) 0 with
                  | false => exact hS _ _ _ _ _ _
                  | true =>
                    have h5 := rz_beq h4
                    rw [rz_k_eq] at h5
                    refine (rz_H h rfl ?_).symm
                    show ri_iald G cs (.int v :: .index k :: r) mem = _
                    unfold ri_iald
                    dsimp only
                    rw [← rz_get_eq, hm]
                    dsimp only
                    rw [if_pos (rz_isI_s h3), rz_ix h1 h2]
                    dsimp only
                    rw [rz_lk_eq] at h5
                    rw [if_pos h5, rz_lk_eq]
noncomputable def rz_iast (G : ri_Tb) (S : rq_S) (nx : Nat) : rq_S := fun call K lv st cs mem => rz_l (S call K lv st cs mem) (fun t r => rz_l (S call K lv st cs mem) (fun i r => rz_l (S call K lv st cs mem) (fun o r => rz_o (S call K lv st cs mem) (fun k => rz_o (S call K lv st cs mem) (fun e => rz_ce (S call K lv st cs mem) (fun _ _ => S call K lv st cs mem) (fun ty n d ov => rz_o (S call K lv st cs mem) (fun x => rz_if (Nat.ble (Nat.succ x) n) (rz_if (Nat.ble (Nat.succ x) 2147483648) (rz_if (rz_isI G ty) (rz_if (Nat.beq (rz_k t) 0) (K nx lv r cs (rz_set (.inr (ty, n, d, rz_put d ov x t)) mem k)) (S call K lv st cs mem)) (S call K lv st cs mem)) (S call K lv st cs mem)) (S call K lv st cs mem)) (rz_nat i)) e) (rz_get mem k)) (rz_ref o)) r) r) st
theorem rz_iast_s {S : rq_S} (hS : rz_S G M pc S) (h : (ri_co M)[pc]? = some (some (.iastore, 1))) : rz_S G M pc (rz_iast G S (pc + 1)) := by
  intro call K lv st cs mem
  unfold rz_iast
  cases st with
  | nil => exact hS _ _ _ _ _ _
  | cons t r => cases r with
    | nil => exact hS _ _ _ _ _ _
    | cons i r => cases r with
      | nil => exact hS _ _ _ _ _ _
      | cons o r =>
      show rz_o (S call K lv (t :: i :: o :: r) cs mem) _ (rz_ref o) = _
      cases ho : rz_ref o with
      | none => exact hS _ _ _ _ _ _
      | some k =>
        have eo := rz_ref_s ho
        subst eo
        show rz_o (S call K lv (t :: i :: .index k :: r) cs mem) _ (rz_get mem k) = _
        cases hm : rz_get mem k with
        | none => exact hS _ _ _ _ _ _
        | some e =>
          rw [rz_o_some]
          match e, hm with
          | .inl (c2, fs), hm => exact hS _ _ _ _ _ _
          | .inr (ty, n, d, ov), hm =>
            rw [rz_ce_r]
            cases hi : rz_nat i with
            | none => exact hS _ _ _ _ _ _
            | some x =>
              obtain ⟨v, rfl, rfl⟩ := rz_nat_s hi
              show rz_if (Nat.ble (Nat.succ v.toBitVec.toNat) n) _ _ = _
              cases h1 : Nat.ble (Nat.succ v.toBitVec.toNat) n with
              | false => exact hS _ _ _ _ _ _
              | true =>
                show rz_if (Nat.ble (Nat.succ v.toBitVec.toNat) 2147483648) _ _ = _
                cases h2 : Nat.ble (Nat.succ v.toBitVec.toNat) 2147483648 with
                | false => exact hS _ _ _ _ _ _
                | true =>
                  show rz_if (rz_isI G ty) _ _ = _
                  cases h3 : rz_isI G ty with
                  | false => exact hS _ _ _ _ _ _
                  | true =>
                    show rz_if (Nat.beq (rz_k t) 0) _ _ = _
                    cases h4 : Nat.beq (rz_k t) 0 with
                    | false => exact hS _ _ _ _ _ _
                    | true =>
                      have h5 := rz_beq h4
                      rw [rz_k_eq] at h5
                      refine (rz_H h rfl ?_).symm
                      show ri_iast G (t :: .int v :: .index k :: r) mem = _
                      unfold ri_iast
                      dsimp only
                      rw [← rz_get_eq, hm]
                      dsimp only
                      rw [rz_ix h1 h2]
                      dsimp only
                      rw [if_pos ⟨rz_isI_s h3, h5⟩, rz_set_eq, rz_put_eq]
noncomputable def rz_aald (G : ri_Tb) (S : rq_S) (nx : Nat) : rq_S := fun call K lv st cs mem => rz_l (S call K lv st cs mem) (fun i r => rz_l (S call K lv st cs mem) (fun o r => rz_o (S call K lv st cs mem) (fun k => rz_o (S call K lv st cs mem) (fun e => rz_ce (S call K lv st cs mem) (fun _ _ => S call K lv st cs mem) (fun ty n d ov => rz_o (S call K lv st cs mem) (fun x => rz_if (Nat.ble (Nat.succ x) n) (rz_if (Nat.ble (Nat.succ x) 2147483648) (rz_if (rz_isO G ty) (rz_if (Nat.beq (rz_k (rz_lk d ov x)) 2) (K nx lv (rz_lk d ov x :: r) cs mem) (S call K lv st cs mem)) (S call K lv st cs mem)) (S call K lv st cs mem)) (S call K lv st cs mem)) (rz_nat i)) e) (rz_get mem k)) (rz_ref o)) r) st
theorem rz_aald_s {S : rq_S} (hS : rz_S G M pc S) (h : (ri_co M)[pc]? = some (some (.aaload, 1))) : rz_S G M pc (rz_aald G S (pc + 1)) := by
  intro call K lv st cs mem
  unfold rz_aald
  cases st with
  | nil => exact hS _ _ _ _ _ _
  | cons i r => cases r with
    | nil => exact hS _ _ _ _ _ _
    | cons o r =>
    show rz_o (S call K lv (i :: o :: r) cs mem) _ (rz_ref o) = _
    cases ho : rz_ref o with
    | none => exact hS _ _ _ _ _ _
    | some k =>
      have eo := rz_ref_s ho
      subst eo
      show rz_o (S call K lv (i :: .index k :: r) cs mem) _ (rz_get mem k) = _
      cases hm : rz_get mem k with
      | none => exact hS _ _ _ _ _ _
      | some e =>
        rw [rz_o_some]
        match e, hm with
        | .inl (c2, fs), hm => exact hS _ _ _ _ _ _
        | .inr (ty, n, d, ov), hm =>
          rw [rz_ce_r]
          cases hi : rz_nat i with
          | none => exact hS _ _ _ _ _ _
          | some x =>
            obtain ⟨v, rfl, rfl⟩ := rz_nat_s hi
            show rz_if (Nat.ble (Nat.succ v.toBitVec.toNat) n) _ _ = _
            cases h1 : Nat.ble (Nat.succ v.toBitVec.toNat) n with
            | false => exact hS _ _ _ _ _ _
            | true =>
              show rz_if (Nat.ble (Nat.succ v.toBitVec.toNat) 2147483648) _ _ = _
              cases h2 : Nat.ble (Nat.succ v.toBitVec.toNat) 2147483648 with
              | false => exact hS _ _ _ _ _ _
              | true =>
                show rz_if (rz_isO G ty) _ _ = _
                cases h3 : rz_isO G ty with
                | false => exact hS _ _ _ _ _ _
                | true =>
                  show rz_if (Nat.beq (rz_k (rz_lk d ov v.toBitVec.toNat)) 2) _ _ = _
                  cases h4 : Nat.beq (rz_k (rz_lk d ov v.toBitVec.toNat)) 2 with
                  | false => exact hS _ _ _ _ _ _
                  | true =>
                    have h5 := rz_beq h4
                    rw [rz_k_eq] at h5
                    obtain ⟨C, hC⟩ := rz_isO_s h3
                    refine (rz_H h rfl ?_).symm
                    show ri_aald G (.int v :: .index k :: r) mem = _
                    unfold ri_aald
                    dsimp only
                    rw [← rz_get_eq, hm]
                    dsimp only
                    rw [rz_ix h1 h2, hC]
                    dsimp only
                    rw [rz_lk_eq] at h5
                    rw [if_pos (Or.inl h5), rz_lk_eq]
noncomputable def rz_i2l (S : rq_S) (nx : Nat) : rq_S := fun call K lv st cs mem => rz_l (S call K lv st cs mem) (fun a r => rz_o (S call K lv st cs mem) (fun v => K nx lv (ri_cl v.toInt64 :: r) cs mem) (rz_int a)) st
theorem rz_i2l_s {S : rq_S} (hS : rz_S G M pc S) (h : (ri_co M)[pc]? = some (some (.i2l, 1))) : rz_S G M pc (rz_i2l S (pc + 1)) := by
  intro call K lv st cs mem
  unfold rz_i2l
  cases st with
  | nil => exact hS _ _ _ _ _ _
  | cons a r =>
    show rz_o (S call K lv (a :: r) cs mem) _ (rz_int a) = _
    cases ha : rz_int a with
    | none => exact hS _ _ _ _ _ _
    | some v =>
      have e := rz_int_s ha
      subst e
      exact (rz_P h rfl).symm
noncomputable def rz_ll (S : rq_S) (f : Int64 → Int64 → Jvm.Term) (nx : Nat) : rq_S := fun call K lv st cs mem => rz_l (S call K lv st cs mem) (fun b r => rz_l (S call K lv st cs mem) (fun a r => rz_o (S call K lv st cs mem) (fun x => rz_o (S call K lv st cs mem) (fun y => K nx lv (f x y :: r) cs mem) (rz_long b)) (rz_long a)) r) st
theorem rz_ll_s {S : rq_S} {f : Int64 → Int64 → Jvm.Term} (hS : rz_S G M pc S) (h : (ri_co M)[pc]? = some (some (i, 1))) (hi : ∀ (x y : Int64) (lv : List (Nat × Jvm.Term)) (r : List Jvm.Term), ri_pure (ri_mx M) i lv (.long y :: .long x :: r) = some (1, lv, f x y :: r)) : rz_S G M pc (rz_ll S f (pc + 1)) := by
  intro call K lv st cs mem
  unfold rz_ll
  cases st with
  | nil => exact hS _ _ _ _ _ _
  | cons b r => cases r with
    | nil => exact hS _ _ _ _ _ _
    | cons a r =>
      show rz_o (S call K lv (b :: a :: r) cs mem) _ (rz_long a) = _
      cases ha : rz_long a with
      | none => exact hS _ _ _ _ _ _
      | some x =>
        show rz_o (S call K lv (b :: a :: r) cs mem) _ (rz_long b) = _
        cases hb : rz_long b with
        | none => exact hS _ _ _ _ _ _
        | some y =>
          have e1 := rz_long_s ha
          have e2 := rz_long_s hb
          subst e1
          subst e2
          exact (rz_P h (hi _ _ _ _)).symm
noncomputable def rz_dup (S : rq_S) (nx : Nat) : rq_S := fun call K lv st cs mem => rz_l (S call K lv st cs mem) (fun a r => rz_if (Nat.beq (rz_k a) 1) (S call K lv st cs mem) (rz_if (Nat.beq (rz_k a) 4) (S call K lv st cs mem) (K nx lv (a :: a :: r) cs mem))) st
theorem rz_dup_s {S : rq_S} (hS : rz_S G M pc S) (h : (ri_co M)[pc]? = some (some (.dup, 1))) : rz_S G M pc (rz_dup S (pc + 1)) := by
  intro call K lv st cs mem
  unfold rz_dup
  cases st with
  | nil => exact hS _ _ _ _ _ _
  | cons a r =>
    show rz_if (Nat.beq (rz_k a) 1) _ _ = _
    cases h1 : Nat.beq (rz_k a) 1 with
    | true => exact hS _ _ _ _ _ _
    | false =>
      show rz_if (Nat.beq (rz_k a) 4) _ _ = _
      cases h2 : Nat.beq (rz_k a) 4 with
      | true => exact hS _ _ _ _ _ _
      | false =>
        have h3 := rz_bne h1
        have h4 := rz_bne h2
        rw [rz_k_eq] at h3 h4
        refine (rz_P h ?_).symm
        show ri_dup lv (a :: r) = _
        unfold ri_dup
        dsimp only
        rw [if_pos]
        unfold ri_wide
        simp [h3, h4]
end RZ1
noncomputable def rz_dis (G : ri_Tb) (M : ri_Mt) (pc : Nat) (i : Instr) (len : Nat) : Option rq_S := match i with
  | .iload k => rz_if (Nat.beq len 2) (some (rz_load (rq_o6 (rq_at G M pc)) 0 k (pc + 2))) (rq_at G M pc)
  | .iload_n k => rz_if (Nat.beq len 1) (some (rz_load (rq_o6 (rq_at G M pc)) 0 k.val (pc + 1))) (rq_at G M pc)
  | .lload k => rz_if (Nat.beq len 2) (some (rz_load (rq_o6 (rq_at G M pc)) 1 k (pc + 2))) (rq_at G M pc)
  | .lload_n k => rz_if (Nat.beq len 1) (some (rz_load (rq_o6 (rq_at G M pc)) 1 k.val (pc + 1))) (rq_at G M pc)
  | .aload k => rz_if (Nat.beq len 2) (some (rz_loada (rq_o6 (rq_at G M pc)) k (pc + 2))) (rq_at G M pc)
  | .aload_n k => rz_if (Nat.beq len 1) (some (rz_loada (rq_o6 (rq_at G M pc)) k.val (pc + 1))) (rq_at G M pc)
  | .iconst n => rz_if (Nat.beq len 1) (some (rz_const (ri_ci (Int32.ofInt n)) (pc + 1))) (rq_at G M pc)
  | .bipush n => rz_if (Nat.beq len 2) (some (rz_const (ri_ci (Int8.ofInt n).toInt32) (pc + 2))) (rq_at G M pc)
  | .sipush n => rz_if (Nat.beq len 3) (some (rz_const (ri_ci (Int16.ofInt n).toInt32) (pc + 3))) (rq_at G M pc)
  | .lconst n => rz_if (Nat.beq len 1) (some (rz_const (ri_cl (Int64.ofNat n.val)) (pc + 1))) (rq_at G M pc)
  | .aconst_null => rz_if (Nat.beq len 1) (some (rz_const .null (pc + 1))) (rq_at G M pc)
  | .istore k => rz_if (Nat.beq len 2) (rz_if (Nat.ble (Nat.succ k) (ri_mx M)) (some (rz_store (rq_o6 (rq_at G M pc)) 0 k (pc + 2))) (rq_at G M pc)) (rq_at G M pc)
  | .istore_n k => rz_if (Nat.beq len 1) (rz_if (Nat.ble (Nat.succ k.val) (ri_mx M)) (some (rz_store (rq_o6 (rq_at G M pc)) 0 k.val (pc + 1))) (rq_at G M pc)) (rq_at G M pc)
  | .iadd => rz_if (Nat.beq len 1) (some (rz_s2 (rq_o6 (rq_at G M pc)) (fun x y => Nat.mod (Nat.add x y) 4294967296) (pc + 1))) (rq_at G M pc)
  | .isub => rz_if (Nat.beq len 1) (some (rz_s2 (rq_o6 (rq_at G M pc)) (fun x y => Nat.mod (Nat.add x (Nat.sub 4294967296 y)) 4294967296) (pc + 1))) (rq_at G M pc)
  | .imul => rz_if (Nat.beq len 1) (some (rz_s2 (rq_o6 (rq_at G M pc)) (fun x y => Nat.mod (Nat.mul x y) 4294967296) (pc + 1))) (rq_at G M pc)
  | .iinc k n => rz_if (Nat.beq len 3) (rz_if (Nat.ble (Nat.succ k) (ri_mx M)) (some (rz_inc (rq_o6 (rq_at G M pc)) k (Int32.ofInt n).toBitVec.toNat (pc + 3))) (rq_at G M pc)) (rq_at G M pc)
  | .iaload => rz_if (Nat.beq len 1) (some (rz_iald G (rq_o6 (rq_at G M pc)) (pc + 1))) (rq_at G M pc)
  | .iastore => rz_if (Nat.beq len 1) (some (rz_iast G (rq_o6 (rq_at G M pc)) (pc + 1))) (rq_at G M pc)
  | .aaload => rz_if (Nat.beq len 1) (some (rz_aald G (rq_o6 (rq_at G M pc)) (pc + 1))) (rq_at G M pc)
  | .i2l => rz_if (Nat.beq len 1) (some (rz_i2l (rq_o6 (rq_at G M pc)) (pc + 1))) (rq_at G M pc)
  | .ladd => rz_if (Nat.beq len 1) (some (rz_ll (rq_o6 (rq_at G M pc)) (fun x y => ri_cl (x + y)) (pc + 1))) (rq_at G M pc)
  | .lsub => rz_if (Nat.beq len 1) (some (rz_ll (rq_o6 (rq_at G M pc)) (fun x y => ri_cl (x - y)) (pc + 1))) (rq_at G M pc)
  | .lcmp => rz_if (Nat.beq len 1) (some (rz_ll (rq_o6 (rq_at G M pc)) (fun x y => ri_ci (lg_cmp x y)) (pc + 1))) (rq_at G M pc)
  | .dup => rz_if (Nat.beq len 1) (some (rz_dup (rq_o6 (rq_at G M pc)) (pc + 1))) (rq_at G M pc)
  | .if_icmp c off => rz_if (Nat.beq len 3) (rz_o (rq_at G M pc) (fun t => some (rz_ic (rq_o6 (rq_at G M pc)) c t (pc + 3))) (ri_tg pc off)) (rq_at G M pc)
  | .ifCond c off => rz_if (Nat.beq len 3) (rz_o (rq_at G M pc) (fun t => some (rz_if0 (rq_o6 (rq_at G M pc)) c t (pc + 3))) (ri_tg pc off)) (rq_at G M pc)
  | .goto off => rz_if (Nat.beq len 3) (rz_o (rq_at G M pc) (fun t => some (rz_go t)) (ri_tg pc off)) (rq_at G M pc)
  | .getfield idx => rz_if (Nat.beq len 3) (match ri_cp G M idx with
    | some (kd, ci, j, _) => rz_if (Nat.ble kd 1) (some (rz_getf (rq_o6 (rq_at G M pc)) ci j (pc + 3))) (rq_at G M pc)
    | none => rq_at G M pc) (rq_at G M pc)
  | .putfield idx => rz_if (Nat.beq len 3) (match ri_cp G M idx with
    | some (kd, ci, j, _) => match (ri_cls G)[ci]?, ((ri_fts G).getD ci [])[j]? with
      | some (_, T, _), some ty => rz_if (Nat.ble kd 1) (if (T j).2.2.2 = false ∨ (kd = 0 ∧ (ri_nm M).name = "<init>" ∧ (T j).1 = ri_own M) then some (rz_putf (rq_o6 (rq_at G M pc)) ci j ty (pc + 3)) else rq_at G M pc) (rq_at G M pc)
      | _, _ => rq_at G M pc
    | none => rq_at G M pc) (rq_at G M pc)
  | _ => rq_at G M pc
def rz_Z (G : ri_Tb) (M : ri_Mt) (pc : Nat) (o : Option rq_S) : Prop := ∀ (call : ri_Call) (K : ri_K) (lv : List (Nat × Jvm.Term)) (st : List Jvm.Term) (cs : List ri_Cd) (mem : ri_Me), rq_o6 o call K lv st cs mem = ri_one G call M K pc lv st cs mem
theorem rz_one {G : ri_Tb} {M : ri_Mt} {pc : Nat} {s : rq_S} (h : rz_S G M pc s) : rz_Z G M pc (some s) := h
theorem rz_two {G : ri_Tb} {M : ri_Mt} {pc : Nat} {b : Bool} {x y : Option rq_S} (h1 : b = true → rz_Z G M pc x) (h2 : rz_Z G M pc y) : rz_Z G M pc (rz_if b x y) := by
  cases b with
  | true => exact h1 rfl
  | false => exact h2
theorem rz_dis_s {G : ri_Tb} {M : ri_Mt} {pc len : Nat} {i : Instr} (h : (ri_co M)[pc]? = some (some (i, len))) : rz_Z G M pc (rz_dis G M pc i len) := by
  have h0 : rz_Z G M pc (rq_at G M pc) := fun call K lv st cs mem => by
    have e := rq_one_eq (G := G) (call := call) (M := M) (K := K) (pc := pc) (lv := lv) (st := st) (cs := cs) (mem := mem)
    unfold rq_one at e
    rw [rq_F_eq] at e
    exact e
  have hS : rz_S G M pc (rq_o6 (rq_at G M pc)) := h0
  cases i with
  | iload k => exact rz_two (fun hb => by have e := rz_beq hb; subst e; exact rz_one (rz_load_s hS h (fun _ _ => rfl))) h0
  | iload_n k => exact rz_two (fun hb => by have e := rz_beq hb; subst e; exact rz_one (rz_load_s hS h (fun _ _ => rfl))) h0
  | lload k => exact rz_two (fun hb => by have e := rz_beq hb; subst e; exact rz_one (rz_load_s hS h (fun _ _ => rfl))) h0
  | lload_n k => exact rz_two (fun hb => by have e := rz_beq hb; subst e; exact rz_one (rz_load_s hS h (fun _ _ => rfl))) h0
  | aload k => exact rz_two (fun hb => by have e := rz_beq hb; subst e; exact rz_one (rz_loada_s hS h (fun _ _ => rfl))) h0
  | aload_n k => exact rz_two (fun hb => by have e := rz_beq hb; subst e; exact rz_one (rz_loada_s hS h (fun _ _ => rfl))) h0
  | iconst n => exact rz_two (fun hb => by have e := rz_beq hb; subst e; exact rz_one (rz_const_s h (fun _ _ => rfl))) h0
  | bipush n => exact rz_two (fun hb => by have e := rz_beq hb; subst e; exact rz_one (rz_const_s h (fun _ _ => rfl))) h0
  | sipush n => exact rz_two (fun hb => by have e := rz_beq hb; subst e; exact rz_one (rz_const_s h (fun _ _ => rfl))) h0
  | lconst n => exact rz_two (fun hb => by have e := rz_beq hb; subst e; exact rz_one (rz_const_s h (fun _ _ => rfl))) h0
  | aconst_null => exact rz_two (fun hb => by have e := rz_beq hb; subst e; exact rz_one (rz_const_s h (fun _ _ => rfl))) h0
  | istore k => exact rz_two (fun hb => by have e := rz_beq hb; subst e; exact rz_two (fun hc => rz_one (rz_store_s hS h (rz_ble hc) (fun _ _ => rfl))) h0) h0
  | istore_n k => exact rz_two (fun hb => by have e := rz_beq hb; subst e; exact rz_two (fun hc => rz_one (rz_store_s hS h (rz_ble hc) (fun _ _ => rfl))) h0) h0
  | iadd => exact rz_two (fun hb => by have e := rz_beq hb; subst e; exact rz_one (rz_s2_s hS h (fun _ _ => rfl) rz_addc)) h0
  | isub => exact rz_two (fun hb => by have e := rz_beq hb; subst e; exact rz_one (rz_s2_s hS h (fun _ _ => rfl) rz_subc)) h0
  | imul => exact rz_two (fun hb => by have e := rz_beq hb; subst e; exact rz_one (rz_s2_s hS h (fun _ _ => rfl) rz_mulc)) h0
  | iinc k n => exact rz_two (fun hb => by have e := rz_beq hb; subst e; exact rz_two (fun hc => rz_one (rz_inc_s hS h (rz_ble hc))) h0) h0
  | iaload => exact rz_two (fun hb => by have e := rz_beq hb; subst e; exact rz_one (rz_iald_s hS h)) h0
  | iastore => exact rz_two (fun hb => by have e := rz_beq hb; subst e; exact rz_one (rz_iast_s hS h)) h0
  | aaload => exact rz_two (fun hb => by have e := rz_beq hb; subst e; exact rz_one (rz_aald_s hS h)) h0
  | i2l => exact rz_two (fun hb => by have e := rz_beq hb; subst e; exact rz_one (rz_i2l_s hS h)) h0
  | ladd => exact rz_two (fun hb => by have e := rz_beq hb; subst e; exact rz_one (rz_ll_s hS h (fun _ _ _ _ => rfl))) h0
  | lsub => exact rz_two (fun hb => by have e := rz_beq hb; subst e; exact rz_one (rz_ll_s hS h (fun _ _ _ _ => rfl))) h0
  | lcmp => exact rz_two (fun hb => by have e := rz_beq hb; subst e; exact rz_one (rz_ll_s hS h (fun _ _ _ _ => rfl))) h0
  | dup => exact rz_two (fun hb => by have e := rz_beq hb; subst e; exact rz_one (rz_dup_s hS h)) h0
  | if_icmp c off =>
    refine rz_two (fun hb => ?_) h0
    have e := rz_beq hb
    subst e
    cases ht : ri_tg pc off with
    | none => exact h0
    | some t => exact rz_one (rz_ic_s hS h ht)
  | ifCond c off =>
    refine rz_two (fun hb => ?_) h0
    have e := rz_beq hb
    subst e
    cases ht : ri_tg pc off with
    | none => exact h0
    | some t => exact rz_one (rz_if0_s hS h ht)
  | goto off =>
    refine rz_two (fun hb => ?_) h0
    have e := rz_beq hb
    subst e
    cases ht : ri_tg pc off with
    | none => exact h0
    | some t => exact rz_one (rz_go_s h ht)
  | getfield idx =>
    unfold rz_dis
    dsimp only
    refine rz_two (fun hb => ?_) h0
    have e := rz_beq hb
    subst e
    split
    · next kd ci j tx hc => exact rz_two (fun hk => rz_one (rz_getf_s hS h hc (rz_ble hk))) h0
    · exact h0
  | putfield idx =>
    unfold rz_dis
    dsimp only
    refine rz_two (fun hb => ?_) h0
    have e := rz_beq hb
    subst e
    split
    · next kd ci j tx hc =>
      split
      · next C T N ty hcl hty =>
        refine rz_two (fun hk => ?_) h0
        split
        · next hf => exact rz_one (rz_putf_s hS h hc (rz_ble hk) hcl hty hf)
        · exact h0
      · exact h0
    · exact h0
  | _ => exact h0
noncomputable def rz_at (G : ri_Tb) (M : ri_Mt) (pc : Nat) : Option rq_S := match (ri_co M)[pc]? with
  | some (some (i, len)) => rz_dis G M pc i len
  | _ => none
noncomputable def rz_step (G : ri_Tb) (call : ri_Call) (M : ri_Mt) (K : ri_K) (pc : Nat) (lv : List (Nat × Jvm.Term)) (st : List Jvm.Term) (cs : List ri_Cd) (mem : ri_Me) : Option ri_Rs := rq_F pc (fun pc => rq_o6 (rz_at G M pc) call K lv st cs mem)
theorem rz_step_eq {G : ri_Tb} {call : ri_Call} {M : ri_Mt} {K : ri_K} {pc : Nat} {lv : List (Nat × Jvm.Term)} {st : List Jvm.Term} {cs : List ri_Cd} {mem : ri_Me} : rz_step G call M K pc lv st cs mem = ri_one G call M K pc lv st cs mem := by
  unfold rz_step
  rw [rq_F_eq]
  unfold rz_at
  split
  · next i len h => exact rz_dis_s h call K lv st cs mem
  · next hn =>
    unfold ri_one
    split
    · next i len h => exact absurd h (hn i len)
    · rfl
noncomputable def rz_runB (G : ri_Tb) (call : ri_Call) (M : ri_Mt) (B : ri_K) (f : Nat) : ri_K := Nat.rec (motive := fun _ => ri_K) B (fun _ K pc lv st cs mem => rz_step G call M K pc lv st cs mem) f
theorem rz_runB_eq {G : ri_Tb} {call : ri_Call} {M : ri_Mt} {B : ri_K} {f : Nat} : rz_runB G call M B f = ri_runB G call M B f := by
  induction f with
  | zero => rfl
  | succ f ih =>
    funext pc lv st cs mem
    show rz_step G call M (rz_runB G call M B f) pc lv st cs mem = ri_one G call M (ri_runB G call M B f) pc lv st cs mem
    rw [rz_step_eq, ih]
noncomputable def rz_call (G : ri_Tb) (fuel d : Nat) : ri_Call := Nat.rec (motive := fun _ => ri_Call) (fun _ _ _ _ => none) (fun k C mi args cs mem => match (ri_mts G)[mi]? with
    | some M => if ri_lw M = false ∧ (args.map (fun t => if ri_wide t = true then 2 else 1)).sum ≤ ri_mx M ∧ (ri_hi M = true → 5 ≤ k) then rz_runB G C M ri_B0 fuel 0 (ri_args 0 args) [] cs mem else none
    | none => none) d
theorem rz_call_eq {G : ri_Tb} {fuel d : Nat} : rz_call G fuel d = ri_call G fuel d := by
  induction d with
  | zero => rfl
  | succ d ih =>
    funext mi args cs mem
    show (match (ri_mts G)[mi]? with
      | some M => if ri_lw M = false ∧ (args.map (fun t => if ri_wide t = true then 2 else 1)).sum ≤ ri_mx M ∧ (ri_hi M = true → 5 ≤ d) then rz_runB G (rz_call G fuel d) M ri_B0 fuel 0 (ri_args 0 args) [] cs mem else none
      | none => none) = _
    rw [ri_call_S, ih]
    simp only [rz_runB_eq]
    rfl
theorem rz_eq {G : ri_Tb} {M : ri_Mt} {B : ri_K} {f fuel d : Nat} : rz_runB G (rz_call G fuel d) M B f = ri_runB G (ri_call G fuel d) M B f := by rw [rz_call_eq, rz_runB_eq]
end RZ
