/-! RI a last time: what held on the way, found and weighed by recursors alone -/
section RY
noncomputable def ry_tag (t : Jvm.Term) : Nat := Jvm.Term.rec (motive := fun _ => Nat) (fun _ => 0) (fun _ => 1) (fun _ => 2) 3 (fun _ => 4) (fun _ _ _ _ _ => 5) (fun _ _ _ => 6) (fun _ _ => 7) (fun _ => 8) (fun _ _ => 9) (fun _ _ _ _ => 10) (fun _ _ _ _ => 11) (fun _ _ _ _ => 12) (fun _ _ _ _ => 13) (fun _ _ _ _ => 14) (fun _ _ _ _ => 15) (fun _ _ _ _ _ => 16) (fun _ _ _ => 17) (fun _ _ => 18) 19 20 (fun _ _ => 21) t
noncomputable def ry_arg (t : Jvm.Term) : Option Nat := Jvm.Term.rec (motive := fun _ => Option Nat) (fun i => some i) (fun _ => none) (fun _ => none) none (fun _ => none) (fun _ _ _ _ _ => none) (fun _ _ _ => none) (fun _ _ => none) (fun _ => none) (fun _ _ => none) (fun _ _ _ _ => none) (fun _ _ _ _ => none) (fun _ _ _ _ => none) (fun _ _ _ _ => none) (fun _ _ _ _ => none) (fun _ _ _ _ => none) (fun _ _ _ _ _ => none) (fun _ _ _ => none) (fun _ _ => none) none none (fun _ _ => none) t
noncomputable def ry_add (t : Jvm.Term) : Option (Jvm.Term × Jvm.Term) := Jvm.Term.rec (motive := fun _ => Option (Jvm.Term × Jvm.Term)) (fun _ => none) (fun _ => none) (fun _ => none) none (fun _ => none) (fun _ _ _ _ _ => none) (fun _ _ _ => none) (fun _ _ => none) (fun _ => none) (fun _ _ => none) (fun _ _ _ _ => none) (fun a b _ _ => some (a, b)) (fun _ _ _ _ => none) (fun _ _ _ _ => none) (fun _ _ _ _ => none) (fun _ _ _ _ => none) (fun _ _ _ _ _ => none) (fun _ _ _ => none) (fun _ _ => none) none none (fun _ _ => none) t
/-- alike, the tags first -/
noncomputable def ry_g (n : Nat) (a b : Jvm.Term) : Bool := rz_if (Nat.beq (ry_tag b) n) (ri_eqT a b) false
theorem ry_g_eq {a b : Jvm.Term} : ry_g (ry_tag a) a b = ri_eqT a b := by
  unfold ry_g
  cases h : Nat.beq (ry_tag b) (ry_tag a) with
  | true => rfl
  | false =>
    show false = _
    cases he : ri_eqT a b with
    | false => rfl
    | true =>
      have e := ri_eqT_s _ _ he
      subst e
      exact absurd rfl (rz_bne h)
noncomputable def ry_eqT (a : Jvm.Term) : Jvm.Term → Bool := Jvm.Term.rec (motive := fun _ => Jvm.Term → Bool) (fun i b => rz_o false (fun j => Nat.beq i j) (ry_arg b)) (fun v b => rz_o false (fun y => Nat.beq v.toBitVec.toNat y) (rz_nat b)) (fun v b => ry_g 2 (.long v) b) (fun b => ry_g 3 .null b) (fun k b => ry_g 4 (.index k) b) (fun t x y z _ b => ry_g 5 (.field t x y z) b) (fun x y z b => ry_g 6 (.static x y z) b) (fun x y b => ry_g 7 (.string x y) b) (fun x b => ry_g 8 (.mirror x) b) (fun t _ b => ry_g 9 (.length t) b) (fun x y _ _ b => ry_g 10 (.elem x y) b)
  (fun _ _ hx hy b => rz_o false (fun z => rz_if (hx z.1) (hy z.2) false) (ry_add b)) (fun x y _ _ b => ry_g 12 (.sub x y) b) (fun x y _ _ b => ry_g 13 (.mul x y) b) (fun x y _ _ b => ry_g 14 (.div x y) b) (fun x y _ _ b => ry_g 15 (.rem x y) b) (fun o x y _ _ b => ry_g 16 (.op2 o x y) b) (fun o x _ b => ry_g 17 (.op1 o x) b) (fun x _ b => ry_g 18 (.sum x) b) (fun b => ry_g 19 .result b) (fun b => ry_g 20 .thrown b) (fun x _ b => ry_g 21 (.old x) b) a
theorem ry_eqT_eq (a : Jvm.Term) : ∀ b, ry_eqT a b = ri_eqT a b := by
  induction a with
  | arg i =>
    intro b
    show rz_o false (fun j => Nat.beq i j) (ry_arg b) = _
    cases b with
    | arg j => show Nat.beq i j = (i == j); exact rz_bq i j
    | _ => rfl
  | int v =>
    intro b
    show rz_o false (fun y => Nat.beq v.toBitVec.toNat y) (rz_nat b) = _
    cases b with
    | int w =>
      show Nat.beq v.toBitVec.toNat w.toBitVec.toNat = (v == w)
      rw [rz_eqb]
      rfl
    | _ => rfl
  | add x y hx hy =>
    intro b
    show rz_o false (fun z => rz_if (ry_eqT x z.1) (ry_eqT y z.2) false) (ry_add b) = _
    cases b with
    | add x2 y2 =>
      show rz_if (ry_eqT x x2) (ry_eqT y y2) false = (ri_eqT x x2 && ri_eqT y y2)
      rw [hx, hy]
      cases ri_eqT x x2 <;> rfl
    | _ => rfl
  | _ => intro b; exact ry_g_eq
/-- bounds -/
noncomputable def ry_nw (t : Jvm.Term) (q : ri_Cd) (r : Int × Int) : Int × Int := rz_o r (fun c => rz_if (ry_eqT q.2.1 t) (match q.1 with
    | 0 => if q.2.2.2 = true then (max r.1 c.toInt, min r.2 c.toInt) else (if r.1 = c.toInt then r.1 + 1 else r.1, if r.2 = c.toInt then r.2 - 1 else r.2)
    | _ => if q.2.2.2 = true then (r.1, min r.2 (c.toInt - 1)) else (max r.1 c.toInt, r.2)) r) (rz_int q.2.2.1)
theorem ry_nw_eq (t : Jvm.Term) (q : ri_Cd) (r : Int × Int) : ry_nw t q r = ri_nw t q r := by
  obtain ⟨k, a, b, v⟩ := q
  unfold ry_nw ri_nw
  dsimp only
  rw [ry_eqT_eq]
  cases b with
  | int c =>
    show rz_if (ri_eqT a t) _ r = _
    cases h : ri_eqT a t with
    | true => rfl
    | false => rfl
  | _ => rfl
noncomputable def ry_fold (t : Jvm.Term) (r : Int × Int) (cs : List ri_Cd) : Int × Int := List.rec (motive := fun _ => Int × Int) r (fun q _ ih => ry_nw t q ih) cs
theorem ry_fold_eq (t : Jvm.Term) (r : Int × Int) (cs : List ri_Cd) : ry_fold t r cs = cs.foldr (ri_nw t) r := by
  induction cs with
  | nil => rfl
  | cons q l ih =>
    show ry_nw t q (ry_fold t r l) = _
    rw [ry_nw_eq, ih]
    rfl
noncomputable def ry_fd (cs : List ri_Cd) (t : Jvm.Term) (r : Int × Int) : Int × Int := ry_fold t (ry_fold t r cs) cs
theorem ry_fd_eq (cs : List ri_Cd) (t : Jvm.Term) (r : Int × Int) : ry_fd cs t r = ri_fd cs t r := by
  unfold ry_fd ri_fd
  rw [ry_fold_eq, ry_fold_eq]
noncomputable def ry_both (b1 b2 : Bool) (x d : Int × Int) : Int × Int := rz_if b1 (rz_if b2 x d) d
theorem ry_both_eq {n a b : Nat} {x d : Int × Int} : ry_both (Nat.beq a n) (Nat.beq b n) x d = if a = n ∧ b = n then x else d := by
  unfold ry_both
  cases h1 : Nat.beq a n with
  | false => rw [if_neg (fun h => rz_bne h1 h.1)]; rfl
  | true =>
    cases h2 : Nat.beq b n with
    | false => rw [if_neg (fun h => rz_bne h2 h.2)]; rfl
    | true => rw [if_pos ⟨rz_beq h1, rz_beq h2⟩]; rfl
noncomputable def ry_o2 (cs : List ri_Cd) (o : Binary) (a b : Jvm.Term) (ia ib : Int × Int) : Int × Int := match ri_ko o with
    | 0 => ry_fd cs ((.op2 o a b)) (match o, b with
      | .iand, .int c => if 0 ≤ c.toInt then (0, c.toInt) else ri_F32
      | _, _ => ri_F32)
    | 1 => ry_both (Nat.beq (rz_k a) 1) (Nat.beq (rz_k b) 1) (match o with
      | .ladd => ri_c64 (ia.1 + ib.1, ia.2 + ib.2)
      | .lsub => ri_c64 (ia.1 - ib.2, ia.2 - ib.1)
      | _ => ri_F64) ri_F64
    | _ => ry_both (Nat.beq (rz_k a) 1) (Nat.beq (rz_k b) 1) (ry_fd cs ((.op2 o a b)) (ri_cmpB ia ib)) ri_F32
noncomputable def ry_o1 (cs : List ri_Cd) (o : Unary) (a : Jvm.Term) (ia : Int × Int) : Int × Int := match o with
    | .i2l => rz_if (Nat.beq (rz_k a) 0) ia ri_F64
    | .ineg => ry_fd cs ((.op1 o a)) (rz_if (Nat.beq (rz_k a) 0) (ri_c32 (-ia.2, -ia.1)) ri_F32)
    | .l2i => ry_fd cs ((.op1 o a)) ri_F32
    | _ => ri_F64
noncomputable def ry_bd (cs : List ri_Cd) (t : Jvm.Term) : Int × Int := Jvm.Term.rec (motive := fun _ => Int × Int) (fun i => ry_fd cs (.arg i) ri_F32) (fun v => (v.toInt, v.toInt)) (fun v => (v.toInt, v.toInt)) (ri_bd cs .null) (fun k => ri_bd cs (.index k)) (fun t x y z _ => ri_bd cs (.field t x y z)) (fun x y z => ri_bd cs (.static x y z)) (fun x y => ri_bd cs (.string x y)) (fun x => ri_bd cs (.mirror x)) (fun t _ => ri_bd cs (.length t)) (fun x y _ _ => ri_bd cs (.elem x y))
  (fun a b ia ib => ry_fd cs (.add a b) (ry_both (Nat.beq (rz_k a) 0) (Nat.beq (rz_k b) 0) (ri_c32 (ia.1 + ib.1, ia.2 + ib.2)) ri_F32)) (fun a b ia ib => ry_fd cs (.sub a b) (ry_both (Nat.beq (rz_k a) 0) (Nat.beq (rz_k b) 0) (ri_c32 (ia.1 - ib.2, ia.2 - ib.1)) ri_F32)) (fun x y _ _ => ri_bd cs (.mul x y)) (fun x y _ _ => ri_bd cs (.div x y)) (fun x y _ _ => ri_bd cs (.rem x y)) (fun o a b ia ib => ry_o2 cs o a b ia ib) (fun o a ia => ry_o1 cs o a ia) (fun x _ => ri_bd cs (.sum x)) (ri_bd cs .result) (ri_bd cs .thrown) (fun x _ => ri_bd cs (.old x)) t
theorem ry_bd_eq (cs : List ri_Cd) (t : Jvm.Term) : ry_bd cs t = ri_bd cs t := by
  induction t with
  | arg i => exact ry_fd_eq cs (.arg i) ri_F32
  | int v => rfl
  | long v => rfl
  | add a b ia ib =>
    show ry_fd cs (.add a b) (ry_both (Nat.beq (rz_k a) 0) (Nat.beq (rz_k b) 0) (ri_c32 ((ry_bd cs a).1 + (ry_bd cs b).1, (ry_bd cs a).2 + (ry_bd cs b).2)) ri_F32) = ri_fd cs (.add a b) (if ri_k a = 0 ∧ ri_k b = 0 then ri_c32 ((ri_bd cs a).1 + (ri_bd cs b).1, (ri_bd cs a).2 + (ri_bd cs b).2) else ri_F32)
    rw [ry_fd_eq, ia, ib, ry_both_eq, rz_k_eq, rz_k_eq]
  | sub a b ia ib =>
    show ry_fd cs (.sub a b) (ry_both (Nat.beq (rz_k a) 0) (Nat.beq (rz_k b) 0) (ri_c32 ((ry_bd cs a).1 - (ry_bd cs b).2, (ry_bd cs a).2 - (ry_bd cs b).1)) ri_F32) = ri_fd cs (.sub a b) (if ri_k a = 0 ∧ ri_k b = 0 then ri_c32 ((ri_bd cs a).1 - (ri_bd cs b).2, (ri_bd cs a).2 - (ri_bd cs b).1) else ri_F32)
    rw [ry_fd_eq, ia, ib, ry_both_eq, rz_k_eq, rz_k_eq]
  | op2 o a b ia ib =>
    show ry_o2 cs o a b (ry_bd cs a) (ry_bd cs b) = _
    rw [ia, ib]
    unfold ry_o2
    rw [ry_fd_eq, ry_fd_eq, ry_both_eq, ry_both_eq, rz_k_eq, rz_k_eq]
    simp only [ri_bd]
    cases o <;> rfl
  | op1 o a ia =>
    show ry_o1 cs o a (ry_bd cs a) = _
    rw [ia]
    unfold ry_o1
    rw [ry_fd_eq, ry_fd_eq, rz_k_eq, rz_bq]
    have e : ∀ (x y : Int × Int), rz_if (ri_k a == 0) x y = if ri_k a = 0 then x else y := fun x y => by
      by_cases h : ri_k a = 0
      · rw [if_pos h, h]; rfl
      · rw [if_neg h, show (ri_k a == 0) = false from by simpa using h]; rfl
    rw [e, e]
    cases o <;> rfl
  | _ => rfl
/-- is it known already? -/
noncomputable def ry_fnd (cs : List ri_Cd) (k : Nat) (a b : Jvm.Term) : Option Bool := List.rec (motive := fun _ => Option Bool) none (fun q _ ih => rz_if (Nat.beq q.1 k) (rz_if (ry_eqT q.2.1 a) (rz_if (ry_eqT q.2.2.1 b) (some q.2.2.2) ih) ih) ih) cs
theorem ry_fnd_eq (cs : List ri_Cd) (k : Nat) (a b : Jvm.Term) : ry_fnd cs k a b = (cs.find? (fun q => q.1 == k && (ri_eqT q.2.1 a && ri_eqT q.2.2.1 b))).map (fun q => q.2.2.2) := by
  induction cs with
  | nil => rfl
  | cons q l ih =>
    show rz_if (Nat.beq q.1 k) (rz_if (ry_eqT q.2.1 a) (rz_if (ry_eqT q.2.2.1 b) (some q.2.2.2) (ry_fnd l k a b)) (ry_fnd l k a b)) (ry_fnd l k a b) = _
    rw [ry_eqT_eq, ry_eqT_eq, ih, List.find?_cons, rz_bq]
    cases (q.1 == k) with
    | false => rfl
    | true =>
      cases ri_eqT q.2.1 a with
      | false => rfl
      | true =>
        cases ri_eqT q.2.2.1 b with
        | false => rfl
        | true => rfl
noncomputable def ry_dec (cs : List ri_Cd) (k : Nat) (a b : Jvm.Term) : Option Bool := rz_if (Nat.beq (ry_tag a) 1) (ri_dec cs k a b) (rz_o (rz_if (Nat.beq (rz_k a) 0) (rz_if (Nat.beq (rz_k b) 0) (ri_decB k (ry_bd cs a) (ry_bd cs b)) none) none) some (ry_fnd cs k a b))
theorem ry_dec_eq (cs : List ri_Cd) (k : Nat) (a b : Jvm.Term) : ry_dec cs k a b = ri_dec cs k a b := by
  unfold ry_dec
  cases ht : Nat.beq (ry_tag a) 1 with
  | true => rfl
  | false =>
    have hn : ∀ x, a ≠ .int x := fun x e => rz_bne ht (by rw [e]; rfl)
    show rz_o _ some (ry_fnd cs k a b) = _
    rw [ry_fnd_eq, ry_bd_eq, ry_bd_eq, rz_k_eq, rz_k_eq]
    unfold ri_dec
    split
    · next x y => exact absurd rfl (hn x)
    · cases hf : cs.find? (fun q => q.1 == k && (ri_eqT q.2.1 a && ri_eqT q.2.2.1 b)) with
      | some q => rfl
      | none =>
        show rz_if (Nat.beq (ri_k a) 0) (rz_if (Nat.beq (ri_k b) 0) (ri_decB k (ri_bd cs a) (ri_bd cs b)) none) none = _
        cases h1 : Nat.beq (ri_k a) 0 with
        | false => rw [if_neg (fun h => rz_bne h1 h.1)]; rfl
        | true =>
          cases h2 : Nat.beq (ri_k b) 0 with
          | false => rw [if_neg (fun h => rz_bne h2 h.2)]; rfl
          | true => rw [if_pos ⟨rz_beq h1, rz_beq h2⟩]; rfl
noncomputable def ry_br0 (cs : List ri_Cd) (q : ri_Cd) (T F : List ri_Cd → Option ri_Rs) : Option ri_Rs := match ry_dec cs q.1 q.2.1 q.2.2.1 with
  | some r => if r = q.2.2.2 then T cs else F cs
  | none => ri_both (T (q :: cs)) (F ((q.1, q.2.1, q.2.2.1, !q.2.2.2) :: cs))
theorem ry_br0_eq (cs : List ri_Cd) (q : ri_Cd) (T F : List ri_Cd → Option ri_Rs) : ry_br0 cs q T F = ri_br0 cs q T F := by
  unfold ry_br0 ri_br0
  rw [ry_dec_eq]
  rfl
/-- one form -/
noncomputable def ry_p2 (t : Jvm.Term) : Option (Binary × Jvm.Term × Jvm.Term) := Jvm.Term.rec (motive := fun _ => Option (Binary × Jvm.Term × Jvm.Term)) (fun _ => none) (fun _ => none) (fun _ => none) none (fun _ => none) (fun _ _ _ _ _ => none) (fun _ _ _ => none) (fun _ _ => none) (fun _ => none) (fun _ _ => none) (fun _ _ _ _ => none) (fun _ _ _ _ => none) (fun _ _ _ _ => none) (fun _ _ _ _ => none) (fun _ _ _ _ => none) (fun _ _ _ _ => none) (fun o a b _ _ => some (o, a, b)) (fun _ _ _ => none) (fun _ _ => none) none none (fun _ _ => none) t
theorem ry_p2_s {t : Jvm.Term} {z : Binary × Jvm.Term × Jvm.Term} (h : ry_p2 t = some z) : t = .op2 z.1 z.2.1 z.2.2 := by cases t <;> cases h; rfl
theorem ry_p2_n {t : Jvm.Term} (h : ry_p2 t = none) : ∀ o a b, t ≠ .op2 o a b := fun o a b e => by rw [e] at h; cases h
noncomputable def ry_i2 (t : Jvm.Term) : Option Jvm.Term := Jvm.Term.rec (motive := fun _ => Option Jvm.Term) (fun _ => none) (fun _ => none) (fun c => ri_i2 (.long c)) none (fun _ => none) (fun _ _ _ _ _ => none) (fun _ _ _ => none) (fun _ _ => none) (fun _ => none) (fun _ _ => none) (fun _ _ _ _ => none) (fun _ _ _ _ => none) (fun _ _ _ _ => none) (fun _ _ _ _ => none) (fun _ _ _ _ => none) (fun _ _ _ _ => none) (fun _ _ _ _ _ => none) (fun o a _ => match o with
    | .i2l => rz_if (Nat.beq (rz_k a) 0) (some a) none
    | _ => none) (fun _ _ => none) none none (fun _ _ => none) t
theorem ry_i2_eq (t : Jvm.Term) : ry_i2 t = ri_i2 t := by
  cases t with
  | op1 o a =>
    cases o with
    | i2l =>
      show rz_if (Nat.beq (rz_k a) 0) (some a) none = if ri_k a = 0 then some a else none
      rw [rz_k_eq]
      cases h : Nat.beq (ri_k a) 0 with
      | true => rw [if_pos (rz_beq h)]; rfl
      | false => rw [if_neg (rz_bne h)]; rfl
    | _ => rfl
  | _ => rfl
def ry_isL (o : Binary) : Bool := match o with
  | .lcmp => true
  | _ => false
theorem ry_isL_s {o : Binary} (h : ry_isL o = true) : o = .lcmp := by cases o <;> first | rfl | cases h
theorem ry_isL_n {o : Binary} (h : ry_isL o = false) : o ≠ .lcmp := fun e => by rw [e] at h; cases h
noncomputable def ry_norm (q : ri_Cd) : ri_Cd := rz_o (rz_o q (fun z => rz_if (ry_isL z.1) (rz_o q (fun y => rz_if (Nat.beq y 0) (rz_o q (fun a => rz_o q (fun b => (q.1, b, a, q.2.2.2)) (ry_i2 z.2.2)) (ry_i2 z.2.1)) q) (rz_nat q.2.1)) q) (ry_p2 q.2.2.1))
  (fun z => rz_if (ry_isL z.1) (rz_o q (fun y => rz_if (Nat.beq y 0) (rz_o q (fun a => rz_o q (fun b => (q.1, a, b, q.2.2.2)) (ry_i2 z.2.2)) (ry_i2 z.2.1)) q) (rz_nat q.2.2.1)) q) (ry_p2 q.2.1)
theorem ry_zb (z : Int32) : Nat.beq z.toBitVec.toNat 0 = decide (z = 0) := rz_eqb z 0
theorem ry_norm_eq (q : ri_Cd) : ry_norm q = ri_norm q := by
  obtain ⟨k, a, b, v⟩ := q
  cases a with
  | op2 o x y =>
    cases b with
    | int z =>
      cases o with
      | lcmp =>
        show rz_o (k, .op2 .lcmp x y, .int z, v) (fun y9 => rz_if (Nat.beq y9 0) (rz_o (k, .op2 .lcmp x y, .int z, v) (fun a => rz_o (k, .op2 .lcmp x y, .int z, v) (fun b => (k, a, b, v)) (ry_i2 y)) (ry_i2 x)) (k, .op2 .lcmp x y, .int z, v)) (some z.toBitVec.toNat) = _
        rw [rz_o_some, ry_zb, ry_i2_eq, ry_i2_eq]
        unfold ri_norm
        dsimp only
        by_cases hz : z = 0
        · rw [if_pos hz, decide_eq_true hz]
          cases ri_i2 x <;> cases ri_i2 y <;> rfl
        · rw [if_neg hz, decide_eq_false hz]
          rfl
      | _ => rfl
    | _ => cases o <;> rfl
  | int z =>
    cases b with
    | op2 o x y =>
      cases o with
      | lcmp =>
        show rz_o (k, .int z, .op2 .lcmp x y, v) (fun y9 => rz_if (Nat.beq y9 0) (rz_o (k, .int z, .op2 .lcmp x y, v) (fun a => rz_o (k, .int z, .op2 .lcmp x y, v) (fun b => (k, b, a, v)) (ry_i2 y)) (ry_i2 x)) (k, .int z, .op2 .lcmp x y, v)) (some z.toBitVec.toNat) = _
        rw [rz_o_some, ry_zb, ry_i2_eq, ry_i2_eq]
        unfold ri_norm
        dsimp only
        by_cases hz : z = 0
        · rw [if_pos hz, decide_eq_true hz]
          cases ri_i2 x <;> cases ri_i2 y <;> rfl
        · rw [if_neg hz, decide_eq_false hz]
          rfl
      | _ => rfl
    | _ => rfl
  | _ =>
    cases b with
    | op2 o x y => cases o <;> rfl
    | _ => rfl
noncomputable def ry_norm2 (q : ri_Cd) : ri_Cd := rz_o q (fun x => match q.1 with
    | 0 => (0, q.2.2.1, .int x, q.2.2.2)
    | _ => if x.toInt < 2147483647 then (1, q.2.2.1, ri_ci (x + 1), !q.2.2.2) else q) (rz_int q.2.1)
theorem ry_norm2_eq (q : ri_Cd) : ry_norm2 q = ri_norm2 q := by
  obtain ⟨k, a, b, v⟩ := q
  cases a <;> rfl
noncomputable def ry_br (cs : List ri_Cd) (q : ri_Cd) (T F : List ri_Cd → Option ri_Rs) : Option ri_Rs := rz_if (rz_if (Nat.beq (ry_tag q.2.1) 1) (Nat.beq (ry_tag q.2.2.1) 1) false) (ri_br cs q T F) (ry_br0 cs (ry_norm2 (ry_norm q)) T F)
theorem ry_br_eq (cs : List ri_Cd) (q : ri_Cd) (T F : List ri_Cd → Option ri_Rs) : ry_br cs q T F = ri_br cs q T F := by
  unfold ry_br
  cases h : rz_if (Nat.beq (ry_tag q.2.1) 1) (Nat.beq (ry_tag q.2.2.1) 1) false with
  | true => rfl
  | false =>
    show ry_br0 cs (ry_norm2 (ry_norm q)) T F = _
    rw [ry_br0_eq, ry_norm2_eq, ry_norm_eq]
    unfold ri_br
    split
    · next x y h1 h2 =>
      rw [h1, h2] at h
      cases h
    · rfl
noncomputable def ry_vals (x : Jvm.Term) (K : Jvm.Term → List ri_Cd → Option ri_Rs) (n : Nat) : Int → List ri_Cd → Option ri_Rs := Nat.rec (motive := fun _ => Int → List ri_Cd → Option ri_Rs) (fun _ _ => some ([], 0, 0, [])) (fun _ ih lo cs => ry_br cs (0, x, ri_ci (Int32.ofInt lo), true) (fun cs' => K (ri_ci (Int32.ofInt lo)) cs') (fun cs' => ih (lo + 1) cs')) n
theorem ry_vals_eq (x : Jvm.Term) (K : Jvm.Term → List ri_Cd → Option ri_Rs) (n : Nat) : ∀ (lo : Int) (cs : List ri_Cd), ry_vals x K n lo cs = ri_vals x K n lo cs := by
  induction n with
  | zero => intro lo cs; rfl
  | succ n ih =>
    intro lo cs
    show ry_br cs (0, x, ri_ci (Int32.ofInt lo), true) (fun cs' => K (ri_ci (Int32.ofInt lo)) cs') (fun cs' => ry_vals x K n (lo + 1) cs') = _
    rw [ry_br_eq]
    simp only [ih]
    rfl
section RY1
variable {G : ri_Tb} {call : ri_Call} {M : ri_Mt} {K : ri_K} {pc len : Nat} {i : Instr} {lv lv' : List (Nat × Jvm.Term)} {st st' : List Jvm.Term} {cs : List ri_Cd} {mem mem' : ri_Me}
noncomputable def ry_ic (S : rq_S) (c : ClassFile.Cond) (t nx : Nat) : rq_S := fun call K lv st cs mem => rz_l (S call K lv st cs mem) (fun b r => rz_l (S call K lv st cs mem) (fun a r => rz_if (rz_if (Nat.beq (ry_tag a) 1) (Nat.beq (ry_tag b) 1) false) (S call K lv st cs mem) (rz_if (Nat.beq (rz_k a) 0) (rz_if (Nat.beq (rz_k b) 0) (ry_br cs (ri_cnd c a b) (fun cs' => K t lv r cs' mem) (fun cs' => K nx lv r cs' mem)) (S call K lv st cs mem)) (S call K lv st cs mem))) r) st
theorem ry_ic_s {S : rq_S} {c : ClassFile.Cond} {off : Int} {t : Nat} (hS : rz_S G M pc S) (h : (ri_co M)[pc]? = some (some (.if_icmp c off, 3))) (ht : ri_tg pc off = some t) : rz_S G M pc (ry_ic S c t (pc + 3)) := by
  intro call K lv st cs mem
  unfold ry_ic
  cases st with
  | nil => exact hS _ _ _ _ _ _
  | cons b r => cases r with
    | nil => exact hS _ _ _ _ _ _
    | cons a r =>
      show rz_if (rz_if (Nat.beq (ry_tag a) 1) (Nat.beq (ry_tag b) 1) false) _ _ = _
      cases h0 : rz_if (Nat.beq (ry_tag a) 1) (Nat.beq (ry_tag b) 1) false with
      | true => exact hS _ _ _ _ _ _
      | false =>
        show rz_if (Nat.beq (rz_k a) 0) _ _ = _
        cases h1 : Nat.beq (rz_k a) 0 with
        | false => exact hS _ _ _ _ _ _
        | true =>
          show rz_if (Nat.beq (rz_k b) 0) _ _ = _
          cases h2 : Nat.beq (rz_k b) 0 with
          | false => exact hS _ _ _ _ _ _
          | true =>
            have k1 := rz_beq h1
            have k2 := rz_beq h2
            rw [rz_k_eq] at k1 k2
            rw [rz_C h rfl rfl rfl]
            show ry_br cs (ri_cnd c a b) _ _ = _
            simp only [ri_ctl]
            rw [ht]
            dsimp only
            rw [if_pos (by refine ⟨k1, k2, ?_⟩ <;> trivial), ry_br_eq]
noncomputable def ry_if0 (S : rq_S) (c : ClassFile.Cond) (t nx : Nat) : rq_S := fun call K lv st cs mem => rz_l (S call K lv st cs mem) (fun a r => rz_if (Nat.beq (ry_tag a) 1) (S call K lv st cs mem) (rz_if (Nat.beq (rz_k a) 0) (ry_br cs (ri_cnd c a (.int 0)) (fun cs' => K t lv r cs' mem) (fun cs' => K nx lv r cs' mem)) (S call K lv st cs mem))) st
theorem ry_if0_s {S : rq_S} {c : ClassFile.Cond} {off : Int} {t : Nat} (hS : rz_S G M pc S) (h : (ri_co M)[pc]? = some (some (.ifCond c off, 3))) (ht : ri_tg pc off = some t) : rz_S G M pc (ry_if0 S c t (pc + 3)) := by
  intro call K lv st cs mem
  unfold ry_if0
  cases st with
  | nil => exact hS _ _ _ _ _ _
  | cons a r =>
    show rz_if (Nat.beq (ry_tag a) 1) _ _ = _
    cases h0 : Nat.beq (ry_tag a) 1 with
    | true => exact hS _ _ _ _ _ _
    | false =>
      show rz_if (Nat.beq (rz_k a) 0) _ _ = _
      cases h1 : Nat.beq (rz_k a) 0 with
      | false => exact hS _ _ _ _ _ _
      | true =>
        have k1 := rz_beq h1
        rw [rz_k_eq] at k1
        rw [rz_C h rfl rfl rfl]
        show ry_br cs (ri_cnd c a (.int 0)) _ _ = _
        simp only [ri_ctl]
        rw [ht]
        dsimp only
        rw [if_pos (by refine ⟨k1, ?_⟩ <;> trivial), ry_br_eq]
/-- a store at a place that isn't plain yet -/
noncomputable def ry_iast (S : rq_S) (pc : Nat) : rq_S := fun call K lv st cs mem => rz_l (S call K lv st cs mem) (fun t r => rz_l (S call K lv st cs mem) (fun i r => rz_if (Nat.beq (ry_tag i) 1) (S call K lv st cs mem) (rz_if (Nat.beq (rz_k i) 0) (if (ry_bd cs i).2 < (ry_bd cs i).1 + 700 then ry_vals i (fun y cs' => K pc lv (t :: y :: r) cs' mem) ((ry_bd cs i).2 - (ry_bd cs i).1 + 1).toNat (ry_bd cs i).1 cs else S call K lv st cs mem) (S call K lv st cs mem))) r) st
theorem ry_iast_s {S : rq_S} (hS : rz_S G M pc S) (h : (ri_co M)[pc]? = some (some (.iastore, len))) : rz_S G M pc (ry_iast S pc) := by
  intro call K lv st cs mem
  unfold ry_iast
  cases st with
  | nil => exact hS _ _ _ _ _ _
  | cons t r => cases r with
    | nil => exact hS _ _ _ _ _ _
    | cons i r =>
      show rz_if (Nat.beq (ry_tag i) 1) _ _ = _
      cases h0 : Nat.beq (ry_tag i) 1 with
      | true => exact hS _ _ _ _ _ _
      | false =>
        have hn : ∀ x, i ≠ .int x := fun x e => rz_bne h0 (by rw [e]; rfl)
        show rz_if (Nat.beq (rz_k i) 0) _ _ = _
        cases h1 : Nat.beq (rz_k i) 0 with
        | false => exact hS _ _ _ _ _ _
        | true =>
          have k1 := rz_beq h1
          rw [rz_k_eq] at k1
          show (if (ry_bd cs i).2 < (ry_bd cs i).1 + 700 then _ else _) = _
          split
          · next hb =>
            rw [ry_bd_eq] at hb ⊢
            rw [ry_vals_eq]
            have hix : ∀ n, ri_ix i n = none := by
              intro n
              unfold ri_ix
              split
              · next v => exact absurd rfl (hn v)
              · rfl
            have hheap : ri_heap G M cs .iastore (t :: i :: r) mem = none := by
              show ri_iast G (t :: i :: r) mem = none
              unfold ri_iast
              split
              · next t9 i9 k9 r9 e9 =>
                cases e9
                split
                · rw [hix]
                · rfl
              · rfl
            have hcst : ri_cst i = false := by
              unfold ri_cst
              split
              · next v => exact absurd rfl (hn v)
              · rfl
            unfold ri_one
            rw [h]
            dsimp only
            rw [show ri_pure (ri_mx M) .iastore lv (t :: i :: r) = none from rfl]
            dsimp only
            rw [hheap]
            dsimp only
            rw [show ri_foc .iastore (t :: i :: r) = some ([t], i, r) from rfl]
            dsimp only
            rw [if_pos ⟨k1, hcst, hb⟩]
            rfl
          · exact hS _ _ _ _ _ _
noncomputable def ry_in (G : ri_Tb) (M : ri_Mt) (pc : Nat) (i : Instr) (len : Nat) : Option rq_S := match rq_pure (ri_mx M) i with
    | some f => some (fun call K lv st cs mem => match f lv st with
      | some (len', lv', st') => if len' = len then K (pc + len) lv' st' cs mem else none
      | none => match ri_heap G M cs i st mem with
        | some x => if x.1 = len then rq_more x.2.2.2.1 x.2.2.2.2.1 x.2.2.2.2.2 (K (pc + len) lv x.2.1 cs x.2.2.1) else none
        | none => match ri_foc i st with
          | some (a, t, r) => if ri_k t = 0 ∧ ri_cst t = false ∧ (ri_bd cs t).2 < (ri_bd cs t).1 + 700 then ri_vals t (fun y cs' => K pc lv (a ++ y :: r) cs' mem) ((ri_bd cs t).2 - (ri_bd cs t).1 + 1).toNat (ri_bd cs t).1 cs else none
          | none => ri_ctl G call M K pc i len lv st cs mem)
    | none => match rq_heap G M i with
      | some g => some (fun call K lv st cs mem => match g cs st mem with
        | some x => if x.1 = len then rq_more x.2.2.2.1 x.2.2.2.2.1 x.2.2.2.2.2 (K (pc + len) lv x.2.1 cs x.2.2.1) else none
        | none => match rq_o1 (rq_foc i) st with
          | some (a, t, r) => if ri_k t = 0 ∧ ri_cst t = false ∧ (ri_bd cs t).2 < (ri_bd cs t).1 + 700 then ri_vals t (fun y cs' => K pc lv (a ++ y :: r) cs' mem) ((ri_bd cs t).2 - (ri_bd cs t).1 + 1).toNat (ri_bd cs t).1 cs else none
          | none => rq_o6 (rq_ctl G M pc i len) call K lv st cs mem)
      | none => match rq_foc i with
        | some _ => none
        | none => rq_ctl G M pc i len
theorem ry_in_eq {G : ri_Tb} {M : ri_Mt} {pc len : Nat} {i : Instr} (h : (ri_co M)[pc]? = some (some (i, len))) : ry_in G M pc i len = rq_at G M pc := by
  unfold rq_at ry_in
  rw [h]
  rfl
noncomputable def ry_zd (G : ri_Tb) (M : ri_Mt) (pc : Nat) (i : Instr) (len : Nat) : Option rq_S := match i with
  | .iload k => rz_if (Nat.beq len 2) (some (rz_load (rq_o6 (ry_in G M pc i len)) 0 k (pc + 2))) (ry_in G M pc i len)
  | .iload_n k => rz_if (Nat.beq len 1) (some (rz_load (rq_o6 (ry_in G M pc i len)) 0 k.val (pc + 1))) (ry_in G M pc i len)
  | .lload k => rz_if (Nat.beq len 2) (some (rz_load (rq_o6 (ry_in G M pc i len)) 1 k (pc + 2))) (ry_in G M pc i len)
  | .lload_n k => rz_if (Nat.beq len 1) (some (rz_load (rq_o6 (ry_in G M pc i len)) 1 k.val (pc + 1))) (ry_in G M pc i len)
  | .aload k => rz_if (Nat.beq len 2) (some (rz_loada (rq_o6 (ry_in G M pc i len)) k (pc + 2))) (ry_in G M pc i len)
  | .aload_n k => rz_if (Nat.beq len 1) (some (rz_loada (rq_o6 (ry_in G M pc i len)) k.val (pc + 1))) (ry_in G M pc i len)
  | .iconst n => rz_if (Nat.beq len 1) (some (rz_const (ri_ci (Int32.ofInt n)) (pc + 1))) (ry_in G M pc i len)
  | .bipush n => rz_if (Nat.beq len 2) (some (rz_const (ri_ci (Int8.ofInt n).toInt32) (pc + 2))) (ry_in G M pc i len)
  | .sipush n => rz_if (Nat.beq len 3) (some (rz_const (ri_ci (Int16.ofInt n).toInt32) (pc + 3))) (ry_in G M pc i len)
  | .lconst n => rz_if (Nat.beq len 1) (some (rz_const (ri_cl (Int64.ofNat n.val)) (pc + 1))) (ry_in G M pc i len)
  | .aconst_null => rz_if (Nat.beq len 1) (some (rz_const .null (pc + 1))) (ry_in G M pc i len)
  | .istore k => rz_if (Nat.beq len 2) (rz_if (Nat.ble (Nat.succ k) (ri_mx M)) (some (rz_store (rq_o6 (ry_in G M pc i len)) 0 k (pc + 2))) (ry_in G M pc i len)) (ry_in G M pc i len)
  | .istore_n k => rz_if (Nat.beq len 1) (rz_if (Nat.ble (Nat.succ k.val) (ri_mx M)) (some (rz_store (rq_o6 (ry_in G M pc i len)) 0 k.val (pc + 1))) (ry_in G M pc i len)) (ry_in G M pc i len)
  | .iadd => rz_if (Nat.beq len 1) (some (rz_s2 (rq_o6 (ry_in G M pc i len)) (fun x y => Nat.mod (Nat.add x y) 4294967296) (pc + 1))) (ry_in G M pc i len)
  | .isub => rz_if (Nat.beq len 1) (some (rz_s2 (rq_o6 (ry_in G M pc i len)) (fun x y => Nat.mod (Nat.add x (Nat.sub 4294967296 y)) 4294967296) (pc + 1))) (ry_in G M pc i len)
  | .imul => rz_if (Nat.beq len 1) (some (rz_s2 (rq_o6 (ry_in G M pc i len)) (fun x y => Nat.mod (Nat.mul x y) 4294967296) (pc + 1))) (ry_in G M pc i len)
  | .iinc k n => rz_if (Nat.beq len 3) (rz_if (Nat.ble (Nat.succ k) (ri_mx M)) (some (rz_inc (rq_o6 (ry_in G M pc i len)) k (Int32.ofInt n).toBitVec.toNat (pc + 3))) (ry_in G M pc i len)) (ry_in G M pc i len)
  | .iaload => rz_if (Nat.beq len 1) (some (rz_iald G (rq_o6 (ry_in G M pc i len)) (pc + 1))) (ry_in G M pc i len)
  | .iastore => rz_if (Nat.beq len 1) (some (rz_iast G (rq_o6 (ry_in G M pc i len)) (pc + 1))) (ry_in G M pc i len)
  | .aaload => rz_if (Nat.beq len 1) (some (rz_aald G (rq_o6 (ry_in G M pc i len)) (pc + 1))) (ry_in G M pc i len)
  | .i2l => rz_if (Nat.beq len 1) (some (rz_i2l (rq_o6 (ry_in G M pc i len)) (pc + 1))) (ry_in G M pc i len)
  | .ladd => rz_if (Nat.beq len 1) (some (rz_ll (rq_o6 (ry_in G M pc i len)) (fun x y => ri_cl (x + y)) (pc + 1))) (ry_in G M pc i len)
  | .lsub => rz_if (Nat.beq len 1) (some (rz_ll (rq_o6 (ry_in G M pc i len)) (fun x y => ri_cl (x - y)) (pc + 1))) (ry_in G M pc i len)
  | .lcmp => rz_if (Nat.beq len 1) (some (rz_ll (rq_o6 (ry_in G M pc i len)) (fun x y => ri_ci (lg_cmp x y)) (pc + 1))) (ry_in G M pc i len)
  | .dup => rz_if (Nat.beq len 1) (some (rz_dup (rq_o6 (ry_in G M pc i len)) (pc + 1))) (ry_in G M pc i len)
  | .if_icmp c off => rz_if (Nat.beq len 3) (rz_o (ry_in G M pc i len) (fun t => some (rz_ic (rq_o6 (ry_in G M pc i len)) c t (pc + 3))) (ri_tg pc off)) (ry_in G M pc i len)
  | .ifCond c off => rz_if (Nat.beq len 3) (rz_o (ry_in G M pc i len) (fun t => some (rz_if0 (rq_o6 (ry_in G M pc i len)) c t (pc + 3))) (ri_tg pc off)) (ry_in G M pc i len)
  | .goto off => rz_if (Nat.beq len 3) (rz_o (ry_in G M pc i len) (fun t => some (rz_go t)) (ri_tg pc off)) (ry_in G M pc i len)
  | .getfield idx => rz_if (Nat.beq len 3) (match ri_cp G M idx with
    | some (kd, ci, j, _) => rz_if (Nat.ble kd 1) (some (rz_getf (rq_o6 (ry_in G M pc i len)) ci j (pc + 3))) (ry_in G M pc i len)
    | none => ry_in G M pc i len) (ry_in G M pc i len)
  | .putfield idx => rz_if (Nat.beq len 3) (match ri_cp G M idx with
    | some (kd, ci, j, _) => match (ri_cls G)[ci]?, ((ri_fts G).getD ci [])[j]? with
      | some (_, T, _), some ty => rz_if (Nat.ble kd 1) (if (T j).2.2.2 = false ∨ (kd = 0 ∧ (ri_nm M).name = "<init>" ∧ (T j).1 = ri_own M) then some (rz_putf (rq_o6 (ry_in G M pc i len)) ci j ty (pc + 3)) else ry_in G M pc i len) (ry_in G M pc i len)
      | _, _ => ry_in G M pc i len
    | none => ry_in G M pc i len) (ry_in G M pc i len)
  | _ => ry_in G M pc i len
theorem ry_zd_eq {G : ri_Tb} {M : ri_Mt} {pc len : Nat} {i : Instr} (h : (ri_co M)[pc]? = some (some (i, len))) : ry_zd G M pc i len = rz_dis G M pc i len := by
  have e := ry_in_eq (G := G) h
  cases i <;> (unfold ry_zd rz_dis; first | rw [e] | (dsimp only; rw [e]) | skip) <;> first | rfl | skip
noncomputable def ry_dis (G : ri_Tb) (M : ri_Mt) (pc : Nat) (i : Instr) (len : Nat) : Option rq_S := match i with
  | .if_icmp c off => rz_if (Nat.beq len 3) (rz_o (ry_zd G M pc i len) (fun t => some (ry_ic (rq_o6 (ry_zd G M pc i len)) c t (pc + 3))) (ri_tg pc off)) (ry_zd G M pc i len)
  | .ifCond c off => rz_if (Nat.beq len 3) (rz_o (ry_zd G M pc i len) (fun t => some (ry_if0 (rq_o6 (ry_zd G M pc i len)) c t (pc + 3))) (ri_tg pc off)) (ry_zd G M pc i len)
  | .iastore => some (ry_iast (rq_o6 (ry_zd G M pc i len)) pc)
  | _ => ry_zd G M pc i len
theorem rz_at_s : rz_Z G M pc (rz_at G M pc) := fun call K lv st cs mem => by
  have e := rz_step_eq (G := G) (call := call) (M := M) (K := K) (pc := pc) (lv := lv) (st := st) (cs := cs) (mem := mem)
  unfold rz_step at e
  rw [rq_F_eq] at e
  exact e
theorem ry_dis_s (h : (ri_co M)[pc]? = some (some (i, len))) : rz_Z G M pc (ry_dis G M pc i len) := by
  have h0 : rz_Z G M pc (ry_zd G M pc i len) := by
    have e : rz_at G M pc = rz_dis G M pc i len := by
      unfold rz_at
      rw [h]
    rw [ry_zd_eq h, ← e]
    exact rz_at_s
  have hS : rz_S G M pc (rq_o6 (ry_zd G M pc i len)) := h0
  cases i with
  | if_icmp c off =>
    refine rz_two (fun hb => ?_) h0
    have e := rz_beq hb
    subst e
    cases ht : ri_tg pc off with
    | none => exact h0
    | some t => exact rz_one (ry_ic_s hS h ht)
  | ifCond c off =>
    refine rz_two (fun hb => ?_) h0
    have e := rz_beq hb
    subst e
    cases ht : ri_tg pc off with
    | none => exact h0
    | some t => exact rz_one (ry_if0_s hS h ht)
  | iastore => exact rz_one (ry_iast_s hS h)
  | _ => exact h0
/-- a step that the kernel takes by a name, so that its stack stays flat -/
noncomputable def ry_nx {α : Type} (ih : Nat → Option α) (k : Nat) : Option α := ih k
noncomputable def ry_get {α : Type} (l : List α) : Nat → Option α := List.rec (motive := fun _ => Nat → Option α) (fun _ => none) (fun a _ ih k => Nat.rec (motive := fun _ => Option α) (some a) (fun k' _ => ry_nx ih k') k) l
theorem ry_get_eq {α : Type} (l : List α) : ∀ k, ry_get l k = l[k]? := by
  induction l with
  | nil => intro k; rfl
  | cons a l ih => intro k; cases k with
    | zero => rfl
    | succ k => exact ih k
noncomputable def ry_at (G : ri_Tb) (M : ri_Mt) (pc : Nat) : Option rq_S := match ry_get (ri_co M) pc with
  | some (some (i, len)) => ry_dis G M pc i len
  | _ => none
noncomputable def ry_step (G : ri_Tb) (call : ri_Call) (M : ri_Mt) (K : ri_K) (pc : Nat) (lv : List (Nat × Jvm.Term)) (st : List Jvm.Term) (cs : List ri_Cd) (mem : ri_Me) : Option ri_Rs := rq_F pc (fun pc => rq_o6 (ry_at G M pc) call K lv st cs mem)
theorem ry_step_eq : ry_step G call M K pc lv st cs mem = ri_one G call M K pc lv st cs mem := by
  unfold ry_step
  rw [rq_F_eq]
  unfold ry_at
  rw [ry_get_eq]
  split
  · next i len h => exact ry_dis_s h call K lv st cs mem
  · next hn =>
    unfold ri_one
    split
    · next i len h => exact absurd h (hn i len)
    · rfl
noncomputable def ry_runB (G : ri_Tb) (call : ri_Call) (M : ri_Mt) (B : ri_K) (f : Nat) : ri_K := Nat.rec (motive := fun _ => ri_K) B (fun _ K pc lv st cs mem => ry_step G call M K pc lv st cs mem) f
theorem ry_runB_eq {B : ri_K} {f : Nat} : ry_runB G call M B f = ri_runB G call M B f := by
  induction f with
  | zero => rfl
  | succ f ih =>
    funext pc lv st cs mem
    show ry_step G call M (ry_runB G call M B f) pc lv st cs mem = ri_one G call M (ri_runB G call M B f) pc lv st cs mem
    rw [ry_step_eq, ih]
noncomputable def ry_call (G : ri_Tb) (fuel d : Nat) : ri_Call := Nat.rec (motive := fun _ => ri_Call) (fun _ _ _ _ => none) (fun k C mi args cs mem => match (ri_mts G)[mi]? with
    | some M => if ri_lw M = false ∧ (args.map (fun t => if ri_wide t = true then 2 else 1)).sum ≤ ri_mx M ∧ (ri_hi M = true → 5 ≤ k) then ry_runB G C M ri_B0 fuel 0 (ri_args 0 args) [] cs mem else none
    | none => none) d
theorem ry_call_eq {fuel d : Nat} : ry_call G fuel d = ri_call G fuel d := by
  induction d with
  | zero => rfl
  | succ d ih =>
    funext mi args cs mem
    show (match (ri_mts G)[mi]? with
      | some M => if ri_lw M = false ∧ (args.map (fun t => if ri_wide t = true then 2 else 1)).sum ≤ ri_mx M ∧ (ri_hi M = true → 5 ≤ d) then ry_runB G (ry_call G fuel d) M ri_B0 fuel 0 (ri_args 0 args) [] cs mem else none
      | none => none) = _
    rw [ri_call_S, ih]
    simp only [ry_runB_eq]
    rfl
theorem ry_eq {B : ri_K} {f fuel d : Nat} : ry_runB G (ry_call G fuel d) M B f = ri_runB G (ri_call G fuel d) M B f := by rw [ry_call_eq, ry_runB_eq]
end RY1
end RY
