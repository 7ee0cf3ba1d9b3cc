section RII
abbrev ri_Cd : Type := Nat × Jvm.Term × Jvm.Term × Bool
def ri_eqT : Jvm.Term → Jvm.Term → Bool
  | .arg i, .arg j => i == j
  | .int x, .int y => x == y
  | .long x, .long y => x == y
  | .add a b, .add a2 b2 => ri_eqT a a2 && ri_eqT b b2
  | .sub a b, .sub a2 b2 => ri_eqT a a2 && ri_eqT b b2
  | .mul a b, .mul a2 b2 => ri_eqT a a2 && ri_eqT b b2
  | .div a b, .div a2 b2 => ri_eqT a a2 && ri_eqT b b2
  | .rem a b, .rem a2 b2 => ri_eqT a a2 && ri_eqT b b2
  | .op2 o a b, .op2 o2 a2 b2 => decide (o = o2) && (ri_eqT a a2 && ri_eqT b b2)
  | .op1 o a, .op1 o2 a2 => decide (o = o2) && ri_eqT a a2
  | .null, .null => true
  | .index i, .index j => i == j
  | .string c i, .string c2 i2 => i == i2 && c == c2
  | _, _ => false
theorem ri_eqT_s : ∀ (a b : Jvm.Term), ri_eqT a b = true → a = b := by
  intro a
  induction a with
  | arg i => intro b h; cases b <;> simp [ri_eqT] at h; rw [h]
  | int i => intro b h; cases b <;> simp [ri_eqT] at h; rw [h]
  | long i => intro b h; cases b <;> simp [ri_eqT] at h; rw [h]
  | add x y hx hy => intro b h; cases b <;> simp [ri_eqT] at h; rw [hx _ h.1, hy _ h.2]
  | sub x y hx hy => intro b h; cases b <;> simp [ri_eqT] at h; rw [hx _ h.1, hy _ h.2]
  | mul x y hx hy => intro b h; cases b <;> simp [ri_eqT] at h; rw [hx _ h.1, hy _ h.2]
  | div x y hx hy => intro b h; cases b <;> simp [ri_eqT] at h; rw [hx _ h.1, hy _ h.2]
  | rem x y hx hy => intro b h; cases b <;> simp [ri_eqT] at h; rw [hx _ h.1, hy _ h.2]
  | op2 o x y hx hy => intro b h; cases b <;> simp [ri_eqT] at h; rw [h.1, hx _ h.2.1, hy _ h.2.2]
  | op1 o x hx => intro b h; cases b <;> simp [ri_eqT] at h; rw [h.1, hx _ h.2]
  | null => intro b h; cases b <;> simp [ri_eqT] at h; rfl
  | index i => intro b h; cases b <;> simp [ri_eqT] at h; rw [h]
  | string c i => intro b h; cases b <;> simp [ri_eqT] at h; rw [h.1, h.2]
  | _ => intro b h; cases b <;> simp [ri_eqT] at h
/-- the value of an int, of a long that hangs on no cell -/
def ri_iv (ρ : Nat → Int32) (t : Jvm.Term) : Int32 := ri_gI (ri_cv ρ (fun _ _ => 0) (fun _ => 0) t)
def ri_il (ρ : Nat → Int32) (t : Jvm.Term) : Int64 := ri_gL (ri_cv ρ (fun _ _ => 0) (fun _ => 0) t)
theorem ri_iv_eq {ρ : Nat → Int32} {sa sa' : String → Nat → Nat} {ad ad' : Nat → Nat} (t : Jvm.Term) : ri_gI (ri_cv ρ sa ad t) = ri_gI (ri_cv ρ sa' ad' t) ∧ ri_gL (ri_cv ρ sa ad t) = ri_gL (ri_cv ρ sa' ad' t) := ⟨(ri_key t).1, (ri_key t).2.1⟩
theorem ri_ivI {ρ : Nat → Int32} {sa : String → Nat → Nat} {ad : Nat → Nat} {t : Jvm.Term} (h : ri_k t = 0) : ri_cv ρ sa ad t = .int (ri_iv ρ t) := by
  rw [ri_I h]
  unfold ri_iv
  rw [(ri_iv_eq t).1]
/-- what held on a way: 0: equal, else: less -/
def ri_rel (k : Nat) (x y : Int32) : Prop := match k with
  | 0 => x = y
  | _ => x < y
def ri_sat (ρ : Nat → Int32) (q : ri_Cd) : Prop := q.2.2.2 = true ↔ ri_rel q.1 (ri_iv ρ q.2.1) (ri_iv ρ q.2.2.1)
/-- bounds -/
def ri_B (r : Int × Int) (x : Int) : Prop := r.1 ≤ x ∧ x ≤ r.2
def ri_F32 : Int × Int := (-2147483648, 2147483647)
def ri_F64 : Int × Int := (-9223372036854775808, 9223372036854775807)
def ri_c32 (r : Int × Int) : Int × Int := if -2147483648 ≤ r.1 ∧ r.2 ≤ 2147483647 then r else ri_F32
def ri_c64 (r : Int × Int) : Int × Int := if -9223372036854775808 ≤ r.1 ∧ r.2 ≤ 9223372036854775807 then r else ri_F64
/-- bounds, narrowed by what held -/
def ri_nw (t : Jvm.Term) (q : ri_Cd) (r : Int × Int) : Int × Int := match q.2.2.1 with
  | .int c => if ri_eqT q.2.1 t = true then (match q.1 with
    | 0 => if q.2.2.2 = true then (max r.1 c.toInt, min r.2 c.toInt) else (if r.1 = c.toInt then r.1 + 1 else r.1, if r.2 = c.toInt then r.2 - 1 else r.2)
    | _ => if q.2.2.2 = true then (r.1, min r.2 (c.toInt - 1)) else (max r.1 c.toInt, r.2)) else r
  | _ => r
/-- twice, for what is unequal to a bound found later -/
def ri_fd (cs : List ri_Cd) (t : Jvm.Term) (r : Int × Int) : Int × Int := cs.foldr (ri_nw t) (cs.foldr (ri_nw t) r)
def ri_m4 (a b c d : Int) : Int × Int := (min (min a b) (min c d), max (max a b) (max c d))
def ri_cmpB (a b : Int × Int) : Int × Int := if a.2 < b.1 then (-1, -1) else if b.2 < a.1 then (1, 1) else (if b.2 ≤ a.1 then 0 else -1, if a.2 ≤ b.1 then 0 else 1)
def ri_bd (cs : List ri_Cd) : Jvm.Term → Int × Int
  | .int v => (v.toInt, v.toInt)
  | .long v => (v.toInt, v.toInt)
  | .add a b => ri_fd cs ((.add a b)) (if ri_k a = 0 ∧ ri_k b = 0 then ri_c32 ((ri_bd cs a).1 + (ri_bd cs b).1, (ri_bd cs a).2 + (ri_bd cs b).2) else ri_F32)
  | .sub a b => ri_fd cs ((.sub a b)) (if ri_k a = 0 ∧ ri_k b = 0 then ri_c32 ((ri_bd cs a).1 - (ri_bd cs b).2, (ri_bd cs a).2 - (ri_bd cs b).1) else ri_F32)
  | .mul a b => ri_fd cs ((.mul a b)) (if ri_k a = 0 ∧ ri_k b = 0 then ri_c32 (ri_m4 ((ri_bd cs a).1 * (ri_bd cs b).1) ((ri_bd cs a).1 * (ri_bd cs b).2) ((ri_bd cs a).2 * (ri_bd cs b).1) ((ri_bd cs a).2 * (ri_bd cs b).2)) else ri_F32)
  | .div a b => ri_fd cs ((.div a b)) (if ri_k a = 0 then (match b with
    | .int c => if 0 < c.toInt then ri_c32 ((ri_bd cs a).1.tdiv c.toInt, (ri_bd cs a).2.tdiv c.toInt) else ri_F32
    | _ => ri_F32) else ri_F32)
  | .rem a b => ri_fd cs ((.rem a b)) (if ri_k a = 0 then (match b with
    | .int c => if 0 < c.toInt then (if 0 ≤ (ri_bd cs a).1 then (0, min (c.toInt - 1) (ri_bd cs a).2) else (-(c.toInt - 1), c.toInt - 1)) else ri_F32
    | _ => ri_F32) else ri_F32)
  | .op2 o a b => match ri_ko o with
    | 0 => ri_fd cs ((.op2 o a b)) (match o, b with
      | .iand, .int c => if 0 ≤ c.toInt then (0, c.toInt) else ri_F32
      | _, _ => ri_F32)
    | 1 => if ri_k a = 1 ∧ ri_k b = 1 then (match o with
      | .ladd => ri_c64 ((ri_bd cs a).1 + (ri_bd cs b).1, (ri_bd cs a).2 + (ri_bd cs b).2)
      | .lsub => ri_c64 ((ri_bd cs a).1 - (ri_bd cs b).2, (ri_bd cs a).2 - (ri_bd cs b).1)
      | _ => ri_F64) else ri_F64
    | _ => if ri_k a = 1 ∧ ri_k b = 1 then ri_fd cs ((.op2 o a b)) (ri_cmpB (ri_bd cs a) (ri_bd cs b)) else ri_F32
  | .op1 o a => match o with
    | .i2l => if ri_k a = 0 then ri_bd cs a else ri_F64
    | .ineg => ri_fd cs ((.op1 o a)) (if ri_k a = 0 then ri_c32 (-(ri_bd cs a).2, -(ri_bd cs a).1) else ri_F32)
    | .l2i => ri_fd cs ((.op1 o a)) ri_F32
    | _ => ri_F64
  | t => ri_fd cs (t) ri_F32
section RII1
variable {ρ : Nat → Int32} {cs : List ri_Cd}
theorem ri_B32 (x : Int32) : ri_B ri_F32 x.toInt := ⟨Int32.le_toInt x, Int32.toInt_le x⟩
theorem ri_B64 (x : Int64) : ri_B ri_F64 x.toInt := ⟨Int64.le_toInt x, Int64.toInt_le x⟩
theorem ri_nw_s {t : Jvm.Term} {q : ri_Cd} {r : Int × Int} (hq : ri_sat ρ q) (h : ri_B r (ri_iv ρ t).toInt) : ri_B (ri_nw t q r) (ri_iv ρ t).toInt := by
  obtain ⟨k, a, b, v⟩ := q
  unfold ri_nw
  dsimp only
  split
  · next c =>
    split
    · next he =>
      have e := ri_eqT_s _ _ he
      subst e
      have ec : ri_iv ρ (.int c) = c := rfl
      unfold ri_sat at hq
      dsimp only at hq
      rw [ec] at hq
      obtain ⟨h1, h2⟩ := h
      split
      · have hr : ri_rel 0 (ri_iv ρ a) c ↔ ri_iv ρ a = c := Iff.rfl
        rw [hr] at hq
        split
        · next hv =>
          have e := hq.mp hv
          rw [← e]
          exact ⟨by dsimp only; omega, by dsimp only; omega⟩
        · next hv =>
          have e : (ri_iv ρ a).toInt ≠ c.toInt := fun z => hv (hq.mpr (Int32.toInt_inj.mp z))
          refine ⟨?_, ?_⟩
          · dsimp only; split <;> omega
          · dsimp only; split <;> omega
      · next hk =>
        have hr : ri_rel k (ri_iv ρ a) c ↔ ri_iv ρ a < c := by
          cases k with
          | zero => exact absurd rfl hk
          | succ k => exact Iff.rfl
        rw [hr, Int32.lt_iff_toInt_lt] at hq
        split
        · next hv =>
          have e := hq.mp hv
          exact ⟨h1, by dsimp only; omega⟩
        · next hv =>
          have e : ¬ (ri_iv ρ a).toInt < c.toInt := fun z => hv (hq.mpr z)
          exact ⟨by dsimp only; omega, h2⟩
    · exact h
  · exact h
theorem ri_fold0_s {t : Jvm.Term} {r : Int × Int} (hs : ∀ q ∈ cs, ri_sat ρ q) (h : ri_B r (ri_iv ρ t).toInt) : ri_B (cs.foldr (ri_nw t) r) (ri_iv ρ t).toInt := by
  induction cs with
  | nil => exact h
  | cons q l ih => exact ri_nw_s (hs q List.mem_cons_self) (ih fun z hz => hs z (List.mem_cons_of_mem _ hz))
theorem ri_fold_s {t : Jvm.Term} {r : Int × Int} (hs : ∀ q ∈ cs, ri_sat ρ q) (h : ri_B r (ri_iv ρ t).toInt) : ri_B (ri_fd cs t r) (ri_iv ρ t).toInt := ri_fold0_s hs (ri_fold0_s hs h)
theorem ri_c32_s {r : Int × Int} {x : Int32} {n : Int} (hx : x.toInt = n.bmod (2 ^ 32)) (h : ri_B r n) : ri_B (ri_c32 r) x.toInt := by
  unfold ri_c32
  split
  · next hc =>
    rw [hx, Int.bmod_eq_of_le (by obtain ⟨h1, h2⟩ := h; omega) (by obtain ⟨h1, h2⟩ := h; omega)]
    exact h
  · exact ri_B32 x
theorem ri_c64_s {r : Int × Int} {x : Int64} {n : Int} (hx : x.toInt = n.bmod (2 ^ 64)) (h : ri_B r n) : ri_B (ri_c64 r) x.toInt := by
  unfold ri_c64
  split
  · next hc =>
    rw [hx, Int.bmod_eq_of_le (by obtain ⟨h1, h2⟩ := h; omega) (by obtain ⟨h1, h2⟩ := h; omega)]
    exact h
  · exact ri_B64 x
theorem ri_m4_s {a b : Int × Int} {x y : Int} (hx : ri_B a x) (hy : ri_B b y) : ri_B (ri_m4 (a.1 * b.1) (a.1 * b.2) (a.2 * b.1) (a.2 * b.2)) (x * y) := by
  obtain ⟨h1, h2⟩ := hx
  obtain ⟨h3, h4⟩ := hy
  have key : ∀ u v w z : Int, u ≤ v → v ≤ w → min (u * z) (w * z) ≤ v * z ∧ v * z ≤ max (u * z) (w * z) := by
    intro u v w z huv hvw
    rcases Int.le_total 0 z with hz | hz
    · exact ⟨Int.le_trans (Int.min_le_left _ _) (Int.mul_le_mul_of_nonneg_right huv hz), Int.le_trans (Int.mul_le_mul_of_nonneg_right hvw hz) (Int.le_max_right _ _)⟩
    · exact ⟨Int.le_trans (Int.min_le_right _ _) (Int.mul_le_mul_of_nonpos_right hvw hz), Int.le_trans (Int.mul_le_mul_of_nonpos_right huv hz) (Int.le_max_left _ _)⟩
  have k1 := key a.1 x a.2 y h1 h2
  have k2 := key b.1 y b.2 a.1 h3 h4
  have k3 := key b.1 y b.2 a.2 h3 h4
  rw [Int.mul_comm b.1, Int.mul_comm b.2, Int.mul_comm y] at k2 k3
  unfold ri_m4 ri_B
  dsimp only
  omega
theorem ri_cmpB_s {a b : Int × Int} {x y : Int64} (hx : ri_B a x.toInt) (hy : ri_B b y.toInt) : ri_B (ri_cmpB a b) (lg_cmp x y).toInt := by
  obtain ⟨h1, h2⟩ := hx
  obtain ⟨h3, h4⟩ := hy
  have e1 : (1 : Int32).toInt = 1 := by decide
  have e0 : (0 : Int32).toInt = 0 := by decide
  have em : (-1 : Int32).toInt = -1 := by decide
  have hc : (lg_cmp x y).toInt = if y.toInt < x.toInt then 1 else if x.toInt = y.toInt then 0 else -1 := by
    unfold lg_cmp
    by_cases z : x > y
    · rw [if_pos z, e1, if_pos (Int64.lt_iff_toInt_lt.mp z)]
    · rw [if_neg z, if_neg (fun q => z (Int64.lt_iff_toInt_lt.mpr q))]
      by_cases w : x = y
      · rw [if_pos w, e0, if_pos (by rw [w])]
      · rw [if_neg w, em, if_neg (fun q => w (Int64.toInt_inj.mp q))]
  rw [hc]
  unfold ri_cmpB ri_B
  repeat' split
  all_goals (refine ⟨?_, ?_⟩ <;> dsimp only <;> (repeat' split) <;> omega)
theorem ri_div_s {a c : Int32} {r : Int × Int} (hc : 0 < c.toInt) (h : ri_B r a.toInt) : ri_B (ri_c32 (r.1.tdiv c.toInt, r.2.tdiv c.toInt)) (a / c).toInt :=
  ri_c32_s (Int32.toInt_div a c) ⟨Int.tdiv_le_tdiv hc h.1, Int.tdiv_le_tdiv hc h.2⟩
theorem ri_rem_s {a c : Int32} {r : Int × Int} (hc : 0 < c.toInt) (h : ri_B r a.toInt) : ri_B (if 0 ≤ r.1 then (0, min (c.toInt - 1) r.2) else (-(c.toInt - 1), c.toInt - 1)) (a - a / c * c).toInt := by
  have h1 := Int.natAbs_tdiv_le_natAbs a.toInt c.toInt
  have h2 := Int.tmod_add_mul_tdiv a.toInt c.toInt
  have h3 := Int.tmod_lt_of_pos a.toInt hc
  have h4 := Int.lt_tmod_of_pos a.toInt hc
  have h5 : -2147483648 ≤ a.toInt := Int32.le_toInt a
  have h6 : a.toInt ≤ 2147483647 := Int32.toInt_le a
  have h7 : c.toInt ≤ 2147483647 := Int32.toInt_le c
  have hn : a.toInt < 0 → a.toInt.tmod c.toInt ≤ 0 := fun z => by
    have := Int.tmod_nonneg c.toInt (a := -a.toInt) (by omega)
    rw [Int.neg_tmod] at this
    omega
  have hp : 0 ≤ a.toInt → 0 ≤ a.toInt.tmod c.toInt := fun z => Int.tmod_nonneg _ z
  have h8 : 0 ≤ a.toInt → a.toInt.tmod c.toInt ≤ a.toInt := fun z => by
    have := Int.mul_nonneg (Int.le_of_lt hc) (Int.tdiv_nonneg z (Int.le_of_lt hc))
    omega
  have h9 : a.toInt < 0 → a.toInt ≤ a.toInt.tmod c.toInt := fun z => by
    have := Int.mul_nonneg (Int.le_of_lt hc) (Int.tdiv_nonneg (a := -a.toInt) (by omega) (Int.le_of_lt hc))
    rw [Int.neg_tdiv, Int.mul_neg] at this
    omega
  have e1 : (a / c).toInt = a.toInt.tdiv c.toInt := by rw [Int32.toInt_div, Int.bmod_eq_of_le (by omega) (by
    rcases Int.lt_or_le a.toInt 0 with z | z
    · have := Int.tdiv_nonneg (a := -a.toInt) (b := c.toInt) (by omega) (Int.le_of_lt hc)
      rw [Int.neg_tdiv] at this
      omega
    · omega)]
  have e2 : (a / c * c).toInt = c.toInt * a.toInt.tdiv c.toInt := by
    rw [Int32.toInt_mul, e1, Int.mul_comm, Int.bmod_eq_of_le (by omega) (by omega)]
  have e3 : (a - a / c * c).toInt = a.toInt.tmod c.toInt := by
    rw [Int32.toInt_sub, e2, Int.bmod_eq_of_le (by omega) (by omega)]
    omega
  rw [e3]
  obtain ⟨q1, q2⟩ := h
  split
  · exact ⟨hp (by omega), by dsimp only; have := h8 (by omega); omega⟩
  · exact ⟨by dsimp only; omega, by dsimp only; omega⟩
theorem ri_and_s {a c : Int32} (hc : 0 ≤ c.toInt) : ri_B (0, c.toInt) (a &&& c).toInt := by
  have h1 : (a &&& c).toBitVec.toNat ≤ c.toBitVec.toNat := by rw [Int32.toBitVec_and, BitVec.toNat_and]; exact Nat.and_le_right
  have h2 : c.toInt = if 2 * c.toBitVec.toNat < 2 ^ 32 then (c.toBitVec.toNat : Int) else (c.toBitVec.toNat : Int) - (2 ^ 32 : Nat) := rfl
  have h3 : (a &&& c).toInt = if 2 * (a &&& c).toBitVec.toNat < 2 ^ 32 then ((a &&& c).toBitVec.toNat : Int) else ((a &&& c).toBitVec.toNat : Int) - (2 ^ 32 : Nat) := rfl
  have h4 := c.toBitVec.isLt
  unfold ri_B
  rw [h3]
  split at h2
  · rw [h2, if_pos (by omega)]
    dsimp only
    omega
  · omega
set_option maxHeartbeats 2000000 in
theorem ri_bd_s (hs : ∀ q ∈ cs, ri_sat ρ q) (t : Jvm.Term) : (ri_k t = 0 → ri_B (ri_bd cs t) (ri_iv ρ t).toInt) ∧ (ri_k t = 1 → ri_B (ri_bd cs t) (ri_il ρ t).toInt) := by
  have fin : ∀ (t : Jvm.Term), ri_B (ri_fd cs (t) ri_F32) (ri_iv ρ t).toInt := fun t => ri_fold_s hs (ri_B32 _)
  induction t with
  | int v => exact ⟨fun _ => ⟨Int.le_refl _, Int.le_refl _⟩, fun h => by cases h⟩
  | long v => exact ⟨fun h => (by cases h), fun _ => ⟨Int.le_refl _, Int.le_refl _⟩⟩
  | add a b ha hb =>
    refine ⟨fun _ => ri_fold_s hs ?_, fun h => by cases h⟩
    split
    · next hk => exact ri_c32_s (Int32.toInt_add _ _) ⟨Int.add_le_add (ha.1 hk.1).1 (hb.1 hk.2).1, Int.add_le_add (ha.1 hk.1).2 (hb.1 hk.2).2⟩
    · exact ri_B32 _
  | sub a b ha hb =>
    refine ⟨fun _ => ri_fold_s hs ?_, fun h => by cases h⟩
    split
    · next hk => exact ri_c32_s (Int32.toInt_sub _ _) ⟨Int.sub_le_sub (ha.1 hk.1).1 (hb.1 hk.2).2, Int.sub_le_sub (ha.1 hk.1).2 (hb.1 hk.2).1⟩
    · exact ri_B32 _
  | mul a b ha hb =>
    refine ⟨fun _ => ri_fold_s hs ?_, fun h => by cases h⟩
    split
    · next hk => exact ri_c32_s (Int32.toInt_mul _ _) (ri_m4_s (ha.1 hk.1) (hb.1 hk.2))
    · exact ri_B32 _
  | div a b ha hb =>
    refine ⟨fun _ => ri_fold_s hs ?_, fun h => by cases h⟩
    split
    · next hk =>
      split
      · split
        · next hc => exact ri_div_s hc (ha.1 hk)
        · exact ri_B32 _
      · exact ri_B32 _
    · exact ri_B32 _
  | rem a b ha hb =>
    refine ⟨fun _ => ri_fold_s hs ?_, fun h => by cases h⟩
    split
    · next hk =>
      split
      · split
        · next hc => exact ri_rem_s hc (ha.1 hk)
        · exact ri_B32 _
      · exact ri_B32 _
    · exact ri_B32 _
  | op2 o a b ha hb =>
    cases o with
    | iand =>
      refine ⟨fun _ => ri_fold_s hs ?_, fun h => by cases h⟩
      split
      · next hc =>
        split
        · next h0 => exact ri_and_s h0
        · exact ri_B32 _
      · exact ri_B32 _
    | ior => exact ⟨fun _ => fin _, fun h => by cases h⟩
    | ixor => exact ⟨fun _ => fin _, fun h => by cases h⟩
    | ishl => exact ⟨fun _ => fin _, fun h => by cases h⟩
    | ishr => exact ⟨fun _ => fin _, fun h => by cases h⟩
    | iushr => exact ⟨fun _ => fin _, fun h => by cases h⟩
    | ladd =>
      refine ⟨fun h => (by cases h), fun _ => ?_⟩
      show ri_B (if ri_k a = 1 ∧ ri_k b = 1 then ri_c64 ((ri_bd cs a).1 + (ri_bd cs b).1, (ri_bd cs a).2 + (ri_bd cs b).2) else ri_F64) _
      split
      · next hk => exact ri_c64_s (Int64.toInt_add _ _) ⟨Int.add_le_add (ha.2 hk.1).1 (hb.2 hk.2).1, Int.add_le_add (ha.2 hk.1).2 (hb.2 hk.2).2⟩
      · exact ri_B64 _
    | lsub =>
      refine ⟨fun h => (by cases h), fun _ => ?_⟩
      show ri_B (if ri_k a = 1 ∧ ri_k b = 1 then ri_c64 ((ri_bd cs a).1 - (ri_bd cs b).2, (ri_bd cs a).2 - (ri_bd cs b).1) else ri_F64) _
      split
      · next hk => exact ri_c64_s (Int64.toInt_sub _ _) ⟨Int.sub_le_sub (ha.2 hk.1).1 (hb.2 hk.2).2, Int.sub_le_sub (ha.2 hk.1).2 (hb.2 hk.2).1⟩
      · exact ri_B64 _
    | lmul => exact ⟨fun h => (by cases h), fun _ => by
        show ri_B (if ri_k a = 1 ∧ ri_k b = 1 then ri_F64 else ri_F64) _
        split <;> exact ri_B64 _⟩
    | land => exact ⟨fun h => (by cases h), fun _ => by
        show ri_B (if ri_k a = 1 ∧ ri_k b = 1 then ri_F64 else ri_F64) _
        split <;> exact ri_B64 _⟩
    | lor => exact ⟨fun h => (by cases h), fun _ => by
        show ri_B (if ri_k a = 1 ∧ ri_k b = 1 then ri_F64 else ri_F64) _
        split <;> exact ri_B64 _⟩
    | lxor => exact ⟨fun h => (by cases h), fun _ => by
        show ri_B (if ri_k a = 1 ∧ ri_k b = 1 then ri_F64 else ri_F64) _
        split <;> exact ri_B64 _⟩
    | lcmp =>
      refine ⟨fun _ => ?_, fun h => by cases h⟩
      show ri_B (if ri_k a = 1 ∧ ri_k b = 1 then ri_fd cs ((.op2 .lcmp a b)) (ri_cmpB (ri_bd cs a) (ri_bd cs b)) else ri_F32) _
      split
      · next hk => exact ri_fold_s hs (ri_cmpB_s (ha.2 hk.1) (hb.2 hk.2))
      · exact ri_B32 _
    | _ => exact ⟨fun h => (by cases h), fun h => (by cases h)⟩
  | op1 o a ha =>
    cases o with
    | i2l =>
      refine ⟨fun h => (by cases h), fun _ => ?_⟩
      show ri_B (if ri_k a = 0 then ri_bd cs a else ri_F64) _
      split
      · next hk => rw [show ri_il ρ (.op1 .i2l a) = (ri_iv ρ a).toInt64 from rfl, Int32.toInt_toInt64]; exact ha.1 hk
      · exact ri_B64 _
    | ineg =>
      refine ⟨fun _ => ri_fold_s hs ?_, fun h => by cases h⟩
      split
      · next hk => exact ri_c32_s (Int32.toInt_neg _) ⟨Int.neg_le_neg (ha.1 hk).2, Int.neg_le_neg (ha.1 hk).1⟩
      · exact ri_B32 _
    | l2i => exact ⟨fun _ => fin _, fun h => by cases h⟩
    | _ => exact ⟨fun h => (by cases h), fun h => (by cases h)⟩
  | _ => first | exact ⟨fun _ => fin _, fun h => (by cases h)⟩ | exact ⟨fun h => (by cases h), fun h => (by cases h)⟩
end RII1
end RII
