/-! RA: numbers -/
section RA
section RA2
variable {G : ri_Tb} {sh : ra_Sh} {b d : Nat} {M : ri_Mt} {pc len : Nat} {L L' : List (Option Jvm.Term)} {st : List Jvm.Term} {σ : ra_V} {Q : ra_Q}
theorem ra_ci (x : Int32) : ri_ci x = ra_I x.toInt := by rw [ri_ci_eq]; exact congrArg Jvm.Term.int (Int32.ofInt_toInt x).symm
theorem ra_ciI (z : Int) : ri_ci (Int32.ofInt z) = ra_I z := ri_ci_eq _
theorem ra_clJ (z : Int) : ri_cl (Int64.ofInt z) = ra_J z := ri_cl_eq _
theorem ra_iconst {n : Int} (hd : (ri_co M)[pc]? = some (some (.iconst n, 1))) (kk : ra_P G sh b d M (pc + 1) L (ra_I n :: st) σ Q) : ra_P G sh b d M pc L st σ Q :=
  ra_pure hd (fun lv h => ⟨lv, h, by simp only [ri_pure, ra_ciI]⟩) kk
theorem ra_8 (n : Int) (h : -128 ≤ n ∧ n ≤ 127) : (Int8.ofInt n).toInt32 = Int32.ofInt n := by
  rw [← Int32.toInt_inj, Int8.toInt_toInt32, ra_ofI (by unfold ra_in; omega), Int8.toInt_ofInt]
  have e : (Int8.size : Int) = 256 := by decide
  exact Int.bmod_eq_of_le (by omega) (by omega)
theorem ra_16 (n : Int) (h : -32768 ≤ n ∧ n ≤ 32767) : (Int16.ofInt n).toInt32 = Int32.ofInt n := by
  rw [← Int32.toInt_inj, Int16.toInt_toInt32, ra_ofI (by unfold ra_in; omega), Int16.toInt_ofInt]
  have e : (Int16.size : Int) = 65536 := by decide
  exact Int.bmod_eq_of_le (by omega) (by omega)
theorem ra_bipush {n : Int} (hd : (ri_co M)[pc]? = some (some (.bipush n, 2))) (hn : -128 ≤ n ∧ n ≤ 127) (kk : ra_P G sh b d M (pc + 2) L (ra_I n :: st) σ Q) : ra_P G sh b d M pc L st σ Q :=
  ra_pure hd (fun lv h => ⟨lv, h, by simp only [ri_pure, ra_8 n hn, ra_ciI]⟩) kk
theorem ra_sipush {n : Int} (hd : (ri_co M)[pc]? = some (some (.sipush n, 3))) (hn : -32768 ≤ n ∧ n ≤ 32767) (kk : ra_P G sh b d M (pc + 3) L (ra_I n :: st) σ Q) : ra_P G sh b d M pc L st σ Q :=
  ra_pure hd (fun lv h => ⟨lv, h, by simp only [ri_pure, ra_16 n hn, ra_ciI]⟩) kk
theorem ra_lconst0 (hd : (ri_co M)[pc]? = some (some (.lconst 0, 1))) (kk : ra_P G sh b d M (pc + 1) L (ra_J 0 :: st) σ Q) : ra_P G sh b d M pc L st σ Q :=
  ra_pure hd (fun lv h => ⟨lv, h, by simp only [ri_pure]; rw [ri_cl_eq]; rfl⟩) kk
theorem ra_lconst1 (hd : (ri_co M)[pc]? = some (some (.lconst 1, 1))) (kk : ra_P G sh b d M (pc + 1) L (ra_J 1 :: st) σ Q) : ra_P G sh b d M pc L st σ Q :=
  ra_pure hd (fun lv h => ⟨lv, h, by simp only [ri_pure]; rw [ri_cl_eq]; rfl⟩) kk
theorem ra_null (hd : (ri_co M)[pc]? = some (some (.aconst_null, 1))) (kk : ra_P G sh b d M (pc + 1) L (.null :: st) σ Q) : ra_P G sh b d M pc L st σ Q :=
  ra_pure hd (fun lv h => ⟨lv, h, rfl⟩) kk
theorem ra_dconst0 (hd : (ri_co M)[pc]? = some (some (.dconst 0, 1))) (kk : ra_P G sh b d M (pc + 1) L (ri_fD FP.dconst0 :: st) σ Q) : ra_P G sh b d M pc L st σ Q :=
  ra_pure hd (fun lv h => ⟨lv, h, rfl⟩) kk
theorem ra_fconst0 (hd : (ri_co M)[pc]? = some (some (.fconst 0, 1))) (kk : ra_P G sh b d M (pc + 1) L (ri_fF FP.fconst0 :: st) σ Q) : ra_P G sh b d M pc L st σ Q :=
  ra_pure hd (fun lv h => ⟨lv, h, rfl⟩) kk
theorem ra_fconst1 (hd : (ri_co M)[pc]? = some (some (.fconst 1, 1))) (kk : ra_P G sh b d M (pc + 1) L (ri_fF FP.fconst1 :: st) σ Q) : ra_P G sh b d M pc L st σ Q :=
  ra_pure hd (fun lv h => ⟨lv, h, rfl⟩) kk
/-- two ints -/
theorem ra_bin {i : Instr} {f : Int32 → Int32 → Int32} {g : Jvm.Term → Jvm.Term → Jvm.Term} {x y z : Int} (hd : (ri_co M)[pc]? = some (some (i, 1))) (hi : ∀ lv st, ri_pure (ri_mx M) i lv st = ri_s2 0 (fun a b => ri_bin f (g a b) a b) lv st) (hz : f (Int32.ofInt x) (Int32.ofInt y) = Int32.ofInt z) (kk : ra_P G sh b d M (pc + 1) L (ra_I z :: st) σ Q) : ra_P G sh b d M pc L (ra_I y :: ra_I x :: st) σ Q :=
  ra_pure hd (fun lv h => ⟨lv, h, by
    rw [hi]
    show some (1, lv, ri_ci (f (Int32.ofInt x) (Int32.ofInt y)) :: st) = _
    rw [hz, ra_ciI]⟩) kk
theorem ra_iadd {x y : Int} (hd : (ri_co M)[pc]? = some (some (.iadd, 1))) (kk : ra_P G sh b d M (pc + 1) L (ra_I (x + y) :: st) σ Q) : ra_P G sh b d M pc L (ra_I y :: ra_I x :: st) σ Q :=
  ra_bin hd (fun _ _ => rfl) (Int32.ofInt_add x y).symm kk
theorem ra_sub_e (x y : Int) : Int32.ofInt x - Int32.ofInt y = Int32.ofInt (x - y) := by
  rw [← Int32.toInt_inj, Int32.toInt_sub, Int32.toInt_ofInt, Int32.toInt_ofInt, Int32.toInt_ofInt]
  simp
theorem ra_isub {x y : Int} (hd : (ri_co M)[pc]? = some (some (.isub, 1))) (kk : ra_P G sh b d M (pc + 1) L (ra_I (x - y) :: st) σ Q) : ra_P G sh b d M pc L (ra_I y :: ra_I x :: st) σ Q :=
  ra_bin hd (fun _ _ => rfl) (ra_sub_e x y) kk
theorem ra_imul {x y : Int} (hd : (ri_co M)[pc]? = some (some (.imul, 1))) (kk : ra_P G sh b d M (pc + 1) L (ra_I (x * y) :: st) σ Q) : ra_P G sh b d M pc L (ra_I y :: ra_I x :: st) σ Q :=
  ra_bin hd (fun _ _ => rfl) (Int32.ofInt_mul x y).symm kk
/-- bits, as values -/
def ra_op (o : Binary) (x y : Int) : Int := (ri_b32 o (Int32.ofInt x) (Int32.ofInt y)).toInt
theorem ra_iand {x y : Int} (hd : (ri_co M)[pc]? = some (some (.iand, 1))) (kk : ra_P G sh b d M (pc + 1) L (ra_I (ra_op .iand x y) :: st) σ Q) : ra_P G sh b d M pc L (ra_I y :: ra_I x :: st) σ Q :=
  ra_bin hd (fun _ _ => rfl) (Int32.ofInt_toInt _).symm kk
theorem ra_ior {x y : Int} (hd : (ri_co M)[pc]? = some (some (.ior, 1))) (kk : ra_P G sh b d M (pc + 1) L (ra_I (ra_op .ior x y) :: st) σ Q) : ra_P G sh b d M pc L (ra_I y :: ra_I x :: st) σ Q :=
  ra_bin hd (fun _ _ => rfl) (Int32.ofInt_toInt _).symm kk
theorem ra_ixor {x y : Int} (hd : (ri_co M)[pc]? = some (some (.ixor, 1))) (kk : ra_P G sh b d M (pc + 1) L (ra_I (ra_op .ixor x y) :: st) σ Q) : ra_P G sh b d M pc L (ra_I y :: ra_I x :: st) σ Q :=
  ra_bin hd (fun _ _ => rfl) (Int32.ofInt_toInt _).symm kk
theorem ra_ishl {x y : Int} (hd : (ri_co M)[pc]? = some (some (.ishl, 1))) (kk : ra_P G sh b d M (pc + 1) L (ra_I (ra_op .ishl x y) :: st) σ Q) : ra_P G sh b d M pc L (ra_I y :: ra_I x :: st) σ Q :=
  ra_bin hd (fun _ _ => rfl) (Int32.ofInt_toInt _).symm kk
theorem ra_ishr {x y : Int} (hd : (ri_co M)[pc]? = some (some (.ishr, 1))) (kk : ra_P G sh b d M (pc + 1) L (ra_I (ra_op .ishr x y) :: st) σ Q) : ra_P G sh b d M pc L (ra_I y :: ra_I x :: st) σ Q :=
  ra_bin hd (fun _ _ => rfl) (Int32.ofInt_toInt _).symm kk
theorem ra_iushr {x y : Int} (hd : (ri_co M)[pc]? = some (some (.iushr, 1))) (kk : ra_P G sh b d M (pc + 1) L (ra_I (ra_op .iushr x y) :: st) σ Q) : ra_P G sh b d M pc L (ra_I y :: ra_I x :: st) σ Q :=
  ra_bin hd (fun _ _ => rfl) (Int32.ofInt_toInt _).symm kk
theorem ra_in_op (o : Binary) (x y : Int) : ra_in (ra_op o x y) := ⟨Int32.le_toInt _, by have := Int32.toInt_lt (ri_b32 o (Int32.ofInt x) (Int32.ofInt y)); unfold ra_op; omega⟩
theorem ra_div_e {x y : Int} (hx : ra_in x) (hy : ra_in y) : Int32.ofInt x / Int32.ofInt y = Int32.ofInt (x.tdiv y) := by
  rw [← Int32.toInt_inj, Int32.toInt_div, ra_ofI hx, ra_ofI hy, Int32.toInt_ofInt]
theorem ra_sd {i : Instr} {f : Int32 → Int32 → Int32} {g : Jvm.Term → Jvm.Term → Jvm.Term} {x y z : Int} (hd : (ri_co M)[pc]? = some (some (i, 1))) (hi : ∀ lv st, ri_pure (ri_mx M) i lv st = ri_sd (fun a b => ri_bin f (g a b) a b) lv st) (hy : ra_in y) (hy0 : y ≠ 0) (hz : f (Int32.ofInt x) (Int32.ofInt y) = Int32.ofInt z) (kk : ra_P G sh b d M (pc + 1) L (ra_I z :: st) σ Q) : ra_P G sh b d M pc L (ra_I y :: ra_I x :: st) σ Q :=
  ra_pure hd (fun lv h => ⟨lv, h, by
    rw [hi]
    have h0 : ¬ Int32.ofInt y = 0 := fun e => hy0 ((ra_eq hy ra_in0).mp e)
    have hn : ri_nz (ra_I y) = true := by
      show (!(Int32.ofInt y == 0)) = true
      simpa using h0
    unfold ri_sd
    dsimp only
    rw [if_pos ⟨rfl, hn⟩]
    show some (1, lv, ri_ci (f (Int32.ofInt x) (Int32.ofInt y)) :: st) = _
    rw [hz, ra_ciI]⟩) kk
theorem ra_idiv {x y : Int} (hd : (ri_co M)[pc]? = some (some (.idiv, 1))) (hx : ra_in x) (hy : ra_in y) (hy0 : y ≠ 0) (kk : ra_P G sh b d M (pc + 1) L (ra_I (x.tdiv y) :: st) σ Q) : ra_P G sh b d M pc L (ra_I y :: ra_I x :: st) σ Q :=
  ra_sd hd (fun _ _ => rfl) hy hy0 (ra_div_e hx hy) kk
theorem ra_rem_e {x y : Int} (hx : ra_in x) (hy : ra_in y) : Int32.ofInt x - Int32.ofInt x / Int32.ofInt y * Int32.ofInt y = Int32.ofInt (x.tmod y) := by
  rw [ra_div_e hx hy, ← Int32.ofInt_mul, ra_sub_e]
  congr 1
  have := Int.tmod_add_mul_tdiv x y
  rw [Int.mul_comm] at this
  omega
theorem ra_irem {x y : Int} (hd : (ri_co M)[pc]? = some (some (.irem, 1))) (hx : ra_in x) (hy : ra_in y) (hy0 : y ≠ 0) (kk : ra_P G sh b d M (pc + 1) L (ra_I (x.tmod y) :: st) σ Q) : ra_P G sh b d M pc L (ra_I y :: ra_I x :: st) σ Q :=
  ra_sd hd (fun _ _ => rfl) hy hy0 (ra_rem_e hx hy) kk
theorem ra_ineg {x : Int} (hd : (ri_co M)[pc]? = some (some (.ineg, 1))) (kk : ra_P G sh b d M (pc + 1) L (ra_I (-x) :: st) σ Q) : ra_P G sh b d M pc L (ra_I x :: st) σ Q :=
  ra_pure hd (fun lv h => ⟨lv, h, by
    show some (1, lv, ri_ci (-Int32.ofInt x) :: st) = _
    rw [← Int32.ofInt_neg, ra_ciI]⟩) kk
theorem ra_iinc {k : Nat} {n x : Int} (hd : (ri_co M)[pc]? = some (some (.iinc k n, 3))) (hl : L[k]? = some (some (ra_I x))) (hk : k < ri_mx M) (hL : ra_sto L k (ra_I (x + n)) = L') (kk : ra_P G sh b d M (pc + 3) L' st σ Q) : ra_P G sh b d M pc L st σ Q := by
  subst hL
  refine ra_pure hd (fun lv h => ⟨ri_sto lv k (ra_I (x + n)), ra_lv_sto h, ?_⟩) kk
  have h1 := h k _ hl
  simp only [ri_pure, ri_inc]
  rw [h1]
  dsimp only
  rw [if_pos ⟨rfl, hk⟩]
  show some (3, ri_sto lv k (ri_ci (Int32.ofInt x + Int32.ofInt n)), st) = _
  rw [← Int32.ofInt_add, ra_ciI]
/-! longs -/
def ra_in6 (z : Int) : Prop := -9223372036854775808 ≤ z ∧ z ≤ 9223372036854775807
theorem ra_ofJ {z : Int} (h : ra_in6 z) : (Int64.ofInt z).toInt = z := by
  rw [Int64.toInt_ofInt]
  obtain ⟨h1, h2⟩ := h
  have e : (Int64.size : Int) = 18446744073709551616 := by decide
  exact Int.bmod_eq_of_le (by omega) (by omega)
theorem ra_i2l_e {x : Int} (hx : ra_in x) : (Int32.ofInt x).toInt64 = Int64.ofInt x := by
  rw [← Int64.toInt_inj, Int32.toInt_toInt64, ra_ofI hx, ra_ofJ ⟨by have := hx.1; omega, by have := hx.2; omega⟩]
theorem ra_i2l {x : Int} (hd : (ri_co M)[pc]? = some (some (.i2l, 1))) (hx : ra_in x) (kk : ra_P G sh b d M (pc + 1) L (ra_J x :: st) σ Q) : ra_P G sh b d M pc L (ra_I x :: st) σ Q :=
  ra_pure hd (fun lv h => ⟨lv, h, by
    show some (1, lv, ri_cl (Int32.ofInt x).toInt64 :: st) = _
    rw [ra_i2l_e hx, ra_clJ]⟩) kk
/-- an int that may have left its range, made a long -/
theorem ra_i2lw {x : Int} (hd : (ri_co M)[pc]? = some (some (.i2l, 1))) (kk : ra_P G sh b d M (pc + 1) L (ra_J (ra_w x) :: st) σ Q) : ra_P G sh b d M pc L (ra_I x :: st) σ Q := by
  rw [← ra_I_w]
  exact ra_i2l hd (ra_w_in x) kk
theorem ra_l2i {x : Int} (hd : (ri_co M)[pc]? = some (some (.l2i, 1))) (kk : ra_P G sh b d M (pc + 1) L (ra_I x :: st) σ Q) : ra_P G sh b d M pc L (ra_J x :: st) σ Q :=
  ra_pure hd (fun lv h => ⟨lv, h, by
    show some (1, lv, ri_ci (Int64.ofInt x).toInt32 :: st) = _
    have e : (Int64.ofInt x).toInt32 = Int32.ofInt x := by
      rw [← Int32.toInt_inj, Int64.toInt_toInt32, Int64.toInt_ofInt, Int32.toInt_ofInt]
      exact Int.bmod_bmod_of_dvd (by decide)
    rw [e, ra_ciI]⟩) kk
theorem ra_binL {i : Instr} {f : Int64 → Int64 → Int64} {g : Jvm.Term → Jvm.Term → Jvm.Term} {x y z : Int} (hd : (ri_co M)[pc]? = some (some (i, 1))) (hi : ∀ lv st, ri_pure (ri_mx M) i lv st = ri_s2 1 (fun a b => ri_binL f (g a b) a b) lv st) (hz : f (Int64.ofInt x) (Int64.ofInt y) = Int64.ofInt z) (kk : ra_P G sh b d M (pc + 1) L (ra_J z :: st) σ Q) : ra_P G sh b d M pc L (ra_J y :: ra_J x :: st) σ Q :=
  ra_pure hd (fun lv h => ⟨lv, h, by
    rw [hi]
    show some (1, lv, ri_cl (f (Int64.ofInt x) (Int64.ofInt y)) :: st) = _
    rw [hz, ra_clJ]⟩) kk
theorem ra_ladd {x y : Int} (hd : (ri_co M)[pc]? = some (some (.ladd, 1))) (kk : ra_P G sh b d M (pc + 1) L (ra_J (x + y) :: st) σ Q) : ra_P G sh b d M pc L (ra_J y :: ra_J x :: st) σ Q :=
  ra_binL hd (fun _ _ => rfl) (Int64.ofInt_add x y).symm kk
theorem ra_lsub {x y : Int} (hd : (ri_co M)[pc]? = some (some (.lsub, 1))) (kk : ra_P G sh b d M (pc + 1) L (ra_J (x - y) :: st) σ Q) : ra_P G sh b d M pc L (ra_J y :: ra_J x :: st) σ Q :=
  ra_binL hd (fun _ _ => rfl) (by
    rw [← Int64.toInt_inj, Int64.toInt_sub, Int64.toInt_ofInt, Int64.toInt_ofInt, Int64.toInt_ofInt]
    simp) kk
/-- how two longs compare -/
def ra_cmp (x y : Int) : Int := if y < x then 1 else if x = y then 0 else -1
theorem ra_in_cmp (x y : Int) : ra_in (ra_cmp x y) := by unfold ra_cmp ra_in; split <;> (try split) <;> omega
theorem ra_cmp_lt (x y : Int) : ra_cmp x y < 0 ↔ x < y := by unfold ra_cmp; split <;> (try split) <;> omega
theorem ra_cmp_le (x y : Int) : ra_cmp x y ≤ 0 ↔ x ≤ y := by unfold ra_cmp; split <;> (try split) <;> omega
theorem ra_cmp_gt (x y : Int) : 0 < ra_cmp x y ↔ y < x := by unfold ra_cmp; split <;> (try split) <;> omega
theorem ra_cmp_ge (x y : Int) : 0 ≤ ra_cmp x y ↔ y ≤ x := by unfold ra_cmp; split <;> (try split) <;> omega
theorem ra_cmp_eq (x y : Int) : ra_cmp x y = 0 ↔ x = y := by unfold ra_cmp; split <;> (try split) <;> omega
theorem ra_lcmp {x y : Int} (hd : (ri_co M)[pc]? = some (some (.lcmp, 1))) (hx : ra_in6 x) (hy : ra_in6 y) (kk : ra_P G sh b d M (pc + 1) L (ra_I (ra_cmp x y) :: st) σ Q) : ra_P G sh b d M pc L (ra_J y :: ra_J x :: st) σ Q :=
  ra_pure hd (fun lv h => ⟨lv, h, by
    show some (1, lv, ri_ci (lg_cmp (Int64.ofInt x) (Int64.ofInt y)) :: st) = _
    have e : lg_cmp (Int64.ofInt x) (Int64.ofInt y) = Int32.ofInt (ra_cmp x y) := by
      unfold lg_cmp ra_cmp
      have e1 : Int64.ofInt x > Int64.ofInt y ↔ y < x := by
        show Int64.ofInt y < Int64.ofInt x ↔ _
        rw [Int64.lt_iff_toInt_lt, ra_ofJ hx, ra_ofJ hy]
      have e2 : Int64.ofInt x = Int64.ofInt y ↔ x = y := by rw [← Int64.toInt_inj, ra_ofJ hx, ra_ofJ hy]
      by_cases h1 : y < x
      · rw [if_pos (e1.mpr h1), if_pos h1]; rfl
      · rw [if_neg (fun z => h1 (e1.mp z)), if_neg h1]
        by_cases h2 : x = y
        · rw [if_pos (e2.mpr h2), if_pos h2]; rfl
        · rw [if_neg (fun z => h2 (e2.mp z)), if_neg h2]; rfl
    rw [e, ra_ciI]⟩) kk
/-! the stack -/
theorem ra_dup {t : Jvm.Term} (hd : (ri_co M)[pc]? = some (some (.dup, 1))) (ht : ri_wide t = false) (kk : ra_P G sh b d M (pc + 1) L (t :: t :: st) σ Q) : ra_P G sh b d M pc L (t :: st) σ Q :=
  ra_pure hd (fun lv h => ⟨lv, h, by simp only [ri_pure, ri_dup]; rw [if_pos ht]⟩) kk
theorem ra_dup_x1 {t u : Jvm.Term} (hd : (ri_co M)[pc]? = some (some (.dup_x1, 1))) (ht : ri_wide t = false) (hu : ri_wide u = false) (kk : ra_P G sh b d M (pc + 1) L (t :: u :: t :: st) σ Q) : ra_P G sh b d M pc L (t :: u :: st) σ Q :=
  ra_pure hd (fun lv h => ⟨lv, h, by simp only [ri_pure, ri_dup_x1]; rw [if_pos ⟨ht, hu⟩]⟩) kk
theorem ra_dup2 {t u : Jvm.Term} (hd : (ri_co M)[pc]? = some (some (.dup2, 1))) (ht : ri_wide t = false) (hu : ri_wide u = false) (kk : ra_P G sh b d M (pc + 1) L (t :: u :: t :: u :: st) σ Q) : ra_P G sh b d M pc L (t :: u :: st) σ Q :=
  ra_pure hd (fun lv h => ⟨lv, h, by simp only [ri_pure, ri_dup2]; rw [if_pos ⟨ht, hu⟩]⟩) kk
theorem ra_pop {t : Jvm.Term} (hd : (ri_co M)[pc]? = some (some (.pop, 1))) (ht : ri_wide t = false) (kk : ra_P G sh b d M (pc + 1) L st σ Q) : ra_P G sh b d M pc L (t :: st) σ Q :=
  ra_pure hd (fun lv h => ⟨lv, h, by simp only [ri_pure, ri_pop]; rw [if_pos ht]⟩) kk
end RA2
end RA
