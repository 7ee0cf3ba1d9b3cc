/-! RI: the instructions that touch neither heap nor course -/
section RIP
def ri_pl (len kk : Nat) (lv : List (Nat × Jvm.Term)) (k : Nat) (st : List Jvm.Term) : Option (Nat × List (Nat × Jvm.Term) × List Jvm.Term) := match ri_ld lv k with
  | some t => if ri_k t = kk then some (len, lv, t :: st) else none
  | none => none
def ri_pa (len : Nat) (lv : List (Nat × Jvm.Term)) (k : Nat) (st : List Jvm.Term) : Option (Nat × List (Nat × Jvm.Term) × List Jvm.Term) := match ri_ld lv k with
  | some t => if ri_k t = 2 ∨ ri_k t = 3 then some (len, lv, t :: st) else none
  | none => none
def ri_ps (len kk nL : Nat) (lv : List (Nat × Jvm.Term)) (k : Nat) (st : List Jvm.Term) : Option (Nat × List (Nat × Jvm.Term) × List Jvm.Term) := match st with
  | t :: r => if ri_k t = kk ∧ k < nL then some (len, ri_sto lv k t, r) else none
  | _ => none
def ri_psa (len nL : Nat) (lv : List (Nat × Jvm.Term)) (k : Nat) (st : List Jvm.Term) : Option (Nat × List (Nat × Jvm.Term) × List Jvm.Term) := match st with
  | t :: r => if (ri_k t = 2 ∨ ri_k t = 3) ∧ k < nL then some (len, ri_sto lv k t, r) else none
  | _ => none
def ri_ps2 (len nL : Nat) (lv : List (Nat × Jvm.Term)) (k : Nat) (st : List Jvm.Term) : Option (Nat × List (Nat × Jvm.Term) × List Jvm.Term) := match st with
  | t :: r => if ri_k t = 1 ∧ k + 1 < nL then some (len, ri_sto2 lv k t, r) else none
  | _ => none
def ri_s1 (kk : Nat) (g : Jvm.Term → Jvm.Term) (lv : List (Nat × Jvm.Term)) (st : List Jvm.Term) : Option (Nat × List (Nat × Jvm.Term) × List Jvm.Term) := match st with
  | a :: r => if ri_k a = kk then some (1, lv, g a :: r) else none
  | _ => none
def ri_s2 (kk : Nat) (g : Jvm.Term → Jvm.Term → Jvm.Term) (lv : List (Nat × Jvm.Term)) (st : List Jvm.Term) : Option (Nat × List (Nat × Jvm.Term) × List Jvm.Term) := match st with
  | b :: a :: r => if ri_k a = kk ∧ ri_k b = kk then some (1, lv, g a b :: r) else none
  | _ => none
/-- a division: by a constant that isn't 0 -/
def ri_nz : Jvm.Term → Bool
  | .int y => !(y == 0)
  | _ => false
def ri_sd (g : Jvm.Term → Jvm.Term → Jvm.Term) (lv : List (Nat × Jvm.Term)) (st : List Jvm.Term) : Option (Nat × List (Nat × Jvm.Term) × List Jvm.Term) := match st with
  | b :: a :: r => if ri_k a = 0 ∧ ri_nz b = true then some (1, lv, g a b :: r) else none
  | _ => none
def ri_dup (lv : List (Nat × Jvm.Term)) (st : List Jvm.Term) : Option (Nat × List (Nat × Jvm.Term) × List Jvm.Term) := match st with
  | a :: r => if ri_wide a = false then some (1, lv, a :: a :: r) else none
  | _ => none
def ri_dup_x1 (lv : List (Nat × Jvm.Term)) (st : List Jvm.Term) : Option (Nat × List (Nat × Jvm.Term) × List Jvm.Term) := match st with
  | a :: b :: r => if ri_wide a = false ∧ ri_wide b = false then some (1, lv, a :: b :: a :: r) else none
  | _ => none
def ri_dup2 (lv : List (Nat × Jvm.Term)) (st : List Jvm.Term) : Option (Nat × List (Nat × Jvm.Term) × List Jvm.Term) := match st with
  | a :: b :: r => if ri_wide a = false ∧ ri_wide b = false then some (1, lv, a :: b :: a :: b :: r) else none
  | _ => none
def ri_pop (lv : List (Nat × Jvm.Term)) (st : List Jvm.Term) : Option (Nat × List (Nat × Jvm.Term) × List Jvm.Term) := match st with
  | a :: r => if ri_wide a = false then some (1, lv, r) else none
  | _ => none
def ri_inc (nL : Nat) (lv : List (Nat × Jvm.Term)) (k : Nat) (n : Int) (st : List Jvm.Term) : Option (Nat × List (Nat × Jvm.Term) × List Jvm.Term) := match ri_ld lv k with
  | some t => if ri_k t = 0 ∧ k < nL then some (3, ri_sto lv k (ri_bin (fun x y => x + y) (.add t (.int (Int32.ofInt n))) t (.int (Int32.ofInt n))), st) else none
  | none => none
/-- doubles and floats that are constants -/
def ri_fD (b : UInt64) : Jvm.Term := .op1 .bitsD (ri_cl b.toInt64)
def ri_fF (b : UInt32) : Jvm.Term := .op1 .bitsF (ri_ci b.toInt32)
def ri_s1F (g : UInt32 → UInt64) (lv : List (Nat × Jvm.Term)) (st : List Jvm.Term) : Option (Nat × List (Nat × Jvm.Term) × List Jvm.Term) := match st with
  | .op1 .bitsF (.int x) :: r => if g x.toUInt32 &&& 0x7fffffffffffffff ≤ 0x7ff0000000000000 then some (1, lv, ri_fD (g x.toUInt32) :: r) else none
  | _ => none
def ri_s2F (g : UInt32 → UInt32 → UInt32) (lv : List (Nat × Jvm.Term)) (st : List Jvm.Term) : Option (Nat × List (Nat × Jvm.Term) × List Jvm.Term) := match st with
  | .op1 .bitsF (.int y) :: .op1 .bitsF (.int x) :: r => if g x.toUInt32 y.toUInt32 &&& 0x7fffffff ≤ 0x7f800000 then some (1, lv, ri_fF (g x.toUInt32 y.toUInt32) :: r) else none
  | _ => none
def ri_s2D (g : UInt64 → UInt64 → UInt64) (lv : List (Nat × Jvm.Term)) (st : List Jvm.Term) : Option (Nat × List (Nat × Jvm.Term) × List Jvm.Term) := match st with
  | .op1 .bitsD (.long y) :: .op1 .bitsD (.long x) :: r => if g x.toUInt64 y.toUInt64 &&& 0x7fffffffffffffff ≤ 0x7ff0000000000000 then some (1, lv, ri_fD (g x.toUInt64 y.toUInt64) :: r) else none
  | _ => none
def ri_sI (g : Int32 → Jvm.Term) (lv : List (Nat × Jvm.Term)) (st : List Jvm.Term) : Option (Nat × List (Nat × Jvm.Term) × List Jvm.Term) := match st with
  | .int x :: r => some (1, lv, g x :: r)
  | _ => none
def ri_sC (op : CmpOp) (lv : List (Nat × Jvm.Term)) (st : List Jvm.Term) : Option (Nat × List (Nat × Jvm.Term) × List Jvm.Term) := match st with
  | .op1 .bitsD (.long y) :: .op1 .bitsD (.long x) :: r => some (1, lv, ri_ci (Op.cmpValue (FP.dcmp x.toUInt64 y.toUInt64) op) :: r)
  | _ => none
def ri_psd (len nL : Nat) (lv : List (Nat × Jvm.Term)) (k : Nat) (st : List Jvm.Term) : Option (Nat × List (Nat × Jvm.Term) × List Jvm.Term) := match st with
  | t :: r => if ri_k t = 4 ∧ k + 1 < nL then some (len, ri_sto2 lv k t, r) else none
  | _ => none
def ri_pure (nL : Nat) (i : Instr) (lv : List (Nat × Jvm.Term)) (st : List Jvm.Term) : Option (Nat × List (Nat × Jvm.Term) × List Jvm.Term) := match i with
  | .iconst n => some (1, lv, ri_ci (Int32.ofInt n) :: st)
  | .bipush n => some (2, lv, ri_ci (Int8.ofInt n).toInt32 :: st)
  | .sipush n => some (3, lv, ri_ci (Int16.ofInt n).toInt32 :: st)
  | .lconst n => some (1, lv, ri_cl (Int64.ofNat n.val) :: st)
  | .aconst_null => some (1, lv, .null :: st)
  | .iload k => ri_pl 2 0 lv k st
  | .iload_n k => ri_pl 1 0 lv k.val st
  | .lload k => ri_pl 2 1 lv k st
  | .lload_n k => ri_pl 1 1 lv k.val st
  | .aload k => ri_pa 2 lv k st
  | .aload_n k => ri_pa 1 lv k.val st
  | .istore k => ri_ps 2 0 nL lv k st
  | .istore_n k => ri_ps 1 0 nL lv k.val st
  | .lstore k => ri_ps2 2 nL lv k st
  | .lstore_n k => ri_ps2 1 nL lv k.val st
  | .astore k => ri_psa 2 nL lv k st
  | .astore_n k => ri_psa 1 nL lv k.val st
  | .iinc k n => ri_inc nL lv k n st
  | .iadd => ri_s2 0 (fun a b => ri_bin (fun x y => x + y) (.add a b) a b) lv st
  | .isub => ri_s2 0 (fun a b => ri_bin (fun x y => x - y) (.sub a b) a b) lv st
  | .imul => ri_s2 0 (fun a b => ri_bin (fun x y => x * y) (.mul a b) a b) lv st
  | .idiv => ri_sd (fun a b => ri_bin (fun x y => x / y) (.div a b) a b) lv st
  | .irem => ri_sd (fun a b => ri_bin (fun x y => x - x / y * y) (.rem a b) a b) lv st
  | .iand => ri_s2 0 (fun a b => ri_bin (fun x y => x &&& y) (.op2 .iand a b) a b) lv st
  | .ior => ri_s2 0 (fun a b => ri_bin (fun x y => x ||| y) (.op2 .ior a b) a b) lv st
  | .ixor => ri_s2 0 (fun a b => ri_bin (fun x y => x ^^^ y) (.op2 .ixor a b) a b) lv st
  | .ishl => ri_s2 0 (fun a b => ri_bin (fun x y => x <<< (y &&& 31)) (.op2 .ishl a b) a b) lv st
  | .ishr => ri_s2 0 (fun a b => ri_bin (fun x y => x >>> (y &&& 31)) (.op2 .ishr a b) a b) lv st
  | .iushr => ri_s2 0 (fun a b => ri_bin (fun x y => (x.toUInt32 >>> (y.toUInt32 &&& Int32.toUInt32 31)).toInt32) (.op2 .iushr a b) a b) lv st
  | .ineg => ri_s1 0 (fun a => ri_un (fun x => -x) (.op1 .ineg a) a) lv st
  | .i2l => ri_s1 0 (fun a => ri_unIL (fun x => x.toInt64) (.op1 .i2l a) a) lv st
  | .l2i => ri_s1 1 (fun a => ri_unLI (fun x => x.toInt32) (.op1 .l2i a) a) lv st
  | .ladd => ri_s2 1 (fun a b => ri_binL (fun x y => x + y) (.op2 .ladd a b) a b) lv st
  | .lsub => ri_s2 1 (fun a b => ri_binL (fun x y => x - y) (.op2 .lsub a b) a b) lv st
  | .lcmp => ri_s2 1 (fun a b => ri_binC (.op2 .lcmp a b) a b) lv st
  | .i2d => ri_sI (fun x => ri_fD (FP.i2d x)) lv st
  | .i2f => ri_sI (fun x => ri_fF (FP.i2f x)) lv st
  | .ddiv => ri_s2D FP.ddiv lv st
  | .fdiv => ri_s2F FP.fdiv lv st
  | .fsub => ri_s2F FP.fsub lv st
  | .f2d => ri_s1F FP.f2d lv st
  | .fconst 0 => some (1, lv, ri_fF FP.fconst0 :: st)
  | .fconst 1 => some (1, lv, ri_fF FP.fconst1 :: st)
  | .dconst 0 => some (1, lv, ri_fD FP.dconst0 :: st)
  | .dcmp op => ri_sC op lv st
  | .dload k => ri_pl 2 4 lv k st
  | .dload_n k => ri_pl 1 4 lv k.val st
  | .dstore k => ri_psd 2 nL lv k st
  | .dstore_n k => ri_psd 1 nL lv k.val st
  | .dup => ri_dup lv st
  | .dup_x1 => ri_dup_x1 lv st
  | .dup2 => ri_dup2 lv st
  | .pop => ri_pop lv st
  | _ => none
section RIPS
variable {ρ : Nat → Int32} {sa : String → Nat → Nat} {ad : Nat → Nat} {lv lv' : List (Nat × Jvm.Term)} {st st' : List Jvm.Term} {len len' kk nL k : Nat}
theorem ri_pl_s (h : ri_pl len kk lv k st = some (len', lv', st')) : ∃ t, ri_ld lv k = some t ∧ ri_k t = kk ∧ len' = len ∧ lv' = lv ∧ st' = t :: st := by
  unfold ri_pl at h
  split at h
  · next t ht =>
    split at h
    · next hk => cases h; exact ⟨t, ht, hk, rfl, rfl, rfl⟩
    · cases h
  · cases h
theorem ri_pa_s (h : ri_pa len lv k st = some (len', lv', st')) : ∃ t, ri_ld lv k = some t ∧ (ri_k t = 2 ∨ ri_k t = 3) ∧ len' = len ∧ lv' = lv ∧ st' = t :: st := by
  unfold ri_pa at h
  split at h
  · next t ht =>
    split at h
    · next hk => cases h; exact ⟨t, ht, hk, rfl, rfl, rfl⟩
    · cases h
  · cases h
theorem ri_ps_s (h : ri_ps len kk nL lv k st = some (len', lv', st')) : ∃ t, st = t :: st' ∧ ri_k t = kk ∧ k < nL ∧ len' = len ∧ lv' = ri_sto lv k t := by
  unfold ri_ps at h
  split at h
  · next t r =>
    split at h
    · next hk => cases h; exact ⟨t, rfl, hk.1, hk.2, rfl, rfl⟩
    · cases h
  · cases h
theorem ri_psa_s (h : ri_psa len nL lv k st = some (len', lv', st')) : ∃ t, st = t :: st' ∧ (ri_k t = 2 ∨ ri_k t = 3) ∧ k < nL ∧ len' = len ∧ lv' = ri_sto lv k t := by
  unfold ri_psa at h
  split at h
  · next t r =>
    split at h
    · next hk => cases h; exact ⟨t, rfl, hk.1, hk.2, rfl, rfl⟩
    · cases h
  · cases h
theorem ri_ps2_s (h : ri_ps2 len nL lv k st = some (len', lv', st')) : ∃ t, st = t :: st' ∧ ri_k t = 1 ∧ k + 1 < nL ∧ len' = len ∧ lv' = ri_sto2 lv k t := by
  unfold ri_ps2 at h
  split at h
  · next t r =>
    split at h
    · next hk => cases h; exact ⟨t, rfl, hk.1, hk.2, rfl, rfl⟩
    · cases h
  · cases h
theorem ri_s1_s {g : Jvm.Term → Jvm.Term} (h : ri_s1 kk g lv st = some (len', lv', st')) : ∃ a r, st = a :: r ∧ ri_k a = kk ∧ len' = 1 ∧ lv' = lv ∧ st' = g a :: r := by
  unfold ri_s1 at h
  split at h
  · next a r =>
    split at h
    · next hk => cases h; exact ⟨a, r, rfl, hk, rfl, rfl, rfl⟩
    · cases h
  · cases h
theorem ri_s2_s {g : Jvm.Term → Jvm.Term → Jvm.Term} (h : ri_s2 kk g lv st = some (len', lv', st')) : ∃ a b r, st = b :: a :: r ∧ ri_k a = kk ∧ ri_k b = kk ∧ len' = 1 ∧ lv' = lv ∧ st' = g a b :: r := by
  unfold ri_s2 at h
  split at h
  · next b a r =>
    split at h
    · next hk => cases h; exact ⟨a, b, r, rfl, hk.1, hk.2, rfl, rfl, rfl⟩
    · cases h
  · cases h
theorem ri_nz_s {b : Jvm.Term} (h : ri_nz b = true) : ∃ y : Int32, b = .int y ∧ ¬ y = 0 := by
  unfold ri_nz at h
  split at h
  · next y => exact ⟨y, rfl, fun e => by rw [e] at h; exact absurd h (by decide)⟩
  · cases h
theorem ri_sd_s {g : Jvm.Term → Jvm.Term → Jvm.Term} (h : ri_sd g lv st = some (len', lv', st')) : ∃ a b r, st = b :: a :: r ∧ ri_k a = 0 ∧ ri_nz b = true ∧ len' = 1 ∧ lv' = lv ∧ st' = g a b :: r := by
  unfold ri_sd at h
  split at h
  · next b a r =>
    split at h
    · next hk => cases h; exact ⟨a, b, r, rfl, hk.1, hk.2, rfl, rfl, rfl⟩
    · cases h
  · cases h
theorem ri_dup_s (h : ri_dup lv st = some (len', lv', st')) : ∃ a r, st = a :: r ∧ ri_wide a = false ∧ len' = 1 ∧ lv' = lv ∧ st' = a :: a :: r := by
  unfold ri_dup at h
  split at h
  · next a r =>
    split at h
    · next hk => cases h; exact ⟨a, r, rfl, hk, rfl, rfl, rfl⟩
    · cases h
  · cases h
theorem ri_pop_s (h : ri_pop lv st = some (len', lv', st')) : ∃ a, st = a :: st' ∧ ri_wide a = false ∧ len' = 1 ∧ lv' = lv := by
  unfold ri_pop at h
  split at h
  · next a r =>
    split at h
    · next hk => cases h; exact ⟨a, rfl, hk, rfl, rfl⟩
    · cases h
  · cases h
theorem ri_dup_x1_s (h : ri_dup_x1 lv st = some (len', lv', st')) : ∃ a b r, st = a :: b :: r ∧ ri_wide a = false ∧ ri_wide b = false ∧ len' = 1 ∧ lv' = lv ∧ st' = a :: b :: a :: r := by
  unfold ri_dup_x1 at h
  split at h
  · next a b r =>
    split at h
    · next hk => cases h; exact ⟨a, b, r, rfl, hk.1, hk.2, rfl, rfl, rfl⟩
    · cases h
  · cases h
theorem ri_dup2_s (h : ri_dup2 lv st = some (len', lv', st')) : ∃ a b r, st = a :: b :: r ∧ ri_wide a = false ∧ ri_wide b = false ∧ len' = 1 ∧ lv' = lv ∧ st' = a :: b :: a :: b :: r := by
  unfold ri_dup2 at h
  split at h
  · next a b r =>
    split at h
    · next hk => cases h; exact ⟨a, b, r, rfl, hk.1, hk.2, rfl, rfl, rfl⟩
    · cases h
  · cases h
theorem ri_inc_s {n : Int} (h : ri_inc nL lv k n st = some (len', lv', st')) : ∃ t, ri_ld lv k = some t ∧ ri_k t = 0 ∧ k < nL ∧ len' = 3 ∧ lv' = ri_sto lv k (ri_bin (fun x y => x + y) (.add t (.int (Int32.ofInt n))) t (.int (Int32.ofInt n))) ∧ st' = st := by
  unfold ri_inc at h
  split at h
  · next t ht =>
    split at h
    · next hk => cases h; exact ⟨t, ht, hk.1, hk.2, rfl, rfl, rfl⟩
    · cases h
  · cases h
end RIPS
section RIPF
variable {ρ : Nat → Int32} {sa : String → Nat → Nat} {ad : Nat → Nat} {lv lv' : List (Nat × Jvm.Term)} {st st' : List Jvm.Term} {len len' kk nL k : Nat}
theorem ri_fD_cv {b : UInt64} : ri_cv ρ sa ad (ri_fD b) = .double b := by
  show Value.double (ri_gL (ri_cv ρ sa ad (ri_cl b.toInt64))).toUInt64 = .double b
  rw [ri_cl_eq]
  exact congrArg Value.double (UInt64.toUInt64_toInt64 b)
theorem ri_fF_cv {b : UInt32} : ri_cv ρ sa ad (ri_fF b) = .float b := by
  show Value.float (ri_gI (ri_cv ρ sa ad (ri_ci b.toInt32))).toUInt32 = .float b
  rw [ri_ci_eq]
  exact congrArg Value.float (UInt32.toUInt32_toInt32 b)
theorem ri_s1F_s {g : UInt32 → UInt64} (h : ri_s1F g lv st = some (len', lv', st')) : ∃ (x : Int32) (r : List Jvm.Term), st = .op1 .bitsF (.int x) :: r ∧ vf_n64 (g x.toUInt32) ∧ len' = 1 ∧ lv' = lv ∧ st' = ri_fD (g x.toUInt32) :: r := by
  unfold ri_s1F at h
  split at h
  · next x r =>
    split at h
    · next hk => cases h; exact ⟨x, r, rfl, hk, rfl, rfl, rfl⟩
    · cases h
  · cases h
theorem ri_s2F_s {g : UInt32 → UInt32 → UInt32} (h : ri_s2F g lv st = some (len', lv', st')) : ∃ (x y : Int32) (r : List Jvm.Term), st = .op1 .bitsF (.int y) :: .op1 .bitsF (.int x) :: r ∧ vf_n32 (g x.toUInt32 y.toUInt32) ∧ len' = 1 ∧ lv' = lv ∧ st' = ri_fF (g x.toUInt32 y.toUInt32) :: r := by
  unfold ri_s2F at h
  split at h
  · next y x r =>
    split at h
    · next hk => cases h; exact ⟨x, y, r, rfl, hk, rfl, rfl, rfl⟩
    · cases h
  · cases h
theorem ri_s2D_s {g : UInt64 → UInt64 → UInt64} (h : ri_s2D g lv st = some (len', lv', st')) : ∃ (x y : Int64) (r : List Jvm.Term), st = .op1 .bitsD (.long y) :: .op1 .bitsD (.long x) :: r ∧ vf_n64 (g x.toUInt64 y.toUInt64) ∧ len' = 1 ∧ lv' = lv ∧ st' = ri_fD (g x.toUInt64 y.toUInt64) :: r := by
  unfold ri_s2D at h
  split at h
  · next y x r =>
    split at h
    · next hk => cases h; exact ⟨x, y, r, rfl, hk, rfl, rfl, rfl⟩
    · cases h
  · cases h
theorem ri_sI_s {g : Int32 → Jvm.Term} (h : ri_sI g lv st = some (len', lv', st')) : ∃ (x : Int32) (r : List Jvm.Term), st = .int x :: r ∧ len' = 1 ∧ lv' = lv ∧ st' = g x :: r := by
  unfold ri_sI at h
  split at h
  · next x r => cases h; exact ⟨x, r, rfl, rfl, rfl, rfl⟩
  · cases h
theorem ri_sC_s {op : CmpOp} (h : ri_sC op lv st = some (len', lv', st')) : ∃ (x y : Int64) (r : List Jvm.Term), st = .op1 .bitsD (.long y) :: .op1 .bitsD (.long x) :: r ∧ len' = 1 ∧ lv' = lv ∧ st' = ri_ci (Op.cmpValue (FP.dcmp x.toUInt64 y.toUInt64) op) :: r := by
  unfold ri_sC at h
  split at h
  · next y x r => cases h; exact ⟨x, y, r, rfl, rfl, rfl, rfl⟩
  · cases h
theorem ri_psd_s (h : ri_psd len nL lv k st = some (len', lv', st')) : ∃ t, st = t :: st' ∧ ri_k t = 4 ∧ k + 1 < nL ∧ len' = len ∧ lv' = ri_sto2 lv k t := by
  unfold ri_psd at h
  split at h
  · next t r =>
    split at h
    · next hk => cases h; exact ⟨t, rfl, hk.1, hk.2, rfl, rfl⟩
    · cases h
  · cases h
end RIPF
section RIPW
variable {p : Program} {l : Launch} {e : Env} {R : Room} {s : State} {m : MethodId} {args : Array Value} {below : List Frame} {meth : Method} {c : Code} {H : Heap} {locs : List Loc} {cells slots : Nat} {Q : State → Prop}
variable {ρ : Nat → Int32} {sa : String → Nat → Nat} {ad : Nat → Nat} {lv lv' : List (Nat × Jvm.Term)} {st st' : List Jvm.Term} {len nL pc : Nat} {ls : Array Slot} {cc : ByteArray}
set_option maxHeartbeats 4000000 in
theorem ri_pure_W {i : Instr} (hx : p.tables.exec = Jvm.exec) (hb : c.code = cc) (h : ri_pure nL i lv st = some (len, lv', st')) (hd : decode cc pc = .ok (i, len)) (hl : lv_has ls nL (ri_lc ρ sa ad lv))
    (kk : ∀ ls' : Array Slot, lv_has ls' nL (ri_lc ρ sa ad lv') → W p l e R s m args below meth c H locs cells slots Q (F0 m (pc + len) ls' (st'.map (ri_cv ρ sa ad)))) :
    W p l e R s m args below meth c H locs cells slots Q (F0 m pc ls (st.map (ri_cv ρ sa ad))) := by
  cases i with
  | iconst n => cases h; have k1 := kk ls hl; rw [List.map_cons, ri_ci_eq] at k1; exact lv_iconst hx hb hd rfl k1
  | bipush n => cases h; have k1 := kk ls hl; rw [List.map_cons, ri_ci_eq] at k1; exact lv_bipush hx hb hd rfl k1
  | sipush n => cases h; have k1 := kk ls hl; rw [List.map_cons, ri_ci_eq] at k1; exact lv_sipush hx hb hd rfl k1
  | lconst n => cases h; have k1 := kk ls hl; rw [List.map_cons, ri_cl_eq] at k1; exact lv_lconst hx hb hd rfl k1
  | aconst_null => cases h; exact lv_null hx hb hd (kk ls hl)
  | iload k => obtain ⟨t, h1, h2, rfl, rfl, rfl⟩ := ri_pl_s h; have h3 := ri_ld_at hl h1; have k1 := kk ls hl; rw [List.map_cons, ri_I h2] at k1; rw [ri_I h2] at h3; exact lv_iload hx hb hd h3 k1
  | iload_n k => obtain ⟨t, h1, h2, rfl, rfl, rfl⟩ := ri_pl_s h; have h3 := ri_ld_at hl h1; have k1 := kk ls hl; rw [List.map_cons, ri_I h2] at k1; rw [ri_I h2] at h3; exact lv_iload_n hx hb hd rfl h3 k1
  | lload k => obtain ⟨t, h1, h2, rfl, rfl, rfl⟩ := ri_pl_s h; have h3 := ri_ld_at hl h1; have k1 := kk ls hl; rw [List.map_cons, ri_L h2] at k1; rw [ri_L h2] at h3; exact lv_lload hx hb hd h3 k1
  | lload_n k => obtain ⟨t, h1, h2, rfl, rfl, rfl⟩ := ri_pl_s h; have h3 := ri_ld_at hl h1; have k1 := kk ls hl; rw [List.map_cons, ri_L h2] at k1; rw [ri_L h2] at h3; exact lv_lload_n hx hb hd rfl h3 k1
  | aload k =>
    obtain ⟨t, h1, h2, rfl, rfl, rfl⟩ := ri_pa_s h
    have h3 := ri_ld_at hl h1
    have k1 := kk ls hl
    rw [List.map_cons] at k1
    rcases h2 with h2 | h2
    · obtain ⟨a, ha⟩ := ri_R (ρ := ρ) (sa := sa) (ad := ad) h2
      rw [ha] at h3 k1
      exact lv_aload hx hb hd h3 k1
    · rw [ri_N h2] at h3 k1
      exact lv_aloadN hx hb hd h3 k1
  | aload_n k =>
    obtain ⟨t, h1, h2, rfl, rfl, rfl⟩ := ri_pa_s h
    have h3 := ri_ld_at hl h1
    have k1 := kk ls hl
    rw [List.map_cons] at k1
    rcases h2 with h2 | h2
    · obtain ⟨a, ha⟩ := ri_R (ρ := ρ) (sa := sa) (ad := ad) h2
      rw [ha] at h3 k1
      exact lv_aload_n hx hb hd rfl h3 k1
    · rw [ri_N h2] at h3 k1
      exact lv_aload_nN hx hb hd rfl h3 k1
  | istore k => obtain ⟨t, rfl, h2, h3, rfl, rfl⟩ := ri_ps_s h; rw [List.map_cons, ri_I h2]; exact lv_istore hx hb hd hl h3 rfl fun ls' hl' => kk ls' (ri_sto_has (by rw [ri_I h2]; exact hl'))
  | istore_n k => obtain ⟨t, rfl, h2, h3, rfl, rfl⟩ := ri_ps_s h; rw [List.map_cons, ri_I h2]; exact lv_istore_n hx hb hd rfl hl h3 rfl fun ls' hl' => kk ls' (ri_sto_has (by rw [ri_I h2]; exact hl'))
  | lstore k => obtain ⟨t, rfl, h2, h3, rfl, rfl⟩ := ri_ps2_s h; rw [List.map_cons, ri_L h2]; exact lv_lstore hx hb hd hl h3 rfl fun ls' hl' => kk ls' (ri_sto2_has (by rw [ri_L h2]; exact hl'))
  | lstore_n k => obtain ⟨t, rfl, h2, h3, rfl, rfl⟩ := ri_ps2_s h; rw [List.map_cons, ri_L h2]; exact lv_lstore_n hx hb hd rfl hl h3 rfl fun ls' hl' => kk ls' (ri_sto2_has (by rw [ri_L h2]; exact hl'))
  | astore k =>
    obtain ⟨t, rfl, h2, h3, rfl, rfl⟩ := ri_psa_s h
    rw [List.map_cons]
    rcases h2 with h2 | h2
    · obtain ⟨a, ha⟩ := ri_R (ρ := ρ) (sa := sa) (ad := ad) h2
      rw [ha]
      exact lv_astore hx hb hd hl h3 rfl fun ls' hl' => kk ls' (ri_sto_has (by rw [ha]; exact hl'))
    · rw [ri_N h2]
      exact lv_astoreN hx hb hd hl h3 rfl fun ls' hl' => kk ls' (ri_sto_has (by rw [ri_N h2]; exact hl'))
  | astore_n k =>
    obtain ⟨t, rfl, h2, h3, rfl, rfl⟩ := ri_psa_s h
    rw [List.map_cons]
    rcases h2 with h2 | h2
    · obtain ⟨a, ha⟩ := ri_R (ρ := ρ) (sa := sa) (ad := ad) h2
      rw [ha]
      exact lv_astore_n hx hb hd rfl hl h3 rfl fun ls' hl' => kk ls' (ri_sto_has (by rw [ha]; exact hl'))
    · rw [ri_N h2]
      exact lv_astore_nN hx hb hd rfl hl h3 rfl fun ls' hl' => kk ls' (ri_sto_has (by rw [ri_N h2]; exact hl'))
  | iinc k n =>
    obtain ⟨t, h1, h2, h3, rfl, rfl, rfl⟩ := ri_inc_s h
    have hm : (k, ri_cv ρ sa ad t) ∈ ri_lc ρ sa ad lv := List.mem_map.mpr ⟨(k, t), ri_ld_mem h1, rfl⟩
    obtain ⟨j, hj⟩ := List.getElem?_of_mem hm
    rw [ri_I h2] at hj
    have e := ri_bin_cv (ρ := ρ) (sa := sa) (ad := ad) (f := fun x y => x + y) (t := .add t (.int (Int32.ofInt n))) (a := t) (b := .int (Int32.ofInt n)) rfl
    exact lv_iinc hx hb hd hl hj rfl h3 rfl fun ls' hl' => kk ls' (ri_sto_has (by rw [e]; exact hl'))
  | iadd => obtain ⟨a, b, r, rfl, ha, hb2, rfl, rfl, rfl⟩ := ri_s2_s h; have k1 := kk ls hl; rw [List.map_cons, ri_bin_cv rfl] at k1; rw [List.map_cons, List.map_cons, ri_I ha, ri_I hb2]; exact lv_iadd hx hb hd k1
  | isub => obtain ⟨a, b, r, rfl, ha, hb2, rfl, rfl, rfl⟩ := ri_s2_s h; have k1 := kk ls hl; rw [List.map_cons, ri_bin_cv rfl] at k1; rw [List.map_cons, List.map_cons, ri_I ha, ri_I hb2]; exact lv_isub hx hb hd k1
  | imul => obtain ⟨a, b, r, rfl, ha, hb2, rfl, rfl, rfl⟩ := ri_s2_s h; have k1 := kk ls hl; rw [List.map_cons, ri_bin_cv rfl] at k1; rw [List.map_cons, List.map_cons, ri_I ha, ri_I hb2]; exact lv_imul hx hb hd k1
  | idiv => obtain ⟨a, b, r, rfl, ha, hz, rfl, rfl, rfl⟩ := ri_sd_s h; obtain ⟨y, rfl, hy⟩ := ri_nz_s hz; have k1 := kk ls hl; rw [List.map_cons, ri_bin_cv rfl] at k1; rw [List.map_cons, List.map_cons, ri_I ha]; exact lv_idiv hx hb hd hy k1
  | irem => obtain ⟨a, b, r, rfl, ha, hz, rfl, rfl, rfl⟩ := ri_sd_s h; obtain ⟨y, rfl, hy⟩ := ri_nz_s hz; have k1 := kk ls hl; rw [List.map_cons, ri_bin_cv rfl] at k1; rw [List.map_cons, List.map_cons, ri_I ha]; exact lv_irem hx hb hd hy k1
  | iand => obtain ⟨a, b, r, rfl, ha, hb2, rfl, rfl, rfl⟩ := ri_s2_s h; have k1 := kk ls hl; rw [List.map_cons, ri_bin_cv rfl] at k1; rw [List.map_cons, List.map_cons, ri_I ha, ri_I hb2]; exact lv_iand hx hb hd k1
  | ior => obtain ⟨a, b, r, rfl, ha, hb2, rfl, rfl, rfl⟩ := ri_s2_s h; have k1 := kk ls hl; rw [List.map_cons, ri_bin_cv rfl] at k1; rw [List.map_cons, List.map_cons, ri_I ha, ri_I hb2]; exact lv_ior hx hb hd k1
  | ixor => obtain ⟨a, b, r, rfl, ha, hb2, rfl, rfl, rfl⟩ := ri_s2_s h; have k1 := kk ls hl; rw [List.map_cons, ri_bin_cv rfl] at k1; rw [List.map_cons, List.map_cons, ri_I ha, ri_I hb2]; exact lv_ixor hx hb hd k1
  | ishl => obtain ⟨a, b, r, rfl, ha, hb2, rfl, rfl, rfl⟩ := ri_s2_s h; have k1 := kk ls hl; rw [List.map_cons, ri_bin_cv rfl] at k1; rw [List.map_cons, List.map_cons, ri_I ha, ri_I hb2]; exact lv_ishl hx hb hd k1
  | ishr => obtain ⟨a, b, r, rfl, ha, hb2, rfl, rfl, rfl⟩ := ri_s2_s h; have k1 := kk ls hl; rw [List.map_cons, ri_bin_cv rfl] at k1; rw [List.map_cons, List.map_cons, ri_I ha, ri_I hb2]; exact lv_ishr hx hb hd k1
  | iushr => obtain ⟨a, b, r, rfl, ha, hb2, rfl, rfl, rfl⟩ := ri_s2_s h; have k1 := kk ls hl; rw [List.map_cons, ri_bin_cv rfl] at k1; rw [List.map_cons, List.map_cons, ri_I ha, ri_I hb2]; exact lv_iushr hx hb hd rfl k1
  | ineg => obtain ⟨a, r, rfl, ha, rfl, rfl, rfl⟩ := ri_s1_s h; have k1 := kk ls hl; rw [List.map_cons, ri_un_cv rfl] at k1; rw [List.map_cons, ri_I ha]; exact lv_ineg hx hb hd k1
  | i2l => obtain ⟨a, r, rfl, ha, rfl, rfl, rfl⟩ := ri_s1_s h; have k1 := kk ls hl; rw [List.map_cons, ri_unIL_cv rfl] at k1; rw [List.map_cons, ri_I ha]; exact lv_i2l hx hb hd rfl k1
  | l2i => obtain ⟨a, r, rfl, ha, rfl, rfl, rfl⟩ := ri_s1_s h; have k1 := kk ls hl; rw [List.map_cons, ri_unLI_cv rfl] at k1; rw [List.map_cons, ri_L ha]; exact lv_l2i hx hb hd rfl k1
  | ladd => obtain ⟨a, b, r, rfl, ha, hb2, rfl, rfl, rfl⟩ := ri_s2_s h; have k1 := kk ls hl; rw [List.map_cons, ri_binL_cv rfl] at k1; rw [List.map_cons, List.map_cons, ri_L ha, ri_L hb2]; exact lv_ladd hx hb hd k1
  | lsub => obtain ⟨a, b, r, rfl, ha, hb2, rfl, rfl, rfl⟩ := ri_s2_s h; have k1 := kk ls hl; rw [List.map_cons, ri_binL_cv rfl] at k1; rw [List.map_cons, List.map_cons, ri_L ha, ri_L hb2]; exact lv_lsub hx hb hd k1
  | lcmp => obtain ⟨a, b, r, rfl, ha, hb2, rfl, rfl, rfl⟩ := ri_s2_s h; have k1 := kk ls hl; rw [List.map_cons, ri_binC_cv rfl] at k1; rw [List.map_cons, List.map_cons, ri_L ha, ri_L hb2]; exact W.lcmp hx hb hd k1
  | i2d => obtain ⟨x, r, rfl, rfl, rfl, rfl⟩ := ri_sI_s h; have k1 := kk ls hl; rw [List.map_cons, ri_fD_cv] at k1; exact lv_i2d hx hb hd k1
  | i2f => obtain ⟨x, r, rfl, rfl, rfl, rfl⟩ := ri_sI_s h; have k1 := kk ls hl; rw [List.map_cons, ri_fF_cv] at k1; exact lv_i2f hx hb hd k1
  | ddiv => obtain ⟨x, y, r, rfl, hn, rfl, rfl, rfl⟩ := ri_s2D_s h; have k1 := kk ls hl; rw [List.map_cons, ri_fD_cv] at k1; exact lv_ddiv (x := x.toUInt64) (y := y.toUInt64) hx hb hd hn k1
  | fdiv => obtain ⟨x, y, r, rfl, hn, rfl, rfl, rfl⟩ := ri_s2F_s h; have k1 := kk ls hl; rw [List.map_cons, ri_fF_cv] at k1; exact lv_fdiv (x := x.toUInt32) (y := y.toUInt32) hx hb hd hn k1
  | fsub => obtain ⟨x, y, r, rfl, hn, rfl, rfl, rfl⟩ := ri_s2F_s h; have k1 := kk ls hl; rw [List.map_cons, ri_fF_cv] at k1; exact lv_fsub (x := x.toUInt32) (y := y.toUInt32) hx hb hd hn k1
  | f2d => obtain ⟨x, r, rfl, hn, rfl, rfl, rfl⟩ := ri_s1F_s h; have k1 := kk ls hl; rw [List.map_cons, ri_fD_cv] at k1; exact lv_f2d (x := x.toUInt32) hx hb hd hn k1
  | fconst k =>
    match k, h, hd with
    | 0, h, hd => cases h; have k1 := kk ls hl; rw [List.map_cons, ri_fF_cv] at k1; exact lv_fconst0 hx hb hd k1
    | 1, h, hd => cases h; have k1 := kk ls hl; rw [List.map_cons, ri_fF_cv] at k1; exact lv_fconst1 hx hb hd k1
    | 2, h, hd => cases h
  | dconst k =>
    match k, h, hd with
    | 0, h, hd => cases h; have k1 := kk ls hl; rw [List.map_cons, ri_fD_cv] at k1; exact lv_dconst0 hx hb hd k1
    | 1, h, hd => cases h
  | dcmp op => obtain ⟨x, y, r, rfl, rfl, rfl, rfl⟩ := ri_sC_s h; have k1 := kk ls hl; rw [List.map_cons, ri_ci_eq] at k1; exact lv_dcmp (x := x.toUInt64) (y := y.toUInt64) hx hb hd k1
  | dload k => obtain ⟨t, h1, h2, rfl, rfl, rfl⟩ := ri_pl_s h; obtain ⟨b9, hb9⟩ := ri_Dd (ρ := ρ) (sa := sa) (ad := ad) h2; have h3 := ri_ld_at hl h1; have k1 := kk ls hl; rw [List.map_cons, hb9] at k1; rw [hb9] at h3; exact lv_dload hx hb hd h3 k1
  | dload_n k => obtain ⟨t, h1, h2, rfl, rfl, rfl⟩ := ri_pl_s h; obtain ⟨b9, hb9⟩ := ri_Dd (ρ := ρ) (sa := sa) (ad := ad) h2; have h3 := ri_ld_at hl h1; have k1 := kk ls hl; rw [List.map_cons, hb9] at k1; rw [hb9] at h3; exact lv_dload_n hx hb hd rfl h3 k1
  | dstore k => obtain ⟨t, rfl, h2, h3, rfl, rfl⟩ := ri_psd_s h; obtain ⟨b9, hb9⟩ := ri_Dd (ρ := ρ) (sa := sa) (ad := ad) h2; rw [List.map_cons, hb9]; exact lv_dstore hx hb hd hl h3 rfl fun ls' hl' => kk ls' (ri_sto2_has (by rw [hb9]; exact hl'))
  | dstore_n k => obtain ⟨t, rfl, h2, h3, rfl, rfl⟩ := ri_psd_s h; obtain ⟨b9, hb9⟩ := ri_Dd (ρ := ρ) (sa := sa) (ad := ad) h2; rw [List.map_cons, hb9]; exact lv_dstore_n hx hb hd rfl hl h3 rfl fun ls' hl' => kk ls' (ri_sto2_has (by rw [hb9]; exact hl'))
  | dup => obtain ⟨a, r, rfl, ha, rfl, rfl, rfl⟩ := ri_dup_s h; exact lv_dup hx hb hd (ri_cat1 ha) (kk ls hl)
  | dup_x1 => obtain ⟨a, b, r, rfl, ha, hb2, rfl, rfl, rfl⟩ := ri_dup_x1_s h; exact lv_dup_x1 hx hb hd (ri_cat1 ha) (ri_cat1 hb2) (kk ls hl)
  | dup2 => obtain ⟨a, b, r, rfl, ha, hb2, rfl, rfl, rfl⟩ := ri_dup2_s h; exact lv_dup2_11 hx hb hd (ri_cat1 ha) (ri_cat1 hb2) (kk ls hl)
  | pop => obtain ⟨a, rfl, ha, rfl, rfl⟩ := ri_pop_s h; exact lv_pop hx hb hd (ri_cat1 ha) (kk ls hl)
  | _ => exact absurd h (by simp [ri_pure])
end RIPW
end RIP
