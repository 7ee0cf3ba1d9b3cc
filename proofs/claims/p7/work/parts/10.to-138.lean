section
/-! RI: a run of bytecode over closed data (a table of code, values that are constants, arguments or sums of such, references by numbers), and that it is sound for W. This part: values, and the instructions that touch neither heap nor course. -/
section RIA
def ri_gI : Value → Int32
  | .int x => x
  | _ => 0
def ri_gL : Value → Int64
  | .long x => x
  | _ => 0
def ri_gR : Value → Option Nat
  | .ref a => some a
  | _ => none
def ri_b32 (o : Binary) (x y : Int32) : Int32 := match o with
  | .iand => x &&& y
  | .ior => x ||| y
  | .ixor => x ^^^ y
  | .ishl => x <<< (y &&& 31)
  | .ishr => x >>> (y &&& 31)
  | .iushr => (x.toUInt32 >>> (y.toUInt32 &&& Int32.toUInt32 31)).toInt32
  | _ => 0
def ri_b64 (o : Binary) (x y : Int64) : Int64 := match o with
  | .ladd => x + y
  | .lsub => x - y
  | .lmul => x * y
  | .land => x &&& y
  | .lor => x ||| y
  | .lxor => x ^^^ y
  | _ => 0
/-- of what sort an answer is: 0 int, 1 long, 9 none -/
def ri_ko : Binary → Nat
  | .iand => 0 | .ior => 0 | .ixor => 0 | .ishl => 0 | .ishr => 0 | .iushr => 0
  | .ladd => 1 | .lsub => 1 | .lmul => 1 | .land => 1 | .lor => 1 | .lxor => 1
  | .lcmp => 2
  | _ => 9
def ri_cv (ρ : Nat → Int32) (sa : String → Nat → Nat) (ad : Nat → Nat) : Jvm.Term → Value
  | .arg i => .int (ρ i)
  | .int v => .int v
  | .long v => .long v
  | .null => .null
  | .index k => .ref (ad k)
  | .string c i => .ref (sa c i)
  | .add a b => .int (ri_gI (ri_cv ρ sa ad a) + ri_gI (ri_cv ρ sa ad b))
  | .sub a b => .int (ri_gI (ri_cv ρ sa ad a) - ri_gI (ri_cv ρ sa ad b))
  | .mul a b => .int (ri_gI (ri_cv ρ sa ad a) * ri_gI (ri_cv ρ sa ad b))
  | .div a b => .int (ri_gI (ri_cv ρ sa ad a) / ri_gI (ri_cv ρ sa ad b))
  | .rem a b => .int (ri_gI (ri_cv ρ sa ad a) - ri_gI (ri_cv ρ sa ad a) / ri_gI (ri_cv ρ sa ad b) * ri_gI (ri_cv ρ sa ad b))
  | .op2 o a b => match ri_ko o with
    | 0 => .int (ri_b32 o (ri_gI (ri_cv ρ sa ad a)) (ri_gI (ri_cv ρ sa ad b)))
    | 1 => .long (ri_b64 o (ri_gL (ri_cv ρ sa ad a)) (ri_gL (ri_cv ρ sa ad b)))
    | 2 => .int (lg_cmp (ri_gL (ri_cv ρ sa ad a)) (ri_gL (ri_cv ρ sa ad b)))
    | _ => .retAddr 0
  | .op1 o a => match o with
    | .ineg => .int (-ri_gI (ri_cv ρ sa ad a))
    | .i2l => .long (ri_gI (ri_cv ρ sa ad a)).toInt64
    | .l2i => .int (ri_gL (ri_cv ρ sa ad a)).toInt32
    | .bitsD => .double (ri_gL (ri_cv ρ sa ad a)).toUInt64
    | .bitsF => .float (ri_gI (ri_cv ρ sa ad a)).toUInt32
    | _ => .retAddr 0
  | _ => .retAddr 0
/-- 0 int, 1 long, 2 a reference, 3 null, 4 double, 5 float, 9 none -/
def ri_k : Jvm.Term → Nat
  | .arg _ => 0
  | .int _ => 0
  | .long _ => 1
  | .null => 3
  | .index _ => 2
  | .string _ _ => 2
  | .add _ _ => 0
  | .sub _ _ => 0
  | .mul _ _ => 0
  | .div _ _ => 0
  | .rem _ _ => 0
  | .op2 o _ _ => match ri_ko o with
    | 0 => 0
    | 1 => 1
    | 2 => 0
    | _ => 9
  | .op1 o _ => match o with
    | .ineg => 0
    | .i2l => 1
    | .l2i => 0
    | .bitsD => 4
    | .bitsF => 5
    | _ => 9
  | _ => 9
def ri_wide (t : Jvm.Term) : Bool := ri_k t == 1 || ri_k t == 4
section RIB
variable {ρ : Nat → Int32} {sa : String → Nat → Nat} {ad ad' : Nat → Nat}
/-- what a value is, by its sort -/
def ri_is (k : Nat) (v : Value) : Prop := (k = 0 → v = .int (ri_gI v)) ∧ (k = 1 → v = .long (ri_gL v)) ∧ (k = 2 → ∃ a, v = .ref a) ∧ (k = 3 → v = .null) ∧ (k = 4 → ∃ b, v = .double b) ∧ (k = 5 → ∃ b, v = .float b) ∧ (v.category = 2 → k = 1 ∨ k = 4) ∧ ((k = 1 ∨ k = 4) → v.category = 2)
theorem ri_is_i (x : Int32) : ri_is 0 (.int x) := by
  refine ⟨fun _ => rfl, ?_, ?_, ?_, ?_, ?_, ?_, ?_⟩ <;> intro h <;> first | (cases h; done) | (rcases h with h | h <;> cases h)
theorem ri_is_l (x : Int64) : ri_is 1 (.long x) := by
  refine ⟨?_, fun _ => rfl, ?_, ?_, ?_, ?_, fun _ => Or.inl rfl, fun _ => rfl⟩ <;> intro h <;> first | (cases h; done) | (rcases h with h | h <;> cases h)
theorem ri_is_r (x : Nat) : ri_is 2 (.ref x) := by
  refine ⟨?_, ?_, fun _ => ⟨_, rfl⟩, ?_, ?_, ?_, ?_, ?_⟩ <;> intro h <;> first | (cases h; done) | (rcases h with h | h <;> cases h)
theorem ri_is_n : ri_is 3 .null := by
  refine ⟨?_, ?_, ?_, fun _ => rfl, ?_, ?_, ?_, ?_⟩ <;> intro h <;> first | (cases h; done) | (rcases h with h | h <;> cases h)
theorem ri_is_d (x : UInt64) : ri_is 4 (.double x) := by
  refine ⟨?_, ?_, ?_, ?_, fun _ => ⟨_, rfl⟩, ?_, fun _ => Or.inr rfl, fun _ => rfl⟩ <;> intro h <;> first | (cases h; done) | (rcases h with h | h <;> cases h)
theorem ri_is_f (x : UInt32) : ri_is 5 (.float x) := by
  refine ⟨?_, ?_, ?_, ?_, ?_, fun _ => ⟨_, rfl⟩, ?_, ?_⟩ <;> intro h <;> first | (cases h; done) | (rcases h with h | h <;> cases h)
theorem ri_is_9 : ri_is 9 (.retAddr 0) := by
  refine ⟨?_, ?_, ?_, ?_, ?_, ?_, ?_, ?_⟩ <;> intro h <;> first | (cases h; done) | (rcases h with h | h <;> cases h)
theorem ri_cv_is (t : Jvm.Term) : ri_is (ri_k t) (ri_cv ρ sa ad t) := by
  cases t with
  | op2 o a b => cases o <;> first | exact ri_is_i _ | exact ri_is_l _ | exact ri_is_9
  | op1 o a => cases o <;> first | exact ri_is_i _ | exact ri_is_l _ | exact ri_is_d _ | exact ri_is_f _ | exact ri_is_9
  | _ => first | exact ri_is_i _ | exact ri_is_l _ | exact ri_is_r _ | exact ri_is_n | exact ri_is_9
theorem ri_I {t : Jvm.Term} (h : ri_k t = 0) : ri_cv ρ sa ad t = .int (ri_gI (ri_cv ρ sa ad t)) := (ri_cv_is t).1 h
theorem ri_L {t : Jvm.Term} (h : ri_k t = 1) : ri_cv ρ sa ad t = .long (ri_gL (ri_cv ρ sa ad t)) := (ri_cv_is t).2.1 h
theorem ri_R {t : Jvm.Term} (h : ri_k t = 2) : ∃ a, ri_cv ρ sa ad t = .ref a := (ri_cv_is t).2.2.1 h
theorem ri_N {t : Jvm.Term} (h : ri_k t = 3) : ri_cv ρ sa ad t = .null := (ri_cv_is t).2.2.2.1 h
theorem ri_Dd {t : Jvm.Term} (h : ri_k t = 4) : ∃ b, ri_cv ρ sa ad t = .double b := (ri_cv_is t).2.2.2.2.1 h
theorem ri_Ff {t : Jvm.Term} (h : ri_k t = 5) : ∃ b, ri_cv ρ sa ad t = .float b := (ri_cv_is t).2.2.2.2.2.1 h
theorem ri_cat2 {t : Jvm.Term} : (ri_cv ρ sa ad t).category = 2 ↔ ri_wide t = true := by
  have h := ri_cv_is (ρ := ρ) (sa := sa) (ad := ad) t
  unfold ri_wide
  rw [Bool.or_eq_true, beq_iff_eq, beq_iff_eq]
  exact ⟨h.2.2.2.2.2.2.1, h.2.2.2.2.2.2.2⟩
theorem ri_cat1 {t : Jvm.Term} (h : ri_wide t = false) : (ri_cv ρ sa ad t).category = 1 := by
  rcases lv_cat (ri_cv ρ sa ad t) with h1 | h1
  · exact h1
  · rw [ri_cat2.mp h1] at h; cases h
/-- an int or a long doesn't hang on where the cells lie -/
theorem ri_3 {sa' : String → Nat → Nat} {t : Jvm.Term} {P : Prop} (e : ri_cv ρ sa ad t = ri_cv ρ sa' ad' t) : ri_gI (ri_cv ρ sa ad t) = ri_gI (ri_cv ρ sa' ad' t) ∧ ri_gL (ri_cv ρ sa ad t) = ri_gL (ri_cv ρ sa' ad' t) ∧ (P → ri_cv ρ sa ad t = ri_cv ρ sa' ad' t) := ⟨by rw [e], by rw [e], fun _ => e⟩
theorem ri_key {sa' : String → Nat → Nat} (t : Jvm.Term) : ri_gI (ri_cv ρ sa ad t) = ri_gI (ri_cv ρ sa' ad' t) ∧ ri_gL (ri_cv ρ sa ad t) = ri_gL (ri_cv ρ sa' ad' t) ∧ ((∀ k, t ≠ .index k) ∧ (∀ c i, t ≠ .string c i) → ri_cv ρ sa ad t = ri_cv ρ sa' ad' t) := by
  induction t with
  | index k => exact ⟨rfl, rfl, fun h => absurd rfl (h.1 k)⟩
  | string c i => exact ⟨rfl, rfl, fun h => absurd rfl (h.2 c i)⟩
  | add a b ha hb => exact ri_3 (by simp only [ri_cv]; rw [ha.1, hb.1])
  | sub a b ha hb => exact ri_3 (by simp only [ri_cv]; rw [ha.1, hb.1])
  | mul a b ha hb => exact ri_3 (by simp only [ri_cv]; rw [ha.1, hb.1])
  | div a b ha hb => exact ri_3 (by simp only [ri_cv]; rw [ha.1, hb.1])
  | rem a b ha hb => exact ri_3 (by simp only [ri_cv]; rw [ha.1, hb.1])
  | op2 o a b ha hb => exact ri_3 (by simp only [ri_cv]; rw [ha.1, hb.1, ha.2.1, hb.2.1])
  | op1 o a ha => exact ri_3 (by simp only [ri_cv]; rw [ha.1, ha.2.1])
  | _ => exact ri_3 rfl
theorem ri_num (t : Jvm.Term) (h : ∀ k, t ≠ .index k) : ri_cv ρ sa ad t = ri_cv ρ sa ad' t := by
  by_cases hs : ∃ c i, t = .string c i
  · obtain ⟨c, i, rfl⟩ := hs
    rfl
  · exact (ri_key t).2.2 ⟨h, fun c i e => hs ⟨c, i, e⟩⟩
end RIB
/-- a constant, written by its number -/
def ri_cn : Nat → Jvm.Term
  | 0 => .int 0
  | k + 1 => .int (Int32.ofNat (k + 1))
def ri_ci (x : Int32) : Jvm.Term := ri_cn x.toBitVec.toNat
def ri_cnL : Nat → Jvm.Term
  | 0 => .long 0
  | k + 1 => .long (Int64.ofNat (k + 1))
def ri_cl (x : Int64) : Jvm.Term := ri_cnL x.toBitVec.toNat
theorem ri_ci_eq (x : Int32) : ri_ci x = .int x := by
  have h : ∀ n, ri_cn n = .int (Int32.ofNat n) := fun n => by cases n <;> rfl
  unfold ri_ci
  rw [h]
  congr 1
  apply Int32.toBitVec_inj.mp
  apply BitVec.eq_of_toNat_eq
  simp [Int32.ofNat]
theorem ri_cl_eq (x : Int64) : ri_cl x = .long x := by
  have h : ∀ n, ri_cnL n = .long (Int64.ofNat n) := fun n => by cases n <;> rfl
  unfold ri_cl
  rw [h]
  congr 1
  apply Int64.toBitVec_inj.mp
  apply BitVec.eq_of_toNat_eq
  simp [Int64.ofNat]
/-- an operation: of constants a constant -/
def ri_bin (f : Int32 → Int32 → Int32) (t a b : Jvm.Term) : Jvm.Term := match a, b with
  | .int x, .int y => ri_ci (f x y)
  | _, _ => t
def ri_binL (f : Int64 → Int64 → Int64) (t a b : Jvm.Term) : Jvm.Term := match a, b with
  | .long x, .long y => ri_cl (f x y)
  | _, _ => t
def ri_binC (t a b : Jvm.Term) : Jvm.Term := match a, b with
  | .long x, .long y => ri_ci (lg_cmp x y)
  | _, _ => t
def ri_un (f : Int32 → Int32) (t a : Jvm.Term) : Jvm.Term := match a with
  | .int x => ri_ci (f x)
  | _ => t
def ri_unIL (f : Int32 → Int64) (t a : Jvm.Term) : Jvm.Term := match a with
  | .int x => ri_cl (f x)
  | _ => t
def ri_unLI (f : Int64 → Int32) (t a : Jvm.Term) : Jvm.Term := match a with
  | .long x => ri_ci (f x)
  | _ => t
section RIC
variable {ρ : Nat → Int32} {sa : String → Nat → Nat} {ad : Nat → Nat}
theorem ri_bin_cv {f : Int32 → Int32 → Int32} {t a b : Jvm.Term} (h : ri_cv ρ sa ad t = .int (f (ri_gI (ri_cv ρ sa ad a)) (ri_gI (ri_cv ρ sa ad b)))) : ri_cv ρ sa ad (ri_bin f t a b) = .int (f (ri_gI (ri_cv ρ sa ad a)) (ri_gI (ri_cv ρ sa ad b))) := by
  unfold ri_bin
  split
  · rw [ri_ci_eq]; rfl
  · exact h
theorem ri_binL_cv {f : Int64 → Int64 → Int64} {t a b : Jvm.Term} (h : ri_cv ρ sa ad t = .long (f (ri_gL (ri_cv ρ sa ad a)) (ri_gL (ri_cv ρ sa ad b)))) : ri_cv ρ sa ad (ri_binL f t a b) = .long (f (ri_gL (ri_cv ρ sa ad a)) (ri_gL (ri_cv ρ sa ad b))) := by
  unfold ri_binL
  split
  · rw [ri_cl_eq]; rfl
  · exact h
theorem ri_binC_cv {t a b : Jvm.Term} (h : ri_cv ρ sa ad t = .int (lg_cmp (ri_gL (ri_cv ρ sa ad a)) (ri_gL (ri_cv ρ sa ad b)))) : ri_cv ρ sa ad (ri_binC t a b) = .int (lg_cmp (ri_gL (ri_cv ρ sa ad a)) (ri_gL (ri_cv ρ sa ad b))) := by
  unfold ri_binC
  split
  · rw [ri_ci_eq]; rfl
  · exact h
theorem ri_un_cv {f : Int32 → Int32} {t a : Jvm.Term} (h : ri_cv ρ sa ad t = .int (f (ri_gI (ri_cv ρ sa ad a)))) : ri_cv ρ sa ad (ri_un f t a) = .int (f (ri_gI (ri_cv ρ sa ad a))) := by
  unfold ri_un
  split
  · rw [ri_ci_eq]; rfl
  · exact h
theorem ri_unIL_cv {f : Int32 → Int64} {t a : Jvm.Term} (h : ri_cv ρ sa ad t = .long (f (ri_gI (ri_cv ρ sa ad a)))) : ri_cv ρ sa ad (ri_unIL f t a) = .long (f (ri_gI (ri_cv ρ sa ad a))) := by
  unfold ri_unIL
  split
  · rw [ri_cl_eq]; rfl
  · exact h
theorem ri_unLI_cv {f : Int64 → Int32} {t a : Jvm.Term} (h : ri_cv ρ sa ad t = .int (f (ri_gL (ri_cv ρ sa ad a)))) : ri_cv ρ sa ad (ri_unLI f t a) = .int (f (ri_gL (ri_cv ρ sa ad a))) := by
  unfold ri_unLI
  split
  · rw [ri_ci_eq]; rfl
  · exact h
end RIC
/-- the locals: a place, its value -/
def ri_ld (lv : List (Nat × Jvm.Term)) (i : Nat) : Option Jvm.Term := (lv.find? (fun q => q.1 == i)).map (fun q => q.2)
theorem ri_ld_mem {lv : List (Nat × Jvm.Term)} {i : Nat} {t : Jvm.Term} (h : ri_ld lv i = some t) : (i, t) ∈ lv := by
  unfold ri_ld at h
  obtain ⟨q, hq, rfl⟩ := Option.map_eq_some_iff.mp h
  have h1 := List.mem_of_find?_eq_some hq
  have h2 := List.find?_some hq
  have h3 : q.1 = i := by simpa using h2
  rw [← h3]
  exact h1
def ri_sto (lv : List (Nat × Jvm.Term)) (i : Nat) (t : Jvm.Term) : List (Nat × Jvm.Term) := (i, t) :: lv.filter (fun q => !(q.1 == i) && !(q.1 + 1 == i && ri_wide q.2))
def ri_sto2 (lv : List (Nat × Jvm.Term)) (i : Nat) (t : Jvm.Term) : List (Nat × Jvm.Term) := (i, t) :: lv.filter (fun q => !(q.1 == i) && (!(q.1 == i + 1) && !(q.1 + 1 == i && ri_wide q.2)))
def ri_lc (ρ : Nat → Int32) (sa : String → Nat → Nat) (ad : Nat → Nat) (lv : List (Nat × Jvm.Term)) : List (Nat × Value) := lv.map (fun q => (q.1, ri_cv ρ sa ad q.2))
section RID
variable {ρ : Nat → Int32} {sa : String → Nat → Nat} {ad : Nat → Nat} {lv : List (Nat × Jvm.Term)} {ls : Array Slot} {nL : Nat}
theorem ri_has_sub {l l' : List (Nat × Value)} (h : lv_has ls nL l) (hs : ∀ q ∈ l', q ∈ l) : lv_has ls nL l' := ⟨h.1, h.2.1, fun q hq => h.2.2 q (hs q hq)⟩
theorem ri_sto_has {i : Nat} {t : Jvm.Term} (h : lv_has ls nL ((i, ri_cv ρ sa ad t) :: (ri_lc ρ sa ad lv).filter (fun q => !(q.1 == i) && !(q.1 + 1 == i && q.2.category == 2)))) : lv_has ls nL (ri_lc ρ sa ad (ri_sto lv i t)) := by
  refine ri_has_sub h fun q hq => ?_
  obtain ⟨z, hz, rfl⟩ := List.mem_map.mp hq
  rcases List.mem_cons.mp hz with rfl | hz
  · exact List.mem_cons_self
  · obtain ⟨h1, h2⟩ := List.mem_filter.mp hz
    refine List.mem_cons_of_mem _ (List.mem_filter.mpr ⟨List.mem_map.mpr ⟨z, h1, rfl⟩, ?_⟩)
    have e : ((ri_cv ρ sa ad z.2).category == 2) = ri_wide z.2 := by
      rw [Bool.eq_iff_iff, beq_iff_eq]; exact ri_cat2
    show (!(z.1 == i) && !(z.1 + 1 == i && (ri_cv ρ sa ad z.2).category == 2)) = true
    rw [e]; exact h2
theorem ri_sto2_has {i : Nat} {t : Jvm.Term} (h : lv_has ls nL ((i, ri_cv ρ sa ad t) :: (ri_lc ρ sa ad lv).filter (fun q => !(q.1 == i) && (!(q.1 == i + 1) && !(q.1 + 1 == i && q.2.category == 2))))) : lv_has ls nL (ri_lc ρ sa ad (ri_sto2 lv i t)) := by
  refine ri_has_sub h fun q hq => ?_
  obtain ⟨z, hz, rfl⟩ := List.mem_map.mp hq
  rcases List.mem_cons.mp hz with rfl | hz
  · exact List.mem_cons_self
  · obtain ⟨h1, h2⟩ := List.mem_filter.mp hz
    refine List.mem_cons_of_mem _ (List.mem_filter.mpr ⟨List.mem_map.mpr ⟨z, h1, rfl⟩, ?_⟩)
    have e : ((ri_cv ρ sa ad z.2).category == 2) = ri_wide z.2 := by
      rw [Bool.eq_iff_iff, beq_iff_eq]; exact ri_cat2
    show (!(z.1 == i) && (!(z.1 == i + 1) && !(z.1 + 1 == i && (ri_cv ρ sa ad z.2).category == 2))) = true
    rw [e]; exact h2
theorem ri_ld_at {i : Nat} {t : Jvm.Term} (h : lv_has ls nL (ri_lc ρ sa ad lv)) (hl : ri_ld lv i = some t) : ls[i]? = some (.val (ri_cv ρ sa ad t)) :=
  h.2.2 (i, ri_cv ρ sa ad t) (List.mem_map.mpr ⟨(i, t), ri_ld_mem hl, rfl⟩)
end RID
end RIA
end
section
/-! RI: the instructions that touch neither heap nor course -/
section RIP
def ri_pl (len kk : Nat) (lv : List (Nat × Jvm.Term)) (k : Nat) (st : List Jvm.Term) : Option (Nat × List (Nat × Jvm.Term) × List Jvm.Term) := match ri_ld lv k with
  | some t => if ri_k t = kk then some (len, lv, t :: st) else none
  | none => none
def ri_pa (len : Nat) (lv : List (Nat × Jvm.Term)) (k : Nat) (st : List Jvm.Term) : Option (Nat × List (Nat × Jvm.Term) × List Jvm.Term) := match ri_ld lv k with
  | some t => if ri_k t = 2 ∨ ri_k t = 3 then some (len, lv, t :: st) else none
  | none => none
def ri_ps (len kk nL : Nat) (lv : List (Nat × Jvm.Term)) (k : Nat) (st : List Jvm.Term) : Option (Nat × List (Nat × Jvm.Term) × List Jvm.Term) := match st with
  | t :: r => if ri_k t = kk ∧ k < nL then some (len, ri_sto lv k t, r) else none
  | _ => none
def ri_psa (len nL : Nat) (lv : List (Nat × Jvm.Term)) (k : Nat) (st : List Jvm.Term) : Option (Nat × List (Nat × Jvm.Term) × List Jvm.Term) := match st with
  | t :: r => if (ri_k t = 2 ∨ ri_k t = 3) ∧ k < nL then some (len, ri_sto lv k t, r) else none
  | _ => none
def ri_ps2 (len nL : Nat) (lv : List (Nat × Jvm.Term)) (k : Nat) (st : List Jvm.Term) : Option (Nat × List (Nat × Jvm.Term) × List Jvm.Term) := match st with
  | t :: r => if ri_k t = 1 ∧ k + 1 < nL then some (len, ri_sto2 lv k t, r) else none
  | _ => none
def ri_s1 (kk : Nat) (g : Jvm.Term → Jvm.Term) (lv : List (Nat × Jvm.Term)) (st : List Jvm.Term) : Option (Nat × List (Nat × Jvm.Term) × List Jvm.Term) := match st with
  | a :: r => if ri_k a = kk then some (1, lv, g a :: r) else none
  | _ => none
def ri_s2 (kk : Nat) (g : Jvm.Term → Jvm.Term → Jvm.Term) (lv : List (Nat × Jvm.Term)) (st : List Jvm.Term) : Option (Nat × List (Nat × Jvm.Term) × List Jvm.Term) := match st with
  | b :: a :: r => if ri_k a = kk ∧ ri_k b = kk then some (1, lv, g a b :: r) else none
  | _ => none
/-- a division: by a constant that isn't 0 -/
def ri_nz : Jvm.Term → Bool
  | .int y => !(y == 0)
  | _ => false
def ri_sd (g : Jvm.Term → Jvm.Term → Jvm.Term) (lv : List (Nat × Jvm.Term)) (st : List Jvm.Term) : Option (Nat × List (Nat × Jvm.Term) × List Jvm.Term) := match st with
  | b :: a :: r => if ri_k a = 0 ∧ ri_nz b = true then some (1, lv, g a b :: r) else none
  | _ => none
def ri_dup (lv : List (Nat × Jvm.Term)) (st : List Jvm.Term) : Option (Nat × List (Nat × Jvm.Term) × List Jvm.Term) := match st with
  | a :: r => if ri_wide a = false then some (1, lv, a :: a :: r) else none
  | _ => none
def ri_dup_x1 (lv : List (Nat × Jvm.Term)) (st : List Jvm.Term) : Option (Nat × List (Nat × Jvm.Term) × List Jvm.Term) := match st with
  | a :: b :: r => if ri_wide a = false ∧ ri_wide b = false then some (1, lv, a :: b :: a :: r) else none
  | _ => none
def ri_dup2 (lv : List (Nat × Jvm.Term)) (st : List Jvm.Term) : Option (Nat × List (Nat × Jvm.Term) × List Jvm.Term) := match st with
  | a :: b :: r => if ri_wide a = false ∧ ri_wide b = false then some (1, lv, a :: b :: a :: b :: r) else none
  | _ => none
def ri_pop (lv : List (Nat × Jvm.Term)) (st : List Jvm.Term) : Option (Nat × List (Nat × Jvm.Term) × List Jvm.Term) := match st with
  | a :: r => if ri_wide a = false then some (1, lv, r) else none
  | _ => none
def ri_inc (nL : Nat) (lv : List (Nat × Jvm.Term)) (k : Nat) (n : Int) (st : List Jvm.Term) : Option (Nat × List (Nat × Jvm.Term) × List Jvm.Term) := match ri_ld lv k with
  | some t => if ri_k t = 0 ∧ k < nL then some (3, ri_sto lv k (ri_bin (fun x y => x + y) (.add t (.int (Int32.ofInt n))) t (.int (Int32.ofInt n))), st) else none
  | none => none
/-- doubles and floats that are constants -/
def ri_fD (b : UInt64) : Jvm.Term := .op1 .bitsD (ri_cl b.toInt64)
def ri_fF (b : UInt32) : Jvm.Term := .op1 .bitsF (ri_ci b.toInt32)
def ri_s1F (g : UInt32 → UInt64) (lv : List (Nat × Jvm.Term)) (st : List Jvm.Term) : Option (Nat × List (Nat × Jvm.Term) × List Jvm.Term) := match st with
  | .op1 .bitsF (.int x) :: r => if g x.toUInt32 &&& 0x7fffffffffffffff ≤ 0x7ff0000000000000 then some (1, lv, ri_fD (g x.toUInt32) :: r) else none
  | _ => none
def ri_s2F (g : UInt32 → UInt32 → UInt32) (lv : List (Nat × Jvm.Term)) (st : List Jvm.Term) : Option (Nat × List (Nat × Jvm.Term) × List Jvm.Term) := match st with
  | .op1 .bitsF (.int y) :: .op1 .bitsF (.int x) :: r => if g x.toUInt32 y.toUInt32 &&& 0x7fffffff ≤ 0x7f800000 then some (1, lv, ri_fF (g x.toUInt32 y.toUInt32) :: r) else none
  | _ => none
def ri_s2D (g : UInt64 → UInt64 → UInt64) (lv : List (Nat × Jvm.Term)) (st : List Jvm.Term) : Option (Nat × List (Nat × Jvm.Term) × List Jvm.Term) := match st with
  | .op1 .bitsD (.long y) :: .op1 .bitsD (.long x) :: r => if g x.toUInt64 y.toUInt64 &&& 0x7fffffffffffffff ≤ 0x7ff0000000000000 then some (1, lv, ri_fD (g x.toUInt64 y.toUInt64) :: r) else none
  | _ => none
def ri_sI (g : Int32 → Jvm.Term) (lv : List (Nat × Jvm.Term)) (st : List Jvm.Term) : Option (Nat × List (Nat × Jvm.Term) × List Jvm.Term) := match st with
  | .int x :: r => some (1, lv, g x :: r)
  | _ => none
def ri_sC (op : CmpOp) (lv : List (Nat × Jvm.Term)) (st : List Jvm.Term) : Option (Nat × List (Nat × Jvm.Term) × List Jvm.Term) := match st with
  | .op1 .bitsD (.long y) :: .op1 .bitsD (.long x) :: r => some (1, lv, ri_ci (Op.cmpValue (FP.dcmp x.toUInt64 y.toUInt64) op) :: r)
  | _ => none
def ri_psd (len nL : Nat) (lv : List (Nat × Jvm.Term)) (k : Nat) (st : List Jvm.Term) : Option (Nat × List (Nat × Jvm.Term) × List Jvm.Term) := match st with
  | t :: r => if ri_k t = 4 ∧ k + 1 < nL then some (len, ri_sto2 lv k t, r) else none
  | _ => none
def ri_pure (nL : Nat) (i : Instr) (lv : List (Nat × Jvm.Term)) (st : List Jvm.Term) : Option (Nat × List (Nat × Jvm.Term) × List Jvm.Term) := match i with
  | .iconst n => some (1, lv, ri_ci (Int32.ofInt n) :: st)
  | .bipush n => some (2, lv, ri_ci (Int8.ofInt n).toInt32 :: st)
  | .sipush n => some (3, lv, ri_ci (Int16.ofInt n).toInt32 :: st)
  | .lconst n => some (1, lv, ri_cl (Int64.ofNat n.val) :: st)
  | .aconst_null => some (1, lv, .null :: st)
  | .iload k => ri_pl 2 0 lv k st
  | .iload_n k => ri_pl 1 0 lv k.val st
  | .lload k => ri_pl 2 1 lv k st
  | .lload_n k => ri_pl 1 1 lv k.val st
  | .aload k => ri_pa 2 lv k st
  | .aload_n k => ri_pa 1 lv k.val st
  | .istore k => ri_ps 2 0 nL lv k st
  | .istore_n k => ri_ps 1 0 nL lv k.val st
  | .lstore k => ri_ps2 2 nL lv k st
  | .lstore_n k => ri_ps2 1 nL lv k.val st
  | .astore k => ri_psa 2 nL lv k st
  | .astore_n k => ri_psa 1 nL lv k.val st
  | .iinc k n => ri_inc nL lv k n st
  | .iadd => ri_s2 0 (fun a b => ri_bin (fun x y => x + y) (.add a b) a b) lv st
  | .isub => ri_s2 0 (fun a b => ri_bin (fun x y => x - y) (.sub a b) a b) lv st
  | .imul => ri_s2 0 (fun a b => ri_bin (fun x y => x * y) (.mul a b) a b) lv st
  | .idiv => ri_sd (fun a b => ri_bin (fun x y => x / y) (.div a b) a b) lv st
  | .irem => ri_sd (fun a b => ri_bin (fun x y => x - x / y * y) (.rem a b) a b) lv st
  | .iand => ri_s2 0 (fun a b => ri_bin (fun x y => x &&& y) (.op2 .iand a b) a b) lv st
  | .ior => ri_s2 0 (fun a b => ri_bin (fun x y => x ||| y) (.op2 .ior a b) a b) lv st
  | .ixor => ri_s2 0 (fun a b => ri_bin (fun x y => x ^^^ y) (.op2 .ixor a b) a b) lv st
  | .ishl => ri_s2 0 (fun a b => ri_bin (fun x y => x <<< (y &&& 31)) (.op2 .ishl a b) a b) lv st
  | .ishr => ri_s2 0 (fun a b => ri_bin (fun x y => x >>> (y &&& 31)) (.op2 .ishr a b) a b) lv st
  | .iushr => ri_s2 0 (fun a b => ri_bin (fun x y => (x.toUInt32 >>> (y.toUInt32 &&& Int32.toUInt32 31)).toInt32) (.op2 .iushr a b) a b) lv st
  | .ineg => ri_s1 0 (fun a => ri_un (fun x => -x) (.op1 .ineg a) a) lv st
  | .i2l => ri_s1 0 (fun a => ri_unIL (fun x => x.toInt64) (.op1 .i2l a) a) lv st
  | .l2i => ri_s1 1 (fun a => ri_unLI (fun x => x.toInt32) (.op1 .l2i a) a) lv st
  | .ladd => ri_s2 1 (fun a b => ri_binL (fun x y => x + y) (.op2 .ladd a b) a b) lv st
  | .lsub => ri_s2 1 (fun a b => ri_binL (fun x y => x - y) (.op2 .lsub a b) a b) lv st
  | .lcmp => ri_s2 1 (fun a b => ri_binC (.op2 .lcmp a b) a b) lv st
  | .i2d => ri_sI (fun x => ri_fD (FP.i2d x)) lv st
  | .i2f => ri_sI (fun x => ri_fF (FP.i2f x)) lv st
  | .ddiv => ri_s2D FP.ddiv lv st
  | .fdiv => ri_s2F FP.fdiv lv st
  | .fsub => ri_s2F FP.fsub lv st
  | .f2d => ri_s1F FP.f2d lv st
  | .fconst 0 => some (1, lv, ri_fF FP.fconst0 :: st)
  | .fconst 1 => some (1, lv, ri_fF FP.fconst1 :: st)
  | .dconst 0 => some (1, lv, ri_fD FP.dconst0 :: st)
  | .dcmp op => ri_sC op lv st
  | .dload k => ri_pl 2 4 lv k st
  | .dload_n k => ri_pl 1 4 lv k.val st
  | .dstore k => ri_psd 2 nL lv k st
  | .dstore_n k => ri_psd 1 nL lv k.val st
  | .dup => ri_dup lv st
  | .dup_x1 => ri_dup_x1 lv st
  | .dup2 => ri_dup2 lv st
  | .pop => ri_pop lv st
  | _ => none
section RIPS
variable {ρ : Nat → Int32} {sa : String → Nat → Nat} {ad : Nat → Nat} {lv lv' : List (Nat × Jvm.Term)} {st st' : List Jvm.Term} {len len' kk nL k : Nat}
theorem ri_pl_s (h : ri_pl len kk lv k st = some (len', lv', st')) : ∃ t, ri_ld lv k = some t ∧ ri_k t = kk ∧ len' = len ∧ lv' = lv ∧ st' = t :: st := by
  unfold ri_pl at h
  split at h
  · next t ht =>
    split at h
    · next hk => cases h; exact ⟨t, ht, hk, rfl, rfl, rfl⟩
    · cases h
  · cases h
theorem ri_pa_s (h : ri_pa len lv k st = some (len', lv', st')) : ∃ t, ri_ld lv k = some t ∧ (ri_k t = 2 ∨ ri_k t = 3) ∧ len' = len ∧ lv' = lv ∧ st' = t :: st := by
  unfold ri_pa at h
  split at h
  · next t ht =>
    split at h
    · next hk => cases h; exact ⟨t, ht, hk, rfl, rfl, rfl⟩
    · cases h
  · cases h
theorem ri_ps_s (h : ri_ps len kk nL lv k st = some (len', lv', st')) : ∃ t, st = t :: st' ∧ ri_k t = kk ∧ k < nL ∧ len' = len ∧ lv' = ri_sto lv k t := by
  unfold ri_ps at h
  split at h
  · next t r =>
    split at h
    · next hk => cases h; exact ⟨t, rfl, hk.1, hk.2, rfl, rfl⟩
    · cases h
  · cases h
theorem ri_psa_s (h : ri_psa len nL lv k st = some (len', lv', st')) : ∃ t, st = t :: st' ∧ (ri_k t = 2 ∨ ri_k t = 3) ∧ k < nL ∧ len' = len ∧ lv' = ri_sto lv k t := by
  unfold ri_psa at h
  split at h
  · next t r =>
    split at h
    · next hk => cases h; exact ⟨t, rfl, hk.1, hk.2, rfl, rfl⟩
    · cases h
  · cases h
theorem ri_ps2_s (h : ri_ps2 len nL lv k st = some (len', lv', st')) : ∃ t, st = t :: st' ∧ ri_k t = 1 ∧ k + 1 < nL ∧ len' = len ∧ lv' = ri_sto2 lv k t := by
  unfold ri_ps2 at h
  split at h
  · next t r =>
    split at h
    · next hk => cases h; exact ⟨t, rfl, hk.1, hk.2, rfl, rfl⟩
    · cases h
  · cases h
theorem ri_s1_s {g : Jvm.Term → Jvm.Term} (h : ri_s1 kk g lv st = some (len', lv', st')) : ∃ a r, st = a :: r ∧ ri_k a = kk ∧ len' = 1 ∧ lv' = lv ∧ st' = g a :: r := by
  unfold ri_s1 at h
  split at h
  · next a r =>
    split at h
    · next hk => cases h; exact ⟨a, r, rfl, hk, rfl, rfl, rfl⟩
    · cases h
  · cases h
theorem ri_s2_s {g : Jvm.Term → Jvm.Term → Jvm.Term} (h : ri_s2 kk g lv st = some (len', lv', st')) : ∃ a b r, st = b :: a :: r ∧ ri_k a = kk ∧ ri_k b = kk ∧ len' = 1 ∧ lv' = lv ∧ st' = g a b :: r := by
  unfold ri_s2 at h
  split at h
  · next b a r =>
    split at h
    · next hk => cases h; exact ⟨a, b, r, rfl, hk.1, hk.2, rfl, rfl, rfl⟩
    · cases h
  · cases h
theorem ri_nz_s {b : Jvm.Term} (h : ri_nz b = true) : ∃ y : Int32, b = .int y ∧ ¬ y = 0 := by
  unfold ri_nz at h
  split at h
  · next y => exact ⟨y, rfl, fun e => by rw [e] at h; exact absurd h (by decide)⟩
  · cases h
theorem ri_sd_s {g : Jvm.Term → Jvm.Term → Jvm.Term} (h : ri_sd g lv st = some (len', lv', st')) : ∃ a b r, st = b :: a :: r ∧ ri_k a = 0 ∧ ri_nz b = true ∧ len' = 1 ∧ lv' = lv ∧ st' = g a b :: r := by
  unfold ri_sd at h
  split at h
  · next b a r =>
    split at h
    · next hk => cases h; exact ⟨a, b, r, rfl, hk.1, hk.2, rfl, rfl, rfl⟩
    · cases h
  · cases h
theorem ri_dup_s (h : ri_dup lv st = some (len', lv', st')) : ∃ a r, st = a :: r ∧ ri_wide a = false ∧ len' = 1 ∧ lv' = lv ∧ st' = a :: a :: r := by
  unfold ri_dup at h
  split at h
  · next a r =>
    split at h
    · next hk => cases h; exact ⟨a, r, rfl, hk, rfl, rfl, rfl⟩
    · cases h
  · cases h
theorem ri_pop_s (h : ri_pop lv st = some (len', lv', st')) : ∃ a, st = a :: st' ∧ ri_wide a = false ∧ len' = 1 ∧ lv' = lv := by
  unfold ri_pop at h
  split at h
  · next a r =>
    split at h
    · next hk => cases h; exact ⟨a, rfl, hk, rfl, rfl⟩
    · cases h
  · cases h
theorem ri_dup_x1_s (h : ri_dup_x1 lv st = some (len', lv', st')) : ∃ a b r, st = a :: b :: r ∧ ri_wide a = false ∧ ri_wide b = false ∧ len' = 1 ∧ lv' = lv ∧ st' = a :: b :: a :: r := by
  unfold ri_dup_x1 at h
  split at h
  · next a b r =>
    split at h
    · next hk => cases h; exact ⟨a, b, r, rfl, hk.1, hk.2, rfl, rfl, rfl⟩
    · cases h
  · cases h
theorem ri_dup2_s (h : ri_dup2 lv st = some (len', lv', st')) : ∃ a b r, st = a :: b :: r ∧ ri_wide a = false ∧ ri_wide b = false ∧ len' = 1 ∧ lv' = lv ∧ st' = a :: b :: a :: b :: r := by
  unfold ri_dup2 at h
  split at h
  · next a b r =>
    split at h
    · next hk => cases h; exact ⟨a, b, r, rfl, hk.1, hk.2, rfl, rfl, rfl⟩
    · cases h
  · cases h
theorem ri_inc_s {n : Int} (h : ri_inc nL lv k n st = some (len', lv', st')) : ∃ t, ri_ld lv k = some t ∧ ri_k t = 0 ∧ k < nL ∧ len' = 3 ∧ lv' = ri_sto lv k (ri_bin (fun x y => x + y) (.add t (.int (Int32.ofInt n))) t (.int (Int32.ofInt n))) ∧ st' = st := by
  unfold ri_inc at h
  split at h
  · next t ht =>
    split at h
    · next hk => cases h; exact ⟨t, ht, hk.1, hk.2, rfl, rfl, rfl⟩
    · cases h
  · cases h
end RIPS
section RIPF
variable {ρ : Nat → Int32} {sa : String → Nat → Nat} {ad : Nat → Nat} {lv lv' : List (Nat × Jvm.Term)} {st st' : List Jvm.Term} {len len' kk nL k : Nat}
theorem ri_fD_cv {b : UInt64} : ri_cv ρ sa ad (ri_fD b) = .double b := by
  show Value.double (ri_gL (ri_cv ρ sa ad (ri_cl b.toInt64))).toUInt64 = .double b
  rw [ri_cl_eq]
  exact congrArg Value.double (UInt64.toUInt64_toInt64 b)
theorem ri_fF_cv {b : UInt32} : ri_cv ρ sa ad (ri_fF b) = .float b := by
  show Value.float (ri_gI (ri_cv ρ sa ad (ri_ci b.toInt32))).toUInt32 = .float b
  rw [ri_ci_eq]
  exact congrArg Value.float (UInt32.toUInt32_toInt32 b)
theorem ri_s1F_s {g : UInt32 → UInt64} (h : ri_s1F g lv st = some (len', lv', st')) : ∃ (x : Int32) (r : List Jvm.Term), st = .op1 .bitsF (.int x) :: r ∧ vf_n64 (g x.toUInt32) ∧ len' = 1 ∧ lv' = lv ∧ st' = ri_fD (g x.toUInt32) :: r := by
  unfold ri_s1F at h
  split at h
  · next x r =>
    split at h
    · next hk => cases h; exact ⟨x, r, rfl, hk, rfl, rfl, rfl⟩
    · cases h
  · cases h
theorem ri_s2F_s {g : UInt32 → UInt32 → UInt32} (h : ri_s2F g lv st = some (len', lv', st')) : ∃ (x y : Int32) (r : List Jvm.Term), st = .op1 .bitsF (.int y) :: .op1 .bitsF (.int x) :: r ∧ vf_n32 (g x.toUInt32 y.toUInt32) ∧ len' = 1 ∧ lv' = lv ∧ st' = ri_fF (g x.toUInt32 y.toUInt32) :: r := by
  unfold ri_s2F at h
  split at h
  · next y x r =>
    split at h
    · next hk => cases h; exact ⟨x, y, r, rfl, hk, rfl, rfl, rfl⟩
    · cases h
  · cases h
theorem ri_s2D_s {g : UInt64 → UInt64 → UInt64} (h : ri_s2D g lv st = some (len', lv', st')) : ∃ (x y : Int64) (r : List Jvm.Term), st = .op1 .bitsD (.long y) :: .op1 .bitsD (.long x) :: r ∧ vf_n64 (g x.toUInt64 y.toUInt64) ∧ len' = 1 ∧ lv' = lv ∧ st' = ri_fD (g x.toUInt64 y.toUInt64) :: r := by
  unfold ri_s2D at h
  split at h
  · next y x r =>
    split at h
    · next hk => cases h; exact ⟨x, y, r, rfl, hk, rfl, rfl, rfl⟩
    · cases h
  · cases h
theorem ri_sI_s {g : Int32 → Jvm.Term} (h : ri_sI g lv st = some (len', lv', st')) : ∃ (x : Int32) (r : List Jvm.Term), st = .int x :: r ∧ len' = 1 ∧ lv' = lv ∧ st' = g x :: r := by
  unfold ri_sI at h
  split at h
  · next x r => cases h; exact ⟨x, r, rfl, rfl, rfl, rfl⟩
  · cases h
theorem ri_sC_s {op : CmpOp} (h : ri_sC op lv st = some (len', lv', st')) : ∃ (x y : Int64) (r : List Jvm.Term), st = .op1 .bitsD (.long y) :: .op1 .bitsD (.long x) :: r ∧ len' = 1 ∧ lv' = lv ∧ st' = ri_ci (Op.cmpValue (FP.dcmp x.toUInt64 y.toUInt64) op) :: r := by
  unfold ri_sC at h
  split at h
  · next y x r => cases h; exact ⟨x, y, r, rfl, rfl, rfl, rfl⟩
  · cases h
theorem ri_psd_s (h : ri_psd len nL lv k st = some (len', lv', st')) : ∃ t, st = t :: st' ∧ ri_k t = 4 ∧ k + 1 < nL ∧ len' = len ∧ lv' = ri_sto2 lv k t := by
  unfold ri_psd at h
  split at h
  · next t r =>
    split at h
    · next hk => cases h; exact ⟨t, rfl, hk.1, hk.2, rfl, rfl⟩
    · cases h
  · cases h
end RIPF
section RIPW
variable {p : Program} {l : Launch} {e : Env} {R : Room} {s : State} {m : MethodId} {args : Array Value} {below : List Frame} {meth : Method} {c : Code} {H : Heap} {locs : List Loc} {cells slots : Nat} {Q : State → Prop}
variable {ρ : Nat → Int32} {sa : String → Nat → Nat} {ad : Nat → Nat} {lv lv' : List (Nat × Jvm.Term)} {st st' : List Jvm.Term} {len nL pc : Nat} {ls : Array Slot} {cc : ByteArray}
set_option maxHeartbeats 4000000 in
theorem ri_pure_W {i : Instr} (hx : p.tables.exec = Jvm.exec) (hb : c.code = cc) (h : ri_pure nL i lv st = some (len, lv', st')) (hd : decode cc pc = .ok (i, len)) (hl : lv_has ls nL (ri_lc ρ sa ad lv))
    (kk : ∀ ls' : Array Slot, lv_has ls' nL (ri_lc ρ sa ad lv') → W p l e R s m args below meth c H locs cells slots Q (F0 m (pc + len) ls' (st'.map (ri_cv ρ sa ad)))) :
    W p l e R s m args below meth c H locs cells slots Q (F0 m pc ls (st.map (ri_cv ρ sa ad))) := by
  cases i with
  | iconst n => cases h; have k1 := kk ls hl; rw [List.map_cons, ri_ci_eq] at k1; exact lv_iconst hx hb hd rfl k1
  | bipush n => cases h; have k1 := kk ls hl; rw [List.map_cons, ri_ci_eq] at k1; exact lv_bipush hx hb hd rfl k1
  | sipush n => cases h; have k1 := kk ls hl; rw [List.map_cons, ri_ci_eq] at k1; exact lv_sipush hx hb hd rfl k1
  | lconst n => cases h; have k1 := kk ls hl; rw [List.map_cons, ri_cl_eq] at k1; exact lv_lconst hx hb hd rfl k1
  | aconst_null => cases h; exact lv_null hx hb hd (kk ls hl)
  | iload k => obtain ⟨t, h1, h2, rfl, rfl, rfl⟩ := ri_pl_s h; have h3 := ri_ld_at hl h1; have k1 := kk ls hl; rw [List.map_cons, ri_I h2] at k1; rw [ri_I h2] at h3; exact lv_iload hx hb hd h3 k1
  | iload_n k => obtain ⟨t, h1, h2, rfl, rfl, rfl⟩ := ri_pl_s h; have h3 := ri_ld_at hl h1; have k1 := kk ls hl; rw [List.map_cons, ri_I h2] at k1; rw [ri_I h2] at h3; exact lv_iload_n hx hb hd rfl h3 k1
  | lload k => obtain ⟨t, h1, h2, rfl, rfl, rfl⟩ := ri_pl_s h; have h3 := ri_ld_at hl h1; have k1 := kk ls hl; rw [List.map_cons, ri_L h2] at k1; rw [ri_L h2] at h3; exact lv_lload hx hb hd h3 k1
  | lload_n k => obtain ⟨t, h1, h2, rfl, rfl, rfl⟩ := ri_pl_s h; have h3 := ri_ld_at hl h1; have k1 := kk ls hl; rw [List.map_cons, ri_L h2] at k1; rw [ri_L h2] at h3; exact lv_lload_n hx hb hd rfl h3 k1
  | aload k =>
    obtain ⟨t, h1, h2, rfl, rfl, rfl⟩ := ri_pa_s h
    have h3 := ri_ld_at hl h1
    have k1 := kk ls hl
    rw [List.map_cons] at k1
    rcases h2 with h2 | h2
    · obtain ⟨a, ha⟩ := ri_R (ρ := ρ) (sa := sa) (ad := ad) h2
      rw [ha] at h3 k1
      exact lv_aload hx hb hd h3 k1
    · rw [ri_N h2] at h3 k1
      exact lv_aloadN hx hb hd h3 k1
  | aload_n k =>
    obtain ⟨t, h1, h2, rfl, rfl, rfl⟩ := ri_pa_s h
    have h3 := ri_ld_at hl h1
    have k1 := kk ls hl
    rw [List.map_cons] at k1
    rcases h2 with h2 | h2
    · obtain ⟨a, ha⟩ := ri_R (ρ := ρ) (sa := sa) (ad := ad) h2
      rw [ha] at h3 k1
      exact lv_aload_n hx hb hd rfl h3 k1
    · rw [ri_N h2] at h3 k1
      exact lv_aload_nN hx hb hd rfl h3 k1
  | istore k => obtain ⟨t, rfl, h2, h3, rfl, rfl⟩ := ri_ps_s h; rw [List.map_cons, ri_I h2]; exact lv_istore hx hb hd hl h3 rfl fun ls' hl' => kk ls' (ri_sto_has (by rw [ri_I h2]; exact hl'))
  | istore_n k => obtain ⟨t, rfl, h2, h3, rfl, rfl⟩ := ri_ps_s h; rw [List.map_cons, ri_I h2]; exact lv_istore_n hx hb hd rfl hl h3 rfl fun ls' hl' => kk ls' (ri_sto_has (by rw [ri_I h2]; exact hl'))
  | lstore k => obtain ⟨t, rfl, h2, h3, rfl, rfl⟩ := ri_ps2_s h; rw [List.map_cons, ri_L h2]; exact lv_lstore hx hb hd hl h3 rfl fun ls' hl' => kk ls' (ri_sto2_has (by rw [ri_L h2]; exact hl'))
  | lstore_n k => obtain ⟨t, rfl, h2, h3, rfl, rfl⟩ := ri_ps2_s h; rw [List.map_cons, ri_L h2]; exact lv_lstore_n hx hb hd rfl hl h3 rfl fun ls' hl' => kk ls' (ri_sto2_has (by rw [ri_L h2]; exact hl'))
  | astore k =>
    obtain ⟨t, rfl, h2, h3, rfl, rfl⟩ := ri_psa_s h
    rw [List.map_cons]
    rcases h2 with h2 | h2
    · obtain ⟨a, ha⟩ := ri_R (ρ := ρ) (sa := sa) (ad := ad) h2
      rw [ha]
      exact lv_astore hx hb hd hl h3 rfl fun ls' hl' => kk ls' (ri_sto_has (by rw [ha]; exact hl'))
    · rw [ri_N h2]
      exact lv_astoreN hx hb hd hl h3 rfl fun ls' hl' => kk ls' (ri_sto_has (by rw [ri_N h2]; exact hl'))
  | astore_n k =>
    obtain ⟨t, rfl, h2, h3, rfl, rfl⟩ := ri_psa_s h
    rw [List.map_cons]
    rcases h2 with h2 | h2
    · obtain ⟨a, ha⟩ := ri_R (ρ := ρ) (sa := sa) (ad := ad) h2
      rw [ha]
      exact lv_astore_n hx hb hd rfl hl h3 rfl fun ls' hl' => kk ls' (ri_sto_has (by rw [ha]; exact hl'))
    · rw [ri_N h2]
      exact lv_astore_nN hx hb hd rfl hl h3 rfl fun ls' hl' => kk ls' (ri_sto_has (by rw [ri_N h2]; exact hl'))
  | iinc k n =>
    obtain ⟨t, h1, h2, h3, rfl, rfl, rfl⟩ := ri_inc_s h
    have hm : (k, ri_cv ρ sa ad t) ∈ ri_lc ρ sa ad lv := List.mem_map.mpr ⟨(k, t), ri_ld_mem h1, rfl⟩
    obtain ⟨j, hj⟩ := List.getElem?_of_mem hm
    rw [ri_I h2] at hj
    have e := ri_bin_cv (ρ := ρ) (sa := sa) (ad := ad) (f := fun x y => x + y) (t := .add t (.int (Int32.ofInt n))) (a := t) (b := .int (Int32.ofInt n)) rfl
    exact lv_iinc hx hb hd hl hj rfl h3 rfl fun ls' hl' => kk ls' (ri_sto_has (by rw [e]; exact hl'))
  | iadd => obtain ⟨a, b, r, rfl, ha, hb2, rfl, rfl, rfl⟩ := ri_s2_s h; have k1 := kk ls hl; rw [List.map_cons, ri_bin_cv rfl] at k1; rw [List.map_cons, List.map_cons, ri_I ha, ri_I hb2]; exact lv_iadd hx hb hd k1
  | isub => obtain ⟨a, b, r, rfl, ha, hb2, rfl, rfl, rfl⟩ := ri_s2_s h; have k1 := kk ls hl; rw [List.map_cons, ri_bin_cv rfl] at k1; rw [List.map_cons, List.map_cons, ri_I ha, ri_I hb2]; exact lv_isub hx hb hd k1
  | imul => obtain ⟨a, b, r, rfl, ha, hb2, rfl, rfl, rfl⟩ := ri_s2_s h; have k1 := kk ls hl; rw [List.map_cons, ri_bin_cv rfl] at k1; rw [List.map_cons, List.map_cons, ri_I ha, ri_I hb2]; exact lv_imul hx hb hd k1
  | idiv => obtain ⟨a, b, r, rfl, ha, hz, rfl, rfl, rfl⟩ := ri_sd_s h; obtain ⟨y, rfl, hy⟩ := ri_nz_s hz; have k1 := kk ls hl; rw [List.map_cons, ri_bin_cv rfl] at k1; rw [List.map_cons, List.map_cons, ri_I ha]; exact lv_idiv hx hb hd hy k1
  | irem => obtain ⟨a, b, r, rfl, ha, hz, rfl, rfl, rfl⟩ := ri_sd_s h; obtain ⟨y, rfl, hy⟩ := ri_nz_s hz; have k1 := kk ls hl; rw [List.map_cons, ri_bin_cv rfl] at k1; rw [List.map_cons, List.map_cons, ri_I ha]; exact lv_irem hx hb hd hy k1
  | iand => obtain ⟨a, b, r, rfl, ha, hb2, rfl, rfl, rfl⟩ := ri_s2_s h; have k1 := kk ls hl; rw [List.map_cons, ri_bin_cv rfl] at k1; rw [List.map_cons, List.map_cons, ri_I ha, ri_I hb2]; exact lv_iand hx hb hd k1
  | ior => obtain ⟨a, b, r, rfl, ha, hb2, rfl, rfl, rfl⟩ := ri_s2_s h; have k1 := kk ls hl; rw [List.map_cons, ri_bin_cv rfl] at k1; rw [List.map_cons, List.map_cons, ri_I ha, ri_I hb2]; exact lv_ior hx hb hd k1
  | ixor => obtain ⟨a, b, r, rfl, ha, hb2, rfl, rfl, rfl⟩ := ri_s2_s h; have k1 := kk ls hl; rw [List.map_cons, ri_bin_cv rfl] at k1; rw [List.map_cons, List.map_cons, ri_I ha, ri_I hb2]; exact lv_ixor hx hb hd k1
  | ishl => obtain ⟨a, b, r, rfl, ha, hb2, rfl, rfl, rfl⟩ := ri_s2_s h; have k1 := kk ls hl; rw [List.map_cons, ri_bin_cv rfl] at k1; rw [List.map_cons, List.map_cons, ri_I ha, ri_I hb2]; exact lv_ishl hx hb hd k1
  | ishr => obtain ⟨a, b, r, rfl, ha, hb2, rfl, rfl, rfl⟩ := ri_s2_s h; have k1 := kk ls hl; rw [List.map_cons, ri_bin_cv rfl] at k1; rw [List.map_cons, List.map_cons, ri_I ha, ri_I hb2]; exact lv_ishr hx hb hd k1
  | iushr => obtain ⟨a, b, r, rfl, ha, hb2, rfl, rfl, rfl⟩ := ri_s2_s h; have k1 := kk ls hl; rw [List.map_cons, ri_bin_cv rfl] at k1; rw [List.map_cons, List.map_cons, ri_I ha, ri_I hb2]; exact lv_iushr hx hb hd rfl k1
  | ineg => obtain ⟨a, r, rfl, ha, rfl, rfl, rfl⟩ := ri_s1_s h; have k1 := kk ls hl; rw [List.map_cons, ri_un_cv rfl] at k1; rw [List.map_cons, ri_I ha]; exact lv_ineg hx hb hd k1
  | i2l => obtain ⟨a, r, rfl, ha, rfl, rfl, rfl⟩ := ri_s1_s h; have k1 := kk ls hl; rw [List.map_cons, ri_unIL_cv rfl] at k1; rw [List.map_cons, ri_I ha]; exact lv_i2l hx hb hd rfl k1
  | l2i => obtain ⟨a, r, rfl, ha, rfl, rfl, rfl⟩ := ri_s1_s h; have k1 := kk ls hl; rw [List.map_cons, ri_unLI_cv rfl] at k1; rw [List.map_cons, ri_L ha]; exact lv_l2i hx hb hd rfl k1
  | ladd => obtain ⟨a, b, r, rfl, ha, hb2, rfl, rfl, rfl⟩ := ri_s2_s h; have k1 := kk ls hl; rw [List.map_cons, ri_binL_cv rfl] at k1; rw [List.map_cons, List.map_cons, ri_L ha, ri_L hb2]; exact lv_ladd hx hb hd k1
  | lsub => obtain ⟨a, b, r, rfl, ha, hb2, rfl, rfl, rfl⟩ := ri_s2_s h; have k1 := kk ls hl; rw [List.map_cons, ri_binL_cv rfl] at k1; rw [List.map_cons, List.map_cons, ri_L ha, ri_L hb2]; exact lv_lsub hx hb hd k1
  | lcmp => obtain ⟨a, b, r, rfl, ha, hb2, rfl, rfl, rfl⟩ := ri_s2_s h; have k1 := kk ls hl; rw [List.map_cons, ri_binC_cv rfl] at k1; rw [List.map_cons, List.map_cons, ri_L ha, ri_L hb2]; exact W.lcmp hx hb hd k1
  | i2d => obtain ⟨x, r, rfl, rfl, rfl, rfl⟩ := ri_sI_s h; have k1 := kk ls hl; rw [List.map_cons, ri_fD_cv] at k1; exact lv_i2d hx hb hd k1
  | i2f => obtain ⟨x, r, rfl, rfl, rfl, rfl⟩ := ri_sI_s h; have k1 := kk ls hl; rw [List.map_cons, ri_fF_cv] at k1; exact lv_i2f hx hb hd k1
  | ddiv => obtain ⟨x, y, r, rfl, hn, rfl, rfl, rfl⟩ := ri_s2D_s h; have k1 := kk ls hl; rw [List.map_cons, ri_fD_cv] at k1; exact lv_ddiv (x := x.toUInt64) (y := y.toUInt64) hx hb hd hn k1
  | fdiv => obtain ⟨x, y, r, rfl, hn, rfl, rfl, rfl⟩ := ri_s2F_s h; have k1 := kk ls hl; rw [List.map_cons, ri_fF_cv] at k1; exact lv_fdiv (x := x.toUInt32) (y := y.toUInt32) hx hb hd hn k1
  | fsub => obtain ⟨x, y, r, rfl, hn, rfl, rfl, rfl⟩ := ri_s2F_s h; have k1 := kk ls hl; rw [List.map_cons, ri_fF_cv] at k1; exact lv_fsub (x := x.toUInt32) (y := y.toUInt32) hx hb hd hn k1
  | f2d => obtain ⟨x, r, rfl, hn, rfl, rfl, rfl⟩ := ri_s1F_s h; have k1 := kk ls hl; rw [List.map_cons, ri_fD_cv] at k1; exact lv_f2d (x := x.toUInt32) hx hb hd hn k1
  | fconst k =>
    match k, h, hd with
    | 0, h, hd => cases h; have k1 := kk ls hl; rw [List.map_cons, ri_fF_cv] at k1; exact lv_fconst0 hx hb hd k1
    | 1, h, hd => cases h; have k1 := kk ls hl; rw [List.map_cons, ri_fF_cv] at k1; exact lv_fconst1 hx hb hd k1
    | 2, h, hd => cases h
  | dconst k =>
    match k, h, hd with
    | 0, h, hd => cases h; have k1 := kk ls hl; rw [List.map_cons, ri_fD_cv] at k1; exact lv_dconst0 hx hb hd k1
    | 1, h, hd => cases h
  | dcmp op => obtain ⟨x, y, r, rfl, rfl, rfl, rfl⟩ := ri_sC_s h; have k1 := kk ls hl; rw [List.map_cons, ri_ci_eq] at k1; exact lv_dcmp (x := x.toUInt64) (y := y.toUInt64) hx hb hd k1
  | dload k => obtain ⟨t, h1, h2, rfl, rfl, rfl⟩ := ri_pl_s h; obtain ⟨b9, hb9⟩ := ri_Dd (ρ := ρ) (sa := sa) (ad := ad) h2; have h3 := ri_ld_at hl h1; have k1 := kk ls hl; rw [List.map_cons, hb9] at k1; rw [hb9] at h3; exact lv_dload hx hb hd h3 k1
  | dload_n k => obtain ⟨t, h1, h2, rfl, rfl, rfl⟩ := ri_pl_s h; obtain ⟨b9, hb9⟩ := ri_Dd (ρ := ρ) (sa := sa) (ad := ad) h2; have h3 := ri_ld_at hl h1; have k1 := kk ls hl; rw [List.map_cons, hb9] at k1; rw [hb9] at h3; exact lv_dload_n hx hb hd rfl h3 k1
  | dstore k => obtain ⟨t, rfl, h2, h3, rfl, rfl⟩ := ri_psd_s h; obtain ⟨b9, hb9⟩ := ri_Dd (ρ := ρ) (sa := sa) (ad := ad) h2; rw [List.map_cons, hb9]; exact lv_dstore hx hb hd hl h3 rfl fun ls' hl' => kk ls' (ri_sto2_has (by rw [hb9]; exact hl'))
  | dstore_n k => obtain ⟨t, rfl, h2, h3, rfl, rfl⟩ := ri_psd_s h; obtain ⟨b9, hb9⟩ := ri_Dd (ρ := ρ) (sa := sa) (ad := ad) h2; rw [List.map_cons, hb9]; exact lv_dstore_n hx hb hd rfl hl h3 rfl fun ls' hl' => kk ls' (ri_sto2_has (by rw [hb9]; exact hl'))
  | dup => obtain ⟨a, r, rfl, ha, rfl, rfl, rfl⟩ := ri_dup_s h; exact lv_dup hx hb hd (ri_cat1 ha) (kk ls hl)
  | dup_x1 => obtain ⟨a, b, r, rfl, ha, hb2, rfl, rfl, rfl⟩ := ri_dup_x1_s h; exact lv_dup_x1 hx hb hd (ri_cat1 ha) (ri_cat1 hb2) (kk ls hl)
  | dup2 => obtain ⟨a, b, r, rfl, ha, hb2, rfl, rfl, rfl⟩ := ri_dup2_s h; exact lv_dup2_11 hx hb hd (ri_cat1 ha) (ri_cat1 hb2) (kk ls hl)
  | pop => obtain ⟨a, rfl, ha, rfl, rfl⟩ := ri_pop_s h; exact lv_pop hx hb hd (ri_cat1 ha) (kk ls hl)
  | _ => exact absurd h (by simp [ri_pure])
end RIPW
end RIP
end
section
/-! RI: the world over closed data: objects and arrays by numbers -/
section RIH
abbrev ri_Ce : Type := (Nat × List Jvm.Term) ⊕ (Nat × Nat × Jvm.Term × List (Nat × Jvm.Term))
abbrev ri_Me : Type := List ri_Ce
def ri_look (d : Jvm.Term) (ov : List (Nat × Jvm.Term)) (j : Nat) : Jvm.Term := match ov.find? (fun q => q.1 == j) with
  | some q => q.2
  | none => d
def ri_sameC (t d : Jvm.Term) : Bool := match t, d with
  | .int a, .int b => a == b
  | .long a, .long b => a == b
  | .null, .null => true
  | _, _ => false
def ri_put (d : Jvm.Term) (ov : List (Nat × Jvm.Term)) (j : Nat) (t : Jvm.Term) : List (Nat × Jvm.Term) :=
  if ri_sameC t d = true then ov.filter (fun q => !(q.1 == j)) else (j, t) :: ov.filter (fun q => !(q.1 == j))
def ri_isR : Option FieldType → Bool
  | some (.object _) => true
  | some (.array _) => true
  | _ => false
def ri_isJ : Option FieldType → Bool
  | some .long => true
  | _ => false
section RIH1
variable (ρ : Nat → Int32) (sa : String → Nat → Nat) (aty : List FieldType) (tyc : Nat → ClassId) (ad : Nat → Nat)
def ri_ce : ri_Ce → va_E
  | .inl (ci, fs) => .inr (ci, fs.map (ri_cv ρ sa ad))
  | .inr (ty, n, d, ov) => .inl (tyc ty, n, if ri_isR aty[ty]? = true then .inr (.inr (.inr (.inr (fun j => ri_gR (ri_cv ρ sa ad (ri_look d ov j)))))) else if ri_isJ aty[ty]? = true then .inr (.inl (fun j => ri_gL (ri_cv ρ sa ad (ri_look d ov j)))) else .inl (fun j => ri_gI (ri_cv ρ sa ad (ri_look d ov j))))
def ri_w (mem : ri_Me) : va_W := mem.mapIdx (fun k e => (ad k, ri_ce ρ sa aty tyc ad e))
end RIH1
/-- the references of a value, of a cell, of a world lie below n -/
def ri_ok (n : Nat) : Jvm.Term → Prop
  | .index k => k < n
  | _ => True
def ri_okC (n : Nat) : ri_Ce → Prop
  | .inl (_, fs) => ∀ t ∈ fs, ri_ok n t
  | .inr (_, _, d, ov) => ri_ok n d ∧ ∀ q ∈ ov, ri_ok n q.2
def ri_okM (n : Nat) (mem : ri_Me) : Prop := ∀ e ∈ mem, ri_okC n e
def ri_ag (n : Nat) (ad ad' : Nat → Nat) : Prop := ∀ k, k < n → ad' k = ad k
section RIH2
variable {ρ : Nat → Int32} {sa : String → Nat → Nat} {aty : List FieldType} {tyc : Nat → ClassId} {ad ad' : Nat → Nat} {n n' : Nat} {mem : ri_Me}
theorem ri_ok_mono {t : Jvm.Term} (h : ri_ok n t) (hn : n ≤ n') : ri_ok n' t := by
  cases t <;> first | trivial | exact Nat.lt_of_lt_of_le h hn
theorem ri_okC_mono {e : ri_Ce} (h : ri_okC n e) (hn : n ≤ n') : ri_okC n' e := by
  match e, h with
  | .inl (_, fs), h => exact fun t ht => ri_ok_mono (h t ht) hn
  | .inr (_, _, d, ov), h => exact ⟨ri_ok_mono h.1 hn, fun q hq => ri_ok_mono (h.2 q hq) hn⟩
theorem ri_okM_mono (h : ri_okM n mem) (hn : n ≤ n') : ri_okM n' mem := fun e he => ri_okC_mono (h e he) hn
theorem ri_ag_rf : ri_ag n ad ad := fun _ _ => rfl
theorem ri_ag_tr {ad2 : Nat → Nat} (h1 : ri_ag n ad ad') (h2 : ri_ag n' ad' ad2) (hn : n ≤ n') : ri_ag n ad ad2 := fun k hk => (h2 k (Nat.lt_of_lt_of_le hk hn)).trans (h1 k hk)
theorem ri_ag_sub (h : ri_ag n' ad ad') (hn : n ≤ n') : ri_ag n ad ad' := fun k hk => h k (Nat.lt_of_lt_of_le hk hn)
theorem ri_cv_ag {t : Jvm.Term} (h : ri_ok n t) (ha : ri_ag n ad ad') : ri_cv ρ sa ad' t = ri_cv ρ sa ad t := by
  by_cases hi : ∃ k, t = .index k
  · obtain ⟨k, rfl⟩ := hi
    show Value.ref (ad' k) = .ref (ad k)
    rw [ha k h]
  · exact ri_num t fun k e => hi ⟨k, e⟩
theorem ri_map_ag {l : List Jvm.Term} (h : ∀ t ∈ l, ri_ok n t) (ha : ri_ag n ad ad') : l.map (ri_cv ρ sa ad') = l.map (ri_cv ρ sa ad) := List.map_congr_left fun t ht => ri_cv_ag (h t ht) ha
theorem ri_lc_ag {lv : List (Nat × Jvm.Term)} (h : ∀ q ∈ lv, ri_ok n q.2) (ha : ri_ag n ad ad') : ri_lc ρ sa ad' lv = ri_lc ρ sa ad lv := List.map_congr_left fun q hq => by rw [ri_cv_ag (h q hq) ha]
theorem ri_look_ok {d : Jvm.Term} {ov : List (Nat × Jvm.Term)} {j : Nat} (hd : ri_ok n d) (ho : ∀ q ∈ ov, ri_ok n q.2) : ri_ok n (ri_look d ov j) := by
  unfold ri_look
  split
  · next q hq => exact ho q (List.mem_of_find?_eq_some hq)
  · exact hd
theorem ri_ce_ag {e : ri_Ce} (h : ri_okC n e) (ha : ri_ag n ad ad') : ri_ce ρ sa aty tyc ad' e = ri_ce ρ sa aty tyc ad e := by
  match e, h with
  | .inl (ci, fs), h => show Sum.inr (ci, fs.map (ri_cv ρ sa ad')) = Sum.inr (ci, fs.map (ri_cv ρ sa ad)); rw [ri_map_ag h ha]
  | .inr (ty, n9, d, ov), h =>
    have e1 : (fun j => ri_gR (ri_cv ρ sa ad' (ri_look d ov j))) = (fun j => ri_gR (ri_cv ρ sa ad (ri_look d ov j))) := funext fun j => by rw [ri_cv_ag (ri_look_ok h.1 h.2) ha]
    have e2 : (fun j => ri_gI (ri_cv ρ sa ad' (ri_look d ov j))) = (fun j => ri_gI (ri_cv ρ sa ad (ri_look d ov j))) := funext fun j => by rw [ri_cv_ag (ri_look_ok h.1 h.2) ha]
    have e3 : (fun j => ri_gL (ri_cv ρ sa ad' (ri_look d ov j))) = (fun j => ri_gL (ri_cv ρ sa ad (ri_look d ov j))) := funext fun j => by rw [ri_cv_ag (ri_look_ok h.1 h.2) ha]
    simp only [ri_ce]
    rw [e1, e2, e3]
theorem ri_w_get {k : Nat} {e : ri_Ce} (h : mem[k]? = some e) : (ri_w ρ sa aty tyc ad mem)[k]? = some (ad k, ri_ce ρ sa aty tyc ad e) := by
  unfold ri_w
  rw [List.getElem?_mapIdx, h]
  rfl
theorem ri_w_set {k : Nat} {e : ri_Ce} : (ri_w ρ sa aty tyc ad mem).set k (ad k, ri_ce ρ sa aty tyc ad e) = ri_w ρ sa aty tyc ad (mem.set k e) := by
  apply List.ext_getElem?
  intro i
  unfold ri_w
  rw [List.getElem?_mapIdx, List.getElem?_set, List.getElem?_set]
  by_cases hi : k = i
  · subst hi
    by_cases hl : k < mem.length
    · simp [hl]
    · simp [hl]
  · simp [hi]
theorem ri_w_push {q : Nat} {e : ri_Ce} (h : ri_okM mem.length mem) : ri_w ρ sa aty tyc (fun k => if k = mem.length then q else ad k) (mem ++ [e]) = ri_w ρ sa aty tyc ad mem ++ [(q, ri_ce ρ sa aty tyc (fun k => if k = mem.length then q else ad k) e)] := by
  have ha : ri_ag mem.length ad (fun k => if k = mem.length then q else ad k) := fun k hk => if_neg (Nat.ne_of_lt hk)
  apply List.ext_getElem?
  intro i
  unfold ri_w
  by_cases hi : i < mem.length
  · rw [List.getElem?_mapIdx, List.getElem?_append_left hi, List.getElem?_append_left (by simpa using hi), List.getElem?_mapIdx]
    cases hm : mem[i]? with
    | none => rfl
    | some e9 =>
      have he := h e9 (List.mem_of_getElem? hm)
      show some ((fun k => if k = mem.length then q else ad k) i, ri_ce ρ sa aty tyc (fun k => if k = mem.length then q else ad k) e9) = some (ad i, ri_ce ρ sa aty tyc ad e9)
      rw [ri_ce_ag he ha, ha i hi]
  · rw [List.getElem?_mapIdx, List.getElem?_append_right (by omega), List.getElem?_append_right (by simpa using hi)]
    simp only [List.length_mapIdx]
    by_cases h0 : i = mem.length
    · subst h0
      simp
    · have : i - mem.length ≠ 0 := by omega
      obtain ⟨j, hj⟩ : ∃ j, i - mem.length = j + 1 := ⟨i - mem.length - 1, by omega⟩
      rw [hj]
      rfl
theorem ri_w_ag (h : ri_okM n mem) (hn : mem.length ≤ n) (ha : ri_ag n ad ad') : ri_w ρ sa aty tyc ad' mem = ri_w ρ sa aty tyc ad mem := by
  apply List.ext_getElem?
  intro i
  unfold ri_w
  rw [List.getElem?_mapIdx, List.getElem?_mapIdx]
  cases hm : mem[i]? with
  | none => rfl
  | some e9 =>
    have hi : i < mem.length := (List.getElem?_eq_some_iff.mp hm).1
    show some (ad' i, ri_ce ρ sa aty tyc ad' e9) = some (ad i, ri_ce ρ sa aty tyc ad e9)
    rw [ri_ce_ag (h e9 (List.mem_of_getElem? hm)) ha, ha i (Nat.lt_of_lt_of_le hi hn)]
theorem ri_find_filter {ov : List (Nat × Jvm.Term)} {j i : Nat} (h : i ≠ j) : (ov.filter (fun q => !(q.1 == j))).find? (fun q => q.1 == i) = ov.find? (fun q => q.1 == i) := by
  induction ov with
  | nil => rfl
  | cons a l ih =>
    by_cases ha : a.1 = j
    · have h1 : (!(a.1 == j)) = false := by simp [ha]
      have h2 : (a.1 == i) = false := by simp [ha, Ne.symm h]
      rw [List.filter_cons_of_neg (by simp [ha]), List.find?_cons_of_neg (by simp [h2]), ih]
    · rw [List.filter_cons_of_pos (by simp [ha])]
      by_cases h3 : a.1 = i
      · rw [List.find?_cons_of_pos (by simp [h3]), List.find?_cons_of_pos (by simp [h3])]
      · rw [List.find?_cons_of_neg (by simp [h3]), List.find?_cons_of_neg (by simp [h3]), ih]
theorem ri_find_none {ov : List (Nat × Jvm.Term)} {j : Nat} : (ov.filter (fun q => !(q.1 == j))).find? (fun q => q.1 == j) = none := by
  rw [List.find?_eq_none]
  intro q hq
  have h := (List.mem_filter.mp hq).2
  simp at h ⊢
  exact h
theorem ri_sameC_s {t d : Jvm.Term} (h : ri_sameC t d = true) : ri_cv ρ sa ad t = ri_cv ρ sa ad d := by
  unfold ri_sameC at h
  split at h
  · next a b => rw [beq_iff_eq.mp h]
  · next a b => rw [beq_iff_eq.mp h]
  · rfl
  · cases h
theorem ri_put_cv {d t : Jvm.Term} {ov : List (Nat × Jvm.Term)} {j i : Nat} : ri_cv ρ sa ad (ri_look d (ri_put d ov j t) i) = if i = j then ri_cv ρ sa ad t else ri_cv ρ sa ad (ri_look d ov i) := by
  unfold ri_put
  by_cases hij : i = j
  · subst hij
    rw [if_pos rfl]
    split
    · next hs => unfold ri_look; rw [ri_find_none]; exact (ri_sameC_s hs).symm
    · unfold ri_look; rw [List.find?_cons_of_pos (by simp)]
  · rw [if_neg hij]
    split
    · unfold ri_look; rw [ri_find_filter hij]
    · unfold ri_look; rw [List.find?_cons_of_neg (by simpa using Ne.symm hij), ri_find_filter hij]
theorem ri_put_ok {d t : Jvm.Term} {ov : List (Nat × Jvm.Term)} {j : Nat} (ht : ri_ok n t) (ho : ∀ q ∈ ov, ri_ok n q.2) : ∀ q ∈ ri_put d ov j t, ri_ok n q.2 := by
  unfold ri_put
  intro q hq
  split at hq
  · exact ho q (List.mem_filter.mp hq).1
  · rcases List.mem_cons.mp hq with rfl | hq
    · exact ht
    · exact ho q (List.mem_filter.mp hq).1
theorem ri_okM_set {k : Nat} {e : ri_Ce} (h : ri_okM n mem) (he : ri_okC n e) : ri_okM n (mem.set k e) := fun x hx => by
  rcases List.mem_or_eq_of_mem_set hx with h1 | h1
  · exact h x h1
  · rw [h1]; exact he
theorem ri_okM_push {e : ri_Ce} (h : ri_okM n mem) (he : ri_okC (n + 1) e) : ri_okM (n + 1) (mem ++ [e]) := fun x hx => by
  rcases List.mem_append.mp hx with h1 | h1
  · exact ri_okC_mono (h x h1) (Nat.le_succ n)
  · rw [List.mem_singleton.mp h1]; exact he
theorem ri_ok_set {fs : List Jvm.Term} {j : Nat} {t : Jvm.Term} (h : ∀ x ∈ fs, ri_ok n x) (ht : ri_ok n t) : ∀ x ∈ fs.set j t, ri_ok n x := fun x hx => by
  rcases List.mem_or_eq_of_mem_set hx with h1 | h1
  · exact h x h1
  · rw [h1]; exact ht
theorem ri_map_set {fs : List Jvm.Term} {j : Nat} {t : Jvm.Term} : (fs.map (ri_cv ρ sa ad)).set j (ri_cv ρ sa ad t) = (fs.set j t).map (ri_cv ρ sa ad) := by
  rw [List.map_set]
end RIH2
end RIH
end
section
section RII
abbrev ri_Cd : Type := Nat × Jvm.Term × Jvm.Term × Bool
def ri_eqT : Jvm.Term → Jvm.Term → Bool
  | .arg i, .arg j => i == j
  | .int x, .int y => x == y
  | .long x, .long y => x == y
  | .add a b, .add a2 b2 => ri_eqT a a2 && ri_eqT b b2
  | .sub a b, .sub a2 b2 => ri_eqT a a2 && ri_eqT b b2
  | .mul a b, .mul a2 b2 => ri_eqT a a2 && ri_eqT b b2
  | .div a b, .div a2 b2 => ri_eqT a a2 && ri_eqT b b2
  | .rem a b, .rem a2 b2 => ri_eqT a a2 && ri_eqT b b2
  | .op2 o a b, .op2 o2 a2 b2 => decide (o = o2) && (ri_eqT a a2 && ri_eqT b b2)
  | .op1 o a, .op1 o2 a2 => decide (o = o2) && ri_eqT a a2
  | .null, .null => true
  | .index i, .index j => i == j
  | .string c i, .string c2 i2 => i == i2 && c == c2
  | _, _ => false
theorem ri_eqT_s : ∀ (a b : Jvm.Term), ri_eqT a b = true → a = b := by
  intro a
  induction a with
  | arg i => intro b h; cases b <;> simp [ri_eqT] at h; rw [h]
  | int i => intro b h; cases b <;> simp [ri_eqT] at h; rw [h]
  | long i => intro b h; cases b <;> simp [ri_eqT] at h; rw [h]
  | add x y hx hy => intro b h; cases b <;> simp [ri_eqT] at h; rw [hx _ h.1, hy _ h.2]
  | sub x y hx hy => intro b h; cases b <;> simp [ri_eqT] at h; rw [hx _ h.1, hy _ h.2]
  | mul x y hx hy => intro b h; cases b <;> simp [ri_eqT] at h; rw [hx _ h.1, hy _ h.2]
  | div x y hx hy => intro b h; cases b <;> simp [ri_eqT] at h; rw [hx _ h.1, hy _ h.2]
  | rem x y hx hy => intro b h; cases b <;> simp [ri_eqT] at h; rw [hx _ h.1, hy _ h.2]
  | op2 o x y hx hy => intro b h; cases b <;> simp [ri_eqT] at h; rw [h.1, hx _ h.2.1, hy _ h.2.2]
  | op1 o x hx => intro b h; cases b <;> simp [ri_eqT] at h; rw [h.1, hx _ h.2]
  | null => intro b h; cases b <;> simp [ri_eqT] at h; rfl
  | index i => intro b h; cases b <;> simp [ri_eqT] at h; rw [h]
  | string c i => intro b h; cases b <;> simp [ri_eqT] at h; rw [h.1, h.2]
  | _ => intro b h; cases b <;> simp [ri_eqT] at h
/-- the value of an int, of a long that hangs on no cell -/
def ri_iv (ρ : Nat → Int32) (t : Jvm.Term) : Int32 := ri_gI (ri_cv ρ (fun _ _ => 0) (fun _ => 0) t)
def ri_il (ρ : Nat → Int32) (t : Jvm.Term) : Int64 := ri_gL (ri_cv ρ (fun _ _ => 0) (fun _ => 0) t)
theorem ri_iv_eq {ρ : Nat → Int32} {sa sa' : String → Nat → Nat} {ad ad' : Nat → Nat} (t : Jvm.Term) : ri_gI (ri_cv ρ sa ad t) = ri_gI (ri_cv ρ sa' ad' t) ∧ ri_gL (ri_cv ρ sa ad t) = ri_gL (ri_cv ρ sa' ad' t) := ⟨(ri_key t).1, (ri_key t).2.1⟩
theorem ri_ivI {ρ : Nat → Int32} {sa : String → Nat → Nat} {ad : Nat → Nat} {t : Jvm.Term} (h : ri_k t = 0) : ri_cv ρ sa ad t = .int (ri_iv ρ t) := by
  rw [ri_I h]
  unfold ri_iv
  rw [(ri_iv_eq t).1]
/-- what held on a way: 0: equal, else: less -/
def ri_rel (k : Nat) (x y : Int32) : Prop := match k with
  | 0 => x = y
  | _ => x < y
def ri_sat (ρ : Nat → Int32) (q : ri_Cd) : Prop := q.2.2.2 = true ↔ ri_rel q.1 (ri_iv ρ q.2.1) (ri_iv ρ q.2.2.1)
/-- bounds -/
def ri_B (r : Int × Int) (x : Int) : Prop := r.1 ≤ x ∧ x ≤ r.2
def ri_F32 : Int × Int := (-2147483648, 2147483647)
def ri_F64 : Int × Int := (-9223372036854775808, 9223372036854775807)
def ri_c32 (r : Int × Int) : Int × Int := if -2147483648 ≤ r.1 ∧ r.2 ≤ 2147483647 then r else ri_F32
def ri_c64 (r : Int × Int) : Int × Int := if -9223372036854775808 ≤ r.1 ∧ r.2 ≤ 9223372036854775807 then r else ri_F64
/-- bounds, narrowed by what held -/
def ri_nw (t : Jvm.Term) (q : ri_Cd) (r : Int × Int) : Int × Int := match q.2.2.1 with
  | .int c => if ri_eqT q.2.1 t = true then (match q.1 with
    | 0 => if q.2.2.2 = true then (max r.1 c.toInt, min r.2 c.toInt) else (if r.1 = c.toInt then r.1 + 1 else r.1, if r.2 = c.toInt then r.2 - 1 else r.2)
    | _ => if q.2.2.2 = true then (r.1, min r.2 (c.toInt - 1)) else (max r.1 c.toInt, r.2)) else r
  | _ => r
/-- twice, for what is unequal to a bound found later -/
def ri_fd (cs : List ri_Cd) (t : Jvm.Term) (r : Int × Int) : Int × Int := cs.foldr (ri_nw t) (cs.foldr (ri_nw t) r)
def ri_m4 (a b c d : Int) : Int × Int := (min (min a b) (min c d), max (max a b) (max c d))
def ri_cmpB (a b : Int × Int) : Int × Int := if a.2 < b.1 then (-1, -1) else if b.2 < a.1 then (1, 1) else (if b.2 ≤ a.1 then 0 else -1, if a.2 ≤ b.1 then 0 else 1)
def ri_bd (cs : List ri_Cd) : Jvm.Term → Int × Int
  | .int v => (v.toInt, v.toInt)
  | .long v => (v.toInt, v.toInt)
  | .add a b => ri_fd cs ((.add a b)) (if ri_k a = 0 ∧ ri_k b = 0 then ri_c32 ((ri_bd cs a).1 + (ri_bd cs b).1, (ri_bd cs a).2 + (ri_bd cs b).2) else ri_F32)
  | .sub a b => ri_fd cs ((.sub a b)) (if ri_k a = 0 ∧ ri_k b = 0 then ri_c32 ((ri_bd cs a).1 - (ri_bd cs b).2, (ri_bd cs a).2 - (ri_bd cs b).1) else ri_F32)
  | .mul a b => ri_fd cs ((.mul a b)) (if ri_k a = 0 ∧ ri_k b = 0 then ri_c32 (ri_m4 ((ri_bd cs a).1 * (ri_bd cs b).1) ((ri_bd cs a).1 * (ri_bd cs b).2) ((ri_bd cs a).2 * (ri_bd cs b).1) ((ri_bd cs a).2 * (ri_bd cs b).2)) else ri_F32)
  | .div a b => ri_fd cs ((.div a b)) (if ri_k a = 0 then (match b with
    | .int c => if 0 < c.toInt then ri_c32 ((ri_bd cs a).1.tdiv c.toInt, (ri_bd cs a).2.tdiv c.toInt) else ri_F32
    | _ => ri_F32) else ri_F32)
  | .rem a b => ri_fd cs ((.rem a b)) (if ri_k a = 0 then (match b with
    | .int c => if 0 < c.toInt then (if 0 ≤ (ri_bd cs a).1 then (0, min (c.toInt - 1) (ri_bd cs a).2) else (-(c.toInt - 1), c.toInt - 1)) else ri_F32
    | _ => ri_F32) else ri_F32)
  | .op2 o a b => match ri_ko o with
    | 0 => ri_fd cs ((.op2 o a b)) (match o, b with
      | .iand, .int c => if 0 ≤ c.toInt then (0, c.toInt) else ri_F32
      | _, _ => ri_F32)
    | 1 => if ri_k a = 1 ∧ ri_k b = 1 then (match o with
      | .ladd => ri_c64 ((ri_bd cs a).1 + (ri_bd cs b).1, (ri_bd cs a).2 + (ri_bd cs b).2)
      | .lsub => ri_c64 ((ri_bd cs a).1 - (ri_bd cs b).2, (ri_bd cs a).2 - (ri_bd cs b).1)
      | _ => ri_F64) else ri_F64
    | _ => if ri_k a = 1 ∧ ri_k b = 1 then ri_fd cs ((.op2 o a b)) (ri_cmpB (ri_bd cs a) (ri_bd cs b)) else ri_F32
  | .op1 o a => match o with
    | .i2l => if ri_k a = 0 then ri_bd cs a else ri_F64
    | .ineg => ri_fd cs ((.op1 o a)) (if ri_k a = 0 then ri_c32 (-(ri_bd cs a).2, -(ri_bd cs a).1) else ri_F32)
    | .l2i => ri_fd cs ((.op1 o a)) ri_F32
    | _ => ri_F64
  | t => ri_fd cs (t) ri_F32
section RII1
variable {ρ : Nat → Int32} {cs : List ri_Cd}
theorem ri_B32 (x : Int32) : ri_B ri_F32 x.toInt := ⟨Int32.le_toInt x, Int32.toInt_le x⟩
theorem ri_B64 (x : Int64) : ri_B ri_F64 x.toInt := ⟨Int64.le_toInt x, Int64.toInt_le x⟩
theorem ri_nw_s {t : Jvm.Term} {q : ri_Cd} {r : Int × Int} (hq : ri_sat ρ q) (h : ri_B r (ri_iv ρ t).toInt) : ri_B (ri_nw t q r) (ri_iv ρ t).toInt := by
  obtain ⟨k, a, b, v⟩ := q
  unfold ri_nw
  dsimp only
  split
  · next c =>
    split
    · next he =>
      have e := ri_eqT_s _ _ he
      subst e
      have ec : ri_iv ρ (.int c) = c := rfl
      unfold ri_sat at hq
      dsimp only at hq
      rw [ec] at hq
      obtain ⟨h1, h2⟩ := h
      split
      · have hr : ri_rel 0 (ri_iv ρ a) c ↔ ri_iv ρ a = c := Iff.rfl
        rw [hr] at hq
        split
        · next hv =>
          have e := hq.mp hv
          rw [← e]
          exact ⟨by dsimp only; omega, by dsimp only; omega⟩
        · next hv =>
          have e : (ri_iv ρ a).toInt ≠ c.toInt := fun z => hv (hq.mpr (Int32.toInt_inj.mp z))
          refine ⟨?_, ?_⟩
          · dsimp only; split <;> omega
          · dsimp only; split <;> omega
      · next hk =>
        have hr : ri_rel k (ri_iv ρ a) c ↔ ri_iv ρ a < c := by
          cases k with
          | zero => exact absurd rfl hk
          | succ k => exact Iff.rfl
        rw [hr, Int32.lt_iff_toInt_lt] at hq
        split
        · next hv =>
          have e := hq.mp hv
          exact ⟨h1, by dsimp only; omega⟩
        · next hv =>
          have e : ¬ (ri_iv ρ a).toInt < c.toInt := fun z => hv (hq.mpr z)
          exact ⟨by dsimp only; omega, h2⟩
    · exact h
  · exact h
theorem ri_fold0_s {t : Jvm.Term} {r : Int × Int} (hs : ∀ q ∈ cs, ri_sat ρ q) (h : ri_B r (ri_iv ρ t).toInt) : ri_B (cs.foldr (ri_nw t) r) (ri_iv ρ t).toInt := by
  induction cs with
  | nil => exact h
  | cons q l ih => exact ri_nw_s (hs q List.mem_cons_self) (ih fun z hz => hs z (List.mem_cons_of_mem _ hz))
theorem ri_fold_s {t : Jvm.Term} {r : Int × Int} (hs : ∀ q ∈ cs, ri_sat ρ q) (h : ri_B r (ri_iv ρ t).toInt) : ri_B (ri_fd cs t r) (ri_iv ρ t).toInt := ri_fold0_s hs (ri_fold0_s hs h)
theorem ri_c32_s {r : Int × Int} {x : Int32} {n : Int} (hx : x.toInt = n.bmod (2 ^ 32)) (h : ri_B r n) : ri_B (ri_c32 r) x.toInt := by
  unfold ri_c32
  split
  · next hc =>
    rw [hx, Int.bmod_eq_of_le (by obtain ⟨h1, h2⟩ := h; omega) (by obtain ⟨h1, h2⟩ := h; omega)]
    exact h
  · exact ri_B32 x
theorem ri_c64_s {r : Int × Int} {x : Int64} {n : Int} (hx : x.toInt = n.bmod (2 ^ 64)) (h : ri_B r n) : ri_B (ri_c64 r) x.toInt := by
  unfold ri_c64
  split
  · next hc =>
    rw [hx, Int.bmod_eq_of_le (by obtain ⟨h1, h2⟩ := h; omega) (by obtain ⟨h1, h2⟩ := h; omega)]
    exact h
  · exact ri_B64 x
theorem ri_m4_s {a b : Int × Int} {x y : Int} (hx : ri_B a x) (hy : ri_B b y) : ri_B (ri_m4 (a.1 * b.1) (a.1 * b.2) (a.2 * b.1) (a.2 * b.2)) (x * y) := by
  obtain ⟨h1, h2⟩ := hx
  obtain ⟨h3, h4⟩ := hy
  have key : ∀ u v w z : Int, u ≤ v → v ≤ w → min (u * z) (w * z) ≤ v * z ∧ v * z ≤ max (u * z) (w * z) := by
    intro u v w z huv hvw
    rcases Int.le_total 0 z with hz | hz
    · exact ⟨Int.le_trans (Int.min_le_left _ _) (Int.mul_le_mul_of_nonneg_right huv hz), Int.le_trans (Int.mul_le_mul_of_nonneg_right hvw hz) (Int.le_max_right _ _)⟩
    · exact ⟨Int.le_trans (Int.min_le_right _ _) (Int.mul_le_mul_of_nonpos_right hvw hz), Int.le_trans (Int.mul_le_mul_of_nonpos_right huv hz) (Int.le_max_left _ _)⟩
  have k1 := key a.1 x a.2 y h1 h2
  have k2 := key b.1 y b.2 a.1 h3 h4
  have k3 := key b.1 y b.2 a.2 h3 h4
  rw [Int.mul_comm b.1, Int.mul_comm b.2, Int.mul_comm y] at k2 k3
  unfold ri_m4 ri_B
  dsimp only
  omega
theorem ri_cmpB_s {a b : Int × Int} {x y : Int64} (hx : ri_B a x.toInt) (hy : ri_B b y.toInt) : ri_B (ri_cmpB a b) (lg_cmp x y).toInt := by
  obtain ⟨h1, h2⟩ := hx
  obtain ⟨h3, h4⟩ := hy
  have e1 : (1 : Int32).toInt = 1 := by decide
  have e0 : (0 : Int32).toInt = 0 := by decide
  have em : (-1 : Int32).toInt = -1 := by decide
  have hc : (lg_cmp x y).toInt = if y.toInt < x.toInt then 1 else if x.toInt = y.toInt then 0 else -1 := by
    unfold lg_cmp
    by_cases z : x > y
    · rw [if_pos z, e1, if_pos (Int64.lt_iff_toInt_lt.mp z)]
    · rw [if_neg z, if_neg (fun q => z (Int64.lt_iff_toInt_lt.mpr q))]
      by_cases w : x = y
      · rw [if_pos w, e0, if_pos (by rw [w])]
      · rw [if_neg w, em, if_neg (fun q => w (Int64.toInt_inj.mp q))]
  rw [hc]
  unfold ri_cmpB ri_B
  repeat' split
  all_goals (refine ⟨?_, ?_⟩ <;> dsimp only <;> (repeat' split) <;> omega)
theorem ri_div_s {a c : Int32} {r : Int × Int} (hc : 0 < c.toInt) (h : ri_B r a.toInt) : ri_B (ri_c32 (r.1.tdiv c.toInt, r.2.tdiv c.toInt)) (a / c).toInt :=
  ri_c32_s (Int32.toInt_div a c) ⟨Int.tdiv_le_tdiv hc h.1, Int.tdiv_le_tdiv hc h.2⟩
theorem ri_rem_s {a c : Int32} {r : Int × Int} (hc : 0 < c.toInt) (h : ri_B r a.toInt) : ri_B (if 0 ≤ r.1 then (0, min (c.toInt - 1) r.2) else (-(c.toInt - 1), c.toInt - 1)) (a - a / c * c).toInt := by
  have h1 := Int.natAbs_tdiv_le_natAbs a.toInt c.toInt
  have h2 := Int.tmod_add_mul_tdiv a.toInt c.toInt
  have h3 := Int.tmod_lt_of_pos a.toInt hc
  have h4 := Int.lt_tmod_of_pos a.toInt hc
  have h5 : -2147483648 ≤ a.toInt := Int32.le_toInt a
  have h6 : a.toInt ≤ 2147483647 := Int32.toInt_le a
  have h7 : c.toInt ≤ 2147483647 := Int32.toInt_le c
  have hn : a.toInt < 0 → a.toInt.tmod c.toInt ≤ 0 := fun z => by
    have := Int.tmod_nonneg c.toInt (a := -a.toInt) (by omega)
    rw [Int.neg_tmod] at this
    omega
  have hp : 0 ≤ a.toInt → 0 ≤ a.toInt.tmod c.toInt := fun z => Int.tmod_nonneg _ z
  have h8 : 0 ≤ a.toInt → a.toInt.tmod c.toInt ≤ a.toInt := fun z => by
    have := Int.mul_nonneg (Int.le_of_lt hc) (Int.tdiv_nonneg z (Int.le_of_lt hc))
    omega
  have h9 : a.toInt < 0 → a.toInt ≤ a.toInt.tmod c.toInt := fun z => by
    have := Int.mul_nonneg (Int.le_of_lt hc) (Int.tdiv_nonneg (a := -a.toInt) (by omega) (Int.le_of_lt hc))
    rw [Int.neg_tdiv, Int.mul_neg] at this
    omega
  have e1 : (a / c).toInt = a.toInt.tdiv c.toInt := by rw [Int32.toInt_div, Int.bmod_eq_of_le (by omega) (by
    rcases Int.lt_or_le a.toInt 0 with z | z
    · have := Int.tdiv_nonneg (a := -a.toInt) (b := c.toInt) (by omega) (Int.le_of_lt hc)
      rw [Int.neg_tdiv] at this
      omega
    · omega)]
  have e2 : (a / c * c).toInt = c.toInt * a.toInt.tdiv c.toInt := by
    rw [Int32.toInt_mul, e1, Int.mul_comm, Int.bmod_eq_of_le (by omega) (by omega)]
  have e3 : (a - a / c * c).toInt = a.toInt.tmod c.toInt := by
    rw [Int32.toInt_sub, e2, Int.bmod_eq_of_le (by omega) (by omega)]
    omega
  rw [e3]
  obtain ⟨q1, q2⟩ := h
  split
  · exact ⟨hp (by omega), by dsimp only; have := h8 (by omega); omega⟩
  · exact ⟨by dsimp only; omega, by dsimp only; omega⟩
theorem ri_and_s {a c : Int32} (hc : 0 ≤ c.toInt) : ri_B (0, c.toInt) (a &&& c).toInt := by
  have h1 : (a &&& c).toBitVec.toNat ≤ c.toBitVec.toNat := by rw [Int32.toBitVec_and, BitVec.toNat_and]; exact Nat.and_le_right
  have h2 : c.toInt = if 2 * c.toBitVec.toNat < 2 ^ 32 then (c.toBitVec.toNat : Int) else (c.toBitVec.toNat : Int) - (2 ^ 32 : Nat) := rfl
  have h3 : (a &&& c).toInt = if 2 * (a &&& c).toBitVec.toNat < 2 ^ 32 then ((a &&& c).toBitVec.toNat : Int) else ((a &&& c).toBitVec.toNat : Int) - (2 ^ 32 : Nat) := rfl
  have h4 := c.toBitVec.isLt
  unfold ri_B
  rw [h3]
  split at h2
  · rw [h2, if_pos (by omega)]
    dsimp only
    omega
  · omega
set_option maxHeartbeats 2000000 in
theorem ri_bd_s (hs : ∀ q ∈ cs, ri_sat ρ q) (t : Jvm.Term) : (ri_k t = 0 → ri_B (ri_bd cs t) (ri_iv ρ t).toInt) ∧ (ri_k t = 1 → ri_B (ri_bd cs t) (ri_il ρ t).toInt) := by
  have fin : ∀ (t : Jvm.Term), ri_B (ri_fd cs (t) ri_F32) (ri_iv ρ t).toInt := fun t => ri_fold_s hs (ri_B32 _)
  induction t with
  | int v => exact ⟨fun _ => ⟨Int.le_refl _, Int.le_refl _⟩, fun h => by cases h⟩
  | long v => exact ⟨fun h => (by cases h), fun _ => ⟨Int.le_refl _, Int.le_refl _⟩⟩
  | add a b ha hb =>
    refine ⟨fun _ => ri_fold_s hs ?_, fun h => by cases h⟩
    split
    · next hk => exact ri_c32_s (Int32.toInt_add _ _) ⟨Int.add_le_add (ha.1 hk.1).1 (hb.1 hk.2).1, Int.add_le_add (ha.1 hk.1).2 (hb.1 hk.2).2⟩
    · exact ri_B32 _
  | sub a b ha hb =>
    refine ⟨fun _ => ri_fold_s hs ?_, fun h => by cases h⟩
    split
    · next hk => exact ri_c32_s (Int32.toInt_sub _ _) ⟨Int.sub_le_sub (ha.1 hk.1).1 (hb.1 hk.2).2, Int.sub_le_sub (ha.1 hk.1).2 (hb.1 hk.2).1⟩
    · exact ri_B32 _
  | mul a b ha hb =>
    refine ⟨fun _ => ri_fold_s hs ?_, fun h => by cases h⟩
    split
    · next hk => exact ri_c32_s (Int32.toInt_mul _ _) (ri_m4_s (ha.1 hk.1) (hb.1 hk.2))
    · exact ri_B32 _
  | div a b ha hb =>
    refine ⟨fun _ => ri_fold_s hs ?_, fun h => by cases h⟩
    split
    · next hk =>
      split
      · split
        · next hc => exact ri_div_s hc (ha.1 hk)
        · exact ri_B32 _
      · exact ri_B32 _
    · exact ri_B32 _
  | rem a b ha hb =>
    refine ⟨fun _ => ri_fold_s hs ?_, fun h => by cases h⟩
    split
    · next hk =>
      split
      · split
        · next hc => exact ri_rem_s hc (ha.1 hk)
        · exact ri_B32 _
      · exact ri_B32 _
    · exact ri_B32 _
  | op2 o a b ha hb =>
    cases o with
    | iand =>
      refine ⟨fun _ => ri_fold_s hs ?_, fun h => by cases h⟩
      split
      · next hc =>
        split
        · next h0 => exact ri_and_s h0
        · exact ri_B32 _
      · exact ri_B32 _
    | ior => exact ⟨fun _ => fin _, fun h => by cases h⟩
    | ixor => exact ⟨fun _ => fin _, fun h => by cases h⟩
    | ishl => exact ⟨fun _ => fin _, fun h => by cases h⟩
    | ishr => exact ⟨fun _ => fin _, fun h => by cases h⟩
    | iushr => exact ⟨fun _ => fin _, fun h => by cases h⟩
    | ladd =>
      refine ⟨fun h => (by cases h), fun _ => ?_⟩
      show ri_B (if ri_k a = 1 ∧ ri_k b = 1 then ri_c64 ((ri_bd cs a).1 + (ri_bd cs b).1, (ri_bd cs a).2 + (ri_bd cs b).2) else ri_F64) _
      split
      · next hk => exact ri_c64_s (Int64.toInt_add _ _) ⟨Int.add_le_add (ha.2 hk.1).1 (hb.2 hk.2).1, Int.add_le_add (ha.2 hk.1).2 (hb.2 hk.2).2⟩
      · exact ri_B64 _
    | lsub =>
      refine ⟨fun h => (by cases h), fun _ => ?_⟩
      show ri_B (if ri_k a = 1 ∧ ri_k b = 1 then ri_c64 ((ri_bd cs a).1 - (ri_bd cs b).2, (ri_bd cs a).2 - (ri_bd cs b).1) else ri_F64) _
      split
      · next hk => exact ri_c64_s (Int64.toInt_sub _ _) ⟨Int.sub_le_sub (ha.2 hk.1).1 (hb.2 hk.2).2, Int.sub_le_sub (ha.2 hk.1).2 (hb.2 hk.2).1⟩
      · exact ri_B64 _
    | lmul => exact ⟨fun h => (by cases h), fun _ => by
        show ri_B (if ri_k a = 1 ∧ ri_k b = 1 then ri_F64 else ri_F64) _
        split <;> exact ri_B64 _⟩
    | land => exact ⟨fun h => (by cases h), fun _ => by
        show ri_B (if ri_k a = 1 ∧ ri_k b = 1 then ri_F64 else ri_F64) _
        split <;> exact ri_B64 _⟩
    | lor => exact ⟨fun h => (by cases h), fun _ => by
        show ri_B (if ri_k a = 1 ∧ ri_k b = 1 then ri_F64 else ri_F64) _
        split <;> exact ri_B64 _⟩
    | lxor => exact ⟨fun h => (by cases h), fun _ => by
        show ri_B (if ri_k a = 1 ∧ ri_k b = 1 then ri_F64 else ri_F64) _
        split <;> exact ri_B64 _⟩
    | lcmp =>
      refine ⟨fun _ => ?_, fun h => by cases h⟩
      show ri_B (if ri_k a = 1 ∧ ri_k b = 1 then ri_fd cs ((.op2 .lcmp a b)) (ri_cmpB (ri_bd cs a) (ri_bd cs b)) else ri_F32) _
      split
      · next hk => exact ri_fold_s hs (ri_cmpB_s (ha.2 hk.1) (hb.2 hk.2))
      · exact ri_B32 _
    | _ => exact ⟨fun h => (by cases h), fun h => (by cases h)⟩
  | op1 o a ha =>
    cases o with
    | i2l =>
      refine ⟨fun h => (by cases h), fun _ => ?_⟩
      show ri_B (if ri_k a = 0 then ri_bd cs a else ri_F64) _
      split
      · next hk => rw [show ri_il ρ (.op1 .i2l a) = (ri_iv ρ a).toInt64 from rfl, Int32.toInt_toInt64]; exact ha.1 hk
      · exact ri_B64 _
    | ineg =>
      refine ⟨fun _ => ri_fold_s hs ?_, fun h => by cases h⟩
      split
      · next hk => exact ri_c32_s (Int32.toInt_neg _) ⟨Int.neg_le_neg (ha.1 hk).2, Int.neg_le_neg (ha.1 hk).1⟩
      · exact ri_B32 _
    | l2i => exact ⟨fun _ => fin _, fun h => by cases h⟩
    | _ => exact ⟨fun h => (by cases h), fun h => (by cases h)⟩
  | _ => first | exact ⟨fun _ => fin _, fun h => (by cases h)⟩ | exact ⟨fun h => (by cases h), fun h => (by cases h)⟩
end RII1
end RII
end
section
/-! RI: tables of the program; the instructions that touch the heap, one way on -/
section RIT
/-- a method: its owner, its name, code, locals, answer, decoded code (by place), the number of its owner's table of links, its handlers -/
abbrev ri_Mt : Type := String × MethodName × ByteArray × Nat × Option FieldType × List (Option (Instr × Nat)) × Nat × List (Nat × Nat × Nat × Nat)
abbrev ri_own (M : ri_Mt) : String := M.1
abbrev ri_nm (M : ri_Mt) : MethodName := M.2.1
abbrev ri_by (M : ri_Mt) : ByteArray := M.2.2.1
abbrev ri_mx (M : ri_Mt) : Nat := M.2.2.2.1
abbrev ri_rt (M : ri_Mt) : Option FieldType := M.2.2.2.2.1
abbrev ri_co (M : ri_Mt) : List (Option (Instr × Nat)) := M.2.2.2.2.2.1
abbrev ri_pn (M : ri_Mt) : Nat := M.2.2.2.2.2.2.1
abbrev ri_hh (M : ri_Mt) : List (Nat × Nat × Nat × Nat) := M.2.2.2.2.2.2.2
/-- the word of its code -/
def ri_hw (M : ri_Mt) : Jvm.Cond := match ri_hh M with
  | [] => .code (ri_nm M) (ri_by M) (ri_mx M) (ri_rt M)
  | h :: t => .codeWith (ri_nm M) (ri_by M) (ri_mx M) (ri_rt M) (h :: t)
/-- a link: its sort, two numbers, a text: 0 a field of class a at place b; 1 the same of a nest mate (text: the host); 20 a method a of b arguments, of an object, 21 static, 22 a constructor; 30, 31, 32 the same of a nest mate; 4 a class a; 5 the class of an exception (text), b the place of its text; 6 (at 100000 more) an array over type a of the list; 7 Object(); 8 the int constant a - b; 14 the long; 9 a String; 10 max; 11 min; 12 arraycopy; 13 the constructor of an exception -/
abbrev ri_Lk : Type := Nat × Nat × Nat × String
/-- classes, array types, methods, links, field types -/
abbrev ri_Tb : Type := List vw_C × List FieldType × List ri_Mt × List (List (Nat × ri_Lk)) × List (List FieldType) × List (String × String × Bool) × Nat × (Nat → Int32)
abbrev ri_cls (G : ri_Tb) : List vw_C := G.1
abbrev ri_aty (G : ri_Tb) : List FieldType := G.2.1
abbrev ri_mts (G : ri_Tb) : List ri_Mt := G.2.2.1
abbrev ri_cps (G : ri_Tb) : List (List (Nat × ri_Lk)) := G.2.2.2.1
abbrev ri_fts (G : ri_Tb) : List (List FieldType) := G.2.2.2.2.1
/-- which exception is of which kind -/
abbrev ri_nc (G : ri_Tb) : List (String × String × Bool) := G.2.2.2.2.2.1
/-- the script: its length, its ints -/
abbrev ri_sn (G : ri_Tb) : Nat := G.2.2.2.2.2.2.1
abbrev ri_sf (G : ri_Tb) : Nat → Int32 := G.2.2.2.2.2.2.2
/-- a way out: what held on the way, the world, the answer or the exception -/
abbrev ri_Lf : Type := List ri_Cd × ri_Me × (Option Jvm.Term ⊕ String)
/-- an index that must be in range: what held, the index, the length -/
abbrev ri_Ob : Type := List ri_Cd × Jvm.Term × Nat
abbrev ri_Rs : Type := List ri_Lf × Nat × Nat × List ri_Ob
def ri_cp (G : ri_Tb) (M : ri_Mt) (idx : Nat) : Option ri_Lk := (((ri_cps G).getD (ri_pn M) []).find? (fun q => q.1 == idx)).map (fun q => q.2)
/-- a field or a component of the type may hold the value -/
def ri_fit (ty : FieldType) (t : Jvm.Term) : Bool := match ty with
  | .int => ri_k t == 0
  | .long => ri_k t == 1
  | .object _ => ri_k t == 2 || ri_k t == 3
  | .array _ => ri_k t == 2 || ri_k t == 3
  | .double => ri_k t == 4
  | .float => ri_k t == 5
  | .boolean => match t with
    | .int v => v == 0 || v == 1
    | _ => false
  | _ => false
theorem ri_fit_s {ρ : Nat → Int32} {sa : String → Nat → Nat} {ad : Nat → Nat} {ty : FieldType} {t : Jvm.Term} (h : ri_fit ty t = true) : narrow ty (ri_cv ρ sa ad t) = ri_cv ρ sa ad t ∧ fits ty (ri_cv ρ sa ad t) = true := by
  cases ty with
  | int => rw [ri_I (beq_iff_eq.mp h)]; exact ⟨rfl, rfl⟩
  | long => rw [ri_L (beq_iff_eq.mp h)]; exact ⟨rfl, rfl⟩
  | double => obtain ⟨b, hb⟩ := ri_Dd (ρ := ρ) (sa := sa) (ad := ad) (beq_iff_eq.mp h); rw [hb]; exact ⟨rfl, rfl⟩
  | float => obtain ⟨b, hb⟩ := ri_Ff (ρ := ρ) (sa := sa) (ad := ad) (beq_iff_eq.mp h); rw [hb]; exact ⟨rfl, rfl⟩
  | object n =>
    rcases (Bool.or_eq_true _ _).mp h with h | h
    · obtain ⟨a, ha⟩ := ri_R (ρ := ρ) (sa := sa) (ad := ad) (beq_iff_eq.mp h); rw [ha]; exact ⟨rfl, rfl⟩
    · rw [ri_N (beq_iff_eq.mp h)]; exact ⟨rfl, rfl⟩
  | array n =>
    rcases (Bool.or_eq_true _ _).mp h with h | h
    · obtain ⟨a, ha⟩ := ri_R (ρ := ρ) (sa := sa) (ad := ad) (beq_iff_eq.mp h); rw [ha]; exact ⟨rfl, rfl⟩
    · rw [ri_N (beq_iff_eq.mp h)]; exact ⟨rfl, rfl⟩
  | boolean =>
    simp only [ri_fit] at h
    split at h
    · next v =>
      rcases (Bool.or_eq_true _ _).mp h with h | h
      · rw [beq_iff_eq.mp h]; exact ⟨rfl, rfl⟩
      · rw [beq_iff_eq.mp h]; exact ⟨rfl, rfl⟩
    · cases h
  | _ => cases h
def ri_dft : FieldType → Jvm.Term
  | .byte => .int 0 | .char => .int 0 | .short => .int 0 | .boolean => .int 0 | .int => .int 0
  | .long => .long 0
  | .double => .op1 .bitsD (.long 0)
  | .float => .op1 .bitsF (.int 0)
  | _ => .null
theorem ri_dft_s {ρ : Nat → Int32} {sa : String → Nat → Nat} {ad : Nat → Nat} (ty : FieldType) : ri_cv ρ sa ad (ri_dft ty) = defaultValue ty := by cases ty <;> rfl
theorem ri_dft_ok {n : Nat} (ty : FieldType) : ri_ok n (ri_dft ty) := by cases ty <;> exact trivial
/-- a constant index in range, as a number -/
def ri_ix (i : Jvm.Term) (n : Nat) : Option Nat := match i with
  | .int v => if v < 0 ∨ n ≤ v.toNatClampNeg then none else some v.toNatClampNeg
  | _ => none
theorem ri_ix_s {i : Jvm.Term} {n j : Nat} (h : ri_ix i n = some j) : ∃ v : Int32, i = .int v ∧ vp_in v n ∧ v.toNatClampNeg = j ∧ j < n := by
  unfold ri_ix at h
  split at h
  · next v =>
    split at h
    · cases h
    · next hv => cases h; exact ⟨v, rfl, hv, rfl, Nat.not_le.mp fun q => hv (Or.inr q)⟩
  · cases h
abbrev ri_H1 : Type := Nat × List Jvm.Term × ri_Me × Nat × Nat × List ri_Ob
def ri_getf (G : ri_Tb) (M : ri_Mt) (idx : Nat) (st : List Jvm.Term) (mem : ri_Me) : Option ri_H1 := match ri_cp G M idx, st with
  | some (kd, ci, j, _), .index k :: r => match mem[k]? with
    | some (.inl (ci2, fs)) => match fs[j]? with
      | some t => if kd ≤ 1 ∧ ci2 = ci then some (3, t :: r, mem, 0, 0, []) else none
      | none => none
    | _ => none
  | _, _ => none
def ri_putf (G : ri_Tb) (M : ri_Mt) (idx : Nat) (st : List Jvm.Term) (mem : ri_Me) : Option ri_H1 := match ri_cp G M idx, st with
  | some (kd, ci, j, _), t :: .index k :: r => match mem[k]?, (ri_cls G)[ci]?, ((ri_fts G).getD ci [])[j]? with
    | some (.inl (ci2, fs)), some (_, T, _), some ty => if kd ≤ 1 ∧ ci2 = ci ∧ j < fs.length ∧ ri_fit ty t = true ∧ ((T j).2.2.2 = false ∨ (kd = 0 ∧ (ri_nm M).name = "<init>" ∧ (T j).1 = ri_own M)) then some (3, r, mem.set k (.inl (ci, fs.set j t)), 0, 0, []) else none
    | _, _, _ => none
  | _, _ => none
def ri_iald (G : ri_Tb) (cs : List ri_Cd) (st : List Jvm.Term) (mem : ri_Me) : Option ri_H1 := match st with
  | i :: .index k :: r => match mem[k]? with
    | some (.inr (ty, n, d, ov)) => if (ri_aty G)[ty]? = some .int then (match ri_ix i n with
        | some j => if ri_k (ri_look d ov j) = 0 then some (1, ri_look d ov j :: r, mem, 0, 0, []) else none
        | none => match ov with
          | [] => if ri_k i = 0 ∧ ri_k d = 0 ∧ 0 ≤ (ri_bd cs i).1 ∧ (ri_bd cs i).2 < (n : Int) then some (1, d :: r, mem, 0, 0, []) else none
          | _ => none) else none
    | _ => none
  | _ => none
def ri_iast (G : ri_Tb) (st : List Jvm.Term) (mem : ri_Me) : Option ri_H1 := match st with
  | t :: i :: .index k :: r => match mem[k]? with
    | some (.inr (ty, n, d, ov)) => match ri_ix i n with
      | some j => if (ri_aty G)[ty]? = some .int ∧ ri_k t = 0 then some (1, r, mem.set k (.inr (ty, n, d, ri_put d ov j t)), 0, 0, []) else none
      | none => none
    | _ => none
  | _ => none
def ri_lald (G : ri_Tb) (st : List Jvm.Term) (mem : ri_Me) : Option ri_H1 := match st with
  | i :: .index k :: r => match mem[k]? with
    | some (.inr (ty, n, d, ov)) => match ri_ix i n with
      | some j => if (ri_aty G)[ty]? = some .long ∧ ri_k (ri_look d ov j) = 1 then some (1, ri_look d ov j :: r, mem, 0, 0, []) else none
      | none => none
    | _ => none
  | _ => none
def ri_last (G : ri_Tb) (st : List Jvm.Term) (mem : ri_Me) : Option ri_H1 := match st with
  | t :: i :: .index k :: r => match mem[k]? with
    | some (.inr (ty, n, d, ov)) => match ri_ix i n with
      | some j => if (ri_aty G)[ty]? = some .long ∧ ri_k t = 1 then some (1, r, mem.set k (.inr (ty, n, d, ri_put d ov j t)), 0, 0, []) else none
      | none => none
    | _ => none
  | _ => none
def ri_aald (G : ri_Tb) (st : List Jvm.Term) (mem : ri_Me) : Option ri_H1 := match st with
  | i :: .index k :: r => match mem[k]? with
    | some (.inr (ty, n, d, ov)) => match ri_ix i n, (ri_aty G)[ty]? with
      | some j, some (.object _) => if ri_k (ri_look d ov j) = 2 ∨ ri_k (ri_look d ov j) = 3 then some (1, ri_look d ov j :: r, mem, 0, 0, []) else none
      | _, _ => none
    | _ => none
  | _ => none
def ri_aast (G : ri_Tb) (st : List Jvm.Term) (mem : ri_Me) : Option ri_H1 := match st with
  | .index kv :: i :: .index k :: r => match mem[k]?, mem[kv]? with
    | some (.inr (ty, n, d, ov)), some (.inl (ci, _)) => match ri_ix i n, (ri_cls G)[ci]? with
      | some j, some rr => if (ri_aty G)[ty]? = some (.object rr.1) then some (1, r, mem.set k (.inr (ty, n, d, ri_put d ov j (.index kv))), 0, 0, []) else none
      | _, _ => none
    | _, _ => none
  | _ => none
def ri_alen (G : ri_Tb) (st : List Jvm.Term) (mem : ri_Me) : Option ri_H1 := match st with
  | .index k :: r => match mem[k]? with
    | some (.inr (ty, n, _, _)) => match (ri_aty G)[ty]? with
      | some _ => some (1, ri_ci (Int32.ofNat n) :: r, mem, 0, 0, [])
      | none => none
    | _ => none
  | _ => none
def ri_newo (G : ri_Tb) (M : ri_Mt) (idx : Nat) (st : List Jvm.Term) (mem : ri_Me) : Option ri_H1 := match ri_cp G M idx with
  | some (4, ci, _, _) => match (ri_cls G)[ci]?, (ri_fts G)[ci]? with
    | some (_, _, N), some tys => some (3, .index mem.length :: st, mem ++ [.inl (ci, tys.map ri_dft)], 1, N, [])
    | _, _ => none
  | _ => none
def ri_isI : FieldType → Bool
  | .int => true | .long => true
  | .object _ => true
  | _ => false
def ri_newr (G : ri_Tb) (ty : FieldType) (len : Nat) (st : List Jvm.Term) (mem : ri_Me) : Option ri_H1 := match st, (ri_aty G).findIdx? (fun z => z == ty) with
  | .int v :: r, some a => if ri_isI ty = true ∧ ¬ v < 0 ∧ v.toNatClampNeg ≤ 65536 then some (len, .index mem.length :: r, mem ++ [.inr (a, v.toNatClampNeg, ri_dft ty, [])], 1, v.toNatClampNeg, []) else none
  | _, _ => none
def ri_ldc (G : ri_Tb) (M : ri_Mt) (idx : Nat) (st : List Jvm.Term) (mem : ri_Me) : Option ri_H1 := match ri_cp G M idx with
  | some (8, a, b, _) => some (2, ri_ci (Int32.ofNat a - Int32.ofNat b) :: st, mem, 0, 0, [])
  | some (9, _, _, _) => some (2, .string (ri_own M) idx :: st, mem, 0, 0, [])
  | _ => none
def ri_ldcw (G : ri_Tb) (M : ri_Mt) (idx : Nat) (st : List Jvm.Term) (mem : ri_Me) : Option ri_H1 := match ri_cp G M idx with
  | some (9, _, _, _) => some (3, .string (ri_own M) idx :: st, mem, 0, 0, [])
  | _ => none
def ri_ldc2 (G : ri_Tb) (M : ri_Mt) (idx : Nat) (st : List Jvm.Term) (mem : ri_Me) : Option ri_H1 := match ri_cp G M idx with
  | some (14, a, b, _) => some (3, ri_cl (Int64.ofNat a - Int64.ofNat b) :: st, mem, 0, 0, [])
  | _ => none
/-- a whole row of ints copied over another of its length -/
def ri_acpy (G : ri_Tb) (st : List Jvm.Term) (mem : ri_Me) : Option ri_H1 := match st with
  | .int n :: .int dp :: .index k1 :: .int sp :: .index k0 :: r => match mem[k0]?, mem[k1]? with
    | some (.inr (t0, n0, d0, o0)), some (.inr (t1, n1, _, _)) => if (ri_aty G)[t0]? = some .int ∧ t1 = t0 ∧ n0 = n1 ∧ sp = 0 ∧ dp = 0 ∧ ¬ n < 0 ∧ n.toNatClampNeg = n0 ∧ r.length ≤ 4 then some (3, r, mem.set k1 (.inr (t0, n0, d0, o0)), 0, 0, []) else none
    | _, _ => none
  | _ => none
/-- the script of the law: its ints, at the place of the text "" 0 -/
def ri_lw (M : ri_Mt) : Bool := ri_pn M == 10
def ri_sld (G : ri_Tb) (M : ri_Mt) (st : List Jvm.Term) (mem : ri_Me) : Option ri_H1 := match st with
  | i :: .string c k :: r => match ri_ix i (ri_sn G) with
    | some j => if ri_lw M = true ∧ c = "" ∧ k = 0 then some (1, .int (ri_sf G j) :: r, mem, 0, 0, []) else none
    | none => none
  | _ => none
def ri_slen (G : ri_Tb) (M : ri_Mt) (st : List Jvm.Term) (mem : ri_Me) : Option ri_H1 := match st with
  | .string c k :: r => if ri_lw M = true ∧ c = "" ∧ k = 0 then some (1, .int (Int32.ofNat (ri_sn G)) :: r, mem, 0, 0, []) else none
  | _ => none
def ri_typeOf : ArrayType → FieldType := newarray.typeOf
def ri_heap (G : ri_Tb) (M : ri_Mt) (cs : List ri_Cd) (i : Instr) (st : List Jvm.Term) (mem : ri_Me) : Option ri_H1 := match i with
  | .getfield idx => ri_getf G M idx st mem
  | .putfield idx => ri_putf G M idx st mem
  | .iaload => match ri_sld G M st mem with
    | some x => some x
    | none => ri_iald G cs st mem
  | .iastore => ri_iast G st mem
  | .laload => ri_lald G st mem
  | .lastore => ri_last G st mem
  | .ldc2_w idx => ri_ldc2 G M idx st mem
  | .aaload => ri_aald G st mem
  | .aastore => ri_aast G st mem
  | .arraylength => match ri_slen G M st mem with
    | some x => some x
    | none => ri_alen G st mem
  | .new idx => ri_newo G M idx st mem
  | .newarray t => ri_newr G (ri_typeOf t) 2 st mem
  | .anewarray idx => match ri_cp G M (idx + 100000) with
    | some (6, a, _, _) => match (ri_aty G)[a]? with
      | some ty => ri_newr G ty 3 st mem
      | none => none
    | _ => none
  | .ldc idx => ri_ldc G M idx st mem
  | .ldc_w idx => ri_ldcw G M idx st mem
  | .invokestatic idx => match ri_cp G M idx with
    | some (12, _, _, _) => ri_acpy G st mem
    | _ => none
  | _ => none
end RIT
end
section
/-! an exception thrown, its constructor calling its upper one by a link of any number; rows of EXCEPTIONS.to-paste, turned to that -/
section RIXC
def ri_ownX (own : String) (ic : Nat) (X : String) (ix : Nat) (rx : ByteArray) (Y : String) (names : List String) : List Cond :=
  Bundle.throwableAtoms ++ Bundle.throwableSAtoms ++ (Bundle.passSAtoms X Y ix rx ++ Bundle.chainSAtoms Y names) ++
  [.methodLink own ic (Bundle.initS X), .instantiable X 6, .castable X X, .selects X Bundle.tFill0 Bundle.tFill0, .selects X Bundle.tFill Bundle.tFill,
   .lays X Bundle.tN "cause" "Ljava/lang/Throwable;", .lays X Bundle.tN "stackTrace" Bundle.steD, .lays X Bundle.tN "suppressedExceptions" Bundle.listD, .lays X Bundle.tN "detailMessage" "Ljava/lang/String;",
   .isRef (.static Bundle.tN "UNASSIGNED_STACK" Bundle.steD), .isRef (.static Bundle.tN "SUPPRESSED_SENTINEL" Bundle.listD),
   .fieldLink Bundle.tN 198 Bundle.tN "backtrace" "Ljava/lang/Object;", .lays Bundle.tN Bundle.tN "backtrace" "Ljava/lang/Object;", .lays X Bundle.tN "backtrace" "Ljava/lang/Object;"]
def ri_atX (own : String) (ic : Nat) (X : String) (ix : Nat) (rx : ByteArray) (Y : String) (names : List String) : List Cond := (ri_ownX own ic X ix rx Y names).filter vx_no
theorem ri_chainX {args : Array Value} {s : State} {pl : Platform} (hpl : pl.magicAccessors = ({} : Platform).magicAccessors) {top : MethodId} (htop : s.methodNamed? (Bundle.initS Bundle.tN) = some top)
    {ix : Nat} {rx : ByteArray} (x0 : decode rx 0 = .ok (.aload_n 0, 1)) (x1 : decode rx 1 = .ok (.aload_n 1, 1)) (x2 : decode rx 2 = .ok (.invokespecial ix, 3)) (x5 : decode rx 5 = .ok (.return_, 1))
    {X Y : String} {names : List String} (hX : Bundle.fit X = true) (hY : Bundle.fit Y = true) (hn : ∀ n ∈ names, Bundle.fit n = true) (h : ∀ c ∈ Bundle.passSAtoms X Y ix rx ++ Bundle.chainSAtoms Y names, c.before args s = true) :
    ∃ (P1 : PassC) (Ps : List PassC), Ps.length = names.length + 1 ∧ P1.LinksS pl s ∧ (∀ P, P ∈ Ps → P.LinksS pl s) ∧ s.methodNamed? (Bundle.initS X) = some P1.m ∧
        P1.sup = firstOf top (Ps.map (·.toPassT)) ∧ PassesOn top (Ps.map (·.toPassT)) := by
  obtain ⟨P, LP, hm, hs⟩ := PassC.ofS_atoms (args := args) (s := s) hpl (X := X) (Y := Y) (Bundle.fit_spec hX).1 (Bundle.fit_spec hY).2 x0 x1 x2 x5 (fun c hc => h c (List.mem_append_left _ hc))
  obtain ⟨P', Ps, hlen, L', hL, hm', hsup, hpass⟩ := Bundle.chainS (args := args) hpl htop names Y hY hn (fun c hc => h c (List.mem_append_right _ hc))
  refine ⟨P, P' :: Ps, congrArg (· + 1) hlen, LP, fun Q hQ => ?_, hm, Option.some.inj (hs.symm.trans hm'), hsup, hpass⟩
  rcases List.mem_cons.mp hQ with rfl | hQ
  · exact L'
  · exact hL Q hQ
section RIXC1
variable {p : Program} {l : Launch} {e : Env} {R : Room} {s : State} {m₀ : MethodId} {args : Array Value} {below : List Frame} {meth : Method} {c : Code} {W : State} {locs : List Loc} {cells slots : Nat}
set_option maxHeartbeats 1000000 in
theorem ri_ctorMadeX (X : Stand p l e R s m₀ args below meth c W locs cells slots) (hexec : p.tables.exec = Jvm.exec) (htr : e.platform.stackTraces = false) {own cls Y0 : String} {names : List String} {ic ix : Nat} {rx : ByteArray} (x0 : decode rx 0 = .ok (.aload_n 0, 1)) (x1 : decode rx 1 = .ok (.aload_n 1, 1)) (x2 : decode rx 2 = .ok (.invokespecial ix, 3)) (x5 : decode rx 5 = .ok (.return_, 1))
    (hown : s.vm.findClass own = some m₀.cls) (hcls : Bundle.fit cls = true) (hY0 : Bundle.fit Y0 = true) (hnames : ∀ n ∈ names, Bundle.fit n = true)
    (h : ∀ a ∈ ri_ownX own ic cls ix rx Y0 names, a.before args s = true)
    (hlocs : ∀ x ∈ locs, ∀ cell, s.heap[x.base]? = some cell → cell.vm.isStatics = false)
    {a : Addr} {cX : ClassId} {kX : Class} (hfoundX : s.vm.findClass cls = some cX) (hkX : s.vm.classes[cX]? = some kX) (hcell : W.heap[a]? = some (freshCell cX kX)) (hnew : s.heap.size ≤ a)
    {msg : Value} (hmsg : msg.isRef = true)
    {g : JFrame} (hg : g.method = m₀) (hsize : g.locals.size = c.maxLocals) {rest : List Value} (hstack : g.stack = msg :: .ref a :: .ref a :: rest)
    (hd6 : decode c.code g.pc = .ok (.invokespecial ic, 3))
    (hRframes : names.length + 4 < R.frames) (hRlocals : 2 * g.monitorRoom + ((Value.ref a :: rest).map fun v => v.category).sum + (13 * (names.length + 2) + 42) ≤ R.locals) :
    ∃ (V : State) (ce : Cell) (L : List Loc), Stand p l e R s m₀ args below meth c (V.setCell a ce) (locs ++ L) cells slots ∧ (∀ y ∈ L, y.base = a) ∧ a < V.heap.size ∧ ce.cls = cX ∧ ce.vm = .none ∧
      ∀ target, Steps p.tables e below ((V.setCell a ce).setTop { g with stack := .ref a :: rest, pc := g.pc + 3 }) target → Steps p.tables e below (W.setTop g) target := by
  have howns : e.platform.frameOwnsMonitors = true := by rw [X.admits.platform]
  have hfin : e.platform.finalization = false := by rw [X.admits.platform]
  have hpl : e.platform.magicAccessors = ({} : Platform).magicAccessors := by rw [X.admits.platform]
  have a' : ∀ x, x ∈ ri_ownX own ic cls ix rx Y0 names → x.holds args s none s [] = true := fun x hx => h x hx
  obtain ⟨T, Z0, L, -, Y⟩ := ThrowableC.of_atoms (args := args) howns hfin hpl (fun x hx => h x (by simp [ri_ownX, hx]))
  obtain ⟨Z, M, LZ, LM, hnZ⟩ := Init0T.ofS_atoms (args := args) hpl L Y (fun x hx => h x (by simp [ri_ownX, hx]))
  obtain ⟨P1, Ps, hlen, L1, hL, hP1m, hlink1, hlink⟩ := ri_chainX (args := args) hpl hnZ x0 x1 x2 x5 hcls hY0 hnames (fun x hx => h x (List.mem_append_left _ (List.mem_append_right _ hx)))
  have hfound : s.vm.findClass cls = some P1.m.cls := findClass_of_methodNamed hP1m
  cases Option.some.inj (hfoundX.symm.trans hfound)
  obtain ⟨c1, kX', hc1, hk, hord, -, -, hn6⟩ := Cond.instantiable_spec (a' (.instantiable cls 6) (by simp [ri_ownX]))
  cases Option.some.inj (hc1.symm.trans hfound)
  cases Option.some.inj (hkX.symm.trans hk)
  have hsel0 : selectMethod e.platform s.vm P1.m.cls T.fill0 = .method T.fill0 := by
    obtain ⟨c2, r2, m2, q1, q2, q3, q4, -⟩ := Cond.selects_spec (a' (.selects cls Bundle.tFill0 Bundle.tFill0) (by simp [ri_ownX]))
    cases Option.some.inj (q1.symm.trans hfound)
    cases Option.some.inj (q2.symm.trans (State.methodFound?_of_named Y.fill0 (by decide)))
    cases Option.some.inj (q3.symm.trans Y.fill0)
    rw [Launch.admits_selectMethod X.admits]; exact q4
  have hselF : selectMethod e.platform s.vm P1.m.cls T.fill = .method T.fill := by
    obtain ⟨c2, r2, m2, q1, q2, q3, q4, -⟩ := Cond.selects_spec (a' (.selects cls Bundle.tFill Bundle.tFill) (by simp [ri_ownX]))
    cases Option.some.inj (q1.symm.trans hfound)
    cases Option.some.inj (q2.symm.trans (State.methodFound?_of_named Y.fill (by decide)))
    cases Option.some.inj (q3.symm.trans Y.fill)
    rw [Launch.admits_selectMethod X.admits]; exact q4
  obtain ⟨cellS0, hcS0, hiss⟩ := Y.statics
  obtain ⟨u0, hu0⟩ := Cond.staticRefV Y.unassigned L.unassignedStatic L.statics hcS0 hiss (a' (.isRef (.static Bundle.tN "UNASSIGNED_STACK" Bundle.steD)) (by simp [ri_ownX]))
  obtain ⟨sen, hsen⟩ := Cond.staticRefV Y.sentinel L.sentinelStatic L.statics hcS0 hiss (a' (.isRef (.static Bundle.tN "SUPPRESSED_SENTINEL" Bundle.listD)) (by simp [ri_ownX]))
  obtain ⟨ci198, i198, fB, hk198, hg198, ha198, hsB, -, hnB, htB, hffB⟩ := Cond.ownField (t := .object "java/lang/Object") Y.found L.cls (by decide +kernel) (a' (.fieldLink Bundle.tN 198 Bundle.tN "backtrace" "Ljava/lang/Object;") (by simp [ri_ownX])) (a' (.lays Bundle.tN Bundle.tN "backtrace" "Ljava/lang/Object;") (by simp [ri_ownX])) e.platform hpl
  obtain ⟨cellS, hcS', heS, -, hkeep⟩ := X.same.2.2.2.2.2 T.aS cellS0 hcS0
  have hcellS : W.heap[T.aS]? = some cellS := hcS'
  have hout' : ∀ i, (⟨T.aS, i⟩ : Loc) ∉ locs := fun i hmem => by
    have := hlocs _ hmem cellS0 hcS0
    rw [hiss] at this; cases this
  have hknownS : cellS.vm ≠ .unknown := by
    rw [heS]; intro hu
    rw [show cellS0.vm = .unknown from hu] at hiss
    cases hiss
  have hneS : T.aS ≠ a := Nat.ne_of_lt (Nat.lt_of_lt_of_le (Array.getElem?_eq_some_iff.mp hcS0).1 hnew)
  obtain ⟨iM, hffM⟩ := Y.msg
  obtain ⟨tyC, dC, hdC, hdnC⟩ := Cond.laysAt hfound hk Y.cause (a' (.lays cls Bundle.tN "cause" "Ljava/lang/Throwable;") (by simp [ri_ownX]))
  obtain ⟨tyS, dS, hdS, hdnS⟩ := Cond.laysAt hfound hk Y.stack (a' (.lays cls Bundle.tN "stackTrace" Bundle.steD) (by simp [ri_ownX]))
  obtain ⟨tyP, dP, hdP, hdnP⟩ := Cond.laysAt hfound hk Y.supp (a' (.lays cls Bundle.tN "suppressedExceptions" Bundle.listD) (by simp [ri_ownX]))
  obtain ⟨tyM, dM, hdM, hdnM⟩ := Cond.laysAt hfound hk hffM (a' (.lays cls Bundle.tN "detailMessage" "Ljava/lang/String;") (by simp [ri_ownX]))
  obtain ⟨tyB, dB, hdB, hdnB⟩ := Cond.laysAt hfound hk hffB (a' (.lays cls Bundle.tN "backtrace" "Ljava/lang/Object;") (by simp [ri_ownX]))
  have bC := Cond.laysApart hdB hdC hdnB hdnC (by rw [hnB, Y.causeName]; decide)
  have bS := Cond.laysApart hdB hdS hdnB hdnS (by rw [hnB, Y.stackName]; decide)
  have bP := Cond.laysApart hdB hdP hdnB hdnP (by rw [hnB, Y.suppName]; decide)
  have hskip : SkipFacts T e.platform s (fun u => u) u0 ((preparedCellV T.toThrowableT (freshCell P1.m.cls kX) a u0 sen).withEntry W.cur) :=
    ⟨{ ci198 := ci198, i198 := i198, fBack := fB }, ⟨hk198, hg198, ha198, hsB⟩, by
      have := fresh_default (c := P1.m.cls) tyB
      rw [htB] at this
      simpa [preparedCellV, Cell.setSlot, Cell.withEntry, Array.getElem?_setIfInBounds, bC, bS, bP, bC.symm, bS.symm, bP.symm, defaultValue] using this, fun _ _ => rfl⟩
  obtain ⟨tm, methC, cdC, kC, vm₁, hnC, -, -, -, -, -, -, -, hW₁, st1⟩ := Steps.initColdS (tb := p.tables) (e := e) (below := below) (s := s) (U := W) X.here hexec X.warmed hpl hown (t := Bundle.initS cls) rfl rfl (Bundle.fit_spec hcls).2
    (a' (.methodLink own ic (Bundle.initS cls)) (by simp [ri_ownX])) (h (.instanceMethod (Bundle.initS cls)) (by simp [ri_ownX, Bundle.passSAtoms])) (bytes := rx) (maxL := 2) (h (.code (Bundle.initS cls) rx 2 none) (by simp [ri_ownX, Bundle.passSAtoms]))
    (f := g) hg (a := a) (msg := msg) (rest := .ref a :: rest) hstack hd6
  cases Option.some.inj (hnC.symm.trans hP1m)
  have X₁ := X.noted hW₁
  obtain ⟨vm₂, X₂, st2⟩ := X₁.ctorMessageOffV hexec (g := { g with stack := .ref a :: rest }) hg hsize T L Z LZ M LM (P1 :: Ps)
    (fun P hP => by rcases List.mem_cons.mp hP with rfl | hP; exact L1; exact hL P hP) ⟨hlink1, hlink⟩ (u0 := u0) (sen := sen) (self := a) hmsg (cell := freshCell P1.m.cls kX) (cellS := cellS)
    hcell (fun _ => by simp) (by simp) rfl rfl hsel0 hselF hcellS hneS hknownS (by rw [hkeep _ (hout' _)]; exact hu0) (by rw [hkeep _ (hout' _)]; exact hsen)
    (Takes.of_laid hk hord tyC (by rw [Y.causeType]; rfl)) (Takes.of_laid hk hord tyS (by rw [Y.stackType]; exact fits_refV_array _ u0)) (Takes.of_laid hk hord tyP (by rw [Y.suppType]; exact fits_refV_object _ sen))
    (Takes.of_laid hk hord tyM (by rw [Y.msgType]; exact fits_refV_object _ ⟨msg, hmsg⟩)) Y.objLocals hskip htr [] hd6
    (by simp only [List.length_cons, hlen]; omega) (by simp only [List.length_cons, hlen]; exact hRlocals)
  have hlt : a < ((W.setVm vm₁).setVm vm₂).heap.size := (Array.getElem?_eq_some_iff.mp hcell).1
  refine ⟨(W.setVm vm₁).setVm vm₂, _, _, X₂, fun y hy => ?_, hlt, rfl, rfl, fun target hwalk => st1 _ (fun acts => ?_)⟩
  · simp only [List.mem_cons, List.not_mem_nil, or_false] at hy
    rcases hy with rfl | rfl | rfl | rfl | rfl <;> rfl
  · rw [doInvoke_state]
    exact st2 _ hwalk
end RIXC1
section RIXC2
variable {p : Program} {l : Launch} {e : Env} {R : Room} {s : State} {m : MethodId} {args : Array Value} {below : List Frame} {meth : Method} {c : Code} {H : Heap} {locs : List Loc} {cells slots : Nat}
variable {ls : Array Slot} {rest : List Value} {Qc : Array Value → State → Outcome → State → Prop} {XC : String → State → State → Prop} {free : Addr → Prop}
theorem ri_throwX {cc : ByteArray} {pc : Nat} (hexec : p.tables.exec = Jvm.exec) (hb : c.code = cc) (hl : l.stackTraces = false) {own cls text Y0 : String} {names : List String} {ik is ic ix mc ms sa : Nat} {rx : ByteArray} {A : Nat → Prop}
    (hown : s.vm.findClass own = some m.cls) (hcls : Bundle.fit cls = true) (hY0 : Bundle.fit Y0 = true) (hnames : ∀ n ∈ names, Bundle.fit n = true) (x0 : decode rx 0 = .ok (.aload_n 0, 1)) (x1 : decode rx 1 = .ok (.aload_n 1, 1)) (x2 : decode rx 2 = .ok (.invokespecial ix, 3)) (x5 : decode rx 5 = .ok (.return_, 1))
    (hk : (Cond.classLink own ik cls).before args s = true) (hini : (Cond.initialized cls).before args s = true) (hstr : vk_R own is text sa s) (hat : ∀ w ∈ ri_atX own ic cls ix rx Y0 names, w.before args s = true)
    (hgood : ∀ w ∈ Cond.classLink own ik cls :: Cond.initialized cls :: ri_atX own ic cls ix rx Y0 names, vx_ot w = true)
    (hU : vx_Zq Bundle.tN "UNASSIGNED_STACK" Bundle.steD A s s.heap) (hN : vx_Zq Bundle.tN "SUPPRESSED_SENTINEL" Bundle.listD A s s.heap) (hS : va_S A s.heap H locs) (hsize : ls.size = c.maxLocals)
    (d0 : decode cc pc = .ok (.new ik, 3)) (d3 : decode cc (pc + 3) = .ok (.dup, 1)) (d4 : decode cc (pc + 4) = .ok (.ldc is, 2)) (d6 : decode cc (pc + 6) = .ok (.invokespecial ic, 3)) (d9 : decode cc (pc + 9) = .ok (.athrow, 1))
    (hout : ∀ x ∈ c.exceptionTable.toList, covers x (pc + 9) = false)
    (hRframes : names.length + 4 < R.frames) (hRlocals : (rest.map fun v => v.category).sum + (13 * (names.length + 2) + 43) ≤ R.locals) (hRcells : cells + 1 ≤ R.cells) (hRslots : slots + 6 ≤ R.slots) (hlocks : meth.locks = false)
    (hx : ∀ t : State, s.vm.Alike t.vm → H.size ≤ t.heap.size → (∀ q : Nat, q < H.size → t.heap[q]? = H[q]?) → XC cls s t)
    (hf : ∀ z ∈ locs, free z.base) (hc : cells + 1 ≤ mc) (hs : slots + 6 ≤ ms) :
    W p l e R s m args below meth c H locs cells slots (vx_MQ below Qc XC args s mc ms free) (F0 m pc ls rest) := by
  intro T hT X
  have htr : e.platform.stackTraces = false := (show e.platform.stackTraces = l.stackTraces by rw [X.admits.platform]).trans hl
  have Y := vx_rebase X (R' := { frames := R.frames, locals := R.locals, cells := 1, slots := 6 }) (Nat.le_refl _) (Nat.le_refl _) hRcells hRslots
  obtain ⟨s', hA⟩ : ∃ z, z = (T.setVm s.vm).setFrames (.invoking m args :: below) := ⟨_, rfl⟩
  rw [← hA] at Y
  have hvm : s'.vm = s.vm := by rw [hA]; rfl
  have hhp : s'.heap = H := by rw [hA]; exact hT
  have hW0 : s.WarmedH s'.vm := by rw [hvm]; exact State.WarmedH.refl s
  have hat' : ∀ w ∈ ri_atX own ic cls ix rx Y0 names, w.before args s' = true := fun w hw => vx_ot_at hW0 hvm.symm (hgood w (List.mem_cons_of_mem _ (List.mem_cons_of_mem _ hw))) (hat w hw)
  have hk' : (Cond.classLink own ik cls).before args s' = true := vx_ot_at hW0 hvm.symm (hgood _ List.mem_cons_self) hk
  have hini' : (Cond.initialized cls).before args s' = true := vx_ot_at hW0 hvm.symm (hgood _ (List.mem_cons_of_mem _ List.mem_cons_self)) hini
  have hU' : vx_Zq Bundle.tN "UNASSIGNED_STACK" Bundle.steD A s' s'.heap := by rw [hhp]; exact vx_Zq.moved hW0.alike (hU.kept hS.2.1)
  have hN' : vx_Zq Bundle.tN "SUPPRESSED_SENTINEL" Bundle.listD A s' s'.heap := by rw [hhp]; exact vx_Zq.moved hW0.alike (hN.kept hS.2.1)
  have h : ∀ w ∈ ri_ownX own ic cls ix rx Y0 names, w.before args s' = true := vx_own hat' (vx_isRefq hU'.1) (vx_isRefq hN'.1) hU'.2.word hN'.2.word
  have hown' : s'.vm.findClass own = some m.cls := by rw [hvm]; exact hown
  have hins : (Cond.instantiable cls 6).before args s' = true := h _ (by simp [ri_ownX])
  obtain ⟨vm₁, cX, kX, hfX, hkX, -, -, X₁, st1⟩ := Y.newCold hexec (own := own) (C := cls) (index := ik) (n := 6) hown' hk' hins hini'
    (g := F0 m pc ls rest) rfl (by rw [hb]; exact d0) (Nat.le_refl _) (Nat.le_refl _)
  generalize hT1 : (T.setVm vm₁).pushCell { cls := cX, slots := kX.instanceTypes.map defaultValue, vm := .none } = T1 at X₁ st1
  have hcat : (Value.ref T.heap.size).category = 1 := rfl
  have hcellA : T1.heap[T.heap.size]? = some (freshCell cX kX) := by rw [← hT1]; exact State.heap_pushCell_size _ _
  have d3' : decode c.code (pc + 3) = .ok (.dup, 1) := by rw [hb]; exact d3
  have d4' : decode c.code (pc + 4) = .ok (.ldc is, 2) := by rw [hb]; exact d4
  have hstr' : vk_R own is text sa s' := vk_R.warm hW0 hstr
  obtain ⟨V, ce, L9, Z, hL, hlt, hcl9, hvm9, st⟩ := ri_ctorMadeX X₁ hexec htr (own := own) (cls := cls) (names := names) (ic := ic) x0 x1 x2 x5 hown' hcls hY0 hnames h (fun x hx => nomatch hx) hfX hkX hcellA (by rw [hhp, hT]; exact Nat.le_refl _) (msg := .ref sa) rfl
    (g := { method := m, pc := pc + 6, locals := ls, stack := .ref sa :: .ref T.heap.size :: .ref T.heap.size :: rest, locked := none }) rfl hsize (rest := rest) rfl
    (by rw [hb]; exact d6) hRframes (by simp only [List.map_cons, List.sum_cons, hcat]; omega)
  have Z0 := Stand.forget (locs := []) Z (fun y hy => by rw [hL y hy, hhp, hT]; exact Nat.le_refl _)
  obtain ⟨hwalk, hrun, hend, hW, hsame⟩ := Z0.athrowLeaves hexec (g := { method := m, pc := pc + 6 + 3, locals := ls, stack := .ref T.heap.size :: rest, locked := none }) rfl rfl rfl hout (a := T.heap.size) (rest := rest) rfl (by rw [hb]; exact d9) hlocks
  have hsteps := st _ hwalk
  generalize hU9 : (V.setCell T.heap.size ce).setFrames (.throwing T.heap.size :: below) = U at hsteps hrun hend hW hsame
  have hce : U.heap[T.heap.size]? = some ce := by rw [← hU9]; exact heapAt_setCell_self (s := V) ce hlt
  obtain ⟨f1, f2⟩ := vx_frame hsame
  rw [hhp] at f1 f2
  have hWs : s.WarmedH U.vm := State.WarmedH.trans hW0 hW
  have hcl : s.vm.findClass cls = some ce.cls := by
    have h9 := hfX
    rw [hvm, ← hcl9] at h9
    exact h9
  have hall : s.sameButNew ({ U with vm := s.vm } : State) locs mc ms := by
    subst hA
    obtain ⟨e1, e2⟩ := hsame
    rw [State.setFrames_setFrames] at e1
    have h2 : (T.setVm s.vm).sameButNew ({ U with vm := s.vm } : State) [] (0 + 1) (0 + 6) := ⟨e1, e2⟩
    have h3 := X.same.trans h2
    rw [List.append_nil] at h3
    exact h3.mono hc hs
  refine ⟨U, ?_, .threw T.heap.size, hrun, hend, Or.inr ⟨T.heap.size, rfl, cls, ce, locs, hx U hWs.alike f1 (fun q hq => f2 q hq (fun z hz => nomatch hz)), hce, hvm9, hcl, hWs, hall, hf⟩⟩
  refine st1 _ ?_
  show Steps p.tables e below (T1.setTop { method := m, pc := pc + 3, locals := ls, stack := .ref T.heap.size :: rest, locked := none }) _
  jvm_step X₁.here [X₁.here.top, hexec, d3', Value.category]
  exact X₁.ldcString hexec (own := own) (text := text) (index := is) (a := sa) hown' hstr'.1 hstr'.2
    (g := { method := m, pc := pc + 4, locals := ls, stack := .ref T.heap.size :: .ref T.heap.size :: rest, locked := none }) rfl d4' _ hsteps
theorem ri_throwXW {cc : ByteArray} {pc : Nat} (hexec : p.tables.exec = Jvm.exec) (hb : c.code = cc) (hl : l.stackTraces = false) {own cls text Y0 : String} {names : List String} {ik is ic ix mc ms sa : Nat} {rx : ByteArray} {A : Nat → Prop}
    (hown : s.vm.findClass own = some m.cls) (hcls : Bundle.fit cls = true) (hY0 : Bundle.fit Y0 = true) (hnames : ∀ n ∈ names, Bundle.fit n = true) (x0 : decode rx 0 = .ok (.aload_n 0, 1)) (x1 : decode rx 1 = .ok (.aload_n 1, 1)) (x2 : decode rx 2 = .ok (.invokespecial ix, 3)) (x5 : decode rx 5 = .ok (.return_, 1))
    (hk : (Cond.classLink own ik cls).before args s = true) (hini : (Cond.initialized cls).before args s = true) (hstr : vk_R own is text sa s) (hat : ∀ w ∈ ri_atX own ic cls ix rx Y0 names, w.before args s = true)
    (hgood : ∀ w ∈ Cond.classLink own ik cls :: Cond.initialized cls :: ri_atX own ic cls ix rx Y0 names, vx_ot w = true)
    (hU : vx_Zq Bundle.tN "UNASSIGNED_STACK" Bundle.steD A s s.heap) (hN : vx_Zq Bundle.tN "SUPPRESSED_SENTINEL" Bundle.listD A s s.heap) (hS : va_S A s.heap H locs) (hsize : ls.size = c.maxLocals)
    (d0 : decode cc pc = .ok (.new ik, 3)) (d3 : decode cc (pc + 3) = .ok (.dup, 1)) (d4 : decode cc (pc + 4) = .ok (.ldc_w is, 3)) (d7 : decode cc (pc + 7) = .ok (.invokespecial ic, 3)) (d10 : decode cc (pc + 10) = .ok (.athrow, 1))
    (hout : ∀ x ∈ c.exceptionTable.toList, covers x (pc + 10) = false)
    (hRframes : names.length + 4 < R.frames) (hRlocals : (rest.map fun v => v.category).sum + (13 * (names.length + 2) + 43) ≤ R.locals) (hRcells : cells + 1 ≤ R.cells) (hRslots : slots + 6 ≤ R.slots) (hlocks : meth.locks = false)
    (hx : ∀ t : State, s.vm.Alike t.vm → H.size ≤ t.heap.size → (∀ q : Nat, q < H.size → t.heap[q]? = H[q]?) → XC cls s t)
    (hf : ∀ z ∈ locs, free z.base) (hc : cells + 1 ≤ mc) (hs : slots + 6 ≤ ms) :
    W p l e R s m args below meth c H locs cells slots (vx_MQ below Qc XC args s mc ms free) (F0 m pc ls rest) := by
  intro T hT X
  have htr : e.platform.stackTraces = false := (show e.platform.stackTraces = l.stackTraces by rw [X.admits.platform]).trans hl
  have Y := vx_rebase X (R' := { frames := R.frames, locals := R.locals, cells := 1, slots := 6 }) (Nat.le_refl _) (Nat.le_refl _) hRcells hRslots
  obtain ⟨s', hA⟩ : ∃ z, z = (T.setVm s.vm).setFrames (.invoking m args :: below) := ⟨_, rfl⟩
  rw [← hA] at Y
  have hvm : s'.vm = s.vm := by rw [hA]; rfl
  have hhp : s'.heap = H := by rw [hA]; exact hT
  have hW0 : s.WarmedH s'.vm := by rw [hvm]; exact State.WarmedH.refl s
  have hat' : ∀ w ∈ ri_atX own ic cls ix rx Y0 names, w.before args s' = true := fun w hw => vx_ot_at hW0 hvm.symm (hgood w (List.mem_cons_of_mem _ (List.mem_cons_of_mem _ hw))) (hat w hw)
  have hk' : (Cond.classLink own ik cls).before args s' = true := vx_ot_at hW0 hvm.symm (hgood _ List.mem_cons_self) hk
  have hini' : (Cond.initialized cls).before args s' = true := vx_ot_at hW0 hvm.symm (hgood _ (List.mem_cons_of_mem _ List.mem_cons_self)) hini
  have hU' : vx_Zq Bundle.tN "UNASSIGNED_STACK" Bundle.steD A s' s'.heap := by rw [hhp]; exact vx_Zq.moved hW0.alike (hU.kept hS.2.1)
  have hN' : vx_Zq Bundle.tN "SUPPRESSED_SENTINEL" Bundle.listD A s' s'.heap := by rw [hhp]; exact vx_Zq.moved hW0.alike (hN.kept hS.2.1)
  have h : ∀ w ∈ ri_ownX own ic cls ix rx Y0 names, w.before args s' = true := vx_own hat' (vx_isRefq hU'.1) (vx_isRefq hN'.1) hU'.2.word hN'.2.word
  have hown' : s'.vm.findClass own = some m.cls := by rw [hvm]; exact hown
  have hins : (Cond.instantiable cls 6).before args s' = true := h _ (by simp [ri_ownX])
  obtain ⟨vm₁, cX, kX, hfX, hkX, -, -, X₁, st1⟩ := Y.newCold hexec (own := own) (C := cls) (index := ik) (n := 6) hown' hk' hins hini'
    (g := F0 m pc ls rest) rfl (by rw [hb]; exact d0) (Nat.le_refl _) (Nat.le_refl _)
  generalize hT1 : (T.setVm vm₁).pushCell { cls := cX, slots := kX.instanceTypes.map defaultValue, vm := .none } = T1 at X₁ st1
  have hcat : (Value.ref T.heap.size).category = 1 := rfl
  have hcellA : T1.heap[T.heap.size]? = some (freshCell cX kX) := by rw [← hT1]; exact State.heap_pushCell_size _ _
  have d3' : decode c.code (pc + 3) = .ok (.dup, 1) := by rw [hb]; exact d3
  have d4' : decode c.code (pc + 4) = .ok (.ldc_w is, 3) := by rw [hb]; exact d4
  have hstr' : vk_R own is text sa s' := vk_R.warm hW0 hstr
  obtain ⟨V, ce, L9, Z, hL, hlt, hcl9, hvm9, st⟩ := ri_ctorMadeX X₁ hexec htr (own := own) (cls := cls) (names := names) (ic := ic) x0 x1 x2 x5 hown' hcls hY0 hnames h (fun x hx => nomatch hx) hfX hkX hcellA (by rw [hhp, hT]; exact Nat.le_refl _) (msg := .ref sa) rfl
    (g := { method := m, pc := pc + 7, locals := ls, stack := .ref sa :: .ref T.heap.size :: .ref T.heap.size :: rest, locked := none }) rfl hsize (rest := rest) rfl
    (by rw [hb]; exact d7) hRframes (by simp only [List.map_cons, List.sum_cons, hcat]; omega)
  have Z0 := Stand.forget (locs := []) Z (fun y hy => by rw [hL y hy, hhp, hT]; exact Nat.le_refl _)
  obtain ⟨hwalk, hrun, hend, hW, hsame⟩ := Z0.athrowLeaves hexec (g := { method := m, pc := pc + 7 + 3, locals := ls, stack := .ref T.heap.size :: rest, locked := none }) rfl rfl rfl hout (a := T.heap.size) (rest := rest) rfl (by rw [hb]; exact d10) hlocks
  have hsteps := st _ hwalk
  generalize hU9 : (V.setCell T.heap.size ce).setFrames (.throwing T.heap.size :: below) = U at hsteps hrun hend hW hsame
  have hce : U.heap[T.heap.size]? = some ce := by rw [← hU9]; exact heapAt_setCell_self (s := V) ce hlt
  obtain ⟨f1, f2⟩ := vx_frame hsame
  rw [hhp] at f1 f2
  have hWs : s.WarmedH U.vm := State.WarmedH.trans hW0 hW
  have hcl : s.vm.findClass cls = some ce.cls := by
    have h9 := hfX
    rw [hvm, ← hcl9] at h9
    exact h9
  have hall : s.sameButNew ({ U with vm := s.vm } : State) locs mc ms := by
    subst hA
    obtain ⟨e1, e2⟩ := hsame
    rw [State.setFrames_setFrames] at e1
    have h2 : (T.setVm s.vm).sameButNew ({ U with vm := s.vm } : State) [] (0 + 1) (0 + 6) := ⟨e1, e2⟩
    have h3 := X.same.trans h2
    rw [List.append_nil] at h3
    exact h3.mono hc hs
  refine ⟨U, ?_, .threw T.heap.size, hrun, hend, Or.inr ⟨T.heap.size, rfl, cls, ce, locs, hx U hWs.alike f1 (fun q hq => f2 q hq (fun z hz => nomatch hz)), hce, hvm9, hcl, hWs, hall, hf⟩⟩
  refine st1 _ ?_
  show Steps p.tables e below (T1.setTop { method := m, pc := pc + 3, locals := ls, stack := .ref T.heap.size :: rest, locked := none }) _
  jvm_step X₁.here [X₁.here.top, hexec, d3', Value.category]
  exact X₁.ldcStringW hexec (own := own) (text := text) (index := is) (a := sa) hown' hstr'.1 hstr'.2
    (g := { method := m, pc := pc + 4, locals := ls, stack := .ref T.heap.size :: .ref T.heap.size :: rest, locked := none }) rfl d4' _ hsteps
end RIXC2
end RIXC
end
section
/-! texts of the program: what length() and charAt(int) of one do -/
section SX
/-! the methods: their names, code, the words that they ask for -/
def sx_S_ : String := "java/lang/String"
def sx_y1 : MethodName := ⟨"java/lang/String", "coder", "()B"⟩
def sx_y2 : MethodName := ⟨"java/lang/String", "isLatin1", "()Z"⟩
def sx_y3 : MethodName := ⟨"jdk/internal/util/Preconditions", "checkIndex", "(IILjava/util/function/BiFunction;)I"⟩
def sx_y4 : MethodName := ⟨"java/lang/String", "checkIndex", "(II)V"⟩
def sx_y5 : MethodName := ⟨"java/lang/StringLatin1", "charAt", "([BI)C"⟩
def sx_y6 : MethodName := ⟨"java/lang/String", "charAt", "(I)C"⟩
def sx_y7 : MethodName := ⟨"java/lang/String", "length", "()I"⟩
def sx_w1 : Jvm.Cond := .code sx_y1 prog_20_method_152_code 1 (some .byte)
def sx_w2 : Jvm.Cond := .code sx_y2 prog_20_method_154_code 1 (some .boolean)
def sx_w3 : Jvm.Cond := .code sx_y3 prog_28_method_11_code 3 (some .int)
def sx_w4 : Jvm.Cond := .code sx_y4 prog_20_method_155_code 2 none
def sx_w5 : Jvm.Cond := .code sx_y5 prog_21_method_2_code 2 (some .char)
def sx_w6 : Jvm.Cond := .code sx_y6 prog_20_method_56_code 2 (some .char)
def sx_w7 : Jvm.Cond := .code sx_y7 prog_20_method_54_code 1 (some .int)
def sx_FD : String := "Ljava/util/function/BiFunction;"
def sx_W : List Jvm.Cond := [sx_w1, sx_w2, sx_w3, sx_w4, sx_w5, sx_w6, sx_w7,
  .initialized "java/lang/String", .initialized "java/lang/StringLatin1", .initialized "jdk/internal/util/Preconditions",
  .instanceMethod sx_y1, .selects "java/lang/String" sx_y1 sx_y1, .instanceMethod sx_y2, .selects "java/lang/String" sx_y2 sx_y2, .instanceMethod sx_y6, .selects "java/lang/String" sx_y6 sx_y6, .instanceMethod sx_y7, .selects "java/lang/String" sx_y7 sx_y7,
  .static sx_y3, .static sx_y4, .static sx_y5,
  .methodLink "java/lang/String" 335 sx_y1, .methodLink "java/lang/String" 492 sx_y2, .methodLink "java/lang/String" 495 sx_y5, .methodLink "java/lang/StringLatin1" 9 sx_y4, .methodLink "java/lang/String" 1059 sx_y3,
  .fieldLink "java/lang/String" 9 "java/lang/String" "value" "[B", .fieldLink "java/lang/String" 15 "java/lang/String" "coder" "B", .fieldLink "java/lang/String" 38 "java/lang/String" "COMPACT_STRINGS" "Z", .fieldLink "java/lang/String" 1053 "jdk/internal/util/Preconditions" "SIOOBE_FORMATTER" "Ljava/util/function/BiFunction;"]
theorem sx_good : sx_W.all goodWord = true := by decide +kernel
theorem sx_in {w : Jvm.Cond} (k : Nat) (h : sx_W[k]? = some w) : w ∈ sx_W := List.mem_of_getElem? h
/-! decoded -/
theorem sd_1_0 : decode prog_20_method_152_code 0 = .ok (.getstatic 38, 3) := by decide +kernel
theorem sd_1_3 : decode prog_20_method_152_code 3 = .ok (.ifCond .eq 10, 3) := by decide +kernel
theorem sd_1_6 : decode prog_20_method_152_code 6 = .ok (.aload_n 0, 1) := by decide +kernel
theorem sd_1_7 : decode prog_20_method_152_code 7 = .ok (.getfield 15, 3) := by decide +kernel
theorem sd_1_10 : decode prog_20_method_152_code 10 = .ok (.goto 4, 3) := by decide +kernel
theorem sd_1_14 : decode prog_20_method_152_code 14 = .ok (.ireturn, 1) := by decide +kernel
theorem sd_2_0 : decode prog_20_method_154_code 0 = .ok (.getstatic 38, 3) := by decide +kernel
theorem sd_2_3 : decode prog_20_method_154_code 3 = .ok (.ifCond .eq 14, 3) := by decide +kernel
theorem sd_2_6 : decode prog_20_method_154_code 6 = .ok (.aload_n 0, 1) := by decide +kernel
theorem sd_2_7 : decode prog_20_method_154_code 7 = .ok (.getfield 15, 3) := by decide +kernel
theorem sd_2_10 : decode prog_20_method_154_code 10 = .ok (.ifCond .ne 7, 3) := by decide +kernel
theorem sd_2_13 : decode prog_20_method_154_code 13 = .ok (.iconst 1, 1) := by decide +kernel
theorem sd_2_14 : decode prog_20_method_154_code 14 = .ok (.goto 4, 3) := by decide +kernel
theorem sd_2_18 : decode prog_20_method_154_code 18 = .ok (.ireturn, 1) := by decide +kernel
theorem sd_3_0 : decode prog_28_method_11_code 0 = .ok (.iload_n 0, 1) := by decide +kernel
theorem sd_3_1 : decode prog_28_method_11_code 1 = .ok (.ifCond .lt 8, 3) := by decide +kernel
theorem sd_3_4 : decode prog_28_method_11_code 4 = .ok (.iload_n 0, 1) := by decide +kernel
theorem sd_3_5 : decode prog_28_method_11_code 5 = .ok (.iload_n 1, 1) := by decide +kernel
theorem sd_3_6 : decode prog_28_method_11_code 6 = .ok (.if_icmp .lt 10, 3) := by decide +kernel
theorem sd_3_16 : decode prog_28_method_11_code 16 = .ok (.iload_n 0, 1) := by decide +kernel
theorem sd_3_17 : decode prog_28_method_11_code 17 = .ok (.ireturn, 1) := by decide +kernel
theorem sd_4_0 : decode prog_20_method_155_code 0 = .ok (.iload_n 0, 1) := by decide +kernel
theorem sd_4_1 : decode prog_20_method_155_code 1 = .ok (.iload_n 1, 1) := by decide +kernel
theorem sd_4_2 : decode prog_20_method_155_code 2 = .ok (.getstatic 1053, 3) := by decide +kernel
theorem sd_4_5 : decode prog_20_method_155_code 5 = .ok (.invokestatic 1059, 3) := by decide +kernel
theorem sd_4_8 : decode prog_20_method_155_code 8 = .ok (.pop, 1) := by decide +kernel
theorem sd_4_9 : decode prog_20_method_155_code 9 = .ok (.return_, 1) := by decide +kernel
theorem sd_5_0 : decode prog_21_method_2_code 0 = .ok (.iload_n 1, 1) := by decide +kernel
theorem sd_5_1 : decode prog_21_method_2_code 1 = .ok (.aload_n 0, 1) := by decide +kernel
theorem sd_5_2 : decode prog_21_method_2_code 2 = .ok (.arraylength, 1) := by decide +kernel
theorem sd_5_3 : decode prog_21_method_2_code 3 = .ok (.invokestatic 9, 3) := by decide +kernel
theorem sd_5_6 : decode prog_21_method_2_code 6 = .ok (.aload_n 0, 1) := by decide +kernel
theorem sd_5_7 : decode prog_21_method_2_code 7 = .ok (.iload_n 1, 1) := by decide +kernel
theorem sd_5_8 : decode prog_21_method_2_code 8 = .ok (.baload, 1) := by decide +kernel
theorem sd_5_9 : decode prog_21_method_2_code 9 = .ok (.sipush 255, 3) := by decide +kernel
theorem sd_5_12 : decode prog_21_method_2_code 12 = .ok (.iand, 1) := by decide +kernel
theorem sd_5_13 : decode prog_21_method_2_code 13 = .ok (.i2c, 1) := by decide +kernel
theorem sd_5_14 : decode prog_21_method_2_code 14 = .ok (.ireturn, 1) := by decide +kernel
theorem sd_6_0 : decode prog_20_method_56_code 0 = .ok (.aload_n 0, 1) := by decide +kernel
theorem sd_6_1 : decode prog_20_method_56_code 1 = .ok (.invokevirtual 492, 3) := by decide +kernel
theorem sd_6_4 : decode prog_20_method_56_code 4 = .ok (.ifCond .eq 12, 3) := by decide +kernel
theorem sd_6_7 : decode prog_20_method_56_code 7 = .ok (.aload_n 0, 1) := by decide +kernel
theorem sd_6_8 : decode prog_20_method_56_code 8 = .ok (.getfield 9, 3) := by decide +kernel
theorem sd_6_11 : decode prog_20_method_56_code 11 = .ok (.iload_n 1, 1) := by decide +kernel
theorem sd_6_12 : decode prog_20_method_56_code 12 = .ok (.invokestatic 495, 3) := by decide +kernel
theorem sd_6_15 : decode prog_20_method_56_code 15 = .ok (.ireturn, 1) := by decide +kernel
theorem sd_7_0 : decode prog_20_method_54_code 0 = .ok (.aload_n 0, 1) := by decide +kernel
theorem sd_7_1 : decode prog_20_method_54_code 1 = .ok (.getfield 9, 3) := by decide +kernel
theorem sd_7_4 : decode prog_20_method_54_code 4 = .ok (.arraylength, 1) := by decide +kernel
theorem sd_7_5 : decode prog_20_method_54_code 5 = .ok (.aload_n 0, 1) := by decide +kernel
theorem sd_7_6 : decode prog_20_method_54_code 6 = .ok (.invokevirtual 335, 3) := by decide +kernel
theorem sd_7_9 : decode prog_20_method_54_code 9 = .ok (.ishr, 1) := by decide +kernel
theorem sd_7_10 : decode prog_20_method_54_code 10 = .ok (.ireturn, 1) := by decide +kernel
/-! a text's place in the heap -/
def sx_f (tx : String) (j : Nat) : Value := .int (Int32.ofNat ((tx.toList.getD j 'a').toNat))
def sx_ok (tx : String) : Prop := tx.toList.length ≤ 1000 ∧ ∀ ch ∈ tx.toList, ch.toNat < 128
def sx_L (tx : String) (a : Nat) (A : Nat → Prop) (U : State) (H : Heap) : Prop := sx_ok tx ∧ va_O "java/lang/String" a A U H ∧ va_OF "java/lang/String" "coder" "B" (.int 0) a A U H ∧ ∃ v, va_OF "java/lang/String" "value" "[B" (.ref v) a A U H ∧ va_T .byte v tx.toList.length (sx_f tx) A U H
def sx_S (STR : List (String × Nat × String)) (sa : String → Nat → Nat) (A : Nat → Prop) (U : State) : Prop :=
  (∀ q ∈ STR, sx_L q.2.2 (sa q.1 q.2.1) A U U.heap) ∧ va_Z "java/lang/String" "COMPACT_STRINGS" "Z" (.int 1) A U U.heap ∧ va_Zq "jdk/internal/util/Preconditions" "SIOOBE_FORMATTER" sx_FD A U U.heap
theorem sx_S_go {STR : List (String × Nat × String)} {sa : String → Nat → Nat} {A B : Nat → Prop} {s U : State} (h : sx_S STR sa A s) (hvm : s.vm.Alike U.vm) (hk : ∀ q : Nat, q < s.heap.size → ¬ A q → U.heap[q]? = s.heap[q]?) (hAB : ∀ q, B q → A q) : sx_S STR sa B U := by
  obtain ⟨h1, h2, h3⟩ := h
  refine ⟨fun q hq => ?_, va_Z.narrow (va_Z.moved hvm (va_Z.kept h2 hk)) hAB, va_Zq.narrow (va_Zq.moved hvm (va_Zq.kept h3 hk)) hAB⟩
  obtain ⟨k0, k1, k2, v, k3, k4⟩ := h1 q hq
  exact ⟨k0, va_O.narrow (va_O.moved hvm (va_O.kept k1 hk)) hAB, va_OF.narrow (va_OF.moved hvm (va_OF.kept k2 hk)) hAB, v, va_OF.narrow (va_OF.moved hvm (va_OF.kept k3 hk)) hAB, va_T.narrow (va_T.moved hvm (va_T.kept k4 hk)) hAB⟩
/-! contracts -/
abbrev sx_V : Type := List (Nat × Nat × (Nat → Value))
def sx_P (STR : List (String × Nat × String)) (sa : String → Nat → Nat) (sz : Nat) (tv : sx_V) (a0 : List Value) : Array Value → State → Prop := fun v U =>
  v = a0.toArray ∧ U.heap.size = sz ∧ (∀ w ∈ sx_W, ∀ a : Array Value, w.before a U = true) ∧ sx_S STR sa (fun q => sz ≤ q) U ∧ ∀ z ∈ tv, va_T .byte z.1 z.2.1 z.2.2 (fun q => sz ≤ q) U U.heap
def sx_Q (oc : Option Value) (sz : Nat) : Array Value → State → Outcome → State → Prop := fun _ st o t => o = .returned oc ∧ va_F (fun q => sz ≤ q) st t
def sx_X : String → State → State → Prop := fun _ _ _ => False
def sx_rm (k n : Nat) : Room := { frames := k, cells := 0, slots := 0, locals := n }
def sx_M (l : Launch) (STR : List (String × Nat × String)) (sa : String → Nat → Nat) (y : MethodName) (w : Jvm.Cond) (rm : Room) (tv : sx_V) (a0 : List Value) (oc : Option Value) : Prop :=
  ∀ sz, vx_Met l y [w] rm (sx_P STR sa sz tv a0) (sx_Q oc sz) sx_X 0 0 (fun q => sz ≤ q)
theorem sx_words {s U : State} (hw : ∀ w ∈ sx_W, ∀ a : Array Value, w.before a s = true) (hW : s.WarmedH U.vm) : ∀ w ∈ sx_W, ∀ a : Array Value, w.before a U = true := fun w h a =>
  word_at hW (good_of_word (List.all_eq_true.mp sx_good w h)) (hw w h #[])
theorem sx_blind {STR : List (String × Nat × String)} {sa : String → Nat → Nat} {sz : Nat} {tv : sx_V} {a0 : List Value} : FrameBlind (sx_P STR sa sz tv a0) := by
  intro a U g mk q
  obtain ⟨q1, q2, q3, q4, q5⟩ := q
  exact ⟨q1, q2, sx_words (U := U.calling g mk a) q3 (State.WarmedH.refl U), sx_S_go (U := U.calling g mk a) q4 (State.WarmedH.refl U).alike (fun _ _ _ => rfl) (fun _ h => h), fun z hz => va_T.moved (U := U.calling g mk a) (State.WarmedH.refl U).alike (q5 z hz)⟩
/-- a callee's start, from a caller's place -/
theorem sx_pre {STR : List (String × Nat × String)} {sa : String → Nat → Nat} {tv : sx_V} {a0 : List Value} {A : Nat → Prop} {s U : State} {H : Heap} {locs : List Loc} (hw : ∀ w ∈ sx_W, ∀ a : Array Value, w.before a s = true) (h : sx_S STR sa A s) (hA : ∀ q, s.heap.size ≤ q → A q) (ht : ∀ z ∈ tv, va_T .byte z.1 z.2.1 z.2.2 A s s.heap) (hS : va_S A s.heap H locs) (hU : U.heap = H) (hW : s.WarmedH U.vm) : sx_P STR sa H.size tv a0 a0.toArray U := by
  have hk : ∀ q : Nat, q < s.heap.size → ¬ A q → U.heap[q]? = s.heap[q]? := fun q h1 h2 => by rw [hU]; exact hS.2.1 q h1 h2
  have hAB : ∀ q, H.size ≤ q → A q := fun q hq => hA q (Nat.le_trans hS.1 hq)
  exact ⟨rfl, by rw [hU], sx_words hw hW, sx_S_go h hW.alike hk hAB, fun z hz => va_T.narrow (va_T.moved hW.alike (va_T.kept (ht z hz) hk)) hAB⟩
/-- behind a call -/
theorem sx_keep {A : Nat → Prop} {s st t : State} {H : Heap} {locs L : List Loc} {oc o : Option Value} {a : Array Value} (hA : ∀ q, s.heap.size ≤ q → A q) (hS : va_S A s.heap H locs) (h0 : st.heap = H) (hL : ∀ q ∈ L, H.size ≤ q.base) (hQ : sx_Q oc H.size a st (.returned o) t) : o = oc ∧ va_S A s.heap t.heap (locs ++ L) ∧ H.size ≤ t.heap.size ∧ ∀ q : Nat, q < H.size → t.heap[q]? = H[q]? := by
  obtain ⟨e, hF⟩ := hQ
  obtain ⟨hz, hk⟩ := hF
  rw [h0] at hz hk
  have hk2 : ∀ q : Nat, q < H.size → t.heap[q]? = H[q]? := fun q hq => hk q hq (Nat.not_le.mpr hq)
  refine ⟨by injection e, ⟨Nat.le_trans hS.1 hz, fun q h1 h2 => ?_, fun z hz => ?_⟩, hz, hk2⟩
  · rw [hk2 q (Nat.lt_of_lt_of_le h1 hS.1)]
    exact hS.2.1 q h1 h2
  · rcases List.mem_append.mp hz with h | h
    · exact hS.2.2 z h
    · exact hA _ (Nat.le_trans hS.1 (hL z h))
section SX1
variable {p : Program} {l : Launch} {e : Env} {R : Room} {s : State} {m : MethodId} {args : Array Value} {below : List Frame} {meth : Method} {c : Code} {H : Heap} {locs : List Loc} {cells slots : Nat} {Q : State → Prop}
variable {STR : List (String × Nat × String)} {sa : String → Nat → Nat} {cc : ByteArray} {nL pc index maxL k n : Nat} {own C : String} {y : MethodName} {by_ : ByteArray} {ret : Option FieldType} {tv : sx_V} {A : Nat → Prop} {a : Addr} {As rest : List Value} {oc : Option Value} {ls : Array Slot}
/-- behind a call that answers -/
theorem sx_use {Qa : State → Outcome → State → Prop} {free : Addr → Prop} {mc ms : Nat} {st0 : List Value} (hr : vx_Run p l e R s m args below meth c H locs cells slots mc ms (F0 m pc ls st0) rest Qa sx_X free)
    (kk : ∀ (v : Option Value) (st₀ t : State) (H1 : Heap) (L : List Loc), st₀.heap = H → t.heap = H1 → s.vm.Alike t.vm → (∀ q ∈ L, free q.base) → Qa st₀ (.returned v) t → W p l e R s m args below meth c H1 (locs ++ L) (cells + mc) (slots + ms) Q (F0 m (pc + 3) ls (v.toList ++ rest))) :
    W p l e R s m args below meth c H locs cells slots Q (F0 m pc ls st0) := by
  intro T hT X
  rcases hr T hT X with ⟨v, st₀, t, T', L, h0, X', hL, e1, e2, hq, st⟩ | ⟨q, st₀, t, T', L, E, ce, h0, X', hL, e1, e2, hq, hce, hcv, hcl, st⟩
  · obtain ⟨t2, a1, b1⟩ := kk v st₀ t T'.heap L h0 e1.symm (by rw [← e2]; exact X'.warmed.alike) hL hq T' rfl X'
    exact ⟨t2, st t2 a1, b1⟩
  · exact hq.elim
/-- a call of one, on an object -/
theorem sx_callV (hw : ∀ w ∈ sx_W, ∀ a : Array Value, w.before a s = true) (h : sx_S STR sa A s) (hA : ∀ q, s.heap.size ≤ q → A q) (ht : ∀ z ∈ tv, va_T .byte z.1 z.2.1 z.2.2 A s s.heap) (hS : va_S A s.heap H locs) (hcf : CallFix p m c cc nL s args [] own)
    (hM : sx_M l STR sa y (.code y by_ maxL ret) (sx_rm k n) tv (.ref a :: As) oc) (hc : Jvm.Cond.code y by_ maxL ret ∈ sx_W) (hi : Jvm.Cond.initialized y.cls ∈ sx_W) (hin : Jvm.Cond.instanceMethod y ∈ sx_W) (hse : Jvm.Cond.selects C y y ∈ sx_W) (hl : (Jvm.Cond.methodLink own index y).before args s = true) (hnc : y.cls ≠ "java/lang/invoke/MethodHandle" ∧ y.cls ≠ "java/lang/invoke/VarHandle") (hpar : (parseMethodDescriptor y.desc).map (fun d => d.parameters.length) = some As.length)
    (hr : ∃ cellB : Cell, H[a]? = some cellB ∧ cellB.vm.isStatics = false ∧ s.vm.findClass C = some cellB.cls) (hR : k + 1 ≤ R.frames ∧ 8 + (maxL + 11) + n ≤ R.locals) (hls : ls.size = nL) (hrest : (rest.map fun v => v.category).sum ≤ 8) (hdg : decode cc pc = .ok (.invokevirtual index, 3)) (hf : cells ≤ R.cells ∧ slots ≤ R.slots)
    (kk : ∀ (H1 : Heap) (L : List Loc), va_S A s.heap H1 (locs ++ L) → H.size ≤ H1.size → (∀ q : Nat, q < H.size → H1[q]? = H[q]?) → W p l e R s m args below meth c H1 (locs ++ L) cells slots Q (F0 m (pc + 3) ls (oc.toList ++ rest))) : W p l e R s m args below meth c H locs cells slots Q (F0 m pc ls (As.reverse ++ .ref a :: rest)) := by
  refine sx_use (vx_runV (As := As) (C := C) (rest := rest) (n := As.length) hcf (hM H.size) ⟨⟨rfl, rfl, hR.1, hR.2, fun w hq a' U hW => ?_, List.mem_cons_self, hw _ hc _, hw _ hi _, hnc, fun sig hs => ?_, hl⟩, hw _ hin _, hw _ hse _⟩ ⟨sx_blind, hr, fun U hU hW => sx_pre hw h hA ht hS hU hW⟩ rfl rfl hls rfl (lv_room hrest) hdg hf) (fun v st t H1 L h0 h1 _ hL hQ => ?_)
  · rw [List.mem_singleton.mp hq]
    exact sx_words hw hW _ hc _
  · rw [hs] at hpar
    exact (Option.some.inj hpar).symm
  · obtain ⟨e, g1, g2, g3⟩ := sx_keep hA hS h0 hL hQ
    rw [h1] at g1 g2 g3
    rw [e]
    exact kk H1 L g1 g2 g3
/-- a call of one without an object -/
theorem sx_callS (hw : ∀ w ∈ sx_W, ∀ a : Array Value, w.before a s = true) (h : sx_S STR sa A s) (hA : ∀ q, s.heap.size ≤ q → A q) (ht : ∀ z ∈ tv, va_T .byte z.1 z.2.1 z.2.2 A s s.heap) (hS : va_S A s.heap H locs) (hcf : CallFix p m c cc nL s args [] own)
    (hM : sx_M l STR sa y (.code y by_ maxL ret) (sx_rm k n) tv As oc) (hc : Jvm.Cond.code y by_ maxL ret ∈ sx_W) (hi : Jvm.Cond.initialized y.cls ∈ sx_W) (hst : Jvm.Cond.static y ∈ sx_W) (hl : (Jvm.Cond.methodLink own index y).before args s = true) (hnc : y.cls ≠ "java/lang/invoke/MethodHandle" ∧ y.cls ≠ "java/lang/invoke/VarHandle") (hpar : (parseMethodDescriptor y.desc).map (fun d => d.parameters.length) = some As.length)
    (hR : k + 1 ≤ R.frames ∧ 8 + (maxL + 11) + n ≤ R.locals) (hls : ls.size = nL) (hrest : (rest.map fun v => v.category).sum ≤ 8) (hdg : decode cc pc = .ok (.invokestatic index, 3)) (hf : cells ≤ R.cells ∧ slots ≤ R.slots)
    (kk : ∀ (H1 : Heap) (L : List Loc), va_S A s.heap H1 (locs ++ L) → H.size ≤ H1.size → (∀ q : Nat, q < H.size → H1[q]? = H[q]?) → W p l e R s m args below meth c H1 (locs ++ L) cells slots Q (F0 m (pc + 3) ls (oc.toList ++ rest))) : W p l e R s m args below meth c H locs cells slots Q (F0 m pc ls (As.reverse ++ rest)) := by
  refine sx_use (vx_runS (As := As) (rest := rest) (n := As.length) hcf (hM H.size) ⟨⟨rfl, rfl, hR.1, hR.2, fun w hq a' U hW => ?_, List.mem_cons_self, hw _ hc _, hw _ hi _, hnc, fun sig hs => ?_, hl⟩, hw _ hst _⟩ ⟨sx_blind, fun U hU hW => sx_pre hw h hA ht hS hU hW⟩ rfl rfl hls rfl (lv_room hrest) hdg hf) (fun v st t H1 L h0 h1 _ hL hQ => ?_)
  · rw [List.mem_singleton.mp hq]
    exact sx_words hw hW _ hc _
  · rw [hs] at hpar
    exact (Option.some.inj hpar).symm
  · obtain ⟨e, g1, g2, g3⟩ := sx_keep hA hS h0 hL hQ
    rw [h1] at g1 g2 g3
    rw [e]
    exact kk H1 L g1 g2 g3
end SX1
end SX
end
section
/-! texts of the program: the contracts of length() and charAt(int), of what they call -/
section SXC
variable {l : Launch} {STR : List (String × Nat × String)} {sa : String → Nat → Nat} {q : String × Nat × String}
theorem sn_3 : (parseMethodDescriptor sx_y3.desc).map (fun d => d.parameters.length) = some 3 := by decide +kernel
theorem sn_4 : (parseMethodDescriptor sx_y4.desc).map (fun d => d.parameters.length) = some 2 := by decide +kernel
theorem sn_5 : (parseMethodDescriptor sx_y5.desc).map (fun d => d.parameters.length) = some 2 := by decide +kernel
theorem sn_6 : (parseMethodDescriptor sx_y6.desc).map (fun d => d.parameters.length) = some 1 := by decide +kernel
theorem sx_c1 (hq : q ∈ STR) : sx_M l STR sa sx_y1 sx_w1 (sx_rm 1 0) [] [.ref (sa q.1 q.2.1)] (some (.int 0)) := by
  intro sz
  refine vx_ofW (cc := prog_20_method_152_code) (maxL := 1) (ret := some .byte) (ws' := []) (by decide +kernel) rfl ?_
  intro p e s m args below meth c s₁ B hml hex hP
  obtain ⟨rfl, rfl, hw, ⟨hL, hZ, hF⟩, -⟩ := hP
  obtain ⟨-, h2, h3, v, h4, h5⟩ := hL q hq
  have hx := B.exec
  have hb := B.bytes
  have hown : s.vm.findClass "java/lang/String" = some m.cls := findClass_of_methodNamed B.named
  have hl0 := lv_entry ([.ref (sa q.1 q.2.1)]) (n := 1) (Nat.le_of_ble_eq_true rfl)
  rw [lg_entry_eq]
  generalize (lg_sl ([.ref (sa q.1 q.2.1)]) ++ List.replicate (1 - (lg_sl ([.ref (sa q.1 q.2.1)])).length) Slot.unset).toArray = ls at hl0 ⊢
  have hl1 : ls[0]? = some (.val (.ref (sa q.1 q.2.1))) := hl0.2.2 (0, .ref (sa q.1 q.2.1)) List.mem_cons_self
  refine va_gets hx hb hZ va_S.rf hown (hw _ (sx_in 28 rfl) _) (fun x h => h) sd_1_0 ?_
  refine lv_if_eq hx hb (tgt := 13) sd_1_3 rfl (fun h => absurd h (by decide)) (fun _ => ?_)
  refine lv_aload_n hx hb sd_1_6 rfl hl1 ?_
  refine vk_getf hx hb h3 va_S.rf hown (hw _ (sx_in 27 rfl) _) (fun x h => h) sd_1_7 ?_
  refine lv_goto hx hb (tgt := 14) sd_1_10 rfl ?_
  exact vx_ret (W.zret hx hb B.returns rfl (fun t ht _ => ⟨rfl, va_S.rf.F ht⟩) (fun _ hz => by cases hz) sd_1_14 B.notSynchronized)
theorem sx_c2 (hq : q ∈ STR) : sx_M l STR sa sx_y2 sx_w2 (sx_rm 1 0) [] [.ref (sa q.1 q.2.1)] (some (.int 1)) := by
  intro sz
  refine vx_ofW (cc := prog_20_method_154_code) (maxL := 1) (ret := some .boolean) (ws' := []) (by decide +kernel) rfl ?_
  intro p e s m args below meth c s₁ B hml hex hP
  obtain ⟨rfl, rfl, hw, ⟨hL, hZ, hF⟩, -⟩ := hP
  obtain ⟨-, h2, h3, v, h4, h5⟩ := hL q hq
  have hx := B.exec
  have hb := B.bytes
  have hown : s.vm.findClass "java/lang/String" = some m.cls := findClass_of_methodNamed B.named
  have hl0 := lv_entry ([.ref (sa q.1 q.2.1)]) (n := 1) (Nat.le_of_ble_eq_true rfl)
  rw [lg_entry_eq]
  generalize (lg_sl ([.ref (sa q.1 q.2.1)]) ++ List.replicate (1 - (lg_sl ([.ref (sa q.1 q.2.1)])).length) Slot.unset).toArray = ls at hl0 ⊢
  have hl1 : ls[0]? = some (.val (.ref (sa q.1 q.2.1))) := hl0.2.2 (0, .ref (sa q.1 q.2.1)) List.mem_cons_self
  refine va_gets hx hb hZ va_S.rf hown (hw _ (sx_in 28 rfl) _) (fun x h => h) sd_2_0 ?_
  refine lv_if_eq hx hb (tgt := 17) sd_2_3 rfl (fun h => absurd h (by decide)) (fun _ => ?_)
  refine lv_aload_n hx hb sd_2_6 rfl hl1 ?_
  refine vk_getf hx hb h3 va_S.rf hown (hw _ (sx_in 27 rfl) _) (fun x h => h) sd_2_7 ?_
  refine lv_if_ne hx hb (tgt := 17) sd_2_10 rfl (fun h => absurd rfl h) (fun _ => ?_)
  refine lv_iconst hx hb sd_2_13 (v := 1) rfl ?_
  refine lv_goto hx hb (tgt := 18) sd_2_14 rfl ?_
  exact vx_ret (W.zret hx hb B.returns rfl (fun t ht _ => ⟨rfl, va_S.rf.F ht⟩) (fun _ hz => by cases hz) sd_2_18 B.notSynchronized)
theorem sx_c3 {i n : Int32} {fv : Value} (hfv : fv = .null ∨ ∃ t : Nat, fv = .ref t) (h0 : ¬ i < 0) (h1 : i < n) : sx_M l STR sa sx_y3 sx_w3 (sx_rm 1 0) [] [.int i, .int n, fv] (some (.int i)) := by
  intro sz
  refine vx_ofW (cc := prog_28_method_11_code) (maxL := 3) (ret := some .int) (ws' := []) (by decide +kernel) rfl ?_
  intro p e s m args below meth c s₁ B hml hex hP
  obtain ⟨rfl, rfl, hw, -, -⟩ := hP
  have hx := B.exec
  have hb := B.bytes
  have hl0 := lv_entry ([.int i, .int n, fv]) (n := 3) (by rcases hfv with rfl | ⟨t, rfl⟩ <;> exact Nat.le_of_ble_eq_true rfl)
  rw [lg_entry_eq]
  generalize (lg_sl ([.int i, .int n, fv]) ++ List.replicate (3 - (lg_sl ([.int i, .int n, fv])).length) Slot.unset).toArray = ls at hl0 ⊢
  have hl1 : ls[0]? = some (.val (.int i)) := hl0.2.2 (0, .int i) List.mem_cons_self
  have hl2 : ls[1]? = some (.val (.int n)) := hl0.2.2 (1, .int n) (List.mem_cons_of_mem _ List.mem_cons_self)
  refine lv_iload_n hx hb sd_3_0 rfl hl1 ?_
  refine lv_if_lt hx hb (tgt := 9) sd_3_1 rfl (fun h => absurd h h0) (fun _ => ?_)
  refine lv_iload_n hx hb sd_3_4 rfl hl1 ?_
  refine lv_iload_n hx hb sd_3_5 rfl hl2 ?_
  refine lv_icmp_lt hx hb (tgt := 16) sd_3_6 rfl (fun _ => ?_) (fun h => absurd h1 h)
  refine lv_iload_n hx hb sd_3_16 rfl hl1 ?_
  exact vx_ret (W.iret hx hb B.returns (fun t ht _ => ⟨rfl, va_S.rf.F ht⟩) (fun _ hz => by cases hz) sd_3_17 B.notSynchronized)
theorem sx_c4 {i n : Int32} (h0 : ¬ i < 0) (h1 : i < n) : sx_M l STR sa sx_y4 sx_w4 (sx_rm 2 22) [] [.int i, .int n] none := by
  intro sz
  refine vx_ofW (cc := prog_20_method_155_code) (maxL := 2) (ret := none) (ws' := []) (by decide +kernel) rfl ?_
  intro p e s m args below meth c s₁ B hml hex hP
  obtain ⟨rfl, rfl, hw, hS0, -⟩ := hP
  obtain ⟨hL, hZ, hF⟩ := hS0
  have hx := B.exec
  have hb := B.bytes
  have hown : s.vm.findClass "java/lang/String" = some m.cls := findClass_of_methodNamed B.named
  have hl0 := lv_entry ([.int i, .int n]) (n := 2) (Nat.le_of_ble_eq_true rfl)
  rw [lg_entry_eq]
  generalize (lg_sl ([.int i, .int n]) ++ List.replicate (2 - (lg_sl ([.int i, .int n])).length) Slot.unset).toArray = ls at hl0 ⊢
  have hl1 : ls[0]? = some (.val (.int i)) := hl0.2.2 (0, .int i) List.mem_cons_self
  have hl2 : ls[1]? = some (.val (.int n)) := hl0.2.2 (1, .int n) (List.mem_cons_of_mem _ List.mem_cons_self)
  have hcf : CallFix p m c prog_20_method_155_code 2 s ([Value.int i, .int n]).toArray [] "java/lang/String" := ⟨hx, hb, hml, hown, fun w hw => by cases hw⟩
  have go : ∀ fv : Value, (fv = .null ∨ ∃ t : Nat, fv = .ref t) → fv.category = 1 → va_Z "jdk/internal/util/Preconditions" "SIOOBE_FORMATTER" sx_FD fv (fun q => s.heap.size ≤ q) s s.heap → W p l e (headSpec [sx_w4] (sx_rm 2 22)).room s m ([Value.int i, .int n]).toArray below meth c s.heap [] 0 0 (vx_MQ below (sx_Q none s.heap.size) sx_X ([Value.int i, .int n]).toArray s 0 0 (fun q => s.heap.size ≤ q)) (F0 m 0 ls []) := by
    intro fv hfv hcat hz
    refine lv_iload_n hx hb sd_4_0 rfl hl1 ?_
    refine lv_iload_n hx hb sd_4_1 rfl hl2 ?_
    refine va_gets hx hb hz va_S.rf hown (hw _ (sx_in 29 rfl) _) (fun x h => h) sd_4_2 ?_
    refine sx_callS (As := [.int i, .int n, fv]) (rest := []) (tv := []) hw ⟨hL, hZ, hF⟩ (fun q h => h) (fun z hz => by cases hz) va_S.rf hcf (sx_c3 hfv h0 h1) (sx_in 2 rfl) (sx_in 9 rfl) (sx_in 18 rfl) (hw _ (sx_in 25 rfl) _) ⟨by decide, by decide⟩ sn_3 ⟨by decide, by decide⟩ hl0.1 (by decide) sd_4_5 ⟨by decide, by decide⟩ (fun H1 L g1 _ _ => ?_)
    refine lv_pop hx hb sd_4_8 rfl ?_
    exact vx_ret (W.vret hx hb B.returns (fun t ht _ => ⟨rfl, g1.F ht⟩) g1.2.2 sd_4_9 B.notSynchronized)
  rcases hF with hF | ⟨t, hF⟩
  · exact go .null (Or.inl rfl) rfl hF
  · exact go (.ref t) (Or.inr ⟨t, rfl⟩) rfl hF
theorem sx_byte : ∀ k, k < 128 → ((Int32.ofNat k &&& 255).toUInt32 % 65536).toInt32 = Int32.ofNat k := by decide +kernel
theorem sx_nar : ∀ k, k < 128 → narrow .char (.int (Int32.ofNat k)) = .int (Int32.ofNat k) := by decide +kernel
theorem sx_c5 {i : Int32} {v n : Nat} {f : Nat → Value} {ch : Nat} (h0 : ¬ i < 0) (h1 : i < Int32.ofNat n) (hin : vp_in i n) (hf : f i.toNatClampNeg = .int (Int32.ofNat ch)) (hc : ch < 128) : sx_M l STR sa sx_y5 sx_w5 (sx_rm 3 43) [(v, n, f)] [.ref v, .int i] (some (.int (Int32.ofNat ch))) := by
  intro sz
  refine vx_ofW (cc := prog_21_method_2_code) (maxL := 2) (ret := some .char) (ws' := []) (by decide +kernel) rfl ?_
  intro p e s m args below meth c s₁ B hml hex hP
  obtain ⟨rfl, rfl, hw, hS0, ht⟩ := hP
  have hT := ht (v, n, f) List.mem_cons_self
  have hx := B.exec
  have hb := B.bytes
  have hown : s.vm.findClass "java/lang/StringLatin1" = some m.cls := findClass_of_methodNamed B.named
  have hl0 := lv_entry ([.ref v, .int i]) (n := 2) (Nat.le_of_ble_eq_true rfl)
  rw [lg_entry_eq]
  generalize (lg_sl ([.ref v, .int i]) ++ List.replicate (2 - (lg_sl ([.ref v, .int i])).length) Slot.unset).toArray = ls at hl0 ⊢
  have hl1 : ls[0]? = some (.val (.ref v)) := hl0.2.2 (0, .ref v) List.mem_cons_self
  have hl2 : ls[1]? = some (.val (.int i)) := hl0.2.2 (1, .int i) (List.mem_cons_of_mem _ List.mem_cons_self)
  have hcf : CallFix p m c prog_21_method_2_code 2 s ([Value.ref v, .int i]).toArray [] "java/lang/StringLatin1" := ⟨hx, hb, hml, hown, fun w hw => by cases hw⟩
  refine lv_iload_n hx hb sd_5_0 rfl hl2 ?_
  refine lv_aload_n hx hb sd_5_1 rfl hl1 ?_
  refine va_tlen hx hb hT va_S.rf rfl sd_5_2 ?_
  refine sx_callS (As := [.int i, .int (Int32.ofNat n)]) (rest := []) (tv := []) hw hS0 (fun q h => h) (fun z hz => by cases hz) va_S.rf hcf (sx_c4 h0 h1) (sx_in 3 rfl) (sx_in 7 rfl) (sx_in 19 rfl) (hw _ (sx_in 24 rfl) _) ⟨by decide, by decide⟩ sn_4 ⟨by decide, by decide⟩ hl0.1 (by decide) sd_5_3 ⟨by decide, by decide⟩ (fun H1 L g1 _ _ => ?_)
  refine lv_aload_n hx hb sd_5_6 rfl hl1 ?_
  refine lv_iload_n hx hb sd_5_7 rfl hl2 ?_
  refine va_tb hx hb hT g1 hin hf sd_5_8 ?_
  refine lv_sipush hx hb sd_5_9 (v := 255) (by decide) ?_
  refine lv_iand hx hb sd_5_12 ?_
  refine lv_i2c hx hb sd_5_13 (sx_byte ch hc) ?_
  exact vx_ret (W.zret hx hb B.returns (sx_nar ch hc) (fun t ht _ => ⟨rfl, g1.F ht⟩) g1.2.2 sd_5_14 B.notSynchronized)
theorem sx_ofI {z : Int} (h1 : -2147483648 ≤ z) (h2 : z < 2147483648) : (Int32.ofInt z).toInt = z := by
  rw [Int32.toInt_ofInt]
  have : z.bmod (2 ^ 32) = z := by
    rw [Int.bmod_def]
    split <;> omega
  exact this
theorem sx_ix {i : Int32} {n : Nat} (h0 : ¬ i < 0) (h1 : i.toNatClampNeg < n) (hn : n ≤ 1000) : i < Int32.ofNat n ∧ vp_in i n := by
  have e0 : 0 ≤ i.toInt := by
    have := Int32.not_lt.mp h0
    simpa using Int32.le_iff_toInt_le.mp this
  have e1 : (Int32.ofNat n).toInt = (n : Int) := by
    have e : Int32.ofNat n = Int32.ofInt (n : Int) := rfl
    rw [e]
    exact sx_ofI (by omega) (by omega)
  have e2 : i.toNatClampNeg = i.toInt.toNat := rfl
  refine ⟨?_, fun q => ?_⟩
  · rw [Int32.lt_iff_toInt_lt, e1]
    omega
  · rcases q with q | q
    · exact h0 q
    · omega
theorem sx_c6 (hq : q ∈ STR) {i : Int32} {ch : Char} (h0 : ¬ i < 0) (hch : q.2.2.toList[i.toNatClampNeg]? = some ch) : sx_M l STR sa sx_y6 sx_w6 (sx_rm 4 64) [] [.ref (sa q.1 q.2.1), .int i] (some (.int (Int32.ofNat ch.toNat))) := by
  intro sz
  refine vx_ofW (cc := prog_20_method_56_code) (maxL := 2) (ret := some .char) (ws' := []) (by decide +kernel) rfl ?_
  intro p e s m args below meth c s₁ B hml hex hP
  obtain ⟨rfl, rfl, hw, hS0, -⟩ := hP
  obtain ⟨hok, h2, h3, v, h4, h5⟩ := hS0.1 q hq
  have hlt := (List.getElem?_eq_some_iff.mp hch).1
  obtain ⟨hi1, hi2⟩ := sx_ix h0 hlt hok.1
  have hc128 : ch.toNat < 128 := hok.2 ch (List.mem_of_getElem? hch)
  have hfv : sx_f q.2.2 i.toNatClampNeg = .int (Int32.ofNat ch.toNat) := by
    unfold sx_f
    rw [List.getD_eq_getElem?_getD, hch]
    rfl
  have hx := B.exec
  have hb := B.bytes
  have hown : s.vm.findClass "java/lang/String" = some m.cls := findClass_of_methodNamed B.named
  have hl0 := lv_entry ([.ref (sa q.1 q.2.1), .int i]) (n := 2) (Nat.le_of_ble_eq_true rfl)
  rw [lg_entry_eq]
  generalize (lg_sl ([.ref (sa q.1 q.2.1), .int i]) ++ List.replicate (2 - (lg_sl ([.ref (sa q.1 q.2.1), .int i])).length) Slot.unset).toArray = ls at hl0 ⊢
  have hl1 : ls[0]? = some (.val (.ref (sa q.1 q.2.1))) := hl0.2.2 (0, .ref (sa q.1 q.2.1)) List.mem_cons_self
  have hl2 : ls[1]? = some (.val (.int i)) := hl0.2.2 (1, .int i) (List.mem_cons_of_mem _ List.mem_cons_self)
  have hcf : CallFix p m c prog_20_method_56_code 2 s ([Value.ref (sa q.1 q.2.1), .int i]).toArray [] "java/lang/String" := ⟨hx, hb, hml, hown, fun w hw => by cases hw⟩
  have hrc : ∃ cellB : Cell, s.heap[sa q.1 q.2.1]? = some cellB ∧ cellB.vm.isStatics = false ∧ s.vm.findClass "java/lang/String" = some cellB.cls := by
    obtain ⟨cell, a1, a2, a3, -⟩ := h2
    exact ⟨cell, a1, a2, a3⟩
  refine lv_aload_n hx hb sd_6_0 rfl hl1 ?_
  refine sx_callV (As := []) (C := "java/lang/String") (rest := []) (tv := []) hw hS0 (fun q h => h) (fun z hz => by cases hz) va_S.rf hcf (sx_c2 hq) (sx_in 1 rfl) (sx_in 7 rfl) (sx_in 12 rfl) (sx_in 13 rfl) (hw _ (sx_in 22 rfl) _) ⟨by decide, by decide⟩ (by decide +kernel) hrc ⟨by decide, by decide⟩ hl0.1 (by decide) sd_6_1 ⟨by decide, by decide⟩ (fun H1 L g1 _ _ => ?_)
  refine lv_if_eq hx hb (tgt := 16) sd_6_4 rfl (fun h => absurd h (by decide)) (fun _ => ?_)
  refine lv_aload_n hx hb sd_6_7 rfl hl1 ?_
  refine vk_getf hx hb h4 g1 hown (hw _ (sx_in 26 rfl) _) (fun x h => h) sd_6_8 ?_
  refine lv_iload_n hx hb sd_6_11 rfl hl2 ?_
  refine sx_callS (As := [.ref v, .int i]) (rest := []) (tv := [(v, q.2.2.toList.length, sx_f q.2.2)]) hw hS0 (fun q h => h) (fun z hz => by rw [List.mem_singleton.mp hz]; exact h5) g1 hcf (sx_c5 h0 hi1 hi2 hfv hc128) (sx_in 4 rfl) (sx_in 8 rfl) (sx_in 20 rfl) (hw _ (sx_in 23 rfl) _) ⟨by decide, by decide⟩ sn_5 ⟨by decide, by decide⟩ hl0.1 (by decide) sd_6_12 ⟨by decide, by decide⟩ (fun H2 L2 g2 _ _ => ?_)
  exact vx_ret (W.zret hx hb B.returns (sx_nar _ hc128) (fun t ht _ => ⟨rfl, g2.F ht⟩) g2.2.2 sd_6_15 B.notSynchronized)
theorem sx_c7 (hq : q ∈ STR) : sx_M l STR sa sx_y7 sx_w7 (sx_rm 2 22) [] [.ref (sa q.1 q.2.1)] (some (.int (Int32.ofNat q.2.2.toList.length))) := by
  intro sz
  refine vx_ofW (cc := prog_20_method_54_code) (maxL := 1) (ret := some .int) (ws' := []) (by decide +kernel) rfl ?_
  intro p e s m args below meth c s₁ B hml hex hP
  obtain ⟨rfl, rfl, hw, hS0, -⟩ := hP
  obtain ⟨hok, h2, h3, v, h4, h5⟩ := hS0.1 q hq
  have hx := B.exec
  have hb := B.bytes
  have hown : s.vm.findClass "java/lang/String" = some m.cls := findClass_of_methodNamed B.named
  have hl0 := lv_entry ([.ref (sa q.1 q.2.1)]) (n := 1) (Nat.le_of_ble_eq_true rfl)
  rw [lg_entry_eq]
  generalize (lg_sl ([.ref (sa q.1 q.2.1)]) ++ List.replicate (1 - (lg_sl ([.ref (sa q.1 q.2.1)])).length) Slot.unset).toArray = ls at hl0 ⊢
  have hl1 : ls[0]? = some (.val (.ref (sa q.1 q.2.1))) := hl0.2.2 (0, .ref (sa q.1 q.2.1)) List.mem_cons_self
  have hcf : CallFix p m c prog_20_method_54_code 1 s ([Value.ref (sa q.1 q.2.1)]).toArray [] "java/lang/String" := ⟨hx, hb, hml, hown, fun w hw => by cases hw⟩
  have hrc : ∃ cellB : Cell, s.heap[sa q.1 q.2.1]? = some cellB ∧ cellB.vm.isStatics = false ∧ s.vm.findClass "java/lang/String" = some cellB.cls := by
    obtain ⟨cell, a1, a2, a3, -⟩ := h2
    exact ⟨cell, a1, a2, a3⟩
  refine lv_aload_n hx hb sd_7_0 rfl hl1 ?_
  refine vk_getf hx hb h4 va_S.rf hown (hw _ (sx_in 26 rfl) _) (fun x h => h) sd_7_1 ?_
  refine va_tlen hx hb h5 va_S.rf rfl sd_7_4 ?_
  refine lv_aload_n hx hb sd_7_5 rfl hl1 ?_
  refine sx_callV (As := []) (C := "java/lang/String") (rest := [.int (Int32.ofNat q.2.2.toList.length)]) (tv := []) hw hS0 (fun q h => h) (fun z hz => by cases hz) va_S.rf hcf (sx_c1 hq) (sx_in 0 rfl) (sx_in 7 rfl) (sx_in 10 rfl) (sx_in 11 rfl) (hw _ (sx_in 21 rfl) _) ⟨by decide, by decide⟩ (by decide +kernel) hrc ⟨by decide, by decide⟩ hl0.1 (Nat.le_of_ble_eq_true rfl) sd_7_6 ⟨by decide, by decide⟩ (fun H1 L g1 _ _ => ?_)
  refine lv_ishr hx hb sd_7_9 ?_
  have e : Int32.ofNat q.2.2.toList.length >>> ((0 : Int32) &&& 31) = Int32.ofNat q.2.2.toList.length := by
    rw [show ((0 : Int32) &&& 31) = 0 from rfl, ← Int32.toBitVec_inj]
    simp
  rw [e]
  exact vx_ret (W.iret hx hb B.returns (fun t ht _ => ⟨rfl, g1.F ht⟩) g1.2.2 sd_7_10 B.notSynchronized)
end SXC
end
