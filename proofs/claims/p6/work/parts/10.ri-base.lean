/-! RI: a run of bytecode over closed data (a table of code, values that are constants, arguments or sums of such, references by numbers), and that it is sound for W. This part: values, and the instructions that touch neither heap nor course. -/
section RIA
def ri_gI : Value → Int32
  | .int x => x
  | _ => 0
def ri_gL : Value → Int64
  | .long x => x
  | _ => 0
def ri_gR : Value → Option Nat
  | .ref a => some a
  | _ => none
def ri_b32 (o : Binary) (x y : Int32) : Int32 := match o with
  | .iand => x &&& y
  | .ior => x ||| y
  | .ixor => x ^^^ y
  | .ishl => x <<< (y &&& 31)
  | .ishr => x >>> (y &&& 31)
  | .iushr => (x.toUInt32 >>> (y.toUInt32 &&& Int32.toUInt32 31)).toInt32
  | _ => 0
def ri_b64 (o : Binary) (x y : Int64) : Int64 := match o with
  | .ladd => x + y
  | .lsub => x - y
  | .lmul => x * y
  | .land => x &&& y
  | .lor => x ||| y
  | .lxor => x ^^^ y
  | _ => 0
/-- of what sort an answer is: 0 int, 1 long, 9 none -/
def ri_ko : Binary → Nat
  | .iand => 0 | .ior => 0 | .ixor => 0 | .ishl => 0 | .ishr => 0 | .iushr => 0
  | .ladd => 1 | .lsub => 1 | .lmul => 1 | .land => 1 | .lor => 1 | .lxor => 1
  | .lcmp => 2
  | _ => 9
def ri_cv (ρ : Nat → Int32) (sa : String → Nat → Nat) (ad : Nat → Nat) : Jvm.Term → Value
  | .arg i => .int (ρ i)
  | .int v => .int v
  | .long v => .long v
  | .null => .null
  | .index k => .ref (ad k)
  | .string c i => .ref (sa c i)
  | .add a b => .int (ri_gI (ri_cv ρ sa ad a) + ri_gI (ri_cv ρ sa ad b))
  | .sub a b => .int (ri_gI (ri_cv ρ sa ad a) - ri_gI (ri_cv ρ sa ad b))
  | .mul a b => .int (ri_gI (ri_cv ρ sa ad a) * ri_gI (ri_cv ρ sa ad b))
  | .div a b => .int (ri_gI (ri_cv ρ sa ad a) / ri_gI (ri_cv ρ sa ad b))
  | .rem a b => .int (ri_gI (ri_cv ρ sa ad a) - ri_gI (ri_cv ρ sa ad a) / ri_gI (ri_cv ρ sa ad b) * ri_gI (ri_cv ρ sa ad b))
  | .op2 o a b => match ri_ko o with
    | 0 => .int (ri_b32 o (ri_gI (ri_cv ρ sa ad a)) (ri_gI (ri_cv ρ sa ad b)))
    | 1 => .long (ri_b64 o (ri_gL (ri_cv ρ sa ad a)) (ri_gL (ri_cv ρ sa ad b)))
    | 2 => .int (lg_cmp (ri_gL (ri_cv ρ sa ad a)) (ri_gL (ri_cv ρ sa ad b)))
    | _ => .retAddr 0
  | .op1 o a => match o with
    | .ineg => .int (-ri_gI (ri_cv ρ sa ad a))
    | .i2l => .long (ri_gI (ri_cv ρ sa ad a)).toInt64
    | .l2i => .int (ri_gL (ri_cv ρ sa ad a)).toInt32
    | .bitsD => .double (ri_gL (ri_cv ρ sa ad a)).toUInt64
    | .bitsF => .float (ri_gI (ri_cv ρ sa ad a)).toUInt32
    | _ => .retAddr 0
  | _ => .retAddr 0
/-- 0 int, 1 long, 2 a reference, 3 null, 4 double, 5 float, 9 none -/
def ri_k : Jvm.Term → Nat
  | .arg _ => 0
  | .int _ => 0
  | .long _ => 1
  | .null => 3
  | .index _ => 2
  | .string _ _ => 2
  | .add _ _ => 0
  | .sub _ _ => 0
  | .mul _ _ => 0
  | .div _ _ => 0
  | .rem _ _ => 0
  | .op2 o _ _ => match ri_ko o with
    | 0 => 0
    | 1 => 1
    | 2 => 0
    | _ => 9
  | .op1 o _ => match o with
    | .ineg => 0
    | .i2l => 1
    | .l2i => 0
    | .bitsD => 4
    | .bitsF => 5
    | _ => 9
  | _ => 9
def ri_wide (t : Jvm.Term) : Bool := ri_k t == 1 || ri_k t == 4
section RIB
variable {ρ : Nat → Int32} {sa : String → Nat → Nat} {ad ad' : Nat → Nat}
/-- what a value is, by its sort -/
def ri_is (k : Nat) (v : Value) : Prop := (k = 0 → v = .int (ri_gI v)) ∧ (k = 1 → v = .long (ri_gL v)) ∧ (k = 2 → ∃ a, v = .ref a) ∧ (k = 3 → v = .null) ∧ (k = 4 → ∃ b, v = .double b) ∧ (k = 5 → ∃ b, v = .float b) ∧ (v.category = 2 → k = 1 ∨ k = 4) ∧ ((k = 1 ∨ k = 4) → v.category = 2)
theorem ri_is_i (x : Int32) : ri_is 0 (.int x) := by
  refine ⟨fun _ => rfl, ?_, ?_, ?_, ?_, ?_, ?_, ?_⟩ <;> intro h <;> first | (cases h; done) | (rcases h with h | h <;> cases h)
theorem ri_is_l (x : Int64) : ri_is 1 (.long x) := by
  refine ⟨?_, fun _ => rfl, ?_, ?_, ?_, ?_, fun _ => Or.inl rfl, fun _ => rfl⟩ <;> intro h <;> first | (cases h; done) | (rcases h with h | h <;> cases h)
theorem ri_is_r (x : Nat) : ri_is 2 (.ref x) := by
  refine ⟨?_, ?_, fun _ => ⟨_, rfl⟩, ?_, ?_, ?_, ?_, ?_⟩ <;> intro h <;> first | (cases h; done) | (rcases h with h | h <;> cases h)
theorem ri_is_n : ri_is 3 .null := by
  refine ⟨?_, ?_, ?_, fun _ => rfl, ?_, ?_, ?_, ?_⟩ <;> intro h <;> first | (cases h; done) | (rcases h with h | h <;> cases h)
theorem ri_is_d (x : UInt64) : ri_is 4 (.double x) := by
  refine ⟨?_, ?_, ?_, ?_, fun _ => ⟨_, rfl⟩, ?_, fun _ => Or.inr rfl, fun _ => rfl⟩ <;> intro h <;> first | (cases h; done) | (rcases h with h | h <;> cases h)
theorem ri_is_f (x : UInt32) : ri_is 5 (.float x) := by
  refine ⟨?_, ?_, ?_, ?_, ?_, fun _ => ⟨_, rfl⟩, ?_, ?_⟩ <;> intro h <;> first | (cases h; done) | (rcases h with h | h <;> cases h)
theorem ri_is_9 : ri_is 9 (.retAddr 0) := by
  refine ⟨?_, ?_, ?_, ?_, ?_, ?_, ?_, ?_⟩ <;> intro h <;> first | (cases h; done) | (rcases h with h | h <;> cases h)
theorem ri_cv_is (t : Jvm.Term) : ri_is (ri_k t) (ri_cv ρ sa ad t) := by
  cases t with
  | op2 o a b => cases o <;> first | exact ri_is_i _ | exact ri_is_l _ | exact ri_is_9
  | op1 o a => cases o <;> first | exact ri_is_i _ | exact ri_is_l _ | exact ri_is_d _ | exact ri_is_f _ | exact ri_is_9
  | _ => first | exact ri_is_i _ | exact ri_is_l _ | exact ri_is_r _ | exact ri_is_n | exact ri_is_9
theorem ri_I {t : Jvm.Term} (h : ri_k t = 0) : ri_cv ρ sa ad t = .int (ri_gI (ri_cv ρ sa ad t)) := (ri_cv_is t).1 h
theorem ri_L {t : Jvm.Term} (h : ri_k t = 1) : ri_cv ρ sa ad t = .long (ri_gL (ri_cv ρ sa ad t)) := (ri_cv_is t).2.1 h
theorem ri_R {t : Jvm.Term} (h : ri_k t = 2) : ∃ a, ri_cv ρ sa ad t = .ref a := (ri_cv_is t).2.2.1 h
theorem ri_N {t : Jvm.Term} (h : ri_k t = 3) : ri_cv ρ sa ad t = .null := (ri_cv_is t).2.2.2.1 h
theorem ri_Dd {t : Jvm.Term} (h : ri_k t = 4) : ∃ b, ri_cv ρ sa ad t = .double b := (ri_cv_is t).2.2.2.2.1 h
theorem ri_Ff {t : Jvm.Term} (h : ri_k t = 5) : ∃ b, ri_cv ρ sa ad t = .float b := (ri_cv_is t).2.2.2.2.2.1 h
theorem ri_cat2 {t : Jvm.Term} : (ri_cv ρ sa ad t).category = 2 ↔ ri_wide t = true := by
  have h := ri_cv_is (ρ := ρ) (sa := sa) (ad := ad) t
  unfold ri_wide
  rw [Bool.or_eq_true, beq_iff_eq, beq_iff_eq]
  exact ⟨h.2.2.2.2.2.2.1, h.2.2.2.2.2.2.2⟩
theorem ri_cat1 {t : Jvm.Term} (h : ri_wide t = false) : (ri_cv ρ sa ad t).category = 1 := by
  rcases lv_cat (ri_cv ρ sa ad t) with h1 | h1
  · exact h1
  · rw [ri_cat2.mp h1] at h; cases h
/-- an int or a long doesn't hang on where the cells lie -/
theorem ri_3 {sa' : String → Nat → Nat} {t : Jvm.Term} {P : Prop} (e : ri_cv ρ sa ad t = ri_cv ρ sa' ad' t) : ri_gI (ri_cv ρ sa ad t) = ri_gI (ri_cv ρ sa' ad' t) ∧ ri_gL (ri_cv ρ sa ad t) = ri_gL (ri_cv ρ sa' ad' t) ∧ (P → ri_cv ρ sa ad t = ri_cv ρ sa' ad' t) := ⟨by rw [e], by rw [e], fun _ => e⟩
theorem ri_key {sa' : String → Nat → Nat} (t : Jvm.Term) : ri_gI (ri_cv ρ sa ad t) = ri_gI (ri_cv ρ sa' ad' t) ∧ ri_gL (ri_cv ρ sa ad t) = ri_gL (ri_cv ρ sa' ad' t) ∧ ((∀ k, t ≠ .index k) ∧ (∀ c i, t ≠ .string c i) → ri_cv ρ sa ad t = ri_cv ρ sa' ad' t) := by
  induction t with
  | index k => exact ⟨rfl, rfl, fun h => absurd rfl (h.1 k)⟩
  | string c i => exact ⟨rfl, rfl, fun h => absurd rfl (h.2 c i)⟩
  | add a b ha hb => exact ri_3 (by simp only [ri_cv]; rw [ha.1, hb.1])
  | sub a b ha hb => exact ri_3 (by simp only [ri_cv]; rw [ha.1, hb.1])
  | mul a b ha hb => exact ri_3 (by simp only [ri_cv]; rw [ha.1, hb.1])
  | div a b ha hb => exact ri_3 (by simp only [ri_cv]; rw [ha.1, hb.1])
  | rem a b ha hb => exact ri_3 (by simp only [ri_cv]; rw [ha.1, hb.1])
  | op2 o a b ha hb => exact ri_3 (by simp only [ri_cv]; rw [ha.1, hb.1, ha.2.1, hb.2.1])
  | op1 o a ha => exact ri_3 (by simp only [ri_cv]; rw [ha.1, ha.2.1])
  | _ => exact ri_3 rfl
theorem ri_num (t : Jvm.Term) (h : ∀ k, t ≠ .index k) : ri_cv ρ sa ad t = ri_cv ρ sa ad' t := by
  by_cases hs : ∃ c i, t = .string c i
  · obtain ⟨c, i, rfl⟩ := hs
    rfl
  · exact (ri_key t).2.2 ⟨h, fun c i e => hs ⟨c, i, e⟩⟩
end RIB
/-- a constant, written by its number -/
def ri_cn : Nat → Jvm.Term
  | 0 => .int 0
  | k + 1 => .int (Int32.ofNat (k + 1))
def ri_ci (x : Int32) : Jvm.Term := ri_cn x.toBitVec.toNat
def ri_cnL : Nat → Jvm.Term
  | 0 => .long 0
  | k + 1 => .long (Int64.ofNat (k + 1))
def ri_cl (x : Int64) : Jvm.Term := ri_cnL x.toBitVec.toNat
theorem ri_ci_eq (x : Int32) : ri_ci x = .int x := by
  have h : ∀ n, ri_cn n = .int (Int32.ofNat n) := fun n => by cases n <;> rfl
  unfold ri_ci
  rw [h]
  congr 1
  apply Int32.toBitVec_inj.mp
  apply BitVec.eq_of_toNat_eq
  simp [Int32.ofNat]
theorem ri_cl_eq (x : Int64) : ri_cl x = .long x := by
  have h : ∀ n, ri_cnL n = .long (Int64.ofNat n) := fun n => by cases n <;> rfl
  unfold ri_cl
  rw [h]
  congr 1
  apply Int64.toBitVec_inj.mp
  apply BitVec.eq_of_toNat_eq
  simp [Int64.ofNat]
/-- an operation: of constants a constant -/
def ri_bin (f : Int32 → Int32 → Int32) (t a b : Jvm.Term) : Jvm.Term := match a, b with
  | .int x, .int y => ri_ci (f x y)
  | _, _ => t
def ri_binL (f : Int64 → Int64 → Int64) (t a b : Jvm.Term) : Jvm.Term := match a, b with
  | .long x, .long y => ri_cl (f x y)
  | _, _ => t
def ri_binC (t a b : Jvm.Term) : Jvm.Term := match a, b with
  | .long x, .long y => ri_ci (lg_cmp x y)
  | _, _ => t
def ri_un (f : Int32 → Int32) (t a : Jvm.Term) : Jvm.Term := match a with
  | .int x => ri_ci (f x)
  | _ => t
def ri_unIL (f : Int32 → Int64) (t a : Jvm.Term) : Jvm.Term := match a with
  | .int x => ri_cl (f x)
  | _ => t
def ri_unLI (f : Int64 → Int32) (t a : Jvm.Term) : Jvm.Term := match a with
  | .long x => ri_ci (f x)
  | _ => t
section RIC
variable {ρ : Nat → Int32} {sa : String → Nat → Nat} {ad : Nat → Nat}
theorem ri_bin_cv {f : Int32 → Int32 → Int32} {t a b : Jvm.Term} (h : ri_cv ρ sa ad t = .int (f (ri_gI (ri_cv ρ sa ad a)) (ri_gI (ri_cv ρ sa ad b)))) : ri_cv ρ sa ad (ri_bin f t a b) = .int (f (ri_gI (ri_cv ρ sa ad a)) (ri_gI (ri_cv ρ sa ad b))) := by
  unfold ri_bin
  split
  · rw [ri_ci_eq]; rfl
  · exact h
theorem ri_binL_cv {f : Int64 → Int64 → Int64} {t a b : Jvm.Term} (h : ri_cv ρ sa ad t = .long (f (ri_gL (ri_cv ρ sa ad a)) (ri_gL (ri_cv ρ sa ad b)))) : ri_cv ρ sa ad (ri_binL f t a b) = .long (f (ri_gL (ri_cv ρ sa ad a)) (ri_gL (ri_cv ρ sa ad b))) := by
  unfold ri_binL
  split
  · rw [ri_cl_eq]; rfl
  · exact h
theorem ri_binC_cv {t a b : Jvm.Term} (h : ri_cv ρ sa ad t = .int (lg_cmp (ri_gL (ri_cv ρ sa ad a)) (ri_gL (ri_cv ρ sa ad b)))) : ri_cv ρ sa ad (ri_binC t a b) = .int (lg_cmp (ri_gL (ri_cv ρ sa ad a)) (ri_gL (ri_cv ρ sa ad b))) := by
  unfold ri_binC
  split
  · rw [ri_ci_eq]; rfl
  · exact h
theorem ri_un_cv {f : Int32 → Int32} {t a : Jvm.Term} (h : ri_cv ρ sa ad t = .int (f (ri_gI (ri_cv ρ sa ad a)))) : ri_cv ρ sa ad (ri_un f t a) = .int (f (ri_gI (ri_cv ρ sa ad a))) := by
  unfold ri_un
  split
  · rw [ri_ci_eq]; rfl
  · exact h
theorem ri_unIL_cv {f : Int32 → Int64} {t a : Jvm.Term} (h : ri_cv ρ sa ad t = .long (f (ri_gI (ri_cv ρ sa ad a)))) : ri_cv ρ sa ad (ri_unIL f t a) = .long (f (ri_gI (ri_cv ρ sa ad a))) := by
  unfold ri_unIL
  split
  · rw [ri_cl_eq]; rfl
  · exact h
theorem ri_unLI_cv {f : Int64 → Int32} {t a : Jvm.Term} (h : ri_cv ρ sa ad t = .int (f (ri_gL (ri_cv ρ sa ad a)))) : ri_cv ρ sa ad (ri_unLI f t a) = .int (f (ri_gL (ri_cv ρ sa ad a))) := by
  unfold ri_unLI
  split
  · rw [ri_ci_eq]; rfl
  · exact h
end RIC
/-- the locals: a place, its value -/
def ri_ld (lv : List (Nat × Jvm.Term)) (i : Nat) : Option Jvm.Term := (lv.find? (fun q => q.1 == i)).map (fun q => q.2)
theorem ri_ld_mem {lv : List (Nat × Jvm.Term)} {i : Nat} {t : Jvm.Term} (h : ri_ld lv i = some t) : (i, t) ∈ lv := by
  unfold ri_ld at h
  obtain ⟨q, hq, rfl⟩ := Option.map_eq_some_iff.mp h
  have h1 := List.mem_of_find?_eq_some hq
  have h2 := List.find?_some hq
  have h3 : q.1 = i := by simpa using h2
  rw [← h3]
  exact h1
def ri_sto (lv : List (Nat × Jvm.Term)) (i : Nat) (t : Jvm.Term) : List (Nat × Jvm.Term) := (i, t) :: lv.filter (fun q => !(q.1 == i) && !(q.1 + 1 == i && ri_wide q.2))
def ri_sto2 (lv : List (Nat × Jvm.Term)) (i : Nat) (t : Jvm.Term) : List (Nat × Jvm.Term) := (i, t) :: lv.filter (fun q => !(q.1 == i) && (!(q.1 == i + 1) && !(q.1 + 1 == i && ri_wide q.2)))
def ri_lc (ρ : Nat → Int32) (sa : String → Nat → Nat) (ad : Nat → Nat) (lv : List (Nat × Jvm.Term)) : List (Nat × Value) := lv.map (fun q => (q.1, ri_cv ρ sa ad q.2))
section RID
variable {ρ : Nat → Int32} {sa : String → Nat → Nat} {ad : Nat → Nat} {lv : List (Nat × Jvm.Term)} {ls : Array Slot} {nL : Nat}
theorem ri_has_sub {l l' : List (Nat × Value)} (h : lv_has ls nL l) (hs : ∀ q ∈ l', q ∈ l) : lv_has ls nL l' := ⟨h.1, h.2.1, fun q hq => h.2.2 q (hs q hq)⟩
theorem ri_sto_has {i : Nat} {t : Jvm.Term} (h : lv_has ls nL ((i, ri_cv ρ sa ad t) :: (ri_lc ρ sa ad lv).filter (fun q => !(q.1 == i) && !(q.1 + 1 == i && q.2.category == 2)))) : lv_has ls nL (ri_lc ρ sa ad (ri_sto lv i t)) := by
  refine ri_has_sub h fun q hq => ?_
  obtain ⟨z, hz, rfl⟩ := List.mem_map.mp hq
  rcases List.mem_cons.mp hz with rfl | hz
  · exact List.mem_cons_self
  · obtain ⟨h1, h2⟩ := List.mem_filter.mp hz
    refine List.mem_cons_of_mem _ (List.mem_filter.mpr ⟨List.mem_map.mpr ⟨z, h1, rfl⟩, ?_⟩)
    have e : ((ri_cv ρ sa ad z.2).category == 2) = ri_wide z.2 := by
      rw [Bool.eq_iff_iff, beq_iff_eq]; exact ri_cat2
    show (!(z.1 == i) && !(z.1 + 1 == i && (ri_cv ρ sa ad z.2).category == 2)) = true
    rw [e]; exact h2
theorem ri_sto2_has {i : Nat} {t : Jvm.Term} (h : lv_has ls nL ((i, ri_cv ρ sa ad t) :: (ri_lc ρ sa ad lv).filter (fun q => !(q.1 == i) && (!(q.1 == i + 1) && !(q.1 + 1 == i && q.2.category == 2))))) : lv_has ls nL (ri_lc ρ sa ad (ri_sto2 lv i t)) := by
  refine ri_has_sub h fun q hq => ?_
  obtain ⟨z, hz, rfl⟩ := List.mem_map.mp hq
  rcases List.mem_cons.mp hz with rfl | hz
  · exact List.mem_cons_self
  · obtain ⟨h1, h2⟩ := List.mem_filter.mp hz
    refine List.mem_cons_of_mem _ (List.mem_filter.mpr ⟨List.mem_map.mpr ⟨z, h1, rfl⟩, ?_⟩)
    have e : ((ri_cv ρ sa ad z.2).category == 2) = ri_wide z.2 := by
      rw [Bool.eq_iff_iff, beq_iff_eq]; exact ri_cat2
    show (!(z.1 == i) && (!(z.1 == i + 1) && !(z.1 + 1 == i && (ri_cv ρ sa ad z.2).category == 2))) = true
    rw [e]; exact h2
theorem ri_ld_at {i : Nat} {t : Jvm.Term} (h : lv_has ls nL (ri_lc ρ sa ad lv)) (hl : ri_ld lv i = some t) : ls[i]? = some (.val (ri_cv ρ sa ad t)) :=
  h.2.2 (i, ri_cv ρ sa ad t) (List.mem_map.mpr ⟨(i, t), ri_ld_mem hl, rfl⟩)
end RID
end RIA
