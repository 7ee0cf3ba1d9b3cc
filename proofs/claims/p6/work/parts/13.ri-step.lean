/-! RI: tables of the program; the instructions that touch the heap, one way on -/
section RIT
/-- a method: its owner, its name, code, locals, answer, decoded code (by place), the number of its owner's table of links, its handlers -/
abbrev ri_Mt : Type := String × MethodName × ByteArray × Nat × Option FieldType × List (Option (Instr × Nat)) × Nat × List (Nat × Nat × Nat × Nat)
abbrev ri_own (M : ri_Mt) : String := M.1
abbrev ri_nm (M : ri_Mt) : MethodName := M.2.1
abbrev ri_by (M : ri_Mt) : ByteArray := M.2.2.1
abbrev ri_mx (M : ri_Mt) : Nat := M.2.2.2.1
abbrev ri_rt (M : ri_Mt) : Option FieldType := M.2.2.2.2.1
abbrev ri_co (M : ri_Mt) : List (Option (Instr × Nat)) := M.2.2.2.2.2.1
abbrev ri_pn (M : ri_Mt) : Nat := M.2.2.2.2.2.2.1
abbrev ri_hh (M : ri_Mt) : List (Nat × Nat × Nat × Nat) := M.2.2.2.2.2.2.2
/-- the word of its code -/
def ri_hw (M : ri_Mt) : Jvm.Cond := match ri_hh M with
  | [] => .code (ri_nm M) (ri_by M) (ri_mx M) (ri_rt M)
  | h :: t => .codeWith (ri_nm M) (ri_by M) (ri_mx M) (ri_rt M) (h :: t)
/-- a link: its sort, two numbers, a text: 0 a field of class a at place b; 1 the same of a nest mate (text: the host); 20 a method a of b arguments, of an object, 21 static, 22 a constructor; 30, 31, 32 the same of a nest mate; 4 a class a; 5 the class of an exception (text), b the place of its text; 6 (at 100000 more) an array over type a of the list; 7 Object(); 8 the int constant a - b; 14 the long; 9 a String; 10 max; 11 min; 12 arraycopy; 13 the constructor of an exception -/
abbrev ri_Lk : Type := Nat × Nat × Nat × String
/-- classes, array types, methods, links, field types -/
abbrev ri_Tb : Type := List vw_C × List FieldType × List ri_Mt × List (List (Nat × ri_Lk)) × List (List FieldType) × List (String × String × Bool) × Nat × (Nat → Int32)
abbrev ri_cls (G : ri_Tb) : List vw_C := G.1
abbrev ri_aty (G : ri_Tb) : List FieldType := G.2.1
abbrev ri_mts (G : ri_Tb) : List ri_Mt := G.2.2.1
abbrev ri_cps (G : ri_Tb) : List (List (Nat × ri_Lk)) := G.2.2.2.1
abbrev ri_fts (G : ri_Tb) : List (List FieldType) := G.2.2.2.2.1
/-- which exception is of which kind -/
abbrev ri_nc (G : ri_Tb) : List (String × String × Bool) := G.2.2.2.2.2.1
/-- the script: its length, its ints -/
abbrev ri_sn (G : ri_Tb) : Nat := G.2.2.2.2.2.2.1
abbrev ri_sf (G : ri_Tb) : Nat → Int32 := G.2.2.2.2.2.2.2
/-- a way out: what held on the way, the world, the answer or the exception -/
abbrev ri_Lf : Type := List ri_Cd × ri_Me × (Option Jvm.Term ⊕ String)
/-- an index that must be in range: what held, the index, the length -/
abbrev ri_Ob : Type := List ri_Cd × Jvm.Term × Nat
abbrev ri_Rs : Type := List ri_Lf × Nat × Nat × List ri_Ob
def ri_cp (G : ri_Tb) (M : ri_Mt) (idx : Nat) : Option ri_Lk := (((ri_cps G).getD (ri_pn M) []).find? (fun q => q.1 == idx)).map (fun q => q.2)
/-- a field or a component of the type may hold the value -/
def ri_fit (ty : FieldType) (t : Jvm.Term) : Bool := match ty with
  | .int => ri_k t == 0
  | .long => ri_k t == 1
  | .object _ => ri_k t == 2 || ri_k t == 3
  | .array _ => ri_k t == 2 || ri_k t == 3
  | .double => ri_k t == 4
  | .float => ri_k t == 5
  | .boolean => match t with
    | .int v => v == 0 || v == 1
    | _ => false
  | _ => false
theorem ri_fit_s {ρ : Nat → Int32} {sa : String → Nat → Nat} {ad : Nat → Nat} {ty : FieldType} {t : Jvm.Term} (h : ri_fit ty t = true) : narrow ty (ri_cv ρ sa ad t) = ri_cv ρ sa ad t ∧ fits ty (ri_cv ρ sa ad t) = true := by
  cases ty with
  | int => rw [ri_I (beq_iff_eq.mp h)]; exact ⟨rfl, rfl⟩
  | long => rw [ri_L (beq_iff_eq.mp h)]; exact ⟨rfl, rfl⟩
  | double => obtain ⟨b, hb⟩ := ri_Dd (ρ := ρ) (sa := sa) (ad := ad) (beq_iff_eq.mp h); rw [hb]; exact ⟨rfl, rfl⟩
  | float => obtain ⟨b, hb⟩ := ri_Ff (ρ := ρ) (sa := sa) (ad := ad) (beq_iff_eq.mp h); rw [hb]; exact ⟨rfl, rfl⟩
  | object n =>
    rcases (Bool.or_eq_true _ _).mp h with h | h
    · obtain ⟨a, ha⟩ := ri_R (ρ := ρ) (sa := sa) (ad := ad) (beq_iff_eq.mp h); rw [ha]; exact ⟨rfl, rfl⟩
    · rw [ri_N (beq_iff_eq.mp h)]; exact ⟨rfl, rfl⟩
  | array n =>
    rcases (Bool.or_eq_true _ _).mp h with h | h
    · obtain ⟨a, ha⟩ := ri_R (ρ := ρ) (sa := sa) (ad := ad) (beq_iff_eq.mp h); rw [ha]; exact ⟨rfl, rfl⟩
    · rw [ri_N (beq_iff_eq.mp h)]; exact ⟨rfl, rfl⟩
  | boolean =>
    simp only [ri_fit] at h
    split at h
    · next v =>
      rcases (Bool.or_eq_true _ _).mp h with h | h
      · rw [beq_iff_eq.mp h]; exact ⟨rfl, rfl⟩
      · rw [beq_iff_eq.mp h]; exact ⟨rfl, rfl⟩
    · cases h
  | _ => cases h
def ri_dft : FieldType → Jvm.Term
  | .byte => .int 0 | .char => .int 0 | .short => .int 0 | .boolean => .int 0 | .int => .int 0
  | .long => .long 0
  | .double => .op1 .bitsD (.long 0)
  | .float => .op1 .bitsF (.int 0)
  | _ => .null
theorem ri_dft_s {ρ : Nat → Int32} {sa : String → Nat → Nat} {ad : Nat → Nat} (ty : FieldType) : ri_cv ρ sa ad (ri_dft ty) = defaultValue ty := by cases ty <;> rfl
theorem ri_dft_ok {n : Nat} (ty : FieldType) : ri_ok n (ri_dft ty) := by cases ty <;> exact trivial
/-- a constant index in range, as a number -/
def ri_ix (i : Jvm.Term) (n : Nat) : Option Nat := match i with
  | .int v => if v < 0 ∨ n ≤ v.toNatClampNeg then none else some v.toNatClampNeg
  | _ => none
theorem ri_ix_s {i : Jvm.Term} {n j : Nat} (h : ri_ix i n = some j) : ∃ v : Int32, i = .int v ∧ vp_in v n ∧ v.toNatClampNeg = j ∧ j < n := by
  unfold ri_ix at h
  split at h
  · next v =>
    split at h
    · cases h
    · next hv => cases h; exact ⟨v, rfl, hv, rfl, Nat.not_le.mp fun q => hv (Or.inr q)⟩
  · cases h
abbrev ri_H1 : Type := Nat × List Jvm.Term × ri_Me × Nat × Nat × List ri_Ob
def ri_getf (G : ri_Tb) (M : ri_Mt) (idx : Nat) (st : List Jvm.Term) (mem : ri_Me) : Option ri_H1 := match ri_cp G M idx, st with
  | some (kd, ci, j, _), .index k :: r => match mem[k]? with
    | some (.inl (ci2, fs)) => match fs[j]? with
      | some t => if kd ≤ 1 ∧ ci2 = ci then some (3, t :: r, mem, 0, 0, []) else none
      | none => none
    | _ => none
  | _, _ => none
def ri_putf (G : ri_Tb) (M : ri_Mt) (idx : Nat) (st : List Jvm.Term) (mem : ri_Me) : Option ri_H1 := match ri_cp G M idx, st with
  | some (kd, ci, j, _), t :: .index k :: r => match mem[k]?, (ri_cls G)[ci]?, ((ri_fts G).getD ci [])[j]? with
    | some (.inl (ci2, fs)), some (_, T, _), some ty => if kd ≤ 1 ∧ ci2 = ci ∧ j < fs.length ∧ ri_fit ty t = true ∧ ((T j).2.2.2 = false ∨ (kd = 0 ∧ (ri_nm M).name = "<init>" ∧ (T j).1 = ri_own M)) then some (3, r, mem.set k (.inl (ci, fs.set j t)), 0, 0, []) else none
    | _, _, _ => none
  | _, _ => none
def ri_iald (G : ri_Tb) (cs : List ri_Cd) (st : List Jvm.Term) (mem : ri_Me) : Option ri_H1 := match st with
  | i :: .index k :: r => match mem[k]? with
    | some (.inr (ty, n, d, ov)) => if (ri_aty G)[ty]? = some .int then (match ri_ix i n with
        | some j => if ri_k (ri_look d ov j) = 0 then some (1, ri_look d ov j :: r, mem, 0, 0, []) else none
        | none => match ov with
          | [] => if ri_k i = 0 ∧ ri_k d = 0 ∧ 0 ≤ (ri_bd cs i).1 ∧ (ri_bd cs i).2 < (n : Int) then some (1, d :: r, mem, 0, 0, []) else none
          | _ => none) else none
    | _ => none
  | _ => none
def ri_iast (G : ri_Tb) (st : List Jvm.Term) (mem : ri_Me) : Option ri_H1 := match st with
  | t :: i :: .index k :: r => match mem[k]? with
    | some (.inr (ty, n, d, ov)) => match ri_ix i n with
      | some j => if (ri_aty G)[ty]? = some .int ∧ ri_k t = 0 then some (1, r, mem.set k (.inr (ty, n, d, ri_put d ov j t)), 0, 0, []) else none
      | none => none
    | _ => none
  | _ => none
def ri_lald (G : ri_Tb) (st : List Jvm.Term) (mem : ri_Me) : Option ri_H1 := match st with
  | i :: .index k :: r => match mem[k]? with
    | some (.inr (ty, n, d, ov)) => match ri_ix i n with
      | some j => if (ri_aty G)[ty]? = some .long ∧ ri_k (ri_look d ov j) = 1 then some (1, ri_look d ov j :: r, mem, 0, 0, []) else none
      | none => none
    | _ => none
  | _ => none
def ri_last (G : ri_Tb) (st : List Jvm.Term) (mem : ri_Me) : Option ri_H1 := match st with
  | t :: i :: .index k :: r => match mem[k]? with
    | some (.inr (ty, n, d, ov)) => match ri_ix i n with
      | some j => if (ri_aty G)[ty]? = some .long ∧ ri_k t = 1 then some (1, r, mem.set k (.inr (ty, n, d, ri_put d ov j t)), 0, 0, []) else none
      | none => none
    | _ => none
  | _ => none
def ri_aald (G : ri_Tb) (st : List Jvm.Term) (mem : ri_Me) : Option ri_H1 := match st with
  | i :: .index k :: r => match mem[k]? with
    | some (.inr (ty, n, d, ov)) => match ri_ix i n, (ri_aty G)[ty]? with
      | some j, some (.object _) => if ri_k (ri_look d ov j) = 2 ∨ ri_k (ri_look d ov j) = 3 then some (1, ri_look d ov j :: r, mem, 0, 0, []) else none
      | _, _ => none
    | _ => none
  | _ => none
def ri_aast (G : ri_Tb) (st : List Jvm.Term) (mem : ri_Me) : Option ri_H1 := match st with
  | .index kv :: i :: .index k :: r => match mem[k]?, mem[kv]? with
    | some (.inr (ty, n, d, ov)), some (.inl (ci, _)) => match ri_ix i n, (ri_cls G)[ci]? with
      | some j, some rr => if (ri_aty G)[ty]? = some (.object rr.1) then some (1, r, mem.set k (.inr (ty, n, d, ri_put d ov j (.index kv))), 0, 0, []) else none
      | _, _ => none
    | _, _ => none
  | _ => none
def ri_alen (G : ri_Tb) (st : List Jvm.Term) (mem : ri_Me) : Option ri_H1 := match st with
  | .index k :: r => match mem[k]? with
    | some (.inr (ty, n, _, _)) => match (ri_aty G)[ty]? with
      | some _ => some (1, ri_ci (Int32.ofNat n) :: r, mem, 0, 0, [])
      | none => none
    | _ => none
  | _ => none
def ri_newo (G : ri_Tb) (M : ri_Mt) (idx : Nat) (st : List Jvm.Term) (mem : ri_Me) : Option ri_H1 := match ri_cp G M idx with
  | some (4, ci, _, _) => match (ri_cls G)[ci]?, (ri_fts G)[ci]? with
    | some (_, _, N), some tys => some (3, .index mem.length :: st, mem ++ [.inl (ci, tys.map ri_dft)], 1, N, [])
    | _, _ => none
  | _ => none
def ri_isI : FieldType → Bool
  | .int => true | .long => true
  | .object _ => true
  | _ => false
def ri_newr (G : ri_Tb) (ty : FieldType) (len : Nat) (st : List Jvm.Term) (mem : ri_Me) : Option ri_H1 := match st, (ri_aty G).findIdx? (fun z => z == ty) with
  | .int v :: r, some a => if ri_isI ty = true ∧ ¬ v < 0 ∧ v.toNatClampNeg ≤ 65536 then some (len, .index mem.length :: r, mem ++ [.inr (a, v.toNatClampNeg, ri_dft ty, [])], 1, v.toNatClampNeg, []) else none
  | _, _ => none
def ri_ldc (G : ri_Tb) (M : ri_Mt) (idx : Nat) (st : List Jvm.Term) (mem : ri_Me) : Option ri_H1 := match ri_cp G M idx with
  | some (8, a, b, _) => some (2, ri_ci (Int32.ofNat a - Int32.ofNat b) :: st, mem, 0, 0, [])
  | some (9, _, _, _) => some (2, .string (ri_own M) idx :: st, mem, 0, 0, [])
  | _ => none
def ri_ldcw (G : ri_Tb) (M : ri_Mt) (idx : Nat) (st : List Jvm.Term) (mem : ri_Me) : Option ri_H1 := match ri_cp G M idx with
  | some (9, _, _, _) => some (3, .string (ri_own M) idx :: st, mem, 0, 0, [])
  | _ => none
def ri_ldc2 (G : ri_Tb) (M : ri_Mt) (idx : Nat) (st : List Jvm.Term) (mem : ri_Me) : Option ri_H1 := match ri_cp G M idx with
  | some (14, a, b, _) => some (3, ri_cl (Int64.ofNat a - Int64.ofNat b) :: st, mem, 0, 0, [])
  | _ => none
/-- a whole row of ints copied over another of its length -/
def ri_acpy (G : ri_Tb) (st : List Jvm.Term) (mem : ri_Me) : Option ri_H1 := match st with
  | .int n :: .int dp :: .index k1 :: .int sp :: .index k0 :: r => match mem[k0]?, mem[k1]? with
    | some (.inr (t0, n0, d0, o0)), some (.inr (t1, n1, _, _)) => if (ri_aty G)[t0]? = some .int ∧ t1 = t0 ∧ n0 = n1 ∧ sp = 0 ∧ dp = 0 ∧ ¬ n < 0 ∧ n.toNatClampNeg = n0 ∧ r.length ≤ 4 then some (3, r, mem.set k1 (.inr (t0, n0, d0, o0)), 0, 0, []) else none
    | _, _ => none
  | _ => none
/-- the script of the law: its ints, at the place of the text "" 0 -/
def ri_lw (M : ri_Mt) : Bool := ri_pn M == 10
def ri_sld (G : ri_Tb) (M : ri_Mt) (st : List Jvm.Term) (mem : ri_Me) : Option ri_H1 := match st with
  | i :: .string c k :: r => match ri_ix i (ri_sn G) with
    | some j => if ri_lw M = true ∧ c = "" ∧ k = 0 then some (1, .int (ri_sf G j) :: r, mem, 0, 0, []) else none
    | none => none
  | _ => none
def ri_slen (G : ri_Tb) (M : ri_Mt) (st : List Jvm.Term) (mem : ri_Me) : Option ri_H1 := match st with
  | .string c k :: r => if ri_lw M = true ∧ c = "" ∧ k = 0 then some (1, .int (Int32.ofNat (ri_sn G)) :: r, mem, 0, 0, []) else none
  | _ => none
def ri_typeOf : ArrayType → FieldType := newarray.typeOf
def ri_heap (G : ri_Tb) (M : ri_Mt) (cs : List ri_Cd) (i : Instr) (st : List Jvm.Term) (mem : ri_Me) : Option ri_H1 := match i with
  | .getfield idx => ri_getf G M idx st mem
  | .putfield idx => ri_putf G M idx st mem
  | .iaload => match ri_sld G M st mem with
    | some x => some x
    | none => ri_iald G cs st mem
  | .iastore => ri_iast G st mem
  | .laload => ri_lald G st mem
  | .lastore => ri_last G st mem
  | .ldc2_w idx => ri_ldc2 G M idx st mem
  | .aaload => ri_aald G st mem
  | .aastore => ri_aast G st mem
  | .arraylength => match ri_slen G M st mem with
    | some x => some x
    | none => ri_alen G st mem
  | .new idx => ri_newo G M idx st mem
  | .newarray t => ri_newr G (ri_typeOf t) 2 st mem
  | .anewarray idx => match ri_cp G M (idx + 100000) with
    | some (6, a, _, _) => match (ri_aty G)[a]? with
      | some ty => ri_newr G ty 3 st mem
      | none => none
    | _ => none
  | .ldc idx => ri_ldc G M idx st mem
  | .ldc_w idx => ri_ldcw G M idx st mem
  | .invokestatic idx => match ri_cp G M idx with
    | some (12, _, _, _) => ri_acpy G st mem
    | _ => none
  | _ => none
end RIT
