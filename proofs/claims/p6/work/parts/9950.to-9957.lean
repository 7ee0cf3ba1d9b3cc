section
/-! RI once more, quicker to the kernel: what an instruction is, is found once for each place; what follows a call or a load comes last -/
section RQ
noncomputable def rq_F (n : Nat) (f : Nat → Option ri_Rs) : Option ri_Rs := Nat.rec (motive := fun _ => Option ri_Rs) (f 0) (fun k _ => f (Nat.succ k)) n
theorem rq_F_eq {n : Nat} {f : Nat → Option ri_Rs} : rq_F n f = f n := by cases n <;> rfl
def rq_more (c s : Nat) (o : List ri_Ob) (r : Option ri_Rs) : Option ri_Rs := match c, s, o with
  | 0, 0, [] => r
  | _, _, _ => ri_more c s o r
theorem rq_more_eq : rq_more = ri_more := by
  funext c s o r
  unfold rq_more
  split
  · unfold ri_more
    cases r with
    | none => rfl
    | some x => simp
  · rfl
def rq_seq (k : ri_Lf → Option ri_Rs) : List ri_Lf → Option ri_Rs
  | [] => some ([], 0, 0, [])
  | [x] => k x
  | x :: y :: l => ri_both (k x) (rq_seq k (y :: l))
theorem rq_seq_eq : rq_seq = ri_seq := by
  funext k l
  induction l with
  | nil => rfl
  | cons x l ih =>
    cases l with
    | nil =>
      show k x = ri_both (k x) (some ([], 0, 0, []))
      cases k x with
      | none => rfl
      | some r => simp [ri_both]
    | cons y l =>
      show ri_both (k x) (rq_seq k (y :: l)) = ri_both (k x) (ri_seq k (y :: l))
      rw [ih]
def rq_pure (nL : Nat) (i : Instr) : Option (List (Nat × Jvm.Term) → List Jvm.Term → Option (Nat × List (Nat × Jvm.Term) × List Jvm.Term)) := match i with
  | .iconst n => some (fun lv st => some (1, lv, ri_ci (Int32.ofInt n) :: st))
  | .bipush n => some (fun lv st => some (2, lv, ri_ci (Int8.ofInt n).toInt32 :: st))
  | .sipush n => some (fun lv st => some (3, lv, ri_ci (Int16.ofInt n).toInt32 :: st))
  | .lconst n => some (fun lv st => some (1, lv, ri_cl (Int64.ofNat n.val) :: st))
  | .aconst_null => some (fun lv st => some (1, lv, .null :: st))
  | .iload k => some (fun lv st => ri_pl 2 0 lv k st)
  | .iload_n k => some (fun lv st => ri_pl 1 0 lv k.val st)
  | .lload k => some (fun lv st => ri_pl 2 1 lv k st)
  | .lload_n k => some (fun lv st => ri_pl 1 1 lv k.val st)
  | .aload k => some (fun lv st => ri_pa 2 lv k st)
  | .aload_n k => some (fun lv st => ri_pa 1 lv k.val st)
  | .istore k => some (fun lv st => ri_ps 2 0 nL lv k st)
  | .istore_n k => some (fun lv st => ri_ps 1 0 nL lv k.val st)
  | .lstore k => some (fun lv st => ri_ps2 2 nL lv k st)
  | .lstore_n k => some (fun lv st => ri_ps2 1 nL lv k.val st)
  | .astore k => some (fun lv st => ri_psa 2 nL lv k st)
  | .astore_n k => some (fun lv st => ri_psa 1 nL lv k.val st)
  | .iinc k n => some (fun lv st => ri_inc nL lv k n st)
  | .iadd => some (fun lv st => ri_s2 0 (fun a b => ri_bin (fun x y => x + y) (.add a b) a b) lv st)
  | .isub => some (fun lv st => ri_s2 0 (fun a b => ri_bin (fun x y => x - y) (.sub a b) a b) lv st)
  | .imul => some (fun lv st => ri_s2 0 (fun a b => ri_bin (fun x y => x * y) (.mul a b) a b) lv st)
  | .idiv => some (fun lv st => ri_sd (fun a b => ri_bin (fun x y => x / y) (.div a b) a b) lv st)
  | .irem => some (fun lv st => ri_sd (fun a b => ri_bin (fun x y => x - x / y * y) (.rem a b) a b) lv st)
  | .iand => some (fun lv st => ri_s2 0 (fun a b => ri_bin (fun x y => x &&& y) (.op2 .iand a b) a b) lv st)
  | .ior => some (fun lv st => ri_s2 0 (fun a b => ri_bin (fun x y => x ||| y) (.op2 .ior a b) a b) lv st)
  | .ixor => some (fun lv st => ri_s2 0 (fun a b => ri_bin (fun x y => x ^^^ y) (.op2 .ixor a b) a b) lv st)
  | .ishl => some (fun lv st => ri_s2 0 (fun a b => ri_bin (fun x y => x <<< (y &&& 31)) (.op2 .ishl a b) a b) lv st)
  | .ishr => some (fun lv st => ri_s2 0 (fun a b => ri_bin (fun x y => x >>> (y &&& 31)) (.op2 .ishr a b) a b) lv st)
  | .iushr => some (fun lv st => ri_s2 0 (fun a b => ri_bin (fun x y => (x.toUInt32 >>> (y.toUInt32 &&& Int32.toUInt32 31)).toInt32) (.op2 .iushr a b) a b) lv st)
  | .ineg => some (fun lv st => ri_s1 0 (fun a => ri_un (fun x => -x) (.op1 .ineg a) a) lv st)
  | .i2l => some (fun lv st => ri_s1 0 (fun a => ri_unIL (fun x => x.toInt64) (.op1 .i2l a) a) lv st)
  | .l2i => some (fun lv st => ri_s1 1 (fun a => ri_unLI (fun x => x.toInt32) (.op1 .l2i a) a) lv st)
  | .ladd => some (fun lv st => ri_s2 1 (fun a b => ri_binL (fun x y => x + y) (.op2 .ladd a b) a b) lv st)
  | .lsub => some (fun lv st => ri_s2 1 (fun a b => ri_binL (fun x y => x - y) (.op2 .lsub a b) a b) lv st)
  | .lcmp => some (fun lv st => ri_s2 1 (fun a b => ri_binC (.op2 .lcmp a b) a b) lv st)
  | .i2d => some (fun lv st => ri_sI (fun x => ri_fD (FP.i2d x)) lv st)
  | .i2f => some (fun lv st => ri_sI (fun x => ri_fF (FP.i2f x)) lv st)
  | .ddiv => some (fun lv st => ri_s2D FP.ddiv lv st)
  | .fdiv => some (fun lv st => ri_s2F FP.fdiv lv st)
  | .fsub => some (fun lv st => ri_s2F FP.fsub lv st)
  | .f2d => some (fun lv st => ri_s1F FP.f2d lv st)
  | .fconst 0 => some (fun lv st => some (1, lv, ri_fF FP.fconst0 :: st))
  | .fconst 1 => some (fun lv st => some (1, lv, ri_fF FP.fconst1 :: st))
  | .dconst 0 => some (fun lv st => some (1, lv, ri_fD FP.dconst0 :: st))
  | .dcmp op => some (fun lv st => ri_sC op lv st)
  | .dload k => some (fun lv st => ri_pl 2 4 lv k st)
  | .dload_n k => some (fun lv st => ri_pl 1 4 lv k.val st)
  | .dstore k => some (fun lv st => ri_psd 2 nL lv k st)
  | .dstore_n k => some (fun lv st => ri_psd 1 nL lv k.val st)
  | .dup => some (fun lv st => ri_dup lv st)
  | .dup_x1 => some (fun lv st => ri_dup_x1 lv st)
  | .dup2 => some (fun lv st => ri_dup2 lv st)
  | .pop => some (fun lv st => ri_pop lv st)
  | _ => none
def rq_heap (G : ri_Tb) (M : ri_Mt) (i : Instr) : Option (List ri_Cd → List Jvm.Term → ri_Me → Option ri_H1) := match i with
  | .getfield idx => some (fun cs st mem => ri_getf G M idx st mem)
  | .putfield idx => some (fun cs st mem => ri_putf G M idx st mem)
  | .iaload => some (fun cs st mem => match ri_sld G M st mem with
    | some x => some x
    | none => ri_iald G cs st mem)
  | .iastore => some (fun cs st mem => ri_iast G st mem)
  | .laload => some (fun cs st mem => ri_lald G st mem)
  | .lastore => some (fun cs st mem => ri_last G st mem)
  | .ldc2_w idx => some (fun cs st mem => ri_ldc2 G M idx st mem)
  | .aaload => some (fun cs st mem => ri_aald G st mem)
  | .aastore => some (fun cs st mem => ri_aast G st mem)
  | .arraylength => some (fun cs st mem => match ri_slen G M st mem with
    | some x => some x
    | none => ri_alen G st mem)
  | .new idx => some (fun cs st mem => ri_newo G M idx st mem)
  | .newarray t => some (fun cs st mem => ri_newr G (ri_typeOf t) 2 st mem)
  | .anewarray idx => some (fun cs st mem => match ri_cp G M (idx + 100000) with
    | some (6, a, _, _) => match (ri_aty G)[a]? with
      | some ty => ri_newr G ty 3 st mem
      | none => none
    | _ => none)
  | .ldc idx => some (fun cs st mem => ri_ldc G M idx st mem)
  | .ldc_w idx => some (fun cs st mem => ri_ldcw G M idx st mem)
  | .invokestatic idx => some (fun cs st mem => match ri_cp G M idx with
    | some (12, _, _, _) => ri_acpy G st mem
    | _ => none)
  | _ => none
def rq_foc (i : Instr) : Option (List Jvm.Term → Option (List Jvm.Term × Jvm.Term × List Jvm.Term)) := match i with
  | .iaload => some (fun st => match st with
    | x :: r => some ([], x, r)
    | _ => none)
  | .aaload => some (fun st => match st with
    | x :: r => some ([], x, r)
    | _ => none)
  | .laload => some (fun st => match st with
    | x :: r => some ([], x, r)
    | _ => none)
  | .iastore => some (fun st => match st with
    | t :: x :: r => some ([t], x, r)
    | _ => none)
  | .lastore => some (fun st => match st with
    | t :: x :: r => some ([t], x, r)
    | _ => none)
  | _ => none
def rq_inv (G : ri_Tb) (call : ri_Call) (M : ri_Mt) (K : ri_K) (sort pc idx : Nat) (lv : List (Nat × Jvm.Term)) (st : List Jvm.Term) (cs : List ri_Cd) (mem : ri_Me) : Option ri_Rs := match ri_cp G M idx with
  | some (kd, mi, n, _) =>
    if kd = 20 + sort ∨ kd = 30 + sort then (match (ri_mts G)[mi]? with
      | some M' =>
        if (kd = 21 ∨ (ri_hh M').isEmpty = true) ∧ ri_nn sort n ≤ st.length ∧ (st.drop (ri_nn sort n)).length ≤ 4 ∧ (sort = 1 ∨ ri_recv G (ri_nm M').cls mem (st.take (ri_nn sort n)).reverse = true) then (match call mi (st.take (ri_nn sort n)).reverse cs mem with
          | some (L, mc, ms, ob) => rq_more mc ms ob (rq_seq (ri_after G M K pc lv (st.drop (ri_nn sort n))) L)
          | none => none) else none
      | none => none)
    else if kd = 7 then (match st with
      | .index _ :: r => if sort = 2 ∧ r.length ≤ 4 then K (pc + 3) lv r cs mem else none
      | _ => none)
    else if kd = 10 then (match st with
      | y :: x :: r => if sort = 1 ∧ ri_k x = 0 ∧ ri_k y = 0 ∧ r.length ≤ 4 then ri_br cs (1, x, y, true) (fun cs' => K (pc + 3) lv (y :: r) cs' mem) (fun cs' => K (pc + 3) lv (x :: r) cs' mem) else none
      | _ => none)
    else if kd = 11 then (match st with
      | y :: x :: r => if sort = 1 ∧ ri_k x = 0 ∧ ri_k y = 0 ∧ r.length ≤ 4 then ri_br cs (1, y, x, true) (fun cs' => K (pc + 3) lv (y :: r) cs' mem) (fun cs' => K (pc + 3) lv (x :: r) cs' mem) else none
      | _ => none)
    else if kd = 16 ∨ kd = 17 then ri_strm G M K kd sort pc lv st cs mem
    else none
  | none => none
theorem rq_inv_eq : rq_inv = ri_inv := by
  funext G call M K sort pc idx lv st cs mem
  unfold rq_inv ri_inv
  rw [rq_more_eq, rq_seq_eq]
  rfl
abbrev rq_S : Type := ri_Call → ri_K → List (Nat × Jvm.Term) → List Jvm.Term → List ri_Cd → ri_Me → Option ri_Rs
def rq_ctl (G : ri_Tb) (M : ri_Mt) (pc : Nat) (i : Instr) (len : Nat) : Option rq_S := match i with
  | .goto off => some (fun call K lv st cs mem => match ri_tg pc off with
    | some t => if len = 3 then K t lv st cs mem else none
    | none => none)
  | .ifCond c off => some (fun call K lv st cs mem => match st, ri_tg pc off with
    | a :: r, some t => if ri_k a = 0 ∧ len = 3 then ri_br cs (ri_cnd c a (.int 0)) (fun cs' => K t lv r cs' mem) (fun cs' => K (pc + 3) lv r cs' mem) else none
    | _, _ => none)
  | .if_icmp c off => some (fun call K lv st cs mem => match st, ri_tg pc off with
    | b :: a :: r, some t => if ri_k a = 0 ∧ ri_k b = 0 ∧ len = 3 then ri_br cs (ri_cnd c a b) (fun cs' => K t lv r cs' mem) (fun cs' => K (pc + 3) lv r cs' mem) else none
    | _, _ => none)
  | .ifnull off => some (fun call K lv st cs mem => match st, ri_tg pc off with
    | a :: r, some t => if len = 3 then (if ri_k a = 3 then K t lv r cs mem else if ri_k a = 2 then K (pc + 3) lv r cs mem else none) else none
    | _, _ => none)
  | .ifnonnull off => some (fun call K lv st cs mem => match st, ri_tg pc off with
    | a :: r, some t => if len = 3 then (if ri_k a = 2 then K t lv r cs mem else if ri_k a = 3 then K (pc + 3) lv r cs mem else none) else none
    | _, _ => none)
  | .tableswitch d lo hi offs => some (fun call K lv st cs mem => match st with
    | x :: r => if ri_k x = 0 ∧ hi = lo + (offs.size : Int) - 1 ∧ -2147483648 ≤ lo ∧ hi < 2147483648 then ri_chain x pc (fun t cs' => K t lv r cs' mem) d (offs.toList.mapIdx (fun j o => (lo + (j : Int), o))) cs else none
    | _ => none)
  | .lookupswitch d ps => some (fun call K lv st cs mem => match st with
    | x :: r => if ri_k x = 0 ∧ (ps.toList.zip (ps.toList.drop 1)).all (fun (a, next) => a.1 < next.1) = true ∧ ps.toList.all (fun q => decide (-2147483648 ≤ q.1 ∧ q.1 < 2147483648)) = true then ri_chain x pc (fun t cs' => K t lv r cs' mem) d ps.toList cs else none
    | _ => none)
  | .ireturn => some (fun call K lv st cs mem => if len = 1 then ri_ans M st cs mem ri_okI else none)
  | .areturn => some (fun call K lv st cs mem => if len = 1 then ri_ans M st cs mem ri_okA else none)
  | .dreturn => some (fun call K lv st cs mem => if len = 1 then ri_ans M st cs mem ri_okD else none)
  | .freturn => some (fun call K lv st cs mem => if len = 1 then ri_ans M st cs mem ri_okF else none)
  | .return_ => some (fun call K lv st cs mem => match st, ri_rt M with
    | [], none => if len = 1 then some ([(cs, mem, .inl none)], 0, 0, []) else none
    | _, _ => none)
  | .new ik => some (fun call K lv st cs mem => if len = 3 then ri_thr G M pc ik st cs mem else none)
  | .invokevirtual idx => some (fun call K lv st cs mem => if len = 3 then rq_inv G call M K 0 pc idx lv st cs mem else none)
  | .invokestatic idx => some (fun call K lv st cs mem => if len = 3 then rq_inv G call M K 1 pc idx lv st cs mem else none)
  | .invokespecial idx => some (fun call K lv st cs mem => if len = 3 then rq_inv G call M K 2 pc idx lv st cs mem else none)
  | _ => none
def rq_o2 {α β γ : Type} (o : Option (α → β → Option γ)) (a : α) (b : β) : Option γ := match o with
  | some f => f a b
  | none => none
def rq_o3 {α β δ γ : Type} (o : Option (α → β → δ → Option γ)) (a : α) (b : β) (d : δ) : Option γ := match o with
  | some f => f a b d
  | none => none
def rq_o1 {α γ : Type} (o : Option (α → Option γ)) (a : α) : Option γ := match o with
  | some f => f a
  | none => none
def rq_o6 (o : Option rq_S) (call : ri_Call) (K : ri_K) (lv : List (Nat × Jvm.Term)) (st : List Jvm.Term) (cs : List ri_Cd) (mem : ri_Me) : Option ri_Rs := match o with
  | some f => f call K lv st cs mem
  | none => none
theorem rq_pure_eq {nL : Nat} {i : Instr} {lv : List (Nat × Jvm.Term)} {st : List Jvm.Term} : rq_o2 (rq_pure nL i) lv st = ri_pure nL i lv st := by
  cases i with
  | fconst k => match k with
    | 0 => rfl
    | 1 => rfl
    | 2 => rfl
  | dconst k => match k with
    | 0 => rfl
    | 1 => rfl
  | _ => rfl
theorem rq_heap_eq {G : ri_Tb} {M : ri_Mt} {i : Instr} {cs : List ri_Cd} {st : List Jvm.Term} {mem : ri_Me} : rq_o3 (rq_heap G M i) cs st mem = ri_heap G M cs i st mem := by
  cases i <;> rfl
theorem rq_foc_eq {i : Instr} {st : List Jvm.Term} : rq_o1 (rq_foc i) st = ri_foc i st := by
  cases i with
  | iaload => cases st <;> rfl
  | aaload => cases st <;> rfl
  | laload => cases st <;> rfl
  | iastore => match st with
    | [] => rfl
    | [_] => rfl
    | _ :: _ :: _ => rfl
  | lastore => match st with
    | [] => rfl
    | [_] => rfl
    | _ :: _ :: _ => rfl
  | _ => rfl
theorem rq_ctl_eq {G : ri_Tb} {call : ri_Call} {M : ri_Mt} {K : ri_K} {pc len : Nat} {i : Instr} {lv : List (Nat × Jvm.Term)} {st : List Jvm.Term} {cs : List ri_Cd} {mem : ri_Me} : rq_o6 (rq_ctl G M pc i len) call K lv st cs mem = ri_ctl G call M K pc i len lv st cs mem := by
  cases i with
  | invokevirtual idx => show (if len = 3 then rq_inv G call M K 0 pc idx lv st cs mem else none) = _; rw [rq_inv_eq]; rfl
  | invokestatic idx => show (if len = 3 then rq_inv G call M K 1 pc idx lv st cs mem else none) = _; rw [rq_inv_eq]; rfl
  | invokespecial idx => show (if len = 3 then rq_inv G call M K 2 pc idx lv st cs mem else none) = _; rw [rq_inv_eq]; rfl
  | _ => rfl
/-- what stands at a place -/
def rq_at (G : ri_Tb) (M : ri_Mt) (pc : Nat) : Option rq_S := match (ri_co M)[pc]? with
  | some (some (i, len)) => match rq_pure (ri_mx M) i with
    | some f => some (fun call K lv st cs mem => match f lv st with
      | some (len', lv', st') => if len' = len then K (pc + len) lv' st' cs mem else none
      | none => match ri_heap G M cs i st mem with
        | some x => if x.1 = len then rq_more x.2.2.2.1 x.2.2.2.2.1 x.2.2.2.2.2 (K (pc + len) lv x.2.1 cs x.2.2.1) else none
        | none => match ri_foc i st with
          | some (a, t, r) => if ri_k t = 0 ∧ ri_cst t = false ∧ (ri_bd cs t).2 < (ri_bd cs t).1 + 700 then ri_vals t (fun y cs' => K pc lv (a ++ y :: r) cs' mem) ((ri_bd cs t).2 - (ri_bd cs t).1 + 1).toNat (ri_bd cs t).1 cs else none
          | none => ri_ctl G call M K pc i len lv st cs mem)
    | none => match rq_heap G M i with
      | some g => some (fun call K lv st cs mem => match g cs st mem with
        | some x => if x.1 = len then rq_more x.2.2.2.1 x.2.2.2.2.1 x.2.2.2.2.2 (K (pc + len) lv x.2.1 cs x.2.2.1) else none
        | none => match rq_o1 (rq_foc i) st with
          | some (a, t, r) => if ri_k t = 0 ∧ ri_cst t = false ∧ (ri_bd cs t).2 < (ri_bd cs t).1 + 700 then ri_vals t (fun y cs' => K pc lv (a ++ y :: r) cs' mem) ((ri_bd cs t).2 - (ri_bd cs t).1 + 1).toNat (ri_bd cs t).1 cs else none
          | none => rq_o6 (rq_ctl G M pc i len) call K lv st cs mem)
      | none => match rq_foc i with
        | some _ => none
        | none => rq_ctl G M pc i len
  | _ => none
noncomputable def rq_one (G : ri_Tb) (call : ri_Call) (M : ri_Mt) (K : ri_K) (pc : Nat) (lv : List (Nat × Jvm.Term)) (st : List Jvm.Term) (cs : List ri_Cd) (mem : ri_Me) : Option ri_Rs := rq_F pc (fun pc => rq_o6 (rq_at G M pc) call K lv st cs mem)
theorem rq_nofoc {G : ri_Tb} {M : ri_Mt} {i : Instr} (h : rq_heap G M i = none) : rq_foc i = none := by
  cases i <;> first | rfl | cases h
theorem rq_one_eq {G : ri_Tb} {call : ri_Call} {M : ri_Mt} {K : ri_K} {pc : Nat} {lv : List (Nat × Jvm.Term)} {st : List Jvm.Term} {cs : List ri_Cd} {mem : ri_Me} : rq_one G call M K pc lv st cs mem = ri_one G call M K pc lv st cs mem := by
  unfold rq_one
  rw [rq_F_eq]
  unfold rq_at ri_one
  cases hi : (ri_co M)[pc]? with
  | none => rfl
  | some o =>
    cases o with
    | none => rfl
    | some il =>
      obtain ⟨i, len⟩ := il
      dsimp only
      have e1 := rq_pure_eq (nL := ri_mx M) (i := i) (lv := lv) (st := st)
      have e2 := rq_heap_eq (G := G) (M := M) (i := i) (cs := cs) (st := st) (mem := mem)
      have e3 := rq_foc_eq (i := i) (st := st)
      have e4 := rq_ctl_eq (G := G) (call := call) (M := M) (K := K) (pc := pc) (len := len) (i := i) (lv := lv) (st := st) (cs := cs) (mem := mem)
      cases hp : rq_pure (ri_mx M) i with
      | some f =>
        rw [hp] at e1
        have e1' : f lv st = ri_pure (ri_mx M) i lv st := e1
        rw [← e1', rq_more_eq]
        rfl
      | none =>
        rw [hp] at e1
        have e1' : none = ri_pure (ri_mx M) i lv st := e1
        rw [← e1']
        dsimp only
        cases hh : rq_heap G M i with
        | some g =>
          rw [hh] at e2
          have e2' : g cs st mem = ri_heap G M cs i st mem := e2
          rw [← e2', ← e3, ← e4, rq_more_eq]
          rfl
        | none =>
          rw [hh] at e2
          have e2' : none = ri_heap G M cs i st mem := e2
          rw [← e2', ← e3, rq_nofoc hh, ← e4]
          rfl
noncomputable def rq_runB (G : ri_Tb) (call : ri_Call) (M : ri_Mt) (B : ri_K) (f : Nat) : ri_K := Nat.rec (motive := fun _ => ri_K) B (fun _ K pc lv st cs mem => rq_one G call M K pc lv st cs mem) f
theorem rq_runB_eq {G : ri_Tb} {call : ri_Call} {M : ri_Mt} {B : ri_K} {f : Nat} : rq_runB G call M B f = ri_runB G call M B f := by
  induction f with
  | zero => rfl
  | succ f ih =>
    funext pc lv st cs mem
    show rq_one G call M (rq_runB G call M B f) pc lv st cs mem = ri_one G call M (ri_runB G call M B f) pc lv st cs mem
    rw [rq_one_eq, ih]
noncomputable def rq_call (G : ri_Tb) (fuel d : Nat) : ri_Call := Nat.rec (motive := fun _ => ri_Call) (fun _ _ _ _ => none) (fun k C mi args cs mem => match (ri_mts G)[mi]? with
    | some M => if ri_lw M = false ∧ (args.map (fun t => if ri_wide t = true then 2 else 1)).sum ≤ ri_mx M ∧ (ri_hi M = true → 5 ≤ k) then rq_runB G C M ri_B0 fuel 0 (ri_args 0 args) [] cs mem else none
    | none => none) d
theorem rq_call_eq {G : ri_Tb} {fuel d : Nat} : rq_call G fuel d = ri_call G fuel d := by
  induction d with
  | zero => rfl
  | succ d ih =>
    funext mi args cs mem
    show (match (ri_mts G)[mi]? with
      | some M => if ri_lw M = false ∧ (args.map (fun t => if ri_wide t = true then 2 else 1)).sum ≤ ri_mx M ∧ (ri_hi M = true → 5 ≤ d) then rq_runB G (rq_call G fuel d) M ri_B0 fuel 0 (ri_args 0 args) [] cs mem else none
      | none => none) = _
    rw [ri_call_S, ih]
    simp only [rq_runB_eq]
    rfl
theorem rq_eq {G : ri_Tb} {M : ri_Mt} {B : ri_K} {f fuel d : Nat} : rq_runB G (rq_call G fuel d) M B f = ri_runB G (ri_call G fuel d) M B f := by rw [rq_call_eq, rq_runB_eq]
end RQ
end
section
/-! RI a third time, quicker still: the commonest instructions over constants by recursors alone; all else as before -/
section RZ
noncomputable def rz_if {α : Type} (b : Bool) (x y : α) : α := Bool.rec (motive := fun _ => α) y x b
noncomputable def rz_o {α β : Type} (d : β) (f : α → β) (o : Option α) : β := Option.rec (motive := fun _ => β) d f o
noncomputable def rz_l {α β : Type} (d : β) (f : α → List α → β) (l : List α) : β := List.rec (motive := fun _ => β) d (fun a r _ => f a r) l
noncomputable def rz_tm {β : Type} (d : β) (fi : Int32 → β) (fl : Int64 → β) (fr : Nat → β) (t : Jvm.Term) : β :=
  Jvm.Term.rec (motive := fun _ => β) (fun _ => d) fi fl d fr (fun _ _ _ _ _ => d) (fun _ _ _ => d) (fun _ _ => d) (fun _ => d) (fun _ _ => d) (fun _ _ _ _ => d) (fun _ _ _ _ => d) (fun _ _ _ _ => d) (fun _ _ _ _ => d) (fun _ _ _ _ => d) (fun _ _ _ _ => d) (fun _ _ _ _ _ => d) (fun _ _ _ => d) (fun _ _ => d) d d (fun _ _ => d) t
noncomputable def rz_int (t : Jvm.Term) : Option Int32 := Jvm.Term.rec (motive := fun _ => Option Int32) (fun _ => none) (fun v => some v) (fun _ => none) none (fun _ => none) (fun _ _ _ _ _ => none) (fun _ _ _ => none) (fun _ _ => none) (fun _ => none) (fun _ _ => none) (fun _ _ _ _ => none) (fun _ _ _ _ => none) (fun _ _ _ _ => none) (fun _ _ _ _ => none) (fun _ _ _ _ => none) (fun _ _ _ _ => none) (fun _ _ _ _ _ => none) (fun _ _ _ => none) (fun _ _ => none) none none (fun _ _ => none) t
noncomputable def rz_nat (t : Jvm.Term) : Option Nat := Jvm.Term.rec (motive := fun _ => Option Nat) (fun _ => none) (fun v => some v.toBitVec.toNat) (fun _ => none) none (fun _ => none) (fun _ _ _ _ _ => none) (fun _ _ _ => none) (fun _ _ => none) (fun _ => none) (fun _ _ => none) (fun _ _ _ _ => none) (fun _ _ _ _ => none) (fun _ _ _ _ => none) (fun _ _ _ _ => none) (fun _ _ _ _ => none) (fun _ _ _ _ => none) (fun _ _ _ _ _ => none) (fun _ _ _ => none) (fun _ _ => none) none none (fun _ _ => none) t
noncomputable def rz_long (t : Jvm.Term) : Option Int64 := Jvm.Term.rec (motive := fun _ => Option Int64) (fun _ => none) (fun _ => none) (fun v => some v) none (fun _ => none) (fun _ _ _ _ _ => none) (fun _ _ _ => none) (fun _ _ => none) (fun _ => none) (fun _ _ => none) (fun _ _ _ _ => none) (fun _ _ _ _ => none) (fun _ _ _ _ => none) (fun _ _ _ _ => none) (fun _ _ _ _ => none) (fun _ _ _ _ => none) (fun _ _ _ _ _ => none) (fun _ _ _ => none) (fun _ _ => none) none none (fun _ _ => none) t
noncomputable def rz_ref (t : Jvm.Term) : Option Nat := Jvm.Term.rec (motive := fun _ => Option Nat) (fun _ => none) (fun _ => none) (fun _ => none) none (fun k => some k) (fun _ _ _ _ _ => none) (fun _ _ _ => none) (fun _ _ => none) (fun _ => none) (fun _ _ => none) (fun _ _ _ _ => none) (fun _ _ _ _ => none) (fun _ _ _ _ => none) (fun _ _ _ _ => none) (fun _ _ _ _ => none) (fun _ _ _ _ => none) (fun _ _ _ _ _ => none) (fun _ _ _ => none) (fun _ _ => none) none none (fun _ _ => none) t
noncomputable def rz_k (t : Jvm.Term) : Nat := Jvm.Term.rec (motive := fun _ => Nat) (fun _ => 0) (fun _ => 0) (fun _ => 1) 3 (fun _ => 2) (fun _ _ _ _ _ => 9) (fun _ _ _ => 9) (fun _ _ => 2) (fun _ => 9) (fun _ _ => 9) (fun _ _ _ _ => 9) (fun _ _ _ _ => 0) (fun _ _ _ _ => 0) (fun _ _ _ _ => 0) (fun _ _ _ _ => 0) (fun _ _ _ _ => 0) (fun o a b _ _ => ri_k (.op2 o a b)) (fun o a _ => ri_k (.op1 o a)) (fun _ _ => 9) 9 9 (fun _ _ => 9) t
theorem rz_int_s {t : Jvm.Term} {v : Int32} (h : rz_int t = some v) : t = .int v := by cases t <;> cases h; rfl
theorem rz_nat_s {t : Jvm.Term} {n : Nat} (h : rz_nat t = some n) : ∃ v : Int32, t = .int v ∧ n = v.toBitVec.toNat := by
  cases t <;> cases h
  exact ⟨_, rfl, rfl⟩
theorem rz_long_s {t : Jvm.Term} {v : Int64} (h : rz_long t = some v) : t = .long v := by cases t <;> cases h; rfl
theorem rz_ref_s {t : Jvm.Term} {k : Nat} (h : rz_ref t = some k) : t = .index k := by cases t <;> cases h; rfl
theorem rz_k_eq (t : Jvm.Term) : rz_k t = ri_k t := by cases t <;> rfl
theorem rz_beq {a b : Nat} (h : Nat.beq a b = true) : a = b := Nat.eq_of_beq_eq_true h
theorem rz_bne {a b : Nat} (h : Nat.beq a b = false) : a ≠ b := fun e => by rw [e, Nat.beq_refl] at h; cases h
theorem rz_ble {a b : Nat} (h : Nat.ble a b = true) : a ≤ b := Nat.le_of_ble_eq_true h
/-- lists -/
noncomputable def rz_get {α : Type} (l : List α) : Nat → Option α := List.rec (motive := fun _ => Nat → Option α) (fun _ => none) (fun a _ ih k => Nat.rec (motive := fun _ => Option α) (some a) (fun k' _ => ih k') k) l
theorem rz_get_eq {α : Type} (l : List α) : ∀ k, rz_get l k = l[k]? := by
  induction l with
  | nil => intro k; rfl
  | cons a l ih => intro k; cases k with
    | zero => rfl
    | succ k => exact ih k
noncomputable def rz_set {α : Type} (e : α) (l : List α) : Nat → List α := List.rec (motive := fun _ => Nat → List α) (fun _ => []) (fun a r ih k => Nat.rec (motive := fun _ => List α) (e :: r) (fun k' _ => a :: ih k') k) l
theorem rz_set_eq {α : Type} (e : α) (l : List α) : ∀ k, rz_set e l k = l.set k e := by
  induction l with
  | nil => intro k; rfl
  | cons a l ih => intro k; cases k with
    | zero => rfl
    | succ k => exact congrArg (a :: ·) (ih k)
noncomputable def rz_ld (lv : List (Nat × Jvm.Term)) (i : Nat) : Option Jvm.Term := List.rec (motive := fun _ => Option Jvm.Term) none (fun q _ ih => rz_if (Nat.beq q.1 i) (some q.2) ih) lv
theorem rz_ld_eq (lv : List (Nat × Jvm.Term)) (i : Nat) : rz_ld lv i = ri_ld lv i := by
  induction lv with
  | nil => rfl
  | cons q l ih =>
    show rz_if (Nat.beq q.1 i) (some q.2) (rz_ld l i) = _
    unfold ri_ld
    cases h : Nat.beq q.1 i with
    | true =>
      rw [List.find?_cons_of_pos (by rw [rz_beq h]; simp)]
      rfl
    | false =>
      rw [List.find?_cons_of_neg (by simpa using rz_bne h)]
      exact ih
noncomputable def rz_fl (i : Nat) (lv : List (Nat × Jvm.Term)) : List (Nat × Jvm.Term) := List.rec (motive := fun _ => List (Nat × Jvm.Term)) [] (fun q _ ih => rz_if (Nat.beq q.1 i) ih (rz_if (Nat.beq (Nat.succ q.1) i) (rz_if (ri_wide q.2) ih (q :: ih)) (q :: ih))) lv
theorem rz_fl_eq (i : Nat) (lv : List (Nat × Jvm.Term)) : rz_fl i lv = lv.filter (fun q => !(q.1 == i) && !(q.1 + 1 == i && ri_wide q.2)) := by
  induction lv with
  | nil => rfl
  | cons q l ih =>
    show rz_if (Nat.beq q.1 i) (rz_fl i l) (rz_if (Nat.beq (Nat.succ q.1) i) (rz_if (ri_wide q.2) (rz_fl i l) (q :: rz_fl i l)) (q :: rz_fl i l)) = _
    rw [List.filter_cons, ih]
    cases h : Nat.beq q.1 i with
    | true => rw [rz_beq h]; simp [rz_if]
    | false =>
      have h1 : (q.1 == i) = false := by simpa using rz_bne h
      cases h2 : Nat.beq (Nat.succ q.1) i with
      | true =>
        have h3 : (q.1 + 1 == i) = true := by simpa using rz_beq h2
        cases h4 : ri_wide q.2 <;> simp [rz_if, h1, h3, h4]
      | false =>
        have h3 : (q.1 + 1 == i) = false := by simpa using rz_bne h2
        simp [rz_if, h1, h3]
noncomputable def rz_sto (lv : List (Nat × Jvm.Term)) (i : Nat) (t : Jvm.Term) : List (Nat × Jvm.Term) := (i, t) :: rz_fl i lv
theorem rz_sto_eq (lv : List (Nat × Jvm.Term)) (i : Nat) (t : Jvm.Term) : rz_sto lv i t = ri_sto lv i t := by
  unfold rz_sto ri_sto
  rw [rz_fl_eq]
noncomputable def rz_lk (d : Jvm.Term) (ov : List (Nat × Jvm.Term)) (j : Nat) : Jvm.Term := List.rec (motive := fun _ => Jvm.Term) d (fun q _ ih => rz_if (Nat.beq q.1 j) q.2 ih) ov
theorem rz_lk_eq (d : Jvm.Term) (ov : List (Nat × Jvm.Term)) (j : Nat) : rz_lk d ov j = ri_look d ov j := by
  induction ov with
  | nil => rfl
  | cons q l ih =>
    show rz_if (Nat.beq q.1 j) q.2 (rz_lk d l j) = _
    unfold ri_look at ih ⊢
    cases h : Nat.beq q.1 j with
    | true =>
      rw [List.find?_cons_of_pos (by rw [rz_beq h]; simp)]
      rfl
    | false =>
      rw [List.find?_cons_of_neg (by simpa using rz_bne h)]
      exact ih
noncomputable def rz_f0 (j : Nat) (ov : List (Nat × Jvm.Term)) : List (Nat × Jvm.Term) := List.rec (motive := fun _ => List (Nat × Jvm.Term)) [] (fun q _ ih => rz_if (Nat.beq q.1 j) ih (q :: ih)) ov
theorem rz_f0_eq (j : Nat) (ov : List (Nat × Jvm.Term)) : rz_f0 j ov = ov.filter (fun q => !(q.1 == j)) := by
  induction ov with
  | nil => rfl
  | cons q l ih =>
    show rz_if (Nat.beq q.1 j) (rz_f0 j l) (q :: rz_f0 j l) = _
    rw [List.filter_cons, ih]
    cases h : Nat.beq q.1 j with
    | true => rw [rz_beq h]; simp [rz_if]
    | false =>
      have h1 : (q.1 == j) = false := by simpa using rz_bne h
      simp [rz_if, h1]
noncomputable def rz_same (t d : Jvm.Term) : Bool := rz_o (ri_sameC t d) (fun x => rz_o (ri_sameC t d) (fun y => Nat.beq x y) (rz_nat d)) (rz_nat t)
theorem rz_same_eq (t d : Jvm.Term) : rz_same t d = ri_sameC t d := by
  unfold rz_same
  cases ht : rz_nat t with
  | none => rfl
  | some x =>
    cases hd : rz_nat d with
    | none => rfl
    | some y =>
      obtain ⟨a, rfl, rfl⟩ := rz_nat_s ht
      obtain ⟨b, rfl, rfl⟩ := rz_nat_s hd
      show Nat.beq a.toBitVec.toNat b.toBitVec.toNat = (a == b)
      rw [Bool.eq_iff_iff, beq_iff_eq]
      exact ⟨fun h => Int32.toBitVec_inj.mp (BitVec.eq_of_toNat_eq (rz_beq h)), fun h => by rw [h]; exact Nat.beq_refl _⟩
noncomputable def rz_put (d : Jvm.Term) (ov : List (Nat × Jvm.Term)) (j : Nat) (t : Jvm.Term) : List (Nat × Jvm.Term) := rz_if (rz_same t d) (rz_f0 j ov) ((j, t) :: rz_f0 j ov)
theorem rz_put_eq (d : Jvm.Term) (ov : List (Nat × Jvm.Term)) (j : Nat) (t : Jvm.Term) : rz_put d ov j t = ri_put d ov j t := by
  unfold rz_put ri_put
  rw [rz_same_eq, rz_f0_eq]
  cases ri_sameC t d <;> rfl
/-- compares by numbers -/
noncomputable def rz_lt (x y : Nat) : Bool := Nat.ble (Nat.succ (Nat.mod (Nat.add x 2147483648) 4294967296)) (Nat.mod (Nat.add y 2147483648) 4294967296)
theorem rz_toInt (v : Int32) : v.toInt = if v.toBitVec.toNat < 2147483648 then (v.toBitVec.toNat : Int) else (v.toBitVec.toNat : Int) - 4294967296 := by
  show v.toBitVec.toInt = _
  rw [BitVec.toInt_eq_toNat_cond]
  have : v.toBitVec.toNat < 4294967296 := v.toBitVec.isLt
  split <;> split <;> omega
theorem rz_lt_eq (v w : Int32) : rz_lt v.toBitVec.toNat w.toBitVec.toNat = decide (v < w) := by
  rw [Bool.eq_iff_iff, decide_eq_true_iff, Int32.lt_iff_toInt_lt, rz_toInt, rz_toInt]
  unfold rz_lt
  rw [Nat.ble_eq]
  have h1 : v.toBitVec.toNat < 4294967296 := v.toBitVec.isLt
  have h2 : w.toBitVec.toNat < 4294967296 := w.toBitVec.isLt
  generalize v.toBitVec.toNat = a at *
  generalize w.toBitVec.toNat = b at *
  show (a + 2147483648) % 4294967296 + 1 ≤ (b + 2147483648) % 4294967296 ↔ _
  split <;> split <;> omega
noncomputable def rz_cmp (c : ClassFile.Cond) (x y : Nat) : Bool := ClassFile.Cond.rec (motive := fun _ => Bool) (Nat.beq x y) (rz_if (Nat.beq x y) false true) (rz_lt x y) (rz_if (rz_lt x y) false true) (rz_lt y x) (rz_if (rz_lt y x) false true) c
theorem rz_eqb (v w : Int32) : Nat.beq v.toBitVec.toNat w.toBitVec.toNat = decide (v = w) := by
  rw [Bool.eq_iff_iff, decide_eq_true_iff]
  exact ⟨fun h => Int32.toBitVec_inj.mp (BitVec.eq_of_toNat_eq (rz_beq h)), fun h => by rw [h]; exact Nat.beq_refl _⟩
theorem rz_br {cs : List ri_Cd} {k : Nat} {v w : Int32} {b : Bool} {T F : List ri_Cd → Option ri_Rs} : ri_br cs (k, .int v, .int w, b) T F = if (match k with
    | 0 => decide (v = w)
    | _ => decide (v < w)) = b then T cs else F cs := rfl
theorem rz_cmp_eq {c : ClassFile.Cond} {v w : Int32} {cs : List ri_Cd} {T F : List ri_Cd → Option ri_Rs} : ri_br cs (ri_cnd c (.int v) (.int w)) T F = rz_if (rz_cmp c v.toBitVec.toNat w.toBitVec.toNat) (T cs) (F cs) := by
  cases c with
  | eq => show ri_br cs (0, .int v, .int w, true) T F = rz_if (Nat.beq v.toBitVec.toNat w.toBitVec.toNat) _ _; rw [rz_br, rz_eqb]; cases decide (v = w) <;> rfl
  | ne => show ri_br cs (0, .int v, .int w, false) T F = rz_if (rz_if (Nat.beq v.toBitVec.toNat w.toBitVec.toNat) false true) _ _; rw [rz_br, rz_eqb]; cases decide (v = w) <;> rfl
  | lt => show ri_br cs (1, .int v, .int w, true) T F = rz_if (rz_lt v.toBitVec.toNat w.toBitVec.toNat) _ _; rw [rz_br, rz_lt_eq]; cases decide (v < w) <;> rfl
  | ge => show ri_br cs (1, .int v, .int w, false) T F = rz_if (rz_if (rz_lt v.toBitVec.toNat w.toBitVec.toNat) false true) _ _; rw [rz_br, rz_lt_eq]; cases decide (v < w) <;> rfl
  | gt => show ri_br cs (1, .int w, .int v, true) T F = rz_if (rz_lt w.toBitVec.toNat v.toBitVec.toNat) _ _; rw [rz_br, rz_lt_eq]; cases decide (w < v) <;> rfl
  | le => show ri_br cs (1, .int w, .int v, false) T F = rz_if (rz_if (rz_lt w.toBitVec.toNat v.toBitVec.toNat) false true) _ _; rw [rz_br, rz_lt_eq]; cases decide (w < v) <;> rfl
/-- canonical numbers: of a sum, a difference, a product -/
theorem rz_addc (v w : Int32) : ri_ci (v + w) = ri_cn (Nat.mod (Nat.add v.toBitVec.toNat w.toBitVec.toNat) 4294967296) := by
  unfold ri_ci
  congr 1
theorem rz_subc (v w : Int32) : ri_ci (v - w) = ri_cn (Nat.mod (Nat.add v.toBitVec.toNat (Nat.sub 4294967296 w.toBitVec.toNat)) 4294967296) := by
  unfold ri_ci
  congr 1
  show (v.toBitVec - w.toBitVec).toNat = _
  rw [BitVec.toNat_sub]
  have h2 : w.toBitVec.toNat < 4294967296 := w.toBitVec.isLt
  show (4294967296 - w.toBitVec.toNat + v.toBitVec.toNat) % 4294967296 = (v.toBitVec.toNat + (4294967296 - w.toBitVec.toNat)) % 4294967296
  rw [Nat.add_comm]
theorem rz_mulc (v w : Int32) : ri_ci (v * w) = ri_cn (Nat.mod (Nat.mul v.toBitVec.toNat w.toBitVec.toNat) 4294967296) := by
  unfold ri_ci
  congr 1
section RZ1
variable {G : ri_Tb} {call : ri_Call} {M : ri_Mt} {K : ri_K} {pc len : Nat} {i : Instr} {lv lv' : List (Nat × Jvm.Term)} {st st' : List Jvm.Term} {cs : List ri_Cd} {mem mem' : ri_Me}
theorem rz_P (h : (ri_co M)[pc]? = some (some (i, len))) (hp : ri_pure (ri_mx M) i lv st = some (len, lv', st')) : ri_one G call M K pc lv st cs mem = K (pc + len) lv' st' cs mem := by
  unfold ri_one
  rw [h]
  dsimp only
  rw [hp]
  dsimp only
  rw [if_pos rfl]
theorem rz_H (h : (ri_co M)[pc]? = some (some (i, len))) (hp : ri_pure (ri_mx M) i lv st = none) (hh : ri_heap G M cs i st mem = some (len, st', mem', 0, 0, [])) : ri_one G call M K pc lv st cs mem = K (pc + len) lv st' cs mem' := by
  unfold ri_one
  rw [h]
  dsimp only
  rw [hp]
  dsimp only
  rw [hh]
  dsimp only
  rw [if_pos rfl, ← rq_more_eq]
  rfl
theorem rz_C (h : (ri_co M)[pc]? = some (some (i, len))) (hp : ri_pure (ri_mx M) i lv st = none) (hh : ri_heap G M cs i st mem = none) (hf : ri_foc i st = none) : ri_one G call M K pc lv st cs mem = ri_ctl G call M K pc i len lv st cs mem := by
  unfold ri_one
  rw [h]
  dsimp only
  rw [hp]
  dsimp only
  rw [hh]
  dsimp only
  rw [hf]
/-- what the slow way answers -/
def rz_S (G : ri_Tb) (M : ri_Mt) (pc : Nat) (S : rq_S) : Prop := ∀ (call : ri_Call) (K : ri_K) (lv : List (Nat × Jvm.Term)) (st : List Jvm.Term) (cs : List ri_Cd) (mem : ri_Me), S call K lv st cs mem = ri_one G call M K pc lv st cs mem
noncomputable def rz_load (S : rq_S) (kk k nx : Nat) : rq_S := fun call K lv st cs mem => rz_o (S call K lv st cs mem) (fun t => rz_if (Nat.beq (rz_k t) kk) (K nx lv (t :: st) cs mem) (S call K lv st cs mem)) (rz_ld lv k)
theorem rz_load_s {S : rq_S} {kk k : Nat} (hS : rz_S G M pc S) (h : (ri_co M)[pc]? = some (some (i, len))) (hi : ∀ lv st, ri_pure (ri_mx M) i lv st = ri_pl len kk lv k st) : rz_S G M pc (rz_load S kk k (pc + len)) := by
  intro call K lv st cs mem
  unfold rz_load
  cases hl : rz_ld lv k with
  | none => exact hS _ _ _ _ _ _
  | some t =>
    show rz_if (Nat.beq (rz_k t) kk) (K (pc + len) lv (t :: st) cs mem) (S call K lv st cs mem) = _
    cases hb : Nat.beq (rz_k t) kk with
    | false => exact hS _ _ _ _ _ _
    | true =>
      refine (rz_P h ?_).symm
      rw [hi]
      unfold ri_pl
      rw [← rz_ld_eq, hl]
      dsimp only
      rw [if_pos (by rw [← rz_k_eq]; exact rz_beq hb)]
noncomputable def rz_loada (S : rq_S) (k nx : Nat) : rq_S := fun call K lv st cs mem => rz_o (S call K lv st cs mem) (fun t => rz_if (Nat.beq (rz_k t) 2) (K nx lv (t :: st) cs mem) (rz_if (Nat.beq (rz_k t) 3) (K nx lv (t :: st) cs mem) (S call K lv st cs mem))) (rz_ld lv k)
theorem rz_loada_s {S : rq_S} {k : Nat} (hS : rz_S G M pc S) (h : (ri_co M)[pc]? = some (some (i, len))) (hi : ∀ lv st, ri_pure (ri_mx M) i lv st = ri_pa len lv k st) : rz_S G M pc (rz_loada S k (pc + len)) := by
  intro call K lv st cs mem
  unfold rz_loada
  cases hl : rz_ld lv k with
  | none => exact hS _ _ _ _ _ _
  | some t =>
    have go : (ri_k t = 2 ∨ ri_k t = 3) → K (pc + len) lv (t :: st) cs mem = ri_one G call M K pc lv st cs mem := fun hk => by
      refine (rz_P h ?_).symm
      rw [hi]
      unfold ri_pa
      rw [← rz_ld_eq, hl]
      dsimp only
      rw [if_pos hk]
    show rz_if (Nat.beq (rz_k t) 2) (K (pc + len) lv (t :: st) cs mem) (rz_if (Nat.beq (rz_k t) 3) (K (pc + len) lv (t :: st) cs mem) (S call K lv st cs mem)) = _
    cases hb : Nat.beq (rz_k t) 2 with
    | true => exact go (Or.inl (by rw [← rz_k_eq]; exact rz_beq hb))
    | false =>
      cases hc : Nat.beq (rz_k t) 3 with
      | true => exact go (Or.inr (by rw [← rz_k_eq]; exact rz_beq hc))
      | false => exact hS _ _ _ _ _ _
noncomputable def rz_const (t : Jvm.Term) (nx : Nat) : rq_S := fun _ K lv st cs mem => K nx lv (t :: st) cs mem
theorem rz_const_s {t : Jvm.Term} (h : (ri_co M)[pc]? = some (some (i, len))) (hi : ∀ lv st, ri_pure (ri_mx M) i lv st = some (len, lv, t :: st)) : rz_S G M pc (rz_const t (pc + len)) := by
  intro call K lv st cs mem
  exact (rz_P h (hi lv st)).symm
noncomputable def rz_store (S : rq_S) (kk k nx : Nat) : rq_S := fun call K lv st cs mem => rz_l (S call K lv st cs mem) (fun t r => rz_if (Nat.beq (rz_k t) kk) (K nx (rz_sto lv k t) r cs mem) (S call K lv st cs mem)) st
theorem rz_store_s {S : rq_S} {kk k : Nat} (hS : rz_S G M pc S) (h : (ri_co M)[pc]? = some (some (i, len))) (hk : k < ri_mx M) (hi : ∀ lv st, ri_pure (ri_mx M) i lv st = ri_ps len kk (ri_mx M) lv k st) : rz_S G M pc (rz_store S kk k (pc + len)) := by
  intro call K lv st cs mem
  unfold rz_store
  cases st with
  | nil => exact hS _ _ _ _ _ _
  | cons t r =>
    show rz_if (Nat.beq (rz_k t) kk) (K (pc + len) (rz_sto lv k t) r cs mem) (S call K lv (t :: r) cs mem) = _
    cases hb : Nat.beq (rz_k t) kk with
    | false => exact hS _ _ _ _ _ _
    | true =>
      refine (rz_P h ?_).symm
      rw [hi]
      unfold ri_ps
      dsimp only
      rw [if_pos ⟨by rw [← rz_k_eq]; exact rz_beq hb, hk⟩, rz_sto_eq]
noncomputable def rz_s2 (S : rq_S) (f : Nat → Nat → Nat) (nx : Nat) : rq_S := fun call K lv st cs mem => rz_l (S call K lv st cs mem) (fun b r => rz_l (S call K lv st cs mem) (fun a r => rz_o (S call K lv st cs mem) (fun x => rz_o (S call K lv st cs mem) (fun y => K nx lv (ri_cn (f x y) :: r) cs mem) (rz_nat b)) (rz_nat a)) r) st
theorem rz_s2_s {S : rq_S} {f : Nat → Nat → Nat} {F : Int32 → Int32 → Int32} {T : Jvm.Term → Jvm.Term → Jvm.Term} (hS : rz_S G M pc S) (h : (ri_co M)[pc]? = some (some (i, 1))) (hi : ∀ lv st, ri_pure (ri_mx M) i lv st = ri_s2 0 (fun a b => ri_bin F (T a b) a b) lv st) (hf : ∀ v w : Int32, ri_ci (F v w) = ri_cn (f v.toBitVec.toNat w.toBitVec.toNat)) : rz_S G M pc (rz_s2 S f (pc + 1)) := by
  intro call K lv st cs mem
  unfold rz_s2
  cases st with
  | nil => exact hS _ _ _ _ _ _
  | cons b r => cases r with
    | nil => exact hS _ _ _ _ _ _
    | cons a r =>
      cases ha : rz_nat a with
      | none =>
        show rz_o (S call K lv (b :: a :: r) cs mem) _ (rz_nat a) = _
        rw [ha]
        exact hS _ _ _ _ _ _
      | some x =>
        show rz_o (S call K lv (b :: a :: r) cs mem) _ (rz_nat a) = _
        rw [ha]
        show rz_o (S call K lv (b :: a :: r) cs mem) _ (rz_nat b) = _
        cases hb : rz_nat b with
        | none => exact hS _ _ _ _ _ _
        | some y =>
          obtain ⟨v, rfl, rfl⟩ := rz_nat_s ha
          obtain ⟨w, rfl, rfl⟩ := rz_nat_s hb
          show K (pc + 1) lv (ri_cn (f v.toBitVec.toNat w.toBitVec.toNat) :: r) cs mem = _
          refine (rz_P h ?_).symm
          rw [hi, ← hf]
          rfl
noncomputable def rz_inc (S : rq_S) (k m nx : Nat) : rq_S := fun call K lv st cs mem => rz_o (S call K lv st cs mem) (fun t => rz_o (S call K lv st cs mem) (fun x => K nx (rz_sto lv k (ri_cn (Nat.mod (Nat.add x m) 4294967296))) st cs mem) (rz_nat t)) (rz_ld lv k)
theorem rz_inc_s {S : rq_S} {k : Nat} {n : Int} (hS : rz_S G M pc S) (h : (ri_co M)[pc]? = some (some (.iinc k n, 3))) (hk : k < ri_mx M) : rz_S G M pc (rz_inc S k (Int32.ofInt n).toBitVec.toNat (pc + 3)) := by
  intro call K lv st cs mem
  unfold rz_inc
  cases hl : rz_ld lv k with
  | none => exact hS _ _ _ _ _ _
  | some t =>
    show rz_o (S call K lv st cs mem) _ (rz_nat t) = _
    cases ht : rz_nat t with
    | none => exact hS _ _ _ _ _ _
    | some x =>
      obtain ⟨v, rfl, rfl⟩ := rz_nat_s ht
      show K (pc + 3) (rz_sto lv k (ri_cn (Nat.mod (Nat.add v.toBitVec.toNat (Int32.ofInt n).toBitVec.toNat) 4294967296))) st cs mem = _
      refine (rz_P h ?_).symm
      show ri_inc (ri_mx M) lv k n st = _
      unfold ri_inc
      rw [← rz_ld_eq, hl]
      dsimp only
      rw [if_pos ⟨rfl, hk⟩, ← rz_addc, rz_sto_eq]
      rfl
noncomputable def rz_ic (S : rq_S) (c : ClassFile.Cond) (t nx : Nat) : rq_S := fun call K lv st cs mem => rz_l (S call K lv st cs mem) (fun b r => rz_l (S call K lv st cs mem) (fun a r => rz_o (S call K lv st cs mem) (fun x => rz_o (S call K lv st cs mem) (fun y => rz_if (rz_cmp c x y) (K t lv r cs mem) (K nx lv r cs mem)) (rz_nat b)) (rz_nat a)) r) st
theorem rz_ic_s {S : rq_S} {c : ClassFile.Cond} {off : Int} {t : Nat} (hS : rz_S G M pc S) (h : (ri_co M)[pc]? = some (some (.if_icmp c off, 3))) (ht : ri_tg pc off = some t) : rz_S G M pc (rz_ic S c t (pc + 3)) := by
  intro call K lv st cs mem
  unfold rz_ic
  cases st with
  | nil => exact hS _ _ _ _ _ _
  | cons b r => cases r with
    | nil => exact hS _ _ _ _ _ _
    | cons a r =>
      show rz_o (S call K lv (b :: a :: r) cs mem) _ (rz_nat a) = _
      cases ha : rz_nat a with
      | none => exact hS _ _ _ _ _ _
      | some x =>
        show rz_o (S call K lv (b :: a :: r) cs mem) _ (rz_nat b) = _
        cases hb : rz_nat b with
        | none => exact hS _ _ _ _ _ _
        | some y =>
          obtain ⟨v, rfl, rfl⟩ := rz_nat_s ha
          obtain ⟨w, rfl, rfl⟩ := rz_nat_s hb
          rw [rz_C h rfl rfl rfl]
          show rz_if (rz_cmp c v.toBitVec.toNat w.toBitVec.toNat) (K t lv r cs mem) (K (pc + 3) lv r cs mem) = _
          simp only [ri_ctl]
          rw [ht]
          dsimp only
          rw [if_pos (by refine ⟨rfl, rfl, ?_⟩ <;> trivial), rz_cmp_eq]
noncomputable def rz_if0 (S : rq_S) (c : ClassFile.Cond) (t nx : Nat) : rq_S := fun call K lv st cs mem => rz_l (S call K lv st cs mem) (fun a r => rz_o (S call K lv st cs mem) (fun x => rz_if (rz_cmp c x 0) (K t lv r cs mem) (K nx lv r cs mem)) (rz_nat a)) st
theorem rz_if0_s {S : rq_S} {c : ClassFile.Cond} {off : Int} {t : Nat} (hS : rz_S G M pc S) (h : (ri_co M)[pc]? = some (some (.ifCond c off, 3))) (ht : ri_tg pc off = some t) : rz_S G M pc (rz_if0 S c t (pc + 3)) := by
  intro call K lv st cs mem
  unfold rz_if0
  cases st with
  | nil => exact hS _ _ _ _ _ _
  | cons a r =>
    show rz_o (S call K lv (a :: r) cs mem) _ (rz_nat a) = _
    cases ha : rz_nat a with
    | none => exact hS _ _ _ _ _ _
    | some x =>
      obtain ⟨v, rfl, rfl⟩ := rz_nat_s ha
      rw [rz_C h rfl rfl rfl]
      have e0 : (0 : Int32).toBitVec.toNat = 0 := rfl
      show rz_if (rz_cmp c v.toBitVec.toNat 0) (K t lv r cs mem) (K (pc + 3) lv r cs mem) = _
      rw [← e0, ]
      simp only [ri_ctl]
      rw [ht]
      dsimp only
      rw [if_pos (by refine ⟨rfl, ?_⟩ <;> trivial), rz_cmp_eq]
noncomputable def rz_go (t : Nat) : rq_S := fun _ K lv st cs mem => K t lv st cs mem
theorem rz_go_s {off : Int} {t : Nat} (h : (ri_co M)[pc]? = some (some (.goto off, 3))) (ht : ri_tg pc off = some t) : rz_S G M pc (rz_go t) := by
  intro call K lv st cs mem
  rw [rz_C h rfl rfl rfl]
  simp only [ri_ctl]
  rw [ht]
  rfl
noncomputable def rz_ce (d : Option ri_Rs) (f : Nat → List Jvm.Term → Option ri_Rs) (g : Nat → Nat → Jvm.Term → List (Nat × Jvm.Term) → Option ri_Rs) (e : ri_Ce) : Option ri_Rs := Sum.rec (motive := fun _ => Option ri_Rs) (fun p => f p.1 p.2) (fun p => g p.1 p.2.1 p.2.2.1 p.2.2.2) e
theorem rz_ce_l {d : Option ri_Rs} {f : Nat → List Jvm.Term → Option ri_Rs} {g : Nat → Nat → Jvm.Term → List (Nat × Jvm.Term) → Option ri_Rs} {c : Nat} {fs : List Jvm.Term} : rz_ce d f g (.inl (c, fs)) = f c fs := rfl
theorem rz_ce_r {d : Option ri_Rs} {f : Nat → List Jvm.Term → Option ri_Rs} {g : Nat → Nat → Jvm.Term → List (Nat × Jvm.Term) → Option ri_Rs} {a b : Nat} {t : Jvm.Term} {l : List (Nat × Jvm.Term)} : rz_ce d f g (.inr (a, b, t, l)) = g a b t l := rfl
theorem rz_o_some {α β : Type} {d : β} {f : α → β} {a : α} : rz_o d f (some a) = f a := rfl
noncomputable def rz_getf (S : rq_S) (ci j nx : Nat) : rq_S := fun call K lv st cs mem => rz_l (S call K lv st cs mem) (fun o r => rz_o (S call K lv st cs mem) (fun k => rz_o (S call K lv st cs mem) (fun e => rz_ce (S call K lv st cs mem) (fun c2 fs => rz_if (Nat.beq c2 ci) (rz_o (S call K lv st cs mem) (fun t => K nx lv (t :: r) cs mem) (rz_get fs j)) (S call K lv st cs mem)) (fun _ _ _ _ => S call K lv st cs mem) e) (rz_get mem k)) (rz_ref o)) st
theorem rz_getf_s {S : rq_S} {idx kd ci j : Nat} {tx : String} (hS : rz_S G M pc S) (h : (ri_co M)[pc]? = some (some (.getfield idx, 3))) (hc : ri_cp G M idx = some (kd, ci, j, tx)) (hkd : kd ≤ 1) : rz_S G M pc (rz_getf S ci j (pc + 3)) := by
  intro call K lv st cs mem
  unfold rz_getf
  cases st with
  | nil => exact hS _ _ _ _ _ _
  | cons o r =>
    show rz_o (S call K lv (o :: r) cs mem) _ (rz_ref o) = _
    cases ho : rz_ref o with
    | none => exact hS _ _ _ _ _ _
    | some k =>
      have eo := rz_ref_s ho
      subst eo
      show rz_o (S call K lv (.index k :: r) cs mem) _ (rz_get mem k) = _
      cases hm : rz_get mem k with
      | none => exact hS _ _ _ _ _ _
      | some e =>
        rw [rz_o_some]
        match e, hm with
        | .inr (a1, a2, a3, a4), hm => exact hS _ _ _ _ _ _
        | .inl (c2, fs), hm =>
          rw [rz_ce_l]
          cases hb : Nat.beq c2 ci with
          | false => exact hS _ _ _ _ _ _
          | true =>
            have ec := rz_beq hb
            subst ec
            show rz_o (S call K lv (.index k :: r) cs mem) _ (rz_get fs j) = _
            cases hj : rz_get fs j with
            | none => exact hS _ _ _ _ _ _
            | some t =>
              refine (rz_H h rfl ?_).symm
              show ri_getf G M idx (.index k :: r) mem = _
              unfold ri_getf
              rw [hc]
              dsimp only
              rw [← rz_get_eq, hm]
              dsimp only
              rw [← rz_get_eq, hj]
              dsimp only
              rw [if_pos ⟨hkd, rfl⟩]
noncomputable def rz_fk (ty : FieldType) (t : Jvm.Term) : Bool := match ty with
  | .int => Nat.beq (rz_k t) 0
  | .object _ => rz_if (Nat.beq (rz_k t) 2) true (Nat.beq (rz_k t) 3)
  | .array _ => rz_if (Nat.beq (rz_k t) 2) true (Nat.beq (rz_k t) 3)
  | ty => ri_fit ty t
theorem rz_bq (a b : Nat) : Nat.beq a b = (a == b) := by
  cases h : Nat.beq a b with
  | true => rw [rz_beq h]; simp
  | false => have := rz_bne h; simp [this]
theorem rz_fk_eq (ty : FieldType) (t : Jvm.Term) : rz_fk ty t = ri_fit ty t := by
  cases ty with
  | int => show Nat.beq (rz_k t) 0 = (ri_k t == 0); rw [rz_k_eq, rz_bq]
  | object n => show rz_if (Nat.beq (rz_k t) 2) true (Nat.beq (rz_k t) 3) = (ri_k t == 2 || ri_k t == 3); rw [rz_k_eq, rz_bq, rz_bq]; cases (ri_k t == 2) <;> rfl
  | array n => show rz_if (Nat.beq (rz_k t) 2) true (Nat.beq (rz_k t) 3) = (ri_k t == 2 || ri_k t == 3); rw [rz_k_eq, rz_bq, rz_bq]; cases (ri_k t == 2) <;> rfl
  | _ => rfl
noncomputable def rz_putf (S : rq_S) (ci j : Nat) (ty : FieldType) (nx : Nat) : rq_S := fun call K lv st cs mem => rz_l (S call K lv st cs mem) (fun t r => rz_l (S call K lv st cs mem) (fun o r => rz_o (S call K lv st cs mem) (fun k => rz_o (S call K lv st cs mem) (fun e => rz_ce (S call K lv st cs mem) (fun c2 fs => rz_if (Nat.beq c2 ci) (rz_o (S call K lv st cs mem) (fun _ => rz_if (rz_fk ty t) (K nx lv r cs (rz_set (.inl (ci, rz_set t fs j)) mem k)) (S call K lv st cs mem)) (rz_get fs j)) (S call K lv st cs mem)) (fun _ _ _ _ => S call K lv st cs mem) e) (rz_get mem k)) (rz_ref o)) r) st
theorem rz_putf_s {S : rq_S} {idx kd ci j N : Nat} {tx C : String} {T : u_T} {ty : FieldType} (hS : rz_S G M pc S) (h : (ri_co M)[pc]? = some (some (.putfield idx, 3))) (hc : ri_cp G M idx = some (kd, ci, j, tx)) (hkd : kd ≤ 1) (hcl : (ri_cls G)[ci]? = some (C, T, N)) (hty : ((ri_fts G).getD ci [])[j]? = some ty) (hf : (T j).2.2.2 = false ∨ (kd = 0 ∧ (ri_nm M).name = "<init>" ∧ (T j).1 = ri_own M)) : rz_S G M pc (rz_putf S ci j ty (pc + 3)) := by
  intro call K lv st cs mem
  unfold rz_putf
  cases st with
  | nil => exact hS _ _ _ _ _ _
  | cons t r => cases r with
    | nil => exact hS _ _ _ _ _ _
    | cons o r =>
    show rz_o (S call K lv (t :: o :: r) cs mem) _ (rz_ref o) = _
    cases ho : rz_ref o with
    | none => exact hS _ _ _ _ _ _
    | some k =>
      have eo := rz_ref_s ho
      subst eo
      show rz_o (S call K lv (t :: .index k :: r) cs mem) _ (rz_get mem k) = _
      cases hm : rz_get mem k with
      | none => exact hS _ _ _ _ _ _
      | some e =>
        rw [rz_o_some]
        match e, hm with
        | .inr (a1, a2, a3, a4), hm => exact hS _ _ _ _ _ _
        | .inl (c2, fs), hm =>
          rw [rz_ce_l]
          cases hb : Nat.beq c2 ci with
          | false => exact hS _ _ _ _ _ _
          | true =>
            have ec := rz_beq hb
            subst ec
            show rz_o (S call K lv (t :: .index k :: r) cs mem) _ (rz_get fs j) = _
            cases hj : rz_get fs j with
            | none => exact hS _ _ _ _ _ _
            | some t9 =>
              show rz_if (rz_fk ty t) _ _ = _
              cases hft : rz_fk ty t with
              | false => exact hS _ _ _ _ _ _
              | true =>
                have hjl : j < fs.length := by
                  rw [rz_get_eq] at hj
                  exact (List.getElem?_eq_some_iff.mp hj).1
                refine (rz_H h rfl ?_).symm
                show ri_putf G M idx (t :: .index k :: r) mem = _
                unfold ri_putf
                rw [hc]
                dsimp only
                rw [← rz_get_eq, hm, hcl, hty]
                dsimp only
                rw [if_pos ⟨hkd, rfl, hjl, by rw [← rz_fk_eq]; exact hft, hf⟩, rz_set_eq, rz_set_eq]
def rz_isI (G : ri_Tb) (ty : Nat) : Bool := match (ri_aty G)[ty]? with
  | some .int => true
  | _ => false
theorem rz_isI_s {ty : Nat} (h : rz_isI G ty = true) : (ri_aty G)[ty]? = some .int := by
  unfold rz_isI at h
  split at h
  · next e => exact e
  · cases h
def rz_isO (G : ri_Tb) (ty : Nat) : Bool := match (ri_aty G)[ty]? with
  | some (.object _) => true
  | _ => false
theorem rz_isO_s {ty : Nat} (h : rz_isO G ty = true) : ∃ C, (ri_aty G)[ty]? = some (.object C) := by
  unfold rz_isO at h
  split at h
  · next C e => exact ⟨C, e⟩
  · cases h
theorem rz_ix {v : Int32} {n : Nat} (h1 : Nat.ble (Nat.succ v.toBitVec.toNat) n = true) (h2 : Nat.ble (Nat.succ v.toBitVec.toNat) 2147483648 = true) : ri_ix (.int v) n = some v.toBitVec.toNat := by
  have h1 := rz_ble h1
  have h2 := rz_ble h2
  have h3 : v.toInt = (v.toBitVec.toNat : Int) := by rw [rz_toInt, if_pos (by omega)]
  have h4 : v.toNatClampNeg = v.toBitVec.toNat := by
    show v.toInt.toNat = _
    rw [h3]
    rfl
  unfold ri_ix
  dsimp only
  rw [if_neg, h4]
  rintro (h | h)
  · rw [Int32.lt_iff_toInt_lt, h3] at h
    have : (0 : Int32).toInt = 0 := by decide
    omega
  · omega
noncomputable def rz_iald (G : ri_Tb) (S : rq_S) (nx : Nat) : rq_S := fun call K lv st cs mem => rz_l (S call K lv st cs mem) (fun i r => rz_l (S call K lv st cs mem) (fun o r => rz_o (S call K lv st cs mem) (fun k => rz_o (S call K lv st cs mem) (fun e => rz_ce (S call K lv st cs mem) (fun _ _ => S call K lv st cs mem) (fun ty n d ov => rz_o (S call K lv st cs mem) (fun x => rz_if (Nat.ble (Nat.succ x) n) (rz_if (Nat.ble (Nat.succ x) 2147483648) (rz_if (rz_isI G ty) (rz_if (Nat.beq (rz_k (rz_lk d ov x)) 0) (K nx lv (rz_lk d ov x :: r) cs mem) (S call K lv st cs mem)) (S call K lv st cs mem)) (S call K lv st cs mem)) (S call K lv st cs mem)) (rz_nat i)) e) (rz_get mem k)) (rz_ref o)) r) st
theorem rz_iald_s {S : rq_S} (hS : rz_S G M pc S) (h : (ri_co M)[pc]? = some (some (.iaload, 1))) : rz_S G M pc (rz_iald G S (pc + 1)) := by
  intro call K lv st cs mem
  unfold rz_iald
  cases st with
  | nil => exact hS _ _ _ _ _ _
  | cons i r => cases r with
    | nil => exact hS _ _ _ _ _ _
    | cons o r =>
    show rz_o (S call K lv (i :: o :: r) cs mem) _ (rz_ref o) = _
    cases ho : rz_ref o with
    | none => exact hS _ _ _ _ _ _
    | some k =>
      have eo := rz_ref_s ho
      subst eo
      show rz_o (S call K lv (i :: .index k :: r) cs mem) _ (rz_get mem k) = _
      cases hm : rz_get mem k with
      | none => exact hS _ _ _ _ _ _
      | some e =>
        rw [rz_o_some]
        match e, hm with
        | .inl (c2, fs), hm => exact hS _ _ _ _ _ _
        | .inr (ty, n, d, ov), hm =>
          rw [rz_ce_r]
          cases hi : rz_nat i with
          | none => exact hS _ _ _ _ _ _
          | some x =>
            obtain ⟨v, rfl, rfl⟩ := rz_nat_s hi
            show rz_if (Nat.ble (Nat.succ v.toBitVec.toNat) n) _ _ = _
            cases h1 : Nat.ble (Nat.succ v.toBitVec.toNat) n with
            | false => exact hS _ _ _ _ _ _
            | true =>
              show rz_if (Nat.ble (Nat.succ v.toBitVec.toNat) 2147483648) _ _ = _
              cases h2 : Nat.ble (Nat.succ v.toBitVec.toNat) 2147483648 with
              | false => exact hS _ _ _ _ _ _
              | true =>
                show rz_if (rz_isI G ty) _ _ = _
                cases h3 : rz_isI G ty with
                | false => exact hS _ _ _ _ _ _
                | true =>
                  show rz_if (Nat.beq (rz_k (rz_lk d ov v.toBitVec.toNat)) 0) _ _ = _
                  cases h4 : Nat.beq (rz_k (rz_lk d ov v.toBitVec.toNat)) 0 with
                  | false => exact hS _ _ _ _ _ _
                  | true =>
                    have h5 := rz_beq h4
                    rw [rz_k_eq] at h5
                    refine (rz_H h rfl ?_).symm
                    show ri_iald G cs (.int v :: .index k :: r) mem = _
                    unfold ri_iald
                    dsimp only
                    rw [← rz_get_eq, hm]
                    dsimp only
                    rw [if_pos (rz_isI_s h3), rz_ix h1 h2]
                    dsimp only
                    rw [rz_lk_eq] at h5
                    rw [if_pos h5, rz_lk_eq]
noncomputable def rz_iast (G : ri_Tb) (S : rq_S) (nx : Nat) : rq_S := fun call K lv st cs mem => rz_l (S call K lv st cs mem) (fun t r => rz_l (S call K lv st cs mem) (fun i r => rz_l (S call K lv st cs mem) (fun o r => rz_o (S call K lv st cs mem) (fun k => rz_o (S call K lv st cs mem) (fun e => rz_ce (S call K lv st cs mem) (fun _ _ => S call K lv st cs mem) (fun ty n d ov => rz_o (S call K lv st cs mem) (fun x => rz_if (Nat.ble (Nat.succ x) n) (rz_if (Nat.ble (Nat.succ x) 2147483648) (rz_if (rz_isI G ty) (rz_if (Nat.beq (rz_k t) 0) (K nx lv r cs (rz_set (.inr (ty, n, d, rz_put d ov x t)) mem k)) (S call K lv st cs mem)) (S call K lv st cs mem)) (S call K lv st cs mem)) (S call K lv st cs mem)) (rz_nat i)) e) (rz_get mem k)) (rz_ref o)) r) r) st
theorem rz_iast_s {S : rq_S} (hS : rz_S G M pc S) (h : (ri_co M)[pc]? = some (some (.iastore, 1))) : rz_S G M pc (rz_iast G S (pc + 1)) := by
  intro call K lv st cs mem
  unfold rz_iast
  cases st with
  | nil => exact hS _ _ _ _ _ _
  | cons t r => cases r with
    | nil => exact hS _ _ _ _ _ _
    | cons i r => cases r with
      | nil => exact hS _ _ _ _ _ _
      | cons o r =>
      show rz_o (S call K lv (t :: i :: o :: r) cs mem) _ (rz_ref o) = _
      cases ho : rz_ref o with
      | none => exact hS _ _ _ _ _ _
      | some k =>
        have eo := rz_ref_s ho
        subst eo
        show rz_o (S call K lv (t :: i :: .index k :: r) cs mem) _ (rz_get mem k) = _
        cases hm : rz_get mem k with
        | none => exact hS _ _ _ _ _ _
        | some e =>
          rw [rz_o_some]
          match e, hm with
          | .inl (c2, fs), hm => exact hS _ _ _ _ _ _
          | .inr (ty, n, d, ov), hm =>
            rw [rz_ce_r]
            cases hi : rz_nat i with
            | none => exact hS _ _ _ _ _ _
            | some x =>
              obtain ⟨v, rfl, rfl⟩ := rz_nat_s hi
              show rz_if (Nat.ble (Nat.succ v.toBitVec.toNat) n) _ _ = _
              cases h1 : Nat.ble (Nat.succ v.toBitVec.toNat) n with
              | false => exact hS _ _ _ _ _ _
              | true =>
                show rz_if (Nat.ble (Nat.succ v.toBitVec.toNat) 2147483648) _ _ = _
                cases h2 : Nat.ble (Nat.succ v.toBitVec.toNat) 2147483648 with
                | false => exact hS _ _ _ _ _ _
                | true =>
                  show rz_if (rz_isI G ty) _ _ = _
                  cases h3 : rz_isI G ty with
                  | false => exact hS _ _ _ _ _ _
                  | true =>
                    show rz_if (Nat.beq (rz_k t) 0) _ _ = _
                    cases h4 : Nat.beq (rz_k t) 0 with
                    | false => exact hS _ _ _ _ _ _
                    | true =>
                      have h5 := rz_beq h4
                      rw [rz_k_eq] at h5
                      refine (rz_H h rfl ?_).symm
                      show ri_iast G (t :: .int v :: .index k :: r) mem = _
                      unfold ri_iast
                      dsimp only
                      rw [← rz_get_eq, hm]
                      dsimp only
                      rw [rz_ix h1 h2]
                      dsimp only
                      rw [if_pos ⟨rz_isI_s h3, h5⟩, rz_set_eq, rz_put_eq]
noncomputable def rz_aald (G : ri_Tb) (S : rq_S) (nx : Nat) : rq_S := fun call K lv st cs mem => rz_l (S call K lv st cs mem) (fun i r => rz_l (S call K lv st cs mem) (fun o r => rz_o (S call K lv st cs mem) (fun k => rz_o (S call K lv st cs mem) (fun e => rz_ce (S call K lv st cs mem) (fun _ _ => S call K lv st cs mem) (fun ty n d ov => rz_o (S call K lv st cs mem) (fun x => rz_if (Nat.ble (Nat.succ x) n) (rz_if (Nat.ble (Nat.succ x) 2147483648) (rz_if (rz_isO G ty) (rz_if (Nat.beq (rz_k (rz_lk d ov x)) 2) (K nx lv (rz_lk d ov x :: r) cs mem) (S call K lv st cs mem)) (S call K lv st cs mem)) (S call K lv st cs mem)) (S call K lv st cs mem)) (rz_nat i)) e) (rz_get mem k)) (rz_ref o)) r) st
theorem rz_aald_s {S : rq_S} (hS : rz_S G M pc S) (h : (ri_co M)[pc]? = some (some (.aaload, 1))) : rz_S G M pc (rz_aald G S (pc + 1)) := by
  intro call K lv st cs mem
  unfold rz_aald
  cases st with
  | nil => exact hS _ _ _ _ _ _
  | cons i r => cases r with
    | nil => exact hS _ _ _ _ _ _
    | cons o r =>
    show rz_o (S call K lv (i :: o :: r) cs mem) _ (rz_ref o) = _
    cases ho : rz_ref o with
    | none => exact hS _ _ _ _ _ _
    | some k =>
      have eo := rz_ref_s ho
      subst eo
      show rz_o (S call K lv (i :: .index k :: r) cs mem) _ (rz_get mem k) = _
      cases hm : rz_get mem k with
      | none => exact hS _ _ _ _ _ _
      | some e =>
        rw [rz_o_some]
        match e, hm with
        | .inl (c2, fs), hm => exact hS _ _ _ _ _ _
        | .inr (ty, n, d, ov), hm =>
          rw [rz_ce_r]
          cases hi : rz_nat i with
          | none => exact hS _ _ _ _ _ _
          | some x =>
            obtain ⟨v, rfl, rfl⟩ := rz_nat_s hi
            show rz_if (Nat.ble (Nat.succ v.toBitVec.toNat) n) _ _ = _
            cases h1 : Nat.ble (Nat.succ v.toBitVec.toNat) n with
            | false => exact hS _ _ _ _ _ _
            | true =>
              show rz_if (Nat.ble (Nat.succ v.toBitVec.toNat) 2147483648) _ _ = _
              cases h2 : Nat.ble (Nat.succ v.toBitVec.toNat) 2147483648 with
              | false => exact hS _ _ _ _ _ _
              | true =>
                show rz_if (rz_isO G ty) _ _ = _
                cases h3 : rz_isO G ty with
                | false => exact hS _ _ _ _ _ _
                | true =>
                  show rz_if (Nat.beq (rz_k (rz_lk d ov v.toBitVec.toNat)) 2) _ _ = _
                  cases h4 : Nat.beq (rz_k (rz_lk d ov v.toBitVec.toNat)) 2 with
                  | false => exact hS _ _ _ _ _ _
                  | true =>
                    have h5 := rz_beq h4
                    rw [rz_k_eq] at h5
                    obtain ⟨C, hC⟩ := rz_isO_s h3
                    refine (rz_H h rfl ?_).symm
                    show ri_aald G (.int v :: .index k :: r) mem = _
                    unfold ri_aald
                    dsimp only
                    rw [← rz_get_eq, hm]
                    dsimp only
                    rw [rz_ix h1 h2, hC]
                    dsimp only
                    rw [rz_lk_eq] at h5
                    rw [if_pos (Or.inl h5), rz_lk_eq]
noncomputable def rz_i2l (S : rq_S) (nx : Nat) : rq_S := fun call K lv st cs mem => rz_l (S call K lv st cs mem) (fun a r => rz_o (S call K lv st cs mem) (fun v => K nx lv (ri_cl v.toInt64 :: r) cs mem) (rz_int a)) st
theorem rz_i2l_s {S : rq_S} (hS : rz_S G M pc S) (h : (ri_co M)[pc]? = some (some (.i2l, 1))) : rz_S G M pc (rz_i2l S (pc + 1)) := by
  intro call K lv st cs mem
  unfold rz_i2l
  cases st with
  | nil => exact hS _ _ _ _ _ _
  | cons a r =>
    show rz_o (S call K lv (a :: r) cs mem) _ (rz_int a) = _
    cases ha : rz_int a with
    | none => exact hS _ _ _ _ _ _
    | some v =>
      have e := rz_int_s ha
      subst e
      exact (rz_P h rfl).symm
noncomputable def rz_ll (S : rq_S) (f : Int64 → Int64 → Jvm.Term) (nx : Nat) : rq_S := fun call K lv st cs mem => rz_l (S call K lv st cs mem) (fun b r => rz_l (S call K lv st cs mem) (fun a r => rz_o (S call K lv st cs mem) (fun x => rz_o (S call K lv st cs mem) (fun y => K nx lv (f x y :: r) cs mem) (rz_long b)) (rz_long a)) r) st
theorem rz_ll_s {S : rq_S} {f : Int64 → Int64 → Jvm.Term} (hS : rz_S G M pc S) (h : (ri_co M)[pc]? = some (some (i, 1))) (hi : ∀ (x y : Int64) (lv : List (Nat × Jvm.Term)) (r : List Jvm.Term), ri_pure (ri_mx M) i lv (.long y :: .long x :: r) = some (1, lv, f x y :: r)) : rz_S G M pc (rz_ll S f (pc + 1)) := by
  intro call K lv st cs mem
  unfold rz_ll
  cases st with
  | nil => exact hS _ _ _ _ _ _
  | cons b r => cases r with
    | nil => exact hS _ _ _ _ _ _
    | cons a r =>
      show rz_o (S call K lv (b :: a :: r) cs mem) _ (rz_long a) = _
      cases ha : rz_long a with
      | none => exact hS _ _ _ _ _ _
      | some x =>
        show rz_o (S call K lv (b :: a :: r) cs mem) _ (rz_long b) = _
        cases hb : rz_long b with
        | none => exact hS _ _ _ _ _ _
        | some y =>
          have e1 := rz_long_s ha
          have e2 := rz_long_s hb
          subst e1
          subst e2
          exact (rz_P h (hi _ _ _ _)).symm
noncomputable def rz_dup (S : rq_S) (nx : Nat) : rq_S := fun call K lv st cs mem => rz_l (S call K lv st cs mem) (fun a r => rz_if (Nat.beq (rz_k a) 1) (S call K lv st cs mem) (rz_if (Nat.beq (rz_k a) 4) (S call K lv st cs mem) (K nx lv (a :: a :: r) cs mem))) st
theorem rz_dup_s {S : rq_S} (hS : rz_S G M pc S) (h : (ri_co M)[pc]? = some (some (.dup, 1))) : rz_S G M pc (rz_dup S (pc + 1)) := by
  intro call K lv st cs mem
  unfold rz_dup
  cases st with
  | nil => exact hS _ _ _ _ _ _
  | cons a r =>
    show rz_if (Nat.beq (rz_k a) 1) _ _ = _
    cases h1 : Nat.beq (rz_k a) 1 with
    | true => exact hS _ _ _ _ _ _
    | false =>
      show rz_if (Nat.beq (rz_k a) 4) _ _ = _
      cases h2 : Nat.beq (rz_k a) 4 with
      | true => exact hS _ _ _ _ _ _
      | false =>
        have h3 := rz_bne h1
        have h4 := rz_bne h2
        rw [rz_k_eq] at h3 h4
        refine (rz_P h ?_).symm
        show ri_dup lv (a :: r) = _
        unfold ri_dup
        dsimp only
        rw [if_pos]
        unfold ri_wide
        simp [h3, h4]
end RZ1
noncomputable def rz_dis (G : ri_Tb) (M : ri_Mt) (pc : Nat) (i : Instr) (len : Nat) : Option rq_S := match i with
  | .iload k => rz_if (Nat.beq len 2) (some (rz_load (rq_o6 (rq_at G M pc)) 0 k (pc + 2))) (rq_at G M pc)
  | .iload_n k => rz_if (Nat.beq len 1) (some (rz_load (rq_o6 (rq_at G M pc)) 0 k.val (pc + 1))) (rq_at G M pc)
  | .lload k => rz_if (Nat.beq len 2) (some (rz_load (rq_o6 (rq_at G M pc)) 1 k (pc + 2))) (rq_at G M pc)
  | .lload_n k => rz_if (Nat.beq len 1) (some (rz_load (rq_o6 (rq_at G M pc)) 1 k.val (pc + 1))) (rq_at G M pc)
  | .aload k => rz_if (Nat.beq len 2) (some (rz_loada (rq_o6 (rq_at G M pc)) k (pc + 2))) (rq_at G M pc)
  | .aload_n k => rz_if (Nat.beq len 1) (some (rz_loada (rq_o6 (rq_at G M pc)) k.val (pc + 1))) (rq_at G M pc)
  | .iconst n => rz_if (Nat.beq len 1) (some (rz_const (ri_ci (Int32.ofInt n)) (pc + 1))) (rq_at G M pc)
  | .bipush n => rz_if (Nat.beq len 2) (some (rz_const (ri_ci (Int8.ofInt n).toInt32) (pc + 2))) (rq_at G M pc)
  | .sipush n => rz_if (Nat.beq len 3) (some (rz_const (ri_ci (Int16.ofInt n).toInt32) (pc + 3))) (rq_at G M pc)
  | .lconst n => rz_if (Nat.beq len 1) (some (rz_const (ri_cl (Int64.ofNat n.val)) (pc + 1))) (rq_at G M pc)
  | .aconst_null => rz_if (Nat.beq len 1) (some (rz_const .null (pc + 1))) (rq_at G M pc)
  | .istore k => rz_if (Nat.beq len 2) (rz_if (Nat.ble (Nat.succ k) (ri_mx M)) (some (rz_store (rq_o6 (rq_at G M pc)) 0 k (pc + 2))) (rq_at G M pc)) (rq_at G M pc)
  | .istore_n k => rz_if (Nat.beq len 1) (rz_if (Nat.ble (Nat.succ k.val) (ri_mx M)) (some (rz_store (rq_o6 (rq_at G M pc)) 0 k.val (pc + 1))) (rq_at G M pc)) (rq_at G M pc)
  | .iadd => rz_if (Nat.beq len 1) (some (rz_s2 (rq_o6 (rq_at G M pc)) (fun x y => Nat.mod (Nat.add x y) 4294967296) (pc + 1))) (rq_at G M pc)
  | .isub => rz_if (Nat.beq len 1) (some (rz_s2 (rq_o6 (rq_at G M pc)) (fun x y => Nat.mod (Nat.add x (Nat.sub 4294967296 y)) 4294967296) (pc + 1))) (rq_at G M pc)
  | .imul => rz_if (Nat.beq len 1) (some (rz_s2 (rq_o6 (rq_at G M pc)) (fun x y => Nat.mod (Nat.mul x y) 4294967296) (pc + 1))) (rq_at G M pc)
  | .iinc k n => rz_if (Nat.beq len 3) (rz_if (Nat.ble (Nat.succ k) (ri_mx M)) (some (rz_inc (rq_o6 (rq_at G M pc)) k (Int32.ofInt n).toBitVec.toNat (pc + 3))) (rq_at G M pc)) (rq_at G M pc)
  | .iaload => rz_if (Nat.beq len 1) (some (rz_iald G (rq_o6 (rq_at G M pc)) (pc + 1))) (rq_at G M pc)
  | .iastore => rz_if (Nat.beq len 1) (some (rz_iast G (rq_o6 (rq_at G M pc)) (pc + 1))) (rq_at G M pc)
  | .aaload => rz_if (Nat.beq len 1) (some (rz_aald G (rq_o6 (rq_at G M pc)) (pc + 1))) (rq_at G M pc)
  | .i2l => rz_if (Nat.beq len 1) (some (rz_i2l (rq_o6 (rq_at G M pc)) (pc + 1))) (rq_at G M pc)
  | .ladd => rz_if (Nat.beq len 1) (some (rz_ll (rq_o6 (rq_at G M pc)) (fun x y => ri_cl (x + y)) (pc + 1))) (rq_at G M pc)
  | .lsub => rz_if (Nat.beq len 1) (some (rz_ll (rq_o6 (rq_at G M pc)) (fun x y => ri_cl (x - y)) (pc + 1))) (rq_at G M pc)
  | .lcmp => rz_if (Nat.beq len 1) (some (rz_ll (rq_o6 (rq_at G M pc)) (fun x y => ri_ci (lg_cmp x y)) (pc + 1))) (rq_at G M pc)
  | .dup => rz_if (Nat.beq len 1) (some (rz_dup (rq_o6 (rq_at G M pc)) (pc + 1))) (rq_at G M pc)
  | .if_icmp c off => rz_if (Nat.beq len 3) (rz_o (rq_at G M pc) (fun t => some (rz_ic (rq_o6 (rq_at G M pc)) c t (pc + 3))) (ri_tg pc off)) (rq_at G M pc)
  | .ifCond c off => rz_if (Nat.beq len 3) (rz_o (rq_at G M pc) (fun t => some (rz_if0 (rq_o6 (rq_at G M pc)) c t (pc + 3))) (ri_tg pc off)) (rq_at G M pc)
  | .goto off => rz_if (Nat.beq len 3) (rz_o (rq_at G M pc) (fun t => some (rz_go t)) (ri_tg pc off)) (rq_at G M pc)
  | .getfield idx => rz_if (Nat.beq len 3) (match ri_cp G M idx with
    | some (kd, ci, j, _) => rz_if (Nat.ble kd 1) (some (rz_getf (rq_o6 (rq_at G M pc)) ci j (pc + 3))) (rq_at G M pc)
    | none => rq_at G M pc) (rq_at G M pc)
  | .putfield idx => rz_if (Nat.beq len 3) (match ri_cp G M idx with
    | some (kd, ci, j, _) => match (ri_cls G)[ci]?, ((ri_fts G).getD ci [])[j]? with
      | some (_, T, _), some ty => rz_if (Nat.ble kd 1) (if (T j).2.2.2 = false ∨ (kd = 0 ∧ (ri_nm M).name = "<init>" ∧ (T j).1 = ri_own M) then some (rz_putf (rq_o6 (rq_at G M pc)) ci j ty (pc + 3)) else rq_at G M pc) (rq_at G M pc)
      | _, _ => rq_at G M pc
    | none => rq_at G M pc) (rq_at G M pc)
  | _ => rq_at G M pc
def rz_Z (G : ri_Tb) (M : ri_Mt) (pc : Nat) (o : Option rq_S) : Prop := ∀ (call : ri_Call) (K : ri_K) (lv : List (Nat × Jvm.Term)) (st : List Jvm.Term) (cs : List ri_Cd) (mem : ri_Me), rq_o6 o call K lv st cs mem = ri_one G call M K pc lv st cs mem
theorem rz_one {G : ri_Tb} {M : ri_Mt} {pc : Nat} {s : rq_S} (h : rz_S G M pc s) : rz_Z G M pc (some s) := h
theorem rz_two {G : ri_Tb} {M : ri_Mt} {pc : Nat} {b : Bool} {x y : Option rq_S} (h1 : b = true → rz_Z G M pc x) (h2 : rz_Z G M pc y) : rz_Z G M pc (rz_if b x y) := by
  cases b with
  | true => exact h1 rfl
  | false => exact h2
theorem rz_dis_s {G : ri_Tb} {M : ri_Mt} {pc len : Nat} {i : Instr} (h : (ri_co M)[pc]? = some (some (i, len))) : rz_Z G M pc (rz_dis G M pc i len) := by
  have h0 : rz_Z G M pc (rq_at G M pc) := fun call K lv st cs mem => by
    have e := rq_one_eq (G := G) (call := call) (M := M) (K := K) (pc := pc) (lv := lv) (st := st) (cs := cs) (mem := mem)
    unfold rq_one at e
    rw [rq_F_eq] at e
    exact e
  have hS : rz_S G M pc (rq_o6 (rq_at G M pc)) := h0
  cases i with
  | iload k => exact rz_two (fun hb => by have e := rz_beq hb; subst e; exact rz_one (rz_load_s hS h (fun _ _ => rfl))) h0
  | iload_n k => exact rz_two (fun hb => by have e := rz_beq hb; subst e; exact rz_one (rz_load_s hS h (fun _ _ => rfl))) h0
  | lload k => exact rz_two (fun hb => by have e := rz_beq hb; subst e; exact rz_one (rz_load_s hS h (fun _ _ => rfl))) h0
  | lload_n k => exact rz_two (fun hb => by have e := rz_beq hb; subst e; exact rz_one (rz_load_s hS h (fun _ _ => rfl))) h0
  | aload k => exact rz_two (fun hb => by have e := rz_beq hb; subst e; exact rz_one (rz_loada_s hS h (fun _ _ => rfl))) h0
  | aload_n k => exact rz_two (fun hb => by have e := rz_beq hb; subst e; exact rz_one (rz_loada_s hS h (fun _ _ => rfl))) h0
  | iconst n => exact rz_two (fun hb => by have e := rz_beq hb; subst e; exact rz_one (rz_const_s h (fun _ _ => rfl))) h0
  | bipush n => exact rz_two (fun hb => by have e := rz_beq hb; subst e; exact rz_one (rz_const_s h (fun _ _ => rfl))) h0
  | sipush n => exact rz_two (fun hb => by have e := rz_beq hb; subst e; exact rz_one (rz_const_s h (fun _ _ => rfl))) h0
  | lconst n => exact rz_two (fun hb => by have e := rz_beq hb; subst e; exact rz_one (rz_const_s h (fun _ _ => rfl))) h0
  | aconst_null => exact rz_two (fun hb => by have e := rz_beq hb; subst e; exact rz_one (rz_const_s h (fun _ _ => rfl))) h0
  | istore k => exact rz_two (fun hb => by have e := rz_beq hb; subst e; exact rz_two (fun hc => rz_one (rz_store_s hS h (rz_ble hc) (fun _ _ => rfl))) h0) h0
  | istore_n k => exact rz_two (fun hb => by have e := rz_beq hb; subst e; exact rz_two (fun hc => rz_one (rz_store_s hS h (rz_ble hc) (fun _ _ => rfl))) h0) h0
  | iadd => exact rz_two (fun hb => by have e := rz_beq hb; subst e; exact rz_one (rz_s2_s hS h (fun _ _ => rfl) rz_addc)) h0
  | isub => exact rz_two (fun hb => by have e := rz_beq hb; subst e; exact rz_one (rz_s2_s hS h (fun _ _ => rfl) rz_subc)) h0
  | imul => exact rz_two (fun hb => by have e := rz_beq hb; subst e; exact rz_one (rz_s2_s hS h (fun _ _ => rfl) rz_mulc)) h0
  | iinc k n => exact rz_two (fun hb => by have e := rz_beq hb; subst e; exact rz_two (fun hc => rz_one (rz_inc_s hS h (rz_ble hc))) h0) h0
  | iaload => exact rz_two (fun hb => by have e := rz_beq hb; subst e; exact rz_one (rz_iald_s hS h)) h0
  | iastore => exact rz_two (fun hb => by have e := rz_beq hb; subst e; exact rz_one (rz_iast_s hS h)) h0
  | aaload => exact rz_two (fun hb => by have e := rz_beq hb; subst e; exact rz_one (rz_aald_s hS h)) h0
  | i2l => exact rz_two (fun hb => by have e := rz_beq hb; subst e; exact rz_one (rz_i2l_s hS h)) h0
  | ladd => exact rz_two (fun hb => by have e := rz_beq hb; subst e; exact rz_one (rz_ll_s hS h (fun _ _ _ _ => rfl))) h0
  | lsub => exact rz_two (fun hb => by have e := rz_beq hb; subst e; exact rz_one (rz_ll_s hS h (fun _ _ _ _ => rfl))) h0
  | lcmp => exact rz_two (fun hb => by have e := rz_beq hb; subst e; exact rz_one (rz_ll_s hS h (fun _ _ _ _ => rfl))) h0
  | dup => exact rz_two (fun hb => by have e := rz_beq hb; subst e; exact rz_one (rz_dup_s hS h)) h0
  | if_icmp c off =>
    refine rz_two (fun hb => ?_) h0
    have e := rz_beq hb
    subst e
    cases ht : ri_tg pc off with
    | none => exact h0
    | some t => exact rz_one (rz_ic_s hS h ht)
  | ifCond c off =>
    refine rz_two (fun hb => ?_) h0
    have e := rz_beq hb
    subst e
    cases ht : ri_tg pc off with
    | none => exact h0
    | some t => exact rz_one (rz_if0_s hS h ht)
  | goto off =>
    refine rz_two (fun hb => ?_) h0
    have e := rz_beq hb
    subst e
    cases ht : ri_tg pc off with
    | none => exact h0
    | some t => exact rz_one (rz_go_s h ht)
  | getfield idx =>
    unfold rz_dis
    dsimp only
    refine rz_two (fun hb => ?_) h0
    have e := rz_beq hb
    subst e
    split
    · next kd ci j tx hc => exact rz_two (fun hk => rz_one (rz_getf_s hS h hc (rz_ble hk))) h0
    · exact h0
  | putfield idx =>
    unfold rz_dis
    dsimp only
    refine rz_two (fun hb => ?_) h0
    have e := rz_beq hb
    subst e
    split
    · next kd ci j tx hc =>
      split
      · next C T N ty hcl hty =>
        refine rz_two (fun hk => ?_) h0
        split
        · next hf => exact rz_one (rz_putf_s hS h hc (rz_ble hk) hcl hty hf)
        · exact h0
      · exact h0
    · exact h0
  | _ => exact h0
noncomputable def rz_at (G : ri_Tb) (M : ri_Mt) (pc : Nat) : Option rq_S := match (ri_co M)[pc]? with
  | some (some (i, len)) => rz_dis G M pc i len
  | _ => none
noncomputable def rz_step (G : ri_Tb) (call : ri_Call) (M : ri_Mt) (K : ri_K) (pc : Nat) (lv : List (Nat × Jvm.Term)) (st : List Jvm.Term) (cs : List ri_Cd) (mem : ri_Me) : Option ri_Rs := rq_F pc (fun pc => rq_o6 (rz_at G M pc) call K lv st cs mem)
theorem rz_step_eq {G : ri_Tb} {call : ri_Call} {M : ri_Mt} {K : ri_K} {pc : Nat} {lv : List (Nat × Jvm.Term)} {st : List Jvm.Term} {cs : List ri_Cd} {mem : ri_Me} : rz_step G call M K pc lv st cs mem = ri_one G call M K pc lv st cs mem := by
  unfold rz_step
  rw [rq_F_eq]
  unfold rz_at
  split
  · next i len h => exact rz_dis_s h call K lv st cs mem
  · next hn =>
    unfold ri_one
    split
    · next i len h => exact absurd h (hn i len)
    · rfl
noncomputable def rz_runB (G : ri_Tb) (call : ri_Call) (M : ri_Mt) (B : ri_K) (f : Nat) : ri_K := Nat.rec (motive := fun _ => ri_K) B (fun _ K pc lv st cs mem => rz_step G call M K pc lv st cs mem) f
theorem rz_runB_eq {G : ri_Tb} {call : ri_Call} {M : ri_Mt} {B : ri_K} {f : Nat} : rz_runB G call M B f = ri_runB G call M B f := by
  induction f with
  | zero => rfl
  | succ f ih =>
    funext pc lv st cs mem
    show rz_step G call M (rz_runB G call M B f) pc lv st cs mem = ri_one G call M (ri_runB G call M B f) pc lv st cs mem
    rw [rz_step_eq, ih]
noncomputable def rz_call (G : ri_Tb) (fuel d : Nat) : ri_Call := Nat.rec (motive := fun _ => ri_Call) (fun _ _ _ _ => none) (fun k C mi args cs mem => match (ri_mts G)[mi]? with
    | some M => if ri_lw M = false ∧ (args.map (fun t => if ri_wide t = true then 2 else 1)).sum ≤ ri_mx M ∧ (ri_hi M = true → 5 ≤ k) then rz_runB G C M ri_B0 fuel 0 (ri_args 0 args) [] cs mem else none
    | none => none) d
theorem rz_call_eq {G : ri_Tb} {fuel d : Nat} : rz_call G fuel d = ri_call G fuel d := by
  induction d with
  | zero => rfl
  | succ d ih =>
    funext mi args cs mem
    show (match (ri_mts G)[mi]? with
      | some M => if ri_lw M = false ∧ (args.map (fun t => if ri_wide t = true then 2 else 1)).sum ≤ ri_mx M ∧ (ri_hi M = true → 5 ≤ d) then rz_runB G (rz_call G fuel d) M ri_B0 fuel 0 (ri_args 0 args) [] cs mem else none
      | none => none) = _
    rw [ri_call_S, ih]
    simp only [rz_runB_eq]
    rfl
theorem rz_eq {G : ri_Tb} {M : ri_Mt} {B : ri_K} {f fuel d : Nat} : rz_runB G (rz_call G fuel d) M B f = ri_runB G (ri_call G fuel d) M B f := by rw [rz_call_eq, rz_runB_eq]
end RZ
end
section
/-! RI: of an end only the answer 1; a world that is a part of another, its cells otherwise numbered -/
section RIU
def ri_lf1 : ri_Lf := ([], [], .inl (some (.int 1)))
def ri_Rz (c s : Nat) : ri_Rs := ([], c, s, [])
def ri_okB (c s : Nat) (r : ri_Rs) : Bool := r.1.all (fun x => match x.2.2 with
  | .inl (some (.int v)) => v == 1
  | _ => false) && (Nat.ble r.2.1 c && (Nat.ble r.2.2.1 s && r.2.2.2.isEmpty))
section RIU1
variable {p : Program} {l : Launch} {e : Env} {R : Room} {s : State} {m : MethodId} {args : Array Value} {below : List Frame} {meth : Method} {c : Code} {G : ri_Tb} {M : ri_Mt} {D : va_G} {tyc : Nat → ClassId} {A : Nat → Prop} {ρ : Nat → Int32} {sa : String → Nat → Nat} {ad0 : Nat → Nat} {LT : List ri_Lf} {mcT msT : Nat}
variable {pc : Nat} {lv lv2 : List (Nat × Jvm.Term)} {st st2 : List Jvm.Term} {cs cs2 : List ri_Cd} {mem mem2 : ri_Me} {rs : ri_Rs} {kc ks : Nat}
/-- where the walk comes to its end with 1, whatever else held -/
abbrev ri_Go (p : Program) (l : Launch) (e : Env) (R : Room) (s : State) (m : MethodId) (args : Array Value) (below : List Frame) (meth : Method) (c : Code) (G : ri_Tb) (M : ri_Mt) (D : va_G) (tyc : Nat → ClassId) (A : Nat → Prop) (ρ : Nat → Int32) (sa : String → Nat → Nat) (ad0 : Nat → Nat) (mcT msT pc : Nat) (lv : List (Nat × Jvm.Term)) (st : List Jvm.Term) (cs : List ri_Cd) (mem : ri_Me) (kc ks : Nat) : Prop :=
  ri_So p l e R s m args below meth c G M D tyc A ρ sa 0 ad0 [ri_lf1] mcT msT pc lv st cs mem (ri_Rz kc ks)
theorem ri_to1 (h : ri_So p l e R s m args below meth c G M D tyc A ρ sa 0 ad0 rs.1 mcT msT pc lv st cs mem rs) (hok : ri_okB kc ks rs = true) : ri_Go p l e R s m args below meth c G M D tyc A ρ sa ad0 mcT msT pc lv st cs mem kc ks := by
  unfold ri_okB at hok
  simp only [Bool.and_eq_true] at hok
  obtain ⟨k1, k2, k3, k4⟩ := hok
  have k2 := Nat.le_of_ble_eq_true k2
  have k3 := Nat.le_of_ble_eq_true k3
  have k4 := List.isEmpty_iff.mp k4
  have hlf : ∀ x ∈ rs.1, x.2.2 = .inl (some (.int 1)) := by
    intro x hx
    have h1 := List.all_eq_true.mp k1 x hx
    split at h1
    · next v hv => rw [hv, beq_iff_eq.mp h1]
    · cases h1
  intro ad ls H locs cells slots h1 h2 h3 h4 h5 h6 h7 h8 h9 h10 h11 h12 h13 h14
  have h12 : cells + kc ≤ mcT := h12
  have h13 : slots + ks ≤ msT := h13
  have W := h ad ls H locs cells slots h1 h2 h3 h4 h5 h6 h7 h8 h9 h10 (fun x hx => hx) (by omega) (by omega) (fun o ho => by rw [k4] at ho; cases ho)
  intro T hT X
  obtain ⟨t, a, o, b1, b2, hq⟩ := W T hT X
  refine ⟨t, a, o, b1, b2, ?_⟩
  rcases hq with ⟨⟨lf, hm, tm, ad', e1, e2, e3, f1, f2, f3, f4, f5, f6, f7⟩, hfe⟩ | ⟨q, eo, E, ce, L, ⟨lf, hm, ad', e1, -⟩, -⟩
  · have e4 := hlf lf hm
    rw [e4] at e1
    cases e1
    refine Or.inl ⟨⟨ri_lf1, List.mem_cons_self, some (.int 1), ad', rfl, e2, fun z hz => by cases hz; trivial, fun k hk => absurd hk (Nat.not_lt_zero k), fun q hq => (by cases hq), Nat.le_refl 0, fun e he => (by cases he), fun k q hk => (by cases hk), ⟨fun i j p q h => (by cases h), fun k q h => (by cases h)⟩, f7⟩, hfe⟩
  · have e4 := hlf lf hm
    rw [e4] at e1
    cases e1
def ri_rn (π : List Nat) (t : Jvm.Term) : Jvm.Term := match t with
  | .index k => .index (π.getD k 0)
  | t => t
def ri_rnC (π : List Nat) : ri_Ce → ri_Ce
  | .inl (ci, fs) => .inl (ci, fs.map (ri_rn π))
  | .inr (ty, n, d, ov) => .inr (ty, n, ri_rn π d, ov.map (fun q => (q.1, ri_rn π q.2)))
theorem ri_rn_cv {π : List Nat} {ad : Nat → Nat} (t : Jvm.Term) : ri_cv ρ sa (fun k => ad (π.getD k 0)) t = ri_cv ρ sa ad (ri_rn π t) := by
  by_cases hi : ∃ k, t = .index k
  · obtain ⟨k, rfl⟩ := hi
    rfl
  · have e : ri_rn π t = t := by
      unfold ri_rn
      split
      · next k => exact absurd ⟨k, rfl⟩ hi
      · rfl
    rw [e]
    exact ri_num t fun k e => hi ⟨k, e⟩
theorem ri_rn_look {π : List Nat} {d : Jvm.Term} {ov : List (Nat × Jvm.Term)} {j : Nat} : ri_look (ri_rn π d) (ov.map (fun q => (q.1, ri_rn π q.2))) j = ri_rn π (ri_look d ov j) := by
  unfold ri_look
  induction ov with
  | nil => rfl
  | cons q l ih =>
    rw [List.map_cons]
    by_cases h : (q.1 == j) = true
    · rw [List.find?_cons_of_pos (by exact h), List.find?_cons_of_pos (by exact h)]
    · rw [List.find?_cons_of_neg (by exact h), List.find?_cons_of_neg (by exact h)]
      exact ih
theorem ri_rn_ce {π : List Nat} {ad : Nat → Nat} {aty : List FieldType} (ce : ri_Ce) : ri_ce ρ sa aty tyc (fun k => ad (π.getD k 0)) ce = ri_ce ρ sa aty tyc ad (ri_rnC π ce) := by
  match ce with
  | .inl (ci, fs) =>
    show Sum.inr (ci, fs.map (ri_cv ρ sa (fun k => ad (π.getD k 0)))) = Sum.inr (ci, (fs.map (ri_rn π)).map (ri_cv ρ sa ad))
    rw [List.map_map]
    congr 2
    exact List.map_congr_left fun t _ => ri_rn_cv t
  | .inr (ty, n, d, ov) =>
    simp only [ri_ce, ri_rnC, ri_rn_look]
    simp only [ri_rn_cv]
/-- cell by cell -/
def ri_subL (π0 : List Nat) (mem : ri_Me) : List Nat → ri_Me → Bool
  | [], [] => true
  | k :: ks, e :: es => (match mem[k]? with
    | some e' => ri_eqC e' (ri_rnC π0 e)
    | none => false) && ri_subL π0 mem ks es
  | _, _ => false
theorem ri_subL_s {π0 : List Nat} : ∀ (ks : List Nat) (es : ri_Me), ri_subL π0 mem ks es = true → ks.length = es.length ∧ ∀ (i : Nat) (ce : ri_Ce), es[i]? = some ce → ∃ k, ks[i]? = some k ∧ mem[k]? = some (ri_rnC π0 ce)
  | [], [], _ => ⟨rfl, fun i ce h => (by cases h)⟩
  | k :: ks, e9 :: es, h => by
    unfold ri_subL at h
    rw [Bool.and_eq_true] at h
    obtain ⟨h1, h2⟩ := h
    obtain ⟨g1, g2⟩ := ri_subL_s ks es h2
    refine ⟨congrArg (· + 1) g1, fun i ce hi => ?_⟩
    cases i with
    | zero =>
      rw [List.getElem?_cons_zero] at hi
      cases hi
      refine ⟨k, rfl, ?_⟩
      split at h1
      · next e' he => rw [he, ri_eqC_s _ _ h1]
      · cases h1
    | succ i =>
      rw [List.getElem?_cons_succ] at hi
      exact g2 i ce hi
  | [], _ :: _, h => by cases h
  | _ :: _, [], h => by cases h
def ri_lvB (π : List Nat) (lv : List (Nat × Jvm.Term)) : List (Nat × Jvm.Term) → Bool
  | [] => true
  | q :: r => (match ri_ld lv q.1 with
    | some t => ri_eqT t (ri_rn π q.2)
    | none => false) && ri_lvB π lv r
theorem ri_lvB_s {π : List Nat} : ∀ (l : List (Nat × Jvm.Term)), ri_lvB π lv l = true → ∀ q ∈ l, (q.1, ri_rn π q.2) ∈ lv
  | [], _, q, hq => by cases hq
  | a :: r, h, q, hq => by
    unfold ri_lvB at h
    rw [Bool.and_eq_true] at h
    rcases List.mem_cons.mp hq with rfl | hq
    · have h1 := h.1
      split at h1
      · next t ht =>
        rw [← ri_eqT_s _ _ h1]
        exact ri_ld_mem ht
      · cases h1
    · exact ri_lvB_s r h.2 q hq
def ri_eqQ : List ri_Cd → List ri_Cd → Bool
  | [], [] => true
  | a :: l, b :: r => Nat.beq a.1 b.1 && (ri_eqT a.2.1 b.2.1 && (ri_eqT a.2.2.1 b.2.2.1 && ((a.2.2.2 == b.2.2.2) && ri_eqQ l r)))
  | _, _ => false
theorem ri_eqQ_s : ∀ (a b : List ri_Cd), ri_eqQ a b = true → a = b
  | [], [], _ => rfl
  | a :: l, b :: r, h => by
    unfold ri_eqQ at h
    simp only [Bool.and_eq_true] at h
    obtain ⟨h1, h2, h3, h4, h5⟩ := h
    have e1 := Nat.eq_of_beq_eq_true h1
    have e2 := ri_eqT_s _ _ h2
    have e3 := ri_eqT_s _ _ h3
    have e4 := beq_iff_eq.mp h4
    rw [ri_eqQ_s l r h5]
    congr 1
    exact Prod.ext e1 (Prod.ext e2 (Prod.ext e3 e4))
  | [], _ :: _, h => by cases h
  | _ :: _, [], h => by cases h
/-- the references of a world lie in it -/
def ri_okT (n : Nat) (t : Jvm.Term) : Bool := match t with
  | .index k => Nat.ble (Nat.succ k) n
  | _ => true
def ri_okCB (n : Nat) : ri_Ce → Bool
  | .inl (_, fs) => fs.all (ri_okT n)
  | .inr (_, _, d, ov) => ri_okT n d && ov.all (fun q => ri_okT n q.2)
theorem ri_okT_s {n : Nat} {t : Jvm.Term} (h : ri_okT n t = true) : ri_ok n t := by
  unfold ri_okT at h
  split at h
  · exact Nat.le_of_ble_eq_true h
  · next hn => cases t <;> first | trivial | exact absurd rfl (hn _)
theorem ri_okCB_s {n : Nat} {ce : ri_Ce} (h : ri_okCB n ce = true) : ri_okC n ce := by
  match ce, h with
  | .inl (_, fs), h => exact fun t ht => ri_okT_s (List.all_eq_true.mp h t ht)
  | .inr (_, _, d, ov), h =>
    have h := (Bool.and_eq_true _ _).mp h
    exact ⟨ri_okT_s h.1, fun q hq => ri_okT_s (List.all_eq_true.mp h.2 q hq)⟩
/-- what is asked of the smaller world alone -/
def ri_fitB (π : List Nat) (lv2 : List (Nat × Jvm.Term)) (st2 : List Jvm.Term) (mem2 : ri_Me) : Bool := decide π.Nodup && (mem2.all (ri_okCB mem2.length) && (lv2.all (fun q => ri_okT mem2.length q.2) && st2.all (ri_okT mem2.length)))
theorem ri_sub {π : List Nat} (hfit : ri_fitB π lv2 st2 mem2 = true) (hm : ri_subL π mem π mem2 = true) (hlvB : ri_lvB π lv lv2 = true) (hst : st = st2.map (ri_rn π)) (hcs : (∀ q ∈ cs, ri_sat ρ q) → ∀ q ∈ cs2, ri_sat ρ q) (h : ri_Go p l e R s m args below meth c G M D tyc A ρ sa ad0 mcT msT pc lv2 st2 cs2 mem2 kc ks) : ri_Go p l e R s m args below meth c G M D tyc A ρ sa ad0 mcT msT pc lv st cs mem kc ks := by
  unfold ri_fitB at hfit
  simp only [Bool.and_eq_true, decide_eq_true_iff] at hfit
  obtain ⟨g1, g2, g3, g4⟩ := hfit
  obtain ⟨hlen, hce⟩ := ri_subL_s _ _ hm
  intro ad ls H locs cells slots h1 h2 h3 h4 h5 h6 h7 h8 h9 h10 h11 h12 h13 h14
  have hw : ∀ (i : Nat) (q : Nat × va_E), (ri_w ρ sa (ri_aty G) tyc (fun k => ad (π.getD k 0)) mem2)[i]? = some q → ∃ k, π[i]? = some k ∧ (ri_w ρ sa (ri_aty G) tyc ad mem)[k]? = some q := by
    intro i q hq
    unfold ri_w at hq
    rw [List.getElem?_mapIdx] at hq
    obtain ⟨ce, hce9, rfl⟩ := Option.map_eq_some_iff.mp hq
    obtain ⟨k, hk, hmk⟩ := hce i ce hce9
    refine ⟨k, hk, ?_⟩
    rw [ri_w_get hmk, ri_rn_ce]
    have e : π.getD i 0 = k := by simp [List.getD, hk]
    show some (ad k, _) = some (ad (π.getD i 0), _)
    rw [e]
  have hW := h (fun k => ad (π.getD k 0)) ls H locs cells slots (fun k hk => absurd hk (Nat.not_lt_zero k)) (Nat.zero_le _) (ri_has_sub h3 fun q hq => ?_) (fun i q hq => ?_) ⟨fun i j q r hq hr he => ?_, fun i q hq => ?_⟩ h6 (fun e9 he => ri_okCB_s (List.all_eq_true.mp g2 e9 he)) (fun q hq => ri_okT_s (List.all_eq_true.mp g3 q hq)) (fun t ht => ri_okT_s (List.all_eq_true.mp g4 t ht)) (hcs h10) h11 h12 h13 h14
  · rw [hst, List.map_map]
    have e : st2.map (ri_cv ρ sa ad ∘ ri_rn π) = st2.map (ri_cv ρ sa (fun k => ad (π.getD k 0))) := List.map_congr_left fun t _ => (ri_rn_cv t).symm
    rw [e]
    exact hW
  · obtain ⟨z, hz, rfl⟩ := List.mem_map.mp hq
    refine List.mem_map.mpr ⟨(z.1, ri_rn π z.2), ri_lvB_s _ hlvB z hz, ?_⟩
    show (z.1, ri_cv ρ sa ad (ri_rn π z.2)) = (z.1, ri_cv ρ sa (fun k => ad (π.getD k 0)) z.2)
    rw [ri_rn_cv]
  · obtain ⟨k, -, hk⟩ := hw i q hq
    exact h4 k q hk
  · obtain ⟨k1, a1, b1⟩ := hw i q hq
    obtain ⟨k2, a2, b2⟩ := hw j r hr
    have e := h5.1 k1 k2 q r b1 b2 he
    subst e
    have hi : i < π.length := (List.getElem?_eq_some_iff.mp a1).1
    exact (List.getElem?_inj hi g1).mp (a1.trans a2.symm)
  · obtain ⟨k, -, hk⟩ := hw i q hq
    exact h5.2 k q hk
theorem rz_if_eq {α : Type} {b : Bool} {x y : α} : rz_if b x y = if b = true then x else y := by cases b <;> rfl
/-- stop where the world holds that smaller one -/
noncomputable def ri_gs (π : List Nat) (pc0 : Nat) (lv2 : List (Nat × Jvm.Term)) (st2 : List Jvm.Term) (cs2 : List ri_Cd) (mem2 : ri_Me) (kc ks : Nat) (B : ri_K) : ri_K := fun pc lv st cs mem =>
  rz_if (Nat.beq pc pc0 && (ri_eqL st (st2.map (ri_rn π)) && (ri_eqQ (cs.drop (cs.length - cs2.length)) cs2 && (ri_lvB π lv lv2 && ri_subL π mem π mem2)))) (some (ri_Rz kc ks)) (B pc lv st cs mem)
theorem ri_gs_s {π : List Nat} {pc0 pc1 : Nat} {B : ri_K} (hfit : ri_fitB π lv2 st2 mem2 = true) (h2 : ri_Go p l e R s m args below meth c G M D tyc A ρ sa ad0 mcT msT pc0 lv2 st2 cs2 mem2 kc ks) (h : ri_gs π pc0 lv2 st2 cs2 mem2 kc ks B pc1 lv st cs mem = some rs) :
    (rs = ri_Rz kc ks ∧ ri_Go p l e R s m args below meth c G M D tyc A ρ sa ad0 mcT msT pc1 lv st cs mem kc ks) ∨ B pc1 lv st cs mem = some rs := by
  unfold ri_gs at h
  rw [rz_if_eq] at h
  split at h
  · next hk =>
    cases h
    simp only [Bool.and_eq_true] at hk
    obtain ⟨a1, a2, a3, a4, a5⟩ := hk
    have e1 := Nat.eq_of_beq_eq_true a1
    subst e1
    refine Or.inl ⟨rfl, ri_sub hfit a5 a4 (ri_eqL_s _ _ a2) (fun hs q hq => ?_) h2⟩
    rw [← ri_eqQ_s _ _ a3] at hq
    exact hs q (List.mem_of_mem_drop hq)
  · exact Or.inr h
/-- the end of a walk hangs on what it told alone: other conditions, as good -/
theorem ri_cs (hcs : (∀ q ∈ cs, ri_sat ρ q) → ∀ q ∈ cs2, ri_sat ρ q) (h : ri_Go p l e R s m args below meth c G M D tyc A ρ sa ad0 mcT msT pc lv st cs2 mem kc ks) : ri_Go p l e R s m args below meth c G M D tyc A ρ sa ad0 mcT msT pc lv st cs mem kc ks :=
  fun ad ls H locs cells slots h1 h2 h3 h4 h5 h6 h7 h8 h9 h10 h11 h12 h13 h14 => h ad ls H locs cells slots h1 h2 h3 h4 h5 h6 h7 h8 h9 (hcs h10) h11 h12 h13 h14
end RIU1
end RIU
end
section
/-! RI a last time: what held on the way, found and weighed by recursors alone -/
section RY
noncomputable def ry_tag (t : Jvm.Term) : Nat := Jvm.Term.rec (motive := fun _ => Nat) (fun _ => 0) (fun _ => 1) (fun _ => 2) 3 (fun _ => 4) (fun _ _ _ _ _ => 5) (fun _ _ _ => 6) (fun _ _ => 7) (fun _ => 8) (fun _ _ => 9) (fun _ _ _ _ => 10) (fun _ _ _ _ => 11) (fun _ _ _ _ => 12) (fun _ _ _ _ => 13) (fun _ _ _ _ => 14) (fun _ _ _ _ => 15) (fun _ _ _ _ _ => 16) (fun _ _ _ => 17) (fun _ _ => 18) 19 20 (fun _ _ => 21) t
noncomputable def ry_arg (t : Jvm.Term) : Option Nat := Jvm.Term.rec (motive := fun _ => Option Nat) (fun i => some i) (fun _ => none) (fun _ => none) none (fun _ => none) (fun _ _ _ _ _ => none) (fun _ _ _ => none) (fun _ _ => none) (fun _ => none) (fun _ _ => none) (fun _ _ _ _ => none) (fun _ _ _ _ => none) (fun _ _ _ _ => none) (fun _ _ _ _ => none) (fun _ _ _ _ => none) (fun _ _ _ _ => none) (fun _ _ _ _ _ => none) (fun _ _ _ => none) (fun _ _ => none) none none (fun _ _ => none) t
noncomputable def ry_add (t : Jvm.Term) : Option (Jvm.Term × Jvm.Term) := Jvm.Term.rec (motive := fun _ => Option (Jvm.Term × Jvm.Term)) (fun _ => none) (fun _ => none) (fun _ => none) none (fun _ => none) (fun _ _ _ _ _ => none) (fun _ _ _ => none) (fun _ _ => none) (fun _ => none) (fun _ _ => none) (fun _ _ _ _ => none) (fun a b _ _ => some (a, b)) (fun _ _ _ _ => none) (fun _ _ _ _ => none) (fun _ _ _ _ => none) (fun _ _ _ _ => none) (fun _ _ _ _ _ => none) (fun _ _ _ => none) (fun _ _ => none) none none (fun _ _ => none) t
/-- alike, the tags first -/
noncomputable def ry_g (n : Nat) (a b : Jvm.Term) : Bool := rz_if (Nat.beq (ry_tag b) n) (ri_eqT a b) false
theorem ry_g_eq {a b : Jvm.Term} : ry_g (ry_tag a) a b = ri_eqT a b := by
  unfold ry_g
  cases h : Nat.beq (ry_tag b) (ry_tag a) with
  | true => rfl
  | false =>
    show false = _
    cases he : ri_eqT a b with
    | false => rfl
    | true =>
      have e := ri_eqT_s _ _ he
      subst e
      exact absurd rfl (rz_bne h)
noncomputable def ry_eqT (a : Jvm.Term) : Jvm.Term → Bool := Jvm.Term.rec (motive := fun _ => Jvm.Term → Bool) (fun i b => rz_o false (fun j => Nat.beq i j) (ry_arg b)) (fun v b => rz_o false (fun y => Nat.beq v.toBitVec.toNat y) (rz_nat b)) (fun v b => ry_g 2 (.long v) b) (fun b => ry_g 3 .null b) (fun k b => ry_g 4 (.index k) b) (fun t x y z _ b => ry_g 5 (.field t x y z) b) (fun x y z b => ry_g 6 (.static x y z) b) (fun x y b => ry_g 7 (.string x y) b) (fun x b => ry_g 8 (.mirror x) b) (fun t _ b => ry_g 9 (.length t) b) (fun x y _ _ b => ry_g 10 (.elem x y) b)
  (fun _ _ hx hy b => rz_o false (fun z => rz_if (hx z.1) (hy z.2) false) (ry_add b)) (fun x y _ _ b => ry_g 12 (.sub x y) b) (fun x y _ _ b => ry_g 13 (.mul x y) b) (fun x y _ _ b => ry_g 14 (.div x y) b) (fun x y _ _ b => ry_g 15 (.rem x y) b) (fun o x y _ _ b => ry_g 16 (.op2 o x y) b) (fun o x _ b => ry_g 17 (.op1 o x) b) (fun x _ b => ry_g 18 (.sum x) b) (fun b => ry_g 19 .result b) (fun b => ry_g 20 .thrown b) (fun x _ b => ry_g 21 (.old x) b) a
theorem ry_eqT_eq (a : Jvm.Term) : ∀ b, ry_eqT a b = ri_eqT a b := by
  induction a with
  | arg i =>
    intro b
    show rz_o false (fun j => Nat.beq i j) (ry_arg b) = _
    cases b with
    | arg j => show Nat.beq i j = (i == j); exact rz_bq i j
    | _ => rfl
  | int v =>
    intro b
    show rz_o false (fun y => Nat.beq v.toBitVec.toNat y) (rz_nat b) = _
    cases b with
    | int w =>
      show Nat.beq v.toBitVec.toNat w.toBitVec.toNat = (v == w)
      rw [rz_eqb]
      rfl
    | _ => rfl
  | add x y hx hy =>
    intro b
    show rz_o false (fun z => rz_if (ry_eqT x z.1) (ry_eqT y z.2) false) (ry_add b) = _
    cases b with
    | add x2 y2 =>
      show rz_if (ry_eqT x x2) (ry_eqT y y2) false = (ri_eqT x x2 && ri_eqT y y2)
      rw [hx, hy]
      cases ri_eqT x x2 <;> rfl
    | _ => rfl
  | _ => intro b; exact ry_g_eq
/-- bounds -/
noncomputable def ry_nw (t : Jvm.Term) (q : ri_Cd) (r : Int × Int) : Int × Int := rz_o r (fun c => rz_if (ry_eqT q.2.1 t) (match q.1 with
    | 0 => if q.2.2.2 = true then (max r.1 c.toInt, min r.2 c.toInt) else (if r.1 = c.toInt then r.1 + 1 else r.1, if r.2 = c.toInt then r.2 - 1 else r.2)
    | _ => if q.2.2.2 = true then (r.1, min r.2 (c.toInt - 1)) else (max r.1 c.toInt, r.2)) r) (rz_int q.2.2.1)
theorem ry_nw_eq (t : Jvm.Term) (q : ri_Cd) (r : Int × Int) : ry_nw t q r = ri_nw t q r := by
  obtain ⟨k, a, b, v⟩ := q
  unfold ry_nw ri_nw
  dsimp only
  rw [ry_eqT_eq]
  cases b with
  | int c =>
    show rz_if (ri_eqT a t) _ r = _
    cases h : ri_eqT a t with
    | true => rfl
    | false => rfl
  | _ => rfl
noncomputable def ry_fold (t : Jvm.Term) (r : Int × Int) (cs : List ri_Cd) : Int × Int := List.rec (motive := fun _ => Int × Int) r (fun q _ ih => ry_nw t q ih) cs
theorem ry_fold_eq (t : Jvm.Term) (r : Int × Int) (cs : List ri_Cd) : ry_fold t r cs = cs.foldr (ri_nw t) r := by
  induction cs with
  | nil => rfl
  | cons q l ih =>
    show ry_nw t q (ry_fold t r l) = _
    rw [ry_nw_eq, ih]
    rfl
noncomputable def ry_fd (cs : List ri_Cd) (t : Jvm.Term) (r : Int × Int) : Int × Int := ry_fold t (ry_fold t r cs) cs
theorem ry_fd_eq (cs : List ri_Cd) (t : Jvm.Term) (r : Int × Int) : ry_fd cs t r = ri_fd cs t r := by
  unfold ry_fd ri_fd
  rw [ry_fold_eq, ry_fold_eq]
noncomputable def ry_both (b1 b2 : Bool) (x d : Int × Int) : Int × Int := rz_if b1 (rz_if b2 x d) d
theorem ry_both_eq {n a b : Nat} {x d : Int × Int} : ry_both (Nat.beq a n) (Nat.beq b n) x d = if a = n ∧ b = n then x else d := by
  unfold ry_both
  cases h1 : Nat.beq a n with
  | false => rw [if_neg (fun h => rz_bne h1 h.1)]; rfl
  | true =>
    cases h2 : Nat.beq b n with
    | false => rw [if_neg (fun h => rz_bne h2 h.2)]; rfl
    | true => rw [if_pos ⟨rz_beq h1, rz_beq h2⟩]; rfl
noncomputable def ry_o2 (cs : List ri_Cd) (o : Binary) (a b : Jvm.Term) (ia ib : Int × Int) : Int × Int := match ri_ko o with
    | 0 => ry_fd cs ((.op2 o a b)) (match o, b with
      | .iand, .int c => if 0 ≤ c.toInt then (0, c.toInt) else ri_F32
      | _, _ => ri_F32)
    | 1 => ry_both (Nat.beq (rz_k a) 1) (Nat.beq (rz_k b) 1) (match o with
      | .ladd => ri_c64 (ia.1 + ib.1, ia.2 + ib.2)
      | .lsub => ri_c64 (ia.1 - ib.2, ia.2 - ib.1)
      | _ => ri_F64) ri_F64
    | _ => ry_both (Nat.beq (rz_k a) 1) (Nat.beq (rz_k b) 1) (ry_fd cs ((.op2 o a b)) (ri_cmpB ia ib)) ri_F32
noncomputable def ry_o1 (cs : List ri_Cd) (o : Unary) (a : Jvm.Term) (ia : Int × Int) : Int × Int := match o with
    | .i2l => rz_if (Nat.beq (rz_k a) 0) ia ri_F64
    | .ineg => ry_fd cs ((.op1 o a)) (rz_if (Nat.beq (rz_k a) 0) (ri_c32 (-ia.2, -ia.1)) ri_F32)
    | .l2i => ry_fd cs ((.op1 o a)) ri_F32
    | _ => ri_F64
noncomputable def ry_bd (cs : List ri_Cd) (t : Jvm.Term) : Int × Int := Jvm.Term.rec (motive := fun _ => Int × Int) (fun i => ry_fd cs (.arg i) ri_F32) (fun v => (v.toInt, v.toInt)) (fun v => (v.toInt, v.toInt)) (ri_bd cs .null) (fun k => ri_bd cs (.index k)) (fun t x y z _ => ri_bd cs (.field t x y z)) (fun x y z => ri_bd cs (.static x y z)) (fun x y => ri_bd cs (.string x y)) (fun x => ri_bd cs (.mirror x)) (fun t _ => ri_bd cs (.length t)) (fun x y _ _ => ri_bd cs (.elem x y))
  (fun a b ia ib => ry_fd cs (.add a b) (ry_both (Nat.beq (rz_k a) 0) (Nat.beq (rz_k b) 0) (ri_c32 (ia.1 + ib.1, ia.2 + ib.2)) ri_F32)) (fun a b ia ib => ry_fd cs (.sub a b) (ry_both (Nat.beq (rz_k a) 0) (Nat.beq (rz_k b) 0) (ri_c32 (ia.1 - ib.2, ia.2 - ib.1)) ri_F32)) (fun x y _ _ => ri_bd cs (.mul x y)) (fun x y _ _ => ri_bd cs (.div x y)) (fun x y _ _ => ri_bd cs (.rem x y)) (fun o a b ia ib => ry_o2 cs o a b ia ib) (fun o a ia => ry_o1 cs o a ia) (fun x _ => ri_bd cs (.sum x)) (ri_bd cs .result) (ri_bd cs .thrown) (fun x _ => ri_bd cs (.old x)) t
theorem ry_bd_eq (cs : List ri_Cd) (t : Jvm.Term) : ry_bd cs t = ri_bd cs t := by
  induction t with
  | arg i => exact ry_fd_eq cs (.arg i) ri_F32
  | int v => rfl
  | long v => rfl
  | add a b ia ib =>
    show ry_fd cs (.add a b) (ry_both (Nat.beq (rz_k a) 0) (Nat.beq (rz_k b) 0) (ri_c32 ((ry_bd cs a).1 + (ry_bd cs b).1, (ry_bd cs a).2 + (ry_bd cs b).2)) ri_F32) = ri_fd cs (.add a b) (if ri_k a = 0 ∧ ri_k b = 0 then ri_c32 ((ri_bd cs a).1 + (ri_bd cs b).1, (ri_bd cs a).2 + (ri_bd cs b).2) else ri_F32)
    rw [ry_fd_eq, ia, ib, ry_both_eq, rz_k_eq, rz_k_eq]
  | sub a b ia ib =>
    show ry_fd cs (.sub a b) (ry_both (Nat.beq (rz_k a) 0) (Nat.beq (rz_k b) 0) (ri_c32 ((ry_bd cs a).1 - (ry_bd cs b).2, (ry_bd cs a).2 - (ry_bd cs b).1)) ri_F32) = ri_fd cs (.sub a b) (if ri_k a = 0 ∧ ri_k b = 0 then ri_c32 ((ri_bd cs a).1 - (ri_bd cs b).2, (ri_bd cs a).2 - (ri_bd cs b).1) else ri_F32)
    rw [ry_fd_eq, ia, ib, ry_both_eq, rz_k_eq, rz_k_eq]
  | op2 o a b ia ib =>
    show ry_o2 cs o a b (ry_bd cs a) (ry_bd cs b) = _
    rw [ia, ib]
    unfold ry_o2
    rw [ry_fd_eq, ry_fd_eq, ry_both_eq, ry_both_eq, rz_k_eq, rz_k_eq]
    simp only [ri_bd]
    cases o <;> rfl
  | op1 o a ia =>
    show ry_o1 cs o a (ry_bd cs a) = _
    rw [ia]
    unfold ry_o1
    rw [ry_fd_eq, ry_fd_eq, rz_k_eq, rz_bq]
    have e : ∀ (x y : Int × Int), rz_if (ri_k a == 0) x y = if ri_k a = 0 then x else y := fun x y => by
      by_cases h : ri_k a = 0
      · rw [if_pos h, h]; rfl
      · rw [if_neg h, show (ri_k a == 0) = false from by simpa using h]; rfl
    rw [e, e]
    cases o <;> rfl
  | _ => rfl
/-- is it known already? -/
noncomputable def ry_fnd (cs : List ri_Cd) (k : Nat) (a b : Jvm.Term) : Option Bool := List.rec (motive := fun _ => Option Bool) none (fun q _ ih => rz_if (Nat.beq q.1 k) (rz_if (ry_eqT q.2.1 a) (rz_if (ry_eqT q.2.2.1 b) (some q.2.2.2) ih) ih) ih) cs
theorem ry_fnd_eq (cs : List ri_Cd) (k : Nat) (a b : Jvm.Term) : ry_fnd cs k a b = (cs.find? (fun q => q.1 == k && (ri_eqT q.2.1 a && ri_eqT q.2.2.1 b))).map (fun q => q.2.2.2) := by
  induction cs with
  | nil => rfl
  | cons q l ih =>
    show rz_if (Nat.beq q.1 k) (rz_if (ry_eqT q.2.1 a) (rz_if (ry_eqT q.2.2.1 b) (some q.2.2.2) (ry_fnd l k a b)) (ry_fnd l k a b)) (ry_fnd l k a b) = _
    rw [ry_eqT_eq, ry_eqT_eq, ih, List.find?_cons, rz_bq]
    cases (q.1 == k) with
    | false => rfl
    | true =>
      cases ri_eqT q.2.1 a with
      | false => rfl
      | true =>
        cases ri_eqT q.2.2.1 b with
        | false => rfl
        | true => rfl
noncomputable def ry_dec (cs : List ri_Cd) (k : Nat) (a b : Jvm.Term) : Option Bool := rz_if (Nat.beq (ry_tag a) 1) (ri_dec cs k a b) (rz_o (rz_if (Nat.beq (rz_k a) 0) (rz_if (Nat.beq (rz_k b) 0) (ri_decB k (ry_bd cs a) (ry_bd cs b)) none) none) some (ry_fnd cs k a b))
theorem ry_dec_eq (cs : List ri_Cd) (k : Nat) (a b : Jvm.Term) : ry_dec cs k a b = ri_dec cs k a b := by
  unfold ry_dec
  cases ht : Nat.beq (ry_tag a) 1 with
  | true => rfl
  | false =>
    have hn : ∀ x, a ≠ .int x := fun x e => rz_bne ht (by rw [e]; rfl)
    show rz_o _ some (ry_fnd cs k a b) = _
    rw [ry_fnd_eq, ry_bd_eq, ry_bd_eq, rz_k_eq, rz_k_eq]
    unfold ri_dec
    split
    · next x y => exact absurd rfl (hn x)
    · cases hf : cs.find? (fun q => q.1 == k && (ri_eqT q.2.1 a && ri_eqT q.2.2.1 b)) with
      | some q => rfl
      | none =>
        show rz_if (Nat.beq (ri_k a) 0) (rz_if (Nat.beq (ri_k b) 0) (ri_decB k (ri_bd cs a) (ri_bd cs b)) none) none = _
        cases h1 : Nat.beq (ri_k a) 0 with
        | false => rw [if_neg (fun h => rz_bne h1 h.1)]; rfl
        | true =>
          cases h2 : Nat.beq (ri_k b) 0 with
          | false => rw [if_neg (fun h => rz_bne h2 h.2)]; rfl
          | true => rw [if_pos ⟨rz_beq h1, rz_beq h2⟩]; rfl
noncomputable def ry_br0 (cs : List ri_Cd) (q : ri_Cd) (T F : List ri_Cd → Option ri_Rs) : Option ri_Rs := match ry_dec cs q.1 q.2.1 q.2.2.1 with
  | some r => if r = q.2.2.2 then T cs else F cs
  | none => ri_both (T (q :: cs)) (F ((q.1, q.2.1, q.2.2.1, !q.2.2.2) :: cs))
theorem ry_br0_eq (cs : List ri_Cd) (q : ri_Cd) (T F : List ri_Cd → Option ri_Rs) : ry_br0 cs q T F = ri_br0 cs q T F := by
  unfold ry_br0 ri_br0
  rw [ry_dec_eq]
  rfl
/-- one form -/
noncomputable def ry_p2 (t : Jvm.Term) : Option (Binary × Jvm.Term × Jvm.Term) := Jvm.Term.rec (motive := fun _ => Option (Binary × Jvm.Term × Jvm.Term)) (fun _ => none) (fun _ => none) (fun _ => none) none (fun _ => none) (fun _ _ _ _ _ => none) (fun _ _ _ => none) (fun _ _ => none) (fun _ => none) (fun _ _ => none) (fun _ _ _ _ => none) (fun _ _ _ _ => none) (fun _ _ _ _ => none) (fun _ _ _ _ => none) (fun _ _ _ _ => none) (fun _ _ _ _ => none) (fun o a b _ _ => some (o, a, b)) (fun _ _ _ => none) (fun _ _ => none) none none (fun _ _ => none) t
theorem ry_p2_s {t : Jvm.Term} {z : Binary × Jvm.Term × Jvm.Term} (h : ry_p2 t = some z) : t = .op2 z.1 z.2.1 z.2.2 := by cases t <;> cases h; rfl
theorem ry_p2_n {t : Jvm.Term} (h : ry_p2 t = none) : ∀ o a b, t ≠ .op2 o a b := fun o a b e => by rw [e] at h; cases h
noncomputable def ry_i2 (t : Jvm.Term) : Option Jvm.Term := Jvm.Term.rec (motive := fun _ => Option Jvm.Term) (fun _ => none) (fun _ => none) (fun c => ri_i2 (.long c)) none (fun _ => none) (fun _ _ _ _ _ => none) (fun _ _ _ => none) (fun _ _ => none) (fun _ => none) (fun _ _ => none) (fun _ _ _ _ => none) (fun _ _ _ _ => none) (fun _ _ _ _ => none) (fun _ _ _ _ => none) (fun _ _ _ _ => none) (fun _ _ _ _ => none) (fun _ _ _ _ _ => none) (fun o a _ => match o with
    | .i2l => rz_if (Nat.beq (rz_k a) 0) (some a) none
    | _ => none) (fun _ _ => none) none none (fun _ _ => none) t
theorem ry_i2_eq (t : Jvm.Term) : ry_i2 t = ri_i2 t := by
  cases t with
  | op1 o a =>
    cases o with
    | i2l =>
      show rz_if (Nat.beq (rz_k a) 0) (some a) none = if ri_k a = 0 then some a else none
      rw [rz_k_eq]
      cases h : Nat.beq (ri_k a) 0 with
      | true => rw [if_pos (rz_beq h)]; rfl
      | false => rw [if_neg (rz_bne h)]; rfl
    | _ => rfl
  | _ => rfl
def ry_isL (o : Binary) : Bool := match o with
  | .lcmp => true
  | _ => false
theorem ry_isL_s {o : Binary} (h : ry_isL o = true) : o = .lcmp := by cases o <;> first | rfl | cases h
theorem ry_isL_n {o : Binary} (h : ry_isL o = false) : o ≠ .lcmp := fun e => by rw [e] at h; cases h
noncomputable def ry_norm (q : ri_Cd) : ri_Cd := rz_o (rz_o q (fun z => rz_if (ry_isL z.1) (rz_o q (fun y => rz_if (Nat.beq y 0) (rz_o q (fun a => rz_o q (fun b => (q.1, b, a, q.2.2.2)) (ry_i2 z.2.2)) (ry_i2 z.2.1)) q) (rz_nat q.2.1)) q) (ry_p2 q.2.2.1))
  (fun z => rz_if (ry_isL z.1) (rz_o q (fun y => rz_if (Nat.beq y 0) (rz_o q (fun a => rz_o q (fun b => (q.1, a, b, q.2.2.2)) (ry_i2 z.2.2)) (ry_i2 z.2.1)) q) (rz_nat q.2.2.1)) q) (ry_p2 q.2.1)
theorem ry_zb (z : Int32) : Nat.beq z.toBitVec.toNat 0 = decide (z = 0) := rz_eqb z 0
theorem ry_norm_eq (q : ri_Cd) : ry_norm q = ri_norm q := by
  obtain ⟨k, a, b, v⟩ := q
  cases a with
  | op2 o x y =>
    cases b with
    | int z =>
      cases o with
      | lcmp =>
        show rz_o (k, .op2 .lcmp x y, .int z, v) (fun y9 => rz_if (Nat.beq y9 0) (rz_o (k, .op2 .lcmp x y, .int z, v) (fun a => rz_o (k, .op2 .lcmp x y, .int z, v) (fun b => (k, a, b, v)) (ry_i2 y)) (ry_i2 x)) (k, .op2 .lcmp x y, .int z, v)) (some z.toBitVec.toNat) = _
        rw [rz_o_some, ry_zb, ry_i2_eq, ry_i2_eq]
        unfold ri_norm
        dsimp only
        by_cases hz : z = 0
        · rw [if_pos hz, decide_eq_true hz]
          cases ri_i2 x <;> cases ri_i2 y <;> rfl
        · rw [if_neg hz, decide_eq_false hz]
          rfl
      | _ => rfl
    | _ => cases o <;> rfl
  | int z =>
    cases b with
    | op2 o x y =>
      cases o with
      | lcmp =>
        show rz_o (k, .int z, .op2 .lcmp x y, v) (fun y9 => rz_if (Nat.beq y9 0) (rz_o (k, .int z, .op2 .lcmp x y, v) (fun a => rz_o (k, .int z, .op2 .lcmp x y, v) (fun b => (k, b, a, v)) (ry_i2 y)) (ry_i2 x)) (k, .int z, .op2 .lcmp x y, v)) (some z.toBitVec.toNat) = _
        rw [rz_o_some, ry_zb, ry_i2_eq, ry_i2_eq]
        unfold ri_norm
        dsimp only
        by_cases hz : z = 0
        · rw [if_pos hz, decide_eq_true hz]
          cases ri_i2 x <;> cases ri_i2 y <;> rfl
        · rw [if_neg hz, decide_eq_false hz]
          rfl
      | _ => rfl
    | _ => rfl
  | _ =>
    cases b with
    | op2 o x y => cases o <;> rfl
    | _ => rfl
noncomputable def ry_norm2 (q : ri_Cd) : ri_Cd := rz_o q (fun x => match q.1 with
    | 0 => (0, q.2.2.1, .int x, q.2.2.2)
    | _ => if x.toInt < 2147483647 then (1, q.2.2.1, ri_ci (x + 1), !q.2.2.2) else q) (rz_int q.2.1)
theorem ry_norm2_eq (q : ri_Cd) : ry_norm2 q = ri_norm2 q := by
  obtain ⟨k, a, b, v⟩ := q
  cases a <;> rfl
noncomputable def ry_br (cs : List ri_Cd) (q : ri_Cd) (T F : List ri_Cd → Option ri_Rs) : Option ri_Rs := rz_if (rz_if (Nat.beq (ry_tag q.2.1) 1) (Nat.beq (ry_tag q.2.2.1) 1) false) (ri_br cs q T F) (ry_br0 cs (ry_norm2 (ry_norm q)) T F)
theorem ry_br_eq (cs : List ri_Cd) (q : ri_Cd) (T F : List ri_Cd → Option ri_Rs) : ry_br cs q T F = ri_br cs q T F := by
  unfold ry_br
  cases h : rz_if (Nat.beq (ry_tag q.2.1) 1) (Nat.beq (ry_tag q.2.2.1) 1) false with
  | true => rfl
  | false =>
    show ry_br0 cs (ry_norm2 (ry_norm q)) T F = _
    rw [ry_br0_eq, ry_norm2_eq, ry_norm_eq]
    unfold ri_br
    split
    · next x y h1 h2 =>
      rw [h1, h2] at h
      cases h
    · rfl
noncomputable def ry_vals (x : Jvm.Term) (K : Jvm.Term → List ri_Cd → Option ri_Rs) (n : Nat) : Int → List ri_Cd → Option ri_Rs := Nat.rec (motive := fun _ => Int → List ri_Cd → Option ri_Rs) (fun _ _ => some ([], 0, 0, [])) (fun _ ih lo cs => ry_br cs (0, x, ri_ci (Int32.ofInt lo), true) (fun cs' => K (ri_ci (Int32.ofInt lo)) cs') (fun cs' => ih (lo + 1) cs')) n
theorem ry_vals_eq (x : Jvm.Term) (K : Jvm.Term → List ri_Cd → Option ri_Rs) (n : Nat) : ∀ (lo : Int) (cs : List ri_Cd), ry_vals x K n lo cs = ri_vals x K n lo cs := by
  induction n with
  | zero => intro lo cs; rfl
  | succ n ih =>
    intro lo cs
    show ry_br cs (0, x, ri_ci (Int32.ofInt lo), true) (fun cs' => K (ri_ci (Int32.ofInt lo)) cs') (fun cs' => ry_vals x K n (lo + 1) cs') = _
    rw [ry_br_eq]
    simp only [ih]
    rfl
section RY1
variable {G : ri_Tb} {call : ri_Call} {M : ri_Mt} {K : ri_K} {pc len : Nat} {i : Instr} {lv lv' : List (Nat × Jvm.Term)} {st st' : List Jvm.Term} {cs : List ri_Cd} {mem mem' : ri_Me}
noncomputable def ry_ic (S : rq_S) (c : ClassFile.Cond) (t nx : Nat) : rq_S := fun call K lv st cs mem => rz_l (S call K lv st cs mem) (fun b r => rz_l (S call K lv st cs mem) (fun a r => rz_if (rz_if (Nat.beq (ry_tag a) 1) (Nat.beq (ry_tag b) 1) false) (S call K lv st cs mem) (rz_if (Nat.beq (rz_k a) 0) (rz_if (Nat.beq (rz_k b) 0) (ry_br cs (ri_cnd c a b) (fun cs' => K t lv r cs' mem) (fun cs' => K nx lv r cs' mem)) (S call K lv st cs mem)) (S call K lv st cs mem))) r) st
theorem ry_ic_s {S : rq_S} {c : ClassFile.Cond} {off : Int} {t : Nat} (hS : rz_S G M pc S) (h : (ri_co M)[pc]? = some (some (.if_icmp c off, 3))) (ht : ri_tg pc off = some t) : rz_S G M pc (ry_ic S c t (pc + 3)) := by
  intro call K lv st cs mem
  unfold ry_ic
  cases st with
  | nil => exact hS _ _ _ _ _ _
  | cons b r => cases r with
    | nil => exact hS _ _ _ _ _ _
    | cons a r =>
      show rz_if (rz_if (Nat.beq (ry_tag a) 1) (Nat.beq (ry_tag b) 1) false) _ _ = _
      cases h0 : rz_if (Nat.beq (ry_tag a) 1) (Nat.beq (ry_tag b) 1) false with
      | true => exact hS _ _ _ _ _ _
      | false =>
        show rz_if (Nat.beq (rz_k a) 0) _ _ = _
        cases h1 : Nat.beq (rz_k a) 0 with
        | false => exact hS _ _ _ _ _ _
        | true =>
          show rz_if (Nat.beq (rz_k b) 0) _ _ = _
          cases h2 : Nat.beq (rz_k b) 0 with
          | false => exact hS _ _ _ _ _ _
          | true =>
            have k1 := rz_beq h1
            have k2 := rz_beq h2
            rw [rz_k_eq] at k1 k2
            rw [rz_C h rfl rfl rfl]
            show ry_br cs (ri_cnd c a b) _ _ = _
            simp only [ri_ctl]
            rw [ht]
            dsimp only
            rw [if_pos (by refine ⟨k1, k2, ?_⟩ <;> trivial), ry_br_eq]
noncomputable def ry_if0 (S : rq_S) (c : ClassFile.Cond) (t nx : Nat) : rq_S := fun call K lv st cs mem => rz_l (S call K lv st cs mem) (fun a r => rz_if (Nat.beq (ry_tag a) 1) (S call K lv st cs mem) (rz_if (Nat.beq (rz_k a) 0) (ry_br cs (ri_cnd c a (.int 0)) (fun cs' => K t lv r cs' mem) (fun cs' => K nx lv r cs' mem)) (S call K lv st cs mem))) st
theorem ry_if0_s {S : rq_S} {c : ClassFile.Cond} {off : Int} {t : Nat} (hS : rz_S G M pc S) (h : (ri_co M)[pc]? = some (some (.ifCond c off, 3))) (ht : ri_tg pc off = some t) : rz_S G M pc (ry_if0 S c t (pc + 3)) := by
  intro call K lv st cs mem
  unfold ry_if0
  cases st with
  | nil => exact hS _ _ _ _ _ _
  | cons a r =>
    show rz_if (Nat.beq (ry_tag a) 1) _ _ = _
    cases h0 : Nat.beq (ry_tag a) 1 with
    | true => exact hS _ _ _ _ _ _
    | false =>
      show rz_if (Nat.beq (rz_k a) 0) _ _ = _
      cases h1 : Nat.beq (rz_k a) 0 with
      | false => exact hS _ _ _ _ _ _
      | true =>
        have k1 := rz_beq h1
        rw [rz_k_eq] at k1
        rw [rz_C h rfl rfl rfl]
        show ry_br cs (ri_cnd c a (.int 0)) _ _ = _
        simp only [ri_ctl]
        rw [ht]
        dsimp only
        rw [if_pos (by refine ⟨k1, ?_⟩ <;> trivial), ry_br_eq]
/-- a store at a place that isn't plain yet -/
noncomputable def ry_iast (S : rq_S) (pc : Nat) : rq_S := fun call K lv st cs mem => rz_l (S call K lv st cs mem) (fun t r => rz_l (S call K lv st cs mem) (fun i r => rz_if (Nat.beq (ry_tag i) 1) (S call K lv st cs mem) (rz_if (Nat.beq (rz_k i) 0) (if (ry_bd cs i).2 < (ry_bd cs i).1 + 700 then ry_vals i (fun y cs' => K pc lv (t :: y :: r) cs' mem) ((ry_bd cs i).2 - (ry_bd cs i).1 + 1).toNat (ry_bd cs i).1 cs else S call K lv st cs mem) (S call K lv st cs mem))) r) st
theorem ry_iast_s {S : rq_S} (hS : rz_S G M pc S) (h : (ri_co M)[pc]? = some (some (.iastore, len))) : rz_S G M pc (ry_iast S pc) := by
  intro call K lv st cs mem
  unfold ry_iast
  cases st with
  | nil => exact hS _ _ _ _ _ _
  | cons t r => cases r with
    | nil => exact hS _ _ _ _ _ _
    | cons i r =>
      show rz_if (Nat.beq (ry_tag i) 1) _ _ = _
      cases h0 : Nat.beq (ry_tag i) 1 with
      | true => exact hS _ _ _ _ _ _
      | false =>
        have hn : ∀ x, i ≠ .int x := fun x e => rz_bne h0 (by rw [e]; rfl)
        show rz_if (Nat.beq (rz_k i) 0) _ _ = _
        cases h1 : Nat.beq (rz_k i) 0 with
        | false => exact hS _ _ _ _ _ _
        | true =>
          have k1 := rz_beq h1
          rw [rz_k_eq] at k1
          show (if (ry_bd cs i).2 < (ry_bd cs i).1 + 700 then _ else _) = _
          split
          · next hb =>
            rw [ry_bd_eq] at hb ⊢
            rw [ry_vals_eq]
            have hix : ∀ n, ri_ix i n = none := by
              intro n
              unfold ri_ix
              split
              · next v => exact absurd rfl (hn v)
              · rfl
            have hheap : ri_heap G M cs .iastore (t :: i :: r) mem = none := by
              show ri_iast G (t :: i :: r) mem = none
              unfold ri_iast
              split
              · next t9 i9 k9 r9 e9 =>
                cases e9
                split
                · rw [hix]
                · rfl
              · rfl
            have hcst : ri_cst i = false := by
              unfold ri_cst
              split
              · next v => exact absurd rfl (hn v)
              · rfl
            unfold ri_one
            rw [h]
            dsimp only
            rw [show ri_pure (ri_mx M) .iastore lv (t :: i :: r) = none from rfl]
            dsimp only
            rw [hheap]
            dsimp only
            rw [show ri_foc .iastore (t :: i :: r) = some ([t], i, r) from rfl]
            dsimp only
            rw [if_pos ⟨k1, hcst, hb⟩]
            rfl
          · exact hS _ _ _ _ _ _
noncomputable def ry_in (G : ri_Tb) (M : ri_Mt) (pc : Nat) (i : Instr) (len : Nat) : Option rq_S := match rq_pure (ri_mx M) i with
    | some f => some (fun call K lv st cs mem => match f lv st with
      | some (len', lv', st') => if len' = len then K (pc + len) lv' st' cs mem else none
      | none => match ri_heap G M cs i st mem with
        | some x => if x.1 = len then rq_more x.2.2.2.1 x.2.2.2.2.1 x.2.2.2.2.2 (K (pc + len) lv x.2.1 cs x.2.2.1) else none
        | none => match ri_foc i st with
          | some (a, t, r) => if ri_k t = 0 ∧ ri_cst t = false ∧ (ri_bd cs t).2 < (ri_bd cs t).1 + 700 then ri_vals t (fun y cs' => K pc lv (a ++ y :: r) cs' mem) ((ri_bd cs t).2 - (ri_bd cs t).1 + 1).toNat (ri_bd cs t).1 cs else none
          | none => ri_ctl G call M K pc i len lv st cs mem)
    | none => match rq_heap G M i with
      | some g => some (fun call K lv st cs mem => match g cs st mem with
        | some x => if x.1 = len then rq_more x.2.2.2.1 x.2.2.2.2.1 x.2.2.2.2.2 (K (pc + len) lv x.2.1 cs x.2.2.1) else none
        | none => match rq_o1 (rq_foc i) st with
          | some (a, t, r) => if ri_k t = 0 ∧ ri_cst t = false ∧ (ri_bd cs t).2 < (ri_bd cs t).1 + 700 then ri_vals t (fun y cs' => K pc lv (a ++ y :: r) cs' mem) ((ri_bd cs t).2 - (ri_bd cs t).1 + 1).toNat (ri_bd cs t).1 cs else none
          | none => rq_o6 (rq_ctl G M pc i len) call K lv st cs mem)
      | none => match rq_foc i with
        | some _ => none
        | none => rq_ctl G M pc i len
theorem ry_in_eq {G : ri_Tb} {M : ri_Mt} {pc len : Nat} {i : Instr} (h : (ri_co M)[pc]? = some (some (i, len))) : ry_in G M pc i len = rq_at G M pc := by
  unfold rq_at ry_in
  rw [h]
  (try rfl)
noncomputable def ry_zd (G : ri_Tb) (M : ri_Mt) (pc : Nat) (i : Instr) (len : Nat) : Option rq_S := match i with
  | .iload k => rz_if (Nat.beq len 2) (some (rz_load (rq_o6 (ry_in G M pc i len)) 0 k (pc + 2))) (ry_in G M pc i len)
  | .iload_n k => rz_if (Nat.beq len 1) (some (rz_load (rq_o6 (ry_in G M pc i len)) 0 k.val (pc + 1))) (ry_in G M pc i len)
  | .lload k => rz_if (Nat.beq len 2) (some (rz_load (rq_o6 (ry_in G M pc i len)) 1 k (pc + 2))) (ry_in G M pc i len)
  | .lload_n k => rz_if (Nat.beq len 1) (some (rz_load (rq_o6 (ry_in G M pc i len)) 1 k.val (pc + 1))) (ry_in G M pc i len)
  | .aload k => rz_if (Nat.beq len 2) (some (rz_loada (rq_o6 (ry_in G M pc i len)) k (pc + 2))) (ry_in G M pc i len)
  | .aload_n k => rz_if (Nat.beq len 1) (some (rz_loada (rq_o6 (ry_in G M pc i len)) k.val (pc + 1))) (ry_in G M pc i len)
  | .iconst n => rz_if (Nat.beq len 1) (some (rz_const (ri_ci (Int32.ofInt n)) (pc + 1))) (ry_in G M pc i len)
  | .bipush n => rz_if (Nat.beq len 2) (some (rz_const (ri_ci (Int8.ofInt n).toInt32) (pc + 2))) (ry_in G M pc i len)
  | .sipush n => rz_if (Nat.beq len 3) (some (rz_const (ri_ci (Int16.ofInt n).toInt32) (pc + 3))) (ry_in G M pc i len)
  | .lconst n => rz_if (Nat.beq len 1) (some (rz_const (ri_cl (Int64.ofNat n.val)) (pc + 1))) (ry_in G M pc i len)
  | .aconst_null => rz_if (Nat.beq len 1) (some (rz_const .null (pc + 1))) (ry_in G M pc i len)
  | .istore k => rz_if (Nat.beq len 2) (rz_if (Nat.ble (Nat.succ k) (ri_mx M)) (some (rz_store (rq_o6 (ry_in G M pc i len)) 0 k (pc + 2))) (ry_in G M pc i len)) (ry_in G M pc i len)
  | .istore_n k => rz_if (Nat.beq len 1) (rz_if (Nat.ble (Nat.succ k.val) (ri_mx M)) (some (rz_store (rq_o6 (ry_in G M pc i len)) 0 k.val (pc + 1))) (ry_in G M pc i len)) (ry_in G M pc i len)
  | .iadd => rz_if (Nat.beq len 1) (some (rz_s2 (rq_o6 (ry_in G M pc i len)) (fun x y => Nat.mod (Nat.add x y) 4294967296) (pc + 1))) (ry_in G M pc i len)
  | .isub => rz_if (Nat.beq len 1) (some (rz_s2 (rq_o6 (ry_in G M pc i len)) (fun x y => Nat.mod (Nat.add x (Nat.sub 4294967296 y)) 4294967296) (pc + 1))) (ry_in G M pc i len)
  | .imul => rz_if (Nat.beq len 1) (some (rz_s2 (rq_o6 (ry_in G M pc i len)) (fun x y => Nat.mod (Nat.mul x y) 4294967296) (pc + 1))) (ry_in G M pc i len)
  | .iinc k n => rz_if (Nat.beq len 3) (rz_if (Nat.ble (Nat.succ k) (ri_mx M)) (some (rz_inc (rq_o6 (ry_in G M pc i len)) k (Int32.ofInt n).toBitVec.toNat (pc + 3))) (ry_in G M pc i len)) (ry_in G M pc i len)
  | .iaload => rz_if (Nat.beq len 1) (some (rz_iald G (rq_o6 (ry_in G M pc i len)) (pc + 1))) (ry_in G M pc i len)
  | .iastore => rz_if (Nat.beq len 1) (some (rz_iast G (rq_o6 (ry_in G M pc i len)) (pc + 1))) (ry_in G M pc i len)
  | .aaload => rz_if (Nat.beq len 1) (some (rz_aald G (rq_o6 (ry_in G M pc i len)) (pc + 1))) (ry_in G M pc i len)
  | .i2l => rz_if (Nat.beq len 1) (some (rz_i2l (rq_o6 (ry_in G M pc i len)) (pc + 1))) (ry_in G M pc i len)
  | .ladd => rz_if (Nat.beq len 1) (some (rz_ll (rq_o6 (ry_in G M pc i len)) (fun x y => ri_cl (x + y)) (pc + 1))) (ry_in G M pc i len)
  | .lsub => rz_if (Nat.beq len 1) (some (rz_ll (rq_o6 (ry_in G M pc i len)) (fun x y => ri_cl (x - y)) (pc + 1))) (ry_in G M pc i len)
  | .lcmp => rz_if (Nat.beq len 1) (some (rz_ll (rq_o6 (ry_in G M pc i len)) (fun x y => ri_ci (lg_cmp x y)) (pc + 1))) (ry_in G M pc i len)
  | .dup => rz_if (Nat.beq len 1) (some (rz_dup (rq_o6 (ry_in G M pc i len)) (pc + 1))) (ry_in G M pc i len)
  | .if_icmp c off => rz_if (Nat.beq len 3) (rz_o (ry_in G M pc i len) (fun t => some (rz_ic (rq_o6 (ry_in G M pc i len)) c t (pc + 3))) (ri_tg pc off)) (ry_in G M pc i len)
  | .ifCond c off => rz_if (Nat.beq len 3) (rz_o (ry_in G M pc i len) (fun t => some (rz_if0 (rq_o6 (ry_in G M pc i len)) c t (pc + 3))) (ri_tg pc off)) (ry_in G M pc i len)
  | .goto off => rz_if (Nat.beq len 3) (rz_o (ry_in G M pc i len) (fun t => some (rz_go t)) (ri_tg pc off)) (ry_in G M pc i len)
  | .getfield idx => rz_if (Nat.beq len 3) (match ri_cp G M idx with
    | some (kd, ci, j, _) => rz_if (Nat.ble kd 1) (some (rz_getf (rq_o6 (ry_in G M pc i len)) ci j (pc + 3))) (ry_in G M pc i len)
    | none => ry_in G M pc i len) (ry_in G M pc i len)
  | .putfield idx => rz_if (Nat.beq len 3) (match ri_cp G M idx with
    | some (kd, ci, j, _) => match (ri_cls G)[ci]?, ((ri_fts G).getD ci [])[j]? with
      | some (_, T, _), some ty => rz_if (Nat.ble kd 1) (if (T j).2.2.2 = false ∨ (kd = 0 ∧ (ri_nm M).name = "<init>" ∧ (T j).1 = ri_own M) then some (rz_putf (rq_o6 (ry_in G M pc i len)) ci j ty (pc + 3)) else ry_in G M pc i len) (ry_in G M pc i len)
      | _, _ => ry_in G M pc i len
    | none => ry_in G M pc i len) (ry_in G M pc i len)
  | _ => ry_in G M pc i len
theorem ry_zd_eq {G : ri_Tb} {M : ri_Mt} {pc len : Nat} {i : Instr} (h : (ri_co M)[pc]? = some (some (i, len))) : ry_zd G M pc i len = rz_dis G M pc i len := by
  have e := ry_in_eq (G := G) h
  cases i <;> (unfold ry_zd rz_dis; first | rw [e] | (dsimp only; rw [e]) | skip) <;> first | rfl | skip
noncomputable def ry_dis (G : ri_Tb) (M : ri_Mt) (pc : Nat) (i : Instr) (len : Nat) : Option rq_S := match i with
  | .if_icmp c off => rz_if (Nat.beq len 3) (rz_o (ry_zd G M pc i len) (fun t => some (ry_ic (rq_o6 (ry_zd G M pc i len)) c t (pc + 3))) (ri_tg pc off)) (ry_zd G M pc i len)
  | .ifCond c off => rz_if (Nat.beq len 3) (rz_o (ry_zd G M pc i len) (fun t => some (ry_if0 (rq_o6 (ry_zd G M pc i len)) c t (pc + 3))) (ri_tg pc off)) (ry_zd G M pc i len)
  | .iastore => some (ry_iast (rq_o6 (ry_zd G M pc i len)) pc)
  | _ => ry_zd G M pc i len
theorem rz_at_s : rz_Z G M pc (rz_at G M pc) := fun call K lv st cs mem => by
  have e := rz_step_eq (G := G) (call := call) (M := M) (K := K) (pc := pc) (lv := lv) (st := st) (cs := cs) (mem := mem)
  unfold rz_step at e
  rw [rq_F_eq] at e
  exact e
theorem ry_dis_s (h : (ri_co M)[pc]? = some (some (i, len))) : rz_Z G M pc (ry_dis G M pc i len) := by
  have h0 : rz_Z G M pc (ry_zd G M pc i len) := by
    have e : rz_at G M pc = rz_dis G M pc i len := by
      unfold rz_at
      rw [h]
    rw [ry_zd_eq h, ← e]
    exact rz_at_s
  have hS : rz_S G M pc (rq_o6 (ry_zd G M pc i len)) := h0
  cases i with
  | if_icmp c off =>
    refine rz_two (fun hb => ?_) h0
    have e := rz_beq hb
    subst e
    cases ht : ri_tg pc off with
    | none => exact h0
    | some t => exact rz_one (ry_ic_s hS h ht)
  | ifCond c off =>
    refine rz_two (fun hb => ?_) h0
    have e := rz_beq hb
    subst e
    cases ht : ri_tg pc off with
    | none => exact h0
    | some t => exact rz_one (ry_if0_s hS h ht)
  | iastore => exact rz_one (ry_iast_s hS h)
  | _ => exact h0
/-- a step that the kernel takes by a name, so that its stack stays flat -/
noncomputable def ry_nx {α : Type} (ih : Nat → Option α) (k : Nat) : Option α := ih k
noncomputable def ry_get {α : Type} (l : List α) : Nat → Option α := List.rec (motive := fun _ => Nat → Option α) (fun _ => none) (fun a _ ih k => Nat.rec (motive := fun _ => Option α) (some a) (fun k' _ => ry_nx ih k') k) l
theorem ry_get_eq {α : Type} (l : List α) : ∀ k, ry_get l k = l[k]? := by
  induction l with
  | nil => intro k; rfl
  | cons a l ih => intro k; cases k with
    | zero => rfl
    | succ k => exact ih k
noncomputable def ry_at (G : ri_Tb) (M : ri_Mt) (pc : Nat) : Option rq_S := match ry_get (ri_co M) pc with
  | some (some (i, len)) => ry_dis G M pc i len
  | _ => none
noncomputable def ry_step (G : ri_Tb) (call : ri_Call) (M : ri_Mt) (K : ri_K) (pc : Nat) (lv : List (Nat × Jvm.Term)) (st : List Jvm.Term) (cs : List ri_Cd) (mem : ri_Me) : Option ri_Rs := rq_F pc (fun pc => rq_o6 (ry_at G M pc) call K lv st cs mem)
theorem ry_step_eq : ry_step G call M K pc lv st cs mem = ri_one G call M K pc lv st cs mem := by
  unfold ry_step
  rw [rq_F_eq]
  unfold ry_at
  rw [ry_get_eq]
  split
  · next i len h => exact ry_dis_s h call K lv st cs mem
  · next hn =>
    unfold ri_one
    split
    · next i len h => exact absurd h (hn i len)
    · rfl
noncomputable def ry_runB (G : ri_Tb) (call : ri_Call) (M : ri_Mt) (B : ri_K) (f : Nat) : ri_K := Nat.rec (motive := fun _ => ri_K) B (fun _ K pc lv st cs mem => ry_step G call M K pc lv st cs mem) f
theorem ry_runB_eq {B : ri_K} {f : Nat} : ry_runB G call M B f = ri_runB G call M B f := by
  induction f with
  | zero => rfl
  | succ f ih =>
    funext pc lv st cs mem
    show ry_step G call M (ry_runB G call M B f) pc lv st cs mem = ri_one G call M (ri_runB G call M B f) pc lv st cs mem
    rw [ry_step_eq, ih]
noncomputable def ry_call (G : ri_Tb) (fuel d : Nat) : ri_Call := Nat.rec (motive := fun _ => ri_Call) (fun _ _ _ _ => none) (fun k C mi args cs mem => match (ri_mts G)[mi]? with
    | some M => if ri_lw M = false ∧ (args.map (fun t => if ri_wide t = true then 2 else 1)).sum ≤ ri_mx M ∧ (ri_hi M = true → 5 ≤ k) then ry_runB G C M ri_B0 fuel 0 (ri_args 0 args) [] cs mem else none
    | none => none) d
theorem ry_call_eq {fuel d : Nat} : ry_call G fuel d = ri_call G fuel d := by
  induction d with
  | zero => rfl
  | succ d ih =>
    funext mi args cs mem
    show (match (ri_mts G)[mi]? with
      | some M => if ri_lw M = false ∧ (args.map (fun t => if ri_wide t = true then 2 else 1)).sum ≤ ri_mx M ∧ (ri_hi M = true → 5 ≤ d) then ry_runB G (ry_call G fuel d) M ri_B0 fuel 0 (ri_args 0 args) [] cs mem else none
      | none => none) = _
    rw [ri_call_S, ih]
    simp only [ry_runB_eq]
    rfl
theorem ry_eq {B : ri_K} {f fuel d : Nat} : ry_runB G (ry_call G fuel d) M B f = ri_runB G (ri_call G fuel d) M B f := by rw [ry_call_eq, ry_runB_eq]
end RY1
end RY
end
section
/-! the state of the law behind its constructors: at 23, after 0 steps of its own -/
def g_lv0 : List (Nat × Jvm.Term) := [(4, .int 0), (3, .index 191), (2, .index 179), (1, .index 0), (0, .string "" 0)]
def g_mem0 : ri_Me := [.inl (7, [.index 1, .index 14, .index 27, .int 0, .index 40, .index 172, .index 175, .index 177]),
 .inl (0, [.index 2, .index 3, .index 4, .index 5, .int 64, .int 0, .int 0, .int 1, .int 4, .int 0, .int 0, .int 0, .int 0]),
 .inr (0, 600, .int 0, []),
 .inr (2, 8, .null, [(7, .index 13), (6, .index 12), (5, .index 11), (4, .index 10), (3, .index 9), (2, .index 8), (1, .index 7), (0, .index 6)]),
 .inl (3, [.int (-1), .int 0, .int 0, .int 0, .int 0, .int 0, .int (-1), .int 0, .int 0]),
 .inr (0, 8, .int 0, []),
 .inl (5, [.int 0, .int 0, .int 0, .int 0, .int 0, .int 0, .int 0, .int 0]),
 .inl (5, [.int 1, .int 0, .int 0, .int 0, .int 0, .int 0, .int 0, .int 0]),
 .inl (5, [.int 2, .int 0, .int 0, .int 0, .int 0, .int 0, .int 0, .int 0]),
 .inl (5, [.int 3, .int 0, .int 0, .int 0, .int 0, .int 0, .int 0, .int 0]),
 .inl (5, [.int 4, .int 0, .int 0, .int 0, .int 0, .int 0, .int 0, .int 0]),
 .inl (5, [.int 5, .int 0, .int 0, .int 0, .int 0, .int 0, .int 0, .int 0]),
 .inl (5, [.int 6, .int 0, .int 0, .int 0, .int 0, .int 0, .int 0, .int 0]),
 .inl (5, [.int 7, .int 0, .int 0, .int 0, .int 0, .int 0, .int 0, .int 0]),
 .inl (0, [.index 15, .index 16, .index 17, .index 18, .int 0, .int 0, .int 0, .int 0, .int 0, .int 0, .int 0, .int 0, .int 0]),
 .inr (0, 600, .int 0, []),
 .inr (2, 8, .null, [(7, .index 26), (6, .index 25), (5, .index 24), (4, .index 23), (3, .index 22), (2, .index 21), (1, .index 20), (0, .index 19)]),
 .inl (3, [.int (-1), .int 0, .int 0, .int 0, .int 0, .int 0, .int (-1), .int 0, .int 0]),
 .inr (0, 8, .int 0, []),
 .inl (5, [.int 0, .int 0, .int 0, .int 0, .int 0, .int 0, .int 0, .int 0]),
 .inl (5, [.int 1, .int 0, .int 0, .int 0, .int 0, .int 0, .int 0, .int 0]),
 .inl (5, [.int 2, .int 0, .int 0, .int 0, .int 0, .int 0, .int 0, .int 0]),
 .inl (5, [.int 3, .int 0, .int 0, .int 0, .int 0, .int 0, .int 0, .int 0]),
 .inl (5, [.int 4, .int 0, .int 0, .int 0, .int 0, .int 0, .int 0, .int 0]),
 .inl (5, [.int 5, .int 0, .int 0, .int 0, .int 0, .int 0, .int 0, .int 0]),
 .inl (5, [.int 6, .int 0, .int 0, .int 0, .int 0, .int 0, .int 0, .int 0]),
 .inl (5, [.int 7, .int 0, .int 0, .int 0, .int 0, .int 0, .int 0, .int 0]),
 .inl (0, [.index 28, .index 29, .index 30, .index 31, .int 0, .int 0, .int 0, .int 0, .int 0, .int 0, .int 0, .int 0, .int 0]),
 .inr (0, 600, .int 0, []),
 .inr (2, 8, .null, [(7, .index 39), (6, .index 38), (5, .index 37), (4, .index 36), (3, .index 35), (2, .index 34), (1, .index 33), (0, .index 32)]),
 .inl (3, [.int (-1), .int 0, .int 0, .int 0, .int 0, .int 0, .int (-1), .int 0, .int 0]),
 .inr (0, 8, .int 0, []),
 .inl (5, [.int 0, .int 0, .int 0, .int 0, .int 0, .int 0, .int 0, .int 0]),
 .inl (5, [.int 1, .int 0, .int 0, .int 0, .int 0, .int 0, .int 0, .int 0]),
 .inl (5, [.int 2, .int 0, .int 0, .int 0, .int 0, .int 0, .int 0, .int 0]),
 .inl (5, [.int 3, .int 0, .int 0, .int 0, .int 0, .int 0, .int 0, .int 0]),
 .inl (5, [.int 4, .int 0, .int 0, .int 0, .int 0, .int 0, .int 0, .int 0]),
 .inl (5, [.int 5, .int 0, .int 0, .int 0, .int 0, .int 0, .int 0, .int 0]),
 .inl (5, [.int 6, .int 0, .int 0, .int 0, .int 0, .int 0, .int 0, .int 0]),
 .inl (5, [.int 7, .int 0, .int 0, .int 0, .int 0, .int 0, .int 0, .int 0]),
 .inl (2, [.index 41, .int 0, .int 0]),
 .inr (1, 10, .null, [(9, .index 159), (8, .index 146), (7, .index 133), (6, .index 120), (5, .index 107), (4, .index 94), (3, .index 81), (2, .index 68), (1, .index 55), (0, .index 42)]),
 .inl (0, [.index 43, .index 44, .index 45, .index 46, .int 0, .int 0, .int 0, .int 0, .int 0, .int 0, .int 0, .int 0, .int 0]),
 .inr (0, 600, .int 0, []),
 .inr (2, 8, .null, [(7, .index 54), (6, .index 53), (5, .index 52), (4, .index 51), (3, .index 50), (2, .index 49), (1, .index 48), (0, .index 47)]),
 .inl (3, [.int (-1), .int 0, .int 0, .int 0, .int 0, .int 0, .int (-1), .int 0, .int 0]),
 .inr (0, 8, .int 0, []),
 .inl (5, [.int 0, .int 0, .int 0, .int 0, .int 0, .int 0, .int 0, .int 0]),
 .inl (5, [.int 1, .int 0, .int 0, .int 0, .int 0, .int 0, .int 0, .int 0]),
 .inl (5, [.int 2, .int 0, .int 0, .int 0, .int 0, .int 0, .int 0, .int 0]),
 .inl (5, [.int 3, .int 0, .int 0, .int 0, .int 0, .int 0, .int 0, .int 0]),
 .inl (5, [.int 4, .int 0, .int 0, .int 0, .int 0, .int 0, .int 0, .int 0]),
 .inl (5, [.int 5, .int 0, .int 0, .int 0, .int 0, .int 0, .int 0, .int 0]),
 .inl (5, [.int 6, .int 0, .int 0, .int 0, .int 0, .int 0, .int 0, .int 0]),
 .inl (5, [.int 7, .int 0, .int 0, .int 0, .int 0, .int 0, .int 0, .int 0]),
 .inl (0, [.index 56, .index 57, .index 58, .index 59, .int 0, .int 0, .int 0, .int 0, .int 0, .int 0, .int 0, .int 0, .int 0]),
 .inr (0, 600, .int 0, []),
 .inr (2, 8, .null, [(7, .index 67), (6, .index 66), (5, .index 65), (4, .index 64), (3, .index 63), (2, .index 62), (1, .index 61), (0, .index 60)]),
 .inl (3, [.int (-1), .int 0, .int 0, .int 0, .int 0, .int 0, .int (-1), .int 0, .int 0]),
 .inr (0, 8, .int 0, []),
 .inl (5, [.int 0, .int 0, .int 0, .int 0, .int 0, .int 0, .int 0, .int 0]),
 .inl (5, [.int 1, .int 0, .int 0, .int 0, .int 0, .int 0, .int 0, .int 0]),
 .inl (5, [.int 2, .int 0, .int 0, .int 0, .int 0, .int 0, .int 0, .int 0]),
 .inl (5, [.int 3, .int 0, .int 0, .int 0, .int 0, .int 0, .int 0, .int 0]),
 .inl (5, [.int 4, .int 0, .int 0, .int 0, .int 0, .int 0, .int 0, .int 0]),
 .inl (5, [.int 5, .int 0, .int 0, .int 0, .int 0, .int 0, .int 0, .int 0]),
 .inl (5, [.int 6, .int 0, .int 0, .int 0, .int 0, .int 0, .int 0, .int 0]),
 .inl (5, [.int 7, .int 0, .int 0, .int 0, .int 0, .int 0, .int 0, .int 0]),
 .inl (0, [.index 69, .index 70, .index 71, .index 72, .int 0, .int 0, .int 0, .int 0, .int 0, .int 0, .int 0, .int 0, .int 0]),
 .inr (0, 600, .int 0, []),
 .inr (2, 8, .null, [(7, .index 80), (6, .index 79), (5, .index 78), (4, .index 77), (3, .index 76), (2, .index 75), (1, .index 74), (0, .index 73)]),
 .inl (3, [.int (-1), .int 0, .int 0, .int 0, .int 0, .int 0, .int (-1), .int 0, .int 0]),
 .inr (0, 8, .int 0, []),
 .inl (5, [.int 0, .int 0, .int 0, .int 0, .int 0, .int 0, .int 0, .int 0]),
 .inl (5, [.int 1, .int 0, .int 0, .int 0, .int 0, .int 0, .int 0, .int 0]),
 .inl (5, [.int 2, .int 0, .int 0, .int 0, .int 0, .int 0, .int 0, .int 0]),
 .inl (5, [.int 3, .int 0, .int 0, .int 0, .int 0, .int 0, .int 0, .int 0]),
 .inl (5, [.int 4, .int 0, .int 0, .int 0, .int 0, .int 0, .int 0, .int 0]),
 .inl (5, [.int 5, .int 0, .int 0, .int 0, .int 0, .int 0, .int 0, .int 0]),
 .inl (5, [.int 6, .int 0, .int 0, .int 0, .int 0, .int 0, .int 0, .int 0]),
 .inl (5, [.int 7, .int 0, .int 0, .int 0, .int 0, .int 0, .int 0, .int 0]),
 .inl (0, [.index 82, .index 83, .index 84, .index 85, .int 0, .int 0, .int 0, .int 0, .int 0, .int 0, .int 0, .int 0, .int 0]),
 .inr (0, 600, .int 0, []),
 .inr (2, 8, .null, [(7, .index 93), (6, .index 92), (5, .index 91), (4, .index 90), (3, .index 89), (2, .index 88), (1, .index 87), (0, .index 86)]),
 .inl (3, [.int (-1), .int 0, .int 0, .int 0, .int 0, .int 0, .int (-1), .int 0, .int 0]),
 .inr (0, 8, .int 0, []),
 .inl (5, [.int 0, .int 0, .int 0, .int 0, .int 0, .int 0, .int 0, .int 0]),
 .inl (5, [.int 1, .int 0, .int 0, .int 0, .int 0, .int 0, .int 0, .int 0]),
 .inl (5, [.int 2, .int 0, .int 0, .int 0, .int 0, .int 0, .int 0, .int 0]),
 .inl (5, [.int 3, .int 0, .int 0, .int 0, .int 0, .int 0, .int 0, .int 0]),
 .inl (5, [.int 4, .int 0, .int 0, .int 0, .int 0, .int 0, .int 0, .int 0]),
 .inl (5, [.int 5, .int 0, .int 0, .int 0, .int 0, .int 0, .int 0, .int 0]),
 .inl (5, [.int 6, .int 0, .int 0, .int 0, .int 0, .int 0, .int 0, .int 0]),
 .inl (5, [.int 7, .int 0, .int 0, .int 0, .int 0, .int 0, .int 0, .int 0]),
 .inl (0, [.index 95, .index 96, .index 97, .index 98, .int 0, .int 0, .int 0, .int 0, .int 0, .int 0, .int 0, .int 0, .int 0]),
 .inr (0, 600, .int 0, []),
 .inr (2, 8, .null, [(7, .index 106), (6, .index 105), (5, .index 104), (4, .index 103), (3, .index 102), (2, .index 101), (1, .index 100), (0, .index 99)]),
 .inl (3, [.int (-1), .int 0, .int 0, .int 0, .int 0, .int 0, .int (-1), .int 0, .int 0]),
 .inr (0, 8, .int 0, []),
 .inl (5, [.int 0, .int 0, .int 0, .int 0, .int 0, .int 0, .int 0, .int 0]),
 .inl (5, [.int 1, .int 0, .int 0, .int 0, .int 0, .int 0, .int 0, .int 0]),
 .inl (5, [.int 2, .int 0, .int 0, .int 0, .int 0, .int 0, .int 0, .int 0]),
 .inl (5, [.int 3, .int 0, .int 0, .int 0, .int 0, .int 0, .int 0, .int 0]),
 .inl (5, [.int 4, .int 0, .int 0, .int 0, .int 0, .int 0, .int 0, .int 0]),
 .inl (5, [.int 5, .int 0, .int 0, .int 0, .int 0, .int 0, .int 0, .int 0]),
 .inl (5, [.int 6, .int 0, .int 0, .int 0, .int 0, .int 0, .int 0, .int 0]),
 .inl (5, [.int 7, .int 0, .int 0, .int 0, .int 0, .int 0, .int 0, .int 0]),
 .inl (0, [.index 108, .index 109, .index 110, .index 111, .int 0, .int 0, .int 0, .int 0, .int 0, .int 0, .int 0, .int 0, .int 0]),
 .inr (0, 600, .int 0, []),
 .inr (2, 8, .null, [(7, .index 119), (6, .index 118), (5, .index 117), (4, .index 116), (3, .index 115), (2, .index 114), (1, .index 113), (0, .index 112)]),
 .inl (3, [.int (-1), .int 0, .int 0, .int 0, .int 0, .int 0, .int (-1), .int 0, .int 0]),
 .inr (0, 8, .int 0, []),
 .inl (5, [.int 0, .int 0, .int 0, .int 0, .int 0, .int 0, .int 0, .int 0]),
 .inl (5, [.int 1, .int 0, .int 0, .int 0, .int 0, .int 0, .int 0, .int 0]),
 .inl (5, [.int 2, .int 0, .int 0, .int 0, .int 0, .int 0, .int 0, .int 0]),
 .inl (5, [.int 3, .int 0, .int 0, .int 0, .int 0, .int 0, .int 0, .int 0]),
 .inl (5, [.int 4, .int 0, .int 0, .int 0, .int 0, .int 0, .int 0, .int 0]),
 .inl (5, [.int 5, .int 0, .int 0, .int 0, .int 0, .int 0, .int 0, .int 0]),
 .inl (5, [.int 6, .int 0, .int 0, .int 0, .int 0, .int 0, .int 0, .int 0]),
 .inl (5, [.int 7, .int 0, .int 0, .int 0, .int 0, .int 0, .int 0, .int 0]),
 .inl (0, [.index 121, .index 122, .index 123, .index 124, .int 0, .int 0, .int 0, .int 0, .int 0, .int 0, .int 0, .int 0, .int 0]),
 .inr (0, 600, .int 0, []),
 .inr (2, 8, .null, [(7, .index 132), (6, .index 131), (5, .index 130), (4, .index 129), (3, .index 128), (2, .index 127), (1, .index 126), (0, .index 125)]),
 .inl (3, [.int (-1), .int 0, .int 0, .int 0, .int 0, .int 0, .int (-1), .int 0, .int 0]),
 .inr (0, 8, .int 0, []),
 .inl (5, [.int 0, .int 0, .int 0, .int 0, .int 0, .int 0, .int 0, .int 0]),
 .inl (5, [.int 1, .int 0, .int 0, .int 0, .int 0, .int 0, .int 0, .int 0]),
 .inl (5, [.int 2, .int 0, .int 0, .int 0, .int 0, .int 0, .int 0, .int 0]),
 .inl (5, [.int 3, .int 0, .int 0, .int 0, .int 0, .int 0, .int 0, .int 0]),
 .inl (5, [.int 4, .int 0, .int 0, .int 0, .int 0, .int 0, .int 0, .int 0]),
 .inl (5, [.int 5, .int 0, .int 0, .int 0, .int 0, .int 0, .int 0, .int 0]),
 .inl (5, [.int 6, .int 0, .int 0, .int 0, .int 0, .int 0, .int 0, .int 0]),
 .inl (5, [.int 7, .int 0, .int 0, .int 0, .int 0, .int 0, .int 0, .int 0]),
 .inl (0, [.index 134, .index 135, .index 136, .index 137, .int 0, .int 0, .int 0, .int 0, .int 0, .int 0, .int 0, .int 0, .int 0]),
 .inr (0, 600, .int 0, []),
 .inr (2, 8, .null, [(7, .index 145), (6, .index 144), (5, .index 143), (4, .index 142), (3, .index 141), (2, .index 140), (1, .index 139), (0, .index 138)]),
 .inl (3, [.int (-1), .int 0, .int 0, .int 0, .int 0, .int 0, .int (-1), .int 0, .int 0]),
 .inr (0, 8, .int 0, []),
 .inl (5, [.int 0, .int 0, .int 0, .int 0, .int 0, .int 0, .int 0, .int 0]),
 .inl (5, [.int 1, .int 0, .int 0, .int 0, .int 0, .int 0, .int 0, .int 0]),
 .inl (5, [.int 2, .int 0, .int 0, .int 0, .int 0, .int 0, .int 0, .int 0]),
 .inl (5, [.int 3, .int 0, .int 0, .int 0, .int 0, .int 0, .int 0, .int 0]),
 .inl (5, [.int 4, .int 0, .int 0, .int 0, .int 0, .int 0, .int 0, .int 0]),
 .inl (5, [.int 5, .int 0, .int 0, .int 0, .int 0, .int 0, .int 0, .int 0]),
 .inl (5, [.int 6, .int 0, .int 0, .int 0, .int 0, .int 0, .int 0, .int 0]),
 .inl (5, [.int 7, .int 0, .int 0, .int 0, .int 0, .int 0, .int 0, .int 0]),
 .inl (0, [.index 147, .index 148, .index 149, .index 150, .int 0, .int 0, .int 0, .int 0, .int 0, .int 0, .int 0, .int 0, .int 0]),
 .inr (0, 600, .int 0, []),
 .inr (2, 8, .null, [(7, .index 158), (6, .index 157), (5, .index 156), (4, .index 155), (3, .index 154), (2, .index 153), (1, .index 152), (0, .index 151)]),
 .inl (3, [.int (-1), .int 0, .int 0, .int 0, .int 0, .int 0, .int (-1), .int 0, .int 0]),
 .inr (0, 8, .int 0, []),
 .inl (5, [.int 0, .int 0, .int 0, .int 0, .int 0, .int 0, .int 0, .int 0]),
 .inl (5, [.int 1, .int 0, .int 0, .int 0, .int 0, .int 0, .int 0, .int 0]),
 .inl (5, [.int 2, .int 0, .int 0, .int 0, .int 0, .int 0, .int 0, .int 0]),
 .inl (5, [.int 3, .int 0, .int 0, .int 0, .int 0, .int 0, .int 0, .int 0]),
 .inl (5, [.int 4, .int 0, .int 0, .int 0, .int 0, .int 0, .int 0, .int 0]),
 .inl (5, [.int 5, .int 0, .int 0, .int 0, .int 0, .int 0, .int 0, .int 0]),
 .inl (5, [.int 6, .int 0, .int 0, .int 0, .int 0, .int 0, .int 0, .int 0]),
 .inl (5, [.int 7, .int 0, .int 0, .int 0, .int 0, .int 0, .int 0, .int 0]),
 .inl (0, [.index 160, .index 161, .index 162, .index 163, .int 0, .int 0, .int 0, .int 0, .int 0, .int 0, .int 0, .int 0, .int 0]),
 .inr (0, 600, .int 0, []),
 .inr (2, 8, .null, [(7, .index 171), (6, .index 170), (5, .index 169), (4, .index 168), (3, .index 167), (2, .index 166), (1, .index 165), (0, .index 164)]),
 .inl (3, [.int (-1), .int 0, .int 0, .int 0, .int 0, .int 0, .int (-1), .int 0, .int 0]),
 .inr (0, 8, .int 0, []),
 .inl (5, [.int 0, .int 0, .int 0, .int 0, .int 0, .int 0, .int 0, .int 0]),
 .inl (5, [.int 1, .int 0, .int 0, .int 0, .int 0, .int 0, .int 0, .int 0]),
 .inl (5, [.int 2, .int 0, .int 0, .int 0, .int 0, .int 0, .int 0, .int 0]),
 .inl (5, [.int 3, .int 0, .int 0, .int 0, .int 0, .int 0, .int 0, .int 0]),
 .inl (5, [.int 4, .int 0, .int 0, .int 0, .int 0, .int 0, .int 0, .int 0]),
 .inl (5, [.int 5, .int 0, .int 0, .int 0, .int 0, .int 0, .int 0, .int 0]),
 .inl (5, [.int 6, .int 0, .int 0, .int 0, .int 0, .int 0, .int 0, .int 0]),
 .inl (5, [.int 7, .int 0, .int 0, .int 0, .int 0, .int 0, .int 0, .int 0]),
 .inl (1, [.index 173, .index 174, .int 0, .int 0]),
 .inr (0, 11, .int 0, []),
 .inr (0, 11, .int 0, []),
 .inl (6, [.index 176, .int 0, .int 0, .int (-1), .int 0, .int 0, .int 0, .int 0, .int 0, .int 0, .int 0, .int 0]),
 .inr (0, 500, .int 0, []),
 .inl (4, [.index 178, .int 0]),
 .inr (0, 128, .int 0, []),
 .inl (8, [.index 180, .index 181, .index 182, .index 183, .index 184, .int 0, .int 0, .int 0, .index 185, .index 186, .int 0, .index 187, .int 0, .int 0, .int (-1), .int 0, .int 0, .int 0, .int 0, .int 0, .int 0, .int 0, .index 188, .index 189, .index 190, .int 0]),
 .inr (0, 688, .int 0, [(16, .int (-1)), (4, .int 4), (3, .int 1), (0, .int 64)]),
 .inr (0, 688, .int 0, []),
 .inr (0, 688, .int 0, []),
 .inr (0, 688, .int 0, []),
 .inr (0, 6880, .int 0, []),
 .inr (0, 301, .int 0, []),
 .inr (0, 301, .int 0, []),
 .inr (0, 500, .int 0, []),
 .inr (0, 4, .int 0, []),
 .inr (0, 8, .int 0, []),
 .inr (0, 150, .int 0, []),
 .inr (3, 1, .long 0, [])]
end
section
/-! the law up to its loop: both objects made; what the cells hold there -/
section GP
def g_okE (r : ri_Rs) : Bool := r.1.isEmpty && (Nat.ble r.2.1 6000 && (Nat.ble r.2.2.1 80000 && r.2.2.2.isEmpty))
def g_id : List Nat := List.range 192
noncomputable def g_pre : Bool := rz_o false g_okE (ry_runB g_G (ry_call g_G 30000 12) g_lawP (ri_gs g_id 23 g_lv0 [] [] g_mem0 4000 20000 ri_B0) 13 0 [(0, .string "" 0)] [] [] [])
theorem t_pre : g_pre = true := by decide +kernel
theorem g_fit0 : ri_fitB g_id g_lv0 [] g_mem0 = true := by decide +kernel
theorem g_ex {f : ri_Rs → Bool} {o : Option ri_Rs} (h : rz_o false f o = true) : ∃ r, o = some r ∧ f r = true := by
  cases o with
  | none => cases h
  | some r => exact ⟨r, rfl, h⟩
theorem g_preW : ∃ r, ry_runB g_G (ry_call g_G 30000 12) g_lawP (ri_gs g_id 23 g_lv0 [] [] g_mem0 4000 20000 ri_B0) 13 0 [(0, .string "" 0)] [] [] [] = some r ∧ g_okE r = true := g_ex (f := g_okE) t_pre
def g_vl (t : Jvm.Term) : Int32 := match t with
  | .int v => v
  | .long v => v.toInt32
  | _ => 0
def g_f (e : ri_Ce) : Nat → Int32 := fun j => match e with
  | .inl (_, fs) => g_vl (fs.getD j .null)
  | .inr (_, _, d, ov) => g_vl (ri_look d ov j)
def g_s0 : ra_V := fun k => match g_mem0[k]? with
  | some e => g_f e
  | none => fun _ => 0
def g_isI (t : Jvm.Term) : Bool := match t with
  | .int _ => true
  | _ => false
def g_cB (f : Nat → Int32) : ra_Hc → ri_Ce → Bool
  | .inl (ci, fl), .inl (ci2, fs) => ci2 == ci && decide (fs = ra_fs f fl)
  | .inr (ty, n, lg, none), .inr (ty2, n2, d, ov) => ty2 == ty && (n2 == n && (if lg = true then (decide (d = .long 0) && ov.isEmpty) else (g_isI d && ov.all (fun q => g_isI q.2))))
  | .inr (ty, n, _, some l), .inr (ty2, n2, d, ov) => ty2 == ty && (n2 == n && (List.range n).all (fun j => decide (l[j]? = some (ri_look d ov j))))
  | _, _ => false
theorem g_look {d : Jvm.Term} {ov : List (Nat × Jvm.Term)} {j : Nat} (h1 : g_isI d = true) (h2 : ∀ q ∈ ov, g_isI q.2 = true) : g_isI (ri_look d ov j) = true := by
  unfold ri_look
  cases hf : ov.find? (fun q => q.1 == j) with
  | none => simpa [hf] using h1
  | some q => simpa [hf] using h2 q (List.mem_of_find?_eq_some hf)
theorem g_isI_s {t : Jvm.Term} (h : g_isI t = true) : t = .int (g_vl t) := by
  unfold g_isI at h
  split at h
  · rfl
  · cases h
theorem g_cB_s {h : ra_Hc} {e : ri_Ce} (q : g_cB (g_f e) h e = true) : ra_cell (g_f e) h e := by
  match h, e, q with
  | .inl (ci, fl), .inl (ci2, fs), q =>
    simp only [g_cB, Bool.and_eq_true, beq_iff_eq, decide_eq_true_iff] at q
    exact q
  | .inr (ty, n, lg, none), .inr (ty2, n2, d, ov), q =>
    simp only [g_cB, Bool.and_eq_true, beq_iff_eq] at q
    obtain ⟨q1, q2, q3⟩ := q
    refine ⟨q1, q2, fun j _ => ?_⟩
    by_cases c : lg = true
    · rw [if_pos c] at q3 ⊢
      simp only [Bool.and_eq_true, decide_eq_true_iff, List.isEmpty_iff] at q3
      obtain ⟨rfl, rfl⟩ := q3
      rfl
    · rw [if_neg c] at q3 ⊢
      simp only [Bool.and_eq_true, List.all_eq_true] at q3
      exact g_isI_s (g_look q3.1 (fun z hz => q3.2 z hz))
  | .inr (ty, n, lg, some l), .inr (ty2, n2, d, ov), q =>
    simp only [g_cB, Bool.and_eq_true, beq_iff_eq, List.all_eq_true, List.mem_range, decide_eq_true_iff] at q
    exact ⟨q.1, q.2.1, fun j hj => q.2.2 j hj⟩
  | .inl (ci, fl), .inr (ty2, n2, d, ov), q => cases q
  | .inr (ty, n, lg, none), .inl (ci2, fs), q => cases q
  | .inr (ty, n, lg, some l), .inl (ci2, fs), q => cases q
def g_at (k : Nat) : Bool := match g_sh[k]?, g_mem0[k]? with
  | some h, some e => g_cB (g_f e) h e
  | _, _ => false
theorem g_all0 : (List.range 192).all g_at = true := by decide +kernel
theorem g_len0 : g_mem0.length = 192 := by decide +kernel
theorem g_rep0 : ra_rep g_sh g_s0 g_mem0 := by
  refine ⟨g_len0.trans sh_len.symm, fun k h hk => ?_⟩
  have hl : k < 192 := by
    have := (List.getElem?_eq_some_iff.mp hk).1
    rw [sh_len] at this
    exact this
  have h1 := List.all_eq_true.mp g_all0 k (List.mem_range.mpr hl)
  unfold g_at at h1
  rw [hk] at h1
  cases he : g_mem0[k]? with
  | none => rw [he] at h1; cases h1
  | some e =>
    rw [he] at h1
    refine ⟨e, rfl, ?_⟩
    have e2 : g_s0 k = g_f e := by unfold g_s0; rw [he]
    rw [e2]
    exact g_cB_s h1
theorem g_row0 : (List.range 88).all (fun a => decide (ra_g g_s0 180 a = if a = 0 then 64 else if a = 3 then 1 else if a = 4 then 4 else if a = 16 then -1 else 0)) = true := by decide +kernel
theorem g_row (a : Nat) (h : a < 88) : ra_g g_s0 180 a = if a = 0 then 64 else if a = 3 then 1 else if a = 4 then 4 else if a = 16 then -1 else 0 := decide_eq_true_iff.mp (List.all_eq_true.mp g_row0 a (List.mem_range.mpr h))
theorem g_n5 : ra_g g_s0 179 5 = 0 := by decide +kernel
theorem g_n6 : ra_g g_s0 179 6 = 0 := by decide +kernel
theorem g_n12 : ra_g g_s0 179 12 = 0 := by decide +kernel
theorem g_n25 : ra_g g_s0 179 25 = 0 := by decide +kernel
theorem g_n175 : ra_g g_s0 175 1 = 0 := by decide +kernel
theorem g_n13 : ra_g g_s0 179 13 = ra_g g_s0 175 2 := by decide +kernel
theorem g_n14 : ra_g g_s0 179 14 = ra_g g_s0 175 3 := by decide +kernel
theorem g_n40 : ra_g g_s0 40 1 = 0 := by decide +kernel
theorem g_liv0 : LIV g_s0 := by
  refine ⟨⟨by rw [g_n40]; decide, by rw [g_n40]; decide⟩, ⟨?_, pw_0 g_n5, fun q => absurd g_n6 q, by rw [g_n12]; decide, by rw [g_n25]; decide⟩, by rw [g_n175, g_n12], fun i hi => by rw [g_n12] at hi; omega, g_n13.symm, g_n14.symm⟩
  exact wf_clear (x := 64) (by decide) (g_row 0 (by decide)) (g_row 3 (by decide)) (g_row 4 (by decide)) (g_row 16 (by decide)) (fun a h h0 h3 h4 h16 => by rw [g_row a h, if_neg h0, if_neg h3, if_neg h4, if_neg h16])
def g_lvB (i : Nat) : Bool := match (lwL 0)[i]? with
  | some (some t) => decide (ri_ld g_lv0 i = some t)
  | _ => true
theorem g_lv9 : (List.range 9).all g_lvB = true := by decide +kernel
theorem g_lvok : ra_lv g_lv0 (lwL 0) := fun i t h => by
  have hl : i < 9 := (List.getElem?_eq_some_iff.mp h).1
  have h1 := List.all_eq_true.mp g_lv9 i (List.mem_range.mpr hl)
  unfold g_lvB at h1
  rw [h] at h1
  exact decide_eq_true_iff.mp h1
end GP
end
section
/-! the law, from its entry to its end -/
section GT
section GT1
variable {p : Program} {l : Launch} {e : Env} {R : Room} {s : State} {m : MethodId} {args : Array Value} {below : List Frame} {meth : Method} {c : Code} {D : va_G} {tyc : Nat → ClassId} {A : Nat → Prop} {ρ : Nat → Int32} {sa : String → Nat → Nat} {ad0 : Nat → Nat} {mcT msT : Nat}
variable {pc : Nat} {lv : List (Nat × Jvm.Term)} {st : List Jvm.Term} {cs : List ri_Cd} {mem : ri_Me} {rs : ri_Rs} {kc ks L : Nat} {xs : Nat → Int32}
theorem g_TB (n : Nat) (f : Nat → Int32) : ri_TB g_ALL g_STR (g_Gs n f) 30 := tb_TB
theorem g_coP : ∀ pc i len, (ri_co g_lawP)[pc]? = some (some (i, len)) → decode (ri_by g_lawP) pc = .ok (i, len) := tb_dl
theorem g_stage {B : ri_K} (hl : l.stackTraces = false) (hsc : ri_hsc g_G g_lawP sa A s) (hC : ri_Cx l g_ALL g_STR sa g_G g_lawP D tyc A p s m args meth c R 30 12 mcT msT) {f : Nat}
    (hB : ∀ pc lv st cs mem rs, B pc lv st cs mem = some rs → ri_So p l e R s m args below meth c g_G g_lawP D tyc A ρ sa 0 ad0 [ri_lf1] mcT msT pc lv st cs mem rs)
    (h : ry_runB g_G (ry_call g_G 30000 12) g_lawP B f pc lv st cs mem = some rs) (h1 : rs.1.isEmpty = true) (h2 : Nat.ble rs.2.1 kc = true) (h3 : Nat.ble rs.2.2.1 ks = true) (h4 : rs.2.2.2.isEmpty = true) : ri_Go p l e R s m args below meth c g_G g_lawP D tyc A ρ sa ad0 mcT msT pc lv st cs mem kc ks := by
  rw [ry_eq] at h
  have h1 := List.isEmpty_iff.mp h1
  have h2 := Nat.le_of_ble_eq_true h2
  have h3 := Nat.le_of_ble_eq_true h3
  have h4 := List.isEmpty_iff.mp h4
  have hS := ri_run_W (LT := [ri_lf1]) hB hsc tb_ac hC (fun mi as cs mem rs h9 => ri_call_W hl tb_TB 12 mi as cs mem rs h9) g_coP f pc lv st cs mem rs h
  exact ri_So_le hS ⟨fun x hx => (by rw [h1] at hx; cases hx), h2, h3, fun o ho => (by rw [h4] at ho; cases ho)⟩
theorem g_okR {mem : ri_Me} {c9 s9 b : Nat} (hb : b ≤ 3073) (h3 : c9 ≤ b) (h4 : s9 ≤ 6 * b) : ri_okB 4000 20000 ([([], mem, .inl (some (ra_I 1)))], c9, s9, []) = true := by
  unfold ri_okB
  have e1 : Nat.ble c9 4000 = true := Nat.ble_eq_true_of_le (by omega)
  have e2 : Nat.ble s9 20000 = true := Nat.ble_eq_true_of_le (by omega)
  simp only [e1, e2, List.all_cons, List.all_nil, List.isEmpty_nil, Bool.and_true]
  decide
/-- from behind the constructors on -/
theorem g_loop (hL : L ≤ 3072) (hl : l.stackTraces = false) (hsc : ri_hsc (g_Gs L xs) g_law sa A s) (hC : ri_Cx l g_ALL g_STR sa (g_Gs L xs) g_law D tyc A p s m args meth c R 30 12 mcT msT) : ri_Go p l e R s m args below meth c (g_Gs L xs) g_law D tyc A ρ sa ad0 mcT msT 23 g_lv0 [] [] g_mem0 4000 20000 := by
  obtain ⟨r, σ', F, q, k⟩ := lw_loop (n := L) (f := xs) (d := 0) (Q := fun r _ => r = .inl (some (ra_I 1))) hL (fun _ => rfl) (L + 1) 0 g_s0 (by omega) (by omega) (by omega) g_liv0
  obtain ⟨mem, c9, s9, h1, h2, h3, h4⟩ := k F F (Nat.le_refl _) (Nat.le_refl _) g_lv0 g_mem0 g_lvok g_rep0
  subst q
  have hx : ra_x (.inl (some (ra_I 1))) = 0 := rfl
  rw [hx] at h3 h4
  exact ri_to1 (ri_run_W (B := ri_B0) (fun _ _ _ _ _ _ z => by cases z) hsc tb_ac hC (fun mi as cs mem rs h9 => ri_call_W hl (g_TB L xs) 12 mi as cs mem rs h9) tb_dl F 23 _ _ _ _ _ h1) (g_okR (b := L + 1) (by omega) h3 h4)
theorem g_entry (hl : l.stackTraces = false) (hC : ri_Cx l g_ALL g_STR sa g_G g_lawP D tyc A p s m args meth c R 30 12 mcT msT) (h23 : ri_Go p l e R s m args below meth c g_G g_lawP D tyc A ρ sa ad0 mcT msT 23 g_lv0 [] [] g_mem0 4000 20000) :
    ri_Go p l e R s m args below meth c g_G g_lawP D tyc A ρ sa ad0 mcT msT 0 [(0, .string "" 0)] [] [] [] 6000 80000 := by
  obtain ⟨r, hr, h9⟩ := g_preW
  unfold g_okE at h9
  simp only [Bool.and_eq_true] at h9
  refine g_stage hl (fun z => absurd z (by decide)) hC (fun pc lv st cs mem rs hB => ?_) hr h9.1 h9.2.1 h9.2.2.1 h9.2.2.2
  rcases ri_gs_s g_fit0 h23 hB with ⟨rfl, hgo⟩ | hr9
  · exact hgo
  · cases hr9
theorem g_hasRoom {s : State} {pl : Platform} {r r' : Room} (hf : r.frames ≤ r'.frames) (hl : r.locals ≤ r'.locals) (hc : r.cells ≤ r'.cells) (hs : r.slots ≤ r'.slots) (h : s.hasRoom pl r' = true) : s.hasRoom pl r = true := by
  simp only [State.hasRoom, Bool.and_eq_true, decide_eq_true_eq] at h ⊢
  obtain ⟨⟨⟨⟨h1, h2, h3, h4, h5, h6⟩, h7⟩, h8⟩, h9⟩ := h
  exact ⟨⟨⟨⟨by omega, by omega, by omega, by omega, by omega, h6⟩, by omega⟩, by omega⟩, h9⟩
end GT1
end GT
end
