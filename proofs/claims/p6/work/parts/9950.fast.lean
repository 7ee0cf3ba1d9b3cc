/-! RI once more, quicker to the kernel: what an instruction is, is found once for each place; what follows a call or a load comes last -/
section RQ
noncomputable def rq_F (n : Nat) (f : Nat → Option ri_Rs) : Option ri_Rs := Nat.rec (motive := fun _ => Option ri_Rs) (f 0) (fun k _ => f (Nat.succ k)) n
theorem rq_F_eq {n : Nat} {f : Nat → Option ri_Rs} : rq_F n f = f n := by cases n <;> rfl
def rq_more (c s : Nat) (o : List ri_Ob) (r : Option ri_Rs) : Option ri_Rs := match c, s, o with
  | 0, 0, [] => r
  | _, _, _ => ri_more c s o r
theorem rq_more_eq : rq_more = ri_more := by
  funext c s o r
  unfold rq_more
  split
  · unfold ri_more
    cases r with
    | none => rfl
    | some x => simp
  · rfl
def rq_seq (k : ri_Lf → Option ri_Rs) : List ri_Lf → Option ri_Rs
  | [] => some ([], 0, 0, [])
  | [x] => k x
  | x :: y :: l => ri_both (k x) (rq_seq k (y :: l))
theorem rq_seq_eq : rq_seq = ri_seq := by
  funext k l
  induction l with
  | nil => rfl
  | cons x l ih =>
    cases l with
    | nil =>
      show k x = ri_both (k x) (some ([], 0, 0, []))
      cases k x with
      | none => rfl
      | some r => simp [ri_both]
    | cons y l =>
      show ri_both (k x) (rq_seq k (y :: l)) = ri_both (k x) (ri_seq k (y :: l))
      rw [ih]
def rq_pure (nL : Nat) (i : Instr) : Option (List (Nat × Jvm.Term) → List Jvm.Term → Option (Nat × List (Nat × Jvm.Term) × List Jvm.Term)) := match i with
  | .iconst n => some (fun lv st => some (1, lv, ri_ci (Int32.ofInt n) :: st))
  | .bipush n => some (fun lv st => some (2, lv, ri_ci (Int8.ofInt n).toInt32 :: st))
  | .sipush n => some (fun lv st => some (3, lv, ri_ci (Int16.ofInt n).toInt32 :: st))
  | .lconst n => some (fun lv st => some (1, lv, ri_cl (Int64.ofNat n.val) :: st))
  | .aconst_null => some (fun lv st => some (1, lv, .null :: st))
  | .iload k => some (fun lv st => ri_pl 2 0 lv k st)
  | .iload_n k => some (fun lv st => ri_pl 1 0 lv k.val st)
  | .lload k => some (fun lv st => ri_pl 2 1 lv k st)
  | .lload_n k => some (fun lv st => ri_pl 1 1 lv k.val st)
  | .aload k => some (fun lv st => ri_pa 2 lv k st)
  | .aload_n k => some (fun lv st => ri_pa 1 lv k.val st)
  | .istore k => some (fun lv st => ri_ps 2 0 nL lv k st)
  | .istore_n k => some (fun lv st => ri_ps 1 0 nL lv k.val st)
  | .lstore k => some (fun lv st => ri_ps2 2 nL lv k st)
  | .lstore_n k => some (fun lv st => ri_ps2 1 nL lv k.val st)
  | .astore k => some (fun lv st => ri_psa 2 nL lv k st)
  | .astore_n k => some (fun lv st => ri_psa 1 nL lv k.val st)
  | .iinc k n => some (fun lv st => ri_inc nL lv k n st)
  | .iadd => some (fun lv st => ri_s2 0 (fun a b => ri_bin (fun x y => x + y) (.add a b) a b) lv st)
  | .isub => some (fun lv st => ri_s2 0 (fun a b => ri_bin (fun x y => x - y) (.sub a b) a b) lv st)
  | .imul => some (fun lv st => ri_s2 0 (fun a b => ri_bin (fun x y => x * y) (.mul a b) a b) lv st)
  | .idiv => some (fun lv st => ri_sd (fun a b => ri_bin (fun x y => x / y) (.div a b) a b) lv st)
  | .irem => some (fun lv st => ri_sd (fun a b => ri_bin (fun x y => x - x / y * y) (.rem a b) a b) lv st)
  | .iand => some (fun lv st => ri_s2 0 (fun a b => ri_bin (fun x y => x &&& y) (.op2 .iand a b) a b) lv st)
  | .ior => some (fun lv st => ri_s2 0 (fun a b => ri_bin (fun x y => x ||| y) (.op2 .ior a b) a b) lv st)
  | .ixor => some (fun lv st => ri_s2 0 (fun a b => ri_bin (fun x y => x ^^^ y) (.op2 .ixor a b) a b) lv st)
  | .ishl => some (fun lv st => ri_s2 0 (fun a b => ri_bin (fun x y => x <<< (y &&& 31)) (.op2 .ishl a b) a b) lv st)
  | .ishr => some (fun lv st => ri_s2 0 (fun a b => ri_bin (fun x y => x >>> (y &&& 31)) (.op2 .ishr a b) a b) lv st)
  | .iushr => some (fun lv st => ri_s2 0 (fun a b => ri_bin (fun x y => (x.toUInt32 >>> (y.toUInt32 &&& Int32.toUInt32 31)).toInt32) (.op2 .iushr a b) a b) lv st)
  | .ineg => some (fun lv st => ri_s1 0 (fun a => ri_un (fun x => -x) (.op1 .ineg a) a) lv st)
  | .i2l => some (fun lv st => ri_s1 0 (fun a => ri_unIL (fun x => x.toInt64) (.op1 .i2l a) a) lv st)
  | .l2i => some (fun lv st => ri_s1 1 (fun a => ri_unLI (fun x => x.toInt32) (.op1 .l2i a) a) lv st)
  | .ladd => some (fun lv st => ri_s2 1 (fun a b => ri_binL (fun x y => x + y) (.op2 .ladd a b) a b) lv st)
  | .lsub => some (fun lv st => ri_s2 1 (fun a b => ri_binL (fun x y => x - y) (.op2 .lsub a b) a b) lv st)
  | .lcmp => some (fun lv st => ri_s2 1 (fun a b => ri_binC (.op2 .lcmp a b) a b) lv st)
  | .i2d => some (fun lv st => ri_sI (fun x => ri_fD (FP.i2d x)) lv st)
  | .i2f => some (fun lv st => ri_sI (fun x => ri_fF (FP.i2f x)) lv st)
  | .ddiv => some (fun lv st => ri_s2D FP.ddiv lv st)
  | .fdiv => some (fun lv st => ri_s2F FP.fdiv lv st)
  | .fsub => some (fun lv st => ri_s2F FP.fsub lv st)
  | .f2d => some (fun lv st => ri_s1F FP.f2d lv st)
  | .fconst 0 => some (fun lv st => some (1, lv, ri_fF FP.fconst0 :: st))
  | .fconst 1 => some (fun lv st => some (1, lv, ri_fF FP.fconst1 :: st))
  | .dconst 0 => some (fun lv st => some (1, lv, ri_fD FP.dconst0 :: st))
  | .dcmp op => some (fun lv st => ri_sC op lv st)
  | .dload k => some (fun lv st => ri_pl 2 4 lv k st)
  | .dload_n k => some (fun lv st => ri_pl 1 4 lv k.val st)
  | .dstore k => some (fun lv st => ri_psd 2 nL lv k st)
  | .dstore_n k => some (fun lv st => ri_psd 1 nL lv k.val st)
  | .dup => some (fun lv st => ri_dup lv st)
  | .dup_x1 => some (fun lv st => ri_dup_x1 lv st)
  | .dup2 => some (fun lv st => ri_dup2 lv st)
  | .pop => some (fun lv st => ri_pop lv st)
  | _ => none
def rq_heap (G : ri_Tb) (M : ri_Mt) (i : Instr) : Option (List ri_Cd → List Jvm.Term → ri_Me → Option ri_H1) := match i with
  | .getfield idx => some (fun cs st mem => ri_getf G M idx st mem)
  | .putfield idx => some (fun cs st mem => ri_putf G M idx st mem)
  | .iaload => some (fun cs st mem => match ri_sld G M st mem with
    | some x => some x
    | none => ri_iald G cs st mem)
  | .iastore => some (fun cs st mem => ri_iast G st mem)
  | .laload => some (fun cs st mem => ri_lald G st mem)
  | .lastore => some (fun cs st mem => ri_last G st mem)
  | .ldc2_w idx => some (fun cs st mem => ri_ldc2 G M idx st mem)
  | .aaload => some (fun cs st mem => ri_aald G st mem)
  | .aastore => some (fun cs st mem => ri_aast G st mem)
  | .arraylength => some (fun cs st mem => match ri_slen G M st mem with
    | some x => some x
    | none => ri_alen G st mem)
  | .new idx => some (fun cs st mem => ri_newo G M idx st mem)
  | .newarray t => some (fun cs st mem => ri_newr G (ri_typeOf t) 2 st mem)
  | .anewarray idx => some (fun cs st mem => match ri_cp G M (idx + 100000) with
    | some (6, a, _, _) => match (ri_aty G)[a]? with
      | some ty => ri_newr G ty 3 st mem
      | none => none
    | _ => none)
  | .ldc idx => some (fun cs st mem => ri_ldc G M idx st mem)
  | .ldc_w idx => some (fun cs st mem => ri_ldcw G M idx st mem)
  | .invokestatic idx => some (fun cs st mem => match ri_cp G M idx with
    | some (12, _, _, _) => ri_acpy G st mem
    | _ => none)
  | _ => none
def rq_foc (i : Instr) : Option (List Jvm.Term → Option (List Jvm.Term × Jvm.Term × List Jvm.Term)) := match i with
  | .iaload => some (fun st => match st with
    | x :: r => some ([], x, r)
    | _ => none)
  | .aaload => some (fun st => match st with
    | x :: r => some ([], x, r)
    | _ => none)
  | .laload => some (fun st => match st with
    | x :: r => some ([], x, r)
    | _ => none)
  | .iastore => some (fun st => match st with
    | t :: x :: r => some ([t], x, r)
    | _ => none)
  | .lastore => some (fun st => match st with
    | t :: x :: r => some ([t], x, r)
    | _ => none)
  | _ => none
def rq_inv (G : ri_Tb) (call : ri_Call) (M : ri_Mt) (K : ri_K) (sort pc idx : Nat) (lv : List (Nat × Jvm.Term)) (st : List Jvm.Term) (cs : List ri_Cd) (mem : ri_Me) : Option ri_Rs := match ri_cp G M idx with
  | some (kd, mi, n, _) =>
    if kd = 20 + sort ∨ kd = 30 + sort then (match (ri_mts G)[mi]? with
      | some M' =>
        if (kd = 21 ∨ (ri_hh M').isEmpty = true) ∧ ri_nn sort n ≤ st.length ∧ (st.drop (ri_nn sort n)).length ≤ 4 ∧ (sort = 1 ∨ ri_recv G (ri_nm M').cls mem (st.take (ri_nn sort n)).reverse = true) then (match call mi (st.take (ri_nn sort n)).reverse cs mem with
          | some (L, mc, ms, ob) => rq_more mc ms ob (rq_seq (ri_after G M K pc lv (st.drop (ri_nn sort n))) L)
          | none => none) else none
      | none => none)
    else if kd = 7 then (match st with
      | .index _ :: r => if sort = 2 ∧ r.length ≤ 4 then K (pc + 3) lv r cs mem else none
      | _ => none)
    else if kd = 10 then (match st with
      | y :: x :: r => if sort = 1 ∧ ri_k x = 0 ∧ ri_k y = 0 ∧ r.length ≤ 4 then ri_br cs (1, x, y, true) (fun cs' => K (pc + 3) lv (y :: r) cs' mem) (fun cs' => K (pc + 3) lv (x :: r) cs' mem) else none
      | _ => none)
    else if kd = 11 then (match st with
      | y :: x :: r => if sort = 1 ∧ ri_k x = 0 ∧ ri_k y = 0 ∧ r.length ≤ 4 then ri_br cs (1, y, x, true) (fun cs' => K (pc + 3) lv (y :: r) cs' mem) (fun cs' => K (pc + 3) lv (x :: r) cs' mem) else none
      | _ => none)
    else if kd = 16 ∨ kd = 17 then ri_strm G M K kd sort pc lv st cs mem
    else none
  | none => none
theorem rq_inv_eq : rq_inv = ri_inv := by
  funext G call M K sort pc idx lv st cs mem
  unfold rq_inv ri_inv
  rw [rq_more_eq, rq_seq_eq]
  rfl
abbrev rq_S : Type := ri_Call → ri_K → List (Nat × Jvm.Term) → List Jvm.Term → List ri_Cd → ri_Me → Option ri_Rs
def rq_ctl (G : ri_Tb) (M : ri_Mt) (pc : Nat) (i : Instr) (len : Nat) : Option rq_S := match i with
  | .goto off => some (fun call K lv st cs mem => match ri_tg pc off with
    | some t => if len = 3 then K t lv st cs mem else none
    | none => none)
  | .ifCond c off => some (fun call K lv st cs mem => match st, ri_tg pc off with
    | a :: r, some t => if ri_k a = 0 ∧ len = 3 then ri_br cs (ri_cnd c a (.int 0)) (fun cs' => K t lv r cs' mem) (fun cs' => K (pc + 3) lv r cs' mem) else none
    | _, _ => none)
  | .if_icmp c off => some (fun call K lv st cs mem => match st, ri_tg pc off with
    | b :: a :: r, some t => if ri_k a = 0 ∧ ri_k b = 0 ∧ len = 3 then ri_br cs (ri_cnd c a b) (fun cs' => K t lv r cs' mem) (fun cs' => K (pc + 3) lv r cs' mem) else none
    | _, _ => none)
  | .ifnull off => some (fun call K lv st cs mem => match st, ri_tg pc off with
    | a :: r, some t => if len = 3 then (if ri_k a = 3 then K t lv r cs mem else if ri_k a = 2 then K (pc + 3) lv r cs mem else none) else none
    | _, _ => none)
  | .ifnonnull off => some (fun call K lv st cs mem => match st, ri_tg pc off with
    | a :: r, some t => if len = 3 then (if ri_k a = 2 then K t lv r cs mem else if ri_k a = 3 then K (pc + 3) lv r cs mem else none) else none
    | _, _ => none)
  | .tableswitch d lo hi offs => some (fun call K lv st cs mem => match st with
    | x :: r => if ri_k x = 0 ∧ hi = lo + (offs.size : Int) - 1 ∧ -2147483648 ≤ lo ∧ hi < 2147483648 then ri_chain x pc (fun t cs' => K t lv r cs' mem) d (offs.toList.mapIdx (fun j o => (lo + (j : Int), o))) cs else none
    | _ => none)
  | .lookupswitch d ps => some (fun call K lv st cs mem => match st with
    | x :: r => if ri_k x = 0 ∧ (ps.toList.zip (ps.toList.drop 1)).all (fun (a, next) => a.1 < next.1) = true ∧ ps.toList.all (fun q => decide (-2147483648 ≤ q.1 ∧ q.1 < 2147483648)) = true then ri_chain x pc (fun t cs' => K t lv r cs' mem) d ps.toList cs else none
    | _ => none)
  | .ireturn => some (fun call K lv st cs mem => if len = 1 then ri_ans M st cs mem ri_okI else none)
  | .areturn => some (fun call K lv st cs mem => if len = 1 then ri_ans M st cs mem ri_okA else none)
  | .dreturn => some (fun call K lv st cs mem => if len = 1 then ri_ans M st cs mem ri_okD else none)
  | .freturn => some (fun call K lv st cs mem => if len = 1 then ri_ans M st cs mem ri_okF else none)
  | .return_ => some (fun call K lv st cs mem => match st, ri_rt M with
    | [], none => if len = 1 then some ([(cs, mem, .inl none)], 0, 0, []) else none
    | _, _ => none)
  | .new ik => some (fun call K lv st cs mem => if len = 3 then ri_thr G M pc ik st cs mem else none)
  | .invokevirtual idx => some (fun call K lv st cs mem => if len = 3 then rq_inv G call M K 0 pc idx lv st cs mem else none)
  | .invokestatic idx => some (fun call K lv st cs mem => if len = 3 then rq_inv G call M K 1 pc idx lv st cs mem else none)
  | .invokespecial idx => some (fun call K lv st cs mem => if len = 3 then rq_inv G call M K 2 pc idx lv st cs mem else none)
  | _ => none
def rq_o2 {α β γ : Type} (o : Option (α → β → Option γ)) (a : α) (b : β) : Option γ := match o with
  | some f => f a b
  | none => none
def rq_o3 {α β δ γ : Type} (o : Option (α → β → δ → Option γ)) (a : α) (b : β) (d : δ) : Option γ := match o with
  | some f => f a b d
  | none => none
def rq_o1 {α γ : Type} (o : Option (α → Option γ)) (a : α) : Option γ := match o with
  | some f => f a
  | none => none
def rq_o6 (o : Option rq_S) (call : ri_Call) (K : ri_K) (lv : List (Nat × Jvm.Term)) (st : List Jvm.Term) (cs : List ri_Cd) (mem : ri_Me) : Option ri_Rs := match o with
  | some f => f call K lv st cs mem
  | none => none
theorem rq_pure_eq {nL : Nat} {i : Instr} {lv : List (Nat × Jvm.Term)} {st : List Jvm.Term} : rq_o2 (rq_pure nL i) lv st = ri_pure nL i lv st := by
  cases i with
  | fconst k => match k with
    | 0 => rfl
    | 1 => rfl
    | 2 => rfl
  | dconst k => match k with
    | 0 => rfl
    | 1 => rfl
  | _ => rfl
theorem rq_heap_eq {G : ri_Tb} {M : ri_Mt} {i : Instr} {cs : List ri_Cd} {st : List Jvm.Term} {mem : ri_Me} : rq_o3 (rq_heap G M i) cs st mem = ri_heap G M cs i st mem := by
  cases i <;> rfl
theorem rq_foc_eq {i : Instr} {st : List Jvm.Term} : rq_o1 (rq_foc i) st = ri_foc i st := by
  cases i with
  | iaload => cases st <;> rfl
  | aaload => cases st <;> rfl
  | laload => cases st <;> rfl
  | iastore => match st with
    | [] => rfl
    | [_] => rfl
    | _ :: _ :: _ => rfl
  | lastore => match st with
    | [] => rfl
    | [_] => rfl
    | _ :: _ :: _ => rfl
  | _ => rfl
theorem rq_ctl_eq {G : ri_Tb} {call : ri_Call} {M : ri_Mt} {K : ri_K} {pc len : Nat} {i : Instr} {lv : List (Nat × Jvm.Term)} {st : List Jvm.Term} {cs : List ri_Cd} {mem : ri_Me} : rq_o6 (rq_ctl G M pc i len) call K lv st cs mem = ri_ctl G call M K pc i len lv st cs mem := by
  cases i with
  | invokevirtual idx => show (if len = 3 then rq_inv G call M K 0 pc idx lv st cs mem else none) = _; rw [rq_inv_eq]; rfl
  | invokestatic idx => show (if len = 3 then rq_inv G call M K 1 pc idx lv st cs mem else none) = _; rw [rq_inv_eq]; rfl
  | invokespecial idx => show (if len = 3 then rq_inv G call M K 2 pc idx lv st cs mem else none) = _; rw [rq_inv_eq]; rfl
  | _ => rfl
/-- what stands at a place -/
def rq_at (G : ri_Tb) (M : ri_Mt) (pc : Nat) : Option rq_S := match (ri_co M)[pc]? with
  | some (some (i, len)) => match rq_pure (ri_mx M) i with
    | some f => some (fun call K lv st cs mem => match f lv st with
      | some (len', lv', st') => if len' = len then K (pc + len) lv' st' cs mem else none
      | none => match ri_heap G M cs i st mem with
        | some x => if x.1 = len then rq_more x.2.2.2.1 x.2.2.2.2.1 x.2.2.2.2.2 (K (pc + len) lv x.2.1 cs x.2.2.1) else none
        | none => match ri_foc i st with
          | some (a, t, r) => if ri_k t = 0 ∧ ri_cst t = false ∧ (ri_bd cs t).2 < (ri_bd cs t).1 + 700 then ri_vals t (fun y cs' => K pc lv (a ++ y :: r) cs' mem) ((ri_bd cs t).2 - (ri_bd cs t).1 + 1).toNat (ri_bd cs t).1 cs else none
          | none => ri_ctl G call M K pc i len lv st cs mem)
    | none => match rq_heap G M i with
      | some g => some (fun call K lv st cs mem => match g cs st mem with
        | some x => if x.1 = len then rq_more x.2.2.2.1 x.2.2.2.2.1 x.2.2.2.2.2 (K (pc + len) lv x.2.1 cs x.2.2.1) else none
        | none => match rq_o1 (rq_foc i) st with
          | some (a, t, r) => if ri_k t = 0 ∧ ri_cst t = false ∧ (ri_bd cs t).2 < (ri_bd cs t).1 + 700 then ri_vals t (fun y cs' => K pc lv (a ++ y :: r) cs' mem) ((ri_bd cs t).2 - (ri_bd cs t).1 + 1).toNat (ri_bd cs t).1 cs else none
          | none => rq_o6 (rq_ctl G M pc i len) call K lv st cs mem)
      | none => match rq_foc i with
        | some _ => none
        | none => rq_ctl G M pc i len
  | _ => none
noncomputable def rq_one (G : ri_Tb) (call : ri_Call) (M : ri_Mt) (K : ri_K) (pc : Nat) (lv : List (Nat × Jvm.Term)) (st : List Jvm.Term) (cs : List ri_Cd) (mem : ri_Me) : Option ri_Rs := rq_F pc (fun pc => rq_o6 (rq_at G M pc) call K lv st cs mem)
theorem rq_nofoc {G : ri_Tb} {M : ri_Mt} {i : Instr} (h : rq_heap G M i = none) : rq_foc i = none := by
  cases i <;> first | rfl | cases h
theorem rq_one_eq {G : ri_Tb} {call : ri_Call} {M : ri_Mt} {K : ri_K} {pc : Nat} {lv : List (Nat × Jvm.Term)} {st : List Jvm.Term} {cs : List ri_Cd} {mem : ri_Me} : rq_one G call M K pc lv st cs mem = ri_one G call M K pc lv st cs mem := by
  unfold rq_one
  rw [rq_F_eq]
  unfold rq_at ri_one
  cases hi : (ri_co M)[pc]? with
  | none => rfl
  | some o =>
    cases o with
    | none => rfl
    | some il =>
      obtain ⟨i, len⟩ := il
      dsimp only
      have e1 := rq_pure_eq (nL := ri_mx M) (i := i) (lv := lv) (st := st)
      have e2 := rq_heap_eq (G := G) (M := M) (i := i) (cs := cs) (st := st) (mem := mem)
      have e3 := rq_foc_eq (i := i) (st := st)
      have e4 := rq_ctl_eq (G := G) (call := call) (M := M) (K := K) (pc := pc) (len := len) (i := i) (lv := lv) (st := st) (cs := cs) (mem := mem)
      cases hp : rq_pure (ri_mx M) i with
      | some f =>
        rw [hp] at e1
        have e1' : f lv st = ri_pure (ri_mx M) i lv st := e1
        rw [← e1', rq_more_eq]
        rfl
      | none =>
        rw [hp] at e1
        have e1' : none = ri_pure (ri_mx M) i lv st := e1
        rw [← e1']
        dsimp only
        cases hh : rq_heap G M i with
        | some g =>
          rw [hh] at e2
          have e2' : g cs st mem = ri_heap G M cs i st mem := e2
          rw [← e2', ← e3, ← e4, rq_more_eq]
          rfl
        | none =>
          rw [hh] at e2
          have e2' : none = ri_heap G M cs i st mem := e2
          rw [← e2', ← e3, rq_nofoc hh, ← e4]
          rfl
noncomputable def rq_runB (G : ri_Tb) (call : ri_Call) (M : ri_Mt) (B : ri_K) (f : Nat) : ri_K := Nat.rec (motive := fun _ => ri_K) B (fun _ K pc lv st cs mem => rq_one G call M K pc lv st cs mem) f
theorem rq_runB_eq {G : ri_Tb} {call : ri_Call} {M : ri_Mt} {B : ri_K} {f : Nat} : rq_runB G call M B f = ri_runB G call M B f := by
  induction f with
  | zero => rfl
  | succ f ih =>
    funext pc lv st cs mem
    show rq_one G call M (rq_runB G call M B f) pc lv st cs mem = ri_one G call M (ri_runB G call M B f) pc lv st cs mem
    rw [rq_one_eq, ih]
noncomputable def rq_call (G : ri_Tb) (fuel d : Nat) : ri_Call := Nat.rec (motive := fun _ => ri_Call) (fun _ _ _ _ => none) (fun k C mi args cs mem => match (ri_mts G)[mi]? with
    | some M => if ri_lw M = false ∧ (args.map (fun t => if ri_wide t = true then 2 else 1)).sum ≤ ri_mx M ∧ (ri_hi M = true → 5 ≤ k) then rq_runB G C M ri_B0 fuel 0 (ri_args 0 args) [] cs mem else none
    | none => none) d
theorem rq_call_eq {G : ri_Tb} {fuel d : Nat} : rq_call G fuel d = ri_call G fuel d := by
  induction d with
  | zero => rfl
  | succ d ih =>
    funext mi args cs mem
    show (match (ri_mts G)[mi]? with
      | some M => if ri_lw M = false ∧ (args.map (fun t => if ri_wide t = true then 2 else 1)).sum ≤ ri_mx M ∧ (ri_hi M = true → 5 ≤ d) then rq_runB G (rq_call G fuel d) M ri_B0 fuel 0 (ri_args 0 args) [] cs mem else none
      | none => none) = _
    rw [ri_call_S, ih]
    simp only [rq_runB_eq]
    rfl
theorem rq_eq {G : ri_Tb} {M : ri_Mt} {B : ri_K} {f fuel d : Nat} : rq_runB G (rq_call G fuel d) M B f = ri_runB G (ri_call G fuel d) M B f := by rw [rq_call_eq, rq_runB_eq]
end RQ
