/-! RI: the run: forks, jumps, calls, answers, exceptions -/
section RIR
def ri_eqT : Jvm.Term → Jvm.Term → Bool
  | .arg i, .arg j => i == j
  | .int x, .int y => x == y
  | .long x, .long y => x == y
  | .add a b, .add a2 b2 => ri_eqT a a2 && ri_eqT b b2
  | .sub a b, .sub a2 b2 => ri_eqT a a2 && ri_eqT b b2
  | .mul a b, .mul a2 b2 => ri_eqT a a2 && ri_eqT b b2
  | .div a b, .div a2 b2 => ri_eqT a a2 && ri_eqT b b2
  | .rem a b, .rem a2 b2 => ri_eqT a a2 && ri_eqT b b2
  | .op2 o a b, .op2 o2 a2 b2 => decide (o = o2) && (ri_eqT a a2 && ri_eqT b b2)
  | .op1 o a, .op1 o2 a2 => decide (o = o2) && ri_eqT a a2
  | _, _ => false
theorem ri_eqT_s : ∀ (a b : Jvm.Term), ri_eqT a b = true → a = b := by
  intro a
  induction a with
  | arg i => intro b h; cases b <;> simp [ri_eqT] at h; rw [h]
  | int i => intro b h; cases b <;> simp [ri_eqT] at h; rw [h]
  | long i => intro b h; cases b <;> simp [ri_eqT] at h; rw [h]
  | add x y hx hy => intro b h; cases b <;> simp [ri_eqT] at h; rw [hx _ h.1, hy _ h.2]
  | sub x y hx hy => intro b h; cases b <;> simp [ri_eqT] at h; rw [hx _ h.1, hy _ h.2]
  | mul x y hx hy => intro b h; cases b <;> simp [ri_eqT] at h; rw [hx _ h.1, hy _ h.2]
  | div x y hx hy => intro b h; cases b <;> simp [ri_eqT] at h; rw [hx _ h.1, hy _ h.2]
  | rem x y hx hy => intro b h; cases b <;> simp [ri_eqT] at h; rw [hx _ h.1, hy _ h.2]
  | op2 o x y hx hy => intro b h; cases b <;> simp [ri_eqT] at h; rw [h.1, hx _ h.2.1, hy _ h.2.2]
  | op1 o x hx => intro b h; cases b <;> simp [ri_eqT] at h; rw [h.1, hx _ h.2]
  | _ => intro b h; cases b <;> simp [ri_eqT] at h
/-- is it known already? -/
def ri_dec (cs : List ri_Cd) (k : Nat) (a b : Jvm.Term) : Option Bool := match a, b with
  | .int x, .int y => some (match k with
    | 0 => decide (x = y)
    | _ => decide (x < y))
  | _, _ => (cs.find? (fun q => q.1 == k && (ri_eqT q.2.1 a && ri_eqT q.2.2.1 b))).map (fun q => q.2.2.2)
theorem ri_dec_s {ρ : Nat → Int32} {cs : List ri_Cd} {k : Nat} {a b : Jvm.Term} {r : Bool} (hsat : ∀ q ∈ cs, ri_sat ρ q) (h : ri_dec cs k a b = some r) : r = true ↔ ri_rel k (ri_iv ρ a) (ri_iv ρ b) := by
  have gen : (cs.find? (fun q => q.1 == k && (ri_eqT q.2.1 a && ri_eqT q.2.2.1 b))).map (fun q => q.2.2.2) = some r → (r = true ↔ ri_rel k (ri_iv ρ a) (ri_iv ρ b)) := by
    intro h
    obtain ⟨q, hq, rfl⟩ := Option.map_eq_some_iff.mp h
    have h1 := hsat q (List.mem_of_find?_eq_some hq)
    have h2 := List.find?_some hq
    simp only [Bool.and_eq_true, beq_iff_eq] at h2
    have e1 := ri_eqT_s _ _ h2.2.1
    have e2 := ri_eqT_s _ _ h2.2.2
    unfold ri_sat at h1
    rw [h2.1, e1, e2] at h1
    exact h1
  unfold ri_dec at h
  split at h
  · next x y =>
    cases h
    show _ ↔ ri_rel k x y
    unfold ri_rel
    split <;> simp
  · exact gen h
def ri_both (a b : Option ri_Rs) : Option ri_Rs := match a, b with
  | some (l1, c1, s1, o1), some (l2, c2, s2, o2) => some (l1 ++ l2, max c1 c2, max s1 s2, o1 ++ o2)
  | _, _ => none
/-- one result among another's -/
def ri_le (r1 r : ri_Rs) : Prop := (∀ x ∈ r1.1, x ∈ r.1) ∧ r1.2.1 ≤ r.2.1 ∧ r1.2.2.1 ≤ r.2.2.1 ∧ ∀ o ∈ r1.2.2.2, o ∈ r.2.2.2
theorem ri_both_s {a b : Option ri_Rs} {r : ri_Rs} (h : ri_both a b = some r) : ∃ ra rb, a = some ra ∧ b = some rb ∧ ri_le ra r ∧ ri_le rb r := by
  unfold ri_both at h
  split at h
  · next l1 c1 s1 o1 l2 c2 s2 o2 =>
    cases h
    exact ⟨_, _, rfl, rfl, ⟨fun x hx => List.mem_append_left _ hx, Nat.le_max_left _ _, Nat.le_max_left _ _, fun x hx => List.mem_append_left _ hx⟩, ⟨fun x hx => List.mem_append_right _ hx, Nat.le_max_right _ _, Nat.le_max_right _ _, fun x hx => List.mem_append_right _ hx⟩⟩
  · cases h
def ri_seq (k : ri_Lf → Option ri_Rs) : List ri_Lf → Option ri_Rs
  | [] => some ([], 0, 0, [])
  | x :: l => ri_both (k x) (ri_seq k l)
theorem ri_le_tr {a b c : ri_Rs} (h1 : ri_le a b) (h2 : ri_le b c) : ri_le a c := ⟨fun x hx => h2.1 x (h1.1 x hx), Nat.le_trans h1.2.1 h2.2.1, Nat.le_trans h1.2.2.1 h2.2.2.1, fun o ho => h2.2.2.2 o (h1.2.2.2 o ho)⟩
theorem ri_seq_s {k : ri_Lf → Option ri_Rs} : ∀ (l : List ri_Lf) {r : ri_Rs}, ri_seq k l = some r → ∀ x ∈ l, ∃ rx, k x = some rx ∧ ri_le rx r
  | [], _, _, x, hx => by cases hx
  | y :: l, r, h, x, hx => by
    obtain ⟨ra, rb, h1, h2, h3, h4⟩ := ri_both_s (show ri_both (k y) (ri_seq k l) = some r from h)
    rcases List.mem_cons.mp hx with rfl | hx
    · exact ⟨ra, h1, h3⟩
    · obtain ⟨rx, g1, g2⟩ := ri_seq_s l h2 x hx
      exact ⟨rx, g1, ri_le_tr g2 h4⟩
/-- a fork: (sort, a, b, v): T where (a sort b) is v, else F -/
def ri_br (cs : List ri_Cd) (q : ri_Cd) (T F : List ri_Cd → Option ri_Rs) : Option ri_Rs := match ri_dec cs q.1 q.2.1 q.2.2.1 with
  | some r => if r = q.2.2.2 then T cs else F cs
  | none => ri_both (T (q :: cs)) (F ((q.1, q.2.1, q.2.2.1, !q.2.2.2) :: cs))
theorem ri_br_s {ρ : Nat → Int32} {cs : List ri_Cd} {q : ri_Cd} {T F : List ri_Cd → Option ri_Rs} {r : ri_Rs} (hsat : ∀ q ∈ cs, ri_sat ρ q) (h : ri_br cs q T F = some r) :
    (ri_sat ρ q ∧ ∃ cs' r1, T cs' = some r1 ∧ (∀ q ∈ cs', ri_sat ρ q) ∧ ri_le r1 r) ∨ (¬ ri_sat ρ q ∧ ∃ cs' r1, F cs' = some r1 ∧ (∀ q ∈ cs', ri_sat ρ q) ∧ ri_le r1 r) := by
  unfold ri_br at h
  have rf : ri_le r r := ⟨fun _ h => h, Nat.le_refl _, Nat.le_refl _, fun _ h => h⟩
  split at h
  · next v hv =>
    have h1 := ri_dec_s hsat hv
    split at h
    · next e => exact Or.inl ⟨by unfold ri_sat; rw [← e]; exact h1, cs, r, h, hsat, rf⟩
    · next e =>
      refine Or.inr ⟨fun hs => e ?_, cs, r, h, hsat, rf⟩
      unfold ri_sat at hs
      rw [Bool.eq_iff_iff]
      exact h1.trans hs.symm
  · obtain ⟨ra, rb, h1, h2, h3, h4⟩ := ri_both_s h
    by_cases hq : ri_sat ρ q
    · exact Or.inl ⟨hq, _, ra, h1, fun z hz => by
        rcases List.mem_cons.mp hz with rfl | hz
        · exact hq
        · exact hsat z hz, h3⟩
    · refine Or.inr ⟨hq, _, rb, h2, fun z hz => ?_, h4⟩
      rcases List.mem_cons.mp hz with rfl | hz
      · unfold ri_sat at hq ⊢
        cases hv : q.2.2.2 <;> simp [hv] at hq ⊢ <;> exact hq
      · exact hsat z hz
def ri_tg (pc : Nat) (off : Int) : Option Nat := match (pc : Int) + off with
  | .ofNat n => some n
  | .negSucc _ => none
theorem ri_tg_s {pc t : Nat} {off : Int} (h : ri_tg pc off = some t) : (pc : Int) + off = (t : Int) := by
  unfold ri_tg at h
  split at h
  · next n e => cases h; rw [e]; rfl
  · cases h
def ri_cnd (c : ClassFile.Cond) (a b : Jvm.Term) : ri_Cd := match c with
  | .eq => (0, a, b, true)
  | .ne => (0, a, b, false)
  | .lt => (1, a, b, true)
  | .ge => (1, a, b, false)
  | .gt => (1, b, a, true)
  | .le => (1, b, a, false)
/-- a switch, as a row of forks -/
def ri_chain (x : Jvm.Term) (pc : Nat) (T : Nat → List ri_Cd → Option ri_Rs) (dflt : Int) : List (Int × Int) → List ri_Cd → Option ri_Rs
  | [], cs => match ri_tg pc dflt with
    | some t => T t cs
    | none => none
  | (v, off) :: l, cs => ri_br cs (0, x, ri_ci (Int32.ofInt v), true) (fun cs' => match ri_tg pc off with
    | some t => T t cs'
    | none => none) (fun cs' => ri_chain x pc T dflt l cs')
abbrev ri_K : Type := Nat → List (Nat × Jvm.Term) → List Jvm.Term → List ri_Cd → ri_Me → Option ri_Rs
abbrev ri_Call : Type := Nat → List Jvm.Term → List ri_Cd → ri_Me → Option ri_Rs
/-- more cells, more obligations ahead of what follows -/
def ri_more (c s : Nat) (o : List ri_Ob) (r : Option ri_Rs) : Option ri_Rs := match r with
  | some (l2, c2, s2, o2) => some (l2, c + c2, s + s2, o ++ o2)
  | none => none
theorem ri_more_s {c s : Nat} {o : List ri_Ob} {r : Option ri_Rs} {x : ri_Rs} (h : ri_more c s o r = some x) : ∃ r2, r = some r2 ∧ x.1 = r2.1 ∧ x.2.1 = c + r2.2.1 ∧ x.2.2.1 = s + r2.2.2.1 ∧ x.2.2.2 = o ++ r2.2.2.2 := by
  unfold ri_more at h
  split at h
  · cases h; exact ⟨_, rfl, rfl, rfl, rfl, rfl⟩
  · cases h
/-- behind a call -/
def ri_after (K : ri_K) (pc : Nat) (lv : List (Nat × Jvm.Term)) (rest : List Jvm.Term) (x : ri_Lf) : Option ri_Rs := match x.2.2 with
  | .inl none => K (pc + 3) lv rest x.1 x.2.1
  | .inl (some t) => K (pc + 3) lv (t :: rest) x.1 x.2.1
  | .inr E => some ([(x.1, x.2.1, .inr E)], 0, 0, [])
/-- a receiver of that class -/
def ri_recv (G : ri_Tb) (cls : String) (mem : ri_Me) : List Jvm.Term → Bool
  | .index k :: _ => match mem[k]? with
    | some (.inl (ci, _)) => match (ri_cls G)[ci]? with
      | some r => r.1 == cls
      | none => false
    | _ => false
  | _ => false
def ri_nn (sort n : Nat) : Nat := if sort = 1 then n else n + 1
/-- a call: sort 0 of an object, 1 static, 2 a constructor -/
def ri_inv (G : ri_Tb) (call : ri_Call) (M : ri_Mt) (K : ri_K) (sort pc idx : Nat) (lv : List (Nat × Jvm.Term)) (st : List Jvm.Term) (cs : List ri_Cd) (mem : ri_Me) : Option ri_Rs := match ri_cp G M idx with
  | some (kd, mi, n, _) =>
    if kd = 20 + sort ∨ kd = 30 + sort then (match (ri_mts G)[mi]? with
      | some M' =>
        if ri_nn sort n ≤ st.length ∧ (st.drop (ri_nn sort n)).length ≤ 4 ∧ (sort = 1 ∨ ri_recv G (ri_nm M').cls mem (st.take (ri_nn sort n)).reverse = true) then (match call mi (st.take (ri_nn sort n)).reverse cs mem with
          | some (L, mc, ms, ob) => ri_more mc ms ob (ri_seq (ri_after K pc lv (st.drop (ri_nn sort n))) L)
          | none => none) else none
      | none => none)
    else if kd = 7 then (match st with
      | .index _ :: r => if sort = 2 ∧ r.length ≤ 4 then K (pc + 3) lv r cs mem else none
      | _ => none)
    else if kd = 10 then (match st with
      | y :: x :: r => if sort = 1 ∧ ri_k x = 0 ∧ ri_k y = 0 ∧ r.length ≤ 4 then ri_br cs (1, x, y, true) (fun cs' => K (pc + 3) lv (y :: r) cs' mem) (fun cs' => K (pc + 3) lv (x :: r) cs' mem) else none
      | _ => none)
    else if kd = 11 then (match st with
      | y :: x :: r => if sort = 1 ∧ ri_k x = 0 ∧ ri_k y = 0 ∧ r.length ≤ 4 then ri_br cs (1, y, x, true) (fun cs' => K (pc + 3) lv (y :: r) cs' mem) (fun cs' => K (pc + 3) lv (x :: r) cs' mem) else none
      | _ => none)
    else none
  | none => none
/-- new X(text), thrown -/
def ri_thr (G : ri_Tb) (M : ri_Mt) (pc ik : Nat) (st : List Jvm.Term) (cs : List ri_Cd) (mem : ri_Me) : Option ri_Rs := match ri_cp G M ik, (ri_co M)[pc + 3]?, (ri_co M)[pc + 4]?, (ri_co M)[pc + 6]?, (ri_co M)[pc + 9]? with
  | some (5, _, _, E), some (some (.dup, 1)), some (some (.ldc is, 2)), some (some (.invokespecial ic, 3)), some (some (.athrow, 1)) => match ri_cp G M is, ri_cp G M ic with
    | some (9, _, _, _), some (13, _, _, E2) => if E2 = E ∧ st.length ≤ 4 then some ([(cs, mem, .inr E)], 1, 6, []) else none
    | _, _ => none
  | _, _, _, _, _ => none
def ri_ans (M : ri_Mt) (st : List Jvm.Term) (cs : List ri_Cd) (mem : ri_Me) (ok : Jvm.Term → Option FieldType → Bool) : Option ri_Rs := match st with
  | [t] => if ok t (ri_rt M) = true then some ([(cs, mem, .inl (some t))], 0, 0, []) else none
  | _ => none
def ri_okI (t : Jvm.Term) : Option FieldType → Bool
  | some .int => ri_k t == 0
  | some .boolean => ri_fit .boolean t
  | _ => false
def ri_okA (t : Jvm.Term) : Option FieldType → Bool
  | some (.object _) => ri_k t == 2 || ri_k t == 3
  | some (.array _) => ri_k t == 2 || ri_k t == 3
  | _ => false
def ri_okD (t : Jvm.Term) : Option FieldType → Bool
  | some .double => ri_k t == 4
  | _ => false
def ri_okF (t : Jvm.Term) : Option FieldType → Bool
  | some .float => ri_k t == 5
  | _ => false
def ri_ctl (G : ri_Tb) (call : ri_Call) (M : ri_Mt) (K : ri_K) (pc : Nat) (i : Instr) (len : Nat) (lv : List (Nat × Jvm.Term)) (st : List Jvm.Term) (cs : List ri_Cd) (mem : ri_Me) : Option ri_Rs := match i with
  | .goto off => match ri_tg pc off with
    | some t => if len = 3 then K t lv st cs mem else none
    | none => none
  | .ifCond c off => match st, ri_tg pc off with
    | a :: r, some t => if ri_k a = 0 ∧ len = 3 then ri_br cs (ri_cnd c a (.int 0)) (fun cs' => K t lv r cs' mem) (fun cs' => K (pc + 3) lv r cs' mem) else none
    | _, _ => none
  | .if_icmp c off => match st, ri_tg pc off with
    | b :: a :: r, some t => if ri_k a = 0 ∧ ri_k b = 0 ∧ len = 3 then ri_br cs (ri_cnd c a b) (fun cs' => K t lv r cs' mem) (fun cs' => K (pc + 3) lv r cs' mem) else none
    | _, _ => none
  | .ifnull off => match st, ri_tg pc off with
    | a :: r, some t => if len = 3 then (if ri_k a = 3 then K t lv r cs mem else if ri_k a = 2 then K (pc + 3) lv r cs mem else none) else none
    | _, _ => none
  | .ifnonnull off => match st, ri_tg pc off with
    | a :: r, some t => if len = 3 then (if ri_k a = 2 then K t lv r cs mem else if ri_k a = 3 then K (pc + 3) lv r cs mem else none) else none
    | _, _ => none
  | .tableswitch d lo hi offs => match st with
    | x :: r => if ri_k x = 0 ∧ hi = lo + (offs.size : Int) - 1 ∧ -2147483648 ≤ lo ∧ hi < 2147483648 then ri_chain x pc (fun t cs' => K t lv r cs' mem) d (offs.toList.mapIdx (fun j o => (lo + (j : Int), o))) cs else none
    | _ => none
  | .ireturn => if len = 1 then ri_ans M st cs mem ri_okI else none
  | .areturn => if len = 1 then ri_ans M st cs mem ri_okA else none
  | .dreturn => if len = 1 then ri_ans M st cs mem ri_okD else none
  | .freturn => if len = 1 then ri_ans M st cs mem ri_okF else none
  | .return_ => match st, ri_rt M with
    | [], none => if len = 1 then some ([(cs, mem, .inl none)], 0, 0, []) else none
    | _, _ => none
  | .new ik => if len = 3 then ri_thr G M pc ik st cs mem else none
  | .invokevirtual idx => if len = 3 then ri_inv G call M K 0 pc idx lv st cs mem else none
  | .invokestatic idx => if len = 3 then ri_inv G call M K 1 pc idx lv st cs mem else none
  | .invokespecial idx => if len = 3 then ri_inv G call M K 2 pc idx lv st cs mem else none
  | _ => none
/-- one step, and what follows -/
def ri_one (G : ri_Tb) (call : ri_Call) (M : ri_Mt) (K : ri_K) (pc : Nat) (lv : List (Nat × Jvm.Term)) (st : List Jvm.Term) (cs : List ri_Cd) (mem : ri_Me) : Option ri_Rs := match (ri_co M)[pc]? with
  | some (some (i, len)) => match ri_pure (ri_mx M) i lv st with
    | some (len', lv', st') => if len' = len then K (pc + len) lv' st' cs mem else none
    | none => match ri_heap G M cs i st mem with
      | some x => if x.1 = len then ri_more x.2.2.2.1 x.2.2.2.2.1 x.2.2.2.2.2 (K (pc + len) lv x.2.1 cs x.2.2.1) else none
      | none => ri_ctl G call M K pc i len lv st cs mem
  | _ => none
noncomputable def ri_run (G : ri_Tb) (call : ri_Call) (M : ri_Mt) (f : Nat) : ri_K := Nat.rec (motive := fun _ => ri_K) (fun _ _ _ _ _ => none) (fun _ K pc lv st cs mem => ri_one G call M K pc lv st cs mem) f
theorem ri_run_0 {G : ri_Tb} {call : ri_Call} {M : ri_Mt} {pc : Nat} {lv : List (Nat × Jvm.Term)} {st : List Jvm.Term} {cs : List ri_Cd} {mem : ri_Me} : ri_run G call M 0 pc lv st cs mem = none := rfl
theorem ri_run_S {G : ri_Tb} {call : ri_Call} {M : ri_Mt} {f pc : Nat} {lv : List (Nat × Jvm.Term)} {st : List Jvm.Term} {cs : List ri_Cd} {mem : ri_Me} : ri_run G call M (f + 1) pc lv st cs mem = ri_one G call M (ri_run G call M f) pc lv st cs mem := rfl
/-- the locals with which a method begins -/
def ri_args : Nat → List Jvm.Term → List (Nat × Jvm.Term)
  | _, [] => []
  | i, t :: ts => (i, t) :: ri_args (if ri_wide t = true then i + 2 else i + 1) ts
noncomputable def ri_call (G : ri_Tb) (fuel d : Nat) : ri_Call := Nat.rec (motive := fun _ => ri_Call) (fun _ _ _ _ => none) (fun _ C mi args cs mem => match (ri_mts G)[mi]? with
    | some M => if (args.map (fun t => if ri_wide t = true then 2 else 1)).sum ≤ ri_mx M then ri_run G C M fuel 0 (ri_args 0 args) [] cs mem else none
    | none => none) d
theorem ri_call_0 {G : ri_Tb} {fuel mi : Nat} {args : List Jvm.Term} {cs : List ri_Cd} {mem : ri_Me} : ri_call G fuel 0 mi args cs mem = none := rfl
theorem ri_call_S {G : ri_Tb} {fuel d mi : Nat} {args : List Jvm.Term} {cs : List ri_Cd} {mem : ri_Me} : ri_call G fuel (d + 1) mi args cs mem = (match (ri_mts G)[mi]? with
    | some M => if (args.map (fun t => if ri_wide t = true then 2 else 1)).sum ≤ ri_mx M then ri_run G (ri_call G fuel d) M fuel 0 (ri_args 0 args) [] cs mem else none
    | none => none) := rfl
end RIR
