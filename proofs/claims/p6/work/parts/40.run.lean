/-! RA: runs over known values: what a run of RI without unknowns does, told of a map of the cells' ints; one row an instruction -/
section RA
abbrev ra_I (z : Int) : Jvm.Term := .int (Int32.ofInt z)
abbrev ra_J (z : Int) : Jvm.Term := .long (Int64.ofInt z)
def ra_B (p : Prop) [Decidable p] : Jvm.Term := ra_I (if p then 1 else 0)
/-- what the cells hold: cell, place -/
abbrev ra_V : Type := Nat → Nat → Int32
def ra_g (σ : ra_V) (k j : Nat) : Int := (σ k j).toInt
def ra_up (σ : ra_V) (k j : Nat) (z : Int) : ra_V := fun a b => if a = k ∧ b = j then Int32.ofInt z else σ a b
/-- an int's value out of a number -/
def ra_w (z : Int) : Int := (Int32.ofInt z).toInt
def ra_in (z : Int) : Prop := -2147483648 ≤ z ∧ z ≤ 2147483647
/-- the shape of a cell: an object: its class, of each field: an int or a fixed value; a row: its type, its length, are its values longs, or fixed values -/
abbrev ra_Hc : Type := (Nat × List (Option Jvm.Term)) ⊕ (Nat × Nat × Bool × Option (List Jvm.Term))
abbrev ra_Sh : Type := List ra_Hc
/-- a field's value: an int; a truth value (mark: .arg); a fixed value -/
def ra_fv (f : Nat → Int32) (j : Nat) : Option Jvm.Term → Jvm.Term
  | none => .int (f j)
  | some (.arg _) => if f j = 0 then .int 0 else .int 1
  | some t => t
def ra_fs (f : Nat → Int32) (fl : List (Option Jvm.Term)) : List Jvm.Term := fl.mapIdx (ra_fv f)
def ra_cell (f : Nat → Int32) : ra_Hc → ri_Ce → Prop
  | .inl (ci, fl), .inl (ci2, fs) => ci2 = ci ∧ fs = ra_fs f fl
  | .inr (ty, n, lg, none), .inr (ty2, n2, d, ov) => ty2 = ty ∧ n2 = n ∧ ∀ j, j < n → ri_look d ov j = if lg = true then .long (f j).toInt64 else .int (f j)
  | .inr (ty, n, _, some l), .inr (ty2, n2, d, ov) => ty2 = ty ∧ n2 = n ∧ ∀ j, j < n → l[j]? = some (ri_look d ov j)
  | _, _ => False
def ra_rep (sh : ra_Sh) (σ : ra_V) (mem : ri_Me) : Prop := mem.length = sh.length ∧ ∀ k h, sh[k]? = some h → ∃ e, mem[k]? = some e ∧ ra_cell (σ k) h e
abbrev ra_R : Type := Option Jvm.Term ⊕ String
abbrev ra_Q : Type := ra_R → ra_V → Prop
def ra_x : ra_R → Nat
  | .inl _ => 0
  | .inr _ => 1
/-- it ends in one way, so -/
def ra_end (sh : ra_Sh) (b : Nat) (r : ra_R) (σ : ra_V) (o : Option ri_Rs) : Prop := ∃ mem c s, o = some ([([], mem, r)], c, s, []) ∧ ra_rep sh σ mem ∧ c ≤ b + ra_x r ∧ s ≤ 6 * (b + ra_x r)
def ra_lv (lv : List (Nat × Jvm.Term)) (L : List (Option Jvm.Term)) : Prop := ∀ i t, L[i]? = some (some t) → ri_ld lv i = some t
/-- a place of a method from which it ends so -/
def ra_P (G : ri_Tb) (sh : ra_Sh) (b d : Nat) (M : ri_Mt) (pc : Nat) (L : List (Option Jvm.Term)) (st : List Jvm.Term) (σ : ra_V) (Q : ra_Q) : Prop :=
  ∃ r σ' F, Q r σ' ∧ ∀ f g, F ≤ f → F ≤ g → ∀ lv mem, ra_lv lv L → ra_rep sh σ mem → ra_end sh b r σ' (ri_run G (ri_call G g d) M f pc lv st [] mem)
/-- a call that ends so -/
def ra_C (G : ri_Tb) (sh : ra_Sh) (b d mi : Nat) (args : List Jvm.Term) (σ : ra_V) (Q : ra_Q) : Prop :=
  ∃ r σ' F, Q r σ' ∧ ∀ g, F ≤ g → ∀ mem, ra_rep sh σ mem → ra_end sh b r σ' (ri_call G g d mi args [] mem)
section RA1
variable {G : ri_Tb} {sh : ra_Sh} {b b2 d : Nat} {M : ri_Mt} {pc pc' len : Nat} {L L' : List (Option Jvm.Term)} {st st' : List Jvm.Term} {σ σ' : ra_V} {Q Q' : ra_Q} {i : Instr}
variable {C : ri_Call} {K : ri_K} {lv lv' : List (Nat × Jvm.Term)} {cs : List ri_Cd} {mem mem' : ri_Me}
theorem ra_end_mono {o : Option ri_Rs} {r : ra_R} (h : ra_end sh b r σ o) (hb : b ≤ b2) : ra_end sh b2 r σ o := by
  obtain ⟨mem, c, s, h1, h2, h4, h5⟩ := h
  exact ⟨mem, c, s, h1, h2, by omega, by omega⟩
theorem ra_P_mono {b2 : Nat} (h : ra_P G sh b d M pc L st σ Q) (hq : ∀ r σ, Q r σ → Q' r σ) (hb : b ≤ b2) : ra_P G sh b2 d M pc L st σ Q' := by
  obtain ⟨r, σ', F, q, h⟩ := h
  exact ⟨r, σ', F, hq r σ' q, fun f g hf hg lv mem h1 h2 => ra_end_mono (h f g hf hg lv mem h1 h2) hb⟩
theorem ra_C_mono {mi : Nat} {args : List Jvm.Term} (h : ra_C G sh b d mi args σ Q) (hq : ∀ r σ, Q r σ → Q' r σ) (hb : b ≤ b2) : ra_C G sh b2 d mi args σ Q' := by
  obtain ⟨r, σ', F, q, h⟩ := h
  exact ⟨r, σ', F, hq r σ' q, fun g hg mem h2 => ra_end_mono (h g hg mem h2) hb⟩
theorem ra_C_imp {mi : Nat} {args : List Jvm.Term} (h : ra_C G sh b d mi args σ Q) (hq : ∀ r σ, Q r σ → Q' r σ) : ra_C G sh b d mi args σ Q' := ra_C_mono h hq (Nat.le_refl _)
theorem ra_one_pure (hd : (ri_co M)[pc]? = some (some (i, len))) (hp : ri_pure (ri_mx M) i lv st = some (len, lv', st')) : ri_one G C M K pc lv st cs mem = K (pc + len) lv' st' cs mem := by
  unfold ri_one
  rw [hd]
  dsimp only
  rw [hp]
  dsimp only
  rw [if_pos rfl]
theorem ra_more0 (r : Option ri_Rs) : ri_more 0 0 [] r = r := by
  unfold ri_more
  cases r with
  | none => rfl
  | some x => obtain ⟨a, b, c, e⟩ := x; simp
theorem ra_one_heap (hd : (ri_co M)[pc]? = some (some (i, len))) (hp : ri_pure (ri_mx M) i lv st = none) (hh : ri_heap G M cs i st mem = some (len, st', mem', 0, 0, [])) : ri_one G C M K pc lv st cs mem = K (pc + len) lv st' cs mem' := by
  unfold ri_one
  rw [hd]
  dsimp only
  rw [hp]
  dsimp only
  rw [hh]
  dsimp only
  rw [if_pos rfl, ra_more0]
theorem ra_one_ctl (hd : (ri_co M)[pc]? = some (some (i, len))) (hp : ri_pure (ri_mx M) i lv st = none) (hh : ri_heap G M cs i st mem = none) (hf : ri_foc i st = none) : ri_one G C M K pc lv st cs mem = ri_ctl G C M K pc i len lv st cs mem := by
  unfold ri_one
  rw [hd]
  dsimp only
  rw [hp]
  dsimp only
  rw [hh]
  dsimp only
  rw [hf]
/-- one step -/
theorem ra_go (h : ∀ (C : ri_Call) (K : ri_K) lv mem, ra_lv lv L → ra_rep sh σ mem → ∃ lv' mem', ra_lv lv' L' ∧ ra_rep sh σ' mem' ∧ ri_one G C M K pc lv st [] mem = K pc' lv' st' [] mem') (k : ra_P G sh b d M pc' L' st' σ' Q) : ra_P G sh b d M pc L st σ Q := by
  obtain ⟨r, σ2, F, q, k⟩ := k
  refine ⟨r, σ2, F + 1, q, fun f g hf hg lv mem h1 h2 => ?_⟩
  obtain ⟨f, rfl⟩ : ∃ f2, f = f2 + 1 := ⟨f - 1, by omega⟩
  obtain ⟨lv', mem', g1, g2, g3⟩ := h (ri_call G g d) (ri_run G (ri_call G g d) M f) lv mem h1 h2
  show ra_end sh b r σ2 (ri_one G (ri_call G g d) M (ri_run G (ri_call G g d) M f) pc lv st [] mem)
  rw [g3]
  exact k f g (by omega) (by omega) lv' mem' g1 g2
theorem ra_pure (hd : (ri_co M)[pc]? = some (some (i, len))) (hp : ∀ lv, ra_lv lv L → ∃ lv', ra_lv lv' L' ∧ ri_pure (ri_mx M) i lv st = some (len, lv', st')) (k : ra_P G sh b d M (pc + len) L' st' σ Q) : ra_P G sh b d M pc L st σ Q :=
  ra_go (fun C K lv mem h1 h2 => by
    obtain ⟨lv', g1, g2⟩ := hp lv h1
    exact ⟨lv', mem, g1, h2, ra_one_pure hd g2⟩) k
theorem ra_heap (hd : (ri_co M)[pc]? = some (some (i, len))) (hp : ∀ lv, ri_pure (ri_mx M) i lv st = none) (hh : ∀ mem, ra_rep sh σ mem → ∃ mem', ra_rep sh σ' mem' ∧ ri_heap G M [] i st mem = some (len, st', mem', 0, 0, [])) (k : ra_P G sh b d M (pc + len) L st' σ' Q) : ra_P G sh b d M pc L st σ Q :=
  ra_go (fun C K lv mem h1 h2 => by
    obtain ⟨mem', g1, g2⟩ := hh mem h2
    exact ⟨lv, mem', h1, g1, ra_one_heap hd (hp lv) g2⟩) k
/-! numbers -/
theorem ra_ofI {z : Int} (h : ra_in z) : (Int32.ofInt z).toInt = z := ri_ofI h.1 (by have := h.2; omega)
theorem ra_w_id {z : Int} (h : ra_in z) : ra_w z = z := ra_ofI h
theorem ra_w_in (z : Int) : ra_in (ra_w z) := ⟨Int32.le_toInt _, by have := Int32.toInt_lt (Int32.ofInt z); unfold ra_w; omega⟩
theorem ra_I_w (z : Int) : ra_I (ra_w z) = ra_I z := congrArg Jvm.Term.int (Int32.ofInt_toInt _)
theorem ra_I_g (σ : ra_V) (k j : Nat) : ra_I (ra_g σ k j) = .int (σ k j) := congrArg Jvm.Term.int (Int32.ofInt_toInt _)
theorem ra_in_g (σ : ra_V) (k j : Nat) : ra_in (ra_g σ k j) := ⟨Int32.le_toInt _, by have := Int32.toInt_lt (σ k j); unfold ra_g; omega⟩
theorem ra_lt {x y : Int} (hx : ra_in x) (hy : ra_in y) : Int32.ofInt x < Int32.ofInt y ↔ x < y := by rw [Int32.lt_iff_toInt_lt, ra_ofI hx, ra_ofI hy]
theorem ra_eq {x y : Int} (hx : ra_in x) (hy : ra_in y) : Int32.ofInt x = Int32.ofInt y ↔ x = y := by rw [← Int32.toInt_inj, ra_ofI hx, ra_ofI hy]
theorem ra_in0 : ra_in 0 := by unfold ra_in; omega
/-! instructions that touch neither heap nor course -/
def ra_kok (kd : Nat) (t : Jvm.Term) : Bool := match kd with
  | 2 => ri_k t == 2 || ri_k t == 3
  | k => ri_k t == k
def ra_ldk : Instr → Option (Nat × Nat × Nat)
  | .iload k => some (k, 2, 0)
  | .iload_n k => some (k.val, 1, 0)
  | .lload k => some (k, 2, 1)
  | .lload_n k => some (k.val, 1, 1)
  | .aload k => some (k, 2, 2)
  | .aload_n k => some (k.val, 1, 2)
  | .dload k => some (k, 2, 4)
  | .dload_n k => some (k.val, 1, 4)
  | _ => none
theorem ra_pl_eq {len kk k : Nat} {t : Jvm.Term} (h : ri_ld lv k = some t) (hk : ri_k t = kk) : ri_pl len kk lv k st = some (len, lv, t :: st) := by
  unfold ri_pl
  rw [h]
  dsimp only
  rw [if_pos hk]
theorem ra_pa_eq {len k : Nat} {t : Jvm.Term} (h : ri_ld lv k = some t) (hk : ri_k t = 2 ∨ ri_k t = 3) : ri_pa len lv k st = some (len, lv, t :: st) := by
  unfold ri_pa
  rw [h]
  dsimp only
  rw [if_pos hk]
theorem ra_kok2 {t : Jvm.Term} (h : ra_kok 2 t = true) : ri_k t = 2 ∨ ri_k t = 3 := by
  simpa [ra_kok] using h
theorem ra_load {k kd : Nat} {t : Jvm.Term} (hd : (ri_co M)[pc]? = some (some (i, len))) (hi : ra_ldk i = some (k, len, kd)) (hl : L[k]? = some (some t)) (ht : ra_kok kd t = true) (kk : ra_P G sh b d M (pc + len) L (t :: st) σ Q) : ra_P G sh b d M pc L st σ Q := by
  refine ra_pure hd (fun lv h => ⟨lv, h, ?_⟩) kk
  have h1 := h k t hl
  cases i with
  | iload n => cases hi; exact ra_pl_eq h1 (beq_iff_eq.mp ht)
  | iload_n n => cases hi; exact ra_pl_eq h1 (beq_iff_eq.mp ht)
  | lload n => cases hi; exact ra_pl_eq h1 (beq_iff_eq.mp ht)
  | lload_n n => cases hi; exact ra_pl_eq h1 (beq_iff_eq.mp ht)
  | aload n => cases hi; exact ra_pa_eq h1 (ra_kok2 ht)
  | aload_n n => cases hi; exact ra_pa_eq h1 (ra_kok2 ht)
  | dload n => cases hi; exact ra_pl_eq h1 (beq_iff_eq.mp ht)
  | dload_n n => cases hi; exact ra_pl_eq h1 (beq_iff_eq.mp ht)
  | _ => cases hi
/-- a place ahead of one that is written: a wide value there is lost -/
def ra_kl : Option Jvm.Term → Option Jvm.Term
  | some t => if ri_wide t = true then none else some t
  | none => none
def ra_sto : List (Option Jvm.Term) → Nat → Jvm.Term → List (Option Jvm.Term)
  | [], _, _ => []
  | _ :: l, 0, t => some t :: l
  | o :: l, 1, t => ra_kl o :: ra_sto l 0 t
  | o :: l, k + 2, t => o :: ra_sto l (k + 1) t
/-- a wide value -/
def ra_sto2 : List (Option Jvm.Term) → Nat → Jvm.Term → List (Option Jvm.Term)
  | [], _, _ => []
  | [_], 0, _ => [none]
  | _ :: _ :: l, 0, t => some t :: none :: l
  | o :: l, 1, t => ra_kl o :: ra_sto2 l 0 t
  | o :: l, k + 2, t => o :: ra_sto2 l (k + 1) t
theorem ra_kl_s {o : Option Jvm.Term} {t : Jvm.Term} (h : ra_kl o = some t) : o = some t ∧ ri_wide t = false := by
  unfold ra_kl at h
  split at h
  · next t2 =>
    split at h
    · cases h
    · next hw => cases h; exact ⟨rfl, by simpa using hw⟩
  · cases h
theorem ra_sto_s : ∀ {L : List (Option Jvm.Term)} {k : Nat} {t : Jvm.Term} {j : Nat} {u : Jvm.Term}, (ra_sto L k t)[j]? = some (some u) → (j = k ∧ u = t) ∨ (j ≠ k ∧ L[j]? = some (some u) ∧ (j + 1 = k → ri_wide u = false))
  | [], _, _, _, _, h => by simp [ra_sto] at h
  | o :: l, 0, t, 0, u, h => by
    have : some t = some u := by simpa [ra_sto] using h
    exact Or.inl ⟨rfl, (Option.some.inj this).symm⟩
  | o :: l, 0, t, j + 1, u, h => Or.inr ⟨Nat.succ_ne_zero _, by simpa [ra_sto] using h, fun z => absurd z (Nat.succ_ne_zero _)⟩
  | o :: l, 1, t, 0, u, h => by
    have h1 : ra_kl o = some u := by simpa [ra_sto] using h
    obtain ⟨h2, h3⟩ := ra_kl_s h1
    exact Or.inr ⟨by omega, by rw [h2]; rfl, fun _ => h3⟩
  | o :: l, 1, t, j + 1, u, h => by
    have h1 : (ra_sto l 0 t)[j]? = some (some u) := by simpa [ra_sto] using h
    rcases ra_sto_s h1 with ⟨e, e2⟩ | ⟨e, e2, e3⟩
    · exact Or.inl ⟨by omega, e2⟩
    · exact Or.inr ⟨by omega, by simpa using e2, fun z => by omega⟩
  | o :: l, k + 2, t, 0, u, h => Or.inr ⟨by omega, by simpa [ra_sto] using h, fun z => by omega⟩
  | o :: l, k + 2, t, j + 1, u, h => by
    have h1 : (ra_sto l (k + 1) t)[j]? = some (some u) := by simpa [ra_sto] using h
    rcases ra_sto_s h1 with ⟨e, e2⟩ | ⟨e, e2, e3⟩
    · exact Or.inl ⟨by omega, e2⟩
    · exact Or.inr ⟨by omega, by simpa using e2, fun z => e3 (by omega)⟩
theorem ra_sto2_s : ∀ {L : List (Option Jvm.Term)} {k : Nat} {t : Jvm.Term} {j : Nat} {u : Jvm.Term}, (ra_sto2 L k t)[j]? = some (some u) → (j = k ∧ u = t) ∨ (j ≠ k ∧ j ≠ k + 1 ∧ L[j]? = some (some u) ∧ (j + 1 = k → ri_wide u = false))
  | [], _, _, _, _, h => by simp [ra_sto2] at h
  | [o], 0, t, 0, u, h => by simp [ra_sto2] at h
  | [o], 0, t, j + 1, u, h => by simp [ra_sto2] at h
  | o :: o2 :: l, 0, t, 0, u, h => by
    have : some t = some u := by simpa [ra_sto2] using h
    exact Or.inl ⟨rfl, (Option.some.inj this).symm⟩
  | o :: o2 :: l, 0, t, 1, u, h => by simp [ra_sto2] at h
  | o :: o2 :: l, 0, t, j + 2, u, h => Or.inr ⟨by omega, by omega, by simpa [ra_sto2] using h, fun z => by omega⟩
  | o :: l, 1, t, 0, u, h => by
    have h1 : ra_kl o = some u := by simpa [ra_sto2] using h
    obtain ⟨h2, h3⟩ := ra_kl_s h1
    exact Or.inr ⟨by omega, by omega, by rw [h2]; rfl, fun _ => h3⟩
  | o :: l, 1, t, j + 1, u, h => by
    have h1 : (ra_sto2 l 0 t)[j]? = some (some u) := by simpa [ra_sto2] using h
    rcases ra_sto2_s h1 with ⟨e, e2⟩ | ⟨e, e4, e2, e3⟩
    · exact Or.inl ⟨by omega, e2⟩
    · exact Or.inr ⟨by omega, by omega, by simpa using e2, fun z => by omega⟩
  | o :: l, k + 2, t, 0, u, h => Or.inr ⟨by omega, by omega, by simpa [ra_sto2] using h, fun z => by omega⟩
  | o :: l, k + 2, t, j + 1, u, h => by
    have h1 : (ra_sto2 l (k + 1) t)[j]? = some (some u) := by simpa [ra_sto2] using h
    rcases ra_sto2_s h1 with ⟨e, e2⟩ | ⟨e, e4, e2, e3⟩
    · exact Or.inl ⟨by omega, e2⟩
    · exact Or.inr ⟨by omega, by omega, by simpa using e2, fun z => e3 (by omega)⟩
theorem ra_ld_filter {p : Nat × Jvm.Term → Bool} {j : Nat} {u : Jvm.Term} (h : ri_ld lv j = some u) (hp : p (j, u) = true) : ri_ld (lv.filter p) j = some u := by
  unfold ri_ld at h ⊢
  induction lv with
  | nil => simp at h
  | cons a l ih =>
    by_cases ha : a.1 = j
    · have h2 : a.2 = u := by simpa [ha] using h
      have ha2 : a = (j, u) := Prod.ext ha h2
      rw [ha2, List.filter_cons_of_pos hp]
      simp
    · have h2 : (l.find? (fun q => q.1 == j)).map (fun q => q.2) = some u := by simpa [ha] using h
      by_cases hq : p a = true
      · rw [List.filter_cons_of_pos hq]
        simpa [ha] using ih h2
      · rw [List.filter_cons_of_neg hq]
        exact ih h2
theorem ra_lv_sto {k : Nat} {t : Jvm.Term} (h : ra_lv lv L) : ra_lv (ri_sto lv k t) (ra_sto L k t) := by
  intro j u hj
  rcases ra_sto_s hj with ⟨rfl, rfl⟩ | ⟨h1, h2, h3⟩
  · unfold ri_sto ri_ld
    simp
  · unfold ri_sto
    have h4 := ra_ld_filter (p := fun q => !(q.1 == k) && !(q.1 + 1 == k && ri_wide q.2)) (h j u h2) (by
      have e1 : (j == k) = false := by simpa using h1
      by_cases e : j + 1 = k
      · simp [e1, h3 e]
      · simp [e1, e])
    unfold ri_ld at h4 ⊢
    rw [List.find?_cons_of_neg (by simpa using Ne.symm h1)]
    exact h4
theorem ra_lv_sto2 {k : Nat} {t : Jvm.Term} (h : ra_lv lv L) : ra_lv (ri_sto2 lv k t) (ra_sto2 L k t) := by
  intro j u hj
  rcases ra_sto2_s hj with ⟨rfl, rfl⟩ | ⟨h1, h5, h2, h3⟩
  · unfold ri_sto2 ri_ld
    simp
  · unfold ri_sto2
    have h4 := ra_ld_filter (p := fun q => !(q.1 == k) && (!(q.1 == k + 1) && !(q.1 + 1 == k && ri_wide q.2))) (h j u h2) (by
      have e1 : (j == k) = false := by simpa using h1
      have e2 : (j == k + 1) = false := by simpa using h5
      by_cases e : j + 1 = k
      · simp [e1, h3 e, e2]
      · simp [e1, e, e2])
    unfold ri_ld at h4 ⊢
    rw [List.find?_cons_of_neg (by simpa using Ne.symm h1)]
    exact h4
def ra_stk : Instr → Option (Nat × Nat × Nat)
  | .istore k => some (k, 2, 0)
  | .istore_n k => some (k.val, 1, 0)
  | .astore k => some (k, 2, 2)
  | .astore_n k => some (k.val, 1, 2)
  | _ => none
def ra_stk2 : Instr → Option (Nat × Nat × Nat)
  | .lstore k => some (k, 2, 1)
  | .lstore_n k => some (k.val, 1, 1)
  | .dstore k => some (k, 2, 4)
  | .dstore_n k => some (k.val, 1, 4)
  | _ => none
theorem ra_store {k kd : Nat} {t : Jvm.Term} (hd : (ri_co M)[pc]? = some (some (i, len))) (hi : ra_stk i = some (k, len, kd)) (ht : ra_kok kd t = true) (hk : k < ri_mx M) (hL : ra_sto L k t = L') (kk : ra_P G sh b d M (pc + len) L' st σ Q) : ra_P G sh b d M pc L (t :: st) σ Q := by
  subst hL
  refine ra_pure hd (fun lv h => ⟨ri_sto lv k t, ra_lv_sto h, ?_⟩) kk
  cases i with
  | istore n => cases hi; simp only [ri_pure, ri_ps]; rw [if_pos ⟨beq_iff_eq.mp ht, hk⟩]
  | istore_n n => cases hi; simp only [ri_pure, ri_ps]; rw [if_pos ⟨beq_iff_eq.mp ht, hk⟩]
  | astore n => cases hi; simp only [ri_pure, ri_psa]; rw [if_pos ⟨ra_kok2 ht, hk⟩]
  | astore_n n => cases hi; simp only [ri_pure, ri_psa]; rw [if_pos ⟨ra_kok2 ht, hk⟩]
  | _ => cases hi
theorem ra_store2 {k kd : Nat} {t : Jvm.Term} (hd : (ri_co M)[pc]? = some (some (i, len))) (hi : ra_stk2 i = some (k, len, kd)) (ht : ra_kok kd t = true) (hk : k + 1 < ri_mx M) (hL : ra_sto2 L k t = L') (kk : ra_P G sh b d M (pc + len) L' st σ Q) : ra_P G sh b d M pc L (t :: st) σ Q := by
  subst hL
  refine ra_pure hd (fun lv h => ⟨ri_sto2 lv k t, ra_lv_sto2 h, ?_⟩) kk
  cases i with
  | lstore n => cases hi; simp only [ri_pure, ri_ps2]; rw [if_pos ⟨beq_iff_eq.mp ht, hk⟩]
  | lstore_n n => cases hi; simp only [ri_pure, ri_ps2]; rw [if_pos ⟨beq_iff_eq.mp ht, hk⟩]
  | dstore n => cases hi; simp only [ri_pure, ri_psd]; rw [if_pos ⟨beq_iff_eq.mp ht, hk⟩]
  | dstore_n n => cases hi; simp only [ri_pure, ri_psd]; rw [if_pos ⟨beq_iff_eq.mp ht, hk⟩]
  | _ => cases hi
end RA1
end RA
