section
/-! RA: runs over known values: what a run of RI without unknowns does, told of a map of the cells' ints; one row an instruction -/
section RA
abbrev ra_I (z : Int) : Jvm.Term := .int (Int32.ofInt z)
abbrev ra_J (z : Int) : Jvm.Term := .long (Int64.ofInt z)
def ra_B (p : Prop) [Decidable p] : Jvm.Term := ra_I (if p then 1 else 0)
/-- what the cells hold: cell, place -/
abbrev ra_V : Type := Nat → Nat → Int32
def ra_g (σ : ra_V) (k j : Nat) : Int := (σ k j).toInt
def ra_up (σ : ra_V) (k j : Nat) (z : Int) : ra_V := fun a b => if a = k ∧ b = j then Int32.ofInt z else σ a b
/-- an int's value out of a number -/
def ra_w (z : Int) : Int := (Int32.ofInt z).toInt
def ra_in (z : Int) : Prop := -2147483648 ≤ z ∧ z ≤ 2147483647
/-- the shape of a cell: an object: its class, of each field: an int or a fixed value; a row: its type, its length, are its values longs, or fixed values -/
abbrev ra_Hc : Type := (Nat × List (Option Jvm.Term)) ⊕ (Nat × Nat × Bool × Option (List Jvm.Term))
abbrev ra_Sh : Type := List ra_Hc
/-- a field's value: an int; a truth value (mark: .arg); a fixed value -/
def ra_fv (f : Nat → Int32) (j : Nat) : Option Jvm.Term → Jvm.Term
  | none => .int (f j)
  | some (.arg _) => if f j = 0 then .int 0 else .int 1
  | some t => t
def ra_fs (f : Nat → Int32) (fl : List (Option Jvm.Term)) : List Jvm.Term := fl.mapIdx (ra_fv f)
def ra_cell (f : Nat → Int32) : ra_Hc → ri_Ce → Prop
  | .inl (ci, fl), .inl (ci2, fs) => ci2 = ci ∧ fs = ra_fs f fl
  | .inr (ty, n, lg, none), .inr (ty2, n2, d, ov) => ty2 = ty ∧ n2 = n ∧ ∀ j, j < n → ri_look d ov j = if lg = true then .long (f j).toInt64 else .int (f j)
  | .inr (ty, n, _, some l), .inr (ty2, n2, d, ov) => ty2 = ty ∧ n2 = n ∧ ∀ j, j < n → l[j]? = some (ri_look d ov j)
  | _, _ => False
def ra_rep (sh : ra_Sh) (σ : ra_V) (mem : ri_Me) : Prop := mem.length = sh.length ∧ ∀ k h, sh[k]? = some h → ∃ e, mem[k]? = some e ∧ ra_cell (σ k) h e
abbrev ra_R : Type := Option Jvm.Term ⊕ String
abbrev ra_Q : Type := ra_R → ra_V → Prop
def ra_x : ra_R → Nat
  | .inl _ => 0
  | .inr _ => 1
/-- it ends in one way, so -/
def ra_end (sh : ra_Sh) (b : Nat) (r : ra_R) (σ : ra_V) (o : Option ri_Rs) : Prop := ∃ mem c s, o = some ([([], mem, r)], c, s, []) ∧ ra_rep sh σ mem ∧ c ≤ b + ra_x r ∧ s ≤ 6 * (b + ra_x r)
def ra_lv (lv : List (Nat × Jvm.Term)) (L : List (Option Jvm.Term)) : Prop := ∀ i t, L[i]? = some (some t) → ri_ld lv i = some t
/-- a place of a method from which it ends so -/
def ra_P (G : ri_Tb) (sh : ra_Sh) (b d : Nat) (M : ri_Mt) (pc : Nat) (L : List (Option Jvm.Term)) (st : List Jvm.Term) (σ : ra_V) (Q : ra_Q) : Prop :=
  ∃ r σ' F, Q r σ' ∧ ∀ f g, F ≤ f → F ≤ g → ∀ lv mem, ra_lv lv L → ra_rep sh σ mem → ra_end sh b r σ' (ri_run G (ri_call G g d) M f pc lv st [] mem)
/-- a call that ends so -/
def ra_C (G : ri_Tb) (sh : ra_Sh) (b d mi : Nat) (args : List Jvm.Term) (σ : ra_V) (Q : ra_Q) : Prop :=
  ∃ r σ' F, Q r σ' ∧ ∀ g, F ≤ g → ∀ mem, ra_rep sh σ mem → ra_end sh b r σ' (ri_call G g d mi args [] mem)
section RA1
variable {G : ri_Tb} {sh : ra_Sh} {b b2 d : Nat} {M : ri_Mt} {pc pc' len : Nat} {L L' : List (Option Jvm.Term)} {st st' : List Jvm.Term} {σ σ' : ra_V} {Q Q' : ra_Q} {i : Instr}
variable {C : ri_Call} {K : ri_K} {lv lv' : List (Nat × Jvm.Term)} {cs : List ri_Cd} {mem mem' : ri_Me}
theorem ra_end_mono {o : Option ri_Rs} {r : ra_R} (h : ra_end sh b r σ o) (hb : b ≤ b2) : ra_end sh b2 r σ o := by
  obtain ⟨mem, c, s, h1, h2, h4, h5⟩ := h
  exact ⟨mem, c, s, h1, h2, by omega, by omega⟩
theorem ra_P_mono {b2 : Nat} (h : ra_P G sh b d M pc L st σ Q) (hq : ∀ r σ, Q r σ → Q' r σ) (hb : b ≤ b2) : ra_P G sh b2 d M pc L st σ Q' := by
  obtain ⟨r, σ', F, q, h⟩ := h
  exact ⟨r, σ', F, hq r σ' q, fun f g hf hg lv mem h1 h2 => ra_end_mono (h f g hf hg lv mem h1 h2) hb⟩
theorem ra_C_mono {mi : Nat} {args : List Jvm.Term} (h : ra_C G sh b d mi args σ Q) (hq : ∀ r σ, Q r σ → Q' r σ) (hb : b ≤ b2) : ra_C G sh b2 d mi args σ Q' := by
  obtain ⟨r, σ', F, q, h⟩ := h
  exact ⟨r, σ', F, hq r σ' q, fun g hg mem h2 => ra_end_mono (h g hg mem h2) hb⟩
theorem ra_C_imp {mi : Nat} {args : List Jvm.Term} (h : ra_C G sh b d mi args σ Q) (hq : ∀ r σ, Q r σ → Q' r σ) : ra_C G sh b d mi args σ Q' := ra_C_mono h hq (Nat.le_refl _)
theorem ra_one_pure (hd : (ri_co M)[pc]? = some (some (i, len))) (hp : ri_pure (ri_mx M) i lv st = some (len, lv', st')) : ri_one G C M K pc lv st cs mem = K (pc + len) lv' st' cs mem := by
  unfold ri_one
  rw [hd]
  dsimp only
  rw [hp]
  dsimp only
  rw [if_pos rfl]
theorem ra_more0 (r : Option ri_Rs) : ri_more 0 0 [] r = r := by
  unfold ri_more
  cases r with
  | none => rfl
  | some x => obtain ⟨a, b, c, e⟩ := x; simp
theorem ra_one_heap (hd : (ri_co M)[pc]? = some (some (i, len))) (hp : ri_pure (ri_mx M) i lv st = none) (hh : ri_heap G M cs i st mem = some (len, st', mem', 0, 0, [])) : ri_one G C M K pc lv st cs mem = K (pc + len) lv st' cs mem' := by
  unfold ri_one
  rw [hd]
  dsimp only
  rw [hp]
  dsimp only
  rw [hh]
  dsimp only
  rw [if_pos rfl, ra_more0]
theorem ra_one_ctl (hd : (ri_co M)[pc]? = some (some (i, len))) (hp : ri_pure (ri_mx M) i lv st = none) (hh : ri_heap G M cs i st mem = none) (hf : ri_foc i st = none) : ri_one G C M K pc lv st cs mem = ri_ctl G C M K pc i len lv st cs mem := by
  unfold ri_one
  rw [hd]
  dsimp only
  rw [hp]
  dsimp only
  rw [hh]
  dsimp only
  rw [hf]
/-- one step -/
theorem ra_go (h : ∀ (C : ri_Call) (K : ri_K) lv mem, ra_lv lv L → ra_rep sh σ mem → ∃ lv' mem', ra_lv lv' L' ∧ ra_rep sh σ' mem' ∧ ri_one G C M K pc lv st [] mem = K pc' lv' st' [] mem') (k : ra_P G sh b d M pc' L' st' σ' Q) : ra_P G sh b d M pc L st σ Q := by
  obtain ⟨r, σ2, F, q, k⟩ := k
  refine ⟨r, σ2, F + 1, q, fun f g hf hg lv mem h1 h2 => ?_⟩
  obtain ⟨f, rfl⟩ : ∃ f2, f = f2 + 1 := ⟨f - 1, by omega⟩
  obtain ⟨lv', mem', g1, g2, g3⟩ := h (ri_call G g d) (ri_run G (ri_call G g d) M f) lv mem h1 h2
  show ra_end sh b r σ2 (ri_one G (ri_call G g d) M (ri_run G (ri_call G g d) M f) pc lv st [] mem)
  rw [g3]
  exact k f g (by omega) (by omega) lv' mem' g1 g2
theorem ra_pure (hd : (ri_co M)[pc]? = some (some (i, len))) (hp : ∀ lv, ra_lv lv L → ∃ lv', ra_lv lv' L' ∧ ri_pure (ri_mx M) i lv st = some (len, lv', st')) (k : ra_P G sh b d M (pc + len) L' st' σ Q) : ra_P G sh b d M pc L st σ Q :=
  ra_go (fun C K lv mem h1 h2 => by
    obtain ⟨lv', g1, g2⟩ := hp lv h1
    exact ⟨lv', mem, g1, h2, ra_one_pure hd g2⟩) k
theorem ra_heap (hd : (ri_co M)[pc]? = some (some (i, len))) (hp : ∀ lv, ri_pure (ri_mx M) i lv st = none) (hh : ∀ mem, ra_rep sh σ mem → ∃ mem', ra_rep sh σ' mem' ∧ ri_heap G M [] i st mem = some (len, st', mem', 0, 0, [])) (k : ra_P G sh b d M (pc + len) L st' σ' Q) : ra_P G sh b d M pc L st σ Q :=
  ra_go (fun C K lv mem h1 h2 => by
    obtain ⟨mem', g1, g2⟩ := hh mem h2
    exact ⟨lv, mem', h1, g1, ra_one_heap hd (hp lv) g2⟩) k
/-! numbers -/
theorem ra_ofI {z : Int} (h : ra_in z) : (Int32.ofInt z).toInt = z := ri_ofI h.1 (by have := h.2; omega)
theorem ra_w_id {z : Int} (h : ra_in z) : ra_w z = z := ra_ofI h
theorem ra_w_in (z : Int) : ra_in (ra_w z) := ⟨Int32.le_toInt _, by have := Int32.toInt_lt (Int32.ofInt z); unfold ra_w; omega⟩
theorem ra_I_w (z : Int) : ra_I (ra_w z) = ra_I z := congrArg Jvm.Term.int (Int32.ofInt_toInt _)
theorem ra_I_g (σ : ra_V) (k j : Nat) : ra_I (ra_g σ k j) = .int (σ k j) := congrArg Jvm.Term.int (Int32.ofInt_toInt _)
theorem ra_in_g (σ : ra_V) (k j : Nat) : ra_in (ra_g σ k j) := ⟨Int32.le_toInt _, by have := Int32.toInt_lt (σ k j); unfold ra_g; omega⟩
theorem ra_lt {x y : Int} (hx : ra_in x) (hy : ra_in y) : Int32.ofInt x < Int32.ofInt y ↔ x < y := by rw [Int32.lt_iff_toInt_lt, ra_ofI hx, ra_ofI hy]
theorem ra_eq {x y : Int} (hx : ra_in x) (hy : ra_in y) : Int32.ofInt x = Int32.ofInt y ↔ x = y := by rw [← Int32.toInt_inj, ra_ofI hx, ra_ofI hy]
theorem ra_in0 : ra_in 0 := by unfold ra_in; omega
/-! instructions that touch neither heap nor course -/
def ra_kok (kd : Nat) (t : Jvm.Term) : Bool := match kd with
  | 2 => ri_k t == 2 || ri_k t == 3
  | k => ri_k t == k
def ra_ldk : Instr → Option (Nat × Nat × Nat)
  | .iload k => some (k, 2, 0)
  | .iload_n k => some (k.val, 1, 0)
  | .lload k => some (k, 2, 1)
  | .lload_n k => some (k.val, 1, 1)
  | .aload k => some (k, 2, 2)
  | .aload_n k => some (k.val, 1, 2)
  | .dload k => some (k, 2, 4)
  | .dload_n k => some (k.val, 1, 4)
  | _ => none
theorem ra_pl_eq {len kk k : Nat} {t : Jvm.Term} (h : ri_ld lv k = some t) (hk : ri_k t = kk) : ri_pl len kk lv k st = some (len, lv, t :: st) := by
  unfold ri_pl
  rw [h]
  dsimp only
  rw [if_pos hk]
theorem ra_pa_eq {len k : Nat} {t : Jvm.Term} (h : ri_ld lv k = some t) (hk : ri_k t = 2 ∨ ri_k t = 3) : ri_pa len lv k st = some (len, lv, t :: st) := by
  unfold ri_pa
  rw [h]
  dsimp only
  rw [if_pos hk]
theorem ra_kok2 {t : Jvm.Term} (h : ra_kok 2 t = true) : ri_k t = 2 ∨ ri_k t = 3 := by
  simpa [ra_kok] using h
theorem ra_load {k kd : Nat} {t : Jvm.Term} (hd : (ri_co M)[pc]? = some (some (i, len))) (hi : ra_ldk i = some (k, len, kd)) (hl : L[k]? = some (some t)) (ht : ra_kok kd t = true) (kk : ra_P G sh b d M (pc + len) L (t :: st) σ Q) : ra_P G sh b d M pc L st σ Q := by
  refine ra_pure hd (fun lv h => ⟨lv, h, ?_⟩) kk
  have h1 := h k t hl
  cases i with
  | iload n => cases hi; exact ra_pl_eq h1 (beq_iff_eq.mp ht)
  | iload_n n => cases hi; exact ra_pl_eq h1 (beq_iff_eq.mp ht)
  | lload n => cases hi; exact ra_pl_eq h1 (beq_iff_eq.mp ht)
  | lload_n n => cases hi; exact ra_pl_eq h1 (beq_iff_eq.mp ht)
  | aload n => cases hi; exact ra_pa_eq h1 (ra_kok2 ht)
  | aload_n n => cases hi; exact ra_pa_eq h1 (ra_kok2 ht)
  | dload n => cases hi; exact ra_pl_eq h1 (beq_iff_eq.mp ht)
  | dload_n n => cases hi; exact ra_pl_eq h1 (beq_iff_eq.mp ht)
  | _ => cases hi
/-- a place ahead of one that is written: a wide value there is lost -/
def ra_kl : Option Jvm.Term → Option Jvm.Term
  | some t => if ri_wide t = true then none else some t
  | none => none
def ra_sto : List (Option Jvm.Term) → Nat → Jvm.Term → List (Option Jvm.Term)
  | [], _, _ => []
  | _ :: l, 0, t => some t :: l
  | o :: l, 1, t => ra_kl o :: ra_sto l 0 t
  | o :: l, k + 2, t => o :: ra_sto l (k + 1) t
/-- a wide value -/
def ra_sto2 : List (Option Jvm.Term) → Nat → Jvm.Term → List (Option Jvm.Term)
  | [], _, _ => []
  | [_], 0, _ => [none]
  | _ :: _ :: l, 0, t => some t :: none :: l
  | o :: l, 1, t => ra_kl o :: ra_sto2 l 0 t
  | o :: l, k + 2, t => o :: ra_sto2 l (k + 1) t
theorem ra_kl_s {o : Option Jvm.Term} {t : Jvm.Term} (h : ra_kl o = some t) : o = some t ∧ ri_wide t = false := by
  unfold ra_kl at h
  split at h
  · next t2 =>
    split at h
    · cases h
    · next hw => cases h; exact ⟨rfl, by simpa using hw⟩
  · cases h
theorem ra_sto_s : ∀ {L : List (Option Jvm.Term)} {k : Nat} {t : Jvm.Term} {j : Nat} {u : Jvm.Term}, (ra_sto L k t)[j]? = some (some u) → (j = k ∧ u = t) ∨ (j ≠ k ∧ L[j]? = some (some u) ∧ (j + 1 = k → ri_wide u = false))
  | [], _, _, _, _, h => by simp [ra_sto] at h
  | o :: l, 0, t, 0, u, h => by
    have : some t = some u := by simpa [ra_sto] using h
    exact Or.inl ⟨rfl, (Option.some.inj this).symm⟩
  | o :: l, 0, t, j + 1, u, h => Or.inr ⟨Nat.succ_ne_zero _, by simpa [ra_sto] using h, fun z => absurd z (Nat.succ_ne_zero _)⟩
  | o :: l, 1, t, 0, u, h => by
    have h1 : ra_kl o = some u := by simpa [ra_sto] using h
    obtain ⟨h2, h3⟩ := ra_kl_s h1
    exact Or.inr ⟨by omega, by rw [h2]; rfl, fun _ => h3⟩
  | o :: l, 1, t, j + 1, u, h => by
    have h1 : (ra_sto l 0 t)[j]? = some (some u) := by simpa [ra_sto] using h
    rcases ra_sto_s h1 with ⟨e, e2⟩ | ⟨e, e2, e3⟩
    · exact Or.inl ⟨by omega, e2⟩
    · exact Or.inr ⟨by omega, by simpa using e2, fun z => by omega⟩
  | o :: l, k + 2, t, 0, u, h => Or.inr ⟨by omega, by simpa [ra_sto] using h, fun z => by omega⟩
  | o :: l, k + 2, t, j + 1, u, h => by
    have h1 : (ra_sto l (k + 1) t)[j]? = some (some u) := by simpa [ra_sto] using h
    rcases ra_sto_s h1 with ⟨e, e2⟩ | ⟨e, e2, e3⟩
    · exact Or.inl ⟨by omega, e2⟩
    · exact Or.inr ⟨by omega, by simpa using e2, fun z => e3 (by omega)⟩
theorem ra_sto2_s : ∀ {L : List (Option Jvm.Term)} {k : Nat} {t : Jvm.Term} {j : Nat} {u : Jvm.Term}, (ra_sto2 L k t)[j]? = some (some u) → (j = k ∧ u = t) ∨ (j ≠ k ∧ j ≠ k + 1 ∧ L[j]? = some (some u) ∧ (j + 1 = k → ri_wide u = false))
  | [], _, _, _, _, h => by simp [ra_sto2] at h
  | [o], 0, t, 0, u, h => by simp [ra_sto2] at h
  | [o], 0, t, j + 1, u, h => by simp [ra_sto2] at h
  | o :: o2 :: l, 0, t, 0, u, h => by
    have : some t = some u := by simpa [ra_sto2] using h
    exact Or.inl ⟨rfl, (Option.some.inj this).symm⟩
  | o :: o2 :: l, 0, t, 1, u, h => by simp [ra_sto2] at h
  | o :: o2 :: l, 0, t, j + 2, u, h => Or.inr ⟨by omega, by omega, by simpa [ra_sto2] using h, fun z => by omega⟩
  | o :: l, 1, t, 0, u, h => by
    have h1 : ra_kl o = some u := by simpa [ra_sto2] using h
    obtain ⟨h2, h3⟩ := ra_kl_s h1
    exact Or.inr ⟨by omega, by omega, by rw [h2]; rfl, fun _ => h3⟩
  | o :: l, 1, t, j + 1, u, h => by
    have h1 : (ra_sto2 l 0 t)[j]? = some (some u) := by simpa [ra_sto2] using h
    rcases ra_sto2_s h1 with ⟨e, e2⟩ | ⟨e, e4, e2, e3⟩
    · exact Or.inl ⟨by omega, e2⟩
    · exact Or.inr ⟨by omega, by omega, by simpa using e2, fun z => by omega⟩
  | o :: l, k + 2, t, 0, u, h => Or.inr ⟨by omega, by omega, by simpa [ra_sto2] using h, fun z => by omega⟩
  | o :: l, k + 2, t, j + 1, u, h => by
    have h1 : (ra_sto2 l (k + 1) t)[j]? = some (some u) := by simpa [ra_sto2] using h
    rcases ra_sto2_s h1 with ⟨e, e2⟩ | ⟨e, e4, e2, e3⟩
    · exact Or.inl ⟨by omega, e2⟩
    · exact Or.inr ⟨by omega, by omega, by simpa using e2, fun z => e3 (by omega)⟩
theorem ra_ld_filter {p : Nat × Jvm.Term → Bool} {j : Nat} {u : Jvm.Term} (h : ri_ld lv j = some u) (hp : p (j, u) = true) : ri_ld (lv.filter p) j = some u := by
  unfold ri_ld at h ⊢
  induction lv with
  | nil => simp at h
  | cons a l ih =>
    by_cases ha : a.1 = j
    · have h2 : a.2 = u := by simpa [ha] using h
      have ha2 : a = (j, u) := Prod.ext ha h2
      rw [ha2, List.filter_cons_of_pos hp]
      simp
    · have h2 : (l.find? (fun q => q.1 == j)).map (fun q => q.2) = some u := by simpa [ha] using h
      by_cases hq : p a = true
      · rw [List.filter_cons_of_pos hq]
        simpa [ha] using ih h2
      · rw [List.filter_cons_of_neg hq]
        exact ih h2
theorem ra_lv_sto {k : Nat} {t : Jvm.Term} (h : ra_lv lv L) : ra_lv (ri_sto lv k t) (ra_sto L k t) := by
  intro j u hj
  rcases ra_sto_s hj with ⟨rfl, rfl⟩ | ⟨h1, h2, h3⟩
  · unfold ri_sto ri_ld
    simp
  · unfold ri_sto
    have h4 := ra_ld_filter (p := fun q => !(q.1 == k) && !(q.1 + 1 == k && ri_wide q.2)) (h j u h2) (by
      have e1 : (j == k) = false := by simpa using h1
      by_cases e : j + 1 = k
      · simp [e1, h3 e]
      · simp [e1, e])
    unfold ri_ld at h4 ⊢
    rw [List.find?_cons_of_neg (by simpa using Ne.symm h1)]
    exact h4
theorem ra_lv_sto2 {k : Nat} {t : Jvm.Term} (h : ra_lv lv L) : ra_lv (ri_sto2 lv k t) (ra_sto2 L k t) := by
  intro j u hj
  rcases ra_sto2_s hj with ⟨rfl, rfl⟩ | ⟨h1, h5, h2, h3⟩
  · unfold ri_sto2 ri_ld
    simp
  · unfold ri_sto2
    have h4 := ra_ld_filter (p := fun q => !(q.1 == k) && (!(q.1 == k + 1) && !(q.1 + 1 == k && ri_wide q.2))) (h j u h2) (by
      have e1 : (j == k) = false := by simpa using h1
      have e2 : (j == k + 1) = false := by simpa using h5
      by_cases e : j + 1 = k
      · simp [e1, h3 e, e2]
      · simp [e1, e, e2])
    unfold ri_ld at h4 ⊢
    rw [List.find?_cons_of_neg (by simpa using Ne.symm h1)]
    exact h4
def ra_stk : Instr → Option (Nat × Nat × Nat)
  | .istore k => some (k, 2, 0)
  | .istore_n k => some (k.val, 1, 0)
  | .astore k => some (k, 2, 2)
  | .astore_n k => some (k.val, 1, 2)
  | _ => none
def ra_stk2 : Instr → Option (Nat × Nat × Nat)
  | .lstore k => some (k, 2, 1)
  | .lstore_n k => some (k.val, 1, 1)
  | .dstore k => some (k, 2, 4)
  | .dstore_n k => some (k.val, 1, 4)
  | _ => none
theorem ra_store {k kd : Nat} {t : Jvm.Term} (hd : (ri_co M)[pc]? = some (some (i, len))) (hi : ra_stk i = some (k, len, kd)) (ht : ra_kok kd t = true) (hk : k < ri_mx M) (hL : ra_sto L k t = L') (kk : ra_P G sh b d M (pc + len) L' st σ Q) : ra_P G sh b d M pc L (t :: st) σ Q := by
  subst hL
  refine ra_pure hd (fun lv h => ⟨ri_sto lv k t, ra_lv_sto h, ?_⟩) kk
  cases i with
  | istore n => cases hi; simp only [ri_pure, ri_ps]; rw [if_pos ⟨beq_iff_eq.mp ht, hk⟩]
  | istore_n n => cases hi; simp only [ri_pure, ri_ps]; rw [if_pos ⟨beq_iff_eq.mp ht, hk⟩]
  | astore n => cases hi; simp only [ri_pure, ri_psa]; rw [if_pos ⟨ra_kok2 ht, hk⟩]
  | astore_n n => cases hi; simp only [ri_pure, ri_psa]; rw [if_pos ⟨ra_kok2 ht, hk⟩]
  | _ => cases hi
theorem ra_store2 {k kd : Nat} {t : Jvm.Term} (hd : (ri_co M)[pc]? = some (some (i, len))) (hi : ra_stk2 i = some (k, len, kd)) (ht : ra_kok kd t = true) (hk : k + 1 < ri_mx M) (hL : ra_sto2 L k t = L') (kk : ra_P G sh b d M (pc + len) L' st σ Q) : ra_P G sh b d M pc L (t :: st) σ Q := by
  subst hL
  refine ra_pure hd (fun lv h => ⟨ri_sto2 lv k t, ra_lv_sto2 h, ?_⟩) kk
  cases i with
  | lstore n => cases hi; simp only [ri_pure, ri_ps2]; rw [if_pos ⟨beq_iff_eq.mp ht, hk⟩]
  | lstore_n n => cases hi; simp only [ri_pure, ri_ps2]; rw [if_pos ⟨beq_iff_eq.mp ht, hk⟩]
  | dstore n => cases hi; simp only [ri_pure, ri_psd]; rw [if_pos ⟨beq_iff_eq.mp ht, hk⟩]
  | dstore_n n => cases hi; simp only [ri_pure, ri_psd]; rw [if_pos ⟨beq_iff_eq.mp ht, hk⟩]
  | _ => cases hi
end RA1
end RA
end
section
/-! RA: numbers -/
section RA
section RA2
variable {G : ri_Tb} {sh : ra_Sh} {b d : Nat} {M : ri_Mt} {pc len : Nat} {L L' : List (Option Jvm.Term)} {st : List Jvm.Term} {σ : ra_V} {Q : ra_Q}
theorem ra_ci (x : Int32) : ri_ci x = ra_I x.toInt := by rw [ri_ci_eq]; exact congrArg Jvm.Term.int (Int32.ofInt_toInt x).symm
theorem ra_ciI (z : Int) : ri_ci (Int32.ofInt z) = ra_I z := ri_ci_eq _
theorem ra_clJ (z : Int) : ri_cl (Int64.ofInt z) = ra_J z := ri_cl_eq _
theorem ra_iconst {n : Int} (hd : (ri_co M)[pc]? = some (some (.iconst n, 1))) (kk : ra_P G sh b d M (pc + 1) L (ra_I n :: st) σ Q) : ra_P G sh b d M pc L st σ Q :=
  ra_pure hd (fun lv h => ⟨lv, h, by simp only [ri_pure, ra_ciI]⟩) kk
theorem ra_8 (n : Int) (h : -128 ≤ n ∧ n ≤ 127) : (Int8.ofInt n).toInt32 = Int32.ofInt n := by
  rw [← Int32.toInt_inj, Int8.toInt_toInt32, ra_ofI (by unfold ra_in; omega), Int8.toInt_ofInt]
  have e : (Int8.size : Int) = 256 := by decide
  exact Int.bmod_eq_of_le (by omega) (by omega)
theorem ra_16 (n : Int) (h : -32768 ≤ n ∧ n ≤ 32767) : (Int16.ofInt n).toInt32 = Int32.ofInt n := by
  rw [← Int32.toInt_inj, Int16.toInt_toInt32, ra_ofI (by unfold ra_in; omega), Int16.toInt_ofInt]
  have e : (Int16.size : Int) = 65536 := by decide
  exact Int.bmod_eq_of_le (by omega) (by omega)
theorem ra_bipush {n : Int} (hd : (ri_co M)[pc]? = some (some (.bipush n, 2))) (hn : -128 ≤ n ∧ n ≤ 127) (kk : ra_P G sh b d M (pc + 2) L (ra_I n :: st) σ Q) : ra_P G sh b d M pc L st σ Q :=
  ra_pure hd (fun lv h => ⟨lv, h, by simp only [ri_pure, ra_8 n hn, ra_ciI]⟩) kk
theorem ra_sipush {n : Int} (hd : (ri_co M)[pc]? = some (some (.sipush n, 3))) (hn : -32768 ≤ n ∧ n ≤ 32767) (kk : ra_P G sh b d M (pc + 3) L (ra_I n :: st) σ Q) : ra_P G sh b d M pc L st σ Q :=
  ra_pure hd (fun lv h => ⟨lv, h, by simp only [ri_pure, ra_16 n hn, ra_ciI]⟩) kk
theorem ra_lconst0 (hd : (ri_co M)[pc]? = some (some (.lconst 0, 1))) (kk : ra_P G sh b d M (pc + 1) L (ra_J 0 :: st) σ Q) : ra_P G sh b d M pc L st σ Q :=
  ra_pure hd (fun lv h => ⟨lv, h, by simp only [ri_pure]; rw [ri_cl_eq]; rfl⟩) kk
theorem ra_lconst1 (hd : (ri_co M)[pc]? = some (some (.lconst 1, 1))) (kk : ra_P G sh b d M (pc + 1) L (ra_J 1 :: st) σ Q) : ra_P G sh b d M pc L st σ Q :=
  ra_pure hd (fun lv h => ⟨lv, h, by simp only [ri_pure]; rw [ri_cl_eq]; rfl⟩) kk
theorem ra_null (hd : (ri_co M)[pc]? = some (some (.aconst_null, 1))) (kk : ra_P G sh b d M (pc + 1) L (.null :: st) σ Q) : ra_P G sh b d M pc L st σ Q :=
  ra_pure hd (fun lv h => ⟨lv, h, rfl⟩) kk
theorem ra_dconst0 (hd : (ri_co M)[pc]? = some (some (.dconst 0, 1))) (kk : ra_P G sh b d M (pc + 1) L (ri_fD FP.dconst0 :: st) σ Q) : ra_P G sh b d M pc L st σ Q :=
  ra_pure hd (fun lv h => ⟨lv, h, rfl⟩) kk
theorem ra_fconst0 (hd : (ri_co M)[pc]? = some (some (.fconst 0, 1))) (kk : ra_P G sh b d M (pc + 1) L (ri_fF FP.fconst0 :: st) σ Q) : ra_P G sh b d M pc L st σ Q :=
  ra_pure hd (fun lv h => ⟨lv, h, rfl⟩) kk
theorem ra_fconst1 (hd : (ri_co M)[pc]? = some (some (.fconst 1, 1))) (kk : ra_P G sh b d M (pc + 1) L (ri_fF FP.fconst1 :: st) σ Q) : ra_P G sh b d M pc L st σ Q :=
  ra_pure hd (fun lv h => ⟨lv, h, rfl⟩) kk
/-- two ints -/
theorem ra_bin {i : Instr} {f : Int32 → Int32 → Int32} {g : Jvm.Term → Jvm.Term → Jvm.Term} {x y z : Int} (hd : (ri_co M)[pc]? = some (some (i, 1))) (hi : ∀ lv st, ri_pure (ri_mx M) i lv st = ri_s2 0 (fun a b => ri_bin f (g a b) a b) lv st) (hz : f (Int32.ofInt x) (Int32.ofInt y) = Int32.ofInt z) (kk : ra_P G sh b d M (pc + 1) L (ra_I z :: st) σ Q) : ra_P G sh b d M pc L (ra_I y :: ra_I x :: st) σ Q :=
  ra_pure hd (fun lv h => ⟨lv, h, by
    rw [hi]
    show some (1, lv, ri_ci (f (Int32.ofInt x) (Int32.ofInt y)) :: st) = _
    rw [hz, ra_ciI]⟩) kk
theorem ra_iadd {x y : Int} (hd : (ri_co M)[pc]? = some (some (.iadd, 1))) (kk : ra_P G sh b d M (pc + 1) L (ra_I (x + y) :: st) σ Q) : ra_P G sh b d M pc L (ra_I y :: ra_I x :: st) σ Q :=
  ra_bin hd (fun _ _ => rfl) (Int32.ofInt_add x y).symm kk
theorem ra_sub_e (x y : Int) : Int32.ofInt x - Int32.ofInt y = Int32.ofInt (x - y) := by
  rw [← Int32.toInt_inj, Int32.toInt_sub, Int32.toInt_ofInt, Int32.toInt_ofInt, Int32.toInt_ofInt]
  simp
theorem ra_isub {x y : Int} (hd : (ri_co M)[pc]? = some (some (.isub, 1))) (kk : ra_P G sh b d M (pc + 1) L (ra_I (x - y) :: st) σ Q) : ra_P G sh b d M pc L (ra_I y :: ra_I x :: st) σ Q :=
  ra_bin hd (fun _ _ => rfl) (ra_sub_e x y) kk
theorem ra_imul {x y : Int} (hd : (ri_co M)[pc]? = some (some (.imul, 1))) (kk : ra_P G sh b d M (pc + 1) L (ra_I (x * y) :: st) σ Q) : ra_P G sh b d M pc L (ra_I y :: ra_I x :: st) σ Q :=
  ra_bin hd (fun _ _ => rfl) (Int32.ofInt_mul x y).symm kk
/-- bits, as values -/
def ra_op (o : Binary) (x y : Int) : Int := (ri_b32 o (Int32.ofInt x) (Int32.ofInt y)).toInt
theorem ra_iand {x y : Int} (hd : (ri_co M)[pc]? = some (some (.iand, 1))) (kk : ra_P G sh b d M (pc + 1) L (ra_I (ra_op .iand x y) :: st) σ Q) : ra_P G sh b d M pc L (ra_I y :: ra_I x :: st) σ Q :=
  ra_bin hd (fun _ _ => rfl) (Int32.ofInt_toInt _).symm kk
theorem ra_ior {x y : Int} (hd : (ri_co M)[pc]? = some (some (.ior, 1))) (kk : ra_P G sh b d M (pc + 1) L (ra_I (ra_op .ior x y) :: st) σ Q) : ra_P G sh b d M pc L (ra_I y :: ra_I x :: st) σ Q :=
  ra_bin hd (fun _ _ => rfl) (Int32.ofInt_toInt _).symm kk
theorem ra_ixor {x y : Int} (hd : (ri_co M)[pc]? = some (some (.ixor, 1))) (kk : ra_P G sh b d M (pc + 1) L (ra_I (ra_op .ixor x y) :: st) σ Q) : ra_P G sh b d M pc L (ra_I y :: ra_I x :: st) σ Q :=
  ra_bin hd (fun _ _ => rfl) (Int32.ofInt_toInt _).symm kk
theorem ra_ishl {x y : Int} (hd : (ri_co M)[pc]? = some (some (.ishl, 1))) (kk : ra_P G sh b d M (pc + 1) L (ra_I (ra_op .ishl x y) :: st) σ Q) : ra_P G sh b d M pc L (ra_I y :: ra_I x :: st) σ Q :=
  ra_bin hd (fun _ _ => rfl) (Int32.ofInt_toInt _).symm kk
theorem ra_ishr {x y : Int} (hd : (ri_co M)[pc]? = some (some (.ishr, 1))) (kk : ra_P G sh b d M (pc + 1) L (ra_I (ra_op .ishr x y) :: st) σ Q) : ra_P G sh b d M pc L (ra_I y :: ra_I x :: st) σ Q :=
  ra_bin hd (fun _ _ => rfl) (Int32.ofInt_toInt _).symm kk
theorem ra_iushr {x y : Int} (hd : (ri_co M)[pc]? = some (some (.iushr, 1))) (kk : ra_P G sh b d M (pc + 1) L (ra_I (ra_op .iushr x y) :: st) σ Q) : ra_P G sh b d M pc L (ra_I y :: ra_I x :: st) σ Q :=
  ra_bin hd (fun _ _ => rfl) (Int32.ofInt_toInt _).symm kk
theorem ra_in_op (o : Binary) (x y : Int) : ra_in (ra_op o x y) := ⟨Int32.le_toInt _, by have := Int32.toInt_lt (ri_b32 o (Int32.ofInt x) (Int32.ofInt y)); unfold ra_op; omega⟩
theorem ra_div_e {x y : Int} (hx : ra_in x) (hy : ra_in y) : Int32.ofInt x / Int32.ofInt y = Int32.ofInt (x.tdiv y) := by
  rw [← Int32.toInt_inj, Int32.toInt_div, ra_ofI hx, ra_ofI hy, Int32.toInt_ofInt]
theorem ra_sd {i : Instr} {f : Int32 → Int32 → Int32} {g : Jvm.Term → Jvm.Term → Jvm.Term} {x y z : Int} (hd : (ri_co M)[pc]? = some (some (i, 1))) (hi : ∀ lv st, ri_pure (ri_mx M) i lv st = ri_sd (fun a b => ri_bin f (g a b) a b) lv st) (hy : ra_in y) (hy0 : y ≠ 0) (hz : f (Int32.ofInt x) (Int32.ofInt y) = Int32.ofInt z) (kk : ra_P G sh b d M (pc + 1) L (ra_I z :: st) σ Q) : ra_P G sh b d M pc L (ra_I y :: ra_I x :: st) σ Q :=
  ra_pure hd (fun lv h => ⟨lv, h, by
    rw [hi]
    have h0 : ¬ Int32.ofInt y = 0 := fun e => hy0 ((ra_eq hy ra_in0).mp e)
    have hn : ri_nz (ra_I y) = true := by
      show (!(Int32.ofInt y == 0)) = true
      simpa using h0
    unfold ri_sd
    dsimp only
    rw [if_pos ⟨rfl, hn⟩]
    show some (1, lv, ri_ci (f (Int32.ofInt x) (Int32.ofInt y)) :: st) = _
    rw [hz, ra_ciI]⟩) kk
theorem ra_idiv {x y : Int} (hd : (ri_co M)[pc]? = some (some (.idiv, 1))) (hx : ra_in x) (hy : ra_in y) (hy0 : y ≠ 0) (kk : ra_P G sh b d M (pc + 1) L (ra_I (x.tdiv y) :: st) σ Q) : ra_P G sh b d M pc L (ra_I y :: ra_I x :: st) σ Q :=
  ra_sd hd (fun _ _ => rfl) hy hy0 (ra_div_e hx hy) kk
theorem ra_rem_e {x y : Int} (hx : ra_in x) (hy : ra_in y) : Int32.ofInt x - Int32.ofInt x / Int32.ofInt y * Int32.ofInt y = Int32.ofInt (x.tmod y) := by
  rw [ra_div_e hx hy, ← Int32.ofInt_mul, ra_sub_e]
  congr 1
  have := Int.tmod_add_mul_tdiv x y
  rw [Int.mul_comm] at this
  omega
theorem ra_irem {x y : Int} (hd : (ri_co M)[pc]? = some (some (.irem, 1))) (hx : ra_in x) (hy : ra_in y) (hy0 : y ≠ 0) (kk : ra_P G sh b d M (pc + 1) L (ra_I (x.tmod y) :: st) σ Q) : ra_P G sh b d M pc L (ra_I y :: ra_I x :: st) σ Q :=
  ra_sd hd (fun _ _ => rfl) hy hy0 (ra_rem_e hx hy) kk
theorem ra_ineg {x : Int} (hd : (ri_co M)[pc]? = some (some (.ineg, 1))) (kk : ra_P G sh b d M (pc + 1) L (ra_I (-x) :: st) σ Q) : ra_P G sh b d M pc L (ra_I x :: st) σ Q :=
  ra_pure hd (fun lv h => ⟨lv, h, by
    show some (1, lv, ri_ci (-Int32.ofInt x) :: st) = _
    rw [← Int32.ofInt_neg, ra_ciI]⟩) kk
theorem ra_iinc {k : Nat} {n x : Int} (hd : (ri_co M)[pc]? = some (some (.iinc k n, 3))) (hl : L[k]? = some (some (ra_I x))) (hk : k < ri_mx M) (hL : ra_sto L k (ra_I (x + n)) = L') (kk : ra_P G sh b d M (pc + 3) L' st σ Q) : ra_P G sh b d M pc L st σ Q := by
  subst hL
  refine ra_pure hd (fun lv h => ⟨ri_sto lv k (ra_I (x + n)), ra_lv_sto h, ?_⟩) kk
  have h1 := h k _ hl
  simp only [ri_pure, ri_inc]
  rw [h1]
  dsimp only
  rw [if_pos ⟨rfl, hk⟩]
  show some (3, ri_sto lv k (ri_ci (Int32.ofInt x + Int32.ofInt n)), st) = _
  rw [← Int32.ofInt_add, ra_ciI]
/-! longs -/
def ra_in6 (z : Int) : Prop := -9223372036854775808 ≤ z ∧ z ≤ 9223372036854775807
theorem ra_ofJ {z : Int} (h : ra_in6 z) : (Int64.ofInt z).toInt = z := by
  rw [Int64.toInt_ofInt]
  obtain ⟨h1, h2⟩ := h
  have e : (Int64.size : Int) = 18446744073709551616 := by decide
  exact Int.bmod_eq_of_le (by omega) (by omega)
theorem ra_i2l_e {x : Int} (hx : ra_in x) : (Int32.ofInt x).toInt64 = Int64.ofInt x := by
  rw [← Int64.toInt_inj, Int32.toInt_toInt64, ra_ofI hx, ra_ofJ ⟨by have := hx.1; omega, by have := hx.2; omega⟩]
theorem ra_i2l {x : Int} (hd : (ri_co M)[pc]? = some (some (.i2l, 1))) (hx : ra_in x) (kk : ra_P G sh b d M (pc + 1) L (ra_J x :: st) σ Q) : ra_P G sh b d M pc L (ra_I x :: st) σ Q :=
  ra_pure hd (fun lv h => ⟨lv, h, by
    show some (1, lv, ri_cl (Int32.ofInt x).toInt64 :: st) = _
    rw [ra_i2l_e hx, ra_clJ]⟩) kk
/-- an int that may have left its range, made a long -/
theorem ra_i2lw {x : Int} (hd : (ri_co M)[pc]? = some (some (.i2l, 1))) (kk : ra_P G sh b d M (pc + 1) L (ra_J (ra_w x) :: st) σ Q) : ra_P G sh b d M pc L (ra_I x :: st) σ Q := by
  rw [← ra_I_w]
  exact ra_i2l hd (ra_w_in x) kk
theorem ra_l2i {x : Int} (hd : (ri_co M)[pc]? = some (some (.l2i, 1))) (kk : ra_P G sh b d M (pc + 1) L (ra_I x :: st) σ Q) : ra_P G sh b d M pc L (ra_J x :: st) σ Q :=
  ra_pure hd (fun lv h => ⟨lv, h, by
    show some (1, lv, ri_ci (Int64.ofInt x).toInt32 :: st) = _
    have e : (Int64.ofInt x).toInt32 = Int32.ofInt x := by
      rw [← Int32.toInt_inj, Int64.toInt_toInt32, Int64.toInt_ofInt, Int32.toInt_ofInt]
      exact Int.bmod_bmod_of_dvd (by decide)
    rw [e, ra_ciI]⟩) kk
theorem ra_binL {i : Instr} {f : Int64 → Int64 → Int64} {g : Jvm.Term → Jvm.Term → Jvm.Term} {x y z : Int} (hd : (ri_co M)[pc]? = some (some (i, 1))) (hi : ∀ lv st, ri_pure (ri_mx M) i lv st = ri_s2 1 (fun a b => ri_binL f (g a b) a b) lv st) (hz : f (Int64.ofInt x) (Int64.ofInt y) = Int64.ofInt z) (kk : ra_P G sh b d M (pc + 1) L (ra_J z :: st) σ Q) : ra_P G sh b d M pc L (ra_J y :: ra_J x :: st) σ Q :=
  ra_pure hd (fun lv h => ⟨lv, h, by
    rw [hi]
    show some (1, lv, ri_cl (f (Int64.ofInt x) (Int64.ofInt y)) :: st) = _
    rw [hz, ra_clJ]⟩) kk
theorem ra_ladd {x y : Int} (hd : (ri_co M)[pc]? = some (some (.ladd, 1))) (kk : ra_P G sh b d M (pc + 1) L (ra_J (x + y) :: st) σ Q) : ra_P G sh b d M pc L (ra_J y :: ra_J x :: st) σ Q :=
  ra_binL hd (fun _ _ => rfl) (Int64.ofInt_add x y).symm kk
theorem ra_lsub {x y : Int} (hd : (ri_co M)[pc]? = some (some (.lsub, 1))) (kk : ra_P G sh b d M (pc + 1) L (ra_J (x - y) :: st) σ Q) : ra_P G sh b d M pc L (ra_J y :: ra_J x :: st) σ Q :=
  ra_binL hd (fun _ _ => rfl) (by
    rw [← Int64.toInt_inj, Int64.toInt_sub, Int64.toInt_ofInt, Int64.toInt_ofInt, Int64.toInt_ofInt]
    simp) kk
/-- how two longs compare -/
def ra_cmp (x y : Int) : Int := if y < x then 1 else if x = y then 0 else -1
theorem ra_in_cmp (x y : Int) : ra_in (ra_cmp x y) := by unfold ra_cmp ra_in; split <;> (try split) <;> omega
theorem ra_cmp_lt (x y : Int) : ra_cmp x y < 0 ↔ x < y := by unfold ra_cmp; split <;> (try split) <;> omega
theorem ra_cmp_le (x y : Int) : ra_cmp x y ≤ 0 ↔ x ≤ y := by unfold ra_cmp; split <;> (try split) <;> omega
theorem ra_cmp_gt (x y : Int) : 0 < ra_cmp x y ↔ y < x := by unfold ra_cmp; split <;> (try split) <;> omega
theorem ra_cmp_ge (x y : Int) : 0 ≤ ra_cmp x y ↔ y ≤ x := by unfold ra_cmp; split <;> (try split) <;> omega
theorem ra_cmp_eq (x y : Int) : ra_cmp x y = 0 ↔ x = y := by unfold ra_cmp; split <;> (try split) <;> omega
theorem ra_lcmp {x y : Int} (hd : (ri_co M)[pc]? = some (some (.lcmp, 1))) (hx : ra_in6 x) (hy : ra_in6 y) (kk : ra_P G sh b d M (pc + 1) L (ra_I (ra_cmp x y) :: st) σ Q) : ra_P G sh b d M pc L (ra_J y :: ra_J x :: st) σ Q :=
  ra_pure hd (fun lv h => ⟨lv, h, by
    show some (1, lv, ri_ci (lg_cmp (Int64.ofInt x) (Int64.ofInt y)) :: st) = _
    have e : lg_cmp (Int64.ofInt x) (Int64.ofInt y) = Int32.ofInt (ra_cmp x y) := by
      unfold lg_cmp ra_cmp
      have e1 : Int64.ofInt x > Int64.ofInt y ↔ y < x := by
        show Int64.ofInt y < Int64.ofInt x ↔ _
        rw [Int64.lt_iff_toInt_lt, ra_ofJ hx, ra_ofJ hy]
      have e2 : Int64.ofInt x = Int64.ofInt y ↔ x = y := by rw [← Int64.toInt_inj, ra_ofJ hx, ra_ofJ hy]
      by_cases h1 : y < x
      · rw [if_pos (e1.mpr h1), if_pos h1]; rfl
      · rw [if_neg (fun z => h1 (e1.mp z)), if_neg h1]
        by_cases h2 : x = y
        · rw [if_pos (e2.mpr h2), if_pos h2]; rfl
        · rw [if_neg (fun z => h2 (e2.mp z)), if_neg h2]; rfl
    rw [e, ra_ciI]⟩) kk
/-! the stack -/
theorem ra_dup {t : Jvm.Term} (hd : (ri_co M)[pc]? = some (some (.dup, 1))) (ht : ri_wide t = false) (kk : ra_P G sh b d M (pc + 1) L (t :: t :: st) σ Q) : ra_P G sh b d M pc L (t :: st) σ Q :=
  ra_pure hd (fun lv h => ⟨lv, h, by simp only [ri_pure, ri_dup]; rw [if_pos ht]⟩) kk
theorem ra_dup_x1 {t u : Jvm.Term} (hd : (ri_co M)[pc]? = some (some (.dup_x1, 1))) (ht : ri_wide t = false) (hu : ri_wide u = false) (kk : ra_P G sh b d M (pc + 1) L (t :: u :: t :: st) σ Q) : ra_P G sh b d M pc L (t :: u :: st) σ Q :=
  ra_pure hd (fun lv h => ⟨lv, h, by simp only [ri_pure, ri_dup_x1]; rw [if_pos ⟨ht, hu⟩]⟩) kk
theorem ra_dup2 {t u : Jvm.Term} (hd : (ri_co M)[pc]? = some (some (.dup2, 1))) (ht : ri_wide t = false) (hu : ri_wide u = false) (kk : ra_P G sh b d M (pc + 1) L (t :: u :: t :: u :: st) σ Q) : ra_P G sh b d M pc L (t :: u :: st) σ Q :=
  ra_pure hd (fun lv h => ⟨lv, h, by simp only [ri_pure, ri_dup2]; rw [if_pos ⟨ht, hu⟩]⟩) kk
theorem ra_pop {t : Jvm.Term} (hd : (ri_co M)[pc]? = some (some (.pop, 1))) (ht : ri_wide t = false) (kk : ra_P G sh b d M (pc + 1) L st σ Q) : ra_P G sh b d M pc L (t :: st) σ Q :=
  ra_pure hd (fun lv h => ⟨lv, h, by simp only [ri_pure, ri_pop]; rw [if_pos ht]⟩) kk
end RA2
end RA
end
section
/-! RA: cells -/
section RA
section RA3
variable {G : ri_Tb} {sh : ra_Sh} {b d : Nat} {M : ri_Mt} {pc len : Nat} {L L' : List (Option Jvm.Term)} {st : List Jvm.Term} {σ : ra_V} {Q : ra_Q} {mem : ri_Me}
theorem ra_rep_obj {k ci : Nat} {fl : List (Option Jvm.Term)} (h : ra_rep sh σ mem) (hs : sh[k]? = some (.inl (ci, fl))) : mem[k]? = some (.inl (ci, ra_fs (σ k) fl)) := by
  obtain ⟨e, h1, h2⟩ := h.2 k _ hs
  match e, h1, h2 with
  | .inl (ci2, fs), h1, h2 =>
    obtain ⟨rfl, rfl⟩ := h2
    exact h1
  | .inr _, _, h2 => exact absurd h2 (by simp [ra_cell])
theorem ra_rep_row {k ty n : Nat} {lg : Bool} (h : ra_rep sh σ mem) (hs : sh[k]? = some (.inr (ty, n, lg, none))) : ∃ d ov, mem[k]? = some (.inr (ty, n, d, ov)) ∧ ∀ j, j < n → ri_look d ov j = if lg = true then .long (σ k j).toInt64 else .int (σ k j) := by
  obtain ⟨e, h1, h2⟩ := h.2 k _ hs
  match e, h1, h2 with
  | .inr (ty2, n2, d, ov), h1, h2 =>
    obtain ⟨rfl, rfl, h3⟩ := h2
    exact ⟨d, ov, h1, h3⟩
  | .inl _, _, h2 => exact absurd h2 (by simp [ra_cell])
theorem ra_rep_ref {k ty n : Nat} {lg : Bool} {l : List Jvm.Term} (h : ra_rep sh σ mem) (hs : sh[k]? = some (.inr (ty, n, lg, some l))) : ∃ d ov, mem[k]? = some (.inr (ty, n, d, ov)) ∧ ∀ j, j < n → l[j]? = some (ri_look d ov j) := by
  obtain ⟨e, h1, h2⟩ := h.2 k _ hs
  match e, h1, h2 with
  | .inr (ty2, n2, d, ov), h1, h2 =>
    obtain ⟨rfl, rfl, h3⟩ := h2
    exact ⟨d, ov, h1, h3⟩
  | .inl _, _, h2 => exact absurd h2 (by simp [ra_cell])
theorem ra_rep_set {k : Nat} {e : ri_Ce} {hc : ra_Hc} {σ' : ra_V} (h : ra_rep sh σ mem) (hs : sh[k]? = some hc) (he : ra_cell (σ' k) hc e) (ho : ∀ a, a ≠ k → σ' a = σ a) : ra_rep sh σ' (mem.set k e) := by
  refine ⟨by rw [List.length_set]; exact h.1, fun a hc2 hs2 => ?_⟩
  by_cases ha : k = a
  · subst ha
    rw [hs] at hs2
    cases hs2
    have hl : k < mem.length := by rw [h.1]; exact (List.getElem?_eq_some_iff.mp hs).1
    exact ⟨e, List.getElem?_set_self hl, he⟩
  · rw [List.getElem?_set_ne ha, ho a (Ne.symm ha)]
    exact h.2 a hc2 hs2
theorem ra_fs_get {f : Nat → Int32} {fl : List (Option Jvm.Term)} {j : Nat} {o : Option Jvm.Term} (h : fl[j]? = some o) : (ra_fs f fl)[j]? = some (ra_fv f j o) := by
  unfold ra_fs
  rw [List.getElem?_mapIdx, h]
  rfl
theorem ra_fs_set {fl : List (Option Jvm.Term)} {k j : Nat} {z : Int} {o : Option Jvm.Term} {t : Jvm.Term} (h : fl[j]? = some o) (ht : ra_fv (ra_up σ k j z k) j o = t) : (ra_fs (σ k) fl).set j t = ra_fs (ra_up σ k j z k) fl := by
  apply List.ext_getElem?
  intro i
  have hl : j < (ra_fs (σ k) fl).length := by
    unfold ra_fs
    rw [List.length_mapIdx]
    exact (List.getElem?_eq_some_iff.mp h).1
  by_cases hi : j = i
  · subst hi
    rw [List.getElem?_set_self hl, ra_fs_get h, ht]
  · rw [List.getElem?_set_ne hi]
    unfold ra_fs
    rw [List.getElem?_mapIdx, List.getElem?_mapIdx]
    cases fl[i]? with
    | none => rfl
    | some o =>
      have e : ra_up σ k j z k i = σ k i := by
        unfold ra_up
        rw [if_neg (fun q => hi q.2.symm)]
      show some (ra_fv (σ k) i o) = some (ra_fv (ra_up σ k j z k) i o)
      unfold ra_fv
      rw [e]
theorem ra_up_eq {k j : Nat} {z : Int} : ra_up σ k j z k j = Int32.ofInt z := by
  unfold ra_up
  rw [if_pos ⟨rfl, rfl⟩]
theorem ra_up_ne {k j a : Nat} {z : Int} (h : a ≠ k) : ra_up σ k j z a = σ a := by
  funext i
  unfold ra_up
  rw [if_neg (fun q => h q.1)]
theorem ra_getf_e {kd ci idx k j : Nat} {tx : String} {fs : List Jvm.Term} {t : Jvm.Term} (hc : ri_cp G M idx = some (kd, ci, j, tx)) (hm : mem[k]? = some (.inl (ci, fs))) (hf : fs[j]? = some t) (hk : kd ≤ 1) : ri_heap G M [] (.getfield idx) (.index k :: st) mem = some (3, t :: st, mem, 0, 0, []) := by
  show ri_getf G M idx (.index k :: st) mem = _
  unfold ri_getf
  rw [hc]
  dsimp only
  rw [hm]
  dsimp only
  rw [hf]
  dsimp only
  rw [if_pos ⟨hk, rfl⟩]
theorem ra_getI {kd ci idx k j : Nat} {tx : String} {fl : List (Option Jvm.Term)} (hd : (ri_co M)[pc]? = some (some (.getfield idx, 3))) (hc : ri_cp G M idx = some (kd, ci, j, tx)) (hk : kd ≤ 1) (hs : sh[k]? = some (.inl (ci, fl))) (hf : fl[j]? = some none) (kk : ra_P G sh b d M (pc + 3) L (ra_I (ra_g σ k j) :: st) σ Q) : ra_P G sh b d M pc L (.index k :: st) σ Q := by
  refine ra_heap hd (fun _ => rfl) (fun mem h => ⟨mem, h, ?_⟩) kk
  rw [ra_I_g]
  exact ra_getf_e hc (ra_rep_obj h hs) (ra_fs_get hf) hk
theorem ra_getR {kd ci idx k j q : Nat} {tx : String} {fl : List (Option Jvm.Term)} (hd : (ri_co M)[pc]? = some (some (.getfield idx, 3))) (hc : ri_cp G M idx = some (kd, ci, j, tx)) (hk : kd ≤ 1) (hs : sh[k]? = some (.inl (ci, fl))) (hf : fl[j]? = some (some (.index q))) (kk : ra_P G sh b d M (pc + 3) L (.index q :: st) σ Q) : ra_P G sh b d M pc L (.index k :: st) σ Q := by
  refine ra_heap hd (fun _ => rfl) (fun mem h => ⟨mem, h, ?_⟩) kk
  exact ra_getf_e hc (ra_rep_obj h hs) (ra_fs_get hf) hk
theorem ra_getK {kd ci idx k j : Nat} {z : Int} {tx : String} {fl : List (Option Jvm.Term)} (hd : (ri_co M)[pc]? = some (some (.getfield idx, 3))) (hc : ri_cp G M idx = some (kd, ci, j, tx)) (hk : kd ≤ 1) (hs : sh[k]? = some (.inl (ci, fl))) (hf : fl[j]? = some (some (ra_I z))) (kk : ra_P G sh b d M (pc + 3) L (ra_I z :: st) σ Q) : ra_P G sh b d M pc L (.index k :: st) σ Q := by
  refine ra_heap hd (fun _ => rfl) (fun mem h => ⟨mem, h, ?_⟩) kk
  exact ra_getf_e hc (ra_rep_obj h hs) (ra_fs_get hf) hk
/-- a truth value -/
theorem ra_getB {kd ci idx k j : Nat} {tx : String} {fl : List (Option Jvm.Term)} (hd : (ri_co M)[pc]? = some (some (.getfield idx, 3))) (hc : ri_cp G M idx = some (kd, ci, j, tx)) (hk : kd ≤ 1) (hs : sh[k]? = some (.inl (ci, fl))) (hf : fl[j]? = some (some (.arg 0))) (kk : ra_P G sh b d M (pc + 3) L (ra_B (ra_g σ k j ≠ 0) :: st) σ Q) : ra_P G sh b d M pc L (.index k :: st) σ Q := by
  refine ra_heap hd (fun _ => rfl) (fun mem h => ⟨mem, h, ?_⟩) kk
  have e : ra_B (ra_g σ k j ≠ 0) = ra_fv (σ k) j (some (.arg 0)) := by
    unfold ra_fv ra_B
    have e0 : ra_g σ k j = 0 ↔ σ k j = 0 := by
      unfold ra_g
      rw [← Int32.toInt_inj]
      rfl
    by_cases h0 : σ k j = 0
    · rw [if_pos h0, if_neg (fun z => z (e0.mpr h0))]
      rfl
    · rw [if_neg h0, if_pos (fun z => h0 (e0.mp z))]
      rfl
  rw [e]
  exact ra_getf_e hc (ra_rep_obj h hs) (ra_fs_get hf) hk
/-- what a field takes: its type; that it isn't final -/
def ra_pf (G : ri_Tb) (ci j : Nat) : Option FieldType := match (ri_cls G)[ci]?, ((ri_fts G).getD ci [])[j]? with
  | some (_, T, _), some ty => if (T j).2.2.2 = false then some ty else none
  | _, _ => none
theorem ra_putf_e {kd ci idx k j : Nat} {tx : String} {fs : List Jvm.Term} {t : Jvm.Term} {ty : FieldType} (hc : ri_cp G M idx = some (kd, ci, j, tx)) (hm : mem[k]? = some (.inl (ci, fs))) (hj : j < fs.length) (hk : kd ≤ 1) (hp : ra_pf G ci j = some ty) (hfit : ri_fit ty t = true) : ri_heap G M [] (.putfield idx) (t :: .index k :: st) mem = some (3, st, mem.set k (.inl (ci, fs.set j t)), 0, 0, []) := by
  show ri_putf G M idx (t :: .index k :: st) mem = _
  unfold ri_putf
  rw [hc]
  dsimp only
  rw [hm]
  unfold ra_pf at hp
  split at hp
  · next C T N ty2 h1 h2 =>
    split at hp
    · next hT =>
      cases hp
      rw [h1, h2]
      dsimp only
      rw [if_pos ⟨hk, rfl, hj, hfit, Or.inl hT⟩]
    · cases hp
  · cases hp
theorem ra_putI {kd ci idx k j : Nat} {tx : String} {fl : List (Option Jvm.Term)} {z : Int} (hd : (ri_co M)[pc]? = some (some (.putfield idx, 3))) (hc : ri_cp G M idx = some (kd, ci, j, tx)) (hk : kd ≤ 1) (hs : sh[k]? = some (.inl (ci, fl))) (hf : fl[j]? = some none) (hp : ra_pf G ci j = some .int) (kk : ra_P G sh b d M (pc + 3) L st (ra_up σ k j z) Q) : ra_P G sh b d M pc L (ra_I z :: .index k :: st) σ Q := by
  refine ra_heap hd (fun _ => rfl) (fun mem h => ⟨_, ?_, ra_putf_e hc (ra_rep_obj h hs) ?_ hk hp rfl⟩) kk
  · exact ra_rep_set h hs ⟨rfl, ra_fs_set hf (congrArg Jvm.Term.int ra_up_eq)⟩ (fun a ha => ra_up_ne ha)
  · unfold ra_fs
    rw [List.length_mapIdx]
    exact (List.getElem?_eq_some_iff.mp hf).1
/-- a boolean field -/
theorem ra_putB {kd ci idx k j : Nat} {tx : String} {fl : List (Option Jvm.Term)} {z : Int} (hd : (ri_co M)[pc]? = some (some (.putfield idx, 3))) (hc : ri_cp G M idx = some (kd, ci, j, tx)) (hk : kd ≤ 1) (hs : sh[k]? = some (.inl (ci, fl))) (hf : fl[j]? = some (some (.arg 0))) (hp : ra_pf G ci j = some .boolean) (hz : z = 0 ∨ z = 1) (kk : ra_P G sh b d M (pc + 3) L st (ra_up σ k j z) Q) : ra_P G sh b d M pc L (ra_I z :: .index k :: st) σ Q := by
  refine ra_heap hd (fun _ => rfl) (fun mem h => ⟨_, ?_, ra_putf_e hc (ra_rep_obj h hs) ?_ hk hp (by rcases hz with rfl | rfl <;> decide)⟩) kk
  · refine ra_rep_set h hs ⟨rfl, ra_fs_set hf ?_⟩ (fun a ha => ra_up_ne ha)
    unfold ra_fv
    rw [ra_up_eq]
    rcases hz with rfl | rfl
    · rfl
    · rfl
  · unfold ra_fs
    rw [List.length_mapIdx]
    exact (List.getElem?_eq_some_iff.mp hf).1
/-! rows -/
theorem ra_ix {z : Int} {n : Nat} (h0 : 0 ≤ z) (h1 : z < n) (hn : n ≤ 2147483647) : ri_ix (ra_I z) n = some z.toNat := by
  have hz : ra_in z := ⟨by omega, by omega⟩
  have e : (Int32.ofInt z).toInt = z := ra_ofI hz
  have e2 : (Int32.ofInt z).toNatClampNeg = z.toNat := by
    show (Int32.ofInt z).toInt.toNat = _
    rw [e]
  show (if Int32.ofInt z < 0 ∨ n ≤ (Int32.ofInt z).toNatClampNeg then none else some (Int32.ofInt z).toNatClampNeg) = _
  rw [e2, if_neg]
  rintro (h | h)
  · rw [Int32.lt_iff_toInt_lt, e] at h
    have : (0 : Int32).toInt = 0 := by decide
    omega
  · omega
theorem ra_iaload {k ty n : Nat} {z : Int} (hd : (ri_co M)[pc]? = some (some (.iaload, 1))) (hs : sh[k]? = some (.inr (ty, n, false, none))) (hty : (ri_aty G)[ty]? = some .int) (hn : n ≤ 2147483647) (h0 : 0 ≤ z) (h1 : z < n) (kk : ra_P G sh b d M (pc + 1) L (ra_I (ra_g σ k z.toNat) :: st) σ Q) : ra_P G sh b d M pc L (ra_I z :: .index k :: st) σ Q := by
  refine ra_heap hd (fun _ => rfl) (fun mem h => ⟨mem, h, ?_⟩) kk
  obtain ⟨d0, ov, hm, hl⟩ := ra_rep_row h hs
  have hj := hl z.toNat (by omega)
  rw [if_neg (show ¬ (false = true) by decide)] at hj
  show ri_iald G [] (ra_I z :: .index k :: st) mem = _
  unfold ri_iald
  dsimp only
  rw [hm]
  dsimp only
  rw [if_pos hty, ra_ix h0 h1 hn]
  dsimp only
  rw [hj, ra_I_g, if_pos (show ri_k (.int (σ k z.toNat)) = 0 from rfl)]
theorem ra_sameC {t u : Jvm.Term} (h : ri_sameC t u = true) : t = u := by
  unfold ri_sameC at h
  split at h
  · next a b => rw [beq_iff_eq.mp h]
  · next a b => rw [beq_iff_eq.mp h]
  · rfl
  · cases h
theorem ra_put_look {d0 t : Jvm.Term} {ov : List (Nat × Jvm.Term)} {j i : Nat} : ri_look d0 (ri_put d0 ov j t) i = if i = j then t else ri_look d0 ov i := by
  unfold ri_put
  by_cases hij : i = j
  · subst hij
    rw [if_pos rfl]
    split
    · next hs => unfold ri_look; rw [ri_find_none]; exact (ra_sameC hs).symm
    · unfold ri_look; rw [List.find?_cons_of_pos (by simp)]
  · rw [if_neg hij]
    split
    · unfold ri_look; rw [ri_find_filter hij]
    · unfold ri_look; rw [List.find?_cons_of_neg (by simpa using Ne.symm hij), ri_find_filter hij]
theorem ra_iastore {k ty n : Nat} {z v : Int} (hd : (ri_co M)[pc]? = some (some (.iastore, 1))) (hs : sh[k]? = some (.inr (ty, n, false, none))) (hty : (ri_aty G)[ty]? = some .int) (hn : n ≤ 2147483647) (h0 : 0 ≤ z) (h1 : z < n) (kk : ra_P G sh b d M (pc + 1) L st (ra_up σ k z.toNat v) Q) : ra_P G sh b d M pc L (ra_I v :: ra_I z :: .index k :: st) σ Q := by
  refine ra_heap hd (fun _ => rfl) (fun mem h => ?_) kk
  obtain ⟨d0, ov, hm, hl⟩ := ra_rep_row h hs
  refine ⟨mem.set k (.inr (ty, n, d0, ri_put d0 ov z.toNat (ra_I v))), ra_rep_set h hs ⟨rfl, rfl, fun j hj => ?_⟩ (fun a ha => ra_up_ne ha), ?_⟩
  · rw [ra_put_look, if_neg (show ¬ (false = true) by decide)]
    unfold ra_up
    by_cases e : j = z.toNat
    · rw [if_pos e, if_pos ⟨rfl, e⟩]
    · rw [if_neg e, if_neg (fun q => e q.2)]
      have := hl j hj
      rw [if_neg (show ¬ (false = true) by decide)] at this
      exact this
  · show ri_iast G (ra_I v :: ra_I z :: .index k :: st) mem = _
    unfold ri_iast
    dsimp only
    rw [hm]
    dsimp only
    rw [ra_ix h0 h1 hn]
    dsimp only
    rw [if_pos ⟨hty, rfl⟩]
theorem ra_lastore {k ty n : Nat} {z v : Int} (hd : (ri_co M)[pc]? = some (some (.lastore, 1))) (hs : sh[k]? = some (.inr (ty, n, true, none))) (hty : (ri_aty G)[ty]? = some .long) (hn : n ≤ 2147483647) (h0 : 0 ≤ z) (h1 : z < n) (hv : ra_in v) (kk : ra_P G sh b d M (pc + 1) L st (ra_up σ k z.toNat v) Q) : ra_P G sh b d M pc L (ra_J v :: ra_I z :: .index k :: st) σ Q := by
  refine ra_heap hd (fun _ => rfl) (fun mem h => ?_) kk
  obtain ⟨d0, ov, hm, hl⟩ := ra_rep_row h hs
  refine ⟨mem.set k (.inr (ty, n, d0, ri_put d0 ov z.toNat (ra_J v))), ra_rep_set h hs ⟨rfl, rfl, fun j hj => ?_⟩ (fun a ha => ra_up_ne ha), ?_⟩
  · rw [ra_put_look, if_pos (show true = true from rfl)]
    unfold ra_up
    by_cases e : j = z.toNat
    · rw [if_pos e, if_pos ⟨rfl, e⟩, ra_i2l_e hv]
    · rw [if_neg e, if_neg (fun q => e q.2)]
      have := hl j hj
      rw [if_pos (show true = true from rfl)] at this
      exact this
  · show ri_last G (ra_J v :: ra_I z :: .index k :: st) mem = _
    unfold ri_last
    dsimp only
    rw [hm]
    dsimp only
    rw [ra_ix h0 h1 hn]
    dsimp only
    rw [if_pos ⟨hty, rfl⟩]
theorem ra_laload {k ty n : Nat} {z : Int} (hd : (ri_co M)[pc]? = some (some (.laload, 1))) (hs : sh[k]? = some (.inr (ty, n, true, none))) (hty : (ri_aty G)[ty]? = some .long) (hn : n ≤ 2147483647) (h0 : 0 ≤ z) (h1 : z < n) (kk : ra_P G sh b d M (pc + 1) L (ra_J (ra_g σ k z.toNat) :: st) σ Q) : ra_P G sh b d M pc L (ra_I z :: .index k :: st) σ Q := by
  refine ra_heap hd (fun _ => rfl) (fun mem h => ⟨mem, h, ?_⟩) kk
  obtain ⟨d0, ov, hm, hl⟩ := ra_rep_row h hs
  have hj := hl z.toNat (by omega)
  rw [if_pos (show true = true from rfl)] at hj
  have e : (σ k z.toNat).toInt64 = Int64.ofInt (ra_g σ k z.toNat) := by
    rw [← ra_i2l_e (ra_in_g σ k z.toNat)]
    unfold ra_g
    rw [Int32.ofInt_toInt]
  rw [e] at hj
  show ri_lald G (ra_I z :: .index k :: st) mem = _
  unfold ri_lald
  dsimp only
  rw [hm]
  dsimp only
  rw [ra_ix h0 h1 hn]
  dsimp only
  rw [hj, if_pos ⟨hty, rfl⟩]
theorem ra_aaload {k ty n : Nat} {lg : Bool} {z : Int} {l : List Jvm.Term} {t : Jvm.Term} {C : String} (hd : (ri_co M)[pc]? = some (some (.aaload, 1))) (hs : sh[k]? = some (.inr (ty, n, lg, some l))) (hty : (ri_aty G)[ty]? = some (.object C)) (hn : n ≤ 2147483647) (h0 : 0 ≤ z) (h1 : z < n) (ht : l[z.toNat]? = some t) (hk : ra_kok 2 t = true) (kk : ra_P G sh b d M (pc + 1) L (t :: st) σ Q) : ra_P G sh b d M pc L (ra_I z :: .index k :: st) σ Q := by
  refine ra_heap hd (fun _ => rfl) (fun mem h => ⟨mem, h, ?_⟩) kk
  obtain ⟨d0, ov, hm, hl⟩ := ra_rep_ref h hs
  have hj := hl z.toNat (by omega)
  rw [ht] at hj
  have e := Option.some.inj hj
  show ri_aald G (ra_I z :: .index k :: st) mem = _
  unfold ri_aald
  dsimp only
  rw [hm]
  dsimp only
  rw [ra_ix h0 h1 hn, hty]
  dsimp only
  rw [← e, if_pos (ra_kok2 hk)]
theorem ra_alen_e {k ty n : Nat} {ft : FieldType} {dd : Jvm.Term} {ov : List (Nat × Jvm.Term)} (hm : mem[k]? = some (.inr (ty, n, dd, ov))) (hty : (ri_aty G)[ty]? = some ft) : ri_heap G M [] .arraylength (.index k :: st) mem = some (1, ra_I n :: st, mem, 0, 0, []) := by
  show ri_alen G (.index k :: st) mem = _
  unfold ri_alen
  dsimp only
  rw [hm]
  dsimp only
  rw [hty]
  dsimp only
  rw [ri_ci_eq]
  rfl
theorem ra_alen {k ty n : Nat} {lg : Bool} {l : Option (List Jvm.Term)} {ft : FieldType} (hd : (ri_co M)[pc]? = some (some (.arraylength, 1))) (hs : sh[k]? = some (.inr (ty, n, lg, l))) (hty : (ri_aty G)[ty]? = some ft) (kk : ra_P G sh b d M (pc + 1) L (ra_I n :: st) σ Q) : ra_P G sh b d M pc L (.index k :: st) σ Q := by
  refine ra_heap hd (fun _ => rfl) (fun mem h => ⟨mem, h, ?_⟩) kk
  cases l with
  | none => obtain ⟨d0, ov, hm, -⟩ := ra_rep_row h hs; exact ra_alen_e hm hty
  | some l => obtain ⟨d0, ov, hm, -⟩ := ra_rep_ref h hs; exact ra_alen_e hm hty
/-- a whole row of ints over another -/
def ra_cpy (σ : ra_V) (k0 k1 : Nat) : ra_V := fun a b => if a = k1 then σ k0 b else σ a b
theorem ra_acopy {idx k0 k1 ty n a1 b1 : Nat} {tx : String} {x0 : Int} {z1 z2 : Int} (hd : (ri_co M)[pc]? = some (some (.invokestatic idx, 3))) (hc : ri_cp G M idx = some (12, a1, b1, tx)) (hs0 : sh[k0]? = some (.inr (ty, n, false, none))) (hs1 : sh[k1]? = some (.inr (ty, n, false, none))) (hty : (ri_aty G)[ty]? = some .int) (hn : n ≤ 2147483647) (hx : x0 = n) (hz1 : z1 = 0) (hz2 : z2 = 0) (hst : st.length ≤ 4) (kk : ra_P G sh b d M (pc + 3) L st (ra_cpy σ k0 k1) Q) : ra_P G sh b d M pc L (ra_I x0 :: ra_I z2 :: .index k1 :: ra_I z1 :: .index k0 :: st) σ Q := by
  subst hx hz1 hz2
  refine ra_heap hd (fun _ => rfl) (fun mem h => ?_) kk
  obtain ⟨d0, ov0, hm0, hl0⟩ := ra_rep_row h hs0
  obtain ⟨d1, ov1, hm1, hl1⟩ := ra_rep_row h hs1
  refine ⟨mem.set k1 (.inr (ty, n, d0, ov0)), ra_rep_set h hs1 ⟨rfl, rfl, fun j hj => ?_⟩ (fun a ha => funext fun i => by unfold ra_cpy; rw [if_neg ha]), ?_⟩
  · rw [hl0 j hj]
    unfold ra_cpy
    rw [if_pos rfl]
  · have e : (Int32.ofInt (n : Int)).toInt = n := ra_ofI ⟨by omega, by omega⟩
    have e2 : (Int32.ofInt (n : Int)).toNatClampNeg = n := by
      show (Int32.ofInt (n : Int)).toInt.toNat = _
      rw [e]
      rfl
    have e3 : ¬ Int32.ofInt (n : Int) < 0 := fun q => by
      rw [Int32.lt_iff_toInt_lt, e] at q
      have : (0 : Int32).toInt = 0 := by decide
      omega
    show (match ri_cp G M idx with
      | some (12, _, _, _) => ri_acpy G (ra_I n :: ra_I 0 :: .index k1 :: ra_I 0 :: .index k0 :: st) mem
      | _ => none) = _
    rw [hc]
    show ri_acpy G (ra_I n :: ra_I 0 :: .index k1 :: ra_I 0 :: .index k0 :: st) mem = _
    unfold ri_acpy
    dsimp only
    rw [hm0, hm1]
    dsimp only
    rw [if_pos ⟨hty, rfl, rfl, rfl, rfl, e3, e2, hst⟩]
/-! constants out of the table -/
theorem ra_ldcI {idx a1 b1 : Nat} {tx : String} {z : Int} (hd : (ri_co M)[pc]? = some (some (.ldc idx, 2))) (hc : ri_cp G M idx = some (8, a1, b1, tx)) (hz : Int32.ofNat a1 - Int32.ofNat b1 = Int32.ofInt z) (kk : ra_P G sh b d M (pc + 2) L (ra_I z :: st) σ Q) : ra_P G sh b d M pc L st σ Q := by
  refine ra_heap hd (fun _ => rfl) (fun mem h => ⟨mem, h, ?_⟩) kk
  show ri_ldc G M idx st mem = _
  unfold ri_ldc
  rw [hc]
  show some (2, ri_ci (Int32.ofNat a1 - Int32.ofNat b1) :: st, mem, 0, 0, []) = _
  rw [hz, ra_ciI]
theorem ra_ldcS {idx a1 b1 : Nat} {tx : String} (hd : (ri_co M)[pc]? = some (some (.ldc idx, 2))) (hc : ri_cp G M idx = some (9, a1, b1, tx)) (kk : ra_P G sh b d M (pc + 2) L (.string (ri_own M) idx :: st) σ Q) : ra_P G sh b d M pc L st σ Q := by
  refine ra_heap hd (fun _ => rfl) (fun mem h => ⟨mem, h, ?_⟩) kk
  show ri_ldc G M idx st mem = _
  unfold ri_ldc
  rw [hc]
  rfl
theorem ra_ldcwS {idx a1 b1 : Nat} {tx : String} (hd : (ri_co M)[pc]? = some (some (.ldc_w idx, 3))) (hc : ri_cp G M idx = some (9, a1, b1, tx)) (kk : ra_P G sh b d M (pc + 3) L (.string (ri_own M) idx :: st) σ Q) : ra_P G sh b d M pc L st σ Q := by
  refine ra_heap hd (fun _ => rfl) (fun mem h => ⟨mem, h, ?_⟩) kk
  show ri_ldcw G M idx st mem = _
  unfold ri_ldcw
  rw [hc]
  rfl
theorem ra_ldc2 {idx a1 b1 : Nat} {tx : String} {z : Int} (hd : (ri_co M)[pc]? = some (some (.ldc2_w idx, 3))) (hc : ri_cp G M idx = some (14, a1, b1, tx)) (hz : Int64.ofNat a1 - Int64.ofNat b1 = Int64.ofInt z) (kk : ra_P G sh b d M (pc + 3) L (ra_J z :: st) σ Q) : ra_P G sh b d M pc L st σ Q := by
  refine ra_heap hd (fun _ => rfl) (fun mem h => ⟨mem, h, ?_⟩) kk
  show ri_ldc2 G M idx st mem = _
  unfold ri_ldc2
  rw [hc]
  show some (3, ri_cl (Int64.ofNat a1 - Int64.ofNat b1) :: st, mem, 0, 0, []) = _
  rw [hz, ra_clJ]
/-! the script -/
theorem ra_sld {z : Int} (hd : (ri_co M)[pc]? = some (some (.iaload, 1))) (hw : ri_lw M = true) (hn : ri_sn G ≤ 2147483647) (h0 : 0 ≤ z) (h1 : z < ri_sn G) (kk : ra_P G sh b d M (pc + 1) L (ra_I (ri_sf G z.toNat).toInt :: st) σ Q) : ra_P G sh b d M pc L (ra_I z :: .string "" 0 :: st) σ Q := by
  refine ra_heap hd (fun _ => rfl) (fun mem h => ⟨mem, h, ?_⟩) kk
  have e : ri_sld G M (ra_I z :: .string "" 0 :: st) mem = some (1, ra_I (ri_sf G z.toNat).toInt :: st, mem, 0, 0, []) := by
    unfold ri_sld
    dsimp only
    rw [ra_ix h0 h1 hn]
    dsimp only
    rw [if_pos ⟨hw, rfl, rfl⟩]
    show _ = some (1, Jvm.Term.int (Int32.ofInt (ri_sf G z.toNat).toInt) :: st, mem, 0, 0, [])
    rw [Int32.ofInt_toInt]
  simp only [ri_heap]
  rw [e]
theorem ra_slen (hd : (ri_co M)[pc]? = some (some (.arraylength, 1))) (hw : ri_lw M = true) (kk : ra_P G sh b d M (pc + 1) L (ra_I (ri_sn G) :: st) σ Q) : ra_P G sh b d M pc L (.string "" 0 :: st) σ Q := by
  refine ra_heap hd (fun _ => rfl) (fun mem h => ⟨mem, h, ?_⟩) kk
  have e : ri_slen G M (.string "" 0 :: st) mem = some (1, ra_I (ri_sn G) :: st, mem, 0, 0, []) := by
    unfold ri_slen
    dsimp only
    rw [if_pos ⟨hw, rfl, rfl⟩]
    rfl
  simp only [ri_heap]
  rw [e]
end RA3
end RA
end
section
/-! RA: forks, jumps, answers, throws, calls -/
section RA
section RA4
variable {G : ri_Tb} {sh : ra_Sh} {b b1 b2 d : Nat} {M : ri_Mt} {pc len : Nat} {L L' : List (Option Jvm.Term)} {st rest : List Jvm.Term} {σ : ra_V} {Q Q' : ra_Q} {i : Instr}
def ra_cn (c : ClassFile.Cond) (x y : Int) : Prop := match c with
  | .eq => x = y
  | .ne => ¬ x = y
  | .lt => x < y
  | .ge => ¬ x < y
  | .gt => y < x
  | .le => ¬ y < x
theorem ra_br0_e {q : ri_Cd} {T F : List ri_Cd → Option ri_Rs} {r : Bool} (h : ri_dec [] q.1 q.2.1 q.2.2.1 = some r) : ri_br0 [] q T F = if r = q.2.2.2 then T [] else F [] := by
  unfold ri_br0
  rw [h]
theorem ra_dec0 {x y : Int} (hx : ra_in x) (hy : ra_in y) : ri_dec [] 0 (ra_I x) (ra_I y) = some (decide (x = y)) := by
  show some (decide (Int32.ofInt x = Int32.ofInt y)) = _
  rw [decide_eq_decide.mpr (ra_eq hx hy)]
theorem ra_dec1 {x y : Int} (hx : ra_in x) (hy : ra_in y) : ri_dec [] 1 (ra_I x) (ra_I y) = some (decide (x < y)) := by
  show some (decide (Int32.ofInt x < Int32.ofInt y)) = _
  rw [decide_eq_decide.mpr (ra_lt hx hy)]
theorem ra_br_t {c : ClassFile.Cond} {x y : Int} {T F : List ri_Cd → Option ri_Rs} (hx : ra_in x) (hy : ra_in y) (h : ra_cn c x y) : ri_br [] (ri_cnd c (ra_I x) (ra_I y)) T F = T [] := by
  cases c with
  | eq => show ri_br0 [] (0, ra_I x, ra_I y, true) T F = _; rw [ra_br0_e (ra_dec0 hx hy)]; have h : x = y := h; simp [h]
  | ne => show ri_br0 [] (0, ra_I x, ra_I y, false) T F = _; rw [ra_br0_e (ra_dec0 hx hy)]; have h : ¬ x = y := h; simp [h]
  | lt => show ri_br0 [] (1, ra_I x, ra_I y, true) T F = _; rw [ra_br0_e (ra_dec1 hx hy)]; have h : x < y := h; simp [h]
  | ge => show ri_br0 [] (1, ra_I x, ra_I y, false) T F = _; rw [ra_br0_e (ra_dec1 hx hy)]; have h : ¬ x < y := h; rw [decide_eq_false h]; rfl
  | gt => show ri_br0 [] (1, ra_I y, ra_I x, true) T F = _; rw [ra_br0_e (ra_dec1 hy hx)]; have h : y < x := h; simp [h]
  | le => show ri_br0 [] (1, ra_I y, ra_I x, false) T F = _; rw [ra_br0_e (ra_dec1 hy hx)]; have h : ¬ y < x := h; rw [decide_eq_false h]; rfl
theorem ra_br_f {c : ClassFile.Cond} {x y : Int} {T F : List ri_Cd → Option ri_Rs} (hx : ra_in x) (hy : ra_in y) (h : ¬ ra_cn c x y) : ri_br [] (ri_cnd c (ra_I x) (ra_I y)) T F = F [] := by
  cases c with
  | eq => show ri_br0 [] (0, ra_I x, ra_I y, true) T F = _; rw [ra_br0_e (ra_dec0 hx hy)]; have h : ¬ x = y := h; simp [h]
  | ne => show ri_br0 [] (0, ra_I x, ra_I y, false) T F = _; rw [ra_br0_e (ra_dec0 hx hy)]; have h : x = y := Decidable.of_not_not h; simp [h]
  | lt => show ri_br0 [] (1, ra_I x, ra_I y, true) T F = _; rw [ra_br0_e (ra_dec1 hx hy)]; have h : ¬ x < y := h; rw [decide_eq_false h]; rfl
  | ge => show ri_br0 [] (1, ra_I x, ra_I y, false) T F = _; rw [ra_br0_e (ra_dec1 hx hy)]; have h : x < y := Decidable.of_not_not h; simp [h]
  | gt => show ri_br0 [] (1, ra_I y, ra_I x, true) T F = _; rw [ra_br0_e (ra_dec1 hy hx)]; have h : ¬ y < x := h; rw [decide_eq_false h]; rfl
  | le => show ri_br0 [] (1, ra_I y, ra_I x, false) T F = _; rw [ra_br0_e (ra_dec1 hy hx)]; have h : y < x := Decidable.of_not_not h; simp [h]
/-- a step of course -/
theorem ra_ctl {pc' : Nat} {st' : List Jvm.Term} (hd : (ri_co M)[pc]? = some (some (i, len))) (hp : ∀ lv, ri_pure (ri_mx M) i lv st = none) (hh : ∀ mem, ri_heap G M [] i st mem = none) (hf : ri_foc i st = none) (hc : ∀ C K lv mem, ri_ctl G C M K pc i len lv st [] mem = K pc' lv st' [] mem) (k : ra_P G sh b d M pc' L st' σ Q) : ra_P G sh b d M pc L st σ Q :=
  ra_go (fun C K lv mem h1 h2 => ⟨lv, mem, h1, h2, (ra_one_ctl hd (hp lv) (hh mem) hf).trans (hc C K lv mem)⟩) k
theorem ra_goto {off : Int} {t : Nat} (hd : (ri_co M)[pc]? = some (some (.goto off, 3))) (ht : ri_tg pc off = some t) (k : ra_P G sh b d M t L st σ Q) : ra_P G sh b d M pc L st σ Q :=
  ra_ctl hd (fun _ => rfl) (fun _ => rfl) rfl (fun C K lv mem => by
    simp only [ri_ctl]
    rw [ht]
    simp) k
theorem ra_ifc {c : ClassFile.Cond} {off : Int} {t : Nat} {x : Int} (hd : (ri_co M)[pc]? = some (some (.ifCond c off, 3))) (ht : ri_tg pc off = some t) (hx : ra_in x) (h1 : ra_cn c x 0 → ra_P G sh b d M t L st σ Q) (h2 : ¬ ra_cn c x 0 → ra_P G sh b d M (pc + 3) L st σ Q) : ra_P G sh b d M pc L (ra_I x :: st) σ Q := by
  have e : ∀ (C : ri_Call) (K : ri_K) lv mem, ri_ctl G C M K pc (.ifCond c off) 3 lv (ra_I x :: st) [] mem = ri_br [] (ri_cnd c (ra_I x) (ra_I 0)) (fun cs' => K t lv st cs' mem) (fun cs' => K (pc + 3) lv st cs' mem) := fun C K lv mem => by
    simp only [ri_ctl]
    rw [ht]
    dsimp only
    rw [if_pos ⟨rfl, trivial⟩]
    rfl
  by_cases h : ra_cn c x 0
  · exact ra_ctl hd (fun _ => rfl) (fun _ => rfl) rfl (fun C K lv mem => (e C K lv mem).trans (ra_br_t hx ra_in0 h)) (h1 h)
  · exact ra_ctl hd (fun _ => rfl) (fun _ => rfl) rfl (fun C K lv mem => (e C K lv mem).trans (ra_br_f hx ra_in0 h)) (h2 h)
theorem ra_ific {c : ClassFile.Cond} {off : Int} {t : Nat} {x y : Int} (hd : (ri_co M)[pc]? = some (some (.if_icmp c off, 3))) (ht : ri_tg pc off = some t) (hx : ra_in x) (hy : ra_in y) (h1 : ra_cn c x y → ra_P G sh b d M t L st σ Q) (h2 : ¬ ra_cn c x y → ra_P G sh b d M (pc + 3) L st σ Q) : ra_P G sh b d M pc L (ra_I y :: ra_I x :: st) σ Q := by
  have e : ∀ (C : ri_Call) (K : ri_K) lv mem, ri_ctl G C M K pc (.if_icmp c off) 3 lv (ra_I y :: ra_I x :: st) [] mem = ri_br [] (ri_cnd c (ra_I x) (ra_I y)) (fun cs' => K t lv st cs' mem) (fun cs' => K (pc + 3) lv st cs' mem) := fun C K lv mem => by
    simp only [ri_ctl]
    rw [ht]
    dsimp only
    rw [if_pos ⟨rfl, rfl, trivial⟩]
  by_cases h : ra_cn c x y
  · exact ra_ctl hd (fun _ => rfl) (fun _ => rfl) rfl (fun C K lv mem => (e C K lv mem).trans (ra_br_t hx hy h)) (h1 h)
  · exact ra_ctl hd (fun _ => rfl) (fun _ => rfl) rfl (fun C K lv mem => (e C K lv mem).trans (ra_br_f hx hy h)) (h2 h)
section
variable {off : Int} {t : Nat} {x y : Int}
theorem ra_ifeq (hd : (ri_co M)[pc]? = some (some (.ifCond .eq off, 3))) (ht : ri_tg pc off = some t) (hx : ra_in x) (h1 : x = 0 → ra_P G sh b d M t L st σ Q) (h2 : ¬ x = 0 → ra_P G sh b d M (pc + 3) L st σ Q) : ra_P G sh b d M pc L (ra_I x :: st) σ Q := ra_ifc hd ht hx h1 h2
theorem ra_ifne (hd : (ri_co M)[pc]? = some (some (.ifCond .ne off, 3))) (ht : ri_tg pc off = some t) (hx : ra_in x) (h1 : ¬ x = 0 → ra_P G sh b d M t L st σ Q) (h2 : x = 0 → ra_P G sh b d M (pc + 3) L st σ Q) : ra_P G sh b d M pc L (ra_I x :: st) σ Q := ra_ifc hd ht hx h1 (fun h => h2 (Decidable.of_not_not h))
theorem ra_iflt (hd : (ri_co M)[pc]? = some (some (.ifCond .lt off, 3))) (ht : ri_tg pc off = some t) (hx : ra_in x) (h1 : x < 0 → ra_P G sh b d M t L st σ Q) (h2 : 0 ≤ x → ra_P G sh b d M (pc + 3) L st σ Q) : ra_P G sh b d M pc L (ra_I x :: st) σ Q := ra_ifc hd ht hx h1 (fun h => h2 (Int.not_lt.mp h))
theorem ra_ifge (hd : (ri_co M)[pc]? = some (some (.ifCond .ge off, 3))) (ht : ri_tg pc off = some t) (hx : ra_in x) (h1 : 0 ≤ x → ra_P G sh b d M t L st σ Q) (h2 : x < 0 → ra_P G sh b d M (pc + 3) L st σ Q) : ra_P G sh b d M pc L (ra_I x :: st) σ Q := ra_ifc hd ht hx (fun h => h1 (Int.not_lt.mp h)) (fun h => h2 (Decidable.of_not_not h))
theorem ra_ifgt (hd : (ri_co M)[pc]? = some (some (.ifCond .gt off, 3))) (ht : ri_tg pc off = some t) (hx : ra_in x) (h1 : 0 < x → ra_P G sh b d M t L st σ Q) (h2 : x ≤ 0 → ra_P G sh b d M (pc + 3) L st σ Q) : ra_P G sh b d M pc L (ra_I x :: st) σ Q := ra_ifc hd ht hx h1 (fun h => h2 (Int.not_lt.mp h))
theorem ra_ifle (hd : (ri_co M)[pc]? = some (some (.ifCond .le off, 3))) (ht : ri_tg pc off = some t) (hx : ra_in x) (h1 : x ≤ 0 → ra_P G sh b d M t L st σ Q) (h2 : 0 < x → ra_P G sh b d M (pc + 3) L st σ Q) : ra_P G sh b d M pc L (ra_I x :: st) σ Q := ra_ifc hd ht hx (fun h => h1 (Int.not_lt.mp h)) (fun h => h2 (Decidable.of_not_not h))
theorem ra_iceq (hd : (ri_co M)[pc]? = some (some (.if_icmp .eq off, 3))) (ht : ri_tg pc off = some t) (hx : ra_in x) (hy : ra_in y) (h1 : x = y → ra_P G sh b d M t L st σ Q) (h2 : ¬ x = y → ra_P G sh b d M (pc + 3) L st σ Q) : ra_P G sh b d M pc L (ra_I y :: ra_I x :: st) σ Q := ra_ific hd ht hx hy h1 h2
theorem ra_icne (hd : (ri_co M)[pc]? = some (some (.if_icmp .ne off, 3))) (ht : ri_tg pc off = some t) (hx : ra_in x) (hy : ra_in y) (h1 : ¬ x = y → ra_P G sh b d M t L st σ Q) (h2 : x = y → ra_P G sh b d M (pc + 3) L st σ Q) : ra_P G sh b d M pc L (ra_I y :: ra_I x :: st) σ Q := ra_ific hd ht hx hy h1 (fun h => h2 (Decidable.of_not_not h))
theorem ra_iclt (hd : (ri_co M)[pc]? = some (some (.if_icmp .lt off, 3))) (ht : ri_tg pc off = some t) (hx : ra_in x) (hy : ra_in y) (h1 : x < y → ra_P G sh b d M t L st σ Q) (h2 : y ≤ x → ra_P G sh b d M (pc + 3) L st σ Q) : ra_P G sh b d M pc L (ra_I y :: ra_I x :: st) σ Q := ra_ific hd ht hx hy h1 (fun h => h2 (Int.not_lt.mp h))
theorem ra_icge (hd : (ri_co M)[pc]? = some (some (.if_icmp .ge off, 3))) (ht : ri_tg pc off = some t) (hx : ra_in x) (hy : ra_in y) (h1 : y ≤ x → ra_P G sh b d M t L st σ Q) (h2 : x < y → ra_P G sh b d M (pc + 3) L st σ Q) : ra_P G sh b d M pc L (ra_I y :: ra_I x :: st) σ Q := ra_ific hd ht hx hy (fun h => h1 (Int.not_lt.mp h)) (fun h => h2 (Decidable.of_not_not h))
theorem ra_icgt (hd : (ri_co M)[pc]? = some (some (.if_icmp .gt off, 3))) (ht : ri_tg pc off = some t) (hx : ra_in x) (hy : ra_in y) (h1 : y < x → ra_P G sh b d M t L st σ Q) (h2 : x ≤ y → ra_P G sh b d M (pc + 3) L st σ Q) : ra_P G sh b d M pc L (ra_I y :: ra_I x :: st) σ Q := ra_ific hd ht hx hy h1 (fun h => h2 (Int.not_lt.mp h))
theorem ra_icle (hd : (ri_co M)[pc]? = some (some (.if_icmp .le off, 3))) (ht : ri_tg pc off = some t) (hx : ra_in x) (hy : ra_in y) (h1 : x ≤ y → ra_P G sh b d M t L st σ Q) (h2 : y < x → ra_P G sh b d M (pc + 3) L st σ Q) : ra_P G sh b d M pc L (ra_I y :: ra_I x :: st) σ Q := ra_ific hd ht hx hy (fun h => h1 (Int.not_lt.mp h)) (fun h => h2 (Decidable.of_not_not h))
theorem ra_in_b (p : Prop) [Decidable p] : ra_in (if p then 1 else 0) := by unfold ra_in; split <;> omega
/-- a truth value -/
theorem ra_ifeqB {p : Prop} [Decidable p] (hd : (ri_co M)[pc]? = some (some (.ifCond .eq off, 3))) (ht : ri_tg pc off = some t) (h1 : ¬ p → ra_P G sh b d M t L st σ Q) (h2 : p → ra_P G sh b d M (pc + 3) L st σ Q) : ra_P G sh b d M pc L (ra_B p :: st) σ Q :=
  ra_ifc hd ht (ra_in_b p) (fun h => h1 (fun hp => by have h : (if p then (1 : Int) else 0) = 0 := h; rw [if_pos hp] at h; omega)) (fun h => h2 (Decidable.byContradiction fun hp => h (by show (if p then (1 : Int) else 0) = 0; rw [if_neg hp])))
theorem ra_ifneB {p : Prop} [Decidable p] (hd : (ri_co M)[pc]? = some (some (.ifCond .ne off, 3))) (ht : ri_tg pc off = some t) (h1 : p → ra_P G sh b d M t L st σ Q) (h2 : ¬ p → ra_P G sh b d M (pc + 3) L st σ Q) : ra_P G sh b d M pc L (ra_B p :: st) σ Q :=
  ra_ifc hd ht (ra_in_b p) (fun h => h1 (Decidable.byContradiction fun hp => h (by show (if p then (1 : Int) else 0) = 0; rw [if_neg hp]))) (fun h => h2 (fun hp => h (fun e => by have e : (if p then (1 : Int) else 0) = 0 := e; rw [if_pos hp] at e; omega)))
theorem ra_nullT (hd : (ri_co M)[pc]? = some (some (.ifnull off, 3))) (ht : ri_tg pc off = some t) (k : ra_P G sh b d M t L st σ Q) : ra_P G sh b d M pc L (.null :: st) σ Q :=
  ra_ctl hd (fun _ => rfl) (fun _ => rfl) rfl (fun C K lv mem => by
    simp only [ri_ctl]
    rw [ht]
    simp [ri_k]) k
theorem ra_nullF {q : Nat} (hd : (ri_co M)[pc]? = some (some (.ifnull off, 3))) (ht : ri_tg pc off = some t) (k : ra_P G sh b d M (pc + 3) L st σ Q) : ra_P G sh b d M pc L (.index q :: st) σ Q :=
  ra_ctl hd (fun _ => rfl) (fun _ => rfl) rfl (fun C K lv mem => by
    simp only [ri_ctl]
    rw [ht]
    simp [ri_k]) k
theorem ra_nnullF (hd : (ri_co M)[pc]? = some (some (.ifnonnull off, 3))) (ht : ri_tg pc off = some t) (k : ra_P G sh b d M (pc + 3) L st σ Q) : ra_P G sh b d M pc L (.null :: st) σ Q :=
  ra_ctl hd (fun _ => rfl) (fun _ => rfl) rfl (fun C K lv mem => by
    simp only [ri_ctl]
    rw [ht]
    simp [ri_k]) k
theorem ra_nnullT {q : Nat} (hd : (ri_co M)[pc]? = some (some (.ifnonnull off, 3))) (ht : ri_tg pc off = some t) (k : ra_P G sh b d M t L st σ Q) : ra_P G sh b d M pc L (.index q :: st) σ Q :=
  ra_ctl hd (fun _ => rfl) (fun _ => rfl) rfl (fun C K lv mem => by
    simp only [ri_ctl]
    rw [ht]
    simp [ri_k]) k
end
/-! a switch -/
theorem ra_chain_e {x : Int} {T : Nat → List ri_Cd → Option ri_Rs} {dflt : Int} (hx : ra_in x) : ∀ (ps : List (Int × Int)), (∀ q ∈ ps, ra_in q.1) → ∀ (t : Nat), ((∃ q, ps.find? (fun q => q.1 == x) = some q ∧ ri_tg pc q.2 = some t) ∨ (ps.find? (fun q => q.1 == x) = none ∧ ri_tg pc dflt = some t)) → ri_chain (ra_I x) pc T dflt ps [] = T t []
  | [], _, t, h => by
    rcases h with ⟨q, h1, h2⟩ | ⟨h1, h2⟩
    · simp at h1
    · unfold ri_chain
      rw [h2]
  | (v, off) :: l, hl, t, h => by
    unfold ri_chain
    have hv := hl _ List.mem_cons_self
    have e : (0, ra_I x, ri_ci (Int32.ofInt v), true) = ri_cnd .eq (ra_I x) (ra_I v) := by rw [ra_ciI]; rfl
    rw [e]
    by_cases hxv : x = v
    · rw [ra_br_t (c := .eq) (y := v) hx hv hxv]
      subst hxv
      rcases h with ⟨q, h1, h2⟩ | ⟨h1, h2⟩
      · rw [List.find?_cons_of_pos (by simp)] at h1
        cases h1
        rw [h2]
      · rw [List.find?_cons_of_pos (by simp)] at h1
        cases h1
    · rw [ra_br_f (c := .eq) (y := v) hx hv hxv]
      refine ra_chain_e hx l (fun q hq => hl q (List.mem_cons_of_mem _ hq)) t ?_
      rw [List.find?_cons_of_neg (by simpa using fun z => hxv z.symm)] at h
      exact h
/-- a switch: where it goes -/
theorem ra_switch {dft lo hi : Int} {offs : Array Int} {x : Int} {t : Nat} (hd : (ri_co M)[pc]? = some (some (.tableswitch dft lo hi offs, len))) (hx : ra_in x) (hr : hi = lo + (offs.size : Int) - 1 ∧ -2147483648 ≤ lo ∧ hi < 2147483648) (ht : (∃ q, (offs.toList.mapIdx (fun j o => (lo + (j : Int), o))).find? (fun q => q.1 == x) = some q ∧ ri_tg pc q.2 = some t) ∨ ((offs.toList.mapIdx (fun j o => (lo + (j : Int), o))).find? (fun q => q.1 == x) = none ∧ ri_tg pc dft = some t)) (k : ra_P G sh b d M t L st σ Q) : ra_P G sh b d M pc L (ra_I x :: st) σ Q :=
  ra_ctl hd (fun _ => rfl) (fun _ => rfl) rfl (fun C K lv mem => by
    simp only [ri_ctl]
    rw [if_pos ⟨rfl, hr⟩]
    refine ra_chain_e (T := fun t cs' => K t lv st cs' mem) hx _ (fun q hq => ?_) t ht
    obtain ⟨j, hj, rfl⟩ := List.mem_mapIdx.mp hq
    have hj : j < offs.size := by simpa using hj
    exact ⟨by dsimp only; omega, by dsimp only; omega⟩) k
theorem ra_lswitch {dft : Int} {ps : Array (Int × Int)} {x : Int} {t : Nat} (hd : (ri_co M)[pc]? = some (some (.lookupswitch dft ps, len))) (hx : ra_in x) (hs : (ps.toList.zip (ps.toList.drop 1)).all (fun (a, next) => a.1 < next.1) = true) (hr : ps.toList.all (fun q => decide (-2147483648 ≤ q.1 ∧ q.1 < 2147483648)) = true) (ht : (∃ q, ps.toList.find? (fun q => q.1 == x) = some q ∧ ri_tg pc q.2 = some t) ∨ (ps.toList.find? (fun q => q.1 == x) = none ∧ ri_tg pc dft = some t)) (k : ra_P G sh b d M t L st σ Q) : ra_P G sh b d M pc L (ra_I x :: st) σ Q :=
  ra_ctl hd (fun _ => rfl) (fun _ => rfl) rfl (fun C K lv mem => by
    simp only [ri_ctl]
    rw [if_pos ⟨rfl, hs, hr⟩]
    refine ra_chain_e (T := fun t cs' => K t lv st cs' mem) hx _ (fun q hq => ?_) t ht
    have := decide_eq_true_iff.mp (List.all_eq_true.mp hr q hq)
    exact ⟨this.1, by omega⟩) k
/-! answers, throws -/
theorem ra_stop {o : Option ri_Rs} {r : ra_R} {c s : Nat} (hd : (ri_co M)[pc]? = some (some (i, len))) (hp : ∀ lv, ri_pure (ri_mx M) i lv st = none) (hh : ∀ mem, ri_heap G M [] i st mem = none) (hf : ri_foc i st = none) (hc : ∀ C K lv mem, ri_ctl G C M K pc i len lv st [] mem = some ([([], mem, r)], c, s, [])) (hb : c ≤ b + ra_x r ∧ s ≤ 6 * (b + ra_x r)) (hq : Q r σ) : ra_P G sh b d M pc L st σ Q := by
  refine ⟨r, σ, 1, hq, fun f g hf2 hg lv mem h1 h2 => ?_⟩
  obtain ⟨f, rfl⟩ : ∃ f2, f = f2 + 1 := ⟨f - 1, by omega⟩
  show ra_end sh b r σ (ri_one G (ri_call G g d) M (ri_run G (ri_call G g d) M f) pc lv st [] mem)
  rw [ra_one_ctl hd (hp lv) (hh mem) hf, hc]
  exact ⟨mem, c, s, rfl, h2, hb⟩
theorem ra_ans_e {t : Jvm.Term} {ok : Jvm.Term → Option FieldType → Bool} {mem : ri_Me} (h : ok t (ri_rt M) = true) : ri_ans M [t] [] mem ok = some ([([], mem, .inl (some t))], 0, 0, []) := by
  unfold ri_ans
  dsimp only
  rw [if_pos h]
theorem ra_ireturn {t : Jvm.Term} (hd : (ri_co M)[pc]? = some (some (.ireturn, 1))) (hok : ri_okI t (ri_rt M) = true) (hq : Q (.inl (some t)) σ) : ra_P G sh b d M pc L [t] σ Q :=
  ra_stop (o := none) (c := 0) (s := 0) hd (fun _ => rfl) (fun _ => rfl) rfl (fun C K lv mem => by simp only [ri_ctl]; rw [if_pos trivial]; exact ra_ans_e hok) ⟨Nat.zero_le _, Nat.zero_le _⟩ hq
theorem ra_areturn {t : Jvm.Term} (hd : (ri_co M)[pc]? = some (some (.areturn, 1))) (hok : ri_okA t (ri_rt M) = true) (hq : Q (.inl (some t)) σ) : ra_P G sh b d M pc L [t] σ Q :=
  ra_stop (o := none) (c := 0) (s := 0) hd (fun _ => rfl) (fun _ => rfl) rfl (fun C K lv mem => by simp only [ri_ctl]; rw [if_pos trivial]; exact ra_ans_e hok) ⟨Nat.zero_le _, Nat.zero_le _⟩ hq
theorem ra_dreturn {t : Jvm.Term} (hd : (ri_co M)[pc]? = some (some (.dreturn, 1))) (hok : ri_okD t (ri_rt M) = true) (hq : Q (.inl (some t)) σ) : ra_P G sh b d M pc L [t] σ Q :=
  ra_stop (o := none) (c := 0) (s := 0) hd (fun _ => rfl) (fun _ => rfl) rfl (fun C K lv mem => by simp only [ri_ctl]; rw [if_pos trivial]; exact ra_ans_e hok) ⟨Nat.zero_le _, Nat.zero_le _⟩ hq
theorem ra_freturn {t : Jvm.Term} (hd : (ri_co M)[pc]? = some (some (.freturn, 1))) (hok : ri_okF t (ri_rt M) = true) (hq : Q (.inl (some t)) σ) : ra_P G sh b d M pc L [t] σ Q :=
  ra_stop (o := none) (c := 0) (s := 0) hd (fun _ => rfl) (fun _ => rfl) rfl (fun C K lv mem => by simp only [ri_ctl]; rw [if_pos trivial]; exact ra_ans_e hok) ⟨Nat.zero_le _, Nat.zero_le _⟩ hq
theorem ra_return (hd : (ri_co M)[pc]? = some (some (.return_, 1))) (hr : ri_rt M = none) (hq : Q (.inl none) σ) : ra_P G sh b d M pc L [] σ Q :=
  ra_stop (o := none) (c := 0) (s := 0) hd (fun _ => rfl) (fun _ => rfl) rfl (fun C K lv mem => by simp only [ri_ctl]; rw [hr]; simp) ⟨Nat.zero_le _, Nat.zero_le _⟩ hq
theorem ra_throw {ik a1 b1 : Nat} {tx E : String} (hd : (ri_co M)[pc]? = some (some (.new ik, 3))) (hc : ri_cp G M ik = some (5, a1, b1, tx)) (hh : ri_hi M = true) (ht : ∀ mem, ri_thr0 G M pc ik st [] mem = some ([([], mem, .inr E)], 1, 6, [])) (hq : Q (.inr E) σ) : ra_P G sh b d M pc L st σ Q :=
  ra_stop (o := none) (c := 1) (s := 6) hd (fun _ => rfl) (fun mem => by
    show ri_newo G M ik st mem = none
    unfold ri_newo
    rw [hc]
    rfl) rfl (fun C K lv mem => by simp only [ri_ctl]; rw [if_pos trivial]; unfold ri_thr; rw [if_pos hh]; exact ht mem) ⟨by show 1 ≤ b + 1; omega, by show 6 ≤ 6 * (b + 1); omega⟩ hq
end RA4
end RA
end
section
/-! RA: calls -/
section RA
section RA5
variable {G : ri_Tb} {sh : ra_Sh} {b b1 b2 d mi n kd : Nat} {M M' : ri_Mt} {pc len idx : Nat} {L L' : List (Option Jvm.Term)} {st rest args : List Jvm.Term} {σ : ra_V} {Q Q' : ra_Q} {i : Instr} {tx : String}
theorem ra_lvE : ∀ (as : List Jvm.Term) (j : Nat) (k : Nat) (t : Jvm.Term), (as.flatMap (fun t => if ri_wide t = true then [some t, none] else [some t]))[k]? = some (some t) → ri_ld (ri_args j as) (j + k) = some t
  | [], _, _, _, h => by simp at h
  | a :: as, j, k, t, h => by
    rw [List.flatMap_cons] at h
    unfold ri_args
    by_cases hw : ri_wide a = true
    · rw [if_pos hw] at h
      rw [if_pos hw]
      match k, h with
      | 0, h =>
        have : a = t := by simpa using h
        subst this
        simp [ri_ld]
      | 1, h => simp at h
      | k + 2, h =>
        have h2 : (as.flatMap (fun t => if ri_wide t = true then [some t, none] else [some t]))[k]? = some (some t) := by simpa using h
        have := ra_lvE as (j + 2) k t h2
        unfold ri_ld at this ⊢
        rw [List.find?_cons_of_neg (by simp)]
        rw [show j + (k + 2) = j + 2 + k by omega]
        exact this
    · rw [if_neg hw] at h
      rw [if_neg hw]
      match k, h with
      | 0, h =>
        have : a = t := by simpa using h
        subst this
        simp [ri_ld]
      | k + 1, h =>
        have h2 : (as.flatMap (fun t => if ri_wide t = true then [some t, none] else [some t]))[k]? = some (some t) := by simpa using h
        have := ra_lvE as (j + 1) k t h2
        unfold ri_ld at this ⊢
        rw [List.find?_cons_of_neg (by simp)]
        rw [show j + (k + 1) = j + 1 + k by omega]
        exact this
/-- the locals with which a method begins -/
def ra_L (as : List Jvm.Term) (n : Nat) : List (Option Jvm.Term) := as.flatMap (fun t => if ri_wide t = true then [some t, none] else [some t]) ++ List.replicate n none
theorem ra_lv0 (as : List Jvm.Term) (n : Nat) : ra_lv (ri_args 0 as) (ra_L as n) := by
  intro k t h
  unfold ra_L at h
  have h2 : (as.flatMap (fun t => if ri_wide t = true then [some t, none] else [some t]))[k]? = some (some t) := by
    rw [List.getElem?_append] at h
    split at h
    · exact h
    · rw [List.getElem?_replicate] at h
      split at h
      · cases h
      · cases h
  have := ra_lvE as 0 k t h2
  rwa [Nat.zero_add] at this
/-- a method, from its first place on -/
theorem ra_enter {nn : Nat} (hM : (ri_mts G)[mi]? = some M) (hw : ri_lw M = false) (hx : (args.map (fun t => if ri_wide t = true then 2 else 1)).sum ≤ ri_mx M) (hL : ra_L args nn = L) (hh : ri_hi M = true → 5 ≤ d) (k : ra_P G sh b d M 0 L [] σ Q) : ra_C G sh b (d + 1) mi args σ Q := by
  subst hL
  obtain ⟨r, σ', F, q, k⟩ := k
  refine ⟨r, σ', F, q, fun g hg mem hr => ?_⟩
  rw [ri_call_S, hM]
  dsimp only
  rw [if_pos ⟨hw, hx, hh⟩]
  exact k g g hg hg _ mem (ra_lv0 args nn) hr
def ra_inst (i : Instr) : Option (Nat × Nat) := match i with
  | .invokevirtual idx => some (0, idx)
  | .invokestatic idx => some (1, idx)
  | .invokespecial idx => some (2, idx)
  | _ => none
/-- the receiver -/
def ra_rc (G : ri_Tb) (sh : ra_Sh) (cls : String) : List Jvm.Term → Prop
  | .index k :: _ => ∃ ci fl r, sh[k]? = some (.inl (ci, fl)) ∧ (ri_cls G)[ci]? = some r ∧ (r.1 == cls) = true
  | _ => False
theorem ra_recv {cls : String} {mem : ri_Me} (h : ra_rc G sh cls args) (hr : ra_rep sh σ mem) : ri_recv G cls mem args = true := by
  match args, h with
  | .index k :: l, h =>
    obtain ⟨ci, fl, r, h1, h2, h3⟩ := h
    unfold ri_recv
    dsimp only
    rw [ra_rep_obj hr h1]
    dsimp only
    rw [h2]
    exact h3
/-- what a call's tables say -/
def ra_ct (G : ri_Tb) (sh : ra_Sh) (M : ri_Mt) (i : Instr) (st args rest : List Jvm.Term) (mi : Nat) : Prop :=
  ∃ sort idx kd n tx M', ra_inst i = some (sort, idx) ∧ ri_cp G M idx = some (kd, mi, n, tx) ∧ (kd = 20 + sort ∨ kd = 30 + sort) ∧ (ri_mts G)[mi]? = some M' ∧ (kd = 21 ∨ (ri_hh M').isEmpty = true) ∧ ri_nn sort n ≤ st.length ∧ (st.take (ri_nn sort n)).reverse = args ∧ st.drop (ri_nn sort n) = rest ∧ rest.length ≤ 4 ∧ (sort = 1 ∨ ra_rc G sh (ri_nm M').cls args)
theorem ra_ct_e (h : ra_ct G sh M i st args rest mi) (hd : (ri_co M)[pc]? = some (some (i, 3))) : (∀ lv, ri_pure (ri_mx M) i lv st = none) ∧ (∀ mem, ri_heap G M [] i st mem = none) ∧ ri_foc i st = none ∧ ∀ C K lv mem, ra_rep sh σ mem → ri_ctl G C M K pc i 3 lv st [] mem = (match C mi args [] mem with
    | some (L, mc, ms, ob) => ri_more mc ms ob (ri_seq (ri_after G M K pc lv rest) L)
    | none => none) := by
  obtain ⟨sort, idx, kd, n, tx, M', h1, h2, h3, h4, h5, h6, h7, h8, h9, h10⟩ := h
  have key : ∀ C K lv mem, ra_rep sh σ mem → ri_inv G C M K sort pc idx lv st [] mem = (match C mi args [] mem with
    | some (L, mc, ms, ob) => ri_more mc ms ob (ri_seq (ri_after G M K pc lv rest) L)
    | none => none) := fun C K lv mem hr => by
    unfold ri_inv
    rw [h2]
    dsimp only
    rw [if_pos h3, h4]
    dsimp only
    rw [if_pos ⟨h5, h6, by rw [h8]; exact h9, by
      rcases h10 with h10 | h10
      · exact Or.inl h10
      · refine Or.inr ?_
        rw [h7]
        exact ra_recv h10 hr⟩, h7, h8]
    rfl
  cases i with
  | invokevirtual z =>
    cases h1
    exact ⟨fun _ => rfl, fun _ => rfl, rfl, fun C K lv mem hr => by simp only [ri_ctl]; rw [if_pos trivial]; exact key C K lv mem hr⟩
  | invokestatic z =>
    cases h1
    refine ⟨fun _ => rfl, fun mem => ?_, rfl, fun C K lv mem hr => by simp only [ri_ctl]; rw [if_pos trivial]; exact key C K lv mem hr⟩
    simp only [ri_heap]
    rw [h2]
    rcases h3 with rfl | rfl <;> rfl
  | invokespecial z =>
    cases h1
    exact ⟨fun _ => rfl, fun _ => rfl, rfl, fun C K lv mem hr => by simp only [ri_ctl]; rw [if_pos trivial]; exact key C K lv mem hr⟩
  | _ => cases h1
theorem ra_seq1 {k : ri_Lf → Option ri_Rs} {x : ri_Lf} {l : List ri_Lf} {c s : Nat} (h : k x = some (l, c, s, [])) : ri_seq k [x] = some (l, c, s, []) := by
  unfold ri_seq
  rw [h]
  simp [ri_seq, ri_both]
theorem ra_seq0 {k : ri_Lf → Option ri_Rs} {x : ri_Lf} (h : k x = none) : ri_seq k [x] = none := by
  unfold ri_seq
  rw [h]
  rfl
/-- a call: what is behind an answer; behind a throw: out of the method, or a handler -/
theorem ra_call (hd : (ri_co M)[pc]? = some (some (i, 3))) (ht : ra_ct G sh M i st args rest mi) (hC : ra_C G sh b1 d mi args σ Q')
    (k1 : ∀ t σ', Q' (.inl t) σ' → ra_P G sh b2 d M (pc + 3) L (t.toList ++ rest) σ' Q) (hb : b1 + b2 ≤ b)
    (k2 : ∀ E σ', Q' (.inr E) σ' → (ri_find G M pc E (ri_hh M) = some none ∧ Q (.inr E) σ') ∨ ∃ hp j len b3, ri_find G M pc E (ri_hh M) = some (some hp) ∧ ((ri_co M)[hp]? = some (some (.astore j, 2)) ∧ len = 2 ∨ ∃ j4 : Fin 4, j = j4.val ∧ (ri_co M)[hp]? = some (some (.astore_n j4, 1)) ∧ len = 1) ∧ j < ri_mx M ∧ b1 + 1 + b3 ≤ b ∧ ra_P G sh b3 d M (hp + len) [] [] σ' Q) : ra_P G sh b d M pc L st σ Q := by
  obtain ⟨r, σ', F, q, hC⟩ := hC
  obtain ⟨e1, e2, e3, e4⟩ := ra_ct_e (σ := σ) ht hd
  have go : ∀ f g lv mem, F ≤ g → ra_rep sh σ mem → ∃ mem1 c1 s1, ra_rep sh σ' mem1 ∧ c1 ≤ b1 + ra_x r ∧ s1 ≤ 6 * (b1 + ra_x r) ∧ ri_run G (ri_call G g d) M (f + 1) pc lv st [] mem = ri_more c1 s1 [] (ri_seq (ri_after G M (ri_run G (ri_call G g d) M f) pc lv rest) [([], mem1, r)]) := fun f g lv mem hg hr => by
    obtain ⟨mem1, c1, s1, h1, h2, h3, h4⟩ := hC g hg mem hr
    refine ⟨mem1, c1, s1, h2, h3, h4, ?_⟩
    show ri_one G (ri_call G g d) M (ri_run G (ri_call G g d) M f) pc lv st [] mem = _
    rw [ra_one_ctl hd (e1 lv) (e2 mem) e3, e4 _ _ _ _ hr, h1]
  match r, q with
  | .inl t, q =>
    obtain ⟨r2, σ2, F2, q2, k⟩ := k1 t σ' q
    refine ⟨r2, σ2, F + F2 + 1, q2, fun f g hf hg lv mem h1 h2 => ?_⟩
    obtain ⟨f, rfl⟩ : ∃ f2, f = f2 + 1 := ⟨f - 1, by omega⟩
    obtain ⟨mem1, c1, s1, g1, g2, g3, g4⟩ := go f g lv mem (by omega) h2
    obtain ⟨mem2, c2, s2, w1, w2, w3, w4⟩ := k f g (by omega) (by omega) lv mem1 h1 g1
    have hx : ra_x (.inl t) = 0 := rfl
    rw [hx] at g2 g3
    refine ⟨mem2, c1 + c2, s1 + s2, ?_, w2, by omega, by omega⟩
    rw [g4]
    have hA : ri_after G M (ri_run G (ri_call G g d) M f) pc lv rest ([], mem1, .inl t) = some ([([], mem2, r2)], c2, s2, []) := by
      cases t with
      | none => exact w1
      | some t => exact w1
    rw [ra_seq1 hA]
    rfl
  | .inr E, q =>
    have hx : ra_x (.inr E) = 1 := rfl
    rcases k2 E σ' q with ⟨f1, q2⟩ | ⟨hp, j, len2, b3, f1, f2, f3, f4, k⟩
    · refine ⟨.inr E, σ', F + 1, q2, fun f g hf hg lv mem h1 h2 => ?_⟩
      obtain ⟨f, rfl⟩ : ∃ f2, f = f2 + 1 := ⟨f - 1, by omega⟩
      obtain ⟨mem1, c1, s1, g1, g2, g3, g4⟩ := go f g lv mem (by omega) h2
      rw [hx] at g2 g3
      refine ⟨mem1, c1 + 0, s1 + 0, ?_, g1, by rw [hx]; omega, by rw [hx]; omega⟩
      rw [g4]
      have hA : ri_after G M (ri_run G (ri_call G g d) M f) pc lv rest ([], mem1, .inr E) = some ([([], mem1, .inr E)], 0, 0, []) := by
        unfold ri_after
        dsimp only
        rw [f1]
      rw [ra_seq1 hA]
      rfl
    · obtain ⟨r2, σ2, F2, q2, k⟩ := k
      refine ⟨r2, σ2, F + F2 + 1, q2, fun f g hf hg lv mem h1 h2 => ?_⟩
      obtain ⟨f, rfl⟩ : ∃ f2, f = f2 + 1 := ⟨f - 1, by omega⟩
      obtain ⟨mem1, c1, s1, g1, g2, g3, g4⟩ := go f g lv mem (by omega) h2
      rw [hx] at g2 g3
      obtain ⟨mem2, c2, s2, w1, w2, w3, w4⟩ := k f g (by omega) (by omega) (ri_ers lv j) mem1 (fun i t h => by simp at h) g1
      refine ⟨mem2, c1 + c2, s1 + s2, ?_, w2, by omega, by omega⟩
      rw [g4]
      have hA : ri_after G M (ri_run G (ri_call G g d) M f) pc lv rest ([], mem1, .inr E) = some ([([], mem2, r2)], c2, s2, []) := by
        unfold ri_after
        dsimp only
        rw [f1]
        dsimp only
        unfold ri_catch
        rcases f2 with ⟨f2, rfl⟩ | ⟨j4, rfl, f2, rfl⟩
        · rw [f2]
          exact (if_pos f3).trans w1
        · rw [f2]
          exact (if_pos f3).trans w1
      rw [ra_seq1 hA]
      rfl
/-- a call that answers so, of a method without handlers -/
theorem ra_callE {t : Option Jvm.Term} {σ' : ra_V} (hC : ra_C G sh 0 d mi args σ (fun r s => r = .inl t ∧ s = σ')) (hd : (ri_co M)[pc]? = some (some (i, 3))) (ht : ra_ct G sh M i st args rest mi) (k : ra_P G sh b d M (pc + 3) L (t.toList ++ rest) σ' Q) : ra_P G sh b d M pc L st σ Q :=
  ra_call hd ht hC (fun t2 s h => by
    obtain ⟨h1, rfl⟩ := h
    cases h1
    exact k) (Nat.le_of_eq (Nat.zero_add b)) (fun E s h => by cases h.1)
/-- a call that answers or throws, the throw goes out -/
theorem ra_callX (hC : ra_C G sh 0 d mi args σ Q') (hd : (ri_co M)[pc]? = some (some (i, 3))) (ht : ra_ct G sh M i st args rest mi) (hh : ri_hh M = []) (k1 : ∀ t σ', Q' (.inl t) σ' → ra_P G sh b d M (pc + 3) L (t.toList ++ rest) σ' Q) (k2 : ∀ E σ', Q' (.inr E) σ' → Q (.inr E) σ') : ra_P G sh b d M pc L st σ Q :=
  ra_call hd ht hC k1 (Nat.le_of_eq (Nat.zero_add b)) (fun E s h => Or.inl ⟨by rw [hh]; rfl, k2 E s h⟩)
/-- a call that answers -/
theorem ra_callA (hC : ra_C G sh 0 d mi args σ Q') (hd : (ri_co M)[pc]? = some (some (i, 3))) (ht : ra_ct G sh M i st args rest mi) (hn : ∀ E σ', ¬ Q' (.inr E) σ') (k1 : ∀ t σ', Q' (.inl t) σ' → ra_P G sh b d M (pc + 3) L (t.toList ++ rest) σ' Q) : ra_P G sh b d M pc L st σ Q :=
  ra_call hd ht hC k1 (Nat.le_of_eq (Nat.zero_add b)) (fun E s h => absurd h (hn E s))
/-- Math.max, Math.min -/
theorem ra_max {a1 b1 : Nat} {x y : Int} (hd : (ri_co M)[pc]? = some (some (.invokestatic idx, 3))) (hc : ri_cp G M idx = some (10, a1, b1, tx)) (hx : ra_in x) (hy : ra_in y) (hst : st.length ≤ 4) (k : ra_P G sh b d M (pc + 3) L (ra_I (max x y) :: st) σ Q) : ra_P G sh b d M pc L (ra_I y :: ra_I x :: st) σ Q := by
  have e : ∀ (C : ri_Call) (K : ri_K) lv mem, ri_ctl G C M K pc (.invokestatic idx) 3 lv (ra_I y :: ra_I x :: st) [] mem = ri_br [] (ri_cnd .lt (ra_I x) (ra_I y)) (fun cs' => K (pc + 3) lv (ra_I y :: st) cs' mem) (fun cs' => K (pc + 3) lv (ra_I x :: st) cs' mem) := fun C K lv mem => by
    simp only [ri_ctl]
    rw [if_pos trivial]
    unfold ri_inv
    rw [hc]
    dsimp only
    rw [if_neg (by decide), if_neg (by decide), if_pos rfl, if_pos ⟨rfl, rfl, rfl, hst⟩]
    rfl
  have hh : ∀ mem, ri_heap G M [] (.invokestatic idx) (ra_I y :: ra_I x :: st) mem = none := fun mem => by simp only [ri_heap]; rw [hc]; rfl
  by_cases h : x < y
  · rw [Int.max_eq_right (Int.le_of_lt h)] at k
    exact ra_ctl hd (fun _ => rfl) hh rfl (fun C K lv mem => (e C K lv mem).trans (ra_br_t (c := .lt) hx hy h)) k
  · rw [Int.max_eq_left (Int.not_lt.mp h)] at k
    exact ra_ctl hd (fun _ => rfl) hh rfl (fun C K lv mem => (e C K lv mem).trans (ra_br_f (c := .lt) hx hy h)) k
theorem ra_min {a1 b1 : Nat} {x y : Int} (hd : (ri_co M)[pc]? = some (some (.invokestatic idx, 3))) (hc : ri_cp G M idx = some (11, a1, b1, tx)) (hx : ra_in x) (hy : ra_in y) (hst : st.length ≤ 4) (k : ra_P G sh b d M (pc + 3) L (ra_I (min x y) :: st) σ Q) : ra_P G sh b d M pc L (ra_I y :: ra_I x :: st) σ Q := by
  have e : ∀ (C : ri_Call) (K : ri_K) lv mem, ri_ctl G C M K pc (.invokestatic idx) 3 lv (ra_I y :: ra_I x :: st) [] mem = ri_br [] (ri_cnd .lt (ra_I y) (ra_I x)) (fun cs' => K (pc + 3) lv (ra_I y :: st) cs' mem) (fun cs' => K (pc + 3) lv (ra_I x :: st) cs' mem) := fun C K lv mem => by
    simp only [ri_ctl]
    rw [if_pos trivial]
    unfold ri_inv
    rw [hc]
    dsimp only
    rw [if_neg (by decide), if_neg (by decide), if_neg (by decide), if_pos rfl, if_pos ⟨rfl, rfl, rfl, hst⟩]
    rfl
  have hh : ∀ mem, ri_heap G M [] (.invokestatic idx) (ra_I y :: ra_I x :: st) mem = none := fun mem => by simp only [ri_heap]; rw [hc]; rfl
  by_cases h : y < x
  · rw [Int.min_eq_right (Int.le_of_lt h)] at k
    exact ra_ctl hd (fun _ => rfl) hh rfl (fun C K lv mem => (e C K lv mem).trans (ra_br_t (c := .lt) hy hx h)) k
  · rw [Int.min_eq_left (Int.not_lt.mp h)] at k
    exact ra_ctl hd (fun _ => rfl) hh rfl (fun C K lv mem => (e C K lv mem).trans (ra_br_f (c := .lt) hy hx h)) k
end RA5
end RA
end
section
/-! RA: texts -/
section RA
section RA6
variable {G : ri_Tb} {sh : ra_Sh} {b d idx : Nat} {M : ri_Mt} {pc : Nat} {L : List (Option Jvm.Term)} {st : List Jvm.Term} {σ : ra_V} {Q : ra_Q} {tx : String}
theorem ra_slen_ {a1 b1 a2 b2 i : Nat} {t : String} (hd : (ri_co M)[pc]? = some (some (.invokevirtual idx, 3))) (hc : ri_cp G M idx = some (16, a1, b1, tx)) (hi : ri_cp G M i = some (9, a2, b2, t)) (hst : st.length ≤ 4) (hh : ri_hi M = true) (k : ra_P G sh b d M (pc + 3) L (ra_I t.toList.length :: st) σ Q) : ra_P G sh b d M pc L (.string (ri_own M) i :: st) σ Q :=
  ra_ctl hd (fun _ => rfl) (fun _ => rfl) rfl (fun C K lv mem => by
    simp only [ri_ctl]
    rw [if_pos trivial]
    unfold ri_inv
    rw [hc]
    dsimp only
    rw [if_neg (by decide), if_neg (by decide), if_neg (by decide), if_neg (by decide), if_pos (Or.inl rfl)]
    unfold ri_strm
    dsimp only
    rw [if_pos ⟨rfl, rfl, rfl, hst, hh⟩, hi]
    show K (pc + 3) lv (ri_ci (Int32.ofNat t.toList.length) :: st) [] mem = _
    rw [ri_ci_eq]
    rfl) k
theorem ra_schar {a1 b1 a2 b2 i : Nat} {t : String} {z : Int} {ch : Char} (hd : (ri_co M)[pc]? = some (some (.invokevirtual idx, 3))) (hc : ri_cp G M idx = some (17, a1, b1, tx)) (hi : ri_cp G M i = some (9, a2, b2, t)) (hst : st.length ≤ 4) (hh : ri_hi M = true) (h0 : 0 ≤ z) (h1 : z ≤ 2147483647) (hch : t.toList[z.toNat]? = some ch) (k : ra_P G sh b d M (pc + 3) L (ra_I ch.toNat :: st) σ Q) : ra_P G sh b d M pc L (ra_I z :: .string (ri_own M) i :: st) σ Q :=
  ra_ctl hd (fun _ => rfl) (fun _ => rfl) rfl (fun C K lv mem => by
    have e : (Int32.ofInt z).toInt = z := ra_ofI ⟨by omega, h1⟩
    have e2 : (Int32.ofInt z).toNatClampNeg = z.toNat := by
      show (Int32.ofInt z).toInt.toNat = _
      rw [e]
    have e3 : ¬ Int32.ofInt z < 0 := fun q => by
      rw [Int32.lt_iff_toInt_lt, e] at q
      have : (0 : Int32).toInt = 0 := by decide
      omega
    simp only [ri_ctl]
    rw [if_pos trivial]
    unfold ri_inv
    rw [hc]
    dsimp only
    rw [if_neg (by decide), if_neg (by decide), if_neg (by decide), if_neg (by decide), if_pos (Or.inr rfl)]
    unfold ri_strm
    dsimp only
    rw [if_pos ⟨rfl, rfl, rfl, hst, e3, hh⟩, hi]
    show (match t.toList[(Int32.ofInt z).toNatClampNeg]? with
      | some ch => K (pc + 3) lv (ri_ci (Int32.ofNat ch.toNat) :: st) [] mem
      | none => none) = _
    rw [e2, hch]
    show K (pc + 3) lv (ri_ci (Int32.ofNat ch.toNat) :: st) [] mem = _
    rw [ri_ci_eq]
    rfl) k
end RA6
end RA
end
section
/-! the shape of the cells behind the constructors -/
def g_shP (i : Nat) : ra_Hc := .inl (5, [some (ra_I i), none, none, none, none, some (.arg 0), none, none])
def g_shD (D : Nat) : ra_Sh := [.inl (0, [some (.index (D + 1)), some (.index (D + 2)), some (.index (D + 3)), some (.index (D + 4)), none, none, none, none, none, none, none, none, none]), .inr (0, 600, false, none), .inr (2, 8, false, some [.index (D + 5), .index (D + 6), .index (D + 7), .index (D + 8), .index (D + 9), .index (D + 10), .index (D + 11), .index (D + 12)]), .inl (3, [none, none, none, none, none, none, none, none, some (.arg 0)]), .inr (0, 8, false, none), g_shP 0, g_shP 1, g_shP 2, g_shP 3, g_shP 4, g_shP 5, g_shP 6, g_shP 7]
def g_sh : ra_Sh := [.inl (7, [some (.index 1), some (.index 14), some (.index 27), some (.arg 0), some (.index 40), some (.index 172), some (.index 175), some (.index 177)])] ++ g_shD 1 ++ g_shD 14 ++ g_shD 27 ++ [.inl (2, [some (.index 41), none, none]), .inr (1, 10, false, some [.index 42, .index 55, .index 68, .index 81, .index 94, .index 107, .index 120, .index 133, .index 146, .index 159])] ++ g_shD 42 ++ g_shD 55 ++ g_shD 68 ++ g_shD 81 ++ g_shD 94 ++ g_shD 107 ++ g_shD 120 ++ g_shD 133 ++ g_shD 146 ++ g_shD 159 ++ [.inl (1, [some (.index 173), some (.index 174), none, none]), .inr (0, 11, false, none), .inr (0, 11, false, none), .inl (6, [some (.index 176), none, none, none, none, none, none, none, some (.arg 0), some (.arg 0), some (.arg 0), some (.arg 0)]), .inr (0, 500, false, none), .inl (4, [some (.index 178), none]), .inr (0, 128, false, none), .inl (8, [some (.index 180), some (.index 181), some (.index 182), some (.index 183), some (.index 184), none, some (.arg 0), none, some (.index 185), some (.index 186), none, some (.index 187), none, none, none, none, none, none, none, none, none, none, some (.index 188), some (.index 189), some (.index 190), none]), .inr (0, 688, false, none), .inr (0, 688, false, none), .inr (0, 688, false, none), .inr (0, 688, false, none), .inr (0, 6880, false, none), .inr (0, 301, false, none), .inr (0, 301, false, none), .inr (0, 500, false, none), .inr (0, 4, false, none), .inr (0, 8, false, none), .inr (0, 150, false, none), .inr (3, 1, true, none)]
def g_bases : List Nat := [1, 14, 27, 42, 55, 68, 81, 94, 107, 120, 133, 146, 159]
def isD (D : Nat) : Prop := D ∈ g_bases
theorem sh_len : g_sh.length = 192 := by decide +kernel
theorem sh_at_1 (j : Nat) (hj : j < 13) : g_sh[1 + j]? = (g_shD 1)[j]? := by
  match j, hj with
  | 0, _ => rfl
  | 1, _ => rfl
  | 2, _ => rfl
  | 3, _ => rfl
  | 4, _ => rfl
  | 5, _ => rfl
  | 6, _ => rfl
  | 7, _ => rfl
  | 8, _ => rfl
  | 9, _ => rfl
  | 10, _ => rfl
  | 11, _ => rfl
  | 12, _ => rfl
theorem sh_at_14 (j : Nat) (hj : j < 13) : g_sh[14 + j]? = (g_shD 14)[j]? := by
  match j, hj with
  | 0, _ => rfl
  | 1, _ => rfl
  | 2, _ => rfl
  | 3, _ => rfl
  | 4, _ => rfl
  | 5, _ => rfl
  | 6, _ => rfl
  | 7, _ => rfl
  | 8, _ => rfl
  | 9, _ => rfl
  | 10, _ => rfl
  | 11, _ => rfl
  | 12, _ => rfl
theorem sh_at_27 (j : Nat) (hj : j < 13) : g_sh[27 + j]? = (g_shD 27)[j]? := by
  match j, hj with
  | 0, _ => rfl
  | 1, _ => rfl
  | 2, _ => rfl
  | 3, _ => rfl
  | 4, _ => rfl
  | 5, _ => rfl
  | 6, _ => rfl
  | 7, _ => rfl
  | 8, _ => rfl
  | 9, _ => rfl
  | 10, _ => rfl
  | 11, _ => rfl
  | 12, _ => rfl
theorem sh_at_42 (j : Nat) (hj : j < 13) : g_sh[42 + j]? = (g_shD 42)[j]? := by
  match j, hj with
  | 0, _ => rfl
  | 1, _ => rfl
  | 2, _ => rfl
  | 3, _ => rfl
  | 4, _ => rfl
  | 5, _ => rfl
  | 6, _ => rfl
  | 7, _ => rfl
  | 8, _ => rfl
  | 9, _ => rfl
  | 10, _ => rfl
  | 11, _ => rfl
  | 12, _ => rfl
theorem sh_at_55 (j : Nat) (hj : j < 13) : g_sh[55 + j]? = (g_shD 55)[j]? := by
  match j, hj with
  | 0, _ => rfl
  | 1, _ => rfl
  | 2, _ => rfl
  | 3, _ => rfl
  | 4, _ => rfl
  | 5, _ => rfl
  | 6, _ => rfl
  | 7, _ => rfl
  | 8, _ => rfl
  | 9, _ => rfl
  | 10, _ => rfl
  | 11, _ => rfl
  | 12, _ => rfl
theorem sh_at_68 (j : Nat) (hj : j < 13) : g_sh[68 + j]? = (g_shD 68)[j]? := by
  match j, hj with
  | 0, _ => rfl
  | 1, _ => rfl
  | 2, _ => rfl
  | 3, _ => rfl
  | 4, _ => rfl
  | 5, _ => rfl
  | 6, _ => rfl
  | 7, _ => rfl
  | 8, _ => rfl
  | 9, _ => rfl
  | 10, _ => rfl
  | 11, _ => rfl
  | 12, _ => rfl
theorem sh_at_81 (j : Nat) (hj : j < 13) : g_sh[81 + j]? = (g_shD 81)[j]? := by
  match j, hj with
  | 0, _ => rfl
  | 1, _ => rfl
  | 2, _ => rfl
  | 3, _ => rfl
  | 4, _ => rfl
  | 5, _ => rfl
  | 6, _ => rfl
  | 7, _ => rfl
  | 8, _ => rfl
  | 9, _ => rfl
  | 10, _ => rfl
  | 11, _ => rfl
  | 12, _ => rfl
theorem sh_at_94 (j : Nat) (hj : j < 13) : g_sh[94 + j]? = (g_shD 94)[j]? := by
  match j, hj with
  | 0, _ => rfl
  | 1, _ => rfl
  | 2, _ => rfl
  | 3, _ => rfl
  | 4, _ => rfl
  | 5, _ => rfl
  | 6, _ => rfl
  | 7, _ => rfl
  | 8, _ => rfl
  | 9, _ => rfl
  | 10, _ => rfl
  | 11, _ => rfl
  | 12, _ => rfl
theorem sh_at_107 (j : Nat) (hj : j < 13) : g_sh[107 + j]? = (g_shD 107)[j]? := by
  match j, hj with
  | 0, _ => rfl
  | 1, _ => rfl
  | 2, _ => rfl
  | 3, _ => rfl
  | 4, _ => rfl
  | 5, _ => rfl
  | 6, _ => rfl
  | 7, _ => rfl
  | 8, _ => rfl
  | 9, _ => rfl
  | 10, _ => rfl
  | 11, _ => rfl
  | 12, _ => rfl
theorem sh_at_120 (j : Nat) (hj : j < 13) : g_sh[120 + j]? = (g_shD 120)[j]? := by
  match j, hj with
  | 0, _ => rfl
  | 1, _ => rfl
  | 2, _ => rfl
  | 3, _ => rfl
  | 4, _ => rfl
  | 5, _ => rfl
  | 6, _ => rfl
  | 7, _ => rfl
  | 8, _ => rfl
  | 9, _ => rfl
  | 10, _ => rfl
  | 11, _ => rfl
  | 12, _ => rfl
theorem sh_at_133 (j : Nat) (hj : j < 13) : g_sh[133 + j]? = (g_shD 133)[j]? := by
  match j, hj with
  | 0, _ => rfl
  | 1, _ => rfl
  | 2, _ => rfl
  | 3, _ => rfl
  | 4, _ => rfl
  | 5, _ => rfl
  | 6, _ => rfl
  | 7, _ => rfl
  | 8, _ => rfl
  | 9, _ => rfl
  | 10, _ => rfl
  | 11, _ => rfl
  | 12, _ => rfl
theorem sh_at_146 (j : Nat) (hj : j < 13) : g_sh[146 + j]? = (g_shD 146)[j]? := by
  match j, hj with
  | 0, _ => rfl
  | 1, _ => rfl
  | 2, _ => rfl
  | 3, _ => rfl
  | 4, _ => rfl
  | 5, _ => rfl
  | 6, _ => rfl
  | 7, _ => rfl
  | 8, _ => rfl
  | 9, _ => rfl
  | 10, _ => rfl
  | 11, _ => rfl
  | 12, _ => rfl
theorem sh_at_159 (j : Nat) (hj : j < 13) : g_sh[159 + j]? = (g_shD 159)[j]? := by
  match j, hj with
  | 0, _ => rfl
  | 1, _ => rfl
  | 2, _ => rfl
  | 3, _ => rfl
  | 4, _ => rfl
  | 5, _ => rfl
  | 6, _ => rfl
  | 7, _ => rfl
  | 8, _ => rfl
  | 9, _ => rfl
  | 10, _ => rfl
  | 11, _ => rfl
  | 12, _ => rfl
theorem sh_at (D : Nat) (h : isD D) (j : Nat) (hj : j < 13) : g_sh[D + j]? = (g_shD D)[j]? := by
  unfold isD g_bases at h
  simp only [List.mem_cons, List.not_mem_nil, or_false] at h
  rcases h with rfl | rfl | rfl | rfl | rfl | rfl | rfl | rfl | rfl | rfl | rfl | rfl | rfl
  · exact sh_at_1 j hj
  · exact sh_at_14 j hj
  · exact sh_at_27 j hj
  · exact sh_at_42 j hj
  · exact sh_at_55 j hj
  · exact sh_at_68 j hj
  · exact sh_at_81 j hj
  · exact sh_at_94 j hj
  · exact sh_at_107 j hj
  · exact sh_at_120 j hj
  · exact sh_at_133 j hj
  · exact sh_at_146 j hj
  · exact sh_at_159 j hj
theorem sh_D {D : Nat} (h : isD D) : g_sh[D]? = some (.inl (0, [some (.index (D + 1)), some (.index (D + 2)), some (.index (D + 3)), some (.index (D + 4)), none, none, none, none, none, none, none, none, none])) := sh_at D h 0 (by decide)
theorem sh_D1 {D : Nat} (h : isD D) : g_sh[D + 1]? = some (.inr (0, 600, false, none)) := sh_at D h 1 (by decide)
theorem sh_D2 {D : Nat} (h : isD D) : g_sh[D + 2]? = some (.inr (2, 8, false, some [.index (D + 5), .index (D + 6), .index (D + 7), .index (D + 8), .index (D + 9), .index (D + 10), .index (D + 11), .index (D + 12)])) := sh_at D h 2 (by decide)
theorem sh_D3 {D : Nat} (h : isD D) : g_sh[D + 3]? = some (.inl (3, [none, none, none, none, none, none, none, none, some (.arg 0)])) := sh_at D h 3 (by decide)
theorem sh_D4 {D : Nat} (h : isD D) : g_sh[D + 4]? = some (.inr (0, 8, false, none)) := sh_at D h 4 (by decide)
theorem sh_P {D i : Nat} (h : isD D) (hi : i < 8) : g_sh[D + 5 + i]? = some (.inl (5, [some (ra_I i), none, none, none, none, some (.arg 0), none, none])) := by
  rw [Nat.add_assoc, sh_at D h (5 + i) (by omega)]
  match i, hi with
  | 0, _ => rfl
  | 1, _ => rfl
  | 2, _ => rfl
  | 3, _ => rfl
  | 4, _ => rfl
  | 5, _ => rfl
  | 6, _ => rfl
  | 7, _ => rfl
theorem sh_pt {D : Nat} {z : Int} (h0 : 0 ≤ z) (h1 : z < 8) : ([.index (D + 5), .index (D + 6), .index (D + 7), .index (D + 8), .index (D + 9), .index (D + 10), .index (D + 11), .index (D + 12)] : List Jvm.Term)[z.toNat]? = some (.index (D + 5 + z.toNat)) := by
  have h : z.toNat < 8 := by omega
  generalize z.toNat = i at h
  match i, h with
  | 0, _ => rfl
  | 1, _ => rfl
  | 2, _ => rfl
  | 3, _ => rfl
  | 4, _ => rfl
  | 5, _ => rfl
  | 6, _ => rfl
  | 7, _ => rfl
theorem isD_le {D : Nat} (h : isD D) : 1 ≤ D ∧ D ≤ 159 := by
  have key : ∀ D ∈ g_bases, 1 ≤ D ∧ D ≤ 159 := by decide
  exact key D h
theorem isD_1 : isD 1 := by unfold isD; decide
theorem isD_14 : isD 14 := by unfold isD; decide
theorem isD_27 : isD 27 := by unfold isD; decide
theorem isD_h {i : Nat} (h : i < 10) : isD (42 + 13 * i) := by
  have key : ∀ i, i < 10 → 42 + 13 * i ∈ g_bases := by decide
  exact key i h
theorem sh_past {z : Int} (h0 : 0 ≤ z) (h1 : z < 10) : ([.index 42, .index 55, .index 68, .index 81, .index 94, .index 107, .index 120, .index 133, .index 146, .index 159] : List Jvm.Term)[z.toNat]? = some (.index (42 + 13 * z.toNat)) := by
  have h : z.toNat < 10 := by omega
  generalize z.toNat = i at h
  match i, h with
  | 0, _ => rfl
  | 1, _ => rfl
  | 2, _ => rfl
  | 3, _ => rfl
  | 4, _ => rfl
  | 5, _ => rfl
  | 6, _ => rfl
  | 7, _ => rfl
  | 8, _ => rfl
  | 9, _ => rfl
theorem sh_0 : g_sh[0]? = some (.inl (7, [some (.index 1), some (.index 14), some (.index 27), some (.arg 0), some (.index 40), some (.index 172), some (.index 175), some (.index 177)])) := rfl
theorem sh_40 : g_sh[40]? = some (.inl (2, [some (.index 41), none, none])) := rfl
theorem sh_41 : g_sh[41]? = some (.inr (1, 10, false, some [.index 42, .index 55, .index 68, .index 81, .index 94, .index 107, .index 120, .index 133, .index 146, .index 159])) := rfl
theorem sh_172 : g_sh[172]? = some (.inl (1, [some (.index 173), some (.index 174), none, none])) := rfl
theorem sh_173 : g_sh[173]? = some (.inr (0, 11, false, none)) := rfl
theorem sh_174 : g_sh[174]? = some (.inr (0, 11, false, none)) := rfl
theorem sh_175 : g_sh[175]? = some (.inl (6, [some (.index 176), none, none, none, none, none, none, none, some (.arg 0), some (.arg 0), some (.arg 0), some (.arg 0)])) := rfl
theorem sh_176 : g_sh[176]? = some (.inr (0, 500, false, none)) := rfl
theorem sh_177 : g_sh[177]? = some (.inl (4, [some (.index 178), none])) := rfl
theorem sh_178 : g_sh[178]? = some (.inr (0, 128, false, none)) := rfl
theorem sh_179 : g_sh[179]? = some (.inl (8, [some (.index 180), some (.index 181), some (.index 182), some (.index 183), some (.index 184), none, some (.arg 0), none, some (.index 185), some (.index 186), none, some (.index 187), none, none, none, none, none, none, none, none, none, none, some (.index 188), some (.index 189), some (.index 190), none])) := rfl
theorem sh_180 : g_sh[180]? = some (.inr (0, 688, false, none)) := rfl
theorem sh_181 : g_sh[181]? = some (.inr (0, 688, false, none)) := rfl
theorem sh_182 : g_sh[182]? = some (.inr (0, 688, false, none)) := rfl
theorem sh_183 : g_sh[183]? = some (.inr (0, 688, false, none)) := rfl
theorem sh_184 : g_sh[184]? = some (.inr (0, 6880, false, none)) := rfl
theorem sh_185 : g_sh[185]? = some (.inr (0, 301, false, none)) := rfl
theorem sh_186 : g_sh[186]? = some (.inr (0, 301, false, none)) := rfl
theorem sh_187 : g_sh[187]? = some (.inr (0, 500, false, none)) := rfl
theorem sh_188 : g_sh[188]? = some (.inr (0, 4, false, none)) := rfl
theorem sh_189 : g_sh[189]? = some (.inr (0, 8, false, none)) := rfl
theorem sh_190 : g_sh[190]? = some (.inr (0, 150, false, none)) := rfl
theorem sh_191 : g_sh[191]? = some (.inr (3, 1, true, none)) := rfl
end
