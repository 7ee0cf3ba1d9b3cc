section
/-! RA: what is told of a call where its answer's value doesn't matter -/
section RA
section RA7
variable {G : ri_Tb} {sh : ra_Sh} {b d mi : Nat} {M : ri_Mt} {pc idx : Nat} {L L' : List (Option Jvm.Term)} {st rest args : List Jvm.Term} {σ : ra_V} {Q : ra_Q} {i : Instr} {tx : String}
theorem ra_gen {e : Int} (k : ∀ z, ra_in z → ra_P G sh b d M pc L (ra_I z :: st) σ Q) : ra_P G sh b d M pc L (ra_I e :: st) σ Q := by
  rw [← ra_I_w]
  exact k _ (ra_w_in e)
theorem ra_gk {s t : ra_V} {k j : Nat} (h : s k = t k) : ra_g s k j = ra_g t k j := by unfold ra_g; rw [h]
theorem ra_in01 {z : Int} (h : z = 0 ∨ z = 1) : ra_in z := by unfold ra_in; omega
theorem ra_in_N {n : Nat} (h : n ≤ 2147483647) : ra_in (n : Int) := by unfold ra_in; omega
/-- locals forgotten -/
def ra_wk : List (Option Jvm.Term) → List (Option Jvm.Term) → Prop
  | [], _ => True
  | _ :: _, [] => False
  | none :: a, _ :: c => ra_wk a c
  | some t :: a, u :: c => some t = u ∧ ra_wk a c
theorem ra_wk_s : ∀ {A B : List (Option Jvm.Term)}, ra_wk A B → ∀ (i : Nat) (t : Jvm.Term), A[i]? = some (some t) → B[i]? = some (some t)
  | [], _, _, i, t, h => by simp at h
  | _ :: _, [], hw, _, _, _ => by simp [ra_wk] at hw
  | none :: a, u :: c, hw, 0, t, h => by simp at h
  | none :: a, u :: c, hw, i + 1, t, h => by
    have hw : ra_wk a c := hw
    simpa using ra_wk_s hw i t (by simpa using h)
  | some x :: a, u :: c, hw, 0, t, h => by
    obtain ⟨h1, -⟩ := hw
    have : x = t := by simpa using h
    subst this
    rw [← h1]
    rfl
  | some x :: a, u :: c, hw, i + 1, t, h => by
    obtain ⟨-, h2⟩ := hw
    simpa using ra_wk_s h2 i t (by simpa using h)
theorem ra_weak (hw : ra_wk L' L) (k : ra_P G sh b d M pc L' st σ Q) : ra_P G sh b d M pc L st σ Q := by
  obtain ⟨r, s, F, q, k⟩ := k
  exact ⟨r, s, F, q, fun f g hf hg lv mem h1 h2 => k f g hf hg lv mem (fun i t h => h1 i t (ra_wk_s hw i t h)) h2⟩
/-- which cells may have changed -/
def Fr (lo hi : Nat) (σ s : ra_V) : Prop := ∀ k, (k < lo ∨ hi ≤ k) → s k = σ k
theorem Fr_rf {lo hi : Nat} {σ : ra_V} : Fr lo hi σ σ := fun _ _ => rfl
theorem Fr_tr {lo hi a c : Nat} {σ s t : ra_V} (h1 : Fr lo hi σ s) (h2 : Fr a c s t) (h : lo ≤ a ∧ c ≤ hi) : Fr lo hi σ t := fun k hk => (h2 k (by omega)).trans (h1 k hk)
theorem Fr_mono {lo hi a c : Nat} {σ s : ra_V} (h2 : Fr a c σ s) (h : lo ≤ a ∧ c ≤ hi) : Fr lo hi σ s := fun k hk => h2 k (by omega)
theorem Fr_up {k j : Nat} {z : Int} : Fr k (k + 1) σ (ra_up σ k j z) := fun a ha => ra_up_ne (by omega)
theorem Fr_cpy {k k1 : Nat} : Fr k1 (k1 + 1) σ (ra_cpy σ k k1) := fun a ha => funext fun i => by unfold ra_cpy; rw [if_neg (by omega)]
theorem ra_new {k : Nat} {s' : ra_V} (h : Fr k (k + 1) σ s') (kk : ∀ s, Fr k (k + 1) σ s → ra_P G sh b d M pc L st s Q) : ra_P G sh b d M pc L st s' Q := kk s' h
def rI (r : ra_R) : Prop := ∃ z, ra_in z ∧ r = .inl (some (ra_I z))
def rB (r : ra_R) : Prop := ∃ z : Int, (z = 0 ∨ z = 1) ∧ r = .inl (some (ra_I z))
def rP (D : Nat) (r : ra_R) : Prop := r = .inl (some .null) ∨ ∃ i, i < 8 ∧ r = .inl (some (.index (D + 5 + i)))
def rN (D : Nat) (r : ra_R) : Prop := ∃ i, i < 8 ∧ r = .inl (some (.index (D + 5 + i)))
def rR (k : Nat) (r : ra_R) : Prop := r = .inl (some (.index k))
def rV (r : ra_R) : Prop := r = .inl none
def rF (kd : Nat) (r : ra_R) : Prop := ∃ t, ri_k t = kd ∧ r = .inl (some t)
def rX (Ls : List String) (N : ra_R → Prop) (r : ra_R) : Prop := N r ∨ ∃ E, E ∈ Ls ∧ r = .inr E
theorem ra_okB {z : Int} (h : z = 0 ∨ z = 1) : ri_okI (ra_I z) (some .boolean) = true := by rcases h with rfl | rfl <;> decide
theorem ra_okBp {p : Prop} [Decidable p] : ri_okI (ra_B p) (some .boolean) = true := by
  unfold ra_B
  exact ra_okB (by split <;> simp)
theorem ra_getBw {kd ci k j : Nat} {fl : List (Option Jvm.Term)} (hd : (ri_co M)[pc]? = some (some (.getfield idx, 3))) (hc : ri_cp G M idx = some (kd, ci, j, tx)) (hk : kd ≤ 1) (hs : sh[k]? = some (.inl (ci, fl))) (hf : fl[j]? = some (some (.arg 0))) (kk : ∀ z : Int, (z = 0 ∨ z = 1) → ra_P G sh b d M (pc + 3) L (ra_I z :: st) σ Q) : ra_P G sh b d M pc L (.index k :: st) σ Q :=
  ra_getB hd hc hk hs hf (kk _ (by split <;> simp))
section
variable {S : ra_V → Prop} {N : ra_R → Prop} {D : Nat} {Ls : List String}
theorem ra_cI (hC : ra_C G sh 0 d mi args σ (fun r s => rI r ∧ S s)) (hd : (ri_co M)[pc]? = some (some (i, 3))) (ht : ra_ct G sh M i st args rest mi) (k : ∀ z s, ra_in z → S s → ra_P G sh b d M (pc + 3) L (ra_I z :: rest) s Q) : ra_P G sh b d M pc L st σ Q :=
  ra_callA hC hd ht (fun E s h => by obtain ⟨⟨z, -, e⟩, -⟩ := h; cases e) (fun t s h => by obtain ⟨⟨z, hz, e⟩, hs⟩ := h; cases e; exact k z s hz hs)
theorem ra_cB (hC : ra_C G sh 0 d mi args σ (fun r s => rB r ∧ S s)) (hd : (ri_co M)[pc]? = some (some (i, 3))) (ht : ra_ct G sh M i st args rest mi) (k : ∀ (z : Int) s, (z = 0 ∨ z = 1) → S s → ra_P G sh b d M (pc + 3) L (ra_I z :: rest) s Q) : ra_P G sh b d M pc L st σ Q :=
  ra_callA hC hd ht (fun E s h => by obtain ⟨⟨z, -, e⟩, -⟩ := h; cases e) (fun t s h => by obtain ⟨⟨z, hz, e⟩, hs⟩ := h; cases e; exact k z s hz hs)
theorem ra_cV (hC : ra_C G sh 0 d mi args σ (fun r s => rV r ∧ S s)) (hd : (ri_co M)[pc]? = some (some (i, 3))) (ht : ra_ct G sh M i st args rest mi) (k : ∀ s, S s → ra_P G sh b d M (pc + 3) L rest s Q) : ra_P G sh b d M pc L st σ Q :=
  ra_callA hC hd ht (fun E s h => by have e := h.1; cases e) (fun t s h => by obtain ⟨e, hs⟩ := h; cases e; exact k s hs)
theorem ra_cR {q : Nat} (hC : ra_C G sh 0 d mi args σ (fun r s => rR q r ∧ S s)) (hd : (ri_co M)[pc]? = some (some (i, 3))) (ht : ra_ct G sh M i st args rest mi) (k : ∀ s, S s → ra_P G sh b d M (pc + 3) L (.index q :: rest) s Q) : ra_P G sh b d M pc L st σ Q :=
  ra_callA hC hd ht (fun E s h => by have e := h.1; cases e) (fun t s h => by obtain ⟨e, hs⟩ := h; cases e; exact k s hs)
theorem ra_cP (hC : ra_C G sh 0 d mi args σ (fun r s => rP D r ∧ S s)) (hd : (ri_co M)[pc]? = some (some (i, 3))) (ht : ra_ct G sh M i st args rest mi) (k0 : ∀ s, S s → ra_P G sh b d M (pc + 3) L (.null :: rest) s Q) (k : ∀ (j : Nat) s, j < 8 → S s → ra_P G sh b d M (pc + 3) L (.index (D + 5 + j) :: rest) s Q) : ra_P G sh b d M pc L st σ Q :=
  ra_callA hC hd ht (fun E s h => by rcases h.1 with e | ⟨j, -, e⟩ <;> cases e) (fun t s h => by
    obtain ⟨e | ⟨j, hj, e⟩, hs⟩ := h
    · cases e; exact k0 s hs
    · cases e; exact k j s hj hs)
theorem ra_cF {kd : Nat} (hC : ra_C G sh 0 d mi args σ (fun r s => rF kd r ∧ S s)) (hd : (ri_co M)[pc]? = some (some (i, 3))) (ht : ra_ct G sh M i st args rest mi) (k : ∀ t s, ri_k t = kd → S s → ra_P G sh b d M (pc + 3) L (t :: rest) s Q) : ra_P G sh b d M pc L st σ Q :=
  ra_callA hC hd ht (fun E s h => by obtain ⟨⟨z, -, e⟩, -⟩ := h; cases e) (fun t s h => by obtain ⟨⟨z, hz, e⟩, hs⟩ := h; cases e; exact k z s hz hs)
theorem ra_cXV (hC : ra_C G sh 0 d mi args σ (fun r s => rX Ls rV r ∧ S s)) (hd : (ri_co M)[pc]? = some (some (i, 3))) (ht : ra_ct G sh M i st args rest mi) (hh : ri_hh M = []) (k : ∀ s, S s → ra_P G sh b d M (pc + 3) L rest s Q) (kx : ∀ E s, E ∈ Ls → S s → Q (.inr E) s) : ra_P G sh b d M pc L st σ Q :=
  ra_callX hC hd ht hh (fun t s h => by
    obtain ⟨e | ⟨E, -, e⟩, hs⟩ := h
    · cases e; exact k s hs
    · cases e) (fun E s h => by
    obtain ⟨e | ⟨E2, hE, e⟩, hs⟩ := h
    · cases e
    · cases e; exact kx _ s hE hs)
theorem ra_cXN (hC : ra_C G sh 0 d mi args σ (fun r s => rX Ls (rN D) r ∧ S s)) (hd : (ri_co M)[pc]? = some (some (i, 3))) (ht : ra_ct G sh M i st args rest mi) (hh : ri_hh M = []) (k : ∀ (j : Nat) s, j < 8 → S s → ra_P G sh b d M (pc + 3) L (.index (D + 5 + j) :: rest) s Q) (kx : ∀ E s, E ∈ Ls → S s → Q (.inr E) s) : ra_P G sh b d M pc L st σ Q :=
  ra_callX hC hd ht hh (fun t s h => by
    obtain ⟨⟨j, hj, e⟩ | ⟨E, -, e⟩, hs⟩ := h
    · cases e; exact k j s hj hs
    · cases e) (fun E s h => by
    obtain ⟨⟨j, hj, e⟩ | ⟨E2, hE, e⟩, hs⟩ := h
    · cases e
    · cases e; exact kx _ s hE hs)
end
end RA7
end RA
end
section
/-! RA: calls that leave all as it is; switches -/
section RA
section RA8
variable {G : ri_Tb} {sh : ra_Sh} {b d mi : Nat} {M : ri_Mt} {pc idx : Nat} {L L' : List (Option Jvm.Term)} {st rest args : List Jvm.Term} {σ : ra_V} {Q : ra_Q} {i : Instr} {tx : String}
theorem ra_sw_none {lo x : Int} {offs : List Int} (h : x < lo ∨ lo + offs.length ≤ x) : (offs.mapIdx (fun j o => (lo + (j : Int), o))).find? (fun q => q.1 == x) = none := by
  rw [List.find?_eq_none]
  intro q hq
  obtain ⟨j, hj, rfl⟩ := List.mem_mapIdx.mp hq
  simp only [beq_iff_eq]
  omega
theorem ra_cong (h : L = L') (k : ra_P G sh b d M pc L' st σ Q) : ra_P G sh b d M pc L st σ Q := by rw [h]; exact k
/-- a local counted on, its value forgotten -/
theorem ra_iincG {k : Nat} {m x : Int} (hd : (ri_co M)[pc]? = some (some (.iinc k m, 3))) (hl : L[k]? = some (some (ra_I x))) (hk : k < ri_mx M) (kk : ∀ z, ra_in z → ra_P G sh b d M (pc + 3) (ra_sto L k (ra_I z)) st σ Q) : ra_P G sh b d M pc L st σ Q := by
  refine ra_iinc hd hl hk rfl ?_
  rw [← ra_I_w]
  exact kk _ (ra_w_in _)
/-- a field written: what it holds, what the others hold -/
theorem ra_newU {k j : Nat} {z : Int} (hz : ra_in z) (kk : ∀ s, Fr k (k + 1) σ s → ra_g s k j = z → (∀ a, a ≠ j → ra_g s k a = ra_g σ k a) → ra_P G sh b d M pc L st s Q) : ra_P G sh b d M pc L st (ra_up σ k j z) Q :=
  kk _ Fr_up (by unfold ra_g; rw [ra_up_eq]; exact ra_ofI hz) (fun a ha => by unfold ra_g ra_up; rw [if_neg (fun q => ha q.2)])
/-- the history's place -/
def CI (σ : ra_V) : Prop := 0 ≤ ra_g σ 40 1 ∧ ra_g σ 40 1 < 10
theorem CI_fr {lo hi : Nat} {σ s : ra_V} (h : CI σ) (hf : Fr lo hi σ s) (hk : 40 < lo ∨ hi ≤ 40) : CI s := by
  unfold CI at h ⊢
  rw [ra_gk (hf 40 hk)]
  exact h
section
variable {N : ra_R → Prop} {D : Nat} {Ls : List String}
theorem ra_cIp (hC : ra_C G sh 0 d mi args σ (fun r s => rI r ∧ s = σ)) (hd : (ri_co M)[pc]? = some (some (i, 3))) (ht : ra_ct G sh M i st args rest mi) (k : ∀ z, ra_in z → ra_P G sh b d M (pc + 3) L (ra_I z :: rest) σ Q) : ra_P G sh b d M pc L st σ Q :=
  ra_cI (S := fun s => s = σ) hC hd ht (fun z s hz hs => by rw [hs]; exact k z hz)
theorem ra_cBp (hC : ra_C G sh 0 d mi args σ (fun r s => rB r ∧ s = σ)) (hd : (ri_co M)[pc]? = some (some (i, 3))) (ht : ra_ct G sh M i st args rest mi) (k : ∀ z : Int, (z = 0 ∨ z = 1) → ra_P G sh b d M (pc + 3) L (ra_I z :: rest) σ Q) : ra_P G sh b d M pc L st σ Q :=
  ra_cB (S := fun s => s = σ) hC hd ht (fun z s hz hs => by rw [hs]; exact k z hz)
theorem ra_cPp (hC : ra_C G sh 0 d mi args σ (fun r s => rP D r ∧ s = σ)) (hd : (ri_co M)[pc]? = some (some (i, 3))) (ht : ra_ct G sh M i st args rest mi) (k0 : ra_P G sh b d M (pc + 3) L (.null :: rest) σ Q) (k : ∀ (j : Nat), j < 8 → ra_P G sh b d M (pc + 3) L (.index (D + 5 + j) :: rest) σ Q) : ra_P G sh b d M pc L st σ Q :=
  ra_cP (S := fun s => s = σ) hC hd ht (fun s hs => by rw [hs]; exact k0) (fun j s hj hs => by rw [hs]; exact k j hj)
theorem ra_cT {S : ra_V → Prop} {t : Jvm.Term} (hC : ra_C G sh 0 d mi args σ (fun r s => r = .inl (some t) ∧ S s)) (hd : (ri_co M)[pc]? = some (some (i, 3))) (ht : ra_ct G sh M i st args rest mi) (k : ∀ s, S s → ra_P G sh b d M (pc + 3) L (t :: rest) s Q) : ra_P G sh b d M pc L st σ Q :=
  ra_callA hC hd ht (fun E s h => by cases h.1) (fun t s h => by obtain ⟨e, hs⟩ := h; cases e; exact k s hs)
theorem ra_cTp {t : Jvm.Term} (hC : ra_C G sh 0 d mi args σ (fun r s => r = .inl (some t) ∧ s = σ)) (hd : (ri_co M)[pc]? = some (some (i, 3))) (ht : ra_ct G sh M i st args rest mi) (k : ra_P G sh b d M (pc + 3) L (t :: rest) σ Q) : ra_P G sh b d M pc L st σ Q :=
  ra_cT (S := fun s => s = σ) hC hd ht (fun s hs => by rw [hs]; exact k)
theorem ra_cXVp (hC : ra_C G sh 0 d mi args σ (fun r s => rX Ls rV r ∧ s = σ)) (hd : (ri_co M)[pc]? = some (some (i, 3))) (ht : ra_ct G sh M i st args rest mi) (hh : ri_hh M = []) (k : ra_P G sh b d M (pc + 3) L rest σ Q) (kx : ∀ E, E ∈ Ls → Q (.inr E) σ) : ra_P G sh b d M pc L st σ Q :=
  ra_cXV (S := fun s => s = σ) hC hd ht hh (fun s hs => by rw [hs]; exact k) (fun E s hE hs => by rw [hs]; exact kx E hE)
theorem ra_cXNp (hC : ra_C G sh 0 d mi args σ (fun r s => rX Ls (rN D) r ∧ s = σ)) (hd : (ri_co M)[pc]? = some (some (i, 3))) (ht : ra_ct G sh M i st args rest mi) (hh : ri_hh M = []) (k : ∀ (j : Nat), j < 8 → ra_P G sh b d M (pc + 3) L (.index (D + 5 + j) :: rest) σ Q) (kx : ∀ E, E ∈ Ls → Q (.inr E) σ) : ra_P G sh b d M pc L st σ Q :=
  ra_cXN (S := fun s => s = σ) hC hd ht hh (fun j s hj hs => by rw [hs]; exact k j hj) (fun E s hE hs => by rw [hs]; exact kx E hE)
end
end RA8
end RA
end
section
/-! RA: doubles and floats that are no NaN -/
section RA
section RA9
variable {G : ri_Tb} {sh : ra_Sh} {b d : Nat} {M : ri_Mt} {pc : Nat} {L : List (Option Jvm.Term)} {st : List Jvm.Term} {σ : ra_V} {Q : ra_Q}
theorem ra_n64 {r : UInt64} (h : r.toNat % 2 ^ 63 ≤ 2047 * 2 ^ 52) : vf_n64 r := by
  unfold vf_n64
  rw [UInt64.le_iff_toNat_le, UInt64.toNat_and]
  have e : (0x7fffffffffffffff : UInt64).toNat = 2 ^ 63 - 1 := by decide
  rw [e, Nat.and_two_pow_sub_one_eq_mod]
  exact h
theorem ra_n32 {r : UInt32} (h : r.toNat % 2 ^ 31 ≤ 255 * 2 ^ 23) : vf_n32 r := by
  unfold vf_n32
  rw [UInt32.le_iff_toNat_le, UInt32.toNat_and]
  have e : (0x7fffffff : UInt32).toNat = 2 ^ 31 - 1 := by decide
  rw [e, Nat.and_two_pow_sub_one_eq_mod]
  exact h
theorem ra_dn {x y : Int} (hy : ra_in y) (h0 : y ≠ 0) : vf_n64 (FP.ddiv (FP.i2d (Int32.ofInt x)) (FP.i2d (Int32.ofInt y))) := by
  have ha := FP.Core.fromInt_mag (FP.Core.toNat_i2d (Int32.ofInt x)) (j := 31) (K := 1054) (FP.Core.int32_abs _) (by omega) (by omega)
  have hb := FP.Core.fromInt_mag (FP.Core.toNat_i2d (Int32.ofInt y)) (j := 31) (K := 1054) (FP.Core.int32_abs _) (by omega) (by omega)
  have hc := FP.Core.fromInt_ge (FP.Core.toNat_i2d (Int32.ofInt y)) (by rw [ra_ofI hy]; exact h0)
  have h := FP.Core.ddiv_mag (a := FP.Core.i2d (Int32.ofInt x)) (b := FP.Core.i2d (Int32.ofInt y)) (K := 1055) (L := 1023) (by omega) (by omega) (by omega) (by omega) (by omega)
  exact ra_n64 (Nat.le_of_lt (Nat.lt_of_lt_of_le (show (FP.ddiv (FP.i2d (Int32.ofInt x)) (FP.i2d (Int32.ofInt y))).toNat % 2 ^ 63 < (1055 + (1074 - 52 - 1) - 1023 + 3) * 2 ^ 52 from h) (by decide)))
theorem ra_fq {x y : Int} (hy : ra_in y) (h0 : y ≠ 0) : (FP.fdiv (FP.i2f (Int32.ofInt x)) (FP.i2f (Int32.ofInt y))).toNat % 2 ^ 31 < 160 * 2 ^ 23 := by
  have ha := FP.Core.fromInt_mag32 (FP.Core.toNat_i2f (Int32.ofInt x)) (j := 31) (K := 158) (FP.Core.int32_abs _) (by omega) (by omega)
  have hb := FP.Core.fromInt_mag32 (FP.Core.toNat_i2f (Int32.ofInt y)) (j := 31) (K := 158) (FP.Core.int32_abs _) (by omega) (by omega)
  have hc := FP.Core.fromInt_ge32 (FP.Core.toNat_i2f (Int32.ofInt y)) (by rw [ra_ofI hy]; exact h0)
  exact FP.Core.fdiv_mag (a := FP.Core.i2f (Int32.ofInt x)) (b := FP.Core.i2f (Int32.ofInt y)) (K := 159) (L := 127) (by omega) (by omega) (by omega) (by omega) (by omega)
theorem ra_fn {x y : Int} (hy : ra_in y) (h0 : y ≠ 0) : vf_n32 (FP.fdiv (FP.i2f (Int32.ofInt x)) (FP.i2f (Int32.ofInt y))) := ra_n32 (by have := ra_fq (x := x) hy h0; omega)
theorem ra_sn {x y : Int} (hy : ra_in y) (h0 : y ≠ 0) : vf_n32 (FP.fsub FP.fconst1 (FP.fdiv (FP.i2f (Int32.ofInt x)) (FP.i2f (Int32.ofInt y)))) := by
  have h1 := ra_fq (x := x) hy h0
  have h2 := FP.Core.fsub_mag (a := FP.fconst1) (b := FP.fdiv (FP.i2f (Int32.ofInt x)) (FP.i2f (Int32.ofInt y))) (K := 160) (by decide) h1 (by omega)
  exact ra_n32 (Nat.le_of_lt (Nat.lt_of_lt_of_le (show (FP.fsub FP.fconst1 (FP.fdiv (FP.i2f (Int32.ofInt x)) (FP.i2f (Int32.ofInt y)))).toNat % 2 ^ 31 < (160 + 2) * 2 ^ 23 from h2) (by decide)))
theorem ra_fD_e (x : UInt64) : ri_fD x = .op1 .bitsD (.long x.toInt64) := by unfold ri_fD; rw [ri_cl_eq]
theorem ra_fF_e (x : UInt32) : ri_fF x = .op1 .bitsF (.int x.toInt32) := by unfold ri_fF; rw [ri_ci_eq]
theorem ra_i2d {x : Int} (hd : (ri_co M)[pc]? = some (some (.i2d, 1))) (kk : ra_P G sh b d M (pc + 1) L (ri_fD (FP.i2d (Int32.ofInt x)) :: st) σ Q) : ra_P G sh b d M pc L (ra_I x :: st) σ Q :=
  ra_pure hd (fun lv h => ⟨lv, h, rfl⟩) kk
theorem ra_i2f {x : Int} (hd : (ri_co M)[pc]? = some (some (.i2f, 1))) (kk : ra_P G sh b d M (pc + 1) L (ri_fF (FP.i2f (Int32.ofInt x)) :: st) σ Q) : ra_P G sh b d M pc L (ra_I x :: st) σ Q :=
  ra_pure hd (fun lv h => ⟨lv, h, rfl⟩) kk
theorem ra_ddiv {x y : UInt64} (hd : (ri_co M)[pc]? = some (some (.ddiv, 1))) (hn : vf_n64 (FP.ddiv x y)) (kk : ra_P G sh b d M (pc + 1) L (ri_fD (FP.ddiv x y) :: st) σ Q) : ra_P G sh b d M pc L (ri_fD y :: ri_fD x :: st) σ Q :=
  ra_pure hd (fun lv h => ⟨lv, h, by
    show ri_s2D FP.ddiv lv (ri_fD y :: ri_fD x :: st) = _
    rw [ra_fD_e, ra_fD_e]
    unfold ri_s2D
    dsimp only
    rw [UInt64.toUInt64_toInt64, UInt64.toUInt64_toInt64]
    exact if_pos hn⟩) kk
theorem ra_fdiv {x y : UInt32} (hd : (ri_co M)[pc]? = some (some (.fdiv, 1))) (hn : vf_n32 (FP.fdiv x y)) (kk : ra_P G sh b d M (pc + 1) L (ri_fF (FP.fdiv x y) :: st) σ Q) : ra_P G sh b d M pc L (ri_fF y :: ri_fF x :: st) σ Q :=
  ra_pure hd (fun lv h => ⟨lv, h, by
    show ri_s2F FP.fdiv lv (ri_fF y :: ri_fF x :: st) = _
    rw [ra_fF_e, ra_fF_e]
    unfold ri_s2F
    dsimp only
    rw [UInt32.toUInt32_toInt32, UInt32.toUInt32_toInt32]
    exact if_pos hn⟩) kk
theorem ra_fsub {x y : UInt32} (hd : (ri_co M)[pc]? = some (some (.fsub, 1))) (hn : vf_n32 (FP.fsub x y)) (kk : ra_P G sh b d M (pc + 1) L (ri_fF (FP.fsub x y) :: st) σ Q) : ra_P G sh b d M pc L (ri_fF y :: ri_fF x :: st) σ Q :=
  ra_pure hd (fun lv h => ⟨lv, h, by
    show ri_s2F FP.fsub lv (ri_fF y :: ri_fF x :: st) = _
    rw [ra_fF_e, ra_fF_e]
    unfold ri_s2F
    dsimp only
    rw [UInt32.toUInt32_toInt32, UInt32.toUInt32_toInt32]
    exact if_pos hn⟩) kk
end RA9
end RA
end
section
/-! RA: rows at literal places; answers of which something holds -/
section RA
section RA10
variable {G : ri_Tb} {sh : ra_Sh} {b d mi : Nat} {M : ri_Mt} {pc idx : Nat} {L L' : List (Option Jvm.Term)} {st rest args : List Jvm.Term} {σ : ra_V} {Q : ra_Q} {i : Instr} {tx : String}
theorem ra_ialoadJ {k ty n j : Nat} {z : Int} (hd : (ri_co M)[pc]? = some (some (.iaload, 1))) (hs : sh[k]? = some (.inr (ty, n, false, none))) (hty : (ri_aty G)[ty]? = some .int) (hn : n ≤ 2147483647) (hz : z = (j : Int)) (h1 : j < n) (kk : ra_P G sh b d M (pc + 1) L (ra_I (ra_g σ k j) :: st) σ Q) : ra_P G sh b d M pc L (ra_I z :: .index k :: st) σ Q := by
  subst hz
  exact ra_iaload hd hs hty hn (by omega) (by omega) kk
theorem ra_iastoreJ {k ty n j : Nat} {z v : Int} (hd : (ri_co M)[pc]? = some (some (.iastore, 1))) (hs : sh[k]? = some (.inr (ty, n, false, none))) (hty : (ri_aty G)[ty]? = some .int) (hn : n ≤ 2147483647) (hz : z = (j : Int)) (h1 : j < n) (kk : ra_P G sh b d M (pc + 1) L st (ra_up σ k j v) Q) : ra_P G sh b d M pc L (ra_I v :: ra_I z :: .index k :: st) σ Q := by
  subst hz
  exact ra_iastore hd hs hty hn (by omega) (by omega) kk
theorem ra_in_tdiv {x y : Int} (hx : ra_in x) (hy : 1 ≤ y) : ra_in (x.tdiv y) := by
  have h1 := Int.natAbs_tdiv_le_natAbs x y
  have h2 : 0 ≤ x → 0 ≤ x.tdiv y := fun h => Int.tdiv_nonneg h (by omega)
  have h3 : x ≤ 0 → x.tdiv y ≤ 0 := fun h => by
    have := Int.tdiv_nonneg (a := -x) (b := y) (by omega) (by omega)
    rw [Int.neg_tdiv] at this
    omega
  unfold ra_in at *
  omega
/-- a row written -/
theorem ra_newR {k j : Nat} {z : Int} (hz : ra_in z) (kk : ∀ s, Fr k (k + 1) σ s → ra_g s k j = z → (∀ a, a ≠ j → ra_g s k a = ra_g σ k a) → ra_P G sh b d M pc L st s Q) : ra_P G sh b d M pc L st (ra_up σ k j z) Q := ra_newU hz kk
section
variable {S : ra_V → Prop} {P : Int → Prop}
theorem ra_cIP (hC : ra_C G sh 0 d mi args σ (fun r s => (∃ z, ra_in z ∧ P z ∧ r = .inl (some (ra_I z))) ∧ S s)) (hd : (ri_co M)[pc]? = some (some (i, 3))) (ht : ra_ct G sh M i st args rest mi) (k : ∀ z s, ra_in z → P z → S s → ra_P G sh b d M (pc + 3) L (ra_I z :: rest) s Q) : ra_P G sh b d M pc L st σ Q :=
  ra_callA hC hd ht (fun E s h => by obtain ⟨⟨z, -, -, e⟩, -⟩ := h; cases e) (fun t s h => by obtain ⟨⟨z, hz, hp, e⟩, hs⟩ := h; cases e; exact k z s hz hp hs)
theorem ra_cIPp (hC : ra_C G sh 0 d mi args σ (fun r s => (∃ z, ra_in z ∧ P z ∧ r = .inl (some (ra_I z))) ∧ s = σ)) (hd : (ri_co M)[pc]? = some (some (i, 3))) (ht : ra_ct G sh M i st args rest mi) (k : ∀ z, ra_in z → P z → ra_P G sh b d M (pc + 3) L (ra_I z :: rest) σ Q) : ra_P G sh b d M pc L st σ Q :=
  ra_cIP (S := fun s => s = σ) hC hd ht (fun z s hz hp hs => by rw [hs]; exact k z hz hp)
theorem ra_cQP (hC : ra_C G sh 0 d mi args σ (fun r s => (∃ z : Int, (z = 0 ∨ z = 1) ∧ P z ∧ r = .inl (some (ra_I z))) ∧ S s)) (hd : (ri_co M)[pc]? = some (some (i, 3))) (ht : ra_ct G sh M i st args rest mi) (k : ∀ (z : Int) s, (z = 0 ∨ z = 1) → P z → S s → ra_P G sh b d M (pc + 3) L (ra_I z :: rest) s Q) : ra_P G sh b d M pc L st σ Q :=
  ra_callA hC hd ht (fun E s h => by obtain ⟨⟨z, -, -, e⟩, -⟩ := h; cases e) (fun t s h => by obtain ⟨⟨z, hz, hp, e⟩, hs⟩ := h; cases e; exact k z s hz hp hs)
theorem ra_cQPp (hC : ra_C G sh 0 d mi args σ (fun r s => (∃ z : Int, (z = 0 ∨ z = 1) ∧ P z ∧ r = .inl (some (ra_I z))) ∧ s = σ)) (hd : (ri_co M)[pc]? = some (some (i, 3))) (ht : ra_ct G sh M i st args rest mi) (k : ∀ (z : Int), (z = 0 ∨ z = 1) → P z → ra_P G sh b d M (pc + 3) L (ra_I z :: rest) σ Q) : ra_P G sh b d M pc L st σ Q :=
  ra_cQP (S := fun s => s = σ) hC hd ht (fun z s hz hp hs => by rw [hs]; exact k z hz hp)
end
end RA10
end RA
end
