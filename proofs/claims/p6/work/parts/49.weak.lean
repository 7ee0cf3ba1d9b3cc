/-! RA: what is told of a call where its answer's value doesn't matter -/
section RA
section RA7
variable {G : ri_Tb} {sh : ra_Sh} {b d mi : Nat} {M : ri_Mt} {pc idx : Nat} {L L' : List (Option Jvm.Term)} {st rest args : List Jvm.Term} {σ : ra_V} {Q : ra_Q} {i : Instr} {tx : String}
theorem ra_gen {e : Int} (k : ∀ z, ra_in z → ra_P G sh b d M pc L (ra_I z :: st) σ Q) : ra_P G sh b d M pc L (ra_I e :: st) σ Q := by
  rw [← ra_I_w]
  exact k _ (ra_w_in e)
theorem ra_gk {s t : ra_V} {k j : Nat} (h : s k = t k) : ra_g s k j = ra_g t k j := by unfold ra_g; rw [h]
theorem ra_in01 {z : Int} (h : z = 0 ∨ z = 1) : ra_in z := by unfold ra_in; omega
theorem ra_in_N {n : Nat} (h : n ≤ 2147483647) : ra_in (n : Int) := by unfold ra_in; omega
/-- locals forgotten -/
def ra_wk : List (Option Jvm.Term) → List (Option Jvm.Term) → Prop
  | [], _ => True
  | _ :: _, [] => False
  | none :: a, _ :: c => ra_wk a c
  | some t :: a, u :: c => some t = u ∧ ra_wk a c
theorem ra_wk_s : ∀ {A B : List (Option Jvm.Term)}, ra_wk A B → ∀ (i : Nat) (t : Jvm.Term), A[i]? = some (some t) → B[i]? = some (some t)
  | [], _, _, i, t, h => by simp at h
  | _ :: _, [], hw, _, _, _ => by simp [ra_wk] at hw
  | none :: a, u :: c, hw, 0, t, h => by simp at h
  | none :: a, u :: c, hw, i + 1, t, h => by
    have hw : ra_wk a c := hw
    simpa using ra_wk_s hw i t (by simpa using h)
  | some x :: a, u :: c, hw, 0, t, h => by
    obtain ⟨h1, -⟩ := hw
    have : x = t := by simpa using h
    subst this
    rw [← h1]
    rfl
  | some x :: a, u :: c, hw, i + 1, t, h => by
    obtain ⟨-, h2⟩ := hw
    simpa using ra_wk_s h2 i t (by simpa using h)
theorem ra_weak (hw : ra_wk L' L) (k : ra_P G sh b d M pc L' st σ Q) : ra_P G sh b d M pc L st σ Q := by
  obtain ⟨r, s, F, q, k⟩ := k
  exact ⟨r, s, F, q, fun f g hf hg lv mem h1 h2 => k f g hf hg lv mem (fun i t h => h1 i t (ra_wk_s hw i t h)) h2⟩
/-- which cells may have changed -/
def Fr (lo hi : Nat) (σ s : ra_V) : Prop := ∀ k, (k < lo ∨ hi ≤ k) → s k = σ k
theorem Fr_rf {lo hi : Nat} {σ : ra_V} : Fr lo hi σ σ := fun _ _ => rfl
theorem Fr_tr {lo hi a c : Nat} {σ s t : ra_V} (h1 : Fr lo hi σ s) (h2 : Fr a c s t) (h : lo ≤ a ∧ c ≤ hi) : Fr lo hi σ t := fun k hk => (h2 k (by omega)).trans (h1 k hk)
theorem Fr_mono {lo hi a c : Nat} {σ s : ra_V} (h2 : Fr a c σ s) (h : lo ≤ a ∧ c ≤ hi) : Fr lo hi σ s := fun k hk => h2 k (by omega)
theorem Fr_up {k j : Nat} {z : Int} : Fr k (k + 1) σ (ra_up σ k j z) := fun a ha => ra_up_ne (by omega)
theorem Fr_cpy {k k1 : Nat} : Fr k1 (k1 + 1) σ (ra_cpy σ k k1) := fun a ha => funext fun i => by unfold ra_cpy; rw [if_neg (by omega)]
theorem ra_new {k : Nat} {s' : ra_V} (h : Fr k (k + 1) σ s') (kk : ∀ s, Fr k (k + 1) σ s → ra_P G sh b d M pc L st s Q) : ra_P G sh b d M pc L st s' Q := kk s' h
def rI (r : ra_R) : Prop := ∃ z, ra_in z ∧ r = .inl (some (ra_I z))
def rB (r : ra_R) : Prop := ∃ z : Int, (z = 0 ∨ z = 1) ∧ r = .inl (some (ra_I z))
def rP (D : Nat) (r : ra_R) : Prop := r = .inl (some .null) ∨ ∃ i, i < 8 ∧ r = .inl (some (.index (D + 5 + i)))
def rN (D : Nat) (r : ra_R) : Prop := ∃ i, i < 8 ∧ r = .inl (some (.index (D + 5 + i)))
def rR (k : Nat) (r : ra_R) : Prop := r = .inl (some (.index k))
def rV (r : ra_R) : Prop := r = .inl none
def rF (kd : Nat) (r : ra_R) : Prop := ∃ t, ri_k t = kd ∧ r = .inl (some t)
def rX (Ls : List String) (N : ra_R → Prop) (r : ra_R) : Prop := N r ∨ ∃ E, E ∈ Ls ∧ r = .inr E
theorem ra_okB {z : Int} (h : z = 0 ∨ z = 1) : ri_okI (ra_I z) (some .boolean) = true := by rcases h with rfl | rfl <;> decide
theorem ra_okBp {p : Prop} [Decidable p] : ri_okI (ra_B p) (some .boolean) = true := by
  unfold ra_B
  exact ra_okB (by split <;> simp)
theorem ra_getBw {kd ci k j : Nat} {fl : List (Option Jvm.Term)} (hd : (ri_co M)[pc]? = some (some (.getfield idx, 3))) (hc : ri_cp G M idx = some (kd, ci, j, tx)) (hk : kd ≤ 1) (hs : sh[k]? = some (.inl (ci, fl))) (hf : fl[j]? = some (some (.arg 0))) (kk : ∀ z : Int, (z = 0 ∨ z = 1) → ra_P G sh b d M (pc + 3) L (ra_I z :: st) σ Q) : ra_P G sh b d M pc L (.index k :: st) σ Q :=
  ra_getB hd hc hk hs hf (kk _ (by split <;> simp))
section
variable {S : ra_V → Prop} {N : ra_R → Prop} {D : Nat} {Ls : List String}
theorem ra_cI (hC : ra_C G sh 0 d mi args σ (fun r s => rI r ∧ S s)) (hd : (ri_co M)[pc]? = some (some (i, 3))) (ht : ra_ct G sh M i st args rest mi) (k : ∀ z s, ra_in z → S s → ra_P G sh b d M (pc + 3) L (ra_I z :: rest) s Q) : ra_P G sh b d M pc L st σ Q :=
  ra_callA hC hd ht (fun E s h => by obtain ⟨⟨z, -, e⟩, -⟩ := h; cases e) (fun t s h => by obtain ⟨⟨z, hz, e⟩, hs⟩ := h; cases e; exact k z s hz hs)
theorem ra_cB (hC : ra_C G sh 0 d mi args σ (fun r s => rB r ∧ S s)) (hd : (ri_co M)[pc]? = some (some (i, 3))) (ht : ra_ct G sh M i st args rest mi) (k : ∀ (z : Int) s, (z = 0 ∨ z = 1) → S s → ra_P G sh b d M (pc + 3) L (ra_I z :: rest) s Q) : ra_P G sh b d M pc L st σ Q :=
  ra_callA hC hd ht (fun E s h => by obtain ⟨⟨z, -, e⟩, -⟩ := h; cases e) (fun t s h => by obtain ⟨⟨z, hz, e⟩, hs⟩ := h; cases e; exact k z s hz hs)
theorem ra_cV (hC : ra_C G sh 0 d mi args σ (fun r s => rV r ∧ S s)) (hd : (ri_co M)[pc]? = some (some (i, 3))) (ht : ra_ct G sh M i st args rest mi) (k : ∀ s, S s → ra_P G sh b d M (pc + 3) L rest s Q) : ra_P G sh b d M pc L st σ Q :=
  ra_callA hC hd ht (fun E s h => by have e := h.1; cases e) (fun t s h => by obtain ⟨e, hs⟩ := h; cases e; exact k s hs)
theorem ra_cR {q : Nat} (hC : ra_C G sh 0 d mi args σ (fun r s => rR q r ∧ S s)) (hd : (ri_co M)[pc]? = some (some (i, 3))) (ht : ra_ct G sh M i st args rest mi) (k : ∀ s, S s → ra_P G sh b d M (pc + 3) L (.index q :: rest) s Q) : ra_P G sh b d M pc L st σ Q :=
  ra_callA hC hd ht (fun E s h => by have e := h.1; cases e) (fun t s h => by obtain ⟨e, hs⟩ := h; cases e; exact k s hs)
theorem ra_cP (hC : ra_C G sh 0 d mi args σ (fun r s => rP D r ∧ S s)) (hd : (ri_co M)[pc]? = some (some (i, 3))) (ht : ra_ct G sh M i st args rest mi) (k0 : ∀ s, S s → ra_P G sh b d M (pc + 3) L (.null :: rest) s Q) (k : ∀ (j : Nat) s, j < 8 → S s → ra_P G sh b d M (pc + 3) L (.index (D + 5 + j) :: rest) s Q) : ra_P G sh b d M pc L st σ Q :=
  ra_callA hC hd ht (fun E s h => by rcases h.1 with e | ⟨j, -, e⟩ <;> cases e) (fun t s h => by
    obtain ⟨e | ⟨j, hj, e⟩, hs⟩ := h
    · cases e; exact k0 s hs
    · cases e; exact k j s hj hs)
theorem ra_cF {kd : Nat} (hC : ra_C G sh 0 d mi args σ (fun r s => rF kd r ∧ S s)) (hd : (ri_co M)[pc]? = some (some (i, 3))) (ht : ra_ct G sh M i st args rest mi) (k : ∀ t s, ri_k t = kd → S s → ra_P G sh b d M (pc + 3) L (t :: rest) s Q) : ra_P G sh b d M pc L st σ Q :=
  ra_callA hC hd ht (fun E s h => by obtain ⟨⟨z, -, e⟩, -⟩ := h; cases e) (fun t s h => by obtain ⟨⟨z, hz, e⟩, hs⟩ := h; cases e; exact k z s hz hs)
theorem ra_cXV (hC : ra_C G sh 0 d mi args σ (fun r s => rX Ls rV r ∧ S s)) (hd : (ri_co M)[pc]? = some (some (i, 3))) (ht : ra_ct G sh M i st args rest mi) (hh : ri_hh M = []) (k : ∀ s, S s → ra_P G sh b d M (pc + 3) L rest s Q) (kx : ∀ E s, E ∈ Ls → S s → Q (.inr E) s) : ra_P G sh b d M pc L st σ Q :=
  ra_callX hC hd ht hh (fun t s h => by
    obtain ⟨e | ⟨E, -, e⟩, hs⟩ := h
    · cases e; exact k s hs
    · cases e) (fun E s h => by
    obtain ⟨e | ⟨E2, hE, e⟩, hs⟩ := h
    · cases e
    · cases e; exact kx _ s hE hs)
theorem ra_cXN (hC : ra_C G sh 0 d mi args σ (fun r s => rX Ls (rN D) r ∧ S s)) (hd : (ri_co M)[pc]? = some (some (i, 3))) (ht : ra_ct G sh M i st args rest mi) (hh : ri_hh M = []) (k : ∀ (j : Nat) s, j < 8 → S s → ra_P G sh b d M (pc + 3) L (.index (D + 5 + j) :: rest) s Q) (kx : ∀ E s, E ∈ Ls → S s → Q (.inr E) s) : ra_P G sh b d M pc L st σ Q :=
  ra_callX hC hd ht hh (fun t s h => by
    obtain ⟨⟨j, hj, e⟩ | ⟨E, -, e⟩, hs⟩ := h
    · cases e; exact k j s hj hs
    · cases e) (fun E s h => by
    obtain ⟨⟨j, hj, e⟩ | ⟨E2, hE, e⟩, hs⟩ := h
    · cases e
    · cases e; exact kx _ s hE hs)
end
end RA7
end RA
