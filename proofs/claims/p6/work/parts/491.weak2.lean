/-! RA: calls that leave all as it is; switches -/
section RA
section RA8
variable {G : ri_Tb} {sh : ra_Sh} {b d mi : Nat} {M : ri_Mt} {pc idx : Nat} {L L' : List (Option Jvm.Term)} {st rest args : List Jvm.Term} {σ : ra_V} {Q : ra_Q} {i : Instr} {tx : String}
theorem ra_sw_none {lo x : Int} {offs : List Int} (h : x < lo ∨ lo + offs.length ≤ x) : (offs.mapIdx (fun j o => (lo + (j : Int), o))).find? (fun q => q.1 == x) = none := by
  rw [List.find?_eq_none]
  intro q hq
  obtain ⟨j, hj, rfl⟩ := List.mem_mapIdx.mp hq
  simp only [beq_iff_eq]
  omega
theorem ra_cong (h : L = L') (k : ra_P G sh b d M pc L' st σ Q) : ra_P G sh b d M pc L st σ Q := by rw [h]; exact k
/-- a local counted on, its value forgotten -/
theorem ra_iincG {k : Nat} {m x : Int} (hd : (ri_co M)[pc]? = some (some (.iinc k m, 3))) (hl : L[k]? = some (some (ra_I x))) (hk : k < ri_mx M) (kk : ∀ z, ra_in z → ra_P G sh b d M (pc + 3) (ra_sto L k (ra_I z)) st σ Q) : ra_P G sh b d M pc L st σ Q := by
  refine ra_iinc hd hl hk rfl ?_
  rw [← ra_I_w]
  exact kk _ (ra_w_in _)
/-- a field written: what it holds, what the others hold -/
theorem ra_newU {k j : Nat} {z : Int} (hz : ra_in z) (kk : ∀ s, Fr k (k + 1) σ s → ra_g s k j = z → (∀ a, a ≠ j → ra_g s k a = ra_g σ k a) → ra_P G sh b d M pc L st s Q) : ra_P G sh b d M pc L st (ra_up σ k j z) Q :=
  kk _ Fr_up (by unfold ra_g; rw [ra_up_eq]; exact ra_ofI hz) (fun a ha => by unfold ra_g ra_up; rw [if_neg (fun q => ha q.2)])
/-- the history's place -/
def CI (σ : ra_V) : Prop := 0 ≤ ra_g σ 40 1 ∧ ra_g σ 40 1 < 10
theorem CI_fr {lo hi : Nat} {σ s : ra_V} (h : CI σ) (hf : Fr lo hi σ s) (hk : 40 < lo ∨ hi ≤ 40) : CI s := by
  unfold CI at h ⊢
  rw [ra_gk (hf 40 hk)]
  exact h
section
variable {N : ra_R → Prop} {D : Nat} {Ls : List String}
theorem ra_cIp (hC : ra_C G sh 0 d mi args σ (fun r s => rI r ∧ s = σ)) (hd : (ri_co M)[pc]? = some (some (i, 3))) (ht : ra_ct G sh M i st args rest mi) (k : ∀ z, ra_in z → ra_P G sh b d M (pc + 3) L (ra_I z :: rest) σ Q) : ra_P G sh b d M pc L st σ Q :=
  ra_cI (S := fun s => s = σ) hC hd ht (fun z s hz hs => by rw [hs]; exact k z hz)
theorem ra_cBp (hC : ra_C G sh 0 d mi args σ (fun r s => rB r ∧ s = σ)) (hd : (ri_co M)[pc]? = some (some (i, 3))) (ht : ra_ct G sh M i st args rest mi) (k : ∀ z : Int, (z = 0 ∨ z = 1) → ra_P G sh b d M (pc + 3) L (ra_I z :: rest) σ Q) : ra_P G sh b d M pc L st σ Q :=
  ra_cB (S := fun s => s = σ) hC hd ht (fun z s hz hs => by rw [hs]; exact k z hz)
theorem ra_cPp (hC : ra_C G sh 0 d mi args σ (fun r s => rP D r ∧ s = σ)) (hd : (ri_co M)[pc]? = some (some (i, 3))) (ht : ra_ct G sh M i st args rest mi) (k0 : ra_P G sh b d M (pc + 3) L (.null :: rest) σ Q) (k : ∀ (j : Nat), j < 8 → ra_P G sh b d M (pc + 3) L (.index (D + 5 + j) :: rest) σ Q) : ra_P G sh b d M pc L st σ Q :=
  ra_cP (S := fun s => s = σ) hC hd ht (fun s hs => by rw [hs]; exact k0) (fun j s hj hs => by rw [hs]; exact k j hj)
theorem ra_cT {S : ra_V → Prop} {t : Jvm.Term} (hC : ra_C G sh 0 d mi args σ (fun r s => r = .inl (some t) ∧ S s)) (hd : (ri_co M)[pc]? = some (some (i, 3))) (ht : ra_ct G sh M i st args rest mi) (k : ∀ s, S s → ra_P G sh b d M (pc + 3) L (t :: rest) s Q) : ra_P G sh b d M pc L st σ Q :=
  ra_callA hC hd ht (fun E s h => by cases h.1) (fun t s h => by obtain ⟨e, hs⟩ := h; cases e; exact k s hs)
theorem ra_cTp {t : Jvm.Term} (hC : ra_C G sh 0 d mi args σ (fun r s => r = .inl (some t) ∧ s = σ)) (hd : (ri_co M)[pc]? = some (some (i, 3))) (ht : ra_ct G sh M i st args rest mi) (k : ra_P G sh b d M (pc + 3) L (t :: rest) σ Q) : ra_P G sh b d M pc L st σ Q :=
  ra_cT (S := fun s => s = σ) hC hd ht (fun s hs => by rw [hs]; exact k)
theorem ra_cXVp (hC : ra_C G sh 0 d mi args σ (fun r s => rX Ls rV r ∧ s = σ)) (hd : (ri_co M)[pc]? = some (some (i, 3))) (ht : ra_ct G sh M i st args rest mi) (hh : ri_hh M = []) (k : ra_P G sh b d M (pc + 3) L rest σ Q) (kx : ∀ E, E ∈ Ls → Q (.inr E) σ) : ra_P G sh b d M pc L st σ Q :=
  ra_cXV (S := fun s => s = σ) hC hd ht hh (fun s hs => by rw [hs]; exact k) (fun E s hE hs => by rw [hs]; exact kx E hE)
theorem ra_cXNp (hC : ra_C G sh 0 d mi args σ (fun r s => rX Ls (rN D) r ∧ s = σ)) (hd : (ri_co M)[pc]? = some (some (i, 3))) (ht : ra_ct G sh M i st args rest mi) (hh : ri_hh M = []) (k : ∀ (j : Nat), j < 8 → ra_P G sh b d M (pc + 3) L (.index (D + 5 + j) :: rest) σ Q) (kx : ∀ E, E ∈ Ls → Q (.inr E) σ) : ra_P G sh b d M pc L st σ Q :=
  ra_cXN (S := fun s => s = σ) hC hd ht hh (fun j s hj hs => by rw [hs]; exact k j hj) (fun E s hE hs => by rw [hs]; exact kx E hE)
end
end RA8
end RA
