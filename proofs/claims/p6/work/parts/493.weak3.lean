/-! RA: rows at literal places; answers of which something holds -/
section RA
section RA10
variable {G : ri_Tb} {sh : ra_Sh} {b d mi : Nat} {M : ri_Mt} {pc idx : Nat} {L L' : List (Option Jvm.Term)} {st rest args : List Jvm.Term} {σ : ra_V} {Q : ra_Q} {i : Instr} {tx : String}
theorem ra_ialoadJ {k ty n j : Nat} {z : Int} (hd : (ri_co M)[pc]? = some (some (.iaload, 1))) (hs : sh[k]? = some (.inr (ty, n, false, none))) (hty : (ri_aty G)[ty]? = some .int) (hn : n ≤ 2147483647) (hz : z = (j : Int)) (h1 : j < n) (kk : ra_P G sh b d M (pc + 1) L (ra_I (ra_g σ k j) :: st) σ Q) : ra_P G sh b d M pc L (ra_I z :: .index k :: st) σ Q := by
  subst hz
  exact ra_iaload hd hs hty hn (by omega) (by omega) kk
theorem ra_iastoreJ {k ty n j : Nat} {z v : Int} (hd : (ri_co M)[pc]? = some (some (.iastore, 1))) (hs : sh[k]? = some (.inr (ty, n, false, none))) (hty : (ri_aty G)[ty]? = some .int) (hn : n ≤ 2147483647) (hz : z = (j : Int)) (h1 : j < n) (kk : ra_P G sh b d M (pc + 1) L st (ra_up σ k j v) Q) : ra_P G sh b d M pc L (ra_I v :: ra_I z :: .index k :: st) σ Q := by
  subst hz
  exact ra_iastore hd hs hty hn (by omega) (by omega) kk
theorem ra_in_tdiv {x y : Int} (hx : ra_in x) (hy : 1 ≤ y) : ra_in (x.tdiv y) := by
  have h1 := Int.natAbs_tdiv_le_natAbs x y
  have h2 : 0 ≤ x → 0 ≤ x.tdiv y := fun h => Int.tdiv_nonneg h (by omega)
  have h3 : x ≤ 0 → x.tdiv y ≤ 0 := fun h => by
    have := Int.tdiv_nonneg (a := -x) (b := y) (by omega) (by omega)
    rw [Int.neg_tdiv] at this
    omega
  unfold ra_in at *
  omega
/-- a row written -/
theorem ra_newR {k j : Nat} {z : Int} (hz : ra_in z) (kk : ∀ s, Fr k (k + 1) σ s → ra_g s k j = z → (∀ a, a ≠ j → ra_g s k a = ra_g σ k a) → ra_P G sh b d M pc L st s Q) : ra_P G sh b d M pc L st (ra_up σ k j z) Q := ra_newU hz kk
section
variable {S : ra_V → Prop} {P : Int → Prop}
theorem ra_cIP (hC : ra_C G sh 0 d mi args σ (fun r s => (∃ z, ra_in z ∧ P z ∧ r = .inl (some (ra_I z))) ∧ S s)) (hd : (ri_co M)[pc]? = some (some (i, 3))) (ht : ra_ct G sh M i st args rest mi) (k : ∀ z s, ra_in z → P z → S s → ra_P G sh b d M (pc + 3) L (ra_I z :: rest) s Q) : ra_P G sh b d M pc L st σ Q :=
  ra_callA hC hd ht (fun E s h => by obtain ⟨⟨z, -, -, e⟩, -⟩ := h; cases e) (fun t s h => by obtain ⟨⟨z, hz, hp, e⟩, hs⟩ := h; cases e; exact k z s hz hp hs)
theorem ra_cIPp (hC : ra_C G sh 0 d mi args σ (fun r s => (∃ z, ra_in z ∧ P z ∧ r = .inl (some (ra_I z))) ∧ s = σ)) (hd : (ri_co M)[pc]? = some (some (i, 3))) (ht : ra_ct G sh M i st args rest mi) (k : ∀ z, ra_in z → P z → ra_P G sh b d M (pc + 3) L (ra_I z :: rest) σ Q) : ra_P G sh b d M pc L st σ Q :=
  ra_cIP (S := fun s => s = σ) hC hd ht (fun z s hz hp hs => by rw [hs]; exact k z hz hp)
theorem ra_cQP (hC : ra_C G sh 0 d mi args σ (fun r s => (∃ z : Int, (z = 0 ∨ z = 1) ∧ P z ∧ r = .inl (some (ra_I z))) ∧ S s)) (hd : (ri_co M)[pc]? = some (some (i, 3))) (ht : ra_ct G sh M i st args rest mi) (k : ∀ (z : Int) s, (z = 0 ∨ z = 1) → P z → S s → ra_P G sh b d M (pc + 3) L (ra_I z :: rest) s Q) : ra_P G sh b d M pc L st σ Q :=
  ra_callA hC hd ht (fun E s h => by obtain ⟨⟨z, -, -, e⟩, -⟩ := h; cases e) (fun t s h => by obtain ⟨⟨z, hz, hp, e⟩, hs⟩ := h; cases e; exact k z s hz hp hs)
theorem ra_cQPp (hC : ra_C G sh 0 d mi args σ (fun r s => (∃ z : Int, (z = 0 ∨ z = 1) ∧ P z ∧ r = .inl (some (ra_I z))) ∧ s = σ)) (hd : (ri_co M)[pc]? = some (some (i, 3))) (ht : ra_ct G sh M i st args rest mi) (k : ∀ (z : Int), (z = 0 ∨ z = 1) → P z → ra_P G sh b d M (pc + 3) L (ra_I z :: rest) σ Q) : ra_P G sh b d M pc L st σ Q :=
  ra_cQP (S := fun s => s = σ) hC hd ht (fun z s hz hp hs => by rw [hs]; exact k z hz hp)
end
end RA10
end RA
