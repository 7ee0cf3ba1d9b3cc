/-! T5: small bounds *-/
section
section
variable {τ : ra_V} {x y z : Int} {k : Nat}
theorem x5mul_b (h : 0 ≤ x ∧ x ≤ 600) (h2 : 0 ≤ y ∧ y ≤ 16) : 0 ≤ x * y ∧ x * y ≤ 9600 := by
  have h1 := Int.mul_nonneg h.1 h2.1
  have h3 : x * y ≤ 600 * 16 := Int.mul_le_mul h.2 h2.2 h2.1 (by omega)
  omega
theorem x5sms_i {m c d a : Int} (h : k ≤ 600) : ra_in (x5sms m c d a k) := by
  have := x5sms_b (m := m) (c := c) (d := d) (a := a) k
  unfold ra_in
  omega
theorem x5lf_old {σ : ra_V} {p : Int} (hW : WF σ) (hp : 0 ≤ p ∧ p < 8 ∧ wq σ p 0 = 1) (h : x5LST (fun k => x5whyM σ p k (ra_g σ 180 4) = 0) 0 (wq σ p 1) z) : z = -1 ∨ (0 ≤ z ∧ z ≤ 600 ∧ MOK σ p z) := by
  have ha := WF_a hW
  unfold WFa at ha
  have hq := WF_p hW hp.1 hp.2.1 hp.2.2
  rcases h with ⟨h, -⟩ | ⟨h1, h2, h3, -⟩
  · exact Or.inl h
  · exact Or.inr ⟨h1, by omega, x5whyM_old h3⟩
theorem x5slf_i {σ : ra_V} (hm : MF σ) : ra_in (x5SLF σ) := by
  unfold MF at hm
  have h1 := x5sms_b (m := msz σ) (c := ra_g σ 180 19) (d := rds σ) (a := ra_g σ 180 21) (rch σ - ra_g σ 180 21).toNat
  have h2 := x5sms_b (m := msz σ) (c := ra_g σ 180 19) (d := rds σ) (a := 0) (rch σ - ra_g σ 180 21).toNat
  unfold x5SLF ra_in
  split <;> omega
theorem x5slp {σ : ra_V} : ∀ n : Nat, n = (x5SLF σ).toNat → 0 ≤ x5SLF σ → (n : Int) = x5SLF σ := fun n h h0 => by omega
theorem x5ord_k {s σ : ra_V} (h : s 180 = σ 180) : x5ordN s k = x5ordN σ k := by
  have e : ∀ c, x5nbF s c = x5nbF σ c := fun c => by
    have q : NB s c 8 = NB σ c 8 := funext fun z => (show NB (fun _ => s 180) c 8 z = NB (fun _ => σ 180) c 8 z by rw [h])
    unfold x5nbF
    rw [q]
  induction k with
  | zero => exact e (-1)
  | succ k ih =>
    show (if x5ordN s k = -1 then -1 else x5nbF s (wq s (x5ordN s k) 1)) = (if x5ordN σ k = -1 then -1 else x5nbF σ (wq σ (x5ordN σ k) 1))
    rw [ih, wq_k h, e]
noncomputable def x5dcCp (τ : ra_V) : Int := x5cif (ra_g τ 180 16 ≠ -1) 1 0
end
end
