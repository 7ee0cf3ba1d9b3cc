/-! T5: what holds of the table between two calls: undo, save, restore, load -/
section
section
variable {σ s t τ υ ρ : ra_V} {c n z : Int} {R : Nat → ra_V} {o : Sum (Int × Nat) (Nat → Int)}
theorem x5trl_u (h : x5TRL σ) (hu : (0 < ra_g σ 179 5 → x5CT (rowV σ 184 (688 * (ra_g σ 179 5 - 1).toNat)) s 1 ∧ x5HQ (ra_g σ 179 5 - 1) (fun i => rowV σ 184 (688 * i)) s) ∧ (¬ 0 < ra_g σ 179 5 → s = σ) ∧ (∀ c : Nat, (c = 0 ∨ (27 ≤ c ∧ c < 40) ∨ 175 ≤ c) → s c = σ c))
    (hr : (0 < ra_g s 179 5 → x5FS (rowV s 184 (688 * (ra_g s 179 5 - 1).toNat)) t ∧ ra_g t 179 5 = ra_g s 179 5 - 1 ∧ t 184 = s 184) ∧ (¬ 0 < ra_g s 179 5 → t 180 = s 180 ∧ ra_g t 179 5 = ra_g s 179 5 ∧ t 184 = s 184)) (hW : WF t) (ht : ∀ k : Nat, k < 179 → t k = s k) (h183 : t 183 = s 183) (h6 : ra_g t 179 6 = ra_g s 179 6) : x5TRL t := by
  obtain ⟨u1, u2, u3⟩ := hu
  have s180 : s 180 = σ 180 := u3 180 (by omega)
  have s184 : s 184 = σ 184 := u3 184 (by omega)
  have s179 : s 179 = σ 179 := u3 179 (by omega)
  have s5 : ra_g s 179 5 = ra_g σ 179 5 := ra_gk s179
  have hs : x5SAV t := x5sav_k h.2.2.1 (ra_gk ((ht 0 (by omega)).trans (u3 0 (by omega)))) (fun c c1 c2 => (ht c (by omega)).trans (u3 c (by omega))) (h183.trans (u3 183 (by omega))) (h6.trans (ra_gk s179))
  by_cases p : 0 < ra_g σ 179 5
  · obtain ⟨f1, f2, f3⟩ := hr.1 (by omega)
    obtain ⟨g1, g2⟩ := u1 p
    rw [s5, x5rowV_e s184] at f1
    refine x5trl_i (x5CT_d (fun c c1 c2 => ht c (by omega)) g1) (x5FS_sc f1) hW (x5hq_last h.2.2.2 p).2.2 hs (x5hq_k (fun c c1 c2 => ht c (by omega)) g2) (f2.trans (by omega)) (fun i hi => ?_)
    rw [x5rowV_e (f3.trans s184)]
    exact SC_rf
  · obtain ⟨f1, f2, f3⟩ := hr.2 (by omega)
    have es := u2 p
    exact x5trl_k h (fun c c1 c2 => (ht c (by omega)).trans (by rw [es])) (SC_k (f1.trans s180)) hW (h183.trans (u3 183 (by omega))) (f3.trans s184) (f2.trans s5) (h6.trans (ra_gk s179))
theorem x5trl_s (h : x5TRL σ) (hT : x5CT σ s 27) (h1 : ra_g s 0 3 = 1) (hk : ∀ c : Nat, c ≠ 0 → (c < 27 ∨ 40 ≤ c) → s c = σ c) (hF : x5FS s (rowV t 183 0)) (h6 : ra_g t 179 6 = 1) (h5 : ra_g t 179 5 = ra_g s 179 5) (h180 : t 180 = s 180) (h184 : t 184 = s 184) (ht : ∀ k : Nat, k < 179 → t k = s k) : x5TRL t := by
  obtain ⟨a1, a2, a3, a4⟩ := h
  have s180 : s 180 = σ 180 := hk 180 (by omega) (by omega)
  have s184 : s 184 = σ 184 := hk 184 (by omega) (by omega)
  have s179 : s 179 = σ 179 := hk 179 (by omega) (by omega)
  have hS : SC σ (rowV t 183 0) := SC_tr (SC_k s180) (x5FS_sc hF)
  refine x5trl_i (x5CT_d (fun c c1 c2 => (ht c (by omega)).trans (hk c (by omega) (by omega))) a1) (SC_k (h180.trans s180)) (WF_sc (SC_k (h180.trans s180)) a2.1) a2.2 ⟨?_, fun _ => ⟨?_, x5W2_sc hS a2⟩⟩ (x5hq_k (fun c c1 c2 => (ht c (by omega)).trans (hk c (by omega) (by omega))) a4) (h5.trans (ra_gk s179)) (fun i hi => ?_)
  · rw [ra_gk (ht 0 (by omega)), h1, h6]
  · exact x5CT_sc hS a2.1 (x5CT_d (fun c c1 c2 => ht c (by omega)) hT)
  · rw [x5rowV_e (h184.trans s184)]
    exact SC_rf
theorem x5trl_r (h : x5TRL σ) (hk : ∀ c : Nat, (c = 0 ∨ (27 ≤ c ∧ c < 40) ∨ 175 ≤ c) → s c = σ c) (hc : (ra_g σ 0 3 ≠ 0 ∧ x5CT (rowV σ 183 0) s 1 ∧ ∀ R2, x5HQ 0 R2 s) ∨ (ra_g σ 0 3 = 0 ∧ s = σ))
    (hr : (ra_g s 179 6 = 0 → t 180 = s 180 ∧ ra_g t 179 5 = ra_g s 179 5 ∧ t 184 = s 184) ∧ (ra_g s 179 6 ≠ 0 → x5FS (rowV s 183 0) t ∧ ra_g t 179 5 = 0 ∧ t 184 = s 184)) (hW : WF t) (ht : ∀ k : Nat, k < 179 → t k = s k) (h183 : t 183 = s 183) (h6 : ra_g t 179 6 = ra_g s 179 6) : x5TRL t := by
  have s180 : s 180 = σ 180 := hk 180 (by omega)
  have s183 : s 183 = σ 183 := hk 183 (by omega)
  have s184 : s 184 = σ 184 := hk 184 (by omega)
  have s179 : s 179 = σ 179 := hk 179 (by omega)
  have s6 : ra_g s 179 6 = ra_g σ 179 6 := ra_gk s179
  have hv := h.2.2.1
  have hs : x5SAV t := x5sav_k hv (ra_gk ((ht 0 (by omega)).trans (hk 0 (by omega)))) (fun c c1 c2 => (ht c (by omega)).trans (hk c (by omega))) (h183.trans s183) (h6.trans s6)
  rcases hc with ⟨q, hT, hH⟩ | ⟨q, es⟩
  · have q6 := hv.1.mp q
    obtain ⟨f1, f2, f3⟩ := hr.2 (by omega)
    rw [x5rowV_e s183] at f1
    exact x5trl_i (n := 0) (R := fun i => rowV t 184 (688 * i)) (x5CT_d (fun c c1 c2 => ht c (by omega)) hT) (x5FS_sc f1) hW (hv.2 q).2.2 hs (x5hq_k (fun c c1 c2 => ht c (by omega)) (hH _)) f2 (fun i hi => SC_rf)
  · have q6 : ra_g σ 179 6 = 0 := by
      by_cases e : ra_g σ 179 6 = 0
      · exact e
      · exact absurd q (hv.1.mpr e)
    obtain ⟨f1, f2, f3⟩ := hr.1 (by omega)
    exact x5trl_k h (fun c c1 c2 => (ht c (by omega)).trans (by rw [es])) (SC_k (f1.trans s180)) hW (h183.trans s183) (f3.trans s184) (f2.trans (ra_gk s179)) (h6.trans s6)
/-- a text read -/
theorem x5trl_l (h : x5TRL σ) (h27 : ∀ c : Nat, 27 ≤ c → c < 40 → s c = σ c) (c1 : ∀ r, o = .inr r → ∀ τ, SC (x5rT r) τ → x5W2 τ → x5CT τ s 1) (c2 : ∀ r, o = .inr r → (∀ R2, x5HQ 0 R2 s) ∧ ra_g s 0 3 = 0) (c3 : ∀ u, o = .inl u → ∀ c : Nat, (c < 14 ∨ (27 ≤ c ∧ c < 172)) → s c = σ c) (hk : ∀ c : Nat, 179 ≤ c → s c = σ c)
    (r1 : ∀ r, o = .inr r → SC (x5rT r) t ∧ ra_g t 179 5 = 0 ∧ ra_g t 179 6 = 0 ∧ x5W3 t) (r2 : ∀ u, o = .inl u → SC s t ∧ ra_g t 179 5 = ra_g s 179 5 ∧ ra_g t 179 6 = ra_g s 179 6 ∧ t 184 = s 184) (hW : WF t) (ht : ∀ k : Nat, k < 179 → t k = s k) (h183 : t 183 = s 183) : x5TRL t := by
  match o, c1, c2, c3, r1, r2 with
  | .inr r, c1, c2, c3, r1, r2 =>
    obtain ⟨q1, q2, q3, hW3⟩ := r1 r rfl
    obtain ⟨d1, d2⟩ := c2 r rfl
    have d3 : ra_g t 0 3 = 0 := (ra_gk (ht 0 (by omega))).trans d2
    exact x5trl_i (n := 0) (R := fun i => rowV t 184 (688 * i)) (x5CT_d (fun c c1 c2 => ht c (by omega)) (c1 r rfl t q1 ⟨hW, hW3⟩)) SC_rf hW hW3 ⟨iff_of_false (fun q => q d3) (fun q => q q3), fun q => absurd d3 q⟩ (x5hq_k (fun c c1 c2 => ht c (by omega)) (d1 _)) q2 (fun i hi => SC_rf)
  | .inl u, c1, c2, c3, r1, r2 =>
    obtain ⟨q1, q2, q3, q4⟩ := r2 u rfl
    have s179 : s 179 = σ 179 := hk 179 (by omega)
    have e := c3 u rfl
    obtain ⟨a1, a2, a3, a4⟩ := h
    refine x5trl_i (x5CT_d (fun c c1 c2 => (ht c (by omega)).trans (e c (by omega))) a1) (SC_tr (SC_k (hk 180 (by omega))) q1) hW a2.2 (x5sav_k a3 (ra_gk ((ht 0 (by omega)).trans (e 0 (by omega)))) (fun c c1 c2 => (ht c (by omega)).trans (h27 c c1 c2)) (h183.trans (hk 183 (by omega))) (q3.trans (ra_gk s179))) (x5hq_k (fun c c1 c2 => (ht c (by omega)).trans (e c (by omega))) a4) (q2.trans (ra_gk s179)) (fun i hi => ?_)
    rw [x5rowV_e (q4.trans (hk 184 (by omega)))]
    exact SC_rf
end
end
