/-! T5: rows between two changes keep to what a row keeps to; joined, made smaller -/
section
section
variable {σ s t τ υ μ ρ : ra_V} {D p q j w : Nat} {a m x y z v k mn to sc i n : Int}
theorem x5w3_k (h : x5W3 τ) (hl : ∀ p, 0 ≤ p → p < 8 → wq υ p 5 = 0 ∨ wq υ p 5 = 1) (h6 : ra_g υ 180 16 = ra_g τ 180 16) (hr : ∀ j : Nat, 17 ≤ j → j ≤ 22 → ra_g υ 180 j = ra_g τ 180 j) (hz : ra_g τ 180 16 ≠ -1 → msz υ = msz τ) : x5W3 υ := by
  refine ⟨hl, fun a b => ?_⟩
  rw [h6] at a
  rw [hr 22 (by omega) (by omega)] at b
  have ez := hz a
  have ec : rch υ = rch τ := by unfold rch; rw [ez, hr 19 (by omega) (by omega)]
  have en : rnx υ = rnx τ := by unfold rnx; rw [ec, hr 18 (by omega) (by omega), hr 17 (by omega) (by omega), hr 21 (by omega) (by omega)]
  have ef : rfb υ = rfb τ := by unfold rfb; rw [en, hr 19 (by omega) (by omega)]
  have eb : rbn υ = rbn τ := by unfold rbn; rw [ez, ef, hr 19 (by omega) (by omega)]
  have ed : rds υ = rds τ := by unfold rds; rw [hr 17 (by omega) (by omega), hr 18 (by omega) (by omega)]
  rw [eb, ed]
  exact h.2 a b
/-- one number of a partition changes: not its lock, and its size only if it isn't moved -/
theorem x5w3_up (hW : x5W2 τ) (hp : x5EX τ x) (hw : w ≤ 7) (hj : j = (24 + 8 * x + (w : Int)).toNat) (h5 : w = 5 → v = 0 ∨ v = 1) (h2 : w = 2 → ra_g τ 180 16 ≠ x) : x5W3 (x5up τ j v) := by
  obtain ⟨p0, p1, p2⟩ := hp
  subst hj
  have ha := WF_a hW.1
  unfold WFa at ha
  refine x5w3_k hW.2 (fun p q0 q1 => ?_) (x5uo_n (by omega)) (fun j j1 j2 => x5uo_n (by omega)) (fun hn => ?_)
  · by_cases c : (24 + 8 * p + 5).toNat = (24 + 8 * x + (w : Int)).toNat
    · have hv := h5 (by omega)
      rw [x5up_wy (by unfold ra_in; omega) c]
      exact hv
    · rw [x5up_wn c]; exact hW.2.1 p q0 q1
  · unfold msz
    rw [x5uo_n (by omega)]
    refine x5up_wn (fun q => ?_)
    have := h2 (by omega)
    omega
theorem x5w2_sz (hW : x5W2 τ) (hp : x5EX τ x) (hm : ra_g τ 180 16 ≠ x) (hs : wq τ x 3 ≤ m ∧ m ≤ wq τ x 2) (hj : j = (24 + 8 * x + 2).toNat) : x5W2 (x5up τ j m) := by
  have hp0 := hp
  obtain ⟨p0, p1, p2⟩ := hp
  have hq := WF_p hW.1 p0 p1 p2
  have ha := WF_a hW.1
  unfold WFa at ha
  have im : ra_in m := by unfold ra_in; omega
  refine ⟨WF_rsz (p := x) (m := m) hW.1 hp0 hm ⟨x5up_wy im hj.symm, fun a _ hn => x5uo_n (by omega)⟩ ⟨hs.1, ?_, ?_, ?_⟩, x5w3_up (w := 2) hW hp0 (by omega) hj (fun q => absurd q (by decide)) (fun _ => hm)⟩
  · have := us_self hW.1 hp0
    unfold US at *
    omega
  · rintro ⟨q, q0, q1, q2, q3, q4, q5⟩
    exact tk_self hW.1 hp0 ⟨q, q0, q1, q2, q3, q4, by omega⟩
  · rintro ⟨b1, b2, b3, b4⟩
    omega
theorem x5w2_rm (hW : x5W2 τ) (hp : x5EX τ x) (hm : ra_g τ 180 16 ≠ x) (hj : j = (24 + 8 * x + 0).toNat) : x5W2 (x5up τ j 0) := by
  have hp0 := hp
  obtain ⟨p0, p1, p2⟩ := hp
  have i0 : ra_in 0 := by unfold ra_in; omega
  exact ⟨WF_chg (p := x) hW.1 ⟨p0, p1⟩ (fun a ha hn => x5uo_n (by omega)) hm (Or.inl (x5up_wy i0 hj.symm)), x5w3_up (w := 0) hW hp0 (by omega) hj (fun q => absurd q (by decide)) (fun q => absurd q (by decide))⟩
theorem x5fre_sz (h : ∃ q, 0 ≤ q ∧ q < 8 ∧ wq τ q 0 ≠ 1) (hp : x5EX τ x) : ∃ q, 0 ≤ q ∧ q < 8 ∧ wq (x5up τ (24 + 8 * x + 2).toNat m) q 0 ≠ 1 := by
  obtain ⟨q, q0, q1, q2⟩ := h
  have := hp.1
  exact ⟨q, q0, q1, by rw [x5up_wn (by omega)]; exact q2⟩
/-! joined -/
theorem x5jq_a (hW : WF τ) (hp : x5EX τ x) (h : NB τ (wq τ x 1) 8 (-1)) : ¬ ∃ q, x5CJ2 τ x q := by
  rintro ⟨q, ⟨q0, q1, q2, q3⟩, -⟩
  have hq := WF_p hW hp.1 hp.2.1 hp.2.2
  exact (h.2 q q0 q1 q2 (by omega)).1 rfl
theorem x5jq_b (hW : WF τ) (hp : x5EX τ x) (h : NB τ (wq τ x 1) 8 y) (hy : 0 ≤ y) (hn : wq τ y 1 ≠ wq τ x 1 + wq τ x 2) : ¬ ∃ q, x5CJ2 τ x q := by
  rintro ⟨q, ⟨q0, q1, q2, q3⟩, -⟩
  have hq := WF_p hW hp.1 hp.2.1 hp.2.2
  obtain ⟨y0, y1, y2, y3⟩ := h.1.resolve_left (by omega)
  have h2 := (h.2 q q0 q1 q2 (by omega)).2
  have hv := WF_p hW y0 y1 y2
  have ha := WF_ap hW hp.1 hp.2.1 y0 y1 (fun e => by rw [e] at y3; omega) hp.2.2 y2
  omega
theorem x5jq_c (hW : WF τ) (hp : x5EX τ x) (h : NB τ (wq τ x 1) 8 y) (hy : 0 ≤ y) (hn : wq τ y 1 = wq τ x 1 + wq τ x 2) (hb : wq τ y 4 ≠ wq τ x 4 ∨ x5FX τ x ∨ x5FX τ y) : ¬ ∃ q, x5CJ2 τ x q := by
  rintro ⟨q, ⟨q0, q1, q2, q3⟩, q4, q5, q6⟩
  obtain ⟨y0, y1, y2, y3⟩ := h.1.resolve_left (by omega)
  have e : q = y := by
    by_cases e : q = y
    · exact e
    · have ha := WF_ap hW q0 q1 y0 y1 e q2 y2
      have h1 := WF_p hW q0 q1 q2
      have h2 := WF_p hW y0 y1 y2
      omega
  subst e
  rcases hb with hb | hb | hb
  · exact hb q4
  · exact q5 hb
  · exact q6 hb
/-! all made smaller -/
theorem x5shl_in : ∀ k : Nat, ra_in (x5shL k τ)
  | 0 => by show ra_in 0; unfold ra_in; omega
  | k + 1 => ra_w_in _
theorem x5shl_y (h : x5frP (x5shV q τ) q) : x5shL (q + 1) τ = ra_w (x5shL q τ + (wq (x5shV q τ) q 2 - wq (x5shV q τ) q 3)) := by
  show ra_w (x5shL q τ + x5cif _ _ _) = _
  rw [x5cif_y h]
theorem x5shl_n (h : ¬ x5frP (x5shV q τ) q) : x5shL (q + 1) τ = x5shL q τ := by
  show ra_w (x5shL q τ + x5cif _ _ _) = _
  rw [x5cif_n h, Int.add_zero]
  exact ra_w_id (x5shl_in q)
end
end
