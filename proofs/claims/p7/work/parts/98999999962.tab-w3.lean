/-! T5: the row behind a call: locks, a chunk in the scratch area (x5W3) -/
section
section
variable {σ s t τ υ : ra_V} {j w : Nat} {a b k m mn v x y z to : Int} {P : Prop}
theorem x5q3_0 (h : x5cif P a b = 0) (ha : a ≠ 0) : ¬ P ∧ b = 0 := by
  by_cases c : P
  · rw [x5cif_y c] at h; exact absurd h ha
  · rw [x5cif_n c] at h; exact ⟨c, h⟩
theorem x5q3_low (hW : x5W3 τ) (hb : -1 ≤ ra_g τ 180 16) (hj : j ≤ 15) : x5W3 (x5up τ j v) := by
  refine x5w3_k hW (fun p p0 p8 => ?_) (x5uo_n (by omega)) (fun i i1 i2 => x5uo_n (by omega)) (fun hn => ?_)
  · rw [x5up_wn (by omega)]; exact hW.1 p p0 p8
  · unfold msz
    rw [x5uo_n (by omega)]
    exact x5up_wn (by omega)
theorem x5q3_nfr (h : ∃ q, 0 ≤ q ∧ q < 8 ∧ wq τ q 0 ≠ 1) : 0 ≤ x5nfr τ ∧ x5nfr τ < 8 ∧ wq τ (x5nfr τ) 0 ≠ 1 := by
  obtain ⟨q, q0, q8, qq⟩ := h
  have hq : q = 0 ∨ q = 1 ∨ q = 2 ∨ q = 3 ∨ q = 4 ∨ q = 5 ∨ q = 6 ∨ q = 7 := by omega
  unfold x5nfr
  by_cases c0 : wq τ 0 0 ≠ 1
  · rw [if_pos c0]; exact ⟨by omega, by omega, c0⟩
  rw [if_neg c0]
  by_cases c1 : wq τ 1 0 ≠ 1
  · rw [if_pos c1]; exact ⟨by omega, by omega, c1⟩
  rw [if_neg c1]
  by_cases c2 : wq τ 2 0 ≠ 1
  · rw [if_pos c2]; exact ⟨by omega, by omega, c2⟩
  rw [if_neg c2]
  by_cases c3 : wq τ 3 0 ≠ 1
  · rw [if_pos c3]; exact ⟨by omega, by omega, c3⟩
  rw [if_neg c3]
  by_cases c4 : wq τ 4 0 ≠ 1
  · rw [if_pos c4]; exact ⟨by omega, by omega, c4⟩
  rw [if_neg c4]
  by_cases c5 : wq τ 5 0 ≠ 1
  · rw [if_pos c5]; exact ⟨by omega, by omega, c5⟩
  rw [if_neg c5]
  by_cases c6 : wq τ 6 0 ≠ 1
  · rw [if_pos c6]; exact ⟨by omega, by omega, c6⟩
  rw [if_neg c6]
  by_cases c7 : wq τ 7 0 ≠ 1
  · rw [if_pos c7]; exact ⟨by omega, by omega, c7⟩
  rcases hq with rfl | rfl | rfl | rfl | rfl | rfl | rfl | rfl
  · exact absurd qq c0
  · exact absurd qq c1
  · exact absurd qq c2
  · exact absurd qq c3
  · exact absurd qq c4
  · exact absurd qq c5
  · exact absurd qq c6
  · exact absurd qq c7
theorem x5q3_mk (hW : x5W2 τ) (z0 : 0 ≤ z) (z8 : z < 8) (hz : wq τ z 0 ≠ 1) (ha : ra_in a) (hm : ra_in m) (hk : ra_in k) (hn : ra_in mn) : x5W3 (x5mkV τ z a m k mn) := by
  have h5 := (x5mk_w (τ := τ) z0 ha hm hk hn).2.2.2.2.2.1
  refine x5w3_k hW.2 (fun p p0 p8 => ?_) (x5mk_o (by omega) (fun i hi => by omega)) (fun i i1 i2 => x5mk_o (by omega) (fun i hi => by omega)) (fun hon => ?_)
  · by_cases c : p = z
    · rw [c]; exact Or.inl h5
    · rw [x5mk_q c p0 z0 (by omega) (by omega)]; exact hW.2.1 p p0 p8
  · have hf := MV_f hW.1 hon
    have e16 : ra_g (x5mkV τ z a m k mn) 180 16 = ra_g τ 180 16 := x5mk_o (by omega) (fun i hi => by omega)
    unfold msz
    rw [e16]
    refine x5mk_q (fun e => ?_) (by unfold MF at hf; omega) z0 (by omega) (by omega)
    rw [← e] at hz
    unfold MF at hf
    omega
theorem x5q3_lk (hW : x5W2 τ) (hc : x5dcLk τ x = 0) (hv : v = 0 ∨ v = 1) : x5W3 (x5up τ (24 + 8 * x + 5).toNat v) := by
  obtain ⟨h1, -⟩ := x5q3_0 hc (by decide)
  exact x5w3_up (w := 5) hW (Classical.byContradiction h1) (by omega) rfl (fun _ => hv) (fun q => absurd q (by decide))
theorem x5q3_mn (hW : x5W2 τ) (hc : x5dcMn τ x m = 0) : x5W3 (x5up τ (24 + 8 * x + 3).toNat m) := by
  obtain ⟨h1, -⟩ := x5q3_0 hc (by decide)
  exact x5w3_up (w := 3) hW (Classical.byContradiction h1) (by omega) rfl (fun q => absurd q (by decide)) (fun q => absurd q (by decide))
theorem x5q3_rz (hW : x5W2 τ) (hc : x5dcRz τ x m = 0) : x5W3 (x5up τ (24 + 8 * x + 2).toNat m) := by
  obtain ⟨h1, h2⟩ := x5q3_0 hc (by decide)
  obtain ⟨h3, -⟩ := x5q3_0 h2 (by decide)
  have h4 := x5whyR_old (σ := τ) (p := x) (m := m) (Classical.byContradiction h3)
  exact x5w3_up (w := 2) hW (Classical.byContradiction h1) (by omega) rfl (fun q => absurd q (by decide)) (fun _ => h4.2.1)
theorem x5q3_rm (hW : x5W2 τ) (hc : x5dcRm τ x = 0) : x5W3 (x5up τ (24 + 8 * x + 0).toNat 0) := by
  obtain ⟨h1, h2⟩ := x5q3_0 hc (by decide)
  obtain ⟨h3, -⟩ := x5q3_0 h2 (by decide)
  exact (x5w2_rm hW (Classical.byContradiction h1) (fun q => h3 (Or.inr q)) rfl).2
theorem x5q3_bg (hW : x5W2 τ) (hc : x5dcBg τ x to = 0) : x5W3 (x5bgV τ x to) := by
  obtain ⟨h1, h2⟩ := x5q3_0 hc (by decide)
  obtain ⟨h3, -⟩ := x5q3_0 h2 (by decide)
  exact (x5w2_bg hW (Classical.byContradiction h1) (Classical.byContradiction h3)).1.2
theorem x5q3_add (hW : x5W2 τ) (hc : x5dcAdd τ a m k mn = 0) (ha : ra_in a) (hm : ra_in m) (hk : ra_in k) (hn : ra_in mn) : x5W3 (x5mkV τ (x5nfr τ) a m k mn) := by
  obtain ⟨-, h2⟩ := x5q3_0 hc (by decide)
  obtain ⟨-, h3⟩ := x5q3_0 h2 (by decide)
  obtain ⟨h4, -⟩ := x5q3_0 h3 (by decide)
  obtain ⟨n0, n8, nn⟩ := x5q3_nfr (x5full_n hW.1 h4)
  exact x5q3_mk hW n0 n8 nn ha hm hk hn
theorem x5q3_ab {r : Int} (hW : x5W2 τ) (hc : x5dcAb τ m k mn r = 0) (ha : ra_in (x5fitF τ m r)) (hm : ra_in m) (hk : ra_in k) (hn : ra_in mn) : x5W3 (x5mkV τ (x5nfr τ) (x5fitF τ m r) m k mn) := by
  obtain ⟨-, h2⟩ := x5q3_0 hc (by decide)
  obtain ⟨-, h3⟩ := x5q3_0 h2 (by decide)
  obtain ⟨h4, -⟩ := x5q3_0 h3 (by decide)
  obtain ⟨n0, n8, nn⟩ := x5q3_nfr (x5full_n hW.1 h4)
  exact x5q3_mk hW n0 n8 nn ha hm hk hn
theorem x5q3_16 (hW : x5W2 τ) : -1 ≤ ra_g τ 180 16 := by
  have ha := WF_a hW.1
  unfold WFa at ha
  omega
theorem x5q3_tr (hW : x5W2 τ) : x5W3 (x5up τ 7 v) := x5q3_low hW.2 (x5q3_16 hW) (by omega)
theorem x5q3_set (hW : x5W2 τ) (hc : x5dcSet x v = 0) : x5W3 (x5up τ x.toNat v) := by
  obtain ⟨h1, -⟩ := x5q3_0 hc (by decide)
  exact x5q3_low hW.2 (x5q3_16 hW) (by omega)
theorem x5q3_tb (hW : x5W2 τ) (hc : x5dcTb τ = 0) : x5W3 (x5tbV τ) := by
  obtain ⟨h1, h2⟩ := x5q3_0 hc (by decide)
  obtain ⟨h3, -⟩ := x5q3_0 h2 (by decide)
  have hf := MV_f hW.1 h1
  unfold MF at hf
  have f0 := hf.1.1
  clear hf
  by_cases c : ra_g τ 180 21 = 0
  · have e : x5tbV τ = x5up τ 16 (-1) := if_pos c
    rw [e]
    refine ⟨fun p p0 p8 => ?_, fun q => absurd (x5up_i (by unfold ra_in; omega)) q⟩
    rw [x5up_wn (by omega)]; exact hW.2.1 p p0 p8
  · have e : x5tbV τ = x5up (x5up (x5up (x5up τ 21 (rch τ - ra_g τ 180 21)) 17 (ra_g τ 180 18)) 18 (ra_g τ 180 17)) (24 + 8 * ra_g τ 180 16 + 1).toNat (ra_g τ 180 18) := if_neg c
    rw [e]
    refine ⟨fun p p0 p8 => ?_, fun _ q => ?_⟩
    · rw [x5up_wn (by omega), x5up_wn (by omega), x5up_wn (by omega), x5up_wn (by omega)]; exact hW.2.1 p p0 p8
    · rw [x5uo_n (by omega), x5uo_n (by omega), x5uo_n (by omega), x5uo_n (by omega)] at q
      exact absurd q h3
end
end
