/-! T5: the reference lays its gaps: exactly *-/
section
section
variable {σ s s1 s2 s3 s4 t τ : ra_V} {x v k n g : Int} {st sz st2 sz2 : Int → Int}
theorem x5fre_old (h : x5FRE σ x) : US σ x 1 ∧ ¬ TK σ x 1 (-1) ∧ ¬ BT σ x 1 := ⟨h.1, h.2.1, fun q => h.2.2 ⟨q.1, q.2.1, Or.inl ⟨q.2.2.1, q.2.2.2⟩⟩⟩
theorem x5fre_k (h : s 180 = σ 180) : x5FRE s x = x5FRE σ x := show x5FRE (fun _ => s 180) x = x5FRE (fun _ => σ 180) x by rw [h]
def x5GJ (σ : ra_V) (n : Int) (st sz : Int → Int) (v k : Int) : Prop :=
  0 ≤ n ∧ (∀ g, 0 ≤ g → g < n → 1 ≤ sz g ∧ (∀ x, st g ≤ x → x < st g + sz g → x5FRE σ x) ∧ ¬ x5FRE σ (st g - 1) ∧ st g + sz g ≤ k ∧ (¬ x5FRE σ (st g + sz g) ∨ (g = n - 1 ∧ v = 1))) ∧ (∀ g, 0 ≤ g → g + 1 < n → st g + sz g < st (g + 1)) ∧
  (∀ x, x5FRE σ x → x < k → ∃ g, 0 ≤ g ∧ g < n ∧ st g ≤ x ∧ x < st g + sz g) ∧ (v = 1 → 1 ≤ n ∧ st (n - 1) + sz (n - 1) = k) ∧ (v = 0 → ¬ x5FRE σ (k - 1))
theorem x5gj_0 (hW : WF σ) : x5GJ σ 0 st sz 0 0 := by
  have ha := WF_a hW
  unfold WFa at ha
  refine ⟨Int.le_refl _, fun g a b => by omega, fun g a b => by omega, fun x hx h => ?_, fun q => by omega, fun _ q => ?_⟩
  · have := x5us_1.mp hx.1
    omega
  · have := x5us_1.mp q.1
    omega
theorem x5gj_A (h : x5GJ σ n st sz v k) (hv : v = 0 ∨ v = 1) (hf : ¬ x5FRE σ k) : x5GJ σ n st sz 0 (k + 1) := by
  obtain ⟨h0, h1, h2, h3, h4, h5⟩ := h
  refine ⟨h0, fun g g0 g1 => ?_, h2, fun x hx hl => ?_, fun q => by omega, fun _ => by rw [show k + 1 - 1 = k by omega]; exact hf⟩
  · obtain ⟨a1, a2, a3, a4, a5⟩ := h1 g g0 g1
    refine ⟨a1, a2, a3, by omega, Or.inl ?_⟩
    rcases a5 with a5 | ⟨a5, a6⟩
    · exact a5
    · have := (h4 a6).2
      rw [a5, this]
      exact hf
  · by_cases c : x = k
    · rw [c] at hx; exact absurd hx hf
    · exact h3 x hx (by omega)
theorem x5gj_B (h : x5GJ σ n st sz 0 k) (hf : x5FRE σ k) (hs : ∀ g, 0 ≤ g → g < n → st2 g = st g ∧ sz2 g = sz g) (hn : st2 n = k ∧ sz2 n = 1) : x5GJ σ (n + 1) st2 sz2 1 (k + 1) := by
  obtain ⟨h0, h1, h2, h3, h4, h5⟩ := h
  have h5 := h5 rfl
  refine ⟨by omega, fun g g0 g1 => ?_, fun g g0 g1 => ?_, fun x hx hl => ?_, fun _ => ⟨by omega, ?_⟩, fun q => by omega⟩
  · by_cases c : g = n
    · rw [c, hn.1, hn.2]
      exact ⟨by omega, fun x x0 x1 => by rw [show x = k by omega]; exact hf, h5, by omega, Or.inr ⟨by omega, rfl⟩⟩
    · obtain ⟨e1, e2⟩ := hs g g0 (by omega)
      obtain ⟨a1, a2, a3, a4, a5⟩ := h1 g g0 (by omega)
      rw [e1, e2]
      exact ⟨a1, a2, a3, by omega, Or.inl (a5.resolve_right (fun q => by omega))⟩
  · obtain ⟨e1, e2⟩ := hs g g0 (by omega)
    obtain ⟨a1, a2, a3, a4, a5⟩ := h1 g g0 (by omega)
    by_cases c : g + 1 = n
    · rw [e1, e2, c, hn.1]
      have a5 := a5.resolve_right (fun q => by omega)
      by_cases d : st g + sz g = k
      · rw [d] at a5; exact absurd hf a5
      · omega
    · obtain ⟨e3, -⟩ := hs (g + 1) (by omega) (by omega)
      rw [e1, e2, e3]
      exact h2 g g0 (by omega)
  · by_cases c : x = k
    · exact ⟨n, h0, by omega, by omega, by omega⟩
    · obtain ⟨g, g0, g1, g2, g3⟩ := h3 x hx (by omega)
      obtain ⟨e1, e2⟩ := hs g g0 g1
      exact ⟨g, g0, by omega, by omega, by omega⟩
  · rw [show n + 1 - 1 = n by omega, hn.1, hn.2]
theorem x5gj_C (h : x5GJ σ n st sz 1 k) (hf : x5FRE σ k) (hs : ∀ g, 0 ≤ g → g < n → st2 g = st g) (hs2 : ∀ g, 0 ≤ g → g < n - 1 → sz2 g = sz g) (hn : sz2 (n - 1) = sz (n - 1) + 1) : x5GJ σ n st2 sz2 1 (k + 1) := by
  obtain ⟨h0, h1, h2, h3, h4, h5⟩ := h
  obtain ⟨h4, h6⟩ := h4 rfl
  have el : st2 (n - 1) = st (n - 1) := hs (n - 1) (by omega) (by omega)
  have eb := (h1 (n - 1) (by omega) (by omega)).1
  refine ⟨h0, fun g g0 g1 => ?_, fun g g0 g1 => ?_, fun x hx hl => ?_, fun _ => ⟨h4, by omega⟩, fun q => by omega⟩
  · obtain ⟨a1, a2, a3, a4, a5⟩ := h1 g g0 g1
    by_cases c : g = n - 1
    · subst c
      rw [el, hn]
      refine ⟨by omega, fun x x0 x1 => ?_, a3, by omega, Or.inr ⟨rfl, rfl⟩⟩
      by_cases d : x = k
      · rw [d]; exact hf
      · exact a2 x x0 (by omega)
    · rw [hs g g0 g1, hs2 g g0 (by omega)]
      exact ⟨a1, a2, a3, by omega, Or.inl (a5.resolve_right (fun q => c q.1))⟩
  · rw [hs g g0 (by omega), hs2 g g0 (by omega), hs (g + 1) (by omega) g1]
    exact h2 g g0 g1
  · by_cases c : x = k
    · exact ⟨n - 1, by omega, by omega, by omega, by omega⟩
    · obtain ⟨g, g0, g1, g2, g3⟩ := h3 x hx (by omega)
      by_cases d : g = n - 1
      · subst d
        exact ⟨n - 1, by omega, by omega, by omega, by omega⟩
      · exact ⟨g, g0, g1, by rw [hs g g0 g1]; exact g2, by rw [hs g g0 g1, hs2 g g0 (by omega)]; exact g3⟩
theorem x5gj_E (h : x5GJ σ n st sz v k) (hv : v = 0 ∨ v = 1) (hk : ra_g σ 180 0 - ra_g σ 180 2 ≤ k) : x5GL (x5FRE σ) n st sz := by
  obtain ⟨h0, h1, h2, h3, h4, h5⟩ := h
  refine ⟨fun g g0 g1 => ?_, h2, fun x hx => h3 x hx (by have := x5us_1.mp hx.1; omega)⟩
  obtain ⟨a1, a2, a3, a4, a5⟩ := h1 g g0 g1
  refine ⟨a1, a2, a3, ?_⟩
  rcases a5 with a5 | ⟨a5, a6⟩
  · exact a5
  · rw [a5, (h4 a6).2]
    intro q
    have := x5us_1.mp q.1
    omega
/-- of a state -/
def x5GJr (σ s : ra_V) (v k : Int) : Prop := x5GJ σ (ra_g s 179 10) (fun g => ra_g s 185 g.toNat) (fun g => ra_g s 186 g.toNat) v k
def x5GFR (σ s : ra_V) : Prop := x5GF σ (ra_g s 179 10) (fun g => ra_g s 185 g.toNat) (fun g => ra_g s 186 g.toNat)
theorem x5gjr_B (h : x5GJr σ s 0 k) (hf : x5FRE σ k)
    (f1 : Fr 185 186 s s1) (a1 : ra_g s1 185 (ra_g s 179 10).toNat = k) (b1 : ∀ a, a ≠ (ra_g s 179 10).toNat → ra_g s1 185 a = ra_g s 185 a)
    (f2 : Fr 186 187 s1 s2) (a2 : ra_g s2 186 (ra_g s 179 10).toNat = 0) (b2 : ∀ a, a ≠ (ra_g s 179 10).toNat → ra_g s2 186 a = ra_g s1 186 a)
    (f3 : Fr 179 180 s2 s3) (a3 : ra_g s3 179 10 = ra_g s 179 10 + 1)
    (f4 : Fr 186 187 s3 s4) (a4 : ra_g s4 186 (ra_g s3 179 10 - 1).toNat = ra_g s3 186 (ra_g s3 179 10 - 1).toNat + 1) (b4 : ∀ a, a ≠ (ra_g s3 179 10 - 1).toNat → ra_g s4 186 a = ra_g s3 186 a) : x5GJr σ s4 1 (k + 1) := by
  have h0 := h.1
  have e0 : ra_g s4 179 10 = ra_g s 179 10 + 1 := by rw [ra_gk (f4 179 (by omega)), a3]
  have e1 : ∀ a, ra_g s4 185 a = ra_g s1 185 a := fun a => by rw [ra_gk (f4 185 (by omega)), ra_gk (f3 185 (by omega)), ra_gk (f2 185 (by omega))]
  have e2 : ra_g s3 179 10 - 1 = ra_g s 179 10 := by omega
  rw [e2] at a4 b4
  have e3 : ∀ a, ra_g s3 186 a = ra_g s2 186 a := fun a => ra_gk (f3 186 (by omega))
  rw [e3, a2] at a4
  have e4 : ∀ a, a ≠ (ra_g s 179 10).toNat → ra_g s4 186 a = ra_g s 186 a := fun a ha => by rw [b4 a ha, e3, b2 a ha, ra_gk (f1 186 (by omega))]
  unfold x5GJr
  rw [e0]
  exact x5gj_B h hf (fun g g0 g1 => ⟨(e1 _).trans (b1 _ (by omega)), e4 _ (by omega)⟩) ⟨(e1 _).trans a1, by have := a4; omega⟩
theorem x5gjr_C (h : x5GJr σ s 1 k) (hf : x5FRE σ k) (f1 : Fr 186 187 s s1) (a1 : ra_g s1 186 (ra_g s 179 10 - 1).toNat = ra_g s 186 (ra_g s 179 10 - 1).toNat + 1) (b1 : ∀ a, a ≠ (ra_g s 179 10 - 1).toNat → ra_g s1 186 a = ra_g s 186 a) : x5GJr σ s1 1 (k + 1) := by
  have h0 := h.1
  have e0 : ra_g s1 179 10 = ra_g s 179 10 := ra_gk (f1 179 (by omega))
  unfold x5GJr
  rw [e0]
  exact x5gj_C h hf (fun g g0 g1 => ra_gk (f1 185 (by omega))) (fun g g0 g1 => b1 _ (by omega)) a1
theorem x5gjr_E (hW : WF σ) (h : x5GJr σ s v k) (hv : v = 0 ∨ v = 1) (hk : ra_g σ 180 0 ≤ k) (hz : GZ σ s) : x5GFR σ s := by
  have ha := WF_a hW
  unfold WFa at ha
  exact x5gf_i hW h.1 hz.2.1 (x5gj_E h hv (by omega))
/-- rooms of the reference -/
theorem x5rs_e (h0 : s 180 = σ 180) (h : x5GFR σ s) (hg : 0 ≤ g ∧ g < ra_g s 179 10) : rs_ s g = x5rsG σ g ∧ rz_ s g = x5rmG σ g := by
  obtain ⟨⟨e1, e2⟩, -⟩ := h.2.2 g hg.1 hg.2
  have e1 : ra_g s 185 g.toNat = x5gpS σ g := e1
  have e2 : ra_g s 186 g.toNat = x5gpZ σ g := e2
  have er : rs_ s g = x5rsG σ g := by unfold rs_ x5rsG; rw [e1, ra_gk h0]
  refine ⟨er, ?_⟩
  unfold rz_ x5rmG
  rw [e1, e2, er]
theorem x5gpQ_r (τ : ra_V) : x5gpQ τ = @dite _ (∃ q : Int × (Int → Int) × (Int → Int), 0 ≤ q.1 ∧ x5GL (x5FRE τ) q.1 q.2.1 q.2.2) (Classical.propDecidable _) (fun h => Classical.choose h) (fun _ => (0, fun _ => 0, fun _ => 0)) := rfl
theorem x5gpQ_k (h : s 180 = σ 180) : x5gpQ s = x5gpQ σ := by
  have e : (x5FRE s) = (x5FRE σ) := funext fun x => x5fre_k h
  rw [x5gpQ_r, x5gpQ_r, e]
theorem x5fit_k {size rule : Int} (h : s 180 = σ 180) : x5fitF s size rule = x5fitF σ size rule := by
  unfold x5fitF x5fbG x5rmG x5rsG x5gpS x5gpZ x5gpN
  rw [x5gpQ_k h, ra_gk h]
end
end
