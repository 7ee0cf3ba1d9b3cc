/-! the reference's gaps -/
section RB
/-- a free sector -/
def FRq (σ : ra_V) (k : Int) : Prop := US σ k 1 ∧ ¬ TK σ k 1 (-1) ∧ ¬ BT σ k 1
theorem US_k {s t : ra_V} {a m : Int} (h : s 180 = t 180) (hu : US s a m) : US t a m := by
  unfold US at *
  rw [ra_gk h, ra_gk h, ra_gk h] at hu
  exact hu
theorem TK_k {s t : ra_V} {a m w : Int} (h : s 180 = t 180) (hu : TK s a m w) : TK t a m w := by
  obtain ⟨p, h1, h2, h3, h4, h5, h6⟩ := hu
  rw [wq_k h] at h4
  rw [wq_k h, wq_k h] at h5
  rw [wq_k h] at h6
  exact ⟨p, h1, h2, h3, h4, h5, h6⟩
theorem BT_k {s t : ra_V} {a m : Int} (h : s 180 = t 180) (hu : BT s a m) : BT t a m := by
  unfold BT at *
  rw [ra_gk h, ra_gk h, wq_k h] at hu
  exact hu
theorem FRq_k {s t : ra_V} {k : Int} (h : s 180 = t 180) (hu : FRq s k) : FRq t k := ⟨US_k h hu.1, fun q => hu.2.1 (TK_k h.symm q), fun q => hu.2.2 (BT_k h.symm q)⟩
/-- a gap -/
def GP (σ s : ra_V) (g : Int) : Prop := 0 ≤ ra_g s 185 g.toNat ∧ 1 ≤ ra_g s 186 g.toNat ∧ ra_g s 185 g.toNat + ra_g s 186 g.toNat ≤ ra_g σ 180 0 ∧ ∀ k, ra_g s 185 g.toNat ≤ k → k < ra_g s 185 g.toNat + ra_g s 186 g.toNat → FRq σ k
/-- laying them: v: is one open, k: how far -/
def GI (σ s : ra_V) (v k : Int) : Prop := 0 ≤ ra_g s 179 10 ∧ 2 * ra_g s 179 10 ≤ k + v ∧ (v = 1 → 1 ≤ ra_g s 179 10 ∧ ra_g s 185 (ra_g s 179 10 - 1).toNat + ra_g s 186 (ra_g s 179 10 - 1).toNat = k) ∧ (∀ g, 0 ≤ g → g < ra_g s 179 10 → GP σ s g) ∧ (∀ a, a ≠ 10 → ra_g s 179 a = ra_g σ 179 a)
/-- what they are in the end -/
def GZ (σ s : ra_V) : Prop := 0 ≤ ra_g s 179 10 ∧ ra_g s 179 10 ≤ 300 ∧ ∀ g, 0 ≤ g → g < ra_g s 179 10 → GP σ s g
theorem gi_0 {σ s : ra_V} (h : ra_g s 179 10 = 0) (ho : ∀ a, a ≠ 10 → ra_g s 179 a = ra_g σ 179 a) : GI σ s 0 0 := ⟨by omega, by omega, fun q => absurd q (by decide), fun g h1 h2 => by omega, ho⟩
theorem gi_A {σ s : ra_V} {v k : Int} (h : GI σ s v k) (hv : v = 0 ∨ v = 1) : GI σ s 0 (k + 1) := by
  obtain ⟨h1, h2, h3, h4, h5⟩ := h
  exact ⟨h1, by omega, fun q => absurd q (by decide), h4, h5⟩
theorem gi_B {σ s s1 s2 s3 s4 : ra_V} {k : Int} (h : GI σ s 0 k) (hk : 0 ≤ k) (hf : FRq σ k) (hl : k < ra_g σ 180 0)
    (f1 : Fr 185 186 s s1) (a1 : ra_g s1 185 (ra_g s 179 10).toNat = k) (b1 : ∀ a, a ≠ (ra_g s 179 10).toNat → ra_g s1 185 a = ra_g s 185 a)
    (f2 : Fr 186 187 s1 s2) (a2 : ra_g s2 186 (ra_g s 179 10).toNat = 0) (b2 : ∀ a, a ≠ (ra_g s 179 10).toNat → ra_g s2 186 a = ra_g s1 186 a)
    (f3 : Fr 179 180 s2 s3) (a3 : ra_g s3 179 10 = ra_g s 179 10 + 1) (b3 : ∀ a, a ≠ 10 → ra_g s3 179 a = ra_g s2 179 a)
    (f4 : Fr 186 187 s3 s4) (a4 : ra_g s4 186 (ra_g s3 179 10 - 1).toNat = ra_g s3 186 (ra_g s3 179 10 - 1).toNat + 1) (b4 : ∀ a, a ≠ (ra_g s3 179 10 - 1).toNat → ra_g s4 186 a = ra_g s3 186 a) : GI σ s4 1 (k + 1) := by
  obtain ⟨h1, h2, h3, h4, h5⟩ := h
  have e0 : ra_g s4 179 10 = ra_g s 179 10 + 1 := by rw [ra_gk (f4 179 (by omega)), a3]
  have e1 : ∀ a, ra_g s4 185 a = ra_g s1 185 a := fun a => by rw [ra_gk (f4 185 (by omega)), ra_gk (f3 185 (by omega)), ra_gk (f2 185 (by omega))]
  have e2 : ra_g s3 179 10 - 1 = ra_g s 179 10 := by omega
  rw [e2] at a4 b4
  have e3 : ∀ a, ra_g s3 186 a = ra_g s2 186 a := fun a => ra_gk (f3 186 (by omega))
  rw [e3, a2] at a4
  have e4 : ∀ a, a ≠ (ra_g s 179 10).toNat → ra_g s4 186 a = ra_g s 186 a := fun a ha => by rw [b4 a ha, e3, b2 a ha, ra_gk (f1 186 (by omega))]
  refine ⟨by omega, by omega, fun _ => ⟨by omega, ?_⟩, fun g g1 g2 => ?_, fun a ha => ?_⟩
  · rw [e0, show ra_g s 179 10 + 1 - 1 = ra_g s 179 10 by omega, e1, a1, a4]
    omega
  · by_cases hg : g = ra_g s 179 10
    · subst hg
      unfold GP
      rw [e1, a1, a4]
      refine ⟨hk, by omega, by omega, fun q q1 q2 => ?_⟩
      have : q = k := by omega
      rw [this]
      exact hf
    · have hn : g.toNat ≠ (ra_g s 179 10).toNat := by omega
      have := h4 g g1 (by omega)
      unfold GP at *
      rw [e1, b1 _ hn, e4 _ hn]
      exact this
  · rw [ra_gk (f4 179 (by omega)), b3 a ha, ra_gk (f2 179 (by omega)), ra_gk (f1 179 (by omega))]
    exact h5 a ha
theorem gi_C {σ s s1 : ra_V} {k : Int} (h : GI σ s 1 k) (hf : FRq σ k) (hl : k < ra_g σ 180 0)
    (f1 : Fr 186 187 s s1) (a1 : ra_g s1 186 (ra_g s 179 10 - 1).toNat = ra_g s 186 (ra_g s 179 10 - 1).toNat + 1) (b1 : ∀ a, a ≠ (ra_g s 179 10 - 1).toNat → ra_g s1 186 a = ra_g s 186 a) : GI σ s1 1 (k + 1) := by
  obtain ⟨h1, h2, h3, h4, h5⟩ := h
  obtain ⟨h6, h7⟩ := h3 rfl
  have e0 : ra_g s1 179 10 = ra_g s 179 10 := ra_gk (f1 179 (by omega))
  have e1 : ∀ a, ra_g s1 185 a = ra_g s 185 a := fun a => ra_gk (f1 185 (by omega))
  refine ⟨by omega, by omega, fun _ => ⟨by omega, ?_⟩, fun g g1 g2 => ?_, fun a ha => ?_⟩
  · rw [e0, e1, a1]
    omega
  · by_cases hg : g = ra_g s 179 10 - 1
    · have := h4 g g1 (by omega)
      subst hg
      unfold GP at *
      rw [e1, a1]
      obtain ⟨p1, p2, p3, p4⟩ := this
      refine ⟨p1, by omega, by omega, fun q q1 q2 => ?_⟩
      by_cases hq : q = k
      · rw [hq]; exact hf
      · exact p4 q q1 (by omega)
    · have hn : g.toNat ≠ (ra_g s 179 10 - 1).toNat := by omega
      have := h4 g g1 (by omega)
      unfold GP at *
      rw [e1, b1 _ hn]
      exact this
  · rw [ra_gk (f1 179 (by omega))]
    exact h5 a ha
theorem gi_Z {σ s : ra_V} {v k : Int} (h : GI σ s v k) (hv : v = 0 ∨ v = 1) (hk : k ≤ 600) : GZ σ s := by
  obtain ⟨h1, h2, h3, h4, h5⟩ := h
  exact ⟨h1, by omega, h4⟩
theorem WF_m {σ : ra_V} (h : WF σ) (hm : ra_g σ 180 16 ≠ -1) : WFm (rw_ σ) := h.2.2.2.2.resolve_left hm
theorem WF_msz {σ : ra_V} (h : WF σ) (hm : ra_g σ 180 16 ≠ -1) : (0 ≤ ra_g σ 180 16 ∧ ra_g σ 180 16 < 8) ∧ wq σ (ra_g σ 180 16) 0 = 1 ∧ 1 ≤ wq σ (ra_g σ 180 16) 2 := by
  obtain ⟨⟨h1, h2⟩, h3, -⟩ := WF_m h hm
  have h1 : 0 ≤ ra_g σ 180 16 := h1
  have h2 : ra_g σ 180 16 < 8 := h2
  have h3 : wq σ (ra_g σ 180 16) 0 = 1 := h3
  have := WF_p h h1 h2 h3
  exact ⟨⟨h1, h2⟩, h3, by omega⟩
/-- a part of a gap can be taken -/
theorem gp_free {σ s : ra_V} {g a m : Int} (hw : WF σ) (h : GP σ s g) (hm : 1 ≤ m) (h1 : ra_g s 185 g.toNat ≤ a) (h2 : a + m ≤ ra_g s 185 g.toNat + ra_g s 186 g.toNat) : US σ a m ∧ ¬ TK σ a m (-1) ∧ ¬ BT σ a m := by
  obtain ⟨-, -, -, h4⟩ := h
  obtain ⟨⟨u1, u2, u3⟩, -, -⟩ := h4 a h1 (by omega)
  obtain ⟨⟨w1, w2, w3⟩, -, -⟩ := h4 (a + m - 1) (by omega) (by omega)
  refine ⟨⟨hm, u2, by omega⟩, ?_, ?_⟩
  · rintro ⟨p, p1, p2, p3, p4, p5, p6⟩
    rcases Int.le_total (wq σ p 1) a with q | q
    · exact (h4 a h1 (by omega)).2.1 ⟨p, p1, p2, p3, p4, p5, by omega⟩
    · have := WF_p hw p1 p2 p4
      exact (h4 (wq σ p 1) (by omega) (by omega)).2.1 ⟨p, p1, p2, p3, p4, by omega, by omega⟩
  · rintro ⟨b1, b2, b3, b4⟩
    rcases Int.le_total (ra_g σ 180 18) a with q | q
    · exact (h4 a h1 (by omega)).2.2 ⟨b1, by omega, b3, by omega⟩
    · have := (WF_msz hw b1).2.2
      exact (h4 (ra_g σ 180 18) (by omega) (by omega)).2.2 ⟨b1, by omega, by omega, by omega⟩
end RB
