section
/-! the reference's gaps -/
section RB
/-- a free sector -/
def FRq (σ : ra_V) (k : Int) : Prop := US σ k 1 ∧ ¬ TK σ k 1 (-1) ∧ ¬ BT σ k 1
theorem US_k {s t : ra_V} {a m : Int} (h : s 180 = t 180) (hu : US s a m) : US t a m := by
  unfold US at *
  rw [ra_gk h, ra_gk h, ra_gk h] at hu
  exact hu
theorem TK_k {s t : ra_V} {a m w : Int} (h : s 180 = t 180) (hu : TK s a m w) : TK t a m w := by
  obtain ⟨p, h1, h2, h3, h4, h5, h6⟩ := hu
  rw [wq_k h] at h4
  rw [wq_k h, wq_k h] at h5
  rw [wq_k h] at h6
  exact ⟨p, h1, h2, h3, h4, h5, h6⟩
theorem BT_k {s t : ra_V} {a m : Int} (h : s 180 = t 180) (hu : BT s a m) : BT t a m := by
  unfold BT at *
  rw [ra_gk h, ra_gk h, wq_k h] at hu
  exact hu
theorem FRq_k {s t : ra_V} {k : Int} (h : s 180 = t 180) (hu : FRq s k) : FRq t k := ⟨US_k h hu.1, fun q => hu.2.1 (TK_k h.symm q), fun q => hu.2.2 (BT_k h.symm q)⟩
/-- a gap -/
def GP (σ s : ra_V) (g : Int) : Prop := 0 ≤ ra_g s 185 g.toNat ∧ 1 ≤ ra_g s 186 g.toNat ∧ ra_g s 185 g.toNat + ra_g s 186 g.toNat ≤ ra_g σ 180 0 ∧ ∀ k, ra_g s 185 g.toNat ≤ k → k < ra_g s 185 g.toNat + ra_g s 186 g.toNat → FRq σ k
/-- laying them: v: is one open, k: how far -/
def GI (σ s : ra_V) (v k : Int) : Prop := 0 ≤ ra_g s 179 10 ∧ 2 * ra_g s 179 10 ≤ k + v ∧ (v = 1 → 1 ≤ ra_g s 179 10 ∧ ra_g s 185 (ra_g s 179 10 - 1).toNat + ra_g s 186 (ra_g s 179 10 - 1).toNat = k) ∧ (∀ g, 0 ≤ g → g < ra_g s 179 10 → GP σ s g) ∧ (∀ a, a ≠ 10 → ra_g s 179 a = ra_g σ 179 a)
/-- what they are in the end -/
def GZ (σ s : ra_V) : Prop := 0 ≤ ra_g s 179 10 ∧ ra_g s 179 10 ≤ 300 ∧ ∀ g, 0 ≤ g → g < ra_g s 179 10 → GP σ s g
theorem gi_0 {σ s : ra_V} (h : ra_g s 179 10 = 0) (ho : ∀ a, a ≠ 10 → ra_g s 179 a = ra_g σ 179 a) : GI σ s 0 0 := ⟨by omega, by omega, fun q => absurd q (by decide), fun g h1 h2 => by omega, ho⟩
theorem gi_A {σ s : ra_V} {v k : Int} (h : GI σ s v k) (hv : v = 0 ∨ v = 1) : GI σ s 0 (k + 1) := by
  obtain ⟨h1, h2, h3, h4, h5⟩ := h
  exact ⟨h1, by omega, fun q => absurd q (by decide), h4, h5⟩
theorem gi_B {σ s s1 s2 s3 s4 : ra_V} {k : Int} (h : GI σ s 0 k) (hk : 0 ≤ k) (hf : FRq σ k) (hl : k < ra_g σ 180 0)
    (f1 : Fr 185 186 s s1) (a1 : ra_g s1 185 (ra_g s 179 10).toNat = k) (b1 : ∀ a, a ≠ (ra_g s 179 10).toNat → ra_g s1 185 a = ra_g s 185 a)
    (f2 : Fr 186 187 s1 s2) (a2 : ra_g s2 186 (ra_g s 179 10).toNat = 0) (b2 : ∀ a, a ≠ (ra_g s 179 10).toNat → ra_g s2 186 a = ra_g s1 186 a)
    (f3 : Fr 179 180 s2 s3) (a3 : ra_g s3 179 10 = ra_g s 179 10 + 1) (b3 : ∀ a, a ≠ 10 → ra_g s3 179 a = ra_g s2 179 a)
    (f4 : Fr 186 187 s3 s4) (a4 : ra_g s4 186 (ra_g s3 179 10 - 1).toNat = ra_g s3 186 (ra_g s3 179 10 - 1).toNat + 1) (b4 : ∀ a, a ≠ (ra_g s3 179 10 - 1).toNat → ra_g s4 186 a = ra_g s3 186 a) : GI σ s4 1 (k + 1) := by
  obtain ⟨h1, h2, h3, h4, h5⟩ := h
  have e0 : ra_g s4 179 10 = ra_g s 179 10 + 1 := by rw [ra_gk (f4 179 (by omega)), a3]
  have e1 : ∀ a, ra_g s4 185 a = ra_g s1 185 a := fun a => by rw [ra_gk (f4 185 (by omega)), ra_gk (f3 185 (by omega)), ra_gk (f2 185 (by omega))]
  have e2 : ra_g s3 179 10 - 1 = ra_g s 179 10 := by omega
  rw [e2] at a4 b4
  have e3 : ∀ a, ra_g s3 186 a = ra_g s2 186 a := fun a => ra_gk (f3 186 (by omega))
  rw [e3, a2] at a4
  have e4 : ∀ a, a ≠ (ra_g s 179 10).toNat → ra_g s4 186 a = ra_g s 186 a := fun a ha => by rw [b4 a ha, e3, b2 a ha, ra_gk (f1 186 (by omega))]
  refine ⟨by omega, by omega, fun _ => ⟨by omega, ?_⟩, fun g g1 g2 => ?_, fun a ha => ?_⟩
  · rw [e0, show ra_g s 179 10 + 1 - 1 = ra_g s 179 10 by omega, e1, a1, a4]
    omega
  · by_cases hg : g = ra_g s 179 10
    · subst hg
      unfold GP
      rw [e1, a1, a4]
      refine ⟨hk, by omega, by omega, fun q q1 q2 => ?_⟩
      have : q = k := by omega
      rw [this]
      exact hf
    · have hn : g.toNat ≠ (ra_g s 179 10).toNat := by omega
      have := h4 g g1 (by omega)
      unfold GP at *
      rw [e1, b1 _ hn, e4 _ hn]
      exact this
  · rw [ra_gk (f4 179 (by omega)), b3 a ha, ra_gk (f2 179 (by omega)), ra_gk (f1 179 (by omega))]
    exact h5 a ha
theorem gi_C {σ s s1 : ra_V} {k : Int} (h : GI σ s 1 k) (hf : FRq σ k) (hl : k < ra_g σ 180 0)
    (f1 : Fr 186 187 s s1) (a1 : ra_g s1 186 (ra_g s 179 10 - 1).toNat = ra_g s 186 (ra_g s 179 10 - 1).toNat + 1) (b1 : ∀ a, a ≠ (ra_g s 179 10 - 1).toNat → ra_g s1 186 a = ra_g s 186 a) : GI σ s1 1 (k + 1) := by
  obtain ⟨h1, h2, h3, h4, h5⟩ := h
  obtain ⟨h6, h7⟩ := h3 rfl
  have e0 : ra_g s1 179 10 = ra_g s 179 10 := ra_gk (f1 179 (by omega))
  have e1 : ∀ a, ra_g s1 185 a = ra_g s 185 a := fun a => ra_gk (f1 185 (by omega))
  refine ⟨by omega, by omega, fun _ => ⟨by omega, ?_⟩, fun g g1 g2 => ?_, fun a ha => ?_⟩
  · rw [e0, e1, a1]
    omega
  · by_cases hg : g = ra_g s 179 10 - 1
    · have := h4 g g1 (by omega)
      subst hg
      unfold GP at *
      rw [e1, a1]
      obtain ⟨p1, p2, p3, p4⟩ := this
      refine ⟨p1, by omega, by omega, fun q q1 q2 => ?_⟩
      by_cases hq : q = k
      · rw [hq]; exact hf
      · exact p4 q q1 (by omega)
    · have hn : g.toNat ≠ (ra_g s 179 10 - 1).toNat := by omega
      have := h4 g g1 (by omega)
      unfold GP at *
      rw [e1, b1 _ hn]
      exact this
  · rw [ra_gk (f1 179 (by omega))]
    exact h5 a ha
theorem gi_Z {σ s : ra_V} {v k : Int} (h : GI σ s v k) (hv : v = 0 ∨ v = 1) (hk : k ≤ 600) : GZ σ s := by
  obtain ⟨h1, h2, h3, h4, h5⟩ := h
  exact ⟨h1, by omega, h4⟩
theorem WF_m {σ : ra_V} (h : WF σ) (hm : ra_g σ 180 16 ≠ -1) : WFm (rw_ σ) := h.2.2.2.2.resolve_left hm
theorem WF_msz {σ : ra_V} (h : WF σ) (hm : ra_g σ 180 16 ≠ -1) : (0 ≤ ra_g σ 180 16 ∧ ra_g σ 180 16 < 8) ∧ wq σ (ra_g σ 180 16) 0 = 1 ∧ 1 ≤ wq σ (ra_g σ 180 16) 2 := by
  obtain ⟨⟨h1, h2⟩, h3, -⟩ := WF_m h hm
  have h1 : 0 ≤ ra_g σ 180 16 := h1
  have h2 : ra_g σ 180 16 < 8 := h2
  have h3 : wq σ (ra_g σ 180 16) 0 = 1 := h3
  have := WF_p h h1 h2 h3
  exact ⟨⟨h1, h2⟩, h3, by omega⟩
/-- a part of a gap can be taken -/
theorem gp_free {σ s : ra_V} {g a m : Int} (hw : WF σ) (h : GP σ s g) (hm : 1 ≤ m) (h1 : ra_g s 185 g.toNat ≤ a) (h2 : a + m ≤ ra_g s 185 g.toNat + ra_g s 186 g.toNat) : US σ a m ∧ ¬ TK σ a m (-1) ∧ ¬ BT σ a m := by
  obtain ⟨-, -, -, h4⟩ := h
  obtain ⟨⟨u1, u2, u3⟩, -, -⟩ := h4 a h1 (by omega)
  obtain ⟨⟨w1, w2, w3⟩, -, -⟩ := h4 (a + m - 1) (by omega) (by omega)
  refine ⟨⟨hm, u2, by omega⟩, ?_, ?_⟩
  · rintro ⟨p, p1, p2, p3, p4, p5, p6⟩
    rcases Int.le_total (wq σ p 1) a with q | q
    · exact (h4 a h1 (by omega)).2.1 ⟨p, p1, p2, p3, p4, p5, by omega⟩
    · have := WF_p hw p1 p2 p4
      exact (h4 (wq σ p 1) (by omega) (by omega)).2.1 ⟨p, p1, p2, p3, p4, by omega, by omega⟩
  · rintro ⟨b1, b2, b3, b4⟩
    rcases Int.le_total (ra_g σ 180 18) a with q | q
    · exact (h4 a h1 (by omega)).2.2 ⟨b1, by omega, b3, by omega⟩
    · have := (WF_msz hw b1).2.2
      exact (h4 (ra_g σ 180 18) (by omega) (by omega)).2.2 ⟨b1, by omega, by omega, by omega⟩
end RB
end
section
/-! the reference: what its methods do (printed by wip/gen/ref.py) -/
section RB
theorem lp_218_9 {n : Nat} {f : Nat → Int32} {d : Nat}  {σ : ra_V} (hw : WF σ) : ∀ (nn : Nat) (v1 : Int) (v2 : Int) (s : ra_V) (hv1_0 : v1 = 0 ∨ v1 = 1) (hv2_0 : 0 ≤ v2) (hv2_1 : v2 ≤ ra_g σ 180 0) (hF : Fr (179) (187) σ s) (hk0 : s (180) = σ (180)) (hk1 : s (181) = σ (181)) (hk2 : s (182) = σ (182)) (hk3 : s (183) = σ (183)) (hk4 : s (184) = σ (184)) (hg : GI σ s v1 v2) (hm : ((ra_g σ 180 0 - v2 : Int)).toNat < nn), ra_P (g_Gs n f) g_sh 0 (d + 4) g_m_X8_laysGaps 9 [some (.index (179)), some (ra_I v1), some (ra_I v2), none] [] s (fun r s => rV r ∧ Fr (179) (187) σ s ∧ s (180) = σ (180) ∧ s (181) = σ (181) ∧ s (182) = σ (182) ∧ s (183) = σ (183) ∧ s (184) = σ (184) ∧ (∀ a, a ≠ 10 → ra_g s 179 a = ra_g σ 179 a) ∧ GZ σ s) := by
  intro nn
  induction nn with
  | zero => intro v1 v2 s hv1_0 hv2_0 hv2_1 hF hk0 hk1 hk2 hk3 hk4 hg hm; exact absurd hm (Nat.not_lt_zero _)
  | succ nn ih =>
    intro v1 v2 s hv1_0 hv2_0 hv2_1 hF hk0 hk1 hk2 hk3 hk4 hg hm
    have hw0 := WF_a hw
    unfold WFa at hw0
    have hg0 := hg
    obtain ⟨g1, g2, g3, g4, g5⟩ := hg0
    have g6 : v1 = 1 → 0 ≤ ra_g s 185 (ra_g s 179 10 - 1).toNat := fun q => (g4 (ra_g s 179 10 - 1) (by have := g3 q; omega) (by omega)).1
    refine ra_load rfl rfl rfl rfl ?_
    refine ra_load rfl rfl rfl rfl ?_
    refine ra_getR rfl lk_8_7 (Nat.zero_le _) sh_179 rfl ?_
    refine ra_iconst rfl ?_
    refine ra_ialoadJ (j := 0) rfl sh_180 rfl (by decide) rfl (by decide) ?_
    rw [ra_gk hk0]
    have hr9 : ra_in (ra_g σ (180) 0) := (ra_in_g _ _ _)
    refine ra_icge rfl rfl (by first | omega | (unfold ra_in at *; omega)) hr9 (fun h10 => ?_) (fun h10 => ?_)
    · exact ra_return rfl rfl ⟨rfl, ⟨hF, hk0, hk1, hk2, hk3, hk4, hg.2.2.2.2, gi_Z hg hv1_0 (by omega)⟩⟩
    · refine ra_load rfl rfl rfl rfl ?_
      refine ra_load rfl rfl rfl rfl ?_
      refine ra_cQPp (sp_217 (by first | omega | (unfold ra_in at *; omega)) (WFa_k hk0 (WF_a hw))) rfl (ct_217 rfl lk_8_117 (Or.inl rfl) sh_179 (Nat.le_of_ble_eq_true rfl)) (fun z12 hz12 hz12p => ?_)
      refine ra_store (L' := [_, _, _, _]) rfl rfl rfl (Nat.le_of_ble_eq_true rfl) rfl ?_
      refine ra_load rfl rfl rfl rfl ?_
      refine ra_ifeq rfl rfl (ra_in01 hz12) (fun h13 => ?_) (fun h13 => ?_)
      · refine ra_load rfl rfl rfl rfl ?_
        refine ra_ifeq rfl rfl (ra_in01 hz12) (fun h14 => ?_) (fun h14 => ?_)
        · refine ra_load rfl rfl rfl rfl ?_
          refine ra_store (L' := [_, _, _, _]) rfl rfl rfl (Nat.le_of_ble_eq_true rfl) rfl ?_
          refine ra_iinc (L' := [_, _, _, _]) rfl rfl (Nat.le_of_ble_eq_true rfl) rfl ?_
          refine ra_goto rfl rfl ?_
          exact ra_weak (by repeat' constructor) (ih z12 (v2 + 1) s hz12 (by first | omega | (unfold ra_in at *; omega)) (by first | omega | (unfold ra_in at *; omega)) hF hk0 hk1 hk2 hk3 hk4 (by have e : z12 = 0 := (by omega); rw [e]; exact gi_A hg hv1_0) (by first | omega | (unfold ra_in at *; omega)))
        · refine ra_load rfl rfl rfl rfl ?_
          refine ra_getR rfl lk_8_28 (Nat.zero_le _) sh_179 rfl ?_
          refine ra_load rfl rfl rfl rfl ?_
          refine ra_getI rfl lk_8_114 (Nat.zero_le _) sh_179 rfl ?_
          have hr15 : ra_in (ra_g s (179) 10) := (ra_in_g _ _ _)
          refine ra_iconst rfl ?_
          refine ra_isub rfl ?_
          refine ra_dup2 rfl rfl rfl ?_
          refine ra_iaload rfl sh_186 rfl (by decide) (by first | omega | (unfold ra_in at *; omega)) (by first | omega | (unfold ra_in at *; omega)) ?_
          have hr16 : ra_in (ra_g s (186) ((ra_g s (179) 10) - (1)).toNat) := (ra_in_g _ _ _)
          refine ra_iconst rfl ?_
          refine ra_iadd rfl ?_
          refine ra_iastore rfl sh_186 rfl (by decide) (by first | omega | (unfold ra_in at *; omega)) (by first | omega | (unfold ra_in at *; omega)) ?_
          refine ra_newR (by first | omega | (unfold ra_in at *; omega)) (fun s17 hs17 hs17v hs17o => ?_)
          have hF18 := Fr_tr (lo := 179) (hi := 187) hF hs17 (by omega)
          have hk19 : s17 (180) = σ (180) := (hs17 (180) (by omega)).trans hk0
          have hk20 : s17 (181) = σ (181) := (hs17 (181) (by omega)).trans hk1
          have hk21 : s17 (182) = σ (182) := (hs17 (182) (by omega)).trans hk2
          have hk22 : s17 (183) = σ (183) := (hs17 (183) (by omega)).trans hk3
          have hk23 : s17 (184) = σ (184) := (hs17 (184) (by omega)).trans hk4
          have hk24 : s17 (179) = s (179) := (hs17 (179) (by omega))
          refine ra_load rfl rfl rfl rfl ?_
          refine ra_store (L' := [_, _, _, _]) rfl rfl rfl (Nat.le_of_ble_eq_true rfl) rfl ?_
          refine ra_iinc (L' := [_, _, _, _]) rfl rfl (Nat.le_of_ble_eq_true rfl) rfl ?_
          refine ra_goto rfl rfl ?_
          exact ra_weak (by repeat' constructor) (ih z12 (v2 + 1) s17 hz12 (by first | omega | (unfold ra_in at *; omega)) (by first | omega | (unfold ra_in at *; omega)) hF18 hk19 hk20 hk21 hk22 hk23 (by have e : z12 = 1 := (by omega); rw [e]; exact gi_C (by obtain rfl : v1 = 1 := (by omega); exact hg) (FRq_k hk0 (hz12p (by omega))) (by omega) hs17 hs17v hs17o) (by first | omega | (unfold ra_in at *; omega)))
      · refine ra_load rfl rfl rfl rfl ?_
        refine ra_ifne rfl rfl (ra_in01 hv1_0) (fun h25 => ?_) (fun h25 => ?_)
        · refine ra_load rfl rfl rfl rfl ?_
          refine ra_ifeq rfl rfl (ra_in01 hz12) (fun h26 => ?_) (fun h26 => ?_)
          · refine ra_load rfl rfl rfl rfl ?_
            refine ra_store (L' := [_, _, _, _]) rfl rfl rfl (Nat.le_of_ble_eq_true rfl) rfl ?_
            refine ra_iinc (L' := [_, _, _, _]) rfl rfl (Nat.le_of_ble_eq_true rfl) rfl ?_
            refine ra_goto rfl rfl ?_
            exact ra_weak (by repeat' constructor) (ih z12 (v2 + 1) s hz12 (by first | omega | (unfold ra_in at *; omega)) (by first | omega | (unfold ra_in at *; omega)) hF hk0 hk1 hk2 hk3 hk4 (by have e : z12 = 0 := (by omega); rw [e]; exact gi_A hg hv1_0) (by first | omega | (unfold ra_in at *; omega)))
          · refine ra_load rfl rfl rfl rfl ?_
            refine ra_getR rfl lk_8_28 (Nat.zero_le _) sh_179 rfl ?_
            refine ra_load rfl rfl rfl rfl ?_
            refine ra_getI rfl lk_8_114 (Nat.zero_le _) sh_179 rfl ?_
            have hr27 : ra_in (ra_g s (179) 10) := (ra_in_g _ _ _)
            refine ra_iconst rfl ?_
            refine ra_isub rfl ?_
            refine ra_dup2 rfl rfl rfl ?_
            refine ra_iaload rfl sh_186 rfl (by decide) (by first | omega | (unfold ra_in at *; omega)) (by first | omega | (unfold ra_in at *; omega)) ?_
            have hr28 : ra_in (ra_g s (186) ((ra_g s (179) 10) - (1)).toNat) := (ra_in_g _ _ _)
            refine ra_iconst rfl ?_
            refine ra_iadd rfl ?_
            refine ra_iastore rfl sh_186 rfl (by decide) (by first | omega | (unfold ra_in at *; omega)) (by first | omega | (unfold ra_in at *; omega)) ?_
            refine ra_newR (by first | omega | (unfold ra_in at *; omega)) (fun s29 hs29 hs29v hs29o => ?_)
            have hF30 := Fr_tr (lo := 179) (hi := 187) hF hs29 (by omega)
            have hk31 : s29 (180) = σ (180) := (hs29 (180) (by omega)).trans hk0
            have hk32 : s29 (181) = σ (181) := (hs29 (181) (by omega)).trans hk1
            have hk33 : s29 (182) = σ (182) := (hs29 (182) (by omega)).trans hk2
            have hk34 : s29 (183) = σ (183) := (hs29 (183) (by omega)).trans hk3
            have hk35 : s29 (184) = σ (184) := (hs29 (184) (by omega)).trans hk4
            have hk36 : s29 (179) = s (179) := (hs29 (179) (by omega))
            refine ra_load rfl rfl rfl rfl ?_
            refine ra_store (L' := [_, _, _, _]) rfl rfl rfl (Nat.le_of_ble_eq_true rfl) rfl ?_
            refine ra_iinc (L' := [_, _, _, _]) rfl rfl (Nat.le_of_ble_eq_true rfl) rfl ?_
            refine ra_goto rfl rfl ?_
            exact ra_weak (by repeat' constructor) (ih z12 (v2 + 1) s29 hz12 (by first | omega | (unfold ra_in at *; omega)) (by first | omega | (unfold ra_in at *; omega)) hF30 hk31 hk32 hk33 hk34 hk35 (by have e : z12 = 1 := (by omega); rw [e]; exact gi_C (by obtain rfl : v1 = 1 := (by omega); exact hg) (FRq_k hk0 (hz12p (by omega))) (by omega) hs29 hs29v hs29o) (by first | omega | (unfold ra_in at *; omega)))
        · refine ra_load rfl rfl rfl rfl ?_
          refine ra_getR rfl lk_8_25 (Nat.zero_le _) sh_179 rfl ?_
          refine ra_load rfl rfl rfl rfl ?_
          refine ra_getI rfl lk_8_114 (Nat.zero_le _) sh_179 rfl ?_
          have hr37 : ra_in (ra_g s (179) 10) := (ra_in_g _ _ _)
          refine ra_load rfl rfl rfl rfl ?_
          refine ra_iastore rfl sh_185 rfl (by decide) (by first | omega | (unfold ra_in at *; omega)) (by first | omega | (unfold ra_in at *; omega)) ?_
          refine ra_newR (by first | omega | (unfold ra_in at *; omega)) (fun s38 hs38 hs38v hs38o => ?_)
          have hF39 := Fr_tr (lo := 179) (hi := 187) hF hs38 (by omega)
          have hk40 : s38 (180) = σ (180) := (hs38 (180) (by omega)).trans hk0
          have hk41 : s38 (181) = σ (181) := (hs38 (181) (by omega)).trans hk1
          have hk42 : s38 (182) = σ (182) := (hs38 (182) (by omega)).trans hk2
          have hk43 : s38 (183) = σ (183) := (hs38 (183) (by omega)).trans hk3
          have hk44 : s38 (184) = σ (184) := (hs38 (184) (by omega)).trans hk4
          have hk45 : s38 (179) = s (179) := (hs38 (179) (by omega))
          refine ra_load rfl rfl rfl rfl ?_
          refine ra_getR rfl lk_8_28 (Nat.zero_le _) sh_179 rfl ?_
          refine ra_load rfl rfl rfl rfl ?_
          refine ra_getI rfl lk_8_114 (Nat.zero_le _) sh_179 rfl ?_
          rw [ra_gk hk45]
          have hr46 : ra_in (ra_g s (179) 10) := (ra_in_g _ _ _)
          refine ra_iconst rfl ?_
          refine ra_iastore rfl sh_186 rfl (by decide) (by first | omega | (unfold ra_in at *; omega)) (by first | omega | (unfold ra_in at *; omega)) ?_
          refine ra_newR (by first | omega | (unfold ra_in at *; omega)) (fun s47 hs47 hs47v hs47o => ?_)
          have hF48 := Fr_tr (lo := 179) (hi := 187) hF39 hs47 (by omega)
          have hk49 : s47 (180) = σ (180) := (hs47 (180) (by omega)).trans hk40
          have hk50 : s47 (181) = σ (181) := (hs47 (181) (by omega)).trans hk41
          have hk51 : s47 (182) = σ (182) := (hs47 (182) (by omega)).trans hk42
          have hk52 : s47 (183) = σ (183) := (hs47 (183) (by omega)).trans hk43
          have hk53 : s47 (184) = σ (184) := (hs47 (184) (by omega)).trans hk44
          have hk54 : s47 (179) = s (179) := (hs47 (179) (by omega)).trans hk45
          refine ra_load rfl rfl rfl rfl ?_
          refine ra_dup rfl rfl ?_
          refine ra_getI rfl lk_8_114 (Nat.zero_le _) sh_179 rfl ?_
          rw [ra_gk hk54]
          have hr55 : ra_in (ra_g s (179) 10) := (ra_in_g _ _ _)
          refine ra_iconst rfl ?_
          refine ra_iadd rfl ?_
          refine ra_putI rfl lk_8_114 (Nat.zero_le _) sh_179 rfl rfl ?_
          refine ra_newU (by first | omega | (unfold ra_in at *; omega)) (fun s56 hs56 hp57 hp57o => ?_)
          have hp57_99 := hp57o 99 (by decide)
          rw [ra_gk hk54] at hp57_99
          have hF58 := Fr_tr (lo := 179) (hi := 187) hF48 hs56 (by omega)
          have hk59 : s56 (180) = σ (180) := (hs56 (180) (by omega)).trans hk49
          have hk60 : s56 (181) = σ (181) := (hs56 (181) (by omega)).trans hk50
          have hk61 : s56 (182) = σ (182) := (hs56 (182) (by omega)).trans hk51
          have hk62 : s56 (183) = σ (183) := (hs56 (183) (by omega)).trans hk52
          have hk63 : s56 (184) = σ (184) := (hs56 (184) (by omega)).trans hk53
          refine ra_load rfl rfl rfl rfl ?_
          refine ra_ifeq rfl rfl (ra_in01 hz12) (fun h64 => ?_) (fun h64 => ?_)
          · refine ra_load rfl rfl rfl rfl ?_
            refine ra_store (L' := [_, _, _, _]) rfl rfl rfl (Nat.le_of_ble_eq_true rfl) rfl ?_
            refine ra_iinc (L' := [_, _, _, _]) rfl rfl (Nat.le_of_ble_eq_true rfl) rfl ?_
            refine ra_goto rfl rfl ?_
            exact ra_weak (by repeat' constructor) (ih z12 (v2 + 1) s56 hz12 (by first | omega | (unfold ra_in at *; omega)) (by first | omega | (unfold ra_in at *; omega)) hF58 hk59 hk60 hk61 hk62 hk63 (by exfalso; omega) (by first | omega | (unfold ra_in at *; omega)))
          · refine ra_load rfl rfl rfl rfl ?_
            refine ra_getR rfl lk_8_28 (Nat.zero_le _) sh_179 rfl ?_
            refine ra_load rfl rfl rfl rfl ?_
            refine ra_getI rfl lk_8_114 (Nat.zero_le _) sh_179 rfl ?_
            have hr65 : ra_in (ra_g s56 (179) 10) := (ra_in_g _ _ _)
            refine ra_iconst rfl ?_
            refine ra_isub rfl ?_
            refine ra_dup2 rfl rfl rfl ?_
            refine ra_iaload rfl sh_186 rfl (by decide) (by first | omega | (unfold ra_in at *; omega)) (by first | omega | (unfold ra_in at *; omega)) ?_
            have hr66 : ra_in (ra_g s56 (186) ((ra_g s56 (179) 10) - (1)).toNat) := (ra_in_g _ _ _)
            refine ra_iconst rfl ?_
            refine ra_iadd rfl ?_
            have hx : ra_g s56 (186) (ra_g s56 (179) 10 - 1).toNat = 0 := by rw [show (ra_g s56 (179) 10 - 1).toNat = (ra_g s (179) 10).toNat by omega, ra_gk (hs56 (186) (by omega))]; exact hs47v
            refine ra_iastore rfl sh_186 rfl (by decide) (by first | omega | (unfold ra_in at *; omega)) (by first | omega | (unfold ra_in at *; omega)) ?_
            refine ra_newR (by first | omega | (unfold ra_in at *; omega)) (fun s67 hs67 hs67v hs67o => ?_)
            have hF68 := Fr_tr (lo := 179) (hi := 187) hF58 hs67 (by omega)
            have hk69 : s67 (180) = σ (180) := (hs67 (180) (by omega)).trans hk59
            have hk70 : s67 (181) = σ (181) := (hs67 (181) (by omega)).trans hk60
            have hk71 : s67 (182) = σ (182) := (hs67 (182) (by omega)).trans hk61
            have hk72 : s67 (183) = σ (183) := (hs67 (183) (by omega)).trans hk62
            have hk73 : s67 (184) = σ (184) := (hs67 (184) (by omega)).trans hk63
            have hk74 : s67 (179) = s56 (179) := (hs67 (179) (by omega))
            refine ra_load rfl rfl rfl rfl ?_
            refine ra_store (L' := [_, _, _, _]) rfl rfl rfl (Nat.le_of_ble_eq_true rfl) rfl ?_
            refine ra_iinc (L' := [_, _, _, _]) rfl rfl (Nat.le_of_ble_eq_true rfl) rfl ?_
            refine ra_goto rfl rfl ?_
            exact ra_weak (by repeat' constructor) (ih z12 (v2 + 1) s67 hz12 (by first | omega | (unfold ra_in at *; omega)) (by first | omega | (unfold ra_in at *; omega)) hF68 hk69 hk70 hk71 hk72 hk73 (by have e : z12 = 1 := (by omega); rw [e]; exact gi_B (by obtain rfl : v1 = 0 := (by omega); exact hg) (by omega) (FRq_k hk0 (hz12p (by omega))) (by omega) hs38 hs38v hs38o hs47 hs47v hs47o hs56 hp57 hp57o hs67 hs67v hs67o) (by first | omega | (unfold ra_in at *; omega)))
theorem sp_218 {n : Nat} {f : Nat → Int32} {d : Nat}  {σ : ra_V} (hw : WF σ) : ra_C (g_Gs n f) g_sh 0 (d + 5) 218 [.index (179)] σ (fun r s => rV r ∧ Fr (179) (187) σ s ∧ s (180) = σ (180) ∧ s (181) = σ (181) ∧ s (182) = σ (182) ∧ s (183) = σ (183) ∧ s (184) = σ (184) ∧ (∀ a, a ≠ 10 → ra_g s 179 a = ra_g σ 179 a) ∧ GZ σ s) := by
  refine ra_enter (nn := 3) mt_218 rfl (Nat.le_of_ble_eq_true rfl) rfl (fun h => absurd h (by decide +kernel)) ?_
  have hw0 := WF_a hw
  unfold WFa at hw0
  refine ra_load rfl rfl rfl rfl ?_
  refine ra_iconst rfl ?_
  refine ra_putI rfl lk_8_114 (Nat.zero_le _) sh_179 rfl rfl ?_
  refine ra_newU (by first | omega | (unfold ra_in at *; omega)) (fun s1 hs1 hp2 hp2o => ?_)
  have hp2_99 := hp2o 99 (by decide)
  have hF3 := Fr_tr (lo := 179) (hi := 187) Fr_rf hs1 (by omega)
  have hk4 : s1 (180) = σ (180) := (hs1 (180) (by omega))
  have hk5 : s1 (181) = σ (181) := (hs1 (181) (by omega))
  have hk6 : s1 (182) = σ (182) := (hs1 (182) (by omega))
  have hk7 : s1 (183) = σ (183) := (hs1 (183) (by omega))
  have hk8 : s1 (184) = σ (184) := (hs1 (184) (by omega))
  refine ra_iconst rfl ?_
  refine ra_store (L' := [_, _, _, _]) rfl rfl rfl (Nat.le_of_ble_eq_true rfl) rfl ?_
  refine ra_iconst rfl ?_
  refine ra_store (L' := [_, _, _, _]) rfl rfl rfl (Nat.le_of_ble_eq_true rfl) rfl ?_
  exact ra_weak (by repeat' constructor) (lp_218_9 hw _ (0) (0) s1 (Or.inl rfl) (by first | omega | (unfold ra_in at *; omega)) (by first | omega | (unfold ra_in at *; omega)) hF3 hk4 hk5 hk6 hk7 hk8 (gi_0 hp2 hp2o) (Nat.lt_succ_self _))
end RB
end
section
/-! rooms -/
section RB
def rs_ (σ : ra_V) (g : Int) : Int := (ra_g σ 185 g.toNat + ra_g σ 180 3 - 1).tdiv (ra_g σ 180 3) * ra_g σ 180 3
def rz_ (σ : ra_V) (g : Int) : Int := max 0 (ra_g σ 185 g.toNat + ra_g σ 186 g.toNat - rs_ σ g)
theorem up_b {a m : Int} (ha : 0 ≤ a) (hm : 1 ≤ m) : a ≤ (a + m - 1).tdiv m * m ∧ (a + m - 1).tdiv m * m < a + m := by
  have h1 := Int.tmod_add_mul_tdiv (a + m - 1) m
  have h2 := Int.tmod_lt_of_pos (a + m - 1) (by omega : 0 < m)
  have h3 := Int.tmod_nonneg m (by omega : 0 ≤ a + m - 1)
  rw [Int.mul_comm] at h1
  omega
theorem GZ_k {σ s : ra_V} (h : s 180 = σ 180) (hz : GZ σ s) : GZ s s := by
  obtain ⟨h1, h2, h3⟩ := hz
  refine ⟨h1, h2, fun g g1 g2 => ?_⟩
  obtain ⟨p1, p2, p3, p4⟩ := h3 g g1 g2
  exact ⟨p1, p2, by rw [ra_gk h]; exact p3, fun k k1 k2 => FRq_k h.symm (p4 k k1 k2)⟩
theorem GZ_s {σ s t : ra_V} (h : s 180 = σ 180) (hz : GZ s t) : GZ σ t := by
  obtain ⟨h1, h2, h3⟩ := hz
  refine ⟨h1, h2, fun g g1 g2 => ?_⟩
  obtain ⟨p1, p2, p3, p4⟩ := h3 g g1 g2
  exact ⟨p1, p2, by rw [ra_gk h] at p3; exact p3, fun k k1 k2 => FRq_k h (p4 k k1 k2)⟩
theorem GZ_t {σ s t : ra_V} (h1 : ra_g t 179 10 = ra_g s 179 10) (h2 : t 185 = s 185) (h3 : t 186 = s 186) (h : GZ σ s) : GZ σ t := by
  unfold GZ GP at *
  rw [h1]
  refine ⟨h.1, h.2.1, fun g g1 g2 => ?_⟩
  rw [ra_gk h2, ra_gk h3]
  exact h.2.2 g g1 g2
section
variable {σ : ra_V} {g : Int}
theorem rs_b (hw : WF σ) (hz : GZ σ σ) (hi : 0 ≤ g ∧ g < ra_g σ 179 10) : ra_g σ 185 g.toNat ≤ rs_ σ g ∧ rs_ σ g < ra_g σ 185 g.toNat + ra_g σ 180 3 := by
  have hw0 := WF_a hw
  unfold WFa at hw0
  obtain ⟨p1, p2, p3, p4⟩ := hz.2.2 g hi.1 hi.2
  exact up_b p1 (by omega)
theorem rs_in (hw : WF σ) (hz : GZ σ σ) (hi : 0 ≤ g ∧ g < ra_g σ 179 10) : ra_in (rs_ σ g) := by
  have hw0 := WF_a hw
  unfold WFa at hw0
  obtain ⟨p1, p2, p3, p4⟩ := hz.2.2 g hi.1 hi.2
  have := rs_b hw hz hi
  unfold ra_in
  omega
theorem rz_in (hw : WF σ) (hz : GZ σ σ) (hi : 0 ≤ g ∧ g < ra_g σ 179 10) : ra_in (rz_ σ g) := by
  have hw0 := WF_a hw
  unfold WFa at hw0
  obtain ⟨p1, p2, p3, p4⟩ := hz.2.2 g hi.1 hi.2
  have := rs_b hw hz hi
  unfold ra_in rz_
  omega
theorem rz_fit {s : ra_V} {m : Int} (h : s 180 = σ 180) (hw : WF σ) (hz : GZ σ s) (hi : 0 ≤ g ∧ g < ra_g s 179 10) (hm : 1 ≤ m) (hr : m ≤ rz_ s g) : US σ (rs_ s g) m ∧ ¬ TK σ (rs_ s g) m (-1) ∧ ¬ BT σ (rs_ s g) m := by
  have hb := rs_b (WF_k h hw) (GZ_k h hz) hi
  refine gp_free hw (hz.2.2 g hi.1 hi.2) hm hb.1 ?_
  unfold rz_ at hr
  omega
end
end RB
end
section
/-! the reference: what its methods do (printed by wip/gen/ref.py) -/
section RB
theorem sp_219 {n : Nat} {f : Nat → Int32} {d : Nat} {x0 : Int} {σ : ra_V} (hx0 : ra_in x0) (hw : WF σ) (hz : GZ σ σ) (hi : 0 ≤ x0 ∧ x0 < ra_g σ 179 10) : ra_C (g_Gs n f) g_sh 0 (d + 2) 219 [.index (179), ra_I x0] σ (fun r s => r = .inl (some (ra_I (rs_ σ x0))) ∧ s = σ) := by
  refine ra_enter (nn := 0) mt_219 rfl (Nat.le_of_ble_eq_true rfl) rfl (fun h => absurd h (by decide +kernel)) ?_
  have hw0 := WF_a hw
  unfold WFa at hw0
  have hz0 := hz
  obtain ⟨z1, z2, z3⟩ := hz0
  obtain ⟨p1, p2, p3, p4⟩ := z3 x0 (by omega) (by omega)
  refine ra_load rfl rfl rfl rfl ?_
  refine ra_getR rfl lk_8_25 (Nat.zero_le _) sh_179 rfl ?_
  refine ra_load rfl rfl rfl rfl ?_
  refine ra_iaload rfl sh_185 rfl (by decide) (by first | omega | (unfold ra_in at *; omega)) (by first | omega | (unfold ra_in at *; omega)) ?_
  have hr1 : ra_in (ra_g σ (185) x0.toNat) := (ra_in_g _ _ _)
  refine ra_load rfl rfl rfl rfl ?_
  refine ra_getR rfl lk_8_7 (Nat.zero_le _) sh_179 rfl ?_
  refine ra_iconst rfl ?_
  refine ra_ialoadJ (j := 3) rfl sh_180 rfl (by decide) rfl (by decide) ?_
  have hr2 : ra_in (ra_g σ (180) 3) := (ra_in_g _ _ _)
  refine ra_cTp (sp_207 hr1 hr2 (by first | assumption | rfl | omega)) rfl (ct_207 rfl lk_8_120 (Or.inl rfl) (Nat.le_of_ble_eq_true rfl)) ?_
  have hr4 : ra_in (((ra_g σ (185) x0.toNat) + (ra_g σ (180) 3) - 1).tdiv (ra_g σ (180) 3)) := (ra_in_tdiv (by unfold ra_in; omega) (by omega))
  refine ra_load rfl rfl rfl rfl ?_
  refine ra_getR rfl lk_8_7 (Nat.zero_le _) sh_179 rfl ?_
  refine ra_iconst rfl ?_
  refine ra_ialoadJ (j := 3) rfl sh_180 rfl (by decide) rfl (by decide) ?_
  have hr5 : ra_in (ra_g σ (180) 3) := (ra_in_g _ _ _)
  refine ra_imul rfl ?_
  exact ra_ireturn rfl rfl ⟨(congrArg (fun z => Sum.inl (some (ra_I z))) rfl), rfl⟩
theorem sp_220 {n : Nat} {f : Nat → Int32} {d : Nat} {x0 : Int} {σ : ra_V} (hx0 : ra_in x0) (hw : WF σ) (hz : GZ σ σ) (hi : 0 ≤ x0 ∧ x0 < ra_g σ 179 10) : ra_C (g_Gs n f) g_sh 0 (d + 3) 220 [.index (179), ra_I x0] σ (fun r s => r = .inl (some (ra_I (rz_ σ x0))) ∧ s = σ) := by
  refine ra_enter (nn := 0) mt_220 rfl (Nat.le_of_ble_eq_true rfl) rfl (fun h => absurd h (by decide +kernel)) ?_
  have hs0 := rs_b hw hz hi
  have hw0 := WF_a hw
  unfold WFa at hw0
  have hz0 := hz
  obtain ⟨z1, z2, z3⟩ := hz0
  obtain ⟨p1, p2, p3, p4⟩ := z3 x0 (by omega) (by omega)
  refine ra_iconst rfl ?_
  refine ra_load rfl rfl rfl rfl ?_
  refine ra_getR rfl lk_8_25 (Nat.zero_le _) sh_179 rfl ?_
  refine ra_load rfl rfl rfl rfl ?_
  refine ra_iaload rfl sh_185 rfl (by decide) (by first | omega | (unfold ra_in at *; omega)) (by first | omega | (unfold ra_in at *; omega)) ?_
  have hr1 : ra_in (ra_g σ (185) x0.toNat) := (ra_in_g _ _ _)
  refine ra_load rfl rfl rfl rfl ?_
  refine ra_getR rfl lk_8_28 (Nat.zero_le _) sh_179 rfl ?_
  refine ra_load rfl rfl rfl rfl ?_
  refine ra_iaload rfl sh_186 rfl (by decide) (by first | omega | (unfold ra_in at *; omega)) (by first | omega | (unfold ra_in at *; omega)) ?_
  have hr2 : ra_in (ra_g σ (186) x0.toNat) := (ra_in_g _ _ _)
  refine ra_iadd rfl ?_
  refine ra_load rfl rfl rfl rfl ?_
  refine ra_load rfl rfl rfl rfl ?_
  refine ra_cTp (sp_219 hx0 hw (by first | assumption | rfl | omega) (by first | assumption | rfl | omega)) rfl (ct_219 rfl lk_8_123 (Or.inl rfl) sh_179 (Nat.le_of_ble_eq_true rfl)) ?_
  have hr4 : ra_in (rs_ σ x0) := (rs_in hw (by first | assumption | rfl | omega) (by first | assumption | rfl | omega))
  refine ra_isub rfl ?_
  refine ra_max rfl lk_8_127 (by first | omega | (unfold ra_in at *; omega)) (by first | omega | (unfold ra_in at *; omega)) (Nat.le_of_ble_eq_true rfl) ?_
  exact ra_ireturn rfl rfl ⟨(congrArg (fun z => Sum.inl (some (ra_I z))) rfl), rfl⟩
theorem lp_221_8 {n : Nat} {f : Nat → Int32} {d : Nat}  {σ : ra_V} (hw : WF σ) : ∀ (nn : Nat) (v1 : Int) (v2 : Int) (s : ra_V) (hv1 : ra_in v1) (hv2_0 : 0 ≤ v2) (hv2_1 : v2 ≤ 300) (hF : Fr (179) (187) σ s) (hk0 : s (180) = σ (180)) (hk1 : s (181) = σ (181)) (hk2 : s (182) = σ (182)) (hk3 : s (183) = σ (183)) (hk4 : s (184) = σ (184)) (ho : ∀ a, a ≠ 10 → ra_g s 179 a = ra_g σ 179 a) (hz : GZ σ s) (hm : ((ra_g s 179 10 - v2 : Int)).toNat < nn), ra_P (g_Gs n f) g_sh 0 (d + 5) g_m_X8_mostRoom 8 [some (.index (179)), some (ra_I v1), some (ra_I v2)] [] s (fun r s => rI r ∧ Fr (179) (187) σ s ∧ s (180) = σ (180) ∧ s (181) = σ (181) ∧ s (182) = σ (182) ∧ s (183) = σ (183) ∧ s (184) = σ (184) ∧ (∀ a, a ≠ 10 → ra_g s 179 a = ra_g σ 179 a) ∧ GZ σ s) := by
  intro nn
  induction nn with
  | zero => intro v1 v2 s hv1 hv2_0 hv2_1 hF hk0 hk1 hk2 hk3 hk4 ho hz hm; exact absurd hm (Nat.not_lt_zero _)
  | succ nn ih =>
    intro v1 v2 s hv1 hv2_0 hv2_1 hF hk0 hk1 hk2 hk3 hk4 ho hz hm
    have hz0 := hz
    obtain ⟨z1, z2, z3⟩ := hz0
    refine ra_load rfl rfl rfl rfl ?_
    refine ra_load rfl rfl rfl rfl ?_
    refine ra_getI rfl lk_8_114 (Nat.zero_le _) sh_179 rfl ?_
    have hr16 : ra_in (ra_g s (179) 10) := (ra_in_g _ _ _)
    refine ra_icge rfl rfl (by first | omega | (unfold ra_in at *; omega)) hr16 (fun h17 => ?_) (fun h17 => ?_)
    · refine ra_load rfl rfl rfl rfl ?_
      exact ra_ireturn rfl rfl ⟨⟨_, hv1, rfl⟩, ⟨hF, hk0, hk1, hk2, hk3, hk4, ho, hz⟩⟩
    · refine ra_load rfl rfl rfl rfl ?_
      refine ra_load rfl rfl rfl rfl ?_
      refine ra_load rfl rfl rfl rfl ?_
      refine ra_cTp (sp_220 (by first | omega | (unfold ra_in at *; omega)) (WF_k hk0 hw) (GZ_k hk0 hz) (by first | assumption | rfl | omega)) rfl (ct_220 rfl lk_8_133 (Or.inl rfl) sh_179 (Nat.le_of_ble_eq_true rfl)) ?_
      have hr19 : ra_in (rz_ s v2) := (rz_in (WF_k hk0 hw) (GZ_k hk0 hz) (by first | assumption | rfl | omega))
      refine ra_max rfl lk_8_127 hv1 hr19 (Nat.le_of_ble_eq_true rfl) ?_
      refine ra_store (L' := [_, _, _]) rfl rfl rfl (Nat.le_of_ble_eq_true rfl) rfl ?_
      refine ra_iinc (L' := [_, _, _]) rfl rfl (Nat.le_of_ble_eq_true rfl) rfl ?_
      refine ra_goto rfl rfl ?_
      exact ra_weak (by repeat' constructor) (ih (max v1 (rz_ s v2)) (v2 + 1) s (by first | omega | (unfold ra_in at *; omega)) (by first | omega | (unfold ra_in at *; omega)) (by first | omega | (unfold ra_in at *; omega)) hF hk0 hk1 hk2 hk3 hk4 (by first | assumption | omega) (by first | assumption | omega) (by first | omega | (unfold ra_in at *; omega)))
theorem sp_221 {n : Nat} {f : Nat → Int32} {d : Nat}  {σ : ra_V} (hw : WF σ) : ra_C (g_Gs n f) g_sh 0 (d + 6) 221 [.index (179)] σ (fun r s => rI r ∧ Fr (179) (187) σ s ∧ s (180) = σ (180) ∧ s (181) = σ (181) ∧ s (182) = σ (182) ∧ s (183) = σ (183) ∧ s (184) = σ (184) ∧ (∀ a, a ≠ 10 → ra_g s 179 a = ra_g σ 179 a) ∧ GZ σ s) := by
  refine ra_enter (nn := 2) mt_221 rfl (Nat.le_of_ble_eq_true rfl) rfl (fun h => absurd h (by decide +kernel)) ?_
  refine ra_load rfl rfl rfl rfl ?_
  refine ra_cV (sp_218 hw) rfl (ct_218 rfl lk_8_130 (Or.inl rfl) sh_179 (Nat.le_of_ble_eq_true rfl)) (fun s1 hs1 => ?_)
  obtain ⟨hf2, hc3, hc4, hc5, hc6, hc7, he8, he9⟩ := hs1
  have hF10 := Fr_tr (lo := 179) (hi := 187) Fr_rf hf2 (by omega)
  have hk11 : s1 (180) = σ (180) := hc3
  have hk12 : s1 (181) = σ (181) := hc4
  have hk13 : s1 (182) = σ (182) := hc5
  have hk14 : s1 (183) = σ (183) := hc6
  have hk15 : s1 (184) = σ (184) := hc7
  have he9a := he9.1
  have he9b := he9.2.1
  refine ra_iconst rfl ?_
  refine ra_store (L' := [_, _, _]) rfl rfl rfl (Nat.le_of_ble_eq_true rfl) rfl ?_
  refine ra_iconst rfl ?_
  refine ra_store (L' := [_, _, _]) rfl rfl rfl (Nat.le_of_ble_eq_true rfl) rfl ?_
  exact ra_weak (by repeat' constructor) (lp_221_8 hw _ (0) (0) s1 (by first | omega | (unfold ra_in at *; omega)) (by first | omega | (unfold ra_in at *; omega)) (by first | omega | (unfold ra_in at *; omega)) hF10 hk11 hk12 hk13 hk14 hk15 he8 he9 (Nat.lt_succ_self _))
theorem lp_222_16 {n : Nat} {f : Nat → Int32} {d : Nat} {x0 : Int} {x1 : Int} {σ : ra_V} (hx0 : ra_in x0) (hx1 : ra_in x1) (hw : WF σ) : ∀ (nn : Nat) (v3 : Int) (v4 : Int) (s : ra_V) (hv3_0 : -1 ≤ v3) (hv3_1 : v3 < ra_g s 179 10 ∨ v3 = -1) (hv3_2 : v3 ≠ -1 → x0 ≤ rz_ s v3) (hv4_0 : 0 ≤ v4) (hv4_1 : v4 ≤ 300) (hF : Fr (179) (187) σ s) (hk0 : s (180) = σ (180)) (hk1 : s (181) = σ (181)) (hk2 : s (182) = σ (182)) (hk3 : s (183) = σ (183)) (hk4 : s (184) = σ (184)) (ho : ∀ a, a ≠ 10 → ra_g s 179 a = ra_g σ 179 a) (hz : GZ σ s) (h1x : 1 ≤ x0) (hm : ((ra_g s 179 10 - v4 : Int)).toNat < nn), ra_P (g_Gs n f) g_sh 0 (d + 5) g_m_X8_fits 16 [some (.index (179)), some (ra_I x0), some (ra_I x1), some (ra_I v3), some (ra_I v4)] [] s (fun r s => (∃ z, ra_in z ∧ (z = -1 ∨ (US σ z x0 ∧ ¬ TK σ z x0 (-1) ∧ ¬ BT σ z x0)) ∧ r = .inl (some (ra_I z))) ∧ Fr (179) (187) σ s ∧ s (180) = σ (180) ∧ s (181) = σ (181) ∧ s (182) = σ (182) ∧ s (183) = σ (183) ∧ s (184) = σ (184) ∧ (∀ a, a ≠ 10 → ra_g s 179 a = ra_g σ 179 a)) := by
  intro nn
  induction nn with
  | zero => intro v3 v4 s hv3_0 hv3_1 hv3_2 hv4_0 hv4_1 hF hk0 hk1 hk2 hk3 hk4 ho hz h1x hm; exact absurd hm (Nat.not_lt_zero _)
  | succ nn ih =>
    intro v3 v4 s hv3_0 hv3_1 hv3_2 hv4_0 hv4_1 hF hk0 hk1 hk2 hk3 hk4 ho hz h1x hm
    have hz0 := hz
    obtain ⟨z1, z2, z3⟩ := hz0
    refine ra_load rfl rfl rfl rfl ?_
    refine ra_load rfl rfl rfl rfl ?_
    refine ra_getI rfl lk_8_114 (Nat.zero_le _) sh_179 rfl ?_
    have hr17 : ra_in (ra_g s (179) 10) := (ra_in_g _ _ _)
    refine ra_icge rfl rfl (by first | omega | (unfold ra_in at *; omega)) hr17 (fun h18 => ?_) (fun h18 => ?_)
    · refine ra_load rfl rfl rfl rfl ?_
      refine ra_iconst rfl ?_
      refine ra_icne rfl rfl (by first | omega | (unfold ra_in at *; omega)) (by first | omega | (unfold ra_in at *; omega)) (fun h19 => ?_) (fun h19 => ?_)
      · refine ra_load rfl rfl rfl rfl ?_
        refine ra_load rfl rfl rfl rfl ?_
        refine ra_cTp (sp_219 (by first | omega | (unfold ra_in at *; omega)) (WF_k hk0 hw) (GZ_k hk0 hz) (by first | assumption | rfl | omega)) rfl (ct_219 rfl lk_8_123 (Or.inl rfl) sh_179 (Nat.le_of_ble_eq_true rfl)) ?_
        have hr21 : ra_in (rs_ s v3) := (rs_in (WF_k hk0 hw) (GZ_k hk0 hz) (by first | assumption | rfl | omega))
        exact ra_ireturn rfl rfl ⟨⟨_, hr21, (Or.inr (rz_fit hk0 hw hz (by omega) (by omega) (hv3_2 (by omega)))), rfl⟩, ⟨hF, hk0, hk1, hk2, hk3, hk4, ho⟩⟩
      · refine ra_iconst rfl ?_
        refine ra_goto rfl rfl ?_
        exact ra_ireturn rfl rfl ⟨⟨_, (by first | omega | (unfold ra_in at *; omega)), (Or.inl rfl), rfl⟩, ⟨hF, hk0, hk1, hk2, hk3, hk4, ho⟩⟩
    · refine ra_load rfl rfl rfl rfl ?_
      refine ra_load rfl rfl rfl rfl ?_
      refine ra_cTp (sp_220 (by first | omega | (unfold ra_in at *; omega)) (WF_k hk0 hw) (GZ_k hk0 hz) (by first | assumption | rfl | omega)) rfl (ct_220 rfl lk_8_133 (Or.inl rfl) sh_179 (Nat.le_of_ble_eq_true rfl)) ?_
      have hr23 : ra_in (rz_ s v4) := (rz_in (WF_k hk0 hw) (GZ_k hk0 hz) (by first | assumption | rfl | omega))
      refine ra_load rfl rfl rfl rfl ?_
      refine ra_icge rfl rfl hr23 hx0 (fun h24 => ?_) (fun h24 => ?_)
      · refine ra_load rfl rfl rfl rfl ?_
        refine ra_iconst rfl ?_
        refine ra_iceq rfl rfl (by first | omega | (unfold ra_in at *; omega)) (by first | omega | (unfold ra_in at *; omega)) (fun h25 => ?_) (fun h25 => ?_)
        · refine ra_load rfl rfl rfl rfl ?_
          refine ra_store (L' := [_, _, _, _, _]) rfl rfl rfl (Nat.le_of_ble_eq_true rfl) rfl ?_
          refine ra_iinc (L' := [_, _, _, _, _]) rfl rfl (Nat.le_of_ble_eq_true rfl) rfl ?_
          refine ra_goto rfl rfl ?_
          exact ra_weak (by repeat' constructor) (ih v4 (v4 + 1) s (by first | omega | (unfold ra_in at *; omega)) (by first | omega | (unfold ra_in at *; omega)) (by first | exact hv3_2 | (intro q; omega)) (by first | omega | (unfold ra_in at *; omega)) (by first | omega | (unfold ra_in at *; omega)) hF hk0 hk1 hk2 hk3 hk4 (by first | assumption | omega) (by first | assumption | omega) (by omega) (by first | omega | (unfold ra_in at *; omega)))
        · refine ra_load rfl rfl rfl rfl ?_
          refine ra_iconst rfl ?_
          refine ra_icne rfl rfl hx1 (by first | omega | (unfold ra_in at *; omega)) (fun h26 => ?_) (fun h26 => ?_)
          · refine ra_load rfl rfl rfl rfl ?_
            refine ra_iconst rfl ?_
            refine ra_icne rfl rfl hx1 (by first | omega | (unfold ra_in at *; omega)) (fun h27 => ?_) (fun h27 => ?_)
            · refine ra_iinc (L' := [_, _, _, _, _]) rfl rfl (Nat.le_of_ble_eq_true rfl) rfl ?_
              refine ra_goto rfl rfl ?_
              exact ra_weak (by repeat' constructor) (ih v3 (v4 + 1) s (by first | omega | (unfold ra_in at *; omega)) (by first | omega | (unfold ra_in at *; omega)) (by first | exact hv3_2 | (intro q; omega)) (by first | omega | (unfold ra_in at *; omega)) (by first | omega | (unfold ra_in at *; omega)) hF hk0 hk1 hk2 hk3 hk4 (by first | assumption | omega) (by first | assumption | omega) (by omega) (by first | omega | (unfold ra_in at *; omega)))
            · refine ra_load rfl rfl rfl rfl ?_
              refine ra_load rfl rfl rfl rfl ?_
              refine ra_cTp (sp_220 (by first | omega | (unfold ra_in at *; omega)) (WF_k hk0 hw) (GZ_k hk0 hz) (by first | assumption | rfl | omega)) rfl (ct_220 rfl lk_8_133 (Or.inl rfl) sh_179 (Nat.le_of_ble_eq_true rfl)) ?_
              have hr29 : ra_in (rz_ s v4) := (rz_in (WF_k hk0 hw) (GZ_k hk0 hz) (by first | assumption | rfl | omega))
              refine ra_load rfl rfl rfl rfl ?_
              refine ra_load rfl rfl rfl rfl ?_
              refine ra_cTp (sp_220 (by first | omega | (unfold ra_in at *; omega)) (WF_k hk0 hw) (GZ_k hk0 hz) (by first | assumption | rfl | omega)) rfl (ct_220 rfl lk_8_133 (Or.inl rfl) sh_179 (Nat.le_of_ble_eq_true rfl)) ?_
              have hr31 : ra_in (rz_ s v3) := (rz_in (WF_k hk0 hw) (GZ_k hk0 hz) (by first | assumption | rfl | omega))
              refine ra_icle rfl rfl hr29 hr31 (fun h32 => ?_) (fun h32 => ?_)
              · refine ra_iinc (L' := [_, _, _, _, _]) rfl rfl (Nat.le_of_ble_eq_true rfl) rfl ?_
                refine ra_goto rfl rfl ?_
                exact ra_weak (by repeat' constructor) (ih v3 (v4 + 1) s (by first | omega | (unfold ra_in at *; omega)) (by first | omega | (unfold ra_in at *; omega)) (by first | exact hv3_2 | (intro q; omega)) (by first | omega | (unfold ra_in at *; omega)) (by first | omega | (unfold ra_in at *; omega)) hF hk0 hk1 hk2 hk3 hk4 (by first | assumption | omega) (by first | assumption | omega) (by omega) (by first | omega | (unfold ra_in at *; omega)))
              · refine ra_load rfl rfl rfl rfl ?_
                refine ra_store (L' := [_, _, _, _, _]) rfl rfl rfl (Nat.le_of_ble_eq_true rfl) rfl ?_
                refine ra_iinc (L' := [_, _, _, _, _]) rfl rfl (Nat.le_of_ble_eq_true rfl) rfl ?_
                refine ra_goto rfl rfl ?_
                exact ra_weak (by repeat' constructor) (ih v4 (v4 + 1) s (by first | omega | (unfold ra_in at *; omega)) (by first | omega | (unfold ra_in at *; omega)) (by first | exact hv3_2 | (intro q; omega)) (by first | omega | (unfold ra_in at *; omega)) (by first | omega | (unfold ra_in at *; omega)) hF hk0 hk1 hk2 hk3 hk4 (by first | assumption | omega) (by first | assumption | omega) (by omega) (by first | omega | (unfold ra_in at *; omega)))
          · refine ra_load rfl rfl rfl rfl ?_
            refine ra_load rfl rfl rfl rfl ?_
            refine ra_cTp (sp_220 (by first | omega | (unfold ra_in at *; omega)) (WF_k hk0 hw) (GZ_k hk0 hz) (by first | assumption | rfl | omega)) rfl (ct_220 rfl lk_8_133 (Or.inl rfl) sh_179 (Nat.le_of_ble_eq_true rfl)) ?_
            have hr34 : ra_in (rz_ s v4) := (rz_in (WF_k hk0 hw) (GZ_k hk0 hz) (by first | assumption | rfl | omega))
            refine ra_load rfl rfl rfl rfl ?_
            refine ra_load rfl rfl rfl rfl ?_
            refine ra_cTp (sp_220 (by first | omega | (unfold ra_in at *; omega)) (WF_k hk0 hw) (GZ_k hk0 hz) (by first | assumption | rfl | omega)) rfl (ct_220 rfl lk_8_133 (Or.inl rfl) sh_179 (Nat.le_of_ble_eq_true rfl)) ?_
            have hr36 : ra_in (rz_ s v3) := (rz_in (WF_k hk0 hw) (GZ_k hk0 hz) (by first | assumption | rfl | omega))
            refine ra_iclt rfl rfl hr34 hr36 (fun h37 => ?_) (fun h37 => ?_)
            · refine ra_load rfl rfl rfl rfl ?_
              refine ra_store (L' := [_, _, _, _, _]) rfl rfl rfl (Nat.le_of_ble_eq_true rfl) rfl ?_
              refine ra_iinc (L' := [_, _, _, _, _]) rfl rfl (Nat.le_of_ble_eq_true rfl) rfl ?_
              refine ra_goto rfl rfl ?_
              exact ra_weak (by repeat' constructor) (ih v4 (v4 + 1) s (by first | omega | (unfold ra_in at *; omega)) (by first | omega | (unfold ra_in at *; omega)) (by first | exact hv3_2 | (intro q; omega)) (by first | omega | (unfold ra_in at *; omega)) (by first | omega | (unfold ra_in at *; omega)) hF hk0 hk1 hk2 hk3 hk4 (by first | assumption | omega) (by first | assumption | omega) (by omega) (by first | omega | (unfold ra_in at *; omega)))
            · refine ra_load rfl rfl rfl rfl ?_
              refine ra_iconst rfl ?_
              refine ra_icne rfl rfl hx1 (by first | omega | (unfold ra_in at *; omega)) (fun h38 => ?_) (fun h38 => ?_)
              · refine ra_iinc (L' := [_, _, _, _, _]) rfl rfl (Nat.le_of_ble_eq_true rfl) rfl ?_
                refine ra_goto rfl rfl ?_
                exact ra_weak (by repeat' constructor) (ih v3 (v4 + 1) s (by first | omega | (unfold ra_in at *; omega)) (by first | omega | (unfold ra_in at *; omega)) (by first | exact hv3_2 | (intro q; omega)) (by first | omega | (unfold ra_in at *; omega)) (by first | omega | (unfold ra_in at *; omega)) hF hk0 hk1 hk2 hk3 hk4 (by first | assumption | omega) (by first | assumption | omega) (by omega) (by first | omega | (unfold ra_in at *; omega)))
              · refine ra_load rfl rfl rfl rfl ?_
                refine ra_load rfl rfl rfl rfl ?_
                refine ra_cTp (sp_220 (by first | omega | (unfold ra_in at *; omega)) (WF_k hk0 hw) (GZ_k hk0 hz) (by first | assumption | rfl | omega)) rfl (ct_220 rfl lk_8_133 (Or.inl rfl) sh_179 (Nat.le_of_ble_eq_true rfl)) ?_
                have hr40 : ra_in (rz_ s v4) := (rz_in (WF_k hk0 hw) (GZ_k hk0 hz) (by first | assumption | rfl | omega))
                refine ra_load rfl rfl rfl rfl ?_
                refine ra_load rfl rfl rfl rfl ?_
                refine ra_cTp (sp_220 (by first | omega | (unfold ra_in at *; omega)) (WF_k hk0 hw) (GZ_k hk0 hz) (by first | assumption | rfl | omega)) rfl (ct_220 rfl lk_8_133 (Or.inl rfl) sh_179 (Nat.le_of_ble_eq_true rfl)) ?_
                have hr42 : ra_in (rz_ s v3) := (rz_in (WF_k hk0 hw) (GZ_k hk0 hz) (by first | assumption | rfl | omega))
                refine ra_icle rfl rfl hr40 hr42 (fun h43 => ?_) (fun h43 => ?_)
                · refine ra_iinc (L' := [_, _, _, _, _]) rfl rfl (Nat.le_of_ble_eq_true rfl) rfl ?_
                  refine ra_goto rfl rfl ?_
                  exact ra_weak (by repeat' constructor) (ih v3 (v4 + 1) s (by first | omega | (unfold ra_in at *; omega)) (by first | omega | (unfold ra_in at *; omega)) (by first | exact hv3_2 | (intro q; omega)) (by first | omega | (unfold ra_in at *; omega)) (by first | omega | (unfold ra_in at *; omega)) hF hk0 hk1 hk2 hk3 hk4 (by first | assumption | omega) (by first | assumption | omega) (by omega) (by first | omega | (unfold ra_in at *; omega)))
                · refine ra_load rfl rfl rfl rfl ?_
                  refine ra_store (L' := [_, _, _, _, _]) rfl rfl rfl (Nat.le_of_ble_eq_true rfl) rfl ?_
                  refine ra_iinc (L' := [_, _, _, _, _]) rfl rfl (Nat.le_of_ble_eq_true rfl) rfl ?_
                  refine ra_goto rfl rfl ?_
                  exact ra_weak (by repeat' constructor) (ih v4 (v4 + 1) s (by first | omega | (unfold ra_in at *; omega)) (by first | omega | (unfold ra_in at *; omega)) (by first | exact hv3_2 | (intro q; omega)) (by first | omega | (unfold ra_in at *; omega)) (by first | omega | (unfold ra_in at *; omega)) hF hk0 hk1 hk2 hk3 hk4 (by first | assumption | omega) (by first | assumption | omega) (by omega) (by first | omega | (unfold ra_in at *; omega)))
      · refine ra_goto rfl rfl ?_
        refine ra_iinc (L' := [_, _, _, _, _]) rfl rfl (Nat.le_of_ble_eq_true rfl) rfl ?_
        refine ra_goto rfl rfl ?_
        exact ra_weak (by repeat' constructor) (ih v3 (v4 + 1) s (by first | omega | (unfold ra_in at *; omega)) (by first | omega | (unfold ra_in at *; omega)) (by first | exact hv3_2 | (intro q; omega)) (by first | omega | (unfold ra_in at *; omega)) (by first | omega | (unfold ra_in at *; omega)) hF hk0 hk1 hk2 hk3 hk4 (by first | assumption | omega) (by first | assumption | omega) (by omega) (by first | omega | (unfold ra_in at *; omega)))
theorem sp_222 {n : Nat} {f : Nat → Int32} {d : Nat} {x0 : Int} {x1 : Int} {σ : ra_V} (hx0 : ra_in x0) (hx1 : ra_in x1) (hw : WF σ) : ra_C (g_Gs n f) g_sh 0 (d + 6) 222 [.index (179), ra_I x0, ra_I x1] σ (fun r s => (∃ z, ra_in z ∧ (z = -1 ∨ (US σ z x0 ∧ ¬ TK σ z x0 (-1) ∧ ¬ BT σ z x0)) ∧ r = .inl (some (ra_I z))) ∧ Fr (179) (187) σ s ∧ s (180) = σ (180) ∧ s (181) = σ (181) ∧ s (182) = σ (182) ∧ s (183) = σ (183) ∧ s (184) = σ (184) ∧ (∀ a, a ≠ 10 → ra_g s 179 a = ra_g σ 179 a)) := by
  refine ra_enter (nn := 2) mt_222 rfl (Nat.le_of_ble_eq_true rfl) rfl (fun h => absurd h (by decide +kernel)) ?_
  refine ra_load rfl rfl rfl rfl ?_
  refine ra_iconst rfl ?_
  refine ra_icge rfl rfl hx0 (by first | omega | (unfold ra_in at *; omega)) (fun h1 => ?_) (fun h1 => ?_)
  · refine ra_load rfl rfl rfl rfl ?_
    refine ra_cV (sp_218 hw) rfl (ct_218 rfl lk_8_130 (Or.inl rfl) sh_179 (Nat.le_of_ble_eq_true rfl)) (fun s2 hs2 => ?_)
    obtain ⟨hf3, hc4, hc5, hc6, hc7, hc8, he9, he10⟩ := hs2
    have hF11 := Fr_tr (lo := 179) (hi := 187) Fr_rf hf3 (by omega)
    have hk12 : s2 (180) = σ (180) := hc4
    have hk13 : s2 (181) = σ (181) := hc5
    have hk14 : s2 (182) = σ (182) := hc6
    have hk15 : s2 (183) = σ (183) := hc7
    have hk16 : s2 (184) = σ (184) := hc8
    have he10a := he10.1
    have he10b := he10.2.1
    refine ra_iconst rfl ?_
    refine ra_store (L' := [_, _, _, _, _]) rfl rfl rfl (Nat.le_of_ble_eq_true rfl) rfl ?_
    refine ra_iconst rfl ?_
    refine ra_store (L' := [_, _, _, _, _]) rfl rfl rfl (Nat.le_of_ble_eq_true rfl) rfl ?_
    exact ra_weak (by repeat' constructor) (lp_222_16 hx0 hx1 hw _ (-1) (0) s2 (by first | omega | (unfold ra_in at *; omega)) (by first | omega | (unfold ra_in at *; omega)) (fun q => absurd rfl q) (by first | omega | (unfold ra_in at *; omega)) (by first | omega | (unfold ra_in at *; omega)) hF11 hk12 hk13 hk14 hk15 hk16 he9 he10 (by omega) (Nat.lt_succ_self _))
  · refine ra_iconst rfl ?_
    exact ra_ireturn rfl rfl ⟨⟨_, (by first | omega | (unfold ra_in at *; omega)), (Or.inl rfl), rfl⟩, ⟨Fr_rf, rfl, rfl, rfl, rfl, rfl, fun _ _ => rfl⟩⟩
end RB
end
section
/-! the reference: what its methods do (printed by wip/gen/ref.py) -/
section RB
theorem sp_268 {n : Nat} {f : Nat → Int32} {d : Nat} {x0 : Int} {x1 : Int} {σ : ra_V} (hx0 : ra_in x0) (hx1 : ra_in x1) : ra_C (g_Gs n f) g_sh 0 (d + 3) 268 [.index (179), ra_I x0, ra_I x1] σ (fun r s => (∃ z : Int, (z = 0 ∨ z = 1) ∧ (z = 0 → (0 ≤ x0 ∧ x0 < 8 ∧ wq σ x0 0 = 1)) ∧ r = .inl (some (ra_I z))) ∧ Fr (179) (180) σ s ∧ (∀ a, a ≠ 7 → ra_g s 179 a = ra_g σ 179 a)) := by
  refine ra_enter (nn := 0) mt_268 rfl (Nat.le_of_ble_eq_true rfl) rfl (fun h => absurd h (by decide +kernel)) ?_
  refine ra_load rfl rfl rfl rfl ?_
  refine ra_load rfl rfl rfl rfl ?_
  refine ra_load rfl rfl rfl rfl ?_
  refine ra_cQPp (sp_202 hx0) rfl (ct_202 rfl lk_8_313 (Or.inl rfl) sh_179 (Nat.le_of_ble_eq_true rfl)) (fun z2 hz2 hz2p => ?_)
  refine ra_ifne rfl rfl (ra_in01 hz2) (fun h3 => ?_) (fun h3 => ?_)
  · refine ra_iconst rfl ?_
    refine ra_load rfl rfl rfl rfl ?_
    refine ra_cT (sp_194 (Or.inl rfl) hx1) rfl (ct_194 rfl lk_8_303 (Or.inl rfl) sh_179 (Nat.le_of_ble_eq_true rfl)) (fun s4 hs4 => ?_)
    obtain ⟨hf5, he6⟩ := hs4
    have hF7 := Fr_tr (lo := 179) (hi := 180) Fr_rf hf5 (by omega)
    exact ra_ireturn rfl (ra_okB (Or.inl rfl)) ⟨⟨_, (Or.inl rfl), (fun _ => hz2p.mp (by omega)), rfl⟩, ⟨hF7, he6⟩⟩
  · refine ra_iconst rfl ?_
    refine ra_goto rfl rfl ?_
    refine ra_load rfl rfl rfl rfl ?_
    refine ra_cT (sp_194 (Or.inr rfl) hx1) rfl (ct_194 rfl lk_8_303 (Or.inl rfl) sh_179 (Nat.le_of_ble_eq_true rfl)) (fun s8 hs8 => ?_)
    obtain ⟨hf9, he10⟩ := hs8
    have hF11 := Fr_tr (lo := 179) (hi := 180) Fr_rf hf9 (by omega)
    exact ra_ireturn rfl (ra_okB (Or.inr rfl)) ⟨⟨_, (Or.inr rfl), (fun hq => absurd hq (by decide)), rfl⟩, ⟨hF11, he10⟩⟩
theorem sp_270 {n : Nat} {f : Nat → Int32} {d : Nat} {x0 : Int} {σ : ra_V} (hx0 : ra_in x0) (hw : WF σ) : ra_C (g_Gs n f) g_sh 0 (d + 2) 270 [.index (179), ra_I x0] σ (fun r s => (∃ z : Int, (z = 0 ∨ z = 1) ∧ (z = 0 → (0 ≤ x0 ∧ x0 < ra_g σ 180 0)) ∧ r = .inl (some (ra_I z))) ∧ Fr (179) (187) σ s ∧ s (180) = σ (180) ∧ s (181) = σ (181) ∧ s (182) = σ (182) ∧ s (183) = σ (183) ∧ s (184) = σ (184) ∧ (∀ a, a ≠ 7 → a ≠ 10 → ra_g s 179 a = ra_g σ 179 a)) := by
  refine ra_enter (nn := 0) mt_270 rfl (Nat.le_of_ble_eq_true rfl) rfl (fun h => absurd h (by decide +kernel)) ?_
  have hw0 := WF_a hw
  unfold WFa at hw0
  refine ra_load rfl rfl rfl rfl ?_
  refine ra_iconst rfl ?_
  refine ra_putI rfl lk_8_51 (Nat.zero_le _) sh_179 rfl rfl ?_
  refine ra_newU (by first | omega | (unfold ra_in at *; omega)) (fun s1 hs1 hp2 hp2o => ?_)
  have hp2_99 := hp2o 99 (by decide)
  have hF3 := Fr_tr (lo := 179) (hi := 187) Fr_rf hs1 (by omega)
  have hk4 : s1 (180) = σ (180) := (hs1 (180) (by omega))
  have hk5 : s1 (181) = σ (181) := (hs1 (181) (by omega))
  have hk6 : s1 (182) = σ (182) := (hs1 (182) (by omega))
  have hk7 : s1 (183) = σ (183) := (hs1 (183) (by omega))
  have hk8 : s1 (184) = σ (184) := (hs1 (184) (by omega))
  have ho9 : ∀ a, a ≠ 7 → a ≠ 10 → ra_g s1 179 a = ra_g σ 179 a := fun a h7 h10 => ((fun a h7 h10 => hp2o a h7) a h7 h10).trans ((fun _ _ _ => rfl) a h7 h10)
  refine ra_load rfl rfl rfl rfl ?_
  refine ra_load rfl rfl rfl rfl ?_
  refine ra_i2l rfl hx0 ?_
  refine ra_lconst0 rfl ?_
  refine ra_load rfl rfl rfl rfl ?_
  refine ra_getR rfl lk_8_7 (Nat.zero_le _) sh_179 rfl ?_
  refine ra_iconst rfl ?_
  refine ra_ialoadJ (j := 0) rfl sh_180 rfl (by decide) rfl (by decide) ?_
  rw [ra_gk hk4]
  have hr10 : ra_in (ra_g σ (180) 0) := (ra_in_g _ _ _)
  refine ra_iconst rfl ?_
  refine ra_isub rfl ?_
  refine ra_i2l rfl (by first | omega | (unfold ra_in at *; omega)) ?_
  refine ra_cTp (sp_193 hx0 (by first | omega | (unfold ra_in at *; omega)) (by first | omega | (unfold ra_in at *; omega))) rfl (ct_193 rfl lk_8_63 (Or.inl rfl) (Nat.le_of_ble_eq_true rfl)) ?_
  refine ra_ifneB rfl rfl (fun h12 => ?_) (fun h12 => ?_)
  · refine ra_iconst rfl ?_
    refine ra_iconst rfl ?_
    refine ra_cT (sp_194 (Or.inl rfl) (by first | omega | (unfold ra_in at *; omega))) rfl (ct_194 rfl lk_8_303 (Or.inl rfl) sh_179 (Nat.le_of_ble_eq_true rfl)) (fun s13 hs13 => ?_)
    obtain ⟨hf14, he15⟩ := hs13
    have hF16 := Fr_tr (lo := 179) (hi := 187) hF3 hf14 (by omega)
    have hk17 : s13 (180) = σ (180) := (hf14 (180) (by omega)).trans hk4
    have hk18 : s13 (181) = σ (181) := (hf14 (181) (by omega)).trans hk5
    have hk19 : s13 (182) = σ (182) := (hf14 (182) (by omega)).trans hk6
    have hk20 : s13 (183) = σ (183) := (hf14 (183) (by omega)).trans hk7
    have hk21 : s13 (184) = σ (184) := (hf14 (184) (by omega)).trans hk8
    have ho22 : ∀ a, a ≠ 7 → a ≠ 10 → ra_g s13 179 a = ra_g σ 179 a := fun a h7 h10 => ((fun a h7 h10 => he15 a h7) a h7 h10).trans (ho9 a h7 h10)
    exact ra_ireturn rfl (ra_okB (Or.inl rfl)) ⟨⟨_, (Or.inl rfl), (fun _ => by omega), rfl⟩, ⟨hF16, hk17, hk18, hk19, hk20, hk21, ho22⟩⟩
  · refine ra_iconst rfl ?_
    refine ra_goto rfl rfl ?_
    refine ra_iconst rfl ?_
    refine ra_cT (sp_194 (Or.inr rfl) (by first | omega | (unfold ra_in at *; omega))) rfl (ct_194 rfl lk_8_303 (Or.inl rfl) sh_179 (Nat.le_of_ble_eq_true rfl)) (fun s23 hs23 => ?_)
    obtain ⟨hf24, he25⟩ := hs23
    have hF26 := Fr_tr (lo := 179) (hi := 187) hF3 hf24 (by omega)
    have hk27 : s23 (180) = σ (180) := (hf24 (180) (by omega)).trans hk4
    have hk28 : s23 (181) = σ (181) := (hf24 (181) (by omega)).trans hk5
    have hk29 : s23 (182) = σ (182) := (hf24 (182) (by omega)).trans hk6
    have hk30 : s23 (183) = σ (183) := (hf24 (183) (by omega)).trans hk7
    have hk31 : s23 (184) = σ (184) := (hf24 (184) (by omega)).trans hk8
    have ho32 : ∀ a, a ≠ 7 → a ≠ 10 → ra_g s23 179 a = ra_g σ 179 a := fun a h7 h10 => ((fun a h7 h10 => he25 a h7) a h7 h10).trans (ho9 a h7 h10)
    exact ra_ireturn rfl (ra_okB (Or.inr rfl)) ⟨⟨_, (Or.inr rfl), (fun hq => absurd hq (by decide)), rfl⟩, ⟨hF26, hk27, hk28, hk29, hk30, hk31, ho32⟩⟩
theorem lp_265_8 {n : Nat} {f : Nat → Int32} {d : Nat}  {σ : ra_V} (hw : WF σ) : ∀ (nn : Nat) (v1 : Int) (v2 : Int) (s : ra_V) (hv1 : ra_in v1) (hv2_0 : 0 ≤ v2) (hv2_1 : v2 ≤ 300) (hF : Fr (179) (187) σ s) (hk0 : s (180) = σ (180)) (hk1 : s (181) = σ (181)) (hk2 : s (182) = σ (182)) (hk3 : s (183) = σ (183)) (hk4 : s (184) = σ (184)) (hoo : ∀ a, a ≠ 7 → a ≠ 10 → ra_g s 179 a = ra_g σ 179 a) (hz : GZ σ s) (hm : ((ra_g s 179 10 - v2 : Int)).toNat < nn), ra_P (g_Gs n f) g_sh 0 (d + 5) g_m_X8_gapSectors 8 [some (.index (179)), some (ra_I v1), some (ra_I v2)] [] s (fun r s => rI r ∧ Fr (179) (187) σ s ∧ s (180) = σ (180) ∧ s (181) = σ (181) ∧ s (182) = σ (182) ∧ s (183) = σ (183) ∧ s (184) = σ (184) ∧ (∀ a, a ≠ 7 → a ≠ 10 → ra_g s 179 a = ra_g σ 179 a)) := by
  intro nn
  induction nn with
  | zero => intro v1 v2 s hv1 hv2_0 hv2_1 hF hk0 hk1 hk2 hk3 hk4 hoo hz hm; exact absurd hm (Nat.not_lt_zero _)
  | succ nn ih =>
    intro v1 v2 s hv1 hv2_0 hv2_1 hF hk0 hk1 hk2 hk3 hk4 hoo hz hm
    have hz0 := hz
    obtain ⟨z1, z2, z3⟩ := hz0
    have hw0 := WF_a hw
    unfold WFa at hw0
    refine ra_load rfl rfl rfl rfl ?_
    refine ra_load rfl rfl rfl rfl ?_
    refine ra_getI rfl lk_8_114 (Nat.zero_le _) sh_179 rfl ?_
    have hr17 : ra_in (ra_g s (179) 10) := (ra_in_g _ _ _)
    refine ra_icge rfl rfl (by first | omega | (unfold ra_in at *; omega)) hr17 (fun h18 => ?_) (fun h18 => ?_)
    · refine ra_load rfl rfl rfl rfl ?_
      exact ra_ireturn rfl rfl ⟨⟨_, hv1, rfl⟩, ⟨hF, hk0, hk1, hk2, hk3, hk4, hoo⟩⟩
    · refine ra_load rfl rfl rfl rfl ?_
      refine ra_load rfl rfl rfl rfl ?_
      refine ra_getR rfl lk_8_28 (Nat.zero_le _) sh_179 rfl ?_
      refine ra_load rfl rfl rfl rfl ?_
      refine ra_iaload rfl sh_186 rfl (by decide) (by first | omega | (unfold ra_in at *; omega)) (by first | omega | (unfold ra_in at *; omega)) ?_
      have hr19 : ra_in (ra_g s (186) v2.toNat) := (ra_in_g _ _ _)
      refine ra_iadd rfl ?_
      refine ra_gen (fun z20 hz20 => ?_)
      refine ra_store (L' := [_, _, _]) rfl rfl rfl (Nat.le_of_ble_eq_true rfl) rfl ?_
      refine ra_iinc (L' := [_, _, _]) rfl rfl (Nat.le_of_ble_eq_true rfl) rfl ?_
      refine ra_goto rfl rfl ?_
      exact ra_weak (by repeat' constructor) (ih z20 (v2 + 1) s hz20 (by first | omega | (unfold ra_in at *; omega)) (by first | omega | (unfold ra_in at *; omega)) hF hk0 hk1 hk2 hk3 hk4 hoo hz (by first | omega | (unfold ra_in at *; omega)))
theorem sp_265 {n : Nat} {f : Nat → Int32} {d : Nat}  {σ : ra_V} (hw : WF σ) : ra_C (g_Gs n f) g_sh 0 (d + 6) 265 [.index (179)] σ (fun r s => rI r ∧ Fr (179) (187) σ s ∧ s (180) = σ (180) ∧ s (181) = σ (181) ∧ s (182) = σ (182) ∧ s (183) = σ (183) ∧ s (184) = σ (184) ∧ (∀ a, a ≠ 7 → a ≠ 10 → ra_g s 179 a = ra_g σ 179 a)) := by
  refine ra_enter (nn := 2) mt_265 rfl (Nat.le_of_ble_eq_true rfl) rfl (fun h => absurd h (by decide +kernel)) ?_
  have hw0 := WF_a hw
  unfold WFa at hw0
  refine ra_load rfl rfl rfl rfl ?_
  refine ra_cV (sp_218 hw) rfl (ct_218 rfl lk_8_130 (Or.inl rfl) sh_179 (Nat.le_of_ble_eq_true rfl)) (fun s1 hs1 => ?_)
  obtain ⟨hf2, hc3, hc4, hc5, hc6, hc7, he8, he9⟩ := hs1
  have hF10 := Fr_tr (lo := 179) (hi := 187) Fr_rf hf2 (by omega)
  have hk11 : s1 (180) = σ (180) := hc3
  have hk12 : s1 (181) = σ (181) := hc4
  have hk13 : s1 (182) = σ (182) := hc5
  have hk14 : s1 (183) = σ (183) := hc6
  have hk15 : s1 (184) = σ (184) := hc7
  have ho16 : ∀ a, a ≠ 7 → a ≠ 10 → ra_g s1 179 a = ra_g σ 179 a := fun a h7 h10 => ((fun a h7 h10 => he8 a h10) a h7 h10).trans ((fun _ _ _ => rfl) a h7 h10)
  have he9a := he9.1
  have he9b := he9.2.1
  refine ra_iconst rfl ?_
  refine ra_store (L' := [_, _, _]) rfl rfl rfl (Nat.le_of_ble_eq_true rfl) rfl ?_
  refine ra_iconst rfl ?_
  refine ra_store (L' := [_, _, _]) rfl rfl rfl (Nat.le_of_ble_eq_true rfl) rfl ?_
  exact ra_weak (by repeat' constructor) (lp_265_8 hw _ (0) (0) s1 (by first | omega | (unfold ra_in at *; omega)) (by first | omega | (unfold ra_in at *; omega)) (by first | omega | (unfold ra_in at *; omega)) hF10 hk11 hk12 hk13 hk14 hk15 ho16 he9 (Nat.lt_succ_self _))
theorem sp_266 {n : Nat} {f : Nat → Int32} {d : Nat}  {σ : ra_V} (hw : WF σ) : ra_C (g_Gs n f) g_sh 0 (d + 6) 266 [.index (179)] σ (fun r s => rI r ∧ Fr (179) (187) σ s ∧ s (180) = σ (180) ∧ s (181) = σ (181) ∧ s (182) = σ (182) ∧ s (183) = σ (183) ∧ s (184) = σ (184) ∧ (∀ a, a ≠ 7 → a ≠ 10 → ra_g s 179 a = ra_g σ 179 a)) := by
  refine ra_enter (nn := 0) mt_266 rfl (Nat.le_of_ble_eq_true rfl) rfl (fun h => absurd h (by decide +kernel)) ?_
  have hw0 := WF_a hw
  unfold WFa at hw0
  refine ra_load rfl rfl rfl rfl ?_
  refine ra_cV (sp_218 hw) rfl (ct_218 rfl lk_8_130 (Or.inl rfl) sh_179 (Nat.le_of_ble_eq_true rfl)) (fun s1 hs1 => ?_)
  obtain ⟨hf2, hc3, hc4, hc5, hc6, hc7, he8, he9⟩ := hs1
  have hF10 := Fr_tr (lo := 179) (hi := 187) Fr_rf hf2 (by omega)
  have hk11 : s1 (180) = σ (180) := hc3
  have hk12 : s1 (181) = σ (181) := hc4
  have hk13 : s1 (182) = σ (182) := hc5
  have hk14 : s1 (183) = σ (183) := hc6
  have hk15 : s1 (184) = σ (184) := hc7
  have ho16 : ∀ a, a ≠ 7 → a ≠ 10 → ra_g s1 179 a = ra_g σ 179 a := fun a h7 h10 => ((fun a h7 h10 => he8 a h10) a h7 h10).trans ((fun _ _ _ => rfl) a h7 h10)
  have he9a := he9.1
  have he9b := he9.2.1
  refine ra_load rfl rfl rfl rfl ?_
  refine ra_getI rfl lk_8_114 (Nat.zero_le _) sh_179 rfl ?_
  have hr17 : ra_in (ra_g s1 (179) 10) := (ra_in_g _ _ _)
  exact ra_ireturn rfl rfl ⟨⟨_, hr17, rfl⟩, ⟨hF10, hk11, hk12, hk13, hk14, hk15, ho16⟩⟩
theorem lp_283_8 {n : Nat} {f : Nat → Int32} {d : Nat}  {σ : ra_V} (hw : WF σ) : ∀ (nn : Nat) (v1 : Int) (v2 : Int) (s : ra_V) (hv1 : ra_in v1) (hv2_0 : 0 ≤ v2) (hv2_1 : v2 ≤ 300) (hF : Fr (179) (187) σ s) (hk0 : s (180) = σ (180)) (hk1 : s (181) = σ (181)) (hk2 : s (182) = σ (182)) (hk3 : s (183) = σ (183)) (hk4 : s (184) = σ (184)) (hoo : ∀ a, a ≠ 7 → a ≠ 10 → ra_g s 179 a = ra_g σ 179 a) (hz : GZ σ s) (hm : ((ra_g s 179 10 - v2 : Int)).toNat < nn), ra_P (g_Gs n f) g_sh 0 (d + 5) g_m_X8_greatestGap 8 [some (.index (179)), some (ra_I v1), some (ra_I v2)] [] s (fun r s => rI r ∧ Fr (179) (187) σ s ∧ s (180) = σ (180) ∧ s (181) = σ (181) ∧ s (182) = σ (182) ∧ s (183) = σ (183) ∧ s (184) = σ (184) ∧ (∀ a, a ≠ 7 → a ≠ 10 → ra_g s 179 a = ra_g σ 179 a)) := by
  intro nn
  induction nn with
  | zero => intro v1 v2 s hv1 hv2_0 hv2_1 hF hk0 hk1 hk2 hk3 hk4 hoo hz hm; exact absurd hm (Nat.not_lt_zero _)
  | succ nn ih =>
    intro v1 v2 s hv1 hv2_0 hv2_1 hF hk0 hk1 hk2 hk3 hk4 hoo hz hm
    have hz0 := hz
    obtain ⟨z1, z2, z3⟩ := hz0
    have hw0 := WF_a hw
    unfold WFa at hw0
    refine ra_load rfl rfl rfl rfl ?_
    refine ra_load rfl rfl rfl rfl ?_
    refine ra_getI rfl lk_8_114 (Nat.zero_le _) sh_179 rfl ?_
    have hr17 : ra_in (ra_g s (179) 10) := (ra_in_g _ _ _)
    refine ra_icge rfl rfl (by first | omega | (unfold ra_in at *; omega)) hr17 (fun h18 => ?_) (fun h18 => ?_)
    · refine ra_load rfl rfl rfl rfl ?_
      exact ra_ireturn rfl rfl ⟨⟨_, hv1, rfl⟩, ⟨hF, hk0, hk1, hk2, hk3, hk4, hoo⟩⟩
    · refine ra_load rfl rfl rfl rfl ?_
      refine ra_load rfl rfl rfl rfl ?_
      refine ra_getR rfl lk_8_28 (Nat.zero_le _) sh_179 rfl ?_
      refine ra_load rfl rfl rfl rfl ?_
      refine ra_iaload rfl sh_186 rfl (by decide) (by first | omega | (unfold ra_in at *; omega)) (by first | omega | (unfold ra_in at *; omega)) ?_
      have hr19 : ra_in (ra_g s (186) v2.toNat) := (ra_in_g _ _ _)
      refine ra_max rfl lk_8_127 hv1 hr19 (Nat.le_of_ble_eq_true rfl) ?_
      refine ra_store (L' := [_, _, _]) rfl rfl rfl (Nat.le_of_ble_eq_true rfl) rfl ?_
      refine ra_iinc (L' := [_, _, _]) rfl rfl (Nat.le_of_ble_eq_true rfl) rfl ?_
      refine ra_goto rfl rfl ?_
      exact ra_weak (by repeat' constructor) (ih (max v1 (ra_g s (186) v2.toNat)) (v2 + 1) s (by first | omega | (unfold ra_in at *; omega)) (by first | omega | (unfold ra_in at *; omega)) (by first | omega | (unfold ra_in at *; omega)) hF hk0 hk1 hk2 hk3 hk4 hoo hz (by first | omega | (unfold ra_in at *; omega)))
theorem sp_283 {n : Nat} {f : Nat → Int32} {d : Nat}  {σ : ra_V} (hw : WF σ) : ra_C (g_Gs n f) g_sh 0 (d + 6) 283 [.index (179)] σ (fun r s => rI r ∧ Fr (179) (187) σ s ∧ s (180) = σ (180) ∧ s (181) = σ (181) ∧ s (182) = σ (182) ∧ s (183) = σ (183) ∧ s (184) = σ (184) ∧ (∀ a, a ≠ 7 → a ≠ 10 → ra_g s 179 a = ra_g σ 179 a)) := by
  refine ra_enter (nn := 2) mt_283 rfl (Nat.le_of_ble_eq_true rfl) rfl (fun h => absurd h (by decide +kernel)) ?_
  have hw0 := WF_a hw
  unfold WFa at hw0
  refine ra_load rfl rfl rfl rfl ?_
  refine ra_cV (sp_218 hw) rfl (ct_218 rfl lk_8_130 (Or.inl rfl) sh_179 (Nat.le_of_ble_eq_true rfl)) (fun s1 hs1 => ?_)
  obtain ⟨hf2, hc3, hc4, hc5, hc6, hc7, he8, he9⟩ := hs1
  have hF10 := Fr_tr (lo := 179) (hi := 187) Fr_rf hf2 (by omega)
  have hk11 : s1 (180) = σ (180) := hc3
  have hk12 : s1 (181) = σ (181) := hc4
  have hk13 : s1 (182) = σ (182) := hc5
  have hk14 : s1 (183) = σ (183) := hc6
  have hk15 : s1 (184) = σ (184) := hc7
  have ho16 : ∀ a, a ≠ 7 → a ≠ 10 → ra_g s1 179 a = ra_g σ 179 a := fun a h7 h10 => ((fun a h7 h10 => he8 a h10) a h7 h10).trans ((fun _ _ _ => rfl) a h7 h10)
  have he9a := he9.1
  have he9b := he9.2.1
  refine ra_iconst rfl ?_
  refine ra_store (L' := [_, _, _]) rfl rfl rfl (Nat.le_of_ble_eq_true rfl) rfl ?_
  refine ra_iconst rfl ?_
  refine ra_store (L' := [_, _, _]) rfl rfl rfl (Nat.le_of_ble_eq_true rfl) rfl ?_
  exact ra_weak (by repeat' constructor) (lp_283_8 hw _ (0) (0) s1 (by first | omega | (unfold ra_in at *; omega)) (by first | omega | (unfold ra_in at *; omega)) (by first | omega | (unfold ra_in at *; omega)) hF10 hk11 hk12 hk13 hk14 hk15 ho16 he9 (Nat.lt_succ_self _))
theorem sp_267 {n : Nat} {f : Nat → Int32} {d : Nat} {x0 : Int} {σ : ra_V} (hx0 : ra_in x0) (hw : WF σ) : ra_C (g_Gs n f) g_sh 0 (d + 7) 267 [.index (179), ra_I x0] σ (fun r s => rI r ∧ Fr (179) (187) σ s ∧ s (180) = σ (180) ∧ s (181) = σ (181) ∧ s (182) = σ (182) ∧ s (183) = σ (183) ∧ s (184) = σ (184) ∧ (∀ a, a ≠ 7 → a ≠ 10 → ra_g s 179 a = ra_g σ 179 a)) := by
  refine ra_enter (nn := 0) mt_267 rfl (Nat.le_of_ble_eq_true rfl) rfl (fun h => absurd h (by decide +kernel)) ?_
  have hw0 := WF_a hw
  unfold WFa at hw0
  refine ra_load rfl rfl rfl rfl ?_
  refine ra_iconst rfl ?_
  refine ra_putI rfl lk_8_51 (Nat.zero_le _) sh_179 rfl rfl ?_
  refine ra_newU (by first | omega | (unfold ra_in at *; omega)) (fun s1 hs1 hp2 hp2o => ?_)
  have hp2_99 := hp2o 99 (by decide)
  have hF3 := Fr_tr (lo := 179) (hi := 187) Fr_rf hs1 (by omega)
  have hk4 : s1 (180) = σ (180) := (hs1 (180) (by omega))
  have hk5 : s1 (181) = σ (181) := (hs1 (181) (by omega))
  have hk6 : s1 (182) = σ (182) := (hs1 (182) (by omega))
  have hk7 : s1 (183) = σ (183) := (hs1 (183) (by omega))
  have hk8 : s1 (184) = σ (184) := (hs1 (184) (by omega))
  have ho9 : ∀ a, a ≠ 7 → a ≠ 10 → ra_g s1 179 a = ra_g σ 179 a := fun a h7 h10 => ((fun a h7 h10 => hp2o a h7) a h7 h10).trans ((fun _ _ _ => rfl) a h7 h10)
  refine ra_load rfl rfl rfl rfl ?_
  refine ra_load rfl rfl rfl rfl ?_
  refine ra_i2l rfl hx0 ?_
  refine ra_lconst0 rfl ?_
  refine ra_ldc2 (z := 11) rfl lk_8_301 (by decide) ?_
  refine ra_cTp (sp_193 hx0 (by first | omega | (unfold ra_in at *; omega)) (by first | omega | (unfold ra_in at *; omega))) rfl (ct_193 rfl lk_8_63 (Or.inl rfl) (Nat.le_of_ble_eq_true rfl)) ?_
  refine ra_ifneB rfl rfl (fun h11 => ?_) (fun h11 => ?_)
  · refine ra_iconst rfl ?_
    refine ra_iconst rfl ?_
    refine ra_cT (sp_194 (Or.inl rfl) (by first | omega | (unfold ra_in at *; omega))) rfl (ct_194 rfl lk_8_303 (Or.inl rfl) sh_179 (Nat.le_of_ble_eq_true rfl)) (fun s12 hs12 => ?_)
    obtain ⟨hf13, he14⟩ := hs12
    have hF15 := Fr_tr (lo := 179) (hi := 187) hF3 hf13 (by omega)
    have hk16 : s12 (180) = σ (180) := (hf13 (180) (by omega)).trans hk4
    have hk17 : s12 (181) = σ (181) := (hf13 (181) (by omega)).trans hk5
    have hk18 : s12 (182) = σ (182) := (hf13 (182) (by omega)).trans hk6
    have hk19 : s12 (183) = σ (183) := (hf13 (183) (by omega)).trans hk7
    have hk20 : s12 (184) = σ (184) := (hf13 (184) (by omega)).trans hk8
    have ho21 : ∀ a, a ≠ 7 → a ≠ 10 → ra_g s12 179 a = ra_g σ 179 a := fun a h7 h10 => ((fun a h7 h10 => he14 a h7) a h7 h10).trans (ho9 a h7 h10)
    refine ra_ifeq rfl rfl (by first | omega | (unfold ra_in at *; omega)) (fun h22 => ?_) (fun h22 => ?_)
    · refine ra_load rfl rfl rfl rfl ?_
      by_cases h23 : x0 = 5
      · refine ra_switch (t := 76) rfl hx0 ⟨by decide, by decide, by decide⟩ (Or.inl ⟨(5, 43), by rw [h23]; rfl, rfl⟩) ?_
        refine ra_load rfl rfl rfl rfl ?_
        refine ra_cIPp (sp_203 (WF_k hk16 hw)) rfl (ct_203 rfl lk_8_298 (Or.inl rfl) sh_179 (Nat.le_of_ble_eq_true rfl)) (fun z25 hz25 hz25p => ?_)
        exact ra_ireturn rfl rfl ⟨⟨_, hz25, rfl⟩, ⟨hF15, hk16, hk17, hk18, hk19, hk20, ho21⟩⟩
      by_cases h26 : x0 = 6
      · refine ra_switch (t := 81) rfl hx0 ⟨by decide, by decide, by decide⟩ (Or.inl ⟨(6, 48), by rw [h26]; rfl, rfl⟩) ?_
        refine ra_load rfl rfl rfl rfl ?_
        refine ra_cI (sp_265 (WF_k hk16 hw)) rfl (ct_265 rfl lk_8_307 (Or.inl rfl) sh_179 (Nat.le_of_ble_eq_true rfl)) (fun z28 s27  hz28 hs27 => ?_)
        obtain ⟨hf29, hc30, hc31, hc32, hc33, hc34, he35⟩ := hs27
        have hF36 := Fr_tr (lo := 179) (hi := 187) hF15 hf29 (by omega)
        have hk37 : s27 (180) = σ (180) := hc30.trans hk16
        have hk38 : s27 (181) = σ (181) := hc31.trans hk17
        have hk39 : s27 (182) = σ (182) := hc32.trans hk18
        have hk40 : s27 (183) = σ (183) := hc33.trans hk19
        have hk41 : s27 (184) = σ (184) := hc34.trans hk20
        have ho42 : ∀ a, a ≠ 7 → a ≠ 10 → ra_g s27 179 a = ra_g σ 179 a := fun a h7 h10 => (he35 a h7 h10).trans (ho21 a h7 h10)
        exact ra_ireturn rfl rfl ⟨⟨_, hz28, rfl⟩, ⟨hF36, hk37, hk38, hk39, hk40, hk41, ho42⟩⟩
      by_cases h43 : x0 = 7
      · refine ra_switch (t := 86) rfl hx0 ⟨by decide, by decide, by decide⟩ (Or.inl ⟨(7, 53), by rw [h43]; rfl, rfl⟩) ?_
        refine ra_load rfl rfl rfl rfl ?_
        refine ra_cI (sp_266 (WF_k hk16 hw)) rfl (ct_266 rfl lk_8_310 (Or.inl rfl) sh_179 (Nat.le_of_ble_eq_true rfl)) (fun z45 s44  hz45 hs44 => ?_)
        obtain ⟨hf46, hc47, hc48, hc49, hc50, hc51, he52⟩ := hs44
        have hF53 := Fr_tr (lo := 179) (hi := 187) hF15 hf46 (by omega)
        have hk54 : s44 (180) = σ (180) := hc47.trans hk16
        have hk55 : s44 (181) = σ (181) := hc48.trans hk17
        have hk56 : s44 (182) = σ (182) := hc49.trans hk18
        have hk57 : s44 (183) = σ (183) := hc50.trans hk19
        have hk58 : s44 (184) = σ (184) := hc51.trans hk20
        have ho59 : ∀ a, a ≠ 7 → a ≠ 10 → ra_g s44 179 a = ra_g σ 179 a := fun a h7 h10 => (he52 a h7 h10).trans (ho21 a h7 h10)
        exact ra_ireturn rfl rfl ⟨⟨_, hz45, rfl⟩, ⟨hF53, hk54, hk55, hk56, hk57, hk58, ho59⟩⟩
      by_cases h60 : x0 = 8
      · refine ra_switch (t := 91) rfl hx0 ⟨by decide, by decide, by decide⟩ (Or.inl ⟨(8, 58), by rw [h60]; rfl, rfl⟩) ?_
        refine ra_load rfl rfl rfl rfl ?_
        refine ra_getR rfl lk_8_7 (Nat.zero_le _) sh_179 rfl ?_
        refine ra_bipush rfl (by decide) ?_
        refine ra_ialoadJ (j := 6) rfl sh_180 rfl (by decide) rfl (by decide) ?_
        rw [ra_gk hk16]
        have hr61 : ra_in (ra_g σ (180) 6) := (ra_in_g _ _ _)
        exact ra_ireturn rfl rfl ⟨⟨_, hr61, rfl⟩, ⟨hF15, hk16, hk17, hk18, hk19, hk20, ho21⟩⟩
      by_cases h62 : x0 = 9
      · refine ra_switch (t := 99) rfl hx0 ⟨by decide, by decide, by decide⟩ (Or.inl ⟨(9, 66), by rw [h62]; rfl, rfl⟩) ?_
        refine ra_load rfl rfl rfl rfl ?_
        refine ra_getR rfl lk_8_7 (Nat.zero_le _) sh_179 rfl ?_
        refine ra_bipush rfl (by decide) ?_
        refine ra_ialoadJ (j := 7) rfl sh_180 rfl (by decide) rfl (by decide) ?_
        rw [ra_gk hk16]
        have hr63 : ra_in (ra_g σ (180) 7) := (ra_in_g _ _ _)
        exact ra_ireturn rfl rfl ⟨⟨_, hr63, rfl⟩, ⟨hF15, hk16, hk17, hk18, hk19, hk20, ho21⟩⟩
      by_cases h64 : x0 = 10
      · refine ra_switch (t := 107) rfl hx0 ⟨by decide, by decide, by decide⟩ (Or.inl ⟨(10, 74), by rw [h64]; rfl, rfl⟩) ?_
        refine ra_load rfl rfl rfl rfl ?_
        refine ra_getR rfl lk_8_7 (Nat.zero_le _) sh_179 rfl ?_
        refine ra_bipush rfl (by decide) ?_
        refine ra_ialoadJ (j := 8) rfl sh_180 rfl (by decide) rfl (by decide) ?_
        rw [ra_gk hk16]
        have hr65 : ra_in (ra_g σ (180) 8) := (ra_in_g _ _ _)
        exact ra_ireturn rfl rfl ⟨⟨_, hr65, rfl⟩, ⟨hF15, hk16, hk17, hk18, hk19, hk20, ho21⟩⟩
      by_cases h66 : x0 = 11
      · refine ra_switch (t := 115) rfl hx0 ⟨by decide, by decide, by decide⟩ (Or.inl ⟨(11, 82), by rw [h66]; rfl, rfl⟩) ?_
        refine ra_load rfl rfl rfl rfl ?_
        refine ra_getI rfl lk_8_54 (Nat.zero_le _) sh_179 rfl ?_
        have hr67 : ra_in (ra_g s12 (179) 5) := (ra_in_g _ _ _)
        exact ra_ireturn rfl rfl ⟨⟨_, hr67, rfl⟩, ⟨hF15, hk16, hk17, hk18, hk19, hk20, ho21⟩⟩
      refine ra_switch (t := 120) rfl hx0 ⟨by decide, by decide, by decide⟩ (Or.inr ⟨ra_sw_none (by simp only [List.length]; omega), rfl⟩) ?_
      refine ra_load rfl rfl rfl rfl ?_
      refine ra_getR rfl lk_8_7 (Nat.zero_le _) sh_179 rfl ?_
      refine ra_load rfl rfl rfl rfl ?_
      refine ra_iaload rfl sh_180 rfl (by decide) (by first | omega | (unfold ra_in at *; omega)) (by first | omega | (unfold ra_in at *; omega)) ?_
      rw [ra_gk hk16]
      have hr68 : ra_in (ra_g σ (180) x0.toNat) := (ra_in_g _ _ _)
      exact ra_ireturn rfl rfl ⟨⟨_, hr68, rfl⟩, ⟨hF15, hk16, hk17, hk18, hk19, hk20, ho21⟩⟩
    · exact absurd h22 (by decide)
  · refine ra_iconst rfl ?_
    refine ra_goto rfl rfl ?_
    refine ra_iconst rfl ?_
    refine ra_cT (sp_194 (Or.inr rfl) (by first | omega | (unfold ra_in at *; omega))) rfl (ct_194 rfl lk_8_303 (Or.inl rfl) sh_179 (Nat.le_of_ble_eq_true rfl)) (fun s69 hs69 => ?_)
    obtain ⟨hf70, he71⟩ := hs69
    have hF72 := Fr_tr (lo := 179) (hi := 187) hF3 hf70 (by omega)
    have hk73 : s69 (180) = σ (180) := (hf70 (180) (by omega)).trans hk4
    have hk74 : s69 (181) = σ (181) := (hf70 (181) (by omega)).trans hk5
    have hk75 : s69 (182) = σ (182) := (hf70 (182) (by omega)).trans hk6
    have hk76 : s69 (183) = σ (183) := (hf70 (183) (by omega)).trans hk7
    have hk77 : s69 (184) = σ (184) := (hf70 (184) (by omega)).trans hk8
    have ho78 : ∀ a, a ≠ 7 → a ≠ 10 → ra_g s69 179 a = ra_g σ 179 a := fun a h7 h10 => ((fun a h7 h10 => he71 a h7) a h7 h10).trans (ho9 a h7 h10)
    refine ra_ifeq rfl rfl (by first | omega | (unfold ra_in at *; omega)) (fun h79 => ?_) (fun h79 => ?_)
    · exact absurd h79 (by decide)
    · refine ra_iconst rfl ?_
      exact ra_ireturn rfl rfl ⟨⟨_, (by first | omega | (unfold ra_in at *; omega)), rfl⟩, ⟨hF72, hk73, hk74, hk75, hk76, hk77, ho78⟩⟩
theorem sp_269 {n : Nat} {f : Nat → Int32} {d : Nat} {x0 : Int} {x1 : Int} {σ : ra_V} (hx0 : ra_in x0) (hx1 : ra_in x1) (hw : WF σ) : ra_C (g_Gs n f) g_sh 0 (d + 4) 269 [.index (179), ra_I x0, ra_I x1] σ (fun r s => rI r ∧ Fr (179) (187) σ s ∧ s (180) = σ (180) ∧ s (181) = σ (181) ∧ s (182) = σ (182) ∧ s (183) = σ (183) ∧ s (184) = σ (184) ∧ (∀ a, a ≠ 7 → a ≠ 10 → ra_g s 179 a = ra_g σ 179 a)) := by
  refine ra_enter (nn := 0) mt_269 rfl (Nat.le_of_ble_eq_true rfl) rfl (fun h => absurd h (by decide +kernel)) ?_
  have hw0 := WF_a hw
  unfold WFa at hw0
  refine ra_load rfl rfl rfl rfl ?_
  refine ra_iconst rfl ?_
  refine ra_putI rfl lk_8_51 (Nat.zero_le _) sh_179 rfl rfl ?_
  refine ra_newU (by first | omega | (unfold ra_in at *; omega)) (fun s1 hs1 hp2 hp2o => ?_)
  have hp2_99 := hp2o 99 (by decide)
  have hF3 := Fr_tr (lo := 179) (hi := 187) Fr_rf hs1 (by omega)
  have hk4 : s1 (180) = σ (180) := (hs1 (180) (by omega))
  have hk5 : s1 (181) = σ (181) := (hs1 (181) (by omega))
  have hk6 : s1 (182) = σ (182) := (hs1 (182) (by omega))
  have hk7 : s1 (183) = σ (183) := (hs1 (183) (by omega))
  have hk8 : s1 (184) = σ (184) := (hs1 (184) (by omega))
  have ho9 : ∀ a, a ≠ 7 → a ≠ 10 → ra_g s1 179 a = ra_g σ 179 a := fun a h7 h10 => ((fun a h7 h10 => hp2o a h7) a h7 h10).trans ((fun _ _ _ => rfl) a h7 h10)
  refine ra_load rfl rfl rfl rfl ?_
  refine ra_load rfl rfl rfl rfl ?_
  refine ra_i2l rfl hx1 ?_
  refine ra_lconst0 rfl ?_
  refine ra_ldc2 (z := 6) rfl lk_8_316 (by decide) ?_
  refine ra_cTp (sp_193 hx1 (by first | omega | (unfold ra_in at *; omega)) (by first | omega | (unfold ra_in at *; omega))) rfl (ct_193 rfl lk_8_63 (Or.inl rfl) (Nat.le_of_ble_eq_true rfl)) ?_
  refine ra_ifneB rfl rfl (fun h11 => ?_) (fun h11 => ?_)
  · refine ra_iconst rfl ?_
    refine ra_iconst rfl ?_
    refine ra_cT (sp_194 (Or.inl rfl) (by first | omega | (unfold ra_in at *; omega))) rfl (ct_194 rfl lk_8_303 (Or.inl rfl) sh_179 (Nat.le_of_ble_eq_true rfl)) (fun s12 hs12 => ?_)
    obtain ⟨hf13, he14⟩ := hs12
    have hF15 := Fr_tr (lo := 179) (hi := 187) hF3 hf13 (by omega)
    have hk16 : s12 (180) = σ (180) := (hf13 (180) (by omega)).trans hk4
    have hk17 : s12 (181) = σ (181) := (hf13 (181) (by omega)).trans hk5
    have hk18 : s12 (182) = σ (182) := (hf13 (182) (by omega)).trans hk6
    have hk19 : s12 (183) = σ (183) := (hf13 (183) (by omega)).trans hk7
    have hk20 : s12 (184) = σ (184) := (hf13 (184) (by omega)).trans hk8
    have ho21 : ∀ a, a ≠ 7 → a ≠ 10 → ra_g s12 179 a = ra_g σ 179 a := fun a h7 h10 => ((fun a h7 h10 => he14 a h7) a h7 h10).trans (ho9 a h7 h10)
    refine ra_ifne rfl rfl (by first | omega | (unfold ra_in at *; omega)) (fun h22 => ?_) (fun h22 => ?_)
    · exact absurd h22 (by decide)
    · refine ra_load rfl rfl rfl rfl ?_
      refine ra_load rfl rfl rfl rfl ?_
      refine ra_iconst rfl ?_
      refine ra_cQP (sp_268 hx0 (by first | omega | (unfold ra_in at *; omega))) rfl (ct_268 rfl lk_8_318 (Or.inl rfl) sh_179 (Nat.le_of_ble_eq_true rfl)) (fun z24 s23 hz24 hz24p hs23 => ?_)
      rw [wq_k hk16] at hz24p
      obtain ⟨hf25, he26⟩ := hs23
      have hF27 := Fr_tr (lo := 179) (hi := 187) hF15 hf25 (by omega)
      have hk28 : s23 (180) = σ (180) := (hf25 (180) (by omega)).trans hk16
      have hk29 : s23 (181) = σ (181) := (hf25 (181) (by omega)).trans hk17
      have hk30 : s23 (182) = σ (182) := (hf25 (182) (by omega)).trans hk18
      have hk31 : s23 (183) = σ (183) := (hf25 (183) (by omega)).trans hk19
      have hk32 : s23 (184) = σ (184) := (hf25 (184) (by omega)).trans hk20
      have ho33 : ∀ a, a ≠ 7 → a ≠ 10 → ra_g s23 179 a = ra_g σ 179 a := fun a h7 h10 => ((fun a h7 h10 => he26 a h7) a h7 h10).trans (ho21 a h7 h10)
      refine ra_ifeq rfl rfl (ra_in01 hz24) (fun h34 => ?_) (fun h34 => ?_)
      · refine ra_load rfl rfl rfl rfl ?_
        refine ra_load rfl rfl rfl rfl ?_
        refine ra_load rfl rfl rfl rfl ?_
        refine ra_iconst rfl ?_
        refine ra_iadd rfl ?_
        refine ra_cTp (sp_200 hx0 (by first | omega | (unfold ra_in at *; omega)) (by first | assumption | rfl | omega)) rfl (ct_200 rfl lk_8_67 (Or.inl rfl) sh_179 (Nat.le_of_ble_eq_true rfl)) ?_
        rw [wq_k hk28]
        have hr36 : ra_in (wq σ x0 (x1 + (1))) := (ra_in_wq _ _ _)
        exact ra_ireturn rfl rfl ⟨⟨_, hr36, rfl⟩, ⟨hF27, hk28, hk29, hk30, hk31, hk32, ho33⟩⟩
      · refine ra_iconst rfl ?_
        exact ra_ireturn rfl rfl ⟨⟨_, (by first | omega | (unfold ra_in at *; omega)), rfl⟩, ⟨hF27, hk28, hk29, hk30, hk31, hk32, ho33⟩⟩
  · refine ra_iconst rfl ?_
    refine ra_goto rfl rfl ?_
    refine ra_iconst rfl ?_
    refine ra_cT (sp_194 (Or.inr rfl) (by first | omega | (unfold ra_in at *; omega))) rfl (ct_194 rfl lk_8_303 (Or.inl rfl) sh_179 (Nat.le_of_ble_eq_true rfl)) (fun s37 hs37 => ?_)
    obtain ⟨hf38, he39⟩ := hs37
    have hF40 := Fr_tr (lo := 179) (hi := 187) hF3 hf38 (by omega)
    have hk41 : s37 (180) = σ (180) := (hf38 (180) (by omega)).trans hk4
    have hk42 : s37 (181) = σ (181) := (hf38 (181) (by omega)).trans hk5
    have hk43 : s37 (182) = σ (182) := (hf38 (182) (by omega)).trans hk6
    have hk44 : s37 (183) = σ (183) := (hf38 (183) (by omega)).trans hk7
    have hk45 : s37 (184) = σ (184) := (hf38 (184) (by omega)).trans hk8
    have ho46 : ∀ a, a ≠ 7 → a ≠ 10 → ra_g s37 179 a = ra_g σ 179 a := fun a h7 h10 => ((fun a h7 h10 => he39 a h7) a h7 h10).trans (ho9 a h7 h10)
    refine ra_ifne rfl rfl (by first | omega | (unfold ra_in at *; omega)) (fun h47 => ?_) (fun h47 => ?_)
    · refine ra_iconst rfl ?_
      exact ra_ireturn rfl rfl ⟨⟨_, (by first | omega | (unfold ra_in at *; omega)), rfl⟩, ⟨hF40, hk41, hk42, hk43, hk44, hk45, ho46⟩⟩
    · exact absurd h47 (by decide)
theorem sp_271 {n : Nat} {f : Nat → Int32} {d : Nat} {x0 : Int} {σ : ra_V} (hx0 : ra_in x0) (hw : WF σ) : ra_C (g_Gs n f) g_sh 0 (d + 3) 271 [.index (179), ra_I x0] σ (fun r s => rI r ∧ Fr (179) (187) σ s ∧ s (180) = σ (180) ∧ s (181) = σ (181) ∧ s (182) = σ (182) ∧ s (183) = σ (183) ∧ s (184) = σ (184) ∧ (∀ a, a ≠ 7 → a ≠ 10 → ra_g s 179 a = ra_g σ 179 a)) := by
  refine ra_enter (nn := 0) mt_271 rfl (Nat.le_of_ble_eq_true rfl) rfl (fun h => absurd h (by decide +kernel)) ?_
  have hw0 := WF_a hw
  unfold WFa at hw0
  refine ra_load rfl rfl rfl rfl ?_
  refine ra_load rfl rfl rfl rfl ?_
  refine ra_cQP (sp_270 hx0 hw) rfl (ct_270 rfl lk_8_321 (Or.inl rfl) sh_179 (Nat.le_of_ble_eq_true rfl)) (fun z2 s1 hz2 hz2p hs1 => ?_)
  obtain ⟨hf3, hc4, hc5, hc6, hc7, hc8, he9⟩ := hs1
  have hF10 := Fr_tr (lo := 179) (hi := 187) Fr_rf hf3 (by omega)
  have hk11 : s1 (180) = σ (180) := hc4
  have hk12 : s1 (181) = σ (181) := hc5
  have hk13 : s1 (182) = σ (182) := hc6
  have hk14 : s1 (183) = σ (183) := hc7
  have hk15 : s1 (184) = σ (184) := hc8
  have ho16 : ∀ a, a ≠ 7 → a ≠ 10 → ra_g s1 179 a = ra_g σ 179 a := fun a h7 h10 => (he9 a h7 h10).trans ((fun _ _ _ => rfl) a h7 h10)
  refine ra_ifeq rfl rfl (ra_in01 hz2) (fun h17 => ?_) (fun h17 => ?_)
  · refine ra_load rfl rfl rfl rfl ?_
    refine ra_getR rfl lk_8_7 (Nat.zero_le _) sh_179 rfl ?_
    refine ra_bipush rfl (by decide) ?_
    refine ra_load rfl rfl rfl rfl ?_
    refine ra_iadd rfl ?_
    refine ra_iaload rfl sh_180 rfl (by decide) (by first | omega | (unfold ra_in at *; omega)) (by first | omega | (unfold ra_in at *; omega)) ?_
    rw [ra_gk hk11]
    have hr18 : ra_in (ra_g σ (180) ((88) + x0).toNat) := (ra_in_g _ _ _)
    exact ra_ireturn rfl rfl ⟨⟨_, hr18, rfl⟩, ⟨hF10, hk11, hk12, hk13, hk14, hk15, ho16⟩⟩
  · refine ra_iconst rfl ?_
    refine ra_goto rfl rfl ?_
    exact ra_ireturn rfl rfl ⟨⟨_, (by first | omega | (unfold ra_in at *; omega)), rfl⟩, ⟨hF10, hk11, hk12, hk13, hk14, hk15, ho16⟩⟩
theorem sp_284 {n : Nat} {f : Nat → Int32} {d : Nat}  {σ : ra_V} (hw : WF σ) : ra_C (g_Gs n f) g_sh 0 (d + 7) 284 [.index (179)] σ (fun r s => rI r ∧ Fr (179) (187) σ s ∧ s (180) = σ (180) ∧ s (181) = σ (181) ∧ s (182) = σ (182) ∧ s (183) = σ (183) ∧ s (184) = σ (184) ∧ (∀ a, a ≠ 7 → a ≠ 10 → ra_g s 179 a = ra_g σ 179 a)) := by
  refine ra_enter (nn := 0) mt_284 rfl (Nat.le_of_ble_eq_true rfl) rfl (fun h => absurd h (by decide +kernel)) ?_
  have hw0 := WF_a hw
  unfold WFa at hw0
  refine ra_load rfl rfl rfl rfl ?_
  refine ra_iconst rfl ?_
  refine ra_putI rfl lk_8_51 (Nat.zero_le _) sh_179 rfl rfl ?_
  refine ra_newU (by first | omega | (unfold ra_in at *; omega)) (fun s1 hs1 hp2 hp2o => ?_)
  have hp2_99 := hp2o 99 (by decide)
  have hF3 := Fr_tr (lo := 179) (hi := 187) Fr_rf hs1 (by omega)
  have hk4 : s1 (180) = σ (180) := (hs1 (180) (by omega))
  have hk5 : s1 (181) = σ (181) := (hs1 (181) (by omega))
  have hk6 : s1 (182) = σ (182) := (hs1 (182) (by omega))
  have hk7 : s1 (183) = σ (183) := (hs1 (183) (by omega))
  have hk8 : s1 (184) = σ (184) := (hs1 (184) (by omega))
  have ho9 : ∀ a, a ≠ 7 → a ≠ 10 → ra_g s1 179 a = ra_g σ 179 a := fun a h7 h10 => ((fun a h7 h10 => hp2o a h7) a h7 h10).trans ((fun _ _ _ => rfl) a h7 h10)
  refine ra_load rfl rfl rfl rfl ?_
  refine ra_cI (sp_283 (WF_k hk4 hw)) rfl (ct_283 rfl lk_8_341 (Or.inl rfl) sh_179 (Nat.le_of_ble_eq_true rfl)) (fun z11 s10  hz11 hs10 => ?_)
  obtain ⟨hf12, hc13, hc14, hc15, hc16, hc17, he18⟩ := hs10
  have hF19 := Fr_tr (lo := 179) (hi := 187) hF3 hf12 (by omega)
  have hk20 : s10 (180) = σ (180) := hc13.trans hk4
  have hk21 : s10 (181) = σ (181) := hc14.trans hk5
  have hk22 : s10 (182) = σ (182) := hc15.trans hk6
  have hk23 : s10 (183) = σ (183) := hc16.trans hk7
  have hk24 : s10 (184) = σ (184) := hc17.trans hk8
  have ho25 : ∀ a, a ≠ 7 → a ≠ 10 → ra_g s10 179 a = ra_g σ 179 a := fun a h7 h10 => (he18 a h7 h10).trans (ho9 a h7 h10)
  exact ra_ireturn rfl rfl ⟨⟨_, hz11, rfl⟩, ⟨hF19, hk20, hk21, hk22, hk23, hk24, ho25⟩⟩
theorem sp_282 {n : Nat} {f : Nat → Int32} {d : Nat} {x0 : Int} {x1 : Int} {σ : ra_V} (hx0 : ra_in x0) (hx1 : ra_in x1) (hw : WF σ) : ra_C (g_Gs n f) g_sh 0 (d + 6) 282 [.index (179), ra_I x0, ra_I x1] σ (fun r s => rI r ∧ Fr (179) (187) σ s ∧ s (180) = σ (180) ∧ s (181) = σ (181) ∧ s (182) = σ (182) ∧ s (183) = σ (183) ∧ s (184) = σ (184) ∧ (∀ a, a ≠ 7 → a ≠ 10 → ra_g s 179 a = ra_g σ 179 a)) := by
  refine ra_enter (nn := 0) mt_282 rfl (Nat.le_of_ble_eq_true rfl) rfl (fun h => absurd h (by decide +kernel)) ?_
  have hw0 := WF_a hw
  unfold WFa at hw0
  refine ra_load rfl rfl rfl rfl ?_
  refine ra_iconst rfl ?_
  refine ra_putI rfl lk_8_51 (Nat.zero_le _) sh_179 rfl rfl ?_
  refine ra_newU (by first | omega | (unfold ra_in at *; omega)) (fun s1 hs1 hp2 hp2o => ?_)
  have hp2_99 := hp2o 99 (by decide)
  have hF3 := Fr_tr (lo := 179) (hi := 187) Fr_rf hs1 (by omega)
  have hk4 : s1 (180) = σ (180) := (hs1 (180) (by omega))
  have hk5 : s1 (181) = σ (181) := (hs1 (181) (by omega))
  have hk6 : s1 (182) = σ (182) := (hs1 (182) (by omega))
  have hk7 : s1 (183) = σ (183) := (hs1 (183) (by omega))
  have hk8 : s1 (184) = σ (184) := (hs1 (184) (by omega))
  have ho9 : ∀ a, a ≠ 7 → a ≠ 10 → ra_g s1 179 a = ra_g σ 179 a := fun a h7 h10 => ((fun a h7 h10 => hp2o a h7) a h7 h10).trans ((fun _ _ _ => rfl) a h7 h10)
  refine ra_load rfl rfl rfl rfl ?_
  refine ra_cV (sp_218 (WF_k hk4 hw)) rfl (ct_218 rfl lk_8_130 (Or.inl rfl) sh_179 (Nat.le_of_ble_eq_true rfl)) (fun s10 hs10 => ?_)
  obtain ⟨hf11, hc12, hc13, hc14, hc15, hc16, he17, he18⟩ := hs10
  have hz19 := GZ_s hk4 he18
  have hF20 := Fr_tr (lo := 179) (hi := 187) hF3 hf11 (by omega)
  have hk21 : s10 (180) = σ (180) := hc12.trans hk4
  have hk22 : s10 (181) = σ (181) := hc13.trans hk5
  have hk23 : s10 (182) = σ (182) := hc14.trans hk6
  have hk24 : s10 (183) = σ (183) := hc15.trans hk7
  have hk25 : s10 (184) = σ (184) := hc16.trans hk8
  have ho26 : ∀ a, a ≠ 7 → a ≠ 10 → ra_g s10 179 a = ra_g σ 179 a := fun a h7 h10 => ((fun a h7 h10 => he17 a h10) a h7 h10).trans (ho9 a h7 h10)
  have hz19a := hz19.1
  have hz19b := hz19.2.1
  refine ra_load rfl rfl rfl rfl ?_
  refine ra_load rfl rfl rfl rfl ?_
  refine ra_i2l rfl hx0 ?_
  refine ra_lconst0 rfl ?_
  refine ra_load rfl rfl rfl rfl ?_
  refine ra_getI rfl lk_8_114 (Nat.zero_le _) sh_179 rfl ?_
  have hr27 : ra_in (ra_g s10 (179) 10) := (ra_in_g _ _ _)
  refine ra_iconst rfl ?_
  refine ra_isub rfl ?_
  refine ra_i2l rfl (by first | omega | (unfold ra_in at *; omega)) ?_
  refine ra_cTp (sp_193 hx0 (by first | omega | (unfold ra_in at *; omega)) (by first | omega | (unfold ra_in at *; omega))) rfl (ct_193 rfl lk_8_63 (Or.inl rfl) (Nat.le_of_ble_eq_true rfl)) ?_
  refine ra_ifneB rfl rfl (fun h29 => ?_) (fun h29 => ?_)
  · refine ra_iconst rfl ?_
    refine ra_iconst rfl ?_
    refine ra_cT (sp_194 (Or.inl rfl) (by first | omega | (unfold ra_in at *; omega))) rfl (ct_194 rfl lk_8_303 (Or.inl rfl) sh_179 (Nat.le_of_ble_eq_true rfl)) (fun s30 hs30 => ?_)
    obtain ⟨hf31, he32⟩ := hs30
    have hF33 := Fr_tr (lo := 179) (hi := 187) hF20 hf31 (by omega)
    have hk34 : s30 (180) = σ (180) := (hf31 (180) (by omega)).trans hk21
    have hk35 : s30 (181) = σ (181) := (hf31 (181) (by omega)).trans hk22
    have hk36 : s30 (182) = σ (182) := (hf31 (182) (by omega)).trans hk23
    have hk37 : s30 (183) = σ (183) := (hf31 (183) (by omega)).trans hk24
    have hk38 : s30 (184) = σ (184) := (hf31 (184) (by omega)).trans hk25
    have ho39 : ∀ a, a ≠ 7 → a ≠ 10 → ra_g s30 179 a = ra_g σ 179 a := fun a h7 h10 => ((fun a h7 h10 => he32 a h7) a h7 h10).trans (ho26 a h7 h10)
    have hz40 := GZ_t (he32 10 (by decide)) (hf31 185 (by omega)) (hf31 186 (by omega)) hz19
    have hz40a := hz40.1
    have hz40b := hz40.2.1
    have hz40e := he32 10 (by decide)
    refine ra_ifne rfl rfl (by first | omega | (unfold ra_in at *; omega)) (fun h41 => ?_) (fun h41 => ?_)
    · exact absurd h41 (by decide)
    · refine ra_load rfl rfl rfl rfl ?_
      refine ra_load rfl rfl rfl rfl ?_
      refine ra_i2l rfl hx1 ?_
      refine ra_lconst0 rfl ?_
      refine ra_ldc2 (z := 3) rfl lk_8_339 (by decide) ?_
      refine ra_cTp (sp_193 hx1 (by first | omega | (unfold ra_in at *; omega)) (by first | omega | (unfold ra_in at *; omega))) rfl (ct_193 rfl lk_8_63 (Or.inl rfl) (Nat.le_of_ble_eq_true rfl)) ?_
      refine ra_ifneB rfl rfl (fun h43 => ?_) (fun h43 => ?_)
      · refine ra_iconst rfl ?_
        refine ra_iconst rfl ?_
        refine ra_cT (sp_194 (Or.inl rfl) (by first | omega | (unfold ra_in at *; omega))) rfl (ct_194 rfl lk_8_303 (Or.inl rfl) sh_179 (Nat.le_of_ble_eq_true rfl)) (fun s44 hs44 => ?_)
        obtain ⟨hf45, he46⟩ := hs44
        have hF47 := Fr_tr (lo := 179) (hi := 187) hF33 hf45 (by omega)
        have hk48 : s44 (180) = σ (180) := (hf45 (180) (by omega)).trans hk34
        have hk49 : s44 (181) = σ (181) := (hf45 (181) (by omega)).trans hk35
        have hk50 : s44 (182) = σ (182) := (hf45 (182) (by omega)).trans hk36
        have hk51 : s44 (183) = σ (183) := (hf45 (183) (by omega)).trans hk37
        have hk52 : s44 (184) = σ (184) := (hf45 (184) (by omega)).trans hk38
        have ho53 : ∀ a, a ≠ 7 → a ≠ 10 → ra_g s44 179 a = ra_g σ 179 a := fun a h7 h10 => ((fun a h7 h10 => he46 a h7) a h7 h10).trans (ho39 a h7 h10)
        have hz54 := GZ_t (he46 10 (by decide)) (hf45 185 (by omega)) (hf45 186 (by omega)) hz40
        have hz54a := hz54.1
        have hz54b := hz54.2.1
        have hz54e := he46 10 (by decide)
        refine ra_ifeq rfl rfl (by first | omega | (unfold ra_in at *; omega)) (fun h55 => ?_) (fun h55 => ?_)
        · refine ra_load rfl rfl rfl rfl ?_
          by_cases h56 : x1 = 0
          · refine ra_switch (t := 92) rfl hx1 ⟨by decide, by decide, by decide⟩ (Or.inl ⟨(0, 26), by rw [h56]; rfl, rfl⟩) ?_
            refine ra_load rfl rfl rfl rfl ?_
            refine ra_getR rfl lk_8_25 (Nat.zero_le _) sh_179 rfl ?_
            refine ra_load rfl rfl rfl rfl ?_
            refine ra_iaload rfl sh_185 rfl (by decide) (by first | omega | (unfold ra_in at *; omega)) (by first | omega | (unfold ra_in at *; omega)) ?_
            have hr57 : ra_in (ra_g s44 (185) x0.toNat) := (ra_in_g _ _ _)
            exact ra_ireturn rfl rfl ⟨⟨_, hr57, rfl⟩, ⟨hF47, hk48, hk49, hk50, hk51, hk52, ho53⟩⟩
          by_cases h58 : x1 = 1
          · refine ra_switch (t := 99) rfl hx1 ⟨by decide, by decide, by decide⟩ (Or.inl ⟨(1, 33), by rw [h58]; rfl, rfl⟩) ?_
            refine ra_load rfl rfl rfl rfl ?_
            refine ra_getR rfl lk_8_28 (Nat.zero_le _) sh_179 rfl ?_
            refine ra_load rfl rfl rfl rfl ?_
            refine ra_iaload rfl sh_186 rfl (by decide) (by first | omega | (unfold ra_in at *; omega)) (by first | omega | (unfold ra_in at *; omega)) ?_
            have hr59 : ra_in (ra_g s44 (186) x0.toNat) := (ra_in_g _ _ _)
            exact ra_ireturn rfl rfl ⟨⟨_, hr59, rfl⟩, ⟨hF47, hk48, hk49, hk50, hk51, hk52, ho53⟩⟩
          by_cases h60 : x1 = 2
          · refine ra_switch (t := 106) rfl hx1 ⟨by decide, by decide, by decide⟩ (Or.inl ⟨(2, 40), by rw [h60]; rfl, rfl⟩) ?_
            refine ra_load rfl rfl rfl rfl ?_
            refine ra_load rfl rfl rfl rfl ?_
            refine ra_cTp (sp_220 hx0 (WF_k hk48 hw) (GZ_k hk48 hz54) (by first | assumption | rfl | omega)) rfl (ct_220 rfl lk_8_133 (Or.inl rfl) sh_179 (Nat.le_of_ble_eq_true rfl)) ?_
            have hr62 : ra_in (rz_ s44 x0) := (rz_in (WF_k hk48 hw) (GZ_k hk48 hz54) (by first | assumption | rfl | omega))
            refine ra_ifne rfl rfl hr62 (fun h63 => ?_) (fun h63 => ?_)
            · refine ra_load rfl rfl rfl rfl ?_
              refine ra_load rfl rfl rfl rfl ?_
              refine ra_cTp (sp_219 hx0 (WF_k hk48 hw) (GZ_k hk48 hz54) (by first | assumption | rfl | omega)) rfl (ct_219 rfl lk_8_123 (Or.inl rfl) sh_179 (Nat.le_of_ble_eq_true rfl)) ?_
              have hr65 : ra_in (rs_ s44 x0) := (rs_in (WF_k hk48 hw) (GZ_k hk48 hz54) (by first | assumption | rfl | omega))
              exact ra_ireturn rfl rfl ⟨⟨_, hr65, rfl⟩, ⟨hF47, hk48, hk49, hk50, hk51, hk52, ho53⟩⟩
            · refine ra_iconst rfl ?_
              refine ra_goto rfl rfl ?_
              exact ra_ireturn rfl rfl ⟨⟨_, (by first | omega | (unfold ra_in at *; omega)), rfl⟩, ⟨hF47, hk48, hk49, hk50, hk51, hk52, ho53⟩⟩
          refine ra_switch (t := 124) rfl hx1 ⟨by decide, by decide, by decide⟩ (Or.inr ⟨ra_sw_none (by simp only [List.length]; omega), rfl⟩) ?_
          refine ra_load rfl rfl rfl rfl ?_
          refine ra_load rfl rfl rfl rfl ?_
          refine ra_cTp (sp_220 hx0 (WF_k hk48 hw) (GZ_k hk48 hz54) (by first | assumption | rfl | omega)) rfl (ct_220 rfl lk_8_133 (Or.inl rfl) sh_179 (Nat.le_of_ble_eq_true rfl)) ?_
          have hr67 : ra_in (rz_ s44 x0) := (rz_in (WF_k hk48 hw) (GZ_k hk48 hz54) (by first | assumption | rfl | omega))
          exact ra_ireturn rfl rfl ⟨⟨_, hr67, rfl⟩, ⟨hF47, hk48, hk49, hk50, hk51, hk52, ho53⟩⟩
        · exact absurd h55 (by decide)
      · refine ra_iconst rfl ?_
        refine ra_goto rfl rfl ?_
        refine ra_iconst rfl ?_
        refine ra_cT (sp_194 (Or.inr rfl) (by first | omega | (unfold ra_in at *; omega))) rfl (ct_194 rfl lk_8_303 (Or.inl rfl) sh_179 (Nat.le_of_ble_eq_true rfl)) (fun s68 hs68 => ?_)
        obtain ⟨hf69, he70⟩ := hs68
        have hF71 := Fr_tr (lo := 179) (hi := 187) hF33 hf69 (by omega)
        have hk72 : s68 (180) = σ (180) := (hf69 (180) (by omega)).trans hk34
        have hk73 : s68 (181) = σ (181) := (hf69 (181) (by omega)).trans hk35
        have hk74 : s68 (182) = σ (182) := (hf69 (182) (by omega)).trans hk36
        have hk75 : s68 (183) = σ (183) := (hf69 (183) (by omega)).trans hk37
        have hk76 : s68 (184) = σ (184) := (hf69 (184) (by omega)).trans hk38
        have ho77 : ∀ a, a ≠ 7 → a ≠ 10 → ra_g s68 179 a = ra_g σ 179 a := fun a h7 h10 => ((fun a h7 h10 => he70 a h7) a h7 h10).trans (ho39 a h7 h10)
        have hz78 := GZ_t (he70 10 (by decide)) (hf69 185 (by omega)) (hf69 186 (by omega)) hz40
        have hz78a := hz78.1
        have hz78b := hz78.2.1
        have hz78e := he70 10 (by decide)
        refine ra_ifeq rfl rfl (by first | omega | (unfold ra_in at *; omega)) (fun h79 => ?_) (fun h79 => ?_)
        · exact absurd h79 (by decide)
        · refine ra_iconst rfl ?_
          exact ra_ireturn rfl rfl ⟨⟨_, (by first | omega | (unfold ra_in at *; omega)), rfl⟩, ⟨hF71, hk72, hk73, hk74, hk75, hk76, ho77⟩⟩
  · refine ra_iconst rfl ?_
    refine ra_goto rfl rfl ?_
    refine ra_iconst rfl ?_
    refine ra_cT (sp_194 (Or.inr rfl) (by first | omega | (unfold ra_in at *; omega))) rfl (ct_194 rfl lk_8_303 (Or.inl rfl) sh_179 (Nat.le_of_ble_eq_true rfl)) (fun s80 hs80 => ?_)
    obtain ⟨hf81, he82⟩ := hs80
    have hF83 := Fr_tr (lo := 179) (hi := 187) hF20 hf81 (by omega)
    have hk84 : s80 (180) = σ (180) := (hf81 (180) (by omega)).trans hk21
    have hk85 : s80 (181) = σ (181) := (hf81 (181) (by omega)).trans hk22
    have hk86 : s80 (182) = σ (182) := (hf81 (182) (by omega)).trans hk23
    have hk87 : s80 (183) = σ (183) := (hf81 (183) (by omega)).trans hk24
    have hk88 : s80 (184) = σ (184) := (hf81 (184) (by omega)).trans hk25
    have ho89 : ∀ a, a ≠ 7 → a ≠ 10 → ra_g s80 179 a = ra_g σ 179 a := fun a h7 h10 => ((fun a h7 h10 => he82 a h7) a h7 h10).trans (ho26 a h7 h10)
    have hz90 := GZ_t (he82 10 (by decide)) (hf81 185 (by omega)) (hf81 186 (by omega)) hz19
    have hz90a := hz90.1
    have hz90b := hz90.2.1
    have hz90e := he82 10 (by decide)
    refine ra_ifne rfl rfl (by first | omega | (unfold ra_in at *; omega)) (fun h91 => ?_) (fun h91 => ?_)
    · refine ra_iconst rfl ?_
      exact ra_ireturn rfl rfl ⟨⟨_, (by first | omega | (unfold ra_in at *; omega)), rfl⟩, ⟨hF83, hk84, hk85, hk86, hk87, hk88, ho89⟩⟩
    · exact absurd h91 (by decide)
theorem lp_285_16 {n : Nat} {f : Nat → Int32} {d : Nat} {x0 : Int} {σ : ra_V} (hx0 : ra_in x0) (hw : WF σ) : ∀ (nn : Nat) (v2 : Int) (s : ra_V) (hv2_0 : 0 ≤ v2) (hv2_1 : v2 ≤ 300) (hF : Fr (179) (187) σ s) (hk0 : s (180) = σ (180)) (hk1 : s (181) = σ (181)) (hk2 : s (182) = σ (182)) (hk3 : s (183) = σ (183)) (hk4 : s (184) = σ (184)) (hoo : ∀ a, a ≠ 7 → a ≠ 10 → ra_g s 179 a = ra_g σ 179 a) (hz : GZ σ s) (hm : ((ra_g s 179 10 - v2 : Int)).toNat < nn), ra_P (g_Gs n f) g_sh 0 (d + 5) g_m_X8_gapAt 16 [some (.index (179)), some (ra_I x0), some (ra_I v2)] [] s (fun r s => rI r ∧ Fr (179) (187) σ s ∧ s (180) = σ (180) ∧ s (181) = σ (181) ∧ s (182) = σ (182) ∧ s (183) = σ (183) ∧ s (184) = σ (184) ∧ (∀ a, a ≠ 7 → a ≠ 10 → ra_g s 179 a = ra_g σ 179 a)) := by
  intro nn
  induction nn with
  | zero => intro v2 s hv2_0 hv2_1 hF hk0 hk1 hk2 hk3 hk4 hoo hz hm; exact absurd hm (Nat.not_lt_zero _)
  | succ nn ih =>
    intro v2 s hv2_0 hv2_1 hF hk0 hk1 hk2 hk3 hk4 hoo hz hm
    have hz0 := hz
    obtain ⟨z1, z2, z3⟩ := hz0
    have hw0 := WF_a hw
    unfold WFa at hw0
    refine ra_load rfl rfl rfl rfl ?_
    refine ra_load rfl rfl rfl rfl ?_
    refine ra_getI rfl lk_8_114 (Nat.zero_le _) sh_179 rfl ?_
    have hr35 : ra_in (ra_g s (179) 10) := (ra_in_g _ _ _)
    refine ra_icge rfl rfl (by first | omega | (unfold ra_in at *; omega)) hr35 (fun h36 => ?_) (fun h36 => ?_)
    · refine ra_iconst rfl ?_
      exact ra_ireturn rfl rfl ⟨⟨_, (by first | omega | (unfold ra_in at *; omega)), rfl⟩, ⟨hF, hk0, hk1, hk2, hk3, hk4, hoo⟩⟩
    · refine ra_load rfl rfl rfl rfl ?_
      refine ra_i2l rfl hx0 ?_
      refine ra_load rfl rfl rfl rfl ?_
      refine ra_getR rfl lk_8_25 (Nat.zero_le _) sh_179 rfl ?_
      refine ra_load rfl rfl rfl rfl ?_
      refine ra_iaload rfl sh_185 rfl (by decide) (by first | omega | (unfold ra_in at *; omega)) (by first | omega | (unfold ra_in at *; omega)) ?_
      have hr37 : ra_in (ra_g s (185) v2.toNat) := (ra_in_g _ _ _)
      refine ra_i2l rfl hr37 ?_
      refine ra_load rfl rfl rfl rfl ?_
      refine ra_getR rfl lk_8_25 (Nat.zero_le _) sh_179 rfl ?_
      refine ra_load rfl rfl rfl rfl ?_
      refine ra_iaload rfl sh_185 rfl (by decide) (by first | omega | (unfold ra_in at *; omega)) (by first | omega | (unfold ra_in at *; omega)) ?_
      have hr38 : ra_in (ra_g s (185) v2.toNat) := (ra_in_g _ _ _)
      refine ra_load rfl rfl rfl rfl ?_
      refine ra_getR rfl lk_8_28 (Nat.zero_le _) sh_179 rfl ?_
      refine ra_load rfl rfl rfl rfl ?_
      refine ra_iaload rfl sh_186 rfl (by decide) (by first | omega | (unfold ra_in at *; omega)) (by first | omega | (unfold ra_in at *; omega)) ?_
      have hr39 : ra_in (ra_g s (186) v2.toNat) := (ra_in_g _ _ _)
      refine ra_iadd rfl ?_
      refine ra_gen (fun z40 hz40 => ?_)
      refine ra_iconst rfl ?_
      refine ra_isub rfl ?_
      refine ra_gen (fun z41 hz41 => ?_)
      refine ra_i2l rfl hz41 ?_
      refine ra_cTp (sp_193 hx0 hr37 hz41) rfl (ct_193 rfl lk_8_63 (Or.inl rfl) (Nat.le_of_ble_eq_true rfl)) ?_
      refine ra_ifeqB rfl rfl (fun h43 => ?_) (fun h43 => ?_)
      · refine ra_iinc (L' := [_, _, _]) rfl rfl (Nat.le_of_ble_eq_true rfl) rfl ?_
        refine ra_goto rfl rfl ?_
        exact ra_weak (by repeat' constructor) (ih (v2 + 1) s (by first | omega | (unfold ra_in at *; omega)) (by first | omega | (unfold ra_in at *; omega)) hF hk0 hk1 hk2 hk3 hk4 hoo hz (by first | omega | (unfold ra_in at *; omega)))
      · refine ra_load rfl rfl rfl rfl ?_
        exact ra_ireturn rfl rfl ⟨⟨_, (by first | omega | (unfold ra_in at *; omega)), rfl⟩, ⟨hF, hk0, hk1, hk2, hk3, hk4, hoo⟩⟩
theorem sp_285 {n : Nat} {f : Nat → Int32} {d : Nat} {x0 : Int} {σ : ra_V} (hx0 : ra_in x0) (hw : WF σ) : ra_C (g_Gs n f) g_sh 0 (d + 6) 285 [.index (179), ra_I x0] σ (fun r s => rI r ∧ Fr (179) (187) σ s ∧ s (180) = σ (180) ∧ s (181) = σ (181) ∧ s (182) = σ (182) ∧ s (183) = σ (183) ∧ s (184) = σ (184) ∧ (∀ a, a ≠ 7 → a ≠ 10 → ra_g s 179 a = ra_g σ 179 a)) := by
  refine ra_enter (nn := 1) mt_285 rfl (Nat.le_of_ble_eq_true rfl) rfl (fun h => absurd h (by decide +kernel)) ?_
  have hw0 := WF_a hw
  unfold WFa at hw0
  refine ra_load rfl rfl rfl rfl ?_
  refine ra_load rfl rfl rfl rfl ?_
  refine ra_cQP (sp_270 hx0 hw) rfl (ct_270 rfl lk_8_321 (Or.inl rfl) sh_179 (Nat.le_of_ble_eq_true rfl)) (fun z2 s1 hz2 hz2p hs1 => ?_)
  obtain ⟨hf3, hc4, hc5, hc6, hc7, hc8, he9⟩ := hs1
  have hF10 := Fr_tr (lo := 179) (hi := 187) Fr_rf hf3 (by omega)
  have hk11 : s1 (180) = σ (180) := hc4
  have hk12 : s1 (181) = σ (181) := hc5
  have hk13 : s1 (182) = σ (182) := hc6
  have hk14 : s1 (183) = σ (183) := hc7
  have hk15 : s1 (184) = σ (184) := hc8
  have ho16 : ∀ a, a ≠ 7 → a ≠ 10 → ra_g s1 179 a = ra_g σ 179 a := fun a h7 h10 => (he9 a h7 h10).trans ((fun _ _ _ => rfl) a h7 h10)
  refine ra_ifeq rfl rfl (ra_in01 hz2) (fun h17 => ?_) (fun h17 => ?_)
  · refine ra_load rfl rfl rfl rfl ?_
    refine ra_cV (sp_218 (WF_k hk11 hw)) rfl (ct_218 rfl lk_8_130 (Or.inl rfl) sh_179 (Nat.le_of_ble_eq_true rfl)) (fun s18 hs18 => ?_)
    obtain ⟨hf19, hc20, hc21, hc22, hc23, hc24, he25, he26⟩ := hs18
    have hz27 := GZ_s hk11 he26
    have hF28 := Fr_tr (lo := 179) (hi := 187) hF10 hf19 (by omega)
    have hk29 : s18 (180) = σ (180) := hc20.trans hk11
    have hk30 : s18 (181) = σ (181) := hc21.trans hk12
    have hk31 : s18 (182) = σ (182) := hc22.trans hk13
    have hk32 : s18 (183) = σ (183) := hc23.trans hk14
    have hk33 : s18 (184) = σ (184) := hc24.trans hk15
    have ho34 : ∀ a, a ≠ 7 → a ≠ 10 → ra_g s18 179 a = ra_g σ 179 a := fun a h7 h10 => ((fun a h7 h10 => he25 a h10) a h7 h10).trans (ho16 a h7 h10)
    have hz27a := hz27.1
    have hz27b := hz27.2.1
    refine ra_iconst rfl ?_
    refine ra_store (L' := [_, _, _]) rfl rfl rfl (Nat.le_of_ble_eq_true rfl) rfl ?_
    exact ra_weak (by repeat' constructor) (lp_285_16 hx0 hw _ (0) s18 (by first | omega | (unfold ra_in at *; omega)) (by first | omega | (unfold ra_in at *; omega)) hF28 hk29 hk30 hk31 hk32 hk33 ho34 hz27 (Nat.lt_succ_self _))
  · refine ra_iconst rfl ?_
    exact ra_ireturn rfl rfl ⟨⟨_, (by first | omega | (unfold ra_in at *; omega)), rfl⟩, ⟨hF10, hk11, hk12, hk13, hk14, hk15, ho16⟩⟩
theorem sp_286 {n : Nat} {f : Nat → Int32} {d : Nat} {x0 : Int} {x1 : Int} {σ : ra_V} (hx0 : ra_in x0) (hx1 : ra_in x1) (hw : WF σ) : ra_C (g_Gs n f) g_sh 0 (d + 7) 286 [.index (179), ra_I x0, ra_I x1] σ (fun r s => rI r ∧ Fr (179) (187) σ s ∧ s (180) = σ (180) ∧ s (181) = σ (181) ∧ s (182) = σ (182) ∧ s (183) = σ (183) ∧ s (184) = σ (184) ∧ (∀ a, a ≠ 7 → a ≠ 10 → ra_g s 179 a = ra_g σ 179 a)) := by
  refine ra_enter (nn := 0) mt_286 rfl (Nat.le_of_ble_eq_true rfl) rfl (fun h => absurd h (by decide +kernel)) ?_
  have hw0 := WF_a hw
  unfold WFa at hw0
  refine ra_load rfl rfl rfl rfl ?_
  refine ra_iconst rfl ?_
  refine ra_putI rfl lk_8_51 (Nat.zero_le _) sh_179 rfl rfl ?_
  refine ra_newU (by first | omega | (unfold ra_in at *; omega)) (fun s1 hs1 hp2 hp2o => ?_)
  have hp2_99 := hp2o 99 (by decide)
  have hF3 := Fr_tr (lo := 179) (hi := 187) Fr_rf hs1 (by omega)
  have hk4 : s1 (180) = σ (180) := (hs1 (180) (by omega))
  have hk5 : s1 (181) = σ (181) := (hs1 (181) (by omega))
  have hk6 : s1 (182) = σ (182) := (hs1 (182) (by omega))
  have hk7 : s1 (183) = σ (183) := (hs1 (183) (by omega))
  have hk8 : s1 (184) = σ (184) := (hs1 (184) (by omega))
  have ho9 : ∀ a, a ≠ 7 → a ≠ 10 → ra_g s1 179 a = ra_g σ 179 a := fun a h7 h10 => ((fun a h7 h10 => hp2o a h7) a h7 h10).trans ((fun _ _ _ => rfl) a h7 h10)
  refine ra_load rfl rfl rfl rfl ?_
  refine ra_load rfl rfl rfl rfl ?_
  refine ra_i2l rfl hx1 ?_
  refine ra_lconst0 rfl ?_
  refine ra_ldc2 (z := 2) rfl lk_8_344 (by decide) ?_
  refine ra_cTp (sp_193 hx1 (by first | omega | (unfold ra_in at *; omega)) (by first | omega | (unfold ra_in at *; omega))) rfl (ct_193 rfl lk_8_63 (Or.inl rfl) (Nat.le_of_ble_eq_true rfl)) ?_
  refine ra_ifneB rfl rfl (fun h11 => ?_) (fun h11 => ?_)
  · refine ra_iconst rfl ?_
    refine ra_iconst rfl ?_
    refine ra_cT (sp_194 (Or.inl rfl) (by first | omega | (unfold ra_in at *; omega))) rfl (ct_194 rfl lk_8_303 (Or.inl rfl) sh_179 (Nat.le_of_ble_eq_true rfl)) (fun s12 hs12 => ?_)
    obtain ⟨hf13, he14⟩ := hs12
    have hF15 := Fr_tr (lo := 179) (hi := 187) hF3 hf13 (by omega)
    have hk16 : s12 (180) = σ (180) := (hf13 (180) (by omega)).trans hk4
    have hk17 : s12 (181) = σ (181) := (hf13 (181) (by omega)).trans hk5
    have hk18 : s12 (182) = σ (182) := (hf13 (182) (by omega)).trans hk6
    have hk19 : s12 (183) = σ (183) := (hf13 (183) (by omega)).trans hk7
    have hk20 : s12 (184) = σ (184) := (hf13 (184) (by omega)).trans hk8
    have ho21 : ∀ a, a ≠ 7 → a ≠ 10 → ra_g s12 179 a = ra_g σ 179 a := fun a h7 h10 => ((fun a h7 h10 => he14 a h7) a h7 h10).trans (ho9 a h7 h10)
    refine ra_ifeq rfl rfl (by first | omega | (unfold ra_in at *; omega)) (fun h22 => ?_) (fun h22 => ?_)
    · refine ra_load rfl rfl rfl rfl ?_
      refine ra_load rfl rfl rfl rfl ?_
      refine ra_load rfl rfl rfl rfl ?_
      refine ra_cIP (sp_222 hx0 hx1 (WF_k hk16 hw)) rfl (ct_222 rfl lk_8_346 (Or.inl rfl) sh_179 (Nat.le_of_ble_eq_true rfl)) (fun z24 s23 hz24 hz24p hs23 => ?_)
      obtain ⟨hf25, hc26, hc27, hc28, hc29, hc30, he31⟩ := hs23
      have hF32 := Fr_tr (lo := 179) (hi := 187) hF15 hf25 (by omega)
      have hk33 : s23 (180) = σ (180) := hc26.trans hk16
      have hk34 : s23 (181) = σ (181) := hc27.trans hk17
      have hk35 : s23 (182) = σ (182) := hc28.trans hk18
      have hk36 : s23 (183) = σ (183) := hc29.trans hk19
      have hk37 : s23 (184) = σ (184) := hc30.trans hk20
      have ho38 : ∀ a, a ≠ 7 → a ≠ 10 → ra_g s23 179 a = ra_g σ 179 a := fun a h7 h10 => ((fun a h7 h10 => he31 a h10) a h7 h10).trans (ho21 a h7 h10)
      exact ra_ireturn rfl rfl ⟨⟨_, hz24, rfl⟩, ⟨hF32, hk33, hk34, hk35, hk36, hk37, ho38⟩⟩
    · exact absurd h22 (by decide)
  · refine ra_iconst rfl ?_
    refine ra_goto rfl rfl ?_
    refine ra_iconst rfl ?_
    refine ra_cT (sp_194 (Or.inr rfl) (by first | omega | (unfold ra_in at *; omega))) rfl (ct_194 rfl lk_8_303 (Or.inl rfl) sh_179 (Nat.le_of_ble_eq_true rfl)) (fun s39 hs39 => ?_)
    obtain ⟨hf40, he41⟩ := hs39
    have hF42 := Fr_tr (lo := 179) (hi := 187) hF3 hf40 (by omega)
    have hk43 : s39 (180) = σ (180) := (hf40 (180) (by omega)).trans hk4
    have hk44 : s39 (181) = σ (181) := (hf40 (181) (by omega)).trans hk5
    have hk45 : s39 (182) = σ (182) := (hf40 (182) (by omega)).trans hk6
    have hk46 : s39 (183) = σ (183) := (hf40 (183) (by omega)).trans hk7
    have hk47 : s39 (184) = σ (184) := (hf40 (184) (by omega)).trans hk8
    have ho48 : ∀ a, a ≠ 7 → a ≠ 10 → ra_g s39 179 a = ra_g σ 179 a := fun a h7 h10 => ((fun a h7 h10 => he41 a h7) a h7 h10).trans (ho9 a h7 h10)
    refine ra_ifeq rfl rfl (by first | omega | (unfold ra_in at *; omega)) (fun h49 => ?_) (fun h49 => ?_)
    · exact absurd h49 (by decide)
    · refine ra_iconst rfl ?_
      refine ra_goto rfl rfl ?_
      exact ra_ireturn rfl rfl ⟨⟨_, (by first | omega | (unfold ra_in at *; omega)), rfl⟩, ⟨hF42, hk43, hk44, hk45, hk46, hk47, ho48⟩⟩
theorem sp_287 {n : Nat} {f : Nat → Int32} {d : Nat} {x0 : Int} {x1 : Int} {σ : ra_V} (hx0 : ra_in x0) (hx1 : ra_in x1) (hw : WF σ) : ra_C (g_Gs n f) g_sh 0 (d + 5) 287 [.index (179), ra_I x0, ra_I x1] σ (fun r s => rI r ∧ Fr (179) (187) σ s ∧ s (180) = σ (180) ∧ s (181) = σ (181) ∧ s (182) = σ (182) ∧ s (183) = σ (183) ∧ s (184) = σ (184) ∧ (∀ a, a ≠ 7 → a ≠ 10 → ra_g s 179 a = ra_g σ 179 a)) := by
  refine ra_enter (nn := 0) mt_287 rfl (Nat.le_of_ble_eq_true rfl) rfl (fun h => absurd h (by decide +kernel)) ?_
  have hw0 := WF_a hw
  unfold WFa at hw0
  refine ra_load rfl rfl rfl rfl ?_
  refine ra_iconst rfl ?_
  refine ra_putI rfl lk_8_51 (Nat.zero_le _) sh_179 rfl rfl ?_
  refine ra_newU (by first | omega | (unfold ra_in at *; omega)) (fun s1 hs1 hp2 hp2o => ?_)
  have hp2_99 := hp2o 99 (by decide)
  have hF3 := Fr_tr (lo := 179) (hi := 187) Fr_rf hs1 (by omega)
  have hk4 : s1 (180) = σ (180) := (hs1 (180) (by omega))
  have hk5 : s1 (181) = σ (181) := (hs1 (181) (by omega))
  have hk6 : s1 (182) = σ (182) := (hs1 (182) (by omega))
  have hk7 : s1 (183) = σ (183) := (hs1 (183) (by omega))
  have hk8 : s1 (184) = σ (184) := (hs1 (184) (by omega))
  have ho9 : ∀ a, a ≠ 7 → a ≠ 10 → ra_g s1 179 a = ra_g σ 179 a := fun a h7 h10 => ((fun a h7 h10 => hp2o a h7) a h7 h10).trans ((fun _ _ _ => rfl) a h7 h10)
  refine ra_load rfl rfl rfl rfl ?_
  refine ra_load rfl rfl rfl rfl ?_
  refine ra_load rfl rfl rfl rfl ?_
  refine ra_cIPp (sp_216 hx0 hx1 (WFa_k hk4 (WF_a hw))) rfl (ct_216 rfl lk_8_349 (Or.inl rfl) sh_179 (Nat.le_of_ble_eq_true rfl)) (fun z11 hz11 hz11p => ?_)
  exact ra_ireturn rfl rfl ⟨⟨_, hz11, rfl⟩, ⟨hF3, hk4, hk5, hk6, hk7, hk8, ho9⟩⟩
theorem lp_289_13 {n : Nat} {f : Nat → Int32} {d : Nat}  {σ : ra_V} (hw : WF σ) : ∀ (nn : Nat) (v1 : Int) (v2 : Int) (s : ra_V) (hv1 : ra_in v1) (hv2_0 : 0 ≤ v2) (hv2_1 : v2 ≤ 300) (hF : Fr (179) (187) σ s) (hk0 : s (180) = σ (180)) (hk1 : s (181) = σ (181)) (hk2 : s (182) = σ (182)) (hk3 : s (183) = σ (183)) (hk4 : s (184) = σ (184)) (hoo : ∀ a, a ≠ 7 → a ≠ 10 → ra_g s 179 a = ra_g σ 179 a) (hz : GZ σ s) (hm : ((ra_g s 179 10 - v2 : Int)).toNat < nn), ra_P (g_Gs n f) g_sh 0 (d + 5) g_m_X8_waste 13 [some (.index (179)), some (ra_I v1), some (ra_I v2)] [] s (fun r s => rI r ∧ Fr (179) (187) σ s ∧ s (180) = σ (180) ∧ s (181) = σ (181) ∧ s (182) = σ (182) ∧ s (183) = σ (183) ∧ s (184) = σ (184) ∧ (∀ a, a ≠ 7 → a ≠ 10 → ra_g s 179 a = ra_g σ 179 a)) := by
  intro nn
  induction nn with
  | zero => intro v1 v2 s hv1 hv2_0 hv2_1 hF hk0 hk1 hk2 hk3 hk4 hoo hz hm; exact absurd hm (Nat.not_lt_zero _)
  | succ nn ih =>
    intro v1 v2 s hv1 hv2_0 hv2_1 hF hk0 hk1 hk2 hk3 hk4 hoo hz hm
    have hz0 := hz
    obtain ⟨z1, z2, z3⟩ := hz0
    have hw0 := WF_a hw
    unfold WFa at hw0
    refine ra_load rfl rfl rfl rfl ?_
    refine ra_load rfl rfl rfl rfl ?_
    refine ra_getI rfl lk_8_114 (Nat.zero_le _) sh_179 rfl ?_
    have hr27 : ra_in (ra_g s (179) 10) := (ra_in_g _ _ _)
    refine ra_icge rfl rfl (by first | omega | (unfold ra_in at *; omega)) hr27 (fun h28 => ?_) (fun h28 => ?_)
    · refine ra_load rfl rfl rfl rfl ?_
      exact ra_ireturn rfl rfl ⟨⟨_, hv1, rfl⟩, ⟨hF, hk0, hk1, hk2, hk3, hk4, hoo⟩⟩
    · refine ra_load rfl rfl rfl rfl ?_
      refine ra_load rfl rfl rfl rfl ?_
      refine ra_getR rfl lk_8_28 (Nat.zero_le _) sh_179 rfl ?_
      refine ra_load rfl rfl rfl rfl ?_
      refine ra_iaload rfl sh_186 rfl (by decide) (by first | omega | (unfold ra_in at *; omega)) (by first | omega | (unfold ra_in at *; omega)) ?_
      have hr29 : ra_in (ra_g s (186) v2.toNat) := (ra_in_g _ _ _)
      refine ra_load rfl rfl rfl rfl ?_
      refine ra_load rfl rfl rfl rfl ?_
      refine ra_cTp (sp_220 (by first | omega | (unfold ra_in at *; omega)) (WF_k hk0 hw) (GZ_k hk0 hz) (by first | assumption | rfl | omega)) rfl (ct_220 rfl lk_8_133 (Or.inl rfl) sh_179 (Nat.le_of_ble_eq_true rfl)) ?_
      have hr31 : ra_in (rz_ s v2) := (rz_in (WF_k hk0 hw) (GZ_k hk0 hz) (by first | assumption | rfl | omega))
      refine ra_isub rfl ?_
      refine ra_gen (fun z32 hz32 => ?_)
      refine ra_iadd rfl ?_
      refine ra_gen (fun z33 hz33 => ?_)
      refine ra_store (L' := [_, _, _]) rfl rfl rfl (Nat.le_of_ble_eq_true rfl) rfl ?_
      refine ra_iinc (L' := [_, _, _]) rfl rfl (Nat.le_of_ble_eq_true rfl) rfl ?_
      refine ra_goto rfl rfl ?_
      exact ra_weak (by repeat' constructor) (ih z33 (v2 + 1) s hz33 (by first | omega | (unfold ra_in at *; omega)) (by first | omega | (unfold ra_in at *; omega)) hF hk0 hk1 hk2 hk3 hk4 hoo hz (by first | omega | (unfold ra_in at *; omega)))
theorem sp_289 {n : Nat} {f : Nat → Int32} {d : Nat}  {σ : ra_V} (hw : WF σ) : ra_C (g_Gs n f) g_sh 0 (d + 6) 289 [.index (179)] σ (fun r s => rI r ∧ Fr (179) (187) σ s ∧ s (180) = σ (180) ∧ s (181) = σ (181) ∧ s (182) = σ (182) ∧ s (183) = σ (183) ∧ s (184) = σ (184) ∧ (∀ a, a ≠ 7 → a ≠ 10 → ra_g s 179 a = ra_g σ 179 a)) := by
  refine ra_enter (nn := 2) mt_289 rfl (Nat.le_of_ble_eq_true rfl) rfl (fun h => absurd h (by decide +kernel)) ?_
  have hw0 := WF_a hw
  unfold WFa at hw0
  refine ra_load rfl rfl rfl rfl ?_
  refine ra_iconst rfl ?_
  refine ra_putI rfl lk_8_51 (Nat.zero_le _) sh_179 rfl rfl ?_
  refine ra_newU (by first | omega | (unfold ra_in at *; omega)) (fun s1 hs1 hp2 hp2o => ?_)
  have hp2_99 := hp2o 99 (by decide)
  have hF3 := Fr_tr (lo := 179) (hi := 187) Fr_rf hs1 (by omega)
  have hk4 : s1 (180) = σ (180) := (hs1 (180) (by omega))
  have hk5 : s1 (181) = σ (181) := (hs1 (181) (by omega))
  have hk6 : s1 (182) = σ (182) := (hs1 (182) (by omega))
  have hk7 : s1 (183) = σ (183) := (hs1 (183) (by omega))
  have hk8 : s1 (184) = σ (184) := (hs1 (184) (by omega))
  have ho9 : ∀ a, a ≠ 7 → a ≠ 10 → ra_g s1 179 a = ra_g σ 179 a := fun a h7 h10 => ((fun a h7 h10 => hp2o a h7) a h7 h10).trans ((fun _ _ _ => rfl) a h7 h10)
  refine ra_load rfl rfl rfl rfl ?_
  refine ra_cV (sp_218 (WF_k hk4 hw)) rfl (ct_218 rfl lk_8_130 (Or.inl rfl) sh_179 (Nat.le_of_ble_eq_true rfl)) (fun s10 hs10 => ?_)
  obtain ⟨hf11, hc12, hc13, hc14, hc15, hc16, he17, he18⟩ := hs10
  have hz19 := GZ_s hk4 he18
  have hF20 := Fr_tr (lo := 179) (hi := 187) hF3 hf11 (by omega)
  have hk21 : s10 (180) = σ (180) := hc12.trans hk4
  have hk22 : s10 (181) = σ (181) := hc13.trans hk5
  have hk23 : s10 (182) = σ (182) := hc14.trans hk6
  have hk24 : s10 (183) = σ (183) := hc15.trans hk7
  have hk25 : s10 (184) = σ (184) := hc16.trans hk8
  have ho26 : ∀ a, a ≠ 7 → a ≠ 10 → ra_g s10 179 a = ra_g σ 179 a := fun a h7 h10 => ((fun a h7 h10 => he17 a h10) a h7 h10).trans (ho9 a h7 h10)
  have hz19a := hz19.1
  have hz19b := hz19.2.1
  refine ra_iconst rfl ?_
  refine ra_store (L' := [_, _, _]) rfl rfl rfl (Nat.le_of_ble_eq_true rfl) rfl ?_
  refine ra_iconst rfl ?_
  refine ra_store (L' := [_, _, _]) rfl rfl rfl (Nat.le_of_ble_eq_true rfl) rfl ?_
  exact ra_weak (by repeat' constructor) (lp_289_13 hw _ (0) (0) s10 (by first | omega | (unfold ra_in at *; omega)) (by first | omega | (unfold ra_in at *; omega)) (by first | omega | (unfold ra_in at *; omega)) hF20 hk21 hk22 hk23 hk24 hk25 ho26 hz19 (Nat.lt_succ_self _))
theorem sp_290 {n : Nat} {f : Nat → Int32} {d : Nat}  {σ : ra_V} (hw : WF σ) : ra_C (g_Gs n f) g_sh 0 (d + 7) 290 [.index (179)] σ (fun r s => (rF 5) r ∧ Fr (179) (187) σ s ∧ s (180) = σ (180) ∧ s (181) = σ (181) ∧ s (182) = σ (182) ∧ s (183) = σ (183) ∧ s (184) = σ (184) ∧ (∀ a, a ≠ 7 → a ≠ 10 → ra_g s 179 a = ra_g σ 179 a)) := by
  refine ra_enter (nn := 1) mt_290 rfl (Nat.le_of_ble_eq_true rfl) rfl (fun h => absurd h (by decide +kernel)) ?_
  have hw0 := WF_a hw
  unfold WFa at hw0
  refine ra_load rfl rfl rfl rfl ?_
  refine ra_iconst rfl ?_
  refine ra_putI rfl lk_8_51 (Nat.zero_le _) sh_179 rfl rfl ?_
  refine ra_newU (by first | omega | (unfold ra_in at *; omega)) (fun s1 hs1 hp2 hp2o => ?_)
  have hp2_99 := hp2o 99 (by decide)
  have hF3 := Fr_tr (lo := 179) (hi := 187) Fr_rf hs1 (by omega)
  have hk4 : s1 (180) = σ (180) := (hs1 (180) (by omega))
  have hk5 : s1 (181) = σ (181) := (hs1 (181) (by omega))
  have hk6 : s1 (182) = σ (182) := (hs1 (182) (by omega))
  have hk7 : s1 (183) = σ (183) := (hs1 (183) (by omega))
  have hk8 : s1 (184) = σ (184) := (hs1 (184) (by omega))
  have ho9 : ∀ a, a ≠ 7 → a ≠ 10 → ra_g s1 179 a = ra_g σ 179 a := fun a h7 h10 => ((fun a h7 h10 => hp2o a h7) a h7 h10).trans ((fun _ _ _ => rfl) a h7 h10)
  refine ra_load rfl rfl rfl rfl ?_
  refine ra_cI (sp_265 (WF_k hk4 hw)) rfl (ct_265 rfl lk_8_307 (Or.inl rfl) sh_179 (Nat.le_of_ble_eq_true rfl)) (fun z11 s10  hz11 hs10 => ?_)
  obtain ⟨hf12, hc13, hc14, hc15, hc16, hc17, he18⟩ := hs10
  have hF19 := Fr_tr (lo := 179) (hi := 187) hF3 hf12 (by omega)
  have hk20 : s10 (180) = σ (180) := hc13.trans hk4
  have hk21 : s10 (181) = σ (181) := hc14.trans hk5
  have hk22 : s10 (182) = σ (182) := hc15.trans hk6
  have hk23 : s10 (183) = σ (183) := hc16.trans hk7
  have hk24 : s10 (184) = σ (184) := hc17.trans hk8
  have ho25 : ∀ a, a ≠ 7 → a ≠ 10 → ra_g s10 179 a = ra_g σ 179 a := fun a h7 h10 => (he18 a h7 h10).trans (ho9 a h7 h10)
  refine ra_store (L' := [_, _]) rfl rfl rfl (Nat.le_of_ble_eq_true rfl) rfl ?_
  refine ra_load rfl rfl rfl rfl ?_
  refine ra_ifne rfl rfl hz11 (fun h26 => ?_) (fun h26 => ?_)
  · refine ra_fconst1 rfl ?_
    refine ra_load rfl rfl rfl rfl ?_
    refine ra_cI (sp_283 (WF_k hk20 hw)) rfl (ct_283 rfl lk_8_341 (Or.inl rfl) sh_179 (Nat.le_of_ble_eq_true rfl)) (fun z28 s27  hz28 hs27 => ?_)
    obtain ⟨hf29, hc30, hc31, hc32, hc33, hc34, he35⟩ := hs27
    have hF36 := Fr_tr (lo := 179) (hi := 187) hF19 hf29 (by omega)
    have hk37 : s27 (180) = σ (180) := hc30.trans hk20
    have hk38 : s27 (181) = σ (181) := hc31.trans hk21
    have hk39 : s27 (182) = σ (182) := hc32.trans hk22
    have hk40 : s27 (183) = σ (183) := hc33.trans hk23
    have hk41 : s27 (184) = σ (184) := hc34.trans hk24
    have ho42 : ∀ a, a ≠ 7 → a ≠ 10 → ra_g s27 179 a = ra_g σ 179 a := fun a h7 h10 => (he35 a h7 h10).trans (ho25 a h7 h10)
    refine ra_i2f rfl ?_
    refine ra_load rfl rfl rfl rfl ?_
    refine ra_i2f rfl ?_
    refine ra_fdiv rfl (ra_fn hz11 (by first | omega | (unfold ra_in at *; omega))) ?_
    refine ra_fsub rfl (ra_sn hz11 (by first | omega | (unfold ra_in at *; omega))) ?_
    exact ra_freturn rfl rfl ⟨⟨_, rfl, rfl⟩, ⟨hF36, hk37, hk38, hk39, hk40, hk41, ho42⟩⟩
  · refine ra_fconst0 rfl ?_
    refine ra_goto rfl rfl ?_
    exact ra_freturn rfl rfl ⟨⟨_, rfl, rfl⟩, ⟨hF19, hk20, hk21, hk22, hk23, hk24, ho25⟩⟩
theorem lp_291_4 {n : Nat} {f : Nat → Int32} {d : Nat}  {σ : ra_V}  : ∀ (nn : Nat) (v1 : Int) (v2 : Int) (hv1 : ra_in v1) (hv2_0 : 0 ≤ v2) (hv2_1 : v2 ≤ 8) (hm : ((8 - v2 : Int)).toNat < nn), ra_P (g_Gs n f) g_sh 0 (d + 1) g_m_X8_sizes 4 [some (.index (179)), some (ra_I v1), some (ra_I v2)] [] σ (fun r s => rI r ∧ s = σ) := by
  intro nn
  induction nn with
  | zero => intro v1 v2 hv1 hv2_0 hv2_1 hm; exact absurd hm (Nat.not_lt_zero _)
  | succ nn ih =>
    intro v1 v2 hv1 hv2_0 hv2_1 hm
    refine ra_load rfl rfl rfl rfl ?_
    refine ra_bipush rfl (by decide) ?_
    refine ra_icge rfl rfl (by first | omega | (unfold ra_in at *; omega)) (by first | omega | (unfold ra_in at *; omega)) (fun h1 => ?_) (fun h1 => ?_)
    · refine ra_load rfl rfl rfl rfl ?_
      exact ra_ireturn rfl rfl ⟨⟨_, hv1, rfl⟩, rfl⟩
    · refine ra_load rfl rfl rfl rfl ?_
      refine ra_load rfl rfl rfl rfl ?_
      refine ra_load rfl rfl rfl rfl ?_
      refine ra_iconst rfl ?_
      refine ra_cTp (sp_200 (by first | omega | (unfold ra_in at *; omega)) (by first | omega | (unfold ra_in at *; omega)) (by first | assumption | rfl | omega)) rfl (ct_200 rfl lk_8_67 (Or.inl rfl) sh_179 (Nat.le_of_ble_eq_true rfl)) ?_
      have hr3 : ra_in (wq σ v2 (0)) := (ra_in_wq _ _ _)
      refine ra_iconst rfl ?_
      refine ra_icne rfl rfl hr3 (by first | omega | (unfold ra_in at *; omega)) (fun h4 => ?_) (fun h4 => ?_)
      · refine ra_iconst rfl ?_
        refine ra_iadd rfl ?_
        refine ra_gen (fun z5 hz5 => ?_)
        refine ra_store (L' := [_, _, _]) rfl rfl rfl (Nat.le_of_ble_eq_true rfl) rfl ?_
        refine ra_iinc (L' := [_, _, _]) rfl rfl (Nat.le_of_ble_eq_true rfl) rfl ?_
        refine ra_goto rfl rfl ?_
        exact ra_weak (by repeat' constructor) (ih z5 (v2 + 1) hz5 (by first | omega | (unfold ra_in at *; omega)) (by first | omega | (unfold ra_in at *; omega)) (by first | omega | (unfold ra_in at *; omega)))
      · refine ra_load rfl rfl rfl rfl ?_
        refine ra_load rfl rfl rfl rfl ?_
        refine ra_iconst rfl ?_
        refine ra_cTp (sp_200 (by first | omega | (unfold ra_in at *; omega)) (by first | omega | (unfold ra_in at *; omega)) (by first | assumption | rfl | omega)) rfl (ct_200 rfl lk_8_67 (Or.inl rfl) sh_179 (Nat.le_of_ble_eq_true rfl)) ?_
        have hr7 : ra_in (wq σ v2 (2)) := (ra_in_wq _ _ _)
        refine ra_goto rfl rfl ?_
        refine ra_iadd rfl ?_
        refine ra_gen (fun z8 hz8 => ?_)
        refine ra_store (L' := [_, _, _]) rfl rfl rfl (Nat.le_of_ble_eq_true rfl) rfl ?_
        refine ra_iinc (L' := [_, _, _]) rfl rfl (Nat.le_of_ble_eq_true rfl) rfl ?_
        refine ra_goto rfl rfl ?_
        exact ra_weak (by repeat' constructor) (ih z8 (v2 + 1) hz8 (by first | omega | (unfold ra_in at *; omega)) (by first | omega | (unfold ra_in at *; omega)) (by first | omega | (unfold ra_in at *; omega)))
theorem sp_291 {n : Nat} {f : Nat → Int32} {d : Nat}  {σ : ra_V}  : ra_C (g_Gs n f) g_sh 0 (d + 2) 291 [.index (179)] σ (fun r s => rI r ∧ s = σ) := by
  refine ra_enter (nn := 2) mt_291 rfl (Nat.le_of_ble_eq_true rfl) rfl (fun h => absurd h (by decide +kernel)) ?_
  refine ra_iconst rfl ?_
  refine ra_store (L' := [_, _, _]) rfl rfl rfl (Nat.le_of_ble_eq_true rfl) rfl ?_
  refine ra_iconst rfl ?_
  refine ra_store (L' := [_, _, _]) rfl rfl rfl (Nat.le_of_ble_eq_true rfl) rfl ?_
  exact ra_weak (by repeat' constructor) (lp_291_4  _ (0) (0) (by first | omega | (unfold ra_in at *; omega)) (by first | omega | (unfold ra_in at *; omega)) (by first | omega | (unfold ra_in at *; omega)) (Nat.lt_succ_self _))
theorem sp_292 {n : Nat} {f : Nat → Int32} {d : Nat}  {σ : ra_V} (hw : WF σ) : ra_C (g_Gs n f) g_sh 0 (d + 3) 292 [.index (179)] σ (fun r s => (rF 4) r ∧ Fr (179) (187) σ s ∧ s (180) = σ (180) ∧ s (181) = σ (181) ∧ s (182) = σ (182) ∧ s (183) = σ (183) ∧ s (184) = σ (184) ∧ (∀ a, a ≠ 7 → a ≠ 10 → ra_g s 179 a = ra_g σ 179 a)) := by
  refine ra_enter (nn := 0) mt_292 rfl (Nat.le_of_ble_eq_true rfl) rfl (fun h => absurd h (by decide +kernel)) ?_
  have hw0 := WF_a hw
  unfold WFa at hw0
  refine ra_load rfl rfl rfl rfl ?_
  refine ra_iconst rfl ?_
  refine ra_putI rfl lk_8_51 (Nat.zero_le _) sh_179 rfl rfl ?_
  refine ra_newU (by first | omega | (unfold ra_in at *; omega)) (fun s1 hs1 hp2 hp2o => ?_)
  have hp2_99 := hp2o 99 (by decide)
  have hF3 := Fr_tr (lo := 179) (hi := 187) Fr_rf hs1 (by omega)
  have hk4 : s1 (180) = σ (180) := (hs1 (180) (by omega))
  have hk5 : s1 (181) = σ (181) := (hs1 (181) (by omega))
  have hk6 : s1 (182) = σ (182) := (hs1 (182) (by omega))
  have hk7 : s1 (183) = σ (183) := (hs1 (183) (by omega))
  have hk8 : s1 (184) = σ (184) := (hs1 (184) (by omega))
  have ho9 : ∀ a, a ≠ 7 → a ≠ 10 → ra_g s1 179 a = ra_g σ 179 a := fun a h7 h10 => ((fun a h7 h10 => hp2o a h7) a h7 h10).trans ((fun _ _ _ => rfl) a h7 h10)
  refine ra_load rfl rfl rfl rfl ?_
  refine ra_cIp (sp_291 ) rfl (ct_291 rfl lk_8_352 (Or.inl rfl) sh_179 (Nat.le_of_ble_eq_true rfl)) (fun z11 hz11 => ?_)
  refine ra_i2d rfl ?_
  refine ra_load rfl rfl rfl rfl ?_
  refine ra_getR rfl lk_8_7 (Nat.zero_le _) sh_179 rfl ?_
  refine ra_iconst rfl ?_
  refine ra_ialoadJ (j := 0) rfl sh_180 rfl (by decide) rfl (by decide) ?_
  rw [ra_gk hk4]
  have hr12 : ra_in (ra_g σ (180) 0) := (ra_in_g _ _ _)
  refine ra_load rfl rfl rfl rfl ?_
  refine ra_getR rfl lk_8_7 (Nat.zero_le _) sh_179 rfl ?_
  refine ra_iconst rfl ?_
  refine ra_ialoadJ (j := 1) rfl sh_180 rfl (by decide) rfl (by decide) ?_
  rw [ra_gk hk4]
  have hr13 : ra_in (ra_g σ (180) 1) := (ra_in_g _ _ _)
  refine ra_isub rfl ?_
  refine ra_load rfl rfl rfl rfl ?_
  refine ra_getR rfl lk_8_7 (Nat.zero_le _) sh_179 rfl ?_
  refine ra_iconst rfl ?_
  refine ra_ialoadJ (j := 2) rfl sh_180 rfl (by decide) rfl (by decide) ?_
  rw [ra_gk hk4]
  have hr14 : ra_in (ra_g σ (180) 2) := (ra_in_g _ _ _)
  refine ra_isub rfl ?_
  refine ra_i2d rfl ?_
  refine ra_ddiv rfl (ra_dn (by first | omega | (unfold ra_in at *; omega)) (by first | omega | (unfold ra_in at *; omega))) ?_
  exact ra_dreturn rfl rfl ⟨⟨_, rfl, rfl⟩, ⟨hF3, hk4, hk5, hk6, hk7, hk8, ho9⟩⟩
end RB
end
