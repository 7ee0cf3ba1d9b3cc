/-! rows copied -/
section RB
def CPO (σ s : ra_V) (k0 k2 : Nat) (at_ into many : Int) : Prop := ∀ a : Nat, ra_g s k2 a = if into ≤ (a : Int) ∧ (a : Int) < into + many then ra_g σ k0 ((a : Int) - into + at_).toNat else ra_g σ k2 a
theorem cp_0 {σ : ra_V} {k0 k2 : Nat} {at_ into : Int} : CPO σ σ k0 k2 at_ into 0 := fun a => (if_neg (by omega)).symm
theorem cp_y {σ s s1 : ra_V} {k0 k2 : Nat} {at_ into v : Int} (h : CPO σ s k0 k2 at_ into v) (hv : 0 ≤ v) (hi : 0 ≤ into) (ha : 0 ≤ at_) (hk : k0 ≠ k2 → s k0 = σ k0) (ho : k0 = k2 → into ≤ at_)
    (b1 : ra_g s1 k2 (into + v).toNat = ra_g s k0 (at_ + v).toNat) (b2 : ∀ a, a ≠ (into + v).toNat → ra_g s1 k2 a = ra_g s k2 a) : CPO σ s1 k0 k2 at_ into (v + 1) := by
  intro a
  by_cases e : a = (into + v).toNat
  · have e2 : ((a : Int) - into + at_).toNat = (at_ + v).toNat := by omega
    rw [e, b1, ← e, if_pos (by omega), e2]
    by_cases hk2 : k0 = k2
    · subst hk2
      have := ho rfl
      rw [h, if_neg (by omega)]
    · exact ra_gk (hk hk2)
  · rw [b2 a e, h a]
    by_cases c : into ≤ (a : Int) ∧ (a : Int) < into + v
    · rw [if_pos c, if_pos (by omega)]
    · rw [if_neg c, if_neg (by omega)]
/-- a row of 688 within a row, as if it were w -/
def rowV (σ : ra_V) (k off : Nat) : ra_V := fun _ j => σ k (off + j)
theorem rowV_g {σ : ra_V} {k off a j : Nat} : ra_g (rowV σ k off) a j = ra_g σ k (off + j) := rfl
/-- what can be undone is right -/
def PW (σ : ra_V) : Prop := (0 ≤ ra_g σ 179 5 ∧ ra_g σ 179 5 ≤ 10) ∧ ∀ i : Nat, (i : Int) < ra_g σ 179 5 → WF (rowV σ 184 (688 * i))
theorem PW_k {σ s : ra_V} (h : PW σ) (h1 : ra_g s 179 5 = ra_g σ 179 5) (h2 : s 184 = σ 184) : PW s := by
  obtain ⟨p1, p2⟩ := h
  refine ⟨by omega, fun i hi => ?_⟩
  refine WF_sc (σ := rowV σ 184 (688 * i)) (fun a _ => ?_) (p2 i (by omega))
  rw [rowV_g, rowV_g]
  exact ra_gk h2
theorem pw_push {σ s s2 : ra_V} (hw : WF σ) (h0 : 0 ≤ ra_g σ 179 5) (h1 : ra_g σ 179 5 < 10) (hp : ∀ i : Nat, (i : Int) < ra_g σ 179 5 → WF (rowV σ 184 (688 * i))) (hc : CPO σ s 180 184 0 (688 * ra_g σ 179 5) 688) (h5 : ra_g s2 179 5 = ra_g σ 179 5 + 1) (h6 : s2 184 = s 184) : PW s2 := by
  refine ⟨by omega, fun i hi => ?_⟩
  by_cases e : (i : Int) = ra_g σ 179 5
  · refine WF_sc (σ := σ) (fun a ha => ?_) hw
    rw [rowV_g, ra_gk h6, hc, if_pos (by omega)]
    congr 1
    omega
  · refine WF_sc (σ := rowV σ 184 (688 * i)) (fun a ha => ?_) (hp i (by omega))
    rw [rowV_g, rowV_g, ra_gk h6, hc, if_neg (by omega)]
theorem pw_shift {σ s : ra_V} (hp : ∀ i : Nat, (i : Int) < 10 → WF (rowV σ 184 (688 * i))) (hc : CPO σ s 184 184 688 0 6192) : ∀ i : Nat, (i : Int) < 9 → WF (rowV s 184 (688 * i)) := by
  intro i hi
  refine WF_sc (σ := rowV σ 184 (688 * (i + 1))) (fun a ha => ?_) (hp (i + 1) (by omega))
  rw [rowV_g, rowV_g, hc, if_pos (by omega)]
  congr 1
  omega
/-- an empty disk -/
theorem wf_clear {s : ra_V} {x : Int} (hx : 64 ≤ x ∧ x ≤ 600) (h0 : ra_g s 180 0 = x) (h3 : ra_g s 180 3 = 1) (h4 : ra_g s 180 4 = 4) (h16 : ra_g s 180 16 = -1) (h : ∀ a, a < 88 → a ≠ 0 → a ≠ 3 → a ≠ 4 → a ≠ 16 → ra_g s 180 a = 0) : WF s := by
  have e : ∀ p, 0 ≤ p → p < 8 → wf (rw_ s) p 0 = 0 := fun p p0 p1 => h (24 + 8 * p + 0).toNat (by omega) (by omega) (by omega) (by omega) (by omega)
  have h1 := h 1 (by omega) (by omega) (by omega) (by omega) (by omega)
  have h2 := h 2 (by omega) (by omega) (by omega) (by omega) (by omega)
  refine ⟨?_, fun p p0 p1 => Or.inl (e p p0 p1), fun p p0 p1 pe => ?_, fun p q p0 p1 q0 q1 hn pe qe => ?_, Or.inl h16⟩
  · show (64 ≤ ra_g s 180 0 ∧ ra_g s 180 0 ≤ 600) ∧ (0 ≤ ra_g s 180 1 ∧ ra_g s 180 1 ≤ 31) ∧ (0 ≤ ra_g s 180 2 ∧ ra_g s 180 2 ≤ 31) ∧ (1 ≤ ra_g s 180 3 ∧ ra_g s 180 3 ≤ 32) ∧ (1 ≤ ra_g s 180 4 ∧ ra_g s 180 4 ≤ 16)
    omega
  · rw [e p p0 p1] at pe
    omega
  · rw [e p p0 p1] at pe
    omega
end RB
