/-! T5: what a call that changes something comes to -/
section
section
variable {σ s s1 s2 s3 s4 t τ υ μ ρ : ra_V} {D E p q j w c1 c2 : Nat} {a m x y z v k mn to sc i n c : Int} {R R2 : Nat → ra_V} {V : Int → Prop} {E1 E2 E3 : String} {r : ra_R}
/-- the class: a code c (0: no throw), what it answers V, the row behind it ρ -/
def x5CO (c : Int) (V : Int → Prop) (E1 E2 E3 : String) (ρ τ : ra_V) (n : Int) (R : Nat → ra_V) (σ s : ra_V) (r : ra_R) : Prop :=
  (∀ k : Nat, (k = 0 ∨ (27 ≤ k ∧ k < 40) ∨ 175 ≤ k) → s k = σ k) ∧
  ((c = 0 ∧ (∃ z, ra_in z ∧ V z ∧ r = .inl (some (ra_I z))) ∧ x5CT ρ s 1 ∧ x5HQ (x5pushN n) (x5pushR n R τ) s) ∨
   (c ≠ 0 ∧ (∀ k : Nat, k < 172 → s k = σ k) ∧ ((c = 1 ∧ r = .inr E1) ∨ (c = 2 ∧ r = .inr E2) ∨ (c = 3 ∧ r = .inr E3))))
theorem x5co_y (hk : ∀ k : Nat, (k = 0 ∨ (27 ≤ k ∧ k < 40) ∨ 175 ≤ k) → s k = σ k) (hc : c = 0) (hz : ra_in z) (hv : V z) (hT : x5CT ρ s 1) (hH : x5HQ (x5pushN n) (x5pushR n R τ) s) : x5CO c V E1 E2 E3 ρ τ n R σ s (.inl (some (ra_I z))) := ⟨hk, Or.inl ⟨hc, ⟨z, hz, hv, rfl⟩, hT, hH⟩⟩
theorem x5co_1 (hk : ∀ k : Nat, (k = 0 ∨ (27 ≤ k ∧ k < 40) ∨ 175 ≤ k) → s k = σ k) (h2 : ∀ k : Nat, k < 172 → s k = σ k) (hc : c = 1) : x5CO c V E1 E2 E3 ρ τ n R σ s (.inr E1) := ⟨hk, Or.inr ⟨by omega, h2, Or.inl ⟨hc, rfl⟩⟩⟩
theorem x5co_2 (hk : ∀ k : Nat, (k = 0 ∨ (27 ≤ k ∧ k < 40) ∨ 175 ≤ k) → s k = σ k) (h2 : ∀ k : Nat, k < 172 → s k = σ k) (hc : c = 2) : x5CO c V E1 E2 E3 ρ τ n R σ s (.inr E2) := ⟨hk, Or.inr ⟨by omega, h2, Or.inr (Or.inl ⟨hc, rfl⟩)⟩⟩
theorem x5co_3 (hk : ∀ k : Nat, (k = 0 ∨ (27 ≤ k ∧ k < 40) ∨ 175 ≤ k) → s k = σ k) (h2 : ∀ k : Nat, k < 172 → s k = σ k) (hc : c = 3) : x5CO c V E1 E2 E3 ρ τ n R σ s (.inr E3) := ⟨hk, Or.inr ⟨by omega, h2, Or.inr (Or.inr ⟨hc, rfl⟩)⟩⟩
/-- the reference -/
def x5FS (μ ν : ra_V) : Prop := ∀ a : Nat, a < 688 → ra_g ν 180 a = ra_g μ 180 a
theorem x5FS_sc (h : x5FS μ υ) : SC μ υ := fun a ha => h a (by omega)
def x5PSH (σ s : ra_V) : Prop := ra_g s 179 5 = x5pushN (ra_g σ 179 5) ∧ ∀ i : Nat, (i : Int) < ra_g s 179 5 → x5FS (x5pushR (ra_g σ 179 5) (fun i => rowV σ 184 (688 * i)) σ i) (rowV s 184 (688 * i))
def x5RO (c : Int) (V : Int → Prop) (ρ σ s : ra_V) (z : Int) : Prop :=
  ra_g s 179 7 = c ∧ ((c = 0 ∧ V z ∧ SC ρ s ∧ x5PSH σ s) ∨ (c ≠ 0 ∧ s 180 = σ 180 ∧ ra_g s 179 5 = ra_g σ 179 5 ∧ s 184 = σ 184))
theorem x5roY (hc : c = 0) (h7 : ra_g s 179 7 = 0) (hv : V z) (hs : SC ρ s) (hp : x5PSH σ s) : x5RO c V ρ σ s z := ⟨by omega, Or.inl ⟨hc, hv, hs, hp⟩⟩
theorem x5roF (hc : c = k) (hk : k ≠ 0) (h7 : ra_g s 179 7 = k) (h0 : s 180 = σ 180) (h5 : ra_g s 179 5 = ra_g σ 179 5) (h4 : s 184 = σ 184) : x5RO c V ρ σ s z := ⟨by omega, Or.inr ⟨by omega, h0, h5, h4⟩⟩
theorem x5psh_k (h : x5PSH σ s) (h5 : ra_g t 179 5 = ra_g s 179 5) (h4 : t 184 = s 184) : x5PSH σ t := by
  refine ⟨h5.trans h.1, fun i hi a ha => ?_⟩
  rw [rowV_g, ra_gk h4]
  exact h.2 i (by omega) a ha
theorem x5psh_s (h5 : ra_g s 179 5 = ra_g σ 179 5) (h4 : s 184 = σ 184) (h0 : s 180 = σ 180) (h : x5PSH s t) : x5PSH σ t := by
  obtain ⟨h1, h2⟩ := h
  rw [h5] at h1
  refine ⟨h1, fun i hi a ha => (h2 i hi a ha).trans ?_⟩
  rw [h5]
  unfold x5pushR
  split
  · split
    · show ra_g s 184 _ = ra_g σ 184 _
      exact ra_gk h4
    · exact ra_gk h0
  · split
    · show ra_g s 184 _ = ra_g σ 184 _
      exact ra_gk h4
    · exact ra_gk h0
theorem x5psh_b (h : 0 ≤ ra_g σ 179 5 ∧ ra_g σ 179 5 ≤ 10) (h10 : ra_g σ 179 5 ≠ 10) (k0 : s1 180 = σ 180) (k4 : s1 184 = σ 184) (k5 : ra_g s1 179 5 = ra_g σ 179 5) (c2 : CPO s1 s3 180 184 0 (688 * ra_g s1 179 5) 688) (p4 : ra_g s4 179 5 = ra_g s1 179 5 + 1) (k44 : s4 184 = s3 184) : x5PSH σ s4 := by
  have e : x5pushN (ra_g σ 179 5) = ra_g σ 179 5 + 1 := if_pos (by omega)
  refine ⟨by omega, fun i hi a ha => ?_⟩
  rw [rowV_g, ra_gk k44, c2 (688 * i + a), k5]
  have hn : ra_g σ 179 5 < 10 := by omega
  by_cases c : (i : Int) < ra_g σ 179 5
  · have er : x5pushR (ra_g σ 179 5) (fun i => rowV σ 184 (688 * i)) σ i = rowV σ 184 (688 * i) := by unfold x5pushR; rw [if_pos hn, if_pos c]
    rw [er, if_neg (by omega), ra_gk k4]; rfl
  · have er : x5pushR (ra_g σ 179 5) (fun i => rowV σ 184 (688 * i)) σ i = σ := by unfold x5pushR; rw [if_pos hn, if_neg c]
    rw [er, if_pos (by omega), ra_gk k0]
    congr 1
    omega
theorem x5psh_a (h10 : ra_g σ 179 5 = 10) (k0 : s1 180 = σ 180) (k4 : s1 184 = σ 184) (c1 : CPO s1 s2 184 184 688 0 6192) (k24 : s3 184 = s2 184) (k30 : s3 180 = σ 180) (k35 : ra_g s3 179 5 = 9)
    (c2 : CPO s3 s4 180 184 0 (688 * ra_g s3 179 5) 688) (p4 : ra_g t 179 5 = ra_g s3 179 5 + 1) (k44 : t 184 = s4 184) : x5PSH σ t := by
  have e : x5pushN (ra_g σ 179 5) = 10 := if_neg (by omega)
  refine ⟨by omega, fun i hi a ha => ?_⟩
  rw [rowV_g, ra_gk k44, c2 (688 * i + a), k35]
  have hn : ¬ ra_g σ 179 5 < 10 := by omega
  by_cases c : i < 9
  · have er : x5pushR (ra_g σ 179 5) (fun i => rowV σ 184 (688 * i)) σ i = rowV σ 184 (688 * (i + 1)) := by unfold x5pushR; rw [if_neg hn, if_pos c]
    rw [er, if_neg (by omega), ra_gk k24, c1 (688 * i + a), if_pos (by omega), ra_gk k4]
    show ra_g σ 184 _ = ra_g σ 184 _
    congr 1
    omega
  · have er : x5pushR (ra_g σ 179 5) (fun i => rowV σ 184 (688 * i)) σ i = σ := by unfold x5pushR; rw [if_neg hn, if_neg c]
    rw [er, if_pos (by omega), ra_gk k30]
    congr 1
    omega
theorem x5rup_in (h : 0 ≤ x ∧ x ≤ 100000 ∧ 1 ≤ y ∧ y ≤ 1000) : ra_in ((x + y - 1).tdiv y * y) := by
  have h1 := tdiv_b (x := x + y - 1) (c := y) (by omega) (by omega)
  have h2 := Int.mul_nonneg h1.2.2 (show 0 ≤ y by omega)
  unfold ra_in
  omega
theorem x5whyR_ok (h : x5whyR τ x m = 0) : wq τ x 5 ≠ 1 ∧ ra_g τ 180 16 ≠ x ∧ wq τ x 3 ≤ m ∧ US τ (wq τ x 1) m ∧ ¬ TK τ (wq τ x 1) m x ∧ ¬ x5BSY τ (wq τ x 1 + wq τ x 2) (m - wq τ x 2) := by
  by_cases h1 : wq τ x 5 = 1
  · have := x5whyR_1 (m := m) h1; omega
  · by_cases h2 : ra_g τ 180 16 = x
    · have := x5whyR_2 (m := m) h1 h2; omega
    · have h3 := x5whyR_s (m := m) h1 h2
      by_cases c3 : m < wq τ x 3
      · have := x5whyS_3 c3; omega
      · by_cases c4 : US τ (wq τ x 1) m
        · by_cases c5 : TK τ (wq τ x 1) m x
          · have := x5whyS_5 c3 c4 c5; omega
          · by_cases c6 : x5BSY τ (wq τ x 1 + wq τ x 2) (m - wq τ x 2)
            · have := x5whyS_6 c3 c4 c5 c6; omega
            · exact ⟨h1, h2, by omega, c4, c5, c6⟩
        · have := x5whyS_4 c3 c4; omega
/-! the codes -/
noncomputable def x5dcAdd (τ : ra_V) (a m k mn : Int) : Int := x5cif (¬ x5TLD k mn m) 1 (x5cif (x5why τ a m ≠ 0) 1 (x5cif (x5FUL τ) 2 0))
noncomputable def x5dcRm (τ : ra_V) (p : Int) : Int := x5cif (¬ x5EX τ p) 2 (x5cif (x5FX τ p) 1 0)
noncomputable def x5dcLk (τ : ra_V) (p : Int) : Int := x5cif (¬ x5EX τ p) 1 0
noncomputable def x5dcRz (τ : ra_V) (p m : Int) : Int := x5cif (¬ x5EX τ p) 2 (x5cif (x5whyR τ p m ≠ 0) 1 0)
noncomputable def x5dcMn (τ : ra_V) (p m : Int) : Int := x5cif (¬ x5EX τ p) 2 (x5cif (¬ (1 ≤ m ∧ m ≤ wq τ p 2)) 1 0)
noncomputable def x5dcSet (w v : Int) : Int := x5cif (w ≠ 3 ∧ w ≠ 4) 1 (x5cif (¬ (1 ≤ v ∧ (w = 3 → v ≤ 32) ∧ (w = 4 → v ≤ 16))) 1 0)
noncomputable def x5dcSp (τ : ra_V) (p m : Int) : Int := x5cif (¬ x5EX τ p) 3 (x5cif (¬ (wq τ p 3 ≤ m ∧ m < wq τ p 2)) 1 (x5cif (x5FX τ p) 2 (x5cif ((wq τ p 1 + m) % ra_g τ 180 3 ≠ 0) 2 (x5cif (x5FUL τ) 2 0))))
noncomputable def x5dcBg (τ : ra_V) (p to : Int) : Int := x5cif (¬ x5EX τ p) 2 (x5cif (x5whyM τ p to (ra_g τ 180 4) ≠ 0) 1 0)
noncomputable def x5dcRun (τ : ra_V) (n : Int) : Int := x5cif (¬ (1 ≤ n ∧ n ≤ 999)) 1 (x5cif (ra_g τ 180 16 = -1) 2 0)
noncomputable def x5dcTr (τ : ra_V) : Int := x5cif (ra_g τ 180 16 = -1) 1 0
noncomputable def x5dcTb (τ : ra_V) : Int := x5cif (ra_g τ 180 16 = -1) 1 (x5cif (ra_g τ 180 22 = 1) 1 0)
/-- two that are joined -/
def x5CJ2 (τ : ra_V) (p q : Int) : Prop := (0 ≤ q ∧ q < 8 ∧ wq τ q 0 = 1 ∧ wq τ q 1 = wq τ p 1 + wq τ p 2) ∧ wq τ q 4 = wq τ p 4 ∧ ¬ x5FX τ p ∧ ¬ x5FX τ q
noncomputable def x5dcJn (τ : ra_V) (p : Int) : Int := x5cif (¬ x5EX τ p) 2 (x5cif (¬ ∃ q, x5CJ2 τ p q) 1 0)
noncomputable def x5jnF (τ : ra_V) (p : Int) : Int := @dite Int (∃ q, x5CJ2 τ p q) (Classical.propDecidable _) (fun h => Classical.choose h) (fun _ => -1)
theorem x5cj_u (hW : WF τ) (hp : x5EX τ m) (h : x5CJ2 τ m x) (h2 : x5CJ2 τ m y) : x = y := by
  obtain ⟨⟨a1, a2, a3, a4⟩, -⟩ := h
  obtain ⟨⟨b1, b2, b3, b4⟩, -⟩ := h2
  by_cases e : x = y
  · exact e
  · have hx := WF_ap hW a1 a2 b1 b2 e a3 b3
    have h1 := WF_p hW a1 a2 a3
    have h2 := WF_p hW b1 b2 b3
    omega
theorem x5jn_f (hW : WF τ) (hp : x5EX τ m) (h : x5CJ2 τ m z) : z = x5jnF τ m := by
  have hx : ∃ q, x5CJ2 τ m q := ⟨z, h⟩
  have e : x5jnF τ m = Classical.choose hx := @dif_pos (∃ q, x5CJ2 τ m q) (Classical.propDecidable _) hx Int (fun h => Classical.choose h) (fun _ => -1)
  rw [e]
  exact x5cj_u hW hp h (Classical.choose_spec hx)
/-- all made as small as they may be -/
def x5frP (τ : ra_V) (p : Int) : Prop := wq τ p 0 = 1 ∧ wq τ p 5 ≠ 1 ∧ ra_g τ 180 16 ≠ p
noncomputable def x5shV : Nat → ra_V → ra_V
  | 0, τ => τ
  | k + 1, τ => @ite ra_V (x5frP (x5shV k τ) k) (Classical.propDecidable _) (x5up (x5shV k τ) (24 + 8 * (k : Int) + 2).toNat (wq (x5shV k τ) k 3)) (x5shV k τ)
noncomputable def x5shL : Nat → ra_V → Int
  | 0, _ => 0
  | k + 1, τ => ra_w (x5shL k τ + x5cif (x5frP (x5shV k τ) k) (wq (x5shV k τ) k 2 - wq (x5shV k τ) k 3) 0)
theorem x5sh_y (h : x5frP (x5shV q τ) q) : x5shV (q + 1) τ = x5up (x5shV q τ) (24 + 8 * (q : Int) + 2).toNat (wq (x5shV q τ) q 3) := @if_pos _ (Classical.propDecidable _) h ra_V _ _
theorem x5sh_n (h : ¬ x5frP (x5shV q τ) q) : x5shV (q + 1) τ = x5shV q τ := @if_neg _ (Classical.propDecidable _) h ra_V _ _
end
end
