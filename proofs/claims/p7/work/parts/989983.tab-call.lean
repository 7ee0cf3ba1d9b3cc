/-! T5: rows for calls that throw, flags as numbers; disks copied -/
section
section
variable {G : ri_Tb} {sh : ra_Sh} {b d mi pc : Nat} {M : ri_Mt} {L : List (Option Jvm.Term)} {st rest args : List Jvm.Term} {σ : ra_V} {Qq : ra_Q} {ins : Instr} {A B : Prop} {Aq : Nat → Prop} {E : String}
theorem x5wr_ {x : Int} (k : ra_P G sh b d M pc L (ra_I (ra_w x) :: st) σ Qq) : ra_P G sh b d M pc L (ra_I x :: st) σ Qq := by rw [← ra_I_w]; exact k
theorem x5gz_ {P : Prop} [Decidable P] (k : ∀ z : Int, (z = 0 ∨ z = 1) → (z = 1 ↔ P) → ra_P G sh b d M pc L (ra_I z :: st) σ Qq) : ra_P G sh b d M pc L (ra_B P :: st) σ Qq := by
  unfold ra_B
  by_cases h : P
  · rw [if_pos h]; exact k 1 (Or.inr rfl) (iff_of_true rfl h)
  · rw [if_neg h]; exact k 0 (Or.inl rfl) (iff_of_false (by decide) h)
theorem x5cXVp (hC : ra_C G sh 0 d mi args σ (fun r s => ((r = .inl none ∧ A) ∨ (r = .inr E ∧ B)) ∧ s = σ)) (hd : (ri_co M)[pc]? = some (some (ins, 3))) (ht : ra_ct G sh M ins st args rest mi) (hh : ri_hh M = []) (k : A → ra_P G sh b d M (pc + 3) L rest σ Qq) (kx : B → Qq (.inr E) σ) : ra_P G sh b d M pc L st σ Qq :=
  ra_callX hC hd ht hh (fun t s h => by
    obtain ⟨⟨e, ha⟩ | ⟨e, -⟩, hs⟩ := h
    · cases e; rw [hs]; exact k ha
    · cases e) (fun E2 s h => by
    obtain ⟨⟨e, -⟩ | ⟨e, hb⟩, hs⟩ := h
    · cases e
    · cases e; rw [hs]; exact kx hb)
theorem x5cXNp (hC : ra_C G sh 0 d mi args σ (fun r s => ((∃ q : Nat, q < 8 ∧ Aq q ∧ r = .inl (some (.index (1 + 5 + q)))) ∨ (r = .inr E ∧ B)) ∧ s = σ)) (hd : (ri_co M)[pc]? = some (some (ins, 3))) (ht : ra_ct G sh M ins st args rest mi) (hh : ri_hh M = []) (k : ∀ q : Nat, q < 8 → Aq q → ra_P G sh b d M (pc + 3) L (.index (1 + 5 + q) :: rest) σ Qq) (kx : B → Qq (.inr E) σ) : ra_P G sh b d M pc L st σ Qq :=
  ra_callX hC hd ht hh (fun t s h => by
    obtain ⟨⟨q, hq, ha, e⟩ | ⟨e, -⟩, hs⟩ := h
    · cases e; rw [hs]; exact k q hq ha
    · cases e) (fun E2 s h => by
    obtain ⟨⟨q, hq, ha, e⟩ | ⟨e, hb⟩, hs⟩ := h
    · cases e
    · cases e; rw [hs]; exact kx hb)
end
section
variable {σ s t τ υ μ : ra_V} {D E p q j w c c2 : Nat} {a m x y z v k mn to sc i n : Int} {R R2 : Nat → ra_V}
/-- a partition, a move, a disk copied: a flag is 0 or 1 behind it -/
def x5PCP (σ s : ra_V) (c c2 : Nat) : Prop := (∀ j : Nat, 1 ≤ j → j ≤ 7 → j ≠ 5 → ra_g s c j = ra_g σ c2 j) ∧ ((ra_g σ c2 5 = 0 ∨ ra_g σ c2 5 = 1) → ra_g s c 5 = ra_g σ c2 5)
def x5MCP (σ s : ra_V) (c c2 : Nat) : Prop := (∀ j : Nat, j ≤ 7 → ra_g s c j = ra_g σ c2 j) ∧ ((ra_g σ c2 8 = 0 ∨ ra_g σ c2 8 = 1) → ra_g s c 8 = ra_g σ c2 8)
def x5DCP (σ s : ra_V) (D E : Nat) : Prop := (∀ j : Nat, 4 ≤ j → j ≤ 12 → ra_g s D j = ra_g σ E j) ∧ (∀ p : Nat, p < 8 → x5PCP σ s (D + 5 + p) (E + 5 + p)) ∧ x5MCP σ s (D + 3) (E + 3)
theorem x5z01 (hz : z = 0 ∨ z = 1) (h : z = 1 ↔ x ≠ 0) (hx : x = 0 ∨ x = 1) : z = x := by omega
theorem x5PCP_k (h1 : s c = t c) (h2 : μ c2 = σ c2) (h : x5PCP μ t c c2) : x5PCP σ s c c2 := by
  unfold x5PCP at *
  rw [ra_gk (j := 5) h1, ← ra_gk (j := 5) h2]
  refine ⟨fun j j1 j2 j3 => ?_, h.2⟩
  rw [ra_gk h1, ← ra_gk h2]
  exact h.1 j j1 j2 j3
theorem x5MCP_k (h1 : s c = t c) (h2 : μ c2 = σ c2) (h : x5MCP μ t c c2) : x5MCP σ s c c2 := by
  unfold x5MCP at *
  rw [ra_gk (j := 8) h1, ← ra_gk (j := 8) h2]
  refine ⟨fun j j1 => ?_, h.2⟩
  rw [ra_gk h1, ← ra_gk h2]
  exact h.1 j j1
theorem x5ct_dc (hc : x5DCP σ s D E) (hT : x5CT τ σ E) (hW : x5W2 τ) : x5CT τ s D := by
  obtain ⟨c1, c2, c3, c4⟩ := hc
  obtain ⟨g1, g2, g3, g4, g5⟩ := hT
  refine ⟨fun j hj => (c1 (4 + j) (by omega) (by omega)).trans (g1 j hj), fun p hp => ?_, fun p hp he j j1 j2 => ?_, (c3 0 (by omega)).trans g4, fun hm => ?_⟩
  · rw [(c2 p hp).1 2 (by omega) (by omega) (by omega)]; exact g2 p hp
  · have e := g3 p hp he j j1 j2
    by_cases c : j = 5
    · subst c
      have h5 := hW.2.1 p (by omega) (by omega)
      rw [(c2 p hp).2 (by rw [e]; exact h5)]; exact e
    · rw [(c2 p hp).1 j j1 j2 c]; exact e
  · obtain ⟨m1, m2, m3, m4, m5, m6, m7, m8⟩ := g5 hm
    have hf := MV_f hW.1 hm
    have h22 : ra_g τ 180 22 = 0 ∨ ra_g τ 180 22 = 1 := by unfold MF at hf; omega
    rw [c3 1 (by omega), c3 2 (by omega), c3 3 (by omega), c3 4 (by omega), c3 5 (by omega), c3 6 (by omega), c3 7 (by omega), c4 (by rw [m8]; exact h22)]
    exact ⟨m1, m2, m3, m4, m5, m6, m7, m8⟩
theorem x5CT_e4 (hk : ∀ c, D ≤ c → c < D + 13 → c ≠ D + 1 → c ≠ D + 4 → s c = σ c) (h : x5CT τ σ D) : x5CT τ s D := x5CT_k (fun j hj a b c => hk _ (by omega) (by omega) (by omega) (by omega)) h
/-! what a partition is asked for, when a call throws -/
def x5EX (τ : ra_V) (p : Int) : Prop := 0 ≤ p ∧ p < 8 ∧ wq τ p 0 = 1
def x5FX (τ : ra_V) (p : Int) : Prop := wq τ p 5 = 1 ∨ ra_g τ 180 16 = p
def x5TLD (k mn m : Int) : Prop := (0 ≤ k ∧ k ≤ 9) ∧ 1 ≤ mn ∧ mn ≤ m
def x5FUL (τ : ra_V) : Prop := ct τ (-1) = 8
theorem x5full_n (hW : WF τ) (h : ¬ x5FUL τ) : ∃ q, 0 ≤ q ∧ q < 8 ∧ wq τ q 0 ≠ 1 := by
  apply Classical.byContradiction
  intro c
  have e : ∀ p, 0 ≤ p → p < 8 → ctp τ (-1) p = 1 := fun p p0 p1 => by
    have hp : wq τ p 0 = 1 := Classical.byContradiction fun q => c ⟨p, p0, p1, q⟩
    have hw := WF_p hW p0 p1 hp
    have ha := WF_a hW
    unfold WFa at ha
    exact ctp_y ⟨hp, by omega⟩
  refine h ?_
  unfold x5FUL ct
  rw [e 0 (by decide) (by decide), e 1 (by decide) (by decide), e 2 (by decide) (by decide), e 3 (by decide) (by decide), e 4 (by decide) (by decide), e 5 (by decide) (by decide), e 6 (by decide) (by decide), e 7 (by decide) (by decide)]
  rfl
/-- the steps that are made of n -/
def x5st1 (τ : ra_V) : ra_V := if ra_g τ 180 16 = -1 then τ else x5st0 τ
def x5itv : Nat → ra_V → ra_V
  | 0, τ => τ
  | n + 1, τ => x5st1 (x5itv n τ)
def x5cnv : Nat → ra_V → Int
  | 0, _ => 0
  | n + 1, τ => x5cnv n τ + (if ra_g (x5itv n τ) 180 16 = -1 then 0 else 1)
def x5runV (n : Nat) (τ : ra_V) : ra_V := x5up (x5itv n τ) 6 (ra_g τ 180 6 + x5cnv n τ)
theorem x5itv_y (h : ra_g (x5itv p τ) 180 16 ≠ -1) : x5itv (p + 1) τ = x5st0 (x5itv p τ) := by
  show (if _ then _ else _) = _
  rw [if_neg h]
theorem x5cnv_y (h : ra_g (x5itv p τ) 180 16 ≠ -1) : x5cnv (p + 1) τ = x5cnv p τ + 1 := by
  show x5cnv p τ + (if _ then _ else _) = _
  rw [if_neg h]
theorem x5itv_n (h : ra_g (x5itv p τ) 180 16 = -1) : ∀ d : Nat, x5itv (p + d) τ = x5itv p τ ∧ x5cnv (p + d) τ = x5cnv p τ
  | 0 => ⟨rfl, rfl⟩
  | d + 1 => by
    obtain ⟨h1, h2⟩ := x5itv_n h d
    have e : ra_g (x5itv (p + d) τ) 180 16 = -1 := by rw [h1]; exact h
    constructor
    · show (if ra_g (x5itv (p + d) τ) 180 16 = -1 then x5itv (p + d) τ else x5st0 (x5itv (p + d) τ)) = _
      rw [if_pos e]; exact h1
    · show x5cnv (p + d) τ + (if ra_g (x5itv (p + d) τ) 180 16 = -1 then 0 else 1) = _
      rw [if_pos e, h2, Int.add_zero]
theorem x5itv_e (h : ra_g (x5itv p τ) 180 16 = -1) (hq : p ≤ q) : x5itv q τ = x5itv p τ ∧ x5cnv q τ = x5cnv p τ := by
  obtain ⟨d, rfl⟩ : ∃ d, q = p + d := ⟨q - p, by omega⟩
  exact x5itv_n h d
theorem x5cnv_b : ∀ n : Nat, 0 ≤ x5cnv n τ ∧ x5cnv n τ ≤ n
  | 0 => ⟨Int.le_refl _, Int.le_refl _⟩
  | n + 1 => by
    have h := x5cnv_b n
    show 0 ≤ x5cnv n τ + (if _ then _ else _) ∧ x5cnv n τ + (if _ then _ else _) ≤ _
    split <;> omega
/-- what a step keeps to -/
theorem x5w2_st (hW : x5W2 τ) (hm : ra_g τ 180 16 ≠ -1) : x5W2 (x5st0 τ) := by
  have hM := MV_f hW.1 hm
  have hM0 := hM
  unfold MF at hM
  have i0 : ra_in 0 := by unfold ra_in; omega
  have i1 : ra_in 1 := by unfold ra_in; omega
  have im : ra_in (-1) := by unfold ra_in; omega
  have iv : ra_in (ra_g τ 180 21 + 1) := by unfold ra_in; omega
  by_cases hA : rds τ < rbn τ ∧ ra_g τ 180 22 ≠ 1
  · rw [x5st0_a hA]
    have e : ∀ b : Nat, b ≠ 22 → ra_g (x5up τ 22 1) 180 b = ra_g τ 180 b := fun b hb => x5uo_n hb
    have e22 : ra_g (x5up τ 22 1) 180 22 = 1 := x5up_i i1
    refine ⟨mv_w hW.1 hM0 (fun a _ _ h22 => e a h22) ⟨by rw [e 21 (by omega)]; omega, by rw [e 21 (by omega)]; omega⟩ (Or.inr e22), fun p p0 p1 => ?_, fun _ _ => ?_⟩
    · rw [x5up_wn (by omega)]; exact hW.2.1 p p0 p1
    · have ez : msz (x5up τ 22 1) = msz τ := by unfold msz; rw [e 16 (by omega)]; exact x5up_wn (by omega)
      have ec : rch (x5up τ 22 1) = rch τ := by unfold rch; rw [ez, e 19 (by omega)]
      have en : rnx (x5up τ 22 1) = rnx τ := by unfold rnx; rw [ec, e 18 (by omega), e 17 (by omega), e 21 (by omega)]
      have ef : rfb (x5up τ 22 1) = rfb τ := by unfold rfb; rw [en, e 19 (by omega)]
      have eb : rbn (x5up τ 22 1) = rbn τ := by unfold rbn; rw [ez, ef, e 19 (by omega)]
      have ed : rds (x5up τ 22 1) = rds τ := by unfold rds; rw [e 17 (by omega), e 18 (by omega)]
      rw [eb, ed]; exact hA.1
  · by_cases hB : ra_g τ 180 21 + 1 < rch τ
    · rw [x5st0_b hA hB]
      have e : ∀ b : Nat, b ≠ 21 → b ≠ 22 → ra_g (x5up (x5up τ 22 0) 21 (ra_g τ 180 21 + 1)) 180 b = ra_g τ 180 b := fun b b1 b2 => (x5uo_n b1).trans (x5uo_n b2)
      have e21 : ra_g (x5up (x5up τ 22 0) 21 (ra_g τ 180 21 + 1)) 180 21 = ra_g τ 180 21 + 1 := x5up_i iv
      have e22 : ra_g (x5up (x5up τ 22 0) 21 (ra_g τ 180 21 + 1)) 180 22 = 0 := (x5uo_n (by omega)).trans (x5up_i i0)
      refine ⟨mv_w hW.1 hM0 (fun a _ h21 h22 => e a h21 h22) ⟨by rw [e21]; omega, by rw [e21]; omega⟩ (Or.inl e22), fun p p0 p1 => ?_, fun _ q => ?_⟩
      · rw [x5up_wn (by omega), x5up_wn (by omega)]; exact hW.2.1 p p0 p1
      · rw [e22] at q; omega
    · rw [x5st0_e hA hB]
      obtain ⟨P, hP⟩ : ∃ P, P = ra_g τ 180 16 := ⟨_, rfl⟩
      rw [← hP]
      generalize eV : x5up (x5up (x5up (x5up (x5up (x5up τ 22 0) 21 (ra_g τ 180 21 + 1)) (24 + 8 * P + 1).toNat (ra_g τ 180 18)) (24 + 8 * P + 7).toNat (wq τ P 7 + 1)) 16 (-1)) 8 (ra_g τ 180 8 + 1) = V
      have o : ∀ b : Nat, b ≠ 8 → b ≠ 16 → b ≠ 21 → b ≠ 22 → b ≠ (24 + 8 * P + 1).toNat → b ≠ (24 + 8 * P + 7).toNat → ra_g V 180 b = ra_g τ 180 b := fun b b1 b2 b3 b4 b5 b6 => by
        rw [← eV, x5uo_n b1, x5uo_n b2, x5uo_n b6, x5uo_n b5, x5uo_n b3, x5uo_n b4]
      have o16 : ra_g V 180 16 = -1 := by rw [← eV, x5uo_n (by omega), x5up_i im]
      have o1 : wq V P 1 = ra_g τ 180 18 := by rw [← eV]; unfold wq; rw [x5uo_n (by omega), x5uo_n (by omega), x5uo_n (by omega), x5up_i (ra_in_g _ _ _)]
      refine ⟨mv_e (p := P) hW.1 hM0 hP (fun a ha h1 h2 h3 h4 => o a (by unfold REL at ha; omega) h1 h2 h3 h4 (by unfold REL at ha; omega)) o1 o16, fun p p0 p1 => ?_, fun q => absurd o16 q⟩
      have e5 : wq V p 5 = wq τ p 5 := o _ (by omega) (by omega) (by omega) (by omega) (by omega) (by omega)
      rw [e5]; exact hW.2.1 p p0 p1
theorem x5st0_6 (hW : WF τ) (hm : ra_g τ 180 16 ≠ -1) : ra_g (x5st0 τ) 180 6 = ra_g τ 180 6 := by
  have hM := (MV_f hW hm).1
  unfold x5st0
  split
  · exact x5uo_n (by omega)
  · split
    · exact (x5uo_n (by omega)).trans (x5uo_n (by omega))
    · rw [x5uo_n (by omega), x5uo_n (by omega), x5uo_n (by omega), x5uo_n (by omega), x5uo_n (by omega), x5uo_n (by omega)]
theorem x5rn_ct (hT : x5CT (x5itv p τ) σ D) (hW : WF (x5itv p τ)) (h6 : ra_g (x5itv p τ) 180 6 = ra_g τ 180 6) (he : x5itv q τ = x5itv p τ ∧ x5cnv q τ = x5cnv p τ) (hc : x5cnv p τ = v) (hk : ∀ c, c ≠ D + 1 → D < c → c < D + 13 → s c = σ c) (hv : ra_g s D 10 = ra_w (ra_g σ D 10 + v)) (ho : ∀ a, a ≠ 10 → ra_g s D a = ra_g σ D a) : x5CT (x5runV q τ) s D := by
  unfold x5runV
  rw [he.1, he.2, hc]
  refine x5ct_upS hT hW (by omega) hk (hv.trans ?_) ho
  have e : ra_g σ D 10 = ra_g (x5itv p τ) 180 6 := hT.1 6 (by omega)
  rw [e, h6]
end
end
