/-! the reference's move -/
section RB
def rfar (a b : Int) : Int := if a < b then b - a else a - b
theorem rfar_b (a b : Int) : (a < b → rfar a b = b - a) ∧ (b ≤ a → rfar a b = a - b) := by
  unfold rfar
  exact ⟨fun h => if_pos h, fun h => if_neg (by omega)⟩
def msz (σ : ra_V) : Int := wq σ (ra_g σ 180 16) 2
def rch (σ : ra_V) : Int := ref_chunks (msz σ) (ra_g σ 180 19)
def rnx (σ : ra_V) : Int := if ra_g σ 180 18 < ra_g σ 180 17 then ra_g σ 180 21 else rch σ - 1 - ra_g σ 180 21
def rfb (σ : ra_V) : Int := rnx σ * ra_g σ 180 19
def rbn (σ : ra_V) : Int := min (ra_g σ 180 19) (msz σ - rfb σ)
def rds (σ : ra_V) : Int := rfar (ra_g σ 180 17) (ra_g σ 180 18)
/-- the numbers of a move -/
def MF (σ : ra_V) : Prop := (0 ≤ ra_g σ 180 16 ∧ ra_g σ 180 16 < 8) ∧ wq σ (ra_g σ 180 16) 0 = 1 ∧ wq σ (ra_g σ 180 16) 1 = ra_g σ 180 17 ∧ (1 ≤ msz σ ∧ msz σ ≤ 600 ∧ wq σ (ra_g σ 180 16) 2 = msz σ) ∧
  (0 ≤ ra_g σ 180 17 ∧ ra_g σ 180 17 + msz σ ≤ 600) ∧ (0 ≤ ra_g σ 180 18 ∧ ra_g σ 180 18 + msz σ ≤ 600) ∧ ra_g σ 180 17 ≠ ra_g σ 180 18 ∧ (1 ≤ ra_g σ 180 19 ∧ ra_g σ 180 19 ≤ 16) ∧ (0 ≤ ra_g σ 180 21 ∧ ra_g σ 180 21 < rch σ) ∧ (ra_g σ 180 22 = 0 ∨ ra_g σ 180 22 = 1) ∧
  (-1 ≤ ra_g σ 180 20 ∧ ra_g σ 180 20 + min (ra_g σ 180 19) (msz σ) ≤ 600) ∧ (ra_g σ 180 20 = -1 → min (ra_g σ 180 19) (msz σ) ≤ rds σ) ∧ (1 ≤ rch σ ∧ rch σ ≤ 600) ∧ (0 ≤ rnx σ ∧ rnx σ < rch σ) ∧ (0 ≤ rfb σ ∧ rfb σ < msz σ) ∧ (1 ≤ rbn σ ∧ rbn σ ≤ ra_g σ 180 19 ∧ rbn σ + rfb σ ≤ msz σ) ∧ (1 ≤ rds σ ∧ rds σ ≤ 600)
theorem ref_chunks_b {m c k : Int} (hm : 1 ≤ m) (hc : 1 ≤ c) : 1 ≤ ref_chunks m c ∧ ref_chunks m c ≤ m ∧ (0 ≤ k → k < ref_chunks m c → 0 ≤ k * c ∧ k * c < m) := by
  unfold ref_chunks
  have h1 := Int.tmod_add_mul_tdiv (m + c - 1) c
  have h2 := Int.tmod_lt_of_pos (m + c - 1) (by omega : 0 < c)
  have h3 := Int.tmod_nonneg c (by omega : 0 ≤ m + c - 1)
  generalize (m + c - 1).tdiv c = q at *
  generalize (m + c - 1).tmod c = r at *
  rw [Int.mul_comm] at h1
  have hq : 1 ≤ q := by
    by_cases h : q ≤ 0
    · have := Int.mul_le_mul_of_nonneg_right h (by omega : 0 ≤ c)
      omega
    · omega
  refine ⟨hq, ?_, fun k0 k1 => ⟨Int.mul_nonneg k0 (by omega), ?_⟩⟩
  · have h4 : q * 1 ≤ q * c := Int.mul_le_mul_of_nonneg_left hc (by omega)
    by_cases h5 : q ≤ m
    · exact h5
    · exfalso
      have h6 : (q - 1) * 1 ≤ (q - 1) * c := Int.mul_le_mul_of_nonneg_left hc (by omega)
      have h7 : (q - 1) * c = q * c - c := by rw [Int.sub_mul, Int.one_mul]
      omega
  · have h6 : k * c ≤ (q - 1) * c := Int.mul_le_mul_of_nonneg_right (by omega) (by omega)
    have h7 : (q - 1) * c = q * c - c := by rw [Int.sub_mul, Int.one_mul]
    omega
theorem MV_f {σ : ra_V} (h : WF σ) (hm : ra_g σ 180 16 ≠ -1) : MF σ := by
  have ha := WF_a h
  unfold WFa at ha
  obtain ⟨⟨a1, a2⟩, a3, a4, a5, a6, a7, a8, a9, a10, b2, -⟩ := WF_m h hm
  have a1 : 0 ≤ ra_g σ 180 16 := a1
  have a2 : ra_g σ 180 16 < 8 := a2
  have a3 : wq σ (ra_g σ 180 16) 0 = 1 := a3
  have a4 : wq σ (ra_g σ 180 16) 1 = ra_g σ 180 17 := a4
  have a5 : ra_g σ 180 1 ≤ ra_g σ 180 18 ∧ ra_g σ 180 18 + msz σ ≤ ra_g σ 180 0 - ra_g σ 180 2 := a5
  have a6 : ra_g σ 180 17 ≠ ra_g σ 180 18 := a6
  have a7 : 1 ≤ ra_g σ 180 19 ∧ ra_g σ 180 19 ≤ 16 := a7
  have a8 : 0 ≤ ra_g σ 180 21 ∧ ra_g σ 180 21 < rch σ := a8
  have a9 : ra_g σ 180 22 = 0 ∨ ra_g σ 180 22 = 1 := a9
  have b1 : -1 ≤ ra_g σ 180 20 ∧ ra_g σ 180 20 + min (ra_g σ 180 19) (msz σ) ≤ 600 := a10
  have b2 : ra_g σ 180 20 = -1 → min (ra_g σ 180 19) (msz σ) ≤ ra_g σ 180 17 - ra_g σ 180 18 ∨ min (ra_g σ 180 19) (msz σ) ≤ ra_g σ 180 18 - ra_g σ 180 17 := b2
  have hp := WF_p h a1 a2 a3
  have hz : wq σ (ra_g σ 180 16) 2 = msz σ := rfl
  have hc := fun k => ref_chunks_b (m := msz σ) (c := ra_g σ 180 19) (k := k) (by omega) (by omega)
  have hr : rch σ = ref_chunks (msz σ) (ra_g σ 180 19) := rfl
  have hd := rfar_b (ra_g σ 180 17) (ra_g σ 180 18)
  have hd2 : rds σ = rfar (ra_g σ 180 17) (ra_g σ 180 18) := rfl
  have hn : 0 ≤ rnx σ ∧ rnx σ < rch σ := by
    unfold rnx
    split <;> omega
  have hf : 0 ≤ rfb σ ∧ rfb σ < msz σ := (hc (rnx σ)).2.2 hn.1 (by rw [← hr]; exact hn.2)
  have hb : rbn σ = min (ra_g σ 180 19) (msz σ - rfb σ) := rfl
  have hcc := hc 0
  refine ⟨⟨a1, a2⟩, a3, a4, ⟨by omega, by omega, hz⟩, ⟨by omega, by omega⟩, ⟨by omega, by omega⟩, a6, a7, a8, a9, b1, fun q => ?_, ⟨by omega, by omega⟩, hn, hf, ⟨by omega, by omega, by omega⟩, ⟨by omega, by omega⟩⟩
  have := b2 q
  omega
/-- the row below its sectors is as it was -/
def SC (σ s : ra_V) : Prop := ∀ a, a < 88 → ra_g s 180 a = ra_g σ 180 a
theorem SC_rf {σ : ra_V} : SC σ σ := fun _ _ => rfl
theorem SC_tr {σ s t : ra_V} (h1 : SC σ s) (h2 : SC s t) : SC σ t := fun a ha => (h2 a ha).trans (h1 a ha)
theorem SC_k {σ s : ra_V} (h : s 180 = σ 180) : SC σ s := fun a _ => ra_gk h
section
variable {σ s : ra_V}
theorem wq_sc (h : SC σ s) {p w : Int} (h1 : p < 8) (h2 : w < 8) : wq s p w = wq σ p w := h _ (by omega)
theorem WF_sc (h : SC σ s) (hw : WF σ) : WF s := by
  obtain ⟨h1, h2, h3, h4, h5⟩ := hw
  have e : ∀ p w, p < 8 → w < 8 → wf (rw_ s) p w = wf (rw_ σ) p w := fun p w p1 w1 => wq_sc h p1 w1
  have e0 : ∀ j, j < 88 → rw_ s j = rw_ σ j := fun j hj => h j hj
  refine ⟨?_, fun p p0 p1 => ?_, fun p p0 p1 pe => ?_, fun p q p0 p1 q0 q1 hn pe qe => ?_, ?_⟩
  · unfold WFs
    rw [e0 0 (by omega), e0 1 (by omega), e0 2 (by omega), e0 3 (by omega), e0 4 (by omega)]
    exact h1
  · rw [e p 0 p1 (by omega)]
    exact h2 p p0 p1
  · rw [e p 0 p1 (by omega)] at pe
    have := h3 p p0 p1 pe
    unfold WFp at *
    rw [e p 3 p1 (by omega), e p 2 p1 (by omega), e p 1 p1 (by omega), e0 0 (by omega), e0 1 (by omega), e0 2 (by omega)]
    exact this
  · rw [e p 0 p1 (by omega)] at pe
    rw [e q 0 q1 (by omega)] at qe
    rw [e p 1 p1 (by omega), e p 2 p1 (by omega), e q 1 q1 (by omega), e q 2 q1 (by omega)]
    exact h4 p q p0 p1 q0 q1 hn pe qe
  · rcases h5 with h5 | h5
    · exact Or.inl ((e0 16 (by omega)).trans h5)
    · refine Or.inr ?_
      have hp := h5.1
      unfold WFm at *
      rw [e0 16 (by omega), e0 17 (by omega), e0 18 (by omega), e0 19 (by omega), e0 20 (by omega), e0 21 (by omega), e0 22 (by omega), e0 0 (by omega), e0 1 (by omega), e0 2 (by omega), e _ 0 hp.2 (by omega), e _ 1 hp.2 (by omega), e _ 2 hp.2 (by omega)]
      obtain ⟨c1, c2, c3, c4, c5, c6, c7, c8, c9, c10, c11⟩ := h5
      refine ⟨c1, c2, c3, c4, c5, c6, c7, c8, c9, c10, fun q q0 q1 hn qe => ?_⟩
      rw [e q 0 q1 (by omega)] at qe
      rw [e q 1 q1 (by omega), e q 2 q1 (by omega)]
      exact c11 q q0 q1 hn qe
theorem mv_sc (h : SC σ s) (h16 : ra_g σ 180 16 < 8) : msz s = msz σ ∧ rch s = rch σ ∧ rnx s = rnx σ ∧ rfb s = rfb σ ∧ rbn s = rbn σ ∧ rds s = rds σ := by
  have e1 : msz s = msz σ := by unfold msz; rw [h 16 (by omega), wq_sc h h16 (by omega)]
  have e2 : rch s = rch σ := by unfold rch; rw [e1, h 19 (by omega)]
  have e3 : rnx s = rnx σ := by unfold rnx; rw [e2, h 18 (by omega), h 17 (by omega), h 21 (by omega)]
  have e4 : rfb s = rfb σ := by unfold rfb; rw [e3, h 19 (by omega)]
  exact ⟨e1, e2, e3, e4, by unfold rbn; rw [e1, e4, h 19 (by omega)], by unfold rds; rw [h 17 (by omega), h 18 (by omega)]⟩
theorem MF_sc (h : SC σ s) (hm : MF σ) : MF s := by
  have h8 := hm.1.2
  obtain ⟨e1, e2, e3, e4, e5, e6⟩ := mv_sc h h8
  unfold MF at *
  rw [e1, e2, e3, e4, e5, e6, h 16 (by omega), h 17 (by omega), h 18 (by omega), h 19 (by omega), h 20 (by omega), h 21 (by omega), h 22 (by omega), wq_sc h h8 (by omega), wq_sc h h8 (by omega), wq_sc h h8 (by omega)]
  exact hm
end
end RB
