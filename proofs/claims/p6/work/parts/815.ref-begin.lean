/-! a move begun -/
section RB
theorem mok_k {s t : ra_V} (h : s 180 = t 180) {p to : Int} (q : MOK s p to) : MOK t p to := by
  unfold MOK SCE CAN US TK wq at *
  simp only [ra_gk h] at q
  exact q
section
variable {σ s : ra_V} {p to z : Int}
theorem sc_ok {L : Int} (hw : WF σ) (hk : MOK σ p to) (eL : L = min (ra_g σ 180 4) (wq σ p 2)) (hf : rfar (wq σ p 1) to < L) (h : (z = -1 ∨ (0 ≤ z ∧ z + L ≤ 600)) ∧ (z = -1 → ¬ SCE σ p to L) ∧ (z ≠ -1 → SCE σ p to L)) :
    (-1 ≤ z ∧ z + L ≤ 600) ∧ (z = -1 → L ≤ rfar (wq σ p 1) to) := by
  obtain ⟨-, -, -, -, hk⟩ := hk
  have ha := WF_a hw
  unfold WFa at ha
  subst eL
  obtain ⟨h1, h2, -⟩ := h
  rcases hk with hk | hk
  · omega
  · refine ⟨by omega, fun e => absurd hk (h2 e)⟩
theorem st_w {sc : Int} (hw : WF σ) (hp : 0 ≤ p ∧ p < 8 ∧ wq σ p 0 = 1) (hk : MOK σ p to) (v16 : ra_g s 180 16 = p) (v17 : ra_g s 180 17 = wq σ p 1) (v18 : ra_g s 180 18 = to) (v19 : ra_g s 180 19 = ra_g σ 180 4) (v20 : ra_g s 180 20 = sc) (v21 : ra_g s 180 21 = 0) (v22 : ra_g s 180 22 = 0)
    (o : ∀ a, (a < 16 ∨ 22 < a) → ra_g s 180 a = ra_g σ 180 a) (hs : (-1 ≤ sc ∧ sc + min (ra_g σ 180 4) (wq σ p 2) ≤ 600) ∧ (sc = -1 → min (ra_g σ 180 4) (wq σ p 2) ≤ rfar (wq σ p 1) to)) : WF s := by
  have e : ∀ q w, 0 ≤ q → q < 8 → 0 ≤ w → w < 4 → wf (rw_ s) q w = wf (rw_ σ) q w := fun q w q0 q1 w0 w1 => o _ (by omega)
  have e0 : ∀ j, j < 16 → rw_ s j = rw_ σ j := fun j hj => o j (by omega)
  have ha := WF_a hw
  unfold WFa at ha
  have hq := WF_p hw hp.1 hp.2.1 hp.2.2
  have hap := fun q q0 q1 hn qe => WF_ap hw (p := p) (q := q) hp.1 hp.2.1 q0 q1 hn hp.2.2 qe
  obtain ⟨k1, k2, k3, k4, -⟩ := hk
  obtain ⟨h1, h2, h3, h4, -⟩ := hw
  refine ⟨?_, fun q p0 p1 => ?_, fun q p0 p1 pe => ?_, fun q r p0 p1 q0 q1 hn pe qe => ?_, Or.inr ?_⟩
  · unfold WFs
    rw [e0 0 (by omega), e0 1 (by omega), e0 2 (by omega), e0 3 (by omega), e0 4 (by omega)]
    exact h1
  · rw [e q 0 p0 p1 (by omega) (by omega)]
    exact h2 q p0 p1
  · rw [e q 0 p0 p1 (by omega) (by omega)] at pe
    have h6 := h3 q p0 p1 pe
    unfold WFp at *
    rw [e q 3 p0 p1 (by omega) (by omega), e q 2 p0 p1 (by omega) (by omega), e q 1 p0 p1 (by omega) (by omega), e0 0 (by omega), e0 1 (by omega), e0 2 (by omega)]
    exact h6
  · rw [e q 0 p0 p1 (by omega) (by omega)] at pe
    rw [e r 0 q0 q1 (by omega) (by omega)] at qe
    rw [e q 1 p0 p1 (by omega) (by omega), e q 2 p0 p1 (by omega) (by omega), e r 1 q0 q1 (by omega) (by omega), e r 2 q0 q1 (by omega) (by omega)]
    exact h4 q r p0 p1 q0 q1 hn pe qe
  · have r16 : rw_ s 16 = p := v16
    have r17 : rw_ s 17 = wq σ p 1 := v17
    have r18 : rw_ s 18 = to := v18
    have r19 : rw_ s 19 = ra_g σ 180 4 := v19
    have r20 : rw_ s 20 = sc := v20
    have r21 : rw_ s 21 = 0 := v21
    have r22 : rw_ s 22 = 0 := v22
    unfold WFm
    rw [r16, r17, r18, r19, r20, r21, r22, e p 0 hp.1 hp.2.1 (by omega) (by omega), e p 1 hp.1 hp.2.1 (by omega) (by omega), e p 2 hp.1 hp.2.1 (by omega) (by omega), e0 0 (by omega), e0 1 (by omega), e0 2 (by omega)]
    have hc := ref_chunks_b (m := wq σ p 2) (c := ra_g σ 180 4) (k := 0) (by omega) (by omega)
    have hd := rfar_b (wq σ p 1) to
    refine ⟨⟨hp.1, hp.2.1⟩, hp.2.2, rfl, ⟨k3.2.1, k3.2.2⟩, Ne.symm k2, ⟨by omega, by omega⟩, ⟨by omega, by have := hc.1; exact Int.lt_of_lt_of_le (by decide : (0 : Int) < 1) this⟩, Or.inl rfl, hs.1, fun q => ?_, fun q q0 q1 hn qe => ?_⟩
    · have := hs.2 q
      show min (ra_g σ 180 4) (wq σ p 2) ≤ wq σ p 1 - to ∨ min (ra_g σ 180 4) (wq σ p 2) ≤ to - wq σ p 1
      omega
    · rw [e q 0 q0 q1 (by omega) (by omega)] at qe
      rw [e q 1 q0 q1 (by omega) (by omega), e q 2 q0 q1 (by omega) (by omega)]
      have qe : wq σ q 0 = 1 := qe
      show to + wq σ p 2 ≤ wq σ q 1 ∨ wq σ q 1 + wq σ q 2 ≤ to
      by_cases c1 : to < wq σ q 1 + wq σ q 2
      · by_cases c2 : wq σ q 1 < to + wq σ p 2
        · exact absurd ⟨q, q0, q1, hn, qe, c1, c2⟩ k4
        · omega
      · omega
theorem st_ch {s1 s2 s3 s4 s5 s6 s7 : ra_V} {sc : Int} (hw : WF σ) (hp : 0 ≤ p ∧ p < 8 ∧ wq σ p 0 = 1) (hk : MOK σ p to) (v1 : ra_g s1 180 16 = p) (o1 : ∀ a, a ≠ 16 → ra_g s1 180 a = ra_g σ 180 a) (v2 : ra_g s2 180 17 = wq s1 p 1) (o2 : ∀ a, a ≠ 17 → ra_g s2 180 a = ra_g s1 180 a) (v3 : ra_g s3 180 18 = to) (o3 : ∀ a, a ≠ 18 → ra_g s3 180 a = ra_g s2 180 a) (v4 : ra_g s4 180 19 = ra_g s3 180 4) (o4 : ∀ a, a ≠ 19 → ra_g s4 180 a = ra_g s3 180 a)
    (v5 : ra_g s5 180 20 = sc) (o5 : ∀ a, a ≠ 20 → ra_g s5 180 a = ra_g s4 180 a) (v6 : ra_g s6 180 21 = 0) (o6 : ∀ a, a ≠ 21 → ra_g s6 180 a = ra_g s5 180 a) (v7 : ra_g s7 180 22 = 0) (o7 : ∀ a, a ≠ 22 → ra_g s7 180 a = ra_g s6 180 a)
    (hs : (-1 ≤ sc ∧ sc + min (ra_g σ 180 4) (wq σ p 2) ≤ 600) ∧ (sc = -1 → min (ra_g σ 180 4) (wq σ p 2) ≤ rfar (wq σ p 1) to)) : WF s7 ∧ ra_g s7 180 16 = p := by
  have b : ∀ a, a ≠ 17 → a ≠ 18 → a ≠ 19 → a ≠ 20 → a ≠ 21 → a ≠ 22 → ra_g s7 180 a = ra_g s1 180 a := fun a h1 h2 h3 h4 h5 h6 => by rw [o7 a h6, o6 a h5, o5 a h4, o4 a h3, o3 a h2, o2 a h1]
  have w16 : ra_g s7 180 16 = p := (b 16 (by omega) (by omega) (by omega) (by omega) (by omega) (by omega)).trans v1
  have e1 : wq s1 p 1 = wq σ p 1 := o1 _ (by omega)
  refine ⟨st_w hw hp hk w16 ?_ ?_ ?_ ?_ ?_ v7 (fun a ha => ?_) hs, w16⟩
  · rw [o7 17 (by omega), o6 17 (by omega), o5 17 (by omega), o4 17 (by omega), o3 17 (by omega), v2, e1]
  · rw [o7 18 (by omega), o6 18 (by omega), o5 18 (by omega), o4 18 (by omega), v3]
  · rw [o7 19 (by omega), o6 19 (by omega), o5 19 (by omega), v4, o3 4 (by omega), o2 4 (by omega), o1 4 (by omega)]
  · rw [o7 20 (by omega), o6 20 (by omega), v5]
  · rw [o7 21 (by omega), v6]
  · rw [b a (by omega) (by omega) (by omega) (by omega) (by omega) (by omega), o1 a (by omega)]
end
end RB
