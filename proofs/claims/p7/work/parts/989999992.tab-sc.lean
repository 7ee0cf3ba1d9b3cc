/-! T5: what is told of a row hangs on its numbers below the sectors alone *-/
section
section
variable {σ s t τ μ : ra_V} {a m x y z k to p w : Int}
theorem x5us_c (h : SC μ s) : US s a m = US μ a m := by unfold US; rw [h 0 (by omega), h 1 (by omega), h 2 (by omega)]
theorem x5tk_c (h : SC μ s) : TK s a m w = TK μ a m w := by
  apply propext
  constructor
  · rintro ⟨q, q0, q1, q2, q3, q4, q5⟩
    rw [wq_sc h q1 (by omega)] at q3 q5
    rw [wq_sc h q1 (by omega), wq_sc h q1 (by omega)] at q4
    exact ⟨q, q0, q1, q2, q3, q4, q5⟩
  · rintro ⟨q, q0, q1, q2, q3, q4, q5⟩
    rw [← wq_sc h q1 (by omega)] at q3 q5
    rw [← wq_sc h q1 (by omega), ← wq_sc h q1 (by omega)] at q4
    exact ⟨q, q0, q1, q2, q3, q4, q5⟩
theorem x5can_c (h : SC μ s) (hp : p < 8) : CAN s p to k = CAN μ p to k := by unfold CAN; rw [x5us_c h, x5tk_c h, wq_sc h hp (by omega)]
theorem x5run_c (h : SC μ s) (hp : p < 8) {q : Int} : x5RUN s p to m q = x5RUN μ p to m q := by unfold x5RUN; simp only [x5can_c h hp]
theorem x5scg_c (h : SC μ s) (hp : p < 8) : x5SCG s p to m z = x5SCG μ p to m z := by unfold x5SCG; simp only [x5run_c h hp]
theorem x5scgF_c (h : SC μ s) (hp : p < 8) : x5scgF s p to m = x5scgF μ p to m := by
  have e : x5SCG s p to m = x5SCG μ p to m := funext fun z => x5scg_c h hp
  unfold x5scgF
  rw [e]
theorem x5sclF_c (h : SC μ s) (hp : p < 8) : x5sclF s p to = x5sclF μ p to := by unfold x5sclF; rw [x5scgF_c h hp, wq_sc h hp (by omega), wq_sc h hp (by omega), h 4 (by omega)]
theorem x5bg_c (h : SC μ s) (hp : p < 8) (q : SC (x5bgV s p to) t) : SC (x5bgV μ p to) t := fun b hb => by
  rw [q b hb]
  unfold x5bgV
  rw [x5sclF_c h hp, wq_sc h hp (by omega), h 4 (by omega)]
  simp only [x5up_g, h b hb]
theorem x5whyM_c (h : SC μ s) (hp : p < 8) {c : Int} : x5whyM s p to c = x5whyM μ p to c := by
  unfold x5whyM
  simp only [x5us_c h, x5tk_c h, x5run_c h hp, wq_sc h hp (show (5 : Int) < 8 by omega), wq_sc h hp (show (1 : Int) < 8 by omega), wq_sc h hp (show (2 : Int) < 8 by omega), h 16 (by omega), h 3 (by omega)]
theorem x5lst_c (h : SC μ s) (hp : p < 8) (q : x5LST (fun k => x5whyM s p k (ra_g s 180 4) = 0) 0 (wq s p 1) z) : x5LST (fun k => x5whyM μ p k (ra_g μ 180 4) = 0) 0 (wq μ p 1) z := by
  have e : (fun k => x5whyM s p k (ra_g s 180 4) = 0) = fun k => x5whyM μ p k (ra_g μ 180 4) = 0 := funext fun k => by rw [x5whyM_c h hp, h 4 (by omega)]
  rw [e, wq_sc h hp (by omega)] at q
  exact q
theorem x5slf_c (h : SC μ s) (h16 : ra_g μ 180 16 < 8) : x5SLF s = x5SLF μ := by
  obtain ⟨m1, m2, m3, m4, m5, m6⟩ := mv_sc h h16
  unfold x5SLF
  rw [m1, m2, m6, h 17 (by omega), h 18 (by omega), h 19 (by omega), h 21 (by omega), h 22 (by omega)]
theorem x5st0_c (h : SC μ s) (h16 : 0 ≤ ra_g μ 180 16 ∧ ra_g μ 180 16 < 8) : SC (x5st0 μ) (x5st0 s) := by
  obtain ⟨m1, m2, m3, m4, m5, m6⟩ := mv_sc h h16.2
  intro b hb
  unfold x5st0
  rw [m2, m5, m6, h 16 (by omega), h 18 (by omega), h 21 (by omega), h 22 (by omega), h 8 (by omega), wq_sc h h16.2 (show (7 : Int) < 8 by omega)]
  split
  · simp only [x5up_g, h b hb]
  · split
    · simp only [x5up_g, h b hb]
    · simp only [x5up_g, h b hb]
theorem x5itv_c (hW : x5W2 μ) (h : SC μ s) : ∀ n : Nat, SC (x5itv n μ) (x5itv n s) ∧ x5cnv n s = x5cnv n μ
  | 0 => ⟨h, rfl⟩
  | n + 1 => by
    obtain ⟨h1, h2⟩ := x5itv_c hW h n
    have hn := x5w2_it n hW
    have e16 : ra_g (x5itv n s) 180 16 = ra_g (x5itv n μ) 180 16 := h1 16 (by omega)
    by_cases c : ra_g (x5itv n μ) 180 16 = -1
    · have c2 : ra_g (x5itv n s) 180 16 = -1 := e16.trans c
      have a1 : x5itv (n + 1) μ = x5itv n μ := if_pos c
      have a2 : x5itv (n + 1) s = x5itv n s := if_pos c2
      rw [a1, a2, (x5itv_n (p := n) c 1).2, (x5itv_n (p := n) c2 1).2]
      exact ⟨h1, h2⟩
    · have c2 : ra_g (x5itv n s) 180 16 ≠ -1 := by rw [e16]; exact c
      rw [x5itv_y c, x5itv_y c2, x5cnv_y c, x5cnv_y c2, h2]
      exact ⟨x5st0_c h1 (MV_f hn.1 c).1, rfl⟩
theorem x5run_sc {n : Nat} (hW : x5W2 μ) (h : SC μ s) (q : SC (x5runV n s) t) : SC (x5runV n μ) t := by
  obtain ⟨h1, h2⟩ := x5itv_c hW h n
  intro b hb
  rw [q b hb]
  unfold x5runV
  rw [h2, h 6 (by omega)]
  simp only [x5up_g, h1 b hb]
/-- one partition moved: the reference -/
theorem x5pk_sc {n : Nat} (hW : x5W2 μ) (hp : x5EX μ p) (h : SC μ s) (hk : x5whyM μ p to (ra_g μ 180 4) = 0) (h1 : SC (x5bgV s p to) τ) (hn : n = (x5SLF τ).toNat) (h2 : SC (x5runV n τ) t) : SC (x5runV 999 (x5bgV μ p to)) t ∧ 1 ≤ n := by
  obtain ⟨b1, b2⟩ := x5w2_bg hW hp hk
  have c1 := x5bg_c h hp.2.1 h1
  have ha := WF_a b1.1
  unfold WFa at ha
  have es := x5slf_c c1 (by omega)
  have hpos := x5sl_pos b1 b2
  have e := x5run_u (p := 999) (q := n) b1 b2 (x5sl_max b1 b2) (by omega)
  rw [e.1]
  exact ⟨x5run_sc b1 c1 h2, by omega⟩
end
end
