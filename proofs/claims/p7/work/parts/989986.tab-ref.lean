/-! T5: what the reference's exact answers say of what its weak contracts tell; the same of a state with the same row *-/
section
section
variable {σ s s1 s2 s3 s4 t τ υ μ ρ : ra_V} {j i1 i7 : Nat} {a m x y z v k mn to p c y1 y2 y3 y4 y5 y6 : Int}
theorem x5why_k (h : s 180 = σ 180) : x5why s a m = x5why σ a m := show x5why (fun _ => s 180) a m = x5why (fun _ => σ 180) a m by rw [h]
theorem x5whyR_k (h : s 180 = σ 180) : x5whyR s a m = x5whyR σ a m := show x5whyR (fun _ => s 180) a m = x5whyR (fun _ => σ 180) a m by rw [h]
theorem x5whyM_k (h : s 180 = σ 180) : x5whyM s a m c = x5whyM σ a m c := show x5whyM (fun _ => s 180) a m c = x5whyM (fun _ => σ 180) a m c by rw [h]
theorem x5ex_k (h : s 180 = σ 180) : x5EX s p = x5EX σ p := show x5EX (fun _ => s 180) p = x5EX (fun _ => σ 180) p by rw [h]
theorem x5fx_k (h : s 180 = σ 180) : x5FX s p = x5FX σ p := show x5FX (fun _ => s 180) p = x5FX (fun _ => σ 180) p by rw [h]
theorem x5ful_k (h : s 180 = σ 180) : x5FUL s = x5FUL σ := show x5FUL (fun _ => s 180) = x5FUL (fun _ => σ 180) by rw [h]
theorem x5nfr_k (h : s 180 = σ 180) : x5nfr s = x5nfr σ := show x5nfr (fun _ => s 180) = x5nfr (fun _ => σ 180) by rw [h]
theorem x5cj2_k (h : s 180 = σ 180) : x5CJ2 s p x = x5CJ2 σ p x := show x5CJ2 (fun _ => s 180) p x = x5CJ2 (fun _ => σ 180) p x by rw [h]
theorem x5mk_k (h : s 180 = σ 180) : SC (x5mkV s z a m k mn) t = SC (x5mkV σ z a m k mn) t := show SC (x5mkV (fun _ => s 180) z a m k mn) t = SC (x5mkV (fun _ => σ 180) z a m k mn) t by rw [h]
theorem x5bg_k (h : s 180 = σ 180) : SC (x5bgV s p to) t = SC (x5bgV σ p to) t := show SC (x5bgV (fun _ => s 180) p to) t = SC (x5bgV (fun _ => σ 180) p to) t by rw [h]
theorem x5wn_old (h : x5why σ a m = 0) : US σ a m ∧ ¬ TK σ a m (-1) ∧ ¬ BT σ a m := by
  by_cases h1 : US σ a m
  · by_cases h2 : a % ra_g σ 180 3 = 0
    · by_cases h3 : TK σ a m (-1)
      · have := x5why_3 h1 h2 h3; omega
      · by_cases h4 : x5BSY σ a m
        · have := x5why_4 h1 h2 h3 h4; omega
        · exact ⟨h1, h3, fun q => h4 ⟨q.1, q.2.1, Or.inl ⟨q.2.2.1, q.2.2.2⟩⟩⟩
    · have := x5why_2 h1 h2; omega
  · have := x5why_1 h1; omega
theorem x5whyR_old (h : x5whyR σ p m = 0) : wq σ p 5 ≠ 1 ∧ ra_g σ 180 16 ≠ p ∧ SZK σ p m := by
  obtain ⟨h1, h2, h3, h4, h5, h6⟩ := x5whyR_ok h
  exact ⟨h1, h2, h3, h4, h5, fun q => h6 ⟨q.1, q.2.1, Or.inl ⟨q.2.2.1, q.2.2.2⟩⟩⟩
theorem x5whyM_old (h : x5whyM σ p to (ra_g σ 180 4) = 0) : MOK σ p to := by
  obtain ⟨h1, h2, h3, h4, h5, h6, h7⟩ := x5whyM_ok h
  refine ⟨h2, h3, h4, h6, ?_⟩
  by_cases c : rfar (wq σ p 1) to < min (ra_g σ 180 4) (wq σ p 2)
  · exact Or.inr (h7 c)
  · exact Or.inl (by omega)
theorem x5sc_old (hw : WFa σ) (hm : 1 ≤ m) (h : x5SCG σ p to m z) : (z = -1 ∨ (0 ≤ z ∧ z + m ≤ 600)) ∧ (z = -1 → ¬ SCE σ p to m) ∧ (z ≠ -1 → SCE σ p to m) := by
  unfold WFa at hw
  rcases h with ⟨e, h⟩ | ⟨h, -⟩
  · exact ⟨Or.inl e, fun _ q => q.elim fun y hy => h y hy, fun q => absurd e q⟩
  · have hb := (h.2 (z + m - 1) (by omega) (by omega)).1
    have h0 := h.1
    unfold US at hb
    exact ⟨Or.inr ⟨h0, by omega⟩, fun q => by omega, fun _ => ⟨z, h⟩⟩
theorem x5pm_old (hW : WF σ) : 0 ≤ ct σ (-1) ∧ ct σ (-1) ≤ 8 ∧ (ct σ (-1) < 8 → ∃ p, 0 ≤ p ∧ p < 8 ∧ wq σ p 0 = 0) := by
  refine ⟨ct_b.1, ct_b.2, fun h => ?_⟩
  obtain ⟨q, q0, q1, q2⟩ := x5full_n hW (fun c => by unfold x5FUL at c; omega)
  have := WF_ex hW q0 q1
  exact ⟨q, q0, q1, by omega⟩
/-! a step counted ahead -/
theorem x5sc_6a (h : SC (x5up (x5up τ 6 x) 22 y1) υ) : SC (x5up (x5up τ 22 y1) 6 x) υ := fun b hb => by
  rw [h b hb]
  by_cases c : b = 6
  · subst c; rw [x5uo_y, x5uo_n (by decide), x5uo_y]
  · simp only [x5up_g, if_neg c]
theorem x5sc_6b (h : SC (x5up (x5up (x5up τ 6 x) 22 y1) 21 y2) υ) : SC (x5up (x5up (x5up τ 22 y1) 21 y2) 6 x) υ := fun b hb => by
  rw [h b hb]
  by_cases c : b = 6
  · subst c; rw [x5uo_y, x5uo_n (by decide), x5uo_n (by decide), x5uo_y]
  · simp only [x5up_g, if_neg c]
theorem x5sc_6e (h1 : i1 ≠ 6) (h7 : i7 ≠ 6) (h : SC (x5up (x5up (x5up (x5up (x5up (x5up (x5up τ 6 x) 22 y1) 21 y2) i1 y3) i7 y4) 16 y5) 8 y6) υ) : SC (x5up (x5up (x5up (x5up (x5up (x5up (x5up τ 22 y1) 21 y2) i1 y3) i7 y4) 16 y5) 8 y6) 6 x) υ := fun b hb => by
  rw [h b hb]
  by_cases c : b = 6
  · subst c; rw [x5uo_y, x5uo_n (by decide), x5uo_n (by decide), x5uo_n (Ne.symm h7), x5uo_n (Ne.symm h1), x5uo_n (by decide), x5uo_n (by decide), x5uo_y]
  · simp only [x5up_g, if_neg c]
/-- two rows that differ in the count of steps alone -/
def x5S6 (τ υ : ra_V) : Prop := ∀ a, a < 88 → a ≠ 6 → ra_g υ 180 a = ra_g τ 180 a
theorem x5s6_st (h16 : 0 ≤ ra_g τ 180 16 ∧ ra_g τ 180 16 < 8) (h : x5S6 τ υ) : x5S6 (x5st0 τ) (x5st0 υ) := by
  have e16 := h 16 (by omega) (by omega)
  have e21 := h 21 (by omega) (by omega)
  have e22 := h 22 (by omega) (by omega)
  have e17 := h 17 (by omega) (by omega)
  have e18 := h 18 (by omega) (by omega)
  have e19 := h 19 (by omega) (by omega)
  have e8 := h 8 (by omega) (by omega)
  have w7 : wq υ (ra_g τ 180 16) 7 = wq τ (ra_g τ 180 16) 7 := h _ (by omega) (by omega)
  have ez : msz υ = msz τ := by unfold msz; rw [e16]; exact h _ (by omega) (by omega)
  have ec : rch υ = rch τ := by unfold rch; rw [ez, e19]
  have en : rnx υ = rnx τ := by unfold rnx; rw [ec, e18, e17, e21]
  have ef : rfb υ = rfb τ := by unfold rfb; rw [en, e19]
  have eb : rbn υ = rbn τ := by unfold rbn; rw [ez, ef, e19]
  have ed : rds υ = rds τ := by unfold rds; rw [e17, e18]
  intro b hb c
  unfold x5st0
  rw [ed, eb, e22, e21, ec, e16, e18, w7, e8]
  split
  · simp only [x5up_g, h b hb c]
  · split
    · simp only [x5up_g, h b hb c]
    · simp only [x5up_g, h b hb c]
theorem x5s6_up (h : SC (x5up τ 6 x) υ) : x5S6 τ υ := fun a ha c => (h a ha).trans (x5uo_n c)
theorem x5s6_sc (h : x5S6 τ υ) (h6 : SC (x5up υ 6 x) s) : SC (x5up τ 6 x) s := fun a ha => by
  rw [h6 a ha]
  by_cases c : a = 6
  · rw [c, x5uo_y, x5uo_y]
  · rw [x5uo_n c, x5uo_n c]; exact h a ha c
/-- one step more -/
theorem x5rn_s (hm : ra_g (x5itv j τ) 180 16 ≠ -1) (h16 : 0 ≤ ra_g (x5itv j τ) 180 16 ∧ ra_g (x5itv j τ) 180 16 < 8) (h : SC (x5up (x5itv j τ) 6 (x + x5cnv j τ)) s) (h2 : SC (x5up (x5st0 s) 6 (ra_g s 180 6 + 1)) t) : SC (x5up (x5itv (j + 1) τ) 6 (x + x5cnv (j + 1) τ)) t := by
  have h6 : ra_g s 180 6 = ra_w (x + x5cnv j τ) := (h 6 (by omega)).trans x5uo_y
  have e := x5s6_st h16 (x5s6_up h)
  rw [x5itv_y hm, x5cnv_y hm]
  have q := x5s6_sc e h2
  intro a ha
  rw [q a ha]
  by_cases c : a = 6
  · rw [c, x5uo_y, x5uo_y, h6]
    unfold ra_w
    rw [show x + (x5cnv j τ + 1) = x + x5cnv j τ + 1 by omega, Int32.ofInt_add, Int32.ofInt_toInt, ← Int32.ofInt_add]
  · rw [x5uo_n c, x5uo_n c]
/-- not to be joined -/
theorem x5nj_n (hw : WF σ) (hp : 0 ≤ p ∧ p < 8 ∧ wq σ p 0 = 1) (h : (z = -1 ∧ NN σ p 8) ∨ (0 ≤ z ∧ z < 8 ∧ wq σ z 0 = 1 ∧ wq σ z 1 = wq σ p 1 + wq σ p 2)) (hb : z = -1 ∨ wq σ z 4 ≠ wq σ p 4 ∨ x5FX σ p ∨ x5FX σ z) : ¬ ∃ q, x5CJ2 σ p q := by
  rintro ⟨q, ⟨q0, q1, q2, q3⟩, q4, q5, q6⟩
  rcases h with ⟨-, h⟩ | ⟨z0, z1, z2, z3⟩
  · exact h q q0 q1 q2 q3
  · have e : q = z := by
      by_cases e : q = z
      · exact e
      · have ha := WF_ap hw q0 q1 z0 z1 e q2 z2
        have h1 := WF_p hw q0 q1 q2
        have h2 := WF_p hw z0 z1 z2
        omega
    subst e
    rcases hb with hb | hb | hb | hb
    · omega
    · exact hb q4
    · exact q5 hb
    · exact q6 hb
end
end
