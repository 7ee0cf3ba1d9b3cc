/-! T4: a partition read by the reference -/
section
section
variable {σ s t : ra_V} {B : Nat → Int} {bn n a i k p e ta : Nat} {x y v z w lo hi st sz kd mn : Int} {r : Nat → Int} {u : Int × Nat}
theorem x4rd_b (h : tx_rd B n i lo hi = .inr (v, e)) : lo ≤ v ∧ v ≤ hi ∧ e = x4tx_n B n i := by
  by_cases c : tx_k B n (tx_a B n i) = 2 ∧ tx_e B n (tx_a B n i) - tx_a B n i ≤ 3
  · by_cases d : lo ≤ tx_val B n (tx_a B n i) ∧ tx_val B n (tx_a B n i) ≤ hi
    · rw [x4rd_y c d] at h
      cases h
      exact ⟨d.1, d.2, rfl⟩
    · rw [x4rd_o c d] at h; cases h
  · rw [x4rd_x c] at h; cases h
/-- its start is right -/
def x4PA (B : Nat → Int) (bn : Nat) (r : Nat → Int) (ta : Nat) (st : Int) : Prop := tx_rd B bn (tx_e B bn ta) (r 1) (r 0 - r 2 - 1) = .inr (st, x4tx_n B bn (tx_e B bn ta)) ∧ st % r 3 = 0
/-- its size is right -/
def x4PB (B : Nat → Int) (bn : Nat) (r : Nat → Int) (ta : Nat) (st sz : Int) : Prop := tx_rd B bn (x4tx_n B bn (tx_e B bn ta)) 1 (r 0 - r 2 - st) = .inr (sz, x4tx_n B bn (x4tx_n B bn (tx_e B bn ta))) ∧ ¬ tx_meets r st sz = true
theorem x4pa_1 (hR : x4RR r s) (hW : WFa s) (hn : tx_rd B bn (tx_e B bn ta) 0 999 = .inr (v, e)) (hu : US s v 1) (hm : v.tmod (ra_g s 180 3) = 0) : x4PA B bn r ta v := by
  obtain ⟨⟨q0, q1, q2, q3, q4, q5⟩, -⟩ := hR
  unfold US at hu
  have h0 := (x4rd_b hn).1
  refine ⟨(x4rd_c hn).1 ⟨by omega, by omega⟩, ?_⟩
  rw [← q3, ← Int.tmod_eq_emod_of_nonneg h0]
  exact hm
theorem x4pa_n (hR : x4RR r s) (hW : WFa s) (h8 : r 5 ≠ 8) (hn : tx_rd B bn (tx_e B bn ta) 0 999 = .inr (v, e)) (h : ¬ US s v 1 ∨ v.tmod (ra_g s 180 3) ≠ 0) : tx_part B bn r ta = .inl (2, tx_a B bn (tx_e B bn ta)) := by
  obtain ⟨⟨q0, q1, q2, q3, q4, q5⟩, -⟩ := hR
  have h0 := (x4rd_b hn).1
  by_cases c : r 1 ≤ v ∧ v ≤ r 0 - r 2 - 1
  · refine x4part_2 h8 ((x4rd_c hn).1 c) ?_
    rw [← q3, ← Int.tmod_eq_emod_of_nonneg h0]
    exact h.resolve_left (fun q => q (by unfold US; omega))
  · exact x4part_1 h8 ((x4rd_c hn).2.1 c)
theorem x4pa_f (hR : x4RR r s) (hW : WFa s) (h8 : r 5 ≠ 8) (hn : tx_rd B bn (tx_e B bn ta) 0 999 = .inl u) : tx_part B bn r ta = .inl u := by
  obtain ⟨⟨q0, q1, q2, q3, q4, q5⟩, -⟩ := hR
  unfold WFa at hW
  exact x4part_1 h8 (x4rd_nw hn (by omega) (by omega))
theorem x4pb_1 (hR : x4RR r s) (hL : LD s) (hn : tx_rd B bn (x4tx_n B bn (tx_e B bn ta)) 1 999 = .inr (y, e)) (hu : US s st y) (ht : ¬ TK s st y (-1)) : x4PB B bn r ta st y := by
  have hR0 := hR
  obtain ⟨⟨q0, q1, q2, q3, q4, q5⟩, -⟩ := hR0
  unfold US at hu
  exact ⟨(x4rd_c hn).1 ⟨by omega, by omega⟩, fun q => ht ((x4RR_tk hR hL).mpr q)⟩
theorem x4pb_n (hR : x4RR r s) (h8 : r 5 ≠ 8) (hA : x4PA B bn r ta st) (hn : tx_rd B bn (x4tx_n B bn (tx_e B bn ta)) 1 999 = .inr (y, e)) (hu : ¬ US s st y) : tx_part B bn r ta = .inl (2, tx_a B bn (x4tx_n B bn (tx_e B bn ta))) := by
  obtain ⟨⟨q0, q1, q2, q3, q4, q5⟩, -⟩ := hR
  have h1 := x4rd_b hA.1
  have h2 := x4rd_b hn
  unfold US at hu
  exact x4part_3 h8 hA.1 hA.2 ((x4rd_c hn).2.1 (by omega))
theorem x4pb_t (hR : x4RR r s) (hL : LD s) (h8 : r 5 ≠ 8) (hA : x4PA B bn r ta st) (hn : tx_rd B bn (x4tx_n B bn (tx_e B bn ta)) 1 999 = .inr (y, e)) (hu : US s st y) (ht : TK s st y (-1)) : tx_part B bn r ta = .inl (4, tx_a B bn (x4tx_n B bn (tx_e B bn ta))) := by
  have hR0 := hR
  obtain ⟨⟨q0, q1, q2, q3, q4, q5⟩, -⟩ := hR0
  unfold US at hu
  exact x4part_4 h8 hA.1 hA.2 ((x4rd_c hn).1 ⟨by omega, by omega⟩) ((x4RR_tk hR hL).mp ht)
theorem x4pb_f (hR : x4RR r s) (hW : WFa s) (h8 : r 5 ≠ 8) (hA : x4PA B bn r ta st) (hn : tx_rd B bn (x4tx_n B bn (tx_e B bn ta)) 1 999 = .inl u) : tx_part B bn r ta = .inl u := by
  obtain ⟨⟨q0, q1, q2, q3, q4, q5⟩, -⟩ := hR
  have h1 := x4rd_b hA.1
  unfold WFa at hW
  exact x4part_3 h8 hA.1 hA.2 (x4rd_nw hn (by omega) (by omega))
theorem x4pc_f (h8 : r 5 ≠ 8) (hA : x4PA B bn r ta st) (hB : x4PB B bn r ta st sz) (hn : tx_rd B bn (x4tx_n B bn (x4tx_n B bn (tx_e B bn ta))) 0 9 = .inl u) : tx_part B bn r ta = .inl u := x4part_5 h8 hA.1 hA.2 hB.1 hB.2 hn
theorem x4pd_f (h8 : r 5 ≠ 8) (hA : x4PA B bn r ta st) (hB : x4PB B bn r ta st sz) (hC : tx_rd B bn (x4tx_n B bn (x4tx_n B bn (tx_e B bn ta))) 0 9 = .inr (kd, x4tx_n B bn (x4tx_n B bn (x4tx_n B bn (tx_e B bn ta))))) (hn : tx_rd B bn (x4tx_n B bn (x4tx_n B bn (x4tx_n B bn (tx_e B bn ta)))) 1 sz = .inl u) : tx_part B bn r ta = .inl u := x4part_6 h8 hA.1 hA.2 hB.1 hB.2 hC hn
theorem x4pd_y (h8 : r 5 ≠ 8) (hA : x4PA B bn r ta st) (hB : x4PB B bn r ta st sz) (hC : tx_rd B bn (x4tx_n B bn (x4tx_n B bn (tx_e B bn ta))) 0 9 = .inr (kd, x4tx_n B bn (x4tx_n B bn (x4tx_n B bn (tx_e B bn ta))))) (hn : tx_rd B bn (x4tx_n B bn (x4tx_n B bn (x4tx_n B bn (tx_e B bn ta)))) 1 sz = .inr (mn, x4tx_n B bn (x4tx_n B bn (x4tx_n B bn (x4tx_n B bn (tx_e B bn ta)))))) : tx_part B bn r ta = .inr (tx_mk r st sz kd mn, x4tx_n B bn (x4tx_n B bn (x4tx_n B bn (x4tx_n B bn (tx_e B bn ta))))) := x4part_y h8 hA.1 hA.2 hB.1 hB.2 hC hn
theorem x4mk_z {a m : Int} (h : LD σ) (hk : MK2 σ s z a m mn) (h8 : ra_g σ 180 5 ≠ 8) : z = ra_g σ 180 5 := by
  obtain ⟨h1, h2, h3, h4⟩ := h
  obtain ⟨⟨⟨z0, z1, z2⟩, -⟩, k2, k3⟩ := hk
  have a1 := h4 z z0 z1
  by_cases c : ra_g σ 180 5 < z
  · have := k3 (ra_g σ 180 5) (by omega) c
    have := h4 (ra_g σ 180 5) (by omega) (by omega)
    omega
  · omega
theorem x4RR_mk2 {mn2 : Int} (hR : x4RR r σ) (hL : LD σ) (h8 : ra_g σ 180 5 ≠ 8) (hk : MK2 σ s z st sz mn2) (h50 : wq s z 5 = 0) (h15 : ra_g s 179 15 = ra_g σ 179 15 ∧ ra_g s 179 16 = ra_g σ 179 16 ∧ ra_g s 179 21 = ra_g σ 179 21) : x4RR (tx_mk r st sz kd mn) s := by
  have ez := x4mk_z hL hk h8
  obtain ⟨⟨-, k0, k1, k2, k3, k4⟩, k5, k6⟩ := hk
  have q5 := hR.1.2.2.2.2.2
  have hl := hL.2.2.1
  exact x4RR_mk hR (by omega) ⟨by omega, k1, k2, h50, by omega⟩ k4 h15
/-! the whole text -/
def x4RP (s : ra_V) (z : Int) (o : Sum (Int × Nat) (Nat → Int)) : Prop :=
  (z = 1 ∧ ∃ r : Nat → Int, o = .inr r ∧ x4RR r s) ∨ (z = 0 ∧ ∃ (c : Int) (a : Nat), o = .inl (c, a) ∧ ra_g s 179 15 = c ∧ ra_g s 179 16 = (a : Nat))
def x4RLI (B : Nat → Int) (bn : Nat) (s : ra_V) : Prop := ∃ (k : Nat) (r : Nat → Int) (i : Nat), tx_text B bn = tx_run B bn k r i ∧ x4RR r s ∧ x4RTK B bn s (tx_a B bn i) ∧ (501 : Int) ≤ k + ra_g s 179 17
section
variable {o : Sum (Int × Nat) (Nat → Int)} {c : Int}
theorem x4rp_f (hz : z = 0) (ho : o = .inl (c, a)) (h2 : ra_g s 179 15 = c) (h3 : ra_g s 179 16 = (a : Nat)) : x4RP s z o := Or.inr ⟨hz, c, a, ho, h2, h3⟩
theorem x4rp_t {j : Nat} (h : x4RTA B bn σ s w i j lo hi) (hw : w = 0) (hz : z = 0) (ho : ∀ x, tx_rd B bn i lo hi = .inl x → o = .inl x) : x4RP s z o := by
  rcases h with ⟨q, -⟩ | ⟨-, c, h1, h2, h3⟩
  · omega
  · exact x4rp_f hz (ho _ h1) h2 h3
theorem x4rp_s (h : x4RSE B bn σ s w i) (hw : w = 0) (hz : z = 0) (ho : ∀ x, tx_semi B bn i = .inl x → o = .inl x) : x4RP s z o := by
  rcases h with ⟨q, -⟩ | ⟨-, c, a, h1, h2, h3⟩
  · omega
  · exact x4rp_f hz (ho _ h1) h2 h3
theorem x4rp_e (h : x4RLI B bn s) (ht : ra_g s 179 20 = 0) (hz : z = 1) : x4RP s z (tx_text B bn) := by
  obtain ⟨k, r, i, h1, h2, h3, h4⟩ := h
  exact Or.inl ⟨hz, r, h1.trans (x4run_e (by have := h3.2.2.1; omega)), h2⟩
theorem x4rp_n (h : tx_text B bn = tx_run B bn k r i) (hk : (501 : Int) ≤ k + ra_g t 179 17) (h17 : ra_g t 179 17 ≤ 500) (hK : x4RTK B bn t (tx_a B bn i)) (h20 : ra_g t 179 20 ≠ 0) (hc : x4ROC B bn s w (tx_stmt B bn r (tx_a B bn i))) (hw : w = 0) (hz : z = 0) : x4RP s z (tx_text B bn) := by
  rcases hc with ⟨q, -⟩ | ⟨-, c, a, h1, h2, h3⟩
  · omega
  · obtain ⟨k, rfl⟩ : ∃ j, k = j + 1 := ⟨k - 1, by omega⟩
    refine x4rp_f hz (h.trans (x4run_n (by have := hK.2.2.1; omega) ?_)) h2 h3
    rw [h1]; rfl
theorem x4rp_n2 {e : Nat} {r2 : Nat → Int} {q : ra_V} (h : tx_text B bn = tx_run B bn k r i) (hk : (501 : Int) ≤ k + ra_g t 179 17) (h17 : ra_g t 179 17 ≤ 500) (hK : x4RTK B bn t (tx_a B bn i)) (h20 : ra_g t 179 20 ≠ 0) (hc : tx_stmt B bn r (tx_a B bn i) = .inr (r2, e)) (hs : x4RSE B bn q s w e) (hw : w = 0) (hz : z = 0) : x4RP s z (tx_text B bn) := by
  rcases hs with ⟨q, -⟩ | ⟨-, c, a, h1, h2, h3⟩
  · omega
  · obtain ⟨k, rfl⟩ : ∃ j, k = j + 1 := ⟨k - 1, by omega⟩
    refine x4rp_f hz (h.trans (x4run_n (by have := hK.2.2.1; omega) ?_)) h2 h3
    rw [hc]
    unfold tx_ps
    dsimp only
    rw [h1]
theorem x4rli_s {e : Nat} {r2 : Nat → Int} {q : ra_V} (h : tx_text B bn = tx_run B bn k r i) (hk : (501 : Int) ≤ k + ra_g t 179 17) (h17 : ra_g t 179 17 ≤ 500) (hK : x4RTK B bn t (tx_a B bn i)) (h20 : ra_g t 179 20 ≠ 0) (hc : tx_stmt B bn r (tx_a B bn i) = .inr (r2, e)) (hR : x4RR r2 q) (hs : x4RSE B bn q s w e) (hw : w ≠ 0) (h180 : s 180 = q 180) (h21 : ra_g s 179 21 = ra_g q 179 21) (hm : ra_g t 179 17 < ra_g s 179 17) : x4RLI B bn s := by
  rcases hs with ⟨-, h1, h2, h3, h4, h5⟩ | ⟨q, -⟩
  · obtain ⟨k, rfl⟩ : ∃ j, k = j + 1 := ⟨k - 1, by omega⟩
    have hq := hR.2.2.2.1
    refine ⟨k, r2, x4tx_n B bn e, h.trans (x4run_y (by have := hK.2.2.1; omega) ?_), x4RR_k h180 ⟨by omega, by omega, h21⟩ hR, h2, by omega⟩
    rw [hc]
    unfold tx_ps
    dsimp only
    rw [h1]
  · omega
theorem x4rli_0 {q : ra_V} {v : Int} (h : tx_isw B bn (tx_a B bn 0) ['d', 'i', 's', 'k'] = true) (h1 : tx_rd B bn (tx_e B bn (tx_a B bn 0)) 64 600 = .inr (v, e)) (hR : x4RR (tx_r0 v) q) (hs : x4RSE B bn q s w e) (hw : w ≠ 0) (h180 : s 180 = q 180) (h21 : ra_g s 179 21 = ra_g q 179 21) (hm : 1 ≤ ra_g s 179 17) : x4RLI B bn s := by
  rcases hs with ⟨-, h2, h3, h4, h5, h6⟩ | ⟨q, -⟩
  · have hq := hR.2.2.2.1
    exact ⟨500, tx_r0 v, x4tx_n B bn e, x4text_4 h h1 h2, x4RR_k h180 ⟨by omega, by omega, h21⟩ hR, h3, by omega⟩
  · omega
theorem x4RR_0 (h : ra_g s 180 0 = v ∧ ra_g s 180 1 = 0 ∧ ra_g s 180 2 = 0 ∧ ra_g s 180 3 = 1 ∧ ra_g s 180 4 = 4 ∧ ra_g s 180 5 = 0) (h2 : ra_g s 179 15 = 0 ∧ ra_g s 179 16 = -1 ∧ ra_g s 179 21 = 0) : x4RR (tx_r0 v) s := by
  have f : ∀ j : Nat, j ≠ 0 → j ≠ 3 → j ≠ 4 → tx_r0 v j = 0 := fun j a b c => by unfold tx_r0; rw [if_neg a, if_neg b, if_neg c]
  have e0 : tx_r0 v 0 = v := rfl
  have e3 : tx_r0 v 3 = 1 := rfl
  have e4 : tx_r0 v 4 = 4 := rfl
  have e1 := f 1 (by decide) (by decide) (by decide)
  have e2 := f 2 (by decide) (by decide) (by decide)
  have e5 := f 5 (by decide) (by decide) (by decide)
  have e101 := f 101 (by decide) (by decide) (by decide)
  have e102 := f 102 (by decide) (by decide) (by decide)
  have e103 := f 103 (by decide) (by decide) (by decide)
  have e104 := f 104 (by decide) (by decide) (by decide)
  refine ⟨by omega, by omega, by omega, by omega, fun p hp hq => ?_⟩
  rw [e5] at hq
  omega
theorem x4rp_2 (h : x4RP s z o) : ra_g s 179 15 = tx_err o := by
  rcases h with ⟨-, r, h1, h2⟩ | ⟨-, c, a, h1, h2, h3⟩
  · rw [h1]; exact h2.2.2.2.1.1
  · rw [h1]; exact h2
theorem x4rp_3 (h : x4RP s z o) : ra_g s 179 16 = tx_off o := by
  rcases h with ⟨-, r, h1, h2⟩ | ⟨-, c, a, h1, h2, h3⟩
  · rw [h1]; exact h2.2.2.2.1.2
  · rw [h1]; exact h3
theorem x4rp_m (h : x4RP s z o) (hz : z = 0) : -1 = tx_ans o := by
  rcases h with ⟨q, -⟩ | ⟨-, c, a, h1, -⟩
  · omega
  · rw [h1]; rfl
theorem x4rp_y (h : x4RP s z o) (hz : z ≠ 0) (hx : x = ra_g s 180 5) : x = tx_ans o := by
  rcases h with ⟨-, r, h1, h2⟩ | ⟨q, -⟩
  · rw [h1, hx]; exact h2.1.2.2.2.2.2
  · omega
end
end
end
