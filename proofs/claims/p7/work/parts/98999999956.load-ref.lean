/-! T5: the reference's row that a text is read into, all of its numbers -/
section
section
variable {σ s t : ra_V} {B : Nat → Int} {bn n a i k p e ta : Nat} {x y v z w lo hi st sz kd mn c : Int} {r : Nat → Int} {u : Int × Nat} {o : Sum (Int × Nat) (Nat → Int)}
def x5RX (r : Nat → Int) (σ : ra_V) : Prop := (∀ a : Nat, a < 88 → a ≠ 16 → ra_g σ 180 a = r a) ∧ ra_g σ 180 16 = -1 ∧ ∀ p : Nat, p < 8 → r (29 + 8 * p) = 0 ∨ r (29 + 8 * p) = 1
def x5R6 (r : Nat → Int) (σ : ra_V) : Prop := x4RR r σ ∧ x5RX r σ
theorem x5R6_k (h : s 180 = σ 180) (h5 : ra_g s 179 15 = ra_g σ 179 15 ∧ ra_g s 179 16 = ra_g σ 179 16 ∧ ra_g s 179 21 = ra_g σ 179 21) (q : x5R6 r σ) : x5R6 r s :=
  ⟨x4RR_k h h5 q.1, fun a h1 h2 => (ra_gk h).trans (q.2.1 a h1 h2), (ra_gk h).trans q.2.2.1, q.2.2.2⟩
section
variable {x0 x1 x2 x3 : Int}
theorem x5R6_set (hst : (x0 = 1 ∧ x1 = 1 ∧ x2 = 0 ∧ x3 = 31) ∨ (x0 = 2 ∧ x1 = 2 ∧ x2 = 0 ∧ x3 = 31) ∨ (x0 = 3 ∧ x1 = 4 ∧ x2 = 1 ∧ x3 = 32) ∨ (x0 = 4 ∧ x1 = 8 ∧ x2 = 1 ∧ x3 = 16)) (hR : x5R6 r σ) (h0 : r (100 + x0.toNat) = 0) (h21 : ra_g s 179 21 = ra_g σ 179 21 + x1) (h5 : ra_g s 179 15 = ra_g σ 179 15 ∧ ra_g s 179 16 = ra_g σ 179 16) (hv : ra_g s 180 x0.toNat = v) (ho : ∀ j, j ≠ x0.toNat → ra_g s 180 j = ra_g σ 180 j) : x5R6 (tx_up (tx_up r x0.toNat v) (100 + x0.toNat) 1) s :=
  ⟨x4RR_set hst hR.1 h0 h21 h5 hv ho, fun a h1 h2 => by
    rw [x4up_n (by omega)]
    by_cases e : a = x0.toNat
    · rw [e, x4up_y]; exact hv
    · rw [x4up_n e, ho a e]; exact hR.2.1 a h1 h2, (ho 16 (by omega)).trans hR.2.2.1, fun p hp => by rw [x4up_n (by omega), x4up_n (by omega)]; exact hR.2.2.2 p hp⟩
end
theorem x5R6_lock {j : Nat} (hj : j < 8) (hv : (j : Int) < r 5) (hR : x5R6 r σ) (hl : ra_g s 180 (29 + 8 * j) = 1) (ho : ∀ a, a ≠ 29 + 8 * j → ra_g s 180 a = ra_g σ 180 a) (h5 : ra_g s 179 15 = ra_g σ 179 15 ∧ ra_g s 179 16 = ra_g σ 179 16 ∧ ra_g s 179 21 = ra_g σ 179 21) : x5R6 (tx_up r (29 + 8 * j) 1) s :=
  ⟨x4RR_lock hj hv hR.1 hl ho h5, fun a h1 h2 => by
    by_cases e : a = 29 + 8 * j
    · rw [e, x4up_y]; exact hl
    · rw [x4up_n e, ho a e]; exact hR.2.1 a h1 h2, (ho 16 (by omega)).trans hR.2.2.1, fun p hp => by
    by_cases e : p = j
    · rw [e, x4up_y]; exact Or.inr rfl
    · rw [x4up_n (by omega)]; exact hR.2.2.2 p hp⟩
theorem x5R6_mk2 (hR : x5R6 r σ) (hL : LD σ) (h8 : ra_g σ 180 5 ≠ 8) (hk : MK2 σ s z st sz mn) (h50 : wq s z 5 = 0 ∧ wq s z 4 = kd ∧ wq s z 6 = ra_g σ 180 5 ∧ wq s z 7 = 0) (h15 : ra_g s 179 15 = ra_g σ 179 15 ∧ ra_g s 179 16 = ra_g σ 179 16 ∧ ra_g s 179 21 = ra_g σ 179 21) : x5R6 (tx_mk r st sz kd mn) s := by
  refine ⟨x4RR_mk2 hR.1 hL h8 hk h50.1 h15, ?_⟩
  obtain ⟨w5, w4, w6, w7⟩ := h50
  have ez := x4mk_z hL hk h8
  have q5 := hR.1.1.2.2.2.2.2
  have hl := hL.2.2.1
  obtain ⟨⟨-, k0, k1, k2, k3, k4⟩, k5, -⟩ := hk
  obtain ⟨x1, x2, x3⟩ := hR.2
  have r5 : 0 ≤ r 5 ∧ r 5 < 8 := by omega
  have zr : z = r 5 := by omega
  have hfl : ∀ p : Nat, p < 8 → tx_mk r st sz kd mn (29 + 8 * p) = 0 ∨ tx_mk r st sz kd mn (29 + 8 * p) = 1 := fun p hp => by
    unfold tx_mk
    by_cases c : p = (r 5).toNat
    · rw [if_neg (by omega), if_neg (by omega), if_neg (by omega), if_neg (by omega), if_neg (by omega), if_neg (by omega), if_pos (by omega)]; exact Or.inl rfl
    · rw [if_neg (by omega), if_neg (by omega), if_neg (by omega), if_neg (by omega), if_neg (by omega), if_neg (by omega), if_neg (by omega), if_neg (by omega), if_neg (by omega)]; exact x3 p hp
  refine ⟨fun a h1 h2 => ?_, (k4 16 (by omega) (by omega) (by omega)).trans x2, hfl⟩
  unfold tx_mk
  by_cases c5 : a = 5
  · rw [if_pos c5, c5, k5, q5]
  rw [if_neg c5]
  have g : ∀ (w : Nat) (y : Int), wq s z w = y → a = 24 + w + 8 * (r 5).toNat → ra_g s 180 a = y := fun w y h e => by
    rw [← h]
    exact congrArg (ra_g s 180) (by omega : a = (24 + 8 * z + (w : Int)).toNat)
  by_cases c0 : a = 24 + 8 * (r 5).toNat
  · rw [if_pos c0]; exact g 0 1 k0 (by omega)
  rw [if_neg c0]
  by_cases c1 : a = 25 + 8 * (r 5).toNat
  · rw [if_pos c1]; exact g 1 st k1 (by omega)
  rw [if_neg c1]
  by_cases c2 : a = 26 + 8 * (r 5).toNat
  · rw [if_pos c2]; exact g 2 sz k2 (by omega)
  rw [if_neg c2]
  by_cases c3 : a = 27 + 8 * (r 5).toNat
  · rw [if_pos c3]; exact g 3 mn k3 (by omega)
  rw [if_neg c3]
  by_cases c4 : a = 28 + 8 * (r 5).toNat
  · rw [if_pos c4]; exact g 4 kd w4 (by omega)
  rw [if_neg c4]
  by_cases c6 : a = 29 + 8 * (r 5).toNat
  · rw [if_pos c6]; exact g 5 0 w5 (by omega)
  rw [if_neg c6]
  by_cases c7 : a = 30 + 8 * (r 5).toNat
  · rw [if_pos c7]; exact g 6 (r 5) (w6.trans q5) (by omega)
  rw [if_neg c7]
  by_cases c8 : a = 31 + 8 * (r 5).toNat
  · rw [if_pos c8]; exact g 7 0 w7 (by omega)
  rw [if_neg c8]
  exact (k4 a h1 c5 (by omega)).trans (x1 a h1 h2)
theorem x5R6_0 (h : ra_g s 180 0 = v ∧ ra_g s 180 1 = 0 ∧ ra_g s 180 2 = 0 ∧ ra_g s 180 3 = 1 ∧ ra_g s 180 4 = 4 ∧ ra_g s 180 5 = 0) (h2 : ra_g s 179 15 = 0 ∧ ra_g s 179 16 = -1 ∧ ra_g s 179 21 = 0) (hf : ∀ a : Nat, a ≠ 0 → ra_g s 180 a = ra_g σ 180 a) (hz : (∀ a : Nat, a < 88 → a ≠ 0 → a ≠ 3 → a ≠ 4 → a ≠ 16 → ra_g σ 180 a = 0) ∧ ra_g σ 180 16 = -1) : x5R6 (tx_r0 v) s :=
  ⟨x4RR_0 h h2, fun a h1 h3 => by
    by_cases c0 : a = 0
    · subst c0; exact h.1
    by_cases c3 : a = 3
    · subst c3; exact h.2.2.2.1
    by_cases c4 : a = 4
    · subst c4; exact h.2.2.2.2.1
    unfold tx_r0
    rw [if_neg c0, if_neg c3, if_neg c4, hf a c0]
    exact hz.1 a h1 c0 c3 c4 h3, (hf 16 (by omega)).trans hz.2, fun p hp => Or.inl (by unfold tx_r0; rw [if_neg (by omega), if_neg (by omega), if_neg (by omega)])⟩
def x5RO6 (B : Nat → Int) (bn : Nat) (s : ra_V) (z : Int) (o : Sum (Int × Nat) ((Nat → Int) × Nat)) : Prop :=
  (z = 1 ∧ ∃ (r : Nat → Int) (e : Nat), o = .inr (r, e) ∧ x5R6 r s ∧ x4RTK B bn s (tx_a B bn e) ∧ e ≤ bn) ∨ (z = 0 ∧ ∃ (c : Int) (a : Nat), o = .inl (c, a) ∧ ra_g s 179 15 = c ∧ ra_g s 179 16 = (a : Nat))
theorem x5ro_f6 {o : Sum (Int × Nat) ((Nat → Int) × Nat)} (hz : z = 0) (ho : o = .inl (c, a)) (h2 : ra_g s 179 15 = c) (h3 : ra_g s 179 16 = (a : Nat)) : x5RO6 B bn s z o := Or.inr ⟨hz, c, a, ho, h2, h3⟩
theorem x5ro_y6 {o : Sum (Int × Nat) ((Nat → Int) × Nat)} (hz : z = 1) (ho : o = .inr (r, e)) (hR : x5R6 r s) (hK : x4RTK B bn s (tx_a B bn e)) (he : e ≤ bn) : x5RO6 B bn s z o := Or.inl ⟨hz, r, e, ho, hR, hK, he⟩
theorem x5ro_n6 {o : Sum (Int × Nat) ((Nat → Int) × Nat)} (h : x4RNM B bn σ s w i lo hi) (hw : w = 0) (hz : z = 0) (ho : ∀ x, tx_rd B bn i lo hi = .inl x → o = .inl x) : x5RO6 B bn s z o := by
  rcases h with ⟨q, -⟩ | ⟨-, c, h1, h2, h3⟩
  · omega
  · exact x5ro_f6 hz (ho _ h1) h2 h3
theorem x5ro_t6 {o : Sum (Int × Nat) ((Nat → Int) × Nat)} {j : Nat} (h : x4RTA B bn σ s w i j lo hi) (hw : w = 0) (hz : z = 0) (ho : ∀ x, tx_rd B bn i lo hi = .inl x → o = .inl x) : x5RO6 B bn s z o := by
  rcases h with ⟨q, -⟩ | ⟨-, c, h1, h2, h3⟩
  · omega
  · exact x5ro_f6 hz (ho _ h1) h2 h3
theorem x5pa_16 (hR : x5R6 r s) (hW : WFa s) (hn : tx_rd B bn (tx_e B bn ta) 0 999 = .inr (v, e)) (hu : US s v 1) (hm : v.tmod (ra_g s 180 3) = 0) : x4PA B bn r ta v := by
  obtain ⟨⟨q0, q1, q2, q3, q4, q5⟩, -⟩ := hR.1
  unfold US at hu
  have h0 := (x4rd_b hn).1
  refine ⟨(x4rd_c hn).1 ⟨by omega, by omega⟩, ?_⟩
  rw [← q3, ← Int.tmod_eq_emod_of_nonneg h0]
  exact hm
theorem x5pa_n6 (hR : x5R6 r s) (hW : WFa s) (h8 : r 5 ≠ 8) (hn : tx_rd B bn (tx_e B bn ta) 0 999 = .inr (v, e)) (h : ¬ US s v 1 ∨ v.tmod (ra_g s 180 3) ≠ 0) : tx_part B bn r ta = .inl (2, tx_a B bn (tx_e B bn ta)) := by
  obtain ⟨⟨q0, q1, q2, q3, q4, q5⟩, -⟩ := hR.1
  have h0 := (x4rd_b hn).1
  by_cases c : r 1 ≤ v ∧ v ≤ r 0 - r 2 - 1
  · refine x4part_2 h8 ((x4rd_c hn).1 c) ?_
    rw [← q3, ← Int.tmod_eq_emod_of_nonneg h0]
    exact h.resolve_left (fun q => q (by unfold US; omega))
  · exact x4part_1 h8 ((x4rd_c hn).2.1 c)
theorem x5pa_f6 (hR : x5R6 r s) (hW : WFa s) (h8 : r 5 ≠ 8) (hn : tx_rd B bn (tx_e B bn ta) 0 999 = .inl u) : tx_part B bn r ta = .inl u := by
  obtain ⟨⟨q0, q1, q2, q3, q4, q5⟩, -⟩ := hR.1
  unfold WFa at hW
  exact x4part_1 h8 (x4rd_nw hn (by omega) (by omega))
theorem x5pb_16 (hR : x5R6 r s) (hL : LD s) (hn : tx_rd B bn (x4tx_n B bn (tx_e B bn ta)) 1 999 = .inr (y, e)) (hu : US s st y) (ht : ¬ TK s st y (-1)) : x4PB B bn r ta st y := by
  have hR0 := hR.1
  obtain ⟨⟨q0, q1, q2, q3, q4, q5⟩, -⟩ := hR0
  unfold US at hu
  exact ⟨(x4rd_c hn).1 ⟨by omega, by omega⟩, fun q => ht ((x4RR_tk hR.1 hL).mpr q)⟩
theorem x5pb_n6 (hR : x5R6 r s) (h8 : r 5 ≠ 8) (hA : x4PA B bn r ta st) (hn : tx_rd B bn (x4tx_n B bn (tx_e B bn ta)) 1 999 = .inr (y, e)) (hu : ¬ US s st y) : tx_part B bn r ta = .inl (2, tx_a B bn (x4tx_n B bn (tx_e B bn ta))) := by
  obtain ⟨⟨q0, q1, q2, q3, q4, q5⟩, -⟩ := hR.1
  have h1 := x4rd_b hA.1
  have h2 := x4rd_b hn
  unfold US at hu
  exact x4part_3 h8 hA.1 hA.2 ((x4rd_c hn).2.1 (by omega))
theorem x5pb_t6 (hR : x5R6 r s) (hL : LD s) (h8 : r 5 ≠ 8) (hA : x4PA B bn r ta st) (hn : tx_rd B bn (x4tx_n B bn (tx_e B bn ta)) 1 999 = .inr (y, e)) (hu : US s st y) (ht : TK s st y (-1)) : tx_part B bn r ta = .inl (4, tx_a B bn (x4tx_n B bn (tx_e B bn ta))) := by
  have hR0 := hR.1
  obtain ⟨⟨q0, q1, q2, q3, q4, q5⟩, -⟩ := hR0
  unfold US at hu
  exact x4part_4 h8 hA.1 hA.2 ((x4rd_c hn).1 ⟨by omega, by omega⟩) ((x4RR_tk hR.1 hL).mp ht)
theorem x5pb_f6 (hR : x5R6 r s) (hW : WFa s) (h8 : r 5 ≠ 8) (hA : x4PA B bn r ta st) (hn : tx_rd B bn (x4tx_n B bn (tx_e B bn ta)) 1 999 = .inl u) : tx_part B bn r ta = .inl u := by
  obtain ⟨⟨q0, q1, q2, q3, q4, q5⟩, -⟩ := hR.1
  have h1 := x4rd_b hA.1
  unfold WFa at hW
  exact x4part_3 h8 hA.1 hA.2 (x4rd_nw hn (by omega) (by omega))
def x5RP6 (s : ra_V) (z : Int) (o : Sum (Int × Nat) (Nat → Int)) : Prop :=
  (z = 1 ∧ ∃ r : Nat → Int, o = .inr r ∧ x5R6 r s) ∨ (z = 0 ∧ ∃ (c : Int) (a : Nat), o = .inl (c, a) ∧ ra_g s 179 15 = c ∧ ra_g s 179 16 = (a : Nat))
def x5RLI6 (B : Nat → Int) (bn : Nat) (s : ra_V) : Prop := ∃ (k : Nat) (r : Nat → Int) (i : Nat), tx_text B bn = tx_run B bn k r i ∧ x5R6 r s ∧ x4RTK B bn s (tx_a B bn i) ∧ (501 : Int) ≤ k + ra_g s 179 17
theorem x5rp_f6 (hz : z = 0) (ho : o = .inl (c, a)) (h2 : ra_g s 179 15 = c) (h3 : ra_g s 179 16 = (a : Nat)) : x5RP6 s z o := Or.inr ⟨hz, c, a, ho, h2, h3⟩
theorem x5rp_t6 {j : Nat} (h : x4RTA B bn σ s w i j lo hi) (hw : w = 0) (hz : z = 0) (ho : ∀ x, tx_rd B bn i lo hi = .inl x → o = .inl x) : x5RP6 s z o := by
  rcases h with ⟨q, -⟩ | ⟨-, c, h1, h2, h3⟩
  · omega
  · exact x5rp_f6 hz (ho _ h1) h2 h3
theorem x5rp_s6 (h : x4RSE B bn σ s w i) (hw : w = 0) (hz : z = 0) (ho : ∀ x, tx_semi B bn i = .inl x → o = .inl x) : x5RP6 s z o := by
  rcases h with ⟨q, -⟩ | ⟨-, c, a, h1, h2, h3⟩
  · omega
  · exact x5rp_f6 hz (ho _ h1) h2 h3
theorem x5rp_e6 (h : x5RLI6 B bn s) (ht : ra_g s 179 20 = 0) (hz : z = 1) : x5RP6 s z (tx_text B bn) := by
  obtain ⟨k, r, i, h1, h2, h3, h4⟩ := h
  exact Or.inl ⟨hz, r, h1.trans (x4run_e (by have := h3.2.2.1; omega)), h2⟩
theorem x5rp_n6 (h : tx_text B bn = tx_run B bn k r i) (hk : (501 : Int) ≤ k + ra_g t 179 17) (h17 : ra_g t 179 17 ≤ 500) (hK : x4RTK B bn t (tx_a B bn i)) (h20 : ra_g t 179 20 ≠ 0) (hc : x5RO6 B bn s w (tx_stmt B bn r (tx_a B bn i))) (hw : w = 0) (hz : z = 0) : x5RP6 s z (tx_text B bn) := by
  rcases hc with ⟨q, -⟩ | ⟨-, c, a, h1, h2, h3⟩
  · omega
  · obtain ⟨k, rfl⟩ : ∃ j, k = j + 1 := ⟨k - 1, by omega⟩
    refine x5rp_f6 hz (h.trans (x4run_n (by have := hK.2.2.1; omega) ?_)) h2 h3
    rw [h1]; rfl
theorem x5rp_n26 {e : Nat} {r2 : Nat → Int} {q : ra_V} (h : tx_text B bn = tx_run B bn k r i) (hk : (501 : Int) ≤ k + ra_g t 179 17) (h17 : ra_g t 179 17 ≤ 500) (hK : x4RTK B bn t (tx_a B bn i)) (h20 : ra_g t 179 20 ≠ 0) (hc : tx_stmt B bn r (tx_a B bn i) = .inr (r2, e)) (hs : x4RSE B bn q s w e) (hw : w = 0) (hz : z = 0) : x5RP6 s z (tx_text B bn) := by
  rcases hs with ⟨q, -⟩ | ⟨-, c, a, h1, h2, h3⟩
  · omega
  · obtain ⟨k, rfl⟩ : ∃ j, k = j + 1 := ⟨k - 1, by omega⟩
    refine x5rp_f6 hz (h.trans (x4run_n (by have := hK.2.2.1; omega) ?_)) h2 h3
    rw [hc]
    unfold tx_ps
    dsimp only
    rw [h1]
theorem x5rli_s6 {e : Nat} {r2 : Nat → Int} {q : ra_V} (h : tx_text B bn = tx_run B bn k r i) (hk : (501 : Int) ≤ k + ra_g t 179 17) (h17 : ra_g t 179 17 ≤ 500) (hK : x4RTK B bn t (tx_a B bn i)) (h20 : ra_g t 179 20 ≠ 0) (hc : tx_stmt B bn r (tx_a B bn i) = .inr (r2, e)) (hR : x5R6 r2 q) (hs : x4RSE B bn q s w e) (hw : w ≠ 0) (h180 : s 180 = q 180) (h21 : ra_g s 179 21 = ra_g q 179 21) (hm : ra_g t 179 17 < ra_g s 179 17) : x5RLI6 B bn s := by
  rcases hs with ⟨-, h1, h2, h3, h4, h5⟩ | ⟨q, -⟩
  · obtain ⟨k, rfl⟩ : ∃ j, k = j + 1 := ⟨k - 1, by omega⟩
    have hq := hR.1.2.2.2.1
    refine ⟨k, r2, x4tx_n B bn e, h.trans (x4run_y (by have := hK.2.2.1; omega) ?_), x5R6_k h180 ⟨by omega, by omega, h21⟩ hR, h2, by omega⟩
    rw [hc]
    unfold tx_ps
    dsimp only
    rw [h1]
  · omega
theorem x5rli_06 {q : ra_V} {v : Int} (h : tx_isw B bn (tx_a B bn 0) ['d', 'i', 's', 'k'] = true) (h1 : tx_rd B bn (tx_e B bn (tx_a B bn 0)) 64 600 = .inr (v, e)) (hR : x5R6 (tx_r0 v) q) (hs : x4RSE B bn q s w e) (hw : w ≠ 0) (h180 : s 180 = q 180) (h21 : ra_g s 179 21 = ra_g q 179 21) (hm : 1 ≤ ra_g s 179 17) : x5RLI6 B bn s := by
  rcases hs with ⟨-, h2, h3, h4, h5, h6⟩ | ⟨q, -⟩
  · have hq := hR.1.2.2.2.1
    exact ⟨500, tx_r0 v, x4tx_n B bn e, x4text_4 h h1 h2, x5R6_k h180 ⟨by omega, by omega, h21⟩ hR, h3, by omega⟩
  · omega
theorem x5rp_26 (h : x5RP6 s z o) : ra_g s 179 15 = tx_err o := by
  rcases h with ⟨-, r, h1, h2⟩ | ⟨-, c, a, h1, h2, h3⟩
  · rw [h1]; exact h2.1.2.2.2.1.1
  · rw [h1]; exact h2
theorem x5rp_36 (h : x5RP6 s z o) : ra_g s 179 16 = tx_off o := by
  rcases h with ⟨-, r, h1, h2⟩ | ⟨-, c, a, h1, h2, h3⟩
  · rw [h1]; exact h2.1.2.2.2.1.2
  · rw [h1]; exact h3
theorem x5rp_m6 (h : x5RP6 s z o) (hz : z = 0) : -1 = tx_ans o := by
  rcases h with ⟨q, -⟩ | ⟨-, c, a, h1, -⟩
  · omega
  · rw [h1]; rfl
theorem x5rp_y6 (h : x5RP6 s z o) (hz : z ≠ 0) (hx : x = ra_g s 180 5) : x = tx_ans o := by
  rcases h with ⟨-, r, h1, h2⟩ | ⟨q, -⟩
  · rw [h1, hx]; exact h2.1.1.2.2.2.2.2
  · omega
theorem x5rp6_sc (h : x5RP6 s z o) (ho : o = .inr r) (hk : t 180 = s 180) : SC (x5rT r) t := by
  rcases h with ⟨-, r1, h1, h2⟩ | ⟨-, c, a, h1, -⟩
  · rw [ho] at h1; cases h1
    intro a ha
    rw [ra_gk hk]
    by_cases e : a = 16
    · rw [e]; exact h2.2.2.1.trans x5rT_16.symm
    · exact x5rT_e (h2.2.1 a ha e) (ra_in_g _ _ _) e
  · rw [ho] at h1; cases h1
theorem x5rp6_w3 (h : x5RP6 s z o) (ho : o = .inr r) (hk : t 180 = s 180) : x5W3 t := by
  rcases h with ⟨-, r1, h1, h2⟩ | ⟨-, c, a, h1, -⟩
  · refine ⟨fun p p0 p8 => ?_, fun q => absurd ((ra_gk hk).trans h2.2.2.1) q⟩
    have e : wq t p 5 = r1 (29 + 8 * p.toNat) := by
      unfold wq
      rw [ra_gk hk, show (24 + 8 * p + 5).toNat = 29 + 8 * p.toNat by omega]
      exact h2.2.1 _ (by omega) (by omega)
    rw [e]
    exact h2.2.2.2 p.toNat (by omega)
  · rw [ho] at h1; cases h1
theorem x5rp6_nr (h : x5RP6 s z o) (hz : z = 0) : o ≠ .inr r := fun q => by
  rcases h with ⟨h1, -⟩ | ⟨-, c, a, h1, -⟩
  · omega
  · rw [h1] at q; cases q
theorem x5rp6_nl (h : x5RP6 s z o) (hz : z ≠ 0) : o ≠ .inl u := fun q => by
  rcases h with ⟨-, r1, h1, -⟩ | ⟨h1, -⟩
  · rw [h1] at q; cases q
  · omega
theorem x5ld_f {s0 s1 s2 s3 : ra_V} (k0 : s0 180 = σ 180) (c1 : CPO s0 s1 180 181 0 0 688) (k2 : s2 181 = s1 181) (c2 : CPO s2 s3 181 180 0 0 688) : SC σ s3 := fun a hl => by
  rw [c2 a, if_pos (by omega), show ((a : Int) - 0 + 0).toNat = a by omega, ra_gk k2, c1 a, if_pos (by omega), show ((a : Int) - 0 + 0).toNat = a by omega, ra_gk k0]
end
end
