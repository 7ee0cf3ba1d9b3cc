/-! T5: how many steps are left; all moved to the left, as functions of the row *-/
section
section
variable {σ s t τ υ μ : ra_V} {D p q j k n : Nat} {a m x y z v c d to : Int}
def x5stp (m c d k : Int) : Int := if d < min c (m - k * c) then 2 else 1
def x5sms (m c d a : Int) : Nat → Int
  | 0 => 0
  | n + 1 => x5sms m c d a n + x5stp m c d (a + n)
theorem x5stp_b : x5stp m c d x = 1 ∨ x5stp m c d x = 2 := by unfold x5stp; split <;> omega
theorem x5sms_f : ∀ n : Nat, x5sms m c d a (n + 1) = x5stp m c d a + x5sms m c d (a + 1) n
  | 0 => by show 0 + x5stp m c d (a + ((0 : Nat) : Int)) = _ + 0; rw [show a + ((0 : Nat) : Int) = a by omega]; omega
  | n + 1 => by
    have h := x5sms_f n
    show x5sms m c d a (n + 1) + x5stp m c d (a + ((n + 1 : Nat) : Int)) = _ + (x5sms m c d (a + 1) n + x5stp m c d (a + 1 + (n : Int)))
    rw [h, show a + ((n + 1 : Nat) : Int) = a + 1 + (n : Int) by omega]
    omega
theorem x5sms_b : ∀ n : Nat, (n : Int) ≤ x5sms m c d a n ∧ x5sms m c d a n ≤ 2 * n
  | 0 => ⟨Int.le_refl _, Int.le_refl _⟩
  | n + 1 => by
    have h := x5sms_b n
    have h2 := x5stp_b (m := m) (c := c) (d := d) (x := a + n)
    show _ ≤ x5sms m c d a n + x5stp m c d (a + n) ∧ x5sms m c d a n + x5stp m c d (a + n) ≤ _
    omega
theorem x5sms_1 (h : c ≤ d) : ∀ n : Nat, x5sms m c d a n = n
  | 0 => rfl
  | n + 1 => by
    show x5sms m c d a n + x5stp m c d (a + n) = _
    rw [x5sms_1 h n]
    unfold x5stp
    rw [if_neg (by omega)]
    omega
def x5SLF (τ : ra_V) : Int := (if ra_g τ 180 18 < ra_g τ 180 17 then x5sms (msz τ) (ra_g τ 180 19) (rds τ) (ra_g τ 180 21) (rch τ - ra_g τ 180 21).toNat else x5sms (msz τ) (ra_g τ 180 19) (rds τ) 0 (rch τ - ra_g τ 180 21).toNat) - ra_g τ 180 22
/-- the next chunk's part of it *-/
theorem x5sl_x (hW : WF τ) (hm : ra_g τ 180 16 ≠ -1) : ∃ r : Int, ((rch τ - ra_g τ 180 21 - 1) ≤ r ∧ r ≤ 2 * (rch τ - ra_g τ 180 21 - 1)) ∧ x5SLF τ = (if rds τ < rbn τ then 2 else 1) + r - ra_g τ 180 22 ∧
    r = (if ra_g τ 180 18 < ra_g τ 180 17 then x5sms (msz τ) (ra_g τ 180 19) (rds τ) (ra_g τ 180 21 + 1) (rch τ - ra_g τ 180 21 - 1).toNat else x5sms (msz τ) (ra_g τ 180 19) (rds τ) 0 (rch τ - ra_g τ 180 21 - 1).toNat) := by
  have hM := MV_f hW hm
  unfold MF at hM
  have hl : ra_g τ 180 21 < rch τ := by omega
  have e : (rch τ - ra_g τ 180 21).toNat = (rch τ - ra_g τ 180 21 - 1).toNat + 1 := by omega
  by_cases c : ra_g τ 180 18 < ra_g τ 180 17
  · have es : x5stp (msz τ) (ra_g τ 180 19) (rds τ) (ra_g τ 180 21) = if rds τ < rbn τ then 2 else 1 := by
      have en : rnx τ = ra_g τ 180 21 := if_pos c
      unfold x5stp rbn rfb
      rw [en]
    have hb := x5sms_b (m := msz τ) (c := ra_g τ 180 19) (d := rds τ) (a := ra_g τ 180 21 + 1) (rch τ - ra_g τ 180 21 - 1).toNat
    refine ⟨x5sms (msz τ) (ra_g τ 180 19) (rds τ) (ra_g τ 180 21 + 1) (rch τ - ra_g τ 180 21 - 1).toNat, by omega, ?_, by rw [if_pos c]⟩
    unfold x5SLF
    rw [if_pos c, e, x5sms_f, es]
  · have es : x5stp (msz τ) (ra_g τ 180 19) (rds τ) (0 + ((rch τ - ra_g τ 180 21 - 1).toNat : Int)) = if rds τ < rbn τ then 2 else 1 := by
      have en : rnx τ = 0 + ((rch τ - ra_g τ 180 21 - 1).toNat : Int) := by
        have : rnx τ = rch τ - 1 - ra_g τ 180 21 := if_neg c
        omega
      unfold x5stp rbn rfb
      rw [en]
    have hb := x5sms_b (m := msz τ) (c := ra_g τ 180 19) (d := rds τ) (a := 0) (rch τ - ra_g τ 180 21 - 1).toNat
    refine ⟨x5sms (msz τ) (ra_g τ 180 19) (rds τ) 0 (rch τ - ra_g τ 180 21 - 1).toNat, by omega, ?_, by rw [if_neg c]⟩
    unfold x5SLF
    rw [if_neg c, e]
    show x5sms _ _ _ _ _ + x5stp _ _ _ _ - _ = _
    rw [es]
    omega
theorem x5sl_pos (hW : x5W2 τ) (hm : ra_g τ 180 16 ≠ -1) : 1 ≤ x5SLF τ := by
  obtain ⟨r, hr, e, -⟩ := x5sl_x hW.1 hm
  have hM := MV_f hW.1 hm
  unfold MF at hM
  have h2 := hW.2.2 hm
  by_cases c : rds τ < rbn τ
  · rw [if_pos c] at e; omega
  · rw [if_neg c] at e; omega
theorem x5sl_st (hW : x5W2 τ) (hm : ra_g τ 180 16 ≠ -1) : (ra_g (x5st0 τ) 180 16 = -1 ∧ x5SLF τ = 1) ∨ (ra_g (x5st0 τ) 180 16 ≠ -1 ∧ x5SLF (x5st0 τ) = x5SLF τ - 1) := by
  have hM := MV_f hW.1 hm
  unfold MF at hM
  have h22 := hW.2.2 hm
  have i0 : ra_in 0 := by unfold ra_in; omega
  have i1 : ra_in 1 := by unfold ra_in; omega
  have im : ra_in (-1) := by unfold ra_in; omega
  have iv : ra_in (ra_g τ 180 21 + 1) := by unfold ra_in; omega
  obtain ⟨r, hr, e, er⟩ := x5sl_x hW.1 hm
  by_cases hA : rds τ < rbn τ ∧ ra_g τ 180 22 ≠ 1
  · rw [x5st0_a hA]
    have o : ∀ b : Nat, b ≠ 22 → ra_g (x5up τ 22 1) 180 b = ra_g τ 180 b := fun b hb => x5uo_n hb
    have e22 : ra_g (x5up τ 22 1) 180 22 = 1 := x5up_i i1
    have ez : msz (x5up τ 22 1) = msz τ := by unfold msz; rw [o 16 (by omega)]; exact x5up_wn (by omega)
    have ec : rch (x5up τ 22 1) = rch τ := by unfold rch; rw [ez, o 19 (by omega)]
    have ed : rds (x5up τ 22 1) = rds τ := by unfold rds; rw [o 17 (by omega), o 18 (by omega)]
    refine Or.inr ⟨by rw [o 16 (by omega)]; exact hm, ?_⟩
    unfold x5SLF
    rw [ez, ec, ed, e22, o 18 (by omega), o 17 (by omega), o 19 (by omega), o 21 (by omega)]
    omega
  · by_cases hB : ra_g τ 180 21 + 1 < rch τ
    · rw [x5st0_b hA hB]
      have o : ∀ b : Nat, b ≠ 21 → b ≠ 22 → ra_g (x5up (x5up τ 22 0) 21 (ra_g τ 180 21 + 1)) 180 b = ra_g τ 180 b := fun b b1 b2 => (x5uo_n b1).trans (x5uo_n b2)
      have e21 : ra_g (x5up (x5up τ 22 0) 21 (ra_g τ 180 21 + 1)) 180 21 = ra_g τ 180 21 + 1 := x5up_i iv
      have e22 : ra_g (x5up (x5up τ 22 0) 21 (ra_g τ 180 21 + 1)) 180 22 = 0 := (x5uo_n (by omega)).trans (x5up_i i0)
      have ez : msz (x5up (x5up τ 22 0) 21 (ra_g τ 180 21 + 1)) = msz τ := by unfold msz; rw [o 16 (by omega) (by omega)]; exact (x5up_wn (by omega)).trans (x5up_wn (by omega))
      have ec : rch (x5up (x5up τ 22 0) 21 (ra_g τ 180 21 + 1)) = rch τ := by unfold rch; rw [ez, o 19 (by omega) (by omega)]
      have ed : rds (x5up (x5up τ 22 0) 21 (ra_g τ 180 21 + 1)) = rds τ := by unfold rds; rw [o 17 (by omega) (by omega), o 18 (by omega) (by omega)]
      have es : x5SLF (x5up (x5up τ 22 0) 21 (ra_g τ 180 21 + 1)) = r - 0 := by
        unfold x5SLF
        rw [ez, ec, ed, e22, e21, o 18 (by omega) (by omega), o 17 (by omega) (by omega), o 19 (by omega) (by omega), show rch τ - (ra_g τ 180 21 + 1) = rch τ - ra_g τ 180 21 - 1 by omega, ← er]
      refine Or.inr ⟨by rw [o 16 (by omega) (by omega)]; exact hm, ?_⟩
      rw [es]
      clear er es
      by_cases c : rds τ < rbn τ
      · rw [if_pos c] at e; omega
      · rw [if_neg c] at e; omega
    · rw [x5st0_e hA hB]
      refine Or.inl ⟨by rw [x5uo_n (by omega), x5up_i im], ?_⟩
      clear er
      by_cases c : rds τ < rbn τ
      · rw [if_pos c] at e; omega
      · rw [if_neg c] at e; omega
theorem x5itv_f : ∀ (n : Nat), x5itv (n + 1) τ = x5itv n (x5st1 τ)
  | 0 => rfl
  | n + 1 => by
    show x5st1 (x5itv (n + 1) τ) = x5st1 (x5itv n (x5st1 τ))
    rw [x5itv_f n]
theorem x5sl_off : ∀ (n : Nat) {τ : ra_V}, x5W2 τ → ra_g τ 180 16 ≠ -1 → x5SLF τ ≤ n → ra_g (x5itv n τ) 180 16 = -1
  | 0, τ, hW, hm, h => by have := x5sl_pos hW hm; omega
  | n + 1, τ, hW, hm, h => by
    rw [x5itv_f]
    have e : x5st1 τ = x5st0 τ := if_neg hm
    rw [e]
    rcases x5sl_st hW hm with ⟨h1, -⟩ | ⟨h1, h2⟩
    · rw [(x5itv_e (τ := x5st0 τ) (p := 0) (q := n) h1 (by omega)).1]; exact h1
    · exact x5sl_off n (x5w2_st hW hm) h1 (by omega)
theorem x5sl_max (hW : x5W2 τ) (hm : ra_g τ 180 16 ≠ -1) : x5SLF τ ≤ 999 := by
  have hM := MV_f hW.1 hm
  unfold MF at hM
  have hd := rfar_b (ra_g τ 180 17) (ra_g τ 180 18)
  have hd2 : rds τ = rfar (ra_g τ 180 17) (ra_g τ 180 18) := rfl
  have hc := (ref_chunks_b (m := msz τ) (c := ra_g τ 180 19) (k := rch τ - 1) (by omega) (by omega)).2.2 (by omega) (by show rch τ - 1 < rch τ; omega)
  by_cases c : ra_g τ 180 19 ≤ rds τ
  · have h1 := x5sms_1 (m := msz τ) (a := ra_g τ 180 21) c (rch τ - ra_g τ 180 21).toNat
    have h2 := x5sms_1 (m := msz τ) (a := 0) c (rch τ - ra_g τ 180 21).toNat
    unfold x5SLF
    rw [h1, h2]
    split <;> omega
  · have h1 := (x5sms_b (m := msz τ) (c := ra_g τ 180 19) (d := rds τ) (a := ra_g τ 180 21) (rch τ - ra_g τ 180 21).toNat).2
    have h2 := (x5sms_b (m := msz τ) (c := ra_g τ 180 19) (d := rds τ) (a := 0) (rch τ - ra_g τ 180 21).toNat).2
    have h3 : (rch τ - 1) * 2 ≤ (rch τ - 1) * ra_g τ 180 19 := Int.mul_le_mul_of_nonneg_left (by omega) (by omega)
    unfold x5SLF
    split <;> omega
/-- enough steps end it, as many as are left -/
theorem x5run_u (hW : x5W2 τ) (hm : ra_g τ 180 16 ≠ -1) (h1 : x5SLF τ ≤ p) (h2 : x5SLF τ ≤ q) : x5runV p τ = x5runV q τ ∧ x5cnv p τ = x5cnv q τ ∧ ra_g (x5itv p τ) 180 16 = -1 := by
  have h0 := x5sl_pos hW hm
  have hk := x5sl_off (x5SLF τ).toNat hW hm (by omega)
  obtain ⟨a1, a2⟩ := x5itv_e (q := p) hk (by omega)
  obtain ⟨b1, b2⟩ := x5itv_e (q := q) hk (by omega)
  refine ⟨?_, by rw [a2, b2], by rw [a1]; exact hk⟩
  unfold x5runV
  rw [a1, a2, b1, b2]
theorem x5cnv_pos (hm : ra_g τ 180 16 ≠ -1) : ∀ n : Nat, 1 ≤ x5cnv (n + 1) τ
  | 0 => by show 1 ≤ 0 + (if ra_g τ 180 16 = -1 then (0 : Int) else 1); rw [if_neg hm]; omega
  | n + 1 => by
    have h := x5cnv_pos hm n
    show 1 ≤ x5cnv (n + 1) τ + (if _ then _ else _)
    split <;> omega
theorem x5w2_it : ∀ (n : Nat), x5W2 τ → x5W2 (x5itv n τ)
  | 0, h => h
  | n + 1, h => by
    have h1 := x5w2_it n h
    by_cases c : ra_g (x5itv n τ) 180 16 = -1
    · have e : x5itv (n + 1) τ = x5itv n τ := if_pos c
      rw [e]; exact h1
    · rw [x5itv_y c]; exact x5w2_st h1 c
theorem x5w2_6 (h : x5W2 τ) : x5W2 (x5up τ 6 x) := by
  have h8 := WF_a h.1
  unfold WFa at h8
  refine ⟨WF_rel (fun a ha => x5uo_n (by unfold REL at ha; omega)) h.1, x5w3_k h.2 (fun p p0 p1 => by rw [x5up_wn (by omega)]; exact h.2.1 p p0 p1) (x5uo_n (by omega)) (fun j j1 j2 => x5uo_n (by omega)) (fun hm => ?_)⟩
  unfold msz
  rw [x5uo_n (by omega)]
  exact x5up_wn (by omega)
theorem x5w2_run (n : Nat) (h : x5W2 τ) : x5W2 (x5runV n τ) := x5w2_6 (x5w2_it n h)
theorem x5run_16 : ra_g (x5runV n τ) 180 16 = ra_g (x5itv n τ) 180 16 := x5uo_n (by omega)
end
end
