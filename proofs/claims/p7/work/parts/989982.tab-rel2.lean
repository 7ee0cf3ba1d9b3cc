/-! T5: what can be undone; a move begun, its steps, turned back: functions of the row -/
section
section
variable {σ s t τ υ μ : ra_V} {D E p q j w : Nat} {a m x y z v k mn to sc i n : Int} {R R2 : Nat → ra_V}
def x5W3 (τ : ra_V) : Prop := (∀ p, 0 ≤ p → p < 8 → wq τ p 5 = 0 ∨ wq τ p 5 = 1) ∧ (ra_g τ 180 16 ≠ -1 → ra_g τ 180 22 = 1 → rds τ < rbn τ)
theorem x5W2_i (h : WF τ) (h3 : x5W3 τ) : x5W2 τ := ⟨h, h3⟩
theorem x5W2_3 (h : x5W2 τ) : x5W3 τ := h.2
theorem x5W3_sc (h8 : ra_g τ 180 16 < 8) (h : SC τ υ) (hW : x5W3 τ) : x5W3 υ := by
  obtain ⟨h1, h2⟩ := hW
  obtain ⟨m1, m2, m3, m4, m5, m6⟩ := mv_sc h h8
  refine ⟨fun p p0 p1 => by rw [wq_sc h p1 (by omega)]; exact h1 p p0 p1, fun a b => ?_⟩
  rw [h 16 (by omega)] at a
  rw [h 22 (by omega)] at b
  rw [m5, m6]
  exact h2 a b
theorem x5W2_sc (h : SC τ υ) (hW : x5W2 τ) : x5W2 υ := ⟨WF_sc h hW.1, x5W3_sc (by have := WF_a hW.1; unfold WFa at this; omega) h hW.2⟩
theorem x5CT_sc (h : SC τ υ) (hW : WF τ) (hT : x5CT τ σ D) : x5CT υ σ D := x5CT_t h (WF_a hW) hT
/-- what can be undone: n rows R, the newest one last -/
def x5HQ (n : Int) (R : Nat → ra_V) (σ : ra_V) : Prop := ra_g σ 40 2 = n ∧ (0 ≤ n ∧ n ≤ 10) ∧ (0 ≤ ra_g σ 40 1 ∧ ra_g σ 40 1 < 10) ∧ ∀ i : Nat, (i : Int) < n → x5CT (R i) σ (42 + 13 * ((ra_g σ 40 1 + 11 + i - n) % 10).toNat) ∧ x5W2 (R i)
def x5pushN (n : Int) : Int := if n < 10 then n + 1 else 10
def x5pushR (n : Int) (R : Nat → ra_V) (τ : ra_V) (i : Nat) : ra_V := if n < 10 then (if (i : Int) < n then R i else τ) else (if i < 9 then R (i + 1) else τ)
theorem x5CT_d (hk : ∀ c, D ≤ c → c < D + 13 → s c = σ c) (h : x5CT τ σ D) : x5CT τ s D := x5CT_k (fun j hj _ _ _ => hk _ (by omega) (by omega)) h
theorem x5hq_k (hk : ∀ c, 40 ≤ c → c < 172 → s c = σ c) (h : x5HQ n R σ) : x5HQ n R s := by
  obtain ⟨h1, h2, h3, h4⟩ := h
  unfold x5HQ
  rw [ra_gk (hk 40 (by omega) (by omega)), ra_gk (hk 40 (by omega) (by omega))]
  exact ⟨h1, h2, h3, fun i hi => ⟨x5CT_d (fun c c1 c2 => hk c (by omega) (by omega)) (h4 i hi).1, (h4 i hi).2⟩⟩
theorem x5hq_sc (h : x5HQ n R σ) (hR : ∀ i : Nat, (i : Int) < n → SC (R i) (R2 i)) : x5HQ n R2 σ :=
  ⟨h.1, h.2.1, h.2.2.1, fun i hi => ⟨x5CT_sc (hR i hi) (h.2.2.2 i hi).2.1 (h.2.2.2 i hi).1, x5W2_sc (hR i hi) (h.2.2.2 i hi).2⟩⟩
theorem x5hq_0 (h : x5HQ n R σ) (h1 : ra_g s 40 1 = ra_g σ 40 1) (h2 : ra_g s 40 2 = 0) : x5HQ 0 R2 s := ⟨h2, by omega, by rw [h1]; exact h.2.2.1, fun i hi => by omega⟩
theorem x5hq_push {w : Int} (h : x5HQ n R σ) (hW : x5W2 τ) (hw : (ra_g σ 40 1 + 1 < 10 ∧ w = ra_g σ 40 1 + 1) ∨ (10 ≤ ra_g σ 40 1 + 1 ∧ w = 0)) (h1 : ra_g s 40 1 = w) (h2 : ra_g s 40 2 = min (n + 1) 10) (hT : x5CT τ s (42 + 13 * w.toNat))
    (hk : ∀ c, 42 ≤ c → c < 172 → (c < 42 + 13 * w.toNat ∨ 42 + 13 * w.toNat + 13 ≤ c) → s c = σ c) : x5HQ (x5pushN n) (x5pushR n R τ) s := by
  obtain ⟨g1, g2, g3, g4⟩ := h
  by_cases c : n < 10
  · have e : x5pushN n = n + 1 := if_pos c
    rw [e]
    refine ⟨by omega, by omega, by omega, fun i hi => ?_⟩
    rw [h1]
    by_cases d : (i : Int) < n
    · have er : x5pushR n R τ i = R i := by unfold x5pushR; rw [if_pos c, if_pos d]
      have es : ((w + 11 + (i : Int) - (n + 1)) % 10).toNat = ((ra_g σ 40 1 + 11 + (i : Int) - n) % 10).toNat := by omega
      rw [er, es]
      obtain ⟨c1, c2⟩ := g4 i d
      exact ⟨x5CT_d (fun c c1 c2 => hk c (by omega) (by omega) (by omega)) c1, c2⟩
    · have er : x5pushR n R τ i = τ := by unfold x5pushR; rw [if_pos c, if_neg d]
      have es : ((w + 11 + (i : Int) - (n + 1)) % 10).toNat = w.toNat := by omega
      rw [er, es]
      exact ⟨hT, hW⟩
  · have e : x5pushN n = 10 := if_neg c
    rw [e]
    refine ⟨by omega, by omega, by omega, fun i hi => ?_⟩
    rw [h1]
    by_cases d : i < 9
    · have er : x5pushR n R τ i = R (i + 1) := by unfold x5pushR; rw [if_neg c, if_pos d]
      have es : ((w + 11 + (i : Int) - 10) % 10).toNat = ((ra_g σ 40 1 + 11 + ((i + 1 : Nat) : Int) - n) % 10).toNat := by omega
      rw [er, es]
      obtain ⟨c1, c2⟩ := g4 (i + 1) (by omega)
      exact ⟨x5CT_d (fun c c1 c2 => hk c (by omega) (by omega) (by omega)) c1, c2⟩
    · have er : x5pushR n R τ i = τ := by unfold x5pushR; rw [if_neg c, if_neg d]
      have es : ((w + 11 + (i : Int) - 10) % 10).toNat = w.toNat := by omega
      rw [er, es]
      exact ⟨hT, hW⟩
theorem x5hq_slot (h : x5HQ n R σ) : 0 ≤ ra_g σ 40 1 ∧ ra_g σ 40 1 < 10 := h.2.2.1
theorem x5hq_last (h : x5HQ n R σ) (h0 : 0 < n) : x5CT (R (n - 1).toNat) σ (42 + 13 * (ra_g σ 40 1).toNat) ∧ x5W2 (R (n - 1).toNat) := by
  obtain ⟨g1, g2, g3, g4⟩ := h
  have q := g4 (n - 1).toNat (by omega)
  rw [show ((ra_g σ 40 1 + 11 + ((n - 1).toNat : Int) - n) % 10).toNat = (ra_g σ 40 1).toNat by omega] at q
  exact q
theorem x5hq_pop (h : x5HQ n R σ) (h0 : 0 < n) (hw : (0 < ra_g σ 40 1 ∧ ra_g s 40 1 = ra_g σ 40 1 - 1) ∨ (ra_g σ 40 1 ≤ 0 ∧ ra_g s 40 1 = 9)) (h2 : ra_g s 40 2 = n - 1) (hk : ∀ c, 42 ≤ c → c < 172 → s c = σ c) : x5HQ (n - 1) R s := by
  obtain ⟨g1, g2, g3, g4⟩ := h
  refine ⟨h2, by omega, by omega, fun i hi => ?_⟩
  have es : ((ra_g s 40 1 + 11 + (i : Int) - (n - 1)) % 10).toNat = ((ra_g σ 40 1 + 11 + (i : Int) - n) % 10).toNat := by omega
  rw [es]
  obtain ⟨c1, c2⟩ := g4 i (by omega)
  exact ⟨x5CT_d (fun c c1 c2 => hk c (by omega) (by omega)) c1, c2⟩
/-- a disk copied -/
theorem x5ct_cp (h1 : ∀ j : Nat, 4 ≤ j → j ≤ 12 → ra_g s D j = ra_g σ E j) (h2 : ∀ p : Nat, p < 8 → ∀ j : Nat, 1 ≤ j → j ≤ 7 → ra_g s (D + 5 + p) j = ra_g σ (E + 5 + p) j) (h3 : ∀ j : Nat, j ≤ 8 → ra_g s (D + 3) j = ra_g σ (E + 3) j) (h : x5CT τ σ E) : x5CT τ s D := by
  obtain ⟨g1, g2, g3, g4, g5⟩ := h
  refine ⟨fun j hj => (h1 (4 + j) (by omega) (by omega)).trans (g1 j hj), fun p hp => ?_, fun p hp he j j1 j2 => (h2 p hp j j1 j2).trans (g3 p hp he j j1 j2), (h3 0 (by omega)).trans g4, fun hm => ?_⟩
  · rw [h2 p hp 2 (by omega) (by omega)]; exact g2 p hp
  · rw [h3 1 (by omega), h3 2 (by omega), h3 3 (by omega), h3 4 (by omega), h3 5 (by omega), h3 6 (by omega), h3 7 (by omega), h3 8 (by omega)]
    exact g5 hm
/-! a move begun -/
noncomputable def x5scgF (τ : ra_V) (p to m : Int) : Int := @dite Int (∃ z, x5SCG τ p to m z) (Classical.propDecidable _) (fun h => Classical.choose h) (fun _ => -1)
theorem x5scg_f (h : x5SCG τ a to m z) : z = x5scgF τ a to m := by
  have hx : ∃ z, x5SCG τ a to m z := ⟨z, h⟩
  have e : x5scgF τ a to m = Classical.choose hx := @dif_pos (∃ z, x5SCG τ a to m z) (Classical.propDecidable _) hx Int (fun h => Classical.choose h) (fun _ => -1)
  rw [e]
  exact x5scg_u h (Classical.choose_spec hx)
noncomputable def x5sclF (τ : ra_V) (p to : Int) : Int := if rfar (wq τ p 1) to < min (ra_g τ 180 4) (wq τ p 2) then x5scgF τ p to (min (ra_g τ 180 4) (wq τ p 2)) else -1
theorem x5scl_y (h : rfar (wq τ a 1) to < min (ra_g τ 180 4) (wq τ a 2)) (hz : x5SCG τ a to (min (ra_g τ 180 4) (wq τ a 2)) z) : z = x5sclF τ a to := by unfold x5sclF; rw [if_pos h]; exact x5scg_f hz
theorem x5scl_n (h : ¬ rfar (wq τ a 1) to < min (ra_g τ 180 4) (wq τ a 2)) : -1 = x5sclF τ a to := by unfold x5sclF; rw [if_neg h]
noncomputable def x5bgV (τ : ra_V) (p to : Int) : ra_V := x5up (x5up (x5up (x5up (x5up (x5up (x5up τ 16 p) 17 (wq τ p 1)) 18 to) 19 (ra_g τ 180 4)) 20 (x5sclF τ p to)) 21 0) 22 0
theorem x5bg_o {b : Nat} (h : b < 16 ∨ 22 < b) : ra_g (x5bgV τ a to) 180 b = ra_g τ 180 b := by
  unfold x5bgV
  rw [x5uo_n (by omega), x5uo_n (by omega), x5uo_n (by omega), x5uo_n (by omega), x5uo_n (by omega), x5uo_n (by omega), x5uo_n (by omega)]
theorem x5bg_w (ha : ra_in a) (ht : ra_in to) (hs : ra_in (x5sclF τ a to)) : ra_g (x5bgV τ a to) 180 16 = a ∧ ra_g (x5bgV τ a to) 180 17 = wq τ a 1 ∧ ra_g (x5bgV τ a to) 180 18 = to ∧ ra_g (x5bgV τ a to) 180 19 = ra_g τ 180 4 ∧ ra_g (x5bgV τ a to) 180 20 = x5sclF τ a to ∧ ra_g (x5bgV τ a to) 180 21 = 0 ∧ ra_g (x5bgV τ a to) 180 22 = 0 := by
  have i0 : ra_in 0 := by unfold ra_in; omega
  unfold x5bgV
  refine ⟨?_, ?_, ?_, ?_, ?_, ?_, ?_⟩
  · rw [x5uo_n (by omega), x5uo_n (by omega), x5uo_n (by omega), x5uo_n (by omega), x5uo_n (by omega), x5uo_n (by omega), x5up_i ha]
  · rw [x5uo_n (by omega), x5uo_n (by omega), x5uo_n (by omega), x5uo_n (by omega), x5uo_n (by omega), x5up_i (ra_in_wq _ _ _)]
  · rw [x5uo_n (by omega), x5uo_n (by omega), x5uo_n (by omega), x5uo_n (by omega), x5up_i ht]
  · rw [x5uo_n (by omega), x5uo_n (by omega), x5uo_n (by omega), x5up_i (ra_in_g _ _ _)]
  · rw [x5uo_n (by omega), x5uo_n (by omega), x5up_i hs]
  · rw [x5uo_n (by omega), x5up_i i0]
  · rw [x5up_i i0]
theorem x5bg_q {r w : Int} (h0 : 0 ≤ r) (w0 : 0 ≤ w) : wq (x5bgV τ a to) r w = wq τ r w := x5bg_o (by omega)
theorem x5ct_bg (hT : x5CT τ σ D) (hp : p < 8) (hto : ra_in to) (hk : ∀ c, c ≠ D + 1 → c ≠ D + 3 → D ≤ c → c < D + 13 → s c = σ c) (v0 : ra_g s (D + 3) 0 = (p : Int)) (v1 : ra_g s (D + 3) 1 = wq τ p 2) (v2 : ra_g s (D + 3) 2 = wq τ p 1) (v3 : ra_g s (D + 3) 3 = to) (v4 : ra_g s (D + 3) 4 = ra_g τ 180 4)
    (v5 : ra_g s (D + 3) 5 = ref_chunks (wq τ p 2) (ra_g τ 180 4)) (v6 : ra_g s (D + 3) 6 = x5sclF τ p to) (v7 : ra_g s (D + 3) 7 = 0) (v8 : ra_g s (D + 3) 8 = 0) : x5CT (x5bgV τ p to) s D := by
  obtain ⟨w0, w1, w2, w3, w4, w5, w6⟩ := x5bg_w (τ := τ) (a := (p : Int)) (to := to) (by unfold ra_in; omega) hto (by rw [← v6]; exact ra_in_g _ _ _)
  refine x5CT_i (fun i hi => ?_) (fun q hq => x5PT_k (hk _ (by omega) (by omega) (by omega) (by omega)) (fun i hi => x5bg_q (by omega) (by omega)) (x5CT_pt hT hq)) ⟨by omega, fun _ => ?_⟩
  · rw [x5bg_o (by omega), ra_gk (hk D (by omega) (by omega) (by omega) (by omega))]; exact hT.1 i hi
  · have ez : msz (x5bgV τ p to) = wq τ p 2 := by unfold msz; rw [w0]; exact x5bg_q (by omega) (by omega)
    have ec : rch (x5bgV τ p to) = ref_chunks (wq τ p 2) (ra_g τ 180 4) := by unfold rch; rw [ez, w3]
    exact ⟨v1.trans ez.symm, v2.trans w1.symm, v3.trans w2.symm, v4.trans w3.symm, v5.trans ec.symm, v6.trans w4.symm, v7.trans w5.symm, v8.trans w6.symm⟩
/-! a step: but for the count of the steps -/
def x5st0 (τ : ra_V) : ra_V :=
  if rds τ < rbn τ ∧ ra_g τ 180 22 ≠ 1 then x5up τ 22 1
  else if ra_g τ 180 21 + 1 < rch τ then x5up (x5up τ 22 0) 21 (ra_g τ 180 21 + 1)
  else x5up (x5up (x5up (x5up (x5up (x5up τ 22 0) 21 (ra_g τ 180 21 + 1)) (24 + 8 * ra_g τ 180 16 + 1).toNat (ra_g τ 180 18)) (24 + 8 * ra_g τ 180 16 + 7).toNat (wq τ (ra_g τ 180 16) 7 + 1)) 16 (-1)) 8 (ra_g τ 180 8 + 1)
theorem x5st0_a (h : rds τ < rbn τ ∧ ra_g τ 180 22 ≠ 1) : x5st0 τ = x5up τ 22 1 := if_pos h
theorem x5st0_b (h : ¬ (rds τ < rbn τ ∧ ra_g τ 180 22 ≠ 1)) (h2 : ra_g τ 180 21 + 1 < rch τ) : x5st0 τ = x5up (x5up τ 22 0) 21 (ra_g τ 180 21 + 1) := by unfold x5st0; rw [if_neg h, if_pos h2]
theorem x5st0_e (h : ¬ (rds τ < rbn τ ∧ ra_g τ 180 22 ≠ 1)) (h2 : ¬ ra_g τ 180 21 + 1 < rch τ) : x5st0 τ = x5up (x5up (x5up (x5up (x5up (x5up τ 22 0) 21 (ra_g τ 180 21 + 1)) (24 + 8 * ra_g τ 180 16 + 1).toNat (ra_g τ 180 18)) (24 + 8 * ra_g τ 180 16 + 7).toNat (wq τ (ra_g τ 180 16) 7 + 1)) 16 (-1)) 8 (ra_g τ 180 8 + 1) := by unfold x5st0; rw [if_neg h, if_neg h2]
theorem x5ct_sta (hT : x5CT τ σ D) (h16 : 0 ≤ ra_g τ 180 16) (hk : ∀ c, c ≠ D + 1 → c ≠ D + 3 → D ≤ c → c < D + 13 → s c = σ c) (hv : ra_g s (D + 3) 8 = 1) (ho : ∀ a, a ≠ 8 → ra_g s (D + 3) a = ra_g σ (D + 3) a) : x5CT (x5up τ 22 1) s D := by
  have i1 : ra_in 1 := by unfold ra_in; omega
  have hm := x5CT_mv hT
  refine x5CT_i (fun i hi => ?_) (fun q hq => x5PT_k (hk _ (by omega) (by omega) (by omega) (by omega)) (fun i hi => x5up_wn (by omega)) (x5CT_pt hT hq)) ⟨?_, fun hn => ?_⟩
  · rw [x5uo_n (by omega), ra_gk (hk D (by omega) (by omega) (by omega) (by omega))]; exact hT.1 i hi
  · rw [x5uo_n (by omega), ho 0 (by omega)]; exact hm.1
  · rw [x5uo_n (by omega)] at hn
    obtain ⟨m1, m2, m3, m4, m5, m6, m7, m8⟩ := hm.2 hn
    have ez : msz (x5up τ 22 1) = msz τ := by unfold msz; rw [x5uo_n (by omega)]; exact x5up_wn (by omega)
    have ec : rch (x5up τ 22 1) = rch τ := by unfold rch; rw [ez, x5uo_n (by omega)]
    rw [ez, ec, x5uo_n (by omega), x5uo_n (by omega), x5uo_n (by omega), x5uo_n (by omega), x5uo_n (by omega), x5up_i i1, ho 1 (by omega), ho 2 (by omega), ho 3 (by omega), ho 4 (by omega), ho 5 (by omega), ho 6 (by omega), ho 7 (by omega)]
    exact ⟨m1, m2, m3, m4, m5, m6, m7, hv⟩
theorem x5ct_stb (hT : x5CT τ σ D) (h16 : 0 ≤ ra_g τ 180 16) (hk : ∀ c, c ≠ D + 1 → c ≠ D + 3 → D ≤ c → c < D + 13 → s c = σ c) (hv : ra_g s (D + 3) 8 = 0) (h7 : ra_g s (D + 3) 7 = v) (ho : ∀ a, a ≠ 7 → a ≠ 8 → ra_g s (D + 3) a = ra_g σ (D + 3) a) : x5CT (x5up (x5up τ 22 0) 21 v) s D := by
  have i0 : ra_in 0 := by unfold ra_in; omega
  have iv : ra_in v := by rw [← h7]; exact ra_in_g _ _ _
  have hm := x5CT_mv hT
  refine x5CT_i (fun i hi => ?_) (fun q hq => x5PT_k (hk _ (by omega) (by omega) (by omega) (by omega)) (fun i hi => (x5up_wn (by omega)).trans (x5up_wn (by omega))) (x5CT_pt hT hq)) ⟨?_, fun hn => ?_⟩
  · rw [x5uo_n (by omega), x5uo_n (by omega), ra_gk (hk D (by omega) (by omega) (by omega) (by omega))]; exact hT.1 i hi
  · rw [x5uo_n (by omega), x5uo_n (by omega), ho 0 (by omega) (by omega)]; exact hm.1
  · rw [x5uo_n (by omega), x5uo_n (by omega)] at hn
    obtain ⟨m1, m2, m3, m4, m5, m6, m7, m8⟩ := hm.2 hn
    have ez : msz (x5up (x5up τ 22 0) 21 v) = msz τ := by unfold msz; rw [x5uo_n (by omega), x5uo_n (by omega)]; exact (x5up_wn (by omega)).trans (x5up_wn (by omega))
    have ec : rch (x5up (x5up τ 22 0) 21 v) = rch τ := by unfold rch; rw [ez, x5uo_n (by omega), x5uo_n (by omega)]
    have e21 : ra_g (x5up (x5up τ 22 0) 21 v) 180 21 = v := x5up_i iv
    have e22 : ra_g (x5up (x5up τ 22 0) 21 v) 180 22 = 0 := (x5uo_n (by omega)).trans (x5up_i i0)
    have e : ∀ b : Nat, b ≠ 21 → b ≠ 22 → ra_g (x5up (x5up τ 22 0) 21 v) 180 b = ra_g τ 180 b := fun b b1 b2 => (x5uo_n b1).trans (x5uo_n b2)
    rw [ez, ec, e21, e22, e 17 (by omega) (by omega), e 18 (by omega) (by omega), e 19 (by omega) (by omega), e 20 (by omega) (by omega), ho 1 (by omega) (by omega), ho 2 (by omega) (by omega), ho 3 (by omega) (by omega), ho 4 (by omega) (by omega), ho 5 (by omega) (by omega), ho 6 (by omega) (by omega)]
    exact ⟨m1, m2, m3, m4, m5, m6, h7, hv⟩
theorem x5ct_ste (hT : x5CT τ σ D) (hW : WF τ) (hp : ra_g τ 180 16 = (p : Int)) (hk : ∀ c, c ≠ D + 1 → c ≠ D + 3 → c ≠ D + 5 + p → D < c → c < D + 13 → s c = σ c) (h8 : ra_g s D 12 = ra_w (ra_g σ D 12 + 1)) (hd : ∀ a, a ≠ 12 → ra_g s D a = ra_g σ D a)
    (hm : ra_g s (D + 3) 0 = -1) (h1 : ra_g s (D + 5 + p) 1 = ra_g τ 180 18) (h7 : ra_g s (D + 5 + p) 7 = ra_w (ra_g σ (D + 5 + p) 7 + 1)) (ho : ∀ a, a ≠ 1 → a ≠ 7 → ra_g s (D + 5 + p) a = ra_g σ (D + 5 + p) a) :
    x5CT (x5up (x5up (x5up (x5up (x5up (x5up τ 22 0) 21 (ra_g τ 180 21 + 1)) (24 + 8 * ra_g τ 180 16 + 1).toNat (ra_g τ 180 18)) (24 + 8 * ra_g τ 180 16 + 7).toNat (wq τ (ra_g τ 180 16) 7 + 1)) 16 (-1)) 8 (ra_g τ 180 8 + 1)) s D := by
  have i1 : ra_in (-1) := by unfold ra_in; omega
  have hM := MV_f hW (by omega)
  have p8 : (p : Int) < 8 := by have := hM.1; omega
  have hP := x5CT_pt hT (p := p) (by omega)
  have he : wq τ (p : Int) 0 = 1 := by have := hM.2.1; rw [hp] at this; exact this
  rw [hp]
  generalize eV : x5up (x5up (x5up (x5up (x5up (x5up τ 22 0) 21 (ra_g τ 180 21 + 1)) (24 + 8 * (p : Int) + 1).toNat (ra_g τ 180 18)) (24 + 8 * (p : Int) + 7).toNat (wq τ p 7 + 1)) 16 (-1)) 8 (ra_g τ 180 8 + 1) = V
  have o : ∀ b : Nat, b ≠ 8 → b ≠ 16 → b ≠ 21 → b ≠ 22 → b ≠ (24 + 8 * (p : Int) + 1).toNat → b ≠ (24 + 8 * (p : Int) + 7).toNat → ra_g V 180 b = ra_g τ 180 b := fun b b1 b2 b3 b4 b5 b6 => by
    rw [← eV, x5uo_n b1, x5uo_n b2, x5uo_n b6, x5uo_n b5, x5uo_n b3, x5uo_n b4]
  have o8 : ra_g V 180 8 = ra_w (ra_g τ 180 8 + 1) := by rw [← eV, x5uo_y]
  have o16 : ra_g V 180 16 = -1 := by rw [← eV, x5uo_n (by omega), x5up_i i1]
  have o1 : wq V p 1 = ra_g τ 180 18 := by rw [← eV]; unfold wq; rw [x5uo_n (by omega), x5uo_n (by omega), x5uo_n (by omega), x5up_i (ra_in_g _ _ _)]
  have o7 : wq V p 7 = ra_w (wq τ p 7 + 1) := by rw [← eV]; unfold wq; rw [x5uo_n (by omega), x5uo_n (by omega), x5uo_y]
  refine x5CT_i (fun i hi => ?_) (fun q hq => ?_) ⟨by omega, fun hn => absurd o16 hn⟩
  · by_cases c : i = 8
    · rw [c, h8, o8]
      have e12 : ra_g σ D 12 = ra_g τ 180 8 := hT.1 8 (by omega)
      rw [e12]
    · rw [o i c (by omega) (by omega) (by omega) (by omega) (by omega), hd _ (by omega)]; exact hT.1 i hi
  · by_cases c : q = p
    · subst c
      obtain ⟨p1, p2, p3⟩ := hP
      have e0 : wq V q 0 = wq τ q 0 := o _ (by omega) (by omega) (by omega) (by omega) (by omega) (by omega)
      refine ⟨by rw [ho 2 (by omega) (by omega), e0]; exact p1, by rw [ho 2 (by omega) (by omega)]; exact p2, fun _ i i1 i2 => ?_⟩
      by_cases c1 : i = 1
      · rw [c1, h1]; exact o1.symm
      · by_cases c7 : i = 7
        · rw [c7, h7]
          have e7 : ra_g σ (D + 5 + q) 7 = wq τ q 7 := p3 he 7 (by omega) (by omega)
          rw [e7]; exact o7.symm
        · rw [ho i c1 c7, p3 he i i1 i2]
          exact (o _ (by omega) (by omega) (by omega) (by omega) (by omega) (by omega)).symm
    · exact x5PT_k (hk _ (by omega) (by omega) (by omega) (by omega) (by omega)) (fun i hi => o _ (by omega) (by omega) (by omega) (by omega) (by omega) (by omega)) (x5CT_pt hT hq)
/-! a move turned back -/
def x5tbV (τ : ra_V) : ra_V := if ra_g τ 180 21 = 0 then x5up τ 16 (-1) else x5up (x5up (x5up (x5up τ 21 (rch τ - ra_g τ 180 21)) 17 (ra_g τ 180 18)) 18 (ra_g τ 180 17)) (24 + 8 * ra_g τ 180 16 + 1).toNat (ra_g τ 180 18)
theorem x5ct_tb0 (hT : x5CT τ σ D) (h0 : ra_g τ 180 21 = 0) (hk : ∀ c, c ≠ D + 3 → D ≤ c → c < D + 13 → s c = σ c) (hm : ra_g s (D + 3) 0 = -1) : x5CT (x5tbV τ) s D := by
  have i1 : ra_in (-1) := by unfold ra_in; omega
  have e : x5tbV τ = x5up τ 16 (-1) := if_pos h0
  have o16 : ra_g (x5up τ 16 (-1)) 180 16 = -1 := x5up_i i1
  rw [e]
  refine x5CT_i (fun i hi => ?_) (fun q hq => x5PT_k (hk _ (by omega) (by omega) (by omega)) (fun i hi => x5up_wn (by omega)) (x5CT_pt hT hq)) ⟨by omega, fun hn => absurd o16 hn⟩
  rw [x5uo_n (by omega), ra_gk (hk D (by omega) (by omega) (by omega))]; exact hT.1 i hi
theorem x5ct_tb1 (hT : x5CT τ σ D) (hW : WF τ) (h0 : ra_g τ 180 21 ≠ 0) (hp : ra_g τ 180 16 = (p : Int)) (hk : ∀ c, c ≠ D + 3 → c ≠ D + 5 + p → D ≤ c → c < D + 13 → s c = σ c) (h2 : ra_g s (D + 3) 2 = ra_g τ 180 18) (h3 : ra_g s (D + 3) 3 = ra_g τ 180 17) (h7 : ra_g s (D + 3) 7 = rch τ - ra_g τ 180 21) (hm : ∀ a, a ≠ 2 → a ≠ 3 → a ≠ 7 → ra_g s (D + 3) a = ra_g σ (D + 3) a)
    (h1 : ra_g s (D + 5 + p) 1 = ra_g τ 180 18) (ho : ∀ a, a ≠ 1 → ra_g s (D + 5 + p) a = ra_g σ (D + 5 + p) a) : x5CT (x5tbV τ) s D := by
  have e : x5tbV τ = x5up (x5up (x5up (x5up τ 21 (rch τ - ra_g τ 180 21)) 17 (ra_g τ 180 18)) 18 (ra_g τ 180 17)) (24 + 8 * ra_g τ 180 16 + 1).toNat (ra_g τ 180 18) := if_neg h0
  have hM := MV_f hW (by omega)
  have p8 : (p : Int) < 8 := by have := hM.1; omega
  have hP := x5CT_pt hT (p := p) (by omega)
  have he : wq τ (p : Int) 0 = 1 := by have := hM.2.1; rw [hp] at this; exact this
  have ic : ra_in (rch τ - ra_g τ 180 21) := by rw [← h7]; exact ra_in_g _ _ _
  rw [e, hp]
  generalize eV : x5up (x5up (x5up (x5up τ 21 (rch τ - ra_g τ 180 21)) 17 (ra_g τ 180 18)) 18 (ra_g τ 180 17)) (24 + 8 * (p : Int) + 1).toNat (ra_g τ 180 18) = V
  have o : ∀ b : Nat, b ≠ 21 → b ≠ 17 → b ≠ 18 → b ≠ (24 + 8 * (p : Int) + 1).toNat → ra_g V 180 b = ra_g τ 180 b := fun b b1 b2 b3 b4 => by rw [← eV, x5uo_n b4, x5uo_n b3, x5uo_n b2, x5uo_n b1]
  have o21 : ra_g V 180 21 = rch τ - ra_g τ 180 21 := by rw [← eV, x5uo_n (by omega), x5uo_n (by omega), x5uo_n (by omega), x5up_i ic]
  have o17 : ra_g V 180 17 = ra_g τ 180 18 := by rw [← eV, x5uo_n (by omega), x5uo_n (by omega), x5up_i (ra_in_g _ _ _)]
  have o18 : ra_g V 180 18 = ra_g τ 180 17 := by rw [← eV, x5uo_n (by omega), x5up_i (ra_in_g _ _ _)]
  have o1 : wq V p 1 = ra_g τ 180 18 := by rw [← eV]; unfold wq; rw [x5up_i (ra_in_g _ _ _)]
  have mT := x5CT_mv hT
  refine x5CT_i (fun i hi => ?_) (fun q hq => ?_) ⟨?_, fun hn => ?_⟩
  · rw [o i (by omega) (by omega) (by omega) (by omega), ra_gk (hk D (by omega) (by omega) (by omega) (by omega))]; exact hT.1 i hi
  · by_cases c : q = p
    · subst c
      obtain ⟨p1, p2, p3⟩ := hP
      have e0 : wq V q 0 = wq τ q 0 := o _ (by omega) (by omega) (by omega) (by omega)
      refine ⟨by rw [ho 2 (by omega), e0]; exact p1, by rw [ho 2 (by omega)]; exact p2, fun _ i i1 i2 => ?_⟩
      by_cases c1 : i = 1
      · rw [c1, h1]; exact o1.symm
      · rw [ho i c1, p3 he i i1 i2]
        exact (o _ (by omega) (by omega) (by omega) (by omega)).symm
    · exact x5PT_k (hk _ (by omega) (by omega) (by omega) (by omega)) (fun i hi => o _ (by omega) (by omega) (by omega) (by omega)) (x5CT_pt hT hq)
  · rw [hm 0 (by omega) (by omega) (by omega), o 16 (by omega) (by omega) (by omega) (by omega)]; exact mT.1
  · rw [o 16 (by omega) (by omega) (by omega) (by omega)] at hn
    obtain ⟨m1, m2, m3, m4, m5, m6, m7, m8⟩ := mT.2 hn
    have ez : msz V = msz τ := by unfold msz; rw [o 16 (by omega) (by omega) (by omega) (by omega), hp]; exact o _ (by omega) (by omega) (by omega) (by omega)
    have ec : rch V = rch τ := by unfold rch; rw [ez, o 19 (by omega) (by omega) (by omega) (by omega)]
    rw [ez, ec, o17, o18, o21, o 19 (by omega) (by omega) (by omega) (by omega), o 20 (by omega) (by omega) (by omega) (by omega), o 22 (by omega) (by omega) (by omega) (by omega), hm 1 (by omega) (by omega) (by omega), hm 4 (by omega) (by omega) (by omega), hm 5 (by omega) (by omega) (by omega), hm 6 (by omega) (by omega) (by omega), hm 8 (by omega) (by omega) (by omega)]
    exact ⟨m1, h2, h3, m4, m5, m6, h7, m8⟩
end
end
