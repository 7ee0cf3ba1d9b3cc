/-! T5: changes of the row, told as functions of it; the class's disk that stands for the row behind them -/
section
section
variable {σ s t τ υ μ : ra_V} {D p q j w : Nat} {a m x y z v k mn to sc i : Int}
def x5up (τ : ra_V) (j : Nat) (v : Int) : ra_V := ra_up τ 180 j v
theorem x5up_g {b : Nat} : ra_g (x5up τ j v) 180 b = if b = j then ra_w v else ra_g τ 180 b := by
  unfold x5up ra_g ra_up
  by_cases e : b = j
  · rw [if_pos e, if_pos ⟨rfl, e⟩]; rfl
  · rw [if_neg e, if_neg (fun q => e q.2)]
theorem x5uo_y : ra_g (x5up τ j v) 180 j = ra_w v := by rw [x5up_g, if_pos rfl]
theorem x5up_i (h : ra_in v) : ra_g (x5up τ j v) 180 j = v := by rw [x5uo_y, ra_w_id h]
theorem x5uo_n {b : Nat} (h : b ≠ j) : ra_g (x5up τ j v) 180 b = ra_g τ 180 b := by rw [x5up_g, if_neg h]
theorem x5up_wn {p w : Int} (h : (24 + 8 * p + w).toNat ≠ j) : wq (x5up τ j v) p w = wq τ p w := x5uo_n h
theorem x5up_wy {p w : Int} (hv : ra_in v) (h : (24 + 8 * p + w).toNat = j) : wq (x5up τ j v) p w = v := by unfold wq; rw [h, x5up_i hv]
theorem x5sc_up (h : SC τ s) (hv : ra_g t 180 j = v) (ho : ∀ a, a ≠ j → ra_g t 180 a = ra_g s 180 a) : SC (x5up τ j v) t := fun b hb => by
  by_cases e : b = j
  · rw [e, x5up_i (by rw [← hv]; exact ra_in_g _ _ _)]; exact hv
  · rw [x5uo_n e, ho b e]; exact h b hb
theorem x5sc_upw (h : SC τ s) (hv : ra_g t 180 j = ra_w v) (ho : ∀ a, a ≠ j → ra_g t 180 a = ra_g s 180 a) : SC (x5up τ j v) t := fun b hb => by
  by_cases e : b = j
  · rw [e, x5uo_y]; exact hv
  · rw [x5uo_n e, ho b e]; exact h b hb
theorem x5sc_u2 (h : SC τ υ) : SC (x5up τ j v) (x5up υ j v) := fun b hb => by
  by_cases e : b = j
  · rw [e, x5uo_y, x5uo_y]
  · rw [x5uo_n e, x5uo_n e]; exact h b hb
/-! a disk's pieces -/
def x5PT (τ s : ra_V) (D p : Nat) : Prop := (0 < ra_g s (D + 5 + p) 2 ↔ wq τ p 0 = 1) ∧ 0 ≤ ra_g s (D + 5 + p) 2 ∧ (wq τ p 0 = 1 → ∀ j : Nat, 1 ≤ j → j ≤ 7 → ra_g s (D + 5 + p) j = wq τ p j)
def x5MVC (τ s : ra_V) (D : Nat) : Prop := ra_g s (D + 3) 0 = ra_g τ 180 16 ∧
  (ra_g τ 180 16 ≠ -1 → ra_g s (D + 3) 1 = msz τ ∧ ra_g s (D + 3) 2 = ra_g τ 180 17 ∧ ra_g s (D + 3) 3 = ra_g τ 180 18 ∧ ra_g s (D + 3) 4 = ra_g τ 180 19 ∧ ra_g s (D + 3) 5 = rch τ ∧ ra_g s (D + 3) 6 = ra_g τ 180 20 ∧ ra_g s (D + 3) 7 = ra_g τ 180 21 ∧ ra_g s (D + 3) 8 = ra_g τ 180 22)
theorem x5CT_i (h1 : ∀ j : Nat, j ≤ 8 → ra_g s D (4 + j) = ra_g τ 180 j) (h2 : ∀ p : Nat, p < 8 → x5PT τ s D p) (h3 : x5MVC τ s D) : x5CT τ s D :=
  ⟨h1, fun p hp => ⟨(h2 p hp).1, (h2 p hp).2.1⟩, fun p hp => (h2 p hp).2.2, h3.1, h3.2⟩
theorem x5CT_pt (h : x5CT τ s D) (hp : p < 8) : x5PT τ s D p := ⟨(h.2.1 p hp).1, (h.2.1 p hp).2, h.2.2.1 p hp⟩
theorem x5CT_mv (h : x5CT τ s D) : x5MVC τ s D := ⟨h.2.2.2.1, h.2.2.2.2⟩
theorem x5PT_k (hc : s (D + 5 + p) = σ (D + 5 + p)) (hw : ∀ w : Nat, w ≤ 7 → wq υ p w = wq τ p w) (h : x5PT τ σ D p) : x5PT υ s D p := by
  obtain ⟨h1, h2, h3⟩ := h
  have e0 : wq υ p 0 = wq τ p 0 := hw 0 (by omega)
  refine ⟨by rw [ra_gk hc, e0]; exact h1, by rw [ra_gk hc]; exact h2, fun he j j1 j2 => ?_⟩
  rw [e0] at he
  rw [ra_gk hc, hw j j2]
  exact h3 he j j1 j2
theorem x5MVC_k (hc : s (D + 3) = σ (D + 3)) (h6 : ra_g υ 180 16 = ra_g τ 180 16) (hr : ∀ j : Nat, 17 ≤ j → j ≤ 22 → ra_g υ 180 j = ra_g τ 180 j) (hz : ra_g τ 180 16 ≠ -1 → msz υ = msz τ) (h : x5MVC τ σ D) : x5MVC υ s D := by
  obtain ⟨h1, h2⟩ := h
  refine ⟨by rw [ra_gk hc, h6]; exact h1, fun hm => ?_⟩
  rw [h6] at hm
  have ez := hz hm
  have ec : rch υ = rch τ := by unfold rch; rw [ez, hr 19 (by omega) (by omega)]
  rw [ra_gk hc, ra_gk hc, ra_gk hc, ra_gk hc, ra_gk hc, ra_gk hc, ra_gk hc, ra_gk hc, ez, ec, hr 17 (by omega) (by omega), hr 18 (by omega) (by omega), hr 19 (by omega) (by omega), hr 20 (by omega) (by omega), hr 21 (by omega) (by omega), hr 22 (by omega) (by omega)]
  exact h2 hm
/-- a number of a partition that stands -/
theorem x5ct_upP (hT : x5CT τ σ D) (hW : WF τ) (hp : p < 8) (w1 : 1 ≤ w) (w7 : w ≤ 7) (hj : j = 24 + 8 * p + w) (he : wq τ p 0 = 1) (hm : w = 2 → ra_g τ 180 16 ≠ p) (hk : ∀ c, c ≠ D + 1 → c ≠ D + 5 + p → D ≤ c → c < D + 13 → s c = σ c)
    (hv : ra_g s (D + 5 + p) w = v) (ho : ∀ a, a ≠ w → ra_g s (D + 5 + p) a = ra_g σ (D + 5 + p) a) (h2 : w = 2 → 0 < v) : x5CT (x5up τ j v) s D := by
  subst hj
  have hv2 : ra_in v := by rw [← hv]; exact ra_in_g _ _ _
  have ha := WF_a hW
  unfold WFa at ha
  have hP := x5CT_pt hT hp
  refine x5CT_i (fun i hi => ?_) (fun q hq => ?_) (x5MVC_k (hk (D + 3) (by omega) (by omega) (by omega) (by omega)) (x5uo_n (by omega)) (fun i i1 i2 => x5uo_n (by omega)) (fun hn => ?_) (x5CT_mv hT))
  · rw [x5uo_n (by omega), ra_gk (hk D (by omega) (by omega) (by omega) (by omega))]; exact hT.1 i hi
  · by_cases e : q = p
    · subst e
      obtain ⟨p1, p2, p3⟩ := hP
      have e0 : wq (x5up τ (24 + 8 * q + w) v) q 0 = wq τ q 0 := x5up_wn (by omega)
      have g2 : w ≠ 2 → ra_g s (D + 5 + q) 2 = ra_g σ (D + 5 + q) 2 := fun n => ho 2 (Ne.symm n)
      have p4 := p1.mpr he
      refine ⟨⟨fun _ => by rw [e0]; exact he, fun _ => ?_⟩, ?_, fun _ i i1 i2 => ?_⟩
      · by_cases c : w = 2
        · rw [c] at hv; rw [hv]; exact h2 c
        · rw [g2 c]; exact p4
      · by_cases c : w = 2
        · have := h2 c; rw [c] at hv; omega
        · rw [g2 c]; exact p2
      · by_cases c : i = w
        · rw [c, hv, x5up_wy hv2 (by omega)]
        · rw [ho i c, x5up_wn (by omega)]; exact p3 he i i1 i2
    · exact x5PT_k (hk _ (by omega) (by omega) (by omega) (by omega)) (fun i hi => x5up_wn (by omega)) (x5CT_pt hT hq)
  · unfold msz
    rw [x5uo_n (by omega)]
    refine x5up_wn (fun q => ?_)
    have := hm (by omega)
    omega
/-- a partition that stands no more -/
theorem x5ct_rm (hT : x5CT τ σ D) (hW : WF τ) (hp : p < 8) (hj : j = 24 + 8 * p) (hm : ra_g τ 180 16 ≠ p) (hk : ∀ c, c ≠ D + 1 → c ≠ D + 5 + p → D ≤ c → c < D + 13 → s c = σ c)
    (hv : ra_g s (D + 5 + p) 2 = 0) : x5CT (x5up τ j 0) s D := by
  subst hj
  have h0 : ra_in 0 := by unfold ra_in; omega
  have ha := WF_a hW
  unfold WFa at ha
  refine x5CT_i (fun i hi => ?_) (fun q hq => ?_) (x5MVC_k (hk (D + 3) (by omega) (by omega) (by omega) (by omega)) (x5uo_n (by omega)) (fun i i1 i2 => x5uo_n (by omega)) (fun hn => ?_) (x5CT_mv hT))
  · rw [x5uo_n (by omega), ra_gk (hk D (by omega) (by omega) (by omega) (by omega))]; exact hT.1 i hi
  · by_cases e : q = p
    · subst e
      have e0 : wq (x5up τ (24 + 8 * q) 0) q 0 = 0 := x5up_wy h0 (by omega)
      exact ⟨by rw [hv, e0]; decide, by omega, fun c => by omega⟩
    · exact x5PT_k (hk _ (by omega) (by omega) (by omega) (by omega)) (fun i hi => x5up_wn (by omega)) (x5CT_pt hT hq)
  · unfold msz
    rw [x5uo_n (by omega)]
    exact x5up_wn (fun q => by omega)
/-- a setting -/
theorem x5ct_upS (hT : x5CT τ σ D) (hW : WF τ) (hj : j ≤ 8) (hk : ∀ c, c ≠ D + 1 → D < c → c < D + 13 → s c = σ c) (hv : ra_g s D (4 + j) = ra_w v) (ho : ∀ a, a ≠ 4 + j → ra_g s D a = ra_g σ D a) : x5CT (x5up τ j v) s D := by
  have ha := WF_a hW
  unfold WFa at ha
  refine x5CT_i (fun i hi => ?_) (fun q hq => x5PT_k (hk _ (by omega) (by omega) (by omega)) (fun i hi => x5up_wn (by omega)) (x5CT_pt hT hq)) (x5MVC_k (hk (D + 3) (by omega) (by omega) (by omega)) (x5uo_n (by omega)) (fun i i1 i2 => x5uo_n (by omega)) (fun hn => ?_) (x5CT_mv hT))
  · by_cases c : i = j
    · rw [c, hv, x5uo_y]
    · rw [x5uo_n c, ho _ (by omega)]; exact hT.1 i hi
  · unfold msz
    rw [x5uo_n (by omega)]
    exact x5up_wn (by omega)
/-- a new partition z -/
def x5mkV (τ : ra_V) (z a m k mn : Int) : ra_V := x5up (x5up (x5up (x5up (x5up (x5up (x5up (x5up (x5up τ (24 + 8 * z + 0).toNat 1) (24 + 8 * z + 1).toNat a) (24 + 8 * z + 2).toNat m) (24 + 8 * z + 3).toNat mn) (24 + 8 * z + 4).toNat k) (24 + 8 * z + 5).toNat 0) (24 + 8 * z + 6).toNat (ra_g τ 180 5)) (24 + 8 * z + 7).toNat 0) 5 (ra_g τ 180 5 + 1)
theorem x5mk_o {b : Nat} (h5 : b ≠ 5) (hz : ∀ w : Nat, w ≤ 7 → b ≠ (24 + 8 * z + w).toNat) : ra_g (x5mkV τ z a m k mn) 180 b = ra_g τ 180 b := by
  have h0 : b ≠ (24 + 8 * z + 0).toNat := hz 0 (by omega)
  have h1 : b ≠ (24 + 8 * z + 1).toNat := hz 1 (by omega)
  have h2 : b ≠ (24 + 8 * z + 2).toNat := hz 2 (by omega)
  have h3 : b ≠ (24 + 8 * z + 3).toNat := hz 3 (by omega)
  have h4 : b ≠ (24 + 8 * z + 4).toNat := hz 4 (by omega)
  have h6 : b ≠ (24 + 8 * z + 5).toNat := hz 5 (by omega)
  have h7 : b ≠ (24 + 8 * z + 6).toNat := hz 6 (by omega)
  have h8 : b ≠ (24 + 8 * z + 7).toNat := hz 7 (by omega)
  unfold x5mkV
  rw [x5uo_n h5, x5uo_n h8, x5uo_n h7, x5uo_n h6, x5uo_n h4, x5uo_n h3, x5uo_n h2, x5uo_n h1, x5uo_n h0]
theorem x5mk_5 (hz : 0 ≤ z) : ra_g (x5mkV τ z a m k mn) 180 5 = ra_w (ra_g τ 180 5 + 1) := by unfold x5mkV; rw [x5uo_y]
theorem x5mk_w (hz : 0 ≤ z) (ha : ra_in a) (hm : ra_in m) (hk : ra_in k) (hn : ra_in mn) : wq (x5mkV τ z a m k mn) z 0 = 1 ∧ wq (x5mkV τ z a m k mn) z 1 = a ∧ wq (x5mkV τ z a m k mn) z 2 = m ∧ wq (x5mkV τ z a m k mn) z 3 = mn ∧ wq (x5mkV τ z a m k mn) z 4 = k ∧ wq (x5mkV τ z a m k mn) z 5 = 0 ∧ wq (x5mkV τ z a m k mn) z 6 = ra_g τ 180 5 ∧ wq (x5mkV τ z a m k mn) z 7 = 0 := by
  have i0 : ra_in 0 := by unfold ra_in; omega
  have i1 : ra_in 1 := by unfold ra_in; omega
  unfold x5mkV wq
  refine ⟨?_, ?_, ?_, ?_, ?_, ?_, ?_, ?_⟩
  · rw [x5uo_n (by omega), x5uo_n (by omega), x5uo_n (by omega), x5uo_n (by omega), x5uo_n (by omega), x5uo_n (by omega), x5uo_n (by omega), x5uo_n (by omega), x5up_i i1]
  · rw [x5uo_n (by omega), x5uo_n (by omega), x5uo_n (by omega), x5uo_n (by omega), x5uo_n (by omega), x5uo_n (by omega), x5uo_n (by omega), x5up_i ha]
  · rw [x5uo_n (by omega), x5uo_n (by omega), x5uo_n (by omega), x5uo_n (by omega), x5uo_n (by omega), x5uo_n (by omega), x5up_i hm]
  · rw [x5uo_n (by omega), x5uo_n (by omega), x5uo_n (by omega), x5uo_n (by omega), x5uo_n (by omega), x5up_i hn]
  · rw [x5uo_n (by omega), x5uo_n (by omega), x5uo_n (by omega), x5uo_n (by omega), x5up_i hk]
  · rw [x5uo_n (by omega), x5uo_n (by omega), x5uo_n (by omega), x5up_i i0]
  · rw [x5uo_n (by omega), x5uo_n (by omega), x5up_i (ra_in_g _ _ _)]
  · rw [x5uo_n (by omega), x5up_i i0]
theorem x5mk_q {r w : Int} (h : r ≠ z) (h0 : 0 ≤ r) (hz : 0 ≤ z) (w0 : 0 ≤ w) (w8 : w < 8) : wq (x5mkV τ z a m k mn) r w = wq τ r w := x5mk_o (by omega) (fun i hi => by omega)
/-- the least number that isn't given -/
def x5nfr (τ : ra_V) : Int := if wq τ 0 0 ≠ 1 then 0 else if wq τ 1 0 ≠ 1 then 1 else if wq τ 2 0 ≠ 1 then 2 else if wq τ 3 0 ≠ 1 then 3 else if wq τ 4 0 ≠ 1 then 4 else if wq τ 5 0 ≠ 1 then 5 else if wq τ 6 0 ≠ 1 then 6 else if wq τ 7 0 ≠ 1 then 7 else 8
theorem x5nfr_e (hz : 0 ≤ z ∧ z < 8) (h0 : wq τ z 0 ≠ 1) (h : ∀ r, 0 ≤ r → r < z → wq τ r 0 = 1) : z = x5nfr τ := by
  have g : ∀ r, 0 ≤ r → r < z → ¬ wq τ r 0 ≠ 1 := fun r a b => fun c => c (h r a b)
  unfold x5nfr
  rcases (show z = 0 ∨ z = 1 ∨ z = 2 ∨ z = 3 ∨ z = 4 ∨ z = 5 ∨ z = 6 ∨ z = 7 by omega) with rfl | rfl | rfl | rfl | rfl | rfl | rfl | rfl
  · rw [if_pos h0]
  · rw [if_neg (g 0 (by omega) (by omega)), if_pos h0]
  · rw [if_neg (g 0 (by omega) (by omega)), if_neg (g 1 (by omega) (by omega)), if_pos h0]
  · rw [if_neg (g 0 (by omega) (by omega)), if_neg (g 1 (by omega) (by omega)), if_neg (g 2 (by omega) (by omega)), if_pos h0]
  · rw [if_neg (g 0 (by omega) (by omega)), if_neg (g 1 (by omega) (by omega)), if_neg (g 2 (by omega) (by omega)), if_neg (g 3 (by omega) (by omega)), if_pos h0]
  · rw [if_neg (g 0 (by omega) (by omega)), if_neg (g 1 (by omega) (by omega)), if_neg (g 2 (by omega) (by omega)), if_neg (g 3 (by omega) (by omega)), if_neg (g 4 (by omega) (by omega)), if_pos h0]
  · rw [if_neg (g 0 (by omega) (by omega)), if_neg (g 1 (by omega) (by omega)), if_neg (g 2 (by omega) (by omega)), if_neg (g 3 (by omega) (by omega)), if_neg (g 4 (by omega) (by omega)), if_neg (g 5 (by omega) (by omega)), if_pos h0]
  · rw [if_neg (g 0 (by omega) (by omega)), if_neg (g 1 (by omega) (by omega)), if_neg (g 2 (by omega) (by omega)), if_neg (g 3 (by omega) (by omega)), if_neg (g 4 (by omega) (by omega)), if_neg (g 5 (by omega) (by omega)), if_neg (g 6 (by omega) (by omega)), if_pos h0]
theorem x5nfr_in : ra_in (x5nfr τ) := by unfold x5nfr; (repeat' split) <;> (unfold ra_in; omega)
theorem x5ct_mk (hT : x5CT τ σ D) (hW : WF τ) (hp : p < 8) (hn : wq τ p 0 ≠ 1) (hk : ∀ c, c ≠ D + 1 → c ≠ D + 5 + p → D < c → c < D + 13 → s c = σ c) (h5 : ra_g s D 9 = ra_w (ra_g σ D 9 + 1)) (ho : ∀ a, a ≠ 9 → ra_g s D a = ra_g σ D a)
    (v1 : ra_g s (D + 5 + p) 1 = a) (v2 : ra_g s (D + 5 + p) 2 = m) (v3 : ra_g s (D + 5 + p) 3 = mn) (v4 : ra_g s (D + 5 + p) 4 = k) (v5 : ra_g s (D + 5 + p) 5 = 0) (v6 : ra_g s (D + 5 + p) 6 = ra_g σ D 9) (v7 : ra_g s (D + 5 + p) 7 = 0) (hm : 0 < m) : x5CT (x5mkV τ (p : Int) a m k mn) s D := by
  have ha := WF_a hW
  unfold WFa at ha
  have e9 : ra_g σ D 9 = ra_g τ 180 5 := hT.1 5 (by omega)
  obtain ⟨w0, w1, w2, w3, w4, w5, w6, w7⟩ := x5mk_w (τ := τ) (z := (p : Int)) (a := a) (m := m) (k := k) (mn := mn) (by omega) (by rw [← v1]; exact ra_in_g s (D + 5 + p) 1) (by rw [← v2]; exact ra_in_g s (D + 5 + p) 2) (by rw [← v4]; exact ra_in_g s (D + 5 + p) 4) (by rw [← v3]; exact ra_in_g s (D + 5 + p) 3)
  refine x5CT_i (fun i hi => ?_) (fun q hq => ?_) (x5MVC_k (hk (D + 3) (by omega) (by omega) (by omega) (by omega)) (x5mk_o (by omega) (fun w hw => by omega)) (fun i i1 i2 => x5mk_o (by omega) (fun w hw => by omega)) (fun hn2 => ?_) (x5CT_mv hT))
  · by_cases c : i = 5
    · rw [c, h5, e9, x5mk_5 (by omega)]
    · rw [x5mk_o c (fun w hw => by omega), ho _ (by omega)]; exact hT.1 i hi
  · by_cases e : q = p
    · subst e
      refine ⟨⟨fun _ => w0, fun _ => by omega⟩, by omega, fun _ i i1 i2 => ?_⟩
      rcases (show i = 1 ∨ i = 2 ∨ i = 3 ∨ i = 4 ∨ i = 5 ∨ i = 6 ∨ i = 7 by omega) with rfl | rfl | rfl | rfl | rfl | rfl | rfl
      · exact v1.trans w1.symm
      · exact v2.trans w2.symm
      · exact v3.trans w3.symm
      · exact v4.trans w4.symm
      · exact v5.trans w5.symm
      · exact (v6.trans e9).trans w6.symm
      · exact v7.trans w7.symm
    · exact x5PT_k (hk _ (by omega) (by omega) (by omega) (by omega)) (fun i hi => x5mk_q (by omega) (by omega) (by omega) (by omega) (by omega)) (x5CT_pt hT hq)
  · have h16 := (MV_f hW hn2).2.1
    have h16b := (MV_f hW hn2).1
    unfold msz
    rw [x5mk_o (by omega) (fun w hw => by omega)]
    refine x5mk_q (fun q => ?_) (by omega) (by omega) (by omega) (by omega)
    rw [q] at h16
    exact hn h16
end
end
