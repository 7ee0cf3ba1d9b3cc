/-! how many partitions begin behind a place -/
section RB
def ctp (σ : ra_V) (c p : Int) : Int := if wq σ p 0 = 1 ∧ c < wq σ p 1 then 1 else 0
def ct (σ : ra_V) (c : Int) : Int := ctp σ c 0 + ctp σ c 1 + ctp σ c 2 + ctp σ c 3 + ctp σ c 4 + ctp σ c 5 + ctp σ c 6 + ctp σ c 7
def pcs (σ : ra_V) : Nat → Int
  | 0 => 0
  | k + 1 => pcs σ k + wq σ (k : Int) 0
def rst (σ : ra_V) (z : Int) : Int := if z = -1 then 0 else ct σ (wq σ z 1) + 1
section
variable {σ s t : ra_V} {c p z v to : Int}
theorem ctp_y (h : wq σ p 0 = 1 ∧ c < wq σ p 1) : ctp σ c p = 1 := if_pos h
theorem ctp_n (h : ¬ (wq σ p 0 = 1 ∧ c < wq σ p 1)) : ctp σ c p = 0 := if_neg h
theorem ctp_b : ctp σ c p = 0 ∨ ctp σ c p = 1 := by
  by_cases h : wq σ p 0 = 1 ∧ c < wq σ p 1
  · exact Or.inr (ctp_y h)
  · exact Or.inl (ctp_n h)
theorem ct_b : 0 ≤ ct σ c ∧ ct σ c ≤ 8 := by
  unfold ct
  have h0 := ctp_b (σ := σ) (c := c) (p := 0)
  have h1 := ctp_b (σ := σ) (c := c) (p := 1)
  have h2 := ctp_b (σ := σ) (c := c) (p := 2)
  have h3 := ctp_b (σ := σ) (c := c) (p := 3)
  have h4 := ctp_b (σ := σ) (c := c) (p := 4)
  have h5 := ctp_b (σ := σ) (c := c) (p := 5)
  have h6 := ctp_b (σ := σ) (c := c) (p := 6)
  have h7 := ctp_b (σ := σ) (c := c) (p := 7)
  omega
theorem ctp_k (h : s 180 = σ 180) : ctp s c p = ctp σ c p := by unfold ctp; rw [wq_k h, wq_k h]
theorem ct_k (h : s 180 = σ 180) : ct s c = ct σ c := by unfold ct; simp only [ctp_k h]
theorem cnt_0 (h : NB σ c 8 (-1)) : ct σ c = 0 := by
  have e : ∀ p, 0 ≤ p → p < 8 → ctp σ c p = 0 := fun p p0 p1 => ctp_n (fun q => (h.2 p p0 p1 q.1 q.2).1 rfl)
  unfold ct
  rw [e 0 (by decide) (by decide), e 1 (by decide) (by decide), e 2 (by decide) (by decide), e 3 (by decide) (by decide), e 4 (by decide) (by decide), e 5 (by decide) (by decide), e 6 (by decide) (by decide), e 7 (by decide) (by decide)]
  rfl
theorem cnt_1 (hw : WF σ) (h : NB σ c 8 z) (hz : z ≠ -1) : ct σ (wq σ z 1) = ct σ c - 1 := by
  obtain ⟨h1, h2⟩ := h
  obtain ⟨z0, z1, z2, z3⟩ := h1.resolve_left hz
  have e : ∀ p, 0 ≤ p → p < 8 → p ≠ z → ctp σ (wq σ z 1) p = ctp σ c p := fun p p0 p1 pn => by
    by_cases q : wq σ p 0 = 1 ∧ c < wq σ p 1
    · have := (h2 p p0 p1 q.1 q.2).2
      have a := WF_ap hw p0 p1 z0 z1 pn q.1 z2
      have b := WF_p hw p0 p1 q.1
      have d := WF_p hw z0 z1 z2
      rw [ctp_y q, ctp_y ⟨q.1, by omega⟩]
    · rw [ctp_n q, ctp_n (fun r => q ⟨r.1, by omega⟩)]
  have e0 : ctp σ (wq σ z 1) z = 0 := ctp_n (fun q => by omega)
  have e1 : ctp σ c z = 1 := ctp_y ⟨z2, z3⟩
  have f : ∀ p, 0 ≤ p → p < 8 → ctp σ (wq σ z 1) p = ctp σ c p - (if p = z then 1 else 0) := fun p p0 p1 => by
    by_cases q : p = z
    · rw [q, e0, e1, if_pos rfl]; rfl
    · rw [e p p0 p1 q, if_neg q]; omega
  unfold ct
  rw [f 0 (by decide) (by decide), f 1 (by decide) (by decide), f 2 (by decide) (by decide), f 3 (by decide) (by decide), f 4 (by decide) (by decide), f 5 (by decide) (by decide), f 6 (by decide) (by decide), f 7 (by decide) (by decide)]
  have c8 : z = 0 ∨ z = 1 ∨ z = 2 ∨ z = 3 ∨ z = 4 ∨ z = 5 ∨ z = 6 ∨ z = 7 := by omega
  rcases c8 with rfl | rfl | rfl | rfl | rfl | rfl | rfl | rfl <;> simp <;> omega
theorem nb_st (hw : WF σ) (h : NB σ c 8 z) (h1 : 1 ≤ ct σ c) : (0 ≤ z ∧ z < 8 ∧ wq σ z 0 = 1) ∧ ct σ (wq σ z 1) = ct σ c - 1 := by
  by_cases e : z = -1
  · rw [e] at h
    have := cnt_0 h
    omega
  · obtain ⟨z0, z1, z2, -⟩ := h.1.resolve_left e
    exact ⟨⟨z0, z1, z2⟩, cnt_1 hw h e⟩
theorem rst_n (hw : WF σ) (h : NB σ c 8 z) : rst σ z = ct σ c := by
  unfold rst
  by_cases e : z = -1
  · rw [if_pos e]
    rw [e] at h
    exact (cnt_0 h).symm
  · rw [if_neg e, cnt_1 hw h e]
    omega
theorem rst_y (h : z ≠ -1) : rst σ z = ct σ (wq σ z 1) + 1 := if_neg h
theorem rst_b : 0 ≤ rst σ z := by
  unfold rst
  have := (ct_b (σ := σ) (c := wq σ z 1)).1
  by_cases e : z = -1
  · rw [if_pos e]; omega
  · rw [if_neg e]; omega
theorem pcs_s (h : 0 ≤ v) : pcs σ (v + 1).toNat = pcs σ v.toNat + wq σ v 0 := by
  rw [show (v + 1).toNat = v.toNat + 1 by omega]
  show pcs σ v.toNat + wq σ (v.toNat : Int) 0 = _
  rw [show (v.toNat : Int) = v by omega]
theorem pcs_8 (hw : WF σ) : pcs σ 8 = ct σ (-1) := by
  have e : ∀ p, 0 ≤ p → p < 8 → wq σ p 0 = ctp σ (-1) p := fun p p0 p1 => by
    by_cases q : wq σ p 0 = 1
    · have := WF_p hw p0 p1 q
      have a := WF_a hw
      unfold WFa at a
      rw [ctp_y ⟨q, by omega⟩]; exact q
    · rw [ctp_n (fun r => q r.1)]
      have := WF_ex hw p0 p1
      omega
  show (0 + wq σ 0 0 + wq σ 1 0 + wq σ 2 0 + wq σ 3 0 + wq σ 4 0 + wq σ 5 0 + wq σ 6 0 + wq σ 7 0 : Int) = _
  unfold ct
  rw [e 0 (by decide) (by decide), e 1 (by decide) (by decide), e 2 (by decide) (by decide), e 3 (by decide) (by decide), e 4 (by decide) (by decide), e 5 (by decide) (by decide), e 6 (by decide) (by decide), e 7 (by decide) (by decide)]
  omega
theorem cs_w {s0 s1 s2 s3 : ra_V} (hw : WF σ) (k0 : s0 180 = σ 180) (c1 : CPO s0 s1 180 182 0 0 688) (k2 : s2 182 = s1 182) (c2 : CPO s2 s3 182 180 0 0 688) : WF s3 :=
  WF_rel (fun a ha => by
    have hl : a < 88 := by unfold REL at ha; omega
    rw [c2 a, if_pos (by omega), show ((a : Int) - 0 + 0).toNat = a by omega, ra_gk k2, c1 a, if_pos (by omega), show ((a : Int) - 0 + 0).toNat = a by omega, ra_gk k0]) hw
theorem ra_ext {k : Nat} (h : ∀ a, ra_g s k a = ra_g σ k a) : s k = σ k := by
  funext a
  exact Int32.toInt_inj.mp (h a)
theorem br_w (hw : WF σ) (hp : 0 ≤ p ∧ p < 8 ∧ wq σ p 0 = 1) (hk : MOK σ p to) (v : wq s p 1 = to) (o : ∀ a, a ≠ (24 + 8 * p + 1).toNat → ra_g s 180 a = ra_g σ 180 a) : WF s := by
  obtain ⟨p0, p1, p2⟩ := hp
  have hq := WF_p hw p0 p1 p2
  obtain ⟨k1, k2, k3, k4, -⟩ := hk
  have e0 : wq s p 0 = wq σ p 0 := o _ (by omega)
  have e2 : wq s p 2 = wq σ p 2 := o _ (by omega)
  have e3 : wq s p 3 = wq σ p 3 := o _ (by omega)
  refine WF_chg (p := p) hw ⟨p0, p1⟩ (fun a ha hn => o a (by omega)) (by omega) (Or.inr ⟨by omega, by omega, by omega, by rw [e2, v]; exact k3, by rw [e2, v]; exact k4, fun q => q.1 k1⟩)
theorem br_e (hp : 0 ≤ p ∧ p < 8) {s1 s2 s3 : ra_V} (o1 : ∀ a, a ≠ (24 + 8 * p + 1).toNat → ra_g s1 180 a = ra_g σ 180 a) (k2 : s2 180 = s1 180) (v3 : wq s3 p 1 = wq σ p 1) (o3 : ∀ a, a ≠ (24 + 8 * p + 1).toNat → ra_g s3 180 a = ra_g s2 180 a) : s3 180 = σ 180 :=
  ra_ext (fun a => by
    by_cases e : a = (24 + 8 * p + 1).toNat
    · rw [e]; exact v3
    · rw [o3 a e, ra_gk k2, o1 a e])
/-- digits -/
theorem wn_t {x : Int} (h : 0 ≤ x) (hv : v = 1 ∨ v = 10 ∨ v = 100) (hx : x ≤ 999) (h9 : 9 < x.tdiv v) : v = 1 ∨ v = 10 := by
  rcases hv with rfl | rfl | rfl
  · exact Or.inl rfl
  · exact Or.inr rfl
  · rw [Int.tdiv_eq_ediv_of_nonneg h] at h9
    omega
theorem wn_d (hv : v = 0 ∨ v = 1 ∨ v = 10 ∨ v = 100) : (v = 1 → v.tdiv 10 = 0) ∧ (v = 10 → v.tdiv 10 = 1) ∧ (v = 100 → v.tdiv 10 = 10) := by
  refine ⟨?_, ?_, ?_⟩ <;> rintro rfl <;> rfl
theorem pw_0 (h : ra_g s 179 5 = 0) : PW s := ⟨⟨by omega, by omega⟩, fun i hi => by exfalso; omega⟩
theorem kp_w {s0 s1 s2 s3 : ra_V} (hw : WF σ) (k0 : s0 180 = σ 180) (c1 : CPO s0 s1 180 181 0 0 688) (k2 : s2 181 = s1 181) (c2 : CPO s2 s3 181 180 0 0 688) : WF s3 :=
  WF_rel (fun a ha => by
    have hl : a < 88 := by unfold REL at ha; omega
    rw [c2 a, if_pos (by omega), show ((a : Int) - 0 + 0).toNat = a by omega, ra_gk k2, c1 a, if_pos (by omega), show ((a : Int) - 0 + 0).toNat = a by omega, ra_gk k0]) hw
theorem sta_k {s : ra_V} (h : s 180 = σ 180) (q : 0 ≤ z ∧ z < 8 ∧ wq s z 0 = 1) : 0 ≤ z ∧ z < 8 ∧ wq σ z 0 = 1 := ⟨q.1, q.2.1, (wq_k h).symm.trans q.2.2⟩
theorem lnp_ {s : ra_V} {v1 : Int} (hln : ∀ k : Nat, (k : Int) < v1 → 0 ≤ ra_g s 189 k ∧ ra_g s 189 k < 8 ∧ wq σ (ra_g s 189 k) 0 = 1) (hex : ∀ p, 0 ≤ p → p < 8 → wq s p 0 = wq σ p 0) (v3 : Int) (h : (v3.toNat : Int) < v1) : 0 ≤ ra_g s 189 v3.toNat ∧ ra_g s 189 v3.toNat < 8 ∧ wq s (ra_g s 189 v3.toNat) 0 = 1 := by
  obtain ⟨a, b, c⟩ := hln v3.toNat h
  exact ⟨a, b, (hex _ a b).trans c⟩
theorem ln_k {s t : ra_V} {v1 : Int} (h : t 189 = s 189) (hln : ∀ k : Nat, (k : Int) < v1 → 0 ≤ ra_g s 189 k ∧ ra_g s 189 k < 8 ∧ wq σ (ra_g s 189 k) 0 = 1) : ∀ k : Nat, (k : Int) < v1 → 0 ≤ ra_g t 189 k ∧ ra_g t 189 k < 8 ∧ wq σ (ra_g t 189 k) 0 = 1 := fun k hk => by
  rw [ra_gk h]
  exact hln k hk
theorem mok_of (h : z = -1 ∨ (0 ≤ z ∧ z ≤ 600 ∧ MOK σ p z)) (hn : z ≠ -1) : MOK σ p z := (h.resolve_left hn).2.2
theorem nb_k0 {s : ra_V} (h : s 180 = σ 180) (q : NB s c 8 z) : NB σ c 8 z := by
  unfold NB at *
  simp only [wq_k h] at q
  exact q
end
end RB
