/-! a partition made, sized -/
section RB
section
variable {G : ri_Tb} {sh : ra_Sh} {b d mi : Nat} {M : ri_Mt} {pc : Nat} {L : List (Option Jvm.Term)} {st rest args : List Jvm.Term} {σ : ra_V} {Q : ra_Q} {i : Instr} {S : ra_V → Prop} {P : Int → ra_V → Prop}
theorem ra_cIPs (hC : ra_C G sh 0 d mi args σ (fun r s => (∃ z, ra_in z ∧ P z s ∧ r = .inl (some (ra_I z))) ∧ S s)) (hd : (ri_co M)[pc]? = some (some (i, 3))) (ht : ra_ct G sh M i st args rest mi) (k : ∀ z s, ra_in z → P z s → S s → ra_P G sh b d M (pc + 3) L (ra_I z :: rest) s Q) : ra_P G sh b d M pc L st σ Q :=
  ra_callA hC hd ht (fun E s h => by obtain ⟨⟨z, -, -, e⟩, -⟩ := h; cases e) (fun t s h => by obtain ⟨⟨z, hz, hp, e⟩, hs⟩ := h; cases e; exact k z s hz hp hs)
end
def MKN (σ s : ra_V) (z a m mn : Int) : Prop := (0 ≤ z ∧ z < 8 ∧ wq σ z 0 ≠ 1) ∧ wq s z 0 = 1 ∧ wq s z 1 = a ∧ wq s z 2 = m ∧ wq s z 3 = mn ∧ ∀ a : Nat, a < 88 → a ≠ 5 → ¬ (24 + 8 * z ≤ (a : Int) ∧ (a : Int) < 24 + 8 * z + 8) → ra_g s 180 a = ra_g σ 180 a
theorem free_lt {σ : ra_V} {v : Int} (h : ∃ q, 0 ≤ q ∧ q < 8 ∧ wq σ q 0 ≠ 1) (hv : ∀ r, 0 ≤ r → r < v → wq σ r 0 = 1) : v < 8 := by
  obtain ⟨q, q0, q1, q2⟩ := h
  by_cases e : v < 8
  · exact e
  · exact absurd (hv q q0 (by omega)) q2
theorem mk_chain {σ s0 s1 s2 s3 s4 s5 s6 s7 s8 s9 : ra_V} {z a m mn : Int} (hz : 0 ≤ z ∧ z < 8 ∧ wq σ z 0 ≠ 1)
    (v0 : wq s0 z 0 = 1) (o0 : ∀ a, a ≠ (24 + 8 * z + 0).toNat → ra_g s0 180 a = ra_g σ 180 a) (v1 : wq s1 z 1 = a) (o1 : ∀ a, a ≠ (24 + 8 * z + 1).toNat → ra_g s1 180 a = ra_g s0 180 a)
    (v2 : wq s2 z 2 = m) (o2 : ∀ a, a ≠ (24 + 8 * z + 2).toNat → ra_g s2 180 a = ra_g s1 180 a) (v3 : wq s3 z 3 = mn) (o3 : ∀ a, a ≠ (24 + 8 * z + 3).toNat → ra_g s3 180 a = ra_g s2 180 a)
    (o4 : ∀ a, a ≠ (24 + 8 * z + 4).toNat → ra_g s4 180 a = ra_g s3 180 a) (o5 : ∀ a, a ≠ (24 + 8 * z + 5).toNat → ra_g s5 180 a = ra_g s4 180 a) (o6 : ∀ a, a ≠ (24 + 8 * z + 6).toNat → ra_g s6 180 a = ra_g s5 180 a) (o7 : ∀ a, a ≠ (24 + 8 * z + 7).toNat → ra_g s7 180 a = ra_g s6 180 a)
    (o8 : ∀ a, a ≠ 5 → ra_g s8 180 a = ra_g s7 180 a) (sc : SC s8 s9) : MKN σ s9 z a m mn := by
  have t : ∀ a : Nat, a < 88 → a ≠ 5 → a ≠ (24 + 8 * z + 4).toNat → a ≠ (24 + 8 * z + 5).toNat → a ≠ (24 + 8 * z + 6).toNat → a ≠ (24 + 8 * z + 7).toNat → ra_g s9 180 a = ra_g s3 180 a := fun a h1 h2 h3 h4 h5 h6 => by
    rw [sc a h1, o8 a h2, o7 a h6, o6 a h5, o5 a h4, o4 a h3]
  refine ⟨hz, ?_, ?_, ?_, ?_, fun a h1 h2 h3 => ?_⟩
  · have e := t (24 + 8 * z + 0).toNat (by omega) (by omega) (by omega) (by omega) (by omega) (by omega)
    rw [o3 _ (by omega), o2 _ (by omega), o1 _ (by omega)] at e
    exact e.trans v0
  · have e := t (24 + 8 * z + 1).toNat (by omega) (by omega) (by omega) (by omega) (by omega) (by omega)
    rw [o3 _ (by omega), o2 _ (by omega)] at e
    exact e.trans v1
  · have e := t (24 + 8 * z + 2).toNat (by omega) (by omega) (by omega) (by omega) (by omega) (by omega)
    rw [o3 _ (by omega)] at e
    exact e.trans v2
  · have e := t (24 + 8 * z + 3).toNat (by omega) (by omega) (by omega) (by omega) (by omega) (by omega)
    exact e.trans v3
  · rw [t a h1 h2 (by omega) (by omega) (by omega) (by omega), o3 a (by omega), o2 a (by omega), o1 a (by omega), o0 a (by omega)]
theorem WF_new {σ s : ra_V} {z a m mn : Int} (hw : WF σ) (h : MKN σ s z a m mn) (hu : US σ a m) (ht : ¬ TK σ a m (-1)) (hb : ¬ BT σ a m) (hm : 1 ≤ mn ∧ mn ≤ m) : WF s := by
  obtain ⟨⟨z0, z1, z2⟩, h0, h1, h2, h3, h4⟩ := h
  refine WF_chg (p := z) hw ⟨z0, z1⟩ (fun a ha hn => h4 a (by unfold REL at ha; omega) (by unfold REL at ha; omega) hn) (fun e => ?_) (Or.inr ⟨h0, by omega, by omega, by rw [h1, h2]; exact hu, ?_, by rw [h1, h2]; exact hb⟩)
  · have := (WF_msz hw (by omega)).2.1
    rw [e] at this
    exact z2 this
  · rw [h1, h2]
    rintro ⟨p, p0, p1, p2, p3, p4, p5⟩
    exact ht ⟨p, p0, p1, by omega, p3, p4, p5⟩
/-- a partition given a size -/
def RSZ (σ s : ra_V) (p m : Int) : Prop := wq s p 2 = m ∧ ∀ a : Nat, a < 88 → a ≠ (24 + 8 * p + 2).toNat → ra_g s 180 a = ra_g σ 180 a
theorem rsz_ch {σ s1 s2 : ra_V} {p m : Int} (hp : 0 ≤ p ∧ p < 8) (v : wq s1 p 2 = m) (o : ∀ a, a ≠ (24 + 8 * p + 2).toNat → ra_g s1 180 a = ra_g σ 180 a) (sc : SC s1 s2) : RSZ σ s2 p m :=
  ⟨(sc (24 + 8 * p + 2).toNat (by omega)).trans v, fun a h1 h2 => (sc a h1).trans (o a h2)⟩
theorem WF_rsz {σ s : ra_V} {p m : Int} (hw : WF σ) (hp : 0 ≤ p ∧ p < 8 ∧ wq σ p 0 = 1) (hm : ra_g σ 180 16 ≠ p) (h : RSZ σ s p m) (hz : SZK σ p m) : WF s := by
  obtain ⟨p0, p1, p2⟩ := hp
  have hq := WF_p hw p0 p1 p2
  obtain ⟨v, o⟩ := h
  obtain ⟨k1, k2, k3, k4⟩ := hz
  have e0 : wq s p 0 = wq σ p 0 := o _ (by omega) (by omega)
  have e1 : wq s p 1 = wq σ p 1 := o _ (by omega) (by omega)
  have e3 : wq s p 3 = wq σ p 3 := o _ (by omega) (by omega)
  refine WF_chg (p := p) hw ⟨p0, p1⟩ (fun a ha hn => o a (by unfold REL at ha; omega) (by omega)) hm (Or.inr ⟨by omega, by omega, by omega, by rw [e1, v]; exact k2, by rw [e1, v]; exact k3, ?_⟩)
  rw [e1, v]
  rintro ⟨b1, b2, b3, b4⟩
  have hv := WF_m hw b1
  have ha := hv.2.2.2.2.2.2.2.2.2.2 p p0 p1 (Ne.symm hm) p2
  have hz := (WF_msz hw b1).2.2
  have ha : ra_g σ 180 18 + wq σ (ra_g σ 180 16) 2 ≤ wq σ p 1 ∨ wq σ p 1 + wq σ p 2 ≤ ra_g σ 180 18 := ha
  rcases ha with ha | ha
  · omega
  · exact k4 ⟨b1, by omega, by omega, by omega⟩
end RB
