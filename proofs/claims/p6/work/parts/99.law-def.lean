/-! the law: what holds between two calls -/
section RL
theorem n32_f2d {x : UInt32} (h : vf_n32 x) : vf_n64 (FP.f2d x) := by
  unfold vf_n32 at h
  rw [UInt32.le_iff_toNat_le, UInt32.toNat_and] at h
  have e : (0x7fffffff : UInt32).toNat = 2 ^ 31 - 1 := by decide
  rw [e, Nat.and_two_pow_sub_one_eq_mod] at h
  have e2 : (0x7f800000 : UInt32).toNat = 2139095040 := by decide
  rw [e2] at h
  have h2 := FP.f2d_nan x
  refine ra_n64 ?_
  by_cases c : (FP.f2d x).toNat % 2 ^ 63 ≤ 2047 * 2 ^ 52
  · exact c
  · have d := (FP.Core.isNaN_bits (FP.f2d x)).mpr (Nat.lt_of_not_le c)
    have d2 : FP.Core.dIsNaN (FP.f2d x) = FP.Core.fIsNaN x := h2
    rw [d] at d2
    have d3 := (FP.Core.isNaN_bits32 x).mp d2.symm
    omega
section
variable {G : ri_Tb} {sh : ra_Sh} {b d mi pc a c h ct u v : Nat} {M : ri_Mt} {L : List (Option Jvm.Term)} {st rest args : List Jvm.Term} {σ : ra_V} {Q : ra_Q} {i : Instr} {E nm : String} {l : List (Nat × Nat × Nat × Nat)} {q : String × String × Bool}
theorem ra_f2d {x : UInt32} (hd : (ri_co M)[pc]? = some (some (.f2d, 1))) (hx : vf_n32 x) (kk : ra_P G sh b d M (pc + 1) L (ri_fD (FP.f2d x) :: st) σ Q) : ra_P G sh b d M pc L (ri_fF x :: st) σ Q :=
  ra_pure hd (fun lv hl => ⟨lv, hl, by
    have e := n32_f2d hx
    unfold vf_n64 at e
    rw [ra_fF_e]
    show (if FP.f2d x.toInt32.toUInt32 &&& 0x7fffffffffffffff ≤ 0x7ff0000000000000 then some (1, lv, ri_fD (FP.f2d x.toInt32.toUInt32) :: st) else none) = _
    rw [show x.toInt32.toUInt32 = x from rfl, if_pos e]⟩) kk
theorem fd_y (h1 : a ≤ pc) (h2 : pc < c) (hl : ri_cp G M ct = some (5, u, v, nm)) (hn : (ri_nc G).find? (fun q => q.1 == E && q.2.1 == nm) = some q) (hq : q.2.2 = true) (h0 : ct ≠ 0) : ri_find G M pc E ((a, c, h, ct) :: l) = some (some h) := by
  unfold ri_find
  rw [if_pos ⟨h1, h2⟩, hl]
  show (match (ri_nc G).find? (fun q => q.1 == E && q.2.1 == nm) with | some q => if ct = 0 then none else if q.2.2 = true then some (some h) else ri_find G M pc E l | none => none) = _
  rw [hn]
  (try dsimp only)
  rw [if_neg h0, if_pos hq]
theorem fd_n {r : Option (Option Nat)} (h1 : a ≤ pc) (h2 : pc < c) (hl : ri_cp G M ct = some (5, u, v, nm)) (hn : (ri_nc G).find? (fun q => q.1 == E && q.2.1 == nm) = some q) (hq : q.2.2 = false) (h0 : ct ≠ 0) (k : ri_find G M pc E l = r) : ri_find G M pc E ((a, c, h, ct) :: l) = r := by
  unfold ri_find
  rw [if_pos ⟨h1, h2⟩, hl]
  show (match (ri_nc G).find? (fun q => q.1 == E && q.2.1 == nm) with | some q => if ct = 0 then none else if q.2.2 = true then some (some h) else ri_find G M pc E l | none => none) = _
  rw [hn]
  (try dsimp only)
  rw [if_neg h0, hq]
  exact k
end
def CH (σ s : ra_V) : Prop := (∀ k, 175 ≤ k → k < 191 → k ≠ 177 → k ≠ 178 → s k = σ k) ∧ CI s
def RF (σ : ra_V) : Prop := WF σ ∧ PW σ ∧ (ra_g σ 179 6 ≠ 0 → WF (rowV σ 183 0)) ∧ (0 ≤ ra_g σ 179 12 ∧ ra_g σ 179 12 ≤ 500) ∧ (0 ≤ ra_g σ 179 25 ∧ ra_g σ 179 25 ≤ 150)
/-- the bytes of both sides, what was wrong with the last text -/
def BEQ (σ : ra_V) : Prop := (∀ i : Nat, (i : Int) < ra_g σ 179 12 → ra_g σ 176 i = ra_g σ 187 i ∧ 0 ≤ ra_g σ 176 i) ∧ ra_g σ 175 2 = ra_g σ 179 13 ∧ ra_g σ 175 3 = ra_g σ 179 14
def LIV (σ : ra_V) : Prop := CI σ ∧ RF σ ∧ ra_g σ 175 1 = ra_g σ 179 12 ∧ BEQ σ
def RH (σ s : ra_V) : Prop := RF s ∧ (∀ k, k < 179 → s k = σ k) ∧ ra_g s 179 12 = ra_g σ 179 12 ∧ s 187 = σ 187 ∧ ra_g s 179 13 = ra_g σ 179 13 ∧ ra_g s 179 14 = ra_g σ 179 14
section
variable {σ s t : ra_V}
theorem ch_e (h : s = σ) (hc : CI σ) : CH σ s := by rw [h]; exact ⟨fun _ _ _ _ _ => rfl, hc⟩
theorem ch_op (h : Fr 0 175 σ s ∧ CI s) : CH σ s := ⟨fun k h1 h2 _ _ => h.1 k (by omega), h.2⟩
theorem ch_ga (h : Fr 172 175 σ s) (hc : CI σ) : CH σ s := ⟨fun k h1 h2 _ _ => h k (by omega), CI_fr hc h (by omega)⟩
theorem ch_oo (h : Fr 177 179 σ s) (hc : CI σ) : CH σ s := ⟨fun k h1 h2 _ _ => h k (by omega), CI_fr hc h (by omega)⟩
theorem ch_up (h : CH σ s) (hf : Fr 191 192 s t) : CH σ t := ⟨fun k h1 h2 h3 h4 => (hf k (by omega)).trans (h.1 k h1 h2 h3 h4), CI_fr h.2 hf (by omega)⟩
theorem wf_row {k off : Nat} (h : s k = σ k) (q : WF (rowV σ k off)) : WF (rowV s k off) := by
  have e : rowV s k off = rowV σ k off := by
    funext a j
    show s k (off + j) = σ k (off + j)
    rw [h]
  rw [e]; exact q
theorem RF_k (h1 : s 179 = σ 179) (h2 : s 180 = σ 180) (h3 : s 183 = σ 183) (h4 : s 184 = σ 184) (h : RF σ) : RF s := by
  obtain ⟨a, b, c, d, e⟩ := h
  refine ⟨WF_k h2 a, PW_k b (ra_gk h1) h4, fun q => ?_, ?_, ?_⟩
  · rw [ra_gk h1] at q
    exact wf_row h3 (c q)
  · rw [ra_gk h1]; exact d
  · rw [ra_gk h1]; exact e
theorem RF_c (h : CH σ s) (q : RF σ) : RF s := RF_k (h.1 179 (by omega) (by omega) (by omega) (by omega)) (h.1 180 (by omega) (by omega) (by omega) (by omega)) (h.1 183 (by omega) (by omega) (by omega) (by omega)) (h.1 184 (by omega) (by omega) (by omega) (by omega)) q
theorem rh_q (h : RF σ) (q : Fr 179 187 σ s ∧ s 180 = σ 180 ∧ s 181 = σ 181 ∧ s 182 = σ 182 ∧ s 183 = σ 183 ∧ s 184 = σ 184 ∧ ∀ a, a ≠ 7 → a ≠ 10 → ra_g s 179 a = ra_g σ 179 a) : RH σ s := by
  obtain ⟨a, b, c, d, e⟩ := h
  obtain ⟨q0, q1, -, -, q4, q5, q6⟩ := q
  have e6 := q6 6 (by decide) (by decide)
  have e12 := q6 12 (by decide) (by decide)
  have e25 := q6 25 (by decide) (by decide)
  have e13 := q6 13 (by decide) (by decide)
  have e14 := q6 14 (by decide) (by decide)
  exact ⟨⟨WF_k q1 a, PW_k b (q6 5 (by decide) (by decide)) q5, fun q => wf_row q4 (c (by rw [← e6]; exact q)), by omega, by omega⟩, fun k hk => q0 k (by omega), e12, q0 187 (by omega), e13, e14⟩
theorem rh_m (h : RF σ) (q : Fr 179 191 σ s ∧ s 183 = σ 183 ∧ s 187 = σ 187 ∧ (∀ a, a ≠ 5 → a ≠ 7 → a ≠ 10 → ra_g s 179 a = ra_g σ 179 a) ∧ WF s ∧ PW s) : RH σ s := by
  obtain ⟨a, b, c, d, e⟩ := h
  obtain ⟨q0, q1, q7, q2, q3, q4⟩ := q
  have e6 := q2 6 (by decide) (by decide) (by decide)
  have e12 := q2 12 (by decide) (by decide) (by decide)
  have e25 := q2 25 (by decide) (by decide) (by decide)
  have e13 := q2 13 (by decide) (by decide) (by decide)
  have e14 := q2 14 (by decide) (by decide) (by decide)
  exact ⟨⟨q3, q4, fun q => wf_row q1 (c (by rw [← e6]; exact q)), by omega, by omega⟩, fun k hk => q0 k (by omega), e12, q7, e13, e14⟩
theorem rh_s (h : RF σ) (q : Fr 179 184 σ s ∧ s 180 = σ 180 ∧ s 184 = σ 184 ∧ (∀ a, a ≠ 6 → a ≠ 7 → ra_g s 179 a = ra_g σ 179 a) ∧ WF (rowV s 183 0)) : RH σ s := by
  obtain ⟨a, b, c, d, e⟩ := h
  obtain ⟨q0, q1, q2, q3, q4⟩ := q
  have e12 := q3 12 (by decide) (by decide)
  have e25 := q3 25 (by decide) (by decide)
  have e13 := q3 13 (by decide) (by decide)
  have e14 := q3 14 (by decide) (by decide)
  exact ⟨⟨WF_k q1 a, PW_k b (q3 5 (by decide) (by decide)) q2, fun _ => q4, by omega, by omega⟩, fun k hk => q0 k (by omega), e12, q0 187 (by omega), e13, e14⟩
theorem rh_p (h : RF σ) (q : Fr 179 191 σ s ∧ s 180 = σ 180 ∧ s 183 = σ 183 ∧ s 184 = σ 184 ∧ s 187 = σ 187 ∧ (∀ a, a ≠ 7 → a ≠ 25 → ra_g s 179 a = ra_g σ 179 a) ∧ 0 ≤ ra_g s 179 25 ∧ ra_g s 179 25 ≤ 150) : RH σ s := by
  obtain ⟨a, b, c, d, e⟩ := h
  obtain ⟨q0, q1, q2, q3, q7, q4, q5⟩ := q
  have e6 := q4 6 (by decide) (by decide)
  have e12 := q4 12 (by decide) (by decide)
  have e13 := q4 13 (by decide) (by decide)
  have e14 := q4 14 (by decide) (by decide)
  exact ⟨⟨WF_k q1 a, PW_k b (q4 5 (by decide) (by decide)) q3, fun q => wf_row q2 (c (by rw [← e6]; exact q)), by omega, by omega⟩, fun k hk => q0 k (by omega), e12, q7, e13, e14⟩
theorem liv_e (h : LIV σ) (hc : CH σ s) (hr : RH s t) : LIV t := by
  obtain ⟨h1, h2, h3, h4, h5, h6⟩ := h
  obtain ⟨c1, c2⟩ := hc
  obtain ⟨r1, r2, r3, r4, r5, r6⟩ := hr
  have k75 : t 175 = σ 175 := (r2 175 (by omega)).trans (c1 175 (by omega) (by omega) (by omega) (by omega))
  have k76 : t 176 = σ 176 := (r2 176 (by omega)).trans (c1 176 (by omega) (by omega) (by omega) (by omega))
  have k79 : s 179 = σ 179 := c1 179 (by omega) (by omega) (by omega) (by omega)
  have k87 : t 187 = σ 187 := r4.trans (c1 187 (by omega) (by omega) (by omega) (by omega))
  refine ⟨?_, r1, ?_, fun i hi => ?_, ?_, ?_⟩
  · unfold CI at *
    rw [ra_gk (r2 40 (by omega))]
    exact c2
  · rw [ra_gk k75, r3, ra_gk k79]
    exact h3
  · rw [r3, ra_gk k79] at hi
    rw [ra_gk k76, ra_gk k87]
    exact h4 i hi
  · rw [ra_gk k75, r5, ra_gk k79]
    exact h5
  · rw [ra_gk k75, r6, ra_gk k79]
    exact h6
end
theorem nc_AA : g_nc.find? (fun q => q.1 == "java/lang/IllegalArgumentException" && q.2.1 == "java/lang/IllegalArgumentException") = some ("java/lang/IllegalArgumentException", "java/lang/IllegalArgumentException", true) := by decide +kernel
theorem nc_AS : g_nc.find? (fun q => q.1 == "java/lang/IllegalArgumentException" && q.2.1 == "java/lang/IllegalStateException") = some ("java/lang/IllegalArgumentException", "java/lang/IllegalStateException", false) := by decide +kernel
theorem nc_AB : g_nc.find? (fun q => q.1 == "java/lang/IllegalArgumentException" && q.2.1 == "java/lang/IndexOutOfBoundsException") = some ("java/lang/IllegalArgumentException", "java/lang/IndexOutOfBoundsException", false) := by decide +kernel
theorem nc_AN : g_nc.find? (fun q => q.1 == "java/lang/IllegalArgumentException" && q.2.1 == "java/util/NoSuchElementException") = some ("java/lang/IllegalArgumentException", "java/util/NoSuchElementException", false) := by decide +kernel
theorem nc_SA : g_nc.find? (fun q => q.1 == "java/lang/IllegalStateException" && q.2.1 == "java/lang/IllegalArgumentException") = some ("java/lang/IllegalStateException", "java/lang/IllegalArgumentException", false) := by decide +kernel
theorem nc_SS : g_nc.find? (fun q => q.1 == "java/lang/IllegalStateException" && q.2.1 == "java/lang/IllegalStateException") = some ("java/lang/IllegalStateException", "java/lang/IllegalStateException", true) := by decide +kernel
theorem nc_SB : g_nc.find? (fun q => q.1 == "java/lang/IllegalStateException" && q.2.1 == "java/lang/IndexOutOfBoundsException") = some ("java/lang/IllegalStateException", "java/lang/IndexOutOfBoundsException", false) := by decide +kernel
theorem nc_SN : g_nc.find? (fun q => q.1 == "java/lang/IllegalStateException" && q.2.1 == "java/util/NoSuchElementException") = some ("java/lang/IllegalStateException", "java/util/NoSuchElementException", false) := by decide +kernel
theorem nc_BA : g_nc.find? (fun q => q.1 == "java/lang/IndexOutOfBoundsException" && q.2.1 == "java/lang/IllegalArgumentException") = some ("java/lang/IndexOutOfBoundsException", "java/lang/IllegalArgumentException", false) := by decide +kernel
theorem nc_BS : g_nc.find? (fun q => q.1 == "java/lang/IndexOutOfBoundsException" && q.2.1 == "java/lang/IllegalStateException") = some ("java/lang/IndexOutOfBoundsException", "java/lang/IllegalStateException", false) := by decide +kernel
theorem nc_BB : g_nc.find? (fun q => q.1 == "java/lang/IndexOutOfBoundsException" && q.2.1 == "java/lang/IndexOutOfBoundsException") = some ("java/lang/IndexOutOfBoundsException", "java/lang/IndexOutOfBoundsException", true) := by decide +kernel
theorem nc_BN : g_nc.find? (fun q => q.1 == "java/lang/IndexOutOfBoundsException" && q.2.1 == "java/util/NoSuchElementException") = some ("java/lang/IndexOutOfBoundsException", "java/util/NoSuchElementException", false) := by decide +kernel
theorem nc_NA : g_nc.find? (fun q => q.1 == "java/util/NoSuchElementException" && q.2.1 == "java/lang/IllegalArgumentException") = some ("java/util/NoSuchElementException", "java/lang/IllegalArgumentException", false) := by decide +kernel
theorem nc_NS : g_nc.find? (fun q => q.1 == "java/util/NoSuchElementException" && q.2.1 == "java/lang/IllegalStateException") = some ("java/util/NoSuchElementException", "java/lang/IllegalStateException", false) := by decide +kernel
theorem nc_NB : g_nc.find? (fun q => q.1 == "java/util/NoSuchElementException" && q.2.1 == "java/lang/IndexOutOfBoundsException") = some ("java/util/NoSuchElementException", "java/lang/IndexOutOfBoundsException", false) := by decide +kernel
theorem nc_NN : g_nc.find? (fun q => q.1 == "java/util/NoSuchElementException" && q.2.1 == "java/util/NoSuchElementException") = some ("java/util/NoSuchElementException", "java/util/NoSuchElementException", true) := by decide +kernel
end RL
