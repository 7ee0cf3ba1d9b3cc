/-! T5: what holds of the table between two calls -/
section
section
variable {σ s t τ υ ρ ρ2 : ra_V} {c n z : Int} {V V2 : Int → Prop} {E1 E2 E3 : String} {R R2 : Nat → ra_V} {r : ra_R}
def x5SAV (σ : ra_V) : Prop := (ra_g σ 0 3 ≠ 0 ↔ ra_g σ 179 6 ≠ 0) ∧ (ra_g σ 0 3 ≠ 0 → x5CT (rowV σ 183 0) σ 27 ∧ x5W2 (rowV σ 183 0))
/-- the class's disk, what it saved, what it can undo: the reference's -/
def x5TRL (σ : ra_V) : Prop := x5CT σ σ 1 ∧ x5W2 σ ∧ x5SAV σ ∧ x5HQ (ra_g σ 179 5) (fun i => rowV σ 184 (688 * i)) σ
theorem x5SC_sy (h : SC σ s) : SC s σ := fun a ha => (h a ha).symm
theorem x5rowV_e {k off : Nat} (h : s k = σ k) : rowV s k off = rowV σ k off := by
  funext a j
  show s k (off + j) = σ k (off + j)
  rw [h]
theorem x5sav_k (h : x5SAV σ) (h0 : ra_g t 0 3 = ra_g σ 0 3) (h27 : ∀ c, 27 ≤ c → c < 40 → t c = σ c) (h183 : t 183 = σ 183) (h6 : ra_g t 179 6 = ra_g σ 179 6) : x5SAV t := by
  unfold x5SAV
  rw [h0, h6, x5rowV_e h183]
  exact ⟨h.1, fun q => ⟨x5CT_d (fun c c1 c2 => h27 c c1 (by omega)) (h.2 q).1, (h.2 q).2⟩⟩
theorem x5trl_i (hT : x5CT ρ t 1) (hS : SC ρ t) (hW : WF t) (h3 : x5W3 ρ) (hV : x5SAV t) (hH : x5HQ n R t) (hn : ra_g t 179 5 = n) (hR : ∀ i : Nat, (i : Int) < n → SC (R i) (rowV t 184 (688 * i))) : x5TRL t := by
  have hWr : WF ρ := WF_sc (x5SC_sy hS) hW
  have ha := WF_a hWr
  refine ⟨x5CT_sc hS hWr hT, ⟨hW, x5W3_sc (by unfold WFa at ha; omega) hS h3⟩, hV, ?_⟩
  rw [hn]
  exact x5hq_sc hH hR
/-- nothing of the table has changed -/
theorem x5trl_k (h : x5TRL σ) (hk : ∀ c : Nat, c < 172 → (c < 14 ∨ 27 ≤ c) → t c = σ c) (h180 : SC σ t) (hW : WF t) (h183 : t 183 = σ 183) (h184 : t 184 = σ 184) (h5 : ra_g t 179 5 = ra_g σ 179 5) (h6 : ra_g t 179 6 = ra_g σ 179 6) : x5TRL t := by
  obtain ⟨a1, a2, a3, a4⟩ := h
  refine x5trl_i (x5CT_d (fun c c1 c2 => hk c (by omega) (by omega)) a1) h180 hW a2.2 (x5sav_k a3 (ra_gk (hk 0 (by omega) (by omega))) (fun c c1 c2 => hk c (by omega) (by omega)) h183 h6) (x5hq_k (fun c c1 c2 => hk c c2 (by omega)) a4) h5 (fun i hi => ?_)
  rw [x5rowV_e h184]
  exact SC_rf
/-- a call that changes the table: on both sides -/
theorem x5trl_c (h : x5TRL σ) (hc : x5CO c V E1 E2 E3 ρ σ (ra_g σ 179 5) (fun i => rowV σ 184 (688 * i)) σ s r) (hr : x5RO c V2 ρ2 s t z) (hq : SC ρ ρ2) (hW : WF t) (h3 : c = 0 → x5W3 ρ) (ht : ∀ k : Nat, k < 179 → t k = s k) (h183 : t 183 = s 183) (h6 : ra_g t 179 6 = ra_g s 179 6) : x5TRL t := by
  obtain ⟨k1, k2⟩ := hc
  have s180 : s 180 = σ 180 := k1 180 (by omega)
  have s184 : s 184 = σ 184 := k1 184 (by omega)
  have s179 : s 179 = σ 179 := k1 179 (by omega)
  have hs : x5SAV t := x5sav_k h.2.2.1 (ra_gk ((ht 0 (by omega)).trans (k1 0 (by omega)))) (fun c c1 c2 => (ht c (by omega)).trans (k1 c (by omega))) (h183.trans (k1 183 (by omega))) (h6.trans (ra_gk s179))
  rcases k2 with ⟨c0, -, hT, hH⟩ | ⟨c0, kk, -⟩
  · obtain ⟨-, ⟨-, -, hS, hP⟩ | ⟨q, -⟩⟩ := hr
    · have hP2 := x5psh_s (ra_gk s179) s184 s180 hP
      refine x5trl_i (x5CT_d (fun c c1 c2 => ht c (by omega)) hT) (SC_tr hq hS) hW (h3 c0) hs (x5hq_k (fun c c1 c2 => ht c (by omega)) hH) hP2.1 (fun i hi => x5FS_sc (hP2.2 i (by rw [hP2.1]; exact hi)))
    · exact absurd c0 q
  · obtain ⟨-, ⟨q, -⟩ | ⟨-, t180, t5, t184⟩⟩ := hr
    · exact absurd q c0
    · exact x5trl_k h (fun c c1 c2 => (ht c (by omega)).trans (kk c c1)) (SC_k (t180.trans s180)) hW (h183.trans (k1 183 (by omega))) (t184.trans s184) (t5.trans (ra_gk s179)) (h6.trans (ra_gk s179))
end
end
