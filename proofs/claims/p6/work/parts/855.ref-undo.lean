/-! undone, saved, restored -/
section RB
theorem ud_w {σ s2 s3 : ra_V} (hpw : PW σ) (h0 : ra_g σ 179 5 ≠ 0) (v : ra_g s2 179 5 = ra_g σ 179 5 - 1) (k : s2 184 = σ 184) (c : CPO s2 s3 184 180 (688 * ra_g s2 179 5) 0 688) (f5 : ra_g s3 179 5 = ra_g s2 179 5) (k3 : s3 184 = s2 184) : WF s3 ∧ PW s3 := by
  obtain ⟨p1, p2⟩ := hpw
  refine ⟨?_, by omega, fun i hi => ?_⟩
  · refine WF_sc (σ := rowV σ 184 (688 * (ra_g σ 179 5 - 1).toNat)) (fun a ha => ?_) (p2 _ (by omega))
    rw [rowV_g, c, if_pos (by omega), ra_gk k]
    congr 1
    omega
  · refine WF_sc (σ := rowV σ 184 (688 * i)) (fun a ha => ?_) (p2 i (by omega))
    rw [rowV_g, rowV_g]
    exact ra_gk (k3.trans k)
theorem sv_w {σ s0 s1 s2 : ra_V} (hw : WF σ) (k0 : s0 180 = σ 180) (c : CPO s0 s1 180 183 0 0 688) (k : s2 183 = s1 183) : WF (rowV s2 183 0) := by
  refine WF_sc (σ := σ) (fun a ha => ?_) hw
  rw [rowV_g, ra_gk k, c, if_pos (by omega), ra_gk k0]
  congr 1
  omega
theorem rs_w {σ s0 s1 s2 : ra_V} (hs : WF (rowV σ 183 0)) (k0 : s0 183 = σ 183) (c : CPO s0 s1 183 180 0 0 688) (k : s2 180 = s1 180) (v : ra_g s2 179 5 = 0) : WF s2 ∧ PW s2 := by
  refine ⟨WF_sc (σ := rowV σ 183 0) (fun a ha => ?_) hs, by omega, fun i hi => by omega⟩
  rw [rowV_g, ra_gk k, c, if_pos (by omega), ra_gk k0]
  congr 1
  omega
end RB
