/-! what was is remembered -/
section RB
theorem rem_a {σ s1 s2 s3 s4 : ra_V} (hw : WF σ) (hp : PW σ) (h10 : ra_g σ 179 5 = 10) (c1 : CPO σ s1 184 184 688 0 6192) (k1 : s2 184 = s1 184) (w2 : s2 180 = σ 180) (p2 : ra_g s2 179 5 = 9)
    (c2 : CPO s2 s3 180 184 0 (688 * ra_g s2 179 5) 688) (p4 : ra_g s4 179 5 = ra_g s2 179 5 + 1) (k4 : s4 184 = s3 184) : PW s4 := by
  refine pw_push (WF_k w2 hw) (by omega) (by omega) (fun i hi => ?_) c2 p4 k4
  refine WF_sc (σ := rowV s1 184 (688 * i)) (fun a _ => ?_) (pw_shift (fun j hj => hp.2 j (by omega)) c1 i (by omega))
  rw [rowV_g, rowV_g]
  exact ra_gk k1
theorem rem_b {σ s3 s4 : ra_V} (hw : WF σ) (hp : PW σ) (h10 : ra_g σ 179 5 ≠ 10) (c2 : CPO σ s3 180 184 0 (688 * ra_g σ 179 5) 688) (p4 : ra_g s4 179 5 = ra_g σ 179 5 + 1) (k4 : s4 184 = s3 184) : PW s4 := by
  obtain ⟨⟨h0, h1⟩, h2⟩ := hp
  exact pw_push hw h0 (by omega) h2 c2 p4 k4
end RB
