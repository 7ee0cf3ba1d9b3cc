/-! T5: steps of a state with the same row -/
section
section
variable {σ s t τ : ra_V} {j : Nat} {m : Int}
theorem x5up_r (h : s 180 = σ 180) : x5up s j m 180 = x5up σ j m 180 := by
  funext a
  unfold x5up ra_up
  rw [h]
theorem x5st0_r (h : s 180 = σ 180) : x5st0 s 180 = x5st0 σ 180 := by
  have ez : msz s = msz σ := by unfold msz; rw [ra_gk h, wq_k h]
  have ec : rch s = rch σ := by unfold rch; rw [ez, ra_gk h]
  have en : rnx s = rnx σ := by unfold rnx; rw [ec, ra_gk (j := 18) h, ra_gk (j := 17) h, ra_gk (j := 21) h]
  have ef : rfb s = rfb σ := by unfold rfb; rw [en, ra_gk h]
  have eb : rbn s = rbn σ := by unfold rbn; rw [ez, ef, ra_gk h]
  have ed : rds s = rds σ := by unfold rds; rw [ra_gk (j := 17) h, ra_gk (j := 18) h]
  unfold x5st0
  rw [ed, eb, ra_gk (j := 22) h, ra_gk (j := 21) h, ec, ra_gk (j := 16) h, ra_gk (j := 18) h, wq_k h, ra_gk (j := 8) h]
  split
  · exact x5up_r h
  · split
    · exact x5up_r (x5up_r h)
    · exact x5up_r (x5up_r (x5up_r (x5up_r (x5up_r (x5up_r h)))))
theorem x5st1_r (h : s 180 = σ 180) : x5st1 s 180 = x5st1 σ 180 := by
  unfold x5st1
  rw [ra_gk (j := 16) h]
  split
  · exact h
  · exact x5st0_r h
theorem x5itv_r (h : s 180 = σ 180) : ∀ k : Nat, x5itv k s 180 = x5itv k σ 180
  | 0 => h
  | k + 1 => x5st1_r (x5itv_r h k)
theorem x5cnv_k (h : s 180 = σ 180) : ∀ {k : Nat}, x5cnv k s = x5cnv k σ
  | 0 => rfl
  | k + 1 => by
    show x5cnv k s + (if ra_g (x5itv k s) 180 16 = -1 then 0 else 1) = x5cnv k σ + (if ra_g (x5itv k σ) 180 16 = -1 then 0 else 1)
    rw [x5cnv_k h, ra_gk (x5itv_r h k)]
theorem x5runV_k {k : Nat} (h : s 180 = σ 180) (q : SC (x5runV k s) t) : SC (x5runV k σ) t := by
  unfold x5runV at *
  rw [x5cnv_k h, ra_gk h] at q
  exact x5scz_k (x5itv_r h k) q
end
end
