/-! T5: packed rows of states with the same row *-/
section
section
variable {σ s t s0 s1 s2 s3 τ : ra_V} {p to : Int} {n : Nat}
theorem x5lstF_k (h : s 180 = σ 180) : x5lstF s p = x5lstF σ p := by
  have e : (fun k => x5whyM s p k (ra_g s 180 4) = 0) = fun k => x5whyM σ p k (ra_g σ 180 4) = 0 := funext fun k => by rw [x5whyM_k h, ra_gk h]
  have q : x5LST (fun k => x5whyM s p k (ra_g s 180 4) = 0) 0 (wq s p 1) = x5LST (fun k => x5whyM σ p k (ra_g σ 180 4) = 0) 0 (wq σ p 1) := by rw [e, wq_k h]
  unfold x5lstF
  rw [q]
theorem x5bg_r (h : s 180 = σ 180) : x5bgV s p to 180 = x5bgV σ p to 180 := by
  have e : x5sclF s p to = x5sclF σ p to := show x5sclF (fun _ => s 180) p to = x5sclF (fun _ => σ 180) p to by rw [h]
  unfold x5bgV
  rw [e, wq_k h, ra_gk h]
  exact x5up_r (x5up_r (x5up_r (x5up_r (x5up_r (x5up_r (x5up_r h))))))
theorem x5run_r (h : s 180 = σ 180) : x5runV n s 180 = x5runV n σ 180 := by
  unfold x5runV
  rw [x5cnv_k h, ra_gk h]
  exact x5up_r (x5itv_r h n)
theorem x5pk1_r (h : s 180 = σ 180) : x5pk1 s p 180 = x5pk1 σ p 180 := by
  unfold x5pk1
  rw [x5lstF_k h]
  split
  · exact h
  · exact x5run_r (x5bg_r h)
theorem x5pkV_r (h : s 180 = σ 180) : ∀ k : Nat, x5pkV k s 180 = x5pkV k σ 180
  | 0 => h
  | k + 1 => by
    show x5pk1 (x5pkV k s) (x5ordN s k) 180 = x5pk1 (x5pkV k σ) (x5ordN σ k) 180
    rw [x5ord_k h]
    exact x5pk1_r (x5pkV_r h k)
theorem x5pkN_k (h : s 180 = σ 180) : ∀ k : Nat, x5pkN k s = x5pkN k σ
  | 0 => rfl
  | k + 1 => by
    show x5pkN k s + (if x5lstF (x5pkV k s) (x5ordN s k) = -1 then 0 else 1) = x5pkN k σ + (if x5lstF (x5pkV k σ) (x5ordN σ k) = -1 then 0 else 1)
    rw [x5pkN_k h k, x5ord_k h, x5lstF_k (x5pkV_r h k)]
theorem x5pks_k (h : s 180 = σ 180) (q : SC (x5pkV (ct s (-1)).toNat s) t) : SC (x5pkV (ct σ (-1)).toNat σ) t := by
  rw [ct_k h] at q
  exact fun a ha => (q a ha).trans (ra_gk (x5pkV_r h _))
theorem x5cs_f (k0 : s0 180 = σ 180) (c1 : CPO s0 s1 180 182 0 0 688) (k2 : s2 182 = s1 182) (c2 : CPO s2 s3 182 180 0 0 688) : x5FS σ s3 := fun a hl => by
  rw [c2 a, if_pos (by omega), show ((a : Int) - 0 + 0).toNat = a by omega, ra_gk k2, c1 a, if_pos (by omega), show ((a : Int) - 0 + 0).toNat = a by omega, ra_gk k0]
end
end
