/-! T5: what the reference's call comes to, of the row ahead of the class's call -/
section
section
variable {σ s t τ : ra_V} {a m k mn x y z : Int} {V : Int → Prop}
theorem x5rok_rm (h : s 180 = σ 180) (q : x5RO (x5dcRm s x) V (x5up s (24 + 8 * x + 0).toNat 0) s t z) : ∃ ρ, x5RO (x5dcRm σ x) V ρ s t z ∧ SC (x5up σ (24 + 8 * x + 0).toNat 0) ρ := by
  refine ⟨x5up s (24 + 8 * x + 0).toNat 0, ?_, ?_⟩
  · have e : x5dcRm σ x = x5dcRm s x := (show x5dcRm (fun _ => σ 180) x = x5dcRm (fun _ => s 180) x by rw [h])
    rw [e]; exact q
  · have e : x5up s (24 + 8 * x + 0).toNat 0 180 = x5up σ (24 + 8 * x + 0).toNat 0 180 := (show x5up (fun _ => s 180) (24 + 8 * x + 0).toNat 0 180 = x5up (fun _ => σ 180) (24 + 8 * x + 0).toNat 0 180 by rw [h])
    exact SC_k e
theorem x5rok_lk (h : s 180 = σ 180) (q : x5RO (x5dcLk s x) V (x5up s (24 + 8 * x + 5).toNat y) s t z) : ∃ ρ, x5RO (x5dcLk σ x) V ρ s t z ∧ SC (x5up σ (24 + 8 * x + 5).toNat y) ρ := by
  refine ⟨x5up s (24 + 8 * x + 5).toNat y, ?_, ?_⟩
  · have e : x5dcLk σ x = x5dcLk s x := (show x5dcLk (fun _ => σ 180) x = x5dcLk (fun _ => s 180) x by rw [h])
    rw [e]; exact q
  · have e : x5up s (24 + 8 * x + 5).toNat y 180 = x5up σ (24 + 8 * x + 5).toNat y 180 := (show x5up (fun _ => s 180) (24 + 8 * x + 5).toNat y 180 = x5up (fun _ => σ 180) (24 + 8 * x + 5).toNat y 180 by rw [h])
    exact SC_k e
theorem x5rok_rz (h : s 180 = σ 180) (q : x5RO (x5dcRz s x m) V (x5up s (24 + 8 * x + 2).toNat m) s t z) : ∃ ρ, x5RO (x5dcRz σ x m) V ρ s t z ∧ SC (x5up σ (24 + 8 * x + 2).toNat m) ρ := by
  refine ⟨x5up s (24 + 8 * x + 2).toNat m, ?_, ?_⟩
  · have e : x5dcRz σ x m = x5dcRz s x m := (show x5dcRz (fun _ => σ 180) x m = x5dcRz (fun _ => s 180) x m by rw [h])
    rw [e]; exact q
  · have e : x5up s (24 + 8 * x + 2).toNat m 180 = x5up σ (24 + 8 * x + 2).toNat m 180 := (show x5up (fun _ => s 180) (24 + 8 * x + 2).toNat m 180 = x5up (fun _ => σ 180) (24 + 8 * x + 2).toNat m 180 by rw [h])
    exact SC_k e
theorem x5rok_mn (h : s 180 = σ 180) (q : x5RO (x5dcMn s x m) V (x5up s (24 + 8 * x + 3).toNat m) s t z) : ∃ ρ, x5RO (x5dcMn σ x m) V ρ s t z ∧ SC (x5up σ (24 + 8 * x + 3).toNat m) ρ := by
  refine ⟨x5up s (24 + 8 * x + 3).toNat m, ?_, ?_⟩
  · have e : x5dcMn σ x m = x5dcMn s x m := (show x5dcMn (fun _ => σ 180) x m = x5dcMn (fun _ => s 180) x m by rw [h])
    rw [e]; exact q
  · have e : x5up s (24 + 8 * x + 3).toNat m 180 = x5up σ (24 + 8 * x + 3).toNat m 180 := (show x5up (fun _ => s 180) (24 + 8 * x + 3).toNat m 180 = x5up (fun _ => σ 180) (24 + 8 * x + 3).toNat m 180 by rw [h])
    exact SC_k e
theorem x5rok_set (h : s 180 = σ 180) (q : x5RO (x5dcSet x m) V (x5up s x.toNat m) s t z) : ∃ ρ, x5RO (x5dcSet x m) V ρ s t z ∧ SC (x5up σ x.toNat m) ρ := by
  refine ⟨x5up s x.toNat m, ?_, ?_⟩
  · exact q
  · have e : x5up s x.toNat m 180 = x5up σ x.toNat m 180 := (show x5up (fun _ => s 180) x.toNat m 180 = x5up (fun _ => σ 180) x.toNat m 180 by rw [h])
    exact SC_k e
theorem x5rok_bg (h : s 180 = σ 180) (q : x5RO (x5dcBg s x m) V (x5bgV s x m) s t z) : ∃ ρ, x5RO (x5dcBg σ x m) V ρ s t z ∧ SC (x5bgV σ x m) ρ := by
  refine ⟨x5bgV s x m, ?_, ?_⟩
  · have e : x5dcBg σ x m = x5dcBg s x m := (show x5dcBg (fun _ => σ 180) x m = x5dcBg (fun _ => s 180) x m by rw [h])
    rw [e]; exact q
  · have e : x5bgV s x m 180 = x5bgV σ x m 180 := (show x5bgV (fun _ => s 180) x m 180 = x5bgV (fun _ => σ 180) x m 180 by rw [h])
    exact SC_k e
theorem x5rok_tr (h : s 180 = σ 180) (q : x5RO (x5dcTr s) V (x5up s 7 (ra_g s 180 7 + 1)) s t z) : ∃ ρ, x5RO (x5dcTr σ) V ρ s t z ∧ SC (x5up σ 7 (ra_g σ 180 7 + 1)) ρ := by
  refine ⟨x5up s 7 (ra_g s 180 7 + 1), ?_, ?_⟩
  · have e : x5dcTr σ = x5dcTr s := (show x5dcTr (fun _ => σ 180) = x5dcTr (fun _ => s 180) by rw [h])
    rw [e]; exact q
  · have e : x5up s 7 (ra_g s 180 7 + 1) 180 = x5up σ 7 (ra_g σ 180 7 + 1) 180 := (show x5up (fun _ => s 180) 7 (ra_g (fun _ => s 180) 180 7 + 1) 180 = x5up (fun _ => σ 180) 7 (ra_g (fun _ => σ 180) 180 7 + 1) 180 by rw [h])
    exact SC_k e
end
end
