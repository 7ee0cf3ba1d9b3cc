/-! T5: small things -/
section
section
variable {σ s t τ : ra_V} {j : Nat} {m : Int}
theorem x5scz_k (h : s 180 = σ 180) (q : SC (x5up s j m) t) : SC (x5up σ j m) t := fun b hb => by
  rw [q b hb]
  by_cases c : b = j
  · rw [c, x5uo_y, x5uo_y]
  · rw [x5uo_n c, x5uo_n c]; exact ra_gk h
end
end
