/-! T5: rows copied back -/
section
section
variable {σ s t s1 μ ν : ra_V} {x : Int}
theorem x5und_f (h : x5FS (rowV s1 184 (688 * x).toNat) s) (hx : 0 ≤ x) (h4 : s1 184 = σ 184) : x5FS (rowV σ 184 (688 * x.toNat)) s := fun a ha => by
  rw [h a ha, rowV_g, rowV_g, ra_gk h4, show (688 * x).toNat = 688 * x.toNat by omega]
theorem x5fs_k (h : t 183 = s 183) (q : x5FS σ (rowV s 183 0)) : x5FS σ (rowV t 183 0) := fun a ha => by
  rw [← q a ha, rowV_g, rowV_g]
  exact ra_gk h
theorem x5fs_r (c : CPO s1 s 183 180 0 0 688) (h3 : s1 183 = σ 183) (h0 : t 180 = s 180) : x5FS (rowV σ 183 0) t := fun a ha => by
  rw [ra_gk h0, c a, if_pos (by omega), rowV_g, ra_gk h3]
  congr 1
  omega
end
end
