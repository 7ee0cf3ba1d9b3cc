/-! T5: the class's gaps (printed by wip/gen/c8.py) -/
section
variable {τ : ra_V} {nh : Int} {R : Nat → ra_V}
theorem s5_175 {n : Nat} {f : Nat → Int32} {d : Nat}  {σ : ra_V} (hT : x5CT τ σ 1) (hW : x5W2 τ) : ra_C (g_Gs n f) g_sh 0 (d + 6) 175 [.index (0)] σ (fun r9 s => rR 172 r9 ∧ Fr (172) (175) σ s ∧ x5GFC τ s) := by
  refine ra_enter (nn := 0) mt_175 rfl (Nat.le_of_ble_eq_true rfl) rfl (fun h => absurd h (by decide +kernel)) ?_
  refine ra_load rfl rfl rfl rfl ?_
  refine ra_getR rfl lk_7_32 (Nat.zero_le _) sh_0 rfl ?_
  refine ra_load rfl rfl rfl rfl ?_
  refine ra_getR rfl lk_7_10 (Nat.zero_le _) sh_0 rfl ?_
  refine ra_cV (s5_48 isD_1 rfl (by first | assumption | rfl | omega) (by first | assumption | rfl | omega)) rfl (ct_48 rfl lk_7_437 (Or.inl rfl) sh_172 (Nat.le_of_ble_eq_true rfl)) (fun s1 hs1 => ?_)
  obtain ⟨hf2, he3⟩ := hs1
  have hF4 := Fr_tr (lo := 172) (hi := 175) Fr_rf hf2 (by omega)
  refine ra_load rfl rfl rfl rfl ?_
  refine ra_getR rfl lk_7_32 (Nat.zero_le _) sh_0 rfl ?_
  exact ra_areturn rfl rfl ⟨rfl, ⟨hF4, he3⟩⟩
end
