/-! the reference: what its methods do (printed by wip/gen/ref.py) -/
section RB
theorem sp_196 {n : Nat} {f : Nat → Int32} {d : Nat}  {σ : ra_V} (hw : WF σ) (hp : PW σ) : ra_C (g_Gs n f) g_sh 0 (d + 2) 196 [.index (179)] σ (fun r s => rV r ∧ Fr (179) (185) σ s ∧ s (180) = σ (180) ∧ s (181) = σ (181) ∧ s (182) = σ (182) ∧ s (183) = σ (183) ∧ (∀ a, a ≠ 5 → ra_g s 179 a = ra_g σ 179 a) ∧ PW s) := by
  refine ra_enter (nn := 0) mt_196 rfl (Nat.le_of_ble_eq_true rfl) rfl (fun h => absurd h (by decide +kernel)) ?_
  have hp0 := hp.1
  refine ra_load rfl rfl rfl rfl ?_
  refine ra_getI rfl lk_8_54 (Nat.zero_le _) sh_179 rfl ?_
  have hr1 : ra_in (ra_g σ (179) 5) := (ra_in_g _ _ _)
  refine ra_bipush rfl (by decide) ?_
  refine ra_icne rfl rfl hr1 (by first | omega | (unfold ra_in at *; omega)) (fun h2 => ?_) (fun h2 => ?_)
  · refine ra_load rfl rfl rfl rfl ?_
    refine ra_getR rfl lk_8_7 (Nat.zero_le _) sh_179 rfl ?_
    refine ra_iconst rfl ?_
    refine ra_load rfl rfl rfl rfl ?_
    refine ra_getR rfl lk_8_22 (Nat.zero_le _) sh_179 rfl ?_
    refine ra_sipush rfl (by decide) ?_
    refine ra_load rfl rfl rfl rfl ?_
    refine ra_getI rfl lk_8_54 (Nat.zero_le _) sh_179 rfl ?_
    have hr3 : ra_in (ra_g σ (179) 5) := (ra_in_g _ _ _)
    refine ra_imul rfl ?_
    refine ra_sipush rfl (by decide) ?_
    refine ra_cV (sp_194 sh_180 (by decide) (by first | omega | (unfold ra_in at *; omega)) sh_184 (by decide) (by first | omega | (unfold ra_in at *; omega)) (by first | omega | (unfold ra_in at *; omega)) (by first | assumption | rfl | omega) (by first | assumption | rfl | omega)) rfl (ct_194 rfl lk_8_57 (Or.inl rfl) (Nat.le_of_ble_eq_true rfl)) (fun s4 hs4 => ?_)
    obtain ⟨hf5, he6⟩ := hs4
    have hF7 := Fr_tr (lo := 179) (hi := 185) Fr_rf hf5 (by omega)
    have hk8 : s4 (179) = σ (179) := (hf5 (179) (by omega))
    have hk9 : s4 (180) = σ (180) := (hf5 (180) (by omega))
    have hk10 : s4 (181) = σ (181) := (hf5 (181) (by omega))
    have hk11 : s4 (182) = σ (182) := (hf5 (182) (by omega))
    have hk12 : s4 (183) = σ (183) := (hf5 (183) (by omega))
    refine ra_load rfl rfl rfl rfl ?_
    refine ra_dup rfl rfl ?_
    refine ra_getI rfl lk_8_54 (Nat.zero_le _) sh_179 rfl ?_
    rw [ra_gk hk8]
    have hr13 : ra_in (ra_g σ (179) 5) := (ra_in_g _ _ _)
    refine ra_iconst rfl ?_
    refine ra_iadd rfl ?_
    refine ra_putI rfl lk_8_54 (Nat.zero_le _) sh_179 rfl rfl ?_
    refine ra_newU (by first | omega | (unfold ra_in at *; omega)) (fun s14 hs14 hp15 hp15o => ?_)
    have hF16 := Fr_tr (lo := 179) (hi := 185) hF7 hs14 (by omega)
    have hk17 : s14 (180) = σ (180) := (hs14 (180) (by omega)).trans hk9
    have hk18 : s14 (181) = σ (181) := (hs14 (181) (by omega)).trans hk10
    have hk19 : s14 (182) = σ (182) := (hs14 (182) (by omega)).trans hk11
    have hk20 : s14 (183) = σ (183) := (hs14 (183) (by omega)).trans hk12
    exact ra_return rfl rfl ⟨rfl, ⟨hF16, hk17, hk18, hk19, hk20, (fun a h5 => ((hp15o a h5).trans (ra_gk (hf5 179 (by omega))))), (rem_b hw hp (by omega) he6 (by omega) (hs14 184 (by omega)))⟩⟩
  · refine ra_load rfl rfl rfl rfl ?_
    refine ra_getR rfl lk_8_22 (Nat.zero_le _) sh_179 rfl ?_
    refine ra_sipush rfl (by decide) ?_
    refine ra_load rfl rfl rfl rfl ?_
    refine ra_getR rfl lk_8_22 (Nat.zero_le _) sh_179 rfl ?_
    refine ra_iconst rfl ?_
    refine ra_sipush rfl (by decide) ?_
    refine ra_cV (sp_194 sh_184 (by decide) (by first | omega | (unfold ra_in at *; omega)) sh_184 (by decide) (by first | omega | (unfold ra_in at *; omega)) (by first | omega | (unfold ra_in at *; omega)) (by first | assumption | rfl | omega) (by first | assumption | rfl | omega)) rfl (ct_194 rfl lk_8_57 (Or.inl rfl) (Nat.le_of_ble_eq_true rfl)) (fun s21 hs21 => ?_)
    obtain ⟨hf22, he23⟩ := hs21
    have hF24 := Fr_tr (lo := 179) (hi := 185) Fr_rf hf22 (by omega)
    have hk25 : s21 (179) = σ (179) := (hf22 (179) (by omega))
    have hk26 : s21 (180) = σ (180) := (hf22 (180) (by omega))
    have hk27 : s21 (181) = σ (181) := (hf22 (181) (by omega))
    have hk28 : s21 (182) = σ (182) := (hf22 (182) (by omega))
    have hk29 : s21 (183) = σ (183) := (hf22 (183) (by omega))
    refine ra_load rfl rfl rfl rfl ?_
    refine ra_dup rfl rfl ?_
    refine ra_getI rfl lk_8_54 (Nat.zero_le _) sh_179 rfl ?_
    rw [ra_gk hk25]
    have hr30 : ra_in (ra_g σ (179) 5) := (ra_in_g _ _ _)
    refine ra_iconst rfl ?_
    refine ra_isub rfl ?_
    refine ra_putI rfl lk_8_54 (Nat.zero_le _) sh_179 rfl rfl ?_
    refine ra_newU (by first | omega | (unfold ra_in at *; omega)) (fun s31 hs31 hp32 hp32o => ?_)
    have hF33 := Fr_tr (lo := 179) (hi := 185) hF24 hs31 (by omega)
    have hk34 : s31 (180) = σ (180) := (hs31 (180) (by omega)).trans hk26
    have hk35 : s31 (181) = σ (181) := (hs31 (181) (by omega)).trans hk27
    have hk36 : s31 (182) = σ (182) := (hs31 (182) (by omega)).trans hk28
    have hk37 : s31 (183) = σ (183) := (hs31 (183) (by omega)).trans hk29
    refine ra_load rfl rfl rfl rfl ?_
    refine ra_getR rfl lk_8_7 (Nat.zero_le _) sh_179 rfl ?_
    refine ra_iconst rfl ?_
    refine ra_load rfl rfl rfl rfl ?_
    refine ra_getR rfl lk_8_22 (Nat.zero_le _) sh_179 rfl ?_
    refine ra_sipush rfl (by decide) ?_
    refine ra_load rfl rfl rfl rfl ?_
    refine ra_getI rfl lk_8_54 (Nat.zero_le _) sh_179 rfl ?_
    have hr38 : ra_in (ra_g s31 (179) 5) := (ra_in_g _ _ _)
    refine ra_imul rfl ?_
    refine ra_sipush rfl (by decide) ?_
    refine ra_cV (sp_194 sh_180 (by decide) (by first | omega | (unfold ra_in at *; omega)) sh_184 (by decide) (by first | omega | (unfold ra_in at *; omega)) (by first | omega | (unfold ra_in at *; omega)) (by first | assumption | rfl | omega) (by first | assumption | rfl | omega)) rfl (ct_194 rfl lk_8_57 (Or.inl rfl) (Nat.le_of_ble_eq_true rfl)) (fun s39 hs39 => ?_)
    obtain ⟨hf40, he41⟩ := hs39
    have hF42 := Fr_tr (lo := 179) (hi := 185) hF33 hf40 (by omega)
    have hk43 : s39 (180) = σ (180) := (hf40 (180) (by omega)).trans hk34
    have hk44 : s39 (181) = σ (181) := (hf40 (181) (by omega)).trans hk35
    have hk45 : s39 (182) = σ (182) := (hf40 (182) (by omega)).trans hk36
    have hk46 : s39 (183) = σ (183) := (hf40 (183) (by omega)).trans hk37
    have hk47 : s39 (179) = s31 (179) := (hf40 (179) (by omega))
    refine ra_load rfl rfl rfl rfl ?_
    refine ra_dup rfl rfl ?_
    refine ra_getI rfl lk_8_54 (Nat.zero_le _) sh_179 rfl ?_
    rw [ra_gk hk47]
    have hr48 : ra_in (ra_g s31 (179) 5) := (ra_in_g _ _ _)
    refine ra_iconst rfl ?_
    refine ra_iadd rfl ?_
    refine ra_putI rfl lk_8_54 (Nat.zero_le _) sh_179 rfl rfl ?_
    refine ra_newU (by first | omega | (unfold ra_in at *; omega)) (fun s49 hs49 hp50 hp50o => ?_)
    have hF51 := Fr_tr (lo := 179) (hi := 185) hF42 hs49 (by omega)
    have hk52 : s49 (180) = σ (180) := (hs49 (180) (by omega)).trans hk43
    have hk53 : s49 (181) = σ (181) := (hs49 (181) (by omega)).trans hk44
    have hk54 : s49 (182) = σ (182) := (hs49 (182) (by omega)).trans hk45
    have hk55 : s49 (183) = σ (183) := (hs49 (183) (by omega)).trans hk46
    exact ra_return rfl rfl ⟨rfl, ⟨hF51, hk52, hk53, hk54, hk55, (fun a h5 => ((hp50o a h5).trans ((ra_gk (hf40 179 (by omega))).trans ((hp32o a h5).trans (ra_gk (hf22 179 (by omega))))))), (rem_a hw hp (by omega) he23 (hs31 184 (by omega)) ((hs31 180 (by omega)).trans (hf22 180 (by omega))) (by omega) he41 (by omega) (hs49 184 (by omega)))⟩⟩
theorem sp_197 {n : Nat} {f : Nat → Int32} {d : Nat}  {σ : ra_V}  : ra_C (g_Gs n f) g_sh 0 (d + 2) 197 [.index (179)] σ (fun r s => rV r ∧ Fr (182) (183) σ s ∧ CPO σ s 180 182 0 0 688) := by
  refine ra_enter (nn := 0) mt_197 rfl (Nat.le_of_ble_eq_true rfl) rfl (fun h => absurd h (by decide +kernel)) ?_
  refine ra_load rfl rfl rfl rfl ?_
  refine ra_getR rfl lk_8_7 (Nat.zero_le _) sh_179 rfl ?_
  refine ra_iconst rfl ?_
  refine ra_load rfl rfl rfl rfl ?_
  refine ra_getR rfl lk_8_16 (Nat.zero_le _) sh_179 rfl ?_
  refine ra_iconst rfl ?_
  refine ra_sipush rfl (by decide) ?_
  refine ra_cV (sp_194 sh_180 (by decide) (by first | omega | (unfold ra_in at *; omega)) sh_182 (by decide) (by first | omega | (unfold ra_in at *; omega)) (by first | omega | (unfold ra_in at *; omega)) (by first | assumption | rfl | omega) (by first | assumption | rfl | omega)) rfl (ct_194 rfl lk_8_57 (Or.inl rfl) (Nat.le_of_ble_eq_true rfl)) (fun s1 hs1 => ?_)
  obtain ⟨hf2, he3⟩ := hs1
  have hF4 := Fr_tr (lo := 182) (hi := 183) Fr_rf hf2 (by omega)
  exact ra_return rfl rfl ⟨rfl, ⟨hF4, he3⟩⟩
theorem sp_198 {n : Nat} {f : Nat → Int32} {d : Nat}  {σ : ra_V}  : ra_C (g_Gs n f) g_sh 0 (d + 2) 198 [.index (179)] σ (fun r s => rV r ∧ Fr (180) (181) σ s ∧ CPO σ s 182 180 0 0 688) := by
  refine ra_enter (nn := 0) mt_198 rfl (Nat.le_of_ble_eq_true rfl) rfl (fun h => absurd h (by decide +kernel)) ?_
  refine ra_load rfl rfl rfl rfl ?_
  refine ra_getR rfl lk_8_16 (Nat.zero_le _) sh_179 rfl ?_
  refine ra_iconst rfl ?_
  refine ra_load rfl rfl rfl rfl ?_
  refine ra_getR rfl lk_8_7 (Nat.zero_le _) sh_179 rfl ?_
  refine ra_iconst rfl ?_
  refine ra_sipush rfl (by decide) ?_
  refine ra_cV (sp_194 sh_182 (by decide) (by first | omega | (unfold ra_in at *; omega)) sh_180 (by decide) (by first | omega | (unfold ra_in at *; omega)) (by first | omega | (unfold ra_in at *; omega)) (by first | assumption | rfl | omega) (by first | assumption | rfl | omega)) rfl (ct_194 rfl lk_8_57 (Or.inl rfl) (Nat.le_of_ble_eq_true rfl)) (fun s1 hs1 => ?_)
  obtain ⟨hf2, he3⟩ := hs1
  have hF4 := Fr_tr (lo := 180) (hi := 181) Fr_rf hf2 (by omega)
  exact ra_return rfl rfl ⟨rfl, ⟨hF4, he3⟩⟩
end RB
