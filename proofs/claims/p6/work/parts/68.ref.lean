/-! the reference: what its methods do (printed by wip/gen/ref.py) -/
section RB
theorem sp_224 {n : Nat} {f : Nat → Int32} {d : Nat} {x0 : Int} {x1 : Int} {σ : ra_V} (hx0 : ra_in x0) (hx1 : ra_in x1) (hp : -1000000 ≤ x0 ∧ x0 ≤ 1000000 ∧ -1000000 ≤ x1 ∧ x1 ≤ 1000000) : ra_C (g_Gs n f) g_sh 0 (d + 1) 224 [ra_I x0, ra_I x1] σ (fun r s => r = .inl (some (ra_I (rfar x0 x1))) ∧ s = σ) := by
  refine ra_enter (nn := 0) mt_224 rfl (Nat.le_of_ble_eq_true rfl) rfl (fun h => absurd h (by decide +kernel)) ?_
  have hr0 := rfar_b x0 x1
  refine ra_load rfl rfl rfl rfl ?_
  refine ra_load rfl rfl rfl rfl ?_
  refine ra_icge rfl rfl hx0 hx1 (fun h1 => ?_) (fun h1 => ?_)
  · refine ra_load rfl rfl rfl rfl ?_
    refine ra_load rfl rfl rfl rfl ?_
    refine ra_isub rfl ?_
    exact ra_ireturn rfl rfl ⟨(congrArg (fun z => Sum.inl (some (ra_I z))) (by first | rfl | omega)), rfl⟩
  · refine ra_load rfl rfl rfl rfl ?_
    refine ra_load rfl rfl rfl rfl ?_
    refine ra_isub rfl ?_
    refine ra_goto rfl rfl ?_
    exact ra_ireturn rfl rfl ⟨(congrArg (fun z => Sum.inl (some (ra_I z))) (by first | rfl | omega)), rfl⟩
theorem sp_227 {n : Nat} {f : Nat → Int32} {d : Nat}  {σ : ra_V} (hm : MF σ) : ra_C (g_Gs n f) g_sh 0 (d + 2) 227 [.index (179)] σ (fun r s => r = .inl (some (ra_I (rch σ))) ∧ s = σ) := by
  refine ra_enter (nn := 0) mt_227 rfl (Nat.le_of_ble_eq_true rfl) rfl (fun h => absurd h (by decide +kernel)) ?_
  have hm0 := hm
  unfold MF at hm0
  refine ra_load rfl rfl rfl rfl ?_
  refine ra_load rfl rfl rfl rfl ?_
  refine ra_getR rfl lk_8_7 (Nat.zero_le _) sh_179 rfl ?_
  refine ra_bipush rfl (by decide) ?_
  refine ra_ialoadJ (j := 16) rfl sh_180 rfl (by decide) rfl (by decide) ?_
  have hr1 : ra_in (ra_g σ (180) 16) := (ra_in_g _ _ _)
  refine ra_iconst rfl ?_
  refine ra_cTp (sp_199 hr1 (by first | omega | (unfold ra_in at *; omega)) (by first | assumption | rfl | omega)) rfl (ct_199 rfl lk_8_67 (Or.inl rfl) sh_179 (Nat.le_of_ble_eq_true rfl)) ?_
  have hr3 : ra_in (wq σ (ra_g σ (180) 16) (2)) := (ra_in_wq _ _ _)
  refine ra_load rfl rfl rfl rfl ?_
  refine ra_getR rfl lk_8_7 (Nat.zero_le _) sh_179 rfl ?_
  refine ra_bipush rfl (by decide) ?_
  refine ra_ialoadJ (j := 19) rfl sh_180 rfl (by decide) rfl (by decide) ?_
  have hr4 : ra_in (ra_g σ (180) 19) := (ra_in_g _ _ _)
  refine ra_cTp (sp_206 hr3 hr4 (by first | assumption | rfl | omega)) rfl (ct_206 rfl lk_8_120 (Or.inl rfl) (Nat.le_of_ble_eq_true rfl)) ?_
  have hr6 : ra_in (((wq σ (ra_g σ (180) 16) (2)) + (ra_g σ (180) 19) - 1).tdiv (ra_g σ (180) 19)) := (ra_in_tdiv (by unfold ra_in; omega) (by omega))
  exact ra_ireturn rfl rfl ⟨(congrArg (fun z => Sum.inl (some (ra_I z))) rfl), rfl⟩
theorem sp_228 {n : Nat} {f : Nat → Int32} {d : Nat}  {σ : ra_V} (hm : MF σ) : ra_C (g_Gs n f) g_sh 0 (d + 2) 228 [.index (179)] σ (fun r s => r = .inl (some (ra_I (rds σ))) ∧ s = σ) := by
  refine ra_enter (nn := 0) mt_228 rfl (Nat.le_of_ble_eq_true rfl) rfl (fun h => absurd h (by decide +kernel)) ?_
  have hm0 := hm
  unfold MF at hm0
  refine ra_load rfl rfl rfl rfl ?_
  refine ra_getR rfl lk_8_7 (Nat.zero_le _) sh_179 rfl ?_
  refine ra_bipush rfl (by decide) ?_
  refine ra_ialoadJ (j := 17) rfl sh_180 rfl (by decide) rfl (by decide) ?_
  have hr1 : ra_in (ra_g σ (180) 17) := (ra_in_g _ _ _)
  refine ra_load rfl rfl rfl rfl ?_
  refine ra_getR rfl lk_8_7 (Nat.zero_le _) sh_179 rfl ?_
  refine ra_bipush rfl (by decide) ?_
  refine ra_ialoadJ (j := 18) rfl sh_180 rfl (by decide) rfl (by decide) ?_
  have hr2 : ra_in (ra_g σ (180) 18) := (ra_in_g _ _ _)
  refine ra_cTp (sp_224 hr1 hr2 (by first | assumption | rfl | omega)) rfl (ct_224 rfl lk_8_136 (Or.inl rfl) (Nat.le_of_ble_eq_true rfl)) ?_
  have hf4 := rfar_b (ra_g σ (180) 17) (ra_g σ (180) 18)
  have hr5 : ra_in (rfar (ra_g σ (180) 17) (ra_g σ (180) 18)) := (by first | omega | (unfold ra_in at *; omega))
  exact ra_ireturn rfl rfl ⟨(congrArg (fun z => Sum.inl (some (ra_I z))) rfl), rfl⟩
theorem sp_229 {n : Nat} {f : Nat → Int32} {d : Nat}  {σ : ra_V}  : ra_C (g_Gs n f) g_sh 0 (d + 1) 229 [.index (179)] σ (fun r s => (∃ z : Int, (z = 0 ∨ z = 1) ∧ (z = 1 ↔ ra_g σ 180 18 < ra_g σ 180 17) ∧ r = .inl (some (ra_I z))) ∧ s = σ) := by
  refine ra_enter (nn := 0) mt_229 rfl (Nat.le_of_ble_eq_true rfl) rfl (fun h => absurd h (by decide +kernel)) ?_
  refine ra_load rfl rfl rfl rfl ?_
  refine ra_getR rfl lk_8_7 (Nat.zero_le _) sh_179 rfl ?_
  refine ra_bipush rfl (by decide) ?_
  refine ra_ialoadJ (j := 18) rfl sh_180 rfl (by decide) rfl (by decide) ?_
  have hr1 : ra_in (ra_g σ (180) 18) := (ra_in_g _ _ _)
  refine ra_load rfl rfl rfl rfl ?_
  refine ra_getR rfl lk_8_7 (Nat.zero_le _) sh_179 rfl ?_
  refine ra_bipush rfl (by decide) ?_
  refine ra_ialoadJ (j := 17) rfl sh_180 rfl (by decide) rfl (by decide) ?_
  have hr2 : ra_in (ra_g σ (180) 17) := (ra_in_g _ _ _)
  refine ra_icge rfl rfl hr1 hr2 (fun h3 => ?_) (fun h3 => ?_)
  · refine ra_iconst rfl ?_
    exact ra_ireturn rfl (ra_okB (Or.inl rfl)) ⟨⟨_, (Or.inl rfl), (by omega), rfl⟩, rfl⟩
  · refine ra_iconst rfl ?_
    refine ra_goto rfl rfl ?_
    exact ra_ireturn rfl (ra_okB (Or.inr rfl)) ⟨⟨_, (Or.inr rfl), (by omega), rfl⟩, rfl⟩
theorem sp_230 {n : Nat} {f : Nat → Int32} {d : Nat} {x0 : Int} {σ : ra_V} (hx0 : ra_in x0) (hm : MF σ) : ra_C (g_Gs n f) g_sh 0 (d + 3) 230 [.index (179), ra_I x0] σ (fun r s => rB r ∧ s = σ) := by
  refine ra_enter (nn := 0) mt_230 rfl (Nat.le_of_ble_eq_true rfl) rfl (fun h => absurd h (by decide +kernel)) ?_
  have hm0 := hm
  unfold MF at hm0
  refine ra_load rfl rfl rfl rfl ?_
  refine ra_cQPp (sp_229 ) rfl (ct_229 rfl lk_8_147 (Or.inl rfl) sh_179 (Nat.le_of_ble_eq_true rfl)) (fun z2 hz2 hz2p => ?_)
  refine ra_ifeq rfl rfl (ra_in01 hz2) (fun h3 => ?_) (fun h3 => ?_)
  · refine ra_load rfl rfl rfl rfl ?_
    refine ra_load rfl rfl rfl rfl ?_
    refine ra_cTp (sp_227 hm) rfl (ct_227 rfl lk_8_150 (Or.inl rfl) sh_179 (Nat.le_of_ble_eq_true rfl)) ?_
    have hr5 : ra_in (rch σ) := (by first | omega | (unfold ra_in at *; omega))
    refine ra_load rfl rfl rfl rfl ?_
    refine ra_getR rfl lk_8_7 (Nat.zero_le _) sh_179 rfl ?_
    refine ra_bipush rfl (by decide) ?_
    refine ra_ialoadJ (j := 21) rfl sh_180 rfl (by decide) rfl (by decide) ?_
    have hr6 : ra_in (ra_g σ (180) 21) := (ra_in_g _ _ _)
    refine ra_isub rfl ?_
    refine ra_iclt rfl rfl hx0 (by first | omega | (unfold ra_in at *; omega)) (fun h7 => ?_) (fun h7 => ?_)
    · refine ra_iconst rfl ?_
      exact ra_ireturn rfl (ra_okB (Or.inl rfl)) ⟨⟨_, (Or.inl rfl), rfl⟩, rfl⟩
    · refine ra_iconst rfl ?_
      refine ra_goto rfl rfl ?_
      exact ra_ireturn rfl (ra_okB (Or.inr rfl)) ⟨⟨_, (Or.inr rfl), rfl⟩, rfl⟩
  · refine ra_load rfl rfl rfl rfl ?_
    refine ra_load rfl rfl rfl rfl ?_
    refine ra_getR rfl lk_8_7 (Nat.zero_le _) sh_179 rfl ?_
    refine ra_bipush rfl (by decide) ?_
    refine ra_ialoadJ (j := 21) rfl sh_180 rfl (by decide) rfl (by decide) ?_
    have hr8 : ra_in (ra_g σ (180) 21) := (ra_in_g _ _ _)
    refine ra_icge rfl rfl hx0 hr8 (fun h9 => ?_) (fun h9 => ?_)
    · refine ra_iconst rfl ?_
      refine ra_goto rfl rfl ?_
      exact ra_ireturn rfl (ra_okB (Or.inl rfl)) ⟨⟨_, (Or.inl rfl), rfl⟩, rfl⟩
    · refine ra_iconst rfl ?_
      refine ra_goto rfl rfl ?_
      exact ra_ireturn rfl (ra_okB (Or.inr rfl)) ⟨⟨_, (Or.inr rfl), rfl⟩, rfl⟩
theorem sp_231 {n : Nat} {f : Nat → Int32} {d : Nat}  {σ : ra_V} (hm : MF σ) : ra_C (g_Gs n f) g_sh 0 (d + 3) 231 [.index (179)] σ (fun r s => r = .inl (some (ra_I (rnx σ))) ∧ s = σ) := by
  refine ra_enter (nn := 0) mt_231 rfl (Nat.le_of_ble_eq_true rfl) rfl (fun h => absurd h (by decide +kernel)) ?_
  have hm0 := hm
  unfold MF at hm0
  refine ra_load rfl rfl rfl rfl ?_
  refine ra_cQPp (sp_229 ) rfl (ct_229 rfl lk_8_147 (Or.inl rfl) sh_179 (Nat.le_of_ble_eq_true rfl)) (fun z2 hz2 hz2p => ?_)
  refine ra_ifeq rfl rfl (ra_in01 hz2) (fun h3 => ?_) (fun h3 => ?_)
  · refine ra_load rfl rfl rfl rfl ?_
    refine ra_cTp (sp_227 hm) rfl (ct_227 rfl lk_8_150 (Or.inl rfl) sh_179 (Nat.le_of_ble_eq_true rfl)) ?_
    have hr5 : ra_in (rch σ) := (by first | omega | (unfold ra_in at *; omega))
    refine ra_iconst rfl ?_
    refine ra_isub rfl ?_
    refine ra_load rfl rfl rfl rfl ?_
    refine ra_getR rfl lk_8_7 (Nat.zero_le _) sh_179 rfl ?_
    refine ra_bipush rfl (by decide) ?_
    refine ra_ialoadJ (j := 21) rfl sh_180 rfl (by decide) rfl (by decide) ?_
    have hr6 : ra_in (ra_g σ (180) 21) := (ra_in_g _ _ _)
    refine ra_isub rfl ?_
    exact ra_ireturn rfl rfl ⟨(congrArg (fun z => Sum.inl (some (ra_I z))) (by unfold rnx; first | rw [if_pos (by omega)] | rw [if_neg (by omega)])), rfl⟩
  · refine ra_load rfl rfl rfl rfl ?_
    refine ra_getR rfl lk_8_7 (Nat.zero_le _) sh_179 rfl ?_
    refine ra_bipush rfl (by decide) ?_
    refine ra_ialoadJ (j := 21) rfl sh_180 rfl (by decide) rfl (by decide) ?_
    have hr7 : ra_in (ra_g σ (180) 21) := (ra_in_g _ _ _)
    refine ra_goto rfl rfl ?_
    exact ra_ireturn rfl rfl ⟨(congrArg (fun z => Sum.inl (some (ra_I z))) (by unfold rnx; first | rw [if_pos (by omega)] | rw [if_neg (by omega)])), rfl⟩
theorem sp_232 {n : Nat} {f : Nat → Int32} {d : Nat}  {σ : ra_V} (hm : MF σ) : ra_C (g_Gs n f) g_sh 0 (d + 4) 232 [.index (179)] σ (fun r s => r = .inl (some (ra_I (rfb σ))) ∧ s = σ) := by
  refine ra_enter (nn := 0) mt_232 rfl (Nat.le_of_ble_eq_true rfl) rfl (fun h => absurd h (by decide +kernel)) ?_
  have hm0 := hm
  unfold MF at hm0
  refine ra_load rfl rfl rfl rfl ?_
  refine ra_cTp (sp_231 hm) rfl (ct_231 rfl lk_8_153 (Or.inl rfl) sh_179 (Nat.le_of_ble_eq_true rfl)) ?_
  have hr2 : ra_in (rnx σ) := (by first | omega | (unfold ra_in at *; omega))
  refine ra_load rfl rfl rfl rfl ?_
  refine ra_getR rfl lk_8_7 (Nat.zero_le _) sh_179 rfl ?_
  refine ra_bipush rfl (by decide) ?_
  refine ra_ialoadJ (j := 19) rfl sh_180 rfl (by decide) rfl (by decide) ?_
  have hr3 : ra_in (ra_g σ (180) 19) := (ra_in_g _ _ _)
  refine ra_imul rfl ?_
  exact ra_ireturn rfl rfl ⟨(congrArg (fun z => Sum.inl (some (ra_I z))) rfl), rfl⟩
theorem sp_233 {n : Nat} {f : Nat → Int32} {d : Nat}  {σ : ra_V} (hm : MF σ) : ra_C (g_Gs n f) g_sh 0 (d + 5) 233 [.index (179)] σ (fun r s => r = .inl (some (ra_I (rbn σ))) ∧ s = σ) := by
  refine ra_enter (nn := 0) mt_233 rfl (Nat.le_of_ble_eq_true rfl) rfl (fun h => absurd h (by decide +kernel)) ?_
  have hm0 := hm
  unfold MF at hm0
  refine ra_load rfl rfl rfl rfl ?_
  refine ra_getR rfl lk_8_7 (Nat.zero_le _) sh_179 rfl ?_
  refine ra_bipush rfl (by decide) ?_
  refine ra_ialoadJ (j := 19) rfl sh_180 rfl (by decide) rfl (by decide) ?_
  have hr1 : ra_in (ra_g σ (180) 19) := (ra_in_g _ _ _)
  refine ra_load rfl rfl rfl rfl ?_
  refine ra_load rfl rfl rfl rfl ?_
  refine ra_getR rfl lk_8_7 (Nat.zero_le _) sh_179 rfl ?_
  refine ra_bipush rfl (by decide) ?_
  refine ra_ialoadJ (j := 16) rfl sh_180 rfl (by decide) rfl (by decide) ?_
  have hr2 : ra_in (ra_g σ (180) 16) := (ra_in_g _ _ _)
  refine ra_iconst rfl ?_
  refine ra_cTp (sp_199 hr2 (by first | omega | (unfold ra_in at *; omega)) (by first | assumption | rfl | omega)) rfl (ct_199 rfl lk_8_67 (Or.inl rfl) sh_179 (Nat.le_of_ble_eq_true rfl)) ?_
  have hr4 : ra_in (wq σ (ra_g σ (180) 16) (2)) := (ra_in_wq _ _ _)
  refine ra_load rfl rfl rfl rfl ?_
  refine ra_cTp (sp_232 hm) rfl (ct_232 rfl lk_8_156 (Or.inl rfl) sh_179 (Nat.le_of_ble_eq_true rfl)) ?_
  have hr6 : ra_in (rfb σ) := (by first | omega | (unfold ra_in at *; omega))
  refine ra_isub rfl ?_
  refine ra_min rfl lk_8_90 hr1 (by first | omega | (unfold ra_in at *; omega)) (Nat.le_of_ble_eq_true rfl) ?_
  exact ra_ireturn rfl rfl ⟨(congrArg (fun z => Sum.inl (some (ra_I z))) rfl), rfl⟩
theorem sp_235 {n : Nat} {f : Nat → Int32} {d : Nat}  {σ : ra_V} (hm : MF σ) : ra_C (g_Gs n f) g_sh 0 (d + 6) 235 [.index (179)] σ (fun r s => (∃ z, ra_in z ∧ ((z = 0 ∨ z = 1 ∨ z = 2) ∧ (z = 0 ↔ rbn σ ≤ rds σ) ∧ (z = 2 → ra_g σ 180 22 = 1) ∧ (z = 1 → ra_g σ 180 22 ≠ 1)) ∧ r = .inl (some (ra_I z))) ∧ s = σ) := by
  refine ra_enter (nn := 0) mt_235 rfl (Nat.le_of_ble_eq_true rfl) rfl (fun h => absurd h (by decide +kernel)) ?_
  have hm0 := hm
  unfold MF at hm0
  refine ra_load rfl rfl rfl rfl ?_
  refine ra_cTp (sp_233 hm) rfl (ct_233 rfl lk_8_162 (Or.inl rfl) sh_179 (Nat.le_of_ble_eq_true rfl)) ?_
  have hr2 : ra_in (rbn σ) := (by first | omega | (unfold ra_in at *; omega))
  refine ra_load rfl rfl rfl rfl ?_
  refine ra_cTp (sp_228 hm) rfl (ct_228 rfl lk_8_159 (Or.inl rfl) sh_179 (Nat.le_of_ble_eq_true rfl)) ?_
  have hr4 : ra_in (rds σ) := (by first | omega | (unfold ra_in at *; omega))
  refine ra_icgt rfl rfl hr2 hr4 (fun h5 => ?_) (fun h5 => ?_)
  · refine ra_load rfl rfl rfl rfl ?_
    refine ra_getR rfl lk_8_7 (Nat.zero_le _) sh_179 rfl ?_
    refine ra_bipush rfl (by decide) ?_
    refine ra_ialoadJ (j := 22) rfl sh_180 rfl (by decide) rfl (by decide) ?_
    have hr6 : ra_in (ra_g σ (180) 22) := (ra_in_g _ _ _)
    refine ra_iconst rfl ?_
    refine ra_icne rfl rfl hr6 (by first | omega | (unfold ra_in at *; omega)) (fun h7 => ?_) (fun h7 => ?_)
    · refine ra_iconst rfl ?_
      exact ra_ireturn rfl rfl ⟨⟨_, (by first | omega | (unfold ra_in at *; omega)), (by omega), rfl⟩, rfl⟩
    · refine ra_iconst rfl ?_
      refine ra_goto rfl rfl ?_
      exact ra_ireturn rfl rfl ⟨⟨_, (by first | omega | (unfold ra_in at *; omega)), (by omega), rfl⟩, rfl⟩
  · refine ra_iconst rfl ?_
    refine ra_goto rfl rfl ?_
    exact ra_ireturn rfl rfl ⟨⟨_, (by first | omega | (unfold ra_in at *; omega)), (by omega), rfl⟩, rfl⟩
theorem sp_236 {n : Nat} {f : Nat → Int32} {d : Nat} {x0 : Int} {σ : ra_V} (hx0 : ra_in x0) (hm : MF σ) (hi : 0 ≤ x0 ∧ x0 < rbn σ) : ra_C (g_Gs n f) g_sh 0 (d + 7) 236 [.index (179), ra_I x0] σ (fun r s => (∃ z, ra_in z ∧ (0 ≤ z ∧ z < 600) ∧ r = .inl (some (ra_I z))) ∧ s = σ) := by
  refine ra_enter (nn := 0) mt_236 rfl (Nat.le_of_ble_eq_true rfl) rfl (fun h => absurd h (by decide +kernel)) ?_
  have hm0 := hm
  unfold MF at hm0
  refine ra_load rfl rfl rfl rfl ?_
  refine ra_cIPp (sp_235 hm) rfl (ct_235 rfl lk_8_165 (Or.inl rfl) sh_179 (Nat.le_of_ble_eq_true rfl)) (fun z2 hz2 hz2p => ?_)
  refine ra_iconst rfl ?_
  refine ra_icne rfl rfl hz2 (by first | omega | (unfold ra_in at *; omega)) (fun h3 => ?_) (fun h3 => ?_)
  · refine ra_load rfl rfl rfl rfl ?_
    refine ra_getR rfl lk_8_7 (Nat.zero_le _) sh_179 rfl ?_
    refine ra_bipush rfl (by decide) ?_
    refine ra_ialoadJ (j := 17) rfl sh_180 rfl (by decide) rfl (by decide) ?_
    have hr4 : ra_in (ra_g σ (180) 17) := (ra_in_g _ _ _)
    refine ra_load rfl rfl rfl rfl ?_
    refine ra_cTp (sp_232 hm) rfl (ct_232 rfl lk_8_156 (Or.inl rfl) sh_179 (Nat.le_of_ble_eq_true rfl)) ?_
    have hr6 : ra_in (rfb σ) := (by first | omega | (unfold ra_in at *; omega))
    refine ra_iadd rfl ?_
    refine ra_load rfl rfl rfl rfl ?_
    refine ra_iadd rfl ?_
    exact ra_ireturn rfl rfl ⟨⟨_, (by first | omega | (unfold ra_in at *; omega)), (by omega), rfl⟩, rfl⟩
  · refine ra_load rfl rfl rfl rfl ?_
    refine ra_getR rfl lk_8_7 (Nat.zero_le _) sh_179 rfl ?_
    refine ra_bipush rfl (by decide) ?_
    refine ra_ialoadJ (j := 20) rfl sh_180 rfl (by decide) rfl (by decide) ?_
    have hr7 : ra_in (ra_g σ (180) 20) := (ra_in_g _ _ _)
    refine ra_load rfl rfl rfl rfl ?_
    refine ra_iadd rfl ?_
    refine ra_goto rfl rfl ?_
    exact ra_ireturn rfl rfl ⟨⟨_, (by first | omega | (unfold ra_in at *; omega)), (by omega), rfl⟩, rfl⟩
theorem sp_237 {n : Nat} {f : Nat → Int32} {d : Nat} {x0 : Int} {σ : ra_V} (hx0 : ra_in x0) (hm : MF σ) (hi : 0 ≤ x0 ∧ x0 < rbn σ) : ra_C (g_Gs n f) g_sh 0 (d + 7) 237 [.index (179), ra_I x0] σ (fun r s => (∃ z, ra_in z ∧ (0 ≤ z ∧ z < 600) ∧ r = .inl (some (ra_I z))) ∧ s = σ) := by
  refine ra_enter (nn := 0) mt_237 rfl (Nat.le_of_ble_eq_true rfl) rfl (fun h => absurd h (by decide +kernel)) ?_
  have hm0 := hm
  unfold MF at hm0
  refine ra_load rfl rfl rfl rfl ?_
  refine ra_cIPp (sp_235 hm) rfl (ct_235 rfl lk_8_165 (Or.inl rfl) sh_179 (Nat.le_of_ble_eq_true rfl)) (fun z2 hz2 hz2p => ?_)
  refine ra_iconst rfl ?_
  refine ra_icne rfl rfl hz2 (by first | omega | (unfold ra_in at *; omega)) (fun h3 => ?_) (fun h3 => ?_)
  · refine ra_load rfl rfl rfl rfl ?_
    refine ra_getR rfl lk_8_7 (Nat.zero_le _) sh_179 rfl ?_
    refine ra_bipush rfl (by decide) ?_
    refine ra_ialoadJ (j := 18) rfl sh_180 rfl (by decide) rfl (by decide) ?_
    have hr4 : ra_in (ra_g σ (180) 18) := (ra_in_g _ _ _)
    refine ra_load rfl rfl rfl rfl ?_
    refine ra_cTp (sp_232 hm) rfl (ct_232 rfl lk_8_156 (Or.inl rfl) sh_179 (Nat.le_of_ble_eq_true rfl)) ?_
    have hr6 : ra_in (rfb σ) := (by first | omega | (unfold ra_in at *; omega))
    refine ra_iadd rfl ?_
    refine ra_load rfl rfl rfl rfl ?_
    refine ra_iadd rfl ?_
    exact ra_ireturn rfl rfl ⟨⟨_, (by first | omega | (unfold ra_in at *; omega)), (by omega), rfl⟩, rfl⟩
  · refine ra_load rfl rfl rfl rfl ?_
    refine ra_getR rfl lk_8_7 (Nat.zero_le _) sh_179 rfl ?_
    refine ra_bipush rfl (by decide) ?_
    refine ra_ialoadJ (j := 20) rfl sh_180 rfl (by decide) rfl (by decide) ?_
    have hr7 : ra_in (ra_g σ (180) 20) := (ra_in_g _ _ _)
    refine ra_load rfl rfl rfl rfl ?_
    refine ra_iadd rfl ?_
    refine ra_goto rfl rfl ?_
    exact ra_ireturn rfl rfl ⟨⟨_, (by first | omega | (unfold ra_in at *; omega)), (by omega), rfl⟩, rfl⟩
theorem lp_225_6 {n : Nat} {f : Nat → Int32} {d : Nat} {x0 : Int} {x1 : Int} {x2 : Int} {x3 : Int} {x4 : Int} {σ : ra_V} (hx0 : ra_in x0) (hx1 : ra_in x1) (hx2 : ra_in x2) (hx3 : ra_in x3) (hx4 : ra_in x4) : ∀ (nn : Nat) (v5 : Int) (v6 : Int) (hv5 : ra_in v5) (hv6_0 : ra_in v6) (hm : ((x4 - v6 : Int)).toNat < nn), ra_P (g_Gs n f) g_sh 0 (d + 0) g_m_X8_stepsOf 6 [some (ra_I x0), some (ra_I x1), some (ra_I x2), none, some (ra_I x4), some (ra_I v5), some (ra_I v6)] [] σ (fun r s => rI r ∧ s = σ) := by
  intro nn
  induction nn with
  | zero => intro v5 v6 hv5 hv6_0 hm; exact absurd hm (Nat.not_lt_zero _)
  | succ nn ih =>
    intro v5 v6 hv5 hv6_0 hm
    refine ra_load rfl rfl rfl rfl ?_
    refine ra_load rfl rfl rfl rfl ?_
    refine ra_icge rfl rfl (by first | omega | (unfold ra_in at *; omega)) hx4 (fun h1 => ?_) (fun h1 => ?_)
    · refine ra_load rfl rfl rfl rfl ?_
      exact ra_ireturn rfl rfl ⟨⟨_, hv5, rfl⟩, rfl⟩
    · refine ra_load rfl rfl rfl rfl ?_
      refine ra_load rfl rfl rfl rfl ?_
      refine ra_load rfl rfl rfl rfl ?_
      refine ra_load rfl rfl rfl rfl ?_
      refine ra_load rfl rfl rfl rfl ?_
      refine ra_imul rfl ?_
      refine ra_gen (fun z2 hz2 => ?_)
      refine ra_isub rfl ?_
      refine ra_gen (fun z3 hz3 => ?_)
      refine ra_min rfl lk_8_90 hx1 hz3 (Nat.le_of_ble_eq_true rfl) ?_
      refine ra_load rfl rfl rfl rfl ?_
      refine ra_icle rfl rfl (by first | omega | (unfold ra_in at *; omega)) hx2 (fun h4 => ?_) (fun h4 => ?_)
      · refine ra_iconst rfl ?_
        refine ra_iadd rfl ?_
        refine ra_gen (fun z5 hz5 => ?_)
        refine ra_store (L' := [_, _, _, _, _, _, _]) rfl rfl rfl (Nat.le_of_ble_eq_true rfl) rfl ?_
        refine ra_iinc (L' := [_, _, _, _, _, _, _]) rfl rfl (Nat.le_of_ble_eq_true rfl) rfl ?_
        refine ra_goto rfl rfl ?_
        exact ra_weak (by repeat' constructor) (ih z5 (v6 + 1) hz5 (by first | omega | (unfold ra_in at *; omega)) (by first | omega | (unfold ra_in at *; omega)))
      · refine ra_iconst rfl ?_
        refine ra_goto rfl rfl ?_
        refine ra_iadd rfl ?_
        refine ra_gen (fun z6 hz6 => ?_)
        refine ra_store (L' := [_, _, _, _, _, _, _]) rfl rfl rfl (Nat.le_of_ble_eq_true rfl) rfl ?_
        refine ra_iinc (L' := [_, _, _, _, _, _, _]) rfl rfl (Nat.le_of_ble_eq_true rfl) rfl ?_
        refine ra_goto rfl rfl ?_
        exact ra_weak (by repeat' constructor) (ih z6 (v6 + 1) hz6 (by first | omega | (unfold ra_in at *; omega)) (by first | omega | (unfold ra_in at *; omega)))
theorem sp_225 {n : Nat} {f : Nat → Int32} {d : Nat} {x0 : Int} {x1 : Int} {x2 : Int} {x3 : Int} {x4 : Int} {σ : ra_V} (hx0 : ra_in x0) (hx1 : ra_in x1) (hx2 : ra_in x2) (hx3 : ra_in x3) (hx4 : ra_in x4) : ra_C (g_Gs n f) g_sh 0 (d + 1) 225 [ra_I x0, ra_I x1, ra_I x2, ra_I x3, ra_I x4] σ (fun r s => rI r ∧ s = σ) := by
  refine ra_enter (nn := 2) mt_225 rfl (Nat.le_of_ble_eq_true rfl) rfl (fun h => absurd h (by decide +kernel)) ?_
  refine ra_iconst rfl ?_
  refine ra_store (L' := [_, _, _, _, _, _, _]) rfl rfl rfl (Nat.le_of_ble_eq_true rfl) rfl ?_
  refine ra_load rfl rfl rfl rfl ?_
  refine ra_store (L' := [_, _, _, _, _, _, _]) rfl rfl rfl (Nat.le_of_ble_eq_true rfl) rfl ?_
  exact ra_weak (by repeat' constructor) (lp_225_6 hx0 hx1 hx2 hx3 hx4 _ (0) x3 (by first | omega | (unfold ra_in at *; omega)) hx3 (Nat.lt_succ_self _))
theorem sp_234 {n : Nat} {f : Nat → Int32} {d : Nat}  {σ : ra_V} (hm : MF σ) : ra_C (g_Gs n f) g_sh 0 (d + 3) 234 [.index (179)] σ (fun r s => rI r ∧ s = σ) := by
  refine ra_enter (nn := 2) mt_234 rfl (Nat.le_of_ble_eq_true rfl) rfl (fun h => absurd h (by decide +kernel)) ?_
  have hm0 := hm
  unfold MF at hm0
  refine ra_load rfl rfl rfl rfl ?_
  refine ra_load rfl rfl rfl rfl ?_
  refine ra_getR rfl lk_8_7 (Nat.zero_le _) sh_179 rfl ?_
  refine ra_bipush rfl (by decide) ?_
  refine ra_ialoadJ (j := 16) rfl sh_180 rfl (by decide) rfl (by decide) ?_
  have hr1 : ra_in (ra_g σ (180) 16) := (ra_in_g _ _ _)
  refine ra_iconst rfl ?_
  refine ra_cTp (sp_199 hr1 (by first | omega | (unfold ra_in at *; omega)) (by first | assumption | rfl | omega)) rfl (ct_199 rfl lk_8_67 (Or.inl rfl) sh_179 (Nat.le_of_ble_eq_true rfl)) ?_
  have hr3 : ra_in (wq σ (ra_g σ (180) 16) (2)) := (ra_in_wq _ _ _)
  refine ra_store (L' := [_, _, _]) rfl rfl rfl (Nat.le_of_ble_eq_true rfl) rfl ?_
  refine ra_load rfl rfl rfl rfl ?_
  refine ra_cQPp (sp_229 ) rfl (ct_229 rfl lk_8_147 (Or.inl rfl) sh_179 (Nat.le_of_ble_eq_true rfl)) (fun z5 hz5 hz5p => ?_)
  refine ra_ifeq rfl rfl (ra_in01 hz5) (fun h6 => ?_) (fun h6 => ?_)
  · refine ra_load rfl rfl rfl rfl ?_
    refine ra_load rfl rfl rfl rfl ?_
    refine ra_getR rfl lk_8_7 (Nat.zero_le _) sh_179 rfl ?_
    refine ra_bipush rfl (by decide) ?_
    refine ra_ialoadJ (j := 19) rfl sh_180 rfl (by decide) rfl (by decide) ?_
    have hr7 : ra_in (ra_g σ (180) 19) := (ra_in_g _ _ _)
    refine ra_load rfl rfl rfl rfl ?_
    refine ra_cTp (sp_228 hm) rfl (ct_228 rfl lk_8_159 (Or.inl rfl) sh_179 (Nat.le_of_ble_eq_true rfl)) ?_
    have hr9 : ra_in (rds σ) := (by first | omega | (unfold ra_in at *; omega))
    refine ra_iconst rfl ?_
    refine ra_load rfl rfl rfl rfl ?_
    refine ra_cTp (sp_227 hm) rfl (ct_227 rfl lk_8_150 (Or.inl rfl) sh_179 (Nat.le_of_ble_eq_true rfl)) ?_
    have hr11 : ra_in (rch σ) := (by first | omega | (unfold ra_in at *; omega))
    refine ra_load rfl rfl rfl rfl ?_
    refine ra_getR rfl lk_8_7 (Nat.zero_le _) sh_179 rfl ?_
    refine ra_bipush rfl (by decide) ?_
    refine ra_ialoadJ (j := 21) rfl sh_180 rfl (by decide) rfl (by decide) ?_
    have hr12 : ra_in (ra_g σ (180) 21) := (ra_in_g _ _ _)
    refine ra_isub rfl ?_
    refine ra_gen (fun z13 hz13 => ?_)
    refine ra_cIp (sp_225 hr3 hr7 hr9 (by first | omega | (unfold ra_in at *; omega)) hz13) rfl (ct_225 rfl lk_8_143 (Or.inl rfl) (Nat.le_of_ble_eq_true rfl)) (fun z15 hz15 => ?_)
    refine ra_store (L' := [_, _, _]) rfl rfl rfl (Nat.le_of_ble_eq_true rfl) rfl ?_
    refine ra_load rfl rfl rfl rfl ?_
    refine ra_load rfl rfl rfl rfl ?_
    refine ra_getR rfl lk_8_7 (Nat.zero_le _) sh_179 rfl ?_
    refine ra_bipush rfl (by decide) ?_
    refine ra_ialoadJ (j := 22) rfl sh_180 rfl (by decide) rfl (by decide) ?_
    have hr16 : ra_in (ra_g σ (180) 22) := (ra_in_g _ _ _)
    refine ra_isub rfl ?_
    refine ra_gen (fun z17 hz17 => ?_)
    exact ra_ireturn rfl rfl ⟨⟨_, hz17, rfl⟩, rfl⟩
  · refine ra_load rfl rfl rfl rfl ?_
    refine ra_load rfl rfl rfl rfl ?_
    refine ra_getR rfl lk_8_7 (Nat.zero_le _) sh_179 rfl ?_
    refine ra_bipush rfl (by decide) ?_
    refine ra_ialoadJ (j := 19) rfl sh_180 rfl (by decide) rfl (by decide) ?_
    have hr18 : ra_in (ra_g σ (180) 19) := (ra_in_g _ _ _)
    refine ra_load rfl rfl rfl rfl ?_
    refine ra_cTp (sp_228 hm) rfl (ct_228 rfl lk_8_159 (Or.inl rfl) sh_179 (Nat.le_of_ble_eq_true rfl)) ?_
    have hr20 : ra_in (rds σ) := (by first | omega | (unfold ra_in at *; omega))
    refine ra_load rfl rfl rfl rfl ?_
    refine ra_getR rfl lk_8_7 (Nat.zero_le _) sh_179 rfl ?_
    refine ra_bipush rfl (by decide) ?_
    refine ra_ialoadJ (j := 21) rfl sh_180 rfl (by decide) rfl (by decide) ?_
    have hr21 : ra_in (ra_g σ (180) 21) := (ra_in_g _ _ _)
    refine ra_load rfl rfl rfl rfl ?_
    refine ra_cTp (sp_227 hm) rfl (ct_227 rfl lk_8_150 (Or.inl rfl) sh_179 (Nat.le_of_ble_eq_true rfl)) ?_
    have hr23 : ra_in (rch σ) := (by first | omega | (unfold ra_in at *; omega))
    refine ra_cIp (sp_225 hr3 hr18 hr20 hr21 hr23) rfl (ct_225 rfl lk_8_143 (Or.inl rfl) (Nat.le_of_ble_eq_true rfl)) (fun z25 hz25 => ?_)
    refine ra_goto rfl rfl ?_
    refine ra_store (L' := [_, _, _]) rfl rfl rfl (Nat.le_of_ble_eq_true rfl) rfl ?_
    refine ra_load rfl rfl rfl rfl ?_
    refine ra_load rfl rfl rfl rfl ?_
    refine ra_getR rfl lk_8_7 (Nat.zero_le _) sh_179 rfl ?_
    refine ra_bipush rfl (by decide) ?_
    refine ra_ialoadJ (j := 22) rfl sh_180 rfl (by decide) rfl (by decide) ?_
    have hr26 : ra_in (ra_g σ (180) 22) := (ra_in_g _ _ _)
    refine ra_isub rfl ?_
    refine ra_gen (fun z27 hz27 => ?_)
    exact ra_ireturn rfl rfl ⟨⟨_, hz27, rfl⟩, rfl⟩
end RB
