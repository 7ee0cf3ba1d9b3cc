/-! the reference: what its methods do (printed by wip/gen/ref.py) -/
section RB
theorem sp_192 {n : Nat} {f : Nat → Int32} {d : Nat} {x0 : Int} {x1 : Int} {x2 : Int} {σ : ra_V} (hx0 : ra_in x0) (hx1 : ra_in x1) (hx2 : ra_in x2) : ra_C (g_Gs n f) g_sh 0 (d + 1) 192 [ra_J x0, ra_J x1, ra_J x2] σ (fun r s => r = .inl (some (ra_B (x1 ≤ x0 ∧ x0 ≤ x2))) ∧ s = σ) := by
  refine ra_enter (nn := 0) mt_192 rfl (Nat.le_of_ble_eq_true rfl) rfl (fun h => absurd h (by decide +kernel)) ?_
  refine ra_load rfl rfl rfl rfl ?_
  refine ra_load rfl rfl rfl rfl ?_
  refine ra_lcmp rfl (by unfold ra_in6; first | omega | (unfold ra_in at *; omega)) (by unfold ra_in6; first | omega | (unfold ra_in at *; omega)) ?_
  refine ra_iflt rfl rfl (ra_in_cmp _ _) (fun h1 => ?_) (fun h1 => ?_)
  · rw [ra_cmp_lt] at h1
    refine ra_iconst rfl ?_
    exact ra_ireturn rfl (ra_okB (Or.inl rfl)) ⟨(by unfold ra_B; rw [if_neg (by omega)]), rfl⟩
  · rw [ra_cmp_ge] at h1
    refine ra_load rfl rfl rfl rfl ?_
    refine ra_load rfl rfl rfl rfl ?_
    refine ra_lcmp rfl (by unfold ra_in6; first | omega | (unfold ra_in at *; omega)) (by unfold ra_in6; first | omega | (unfold ra_in at *; omega)) ?_
    refine ra_ifgt rfl rfl (ra_in_cmp _ _) (fun h2 => ?_) (fun h2 => ?_)
    · rw [ra_cmp_gt] at h2
      refine ra_iconst rfl ?_
      exact ra_ireturn rfl (ra_okB (Or.inl rfl)) ⟨(by unfold ra_B; rw [if_neg (by omega)]), rfl⟩
    · rw [ra_cmp_le] at h2
      refine ra_iconst rfl ?_
      refine ra_goto rfl rfl ?_
      exact ra_ireturn rfl (ra_okB (Or.inr rfl)) ⟨(by unfold ra_B; rw [if_pos (by omega)]), rfl⟩
theorem sp_211 {n : Nat} {f : Nat → Int32} {d : Nat} {x0 : Int} {x1 : Int} {x2 : Int} {x3 : Int} {σ : ra_V} (hx0 : ra_in x0) (hx1 : ra_in x1) (hx2 : ra_in x2) (hx3 : ra_in x3) : ra_C (g_Gs n f) g_sh 0 (d + 1) 211 [ra_J x0, ra_J x1, ra_J x2, ra_J x3] σ (fun r s => r = .inl (some (ra_B (x0 < x2 + x3 ∧ x2 < x0 + x1))) ∧ s = σ) := by
  refine ra_enter (nn := 0) mt_211 rfl (Nat.le_of_ble_eq_true rfl) rfl (fun h => absurd h (by decide +kernel)) ?_
  refine ra_load rfl rfl rfl rfl ?_
  refine ra_load rfl rfl rfl rfl ?_
  refine ra_load rfl rfl rfl rfl ?_
  refine ra_ladd rfl ?_
  refine ra_lcmp rfl (by unfold ra_in6; first | omega | (unfold ra_in at *; omega)) (by unfold ra_in6; first | omega | (unfold ra_in at *; omega)) ?_
  refine ra_ifge rfl rfl (ra_in_cmp _ _) (fun h1 => ?_) (fun h1 => ?_)
  · rw [ra_cmp_ge] at h1
    refine ra_iconst rfl ?_
    exact ra_ireturn rfl (ra_okB (Or.inl rfl)) ⟨(by unfold ra_B; rw [if_neg (by omega)]), rfl⟩
  · rw [ra_cmp_lt] at h1
    refine ra_load rfl rfl rfl rfl ?_
    refine ra_load rfl rfl rfl rfl ?_
    refine ra_load rfl rfl rfl rfl ?_
    refine ra_ladd rfl ?_
    refine ra_lcmp rfl (by unfold ra_in6; first | omega | (unfold ra_in at *; omega)) (by unfold ra_in6; first | omega | (unfold ra_in at *; omega)) ?_
    refine ra_ifge rfl rfl (ra_in_cmp _ _) (fun h2 => ?_) (fun h2 => ?_)
    · rw [ra_cmp_ge] at h2
      refine ra_iconst rfl ?_
      exact ra_ireturn rfl (ra_okB (Or.inl rfl)) ⟨(by unfold ra_B; rw [if_neg (by omega)]), rfl⟩
    · rw [ra_cmp_lt] at h2
      refine ra_iconst rfl ?_
      refine ra_goto rfl rfl ?_
      exact ra_ireturn rfl (ra_okB (Or.inr rfl)) ⟨(by unfold ra_B; rw [if_pos (by omega)]), rfl⟩
theorem sp_206 {n : Nat} {f : Nat → Int32} {d : Nat} {x0 : Int} {x1 : Int} {σ : ra_V} (hx0 : ra_in x0) (hx1 : ra_in x1) (hp : 1 ≤ x1 ∧ x1 ≤ 1000 ∧ -2147480000 ≤ x0 ∧ x0 ≤ 2147480000) : ra_C (g_Gs n f) g_sh 0 (d + 1) 206 [ra_I x0, ra_I x1] σ (fun r s => r = .inl (some (ra_I ((x0 + x1 - 1).tdiv x1))) ∧ s = σ) := by
  refine ra_enter (nn := 0) mt_206 rfl (Nat.le_of_ble_eq_true rfl) rfl (fun h => absurd h (by decide +kernel)) ?_
  refine ra_load rfl rfl rfl rfl ?_
  refine ra_load rfl rfl rfl rfl ?_
  refine ra_iadd rfl ?_
  refine ra_iconst rfl ?_
  refine ra_isub rfl ?_
  refine ra_load rfl rfl rfl rfl ?_
  refine ra_idiv rfl (by first | omega | (unfold ra_in at *; omega)) hx1 (by omega) ?_
  exact ra_ireturn rfl rfl ⟨(congrArg (fun z => Sum.inl (some (ra_I z))) (by first | rfl | omega)), rfl⟩
theorem sp_199 {n : Nat} {f : Nat → Int32} {d : Nat} {x0 : Int} {x1 : Int} {σ : ra_V} (hx0 : ra_in x0) (hx1 : ra_in x1) (hp : -1 ≤ x0 ∧ x0 < 8 ∧ 0 ≤ x1 ∧ x1 < 8) : ra_C (g_Gs n f) g_sh 0 (d + 1) 199 [.index (179), ra_I x0, ra_I x1] σ (fun r s => r = .inl (some (ra_I (wq σ x0 x1))) ∧ s = σ) := by
  refine ra_enter (nn := 0) mt_199 rfl (Nat.le_of_ble_eq_true rfl) rfl (fun h => absurd h (by decide +kernel)) ?_
  refine ra_load rfl rfl rfl rfl ?_
  refine ra_getR rfl lk_8_7 (Nat.zero_le _) sh_179 rfl ?_
  refine ra_bipush rfl (by decide) ?_
  refine ra_bipush rfl (by decide) ?_
  refine ra_load rfl rfl rfl rfl ?_
  refine ra_imul rfl ?_
  refine ra_iadd rfl ?_
  refine ra_load rfl rfl rfl rfl ?_
  refine ra_iadd rfl ?_
  refine ra_iaload rfl sh_180 rfl (by decide) (by first | omega | (unfold ra_in at *; omega)) (by first | omega | (unfold ra_in at *; omega)) ?_
  have hr1 : ra_in (ra_g σ (180) (((24) + ((8) * x0)) + x1).toNat) := (ra_in_g _ _ _)
  exact ra_ireturn rfl rfl ⟨(congrArg (fun z => Sum.inl (some (ra_I z))) (by first | rfl | omega)), rfl⟩
theorem sp_200 {n : Nat} {f : Nat → Int32} {d : Nat} {x0 : Int} {x1 : Int} {x2 : Int} {σ : ra_V} (hx0 : ra_in x0) (hx1 : ra_in x1) (hx2 : ra_in x2) (hp : -1 ≤ x0 ∧ x0 < 8 ∧ 0 ≤ x1 ∧ x1 < 8) : ra_C (g_Gs n f) g_sh 0 (d + 1) 200 [.index (179), ra_I x0, ra_I x1, ra_I x2] σ (fun r s => rV r ∧ Fr (180) (181) σ s ∧ wq s x0 x1 = x2 ∧ (∀ a, a ≠ (24 + 8 * x0 + x1).toNat → ra_g s 180 a = ra_g σ 180 a)) := by
  refine ra_enter (nn := 0) mt_200 rfl (Nat.le_of_ble_eq_true rfl) rfl (fun h => absurd h (by decide +kernel)) ?_
  refine ra_load rfl rfl rfl rfl ?_
  refine ra_getR rfl lk_8_7 (Nat.zero_le _) sh_179 rfl ?_
  refine ra_bipush rfl (by decide) ?_
  refine ra_bipush rfl (by decide) ?_
  refine ra_load rfl rfl rfl rfl ?_
  refine ra_imul rfl ?_
  refine ra_iadd rfl ?_
  refine ra_load rfl rfl rfl rfl ?_
  refine ra_iadd rfl ?_
  refine ra_load rfl rfl rfl rfl ?_
  refine ra_iastore rfl sh_180 rfl (by decide) (by first | omega | (unfold ra_in at *; omega)) (by first | omega | (unfold ra_in at *; omega)) ?_
  refine ra_newR hx2 (fun s1 hs1 hs1v hs1o => ?_)
  have hF2 := Fr_tr (lo := 180) (hi := 181) Fr_rf hs1 (by omega)
  exact ra_return rfl rfl ⟨rfl, ⟨hF2, hs1v, hs1o⟩⟩
theorem sp_193 {n : Nat} {f : Nat → Int32} {d : Nat} {x0 : Int} {x1 : Int} {σ : ra_V} (hx0 : x0 = 0 ∨ x0 = 1) (hx1 : ra_in x1) : ra_C (g_Gs n f) g_sh 0 (d + 1) 193 [.index (179), ra_I x0, ra_I x1] σ (fun r s => r = .inl (some (ra_I (x0))) ∧ Fr (179) (180) σ s ∧ (∀ a, a ≠ 7 → ra_g s 179 a = ra_g σ 179 a)) := by
  refine ra_enter (nn := 0) mt_193 rfl (Nat.le_of_ble_eq_true rfl) rfl (fun h => absurd h (by decide +kernel)) ?_
  refine ra_load rfl rfl rfl rfl ?_
  refine ra_ifeq rfl rfl (ra_in01 hx0) (fun h1 => ?_) (fun h1 => ?_)
  · refine ra_load rfl rfl rfl rfl ?_
    exact ra_ireturn rfl (ra_okB hx0) ⟨(congrArg (fun z => Sum.inl (some (ra_I z))) (by first | rfl | omega)), ⟨Fr_rf, fun _ _ => rfl⟩⟩
  · refine ra_load rfl rfl rfl rfl ?_
    refine ra_load rfl rfl rfl rfl ?_
    refine ra_putI rfl lk_8_51 (Nat.zero_le _) sh_179 rfl rfl ?_
    refine ra_newU hx1 (fun s2 hs2 hp6 hp6o => ?_)
    have hF3 := Fr_tr (lo := 179) (hi := 180) Fr_rf hs2 (by omega)
    refine ra_load rfl rfl rfl rfl ?_
    exact ra_ireturn rfl (ra_okB hx0) ⟨(congrArg (fun z => Sum.inl (some (ra_I z))) (by first | rfl | omega)), ⟨hF3, hp6o⟩⟩
theorem sp_201 {n : Nat} {f : Nat → Int32} {d : Nat} {x0 : Int} {σ : ra_V} (hx0 : ra_in x0) : ra_C (g_Gs n f) g_sh 0 (d + 2) 201 [.index (179), ra_I x0] σ (fun r s => (∃ z : Int, (z = 0 ∨ z = 1) ∧ (z = 1 ↔ (0 ≤ x0 ∧ x0 < 8 ∧ wq σ x0 0 = 1)) ∧ r = .inl (some (ra_I z))) ∧ s = σ) := by
  refine ra_enter (nn := 0) mt_201 rfl (Nat.le_of_ble_eq_true rfl) rfl (fun h => absurd h (by decide +kernel)) ?_
  refine ra_load rfl rfl rfl rfl ?_
  refine ra_i2l rfl hx0 ?_
  refine ra_lconst0 rfl ?_
  refine ra_ldc2 (z := 7) rfl lk_8_61 (by decide) ?_
  refine ra_cTp (sp_192 hx0 (by first | omega | (unfold ra_in at *; omega)) (by first | omega | (unfold ra_in at *; omega))) rfl (ct_192 rfl lk_8_63 (Or.inl rfl) (Nat.le_of_ble_eq_true rfl)) ?_
  refine ra_ifeqB rfl rfl (fun h2 => ?_) (fun h2 => ?_)
  · refine ra_iconst rfl ?_
    exact ra_ireturn rfl (ra_okB (Or.inl rfl)) ⟨⟨_, (Or.inl rfl), (by omega), rfl⟩, rfl⟩
  · refine ra_load rfl rfl rfl rfl ?_
    refine ra_load rfl rfl rfl rfl ?_
    refine ra_iconst rfl ?_
    refine ra_cTp (sp_199 hx0 (by first | omega | (unfold ra_in at *; omega)) (by first | assumption | rfl | omega)) rfl (ct_199 rfl lk_8_67 (Or.inl rfl) sh_179 (Nat.le_of_ble_eq_true rfl)) ?_
    have hr4 : ra_in (wq σ x0 (0)) := (ra_in_wq _ _ _)
    refine ra_iconst rfl ?_
    refine ra_icne rfl rfl hr4 (by first | omega | (unfold ra_in at *; omega)) (fun h5 => ?_) (fun h5 => ?_)
    · refine ra_iconst rfl ?_
      exact ra_ireturn rfl (ra_okB (Or.inl rfl)) ⟨⟨_, (Or.inl rfl), (by omega), rfl⟩, rfl⟩
    · refine ra_iconst rfl ?_
      refine ra_goto rfl rfl ?_
      exact ra_ireturn rfl (ra_okB (Or.inr rfl)) ⟨⟨_, (Or.inr rfl), (by omega), rfl⟩, rfl⟩
theorem sp_203 {n : Nat} {f : Nat → Int32} {d : Nat}  {σ : ra_V}  : ra_C (g_Gs n f) g_sh 0 (d + 1) 203 [.index (179)] σ (fun r s => (∃ z : Int, (z = 0 ∨ z = 1) ∧ (z = 1 ↔ ra_g σ 180 16 ≠ -1) ∧ r = .inl (some (ra_I z))) ∧ s = σ) := by
  refine ra_enter (nn := 0) mt_203 rfl (Nat.le_of_ble_eq_true rfl) rfl (fun h => absurd h (by decide +kernel)) ?_
  refine ra_load rfl rfl rfl rfl ?_
  refine ra_getR rfl lk_8_7 (Nat.zero_le _) sh_179 rfl ?_
  refine ra_bipush rfl (by decide) ?_
  refine ra_ialoadJ (j := 16) rfl sh_180 rfl (by decide) rfl (by decide) ?_
  have hr1 : ra_in (ra_g σ (180) 16) := (ra_in_g _ _ _)
  refine ra_iconst rfl ?_
  refine ra_iceq rfl rfl hr1 (by first | omega | (unfold ra_in at *; omega)) (fun h2 => ?_) (fun h2 => ?_)
  · refine ra_iconst rfl ?_
    exact ra_ireturn rfl (ra_okB (Or.inl rfl)) ⟨⟨_, (Or.inl rfl), (by omega), rfl⟩, rfl⟩
  · refine ra_iconst rfl ?_
    refine ra_goto rfl rfl ?_
    exact ra_ireturn rfl (ra_okB (Or.inr rfl)) ⟨⟨_, (Or.inr rfl), (by omega), rfl⟩, rfl⟩
theorem sp_204 {n : Nat} {f : Nat → Int32} {d : Nat} {x0 : Int} {σ : ra_V} (hx0 : ra_in x0) : ra_C (g_Gs n f) g_sh 0 (d + 1) 204 [.index (179), ra_I x0] σ (fun r s => (∃ z : Int, (z = 0 ∨ z = 1) ∧ (z = 1 ↔ ra_g σ 180 16 = x0) ∧ r = .inl (some (ra_I z))) ∧ s = σ) := by
  refine ra_enter (nn := 0) mt_204 rfl (Nat.le_of_ble_eq_true rfl) rfl (fun h => absurd h (by decide +kernel)) ?_
  refine ra_load rfl rfl rfl rfl ?_
  refine ra_getR rfl lk_8_7 (Nat.zero_le _) sh_179 rfl ?_
  refine ra_bipush rfl (by decide) ?_
  refine ra_ialoadJ (j := 16) rfl sh_180 rfl (by decide) rfl (by decide) ?_
  have hr1 : ra_in (ra_g σ (180) 16) := (ra_in_g _ _ _)
  refine ra_load rfl rfl rfl rfl ?_
  refine ra_icne rfl rfl hr1 hx0 (fun h2 => ?_) (fun h2 => ?_)
  · refine ra_iconst rfl ?_
    exact ra_ireturn rfl (ra_okB (Or.inl rfl)) ⟨⟨_, (Or.inl rfl), (by omega), rfl⟩, rfl⟩
  · refine ra_iconst rfl ?_
    refine ra_goto rfl rfl ?_
    exact ra_ireturn rfl (ra_okB (Or.inr rfl)) ⟨⟨_, (Or.inr rfl), (by omega), rfl⟩, rfl⟩
theorem sp_205 {n : Nat} {f : Nat → Int32} {d : Nat} {x0 : Int} {σ : ra_V} (hx0 : ra_in x0) (hp : -1 ≤ x0 ∧ x0 < 8) : ra_C (g_Gs n f) g_sh 0 (d + 2) 205 [.index (179), ra_I x0] σ (fun r s => (∃ z : Int, (z = 0 ∨ z = 1) ∧ (z = 0 → (wq σ x0 5 ≠ 1 ∧ ra_g σ 180 16 ≠ x0)) ∧ r = .inl (some (ra_I z))) ∧ s = σ) := by
  refine ra_enter (nn := 0) mt_205 rfl (Nat.le_of_ble_eq_true rfl) rfl (fun h => absurd h (by decide +kernel)) ?_
  refine ra_load rfl rfl rfl rfl ?_
  refine ra_load rfl rfl rfl rfl ?_
  refine ra_iconst rfl ?_
  refine ra_cTp (sp_199 hx0 (by first | omega | (unfold ra_in at *; omega)) (by first | assumption | rfl | omega)) rfl (ct_199 rfl lk_8_67 (Or.inl rfl) sh_179 (Nat.le_of_ble_eq_true rfl)) ?_
  have hr2 : ra_in (wq σ x0 (5)) := (ra_in_wq _ _ _)
  refine ra_iconst rfl ?_
  refine ra_iceq rfl rfl hr2 (by first | omega | (unfold ra_in at *; omega)) (fun h3 => ?_) (fun h3 => ?_)
  · refine ra_iconst rfl ?_
    refine ra_goto rfl rfl ?_
    exact ra_ireturn rfl (ra_okB (Or.inr rfl)) ⟨⟨_, (Or.inr rfl), (by omega), rfl⟩, rfl⟩
  · refine ra_load rfl rfl rfl rfl ?_
    refine ra_load rfl rfl rfl rfl ?_
    refine ra_cQPp (sp_204 hx0) rfl (ct_204 rfl lk_8_71 (Or.inl rfl) sh_179 (Nat.le_of_ble_eq_true rfl)) (fun z5 hz5 hz5p => ?_)
    refine ra_ifeq rfl rfl (ra_in01 hz5) (fun h6 => ?_) (fun h6 => ?_)
    · refine ra_iconst rfl ?_
      exact ra_ireturn rfl (ra_okB (Or.inl rfl)) ⟨⟨_, (Or.inl rfl), (by omega), rfl⟩, rfl⟩
    · refine ra_iconst rfl ?_
      refine ra_goto rfl rfl ?_
      exact ra_ireturn rfl (ra_okB (Or.inr rfl)) ⟨⟨_, (Or.inr rfl), (by omega), rfl⟩, rfl⟩
theorem sp_210 {n : Nat} {f : Nat → Int32} {d : Nat} {x0 : Int} {x1 : Int} {σ : ra_V} (hx0 : ra_in x0) (hx1 : ra_in x1) (hw : WFa σ) : ra_C (g_Gs n f) g_sh 0 (d + 1) 210 [.index (179), ra_J x0, ra_J x1] σ (fun r s => (∃ z : Int, (z = 0 ∨ z = 1) ∧ (z = 1 ↔ US σ x0 x1) ∧ r = .inl (some (ra_I z))) ∧ s = σ) := by
  refine ra_enter (nn := 0) mt_210 rfl (Nat.le_of_ble_eq_true rfl) rfl (fun h => absurd h (by decide +kernel)) ?_
  have hw0 := hw
  unfold WFa at hw0
  refine ra_load rfl rfl rfl rfl ?_
  refine ra_lconst1 rfl ?_
  refine ra_lcmp rfl (by unfold ra_in6; first | omega | (unfold ra_in at *; omega)) (by unfold ra_in6; first | omega | (unfold ra_in at *; omega)) ?_
  refine ra_iflt rfl rfl (ra_in_cmp _ _) (fun h1 => ?_) (fun h1 => ?_)
  · rw [ra_cmp_lt] at h1
    refine ra_iconst rfl ?_
    exact ra_ireturn rfl (ra_okB (Or.inl rfl)) ⟨⟨_, (Or.inl rfl), (by unfold US; omega), rfl⟩, rfl⟩
  · rw [ra_cmp_ge] at h1
    refine ra_load rfl rfl rfl rfl ?_
    refine ra_load rfl rfl rfl rfl ?_
    refine ra_getR rfl lk_8_7 (Nat.zero_le _) sh_179 rfl ?_
    refine ra_iconst rfl ?_
    refine ra_ialoadJ (j := 1) rfl sh_180 rfl (by decide) rfl (by decide) ?_
    have hr2 : ra_in (ra_g σ (180) 1) := (ra_in_g _ _ _)
    refine ra_i2l rfl hr2 ?_
    refine ra_lcmp rfl (by unfold ra_in6; first | omega | (unfold ra_in at *; omega)) (by unfold ra_in6; first | omega | (unfold ra_in at *; omega)) ?_
    refine ra_iflt rfl rfl (ra_in_cmp _ _) (fun h3 => ?_) (fun h3 => ?_)
    · rw [ra_cmp_lt] at h3
      refine ra_iconst rfl ?_
      exact ra_ireturn rfl (ra_okB (Or.inl rfl)) ⟨⟨_, (Or.inl rfl), (by unfold US; omega), rfl⟩, rfl⟩
    · rw [ra_cmp_ge] at h3
      refine ra_load rfl rfl rfl rfl ?_
      refine ra_load rfl rfl rfl rfl ?_
      refine ra_ladd rfl ?_
      refine ra_load rfl rfl rfl rfl ?_
      refine ra_getR rfl lk_8_7 (Nat.zero_le _) sh_179 rfl ?_
      refine ra_iconst rfl ?_
      refine ra_ialoadJ (j := 0) rfl sh_180 rfl (by decide) rfl (by decide) ?_
      have hr4 : ra_in (ra_g σ (180) 0) := (ra_in_g _ _ _)
      refine ra_load rfl rfl rfl rfl ?_
      refine ra_getR rfl lk_8_7 (Nat.zero_le _) sh_179 rfl ?_
      refine ra_iconst rfl ?_
      refine ra_ialoadJ (j := 2) rfl sh_180 rfl (by decide) rfl (by decide) ?_
      have hr5 : ra_in (ra_g σ (180) 2) := (ra_in_g _ _ _)
      refine ra_isub rfl ?_
      refine ra_i2l rfl (by first | omega | (unfold ra_in at *; omega)) ?_
      refine ra_lcmp rfl (by unfold ra_in6; first | omega | (unfold ra_in at *; omega)) (by unfold ra_in6; first | omega | (unfold ra_in at *; omega)) ?_
      refine ra_ifgt rfl rfl (ra_in_cmp _ _) (fun h6 => ?_) (fun h6 => ?_)
      · rw [ra_cmp_gt] at h6
        refine ra_iconst rfl ?_
        exact ra_ireturn rfl (ra_okB (Or.inl rfl)) ⟨⟨_, (Or.inl rfl), (by unfold US; omega), rfl⟩, rfl⟩
      · rw [ra_cmp_le] at h6
        refine ra_iconst rfl ?_
        refine ra_goto rfl rfl ?_
        exact ra_ireturn rfl (ra_okB (Or.inr rfl)) ⟨⟨_, (Or.inr rfl), (by unfold US; omega), rfl⟩, rfl⟩
end RB
