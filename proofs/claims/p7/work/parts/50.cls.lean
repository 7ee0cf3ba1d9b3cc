/-! the class: what its methods do, told weakly (printed by wip/gen/cls.py) -/
section CW
theorem sp_185 {n : Nat} {f : Nat → Int32} {d : Nat} {x0 : Int} {x1 : Int} {x2 : Int} {x3 : Int} {σ : ra_V} (hx0 : ra_in x0) (hx1 : ra_in x1) (hx2 : ra_in x2) (hx3 : ra_in x3) : ra_C (g_Gs n f) g_sh 0 (d + 1) 185 [ra_J x0, ra_J x1, ra_J x2, ra_J x3] σ (fun r s => rB r ∧ s = σ) := by
  refine ra_enter (nn := 0) mt_185 rfl (Nat.le_of_ble_eq_true rfl) rfl (fun h => absurd h (by decide +kernel)) ?_
  refine ra_load rfl rfl rfl rfl ?_
  refine ra_load rfl rfl rfl rfl ?_
  refine ra_load rfl rfl rfl rfl ?_
  refine ra_ladd rfl ?_
  refine ra_lcmp rfl (by unfold ra_in6; first | omega | (unfold ra_in at *; omega)) (by unfold ra_in6; first | omega | (unfold ra_in at *; omega)) ?_
  refine ra_ifge rfl rfl (ra_in_cmp _ _) (fun h1 => ?_) (fun h1 => ?_)
  · rw [ra_cmp_ge] at h1
    refine ra_iconst rfl ?_
    exact ra_ireturn rfl (ra_okB (Or.inl rfl)) ⟨⟨_, (Or.inl rfl), rfl⟩, rfl⟩
  · rw [ra_cmp_lt] at h1
    refine ra_load rfl rfl rfl rfl ?_
    refine ra_load rfl rfl rfl rfl ?_
    refine ra_load rfl rfl rfl rfl ?_
    refine ra_ladd rfl ?_
    refine ra_lcmp rfl (by unfold ra_in6; first | omega | (unfold ra_in at *; omega)) (by unfold ra_in6; first | omega | (unfold ra_in at *; omega)) ?_
    refine ra_ifge rfl rfl (ra_in_cmp _ _) (fun h2 => ?_) (fun h2 => ?_)
    · rw [ra_cmp_ge] at h2
      refine ra_iconst rfl ?_
      exact ra_ireturn rfl (ra_okB (Or.inl rfl)) ⟨⟨_, (Or.inl rfl), rfl⟩, rfl⟩
    · rw [ra_cmp_lt] at h2
      refine ra_iconst rfl ?_
      refine ra_goto rfl rfl ?_
      exact ra_ireturn rfl (ra_okB (Or.inr rfl)) ⟨⟨_, (Or.inr rfl), rfl⟩, rfl⟩
theorem sp_186 {n : Nat} {f : Nat → Int32} {d : Nat} {x0 : Int} {x1 : Int} {σ : ra_V} (hx0 : ra_in x0) (hx1 : ra_in x1) : ra_C (g_Gs n f) g_sh 0 (d + 1) 186 [ra_I x0, ra_I x1] σ (fun r s => rI r ∧ s = σ) := by
  refine ra_enter (nn := 0) mt_186 rfl (Nat.le_of_ble_eq_true rfl) rfl (fun h => absurd h (by decide +kernel)) ?_
  refine ra_load rfl rfl rfl rfl ?_
  refine ra_iconst rfl ?_
  refine ra_icge rfl rfl hx1 (by first | omega | (unfold ra_in at *; omega)) (fun h1 => ?_) (fun h1 => ?_)
  · refine ra_load rfl rfl rfl rfl ?_
    refine ra_load rfl rfl rfl rfl ?_
    refine ra_iadd rfl ?_
    refine ra_gen (fun z2 hz2 => ?_)
    refine ra_iconst rfl ?_
    refine ra_isub rfl ?_
    refine ra_gen (fun z3 hz3 => ?_)
    refine ra_load rfl rfl rfl rfl ?_
    refine ra_idiv rfl hz3 hx1 (by omega) ?_
    refine ra_gen (fun z4 hz4 => ?_)
    refine ra_load rfl rfl rfl rfl ?_
    refine ra_imul rfl ?_
    refine ra_gen (fun z5 hz5 => ?_)
    exact ra_ireturn rfl rfl ⟨⟨_, hz5, rfl⟩, rfl⟩
  · refine ra_load rfl rfl rfl rfl ?_
    refine ra_goto rfl rfl ?_
    exact ra_ireturn rfl rfl ⟨⟨_, hx0, rfl⟩, rfl⟩
theorem sp_187 {n : Nat} {f : Nat → Int32} {d : Nat} {x0 : Int} {x1 : Int} {x2 : Int} {σ : ra_V} (hx0 : ra_in x0) (hx1 : ra_in x1) (hx2 : ra_in x2) : ra_C (g_Gs n f) g_sh 0 (d + 2) 187 [ra_I x0, ra_I x1, ra_I x2] σ (fun r s => rI r ∧ s = σ) := by
  refine ra_enter (nn := 0) mt_187 rfl (Nat.le_of_ble_eq_true rfl) rfl (fun h => absurd h (by decide +kernel)) ?_
  refine ra_iconst rfl ?_
  refine ra_load rfl rfl rfl rfl ?_
  refine ra_load rfl rfl rfl rfl ?_
  refine ra_load rfl rfl rfl rfl ?_
  refine ra_cIp (sp_186 hx0 hx2) rfl (ct_186 rfl lk_7_286 (Or.inl rfl) (Nat.le_of_ble_eq_true rfl)) (fun z2 hz2 => ?_)
  refine ra_isub rfl ?_
  refine ra_gen (fun z3 hz3 => ?_)
  refine ra_max rfl lk_7_461 (by first | omega | (unfold ra_in at *; omega)) hz3 (Nat.le_of_ble_eq_true rfl) ?_
  refine ra_gen (fun z4 hz4 => ?_)
  exact ra_ireturn rfl rfl ⟨⟨_, hz4, rfl⟩, rfl⟩
theorem sp_188 {n : Nat} {f : Nat → Int32} {d : Nat} {x0 : Int} {x1 : Int} {σ : ra_V} (hx0 : ra_in x0) (hx1 : ra_in x1) : ra_C (g_Gs n f) g_sh 0 (d + 1) 188 [ra_I x0, ra_I x1] σ (fun r s => rI r ∧ s = σ) := by
  refine ra_enter (nn := 0) mt_188 rfl (Nat.le_of_ble_eq_true rfl) rfl (fun h => absurd h (by decide +kernel)) ?_
  refine ra_load rfl rfl rfl rfl ?_
  refine ra_load rfl rfl rfl rfl ?_
  refine ra_icge rfl rfl hx0 hx1 (fun h1 => ?_) (fun h1 => ?_)
  · refine ra_load rfl rfl rfl rfl ?_
    refine ra_load rfl rfl rfl rfl ?_
    refine ra_isub rfl ?_
    refine ra_gen (fun z2 hz2 => ?_)
    exact ra_ireturn rfl rfl ⟨⟨_, hz2, rfl⟩, rfl⟩
  · refine ra_load rfl rfl rfl rfl ?_
    refine ra_load rfl rfl rfl rfl ?_
    refine ra_isub rfl ?_
    refine ra_gen (fun z3 hz3 => ?_)
    refine ra_goto rfl rfl ?_
    exact ra_ireturn rfl rfl ⟨⟨_, hz3, rfl⟩, rfl⟩
theorem sp_189 {n : Nat} {f : Nat → Int32} {d : Nat} {x0 : Int} {x1 : Int} {σ : ra_V} (hx0 : ra_in x0) (hx1 : ra_in x1) : ra_C (g_Gs n f) g_sh 0 (d + 1) 189 [ra_I x0, ra_I x1] σ (fun r s => rI r ∧ s = σ) := by
  refine ra_enter (nn := 0) mt_189 rfl (Nat.le_of_ble_eq_true rfl) rfl (fun h => absurd h (by decide +kernel)) ?_
  refine ra_load rfl rfl rfl rfl ?_
  refine ra_load rfl rfl rfl rfl ?_
  refine ra_icle rfl rfl hx0 hx1 (fun h1 => ?_) (fun h1 => ?_)
  · refine ra_iconst rfl ?_
    exact ra_ireturn rfl rfl ⟨⟨_, (by first | omega | (unfold ra_in at *; omega)), rfl⟩, rfl⟩
  · refine ra_iconst rfl ?_
    refine ra_goto rfl rfl ?_
    exact ra_ireturn rfl rfl ⟨⟨_, (by first | omega | (unfold ra_in at *; omega)), rfl⟩, rfl⟩
theorem sp_190 {n : Nat} {f : Nat → Int32} {d : Nat} {x0 : Int} {x1 : Int} {x2 : Int} {σ : ra_V} (hx0 : ra_in x0) (hx1 : ra_in x1) (hx2 : ra_in x2) : ra_C (g_Gs n f) g_sh 0 (d + 2) 190 [ra_I x0, ra_I x1, ra_I x2] σ (fun r s => rI r ∧ s = σ) := by
  refine ra_enter (nn := 2) mt_190 rfl (Nat.le_of_ble_eq_true rfl) rfl (fun h => absurd h (by decide +kernel)) ?_
  refine ra_load rfl rfl rfl rfl ?_
  refine ra_iconst rfl ?_
  refine ra_icge rfl rfl hx1 (by first | omega | (unfold ra_in at *; omega)) (fun h1 => ?_) (fun h1 => ?_)
  · refine ra_load rfl rfl rfl rfl ?_
    refine ra_load rfl rfl rfl rfl ?_
    refine ra_irem rfl hx0 hx1 (by omega) ?_
    refine ra_gen (fun z2 hz2 => ?_)
    refine ra_store (L' := [_, _, _, _, _]) rfl rfl rfl (Nat.le_of_ble_eq_true rfl) rfl ?_
    refine ra_load rfl rfl rfl rfl ?_
    refine ra_load rfl rfl rfl rfl ?_
    refine ra_idiv rfl hx0 hx1 (by omega) ?_
    refine ra_gen (fun z3 hz3 => ?_)
    refine ra_load rfl rfl rfl rfl ?_
    refine ra_load rfl rfl rfl rfl ?_
    refine ra_cIp (sp_189 hx1 hx2) rfl (ct_189 rfl lk_7_466 (Or.inl rfl) (Nat.le_of_ble_eq_true rfl)) (fun z5 hz5 => ?_)
    refine ra_imul rfl ?_
    refine ra_gen (fun z6 hz6 => ?_)
    refine ra_store (L' := [_, _, _, _, _]) rfl rfl rfl (Nat.le_of_ble_eq_true rfl) rfl ?_
    refine ra_load rfl rfl rfl rfl ?_
    refine ra_ifne rfl rfl hz2 (fun h7 => ?_) (fun h7 => ?_)
    · refine ra_load rfl rfl rfl rfl ?_
      refine ra_load rfl rfl rfl rfl ?_
      refine ra_load rfl rfl rfl rfl ?_
      refine ra_cIp (sp_189 hz2 hx2) rfl (ct_189 rfl lk_7_466 (Or.inl rfl) (Nat.le_of_ble_eq_true rfl)) (fun z9 hz9 => ?_)
      refine ra_iadd rfl ?_
      refine ra_gen (fun z10 hz10 => ?_)
      exact ra_ireturn rfl rfl ⟨⟨_, hz10, rfl⟩, rfl⟩
    · refine ra_load rfl rfl rfl rfl ?_
      refine ra_goto rfl rfl ?_
      exact ra_ireturn rfl rfl ⟨⟨_, hz6, rfl⟩, rfl⟩
  · refine ra_iconst rfl ?_
    exact ra_ireturn rfl rfl ⟨⟨_, (by first | omega | (unfold ra_in at *; omega)), rfl⟩, rfl⟩
theorem sp_92 {n : Nat} {f : Nat → Int32} {d : Nat} {D i : Nat} {σ : ra_V} (hD : isD D) (hi : i < 8) : ra_C (g_Gs n f) g_sh 0 (d + 1) 92 [.index (D + 5 + i)] σ (fun r s => rB r ∧ s = σ) := by
  refine ra_enter (nn := 0) mt_92 rfl (Nat.le_of_ble_eq_true rfl) rfl (fun h => absurd h (by decide +kernel)) ?_
  refine ra_load rfl rfl rfl rfl ?_
  refine ra_getI rfl lk_5_18 (Nat.zero_le _) (sh_P hD hi) rfl ?_
  refine ra_gen (fun z1 hz1 => ?_)
  refine ra_ifle rfl rfl hz1 (fun h2 => ?_) (fun h2 => ?_)
  · refine ra_iconst rfl ?_
    exact ra_ireturn rfl (ra_okB (Or.inl rfl)) ⟨⟨_, (Or.inl rfl), rfl⟩, rfl⟩
  · refine ra_iconst rfl ?_
    refine ra_goto rfl rfl ?_
    exact ra_ireturn rfl (ra_okB (Or.inr rfl)) ⟨⟨_, (Or.inr rfl), rfl⟩, rfl⟩
theorem sp_93 {n : Nat} {f : Nat → Int32} {d : Nat} {D i : Nat} {σ : ra_V} (hD : isD D) (hi : i < 8) : ra_C (g_Gs n f) g_sh 0 (d + 1) 93 [.index (D + 5 + i)] σ (fun r s => rI r ∧ s = σ) := by
  refine ra_enter (nn := 0) mt_93 rfl (Nat.le_of_ble_eq_true rfl) rfl (fun h => absurd h (by decide +kernel)) ?_
  refine ra_load rfl rfl rfl rfl ?_
  refine ra_getI rfl lk_5_15 (Nat.zero_le _) (sh_P hD hi) rfl ?_
  refine ra_gen (fun z1 hz1 => ?_)
  refine ra_load rfl rfl rfl rfl ?_
  refine ra_getI rfl lk_5_18 (Nat.zero_le _) (sh_P hD hi) rfl ?_
  refine ra_gen (fun z2 hz2 => ?_)
  refine ra_iadd rfl ?_
  refine ra_gen (fun z3 hz3 => ?_)
  exact ra_ireturn rfl rfl ⟨⟨_, hz3, rfl⟩, rfl⟩
theorem sp_94 {n : Nat} {f : Nat → Int32} {d : Nat} {D i : Nat} {x0 : Int} {σ : ra_V} (hD : isD D) (hi : i < 8) (hx0 : ra_in x0) : ra_C (g_Gs n f) g_sh 0 (d + 1) 94 [.index (D + 5 + i), ra_I x0] σ (fun r s => rI r ∧ s = σ) := by
  refine ra_enter (nn := 0) mt_94 rfl (Nat.le_of_ble_eq_true rfl) rfl (fun h => absurd h (by decide +kernel)) ?_
  refine ra_sipush rfl (by decide) ?_
  refine ra_load rfl rfl rfl rfl ?_
  refine ra_getI rfl lk_5_31 (Nat.zero_le _) (sh_P hD hi) rfl ?_
  refine ra_gen (fun z1 hz1 => ?_)
  refine ra_iconst rfl ?_
  refine ra_iadd rfl ?_
  refine ra_gen (fun z2 hz2 => ?_)
  refine ra_imul rfl ?_
  refine ra_gen (fun z3 hz3 => ?_)
  refine ra_load rfl rfl rfl rfl ?_
  refine ra_iadd rfl ?_
  refine ra_gen (fun z4 hz4 => ?_)
  exact ra_ireturn rfl rfl ⟨⟨_, hz4, rfl⟩, rfl⟩
theorem sp_95 {n : Nat} {f : Nat → Int32} {d : Nat} {D i : Nat} {x0 : Int} {x1 : Int} {σ : ra_V} (hD : isD D) (hi : i < 8) (hx0 : ra_in x0) (hx1 : ra_in x1) : ra_C (g_Gs n f) g_sh 0 (d + 1) 95 [.index (D + 5 + i), ra_J x0, ra_J x1] σ (fun r s => rB r ∧ s = σ) := by
  refine ra_enter (nn := 0) mt_95 rfl (Nat.le_of_ble_eq_true rfl) rfl (fun h => absurd h (by decide +kernel)) ?_
  refine ra_load rfl rfl rfl rfl ?_
  refine ra_getI rfl lk_5_18 (Nat.zero_le _) (sh_P hD hi) rfl ?_
  refine ra_gen (fun z1 hz1 => ?_)
  refine ra_ifle rfl rfl hz1 (fun h2 => ?_) (fun h2 => ?_)
  · refine ra_iconst rfl ?_
    exact ra_ireturn rfl (ra_okB (Or.inl rfl)) ⟨⟨_, (Or.inl rfl), rfl⟩, rfl⟩
  · refine ra_load rfl rfl rfl rfl ?_
    refine ra_getI rfl lk_5_15 (Nat.zero_le _) (sh_P hD hi) rfl ?_
    refine ra_gen (fun z3 hz3 => ?_)
    refine ra_i2l rfl hz3 ?_
    refine ra_load rfl rfl rfl rfl ?_
    refine ra_load rfl rfl rfl rfl ?_
    refine ra_ladd rfl ?_
    refine ra_lcmp rfl (by unfold ra_in6; first | omega | (unfold ra_in at *; omega)) (by unfold ra_in6; first | omega | (unfold ra_in at *; omega)) ?_
    refine ra_ifge rfl rfl (ra_in_cmp _ _) (fun h4 => ?_) (fun h4 => ?_)
    · rw [ra_cmp_ge] at h4
      refine ra_iconst rfl ?_
      exact ra_ireturn rfl (ra_okB (Or.inl rfl)) ⟨⟨_, (Or.inl rfl), rfl⟩, rfl⟩
    · rw [ra_cmp_lt] at h4
      refine ra_load rfl rfl rfl rfl ?_
      refine ra_load rfl rfl rfl rfl ?_
      refine ra_getI rfl lk_5_15 (Nat.zero_le _) (sh_P hD hi) rfl ?_
      refine ra_gen (fun z5 hz5 => ?_)
      refine ra_load rfl rfl rfl rfl ?_
      refine ra_getI rfl lk_5_18 (Nat.zero_le _) (sh_P hD hi) rfl ?_
      refine ra_gen (fun z6 hz6 => ?_)
      refine ra_iadd rfl ?_
      refine ra_gen (fun z7 hz7 => ?_)
      refine ra_i2l rfl hz7 ?_
      refine ra_lcmp rfl (by unfold ra_in6; first | omega | (unfold ra_in at *; omega)) (by unfold ra_in6; first | omega | (unfold ra_in at *; omega)) ?_
      refine ra_ifge rfl rfl (ra_in_cmp _ _) (fun h8 => ?_) (fun h8 => ?_)
      · rw [ra_cmp_ge] at h8
        refine ra_iconst rfl ?_
        exact ra_ireturn rfl (ra_okB (Or.inl rfl)) ⟨⟨_, (Or.inl rfl), rfl⟩, rfl⟩
      · rw [ra_cmp_lt] at h8
        refine ra_iconst rfl ?_
        refine ra_goto rfl rfl ?_
        exact ra_ireturn rfl (ra_okB (Or.inr rfl)) ⟨⟨_, (Or.inr rfl), rfl⟩, rfl⟩
theorem sp_67 {n : Nat} {f : Nat → Int32} {d : Nat} {D : Nat} {σ : ra_V} (hD : isD D) : ra_C (g_Gs n f) g_sh 0 (d + 1) 67 [.index (D + 3)] σ (fun r s => rB r ∧ s = σ) := by
  refine ra_enter (nn := 0) mt_67 rfl (Nat.le_of_ble_eq_true rfl) rfl (fun h => absurd h (by decide +kernel)) ?_
  refine ra_load rfl rfl rfl rfl ?_
  refine ra_getI rfl lk_3_9 (Nat.zero_le _) (sh_D3 hD) rfl ?_
  refine ra_gen (fun z1 hz1 => ?_)
  refine ra_iconst rfl ?_
  refine ra_iceq rfl rfl hz1 (by first | omega | (unfold ra_in at *; omega)) (fun h2 => ?_) (fun h2 => ?_)
  · refine ra_iconst rfl ?_
    exact ra_ireturn rfl (ra_okB (Or.inl rfl)) ⟨⟨_, (Or.inl rfl), rfl⟩, rfl⟩
  · refine ra_iconst rfl ?_
    refine ra_goto rfl rfl ?_
    exact ra_ireturn rfl (ra_okB (Or.inr rfl)) ⟨⟨_, (Or.inr rfl), rfl⟩, rfl⟩
theorem sp_69 {n : Nat} {f : Nat → Int32} {d : Nat} {D : Nat} {x0 : Int} {σ : ra_V} (hD : isD D) (hx0 : ra_in x0) : ra_C (g_Gs n f) g_sh 0 (d + 1) 69 [.index (D + 3), ra_I x0] σ (fun r s => rI r ∧ s = σ) := by
  refine ra_enter (nn := 1) mt_69 rfl (Nat.le_of_ble_eq_true rfl) rfl (fun h => absurd h (by decide +kernel)) ?_
  refine ra_load rfl rfl rfl rfl ?_
  refine ra_getI rfl lk_3_18 (Nat.zero_le _) (sh_D3 hD) rfl ?_
  refine ra_gen (fun z1 hz1 => ?_)
  refine ra_load rfl rfl rfl rfl ?_
  refine ra_load rfl rfl rfl rfl ?_
  refine ra_getI rfl lk_3_27 (Nat.zero_le _) (sh_D3 hD) rfl ?_
  refine ra_gen (fun z2 hz2 => ?_)
  refine ra_imul rfl ?_
  refine ra_gen (fun z3 hz3 => ?_)
  refine ra_isub rfl ?_
  refine ra_gen (fun z4 hz4 => ?_)
  refine ra_store (L' := [_, _, _]) rfl rfl rfl (Nat.le_of_ble_eq_true rfl) rfl ?_
  refine ra_load rfl rfl rfl rfl ?_
  refine ra_load rfl rfl rfl rfl ?_
  refine ra_getI rfl lk_3_27 (Nat.zero_le _) (sh_D3 hD) rfl ?_
  refine ra_gen (fun z5 hz5 => ?_)
  refine ra_icge rfl rfl hz4 hz5 (fun h6 => ?_) (fun h6 => ?_)
  · refine ra_load rfl rfl rfl rfl ?_
    refine ra_getI rfl lk_3_27 (Nat.zero_le _) (sh_D3 hD) rfl ?_
    refine ra_gen (fun z7 hz7 => ?_)
    exact ra_ireturn rfl rfl ⟨⟨_, hz7, rfl⟩, rfl⟩
  · refine ra_load rfl rfl rfl rfl ?_
    refine ra_goto rfl rfl ?_
    exact ra_ireturn rfl rfl ⟨⟨_, hz4, rfl⟩, rfl⟩
theorem sp_70 {n : Nat} {f : Nat → Int32} {d : Nat} {D : Nat} {x0 : Int} {σ : ra_V} (hD : isD D) (hx0 : ra_in x0) : ra_C (g_Gs n f) g_sh 0 (d + 1) 70 [.index (D + 3), ra_I x0] σ (fun r s => rB r ∧ s = σ) := by
  refine ra_enter (nn := 0) mt_70 rfl (Nat.le_of_ble_eq_true rfl) rfl (fun h => absurd h (by decide +kernel)) ?_
  refine ra_load rfl rfl rfl rfl ?_
  refine ra_getI rfl lk_3_24 (Nat.zero_le _) (sh_D3 hD) rfl ?_
  refine ra_gen (fun z1 hz1 => ?_)
  refine ra_load rfl rfl rfl rfl ?_
  refine ra_getI rfl lk_3_21 (Nat.zero_le _) (sh_D3 hD) rfl ?_
  refine ra_gen (fun z2 hz2 => ?_)
  refine ra_icge rfl rfl hz1 hz2 (fun h3 => ?_) (fun h3 => ?_)
  · refine ra_load rfl rfl rfl rfl ?_
    refine ra_load rfl rfl rfl rfl ?_
    refine ra_getI rfl lk_3_30 (Nat.zero_le _) (sh_D3 hD) rfl ?_
    refine ra_gen (fun z4 hz4 => ?_)
    refine ra_load rfl rfl rfl rfl ?_
    refine ra_getI rfl lk_3_33 (Nat.zero_le _) (sh_D3 hD) rfl ?_
    refine ra_gen (fun z5 hz5 => ?_)
    refine ra_isub rfl ?_
    refine ra_gen (fun z6 hz6 => ?_)
    refine ra_iclt rfl rfl hx0 hz6 (fun h7 => ?_) (fun h7 => ?_)
    · refine ra_iconst rfl ?_
      exact ra_ireturn rfl (ra_okB (Or.inl rfl)) ⟨⟨_, (Or.inl rfl), rfl⟩, rfl⟩
    · refine ra_iconst rfl ?_
      refine ra_goto rfl rfl ?_
      exact ra_ireturn rfl (ra_okB (Or.inr rfl)) ⟨⟨_, (Or.inr rfl), rfl⟩, rfl⟩
  · refine ra_load rfl rfl rfl rfl ?_
    refine ra_load rfl rfl rfl rfl ?_
    refine ra_getI rfl lk_3_33 (Nat.zero_le _) (sh_D3 hD) rfl ?_
    refine ra_gen (fun z8 hz8 => ?_)
    refine ra_icge rfl rfl hx0 hz8 (fun h9 => ?_) (fun h9 => ?_)
    · refine ra_iconst rfl ?_
      refine ra_goto rfl rfl ?_
      exact ra_ireturn rfl (ra_okB (Or.inl rfl)) ⟨⟨_, (Or.inl rfl), rfl⟩, rfl⟩
    · refine ra_iconst rfl ?_
      refine ra_goto rfl rfl ?_
      exact ra_ireturn rfl (ra_okB (Or.inr rfl)) ⟨⟨_, (Or.inr rfl), rfl⟩, rfl⟩
theorem sp_71 {n : Nat} {f : Nat → Int32} {d : Nat} {D : Nat} {σ : ra_V} (hD : isD D) : ra_C (g_Gs n f) g_sh 0 (d + 1) 71 [.index (D + 3)] σ (fun r s => rI r ∧ s = σ) := by
  refine ra_enter (nn := 0) mt_71 rfl (Nat.le_of_ble_eq_true rfl) rfl (fun h => absurd h (by decide +kernel)) ?_
  refine ra_load rfl rfl rfl rfl ?_
  refine ra_getI rfl lk_3_24 (Nat.zero_le _) (sh_D3 hD) rfl ?_
  refine ra_gen (fun z1 hz1 => ?_)
  refine ra_load rfl rfl rfl rfl ?_
  refine ra_getI rfl lk_3_21 (Nat.zero_le _) (sh_D3 hD) rfl ?_
  refine ra_gen (fun z2 hz2 => ?_)
  refine ra_icge rfl rfl hz1 hz2 (fun h3 => ?_) (fun h3 => ?_)
  · refine ra_load rfl rfl rfl rfl ?_
    refine ra_getI rfl lk_3_30 (Nat.zero_le _) (sh_D3 hD) rfl ?_
    refine ra_gen (fun z4 hz4 => ?_)
    refine ra_iconst rfl ?_
    refine ra_isub rfl ?_
    refine ra_gen (fun z5 hz5 => ?_)
    refine ra_load rfl rfl rfl rfl ?_
    refine ra_getI rfl lk_3_33 (Nat.zero_le _) (sh_D3 hD) rfl ?_
    refine ra_gen (fun z6 hz6 => ?_)
    refine ra_isub rfl ?_
    refine ra_gen (fun z7 hz7 => ?_)
    exact ra_ireturn rfl rfl ⟨⟨_, hz7, rfl⟩, rfl⟩
  · refine ra_load rfl rfl rfl rfl ?_
    refine ra_getI rfl lk_3_33 (Nat.zero_le _) (sh_D3 hD) rfl ?_
    refine ra_gen (fun z8 hz8 => ?_)
    refine ra_goto rfl rfl ?_
    exact ra_ireturn rfl rfl ⟨⟨_, hz8, rfl⟩, rfl⟩
theorem sp_72 {n : Nat} {f : Nat → Int32} {d : Nat} {D : Nat} {σ : ra_V} (hD : isD D) : ra_C (g_Gs n f) g_sh 0 (d + 2) 72 [.index (D + 3)] σ (fun r s => rI r ∧ s = σ) := by
  refine ra_enter (nn := 0) mt_72 rfl (Nat.le_of_ble_eq_true rfl) rfl (fun h => absurd h (by decide +kernel)) ?_
  refine ra_load rfl rfl rfl rfl ?_
  refine ra_cIp (sp_71 hD) rfl (ct_71 rfl lk_3_40 (Or.inl rfl) (sh_D3 hD) (Nat.le_of_ble_eq_true rfl)) (fun z2 hz2 => ?_)
  refine ra_load rfl rfl rfl rfl ?_
  refine ra_getI rfl lk_3_27 (Nat.zero_le _) (sh_D3 hD) rfl ?_
  refine ra_gen (fun z3 hz3 => ?_)
  refine ra_imul rfl ?_
  refine ra_gen (fun z4 hz4 => ?_)
  exact ra_ireturn rfl rfl ⟨⟨_, hz4, rfl⟩, rfl⟩
theorem sp_73 {n : Nat} {f : Nat → Int32} {d : Nat} {D : Nat} {σ : ra_V} (hD : isD D) : ra_C (g_Gs n f) g_sh 0 (d + 2) 73 [.index (D + 3)] σ (fun r s => rI r ∧ s = σ) := by
  refine ra_enter (nn := 0) mt_73 rfl (Nat.le_of_ble_eq_true rfl) rfl (fun h => absurd h (by decide +kernel)) ?_
  refine ra_load rfl rfl rfl rfl ?_
  refine ra_load rfl rfl rfl rfl ?_
  refine ra_cIp (sp_71 hD) rfl (ct_71 rfl lk_3_40 (Or.inl rfl) (sh_D3 hD) (Nat.le_of_ble_eq_true rfl)) (fun z2 hz2 => ?_)
  refine ra_cIp (sp_69 hD hz2) rfl (ct_69 rfl lk_3_44 (Or.inl rfl) (sh_D3 hD) (Nat.le_of_ble_eq_true rfl)) (fun z4 hz4 => ?_)
  exact ra_ireturn rfl rfl ⟨⟨_, hz4, rfl⟩, rfl⟩
theorem sp_74 {n : Nat} {f : Nat → Int32} {d : Nat} {D : Nat} {σ : ra_V} (hD : isD D) : ra_C (g_Gs n f) g_sh 0 (d + 3) 74 [.index (D + 3)] σ (fun r s => rI r ∧ s = σ) := by
  refine ra_enter (nn := 0) mt_74 rfl (Nat.le_of_ble_eq_true rfl) rfl (fun h => absurd h (by decide +kernel)) ?_
  refine ra_load rfl rfl rfl rfl ?_
  refine ra_getBw rfl lk_3_36 (Nat.zero_le _) (sh_D3 hD) rfl (fun z1 hz1 => ?_)
  refine ra_ifeq rfl rfl (ra_in01 hz1) (fun h2 => ?_) (fun h2 => ?_)
  · refine ra_load rfl rfl rfl rfl ?_
    refine ra_cIp (sp_73 hD) rfl (ct_73 rfl lk_3_48 (Or.inl rfl) (sh_D3 hD) (Nat.le_of_ble_eq_true rfl)) (fun z4 hz4 => ?_)
    refine ra_load rfl rfl rfl rfl ?_
    refine ra_getI rfl lk_3_21 (Nat.zero_le _) (sh_D3 hD) rfl ?_
    refine ra_gen (fun z5 hz5 => ?_)
    refine ra_load rfl rfl rfl rfl ?_
    refine ra_getI rfl lk_3_24 (Nat.zero_le _) (sh_D3 hD) rfl ?_
    refine ra_gen (fun z6 hz6 => ?_)
    refine ra_cIp (sp_188 hz5 hz6) rfl (ct_188 rfl lk_3_51 (Or.inr ⟨rfl, rfl⟩) (Nat.le_of_ble_eq_true rfl)) (fun z8 hz8 => ?_)
    refine ra_icle rfl rfl hz4 hz8 (fun h9 => ?_) (fun h9 => ?_)
    · refine ra_iconst rfl ?_
      exact ra_ireturn rfl rfl ⟨⟨_, (by first | omega | (unfold ra_in at *; omega)), rfl⟩, rfl⟩
    · refine ra_iconst rfl ?_
      refine ra_goto rfl rfl ?_
      exact ra_ireturn rfl rfl ⟨⟨_, (by first | omega | (unfold ra_in at *; omega)), rfl⟩, rfl⟩
  · refine ra_iconst rfl ?_
    exact ra_ireturn rfl rfl ⟨⟨_, (by first | omega | (unfold ra_in at *; omega)), rfl⟩, rfl⟩
theorem sp_75 {n : Nat} {f : Nat → Int32} {d : Nat} {D : Nat} {x0 : Int} {σ : ra_V} (hD : isD D) (hx0 : ra_in x0) : ra_C (g_Gs n f) g_sh 0 (d + 3) 75 [.index (D + 3), ra_I x0] σ (fun r s => rI r ∧ s = σ) := by
  refine ra_enter (nn := 0) mt_75 rfl (Nat.le_of_ble_eq_true rfl) rfl (fun h => absurd h (by decide +kernel)) ?_
  refine ra_load rfl rfl rfl rfl ?_
  refine ra_getBw rfl lk_3_36 (Nat.zero_le _) (sh_D3 hD) rfl (fun z1 hz1 => ?_)
  refine ra_ifeq rfl rfl (ra_in01 hz1) (fun h2 => ?_) (fun h2 => ?_)
  · refine ra_load rfl rfl rfl rfl ?_
    refine ra_getI rfl lk_3_21 (Nat.zero_le _) (sh_D3 hD) rfl ?_
    refine ra_gen (fun z3 hz3 => ?_)
    refine ra_load rfl rfl rfl rfl ?_
    refine ra_iadd rfl ?_
    refine ra_gen (fun z4 hz4 => ?_)
    exact ra_ireturn rfl rfl ⟨⟨_, hz4, rfl⟩, rfl⟩
  · refine ra_load rfl rfl rfl rfl ?_
    refine ra_getI rfl lk_3_15 (Nat.zero_le _) (sh_D3 hD) rfl ?_
    refine ra_gen (fun z5 hz5 => ?_)
    refine ra_load rfl rfl rfl rfl ?_
    refine ra_iadd rfl ?_
    refine ra_gen (fun z6 hz6 => ?_)
    refine ra_load rfl rfl rfl rfl ?_
    refine ra_cIp (sp_72 hD) rfl (ct_72 rfl lk_3_55 (Or.inl rfl) (sh_D3 hD) (Nat.le_of_ble_eq_true rfl)) (fun z8 hz8 => ?_)
    refine ra_isub rfl ?_
    refine ra_gen (fun z9 hz9 => ?_)
    refine ra_goto rfl rfl ?_
    exact ra_ireturn rfl rfl ⟨⟨_, hz9, rfl⟩, rfl⟩
theorem sp_76 {n : Nat} {f : Nat → Int32} {d : Nat} {D : Nat} {x0 : Int} {σ : ra_V} (hD : isD D) (hx0 : ra_in x0) : ra_C (g_Gs n f) g_sh 0 (d + 4) 76 [.index (D + 3), ra_I x0] σ (fun r s => rI r ∧ s = σ) := by
  refine ra_enter (nn := 0) mt_76 rfl (Nat.le_of_ble_eq_true rfl) rfl (fun h => absurd h (by decide +kernel)) ?_
  refine ra_load rfl rfl rfl rfl ?_
  refine ra_cIp (sp_74 hD) rfl (ct_74 rfl lk_3_58 (Or.inl rfl) (sh_D3 hD) (Nat.le_of_ble_eq_true rfl)) (fun z2 hz2 => ?_)
  refine ra_iconst rfl ?_
  refine ra_icne rfl rfl hz2 (by first | omega | (unfold ra_in at *; omega)) (fun h3 => ?_) (fun h3 => ?_)
  · refine ra_load rfl rfl rfl rfl ?_
    refine ra_getI rfl lk_3_24 (Nat.zero_le _) (sh_D3 hD) rfl ?_
    refine ra_gen (fun z4 hz4 => ?_)
    refine ra_load rfl rfl rfl rfl ?_
    refine ra_iadd rfl ?_
    refine ra_gen (fun z5 hz5 => ?_)
    exact ra_ireturn rfl rfl ⟨⟨_, hz5, rfl⟩, rfl⟩
  · refine ra_load rfl rfl rfl rfl ?_
    refine ra_getI rfl lk_3_15 (Nat.zero_le _) (sh_D3 hD) rfl ?_
    refine ra_gen (fun z6 hz6 => ?_)
    refine ra_load rfl rfl rfl rfl ?_
    refine ra_iadd rfl ?_
    refine ra_gen (fun z7 hz7 => ?_)
    refine ra_load rfl rfl rfl rfl ?_
    refine ra_cIp (sp_72 hD) rfl (ct_72 rfl lk_3_55 (Or.inl rfl) (sh_D3 hD) (Nat.le_of_ble_eq_true rfl)) (fun z9 hz9 => ?_)
    refine ra_isub rfl ?_
    refine ra_gen (fun z10 hz10 => ?_)
    refine ra_goto rfl rfl ?_
    exact ra_ireturn rfl rfl ⟨⟨_, hz10, rfl⟩, rfl⟩
theorem sp_80 {n : Nat} {f : Nat → Int32} {d : Nat} {D : Nat} {σ : ra_V} (hD : isD D) : ra_C (g_Gs n f) g_sh 0 (d + 1) 80 [.index (D + 3)] σ (fun r s => rI r ∧ s = σ) := by
  refine ra_enter (nn := 0) mt_80 rfl (Nat.le_of_ble_eq_true rfl) rfl (fun h => absurd h (by decide +kernel)) ?_
  refine ra_load rfl rfl rfl rfl ?_
  refine ra_getI rfl lk_3_15 (Nat.zero_le _) (sh_D3 hD) rfl ?_
  refine ra_gen (fun z1 hz1 => ?_)
  refine ra_iconst rfl ?_
  refine ra_icne rfl rfl hz1 (by first | omega | (unfold ra_in at *; omega)) (fun h2 => ?_) (fun h2 => ?_)
  · refine ra_load rfl rfl rfl rfl ?_
    refine ra_getI rfl lk_3_27 (Nat.zero_le _) (sh_D3 hD) rfl ?_
    refine ra_gen (fun z3 hz3 => ?_)
    refine ra_load rfl rfl rfl rfl ?_
    refine ra_getI rfl lk_3_18 (Nat.zero_le _) (sh_D3 hD) rfl ?_
    refine ra_gen (fun z4 hz4 => ?_)
    refine ra_min rfl lk_3_72 hz3 hz4 (Nat.le_of_ble_eq_true rfl) ?_
    refine ra_gen (fun z5 hz5 => ?_)
    exact ra_ireturn rfl rfl ⟨⟨_, hz5, rfl⟩, rfl⟩
  · refine ra_iconst rfl ?_
    refine ra_goto rfl rfl ?_
    exact ra_ireturn rfl rfl ⟨⟨_, (by first | omega | (unfold ra_in at *; omega)), rfl⟩, rfl⟩
theorem sp_81 {n : Nat} {f : Nat → Int32} {d : Nat} {D : Nat} {x0 : Int} {x1 : Int} {σ : ra_V} (hD : isD D) (hx0 : ra_in x0) (hx1 : ra_in x1) : ra_C (g_Gs n f) g_sh 0 (d + 2) 81 [.index (D + 3), ra_J x0, ra_J x1] σ (fun r s => rB r ∧ s = σ) := by
  refine ra_enter (nn := 0) mt_81 rfl (Nat.le_of_ble_eq_true rfl) rfl (fun h => absurd h (by decide +kernel)) ?_
  refine ra_load rfl rfl rfl rfl ?_
  refine ra_cBp (sp_67 hD) rfl (ct_67 rfl lk_3_65 (Or.inl rfl) (sh_D3 hD) (Nat.le_of_ble_eq_true rfl)) (fun z2 hz2 => ?_)
  refine ra_ifeq rfl rfl (ra_in01 hz2) (fun h3 => ?_) (fun h3 => ?_)
  · refine ra_iconst rfl ?_
    exact ra_ireturn rfl (ra_okB (Or.inl rfl)) ⟨⟨_, (Or.inl rfl), rfl⟩, rfl⟩
  · refine ra_load rfl rfl rfl rfl ?_
    refine ra_getI rfl lk_3_24 (Nat.zero_le _) (sh_D3 hD) rfl ?_
    refine ra_gen (fun z4 hz4 => ?_)
    refine ra_i2l rfl hz4 ?_
    refine ra_load rfl rfl rfl rfl ?_
    refine ra_getI rfl lk_3_18 (Nat.zero_le _) (sh_D3 hD) rfl ?_
    refine ra_gen (fun z5 hz5 => ?_)
    refine ra_i2l rfl hz5 ?_
    refine ra_load rfl rfl rfl rfl ?_
    refine ra_load rfl rfl rfl rfl ?_
    refine ra_cBp (sp_185 hz4 hz5 hx0 hx1) rfl (ct_185 rfl lk_3_77 (Or.inr ⟨rfl, rfl⟩) (Nat.le_of_ble_eq_true rfl)) (fun z7 hz7 => ?_)
    refine ra_ifne rfl rfl (ra_in01 hz7) (fun h8 => ?_) (fun h8 => ?_)
    · refine ra_iconst rfl ?_
      refine ra_goto rfl rfl ?_
      exact ra_ireturn rfl (ra_okB (Or.inr rfl)) ⟨⟨_, (Or.inr rfl), rfl⟩, rfl⟩
    · refine ra_load rfl rfl rfl rfl ?_
      refine ra_getI rfl lk_3_15 (Nat.zero_le _) (sh_D3 hD) rfl ?_
      refine ra_gen (fun z9 hz9 => ?_)
      refine ra_iconst rfl ?_
      refine ra_iceq rfl rfl hz9 (by first | omega | (unfold ra_in at *; omega)) (fun h10 => ?_) (fun h10 => ?_)
      · refine ra_iconst rfl ?_
        exact ra_ireturn rfl (ra_okB (Or.inl rfl)) ⟨⟨_, (Or.inl rfl), rfl⟩, rfl⟩
      · refine ra_load rfl rfl rfl rfl ?_
        refine ra_getI rfl lk_3_15 (Nat.zero_le _) (sh_D3 hD) rfl ?_
        refine ra_gen (fun z11 hz11 => ?_)
        refine ra_i2l rfl hz11 ?_
        refine ra_load rfl rfl rfl rfl ?_
        refine ra_cIp (sp_80 hD) rfl (ct_80 rfl lk_3_81 (Or.inl rfl) (sh_D3 hD) (Nat.le_of_ble_eq_true rfl)) (fun z13 hz13 => ?_)
        refine ra_i2l rfl hz13 ?_
        refine ra_load rfl rfl rfl rfl ?_
        refine ra_load rfl rfl rfl rfl ?_
        refine ra_cBp (sp_185 hz11 hz13 hx0 hx1) rfl (ct_185 rfl lk_3_77 (Or.inr ⟨rfl, rfl⟩) (Nat.le_of_ble_eq_true rfl)) (fun z15 hz15 => ?_)
        refine ra_ifeq rfl rfl (ra_in01 hz15) (fun h16 => ?_) (fun h16 => ?_)
        · refine ra_iconst rfl ?_
          exact ra_ireturn rfl (ra_okB (Or.inl rfl)) ⟨⟨_, (Or.inl rfl), rfl⟩, rfl⟩
        · refine ra_iconst rfl ?_
          refine ra_goto rfl rfl ?_
          exact ra_ireturn rfl (ra_okB (Or.inr rfl)) ⟨⟨_, (Or.inr rfl), rfl⟩, rfl⟩
theorem sp_82 {n : Nat} {f : Nat → Int32} {d : Nat} {D : Nat} {x0 : Int} {σ : ra_V} (hD : isD D) (hx0 : ra_in x0) : ra_C (g_Gs n f) g_sh 0 (d + 3) 82 [.index (D + 3), ra_I x0] σ (fun r s => rI r ∧ s = σ) := by
  refine ra_enter (nn := 0) mt_82 rfl (Nat.le_of_ble_eq_true rfl) rfl (fun h => absurd h (by decide +kernel)) ?_
  refine ra_load rfl rfl rfl rfl ?_
  refine ra_cBp (sp_67 hD) rfl (ct_67 rfl lk_3_65 (Or.inl rfl) (sh_D3 hD) (Nat.le_of_ble_eq_true rfl)) (fun z2 hz2 => ?_)
  refine ra_ifeq rfl rfl (ra_in01 hz2) (fun h3 => ?_) (fun h3 => ?_)
  · refine ra_load rfl rfl rfl rfl ?_
    refine ra_load rfl rfl rfl rfl ?_
    refine ra_i2l rfl hx0 ?_
    refine ra_lconst1 rfl ?_
    refine ra_cBp (sp_81 hD hx0 (by first | omega | (unfold ra_in at *; omega))) rfl (ct_81 rfl lk_3_84 (Or.inl rfl) (sh_D3 hD) (Nat.le_of_ble_eq_true rfl)) (fun z5 hz5 => ?_)
    refine ra_ifeq rfl rfl (ra_in01 hz5) (fun h6 => ?_) (fun h6 => ?_)
    · refine ra_load rfl rfl rfl rfl ?_
      exact ra_ireturn rfl rfl ⟨⟨_, hx0, rfl⟩, rfl⟩
    · refine ra_load rfl rfl rfl rfl ?_
      refine ra_getI rfl lk_3_15 (Nat.zero_le _) (sh_D3 hD) rfl ?_
      refine ra_gen (fun z7 hz7 => ?_)
      refine ra_load rfl rfl rfl rfl ?_
      refine ra_cIp (sp_80 hD) rfl (ct_80 rfl lk_3_81 (Or.inl rfl) (sh_D3 hD) (Nat.le_of_ble_eq_true rfl)) (fun z9 hz9 => ?_)
      refine ra_iadd rfl ?_
      refine ra_gen (fun z10 hz10 => ?_)
      refine ra_goto rfl rfl ?_
      exact ra_ireturn rfl rfl ⟨⟨_, hz10, rfl⟩, rfl⟩
  · refine ra_load rfl rfl rfl rfl ?_
    refine ra_getI rfl lk_3_24 (Nat.zero_le _) (sh_D3 hD) rfl ?_
    refine ra_gen (fun z11 hz11 => ?_)
    refine ra_i2l rfl hz11 ?_
    refine ra_load rfl rfl rfl rfl ?_
    refine ra_getI rfl lk_3_18 (Nat.zero_le _) (sh_D3 hD) rfl ?_
    refine ra_gen (fun z12 hz12 => ?_)
    refine ra_i2l rfl hz12 ?_
    refine ra_load rfl rfl rfl rfl ?_
    refine ra_i2l rfl hx0 ?_
    refine ra_lconst1 rfl ?_
    refine ra_cBp (sp_185 hz11 hz12 hx0 (by first | omega | (unfold ra_in at *; omega))) rfl (ct_185 rfl lk_3_77 (Or.inr ⟨rfl, rfl⟩) (Nat.le_of_ble_eq_true rfl)) (fun z14 hz14 => ?_)
    refine ra_ifeq rfl rfl (ra_in01 hz14) (fun h15 => ?_) (fun h15 => ?_)
    · refine ra_load rfl rfl rfl rfl ?_
      refine ra_load rfl rfl rfl rfl ?_
      refine ra_i2l rfl hx0 ?_
      refine ra_lconst1 rfl ?_
      refine ra_cBp (sp_81 hD hx0 (by first | omega | (unfold ra_in at *; omega))) rfl (ct_81 rfl lk_3_84 (Or.inl rfl) (sh_D3 hD) (Nat.le_of_ble_eq_true rfl)) (fun z17 hz17 => ?_)
      refine ra_ifeq rfl rfl (ra_in01 hz17) (fun h18 => ?_) (fun h18 => ?_)
      · refine ra_load rfl rfl rfl rfl ?_
        exact ra_ireturn rfl rfl ⟨⟨_, hx0, rfl⟩, rfl⟩
      · refine ra_load rfl rfl rfl rfl ?_
        refine ra_getI rfl lk_3_15 (Nat.zero_le _) (sh_D3 hD) rfl ?_
        refine ra_gen (fun z19 hz19 => ?_)
        refine ra_load rfl rfl rfl rfl ?_
        refine ra_cIp (sp_80 hD) rfl (ct_80 rfl lk_3_81 (Or.inl rfl) (sh_D3 hD) (Nat.le_of_ble_eq_true rfl)) (fun z21 hz21 => ?_)
        refine ra_iadd rfl ?_
        refine ra_gen (fun z22 hz22 => ?_)
        refine ra_goto rfl rfl ?_
        exact ra_ireturn rfl rfl ⟨⟨_, hz22, rfl⟩, rfl⟩
    · refine ra_load rfl rfl rfl rfl ?_
      refine ra_getI rfl lk_3_24 (Nat.zero_le _) (sh_D3 hD) rfl ?_
      refine ra_gen (fun z23 hz23 => ?_)
      refine ra_load rfl rfl rfl rfl ?_
      refine ra_getI rfl lk_3_18 (Nat.zero_le _) (sh_D3 hD) rfl ?_
      refine ra_gen (fun z24 hz24 => ?_)
      refine ra_iadd rfl ?_
      refine ra_gen (fun z25 hz25 => ?_)
      exact ra_ireturn rfl rfl ⟨⟨_, hz25, rfl⟩, rfl⟩
theorem sp_83 {n : Nat} {f : Nat → Int32} {d : Nat} {D : Nat} {x0 : Int} {x1 : Int} {σ : ra_V} (hD : isD D) (hx0 : ra_in x0) (hx1 : ra_in x1) : ra_C (g_Gs n f) g_sh 0 (d + 2) 83 [.index (D + 3), ra_I x0, ra_I x1] σ (fun r s => rI r ∧ s = σ) := by
  refine ra_enter (nn := 1) mt_83 rfl (Nat.le_of_ble_eq_true rfl) rfl (fun h => absurd h (by decide +kernel)) ?_
  refine ra_load rfl rfl rfl rfl ?_
  refine ra_store (L' := [_, _, _, _]) rfl rfl rfl (Nat.le_of_ble_eq_true rfl) rfl ?_
  refine ra_load rfl rfl rfl rfl ?_
  refine ra_cBp (sp_67 hD) rfl (ct_67 rfl lk_3_65 (Or.inl rfl) (sh_D3 hD) (Nat.le_of_ble_eq_true rfl)) (fun z2 hz2 => ?_)
  refine ra_ifeq rfl rfl (ra_in01 hz2) (fun h3 => ?_) (fun h3 => ?_)
  · refine ra_load rfl rfl rfl rfl ?_
    refine ra_cBp (sp_67 hD) rfl (ct_67 rfl lk_3_65 (Or.inl rfl) (sh_D3 hD) (Nat.le_of_ble_eq_true rfl)) (fun z5 hz5 => ?_)
    refine ra_ifeq rfl rfl (ra_in01 hz5) (fun h6 => ?_) (fun h6 => ?_)
    · refine ra_load rfl rfl rfl rfl ?_
      exact ra_ireturn rfl rfl ⟨⟨_, hx1, rfl⟩, rfl⟩
    · refine ra_load rfl rfl rfl rfl ?_
      refine ra_getI rfl lk_3_15 (Nat.zero_le _) (sh_D3 hD) rfl ?_
      refine ra_gen (fun z7 hz7 => ?_)
      refine ra_load rfl rfl rfl rfl ?_
      refine ra_icle rfl rfl hz7 hx0 (fun h8 => ?_) (fun h8 => ?_)
      · refine ra_load rfl rfl rfl rfl ?_
        exact ra_ireturn rfl rfl ⟨⟨_, hx1, rfl⟩, rfl⟩
      · refine ra_load rfl rfl rfl rfl ?_
        refine ra_getI rfl lk_3_15 (Nat.zero_le _) (sh_D3 hD) rfl ?_
        refine ra_gen (fun z9 hz9 => ?_)
        refine ra_load rfl rfl rfl rfl ?_
        refine ra_icge rfl rfl hz9 hx1 (fun h10 => ?_) (fun h10 => ?_)
        · refine ra_load rfl rfl rfl rfl ?_
          exact ra_ireturn rfl rfl ⟨⟨_, hx1, rfl⟩, rfl⟩
        · refine ra_load rfl rfl rfl rfl ?_
          refine ra_getI rfl lk_3_15 (Nat.zero_le _) (sh_D3 hD) rfl ?_
          refine ra_gen (fun z11 hz11 => ?_)
          refine ra_store (L' := [_, _, _, _]) rfl rfl rfl (Nat.le_of_ble_eq_true rfl) rfl ?_
          refine ra_load rfl rfl rfl rfl ?_
          exact ra_ireturn rfl rfl ⟨⟨_, hz11, rfl⟩, rfl⟩
  · refine ra_load rfl rfl rfl rfl ?_
    refine ra_getI rfl lk_3_24 (Nat.zero_le _) (sh_D3 hD) rfl ?_
    refine ra_gen (fun z12 hz12 => ?_)
    refine ra_load rfl rfl rfl rfl ?_
    refine ra_icle rfl rfl hz12 hx0 (fun h13 => ?_) (fun h13 => ?_)
    · refine ra_load rfl rfl rfl rfl ?_
      refine ra_cBp (sp_67 hD) rfl (ct_67 rfl lk_3_65 (Or.inl rfl) (sh_D3 hD) (Nat.le_of_ble_eq_true rfl)) (fun z15 hz15 => ?_)
      refine ra_ifeq rfl rfl (ra_in01 hz15) (fun h16 => ?_) (fun h16 => ?_)
      · refine ra_load rfl rfl rfl rfl ?_
        exact ra_ireturn rfl rfl ⟨⟨_, hx1, rfl⟩, rfl⟩
      · refine ra_load rfl rfl rfl rfl ?_
        refine ra_getI rfl lk_3_15 (Nat.zero_le _) (sh_D3 hD) rfl ?_
        refine ra_gen (fun z17 hz17 => ?_)
        refine ra_load rfl rfl rfl rfl ?_
        refine ra_icle rfl rfl hz17 hx0 (fun h18 => ?_) (fun h18 => ?_)
        · refine ra_load rfl rfl rfl rfl ?_
          exact ra_ireturn rfl rfl ⟨⟨_, hx1, rfl⟩, rfl⟩
        · refine ra_load rfl rfl rfl rfl ?_
          refine ra_getI rfl lk_3_15 (Nat.zero_le _) (sh_D3 hD) rfl ?_
          refine ra_gen (fun z19 hz19 => ?_)
          refine ra_load rfl rfl rfl rfl ?_
          refine ra_icge rfl rfl hz19 hx1 (fun h20 => ?_) (fun h20 => ?_)
          · refine ra_load rfl rfl rfl rfl ?_
            exact ra_ireturn rfl rfl ⟨⟨_, hx1, rfl⟩, rfl⟩
          · refine ra_load rfl rfl rfl rfl ?_
            refine ra_getI rfl lk_3_15 (Nat.zero_le _) (sh_D3 hD) rfl ?_
            refine ra_gen (fun z21 hz21 => ?_)
            refine ra_store (L' := [_, _, _, _]) rfl rfl rfl (Nat.le_of_ble_eq_true rfl) rfl ?_
            refine ra_load rfl rfl rfl rfl ?_
            exact ra_ireturn rfl rfl ⟨⟨_, hz21, rfl⟩, rfl⟩
    · refine ra_load rfl rfl rfl rfl ?_
      refine ra_getI rfl lk_3_24 (Nat.zero_le _) (sh_D3 hD) rfl ?_
      refine ra_gen (fun z22 hz22 => ?_)
      refine ra_load rfl rfl rfl rfl ?_
      refine ra_icge rfl rfl hz22 hx1 (fun h23 => ?_) (fun h23 => ?_)
      · refine ra_load rfl rfl rfl rfl ?_
        refine ra_cBp (sp_67 hD) rfl (ct_67 rfl lk_3_65 (Or.inl rfl) (sh_D3 hD) (Nat.le_of_ble_eq_true rfl)) (fun z25 hz25 => ?_)
        refine ra_ifeq rfl rfl (ra_in01 hz25) (fun h26 => ?_) (fun h26 => ?_)
        · refine ra_load rfl rfl rfl rfl ?_
          exact ra_ireturn rfl rfl ⟨⟨_, hx1, rfl⟩, rfl⟩
        · refine ra_load rfl rfl rfl rfl ?_
          refine ra_getI rfl lk_3_15 (Nat.zero_le _) (sh_D3 hD) rfl ?_
          refine ra_gen (fun z27 hz27 => ?_)
          refine ra_load rfl rfl rfl rfl ?_
          refine ra_icle rfl rfl hz27 hx0 (fun h28 => ?_) (fun h28 => ?_)
          · refine ra_load rfl rfl rfl rfl ?_
            exact ra_ireturn rfl rfl ⟨⟨_, hx1, rfl⟩, rfl⟩
          · refine ra_load rfl rfl rfl rfl ?_
            refine ra_getI rfl lk_3_15 (Nat.zero_le _) (sh_D3 hD) rfl ?_
            refine ra_gen (fun z29 hz29 => ?_)
            refine ra_load rfl rfl rfl rfl ?_
            refine ra_icge rfl rfl hz29 hx1 (fun h30 => ?_) (fun h30 => ?_)
            · refine ra_load rfl rfl rfl rfl ?_
              exact ra_ireturn rfl rfl ⟨⟨_, hx1, rfl⟩, rfl⟩
            · refine ra_load rfl rfl rfl rfl ?_
              refine ra_getI rfl lk_3_15 (Nat.zero_le _) (sh_D3 hD) rfl ?_
              refine ra_gen (fun z31 hz31 => ?_)
              refine ra_store (L' := [_, _, _, _]) rfl rfl rfl (Nat.le_of_ble_eq_true rfl) rfl ?_
              refine ra_load rfl rfl rfl rfl ?_
              exact ra_ireturn rfl rfl ⟨⟨_, hz31, rfl⟩, rfl⟩
      · refine ra_load rfl rfl rfl rfl ?_
        refine ra_getI rfl lk_3_24 (Nat.zero_le _) (sh_D3 hD) rfl ?_
        refine ra_gen (fun z32 hz32 => ?_)
        refine ra_store (L' := [_, _, _, _]) rfl rfl rfl (Nat.le_of_ble_eq_true rfl) rfl ?_
        refine ra_load rfl rfl rfl rfl ?_
        refine ra_cBp (sp_67 hD) rfl (ct_67 rfl lk_3_65 (Or.inl rfl) (sh_D3 hD) (Nat.le_of_ble_eq_true rfl)) (fun z34 hz34 => ?_)
        refine ra_ifeq rfl rfl (ra_in01 hz34) (fun h35 => ?_) (fun h35 => ?_)
        · refine ra_load rfl rfl rfl rfl ?_
          exact ra_ireturn rfl rfl ⟨⟨_, hz32, rfl⟩, rfl⟩
        · refine ra_load rfl rfl rfl rfl ?_
          refine ra_getI rfl lk_3_15 (Nat.zero_le _) (sh_D3 hD) rfl ?_
          refine ra_gen (fun z36 hz36 => ?_)
          refine ra_load rfl rfl rfl rfl ?_
          refine ra_icle rfl rfl hz36 hx0 (fun h37 => ?_) (fun h37 => ?_)
          · refine ra_load rfl rfl rfl rfl ?_
            exact ra_ireturn rfl rfl ⟨⟨_, hz32, rfl⟩, rfl⟩
          · refine ra_load rfl rfl rfl rfl ?_
            refine ra_getI rfl lk_3_15 (Nat.zero_le _) (sh_D3 hD) rfl ?_
            refine ra_gen (fun z38 hz38 => ?_)
            refine ra_load rfl rfl rfl rfl ?_
            refine ra_icge rfl rfl hz38 hz32 (fun h39 => ?_) (fun h39 => ?_)
            · refine ra_load rfl rfl rfl rfl ?_
              exact ra_ireturn rfl rfl ⟨⟨_, hz32, rfl⟩, rfl⟩
            · refine ra_load rfl rfl rfl rfl ?_
              refine ra_getI rfl lk_3_15 (Nat.zero_le _) (sh_D3 hD) rfl ?_
              refine ra_gen (fun z40 hz40 => ?_)
              refine ra_store (L' := [_, _, _, _]) rfl rfl rfl (Nat.le_of_ble_eq_true rfl) rfl ?_
              refine ra_load rfl rfl rfl rfl ?_
              exact ra_ireturn rfl rfl ⟨⟨_, hz40, rfl⟩, rfl⟩
theorem sp_77 {n : Nat} {f : Nat → Int32} {d : Nat} {D : Nat} {x0 : Int} {σ : ra_V} (hD : isD D) (hx0 : ra_in x0) : ra_C (g_Gs n f) g_sh 0 (d + 2) 77 [.index (D + 3), ra_I x0] σ (fun r s => rI r ∧ s = σ) := by
  refine ra_enter (nn := 2) mt_77 rfl (Nat.le_of_ble_eq_true rfl) rfl (fun h => absurd h (by decide +kernel)) ?_
  refine ra_load rfl rfl rfl rfl ?_
  refine ra_getI rfl lk_3_27 (Nat.zero_le _) (sh_D3 hD) rfl ?_
  refine ra_iconst rfl ?_
  refine ra_icge rfl rfl (ra_in_g _ _ _) (by first | omega | (unfold ra_in at *; omega)) (fun h1 => ?_) (fun h1 => ?_)
  · refine ra_load rfl rfl rfl rfl ?_
    refine ra_load rfl rfl rfl rfl ?_
    refine ra_getI rfl lk_3_27 (Nat.zero_le _) (sh_D3 hD) rfl ?_
    refine ra_idiv rfl hx0 (ra_in_g _ _ _) (by omega) ?_
    refine ra_gen (fun z2 hz2 => ?_)
    refine ra_store (L' := [_, _, _, _]) rfl rfl rfl (Nat.le_of_ble_eq_true rfl) rfl ?_
    refine ra_load rfl rfl rfl rfl ?_
    refine ra_load rfl rfl rfl rfl ?_
    refine ra_cBp (sp_70 hD hz2) rfl (ct_70 rfl lk_3_61 (Or.inl rfl) (sh_D3 hD) (Nat.le_of_ble_eq_true rfl)) (fun z4 hz4 => ?_)
    refine ra_ifeq rfl rfl (ra_in01 hz4) (fun h5 => ?_) (fun h5 => ?_)
    · refine ra_load rfl rfl rfl rfl ?_
      refine ra_getBw rfl lk_3_36 (Nat.zero_le _) (sh_D3 hD) rfl (fun z6 hz6 => ?_)
      refine ra_ifeq rfl rfl (ra_in01 hz6) (fun h7 => ?_) (fun h7 => ?_)
      · refine ra_iconst rfl ?_
        refine ra_store (L' := [_, _, _, _]) rfl rfl rfl (Nat.le_of_ble_eq_true rfl) rfl ?_
        refine ra_load rfl rfl rfl rfl ?_
        refine ra_ifeq rfl rfl (by first | omega | (unfold ra_in at *; omega)) (fun h8 => ?_) (fun h8 => ?_)
        · refine ra_load rfl rfl rfl rfl ?_
          refine ra_getI rfl lk_3_21 (Nat.zero_le _) (sh_D3 hD) rfl ?_
          refine ra_gen (fun z9 hz9 => ?_)
          refine ra_load rfl rfl rfl rfl ?_
          refine ra_iadd rfl ?_
          refine ra_gen (fun z10 hz10 => ?_)
          exact ra_ireturn rfl rfl ⟨⟨_, hz10, rfl⟩, rfl⟩
        · exact absurd h8 (by decide)
      · refine ra_load rfl rfl rfl rfl ?_
        refine ra_load rfl rfl rfl rfl ?_
        refine ra_cIp (sp_71 hD) rfl (ct_71 rfl lk_3_40 (Or.inl rfl) (sh_D3 hD) (Nat.le_of_ble_eq_true rfl)) (fun z12 hz12 => ?_)
        refine ra_icne rfl rfl hz2 hz12 (fun h13 => ?_) (fun h13 => ?_)
        · refine ra_iconst rfl ?_
          refine ra_store (L' := [_, _, _, _]) rfl rfl rfl (Nat.le_of_ble_eq_true rfl) rfl ?_
          refine ra_load rfl rfl rfl rfl ?_
          refine ra_ifeq rfl rfl (by first | omega | (unfold ra_in at *; omega)) (fun h14 => ?_) (fun h14 => ?_)
          · refine ra_load rfl rfl rfl rfl ?_
            refine ra_getI rfl lk_3_21 (Nat.zero_le _) (sh_D3 hD) rfl ?_
            refine ra_gen (fun z15 hz15 => ?_)
            refine ra_load rfl rfl rfl rfl ?_
            refine ra_iadd rfl ?_
            refine ra_gen (fun z16 hz16 => ?_)
            exact ra_ireturn rfl rfl ⟨⟨_, hz16, rfl⟩, rfl⟩
          · exact absurd h14 (by decide)
        · refine ra_iconst rfl ?_
          refine ra_goto rfl rfl ?_
          refine ra_store (L' := [_, _, _, _]) rfl rfl rfl (Nat.le_of_ble_eq_true rfl) rfl ?_
          refine ra_load rfl rfl rfl rfl ?_
          refine ra_ifeq rfl rfl (by first | omega | (unfold ra_in at *; omega)) (fun h17 => ?_) (fun h17 => ?_)
          · exact absurd h17 (by decide)
          · refine ra_load rfl rfl rfl rfl ?_
            refine ra_getI rfl lk_3_15 (Nat.zero_le _) (sh_D3 hD) rfl ?_
            refine ra_gen (fun z18 hz18 => ?_)
            refine ra_load rfl rfl rfl rfl ?_
            refine ra_iadd rfl ?_
            refine ra_gen (fun z19 hz19 => ?_)
            refine ra_load rfl rfl rfl rfl ?_
            refine ra_load rfl rfl rfl rfl ?_
            refine ra_getI rfl lk_3_27 (Nat.zero_le _) (sh_D3 hD) rfl ?_
            refine ra_imul rfl ?_
            refine ra_gen (fun z20 hz20 => ?_)
            refine ra_isub rfl ?_
            refine ra_gen (fun z21 hz21 => ?_)
            refine ra_goto rfl rfl ?_
            exact ra_ireturn rfl rfl ⟨⟨_, hz21, rfl⟩, rfl⟩
    · refine ra_load rfl rfl rfl rfl ?_
      refine ra_getI rfl lk_3_24 (Nat.zero_le _) (sh_D3 hD) rfl ?_
      refine ra_gen (fun z22 hz22 => ?_)
      refine ra_load rfl rfl rfl rfl ?_
      refine ra_iadd rfl ?_
      refine ra_gen (fun z23 hz23 => ?_)
      exact ra_ireturn rfl rfl ⟨⟨_, hz23, rfl⟩, rfl⟩
  · refine ra_iconst rfl ?_
    refine ra_goto rfl rfl ?_
    refine ra_store (L' := [_, _, _, _]) rfl rfl rfl (Nat.le_of_ble_eq_true rfl) rfl ?_
    refine ra_load rfl rfl rfl rfl ?_
    refine ra_load rfl rfl rfl rfl ?_
    refine ra_cBp (sp_70 hD (by first | omega | (unfold ra_in at *; omega))) rfl (ct_70 rfl lk_3_61 (Or.inl rfl) (sh_D3 hD) (Nat.le_of_ble_eq_true rfl)) (fun z25 hz25 => ?_)
    refine ra_ifeq rfl rfl (ra_in01 hz25) (fun h26 => ?_) (fun h26 => ?_)
    · refine ra_load rfl rfl rfl rfl ?_
      refine ra_getBw rfl lk_3_36 (Nat.zero_le _) (sh_D3 hD) rfl (fun z27 hz27 => ?_)
      refine ra_ifeq rfl rfl (ra_in01 hz27) (fun h28 => ?_) (fun h28 => ?_)
      · refine ra_iconst rfl ?_
        refine ra_store (L' := [_, _, _, _]) rfl rfl rfl (Nat.le_of_ble_eq_true rfl) rfl ?_
        refine ra_load rfl rfl rfl rfl ?_
        refine ra_ifeq rfl rfl (by first | omega | (unfold ra_in at *; omega)) (fun h29 => ?_) (fun h29 => ?_)
        · refine ra_load rfl rfl rfl rfl ?_
          refine ra_getI rfl lk_3_21 (Nat.zero_le _) (sh_D3 hD) rfl ?_
          refine ra_gen (fun z30 hz30 => ?_)
          refine ra_load rfl rfl rfl rfl ?_
          refine ra_iadd rfl ?_
          refine ra_gen (fun z31 hz31 => ?_)
          exact ra_ireturn rfl rfl ⟨⟨_, hz31, rfl⟩, rfl⟩
        · exact absurd h29 (by decide)
      · refine ra_load rfl rfl rfl rfl ?_
        refine ra_load rfl rfl rfl rfl ?_
        refine ra_cIp (sp_71 hD) rfl (ct_71 rfl lk_3_40 (Or.inl rfl) (sh_D3 hD) (Nat.le_of_ble_eq_true rfl)) (fun z33 hz33 => ?_)
        refine ra_icne rfl rfl (by first | omega | (unfold ra_in at *; omega)) hz33 (fun h34 => ?_) (fun h34 => ?_)
        · refine ra_iconst rfl ?_
          refine ra_store (L' := [_, _, _, _]) rfl rfl rfl (Nat.le_of_ble_eq_true rfl) rfl ?_
          refine ra_load rfl rfl rfl rfl ?_
          refine ra_ifeq rfl rfl (by first | omega | (unfold ra_in at *; omega)) (fun h35 => ?_) (fun h35 => ?_)
          · refine ra_load rfl rfl rfl rfl ?_
            refine ra_getI rfl lk_3_21 (Nat.zero_le _) (sh_D3 hD) rfl ?_
            refine ra_gen (fun z36 hz36 => ?_)
            refine ra_load rfl rfl rfl rfl ?_
            refine ra_iadd rfl ?_
            refine ra_gen (fun z37 hz37 => ?_)
            exact ra_ireturn rfl rfl ⟨⟨_, hz37, rfl⟩, rfl⟩
          · exact absurd h35 (by decide)
        · refine ra_iconst rfl ?_
          refine ra_goto rfl rfl ?_
          refine ra_store (L' := [_, _, _, _]) rfl rfl rfl (Nat.le_of_ble_eq_true rfl) rfl ?_
          refine ra_load rfl rfl rfl rfl ?_
          refine ra_ifeq rfl rfl (by first | omega | (unfold ra_in at *; omega)) (fun h38 => ?_) (fun h38 => ?_)
          · exact absurd h38 (by decide)
          · refine ra_load rfl rfl rfl rfl ?_
            refine ra_getI rfl lk_3_15 (Nat.zero_le _) (sh_D3 hD) rfl ?_
            refine ra_gen (fun z39 hz39 => ?_)
            refine ra_load rfl rfl rfl rfl ?_
            refine ra_iadd rfl ?_
            refine ra_gen (fun z40 hz40 => ?_)
            refine ra_load rfl rfl rfl rfl ?_
            refine ra_load rfl rfl rfl rfl ?_
            refine ra_getI rfl lk_3_27 (Nat.zero_le _) (sh_D3 hD) rfl ?_
            refine ra_imul rfl ?_
            refine ra_gen (fun z41 hz41 => ?_)
            refine ra_isub rfl ?_
            refine ra_gen (fun z42 hz42 => ?_)
            refine ra_goto rfl rfl ?_
            exact ra_ireturn rfl rfl ⟨⟨_, hz42, rfl⟩, rfl⟩
    · refine ra_load rfl rfl rfl rfl ?_
      refine ra_getI rfl lk_3_24 (Nat.zero_le _) (sh_D3 hD) rfl ?_
      refine ra_gen (fun z43 hz43 => ?_)
      refine ra_load rfl rfl rfl rfl ?_
      refine ra_iadd rfl ?_
      refine ra_gen (fun z44 hz44 => ?_)
      exact ra_ireturn rfl rfl ⟨⟨_, hz44, rfl⟩, rfl⟩
theorem sp_3 {n : Nat} {f : Nat → Int32} {d : Nat} {D : Nat} {x0 : Int} {σ : ra_V} (hD : isD D) (hx0 : ra_in x0) : ra_C (g_Gs n f) g_sh 0 (d + 2) 3 [.index (D), ra_I x0] σ (fun r s => (rP D) r ∧ s = σ) := by
  refine ra_enter (nn := 0) mt_3 rfl (Nat.le_of_ble_eq_true rfl) rfl (fun h => absurd h (by decide +kernel)) ?_
  refine ra_load rfl rfl rfl rfl ?_
  refine ra_iflt rfl rfl hx0 (fun h1 => ?_) (fun h1 => ?_)
  · refine ra_null rfl ?_
    exact ra_areturn rfl rfl ⟨Or.inl rfl, rfl⟩
  · refine ra_load rfl rfl rfl rfl ?_
    refine ra_load rfl rfl rfl rfl ?_
    refine ra_getR rfl lk_0_17 (Nat.zero_le _) (sh_D hD) rfl ?_
    refine ra_alen rfl (sh_D2 hD) rfl ?_
    refine ra_icge rfl rfl hx0 (by first | omega | (unfold ra_in at *; omega)) (fun h2 => ?_) (fun h2 => ?_)
    · refine ra_null rfl ?_
      exact ra_areturn rfl rfl ⟨Or.inl rfl, rfl⟩
    · refine ra_load rfl rfl rfl rfl ?_
      refine ra_getR rfl lk_0_17 (Nat.zero_le _) (sh_D hD) rfl ?_
      refine ra_load rfl rfl rfl rfl ?_
      refine ra_aaload rfl (sh_D2 hD) rfl (by decide) (by first | omega | (unfold ra_in at *; omega)) (by first | omega | (unfold ra_in at *; omega)) (sh_pt (by first | omega | (unfold ra_in at *; omega)) (by first | omega | (unfold ra_in at *; omega))) rfl ?_
      have hi3 : x0.toNat < 8 := (by first | omega | (unfold ra_in at *; omega))
      refine ra_cBp (sp_92 hD hi3) rfl (ct_92 rfl lk_0_81 (Or.inl rfl) (sh_P hD hi3) (Nat.le_of_ble_eq_true rfl)) (fun z5 hz5 => ?_)
      refine ra_ifne rfl rfl (ra_in01 hz5) (fun h6 => ?_) (fun h6 => ?_)
      · refine ra_load rfl rfl rfl rfl ?_
        refine ra_getR rfl lk_0_17 (Nat.zero_le _) (sh_D hD) rfl ?_
        refine ra_load rfl rfl rfl rfl ?_
        refine ra_aaload rfl (sh_D2 hD) rfl (by decide) (by first | omega | (unfold ra_in at *; omega)) (by first | omega | (unfold ra_in at *; omega)) (sh_pt (by first | omega | (unfold ra_in at *; omega)) (by first | omega | (unfold ra_in at *; omega))) rfl ?_
        have hi7 : x0.toNat < 8 := (by first | omega | (unfold ra_in at *; omega))
        exact ra_areturn rfl rfl ⟨Or.inr ⟨_, hi7, rfl⟩, rfl⟩
      · refine ra_null rfl ?_
        exact ra_areturn rfl rfl ⟨Or.inl rfl, rfl⟩
theorem sp_7 {n : Nat} {f : Nat → Int32} {d : Nat} {D : Nat} {i0 : Nat} {σ : ra_V} (hD : isD D) (hi0 : i0 < 8) : ra_C (g_Gs n f) g_sh 0 (d + 1) 7 [.index (D), .index (D + 5 + i0)] σ (fun r s => rB r ∧ s = σ) := by
  refine ra_enter (nn := 0) mt_7 rfl (Nat.le_of_ble_eq_true rfl) rfl (fun h => absurd h (by decide +kernel)) ?_
  refine ra_load rfl rfl rfl rfl ?_
  refine ra_getR rfl lk_0_24 (Nat.zero_le _) (sh_D hD) rfl ?_
  refine ra_getI rfl lk_0_88 (Nat.zero_le _) (sh_D3 hD) rfl ?_
  refine ra_gen (fun z1 hz1 => ?_)
  refine ra_load rfl rfl rfl rfl ?_
  refine ra_getK rfl lk_0_91 (Nat.zero_le _) (sh_P hD hi0) rfl ?_
  refine ra_icne rfl rfl hz1 (by first | omega | (unfold ra_in at *; omega)) (fun h2 => ?_) (fun h2 => ?_)
  · refine ra_iconst rfl ?_
    exact ra_ireturn rfl (ra_okB (Or.inl rfl)) ⟨⟨_, (Or.inl rfl), rfl⟩, rfl⟩
  · refine ra_iconst rfl ?_
    refine ra_goto rfl rfl ?_
    exact ra_ireturn rfl (ra_okB (Or.inr rfl)) ⟨⟨_, (Or.inr rfl), rfl⟩, rfl⟩
theorem sp_8 {n : Nat} {f : Nat → Int32} {d : Nat} {D : Nat} {i0 : Nat} {σ : ra_V} (hD : isD D) (hi0 : i0 < 8) : ra_C (g_Gs n f) g_sh 0 (d + 2) 8 [.index (D), .index (D + 5 + i0)] σ (fun r s => rB r ∧ s = σ) := by
  refine ra_enter (nn := 0) mt_8 rfl (Nat.le_of_ble_eq_true rfl) rfl (fun h => absurd h (by decide +kernel)) ?_
  refine ra_load rfl rfl rfl rfl ?_
  refine ra_cBp (sp_92 hD hi0) rfl (ct_92 rfl lk_0_81 (Or.inl rfl) (sh_P hD hi0) (Nat.le_of_ble_eq_true rfl)) (fun z2 hz2 => ?_)
  refine ra_ifeq rfl rfl (ra_in01 hz2) (fun h3 => ?_) (fun h3 => ?_)
  · refine ra_iconst rfl ?_
    exact ra_ireturn rfl (ra_okB (Or.inl rfl)) ⟨⟨_, (Or.inl rfl), rfl⟩, rfl⟩
  · refine ra_load rfl rfl rfl rfl ?_
    refine ra_getBw rfl lk_0_94 (Nat.zero_le _) (sh_P hD hi0) rfl (fun z4 hz4 => ?_)
    refine ra_ifne rfl rfl (ra_in01 hz4) (fun h5 => ?_) (fun h5 => ?_)
    · refine ra_iconst rfl ?_
      exact ra_ireturn rfl (ra_okB (Or.inl rfl)) ⟨⟨_, (Or.inl rfl), rfl⟩, rfl⟩
    · refine ra_load rfl rfl rfl rfl ?_
      refine ra_load rfl rfl rfl rfl ?_
      refine ra_cBp (sp_7 hD hi0) rfl (ct_7 rfl lk_0_98 (Or.inl rfl) (sh_D hD) (Nat.le_of_ble_eq_true rfl)) (fun z7 hz7 => ?_)
      refine ra_ifne rfl rfl (ra_in01 hz7) (fun h8 => ?_) (fun h8 => ?_)
      · refine ra_iconst rfl ?_
        exact ra_ireturn rfl (ra_okB (Or.inl rfl)) ⟨⟨_, (Or.inl rfl), rfl⟩, rfl⟩
      · refine ra_iconst rfl ?_
        refine ra_goto rfl rfl ?_
        exact ra_ireturn rfl (ra_okB (Or.inr rfl)) ⟨⟨_, (Or.inr rfl), rfl⟩, rfl⟩
theorem sp_9 {n : Nat} {f : Nat → Int32} {d : Nat} {D : Nat} {σ : ra_V} (hD : isD D) : ra_C (g_Gs n f) g_sh 0 (d + 1) 9 [.index (D)] σ (fun r s => rI r ∧ s = σ) := by
  refine ra_enter (nn := 0) mt_9 rfl (Nat.le_of_ble_eq_true rfl) rfl (fun h => absurd h (by decide +kernel)) ?_
  refine ra_load rfl rfl rfl rfl ?_
  refine ra_getI rfl lk_0_34 (Nat.zero_le _) (sh_D hD) rfl ?_
  refine ra_gen (fun z1 hz1 => ?_)
  refine ra_load rfl rfl rfl rfl ?_
  refine ra_getI rfl lk_0_41 (Nat.zero_le _) (sh_D hD) rfl ?_
  refine ra_gen (fun z2 hz2 => ?_)
  refine ra_isub rfl ?_
  refine ra_gen (fun z3 hz3 => ?_)
  exact ra_ireturn rfl rfl ⟨⟨_, hz3, rfl⟩, rfl⟩
theorem sp_10 {n : Nat} {f : Nat → Int32} {d : Nat} {D : Nat} {x0 : Int} {x1 : Int} {σ : ra_V} (hD : isD D) (hx0 : ra_in x0) (hx1 : ra_in x1) : ra_C (g_Gs n f) g_sh 0 (d + 2) 10 [.index (D), ra_J x0, ra_J x1] σ (fun r s => rB r ∧ s = σ) := by
  refine ra_enter (nn := 0) mt_10 rfl (Nat.le_of_ble_eq_true rfl) rfl (fun h => absurd h (by decide +kernel)) ?_
  refine ra_load rfl rfl rfl rfl ?_
  refine ra_lconst0 rfl ?_
  refine ra_lcmp rfl (by unfold ra_in6; first | omega | (unfold ra_in at *; omega)) (by unfold ra_in6; first | omega | (unfold ra_in at *; omega)) ?_
  refine ra_ifle rfl rfl (ra_in_cmp _ _) (fun h1 => ?_) (fun h1 => ?_)
  · rw [ra_cmp_le] at h1
    refine ra_iconst rfl ?_
    exact ra_ireturn rfl (ra_okB (Or.inl rfl)) ⟨⟨_, (Or.inl rfl), rfl⟩, rfl⟩
  · rw [ra_cmp_gt] at h1
    refine ra_load rfl rfl rfl rfl ?_
    refine ra_load rfl rfl rfl rfl ?_
    refine ra_getI rfl lk_0_38 (Nat.zero_le _) (sh_D hD) rfl ?_
    refine ra_gen (fun z2 hz2 => ?_)
    refine ra_i2l rfl hz2 ?_
    refine ra_lcmp rfl (by unfold ra_in6; first | omega | (unfold ra_in at *; omega)) (by unfold ra_in6; first | omega | (unfold ra_in at *; omega)) ?_
    refine ra_iflt rfl rfl (ra_in_cmp _ _) (fun h3 => ?_) (fun h3 => ?_)
    · rw [ra_cmp_lt] at h3
      refine ra_iconst rfl ?_
      exact ra_ireturn rfl (ra_okB (Or.inl rfl)) ⟨⟨_, (Or.inl rfl), rfl⟩, rfl⟩
    · rw [ra_cmp_ge] at h3
      refine ra_load rfl rfl rfl rfl ?_
      refine ra_load rfl rfl rfl rfl ?_
      refine ra_ladd rfl ?_
      refine ra_load rfl rfl rfl rfl ?_
      refine ra_cIp (sp_9 hD) rfl (ct_9 rfl lk_0_102 (Or.inl rfl) (sh_D hD) (Nat.le_of_ble_eq_true rfl)) (fun z5 hz5 => ?_)
      refine ra_i2l rfl hz5 ?_
      refine ra_lcmp rfl (by unfold ra_in6; first | omega | (unfold ra_in at *; omega)) (by unfold ra_in6; first | omega | (unfold ra_in at *; omega)) ?_
      refine ra_ifgt rfl rfl (ra_in_cmp _ _) (fun h6 => ?_) (fun h6 => ?_)
      · rw [ra_cmp_gt] at h6
        refine ra_iconst rfl ?_
        exact ra_ireturn rfl (ra_okB (Or.inl rfl)) ⟨⟨_, (Or.inl rfl), rfl⟩, rfl⟩
      · rw [ra_cmp_le] at h6
        refine ra_iconst rfl ?_
        refine ra_goto rfl rfl ?_
        exact ra_ireturn rfl (ra_okB (Or.inr rfl)) ⟨⟨_, (Or.inr rfl), rfl⟩, rfl⟩
theorem sp_11 {n : Nat} {f : Nat → Int32} {d : Nat} {D : Nat} {x0 : Int} {σ : ra_V} (hD : isD D) (hx0 : ra_in x0) : ra_C (g_Gs n f) g_sh 0 (d + 1) 11 [.index (D), ra_I x0] σ (fun r s => rB r ∧ s = σ) := by
  refine ra_enter (nn := 0) mt_11 rfl (Nat.le_of_ble_eq_true rfl) rfl (fun h => absurd h (by decide +kernel)) ?_
  refine ra_load rfl rfl rfl rfl ?_
  refine ra_getI rfl lk_0_44 (Nat.zero_le _) (sh_D hD) rfl ?_
  refine ra_ifle rfl rfl (ra_in_g _ _ _) (fun h1 => ?_) (fun h1 => ?_)
  · refine ra_iconst rfl ?_
    exact ra_ireturn rfl (ra_okB (Or.inl rfl)) ⟨⟨_, (Or.inl rfl), rfl⟩, rfl⟩
  · refine ra_load rfl rfl rfl rfl ?_
    refine ra_load rfl rfl rfl rfl ?_
    refine ra_getI rfl lk_0_44 (Nat.zero_le _) (sh_D hD) rfl ?_
    refine ra_irem rfl hx0 (ra_in_g _ _ _) (by omega) ?_
    refine ra_gen (fun z2 hz2 => ?_)
    refine ra_ifne rfl rfl hz2 (fun h3 => ?_) (fun h3 => ?_)
    · refine ra_iconst rfl ?_
      exact ra_ireturn rfl (ra_okB (Or.inl rfl)) ⟨⟨_, (Or.inl rfl), rfl⟩, rfl⟩
    · refine ra_iconst rfl ?_
      refine ra_goto rfl rfl ?_
      exact ra_ireturn rfl (ra_okB (Or.inr rfl)) ⟨⟨_, (Or.inr rfl), rfl⟩, rfl⟩
theorem sp_23 {n : Nat} {f : Nat → Int32} {d : Nat} {D : Nat} {x0 : Int} {σ : ra_V} (hD : isD D) (hx0 : ra_in x0) : ra_C (g_Gs n f) g_sh 0 (d + 1) 23 [.index (D), ra_I x0] σ (fun r s => rI r ∧ s = σ) := by
  refine ra_enter (nn := 0) mt_23 rfl (Nat.le_of_ble_eq_true rfl) rfl (fun h => absurd h (by decide +kernel)) ?_
  refine ra_load rfl rfl rfl rfl ?_
  refine ra_iflt rfl rfl hx0 (fun h1 => ?_) (fun h1 => ?_)
  · refine ra_iconst rfl ?_
    refine ra_goto rfl rfl ?_
    exact ra_ireturn rfl rfl ⟨⟨_, (by first | omega | (unfold ra_in at *; omega)), rfl⟩, rfl⟩
  · refine ra_load rfl rfl rfl rfl ?_
    refine ra_load rfl rfl rfl rfl ?_
    refine ra_getR rfl lk_0_9 (Nat.zero_le _) (sh_D hD) rfl ?_
    refine ra_alen rfl (sh_D1 hD) rfl ?_
    refine ra_iclt rfl rfl hx0 (by first | omega | (unfold ra_in at *; omega)) (fun h2 => ?_) (fun h2 => ?_)
    · refine ra_load rfl rfl rfl rfl ?_
      refine ra_getR rfl lk_0_9 (Nat.zero_le _) (sh_D hD) rfl ?_
      refine ra_load rfl rfl rfl rfl ?_
      refine ra_iaload rfl (sh_D1 hD) rfl (by decide) (by first | omega | (unfold ra_in at *; omega)) (by first | omega | (unfold ra_in at *; omega)) ?_
      refine ra_gen (fun z3 hz3 => ?_)
      exact ra_ireturn rfl rfl ⟨⟨_, hz3, rfl⟩, rfl⟩
    · refine ra_iconst rfl ?_
      refine ra_goto rfl rfl ?_
      exact ra_ireturn rfl rfl ⟨⟨_, (by first | omega | (unfold ra_in at *; omega)), rfl⟩, rfl⟩
theorem sp_26 {n : Nat} {f : Nat → Int32} {d : Nat} {D : Nat} {i0 : Nat} {x1 : Int} {σ : ra_V} (hD : isD D) (hi0 : i0 < 8) (hx1 : ra_in x1) : ra_C (g_Gs n f) g_sh 0 (d + 3) 26 [.index (D), .index (D + 5 + i0), ra_I x1] σ (fun r s => rI r ∧ s = σ) := by
  refine ra_enter (nn := 0) mt_26 rfl (Nat.le_of_ble_eq_true rfl) rfl (fun h => absurd h (by decide +kernel)) ?_
  refine ra_load rfl rfl rfl rfl ?_
  refine ra_load rfl rfl rfl rfl ?_
  refine ra_cBp (sp_7 hD hi0) rfl (ct_7 rfl lk_0_98 (Or.inl rfl) (sh_D hD) (Nat.le_of_ble_eq_true rfl)) (fun z2 hz2 => ?_)
  refine ra_ifeq rfl rfl (ra_in01 hz2) (fun h3 => ?_) (fun h3 => ?_)
  · refine ra_load rfl rfl rfl rfl ?_
    refine ra_getI rfl lk_0_85 (Nat.zero_le _) (sh_P hD hi0) rfl ?_
    refine ra_gen (fun z4 hz4 => ?_)
    refine ra_load rfl rfl rfl rfl ?_
    refine ra_iadd rfl ?_
    refine ra_gen (fun z5 hz5 => ?_)
    exact ra_ireturn rfl rfl ⟨⟨_, hz5, rfl⟩, rfl⟩
  · refine ra_load rfl rfl rfl rfl ?_
    refine ra_getR rfl lk_0_24 (Nat.zero_le _) (sh_D hD) rfl ?_
    refine ra_load rfl rfl rfl rfl ?_
    refine ra_cIp (sp_77 hD hx1) rfl (ct_77 rfl lk_0_183 (Or.inl rfl) (sh_D3 hD) (Nat.le_of_ble_eq_true rfl)) (fun z7 hz7 => ?_)
    refine ra_goto rfl rfl ?_
    exact ra_ireturn rfl rfl ⟨⟨_, hz7, rfl⟩, rfl⟩
theorem sp_29 {n : Nat} {f : Nat → Int32} {d : Nat} {D : Nat} {i0 : Nat} {x1 : Int} {x2 : Int} {σ : ra_V} (hD : isD D) (hi0 : i0 < 8) (hx1 : ra_in x1) (hx2 : ra_in x2) : ra_C (g_Gs n f) g_sh 0 (d + 3) 29 [.index (D), .index (D + 5 + i0), ra_I x1, ra_I x2] σ (fun r s => rB r ∧ s = σ) := by
  refine ra_enter (nn := 0) mt_29 rfl (Nat.le_of_ble_eq_true rfl) rfl (fun h => absurd h (by decide +kernel)) ?_
  refine ra_load rfl rfl rfl rfl ?_
  refine ra_iflt rfl rfl hx1 (fun h1 => ?_) (fun h1 => ?_)
  · refine ra_iconst rfl ?_
    exact ra_ireturn rfl (ra_okB (Or.inl rfl)) ⟨⟨_, (Or.inl rfl), rfl⟩, rfl⟩
  · refine ra_load rfl rfl rfl rfl ?_
    refine ra_load rfl rfl rfl rfl ?_
    refine ra_getI rfl lk_0_65 (Nat.zero_le _) (sh_P hD hi0) rfl ?_
    refine ra_gen (fun z2 hz2 => ?_)
    refine ra_icge rfl rfl hx1 hz2 (fun h3 => ?_) (fun h3 => ?_)
    · refine ra_iconst rfl ?_
      exact ra_ireturn rfl (ra_okB (Or.inl rfl)) ⟨⟨_, (Or.inl rfl), rfl⟩, rfl⟩
    · refine ra_load rfl rfl rfl rfl ?_
      refine ra_getR rfl lk_0_24 (Nat.zero_le _) (sh_D hD) rfl ?_
      refine ra_load rfl rfl rfl rfl ?_
      refine ra_cIp (sp_77 hD hx1) rfl (ct_77 rfl lk_0_183 (Or.inl rfl) (sh_D3 hD) (Nat.le_of_ble_eq_true rfl)) (fun z5 hz5 => ?_)
      refine ra_load rfl rfl rfl rfl ?_
      refine ra_icne rfl rfl hz5 hx2 (fun h6 => ?_) (fun h6 => ?_)
      · refine ra_iconst rfl ?_
        exact ra_ireturn rfl (ra_okB (Or.inl rfl)) ⟨⟨_, (Or.inl rfl), rfl⟩, rfl⟩
      · refine ra_iconst rfl ?_
        refine ra_goto rfl rfl ?_
        exact ra_ireturn rfl (ra_okB (Or.inr rfl)) ⟨⟨_, (Or.inr rfl), rfl⟩, rfl⟩
theorem sp_28 {n : Nat} {f : Nat → Int32} {d : Nat} {D : Nat} {i0 : Nat} {x1 : Int} {σ : ra_V} (hD : isD D) (hi0 : i0 < 8) (hx1 : ra_in x1) : ra_C (g_Gs n f) g_sh 0 (d + 4) 28 [.index (D), .index (D + 5 + i0), ra_I x1] σ (fun r s => rB r ∧ s = σ) := by
  refine ra_enter (nn := 0) mt_28 rfl (Nat.le_of_ble_eq_true rfl) rfl (fun h => absurd h (by decide +kernel)) ?_
  refine ra_load rfl rfl rfl rfl ?_
  refine ra_load rfl rfl rfl rfl ?_
  refine ra_load rfl rfl rfl rfl ?_
  refine ra_load rfl rfl rfl rfl ?_
  refine ra_getR rfl lk_0_24 (Nat.zero_le _) (sh_D hD) rfl ?_
  refine ra_getI rfl lk_0_193 (Nat.zero_le _) (sh_D3 hD) rfl ?_
  refine ra_gen (fun z1 hz1 => ?_)
  refine ra_isub rfl ?_
  refine ra_gen (fun z2 hz2 => ?_)
  refine ra_load rfl rfl rfl rfl ?_
  refine ra_cBp (sp_29 hD hi0 hz2 hx1) rfl (ct_29 rfl lk_0_196 (Or.inl rfl) (sh_D hD) (Nat.le_of_ble_eq_true rfl)) (fun z4 hz4 => ?_)
  refine ra_ifne rfl rfl (ra_in01 hz4) (fun h5 => ?_) (fun h5 => ?_)
  · refine ra_iconst rfl ?_
    refine ra_goto rfl rfl ?_
    exact ra_ireturn rfl (ra_okB (Or.inr rfl)) ⟨⟨_, (Or.inr rfl), rfl⟩, rfl⟩
  · refine ra_load rfl rfl rfl rfl ?_
    refine ra_load rfl rfl rfl rfl ?_
    refine ra_load rfl rfl rfl rfl ?_
    refine ra_load rfl rfl rfl rfl ?_
    refine ra_getR rfl lk_0_24 (Nat.zero_le _) (sh_D hD) rfl ?_
    refine ra_getI rfl lk_0_199 (Nat.zero_le _) (sh_D3 hD) rfl ?_
    refine ra_gen (fun z6 hz6 => ?_)
    refine ra_isub rfl ?_
    refine ra_gen (fun z7 hz7 => ?_)
    refine ra_load rfl rfl rfl rfl ?_
    refine ra_cBp (sp_29 hD hi0 hz7 hx1) rfl (ct_29 rfl lk_0_196 (Or.inl rfl) (sh_D hD) (Nat.le_of_ble_eq_true rfl)) (fun z9 hz9 => ?_)
    refine ra_ifne rfl rfl (ra_in01 hz9) (fun h10 => ?_) (fun h10 => ?_)
    · refine ra_iconst rfl ?_
      refine ra_goto rfl rfl ?_
      exact ra_ireturn rfl (ra_okB (Or.inr rfl)) ⟨⟨_, (Or.inr rfl), rfl⟩, rfl⟩
    · refine ra_load rfl rfl rfl rfl ?_
      refine ra_getR rfl lk_0_24 (Nat.zero_le _) (sh_D hD) rfl ?_
      refine ra_getBw rfl lk_0_202 (Nat.zero_le _) (sh_D3 hD) rfl (fun z11 hz11 => ?_)
      refine ra_ifeq rfl rfl (ra_in01 hz11) (fun h12 => ?_) (fun h12 => ?_)
      · refine ra_iconst rfl ?_
        exact ra_ireturn rfl (ra_okB (Or.inl rfl)) ⟨⟨_, (Or.inl rfl), rfl⟩, rfl⟩
      · refine ra_load rfl rfl rfl rfl ?_
        refine ra_load rfl rfl rfl rfl ?_
        refine ra_load rfl rfl rfl rfl ?_
        refine ra_load rfl rfl rfl rfl ?_
        refine ra_getR rfl lk_0_24 (Nat.zero_le _) (sh_D hD) rfl ?_
        refine ra_getI rfl lk_0_205 (Nat.zero_le _) (sh_D3 hD) rfl ?_
        refine ra_gen (fun z13 hz13 => ?_)
        refine ra_isub rfl ?_
        refine ra_gen (fun z14 hz14 => ?_)
        refine ra_load rfl rfl rfl rfl ?_
        refine ra_getR rfl lk_0_24 (Nat.zero_le _) (sh_D hD) rfl ?_
        refine ra_cIp (sp_72 hD) rfl (ct_72 rfl lk_0_208 (Or.inl rfl) (sh_D3 hD) (Nat.le_of_ble_eq_true rfl)) (fun z16 hz16 => ?_)
        refine ra_iadd rfl ?_
        refine ra_gen (fun z17 hz17 => ?_)
        refine ra_load rfl rfl rfl rfl ?_
        refine ra_cBp (sp_29 hD hi0 hz17 hx1) rfl (ct_29 rfl lk_0_196 (Or.inl rfl) (sh_D hD) (Nat.le_of_ble_eq_true rfl)) (fun z19 hz19 => ?_)
        refine ra_ifeq rfl rfl (ra_in01 hz19) (fun h20 => ?_) (fun h20 => ?_)
        · refine ra_iconst rfl ?_
          exact ra_ireturn rfl (ra_okB (Or.inl rfl)) ⟨⟨_, (Or.inl rfl), rfl⟩, rfl⟩
        · refine ra_iconst rfl ?_
          refine ra_goto rfl rfl ?_
          exact ra_ireturn rfl (ra_okB (Or.inr rfl)) ⟨⟨_, (Or.inr rfl), rfl⟩, rfl⟩
theorem sp_20 {n : Nat} {f : Nat → Int32} {d : Nat} {D : Nat} {i0 : Nat} {x1 : Int} {x2 : Int} {σ : ra_V} (hD : isD D) (hi0 : i0 < 8) (hx1 : ra_in x1) (hx2 : ra_in x2) : ra_C (g_Gs n f) g_sh 0 (d + 2) 20 [.index (D), .index (D + 5 + i0), ra_I x1, ra_I x2] σ (fun r s => rB r ∧ s = σ) := by
  refine ra_enter (nn := 0) mt_20 rfl (Nat.le_of_ble_eq_true rfl) rfl (fun h => absurd h (by decide +kernel)) ?_
  refine ra_load rfl rfl rfl rfl ?_
  refine ra_load rfl rfl rfl rfl ?_
  refine ra_getI rfl lk_0_65 (Nat.zero_le _) (sh_P hD hi0) rfl ?_
  refine ra_gen (fun z1 hz1 => ?_)
  refine ra_min rfl lk_0_129 hx2 hz1 (Nat.le_of_ble_eq_true rfl) ?_
  refine ra_gen (fun z2 hz2 => ?_)
  refine ra_load rfl rfl rfl rfl ?_
  refine ra_getI rfl lk_0_85 (Nat.zero_le _) (sh_P hD hi0) rfl ?_
  refine ra_gen (fun z3 hz3 => ?_)
  refine ra_load rfl rfl rfl rfl ?_
  refine ra_cIp (sp_188 hz3 hx1) rfl (ct_188 rfl lk_0_165 (Or.inr ⟨rfl, rfl⟩) (Nat.le_of_ble_eq_true rfl)) (fun z5 hz5 => ?_)
  refine ra_icle rfl rfl hz2 hz5 (fun h6 => ?_) (fun h6 => ?_)
  · refine ra_iconst rfl ?_
    exact ra_ireturn rfl (ra_okB (Or.inl rfl)) ⟨⟨_, (Or.inl rfl), rfl⟩, rfl⟩
  · refine ra_iconst rfl ?_
    refine ra_goto rfl rfl ?_
    exact ra_ireturn rfl (ra_okB (Or.inr rfl)) ⟨⟨_, (Or.inr rfl), rfl⟩, rfl⟩
theorem lp_4_13 {n : Nat} {f : Nat → Int32} {d : Nat} {D : Nat} {σ : ra_V} (hD : isD D) : ∀ (nn : Nat) (v1 : Int) (v4 : Int) (hv1 : ra_in v1) (hv4_0 : 0 ≤ v4) (hv4_1 : v4 ≤ 8) (hm : ((8 - v4 : Int)).toNat < nn), ra_P (g_Gs n f) g_sh 0 (d + 1) g_m_X0_standing 13 [none, some (ra_I v1), some (.index (D + 2)), some (ra_I ((8 : Nat) : Int)), some (ra_I v4), none] [] σ (fun r s => rI r ∧ s = σ) := by
  intro nn
  induction nn with
  | zero => intro v1 v4 hv1 hv4_0 hv4_1 hm; exact absurd hm (Nat.not_lt_zero _)
  | succ nn ih =>
    intro v1 v4 hv1 hv4_0 hv4_1 hm
    refine ra_load rfl rfl rfl rfl ?_
    refine ra_load rfl rfl rfl rfl ?_
    refine ra_icge rfl rfl (by first | omega | (unfold ra_in at *; omega)) (by first | omega | (unfold ra_in at *; omega)) (fun h1 => ?_) (fun h1 => ?_)
    · refine ra_load rfl rfl rfl rfl ?_
      exact ra_ireturn rfl rfl ⟨⟨_, hv1, rfl⟩, rfl⟩
    · refine ra_load rfl rfl rfl rfl ?_
      refine ra_load rfl rfl rfl rfl ?_
      refine ra_aaload rfl (sh_D2 hD) rfl (by decide) (by first | omega | (unfold ra_in at *; omega)) (by first | omega | (unfold ra_in at *; omega)) (sh_pt (by first | omega | (unfold ra_in at *; omega)) (by first | omega | (unfold ra_in at *; omega))) rfl ?_
      have hi2 : v4.toNat < 8 := (by first | omega | (unfold ra_in at *; omega))
      refine ra_store (L' := [_, _, _, _, _, _]) rfl rfl rfl (Nat.le_of_ble_eq_true rfl) rfl ?_
      refine ra_load rfl rfl rfl rfl ?_
      refine ra_cBp (sp_92 hD hi2) rfl (ct_92 rfl lk_0_81 (Or.inl rfl) (sh_P hD hi2) (Nat.le_of_ble_eq_true rfl)) (fun z4 hz4 => ?_)
      refine ra_ifeq rfl rfl (ra_in01 hz4) (fun h5 => ?_) (fun h5 => ?_)
      · refine ra_iinc (L' := [_, _, _, _, _, _]) rfl rfl (Nat.le_of_ble_eq_true rfl) rfl ?_
        refine ra_goto rfl rfl ?_
        exact ra_weak (by repeat' constructor) (ih v1 (v4 + 1) hv1 (by first | omega | (unfold ra_in at *; omega)) (by first | omega | (unfold ra_in at *; omega)) (by first | omega | (unfold ra_in at *; omega)))
      · refine ra_iincG rfl rfl (Nat.le_of_ble_eq_true rfl) (fun z6 hz6 => ?_)
        refine ra_cong (L' := [_, _, _, _, _, _]) rfl ?_
        refine ra_iinc (L' := [_, _, _, _, _, _]) rfl rfl (Nat.le_of_ble_eq_true rfl) rfl ?_
        refine ra_goto rfl rfl ?_
        exact ra_weak (by repeat' constructor) (ih z6 (v4 + 1) hz6 (by first | omega | (unfold ra_in at *; omega)) (by first | omega | (unfold ra_in at *; omega)) (by first | omega | (unfold ra_in at *; omega)))
theorem sp_4 {n : Nat} {f : Nat → Int32} {d : Nat} {D : Nat} {σ : ra_V} (hD : isD D) : ra_C (g_Gs n f) g_sh 0 (d + 2) 4 [.index (D)] σ (fun r s => rI r ∧ s = σ) := by
  refine ra_enter (nn := 5) mt_4 rfl (Nat.le_of_ble_eq_true rfl) rfl (fun h => absurd h (by decide +kernel)) ?_
  refine ra_iconst rfl ?_
  refine ra_store (L' := [_, _, _, _, _, _]) rfl rfl rfl (Nat.le_of_ble_eq_true rfl) rfl ?_
  refine ra_load rfl rfl rfl rfl ?_
  refine ra_getR rfl lk_0_17 (Nat.zero_le _) (sh_D hD) rfl ?_
  refine ra_store (L' := [_, _, _, _, _, _]) rfl rfl rfl (Nat.le_of_ble_eq_true rfl) rfl ?_
  refine ra_load rfl rfl rfl rfl ?_
  refine ra_alen rfl (sh_D2 hD) rfl ?_
  refine ra_store (L' := [_, _, _, _, _, _]) rfl rfl rfl (Nat.le_of_ble_eq_true rfl) rfl ?_
  refine ra_iconst rfl ?_
  refine ra_store (L' := [_, _, _, _, _, _]) rfl rfl rfl (Nat.le_of_ble_eq_true rfl) rfl ?_
  exact ra_weak (by repeat' constructor) (lp_4_13 hD _ (0) (0) (by first | omega | (unfold ra_in at *; omega)) (by first | omega | (unfold ra_in at *; omega)) (by first | omega | (unfold ra_in at *; omega)) (Nat.lt_succ_self _))
theorem lp_5_13 {n : Nat} {f : Nat → Int32} {d : Nat} {D : Nat} {σ : ra_V} (hD : isD D) : ∀ (nn : Nat) (v1 : Int) (v4 : Int) (hv1 : ra_in v1) (hv4_0 : 0 ≤ v4) (hv4_1 : v4 ≤ 8) (hm : ((8 - v4 : Int)).toNat < nn), ra_P (g_Gs n f) g_sh 0 (d + 0) g_m_X0_takenByParts 13 [none, some (ra_I v1), some (.index (D + 2)), some (ra_I ((8 : Nat) : Int)), some (ra_I v4), none] [] σ (fun r s => rI r ∧ s = σ) := by
  intro nn
  induction nn with
  | zero => intro v1 v4 hv1 hv4_0 hv4_1 hm; exact absurd hm (Nat.not_lt_zero _)
  | succ nn ih =>
    intro v1 v4 hv1 hv4_0 hv4_1 hm
    refine ra_load rfl rfl rfl rfl ?_
    refine ra_load rfl rfl rfl rfl ?_
    refine ra_icge rfl rfl (by first | omega | (unfold ra_in at *; omega)) (by first | omega | (unfold ra_in at *; omega)) (fun h1 => ?_) (fun h1 => ?_)
    · refine ra_load rfl rfl rfl rfl ?_
      exact ra_ireturn rfl rfl ⟨⟨_, hv1, rfl⟩, rfl⟩
    · refine ra_load rfl rfl rfl rfl ?_
      refine ra_load rfl rfl rfl rfl ?_
      refine ra_aaload rfl (sh_D2 hD) rfl (by decide) (by first | omega | (unfold ra_in at *; omega)) (by first | omega | (unfold ra_in at *; omega)) (sh_pt (by first | omega | (unfold ra_in at *; omega)) (by first | omega | (unfold ra_in at *; omega))) rfl ?_
      have hi2 : v4.toNat < 8 := (by first | omega | (unfold ra_in at *; omega))
      refine ra_store (L' := [_, _, _, _, _, _]) rfl rfl rfl (Nat.le_of_ble_eq_true rfl) rfl ?_
      refine ra_load rfl rfl rfl rfl ?_
      refine ra_load rfl rfl rfl rfl ?_
      refine ra_getI rfl lk_0_65 (Nat.zero_le _) (sh_P hD hi2) rfl ?_
      refine ra_gen (fun z3 hz3 => ?_)
      refine ra_iadd rfl ?_
      refine ra_gen (fun z4 hz4 => ?_)
      refine ra_store (L' := [_, _, _, _, _, _]) rfl rfl rfl (Nat.le_of_ble_eq_true rfl) rfl ?_
      refine ra_iinc (L' := [_, _, _, _, _, _]) rfl rfl (Nat.le_of_ble_eq_true rfl) rfl ?_
      refine ra_goto rfl rfl ?_
      exact ra_weak (by repeat' constructor) (ih z4 (v4 + 1) hz4 (by first | omega | (unfold ra_in at *; omega)) (by first | omega | (unfold ra_in at *; omega)) (by first | omega | (unfold ra_in at *; omega)))
theorem sp_5 {n : Nat} {f : Nat → Int32} {d : Nat} {D : Nat} {σ : ra_V} (hD : isD D) : ra_C (g_Gs n f) g_sh 0 (d + 1) 5 [.index (D)] σ (fun r s => rI r ∧ s = σ) := by
  refine ra_enter (nn := 5) mt_5 rfl (Nat.le_of_ble_eq_true rfl) rfl (fun h => absurd h (by decide +kernel)) ?_
  refine ra_iconst rfl ?_
  refine ra_store (L' := [_, _, _, _, _, _]) rfl rfl rfl (Nat.le_of_ble_eq_true rfl) rfl ?_
  refine ra_load rfl rfl rfl rfl ?_
  refine ra_getR rfl lk_0_17 (Nat.zero_le _) (sh_D hD) rfl ?_
  refine ra_store (L' := [_, _, _, _, _, _]) rfl rfl rfl (Nat.le_of_ble_eq_true rfl) rfl ?_
  refine ra_load rfl rfl rfl rfl ?_
  refine ra_alen rfl (sh_D2 hD) rfl ?_
  refine ra_store (L' := [_, _, _, _, _, _]) rfl rfl rfl (Nat.le_of_ble_eq_true rfl) rfl ?_
  refine ra_iconst rfl ?_
  refine ra_store (L' := [_, _, _, _, _, _]) rfl rfl rfl (Nat.le_of_ble_eq_true rfl) rfl ?_
  exact ra_weak (by repeat' constructor) (lp_5_13 hD _ (0) (0) (by first | omega | (unfold ra_in at *; omega)) (by first | omega | (unfold ra_in at *; omega)) (by first | omega | (unfold ra_in at *; omega)) (Nat.lt_succ_self _))
theorem lp_6_14 {n : Nat} {f : Nat → Int32} {d : Nat} {D : Nat} {x0 : Int} {σ : ra_V} (hD : isD D) (hx0 : ra_in x0) : ∀ (nn : Nat) (t2 : Jvm.Term) (v5 : Int) (ht2 : t2 = .null ∨ ∃ i, i < 8 ∧ t2 = .index (D + 5 + i)) (hv5_0 : 0 ≤ v5) (hv5_1 : v5 ≤ 8) (hm : ((8 - v5 : Int)).toNat < nn), ra_P (g_Gs n f) g_sh 0 (d + 1) g_m_X0_nextBehind 14 [none, some (ra_I x0), some (t2), some (.index (D + 2)), some (ra_I ((8 : Nat) : Int)), some (ra_I v5), none] [] σ (fun r s => (rP D) r ∧ s = σ) := by
  intro nn
  induction nn with
  | zero => intro t2 v5 ht2 hv5_0 hv5_1 hm; exact absurd hm (Nat.not_lt_zero _)
  | succ nn ih =>
    intro t2 v5 ht2 hv5_0 hv5_1 hm
    rcases ht2 with rfl | ⟨p2, hp2, rfl⟩
    · refine ra_load rfl rfl rfl rfl ?_
      refine ra_load rfl rfl rfl rfl ?_
      refine ra_icge rfl rfl (by first | omega | (unfold ra_in at *; omega)) (by first | omega | (unfold ra_in at *; omega)) (fun h1 => ?_) (fun h1 => ?_)
      · refine ra_load rfl rfl rfl rfl ?_
        exact ra_areturn rfl rfl ⟨Or.inl rfl, rfl⟩
      · refine ra_load rfl rfl rfl rfl ?_
        refine ra_load rfl rfl rfl rfl ?_
        refine ra_aaload rfl (sh_D2 hD) rfl (by decide) (by first | omega | (unfold ra_in at *; omega)) (by first | omega | (unfold ra_in at *; omega)) (sh_pt (by first | omega | (unfold ra_in at *; omega)) (by first | omega | (unfold ra_in at *; omega))) rfl ?_
        have hi2 : v5.toNat < 8 := (by first | omega | (unfold ra_in at *; omega))
        refine ra_store (L' := [_, _, _, _, _, _, _]) rfl rfl rfl (Nat.le_of_ble_eq_true rfl) rfl ?_
        refine ra_load rfl rfl rfl rfl ?_
        refine ra_cBp (sp_92 hD hi2) rfl (ct_92 rfl lk_0_81 (Or.inl rfl) (sh_P hD hi2) (Nat.le_of_ble_eq_true rfl)) (fun z4 hz4 => ?_)
        refine ra_ifeq rfl rfl (ra_in01 hz4) (fun h5 => ?_) (fun h5 => ?_)
        · refine ra_iinc (L' := [_, _, _, _, _, _, _]) rfl rfl (Nat.le_of_ble_eq_true rfl) rfl ?_
          refine ra_goto rfl rfl ?_
          exact ra_weak (by repeat' constructor) (ih _ (v5 + 1) (Or.inl rfl) (by first | omega | (unfold ra_in at *; omega)) (by first | omega | (unfold ra_in at *; omega)) (by first | omega | (unfold ra_in at *; omega)))
        · refine ra_load rfl rfl rfl rfl ?_
          refine ra_getI rfl lk_0_85 (Nat.zero_le _) (sh_P hD hi2) rfl ?_
          refine ra_gen (fun z6 hz6 => ?_)
          refine ra_load rfl rfl rfl rfl ?_
          refine ra_icle rfl rfl hz6 hx0 (fun h7 => ?_) (fun h7 => ?_)
          · refine ra_iinc (L' := [_, _, _, _, _, _, _]) rfl rfl (Nat.le_of_ble_eq_true rfl) rfl ?_
            refine ra_goto rfl rfl ?_
            exact ra_weak (by repeat' constructor) (ih _ (v5 + 1) (Or.inl rfl) (by first | omega | (unfold ra_in at *; omega)) (by first | omega | (unfold ra_in at *; omega)) (by first | omega | (unfold ra_in at *; omega)))
          · refine ra_load rfl rfl rfl rfl ?_
            refine ra_nullT rfl rfl ?_
            refine ra_load rfl rfl rfl rfl ?_
            refine ra_store (L' := [_, _, _, _, _, _, _]) rfl rfl rfl (Nat.le_of_ble_eq_true rfl) rfl ?_
            refine ra_iinc (L' := [_, _, _, _, _, _, _]) rfl rfl (Nat.le_of_ble_eq_true rfl) rfl ?_
            refine ra_goto rfl rfl ?_
            exact ra_weak (by repeat' constructor) (ih _ (v5 + 1) (Or.inr ⟨_, hi2, rfl⟩) (by first | omega | (unfold ra_in at *; omega)) (by first | omega | (unfold ra_in at *; omega)) (by first | omega | (unfold ra_in at *; omega)))
    · refine ra_load rfl rfl rfl rfl ?_
      refine ra_load rfl rfl rfl rfl ?_
      refine ra_icge rfl rfl (by first | omega | (unfold ra_in at *; omega)) (by first | omega | (unfold ra_in at *; omega)) (fun h8 => ?_) (fun h8 => ?_)
      · refine ra_load rfl rfl rfl rfl ?_
        exact ra_areturn rfl rfl ⟨Or.inr ⟨_, hp2, rfl⟩, rfl⟩
      · refine ra_load rfl rfl rfl rfl ?_
        refine ra_load rfl rfl rfl rfl ?_
        refine ra_aaload rfl (sh_D2 hD) rfl (by decide) (by first | omega | (unfold ra_in at *; omega)) (by first | omega | (unfold ra_in at *; omega)) (sh_pt (by first | omega | (unfold ra_in at *; omega)) (by first | omega | (unfold ra_in at *; omega))) rfl ?_
        have hi9 : v5.toNat < 8 := (by first | omega | (unfold ra_in at *; omega))
        refine ra_store (L' := [_, _, _, _, _, _, _]) rfl rfl rfl (Nat.le_of_ble_eq_true rfl) rfl ?_
        refine ra_load rfl rfl rfl rfl ?_
        refine ra_cBp (sp_92 hD hi9) rfl (ct_92 rfl lk_0_81 (Or.inl rfl) (sh_P hD hi9) (Nat.le_of_ble_eq_true rfl)) (fun z11 hz11 => ?_)
        refine ra_ifeq rfl rfl (ra_in01 hz11) (fun h12 => ?_) (fun h12 => ?_)
        · refine ra_iinc (L' := [_, _, _, _, _, _, _]) rfl rfl (Nat.le_of_ble_eq_true rfl) rfl ?_
          refine ra_goto rfl rfl ?_
          exact ra_weak (by repeat' constructor) (ih _ (v5 + 1) (Or.inr ⟨_, hp2, rfl⟩) (by first | omega | (unfold ra_in at *; omega)) (by first | omega | (unfold ra_in at *; omega)) (by first | omega | (unfold ra_in at *; omega)))
        · refine ra_load rfl rfl rfl rfl ?_
          refine ra_getI rfl lk_0_85 (Nat.zero_le _) (sh_P hD hi9) rfl ?_
          refine ra_gen (fun z13 hz13 => ?_)
          refine ra_load rfl rfl rfl rfl ?_
          refine ra_icle rfl rfl hz13 hx0 (fun h14 => ?_) (fun h14 => ?_)
          · refine ra_iinc (L' := [_, _, _, _, _, _, _]) rfl rfl (Nat.le_of_ble_eq_true rfl) rfl ?_
            refine ra_goto rfl rfl ?_
            exact ra_weak (by repeat' constructor) (ih _ (v5 + 1) (Or.inr ⟨_, hp2, rfl⟩) (by first | omega | (unfold ra_in at *; omega)) (by first | omega | (unfold ra_in at *; omega)) (by first | omega | (unfold ra_in at *; omega)))
          · refine ra_load rfl rfl rfl rfl ?_
            refine ra_nullF rfl rfl ?_
            refine ra_load rfl rfl rfl rfl ?_
            refine ra_getI rfl lk_0_85 (Nat.zero_le _) (sh_P hD hi9) rfl ?_
            refine ra_gen (fun z15 hz15 => ?_)
            refine ra_load rfl rfl rfl rfl ?_
            refine ra_getI rfl lk_0_85 (Nat.zero_le _) (sh_P hD hp2) rfl ?_
            refine ra_gen (fun z16 hz16 => ?_)
            refine ra_icge rfl rfl hz15 hz16 (fun h17 => ?_) (fun h17 => ?_)
            · refine ra_iinc (L' := [_, _, _, _, _, _, _]) rfl rfl (Nat.le_of_ble_eq_true rfl) rfl ?_
              refine ra_goto rfl rfl ?_
              exact ra_weak (by repeat' constructor) (ih _ (v5 + 1) (Or.inr ⟨_, hp2, rfl⟩) (by first | omega | (unfold ra_in at *; omega)) (by first | omega | (unfold ra_in at *; omega)) (by first | omega | (unfold ra_in at *; omega)))
            · refine ra_load rfl rfl rfl rfl ?_
              refine ra_store (L' := [_, _, _, _, _, _, _]) rfl rfl rfl (Nat.le_of_ble_eq_true rfl) rfl ?_
              refine ra_iinc (L' := [_, _, _, _, _, _, _]) rfl rfl (Nat.le_of_ble_eq_true rfl) rfl ?_
              refine ra_goto rfl rfl ?_
              exact ra_weak (by repeat' constructor) (ih _ (v5 + 1) (Or.inr ⟨_, hi9, rfl⟩) (by first | omega | (unfold ra_in at *; omega)) (by first | omega | (unfold ra_in at *; omega)) (by first | omega | (unfold ra_in at *; omega)))
theorem sp_6 {n : Nat} {f : Nat → Int32} {d : Nat} {D : Nat} {x0 : Int} {σ : ra_V} (hD : isD D) (hx0 : ra_in x0) : ra_C (g_Gs n f) g_sh 0 (d + 2) 6 [.index (D), ra_I x0] σ (fun r s => (rP D) r ∧ s = σ) := by
  refine ra_enter (nn := 5) mt_6 rfl (Nat.le_of_ble_eq_true rfl) rfl (fun h => absurd h (by decide +kernel)) ?_
  refine ra_null rfl ?_
  refine ra_store (L' := [_, _, _, _, _, _, _]) rfl rfl rfl (Nat.le_of_ble_eq_true rfl) rfl ?_
  refine ra_load rfl rfl rfl rfl ?_
  refine ra_getR rfl lk_0_17 (Nat.zero_le _) (sh_D hD) rfl ?_
  refine ra_store (L' := [_, _, _, _, _, _, _]) rfl rfl rfl (Nat.le_of_ble_eq_true rfl) rfl ?_
  refine ra_load rfl rfl rfl rfl ?_
  refine ra_alen rfl (sh_D2 hD) rfl ?_
  refine ra_store (L' := [_, _, _, _, _, _, _]) rfl rfl rfl (Nat.le_of_ble_eq_true rfl) rfl ?_
  refine ra_iconst rfl ?_
  refine ra_store (L' := [_, _, _, _, _, _, _]) rfl rfl rfl (Nat.le_of_ble_eq_true rfl) rfl ?_
  exact ra_weak (by repeat' constructor) (lp_6_14 hD hx0 _ _ (0) (Or.inl rfl) (by first | omega | (unfold ra_in at *; omega)) (by first | omega | (unfold ra_in at *; omega)) (Nat.lt_succ_self _))
theorem lp_12_17 {n : Nat} {f : Nat → Int32} {d : Nat} {D : Nat} {x0 : Int} {x1 : Int} {σ : ra_V} (hD : isD D) (hx0 : ra_in x0) (hx1 : ra_in x1) : ∀ (nn : Nat) (v5 : Int) (v8 : Int) (hv5 : ra_in v5) (hv8_0 : 0 ≤ v8) (hv8_1 : v8 ≤ 8) (hm : ((8 - v8 : Int)).toNat < nn), ra_P (g_Gs n f) g_sh 0 (d + 1) g_m_X0_meeting 17 [none, some (ra_J x0), none, some (ra_J x1), none, some (ra_I v5), some (.index (D + 2)), some (ra_I ((8 : Nat) : Int)), some (ra_I v8), none] [] σ (fun r s => rI r ∧ s = σ) := by
  intro nn
  induction nn with
  | zero => intro v5 v8 hv5 hv8_0 hv8_1 hm; exact absurd hm (Nat.not_lt_zero _)
  | succ nn ih =>
    intro v5 v8 hv5 hv8_0 hv8_1 hm
    refine ra_load rfl rfl rfl rfl ?_
    refine ra_load rfl rfl rfl rfl ?_
    refine ra_icge rfl rfl (by first | omega | (unfold ra_in at *; omega)) (by first | omega | (unfold ra_in at *; omega)) (fun h1 => ?_) (fun h1 => ?_)
    · refine ra_load rfl rfl rfl rfl ?_
      exact ra_ireturn rfl rfl ⟨⟨_, hv5, rfl⟩, rfl⟩
    · refine ra_load rfl rfl rfl rfl ?_
      refine ra_load rfl rfl rfl rfl ?_
      refine ra_aaload rfl (sh_D2 hD) rfl (by decide) (by first | omega | (unfold ra_in at *; omega)) (by first | omega | (unfold ra_in at *; omega)) (sh_pt (by first | omega | (unfold ra_in at *; omega)) (by first | omega | (unfold ra_in at *; omega))) rfl ?_
      have hi2 : v8.toNat < 8 := (by first | omega | (unfold ra_in at *; omega))
      refine ra_store (L' := [_, _, _, _, _, _, _, _, _, _]) rfl rfl rfl (Nat.le_of_ble_eq_true rfl) rfl ?_
      refine ra_load rfl rfl rfl rfl ?_
      refine ra_load rfl rfl rfl rfl ?_
      refine ra_load rfl rfl rfl rfl ?_
      refine ra_cBp (sp_95 hD hi2 hx0 hx1) rfl (ct_95 rfl lk_0_106 (Or.inl rfl) (sh_P hD hi2) (Nat.le_of_ble_eq_true rfl)) (fun z4 hz4 => ?_)
      refine ra_ifeq rfl rfl (ra_in01 hz4) (fun h5 => ?_) (fun h5 => ?_)
      · refine ra_iinc (L' := [_, _, _, _, _, _, _, _, _, _]) rfl rfl (Nat.le_of_ble_eq_true rfl) rfl ?_
        refine ra_goto rfl rfl ?_
        exact ra_weak (by repeat' constructor) (ih v5 (v8 + 1) hv5 (by first | omega | (unfold ra_in at *; omega)) (by first | omega | (unfold ra_in at *; omega)) (by first | omega | (unfold ra_in at *; omega)))
      · refine ra_load rfl rfl rfl rfl ?_
        refine ra_iconst rfl ?_
        refine ra_load rfl rfl rfl rfl ?_
        refine ra_getK rfl lk_0_91 (Nat.zero_le _) (sh_P hD hi2) rfl ?_
        refine ra_ishl rfl ?_
        refine ra_gen (fun z6 hz6 => ?_)
        refine ra_ior rfl ?_
        refine ra_gen (fun z7 hz7 => ?_)
        refine ra_store (L' := [_, _, _, _, _, _, _, _, _, _]) rfl rfl rfl (Nat.le_of_ble_eq_true rfl) rfl ?_
        refine ra_iinc (L' := [_, _, _, _, _, _, _, _, _, _]) rfl rfl (Nat.le_of_ble_eq_true rfl) rfl ?_
        refine ra_goto rfl rfl ?_
        exact ra_weak (by repeat' constructor) (ih z7 (v8 + 1) hz7 (by first | omega | (unfold ra_in at *; omega)) (by first | omega | (unfold ra_in at *; omega)) (by first | omega | (unfold ra_in at *; omega)))
theorem sp_12 {n : Nat} {f : Nat → Int32} {d : Nat} {D : Nat} {x0 : Int} {x1 : Int} {σ : ra_V} (hD : isD D) (hx0 : ra_in x0) (hx1 : ra_in x1) : ra_C (g_Gs n f) g_sh 0 (d + 2) 12 [.index (D), ra_J x0, ra_J x1] σ (fun r s => rI r ∧ s = σ) := by
  refine ra_enter (nn := 5) mt_12 rfl (Nat.le_of_ble_eq_true rfl) rfl (fun h => absurd h (by decide +kernel)) ?_
  refine ra_iconst rfl ?_
  refine ra_store (L' := [_, _, _, _, _, _, _, _, _, _]) rfl rfl rfl (Nat.le_of_ble_eq_true rfl) rfl ?_
  refine ra_load rfl rfl rfl rfl ?_
  refine ra_getR rfl lk_0_17 (Nat.zero_le _) (sh_D hD) rfl ?_
  refine ra_store (L' := [_, _, _, _, _, _, _, _, _, _]) rfl rfl rfl (Nat.le_of_ble_eq_true rfl) rfl ?_
  refine ra_load rfl rfl rfl rfl ?_
  refine ra_alen rfl (sh_D2 hD) rfl ?_
  refine ra_store (L' := [_, _, _, _, _, _, _, _, _, _]) rfl rfl rfl (Nat.le_of_ble_eq_true rfl) rfl ?_
  refine ra_iconst rfl ?_
  refine ra_store (L' := [_, _, _, _, _, _, _, _, _, _]) rfl rfl rfl (Nat.le_of_ble_eq_true rfl) rfl ?_
  exact ra_weak (by repeat' constructor) (lp_12_17 hD hx0 hx1 _ (0) (0) (by first | omega | (unfold ra_in at *; omega)) (by first | omega | (unfold ra_in at *; omega)) (by first | omega | (unfold ra_in at *; omega)) (Nat.lt_succ_self _))
theorem sp_13 {n : Nat} {f : Nat → Int32} {d : Nat} {D : Nat} {i0 : Nat} {x1 : Int} {x2 : Int} {σ : ra_V} (hD : isD D) (hi0 : i0 < 8) (hx1 : ra_in x1) (hx2 : ra_in x2) : ra_C (g_Gs n f) g_sh 0 (d + 3) 13 [.index (D), .index (D + 5 + i0), ra_I x1, ra_I x2] σ (fun r s => rI r ∧ s = σ) := by
  refine ra_enter (nn := 0) mt_13 rfl (Nat.le_of_ble_eq_true rfl) rfl (fun h => absurd h (by decide +kernel)) ?_
  refine ra_load rfl rfl rfl rfl ?_
  refine ra_load rfl rfl rfl rfl ?_
  refine ra_i2l rfl hx1 ?_
  refine ra_load rfl rfl rfl rfl ?_
  refine ra_i2l rfl hx2 ?_
  refine ra_cIp (sp_12 hD hx1 hx2) rfl (ct_12 rfl lk_0_110 (Or.inl rfl) (sh_D hD) (Nat.le_of_ble_eq_true rfl)) (fun z2 hz2 => ?_)
  refine ra_iconst rfl ?_
  refine ra_load rfl rfl rfl rfl ?_
  refine ra_getK rfl lk_0_91 (Nat.zero_le _) (sh_P hD hi0) rfl ?_
  refine ra_ishl rfl ?_
  refine ra_gen (fun z3 hz3 => ?_)
  refine ra_iconst rfl ?_
  refine ra_ixor rfl ?_
  refine ra_gen (fun z4 hz4 => ?_)
  refine ra_iand rfl ?_
  refine ra_gen (fun z5 hz5 => ?_)
  exact ra_ireturn rfl rfl ⟨⟨_, hz5, rfl⟩, rfl⟩
theorem lp_14_11 {n : Nat} {f : Nat → Int32} {d : Nat} {D : Nat} {x0 : Int} {σ : ra_V} (hD : isD D) (hx0 : ra_in x0) : ∀ (nn : Nat) (v4 : Int) (hv4_0 : 0 ≤ v4) (hv4_1 : v4 ≤ 8) (hm : ((8 - v4 : Int)).toNat < nn), ra_P (g_Gs n f) g_sh 0 (d + 3) g_m_X0_endOfTaken 11 [some (.index (D)), some (ra_I x0), some (.index (D + 2)), some (ra_I ((8 : Nat) : Int)), some (ra_I v4), none] [] σ (fun r s => rI r ∧ s = σ) := by
  intro nn
  induction nn with
  | zero => intro v4 hv4_0 hv4_1 hm; exact absurd hm (Nat.not_lt_zero _)
  | succ nn ih =>
    intro v4 hv4_0 hv4_1 hm
    refine ra_load rfl rfl rfl rfl ?_
    refine ra_load rfl rfl rfl rfl ?_
    refine ra_icge rfl rfl (by first | omega | (unfold ra_in at *; omega)) (by first | omega | (unfold ra_in at *; omega)) (fun h1 => ?_) (fun h1 => ?_)
    · refine ra_load rfl rfl rfl rfl ?_
      refine ra_getR rfl lk_0_24 (Nat.zero_le _) (sh_D hD) rfl ?_
      refine ra_load rfl rfl rfl rfl ?_
      refine ra_cIp (sp_82 hD hx0) rfl (ct_82 rfl lk_0_117 (Or.inl rfl) (sh_D3 hD) (Nat.le_of_ble_eq_true rfl)) (fun z3 hz3 => ?_)
      exact ra_ireturn rfl rfl ⟨⟨_, hz3, rfl⟩, rfl⟩
    · refine ra_load rfl rfl rfl rfl ?_
      refine ra_load rfl rfl rfl rfl ?_
      refine ra_aaload rfl (sh_D2 hD) rfl (by decide) (by first | omega | (unfold ra_in at *; omega)) (by first | omega | (unfold ra_in at *; omega)) (sh_pt (by first | omega | (unfold ra_in at *; omega)) (by first | omega | (unfold ra_in at *; omega))) rfl ?_
      have hi4 : v4.toNat < 8 := (by first | omega | (unfold ra_in at *; omega))
      refine ra_store (L' := [_, _, _, _, _, _]) rfl rfl rfl (Nat.le_of_ble_eq_true rfl) rfl ?_
      refine ra_load rfl rfl rfl rfl ?_
      refine ra_load rfl rfl rfl rfl ?_
      refine ra_i2l rfl hx0 ?_
      refine ra_lconst1 rfl ?_
      refine ra_cBp (sp_95 hD hi4 hx0 (by first | omega | (unfold ra_in at *; omega))) rfl (ct_95 rfl lk_0_106 (Or.inl rfl) (sh_P hD hi4) (Nat.le_of_ble_eq_true rfl)) (fun z6 hz6 => ?_)
      refine ra_ifeq rfl rfl (ra_in01 hz6) (fun h7 => ?_) (fun h7 => ?_)
      · refine ra_iinc (L' := [_, _, _, _, _, _]) rfl rfl (Nat.le_of_ble_eq_true rfl) rfl ?_
        refine ra_goto rfl rfl ?_
        exact ra_weak (by repeat' constructor) (ih (v4 + 1) (by first | omega | (unfold ra_in at *; omega)) (by first | omega | (unfold ra_in at *; omega)) (by first | omega | (unfold ra_in at *; omega)))
      · refine ra_load rfl rfl rfl rfl ?_
        refine ra_cIp (sp_93 hD hi4) rfl (ct_93 rfl lk_0_114 (Or.inl rfl) (sh_P hD hi4) (Nat.le_of_ble_eq_true rfl)) (fun z9 hz9 => ?_)
        exact ra_ireturn rfl rfl ⟨⟨_, hz9, rfl⟩, rfl⟩
theorem sp_14 {n : Nat} {f : Nat → Int32} {d : Nat} {D : Nat} {x0 : Int} {σ : ra_V} (hD : isD D) (hx0 : ra_in x0) : ra_C (g_Gs n f) g_sh 0 (d + 4) 14 [.index (D), ra_I x0] σ (fun r s => rI r ∧ s = σ) := by
  refine ra_enter (nn := 4) mt_14 rfl (Nat.le_of_ble_eq_true rfl) rfl (fun h => absurd h (by decide +kernel)) ?_
  refine ra_load rfl rfl rfl rfl ?_
  refine ra_getR rfl lk_0_17 (Nat.zero_le _) (sh_D hD) rfl ?_
  refine ra_store (L' := [_, _, _, _, _, _]) rfl rfl rfl (Nat.le_of_ble_eq_true rfl) rfl ?_
  refine ra_load rfl rfl rfl rfl ?_
  refine ra_alen rfl (sh_D2 hD) rfl ?_
  refine ra_store (L' := [_, _, _, _, _, _]) rfl rfl rfl (Nat.le_of_ble_eq_true rfl) rfl ?_
  refine ra_iconst rfl ?_
  refine ra_store (L' := [_, _, _, _, _, _]) rfl rfl rfl (Nat.le_of_ble_eq_true rfl) rfl ?_
  exact ra_weak (by repeat' constructor) (lp_14_11 hD hx0 _ (0) (by first | omega | (unfold ra_in at *; omega)) (by first | omega | (unfold ra_in at *; omega)) (Nat.lt_succ_self _))
theorem sp_15 {n : Nat} {f : Nat → Int32} {d : Nat} {D : Nat} {x0 : Int} {σ : ra_V} (hD : isD D) (hx0 : ra_in x0) : ra_C (g_Gs n f) g_sh 0 (d + 3) 15 [.index (D), ra_I x0] σ (fun r s => rI r ∧ s = σ) := by
  refine ra_enter (nn := 2) mt_15 rfl (Nat.le_of_ble_eq_true rfl) rfl (fun h => absurd h (by decide +kernel)) ?_
  refine ra_load rfl rfl rfl rfl ?_
  refine ra_getR rfl lk_0_24 (Nat.zero_le _) (sh_D hD) rfl ?_
  refine ra_load rfl rfl rfl rfl ?_
  refine ra_load rfl rfl rfl rfl ?_
  refine ra_cIp (sp_9 hD) rfl (ct_9 rfl lk_0_102 (Or.inl rfl) (sh_D hD) (Nat.le_of_ble_eq_true rfl)) (fun z2 hz2 => ?_)
  refine ra_cIp (sp_83 hD hx0 hz2) rfl (ct_83 rfl lk_0_121 (Or.inl rfl) (sh_D3 hD) (Nat.le_of_ble_eq_true rfl)) (fun z4 hz4 => ?_)
  refine ra_store (L' := [_, _, _, _]) rfl rfl rfl (Nat.le_of_ble_eq_true rfl) rfl ?_
  refine ra_load rfl rfl rfl rfl ?_
  refine ra_load rfl rfl rfl rfl ?_
  refine ra_cPp (sp_6 hD hx0) rfl (ct_6 rfl lk_0_125 (Or.inl rfl) (sh_D hD) (Nat.le_of_ble_eq_true rfl)) ?_ (fun j6 hj6 => ?_)
  · refine ra_store (L' := [_, _, _, _]) rfl rfl rfl (Nat.le_of_ble_eq_true rfl) rfl ?_
    refine ra_load rfl rfl rfl rfl ?_
    refine ra_nnullF rfl rfl ?_
    refine ra_load rfl rfl rfl rfl ?_
    refine ra_goto rfl rfl ?_
    exact ra_ireturn rfl rfl ⟨⟨_, hz4, rfl⟩, rfl⟩
  · refine ra_store (L' := [_, _, _, _]) rfl rfl rfl (Nat.le_of_ble_eq_true rfl) rfl ?_
    refine ra_load rfl rfl rfl rfl ?_
    refine ra_nnullT rfl rfl ?_
    refine ra_load rfl rfl rfl rfl ?_
    refine ra_load rfl rfl rfl rfl ?_
    refine ra_getI rfl lk_0_85 (Nat.zero_le _) (sh_P hD hj6) rfl ?_
    refine ra_gen (fun z7 hz7 => ?_)
    refine ra_min rfl lk_0_129 hz4 hz7 (Nat.le_of_ble_eq_true rfl) ?_
    refine ra_gen (fun z8 hz8 => ?_)
    exact ra_ireturn rfl rfl ⟨⟨_, hz8, rfl⟩, rfl⟩
theorem sp_16 {n : Nat} {f : Nat → Int32} {d : Nat} {D : Nat} {x0 : Int} {x1 : Int} {σ : ra_V} (hD : isD D) (hx0 : ra_in x0) (hx1 : ra_in x1) : ra_C (g_Gs n f) g_sh 0 (d + 3) 16 [.index (D), ra_I x0, ra_I x1] σ (fun r s => rI r ∧ s = σ) := by
  refine ra_enter (nn := 0) mt_16 rfl (Nat.le_of_ble_eq_true rfl) rfl (fun h => absurd h (by decide +kernel)) ?_
  refine ra_load rfl rfl rfl rfl ?_
  refine ra_load rfl rfl rfl rfl ?_
  refine ra_i2l rfl hx0 ?_
  refine ra_load rfl rfl rfl rfl ?_
  refine ra_i2l rfl hx1 ?_
  refine ra_cBp (sp_10 hD hx0 hx1) rfl (ct_10 rfl lk_0_134 (Or.inl rfl) (sh_D hD) (Nat.le_of_ble_eq_true rfl)) (fun z2 hz2 => ?_)
  refine ra_ifne rfl rfl (ra_in01 hz2) (fun h3 => ?_) (fun h3 => ?_)
  · refine ra_load rfl rfl rfl rfl ?_
    refine ra_load rfl rfl rfl rfl ?_
    refine ra_cBp (sp_11 hD hx0) rfl (ct_11 rfl lk_0_137 (Or.inl rfl) (sh_D hD) (Nat.le_of_ble_eq_true rfl)) (fun z5 hz5 => ?_)
    refine ra_ifne rfl rfl (ra_in01 hz5) (fun h6 => ?_) (fun h6 => ?_)
    · refine ra_load rfl rfl rfl rfl ?_
      refine ra_load rfl rfl rfl rfl ?_
      refine ra_i2l rfl hx0 ?_
      refine ra_load rfl rfl rfl rfl ?_
      refine ra_i2l rfl hx1 ?_
      refine ra_cIp (sp_12 hD hx0 hx1) rfl (ct_12 rfl lk_0_110 (Or.inl rfl) (sh_D hD) (Nat.le_of_ble_eq_true rfl)) (fun z8 hz8 => ?_)
      refine ra_ifeq rfl rfl hz8 (fun h9 => ?_) (fun h9 => ?_)
      · refine ra_load rfl rfl rfl rfl ?_
        refine ra_getR rfl lk_0_24 (Nat.zero_le _) (sh_D hD) rfl ?_
        refine ra_load rfl rfl rfl rfl ?_
        refine ra_i2l rfl hx0 ?_
        refine ra_load rfl rfl rfl rfl ?_
        refine ra_i2l rfl hx1 ?_
        refine ra_cBp (sp_81 hD hx0 hx1) rfl (ct_81 rfl lk_0_141 (Or.inl rfl) (sh_D3 hD) (Nat.le_of_ble_eq_true rfl)) (fun z11 hz11 => ?_)
        refine ra_ifeq rfl rfl (ra_in01 hz11) (fun h12 => ?_) (fun h12 => ?_)
        · refine ra_iconst rfl ?_
          exact ra_ireturn rfl rfl ⟨⟨_, (by first | omega | (unfold ra_in at *; omega)), rfl⟩, rfl⟩
        · refine ra_iconst rfl ?_
          refine ra_goto rfl rfl ?_
          exact ra_ireturn rfl rfl ⟨⟨_, (by first | omega | (unfold ra_in at *; omega)), rfl⟩, rfl⟩
      · refine ra_iconst rfl ?_
        exact ra_ireturn rfl rfl ⟨⟨_, (by first | omega | (unfold ra_in at *; omega)), rfl⟩, rfl⟩
    · refine ra_iconst rfl ?_
      exact ra_ireturn rfl rfl ⟨⟨_, (by first | omega | (unfold ra_in at *; omega)), rfl⟩, rfl⟩
  · refine ra_iconst rfl ?_
    exact ra_ireturn rfl rfl ⟨⟨_, (by first | omega | (unfold ra_in at *; omega)), rfl⟩, rfl⟩
theorem sp_18 {n : Nat} {f : Nat → Int32} {d : Nat} {D : Nat} {i0 : Nat} {x1 : Int} {σ : ra_V} (hD : isD D) (hi0 : i0 < 8) (hx1 : ra_in x1) : ra_C (g_Gs n f) g_sh 0 (d + 4) 18 [.index (D), .index (D + 5 + i0), ra_I x1] σ (fun r s => rI r ∧ s = σ) := by
  refine ra_enter (nn := 0) mt_18 rfl (Nat.le_of_ble_eq_true rfl) rfl (fun h => absurd h (by decide +kernel)) ?_
  refine ra_load rfl rfl rfl rfl ?_
  refine ra_load rfl rfl rfl rfl ?_
  refine ra_getI rfl lk_0_148 (Nat.zero_le _) (sh_P hD hi0) rfl ?_
  refine ra_gen (fun z1 hz1 => ?_)
  refine ra_icge rfl rfl hx1 hz1 (fun h2 => ?_) (fun h2 => ?_)
  · refine ra_load rfl rfl rfl rfl ?_
    refine ra_load rfl rfl rfl rfl ?_
    refine ra_getI rfl lk_0_85 (Nat.zero_le _) (sh_P hD hi0) rfl ?_
    refine ra_gen (fun z3 hz3 => ?_)
    refine ra_i2l rfl hz3 ?_
    refine ra_load rfl rfl rfl rfl ?_
    refine ra_i2l rfl hx1 ?_
    refine ra_cBp (sp_10 hD hz3 hx1) rfl (ct_10 rfl lk_0_134 (Or.inl rfl) (sh_D hD) (Nat.le_of_ble_eq_true rfl)) (fun z5 hz5 => ?_)
    refine ra_ifne rfl rfl (ra_in01 hz5) (fun h6 => ?_) (fun h6 => ?_)
    · refine ra_load rfl rfl rfl rfl ?_
      refine ra_load rfl rfl rfl rfl ?_
      refine ra_load rfl rfl rfl rfl ?_
      refine ra_getI rfl lk_0_85 (Nat.zero_le _) (sh_P hD hi0) rfl ?_
      refine ra_gen (fun z7 hz7 => ?_)
      refine ra_load rfl rfl rfl rfl ?_
      refine ra_cIp (sp_13 hD hi0 hz7 hx1) rfl (ct_13 rfl lk_0_151 (Or.inl rfl) (sh_D hD) (Nat.le_of_ble_eq_true rfl)) (fun z9 hz9 => ?_)
      refine ra_ifeq rfl rfl hz9 (fun h10 => ?_) (fun h10 => ?_)
      · refine ra_load rfl rfl rfl rfl ?_
        refine ra_load rfl rfl rfl rfl ?_
        refine ra_getI rfl lk_0_65 (Nat.zero_le _) (sh_P hD hi0) rfl ?_
        refine ra_gen (fun z11 hz11 => ?_)
        refine ra_icle rfl rfl hx1 hz11 (fun h12 => ?_) (fun h12 => ?_)
        · refine ra_iconst rfl ?_
          exact ra_ireturn rfl rfl ⟨⟨_, (by first | omega | (unfold ra_in at *; omega)), rfl⟩, rfl⟩
        · refine ra_load rfl rfl rfl rfl ?_
          refine ra_getR rfl lk_0_24 (Nat.zero_le _) (sh_D hD) rfl ?_
          refine ra_load rfl rfl rfl rfl ?_
          refine ra_cIp (sp_93 hD hi0) rfl (ct_93 rfl lk_0_114 (Or.inl rfl) (sh_P hD hi0) (Nat.le_of_ble_eq_true rfl)) (fun z14 hz14 => ?_)
          refine ra_i2l rfl hz14 ?_
          refine ra_load rfl rfl rfl rfl ?_
          refine ra_load rfl rfl rfl rfl ?_
          refine ra_getI rfl lk_0_65 (Nat.zero_le _) (sh_P hD hi0) rfl ?_
          refine ra_gen (fun z15 hz15 => ?_)
          refine ra_isub rfl ?_
          refine ra_gen (fun z16 hz16 => ?_)
          refine ra_i2l rfl hz16 ?_
          refine ra_cBp (sp_81 hD hz14 hz16) rfl (ct_81 rfl lk_0_141 (Or.inl rfl) (sh_D3 hD) (Nat.le_of_ble_eq_true rfl)) (fun z18 hz18 => ?_)
          refine ra_ifeq rfl rfl (ra_in01 hz18) (fun h19 => ?_) (fun h19 => ?_)
          · refine ra_iconst rfl ?_
            exact ra_ireturn rfl rfl ⟨⟨_, (by first | omega | (unfold ra_in at *; omega)), rfl⟩, rfl⟩
          · refine ra_bipush rfl (by decide) ?_
            refine ra_goto rfl rfl ?_
            exact ra_ireturn rfl rfl ⟨⟨_, (by first | omega | (unfold ra_in at *; omega)), rfl⟩, rfl⟩
      · refine ra_iconst rfl ?_
        exact ra_ireturn rfl rfl ⟨⟨_, (by first | omega | (unfold ra_in at *; omega)), rfl⟩, rfl⟩
    · refine ra_iconst rfl ?_
      exact ra_ireturn rfl rfl ⟨⟨_, (by first | omega | (unfold ra_in at *; omega)), rfl⟩, rfl⟩
  · refine ra_iconst rfl ?_
    exact ra_ireturn rfl rfl ⟨⟨_, (by first | omega | (unfold ra_in at *; omega)), rfl⟩, rfl⟩
theorem sp_17 {n : Nat} {f : Nat → Int32} {d : Nat} {D : Nat} {i0 : Nat} {x1 : Int} {σ : ra_V} (hD : isD D) (hi0 : i0 < 8) (hx1 : ra_in x1) : ra_C (g_Gs n f) g_sh 0 (d + 5) 17 [.index (D), .index (D + 5 + i0), ra_I x1] σ (fun r s => rI r ∧ s = σ) := by
  refine ra_enter (nn := 0) mt_17 rfl (Nat.le_of_ble_eq_true rfl) rfl (fun h => absurd h (by decide +kernel)) ?_
  refine ra_load rfl rfl rfl rfl ?_
  refine ra_getBw rfl lk_0_94 (Nat.zero_le _) (sh_P hD hi0) rfl (fun z1 hz1 => ?_)
  refine ra_ifeq rfl rfl (ra_in01 hz1) (fun h2 => ?_) (fun h2 => ?_)
  · refine ra_load rfl rfl rfl rfl ?_
    refine ra_load rfl rfl rfl rfl ?_
    refine ra_cBp (sp_7 hD hi0) rfl (ct_7 rfl lk_0_98 (Or.inl rfl) (sh_D hD) (Nat.le_of_ble_eq_true rfl)) (fun z4 hz4 => ?_)
    refine ra_ifeq rfl rfl (ra_in01 hz4) (fun h5 => ?_) (fun h5 => ?_)
    · refine ra_load rfl rfl rfl rfl ?_
      refine ra_load rfl rfl rfl rfl ?_
      refine ra_load rfl rfl rfl rfl ?_
      refine ra_cIp (sp_18 hD hi0 hx1) rfl (ct_18 rfl lk_0_144 (Or.inl rfl) (sh_D hD) (Nat.le_of_ble_eq_true rfl)) (fun z7 hz7 => ?_)
      exact ra_ireturn rfl rfl ⟨⟨_, hz7, rfl⟩, rfl⟩
    · refine ra_iconst rfl ?_
      refine ra_goto rfl rfl ?_
      exact ra_ireturn rfl rfl ⟨⟨_, (by first | omega | (unfold ra_in at *; omega)), rfl⟩, rfl⟩
  · refine ra_iconst rfl ?_
    exact ra_ireturn rfl rfl ⟨⟨_, (by first | omega | (unfold ra_in at *; omega)), rfl⟩, rfl⟩
theorem lp_22_14 {n : Nat} {f : Nat → Int32} {d : Nat} {D : Nat} {i0 : Nat} {x1 : Int} {x2 : Int} {x3 : Int} {σ : ra_V} (hD : isD D) (hi0 : i0 < 8) (hx1 : ra_in x1) (hx2 : ra_in x2) (hx3 : ra_in x3) : ∀ (nn : Nat) (v7 : Int) (hv7_0 : 0 ≤ v7) (hv7_1 : v7 ≤ 8) (hm : ((8 - v7 : Int)).toNat < nn), ra_P (g_Gs n f) g_sh 0 (d + 1) g_m_X0_startInTheWay 14 [none, some (.index (D + 5 + i0)), some (ra_I x1), some (ra_I x2), some (ra_I x3), some (.index (D + 2)), some (ra_I ((8 : Nat) : Int)), some (ra_I v7), none] [] σ (fun r s => rI r ∧ s = σ) := by
  intro nn
  induction nn with
  | zero => intro v7 hv7_0 hv7_1 hm; exact absurd hm (Nat.not_lt_zero _)
  | succ nn ih =>
    intro v7 hv7_0 hv7_1 hm
    refine ra_load rfl rfl rfl rfl ?_
    refine ra_load rfl rfl rfl rfl ?_
    refine ra_icge rfl rfl (by first | omega | (unfold ra_in at *; omega)) (by first | omega | (unfold ra_in at *; omega)) (fun h1 => ?_) (fun h1 => ?_)
    · refine ra_load rfl rfl rfl rfl ?_
      refine ra_i2l rfl hx1 ?_
      refine ra_load rfl rfl rfl rfl ?_
      refine ra_getI rfl lk_0_65 (Nat.zero_le _) (sh_P hD hi0) rfl ?_
      refine ra_gen (fun z2 hz2 => ?_)
      refine ra_i2l rfl hz2 ?_
      refine ra_load rfl rfl rfl rfl ?_
      refine ra_i2l rfl hx2 ?_
      refine ra_load rfl rfl rfl rfl ?_
      refine ra_i2l rfl hx3 ?_
      refine ra_cBp (sp_185 hx1 hz2 hx2 hx3) rfl (ct_185 rfl lk_0_172 (Or.inr ⟨rfl, rfl⟩) (Nat.le_of_ble_eq_true rfl)) (fun z4 hz4 => ?_)
      refine ra_ifeq rfl rfl (ra_in01 hz4) (fun h5 => ?_) (fun h5 => ?_)
      · refine ra_iconst rfl ?_
        exact ra_ireturn rfl rfl ⟨⟨_, (by first | omega | (unfold ra_in at *; omega)), rfl⟩, rfl⟩
      · refine ra_load rfl rfl rfl rfl ?_
        refine ra_goto rfl rfl ?_
        exact ra_ireturn rfl rfl ⟨⟨_, hx1, rfl⟩, rfl⟩
    · refine ra_load rfl rfl rfl rfl ?_
      refine ra_load rfl rfl rfl rfl ?_
      refine ra_aaload rfl (sh_D2 hD) rfl (by decide) (by first | omega | (unfold ra_in at *; omega)) (by first | omega | (unfold ra_in at *; omega)) (sh_pt (by first | omega | (unfold ra_in at *; omega)) (by first | omega | (unfold ra_in at *; omega))) rfl ?_
      have hi6 : v7.toNat < 8 := (by first | omega | (unfold ra_in at *; omega))
      refine ra_store (L' := [_, _, _, _, _, _, _, _, _]) rfl rfl rfl (Nat.le_of_ble_eq_true rfl) rfl ?_
      refine ra_load rfl rfl rfl rfl ?_
      refine ra_load rfl rfl rfl rfl ?_
      refine ra_i2l rfl hx2 ?_
      refine ra_load rfl rfl rfl rfl ?_
      refine ra_i2l rfl hx3 ?_
      refine ra_cBp (sp_95 hD hi6 hx2 hx3) rfl (ct_95 rfl lk_0_106 (Or.inl rfl) (sh_P hD hi6) (Nat.le_of_ble_eq_true rfl)) (fun z8 hz8 => ?_)
      refine ra_ifeq rfl rfl (ra_in01 hz8) (fun h9 => ?_) (fun h9 => ?_)
      · refine ra_iinc (L' := [_, _, _, _, _, _, _, _, _]) rfl rfl (Nat.le_of_ble_eq_true rfl) rfl ?_
        refine ra_goto rfl rfl ?_
        exact ra_weak (by repeat' constructor) (ih (v7 + 1) (by first | omega | (unfold ra_in at *; omega)) (by first | omega | (unfold ra_in at *; omega)) (by first | omega | (unfold ra_in at *; omega)))
      · refine ra_load rfl rfl rfl rfl ?_
        refine ra_getI rfl lk_0_85 (Nat.zero_le _) (sh_P hD hi6) rfl ?_
        refine ra_gen (fun z10 hz10 => ?_)
        exact ra_ireturn rfl rfl ⟨⟨_, hz10, rfl⟩, rfl⟩
theorem sp_22 {n : Nat} {f : Nat → Int32} {d : Nat} {D : Nat} {i0 : Nat} {x1 : Int} {x2 : Int} {x3 : Int} {σ : ra_V} (hD : isD D) (hi0 : i0 < 8) (hx1 : ra_in x1) (hx2 : ra_in x2) (hx3 : ra_in x3) : ra_C (g_Gs n f) g_sh 0 (d + 2) 22 [.index (D), .index (D + 5 + i0), ra_I x1, ra_I x2, ra_I x3] σ (fun r s => rI r ∧ s = σ) := by
  refine ra_enter (nn := 4) mt_22 rfl (Nat.le_of_ble_eq_true rfl) rfl (fun h => absurd h (by decide +kernel)) ?_
  refine ra_load rfl rfl rfl rfl ?_
  refine ra_getR rfl lk_0_17 (Nat.zero_le _) (sh_D hD) rfl ?_
  refine ra_store (L' := [_, _, _, _, _, _, _, _, _]) rfl rfl rfl (Nat.le_of_ble_eq_true rfl) rfl ?_
  refine ra_load rfl rfl rfl rfl ?_
  refine ra_alen rfl (sh_D2 hD) rfl ?_
  refine ra_store (L' := [_, _, _, _, _, _, _, _, _]) rfl rfl rfl (Nat.le_of_ble_eq_true rfl) rfl ?_
  refine ra_iconst rfl ?_
  refine ra_store (L' := [_, _, _, _, _, _, _, _, _]) rfl rfl rfl (Nat.le_of_ble_eq_true rfl) rfl ?_
  exact ra_weak (by repeat' constructor) (lp_22_14 hD hi0 hx1 hx2 hx3 _ (0) (by first | omega | (unfold ra_in at *; omega)) (by first | omega | (unfold ra_in at *; omega)) (Nat.lt_succ_self _))
theorem lp_21_22 {n : Nat} {f : Nat → Int32} {d : Nat} {D : Nat} {i0 : Nat} {x1 : Int} {x2 : Int} {σ : ra_V} (hD : isD D) (hi0 : i0 < 8) (hx1 : ra_in x1) (hx2 : ra_in x2) : ∀ (nn : Nat) (v4 : Int) (v5 : Int) (v6 : Int) (hv4 : ra_in v4) (hv5 : ra_in v5) (hv6_0 : 0 ≤ v6) (hv6_1 : v6 ≤ 600) (hm : ((600 - v6 : Int)).toNat < nn), ra_P (g_Gs n f) g_sh 0 (d + 2) g_m_X0_scratchFor 22 [some (.index (D)), some (.index (D + 5 + i0)), some (ra_I x1), none, some (ra_I v4), some (ra_I v5), some (ra_I v6), none] [] σ (fun r s => rI r ∧ s = σ) := by
  intro nn
  induction nn with
  | zero => intro v4 v5 v6 hv4 hv5 hv6_0 hv6_1 hm; exact absurd hm (Nat.not_lt_zero _)
  | succ nn ih =>
    intro v4 v5 v6 hv4 hv5 hv6_0 hv6_1 hm
    refine ra_load rfl rfl rfl rfl ?_
    refine ra_sipush rfl (by decide) ?_
    refine ra_icge rfl rfl (by first | omega | (unfold ra_in at *; omega)) (by first | omega | (unfold ra_in at *; omega)) (fun h6 => ?_) (fun h6 => ?_)
    · refine ra_iconst rfl ?_
      exact ra_ireturn rfl rfl ⟨⟨_, (by first | omega | (unfold ra_in at *; omega)), rfl⟩, rfl⟩
    · refine ra_load rfl rfl rfl rfl ?_
      refine ra_load rfl rfl rfl rfl ?_
      refine ra_getI rfl lk_0_38 (Nat.zero_le _) (sh_D hD) rfl ?_
      refine ra_gen (fun z7 hz7 => ?_)
      refine ra_iclt rfl rfl hv5 hz7 (fun h8 => ?_) (fun h8 => ?_)
      · refine ra_iconst rfl ?_
        exact ra_ireturn rfl rfl ⟨⟨_, (by first | omega | (unfold ra_in at *; omega)), rfl⟩, rfl⟩
      · refine ra_load rfl rfl rfl rfl ?_
        refine ra_load rfl rfl rfl rfl ?_
        refine ra_load rfl rfl rfl rfl ?_
        refine ra_load rfl rfl rfl rfl ?_
        refine ra_load rfl rfl rfl rfl ?_
        refine ra_cIp (sp_22 hD hi0 hx1 hv5 hv4) rfl (ct_22 rfl lk_0_168 (Or.inl rfl) (sh_D hD) (Nat.le_of_ble_eq_true rfl)) (fun z10 hz10 => ?_)
        refine ra_store (L' := [_, _, _, _, _, _, _, _]) rfl rfl rfl (Nat.le_of_ble_eq_true rfl) rfl ?_
        refine ra_load rfl rfl rfl rfl ?_
        refine ra_iconst rfl ?_
        refine ra_icne rfl rfl hz10 (by first | omega | (unfold ra_in at *; omega)) (fun h11 => ?_) (fun h11 => ?_)
        · refine ra_load rfl rfl rfl rfl ?_
          refine ra_load rfl rfl rfl rfl ?_
          refine ra_isub rfl ?_
          refine ra_gen (fun z12 hz12 => ?_)
          refine ra_store (L' := [_, _, _, _, _, _, _, _]) rfl rfl rfl (Nat.le_of_ble_eq_true rfl) rfl ?_
          refine ra_iinc (L' := [_, _, _, _, _, _, _, _]) rfl rfl (Nat.le_of_ble_eq_true rfl) rfl ?_
          refine ra_goto rfl rfl ?_
          exact ra_weak (by repeat' constructor) (ih v4 z12 (v6 + 1) hv4 hz12 (by first | omega | (unfold ra_in at *; omega)) (by first | omega | (unfold ra_in at *; omega)) (by first | omega | (unfold ra_in at *; omega)))
        · refine ra_load rfl rfl rfl rfl ?_
          exact ra_ireturn rfl rfl ⟨⟨_, hv5, rfl⟩, rfl⟩
theorem sp_21 {n : Nat} {f : Nat → Int32} {d : Nat} {D : Nat} {i0 : Nat} {x1 : Int} {x2 : Int} {σ : ra_V} (hD : isD D) (hi0 : i0 < 8) (hx1 : ra_in x1) (hx2 : ra_in x2) : ra_C (g_Gs n f) g_sh 0 (d + 3) 21 [.index (D), .index (D + 5 + i0), ra_I x1, ra_I x2] σ (fun r s => rI r ∧ s = σ) := by
  refine ra_enter (nn := 4) mt_21 rfl (Nat.le_of_ble_eq_true rfl) rfl (fun h => absurd h (by decide +kernel)) ?_
  refine ra_load rfl rfl rfl rfl ?_
  refine ra_load rfl rfl rfl rfl ?_
  refine ra_getI rfl lk_0_65 (Nat.zero_le _) (sh_P hD hi0) rfl ?_
  refine ra_gen (fun z1 hz1 => ?_)
  refine ra_min rfl lk_0_129 hx2 hz1 (Nat.le_of_ble_eq_true rfl) ?_
  refine ra_gen (fun z2 hz2 => ?_)
  refine ra_store (L' := [_, _, _, _, _, _, _, _]) rfl rfl rfl (Nat.le_of_ble_eq_true rfl) rfl ?_
  refine ra_load rfl rfl rfl rfl ?_
  refine ra_cIp (sp_9 hD) rfl (ct_9 rfl lk_0_102 (Or.inl rfl) (sh_D hD) (Nat.le_of_ble_eq_true rfl)) (fun z4 hz4 => ?_)
  refine ra_load rfl rfl rfl rfl ?_
  refine ra_isub rfl ?_
  refine ra_gen (fun z5 hz5 => ?_)
  refine ra_store (L' := [_, _, _, _, _, _, _, _]) rfl rfl rfl (Nat.le_of_ble_eq_true rfl) rfl ?_
  refine ra_iconst rfl ?_
  refine ra_store (L' := [_, _, _, _, _, _, _, _]) rfl rfl rfl (Nat.le_of_ble_eq_true rfl) rfl ?_
  exact ra_weak (by repeat' constructor) (lp_21_22 hD hi0 hx1 hx2 _ z2 z5 (0) hz2 hz5 (by first | omega | (unfold ra_in at *; omega)) (by first | omega | (unfold ra_in at *; omega)) (Nat.lt_succ_self _))
theorem sp_19 {n : Nat} {f : Nat → Int32} {d : Nat} {D : Nat} {i0 : Nat} {x1 : Int} {x2 : Int} {σ : ra_V} (hD : isD D) (hi0 : i0 < 8) (hx1 : ra_in x1) (hx2 : ra_in x2) : ra_C (g_Gs n f) g_sh 0 (d + 4) 19 [.index (D), .index (D + 5 + i0), ra_I x1, ra_I x2] σ (fun r s => rI r ∧ s = σ) := by
  refine ra_enter (nn := 0) mt_19 rfl (Nat.le_of_ble_eq_true rfl) rfl (fun h => absurd h (by decide +kernel)) ?_
  refine ra_load rfl rfl rfl rfl ?_
  refine ra_getBw rfl lk_0_94 (Nat.zero_le _) (sh_P hD hi0) rfl (fun z1 hz1 => ?_)
  refine ra_ifeq rfl rfl (ra_in01 hz1) (fun h2 => ?_) (fun h2 => ?_)
  · refine ra_load rfl rfl rfl rfl ?_
    refine ra_getR rfl lk_0_24 (Nat.zero_le _) (sh_D hD) rfl ?_
    refine ra_cBp (sp_67 hD) rfl (ct_67 rfl lk_0_155 (Or.inl rfl) (sh_D3 hD) (Nat.le_of_ble_eq_true rfl)) (fun z4 hz4 => ?_)
    refine ra_ifeq rfl rfl (ra_in01 hz4) (fun h5 => ?_) (fun h5 => ?_)
    · refine ra_load rfl rfl rfl rfl ?_
      refine ra_load rfl rfl rfl rfl ?_
      refine ra_getI rfl lk_0_85 (Nat.zero_le _) (sh_P hD hi0) rfl ?_
      refine ra_gen (fun z6 hz6 => ?_)
      refine ra_icne rfl rfl hx1 hz6 (fun h7 => ?_) (fun h7 => ?_)
      · refine ra_load rfl rfl rfl rfl ?_
        refine ra_load rfl rfl rfl rfl ?_
        refine ra_i2l rfl hx1 ?_
        refine ra_load rfl rfl rfl rfl ?_
        refine ra_getI rfl lk_0_65 (Nat.zero_le _) (sh_P hD hi0) rfl ?_
        refine ra_gen (fun z8 hz8 => ?_)
        refine ra_i2l rfl hz8 ?_
        refine ra_cBp (sp_10 hD hx1 hz8) rfl (ct_10 rfl lk_0_134 (Or.inl rfl) (sh_D hD) (Nat.le_of_ble_eq_true rfl)) (fun z10 hz10 => ?_)
        refine ra_ifne rfl rfl (ra_in01 hz10) (fun h11 => ?_) (fun h11 => ?_)
        · refine ra_load rfl rfl rfl rfl ?_
          refine ra_load rfl rfl rfl rfl ?_
          refine ra_cBp (sp_11 hD hx1) rfl (ct_11 rfl lk_0_137 (Or.inl rfl) (sh_D hD) (Nat.le_of_ble_eq_true rfl)) (fun z13 hz13 => ?_)
          refine ra_ifne rfl rfl (ra_in01 hz13) (fun h14 => ?_) (fun h14 => ?_)
          · refine ra_load rfl rfl rfl rfl ?_
            refine ra_load rfl rfl rfl rfl ?_
            refine ra_load rfl rfl rfl rfl ?_
            refine ra_load rfl rfl rfl rfl ?_
            refine ra_getI rfl lk_0_65 (Nat.zero_le _) (sh_P hD hi0) rfl ?_
            refine ra_gen (fun z15 hz15 => ?_)
            refine ra_cIp (sp_13 hD hi0 hx1 hz15) rfl (ct_13 rfl lk_0_151 (Or.inl rfl) (sh_D hD) (Nat.le_of_ble_eq_true rfl)) (fun z17 hz17 => ?_)
            refine ra_ifeq rfl rfl hz17 (fun h18 => ?_) (fun h18 => ?_)
            · refine ra_load rfl rfl rfl rfl ?_
              refine ra_load rfl rfl rfl rfl ?_
              refine ra_load rfl rfl rfl rfl ?_
              refine ra_load rfl rfl rfl rfl ?_
              refine ra_cBp (sp_20 hD hi0 hx1 hx2) rfl (ct_20 rfl lk_0_158 (Or.inl rfl) (sh_D hD) (Nat.le_of_ble_eq_true rfl)) (fun z20 hz20 => ?_)
              refine ra_ifeq rfl rfl (ra_in01 hz20) (fun h21 => ?_) (fun h21 => ?_)
              · refine ra_iconst rfl ?_
                exact ra_ireturn rfl rfl ⟨⟨_, (by first | omega | (unfold ra_in at *; omega)), rfl⟩, rfl⟩
              · refine ra_load rfl rfl rfl rfl ?_
                refine ra_load rfl rfl rfl rfl ?_
                refine ra_load rfl rfl rfl rfl ?_
                refine ra_load rfl rfl rfl rfl ?_
                refine ra_cIp (sp_21 hD hi0 hx1 hx2) rfl (ct_21 rfl lk_0_162 (Or.inl rfl) (sh_D hD) (Nat.le_of_ble_eq_true rfl)) (fun z23 hz23 => ?_)
                refine ra_iconst rfl ?_
                refine ra_icne rfl rfl hz23 (by first | omega | (unfold ra_in at *; omega)) (fun h24 => ?_) (fun h24 => ?_)
                · refine ra_iconst rfl ?_
                  exact ra_ireturn rfl rfl ⟨⟨_, (by first | omega | (unfold ra_in at *; omega)), rfl⟩, rfl⟩
                · refine ra_bipush rfl (by decide) ?_
                  refine ra_goto rfl rfl ?_
                  exact ra_ireturn rfl rfl ⟨⟨_, (by first | omega | (unfold ra_in at *; omega)), rfl⟩, rfl⟩
            · refine ra_bipush rfl (by decide) ?_
              exact ra_ireturn rfl rfl ⟨⟨_, (by first | omega | (unfold ra_in at *; omega)), rfl⟩, rfl⟩
          · refine ra_iconst rfl ?_
            exact ra_ireturn rfl rfl ⟨⟨_, (by first | omega | (unfold ra_in at *; omega)), rfl⟩, rfl⟩
        · refine ra_iconst rfl ?_
          exact ra_ireturn rfl rfl ⟨⟨_, (by first | omega | (unfold ra_in at *; omega)), rfl⟩, rfl⟩
      · refine ra_iconst rfl ?_
        exact ra_ireturn rfl rfl ⟨⟨_, (by first | omega | (unfold ra_in at *; omega)), rfl⟩, rfl⟩
    · refine ra_iconst rfl ?_
      exact ra_ireturn rfl rfl ⟨⟨_, (by first | omega | (unfold ra_in at *; omega)), rfl⟩, rfl⟩
  · refine ra_iconst rfl ?_
    exact ra_ireturn rfl rfl ⟨⟨_, (by first | omega | (unfold ra_in at *; omega)), rfl⟩, rfl⟩
theorem sp_24 {n : Nat} {f : Nat → Int32} {d : Nat} {D : Nat} {x0 : Int} {x1 : Int} {σ : ra_V} (hD : isD D) (hx0 : ra_in x0) (hx1 : ra_in x1) : ra_C (g_Gs n f) g_sh 0 (d + 1) 24 [.index (D), ra_I x0, ra_I x1] σ (fun r s => rV r ∧ Fr (D + 1) (D + 2) σ s) := by
  refine ra_enter (nn := 0) mt_24 rfl (Nat.le_of_ble_eq_true rfl) rfl (fun h => absurd h (by decide +kernel)) ?_
  refine ra_load rfl rfl rfl rfl ?_
  refine ra_iflt rfl rfl hx0 (fun h1 => ?_) (fun h1 => ?_)
  · exact ra_return rfl rfl ⟨rfl, Fr_rf⟩
  · refine ra_load rfl rfl rfl rfl ?_
    refine ra_load rfl rfl rfl rfl ?_
    refine ra_getR rfl lk_0_9 (Nat.zero_le _) (sh_D hD) rfl ?_
    refine ra_alen rfl (sh_D1 hD) rfl ?_
    refine ra_icge rfl rfl hx0 (by first | omega | (unfold ra_in at *; omega)) (fun h2 => ?_) (fun h2 => ?_)
    · exact ra_return rfl rfl ⟨rfl, Fr_rf⟩
    · refine ra_load rfl rfl rfl rfl ?_
      refine ra_getR rfl lk_0_9 (Nat.zero_le _) (sh_D hD) rfl ?_
      refine ra_load rfl rfl rfl rfl ?_
      refine ra_load rfl rfl rfl rfl ?_
      refine ra_iastore rfl (sh_D1 hD) rfl (by decide) (by first | omega | (unfold ra_in at *; omega)) (by first | omega | (unfold ra_in at *; omega)) ?_
      refine ra_new Fr_up (fun s3 hs3 => ?_)
      have hF4 := Fr_tr (lo := D + 1) (hi := D + 2) Fr_rf hs3 (by omega)
      exact ra_return rfl rfl ⟨rfl, hF4⟩
theorem lp_25_2 {n : Nat} {f : Nat → Int32} {d : Nat} {D : Nat} {i0 : Nat} {x1 : Int} {σ : ra_V} (hD : isD D) (hi0 : i0 < 8) (hx1 : ra_in x1) : ∀ (nn : Nat) (v3 : Int) (s : ra_V) (hv3_0 : ra_in v3) (hF : Fr (D + 1) (D + 2) σ s) (hk0 : s (D + 5 + i0) = σ (D + 5 + i0)) (hm : ((ra_g σ (D + 5 + i0) 2 - v3 : Int)).toNat < nn), ra_P (g_Gs n f) g_sh 0 (d + 1) g_m_X0_writeBlocks 2 [some (.index (D)), some (.index (D + 5 + i0)), none, some (ra_I v3)] [] s (fun r s => rV r ∧ Fr (D + 1) (D + 2) σ s) := by
  intro nn
  induction nn with
  | zero => intro v3 s hv3_0 hF hk0 hm; exact absurd hm (Nat.not_lt_zero _)
  | succ nn ih =>
    intro v3 s hv3_0 hF hk0 hm
    have hb := ra_in_g σ (D + 5 + i0) 2
    refine ra_load rfl rfl rfl rfl ?_
    refine ra_load rfl rfl rfl rfl ?_
    refine ra_getI rfl lk_0_65 (Nat.zero_le _) (sh_P hD hi0) rfl ?_
    rw [ra_gk hk0]
    refine ra_icge rfl rfl (by first | omega | (unfold ra_in at *; omega)) (ra_in_g _ _ _) (fun h1 => ?_) (fun h1 => ?_)
    · exact ra_return rfl rfl ⟨rfl, hF⟩
    · refine ra_load rfl rfl rfl rfl ?_
      refine ra_load rfl rfl rfl rfl ?_
      refine ra_getI rfl lk_0_85 (Nat.zero_le _) (sh_P hD hi0) rfl ?_
      refine ra_gen (fun z2 hz2 => ?_)
      refine ra_load rfl rfl rfl rfl ?_
      refine ra_iadd rfl ?_
      refine ra_gen (fun z3 hz3 => ?_)
      refine ra_load rfl rfl rfl rfl ?_
      refine ra_load rfl rfl rfl rfl ?_
      refine ra_cIp (sp_94 hD hi0 (by first | omega | (unfold ra_in at *; omega))) rfl (ct_94 rfl lk_0_176 (Or.inl rfl) (sh_P hD hi0) (Nat.le_of_ble_eq_true rfl)) (fun z5 hz5 => ?_)
      refine ra_cV (sp_24 hD hz3 hz5) rfl (ct_24 rfl lk_0_179 (Or.inl rfl) (sh_D hD) (Nat.le_of_ble_eq_true rfl)) (fun s6 hs6 => ?_)
      have hF7 := Fr_tr (lo := D + 1) (hi := D + 2) hF hs6 (by omega)
      have hk8 : s6 (D + 5 + i0) = σ (D + 5 + i0) := (hs6 (D + 5 + i0) (by omega)).trans hk0
      refine ra_iinc (L' := [_, _, _, _]) rfl rfl (Nat.le_of_ble_eq_true rfl) rfl ?_
      refine ra_goto rfl rfl ?_
      exact ra_weak (by repeat' constructor) (ih (v3 + 1) s6 (by first | omega | (unfold ra_in at *; omega)) hF7 hk8 (by first | omega | (unfold ra_in at *; omega)))
theorem sp_25 {n : Nat} {f : Nat → Int32} {d : Nat} {D : Nat} {i0 : Nat} {x1 : Int} {σ : ra_V} (hD : isD D) (hi0 : i0 < 8) (hx1 : ra_in x1) : ra_C (g_Gs n f) g_sh 0 (d + 2) 25 [.index (D), .index (D + 5 + i0), ra_I x1] σ (fun r s => rV r ∧ Fr (D + 1) (D + 2) σ s) := by
  refine ra_enter (nn := 1) mt_25 rfl (Nat.le_of_ble_eq_true rfl) rfl (fun h => absurd h (by decide +kernel)) ?_
  refine ra_load rfl rfl rfl rfl ?_
  refine ra_store (L' := [_, _, _, _]) rfl rfl rfl (Nat.le_of_ble_eq_true rfl) rfl ?_
  exact ra_weak (by repeat' constructor) (lp_25_2 hD hi0 hx1 _ x1 σ hx1 Fr_rf rfl (Nat.lt_succ_self _))
theorem lp_27_51 {n : Nat} {f : Nat → Int32} {d : Nat} {D : Nat} {x0 : Int} {σ : ra_V} (hD : isD D) (hx0 : ra_in x0) : ∀ (nn : Nat) (v4 : Int) (hv4_0 : 0 ≤ v4) (hv4_1 : v4 ≤ 8) (hm : ((8 - v4 : Int)).toNat < nn), ra_P (g_Gs n f) g_sh 0 (d + 4) g_m_X0_holderOf 51 [some (.index (D)), some (ra_I x0), some (.index (D + 2)), some (ra_I ((8 : Nat) : Int)), some (ra_I v4), none] [] σ (fun r s => rI r ∧ s = σ) := by
  intro nn
  induction nn with
  | zero => intro v4 hv4_0 hv4_1 hm; exact absurd hm (Nat.not_lt_zero _)
  | succ nn ih =>
    intro v4 hv4_0 hv4_1 hm
    refine ra_load rfl rfl rfl rfl ?_
    refine ra_load rfl rfl rfl rfl ?_
    refine ra_icge rfl rfl (by first | omega | (unfold ra_in at *; omega)) (by first | omega | (unfold ra_in at *; omega)) (fun h4 => ?_) (fun h4 => ?_)
    · refine ra_iconst rfl ?_
      exact ra_ireturn rfl rfl ⟨⟨_, (by first | omega | (unfold ra_in at *; omega)), rfl⟩, rfl⟩
    · refine ra_load rfl rfl rfl rfl ?_
      refine ra_load rfl rfl rfl rfl ?_
      refine ra_aaload rfl (sh_D2 hD) rfl (by decide) (by first | omega | (unfold ra_in at *; omega)) (by first | omega | (unfold ra_in at *; omega)) (sh_pt (by first | omega | (unfold ra_in at *; omega)) (by first | omega | (unfold ra_in at *; omega))) rfl ?_
      have hi5 : v4.toNat < 8 := (by first | omega | (unfold ra_in at *; omega))
      refine ra_store (L' := [_, _, _, _, _, _]) rfl rfl rfl (Nat.le_of_ble_eq_true rfl) rfl ?_
      refine ra_load rfl rfl rfl rfl ?_
      refine ra_load rfl rfl rfl rfl ?_
      refine ra_cBp (sp_7 hD hi5) rfl (ct_7 rfl lk_0_98 (Or.inl rfl) (sh_D hD) (Nat.le_of_ble_eq_true rfl)) (fun z7 hz7 => ?_)
      refine ra_ifne rfl rfl (ra_in01 hz7) (fun h8 => ?_) (fun h8 => ?_)
      · refine ra_iinc (L' := [_, _, _, _, _, _]) rfl rfl (Nat.le_of_ble_eq_true rfl) rfl ?_
        refine ra_goto rfl rfl ?_
        exact ra_weak (by repeat' constructor) (ih (v4 + 1) (by first | omega | (unfold ra_in at *; omega)) (by first | omega | (unfold ra_in at *; omega)) (by first | omega | (unfold ra_in at *; omega)))
      · refine ra_load rfl rfl rfl rfl ?_
        refine ra_load rfl rfl rfl rfl ?_
        refine ra_i2l rfl hx0 ?_
        refine ra_lconst1 rfl ?_
        refine ra_cBp (sp_95 hD hi5 hx0 (by first | omega | (unfold ra_in at *; omega))) rfl (ct_95 rfl lk_0_106 (Or.inl rfl) (sh_P hD hi5) (Nat.le_of_ble_eq_true rfl)) (fun z10 hz10 => ?_)
        refine ra_ifeq rfl rfl (ra_in01 hz10) (fun h11 => ?_) (fun h11 => ?_)
        · refine ra_iinc (L' := [_, _, _, _, _, _]) rfl rfl (Nat.le_of_ble_eq_true rfl) rfl ?_
          refine ra_goto rfl rfl ?_
          exact ra_weak (by repeat' constructor) (ih (v4 + 1) (by first | omega | (unfold ra_in at *; omega)) (by first | omega | (unfold ra_in at *; omega)) (by first | omega | (unfold ra_in at *; omega)))
        · refine ra_load rfl rfl rfl rfl ?_
          refine ra_getK rfl lk_0_91 (Nat.zero_le _) (sh_P hD hi5) rfl ?_
          exact ra_ireturn rfl rfl ⟨⟨_, (by first | omega | (unfold ra_in at *; omega)), rfl⟩, rfl⟩
theorem sp_27 {n : Nat} {f : Nat → Int32} {d : Nat} {D : Nat} {x0 : Int} {σ : ra_V} (hD : isD D) (hx0 : ra_in x0) : ra_C (g_Gs n f) g_sh 0 (d + 5) 27 [.index (D), ra_I x0] σ (fun r s => rI r ∧ s = σ) := by
  refine ra_enter (nn := 4) mt_27 rfl (Nat.le_of_ble_eq_true rfl) rfl (fun h => absurd h (by decide +kernel)) ?_
  refine ra_load rfl rfl rfl rfl ?_
  refine ra_getR rfl lk_0_24 (Nat.zero_le _) (sh_D hD) rfl ?_
  refine ra_cBp (sp_67 hD) rfl (ct_67 rfl lk_0_155 (Or.inl rfl) (sh_D3 hD) (Nat.le_of_ble_eq_true rfl)) (fun z2 hz2 => ?_)
  refine ra_ifeq rfl rfl (ra_in01 hz2) (fun h3 => ?_) (fun h3 => ?_)
  · refine ra_load rfl rfl rfl rfl ?_
    refine ra_getR rfl lk_0_17 (Nat.zero_le _) (sh_D hD) rfl ?_
    refine ra_store (L' := [_, _, _, _, _, _]) rfl rfl rfl (Nat.le_of_ble_eq_true rfl) rfl ?_
    refine ra_load rfl rfl rfl rfl ?_
    refine ra_alen rfl (sh_D2 hD) rfl ?_
    refine ra_store (L' := [_, _, _, _, _, _]) rfl rfl rfl (Nat.le_of_ble_eq_true rfl) rfl ?_
    refine ra_iconst rfl ?_
    refine ra_store (L' := [_, _, _, _, _, _]) rfl rfl rfl (Nat.le_of_ble_eq_true rfl) rfl ?_
    exact ra_weak (by repeat' constructor) (lp_27_51 hD hx0 _ (0) (by first | omega | (unfold ra_in at *; omega)) (by first | omega | (unfold ra_in at *; omega)) (Nat.lt_succ_self _))
  · refine ra_load rfl rfl rfl rfl ?_
    refine ra_load rfl rfl rfl rfl ?_
    refine ra_getR rfl lk_0_24 (Nat.zero_le _) (sh_D hD) rfl ?_
    refine ra_getI rfl lk_0_88 (Nat.zero_le _) (sh_D3 hD) rfl ?_
    refine ra_gen (fun z12 hz12 => ?_)
    refine ra_cPp (sp_3 hD hz12) rfl (ct_3 rfl lk_0_186 (Or.inl rfl) (sh_D hD) (Nat.le_of_ble_eq_true rfl)) ?_ (fun j14 hj14 => ?_)
    · refine ra_store (L' := [_, _, _, _, _, _]) rfl rfl rfl (Nat.le_of_ble_eq_true rfl) rfl ?_
      refine ra_load rfl rfl rfl rfl ?_
      refine ra_nullT rfl rfl ?_
      refine ra_load rfl rfl rfl rfl ?_
      refine ra_getR rfl lk_0_17 (Nat.zero_le _) (sh_D hD) rfl ?_
      refine ra_store (L' := [_, _, _, _, _, _]) rfl rfl rfl (Nat.le_of_ble_eq_true rfl) rfl ?_
      refine ra_load rfl rfl rfl rfl ?_
      refine ra_alen rfl (sh_D2 hD) rfl ?_
      refine ra_store (L' := [_, _, _, _, _, _]) rfl rfl rfl (Nat.le_of_ble_eq_true rfl) rfl ?_
      refine ra_iconst rfl ?_
      refine ra_store (L' := [_, _, _, _, _, _]) rfl rfl rfl (Nat.le_of_ble_eq_true rfl) rfl ?_
      exact ra_weak (by repeat' constructor) (lp_27_51 hD hx0 _ (0) (by first | omega | (unfold ra_in at *; omega)) (by first | omega | (unfold ra_in at *; omega)) (Nat.lt_succ_self _))
    · refine ra_store (L' := [_, _, _, _, _, _]) rfl rfl rfl (Nat.le_of_ble_eq_true rfl) rfl ?_
      refine ra_load rfl rfl rfl rfl ?_
      refine ra_nullF rfl rfl ?_
      refine ra_load rfl rfl rfl rfl ?_
      refine ra_load rfl rfl rfl rfl ?_
      refine ra_load rfl rfl rfl rfl ?_
      refine ra_cBp (sp_28 hD hj14 hx0) rfl (ct_28 rfl lk_0_189 (Or.inl rfl) (sh_D hD) (Nat.le_of_ble_eq_true rfl)) (fun z16 hz16 => ?_)
      refine ra_ifeq rfl rfl (ra_in01 hz16) (fun h17 => ?_) (fun h17 => ?_)
      · refine ra_load rfl rfl rfl rfl ?_
        refine ra_getR rfl lk_0_17 (Nat.zero_le _) (sh_D hD) rfl ?_
        refine ra_store (L' := [_, _, _, _, _, _]) rfl rfl rfl (Nat.le_of_ble_eq_true rfl) rfl ?_
        refine ra_load rfl rfl rfl rfl ?_
        refine ra_alen rfl (sh_D2 hD) rfl ?_
        refine ra_store (L' := [_, _, _, _, _, _]) rfl rfl rfl (Nat.le_of_ble_eq_true rfl) rfl ?_
        refine ra_iconst rfl ?_
        refine ra_store (L' := [_, _, _, _, _, _]) rfl rfl rfl (Nat.le_of_ble_eq_true rfl) rfl ?_
        exact ra_weak (by repeat' constructor) (lp_27_51 hD hx0 _ (0) (by first | omega | (unfold ra_in at *; omega)) (by first | omega | (unfold ra_in at *; omega)) (Nat.lt_succ_self _))
      · refine ra_load rfl rfl rfl rfl ?_
        refine ra_getK rfl lk_0_91 (Nat.zero_le _) (sh_P hD hj14) rfl ?_
        exact ra_ireturn rfl rfl ⟨⟨_, (by first | omega | (unfold ra_in at *; omega)), rfl⟩, rfl⟩
theorem lp_30_2 {n : Nat} {f : Nat → Int32} {d : Nat} {D : Nat} {i0 : Nat} {σ : ra_V} (hD : isD D) (hi0 : i0 < 8) : ∀ (nn : Nat) (v2 : Int) (hv2_0 : ra_in v2) (hm : ((ra_g σ (D + 5 + i0) 2 - v2 : Int)).toNat < nn), ra_P (g_Gs n f) g_sh 0 (d + 3) g_m_X0_keepsWhole 2 [some (.index (D)), some (.index (D + 5 + i0)), some (ra_I v2)] [] σ (fun r s => rB r ∧ s = σ) := by
  intro nn
  induction nn with
  | zero => intro v2 hv2_0 hm; exact absurd hm (Nat.not_lt_zero _)
  | succ nn ih =>
    intro v2 hv2_0 hm
    have hb := ra_in_g σ (D + 5 + i0) 2
    refine ra_load rfl rfl rfl rfl ?_
    refine ra_load rfl rfl rfl rfl ?_
    refine ra_getI rfl lk_0_65 (Nat.zero_le _) (sh_P hD hi0) rfl ?_
    refine ra_icge rfl rfl (by first | omega | (unfold ra_in at *; omega)) (ra_in_g _ _ _) (fun h1 => ?_) (fun h1 => ?_)
    · refine ra_iconst rfl ?_
      exact ra_ireturn rfl (ra_okB (Or.inr rfl)) ⟨⟨_, (Or.inr rfl), rfl⟩, rfl⟩
    · refine ra_load rfl rfl rfl rfl ?_
      refine ra_load rfl rfl rfl rfl ?_
      refine ra_load rfl rfl rfl rfl ?_
      refine ra_load rfl rfl rfl rfl ?_
      refine ra_cIp (sp_26 hD hi0 (by first | omega | (unfold ra_in at *; omega))) rfl (ct_26 rfl lk_0_211 (Or.inl rfl) (sh_D hD) (Nat.le_of_ble_eq_true rfl)) (fun z3 hz3 => ?_)
      refine ra_cIp (sp_23 hD hz3) rfl (ct_23 rfl lk_0_214 (Or.inl rfl) (sh_D hD) (Nat.le_of_ble_eq_true rfl)) (fun z5 hz5 => ?_)
      refine ra_load rfl rfl rfl rfl ?_
      refine ra_load rfl rfl rfl rfl ?_
      refine ra_cIp (sp_94 hD hi0 (by first | omega | (unfold ra_in at *; omega))) rfl (ct_94 rfl lk_0_176 (Or.inl rfl) (sh_P hD hi0) (Nat.le_of_ble_eq_true rfl)) (fun z7 hz7 => ?_)
      refine ra_iceq rfl rfl hz5 hz7 (fun h8 => ?_) (fun h8 => ?_)
      · refine ra_iinc (L' := [_, _, _]) rfl rfl (Nat.le_of_ble_eq_true rfl) rfl ?_
        refine ra_goto rfl rfl ?_
        exact ra_weak (by repeat' constructor) (ih (v2 + 1) (by first | omega | (unfold ra_in at *; omega)) (by first | omega | (unfold ra_in at *; omega)))
      · refine ra_iconst rfl ?_
        exact ra_ireturn rfl (ra_okB (Or.inl rfl)) ⟨⟨_, (Or.inl rfl), rfl⟩, rfl⟩
theorem sp_30 {n : Nat} {f : Nat → Int32} {d : Nat} {D : Nat} {i0 : Nat} {σ : ra_V} (hD : isD D) (hi0 : i0 < 8) : ra_C (g_Gs n f) g_sh 0 (d + 4) 30 [.index (D), .index (D + 5 + i0)] σ (fun r s => rB r ∧ s = σ) := by
  refine ra_enter (nn := 1) mt_30 rfl (Nat.le_of_ble_eq_true rfl) rfl (fun h => absurd h (by decide +kernel)) ?_
  refine ra_iconst rfl ?_
  refine ra_store (L' := [_, _, _]) rfl rfl rfl (Nat.le_of_ble_eq_true rfl) rfl ?_
  exact ra_weak (by repeat' constructor) (lp_30_2 hD hi0 _ (0) (by first | omega | (unfold ra_in at *; omega)) (Nat.lt_succ_self _))
theorem lp_31_4 {n : Nat} {f : Nat → Int32} {d : Nat} {D : Nat} {i0 : Nat} {σ : ra_V} (hD : isD D) (hi0 : i0 < 8) : ∀ (nn : Nat) (v2 : Int) (v3 : Int) (hv2 : ra_in v2) (hv3_0 : ra_in v3) (hm : ((ra_g σ (D) 4 - v3 : Int)).toNat < nn), ra_P (g_Gs n f) g_sh 0 (d + 3) g_m_X0_leftOverOf 4 [some (.index (D)), some (.index (D + 5 + i0)), some (ra_I v2), some (ra_I v3), none] [] σ (fun r s => rI r ∧ s = σ) := by
  intro nn
  induction nn with
  | zero => intro v2 v3 hv2 hv3_0 hm; exact absurd hm (Nat.not_lt_zero _)
  | succ nn ih =>
    intro v2 v3 hv2 hv3_0 hm
    have hb := ra_in_g σ (D) 4
    refine ra_load rfl rfl rfl rfl ?_
    refine ra_load rfl rfl rfl rfl ?_
    refine ra_getI rfl lk_0_34 (Nat.zero_le _) (sh_D hD) rfl ?_
    refine ra_icge rfl rfl (by first | omega | (unfold ra_in at *; omega)) (ra_in_g _ _ _) (fun h1 => ?_) (fun h1 => ?_)
    · refine ra_load rfl rfl rfl rfl ?_
      exact ra_ireturn rfl rfl ⟨⟨_, hv2, rfl⟩, rfl⟩
    · refine ra_load rfl rfl rfl rfl ?_
      refine ra_load rfl rfl rfl rfl ?_
      refine ra_cIp (sp_23 hD (by first | omega | (unfold ra_in at *; omega))) rfl (ct_23 rfl lk_0_214 (Or.inl rfl) (sh_D hD) (Nat.le_of_ble_eq_true rfl)) (fun z3 hz3 => ?_)
      refine ra_load rfl rfl rfl rfl ?_
      refine ra_iconst rfl ?_
      refine ra_cIp (sp_94 hD hi0 (by first | omega | (unfold ra_in at *; omega))) rfl (ct_94 rfl lk_0_176 (Or.inl rfl) (sh_P hD hi0) (Nat.le_of_ble_eq_true rfl)) (fun z5 hz5 => ?_)
      refine ra_isub rfl ?_
      refine ra_gen (fun z6 hz6 => ?_)
      refine ra_store (L' := [_, _, _, _, _]) rfl rfl rfl (Nat.le_of_ble_eq_true rfl) rfl ?_
      refine ra_load rfl rfl rfl rfl ?_
      refine ra_iflt rfl rfl hz6 (fun h7 => ?_) (fun h7 => ?_)
      · refine ra_iinc (L' := [_, _, _, _, _]) rfl rfl (Nat.le_of_ble_eq_true rfl) rfl ?_
        refine ra_goto rfl rfl ?_
        exact ra_weak (by repeat' constructor) (ih v2 (v3 + 1) hv2 (by first | omega | (unfold ra_in at *; omega)) (by first | omega | (unfold ra_in at *; omega)))
      · refine ra_load rfl rfl rfl rfl ?_
        refine ra_load rfl rfl rfl rfl ?_
        refine ra_getI rfl lk_0_65 (Nat.zero_le _) (sh_P hD hi0) rfl ?_
        refine ra_gen (fun z8 hz8 => ?_)
        refine ra_icge rfl rfl hz6 hz8 (fun h9 => ?_) (fun h9 => ?_)
        · refine ra_iinc (L' := [_, _, _, _, _]) rfl rfl (Nat.le_of_ble_eq_true rfl) rfl ?_
          refine ra_goto rfl rfl ?_
          exact ra_weak (by repeat' constructor) (ih v2 (v3 + 1) hv2 (by first | omega | (unfold ra_in at *; omega)) (by first | omega | (unfold ra_in at *; omega)))
        · refine ra_load rfl rfl rfl rfl ?_
          refine ra_load rfl rfl rfl rfl ?_
          refine ra_load rfl rfl rfl rfl ?_
          refine ra_cIp (sp_26 hD hi0 hz6) rfl (ct_26 rfl lk_0_211 (Or.inl rfl) (sh_D hD) (Nat.le_of_ble_eq_true rfl)) (fun z11 hz11 => ?_)
          refine ra_load rfl rfl rfl rfl ?_
          refine ra_iceq rfl rfl hz11 (by first | omega | (unfold ra_in at *; omega)) (fun h12 => ?_) (fun h12 => ?_)
          · refine ra_iinc (L' := [_, _, _, _, _]) rfl rfl (Nat.le_of_ble_eq_true rfl) rfl ?_
            refine ra_goto rfl rfl ?_
            exact ra_weak (by repeat' constructor) (ih v2 (v3 + 1) hv2 (by first | omega | (unfold ra_in at *; omega)) (by first | omega | (unfold ra_in at *; omega)))
          · refine ra_iincG rfl rfl (Nat.le_of_ble_eq_true rfl) (fun z13 hz13 => ?_)
            refine ra_cong (L' := [_, _, _, _, _]) rfl ?_
            refine ra_iinc (L' := [_, _, _, _, _]) rfl rfl (Nat.le_of_ble_eq_true rfl) rfl ?_
            refine ra_goto rfl rfl ?_
            exact ra_weak (by repeat' constructor) (ih z13 (v3 + 1) hz13 (by first | omega | (unfold ra_in at *; omega)) (by first | omega | (unfold ra_in at *; omega)))
theorem sp_31 {n : Nat} {f : Nat → Int32} {d : Nat} {D : Nat} {i0 : Nat} {σ : ra_V} (hD : isD D) (hi0 : i0 < 8) : ra_C (g_Gs n f) g_sh 0 (d + 4) 31 [.index (D), .index (D + 5 + i0)] σ (fun r s => rI r ∧ s = σ) := by
  refine ra_enter (nn := 3) mt_31 rfl (Nat.le_of_ble_eq_true rfl) rfl (fun h => absurd h (by decide +kernel)) ?_
  refine ra_iconst rfl ?_
  refine ra_store (L' := [_, _, _, _, _]) rfl rfl rfl (Nat.le_of_ble_eq_true rfl) rfl ?_
  refine ra_iconst rfl ?_
  refine ra_store (L' := [_, _, _, _, _]) rfl rfl rfl (Nat.le_of_ble_eq_true rfl) rfl ?_
  exact ra_weak (by repeat' constructor) (lp_31_4 hD hi0 _ (0) (0) (by first | omega | (unfold ra_in at *; omega)) (by first | omega | (unfold ra_in at *; omega)) (Nat.lt_succ_self _))
theorem lp_32_4 {n : Nat} {f : Nat → Int32} {d : Nat} {D : Nat} {σ : ra_V} (hD : isD D) : ∀ (nn : Nat) (v1 : Int) (v2 : Int) (s : ra_V) (hv1 : ra_in v1) (hv2_0 : ra_in v2) (hF : Fr (D + 1) (D + 2) σ s) (hk0 : s (D) = σ (D)) (hm : ((ra_g σ (D) 4 - v2 : Int)).toNat < nn), ra_P (g_Gs n f) g_sh 0 (d + 5) g_m_X0_wipeOut 4 [some (.index (D)), some (ra_I v1), some (ra_I v2)] [] s (fun r s => rI r ∧ Fr (D + 1) (D + 2) σ s) := by
  intro nn
  induction nn with
  | zero => intro v1 v2 s hv1 hv2_0 hF hk0 hm; exact absurd hm (Nat.not_lt_zero _)
  | succ nn ih =>
    intro v1 v2 s hv1 hv2_0 hF hk0 hm
    have hb := ra_in_g σ (D) 4
    refine ra_load rfl rfl rfl rfl ?_
    refine ra_load rfl rfl rfl rfl ?_
    refine ra_getI rfl lk_0_34 (Nat.zero_le _) (sh_D hD) rfl ?_
    rw [ra_gk hk0]
    refine ra_icge rfl rfl (by first | omega | (unfold ra_in at *; omega)) (ra_in_g _ _ _) (fun h1 => ?_) (fun h1 => ?_)
    · refine ra_load rfl rfl rfl rfl ?_
      exact ra_ireturn rfl rfl ⟨⟨_, hv1, rfl⟩, hF⟩
    · refine ra_load rfl rfl rfl rfl ?_
      refine ra_load rfl rfl rfl rfl ?_
      refine ra_cIp (sp_23 hD (by first | omega | (unfold ra_in at *; omega))) rfl (ct_23 rfl lk_0_214 (Or.inl rfl) (sh_D hD) (Nat.le_of_ble_eq_true rfl)) (fun z3 hz3 => ?_)
      refine ra_ifeq rfl rfl hz3 (fun h4 => ?_) (fun h4 => ?_)
      · refine ra_iinc (L' := [_, _, _]) rfl rfl (Nat.le_of_ble_eq_true rfl) rfl ?_
        refine ra_goto rfl rfl ?_
        exact ra_weak (by repeat' constructor) (ih v1 (v2 + 1) s hv1 (by first | omega | (unfold ra_in at *; omega)) hF hk0 (by first | omega | (unfold ra_in at *; omega)))
      · refine ra_load rfl rfl rfl rfl ?_
        refine ra_load rfl rfl rfl rfl ?_
        refine ra_cIp (sp_27 hD (by first | omega | (unfold ra_in at *; omega))) rfl (ct_27 rfl lk_0_217 (Or.inl rfl) (sh_D hD) (Nat.le_of_ble_eq_true rfl)) (fun z6 hz6 => ?_)
        refine ra_iconst rfl ?_
        refine ra_icne rfl rfl hz6 (by first | omega | (unfold ra_in at *; omega)) (fun h7 => ?_) (fun h7 => ?_)
        · refine ra_iinc (L' := [_, _, _]) rfl rfl (Nat.le_of_ble_eq_true rfl) rfl ?_
          refine ra_goto rfl rfl ?_
          exact ra_weak (by repeat' constructor) (ih v1 (v2 + 1) s hv1 (by first | omega | (unfold ra_in at *; omega)) hF hk0 (by first | omega | (unfold ra_in at *; omega)))
        · refine ra_load rfl rfl rfl rfl ?_
          refine ra_load rfl rfl rfl rfl ?_
          refine ra_iconst rfl ?_
          refine ra_cV (sp_24 hD (by first | omega | (unfold ra_in at *; omega)) (by first | omega | (unfold ra_in at *; omega))) rfl (ct_24 rfl lk_0_179 (Or.inl rfl) (sh_D hD) (Nat.le_of_ble_eq_true rfl)) (fun s8 hs8 => ?_)
          have hF9 := Fr_tr (lo := D + 1) (hi := D + 2) hF hs8 (by omega)
          have hk10 : s8 (D) = σ (D) := (hs8 (D) (by omega)).trans hk0
          refine ra_iincG rfl rfl (Nat.le_of_ble_eq_true rfl) (fun z11 hz11 => ?_)
          refine ra_cong (L' := [_, _, _]) rfl ?_
          refine ra_iinc (L' := [_, _, _]) rfl rfl (Nat.le_of_ble_eq_true rfl) rfl ?_
          refine ra_goto rfl rfl ?_
          exact ra_weak (by repeat' constructor) (ih z11 (v2 + 1) s8 hz11 (by first | omega | (unfold ra_in at *; omega)) hF9 hk10 (by first | omega | (unfold ra_in at *; omega)))
theorem sp_32 {n : Nat} {f : Nat → Int32} {d : Nat} {D : Nat} {σ : ra_V} (hD : isD D) : ra_C (g_Gs n f) g_sh 0 (d + 6) 32 [.index (D)] σ (fun r s => rI r ∧ Fr (D + 1) (D + 2) σ s) := by
  refine ra_enter (nn := 2) mt_32 rfl (Nat.le_of_ble_eq_true rfl) rfl (fun h => absurd h (by decide +kernel)) ?_
  refine ra_iconst rfl ?_
  refine ra_store (L' := [_, _, _]) rfl rfl rfl (Nat.le_of_ble_eq_true rfl) rfl ?_
  refine ra_iconst rfl ?_
  refine ra_store (L' := [_, _, _]) rfl rfl rfl (Nat.le_of_ble_eq_true rfl) rfl ?_
  exact ra_weak (by repeat' constructor) (lp_32_4 hD _ (0) (0) σ (by first | omega | (unfold ra_in at *; omega)) (by first | omega | (unfold ra_in at *; omega)) Fr_rf rfl (Nat.lt_succ_self _))
theorem lp_33_14 {n : Nat} {f : Nat → Int32} {d : Nat} {D : Nat} {x0 : Int} {x1 : Int} {x2 : Int} {x3 : Int} {σ : ra_V} (hD : isD D) (hx0 : ra_in x0) (hx1 : ra_in x1) (hx2 : ra_in x2) (hx3 : ra_in x3) : ∀ (nn : Nat) (v7 : Int) (s : ra_V) (hv7_0 : 0 ≤ v7) (hv7_1 : v7 ≤ 8) (hF : Fr (D) (D + 13) σ s) (hm : ((8 - v7 : Int)).toNat < nn), ra_P (g_Gs n f) g_sh 0 (d + 2) g_m_X0_make 14 [some (.index (D)), some (ra_I x0), some (ra_I x1), some (ra_I x2), some (ra_I x3), some (.index (D + 2)), some (ra_I ((8 : Nat) : Int)), some (ra_I v7), none] [] s (fun r s => rI r ∧ Fr (D) (D + 13) σ s) := by
  intro nn
  induction nn with
  | zero => intro v7 s hv7_0 hv7_1 hF hm; exact absurd hm (Nat.not_lt_zero _)
  | succ nn ih =>
    intro v7 s hv7_0 hv7_1 hF hm
    refine ra_load rfl rfl rfl rfl ?_
    refine ra_load rfl rfl rfl rfl ?_
    refine ra_icge rfl rfl (by first | omega | (unfold ra_in at *; omega)) (by first | omega | (unfold ra_in at *; omega)) (fun h1 => ?_) (fun h1 => ?_)
    · refine ra_iconst rfl ?_
      exact ra_ireturn rfl rfl ⟨⟨_, (by first | omega | (unfold ra_in at *; omega)), rfl⟩, hF⟩
    · refine ra_load rfl rfl rfl rfl ?_
      refine ra_load rfl rfl rfl rfl ?_
      refine ra_aaload rfl (sh_D2 hD) rfl (by decide) (by first | omega | (unfold ra_in at *; omega)) (by first | omega | (unfold ra_in at *; omega)) (sh_pt (by first | omega | (unfold ra_in at *; omega)) (by first | omega | (unfold ra_in at *; omega))) rfl ?_
      have hi2 : v7.toNat < 8 := (by first | omega | (unfold ra_in at *; omega))
      refine ra_store (L' := [_, _, _, _, _, _, _, _, _]) rfl rfl rfl (Nat.le_of_ble_eq_true rfl) rfl ?_
      refine ra_load rfl rfl rfl rfl ?_
      refine ra_cBp (sp_92 hD hi2) rfl (ct_92 rfl lk_0_81 (Or.inl rfl) (sh_P hD hi2) (Nat.le_of_ble_eq_true rfl)) (fun z4 hz4 => ?_)
      refine ra_ifne rfl rfl (ra_in01 hz4) (fun h5 => ?_) (fun h5 => ?_)
      · refine ra_iinc (L' := [_, _, _, _, _, _, _, _, _]) rfl rfl (Nat.le_of_ble_eq_true rfl) rfl ?_
        refine ra_goto rfl rfl ?_
        exact ra_weak (by repeat' constructor) (ih (v7 + 1) s (by first | omega | (unfold ra_in at *; omega)) (by first | omega | (unfold ra_in at *; omega)) hF (by first | omega | (unfold ra_in at *; omega)))
      · refine ra_load rfl rfl rfl rfl ?_
        refine ra_load rfl rfl rfl rfl ?_
        refine ra_putI rfl lk_0_85 (Nat.zero_le _) (sh_P hD hi2) rfl rfl ?_
        refine ra_new Fr_up (fun s6 hs6 => ?_)
        have hF7 := Fr_tr (lo := D) (hi := D + 13) hF hs6 (by omega)
        refine ra_load rfl rfl rfl rfl ?_
        refine ra_load rfl rfl rfl rfl ?_
        refine ra_putI rfl lk_0_65 (Nat.zero_le _) (sh_P hD hi2) rfl rfl ?_
        refine ra_new Fr_up (fun s8 hs8 => ?_)
        have hF9 := Fr_tr (lo := D) (hi := D + 13) hF7 hs8 (by omega)
        refine ra_load rfl rfl rfl rfl ?_
        refine ra_load rfl rfl rfl rfl ?_
        refine ra_putI rfl lk_0_148 (Nat.zero_le _) (sh_P hD hi2) rfl rfl ?_
        refine ra_new Fr_up (fun s10 hs10 => ?_)
        have hF11 := Fr_tr (lo := D) (hi := D + 13) hF9 hs10 (by omega)
        refine ra_load rfl rfl rfl rfl ?_
        refine ra_load rfl rfl rfl rfl ?_
        refine ra_putI rfl lk_0_220 (Nat.zero_le _) (sh_P hD hi2) rfl rfl ?_
        refine ra_new Fr_up (fun s12 hs12 => ?_)
        have hF13 := Fr_tr (lo := D) (hi := D + 13) hF11 hs12 (by omega)
        refine ra_load rfl rfl rfl rfl ?_
        refine ra_iconst rfl ?_
        refine ra_putB rfl lk_0_94 (Nat.zero_le _) (sh_P hD hi2) rfl rfl (Or.inl rfl) ?_
        refine ra_new Fr_up (fun s14 hs14 => ?_)
        have hF15 := Fr_tr (lo := D) (hi := D + 13) hF13 hs14 (by omega)
        refine ra_load rfl rfl rfl rfl ?_
        refine ra_load rfl rfl rfl rfl ?_
        refine ra_getI rfl lk_0_50 (Nat.zero_le _) (sh_D hD) rfl ?_
        refine ra_gen (fun z16 hz16 => ?_)
        refine ra_putI rfl lk_0_223 (Nat.zero_le _) (sh_P hD hi2) rfl rfl ?_
        refine ra_new Fr_up (fun s17 hs17 => ?_)
        have hF18 := Fr_tr (lo := D) (hi := D + 13) hF15 hs17 (by omega)
        refine ra_load rfl rfl rfl rfl ?_
        refine ra_iconst rfl ?_
        refine ra_putI rfl lk_0_226 (Nat.zero_le _) (sh_P hD hi2) rfl rfl ?_
        refine ra_new Fr_up (fun s19 hs19 => ?_)
        have hF20 := Fr_tr (lo := D) (hi := D + 13) hF18 hs19 (by omega)
        refine ra_load rfl rfl rfl rfl ?_
        refine ra_dup rfl rfl ?_
        refine ra_getI rfl lk_0_50 (Nat.zero_le _) (sh_D hD) rfl ?_
        refine ra_gen (fun z21 hz21 => ?_)
        refine ra_iconst rfl ?_
        refine ra_iadd rfl ?_
        refine ra_gen (fun z22 hz22 => ?_)
        refine ra_putI rfl lk_0_50 (Nat.zero_le _) (sh_D hD) rfl rfl ?_
        refine ra_new Fr_up (fun s23 hs23 => ?_)
        have hF24 := Fr_tr (lo := D) (hi := D + 13) hF20 hs23 (by omega)
        refine ra_load rfl rfl rfl rfl ?_
        refine ra_load rfl rfl rfl rfl ?_
        refine ra_iconst rfl ?_
        refine ra_cV (sp_25 hD hi2 (by first | omega | (unfold ra_in at *; omega))) rfl (ct_25 rfl lk_0_229 (Or.inl rfl) (sh_D hD) (Nat.le_of_ble_eq_true rfl)) (fun s25 hs25 => ?_)
        have hF26 := Fr_tr (lo := D) (hi := D + 13) hF24 hs25 (by omega)
        refine ra_load rfl rfl rfl rfl ?_
        refine ra_getK rfl lk_0_91 (Nat.zero_le _) (sh_P hD hi2) rfl ?_
        exact ra_ireturn rfl rfl ⟨⟨_, (by first | omega | (unfold ra_in at *; omega)), rfl⟩, hF26⟩
theorem sp_33 {n : Nat} {f : Nat → Int32} {d : Nat} {D : Nat} {x0 : Int} {x1 : Int} {x2 : Int} {x3 : Int} {σ : ra_V} (hD : isD D) (hx0 : ra_in x0) (hx1 : ra_in x1) (hx2 : ra_in x2) (hx3 : ra_in x3) : ra_C (g_Gs n f) g_sh 0 (d + 3) 33 [.index (D), ra_I x0, ra_I x1, ra_I x2, ra_I x3] σ (fun r s => rI r ∧ Fr (D) (D + 13) σ s) := by
  refine ra_enter (nn := 4) mt_33 rfl (Nat.le_of_ble_eq_true rfl) rfl (fun h => absurd h (by decide +kernel)) ?_
  refine ra_load rfl rfl rfl rfl ?_
  refine ra_getR rfl lk_0_17 (Nat.zero_le _) (sh_D hD) rfl ?_
  refine ra_store (L' := [_, _, _, _, _, _, _, _, _]) rfl rfl rfl (Nat.le_of_ble_eq_true rfl) rfl ?_
  refine ra_load rfl rfl rfl rfl ?_
  refine ra_alen rfl (sh_D2 hD) rfl ?_
  refine ra_store (L' := [_, _, _, _, _, _, _, _, _]) rfl rfl rfl (Nat.le_of_ble_eq_true rfl) rfl ?_
  refine ra_iconst rfl ?_
  refine ra_store (L' := [_, _, _, _, _, _, _, _, _]) rfl rfl rfl (Nat.le_of_ble_eq_true rfl) rfl ?_
  exact ra_weak (by repeat' constructor) (lp_33_14 hD hx0 hx1 hx2 hx3 _ (0) σ (by first | omega | (unfold ra_in at *; omega)) (by first | omega | (unfold ra_in at *; omega)) Fr_rf (Nat.lt_succ_self _))
theorem sp_34 {n : Nat} {f : Nat → Int32} {d : Nat} {D : Nat} {i0 : Nat} {x1 : Int} {σ : ra_V} (hD : isD D) (hi0 : i0 < 8) (hx1 : ra_in x1) : ra_C (g_Gs n f) g_sh 0 (d + 3) 34 [.index (D), .index (D + 5 + i0), ra_I x1] σ (fun r s => rV r ∧ Fr (D) (D + 13) σ s) := by
  refine ra_enter (nn := 1) mt_34 rfl (Nat.le_of_ble_eq_true rfl) rfl (fun h => absurd h (by decide +kernel)) ?_
  refine ra_load rfl rfl rfl rfl ?_
  refine ra_getI rfl lk_0_65 (Nat.zero_le _) (sh_P hD hi0) rfl ?_
  refine ra_gen (fun z1 hz1 => ?_)
  refine ra_store (L' := [_, _, _, _]) rfl rfl rfl (Nat.le_of_ble_eq_true rfl) rfl ?_
  refine ra_load rfl rfl rfl rfl ?_
  refine ra_load rfl rfl rfl rfl ?_
  refine ra_putI rfl lk_0_65 (Nat.zero_le _) (sh_P hD hi0) rfl rfl ?_
  refine ra_new Fr_up (fun s2 hs2 => ?_)
  have hF3 := Fr_tr (lo := D) (hi := D + 13) Fr_rf hs2 (by omega)
  refine ra_load rfl rfl rfl rfl ?_
  refine ra_load rfl rfl rfl rfl ?_
  refine ra_load rfl rfl rfl rfl ?_
  refine ra_cV (sp_25 hD hi0 hz1) rfl (ct_25 rfl lk_0_229 (Or.inl rfl) (sh_D hD) (Nat.le_of_ble_eq_true rfl)) (fun s4 hs4 => ?_)
  have hF5 := Fr_tr (lo := D) (hi := D + 13) hF3 hs4 (by omega)
  exact ra_return rfl rfl ⟨rfl, hF5⟩
theorem sp_35 {n : Nat} {f : Nat → Int32} {d : Nat} {D : Nat} {i0 : Nat} {x1 : Int} {x2 : Int} {σ : ra_V} (hD : isD D) (hi0 : i0 < 8) (hx1 : ra_in x1) (hx2 : ra_in x2) : ra_C (g_Gs n f) g_sh 0 (d + 5) 35 [.index (D), .index (D + 5 + i0), ra_I x1, ra_I x2] σ (fun r s => rI r ∧ s = σ) := by
  refine ra_enter (nn := 0) mt_35 rfl (Nat.le_of_ble_eq_true rfl) rfl (fun h => absurd h (by decide +kernel)) ?_
  refine ra_load rfl rfl rfl rfl ?_
  refine ra_load rfl rfl rfl rfl ?_
  refine ra_load rfl rfl rfl rfl ?_
  refine ra_load rfl rfl rfl rfl ?_
  refine ra_cIp (sp_19 hD hi0 hx1 hx2) rfl (ct_19 rfl lk_0_233 (Or.inl rfl) (sh_D hD) (Nat.le_of_ble_eq_true rfl)) (fun z2 hz2 => ?_)
  refine ra_ifeq rfl rfl hz2 (fun h3 => ?_) (fun h3 => ?_)
  · refine ra_load rfl rfl rfl rfl ?_
    refine ra_getI rfl lk_0_65 (Nat.zero_le _) (sh_P hD hi0) rfl ?_
    refine ra_gen (fun z4 hz4 => ?_)
    refine ra_load rfl rfl rfl rfl ?_
    refine ra_load rfl rfl rfl rfl ?_
    refine ra_getI rfl lk_0_85 (Nat.zero_le _) (sh_P hD hi0) rfl ?_
    refine ra_gen (fun z5 hz5 => ?_)
    refine ra_load rfl rfl rfl rfl ?_
    refine ra_cIp (sp_188 hz5 hx1) rfl (ct_188 rfl lk_0_165 (Or.inr ⟨rfl, rfl⟩) (Nat.le_of_ble_eq_true rfl)) (fun z7 hz7 => ?_)
    refine ra_cIp (sp_190 hz4 hx2 hz7) rfl (ct_190 rfl lk_0_236 (Or.inr ⟨rfl, rfl⟩) (Nat.le_of_ble_eq_true rfl)) (fun z9 hz9 => ?_)
    exact ra_ireturn rfl rfl ⟨⟨_, hz9, rfl⟩, rfl⟩
  · refine ra_iconst rfl ?_
    exact ra_ireturn rfl rfl ⟨⟨_, (by first | omega | (unfold ra_in at *; omega)), rfl⟩, rfl⟩
theorem sp_36 {n : Nat} {f : Nat → Int32} {d : Nat} {D : Nat} {i0 : Nat} {x1 : Int} {σ : ra_V} (hD : isD D) (hi0 : i0 < 8) (hx1 : ra_in x1) : ra_C (g_Gs n f) g_sh 0 (d + 4) 36 [.index (D), .index (D + 5 + i0), ra_I x1] σ (fun r s => rV r ∧ Fr (D + 3) (D + 4) σ s) := by
  refine ra_enter (nn := 0) mt_36 rfl (Nat.le_of_ble_eq_true rfl) rfl (fun h => absurd h (by decide +kernel)) ?_
  refine ra_load rfl rfl rfl rfl ?_
  refine ra_getR rfl lk_0_24 (Nat.zero_le _) (sh_D hD) rfl ?_
  refine ra_load rfl rfl rfl rfl ?_
  refine ra_load rfl rfl rfl rfl ?_
  refine ra_load rfl rfl rfl rfl ?_
  refine ra_load rfl rfl rfl rfl ?_
  refine ra_getI rfl lk_0_47 (Nat.zero_le _) (sh_D hD) rfl ?_
  refine ra_cBp (sp_20 hD hi0 hx1 (ra_in_g _ _ _)) rfl (ct_20 rfl lk_0_158 (Or.inl rfl) (sh_D hD) (Nat.le_of_ble_eq_true rfl)) (fun z2 hz2 => ?_)
  refine ra_ifeq rfl rfl (ra_in01 hz2) (fun h3 => ?_) (fun h3 => ?_)
  · refine ra_iconst rfl ?_
    refine ra_putI rfl lk_0_205 (Nat.zero_le _) (sh_D3 hD) rfl rfl ?_
    refine ra_new Fr_up (fun s4 hs4 => ?_)
    have hF5 := Fr_tr (lo := D + 3) (hi := D + 4) Fr_rf hs4 (by omega)
    refine ra_load rfl rfl rfl rfl ?_
    refine ra_getR rfl lk_0_24 (Nat.zero_le _) (sh_D hD) rfl ?_
    refine ra_load rfl rfl rfl rfl ?_
    refine ra_getK rfl lk_0_91 (Nat.zero_le _) (sh_P hD hi0) rfl ?_
    refine ra_putI rfl lk_0_88 (Nat.zero_le _) (sh_D3 hD) rfl rfl ?_
    refine ra_new Fr_up (fun s6 hs6 => ?_)
    have hF7 := Fr_tr (lo := D + 3) (hi := D + 4) hF5 hs6 (by omega)
    refine ra_load rfl rfl rfl rfl ?_
    refine ra_getR rfl lk_0_24 (Nat.zero_le _) (sh_D hD) rfl ?_
    refine ra_load rfl rfl rfl rfl ?_
    refine ra_getI rfl lk_0_65 (Nat.zero_le _) (sh_P hD hi0) rfl ?_
    refine ra_gen (fun z8 hz8 => ?_)
    refine ra_putI rfl lk_0_240 (Nat.zero_le _) (sh_D3 hD) rfl rfl ?_
    refine ra_new Fr_up (fun s9 hs9 => ?_)
    have hF10 := Fr_tr (lo := D + 3) (hi := D + 4) hF7 hs9 (by omega)
    refine ra_load rfl rfl rfl rfl ?_
    refine ra_getR rfl lk_0_24 (Nat.zero_le _) (sh_D hD) rfl ?_
    refine ra_load rfl rfl rfl rfl ?_
    refine ra_getI rfl lk_0_85 (Nat.zero_le _) (sh_P hD hi0) rfl ?_
    refine ra_gen (fun z11 hz11 => ?_)
    refine ra_putI rfl lk_0_199 (Nat.zero_le _) (sh_D3 hD) rfl rfl ?_
    refine ra_new Fr_up (fun s12 hs12 => ?_)
    have hF13 := Fr_tr (lo := D + 3) (hi := D + 4) hF10 hs12 (by omega)
    refine ra_load rfl rfl rfl rfl ?_
    refine ra_getR rfl lk_0_24 (Nat.zero_le _) (sh_D hD) rfl ?_
    refine ra_load rfl rfl rfl rfl ?_
    refine ra_putI rfl lk_0_193 (Nat.zero_le _) (sh_D3 hD) rfl rfl ?_
    refine ra_new Fr_up (fun s14 hs14 => ?_)
    have hF15 := Fr_tr (lo := D + 3) (hi := D + 4) hF13 hs14 (by omega)
    refine ra_load rfl rfl rfl rfl ?_
    refine ra_getR rfl lk_0_24 (Nat.zero_le _) (sh_D hD) rfl ?_
    refine ra_load rfl rfl rfl rfl ?_
    refine ra_getI rfl lk_0_47 (Nat.zero_le _) (sh_D hD) rfl ?_
    refine ra_putI rfl lk_0_241 (Nat.zero_le _) (sh_D3 hD) rfl rfl ?_
    refine ra_new Fr_up (fun s16 hs16 => ?_)
    have hF17 := Fr_tr (lo := D + 3) (hi := D + 4) hF15 hs16 (by omega)
    refine ra_load rfl rfl rfl rfl ?_
    refine ra_getR rfl lk_0_24 (Nat.zero_le _) (sh_D hD) rfl ?_
    refine ra_load rfl rfl rfl rfl ?_
    refine ra_getI rfl lk_0_47 (Nat.zero_le _) (sh_D hD) rfl ?_
    refine ra_iconst rfl ?_
    refine ra_icge rfl rfl (ra_in_g _ _ _) (by first | omega | (unfold ra_in at *; omega)) (fun h18 => ?_) (fun h18 => ?_)
    · refine ra_load rfl rfl rfl rfl ?_
      refine ra_getI rfl lk_0_65 (Nat.zero_le _) (sh_P hD hi0) rfl ?_
      refine ra_gen (fun z19 hz19 => ?_)
      refine ra_load rfl rfl rfl rfl ?_
      refine ra_getI rfl lk_0_47 (Nat.zero_le _) (sh_D hD) rfl ?_
      refine ra_iadd rfl ?_
      refine ra_gen (fun z20 hz20 => ?_)
      refine ra_iconst rfl ?_
      refine ra_isub rfl ?_
      refine ra_gen (fun z21 hz21 => ?_)
      refine ra_load rfl rfl rfl rfl ?_
      refine ra_getI rfl lk_0_47 (Nat.zero_le _) (sh_D hD) rfl ?_
      refine ra_idiv rfl hz21 (ra_in_g _ _ _) (by omega) ?_
      refine ra_gen (fun z22 hz22 => ?_)
      refine ra_putI rfl lk_0_242 (Nat.zero_le _) (sh_D3 hD) rfl rfl ?_
      refine ra_new Fr_up (fun s23 hs23 => ?_)
      have hF24 := Fr_tr (lo := D + 3) (hi := D + 4) hF17 hs23 (by omega)
      refine ra_load rfl rfl rfl rfl ?_
      refine ra_getR rfl lk_0_24 (Nat.zero_le _) (sh_D hD) rfl ?_
      refine ra_iconst rfl ?_
      refine ra_putI rfl lk_0_245 (Nat.zero_le _) (sh_D3 hD) rfl rfl ?_
      refine ra_new Fr_up (fun s25 hs25 => ?_)
      have hF26 := Fr_tr (lo := D + 3) (hi := D + 4) hF24 hs25 (by omega)
      refine ra_load rfl rfl rfl rfl ?_
      refine ra_getR rfl lk_0_24 (Nat.zero_le _) (sh_D hD) rfl ?_
      refine ra_iconst rfl ?_
      refine ra_putB rfl lk_0_202 (Nat.zero_le _) (sh_D3 hD) rfl rfl (Or.inl rfl) ?_
      refine ra_new Fr_up (fun s27 hs27 => ?_)
      have hF28 := Fr_tr (lo := D + 3) (hi := D + 4) hF26 hs27 (by omega)
      exact ra_return rfl rfl ⟨rfl, hF28⟩
    · refine ra_iconst rfl ?_
      refine ra_goto rfl rfl ?_
      refine ra_putI rfl lk_0_242 (Nat.zero_le _) (sh_D3 hD) rfl rfl ?_
      refine ra_new Fr_up (fun s29 hs29 => ?_)
      have hF30 := Fr_tr (lo := D + 3) (hi := D + 4) hF17 hs29 (by omega)
      refine ra_load rfl rfl rfl rfl ?_
      refine ra_getR rfl lk_0_24 (Nat.zero_le _) (sh_D hD) rfl ?_
      refine ra_iconst rfl ?_
      refine ra_putI rfl lk_0_245 (Nat.zero_le _) (sh_D3 hD) rfl rfl ?_
      refine ra_new Fr_up (fun s31 hs31 => ?_)
      have hF32 := Fr_tr (lo := D + 3) (hi := D + 4) hF30 hs31 (by omega)
      refine ra_load rfl rfl rfl rfl ?_
      refine ra_getR rfl lk_0_24 (Nat.zero_le _) (sh_D hD) rfl ?_
      refine ra_iconst rfl ?_
      refine ra_putB rfl lk_0_202 (Nat.zero_le _) (sh_D3 hD) rfl rfl (Or.inl rfl) ?_
      refine ra_new Fr_up (fun s33 hs33 => ?_)
      have hF34 := Fr_tr (lo := D + 3) (hi := D + 4) hF32 hs33 (by omega)
      exact ra_return rfl rfl ⟨rfl, hF34⟩
  · refine ra_load rfl rfl rfl rfl ?_
    refine ra_load rfl rfl rfl rfl ?_
    refine ra_load rfl rfl rfl rfl ?_
    refine ra_load rfl rfl rfl rfl ?_
    refine ra_getI rfl lk_0_47 (Nat.zero_le _) (sh_D hD) rfl ?_
    refine ra_cIp (sp_21 hD hi0 hx1 (ra_in_g _ _ _)) rfl (ct_21 rfl lk_0_162 (Or.inl rfl) (sh_D hD) (Nat.le_of_ble_eq_true rfl)) (fun z36 hz36 => ?_)
    refine ra_goto rfl rfl ?_
    refine ra_putI rfl lk_0_205 (Nat.zero_le _) (sh_D3 hD) rfl rfl ?_
    refine ra_new Fr_up (fun s37 hs37 => ?_)
    have hF38 := Fr_tr (lo := D + 3) (hi := D + 4) Fr_rf hs37 (by omega)
    refine ra_load rfl rfl rfl rfl ?_
    refine ra_getR rfl lk_0_24 (Nat.zero_le _) (sh_D hD) rfl ?_
    refine ra_load rfl rfl rfl rfl ?_
    refine ra_getK rfl lk_0_91 (Nat.zero_le _) (sh_P hD hi0) rfl ?_
    refine ra_putI rfl lk_0_88 (Nat.zero_le _) (sh_D3 hD) rfl rfl ?_
    refine ra_new Fr_up (fun s39 hs39 => ?_)
    have hF40 := Fr_tr (lo := D + 3) (hi := D + 4) hF38 hs39 (by omega)
    refine ra_load rfl rfl rfl rfl ?_
    refine ra_getR rfl lk_0_24 (Nat.zero_le _) (sh_D hD) rfl ?_
    refine ra_load rfl rfl rfl rfl ?_
    refine ra_getI rfl lk_0_65 (Nat.zero_le _) (sh_P hD hi0) rfl ?_
    refine ra_gen (fun z41 hz41 => ?_)
    refine ra_putI rfl lk_0_240 (Nat.zero_le _) (sh_D3 hD) rfl rfl ?_
    refine ra_new Fr_up (fun s42 hs42 => ?_)
    have hF43 := Fr_tr (lo := D + 3) (hi := D + 4) hF40 hs42 (by omega)
    refine ra_load rfl rfl rfl rfl ?_
    refine ra_getR rfl lk_0_24 (Nat.zero_le _) (sh_D hD) rfl ?_
    refine ra_load rfl rfl rfl rfl ?_
    refine ra_getI rfl lk_0_85 (Nat.zero_le _) (sh_P hD hi0) rfl ?_
    refine ra_gen (fun z44 hz44 => ?_)
    refine ra_putI rfl lk_0_199 (Nat.zero_le _) (sh_D3 hD) rfl rfl ?_
    refine ra_new Fr_up (fun s45 hs45 => ?_)
    have hF46 := Fr_tr (lo := D + 3) (hi := D + 4) hF43 hs45 (by omega)
    refine ra_load rfl rfl rfl rfl ?_
    refine ra_getR rfl lk_0_24 (Nat.zero_le _) (sh_D hD) rfl ?_
    refine ra_load rfl rfl rfl rfl ?_
    refine ra_putI rfl lk_0_193 (Nat.zero_le _) (sh_D3 hD) rfl rfl ?_
    refine ra_new Fr_up (fun s47 hs47 => ?_)
    have hF48 := Fr_tr (lo := D + 3) (hi := D + 4) hF46 hs47 (by omega)
    refine ra_load rfl rfl rfl rfl ?_
    refine ra_getR rfl lk_0_24 (Nat.zero_le _) (sh_D hD) rfl ?_
    refine ra_load rfl rfl rfl rfl ?_
    refine ra_getI rfl lk_0_47 (Nat.zero_le _) (sh_D hD) rfl ?_
    refine ra_putI rfl lk_0_241 (Nat.zero_le _) (sh_D3 hD) rfl rfl ?_
    refine ra_new Fr_up (fun s49 hs49 => ?_)
    have hF50 := Fr_tr (lo := D + 3) (hi := D + 4) hF48 hs49 (by omega)
    refine ra_load rfl rfl rfl rfl ?_
    refine ra_getR rfl lk_0_24 (Nat.zero_le _) (sh_D hD) rfl ?_
    refine ra_load rfl rfl rfl rfl ?_
    refine ra_getI rfl lk_0_47 (Nat.zero_le _) (sh_D hD) rfl ?_
    refine ra_iconst rfl ?_
    refine ra_icge rfl rfl (ra_in_g _ _ _) (by first | omega | (unfold ra_in at *; omega)) (fun h51 => ?_) (fun h51 => ?_)
    · refine ra_load rfl rfl rfl rfl ?_
      refine ra_getI rfl lk_0_65 (Nat.zero_le _) (sh_P hD hi0) rfl ?_
      refine ra_gen (fun z52 hz52 => ?_)
      refine ra_load rfl rfl rfl rfl ?_
      refine ra_getI rfl lk_0_47 (Nat.zero_le _) (sh_D hD) rfl ?_
      refine ra_iadd rfl ?_
      refine ra_gen (fun z53 hz53 => ?_)
      refine ra_iconst rfl ?_
      refine ra_isub rfl ?_
      refine ra_gen (fun z54 hz54 => ?_)
      refine ra_load rfl rfl rfl rfl ?_
      refine ra_getI rfl lk_0_47 (Nat.zero_le _) (sh_D hD) rfl ?_
      refine ra_idiv rfl hz54 (ra_in_g _ _ _) (by omega) ?_
      refine ra_gen (fun z55 hz55 => ?_)
      refine ra_putI rfl lk_0_242 (Nat.zero_le _) (sh_D3 hD) rfl rfl ?_
      refine ra_new Fr_up (fun s56 hs56 => ?_)
      have hF57 := Fr_tr (lo := D + 3) (hi := D + 4) hF50 hs56 (by omega)
      refine ra_load rfl rfl rfl rfl ?_
      refine ra_getR rfl lk_0_24 (Nat.zero_le _) (sh_D hD) rfl ?_
      refine ra_iconst rfl ?_
      refine ra_putI rfl lk_0_245 (Nat.zero_le _) (sh_D3 hD) rfl rfl ?_
      refine ra_new Fr_up (fun s58 hs58 => ?_)
      have hF59 := Fr_tr (lo := D + 3) (hi := D + 4) hF57 hs58 (by omega)
      refine ra_load rfl rfl rfl rfl ?_
      refine ra_getR rfl lk_0_24 (Nat.zero_le _) (sh_D hD) rfl ?_
      refine ra_iconst rfl ?_
      refine ra_putB rfl lk_0_202 (Nat.zero_le _) (sh_D3 hD) rfl rfl (Or.inl rfl) ?_
      refine ra_new Fr_up (fun s60 hs60 => ?_)
      have hF61 := Fr_tr (lo := D + 3) (hi := D + 4) hF59 hs60 (by omega)
      exact ra_return rfl rfl ⟨rfl, hF61⟩
    · refine ra_iconst rfl ?_
      refine ra_goto rfl rfl ?_
      refine ra_putI rfl lk_0_242 (Nat.zero_le _) (sh_D3 hD) rfl rfl ?_
      refine ra_new Fr_up (fun s62 hs62 => ?_)
      have hF63 := Fr_tr (lo := D + 3) (hi := D + 4) hF50 hs62 (by omega)
      refine ra_load rfl rfl rfl rfl ?_
      refine ra_getR rfl lk_0_24 (Nat.zero_le _) (sh_D hD) rfl ?_
      refine ra_iconst rfl ?_
      refine ra_putI rfl lk_0_245 (Nat.zero_le _) (sh_D3 hD) rfl rfl ?_
      refine ra_new Fr_up (fun s64 hs64 => ?_)
      have hF65 := Fr_tr (lo := D + 3) (hi := D + 4) hF63 hs64 (by omega)
      refine ra_load rfl rfl rfl rfl ?_
      refine ra_getR rfl lk_0_24 (Nat.zero_le _) (sh_D hD) rfl ?_
      refine ra_iconst rfl ?_
      refine ra_putB rfl lk_0_202 (Nat.zero_le _) (sh_D3 hD) rfl rfl (Or.inl rfl) ?_
      refine ra_new Fr_up (fun s66 hs66 => ?_)
      have hF67 := Fr_tr (lo := D + 3) (hi := D + 4) hF65 hs66 (by omega)
      exact ra_return rfl rfl ⟨rfl, hF67⟩
theorem lp_40_3 {n : Nat} {f : Nat → Int32} {d : Nat} {D : Nat} {x0 : Int} {x1 : Int} {x2 : Int} {σ : ra_V} (hD : isD D) (hx0 : ra_in x0) (hx1 : ra_in x1) (hx2 : ra_in x2) : ∀ (nn : Nat) (v4 : Int) (s : ra_V) (hv4_0 : ra_in v4) (hF : Fr (D + 1) (D + 2) σ s) (hm : ((x2 - v4 : Int)).toNat < nn), ra_P (g_Gs n f) g_sh 0 (d + 1) g_m_X0_copySectors 3 [some (.index (D)), some (ra_I x0), some (ra_I x1), some (ra_I x2), some (ra_I v4)] [] s (fun r s => rV r ∧ Fr (D + 1) (D + 2) σ s) := by
  intro nn
  induction nn with
  | zero => intro v4 s hv4_0 hF hm; exact absurd hm (Nat.not_lt_zero _)
  | succ nn ih =>
    intro v4 s hv4_0 hF hm
    refine ra_load rfl rfl rfl rfl ?_
    refine ra_load rfl rfl rfl rfl ?_
    refine ra_icge rfl rfl (by first | omega | (unfold ra_in at *; omega)) hx2 (fun h1 => ?_) (fun h1 => ?_)
    · exact ra_return rfl rfl ⟨rfl, hF⟩
    · refine ra_load rfl rfl rfl rfl ?_
      refine ra_load rfl rfl rfl rfl ?_
      refine ra_load rfl rfl rfl rfl ?_
      refine ra_iadd rfl ?_
      refine ra_gen (fun z2 hz2 => ?_)
      refine ra_load rfl rfl rfl rfl ?_
      refine ra_load rfl rfl rfl rfl ?_
      refine ra_load rfl rfl rfl rfl ?_
      refine ra_iadd rfl ?_
      refine ra_gen (fun z3 hz3 => ?_)
      refine ra_cIp (sp_23 hD hz3) rfl (ct_23 rfl lk_0_214 (Or.inl rfl) (sh_D hD) (Nat.le_of_ble_eq_true rfl)) (fun z5 hz5 => ?_)
      refine ra_cV (sp_24 hD hz2 hz5) rfl (ct_24 rfl lk_0_179 (Or.inl rfl) (sh_D hD) (Nat.le_of_ble_eq_true rfl)) (fun s6 hs6 => ?_)
      have hF7 := Fr_tr (lo := D + 1) (hi := D + 2) hF hs6 (by omega)
      refine ra_iinc (L' := [_, _, _, _, _]) rfl rfl (Nat.le_of_ble_eq_true rfl) rfl ?_
      refine ra_goto rfl rfl ?_
      exact ra_weak (by repeat' constructor) (ih (v4 + 1) s6 (by first | omega | (unfold ra_in at *; omega)) hF7 (by first | omega | (unfold ra_in at *; omega)))
theorem sp_40 {n : Nat} {f : Nat → Int32} {d : Nat} {D : Nat} {x0 : Int} {x1 : Int} {x2 : Int} {σ : ra_V} (hD : isD D) (hx0 : ra_in x0) (hx1 : ra_in x1) (hx2 : ra_in x2) : ra_C (g_Gs n f) g_sh 0 (d + 2) 40 [.index (D), ra_I x0, ra_I x1, ra_I x2] σ (fun r s => rV r ∧ Fr (D + 1) (D + 2) σ s) := by
  refine ra_enter (nn := 1) mt_40 rfl (Nat.le_of_ble_eq_true rfl) rfl (fun h => absurd h (by decide +kernel)) ?_
  refine ra_iconst rfl ?_
  refine ra_store (L' := [_, _, _, _, _]) rfl rfl rfl (Nat.le_of_ble_eq_true rfl) rfl ?_
  exact ra_weak (by repeat' constructor) (lp_40_3 hD hx0 hx1 hx2 _ (0) σ (by first | omega | (unfold ra_in at *; omega)) Fr_rf (Nat.lt_succ_self _))
theorem sp_68 {n : Nat} {f : Nat → Int32} {d : Nat} {D : Nat} {σ : ra_V} (hD : isD D) : ra_C (g_Gs n f) g_sh 0 (d + 1) 68 [.index (D + 3)] σ (fun r s => rV r ∧ Fr (D + 3) (D + 4) σ s) := by
  refine ra_enter (nn := 0) mt_68 rfl (Nat.le_of_ble_eq_true rfl) rfl (fun h => absurd h (by decide +kernel)) ?_
  refine ra_load rfl rfl rfl rfl ?_
  refine ra_iconst rfl ?_
  refine ra_putI rfl lk_3_9 (Nat.zero_le _) (sh_D3 hD) rfl rfl ?_
  refine ra_new Fr_up (fun s1 hs1 => ?_)
  have hF2 := Fr_tr (lo := D + 3) (hi := D + 4) Fr_rf hs1 (by omega)
  exact ra_return rfl rfl ⟨rfl, hF2⟩
theorem sp_41 {n : Nat} {f : Nat → Int32} {d : Nat} {D : Nat} {σ : ra_V} (hD : isD D) : ra_C (g_Gs n f) g_sh 0 (d + 3) 41 [.index (D)] σ (fun r s => rV r ∧ Fr (D) (D + 13) σ s) := by
  refine ra_enter (nn := 1) mt_41 rfl (Nat.le_of_ble_eq_true rfl) rfl (fun h => absurd h (by decide +kernel)) ?_
  refine ra_load rfl rfl rfl rfl ?_
  refine ra_load rfl rfl rfl rfl ?_
  refine ra_getR rfl lk_0_24 (Nat.zero_le _) (sh_D hD) rfl ?_
  refine ra_getI rfl lk_0_88 (Nat.zero_le _) (sh_D3 hD) rfl ?_
  refine ra_gen (fun z1 hz1 => ?_)
  refine ra_cPp (sp_3 hD hz1) rfl (ct_3 rfl lk_0_186 (Or.inl rfl) (sh_D hD) (Nat.le_of_ble_eq_true rfl)) ?_ (fun j3 hj3 => ?_)
  · refine ra_store (L' := [_, _]) rfl rfl rfl (Nat.le_of_ble_eq_true rfl) rfl ?_
    refine ra_load rfl rfl rfl rfl ?_
    refine ra_nullT rfl rfl ?_
    refine ra_load rfl rfl rfl rfl ?_
    refine ra_dup rfl rfl ?_
    refine ra_getI rfl lk_0_59 (Nat.zero_le _) (sh_D hD) rfl ?_
    refine ra_gen (fun z4 hz4 => ?_)
    refine ra_iconst rfl ?_
    refine ra_iadd rfl ?_
    refine ra_gen (fun z5 hz5 => ?_)
    refine ra_putI rfl lk_0_59 (Nat.zero_le _) (sh_D hD) rfl rfl ?_
    refine ra_new Fr_up (fun s6 hs6 => ?_)
    have hF7 := Fr_tr (lo := D) (hi := D + 13) Fr_rf hs6 (by omega)
    refine ra_load rfl rfl rfl rfl ?_
    refine ra_getR rfl lk_0_24 (Nat.zero_le _) (sh_D hD) rfl ?_
    refine ra_cV (sp_68 hD) rfl (ct_68 rfl lk_0_62 (Or.inl rfl) (sh_D3 hD) (Nat.le_of_ble_eq_true rfl)) (fun s8 hs8 => ?_)
    have hF9 := Fr_tr (lo := D) (hi := D + 13) hF7 hs8 (by omega)
    exact ra_return rfl rfl ⟨rfl, hF9⟩
  · refine ra_store (L' := [_, _]) rfl rfl rfl (Nat.le_of_ble_eq_true rfl) rfl ?_
    refine ra_load rfl rfl rfl rfl ?_
    refine ra_nullF rfl rfl ?_
    refine ra_load rfl rfl rfl rfl ?_
    refine ra_load rfl rfl rfl rfl ?_
    refine ra_getR rfl lk_0_24 (Nat.zero_le _) (sh_D hD) rfl ?_
    refine ra_getI rfl lk_0_193 (Nat.zero_le _) (sh_D3 hD) rfl ?_
    refine ra_gen (fun z10 hz10 => ?_)
    refine ra_putI rfl lk_0_85 (Nat.zero_le _) (sh_P hD hj3) rfl rfl ?_
    refine ra_new Fr_up (fun s11 hs11 => ?_)
    have hF12 := Fr_tr (lo := D) (hi := D + 13) Fr_rf hs11 (by omega)
    refine ra_load rfl rfl rfl rfl ?_
    refine ra_dup rfl rfl ?_
    refine ra_getI rfl lk_0_226 (Nat.zero_le _) (sh_P hD hj3) rfl ?_
    refine ra_gen (fun z13 hz13 => ?_)
    refine ra_iconst rfl ?_
    refine ra_iadd rfl ?_
    refine ra_gen (fun z14 hz14 => ?_)
    refine ra_putI rfl lk_0_226 (Nat.zero_le _) (sh_P hD hj3) rfl rfl ?_
    refine ra_new Fr_up (fun s15 hs15 => ?_)
    have hF16 := Fr_tr (lo := D) (hi := D + 13) hF12 hs15 (by omega)
    refine ra_load rfl rfl rfl rfl ?_
    refine ra_dup rfl rfl ?_
    refine ra_getI rfl lk_0_59 (Nat.zero_le _) (sh_D hD) rfl ?_
    refine ra_gen (fun z17 hz17 => ?_)
    refine ra_iconst rfl ?_
    refine ra_iadd rfl ?_
    refine ra_gen (fun z18 hz18 => ?_)
    refine ra_putI rfl lk_0_59 (Nat.zero_le _) (sh_D hD) rfl rfl ?_
    refine ra_new Fr_up (fun s19 hs19 => ?_)
    have hF20 := Fr_tr (lo := D) (hi := D + 13) hF16 hs19 (by omega)
    refine ra_load rfl rfl rfl rfl ?_
    refine ra_getR rfl lk_0_24 (Nat.zero_le _) (sh_D hD) rfl ?_
    refine ra_cV (sp_68 hD) rfl (ct_68 rfl lk_0_62 (Or.inl rfl) (sh_D3 hD) (Nat.le_of_ble_eq_true rfl)) (fun s21 hs21 => ?_)
    have hF22 := Fr_tr (lo := D) (hi := D + 13) hF20 hs21 (by omega)
    exact ra_return rfl rfl ⟨rfl, hF22⟩
theorem sp_38 {n : Nat} {f : Nat → Int32} {d : Nat} {D : Nat} {σ : ra_V} (hD : isD D) : ra_C (g_Gs n f) g_sh 0 (d + 5) 38 [.index (D)] σ (fun r s => rV r ∧ Fr (D) (D + 13) σ s) := by
  refine ra_enter (nn := 1) mt_38 rfl (Nat.le_of_ble_eq_true rfl) rfl (fun h => absurd h (by decide +kernel)) ?_
  refine ra_load rfl rfl rfl rfl ?_
  refine ra_getR rfl lk_0_24 (Nat.zero_le _) (sh_D hD) rfl ?_
  refine ra_cIp (sp_72 hD) rfl (ct_72 rfl lk_0_208 (Or.inl rfl) (sh_D3 hD) (Nat.le_of_ble_eq_true rfl)) (fun z2 hz2 => ?_)
  refine ra_store (L' := [_, _]) rfl rfl rfl (Nat.le_of_ble_eq_true rfl) rfl ?_
  refine ra_load rfl rfl rfl rfl ?_
  refine ra_load rfl rfl rfl rfl ?_
  refine ra_getR rfl lk_0_24 (Nat.zero_le _) (sh_D hD) rfl ?_
  refine ra_load rfl rfl rfl rfl ?_
  refine ra_cIp (sp_75 hD hz2) rfl (ct_75 rfl lk_0_251 (Or.inl rfl) (sh_D3 hD) (Nat.le_of_ble_eq_true rfl)) (fun z4 hz4 => ?_)
  refine ra_load rfl rfl rfl rfl ?_
  refine ra_getR rfl lk_0_24 (Nat.zero_le _) (sh_D hD) rfl ?_
  refine ra_load rfl rfl rfl rfl ?_
  refine ra_cIp (sp_76 hD hz2) rfl (ct_76 rfl lk_0_254 (Or.inl rfl) (sh_D3 hD) (Nat.le_of_ble_eq_true rfl)) (fun z6 hz6 => ?_)
  refine ra_load rfl rfl rfl rfl ?_
  refine ra_getR rfl lk_0_24 (Nat.zero_le _) (sh_D hD) rfl ?_
  refine ra_cIp (sp_73 hD) rfl (ct_73 rfl lk_0_257 (Or.inl rfl) (sh_D3 hD) (Nat.le_of_ble_eq_true rfl)) (fun z8 hz8 => ?_)
  refine ra_cV (sp_40 hD hz4 hz6 hz8) rfl (ct_40 rfl lk_0_260 (Or.inl rfl) (sh_D hD) (Nat.le_of_ble_eq_true rfl)) (fun s9 hs9 => ?_)
  have hF10 := Fr_tr (lo := D) (hi := D + 13) Fr_rf hs9 (by omega)
  refine ra_load rfl rfl rfl rfl ?_
  refine ra_getR rfl lk_0_24 (Nat.zero_le _) (sh_D hD) rfl ?_
  refine ra_cIp (sp_74 hD) rfl (ct_74 rfl lk_0_264 (Or.inl rfl) (sh_D3 hD) (Nat.le_of_ble_eq_true rfl)) (fun z12 hz12 => ?_)
  refine ra_iconst rfl ?_
  refine ra_icne rfl rfl hz12 (by first | omega | (unfold ra_in at *; omega)) (fun h13 => ?_) (fun h13 => ?_)
  · refine ra_load rfl rfl rfl rfl ?_
    refine ra_getR rfl lk_0_24 (Nat.zero_le _) (sh_D hD) rfl ?_
    refine ra_iconst rfl ?_
    refine ra_putB rfl lk_0_202 (Nat.zero_le _) (sh_D3 hD) rfl rfl (Or.inl rfl) ?_
    refine ra_new Fr_up (fun s14 hs14 => ?_)
    have hF15 := Fr_tr (lo := D) (hi := D + 13) hF10 hs14 (by omega)
    refine ra_load rfl rfl rfl rfl ?_
    refine ra_getR rfl lk_0_24 (Nat.zero_le _) (sh_D hD) rfl ?_
    refine ra_dup rfl rfl ?_
    refine ra_getI rfl lk_0_245 (Nat.zero_le _) (sh_D3 hD) rfl ?_
    refine ra_gen (fun z16 hz16 => ?_)
    refine ra_iconst rfl ?_
    refine ra_iadd rfl ?_
    refine ra_gen (fun z17 hz17 => ?_)
    refine ra_putI rfl lk_0_245 (Nat.zero_le _) (sh_D3 hD) rfl rfl ?_
    refine ra_new Fr_up (fun s18 hs18 => ?_)
    have hF19 := Fr_tr (lo := D) (hi := D + 13) hF15 hs18 (by omega)
    refine ra_load rfl rfl rfl rfl ?_
    refine ra_getR rfl lk_0_24 (Nat.zero_le _) (sh_D hD) rfl ?_
    refine ra_getI rfl lk_0_245 (Nat.zero_le _) (sh_D3 hD) rfl ?_
    refine ra_gen (fun z20 hz20 => ?_)
    refine ra_load rfl rfl rfl rfl ?_
    refine ra_getR rfl lk_0_24 (Nat.zero_le _) (sh_D hD) rfl ?_
    refine ra_getI rfl lk_0_242 (Nat.zero_le _) (sh_D3 hD) rfl ?_
    refine ra_gen (fun z21 hz21 => ?_)
    refine ra_iclt rfl rfl hz20 hz21 (fun h22 => ?_) (fun h22 => ?_)
    · exact ra_return rfl rfl ⟨rfl, hF19⟩
    · refine ra_load rfl rfl rfl rfl ?_
      refine ra_cV (sp_41 hD) rfl (ct_41 rfl lk_0_267 (Or.inl rfl) (sh_D hD) (Nat.le_of_ble_eq_true rfl)) (fun s23 hs23 => ?_)
      have hF24 := Fr_tr (lo := D) (hi := D + 13) hF19 hs23 (by omega)
      exact ra_return rfl rfl ⟨rfl, hF24⟩
  · refine ra_load rfl rfl rfl rfl ?_
    refine ra_getR rfl lk_0_24 (Nat.zero_le _) (sh_D hD) rfl ?_
    refine ra_iconst rfl ?_
    refine ra_putB rfl lk_0_202 (Nat.zero_le _) (sh_D3 hD) rfl rfl (Or.inr rfl) ?_
    refine ra_new Fr_up (fun s25 hs25 => ?_)
    have hF26 := Fr_tr (lo := D) (hi := D + 13) hF10 hs25 (by omega)
    exact ra_return rfl rfl ⟨rfl, hF26⟩
theorem sp_39 {n : Nat} {f : Nat → Int32} {d : Nat} {D : Nat} {σ : ra_V} (hD : isD D) : ra_C (g_Gs n f) g_sh 0 (d + 5) 39 [.index (D)] σ (fun r s => rI r ∧ Fr (D) (D + 13) σ s) := by
  refine ra_enter (nn := 2) mt_39 rfl (Nat.le_of_ble_eq_true rfl) rfl (fun h => absurd h (by decide +kernel)) ?_
  refine ra_load rfl rfl rfl rfl ?_
  refine ra_getR rfl lk_0_24 (Nat.zero_le _) (sh_D hD) rfl ?_
  refine ra_cIp (sp_72 hD) rfl (ct_72 rfl lk_0_208 (Or.inl rfl) (sh_D3 hD) (Nat.le_of_ble_eq_true rfl)) (fun z2 hz2 => ?_)
  refine ra_store (L' := [_, _, _]) rfl rfl rfl (Nat.le_of_ble_eq_true rfl) rfl ?_
  refine ra_load rfl rfl rfl rfl ?_
  refine ra_getR rfl lk_0_24 (Nat.zero_le _) (sh_D hD) rfl ?_
  refine ra_cIp (sp_73 hD) rfl (ct_73 rfl lk_0_257 (Or.inl rfl) (sh_D3 hD) (Nat.le_of_ble_eq_true rfl)) (fun z4 hz4 => ?_)
  refine ra_iconst rfl ?_
  refine ra_idiv rfl hz4 (by first | omega | (unfold ra_in at *; omega)) (by omega) ?_
  refine ra_gen (fun z5 hz5 => ?_)
  refine ra_store (L' := [_, _, _]) rfl rfl rfl (Nat.le_of_ble_eq_true rfl) rfl ?_
  refine ra_load rfl rfl rfl rfl ?_
  refine ra_load rfl rfl rfl rfl ?_
  refine ra_getR rfl lk_0_24 (Nat.zero_le _) (sh_D hD) rfl ?_
  refine ra_load rfl rfl rfl rfl ?_
  refine ra_cIp (sp_75 hD hz2) rfl (ct_75 rfl lk_0_251 (Or.inl rfl) (sh_D3 hD) (Nat.le_of_ble_eq_true rfl)) (fun z7 hz7 => ?_)
  refine ra_load rfl rfl rfl rfl ?_
  refine ra_getR rfl lk_0_24 (Nat.zero_le _) (sh_D hD) rfl ?_
  refine ra_load rfl rfl rfl rfl ?_
  refine ra_cIp (sp_76 hD hz2) rfl (ct_76 rfl lk_0_254 (Or.inl rfl) (sh_D3 hD) (Nat.le_of_ble_eq_true rfl)) (fun z9 hz9 => ?_)
  refine ra_load rfl rfl rfl rfl ?_
  refine ra_cV (sp_40 hD hz7 hz9 hz5) rfl (ct_40 rfl lk_0_260 (Or.inl rfl) (sh_D hD) (Nat.le_of_ble_eq_true rfl)) (fun s10 hs10 => ?_)
  have hF11 := Fr_tr (lo := D) (hi := D + 13) Fr_rf hs10 (by omega)
  refine ra_load rfl rfl rfl rfl ?_
  refine ra_dup rfl rfl ?_
  refine ra_getI rfl lk_0_56 (Nat.zero_le _) (sh_D hD) rfl ?_
  refine ra_gen (fun z12 hz12 => ?_)
  refine ra_iconst rfl ?_
  refine ra_iadd rfl ?_
  refine ra_gen (fun z13 hz13 => ?_)
  refine ra_putI rfl lk_0_56 (Nat.zero_le _) (sh_D hD) rfl rfl ?_
  refine ra_new Fr_up (fun s14 hs14 => ?_)
  have hF15 := Fr_tr (lo := D) (hi := D + 13) hF11 hs14 (by omega)
  refine ra_load rfl rfl rfl rfl ?_
  exact ra_ireturn rfl rfl ⟨⟨_, hz5, rfl⟩, hF15⟩
theorem sp_42 {n : Nat} {f : Nat → Int32} {d : Nat} {D : Nat} {σ : ra_V} (hD : isD D) : ra_C (g_Gs n f) g_sh 0 (d + 3) 42 [.index (D)] σ (fun r s => rV r ∧ Fr (D) (D + 13) σ s) := by
  refine ra_enter (nn := 2) mt_42 rfl (Nat.le_of_ble_eq_true rfl) rfl (fun h => absurd h (by decide +kernel)) ?_
  refine ra_load rfl rfl rfl rfl ?_
  refine ra_load rfl rfl rfl rfl ?_
  refine ra_getR rfl lk_0_24 (Nat.zero_le _) (sh_D hD) rfl ?_
  refine ra_getI rfl lk_0_88 (Nat.zero_le _) (sh_D3 hD) rfl ?_
  refine ra_gen (fun z1 hz1 => ?_)
  refine ra_cPp (sp_3 hD hz1) rfl (ct_3 rfl lk_0_186 (Or.inl rfl) (sh_D hD) (Nat.le_of_ble_eq_true rfl)) ?_ (fun j3 hj3 => ?_)
  · refine ra_store (L' := [_, _, _]) rfl rfl rfl (Nat.le_of_ble_eq_true rfl) rfl ?_
    refine ra_load rfl rfl rfl rfl ?_
    refine ra_getR rfl lk_0_24 (Nat.zero_le _) (sh_D hD) rfl ?_
    refine ra_getI rfl lk_0_245 (Nat.zero_le _) (sh_D3 hD) rfl ?_
    refine ra_gen (fun z4 hz4 => ?_)
    refine ra_ifeq rfl rfl hz4 (fun h5 => ?_) (fun h5 => ?_)
    · refine ra_load rfl rfl rfl rfl ?_
      refine ra_getR rfl lk_0_24 (Nat.zero_le _) (sh_D hD) rfl ?_
      refine ra_cV (sp_68 hD) rfl (ct_68 rfl lk_0_62 (Or.inl rfl) (sh_D3 hD) (Nat.le_of_ble_eq_true rfl)) (fun s6 hs6 => ?_)
      have hF7 := Fr_tr (lo := D) (hi := D + 13) Fr_rf hs6 (by omega)
      exact ra_return rfl rfl ⟨rfl, hF7⟩
    · refine ra_load rfl rfl rfl rfl ?_
      refine ra_nnullF rfl rfl ?_
      refine ra_load rfl rfl rfl rfl ?_
      refine ra_getR rfl lk_0_24 (Nat.zero_le _) (sh_D hD) rfl ?_
      refine ra_cV (sp_68 hD) rfl (ct_68 rfl lk_0_62 (Or.inl rfl) (sh_D3 hD) (Nat.le_of_ble_eq_true rfl)) (fun s8 hs8 => ?_)
      have hF9 := Fr_tr (lo := D) (hi := D + 13) Fr_rf hs8 (by omega)
      exact ra_return rfl rfl ⟨rfl, hF9⟩
  · refine ra_store (L' := [_, _, _]) rfl rfl rfl (Nat.le_of_ble_eq_true rfl) rfl ?_
    refine ra_load rfl rfl rfl rfl ?_
    refine ra_getR rfl lk_0_24 (Nat.zero_le _) (sh_D hD) rfl ?_
    refine ra_getI rfl lk_0_245 (Nat.zero_le _) (sh_D3 hD) rfl ?_
    refine ra_gen (fun z10 hz10 => ?_)
    refine ra_ifeq rfl rfl hz10 (fun h11 => ?_) (fun h11 => ?_)
    · refine ra_load rfl rfl rfl rfl ?_
      refine ra_getR rfl lk_0_24 (Nat.zero_le _) (sh_D hD) rfl ?_
      refine ra_cV (sp_68 hD) rfl (ct_68 rfl lk_0_62 (Or.inl rfl) (sh_D3 hD) (Nat.le_of_ble_eq_true rfl)) (fun s12 hs12 => ?_)
      have hF13 := Fr_tr (lo := D) (hi := D + 13) Fr_rf hs12 (by omega)
      exact ra_return rfl rfl ⟨rfl, hF13⟩
    · refine ra_load rfl rfl rfl rfl ?_
      refine ra_nnullT rfl rfl ?_
      refine ra_load rfl rfl rfl rfl ?_
      refine ra_getR rfl lk_0_24 (Nat.zero_le _) (sh_D hD) rfl ?_
      refine ra_getI rfl lk_0_199 (Nat.zero_le _) (sh_D3 hD) rfl ?_
      refine ra_gen (fun z14 hz14 => ?_)
      refine ra_store (L' := [_, _, _]) rfl rfl rfl (Nat.le_of_ble_eq_true rfl) rfl ?_
      refine ra_load rfl rfl rfl rfl ?_
      refine ra_getR rfl lk_0_24 (Nat.zero_le _) (sh_D hD) rfl ?_
      refine ra_load rfl rfl rfl rfl ?_
      refine ra_getR rfl lk_0_24 (Nat.zero_le _) (sh_D hD) rfl ?_
      refine ra_getI rfl lk_0_193 (Nat.zero_le _) (sh_D3 hD) rfl ?_
      refine ra_gen (fun z15 hz15 => ?_)
      refine ra_putI rfl lk_0_199 (Nat.zero_le _) (sh_D3 hD) rfl rfl ?_
      refine ra_new Fr_up (fun s16 hs16 => ?_)
      have hF17 := Fr_tr (lo := D) (hi := D + 13) Fr_rf hs16 (by omega)
      refine ra_load rfl rfl rfl rfl ?_
      refine ra_getR rfl lk_0_24 (Nat.zero_le _) (sh_D hD) rfl ?_
      refine ra_load rfl rfl rfl rfl ?_
      refine ra_putI rfl lk_0_193 (Nat.zero_le _) (sh_D3 hD) rfl rfl ?_
      refine ra_new Fr_up (fun s18 hs18 => ?_)
      have hF19 := Fr_tr (lo := D) (hi := D + 13) hF17 hs18 (by omega)
      refine ra_load rfl rfl rfl rfl ?_
      refine ra_getR rfl lk_0_24 (Nat.zero_le _) (sh_D hD) rfl ?_
      refine ra_load rfl rfl rfl rfl ?_
      refine ra_getR rfl lk_0_24 (Nat.zero_le _) (sh_D hD) rfl ?_
      refine ra_getI rfl lk_0_242 (Nat.zero_le _) (sh_D3 hD) rfl ?_
      refine ra_gen (fun z20 hz20 => ?_)
      refine ra_load rfl rfl rfl rfl ?_
      refine ra_getR rfl lk_0_24 (Nat.zero_le _) (sh_D hD) rfl ?_
      refine ra_getI rfl lk_0_245 (Nat.zero_le _) (sh_D3 hD) rfl ?_
      refine ra_gen (fun z21 hz21 => ?_)
      refine ra_isub rfl ?_
      refine ra_gen (fun z22 hz22 => ?_)
      refine ra_putI rfl lk_0_245 (Nat.zero_le _) (sh_D3 hD) rfl rfl ?_
      refine ra_new Fr_up (fun s23 hs23 => ?_)
      have hF24 := Fr_tr (lo := D) (hi := D + 13) hF19 hs23 (by omega)
      refine ra_load rfl rfl rfl rfl ?_
      refine ra_load rfl rfl rfl rfl ?_
      refine ra_getR rfl lk_0_24 (Nat.zero_le _) (sh_D hD) rfl ?_
      refine ra_getI rfl lk_0_199 (Nat.zero_le _) (sh_D3 hD) rfl ?_
      refine ra_gen (fun z25 hz25 => ?_)
      refine ra_putI rfl lk_0_85 (Nat.zero_le _) (sh_P hD hj3) rfl rfl ?_
      refine ra_new Fr_up (fun s26 hs26 => ?_)
      have hF27 := Fr_tr (lo := D) (hi := D + 13) hF24 hs26 (by omega)
      exact ra_return rfl rfl ⟨rfl, hF27⟩
theorem lp_37_2 {n : Nat} {f : Nat → Int32} {d : Nat} {D : Nat} {x0 : Int} {σ : ra_V} (hD : isD D) (hx0 : ra_in x0) : ∀ (nn : Nat) (v2 : Int) (s : ra_V) (hv2_0 : ra_in v2) (hF : Fr (D) (D + 13) σ s) (hm : ((x0 - v2 : Int)).toNat < nn), ra_P (g_Gs n f) g_sh 0 (d + 5) g_m_X0_doSteps 2 [some (.index (D)), some (ra_I x0), some (ra_I v2)] [] s (fun r s => rI r ∧ Fr (D) (D + 13) σ s) := by
  intro nn
  induction nn with
  | zero => intro v2 s hv2_0 hF hm; exact absurd hm (Nat.not_lt_zero _)
  | succ nn ih =>
    intro v2 s hv2_0 hF hm
    refine ra_load rfl rfl rfl rfl ?_
    refine ra_load rfl rfl rfl rfl ?_
    refine ra_icge rfl rfl (by first | omega | (unfold ra_in at *; omega)) hx0 (fun h1 => ?_) (fun h1 => ?_)
    · refine ra_load rfl rfl rfl rfl ?_
      refine ra_dup rfl rfl ?_
      refine ra_getI rfl lk_0_53 (Nat.zero_le _) (sh_D hD) rfl ?_
      refine ra_gen (fun z2 hz2 => ?_)
      refine ra_load rfl rfl rfl rfl ?_
      refine ra_iadd rfl ?_
      refine ra_gen (fun z3 hz3 => ?_)
      refine ra_putI rfl lk_0_53 (Nat.zero_le _) (sh_D hD) rfl rfl ?_
      refine ra_new Fr_up (fun s4 hs4 => ?_)
      have hF5 := Fr_tr (lo := D) (hi := D + 13) hF hs4 (by omega)
      refine ra_load rfl rfl rfl rfl ?_
      exact ra_ireturn rfl rfl ⟨⟨_, (by first | omega | (unfold ra_in at *; omega)), rfl⟩, hF5⟩
    · refine ra_load rfl rfl rfl rfl ?_
      refine ra_getR rfl lk_0_24 (Nat.zero_le _) (sh_D hD) rfl ?_
      refine ra_cBp (sp_67 hD) rfl (ct_67 rfl lk_0_155 (Or.inl rfl) (sh_D3 hD) (Nat.le_of_ble_eq_true rfl)) (fun z7 hz7 => ?_)
      refine ra_ifeq rfl rfl (ra_in01 hz7) (fun h8 => ?_) (fun h8 => ?_)
      · refine ra_load rfl rfl rfl rfl ?_
        refine ra_dup rfl rfl ?_
        refine ra_getI rfl lk_0_53 (Nat.zero_le _) (sh_D hD) rfl ?_
        refine ra_gen (fun z9 hz9 => ?_)
        refine ra_load rfl rfl rfl rfl ?_
        refine ra_iadd rfl ?_
        refine ra_gen (fun z10 hz10 => ?_)
        refine ra_putI rfl lk_0_53 (Nat.zero_le _) (sh_D hD) rfl rfl ?_
        refine ra_new Fr_up (fun s11 hs11 => ?_)
        have hF12 := Fr_tr (lo := D) (hi := D + 13) hF hs11 (by omega)
        refine ra_load rfl rfl rfl rfl ?_
        exact ra_ireturn rfl rfl ⟨⟨_, (by first | omega | (unfold ra_in at *; omega)), rfl⟩, hF12⟩
      · refine ra_load rfl rfl rfl rfl ?_
        refine ra_cV (sp_38 hD) rfl (ct_38 rfl lk_0_248 (Or.inl rfl) (sh_D hD) (Nat.le_of_ble_eq_true rfl)) (fun s13 hs13 => ?_)
        have hF14 := Fr_tr (lo := D) (hi := D + 13) hF hs13 (by omega)
        refine ra_iinc (L' := [_, _, _]) rfl rfl (Nat.le_of_ble_eq_true rfl) rfl ?_
        refine ra_goto rfl rfl ?_
        exact ra_weak (by repeat' constructor) (ih (v2 + 1) s13 (by first | omega | (unfold ra_in at *; omega)) hF14 (by first | omega | (unfold ra_in at *; omega)))
theorem sp_37 {n : Nat} {f : Nat → Int32} {d : Nat} {D : Nat} {x0 : Int} {σ : ra_V} (hD : isD D) (hx0 : ra_in x0) : ra_C (g_Gs n f) g_sh 0 (d + 6) 37 [.index (D), ra_I x0] σ (fun r s => rI r ∧ Fr (D) (D + 13) σ s) := by
  refine ra_enter (nn := 1) mt_37 rfl (Nat.le_of_ble_eq_true rfl) rfl (fun h => absurd h (by decide +kernel)) ?_
  refine ra_iconst rfl ?_
  refine ra_store (L' := [_, _, _]) rfl rfl rfl (Nat.le_of_ble_eq_true rfl) rfl ?_
  exact ra_weak (by repeat' constructor) (lp_37_2 hD hx0 _ (0) σ (by first | omega | (unfold ra_in at *; omega)) Fr_rf (Nat.lt_succ_self _))
theorem lp_43_5 {n : Nat} {f : Nat → Int32} {d : Nat} {D : Nat} {i0 : Nat} {σ : ra_V} (hD : isD D) (hi0 : i0 < 8) : ∀ (nn : Nat) (v2 : Int) (hv2_0 : ra_in v2) (hm : ((ra_g σ (D + 5 + i0) 1 - v2 : Int)).toNat < nn), ra_P (g_Gs n f) g_sh 0 (d + 4) g_m_X0_leastStart 5 [some (.index (D)), some (.index (D + 5 + i0)), some (ra_I v2)] [] σ (fun r s => rI r ∧ s = σ) := by
  intro nn
  induction nn with
  | zero => intro v2 hv2_0 hm; exact absurd hm (Nat.not_lt_zero _)
  | succ nn ih =>
    intro v2 hv2_0 hm
    have hb := ra_in_g σ (D + 5 + i0) 1
    refine ra_load rfl rfl rfl rfl ?_
    refine ra_load rfl rfl rfl rfl ?_
    refine ra_getI rfl lk_0_85 (Nat.zero_le _) (sh_P hD hi0) rfl ?_
    refine ra_icge rfl rfl (by first | omega | (unfold ra_in at *; omega)) (ra_in_g _ _ _) (fun h2 => ?_) (fun h2 => ?_)
    · refine ra_iconst rfl ?_
      exact ra_ireturn rfl rfl ⟨⟨_, (by first | omega | (unfold ra_in at *; omega)), rfl⟩, rfl⟩
    · refine ra_load rfl rfl rfl rfl ?_
      refine ra_load rfl rfl rfl rfl ?_
      refine ra_load rfl rfl rfl rfl ?_
      refine ra_load rfl rfl rfl rfl ?_
      refine ra_getI rfl lk_0_47 (Nat.zero_le _) (sh_D hD) rfl ?_
      refine ra_gen (fun z3 hz3 => ?_)
      refine ra_cIp (sp_19 hD hi0 (by first | omega | (unfold ra_in at *; omega)) hz3) rfl (ct_19 rfl lk_0_233 (Or.inl rfl) (sh_D hD) (Nat.le_of_ble_eq_true rfl)) (fun z5 hz5 => ?_)
      refine ra_ifne rfl rfl hz5 (fun h6 => ?_) (fun h6 => ?_)
      · refine ra_iinc (L' := [_, _, _]) rfl rfl (Nat.le_of_ble_eq_true rfl) rfl ?_
        refine ra_goto rfl rfl ?_
        exact ra_weak (by repeat' constructor) (ih (v2 + 1) (by first | omega | (unfold ra_in at *; omega)) (by first | omega | (unfold ra_in at *; omega)))
      · refine ra_load rfl rfl rfl rfl ?_
        exact ra_ireturn rfl rfl ⟨⟨_, (by first | omega | (unfold ra_in at *; omega)), rfl⟩, rfl⟩
theorem sp_43 {n : Nat} {f : Nat → Int32} {d : Nat} {D : Nat} {i0 : Nat} {σ : ra_V} (hD : isD D) (hi0 : i0 < 8) : ra_C (g_Gs n f) g_sh 0 (d + 5) 43 [.index (D), .index (D + 5 + i0)] σ (fun r s => rI r ∧ s = σ) := by
  refine ra_enter (nn := 1) mt_43 rfl (Nat.le_of_ble_eq_true rfl) rfl (fun h => absurd h (by decide +kernel)) ?_
  refine ra_load rfl rfl rfl rfl ?_
  refine ra_getI rfl lk_0_38 (Nat.zero_le _) (sh_D hD) rfl ?_
  refine ra_gen (fun z1 hz1 => ?_)
  refine ra_store (L' := [_, _, _]) rfl rfl rfl (Nat.le_of_ble_eq_true rfl) rfl ?_
  exact ra_weak (by repeat' constructor) (lp_43_5 hD hi0 _ z1 hz1 (Nat.lt_succ_self _))
theorem lp_44_10 {n : Nat} {f : Nat → Int32} {d : Nat} {D : Nat} {i0 : Nat} {σ : ra_V} (hD : isD D) (hi0 : i0 < 8) : ∀ (nn : Nat) (v2 : Int) (hv2_0 : ra_in v2) (hm : ((v2 - ra_g σ (D + 5 + i0) 1 : Int)).toNat < nn), ra_P (g_Gs n f) g_sh 0 (d + 4) g_m_X0_greatestStart 10 [some (.index (D)), some (.index (D + 5 + i0)), some (ra_I v2)] [] σ (fun r s => rI r ∧ s = σ) := by
  intro nn
  induction nn with
  | zero => intro v2 hv2_0 hm; exact absurd hm (Nat.not_lt_zero _)
  | succ nn ih =>
    intro v2 hv2_0 hm
    have hb := ra_in_g σ (D + 5 + i0) 1
    refine ra_load rfl rfl rfl rfl ?_
    refine ra_load rfl rfl rfl rfl ?_
    refine ra_getI rfl lk_0_85 (Nat.zero_le _) (sh_P hD hi0) rfl ?_
    refine ra_icle rfl rfl (by first | omega | (unfold ra_in at *; omega)) (ra_in_g _ _ _) (fun h5 => ?_) (fun h5 => ?_)
    · refine ra_iconst rfl ?_
      exact ra_ireturn rfl rfl ⟨⟨_, (by first | omega | (unfold ra_in at *; omega)), rfl⟩, rfl⟩
    · refine ra_load rfl rfl rfl rfl ?_
      refine ra_load rfl rfl rfl rfl ?_
      refine ra_load rfl rfl rfl rfl ?_
      refine ra_load rfl rfl rfl rfl ?_
      refine ra_getI rfl lk_0_47 (Nat.zero_le _) (sh_D hD) rfl ?_
      refine ra_gen (fun z6 hz6 => ?_)
      refine ra_cIp (sp_19 hD hi0 (by first | omega | (unfold ra_in at *; omega)) hz6) rfl (ct_19 rfl lk_0_233 (Or.inl rfl) (sh_D hD) (Nat.le_of_ble_eq_true rfl)) (fun z8 hz8 => ?_)
      refine ra_ifne rfl rfl hz8 (fun h9 => ?_) (fun h9 => ?_)
      · refine ra_iinc (L' := [_, _, _]) rfl rfl (Nat.le_of_ble_eq_true rfl) rfl ?_
        refine ra_goto rfl rfl ?_
        exact ra_weak (by repeat' constructor) (ih (v2 + (-1)) (by first | omega | (unfold ra_in at *; omega)) (by first | omega | (unfold ra_in at *; omega)))
      · refine ra_load rfl rfl rfl rfl ?_
        exact ra_ireturn rfl rfl ⟨⟨_, (by first | omega | (unfold ra_in at *; omega)), rfl⟩, rfl⟩
theorem sp_44 {n : Nat} {f : Nat → Int32} {d : Nat} {D : Nat} {i0 : Nat} {σ : ra_V} (hD : isD D) (hi0 : i0 < 8) : ra_C (g_Gs n f) g_sh 0 (d + 5) 44 [.index (D), .index (D + 5 + i0)] σ (fun r s => rI r ∧ s = σ) := by
  refine ra_enter (nn := 1) mt_44 rfl (Nat.le_of_ble_eq_true rfl) rfl (fun h => absurd h (by decide +kernel)) ?_
  refine ra_load rfl rfl rfl rfl ?_
  refine ra_cIp (sp_9 hD) rfl (ct_9 rfl lk_0_102 (Or.inl rfl) (sh_D hD) (Nat.le_of_ble_eq_true rfl)) (fun z2 hz2 => ?_)
  refine ra_load rfl rfl rfl rfl ?_
  refine ra_getI rfl lk_0_65 (Nat.zero_le _) (sh_P hD hi0) rfl ?_
  refine ra_gen (fun z3 hz3 => ?_)
  refine ra_isub rfl ?_
  refine ra_gen (fun z4 hz4 => ?_)
  refine ra_store (L' := [_, _, _]) rfl rfl rfl (Nat.le_of_ble_eq_true rfl) rfl ?_
  exact ra_weak (by repeat' constructor) (lp_44_10 hD hi0 _ z4 hz4 (Nat.lt_succ_self _))
theorem lp_45_50 {n : Nat} {f : Nat → Int32} {d : Nat} {D : Nat} {σ : ra_V} (hD : isD D) : ∀ (nn : Nat) (v1 : Int) (v2 : Int) (v3 : Int) (s : ra_V) (hv1_0 : 0 ≤ v1) (hv1_1 : v1 ≤ 8) (hv2 : ra_in v2) (hv3_0 : 0 ≤ v3) (hv3_1 : v3 ≤ 8) (hF : Fr (D) (D + 13) σ s) (hm : ((8 - v3 : Int)).toNat < nn), ra_P (g_Gs n f) g_sh 0 (d + 6) g_m_X0_packLeft 50 [some (.index (D)), some (ra_I v1), some (ra_I v2), some (ra_I v3), none, none] [] s (fun r s => rI r ∧ Fr (D) (D + 13) σ s) := by
  intro nn
  induction nn with
  | zero => intro v1 v2 v3 s hv1_0 hv1_1 hv2 hv3_0 hv3_1 hF hm; exact absurd hm (Nat.not_lt_zero _)
  | succ nn ih =>
    intro v1 v2 v3 s hv1_0 hv1_1 hv2 hv3_0 hv3_1 hF hm
    refine ra_load rfl rfl rfl rfl ?_
    refine ra_load rfl rfl rfl rfl ?_
    refine ra_icge rfl rfl (by first | omega | (unfold ra_in at *; omega)) (by first | omega | (unfold ra_in at *; omega)) (fun h3 => ?_) (fun h3 => ?_)
    · refine ra_load rfl rfl rfl rfl ?_
      exact ra_ireturn rfl rfl ⟨⟨_, hv2, rfl⟩, hF⟩
    · refine ra_load rfl rfl rfl rfl ?_
      refine ra_load rfl rfl rfl rfl ?_
      refine ra_getR rfl lk_0_28 (Nat.zero_le _) (sh_D hD) rfl ?_
      refine ra_alen rfl (sh_D4 hD) rfl ?_
      refine ra_icge rfl rfl (by first | omega | (unfold ra_in at *; omega)) (by first | omega | (unfold ra_in at *; omega)) (fun h4 => ?_) (fun h4 => ?_)
      · refine ra_load rfl rfl rfl rfl ?_
        exact ra_ireturn rfl rfl ⟨⟨_, hv2, rfl⟩, hF⟩
      · refine ra_load rfl rfl rfl rfl ?_
        refine ra_load rfl rfl rfl rfl ?_
        refine ra_getR rfl lk_0_28 (Nat.zero_le _) (sh_D hD) rfl ?_
        refine ra_load rfl rfl rfl rfl ?_
        refine ra_iaload rfl (sh_D4 hD) rfl (by decide) (by first | omega | (unfold ra_in at *; omega)) (by first | omega | (unfold ra_in at *; omega)) ?_
        refine ra_gen (fun z5 hz5 => ?_)
        refine ra_cPp (sp_3 hD hz5) rfl (ct_3 rfl lk_0_186 (Or.inl rfl) (sh_D hD) (Nat.le_of_ble_eq_true rfl)) ?_ (fun j7 hj7 => ?_)
        · refine ra_store (L' := [_, _, _, _, _, _]) rfl rfl rfl (Nat.le_of_ble_eq_true rfl) rfl ?_
          refine ra_load rfl rfl rfl rfl ?_
          refine ra_nnullF rfl rfl ?_
          refine ra_iconst rfl ?_
          refine ra_goto rfl rfl ?_
          refine ra_store (L' := [_, _, _, _, _, _]) rfl rfl rfl (Nat.le_of_ble_eq_true rfl) rfl ?_
          refine ra_load rfl rfl rfl rfl ?_
          refine ra_iconst rfl ?_
          refine ra_iceq rfl rfl (by first | omega | (unfold ra_in at *; omega)) (by first | omega | (unfold ra_in at *; omega)) (fun h8 => ?_) (fun h8 => ?_)
          · refine ra_iinc (L' := [_, _, _, _, _, _]) rfl rfl (Nat.le_of_ble_eq_true rfl) rfl ?_
            refine ra_goto rfl rfl ?_
            exact ra_weak (by repeat' constructor) (ih v1 v2 (v3 + 1) s (by first | omega | (unfold ra_in at *; omega)) (by first | omega | (unfold ra_in at *; omega)) hv2 (by first | omega | (unfold ra_in at *; omega)) (by first | omega | (unfold ra_in at *; omega)) hF (by first | omega | (unfold ra_in at *; omega)))
          · exact absurd h8 (by decide)
        · refine ra_store (L' := [_, _, _, _, _, _]) rfl rfl rfl (Nat.le_of_ble_eq_true rfl) rfl ?_
          refine ra_load rfl rfl rfl rfl ?_
          refine ra_nnullT rfl rfl ?_
          refine ra_load rfl rfl rfl rfl ?_
          refine ra_load rfl rfl rfl rfl ?_
          refine ra_cIp (sp_43 hD hj7) rfl (ct_43 rfl lk_0_270 (Or.inl rfl) (sh_D hD) (Nat.le_of_ble_eq_true rfl)) (fun z10 hz10 => ?_)
          refine ra_store (L' := [_, _, _, _, _, _]) rfl rfl rfl (Nat.le_of_ble_eq_true rfl) rfl ?_
          refine ra_load rfl rfl rfl rfl ?_
          refine ra_iconst rfl ?_
          refine ra_iceq rfl rfl hz10 (by first | omega | (unfold ra_in at *; omega)) (fun h11 => ?_) (fun h11 => ?_)
          · refine ra_iinc (L' := [_, _, _, _, _, _]) rfl rfl (Nat.le_of_ble_eq_true rfl) rfl ?_
            refine ra_goto rfl rfl ?_
            exact ra_weak (by repeat' constructor) (ih v1 v2 (v3 + 1) s (by first | omega | (unfold ra_in at *; omega)) (by first | omega | (unfold ra_in at *; omega)) hv2 (by first | omega | (unfold ra_in at *; omega)) (by first | omega | (unfold ra_in at *; omega)) hF (by first | omega | (unfold ra_in at *; omega)))
          · refine ra_load rfl rfl rfl rfl ?_
            refine ra_load rfl rfl rfl rfl ?_
            refine ra_load rfl rfl rfl rfl ?_
            refine ra_cV (sp_36 hD hj7 hz10) rfl (ct_36 rfl lk_0_274 (Or.inl rfl) (sh_D hD) (Nat.le_of_ble_eq_true rfl)) (fun s12 hs12 => ?_)
            have hF13 := Fr_tr (lo := D) (hi := D + 13) hF hs12 (by omega)
            refine ra_load rfl rfl rfl rfl ?_
            refine ra_sipush rfl (by decide) ?_
            refine ra_cI (sp_37 hD (by first | omega | (unfold ra_in at *; omega))) rfl (ct_37 rfl lk_0_277 (Or.inl rfl) (sh_D hD) (Nat.le_of_ble_eq_true rfl)) (fun z15 s14  hz15 hs14 => ?_)
            have hF16 := Fr_tr (lo := D) (hi := D + 13) hF13 hs14 (by omega)
            refine ra_pop rfl rfl ?_
            refine ra_iincG rfl rfl (Nat.le_of_ble_eq_true rfl) (fun z17 hz17 => ?_)
            refine ra_cong (L' := [_, _, _, _, _, _]) rfl ?_
            refine ra_iinc (L' := [_, _, _, _, _, _]) rfl rfl (Nat.le_of_ble_eq_true rfl) rfl ?_
            refine ra_goto rfl rfl ?_
            exact ra_weak (by repeat' constructor) (ih v1 z17 (v3 + 1) s14 (by first | omega | (unfold ra_in at *; omega)) (by first | omega | (unfold ra_in at *; omega)) hz17 (by first | omega | (unfold ra_in at *; omega)) (by first | omega | (unfold ra_in at *; omega)) hF16 (by first | omega | (unfold ra_in at *; omega)))
theorem lp_45_8 {n : Nat} {f : Nat → Int32} {d : Nat} {D : Nat} {σ : ra_V} (hD : isD D) : ∀ (nn : Nat) (v1 : Int) (t2 : Jvm.Term) (s : ra_V) (hv1_0 : 0 ≤ v1) (hv1_1 : v1 ≤ 8) (ht2 : t2 = .null ∨ ∃ i, i < 8 ∧ t2 = .index (D + 5 + i)) (hF : Fr (D) (D + 13) σ s) (hm : ((8 - v1 : Int)).toNat < nn), ra_P (g_Gs n f) g_sh 0 (d + 6) g_m_X0_packLeft 8 [some (.index (D)), some (ra_I v1), some (t2), none, none, none] [] s (fun r s => rI r ∧ Fr (D) (D + 13) σ s) := by
  intro nn
  induction nn with
  | zero => intro v1 t2 s hv1_0 hv1_1 ht2 hF hm; exact absurd hm (Nat.not_lt_zero _)
  | succ nn ih =>
    intro v1 t2 s hv1_0 hv1_1 ht2 hF hm
    rcases ht2 with rfl | ⟨p2, hp2, rfl⟩
    · refine ra_load rfl rfl rfl rfl ?_
      refine ra_nullT rfl rfl ?_
      refine ra_iconst rfl ?_
      refine ra_store (L' := [_, _, _, _, _, _]) rfl rfl rfl (Nat.le_of_ble_eq_true rfl) rfl ?_
      refine ra_iconst rfl ?_
      refine ra_store (L' := [_, _, _, _, _, _]) rfl rfl rfl (Nat.le_of_ble_eq_true rfl) rfl ?_
      exact ra_weak (by repeat' constructor) (lp_45_50 hD _ v1 (0) (0) s (by first | omega | (unfold ra_in at *; omega)) (by first | omega | (unfold ra_in at *; omega)) (by first | omega | (unfold ra_in at *; omega)) (by first | omega | (unfold ra_in at *; omega)) (by first | omega | (unfold ra_in at *; omega)) hF (Nat.lt_succ_self _))
    · refine ra_load rfl rfl rfl rfl ?_
      refine ra_nullF rfl rfl ?_
      refine ra_load rfl rfl rfl rfl ?_
      refine ra_load rfl rfl rfl rfl ?_
      refine ra_getR rfl lk_0_28 (Nat.zero_le _) (sh_D hD) rfl ?_
      refine ra_alen rfl (sh_D4 hD) rfl ?_
      refine ra_icge rfl rfl (by first | omega | (unfold ra_in at *; omega)) (by first | omega | (unfold ra_in at *; omega)) (fun h18 => ?_) (fun h18 => ?_)
      · refine ra_iconst rfl ?_
        refine ra_store (L' := [_, _, _, _, _, _]) rfl rfl rfl (Nat.le_of_ble_eq_true rfl) rfl ?_
        refine ra_iconst rfl ?_
        refine ra_store (L' := [_, _, _, _, _, _]) rfl rfl rfl (Nat.le_of_ble_eq_true rfl) rfl ?_
        exact ra_weak (by repeat' constructor) (lp_45_50 hD _ v1 (0) (0) s (by first | omega | (unfold ra_in at *; omega)) (by first | omega | (unfold ra_in at *; omega)) (by first | omega | (unfold ra_in at *; omega)) (by first | omega | (unfold ra_in at *; omega)) (by first | omega | (unfold ra_in at *; omega)) hF (Nat.lt_succ_self _))
      · refine ra_load rfl rfl rfl rfl ?_
        refine ra_getR rfl lk_0_28 (Nat.zero_le _) (sh_D hD) rfl ?_
        refine ra_load rfl rfl rfl rfl ?_
        refine ra_load rfl rfl rfl rfl ?_
        refine ra_getK rfl lk_0_91 (Nat.zero_le _) (sh_P hD hp2) rfl ?_
        refine ra_iastore rfl (sh_D4 hD) rfl (by decide) (by first | omega | (unfold ra_in at *; omega)) (by first | omega | (unfold ra_in at *; omega)) ?_
        refine ra_new Fr_up (fun s19 hs19 => ?_)
        have hF20 := Fr_tr (lo := D) (hi := D + 13) hF hs19 (by omega)
        refine ra_iinc (L' := [_, _, _, _, _, _]) rfl rfl (Nat.le_of_ble_eq_true rfl) rfl ?_
        refine ra_load rfl rfl rfl rfl ?_
        refine ra_load rfl rfl rfl rfl ?_
        refine ra_getI rfl lk_0_85 (Nat.zero_le _) (sh_P hD hp2) rfl ?_
        refine ra_gen (fun z21 hz21 => ?_)
        refine ra_cPp (sp_6 hD hz21) rfl (ct_6 rfl lk_0_125 (Or.inl rfl) (sh_D hD) (Nat.le_of_ble_eq_true rfl)) ?_ (fun j23 hj23 => ?_)
        · refine ra_store (L' := [_, _, _, _, _, _]) rfl rfl rfl (Nat.le_of_ble_eq_true rfl) rfl ?_
          refine ra_goto rfl rfl ?_
          exact ra_weak (by repeat' constructor) (ih (v1 + 1) _ s19 (by first | omega | (unfold ra_in at *; omega)) (by first | omega | (unfold ra_in at *; omega)) (Or.inl rfl) hF20 (by first | omega | (unfold ra_in at *; omega)))
        · refine ra_store (L' := [_, _, _, _, _, _]) rfl rfl rfl (Nat.le_of_ble_eq_true rfl) rfl ?_
          refine ra_goto rfl rfl ?_
          exact ra_weak (by repeat' constructor) (ih (v1 + 1) _ s19 (by first | omega | (unfold ra_in at *; omega)) (by first | omega | (unfold ra_in at *; omega)) (Or.inr ⟨_, hj23, rfl⟩) hF20 (by first | omega | (unfold ra_in at *; omega)))
theorem sp_45 {n : Nat} {f : Nat → Int32} {d : Nat} {D : Nat} {σ : ra_V} (hD : isD D) : ra_C (g_Gs n f) g_sh 0 (d + 7) 45 [.index (D)] σ (fun r s => rI r ∧ Fr (D) (D + 13) σ s) := by
  refine ra_enter (nn := 5) mt_45 rfl (Nat.le_of_ble_eq_true rfl) rfl (fun h => absurd h (by decide +kernel)) ?_
  refine ra_iconst rfl ?_
  refine ra_store (L' := [_, _, _, _, _, _]) rfl rfl rfl (Nat.le_of_ble_eq_true rfl) rfl ?_
  refine ra_load rfl rfl rfl rfl ?_
  refine ra_iconst rfl ?_
  refine ra_cPp (sp_6 hD (by first | omega | (unfold ra_in at *; omega))) rfl (ct_6 rfl lk_0_125 (Or.inl rfl) (sh_D hD) (Nat.le_of_ble_eq_true rfl)) ?_ (fun j2 hj2 => ?_)
  · refine ra_store (L' := [_, _, _, _, _, _]) rfl rfl rfl (Nat.le_of_ble_eq_true rfl) rfl ?_
    exact ra_weak (by repeat' constructor) (lp_45_8 hD _ (0) _ σ (by first | omega | (unfold ra_in at *; omega)) (by first | omega | (unfold ra_in at *; omega)) (Or.inl rfl) Fr_rf (Nat.lt_succ_self _))
  · refine ra_store (L' := [_, _, _, _, _, _]) rfl rfl rfl (Nat.le_of_ble_eq_true rfl) rfl ?_
    exact ra_weak (by repeat' constructor) (lp_45_8 hD _ (0) _ σ (by first | omega | (unfold ra_in at *; omega)) (by first | omega | (unfold ra_in at *; omega)) (Or.inr ⟨_, hj2, rfl⟩) Fr_rf (Nat.lt_succ_self _))
theorem lp_46_20 {n : Nat} {f : Nat → Int32} {d : Nat} {D : Nat} {i0 : Nat} {x1 : Int} {x2 : Int} {σ : ra_V} (hD : isD D) (hi0 : i0 < 8) (hx1 : ra_in x1) (hx2 : ra_in x2) : ∀ (nn : Nat) (v4 : Int) (v7 : Int) (hv4 : ra_in v4) (hv7_0 : 0 ≤ v7) (hv7_1 : v7 ≤ 8) (hm : ((8 - v7 : Int)).toNat < nn), ra_P (g_Gs n f) g_sh 0 (d + 2) g_m_X0_bringsRoom 20 [some (.index (D)), some (.index (D + 5 + i0)), some (ra_I x1), some (ra_I x2), some (ra_I v4), some (.index (D + 2)), some (ra_I ((8 : Nat) : Int)), some (ra_I v7), none] [] σ (fun r s => rB r ∧ s = σ) := by
  intro nn
  induction nn with
  | zero => intro v4 v7 hv4 hv7_0 hv7_1 hm; exact absurd hm (Nat.not_lt_zero _)
  | succ nn ih =>
    intro v4 v7 hv4 hv7_0 hv7_1 hm
    refine ra_load rfl rfl rfl rfl ?_
    refine ra_load rfl rfl rfl rfl ?_
    refine ra_icge rfl rfl (by first | omega | (unfold ra_in at *; omega)) (by first | omega | (unfold ra_in at *; omega)) (fun h2 => ?_) (fun h2 => ?_)
    · refine ra_load rfl rfl rfl rfl ?_
      refine ra_load rfl rfl rfl rfl ?_
      refine ra_getI rfl lk_0_85 (Nat.zero_le _) (sh_P hD hi0) rfl ?_
      refine ra_gen (fun z3 hz3 => ?_)
      refine ra_cPp (sp_6 hD hz3) rfl (ct_6 rfl lk_0_125 (Or.inl rfl) (sh_D hD) (Nat.le_of_ble_eq_true rfl)) ?_ (fun j5 hj5 => ?_)
      · refine ra_store (L' := [_, _, _, _, _, _, _, _, _]) rfl rfl rfl (Nat.le_of_ble_eq_true rfl) rfl ?_
        refine ra_load rfl rfl rfl rfl ?_
        refine ra_nnullF rfl rfl ?_
        refine ra_load rfl rfl rfl rfl ?_
        refine ra_cIp (sp_9 hD) rfl (ct_9 rfl lk_0_102 (Or.inl rfl) (sh_D hD) (Nat.le_of_ble_eq_true rfl)) (fun z7 hz7 => ?_)
        refine ra_goto rfl rfl ?_
        refine ra_store (L' := [_, _, _, _, _, _, _, _, _]) rfl rfl rfl (Nat.le_of_ble_eq_true rfl) rfl ?_
        refine ra_load rfl rfl rfl rfl ?_
        refine ra_i2l rfl hv4 ?_
        refine ra_load rfl rfl rfl rfl ?_
        refine ra_load rfl rfl rfl rfl ?_
        refine ra_isub rfl ?_
        refine ra_gen (fun z8 hz8 => ?_)
        refine ra_i2l rfl hz8 ?_
        refine ra_load rfl rfl rfl rfl ?_
        refine ra_i2l rfl hx1 ?_
        refine ra_load rfl rfl rfl rfl ?_
        refine ra_getI rfl lk_0_65 (Nat.zero_le _) (sh_P hD hi0) rfl ?_
        refine ra_gen (fun z9 hz9 => ?_)
        refine ra_i2l rfl hz9 ?_
        refine ra_cBp (sp_185 hv4 hz8 hx1 hz9) rfl (ct_185 rfl lk_0_172 (Or.inr ⟨rfl, rfl⟩) (Nat.le_of_ble_eq_true rfl)) (fun z11 hz11 => ?_)
        refine ra_ifne rfl rfl (ra_in01 hz11) (fun h12 => ?_) (fun h12 => ?_)
        · refine ra_load rfl rfl rfl rfl ?_
          refine ra_load rfl rfl rfl rfl ?_
          refine ra_load rfl rfl rfl rfl ?_
          refine ra_getI rfl lk_0_44 (Nat.zero_le _) (sh_D hD) rfl ?_
          refine ra_gen (fun z13 hz13 => ?_)
          refine ra_cIp (sp_187 hv4 hx1 hz13) rfl (ct_187 rfl lk_0_283 (Or.inr ⟨rfl, rfl⟩) (Nat.le_of_ble_eq_true rfl)) (fun z15 hz15 => ?_)
          refine ra_load rfl rfl rfl rfl ?_
          refine ra_icge rfl rfl hz15 hx2 (fun h16 => ?_) (fun h16 => ?_)
          · refine ra_iconst rfl ?_
            refine ra_goto rfl rfl ?_
            exact ra_ireturn rfl (ra_okB (Or.inr rfl)) ⟨⟨_, (Or.inr rfl), rfl⟩, rfl⟩
          · refine ra_load rfl rfl rfl rfl ?_
            refine ra_load rfl rfl rfl rfl ?_
            refine ra_getI rfl lk_0_65 (Nat.zero_le _) (sh_P hD hi0) rfl ?_
            refine ra_gen (fun z17 hz17 => ?_)
            refine ra_iadd rfl ?_
            refine ra_gen (fun z18 hz18 => ?_)
            refine ra_load rfl rfl rfl rfl ?_
            refine ra_load rfl rfl rfl rfl ?_
            refine ra_getI rfl lk_0_44 (Nat.zero_le _) (sh_D hD) rfl ?_
            refine ra_gen (fun z19 hz19 => ?_)
            refine ra_cIp (sp_187 hz18 hz7 hz19) rfl (ct_187 rfl lk_0_283 (Or.inr ⟨rfl, rfl⟩) (Nat.le_of_ble_eq_true rfl)) (fun z21 hz21 => ?_)
            refine ra_load rfl rfl rfl rfl ?_
            refine ra_iclt rfl rfl hz21 hx2 (fun h22 => ?_) (fun h22 => ?_)
            · refine ra_iconst rfl ?_
              exact ra_ireturn rfl (ra_okB (Or.inl rfl)) ⟨⟨_, (Or.inl rfl), rfl⟩, rfl⟩
            · refine ra_iconst rfl ?_
              refine ra_goto rfl rfl ?_
              exact ra_ireturn rfl (ra_okB (Or.inr rfl)) ⟨⟨_, (Or.inr rfl), rfl⟩, rfl⟩
        · refine ra_load rfl rfl rfl rfl ?_
          refine ra_load rfl rfl rfl rfl ?_
          refine ra_load rfl rfl rfl rfl ?_
          refine ra_getI rfl lk_0_44 (Nat.zero_le _) (sh_D hD) rfl ?_
          refine ra_gen (fun z23 hz23 => ?_)
          refine ra_cIp (sp_187 hv4 hz7 hz23) rfl (ct_187 rfl lk_0_283 (Or.inr ⟨rfl, rfl⟩) (Nat.le_of_ble_eq_true rfl)) (fun z25 hz25 => ?_)
          refine ra_load rfl rfl rfl rfl ?_
          refine ra_iclt rfl rfl hz25 hx2 (fun h26 => ?_) (fun h26 => ?_)
          · refine ra_iconst rfl ?_
            exact ra_ireturn rfl (ra_okB (Or.inl rfl)) ⟨⟨_, (Or.inl rfl), rfl⟩, rfl⟩
          · refine ra_iconst rfl ?_
            refine ra_goto rfl rfl ?_
            exact ra_ireturn rfl (ra_okB (Or.inr rfl)) ⟨⟨_, (Or.inr rfl), rfl⟩, rfl⟩
      · refine ra_store (L' := [_, _, _, _, _, _, _, _, _]) rfl rfl rfl (Nat.le_of_ble_eq_true rfl) rfl ?_
        refine ra_load rfl rfl rfl rfl ?_
        refine ra_nnullT rfl rfl ?_
        refine ra_load rfl rfl rfl rfl ?_
        refine ra_getI rfl lk_0_85 (Nat.zero_le _) (sh_P hD hj5) rfl ?_
        refine ra_gen (fun z27 hz27 => ?_)
        refine ra_store (L' := [_, _, _, _, _, _, _, _, _]) rfl rfl rfl (Nat.le_of_ble_eq_true rfl) rfl ?_
        refine ra_load rfl rfl rfl rfl ?_
        refine ra_i2l rfl hv4 ?_
        refine ra_load rfl rfl rfl rfl ?_
        refine ra_load rfl rfl rfl rfl ?_
        refine ra_isub rfl ?_
        refine ra_gen (fun z28 hz28 => ?_)
        refine ra_i2l rfl hz28 ?_
        refine ra_load rfl rfl rfl rfl ?_
        refine ra_i2l rfl hx1 ?_
        refine ra_load rfl rfl rfl rfl ?_
        refine ra_getI rfl lk_0_65 (Nat.zero_le _) (sh_P hD hi0) rfl ?_
        refine ra_gen (fun z29 hz29 => ?_)
        refine ra_i2l rfl hz29 ?_
        refine ra_cBp (sp_185 hv4 hz28 hx1 hz29) rfl (ct_185 rfl lk_0_172 (Or.inr ⟨rfl, rfl⟩) (Nat.le_of_ble_eq_true rfl)) (fun z31 hz31 => ?_)
        refine ra_ifne rfl rfl (ra_in01 hz31) (fun h32 => ?_) (fun h32 => ?_)
        · refine ra_load rfl rfl rfl rfl ?_
          refine ra_load rfl rfl rfl rfl ?_
          refine ra_load rfl rfl rfl rfl ?_
          refine ra_getI rfl lk_0_44 (Nat.zero_le _) (sh_D hD) rfl ?_
          refine ra_gen (fun z33 hz33 => ?_)
          refine ra_cIp (sp_187 hv4 hx1 hz33) rfl (ct_187 rfl lk_0_283 (Or.inr ⟨rfl, rfl⟩) (Nat.le_of_ble_eq_true rfl)) (fun z35 hz35 => ?_)
          refine ra_load rfl rfl rfl rfl ?_
          refine ra_icge rfl rfl hz35 hx2 (fun h36 => ?_) (fun h36 => ?_)
          · refine ra_iconst rfl ?_
            refine ra_goto rfl rfl ?_
            exact ra_ireturn rfl (ra_okB (Or.inr rfl)) ⟨⟨_, (Or.inr rfl), rfl⟩, rfl⟩
          · refine ra_load rfl rfl rfl rfl ?_
            refine ra_load rfl rfl rfl rfl ?_
            refine ra_getI rfl lk_0_65 (Nat.zero_le _) (sh_P hD hi0) rfl ?_
            refine ra_gen (fun z37 hz37 => ?_)
            refine ra_iadd rfl ?_
            refine ra_gen (fun z38 hz38 => ?_)
            refine ra_load rfl rfl rfl rfl ?_
            refine ra_load rfl rfl rfl rfl ?_
            refine ra_getI rfl lk_0_44 (Nat.zero_le _) (sh_D hD) rfl ?_
            refine ra_gen (fun z39 hz39 => ?_)
            refine ra_cIp (sp_187 hz38 hz27 hz39) rfl (ct_187 rfl lk_0_283 (Or.inr ⟨rfl, rfl⟩) (Nat.le_of_ble_eq_true rfl)) (fun z41 hz41 => ?_)
            refine ra_load rfl rfl rfl rfl ?_
            refine ra_iclt rfl rfl hz41 hx2 (fun h42 => ?_) (fun h42 => ?_)
            · refine ra_iconst rfl ?_
              exact ra_ireturn rfl (ra_okB (Or.inl rfl)) ⟨⟨_, (Or.inl rfl), rfl⟩, rfl⟩
            · refine ra_iconst rfl ?_
              refine ra_goto rfl rfl ?_
              exact ra_ireturn rfl (ra_okB (Or.inr rfl)) ⟨⟨_, (Or.inr rfl), rfl⟩, rfl⟩
        · refine ra_load rfl rfl rfl rfl ?_
          refine ra_load rfl rfl rfl rfl ?_
          refine ra_load rfl rfl rfl rfl ?_
          refine ra_getI rfl lk_0_44 (Nat.zero_le _) (sh_D hD) rfl ?_
          refine ra_gen (fun z43 hz43 => ?_)
          refine ra_cIp (sp_187 hv4 hz27 hz43) rfl (ct_187 rfl lk_0_283 (Or.inr ⟨rfl, rfl⟩) (Nat.le_of_ble_eq_true rfl)) (fun z45 hz45 => ?_)
          refine ra_load rfl rfl rfl rfl ?_
          refine ra_iclt rfl rfl hz45 hx2 (fun h46 => ?_) (fun h46 => ?_)
          · refine ra_iconst rfl ?_
            exact ra_ireturn rfl (ra_okB (Or.inl rfl)) ⟨⟨_, (Or.inl rfl), rfl⟩, rfl⟩
          · refine ra_iconst rfl ?_
            refine ra_goto rfl rfl ?_
            exact ra_ireturn rfl (ra_okB (Or.inr rfl)) ⟨⟨_, (Or.inr rfl), rfl⟩, rfl⟩
    · refine ra_load rfl rfl rfl rfl ?_
      refine ra_load rfl rfl rfl rfl ?_
      refine ra_aaload rfl (sh_D2 hD) rfl (by decide) (by first | omega | (unfold ra_in at *; omega)) (by first | omega | (unfold ra_in at *; omega)) (sh_pt (by first | omega | (unfold ra_in at *; omega)) (by first | omega | (unfold ra_in at *; omega))) rfl ?_
      have hi47 : v7.toNat < 8 := (by first | omega | (unfold ra_in at *; omega))
      refine ra_store (L' := [_, _, _, _, _, _, _, _, _]) rfl rfl rfl (Nat.le_of_ble_eq_true rfl) rfl ?_
      refine ra_load rfl rfl rfl rfl ?_
      refine ra_cBp (sp_92 hD hi47) rfl (ct_92 rfl lk_0_81 (Or.inl rfl) (sh_P hD hi47) (Nat.le_of_ble_eq_true rfl)) (fun z49 hz49 => ?_)
      refine ra_ifeq rfl rfl (ra_in01 hz49) (fun h50 => ?_) (fun h50 => ?_)
      · refine ra_iinc (L' := [_, _, _, _, _, _, _, _, _]) rfl rfl (Nat.le_of_ble_eq_true rfl) rfl ?_
        refine ra_goto rfl rfl ?_
        exact ra_weak (by repeat' constructor) (ih v4 (v7 + 1) hv4 (by first | omega | (unfold ra_in at *; omega)) (by first | omega | (unfold ra_in at *; omega)) (by first | omega | (unfold ra_in at *; omega)))
      · refine ra_load rfl rfl rfl rfl ?_
        refine ra_getI rfl lk_0_85 (Nat.zero_le _) (sh_P hD hi47) rfl ?_
        refine ra_gen (fun z51 hz51 => ?_)
        refine ra_load rfl rfl rfl rfl ?_
        refine ra_getI rfl lk_0_85 (Nat.zero_le _) (sh_P hD hi0) rfl ?_
        refine ra_gen (fun z52 hz52 => ?_)
        refine ra_icge rfl rfl hz51 hz52 (fun h53 => ?_) (fun h53 => ?_)
        · refine ra_iinc (L' := [_, _, _, _, _, _, _, _, _]) rfl rfl (Nat.le_of_ble_eq_true rfl) rfl ?_
          refine ra_goto rfl rfl ?_
          exact ra_weak (by repeat' constructor) (ih v4 (v7 + 1) hv4 (by first | omega | (unfold ra_in at *; omega)) (by first | omega | (unfold ra_in at *; omega)) (by first | omega | (unfold ra_in at *; omega)))
        · refine ra_load rfl rfl rfl rfl ?_
          refine ra_load rfl rfl rfl rfl ?_
          refine ra_cIp (sp_93 hD hi47) rfl (ct_93 rfl lk_0_114 (Or.inl rfl) (sh_P hD hi47) (Nat.le_of_ble_eq_true rfl)) (fun z55 hz55 => ?_)
          refine ra_max rfl lk_0_280 hv4 hz55 (Nat.le_of_ble_eq_true rfl) ?_
          refine ra_gen (fun z56 hz56 => ?_)
          refine ra_store (L' := [_, _, _, _, _, _, _, _, _]) rfl rfl rfl (Nat.le_of_ble_eq_true rfl) rfl ?_
          refine ra_iinc (L' := [_, _, _, _, _, _, _, _, _]) rfl rfl (Nat.le_of_ble_eq_true rfl) rfl ?_
          refine ra_goto rfl rfl ?_
          exact ra_weak (by repeat' constructor) (ih z56 (v7 + 1) hz56 (by first | omega | (unfold ra_in at *; omega)) (by first | omega | (unfold ra_in at *; omega)) (by first | omega | (unfold ra_in at *; omega)))
theorem sp_46 {n : Nat} {f : Nat → Int32} {d : Nat} {D : Nat} {i0 : Nat} {x1 : Int} {x2 : Int} {σ : ra_V} (hD : isD D) (hi0 : i0 < 8) (hx1 : ra_in x1) (hx2 : ra_in x2) : ra_C (g_Gs n f) g_sh 0 (d + 3) 46 [.index (D), .index (D + 5 + i0), ra_I x1, ra_I x2] σ (fun r s => rB r ∧ s = σ) := by
  refine ra_enter (nn := 5) mt_46 rfl (Nat.le_of_ble_eq_true rfl) rfl (fun h => absurd h (by decide +kernel)) ?_
  refine ra_load rfl rfl rfl rfl ?_
  refine ra_getI rfl lk_0_38 (Nat.zero_le _) (sh_D hD) rfl ?_
  refine ra_gen (fun z1 hz1 => ?_)
  refine ra_store (L' := [_, _, _, _, _, _, _, _, _]) rfl rfl rfl (Nat.le_of_ble_eq_true rfl) rfl ?_
  refine ra_load rfl rfl rfl rfl ?_
  refine ra_getR rfl lk_0_17 (Nat.zero_le _) (sh_D hD) rfl ?_
  refine ra_store (L' := [_, _, _, _, _, _, _, _, _]) rfl rfl rfl (Nat.le_of_ble_eq_true rfl) rfl ?_
  refine ra_load rfl rfl rfl rfl ?_
  refine ra_alen rfl (sh_D2 hD) rfl ?_
  refine ra_store (L' := [_, _, _, _, _, _, _, _, _]) rfl rfl rfl (Nat.le_of_ble_eq_true rfl) rfl ?_
  refine ra_iconst rfl ?_
  refine ra_store (L' := [_, _, _, _, _, _, _, _, _]) rfl rfl rfl (Nat.le_of_ble_eq_true rfl) rfl ?_
  exact ra_weak (by repeat' constructor) (lp_46_20 hD hi0 hx1 hx2 _ z1 (0) hz1 (by first | omega | (unfold ra_in at *; omega)) (by first | omega | (unfold ra_in at *; omega)) (Nat.lt_succ_self _))
theorem sp_66 {n : Nat} {f : Nat → Int32} {d : Nat} {D : Nat} {E0 : Nat} {σ : ra_V} (hD : isD D) (hE0 : isD E0) : ra_C (g_Gs n f) g_sh 0 (d + 1) 66 [.index (D + 3), .index (E0 + 3)] σ (fun r s => rV r ∧ Fr (D + 3) (D + 4) σ s) := by
  refine ra_enter (nn := 0) mt_66 rfl (Nat.le_of_ble_eq_true rfl) rfl (fun h => absurd h (by decide +kernel)) ?_
  refine ra_load rfl rfl rfl rfl ?_
  refine ra_load rfl rfl rfl rfl ?_
  refine ra_getI rfl lk_3_9 (Nat.zero_le _) (sh_D3 hE0) rfl ?_
  refine ra_gen (fun z1 hz1 => ?_)
  refine ra_putI rfl lk_3_9 (Nat.zero_le _) (sh_D3 hD) rfl rfl ?_
  refine ra_new Fr_up (fun s2 hs2 => ?_)
  have hF3 := Fr_tr (lo := D + 3) (hi := D + 4) Fr_rf hs2 (by omega)
  refine ra_load rfl rfl rfl rfl ?_
  refine ra_load rfl rfl rfl rfl ?_
  refine ra_getI rfl lk_3_18 (Nat.zero_le _) (sh_D3 hE0) rfl ?_
  refine ra_gen (fun z4 hz4 => ?_)
  refine ra_putI rfl lk_3_18 (Nat.zero_le _) (sh_D3 hD) rfl rfl ?_
  refine ra_new Fr_up (fun s5 hs5 => ?_)
  have hF6 := Fr_tr (lo := D + 3) (hi := D + 4) hF3 hs5 (by omega)
  refine ra_load rfl rfl rfl rfl ?_
  refine ra_load rfl rfl rfl rfl ?_
  refine ra_getI rfl lk_3_21 (Nat.zero_le _) (sh_D3 hE0) rfl ?_
  refine ra_gen (fun z7 hz7 => ?_)
  refine ra_putI rfl lk_3_21 (Nat.zero_le _) (sh_D3 hD) rfl rfl ?_
  refine ra_new Fr_up (fun s8 hs8 => ?_)
  have hF9 := Fr_tr (lo := D + 3) (hi := D + 4) hF6 hs8 (by omega)
  refine ra_load rfl rfl rfl rfl ?_
  refine ra_load rfl rfl rfl rfl ?_
  refine ra_getI rfl lk_3_24 (Nat.zero_le _) (sh_D3 hE0) rfl ?_
  refine ra_gen (fun z10 hz10 => ?_)
  refine ra_putI rfl lk_3_24 (Nat.zero_le _) (sh_D3 hD) rfl rfl ?_
  refine ra_new Fr_up (fun s11 hs11 => ?_)
  have hF12 := Fr_tr (lo := D + 3) (hi := D + 4) hF9 hs11 (by omega)
  refine ra_load rfl rfl rfl rfl ?_
  refine ra_load rfl rfl rfl rfl ?_
  refine ra_getI rfl lk_3_27 (Nat.zero_le _) (sh_D3 hE0) rfl ?_
  refine ra_gen (fun z13 hz13 => ?_)
  refine ra_putI rfl lk_3_27 (Nat.zero_le _) (sh_D3 hD) rfl rfl ?_
  refine ra_new Fr_up (fun s14 hs14 => ?_)
  have hF15 := Fr_tr (lo := D + 3) (hi := D + 4) hF12 hs14 (by omega)
  refine ra_load rfl rfl rfl rfl ?_
  refine ra_load rfl rfl rfl rfl ?_
  refine ra_getI rfl lk_3_30 (Nat.zero_le _) (sh_D3 hE0) rfl ?_
  refine ra_gen (fun z16 hz16 => ?_)
  refine ra_putI rfl lk_3_30 (Nat.zero_le _) (sh_D3 hD) rfl rfl ?_
  refine ra_new Fr_up (fun s17 hs17 => ?_)
  have hF18 := Fr_tr (lo := D + 3) (hi := D + 4) hF15 hs17 (by omega)
  refine ra_load rfl rfl rfl rfl ?_
  refine ra_load rfl rfl rfl rfl ?_
  refine ra_getI rfl lk_3_15 (Nat.zero_le _) (sh_D3 hE0) rfl ?_
  refine ra_gen (fun z19 hz19 => ?_)
  refine ra_putI rfl lk_3_15 (Nat.zero_le _) (sh_D3 hD) rfl rfl ?_
  refine ra_new Fr_up (fun s20 hs20 => ?_)
  have hF21 := Fr_tr (lo := D + 3) (hi := D + 4) hF18 hs20 (by omega)
  refine ra_load rfl rfl rfl rfl ?_
  refine ra_load rfl rfl rfl rfl ?_
  refine ra_getI rfl lk_3_33 (Nat.zero_le _) (sh_D3 hE0) rfl ?_
  refine ra_gen (fun z22 hz22 => ?_)
  refine ra_putI rfl lk_3_33 (Nat.zero_le _) (sh_D3 hD) rfl rfl ?_
  refine ra_new Fr_up (fun s23 hs23 => ?_)
  have hF24 := Fr_tr (lo := D + 3) (hi := D + 4) hF21 hs23 (by omega)
  refine ra_load rfl rfl rfl rfl ?_
  refine ra_load rfl rfl rfl rfl ?_
  refine ra_getBw rfl lk_3_36 (Nat.zero_le _) (sh_D3 hE0) rfl (fun z25 hz25 => ?_)
  refine ra_putB rfl lk_3_36 (Nat.zero_le _) (sh_D3 hD) rfl rfl hz25 ?_
  refine ra_new Fr_up (fun s26 hs26 => ?_)
  have hF27 := Fr_tr (lo := D + 3) (hi := D + 4) hF24 hs26 (by omega)
  exact ra_return rfl rfl ⟨rfl, hF27⟩
theorem sp_91 {n : Nat} {f : Nat → Int32} {d : Nat} {D i : Nat} {E0 i0 : Nat} {σ : ra_V} (hD : isD D) (hi : i < 8) (hE0 : isD E0) (hi0 : i0 < 8) : ra_C (g_Gs n f) g_sh 0 (d + 1) 91 [.index (D + 5 + i), .index (E0 + 5 + i0)] σ (fun r s => rV r ∧ Fr (D + 5 + i) (D + 5 + i + 1) σ s) := by
  refine ra_enter (nn := 0) mt_91 rfl (Nat.le_of_ble_eq_true rfl) rfl (fun h => absurd h (by decide +kernel)) ?_
  refine ra_load rfl rfl rfl rfl ?_
  refine ra_load rfl rfl rfl rfl ?_
  refine ra_getI rfl lk_5_15 (Nat.zero_le _) (sh_P hE0 hi0) rfl ?_
  refine ra_gen (fun z1 hz1 => ?_)
  refine ra_putI rfl lk_5_15 (Nat.zero_le _) (sh_P hD hi) rfl rfl ?_
  refine ra_new Fr_up (fun s2 hs2 => ?_)
  have hF3 := Fr_tr (lo := D + 5 + i) (hi := D + 5 + i + 1) Fr_rf hs2 (by omega)
  refine ra_load rfl rfl rfl rfl ?_
  refine ra_load rfl rfl rfl rfl ?_
  refine ra_getI rfl lk_5_18 (Nat.zero_le _) (sh_P hE0 hi0) rfl ?_
  refine ra_gen (fun z4 hz4 => ?_)
  refine ra_putI rfl lk_5_18 (Nat.zero_le _) (sh_P hD hi) rfl rfl ?_
  refine ra_new Fr_up (fun s5 hs5 => ?_)
  have hF6 := Fr_tr (lo := D + 5 + i) (hi := D + 5 + i + 1) hF3 hs5 (by omega)
  refine ra_load rfl rfl rfl rfl ?_
  refine ra_load rfl rfl rfl rfl ?_
  refine ra_getI rfl lk_5_21 (Nat.zero_le _) (sh_P hE0 hi0) rfl ?_
  refine ra_gen (fun z7 hz7 => ?_)
  refine ra_putI rfl lk_5_21 (Nat.zero_le _) (sh_P hD hi) rfl rfl ?_
  refine ra_new Fr_up (fun s8 hs8 => ?_)
  have hF9 := Fr_tr (lo := D + 5 + i) (hi := D + 5 + i + 1) hF6 hs8 (by omega)
  refine ra_load rfl rfl rfl rfl ?_
  refine ra_load rfl rfl rfl rfl ?_
  refine ra_getI rfl lk_5_24 (Nat.zero_le _) (sh_P hE0 hi0) rfl ?_
  refine ra_gen (fun z10 hz10 => ?_)
  refine ra_putI rfl lk_5_24 (Nat.zero_le _) (sh_P hD hi) rfl rfl ?_
  refine ra_new Fr_up (fun s11 hs11 => ?_)
  have hF12 := Fr_tr (lo := D + 5 + i) (hi := D + 5 + i + 1) hF9 hs11 (by omega)
  refine ra_load rfl rfl rfl rfl ?_
  refine ra_load rfl rfl rfl rfl ?_
  refine ra_getBw rfl lk_5_27 (Nat.zero_le _) (sh_P hE0 hi0) rfl (fun z13 hz13 => ?_)
  refine ra_putB rfl lk_5_27 (Nat.zero_le _) (sh_P hD hi) rfl rfl hz13 ?_
  refine ra_new Fr_up (fun s14 hs14 => ?_)
  have hF15 := Fr_tr (lo := D + 5 + i) (hi := D + 5 + i + 1) hF12 hs14 (by omega)
  refine ra_load rfl rfl rfl rfl ?_
  refine ra_load rfl rfl rfl rfl ?_
  refine ra_getI rfl lk_5_31 (Nat.zero_le _) (sh_P hE0 hi0) rfl ?_
  refine ra_gen (fun z16 hz16 => ?_)
  refine ra_putI rfl lk_5_31 (Nat.zero_le _) (sh_P hD hi) rfl rfl ?_
  refine ra_new Fr_up (fun s17 hs17 => ?_)
  have hF18 := Fr_tr (lo := D + 5 + i) (hi := D + 5 + i + 1) hF15 hs17 (by omega)
  refine ra_load rfl rfl rfl rfl ?_
  refine ra_load rfl rfl rfl rfl ?_
  refine ra_getI rfl lk_5_34 (Nat.zero_le _) (sh_P hE0 hi0) rfl ?_
  refine ra_gen (fun z19 hz19 => ?_)
  refine ra_putI rfl lk_5_34 (Nat.zero_le _) (sh_P hD hi) rfl rfl ?_
  refine ra_new Fr_up (fun s20 hs20 => ?_)
  have hF21 := Fr_tr (lo := D + 5 + i) (hi := D + 5 + i + 1) hF18 hs20 (by omega)
  exact ra_return rfl rfl ⟨rfl, hF21⟩
theorem lp_2_85 {n : Nat} {f : Nat → Int32} {d : Nat} {D : Nat} {E0 : Nat} {σ : ra_V} (hD : isD D) (hE0 : isD E0) : ∀ (nn : Nat) (v2 : Int) (s : ra_V) (hv2_0 : 0 ≤ v2) (hv2_1 : v2 ≤ 8) (hF : Fr (D) (D + 13) σ s) (hm : ((8 - v2 : Int)).toNat < nn), ra_P (g_Gs n f) g_sh 0 (d + 1) g_m_X0_copyFrom 85 [some (.index (D)), some (.index (E0)), some (ra_I v2)] [] s (fun r s => rV r ∧ Fr (D) (D + 13) σ s) := by
  intro nn
  induction nn with
  | zero => intro v2 s hv2_0 hv2_1 hF hm; exact absurd hm (Nat.not_lt_zero _)
  | succ nn ih =>
    intro v2 s hv2_0 hv2_1 hF hm
    refine ra_load rfl rfl rfl rfl ?_
    refine ra_bipush rfl (by decide) ?_
    refine ra_icge rfl rfl (by first | omega | (unfold ra_in at *; omega)) (by first | omega | (unfold ra_in at *; omega)) (fun h30 => ?_) (fun h30 => ?_)
    · refine ra_load rfl rfl rfl rfl ?_
      refine ra_getR rfl lk_0_9 (Nat.zero_le _) (sh_D hE0) rfl ?_
      refine ra_iconst rfl ?_
      refine ra_load rfl rfl rfl rfl ?_
      refine ra_getR rfl lk_0_9 (Nat.zero_le _) (sh_D hD) rfl ?_
      refine ra_iconst rfl ?_
      refine ra_sipush rfl (by decide) ?_
      refine ra_acopy rfl lk_0_75 (sh_D1 hE0) (sh_D1 hD) rfl (by decide) (by decide) rfl rfl (Nat.le_of_ble_eq_true rfl) ?_
      refine ra_new Fr_cpy (fun s31 hs31 => ?_)
      have hF32 := Fr_tr (lo := D) (hi := D + 13) hF hs31 (by omega)
      exact ra_return rfl rfl ⟨rfl, hF32⟩
    · refine ra_load rfl rfl rfl rfl ?_
      refine ra_getR rfl lk_0_17 (Nat.zero_le _) (sh_D hD) rfl ?_
      refine ra_load rfl rfl rfl rfl ?_
      refine ra_aaload rfl (sh_D2 hD) rfl (by decide) (by first | omega | (unfold ra_in at *; omega)) (by first | omega | (unfold ra_in at *; omega)) (sh_pt (by first | omega | (unfold ra_in at *; omega)) (by first | omega | (unfold ra_in at *; omega))) rfl ?_
      have hi33 : v2.toNat < 8 := (by first | omega | (unfold ra_in at *; omega))
      refine ra_load rfl rfl rfl rfl ?_
      refine ra_getR rfl lk_0_17 (Nat.zero_le _) (sh_D hE0) rfl ?_
      refine ra_load rfl rfl rfl rfl ?_
      refine ra_aaload rfl (sh_D2 hE0) rfl (by decide) (by first | omega | (unfold ra_in at *; omega)) (by first | omega | (unfold ra_in at *; omega)) (sh_pt (by first | omega | (unfold ra_in at *; omega)) (by first | omega | (unfold ra_in at *; omega))) rfl ?_
      have hi34 : v2.toNat < 8 := (by first | omega | (unfold ra_in at *; omega))
      refine ra_cV (sp_91 hD hi33 hE0 hi34) rfl (ct_91 rfl lk_0_72 (Or.inl rfl) (sh_P hD hi33) (Nat.le_of_ble_eq_true rfl)) (fun s35 hs35 => ?_)
      have hF36 := Fr_tr (lo := D) (hi := D + 13) hF hs35 (by omega)
      refine ra_iinc (L' := [_, _, _]) rfl rfl (Nat.le_of_ble_eq_true rfl) rfl ?_
      refine ra_goto rfl rfl ?_
      exact ra_weak (by repeat' constructor) (ih (v2 + 1) s35 (by first | omega | (unfold ra_in at *; omega)) (by first | omega | (unfold ra_in at *; omega)) hF36 (by first | omega | (unfold ra_in at *; omega)))
theorem sp_2 {n : Nat} {f : Nat → Int32} {d : Nat} {D : Nat} {E0 : Nat} {σ : ra_V} (hD : isD D) (hE0 : isD E0) : ra_C (g_Gs n f) g_sh 0 (d + 2) 2 [.index (D), .index (E0)] σ (fun r s => rV r ∧ Fr (D) (D + 13) σ s) := by
  refine ra_enter (nn := 1) mt_2 rfl (Nat.le_of_ble_eq_true rfl) rfl (fun h => absurd h (by decide +kernel)) ?_
  refine ra_load rfl rfl rfl rfl ?_
  refine ra_load rfl rfl rfl rfl ?_
  refine ra_getI rfl lk_0_34 (Nat.zero_le _) (sh_D hE0) rfl ?_
  refine ra_gen (fun z1 hz1 => ?_)
  refine ra_putI rfl lk_0_34 (Nat.zero_le _) (sh_D hD) rfl rfl ?_
  refine ra_new Fr_up (fun s2 hs2 => ?_)
  have hF3 := Fr_tr (lo := D) (hi := D + 13) Fr_rf hs2 (by omega)
  refine ra_load rfl rfl rfl rfl ?_
  refine ra_load rfl rfl rfl rfl ?_
  refine ra_getI rfl lk_0_38 (Nat.zero_le _) (sh_D hE0) rfl ?_
  refine ra_gen (fun z4 hz4 => ?_)
  refine ra_putI rfl lk_0_38 (Nat.zero_le _) (sh_D hD) rfl rfl ?_
  refine ra_new Fr_up (fun s5 hs5 => ?_)
  have hF6 := Fr_tr (lo := D) (hi := D + 13) hF3 hs5 (by omega)
  refine ra_load rfl rfl rfl rfl ?_
  refine ra_load rfl rfl rfl rfl ?_
  refine ra_getI rfl lk_0_41 (Nat.zero_le _) (sh_D hE0) rfl ?_
  refine ra_gen (fun z7 hz7 => ?_)
  refine ra_putI rfl lk_0_41 (Nat.zero_le _) (sh_D hD) rfl rfl ?_
  refine ra_new Fr_up (fun s8 hs8 => ?_)
  have hF9 := Fr_tr (lo := D) (hi := D + 13) hF6 hs8 (by omega)
  refine ra_load rfl rfl rfl rfl ?_
  refine ra_load rfl rfl rfl rfl ?_
  refine ra_getI rfl lk_0_44 (Nat.zero_le _) (sh_D hE0) rfl ?_
  refine ra_gen (fun z10 hz10 => ?_)
  refine ra_putI rfl lk_0_44 (Nat.zero_le _) (sh_D hD) rfl rfl ?_
  refine ra_new Fr_up (fun s11 hs11 => ?_)
  have hF12 := Fr_tr (lo := D) (hi := D + 13) hF9 hs11 (by omega)
  refine ra_load rfl rfl rfl rfl ?_
  refine ra_load rfl rfl rfl rfl ?_
  refine ra_getI rfl lk_0_47 (Nat.zero_le _) (sh_D hE0) rfl ?_
  refine ra_gen (fun z13 hz13 => ?_)
  refine ra_putI rfl lk_0_47 (Nat.zero_le _) (sh_D hD) rfl rfl ?_
  refine ra_new Fr_up (fun s14 hs14 => ?_)
  have hF15 := Fr_tr (lo := D) (hi := D + 13) hF12 hs14 (by omega)
  refine ra_load rfl rfl rfl rfl ?_
  refine ra_load rfl rfl rfl rfl ?_
  refine ra_getI rfl lk_0_50 (Nat.zero_le _) (sh_D hE0) rfl ?_
  refine ra_gen (fun z16 hz16 => ?_)
  refine ra_putI rfl lk_0_50 (Nat.zero_le _) (sh_D hD) rfl rfl ?_
  refine ra_new Fr_up (fun s17 hs17 => ?_)
  have hF18 := Fr_tr (lo := D) (hi := D + 13) hF15 hs17 (by omega)
  refine ra_load rfl rfl rfl rfl ?_
  refine ra_load rfl rfl rfl rfl ?_
  refine ra_getI rfl lk_0_53 (Nat.zero_le _) (sh_D hE0) rfl ?_
  refine ra_gen (fun z19 hz19 => ?_)
  refine ra_putI rfl lk_0_53 (Nat.zero_le _) (sh_D hD) rfl rfl ?_
  refine ra_new Fr_up (fun s20 hs20 => ?_)
  have hF21 := Fr_tr (lo := D) (hi := D + 13) hF18 hs20 (by omega)
  refine ra_load rfl rfl rfl rfl ?_
  refine ra_load rfl rfl rfl rfl ?_
  refine ra_getI rfl lk_0_56 (Nat.zero_le _) (sh_D hE0) rfl ?_
  refine ra_gen (fun z22 hz22 => ?_)
  refine ra_putI rfl lk_0_56 (Nat.zero_le _) (sh_D hD) rfl rfl ?_
  refine ra_new Fr_up (fun s23 hs23 => ?_)
  have hF24 := Fr_tr (lo := D) (hi := D + 13) hF21 hs23 (by omega)
  refine ra_load rfl rfl rfl rfl ?_
  refine ra_load rfl rfl rfl rfl ?_
  refine ra_getI rfl lk_0_59 (Nat.zero_le _) (sh_D hE0) rfl ?_
  refine ra_gen (fun z25 hz25 => ?_)
  refine ra_putI rfl lk_0_59 (Nat.zero_le _) (sh_D hD) rfl rfl ?_
  refine ra_new Fr_up (fun s26 hs26 => ?_)
  have hF27 := Fr_tr (lo := D) (hi := D + 13) hF24 hs26 (by omega)
  refine ra_load rfl rfl rfl rfl ?_
  refine ra_getR rfl lk_0_24 (Nat.zero_le _) (sh_D hD) rfl ?_
  refine ra_load rfl rfl rfl rfl ?_
  refine ra_getR rfl lk_0_24 (Nat.zero_le _) (sh_D hE0) rfl ?_
  refine ra_cV (sp_66 hD hE0) rfl (ct_66 rfl lk_0_68 (Or.inl rfl) (sh_D3 hD) (Nat.le_of_ble_eq_true rfl)) (fun s28 hs28 => ?_)
  have hF29 := Fr_tr (lo := D) (hi := D + 13) hF27 hs28 (by omega)
  refine ra_iconst rfl ?_
  refine ra_store (L' := [_, _, _]) rfl rfl rfl (Nat.le_of_ble_eq_true rfl) rfl ?_
  exact ra_weak (by repeat' constructor) (lp_2_85 hD hE0 _ (0) s28 (by first | omega | (unfold ra_in at *; omega)) (by first | omega | (unfold ra_in at *; omega)) hF29 (Nat.lt_succ_self _))
theorem lp_1_89 {n : Nat} {f : Nat → Int32} {d : Nat} {D : Nat} {x0 : Int} {σ : ra_V} (hD : isD D) (hx0 : ra_in x0) : ∀ (nn : Nat) (v2 : Int) (s : ra_V) (hv2_0 : 0 ≤ v2) (hv2_1 : v2 ≤ 600) (hF : Fr (D) (D + 13) σ s) (hm : ((600 - v2 : Int)).toNat < nn), ra_P (g_Gs n f) g_sh 0 (d + 1) g_m_X0_clear 89 [some (.index (D)), none, some (ra_I v2), none, none, none] [] s (fun r s => rV r ∧ Fr (D) (D + 13) σ s) := by
  intro nn
  induction nn with
  | zero => intro v2 s hv2_0 hv2_1 hF hm; exact absurd hm (Nat.not_lt_zero _)
  | succ nn ih =>
    intro v2 s hv2_0 hv2_1 hF hm
    refine ra_load rfl rfl rfl rfl ?_
    refine ra_load rfl rfl rfl rfl ?_
    refine ra_getR rfl lk_0_9 (Nat.zero_le _) (sh_D hD) rfl ?_
    refine ra_alen rfl (sh_D1 hD) rfl ?_
    refine ra_icge rfl rfl (by first | omega | (unfold ra_in at *; omega)) (by first | omega | (unfold ra_in at *; omega)) (fun h22 => ?_) (fun h22 => ?_)
    · exact ra_return rfl rfl ⟨rfl, hF⟩
    · refine ra_load rfl rfl rfl rfl ?_
      refine ra_getR rfl lk_0_9 (Nat.zero_le _) (sh_D hD) rfl ?_
      refine ra_load rfl rfl rfl rfl ?_
      refine ra_iconst rfl ?_
      refine ra_iastore rfl (sh_D1 hD) rfl (by decide) (by first | omega | (unfold ra_in at *; omega)) (by first | omega | (unfold ra_in at *; omega)) ?_
      refine ra_new Fr_up (fun s23 hs23 => ?_)
      have hF24 := Fr_tr (lo := D) (hi := D + 13) hF hs23 (by omega)
      refine ra_iinc (L' := [_, _, _, _, _, _]) rfl rfl (Nat.le_of_ble_eq_true rfl) rfl ?_
      refine ra_goto rfl rfl ?_
      exact ra_weak (by repeat' constructor) (ih (v2 + 1) s23 (by first | omega | (unfold ra_in at *; omega)) (by first | omega | (unfold ra_in at *; omega)) hF24 (by first | omega | (unfold ra_in at *; omega)))
theorem lp_1_63 {n : Nat} {f : Nat → Int32} {d : Nat} {D : Nat} {x0 : Int} {σ : ra_V} (hD : isD D) (hx0 : ra_in x0) : ∀ (nn : Nat) (v4 : Int) (s : ra_V) (hv4_0 : 0 ≤ v4) (hv4_1 : v4 ≤ 8) (hF : Fr (D) (D + 13) σ s) (hm : ((8 - v4 : Int)).toNat < nn), ra_P (g_Gs n f) g_sh 0 (d + 1) g_m_X0_clear 63 [some (.index (D)), none, some (.index (D + 2)), some (ra_I ((8 : Nat) : Int)), some (ra_I v4), none] [] s (fun r s => rV r ∧ Fr (D) (D + 13) σ s) := by
  intro nn
  induction nn with
  | zero => intro v4 s hv4_0 hv4_1 hF hm; exact absurd hm (Nat.not_lt_zero _)
  | succ nn ih =>
    intro v4 s hv4_0 hv4_1 hF hm
    refine ra_load rfl rfl rfl rfl ?_
    refine ra_load rfl rfl rfl rfl ?_
    refine ra_icge rfl rfl (by first | omega | (unfold ra_in at *; omega)) (by first | omega | (unfold ra_in at *; omega)) (fun h21 => ?_) (fun h21 => ?_)
    · refine ra_iconst rfl ?_
      refine ra_store (L' := [_, _, _, _, _, _]) rfl rfl rfl (Nat.le_of_ble_eq_true rfl) rfl ?_
      exact ra_weak (by repeat' constructor) (lp_1_89 hD hx0 _ (0) s (by first | omega | (unfold ra_in at *; omega)) (by first | omega | (unfold ra_in at *; omega)) hF (Nat.lt_succ_self _))
    · refine ra_load rfl rfl rfl rfl ?_
      refine ra_load rfl rfl rfl rfl ?_
      refine ra_aaload rfl (sh_D2 hD) rfl (by decide) (by first | omega | (unfold ra_in at *; omega)) (by first | omega | (unfold ra_in at *; omega)) (sh_pt (by first | omega | (unfold ra_in at *; omega)) (by first | omega | (unfold ra_in at *; omega))) rfl ?_
      have hi25 : v4.toNat < 8 := (by first | omega | (unfold ra_in at *; omega))
      refine ra_store (L' := [_, _, _, _, _, _]) rfl rfl rfl (Nat.le_of_ble_eq_true rfl) rfl ?_
      refine ra_load rfl rfl rfl rfl ?_
      refine ra_iconst rfl ?_
      refine ra_putI rfl lk_0_65 (Nat.zero_le _) (sh_P hD hi25) rfl rfl ?_
      refine ra_new Fr_up (fun s26 hs26 => ?_)
      have hF27 := Fr_tr (lo := D) (hi := D + 13) hF hs26 (by omega)
      refine ra_iinc (L' := [_, _, _, _, _, _]) rfl rfl (Nat.le_of_ble_eq_true rfl) rfl ?_
      refine ra_goto rfl rfl ?_
      exact ra_weak (by repeat' constructor) (ih (v4 + 1) s26 (by first | omega | (unfold ra_in at *; omega)) (by first | omega | (unfold ra_in at *; omega)) hF27 (by first | omega | (unfold ra_in at *; omega)))
theorem sp_1 {n : Nat} {f : Nat → Int32} {d : Nat} {D : Nat} {x0 : Int} {σ : ra_V} (hD : isD D) (hx0 : ra_in x0) : ra_C (g_Gs n f) g_sh 0 (d + 2) 1 [.index (D), ra_I x0] σ (fun r s => rV r ∧ Fr (D) (D + 13) σ s) := by
  refine ra_enter (nn := 4) mt_1 rfl (Nat.le_of_ble_eq_true rfl) rfl (fun h => absurd h (by decide +kernel)) ?_
  refine ra_load rfl rfl rfl rfl ?_
  refine ra_load rfl rfl rfl rfl ?_
  refine ra_putI rfl lk_0_34 (Nat.zero_le _) (sh_D hD) rfl rfl ?_
  refine ra_new Fr_up (fun s1 hs1 => ?_)
  have hF2 := Fr_tr (lo := D) (hi := D + 13) Fr_rf hs1 (by omega)
  refine ra_load rfl rfl rfl rfl ?_
  refine ra_iconst rfl ?_
  refine ra_putI rfl lk_0_38 (Nat.zero_le _) (sh_D hD) rfl rfl ?_
  refine ra_new Fr_up (fun s3 hs3 => ?_)
  have hF4 := Fr_tr (lo := D) (hi := D + 13) hF2 hs3 (by omega)
  refine ra_load rfl rfl rfl rfl ?_
  refine ra_iconst rfl ?_
  refine ra_putI rfl lk_0_41 (Nat.zero_le _) (sh_D hD) rfl rfl ?_
  refine ra_new Fr_up (fun s5 hs5 => ?_)
  have hF6 := Fr_tr (lo := D) (hi := D + 13) hF4 hs5 (by omega)
  refine ra_load rfl rfl rfl rfl ?_
  refine ra_iconst rfl ?_
  refine ra_putI rfl lk_0_44 (Nat.zero_le _) (sh_D hD) rfl rfl ?_
  refine ra_new Fr_up (fun s7 hs7 => ?_)
  have hF8 := Fr_tr (lo := D) (hi := D + 13) hF6 hs7 (by omega)
  refine ra_load rfl rfl rfl rfl ?_
  refine ra_iconst rfl ?_
  refine ra_putI rfl lk_0_47 (Nat.zero_le _) (sh_D hD) rfl rfl ?_
  refine ra_new Fr_up (fun s9 hs9 => ?_)
  have hF10 := Fr_tr (lo := D) (hi := D + 13) hF8 hs9 (by omega)
  refine ra_load rfl rfl rfl rfl ?_
  refine ra_iconst rfl ?_
  refine ra_putI rfl lk_0_50 (Nat.zero_le _) (sh_D hD) rfl rfl ?_
  refine ra_new Fr_up (fun s11 hs11 => ?_)
  have hF12 := Fr_tr (lo := D) (hi := D + 13) hF10 hs11 (by omega)
  refine ra_load rfl rfl rfl rfl ?_
  refine ra_iconst rfl ?_
  refine ra_putI rfl lk_0_53 (Nat.zero_le _) (sh_D hD) rfl rfl ?_
  refine ra_new Fr_up (fun s13 hs13 => ?_)
  have hF14 := Fr_tr (lo := D) (hi := D + 13) hF12 hs13 (by omega)
  refine ra_load rfl rfl rfl rfl ?_
  refine ra_iconst rfl ?_
  refine ra_putI rfl lk_0_56 (Nat.zero_le _) (sh_D hD) rfl rfl ?_
  refine ra_new Fr_up (fun s15 hs15 => ?_)
  have hF16 := Fr_tr (lo := D) (hi := D + 13) hF14 hs15 (by omega)
  refine ra_load rfl rfl rfl rfl ?_
  refine ra_iconst rfl ?_
  refine ra_putI rfl lk_0_59 (Nat.zero_le _) (sh_D hD) rfl rfl ?_
  refine ra_new Fr_up (fun s17 hs17 => ?_)
  have hF18 := Fr_tr (lo := D) (hi := D + 13) hF16 hs17 (by omega)
  refine ra_load rfl rfl rfl rfl ?_
  refine ra_getR rfl lk_0_24 (Nat.zero_le _) (sh_D hD) rfl ?_
  refine ra_cV (sp_68 hD) rfl (ct_68 rfl lk_0_62 (Or.inl rfl) (sh_D3 hD) (Nat.le_of_ble_eq_true rfl)) (fun s19 hs19 => ?_)
  have hF20 := Fr_tr (lo := D) (hi := D + 13) hF18 hs19 (by omega)
  refine ra_load rfl rfl rfl rfl ?_
  refine ra_getR rfl lk_0_17 (Nat.zero_le _) (sh_D hD) rfl ?_
  refine ra_store (L' := [_, _, _, _, _, _]) rfl rfl rfl (Nat.le_of_ble_eq_true rfl) rfl ?_
  refine ra_load rfl rfl rfl rfl ?_
  refine ra_alen rfl (sh_D2 hD) rfl ?_
  refine ra_store (L' := [_, _, _, _, _, _]) rfl rfl rfl (Nat.le_of_ble_eq_true rfl) rfl ?_
  refine ra_iconst rfl ?_
  refine ra_store (L' := [_, _, _, _, _, _]) rfl rfl rfl (Nat.le_of_ble_eq_true rfl) rfl ?_
  exact ra_weak (by repeat' constructor) (lp_1_63 hD hx0 _ (0) s19 (by first | omega | (unfold ra_in at *; omega)) (by first | omega | (unfold ra_in at *; omega)) hF20 (Nat.lt_succ_self _))
end CW
