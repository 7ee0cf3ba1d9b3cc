/-! the class: what its methods do, told weakly (printed by wip/gen/cls.py) -/
section CW
theorem sp_185 {n : Nat} {f : Nat → Int32} {d : Nat} {x0 : Int} {x1 : Int} {x2 : Int} {x3 : Int} {σ : ra_V} (hx0 : ra_in x0) (hx1 : ra_in x1) (hx2 : ra_in x2) (hx3 : ra_in x3) : ra_C (g_Gs n f) g_sh 0 (d + 1) 185 [ra_J x0, ra_J x1, ra_J x2, ra_J x3] σ (fun r s => rB r ∧ s = σ) := by
  refine ra_enter (nn := 0) mt_185 rfl (Nat.le_of_ble_eq_true rfl) rfl ?_
  refine ra_load rfl rfl rfl rfl ?_
  refine ra_load rfl rfl rfl rfl ?_
  refine ra_load rfl rfl rfl rfl ?_
  refine ra_ladd rfl ?_
  refine ra_lcmp rfl (by unfold ra_in6; unfold ra_in at *; omega) (by unfold ra_in6; unfold ra_in at *; omega) ?_
  refine ra_ifge rfl rfl (ra_in_cmp _ _) (fun h1 => ?_) (fun h1 => ?_)
  · refine ra_iconst rfl ?_
    exact ra_ireturn rfl (ra_okB (Or.inl rfl)) ⟨⟨_, (Or.inl rfl), rfl⟩, rfl⟩
  · refine ra_load rfl rfl rfl rfl ?_
    refine ra_load rfl rfl rfl rfl ?_
    refine ra_load rfl rfl rfl rfl ?_
    refine ra_ladd rfl ?_
    refine ra_lcmp rfl (by unfold ra_in6; unfold ra_in at *; omega) (by unfold ra_in6; unfold ra_in at *; omega) ?_
    refine ra_ifge rfl rfl (ra_in_cmp _ _) (fun h2 => ?_) (fun h2 => ?_)
    · refine ra_iconst rfl ?_
      exact ra_ireturn rfl (ra_okB (Or.inl rfl)) ⟨⟨_, (Or.inl rfl), rfl⟩, rfl⟩
    · refine ra_iconst rfl ?_
      refine ra_goto rfl rfl ?_
      exact ra_ireturn rfl (ra_okB (Or.inr rfl)) ⟨⟨_, (Or.inr rfl), rfl⟩, rfl⟩
theorem sp_186 {n : Nat} {f : Nat → Int32} {d : Nat} {x0 : Int} {x1 : Int} {σ : ra_V} (hx0 : ra_in x0) (hx1 : ra_in x1) : ra_C (g_Gs n f) g_sh 0 (d + 1) 186 [ra_I x0, ra_I x1] σ (fun r s => rI r ∧ s = σ) := by
  refine ra_enter (nn := 0) mt_186 rfl (Nat.le_of_ble_eq_true rfl) rfl ?_
  refine ra_load rfl rfl rfl rfl ?_
  refine ra_iconst rfl ?_
  refine ra_icge rfl rfl hx1 (by unfold ra_in at *; omega) (fun h1 => ?_) (fun h1 => ?_)
  · refine ra_load rfl rfl rfl rfl ?_
    refine ra_load rfl rfl rfl rfl ?_
    refine ra_iadd rfl ?_
    refine ra_gen (fun z2 hz2 => ?_)
    refine ra_iconst rfl ?_
    refine ra_isub rfl ?_
    refine ra_gen (fun z3 hz3 => ?_)
    refine ra_load rfl rfl rfl rfl ?_
    refine ra_idiv rfl hz3 hx1 (by omega) ?_
    refine ra_gen (fun z4 hz4 => ?_)
    refine ra_load rfl rfl rfl rfl ?_
    refine ra_imul rfl ?_
    refine ra_gen (fun z5 hz5 => ?_)
    exact ra_ireturn rfl rfl ⟨⟨_, hz5, rfl⟩, rfl⟩
  · refine ra_load rfl rfl rfl rfl ?_
    refine ra_goto rfl rfl ?_
    exact ra_ireturn rfl rfl ⟨⟨_, hx0, rfl⟩, rfl⟩
theorem sp_187 {n : Nat} {f : Nat → Int32} {d : Nat} {x0 : Int} {x1 : Int} {x2 : Int} {σ : ra_V} (hx0 : ra_in x0) (hx1 : ra_in x1) (hx2 : ra_in x2) : ra_C (g_Gs n f) g_sh 0 (d + 2) 187 [ra_I x0, ra_I x1, ra_I x2] σ (fun r s => rI r ∧ s = σ) := by
  refine ra_enter (nn := 0) mt_187 rfl (Nat.le_of_ble_eq_true rfl) rfl ?_
  refine ra_iconst rfl ?_
  refine ra_load rfl rfl rfl rfl ?_
  refine ra_load rfl rfl rfl rfl ?_
  refine ra_load rfl rfl rfl rfl ?_
  refine ra_cIp (sp_186 hx0 hx2) rfl (ct_186 rfl lk_7_286 (Or.inl rfl) (Nat.le_of_ble_eq_true rfl)) (fun z2 hz2 => ?_)
  refine ra_isub rfl ?_
  refine ra_gen (fun z3 hz3 => ?_)
  refine ra_max rfl lk_7_461 (by unfold ra_in at *; omega) hz3 (Nat.le_of_ble_eq_true rfl) ?_
  refine ra_gen (fun z4 hz4 => ?_)
  exact ra_ireturn rfl rfl ⟨⟨_, hz4, rfl⟩, rfl⟩
theorem sp_188 {n : Nat} {f : Nat → Int32} {d : Nat} {x0 : Int} {x1 : Int} {σ : ra_V} (hx0 : ra_in x0) (hx1 : ra_in x1) : ra_C (g_Gs n f) g_sh 0 (d + 1) 188 [ra_I x0, ra_I x1] σ (fun r s => rI r ∧ s = σ) := by
  refine ra_enter (nn := 0) mt_188 rfl (Nat.le_of_ble_eq_true rfl) rfl ?_
  refine ra_load rfl rfl rfl rfl ?_
  refine ra_load rfl rfl rfl rfl ?_
  refine ra_icge rfl rfl hx0 hx1 (fun h1 => ?_) (fun h1 => ?_)
  · refine ra_load rfl rfl rfl rfl ?_
    refine ra_load rfl rfl rfl rfl ?_
    refine ra_isub rfl ?_
    refine ra_gen (fun z2 hz2 => ?_)
    exact ra_ireturn rfl rfl ⟨⟨_, hz2, rfl⟩, rfl⟩
  · refine ra_load rfl rfl rfl rfl ?_
    refine ra_load rfl rfl rfl rfl ?_
    refine ra_isub rfl ?_
    refine ra_gen (fun z3 hz3 => ?_)
    refine ra_goto rfl rfl ?_
    exact ra_ireturn rfl rfl ⟨⟨_, hz3, rfl⟩, rfl⟩
theorem sp_189 {n : Nat} {f : Nat → Int32} {d : Nat} {x0 : Int} {x1 : Int} {σ : ra_V} (hx0 : ra_in x0) (hx1 : ra_in x1) : ra_C (g_Gs n f) g_sh 0 (d + 1) 189 [ra_I x0, ra_I x1] σ (fun r s => rI r ∧ s = σ) := by
  refine ra_enter (nn := 0) mt_189 rfl (Nat.le_of_ble_eq_true rfl) rfl ?_
  refine ra_load rfl rfl rfl rfl ?_
  refine ra_load rfl rfl rfl rfl ?_
  refine ra_icle rfl rfl hx0 hx1 (fun h1 => ?_) (fun h1 => ?_)
  · refine ra_iconst rfl ?_
    exact ra_ireturn rfl rfl ⟨⟨_, (by unfold ra_in at *; omega), rfl⟩, rfl⟩
  · refine ra_iconst rfl ?_
    refine ra_goto rfl rfl ?_
    exact ra_ireturn rfl rfl ⟨⟨_, (by unfold ra_in at *; omega), rfl⟩, rfl⟩
theorem sp_190 {n : Nat} {f : Nat → Int32} {d : Nat} {x0 : Int} {x1 : Int} {x2 : Int} {σ : ra_V} (hx0 : ra_in x0) (hx1 : ra_in x1) (hx2 : ra_in x2) : ra_C (g_Gs n f) g_sh 0 (d + 2) 190 [ra_I x0, ra_I x1, ra_I x2] σ (fun r s => rI r ∧ s = σ) := by
  refine ra_enter (nn := 2) mt_190 rfl (Nat.le_of_ble_eq_true rfl) rfl ?_
  refine ra_load rfl rfl rfl rfl ?_
  refine ra_iconst rfl ?_
  refine ra_icge rfl rfl hx1 (by unfold ra_in at *; omega) (fun h1 => ?_) (fun h1 => ?_)
  · refine ra_load rfl rfl rfl rfl ?_
    refine ra_load rfl rfl rfl rfl ?_
    refine ra_irem rfl hx0 hx1 (by omega) ?_
    refine ra_gen (fun z2 hz2 => ?_)
    refine ra_store (L' := [_, _, _, _, _]) rfl rfl rfl (Nat.le_of_ble_eq_true rfl) rfl ?_
    refine ra_load rfl rfl rfl rfl ?_
    refine ra_load rfl rfl rfl rfl ?_
    refine ra_idiv rfl hx0 hx1 (by omega) ?_
    refine ra_gen (fun z3 hz3 => ?_)
    refine ra_load rfl rfl rfl rfl ?_
    refine ra_load rfl rfl rfl rfl ?_
    refine ra_cIp (sp_189 hx1 hx2) rfl (ct_189 rfl lk_7_466 (Or.inl rfl) (Nat.le_of_ble_eq_true rfl)) (fun z5 hz5 => ?_)
    refine ra_imul rfl ?_
    refine ra_gen (fun z6 hz6 => ?_)
    refine ra_store (L' := [_, _, _, _, _]) rfl rfl rfl (Nat.le_of_ble_eq_true rfl) rfl ?_
    refine ra_load rfl rfl rfl rfl ?_
    refine ra_ifne rfl rfl hz2 (fun h7 => ?_) (fun h7 => ?_)
    · refine ra_load rfl rfl rfl rfl ?_
      refine ra_load rfl rfl rfl rfl ?_
      refine ra_load rfl rfl rfl rfl ?_
      refine ra_cIp (sp_189 hz2 hx2) rfl (ct_189 rfl lk_7_466 (Or.inl rfl) (Nat.le_of_ble_eq_true rfl)) (fun z9 hz9 => ?_)
      refine ra_iadd rfl ?_
      refine ra_gen (fun z10 hz10 => ?_)
      exact ra_ireturn rfl rfl ⟨⟨_, hz10, rfl⟩, rfl⟩
    · refine ra_load rfl rfl rfl rfl ?_
      refine ra_goto rfl rfl ?_
      exact ra_ireturn rfl rfl ⟨⟨_, hz6, rfl⟩, rfl⟩
  · refine ra_iconst rfl ?_
    exact ra_ireturn rfl rfl ⟨⟨_, (by unfold ra_in at *; omega), rfl⟩, rfl⟩
theorem sp_92 {n : Nat} {f : Nat → Int32} {d : Nat} {D i : Nat} {σ : ra_V} (hD : isD D) (hi : i < 8) : ra_C (g_Gs n f) g_sh 0 (d + 1) 92 [.index (D + 5 + i)] σ (fun r s => rB r ∧ s = σ) := by
  refine ra_enter (nn := 0) mt_92 rfl (Nat.le_of_ble_eq_true rfl) rfl ?_
  refine ra_load rfl rfl rfl rfl ?_
  refine ra_getI rfl lk_5_18 (Nat.zero_le _) (sh_P hD hi) rfl ?_
  refine ra_gen (fun z1 hz1 => ?_)
  refine ra_ifle rfl rfl hz1 (fun h2 => ?_) (fun h2 => ?_)
  · refine ra_iconst rfl ?_
    exact ra_ireturn rfl (ra_okB (Or.inl rfl)) ⟨⟨_, (Or.inl rfl), rfl⟩, rfl⟩
  · refine ra_iconst rfl ?_
    refine ra_goto rfl rfl ?_
    exact ra_ireturn rfl (ra_okB (Or.inr rfl)) ⟨⟨_, (Or.inr rfl), rfl⟩, rfl⟩
theorem sp_93 {n : Nat} {f : Nat → Int32} {d : Nat} {D i : Nat} {σ : ra_V} (hD : isD D) (hi : i < 8) : ra_C (g_Gs n f) g_sh 0 (d + 1) 93 [.index (D + 5 + i)] σ (fun r s => rI r ∧ s = σ) := by
  refine ra_enter (nn := 0) mt_93 rfl (Nat.le_of_ble_eq_true rfl) rfl ?_
  refine ra_load rfl rfl rfl rfl ?_
  refine ra_getI rfl lk_5_15 (Nat.zero_le _) (sh_P hD hi) rfl ?_
  refine ra_gen (fun z1 hz1 => ?_)
  refine ra_load rfl rfl rfl rfl ?_
  refine ra_getI rfl lk_5_18 (Nat.zero_le _) (sh_P hD hi) rfl ?_
  refine ra_gen (fun z2 hz2 => ?_)
  refine ra_iadd rfl ?_
  refine ra_gen (fun z3 hz3 => ?_)
  exact ra_ireturn rfl rfl ⟨⟨_, hz3, rfl⟩, rfl⟩
theorem sp_94 {n : Nat} {f : Nat → Int32} {d : Nat} {D i : Nat} {x0 : Int} {σ : ra_V} (hD : isD D) (hi : i < 8) (hx0 : ra_in x0) : ra_C (g_Gs n f) g_sh 0 (d + 1) 94 [.index (D + 5 + i), ra_I x0] σ (fun r s => rI r ∧ s = σ) := by
  refine ra_enter (nn := 0) mt_94 rfl (Nat.le_of_ble_eq_true rfl) rfl ?_
  refine ra_sipush rfl (by decide) ?_
  refine ra_load rfl rfl rfl rfl ?_
  refine ra_getI rfl lk_5_31 (Nat.zero_le _) (sh_P hD hi) rfl ?_
  refine ra_gen (fun z1 hz1 => ?_)
  refine ra_iconst rfl ?_
  refine ra_iadd rfl ?_
  refine ra_gen (fun z2 hz2 => ?_)
  refine ra_imul rfl ?_
  refine ra_gen (fun z3 hz3 => ?_)
  refine ra_load rfl rfl rfl rfl ?_
  refine ra_iadd rfl ?_
  refine ra_gen (fun z4 hz4 => ?_)
  exact ra_ireturn rfl rfl ⟨⟨_, hz4, rfl⟩, rfl⟩
theorem sp_95 {n : Nat} {f : Nat → Int32} {d : Nat} {D i : Nat} {x0 : Int} {x1 : Int} {σ : ra_V} (hD : isD D) (hi : i < 8) (hx0 : ra_in x0) (hx1 : ra_in x1) : ra_C (g_Gs n f) g_sh 0 (d + 1) 95 [.index (D + 5 + i), ra_J x0, ra_J x1] σ (fun r s => rB r ∧ s = σ) := by
  refine ra_enter (nn := 0) mt_95 rfl (Nat.le_of_ble_eq_true rfl) rfl ?_
  refine ra_load rfl rfl rfl rfl ?_
  refine ra_getI rfl lk_5_18 (Nat.zero_le _) (sh_P hD hi) rfl ?_
  refine ra_gen (fun z1 hz1 => ?_)
  refine ra_ifle rfl rfl hz1 (fun h2 => ?_) (fun h2 => ?_)
  · refine ra_iconst rfl ?_
    exact ra_ireturn rfl (ra_okB (Or.inl rfl)) ⟨⟨_, (Or.inl rfl), rfl⟩, rfl⟩
  · refine ra_load rfl rfl rfl rfl ?_
    refine ra_getI rfl lk_5_15 (Nat.zero_le _) (sh_P hD hi) rfl ?_
    refine ra_gen (fun z3 hz3 => ?_)
    refine ra_i2l rfl hz3 ?_
    refine ra_load rfl rfl rfl rfl ?_
    refine ra_load rfl rfl rfl rfl ?_
    refine ra_ladd rfl ?_
    refine ra_lcmp rfl (by unfold ra_in6; unfold ra_in at *; omega) (by unfold ra_in6; unfold ra_in at *; omega) ?_
    refine ra_ifge rfl rfl (ra_in_cmp _ _) (fun h4 => ?_) (fun h4 => ?_)
    · refine ra_iconst rfl ?_
      exact ra_ireturn rfl (ra_okB (Or.inl rfl)) ⟨⟨_, (Or.inl rfl), rfl⟩, rfl⟩
    · refine ra_load rfl rfl rfl rfl ?_
      refine ra_load rfl rfl rfl rfl ?_
      refine ra_getI rfl lk_5_15 (Nat.zero_le _) (sh_P hD hi) rfl ?_
      refine ra_gen (fun z5 hz5 => ?_)
      refine ra_load rfl rfl rfl rfl ?_
      refine ra_getI rfl lk_5_18 (Nat.zero_le _) (sh_P hD hi) rfl ?_
      refine ra_gen (fun z6 hz6 => ?_)
      refine ra_iadd rfl ?_
      refine ra_gen (fun z7 hz7 => ?_)
      refine ra_i2l rfl hz7 ?_
      refine ra_lcmp rfl (by unfold ra_in6; unfold ra_in at *; omega) (by unfold ra_in6; unfold ra_in at *; omega) ?_
      refine ra_ifge rfl rfl (ra_in_cmp _ _) (fun h8 => ?_) (fun h8 => ?_)
      · refine ra_iconst rfl ?_
        exact ra_ireturn rfl (ra_okB (Or.inl rfl)) ⟨⟨_, (Or.inl rfl), rfl⟩, rfl⟩
      · refine ra_iconst rfl ?_
        refine ra_goto rfl rfl ?_
        exact ra_ireturn rfl (ra_okB (Or.inr rfl)) ⟨⟨_, (Or.inr rfl), rfl⟩, rfl⟩
theorem sp_67 {n : Nat} {f : Nat → Int32} {d : Nat} {D : Nat} {σ : ra_V} (hD : isD D) : ra_C (g_Gs n f) g_sh 0 (d + 1) 67 [.index (D + 3)] σ (fun r s => rB r ∧ s = σ) := by
  refine ra_enter (nn := 0) mt_67 rfl (Nat.le_of_ble_eq_true rfl) rfl ?_
  refine ra_load rfl rfl rfl rfl ?_
  refine ra_getI rfl lk_3_9 (Nat.zero_le _) (sh_D3 hD) rfl ?_
  refine ra_gen (fun z1 hz1 => ?_)
  refine ra_iconst rfl ?_
  refine ra_iceq rfl rfl hz1 (by unfold ra_in at *; omega) (fun h2 => ?_) (fun h2 => ?_)
  · refine ra_iconst rfl ?_
    exact ra_ireturn rfl (ra_okB (Or.inl rfl)) ⟨⟨_, (Or.inl rfl), rfl⟩, rfl⟩
  · refine ra_iconst rfl ?_
    refine ra_goto rfl rfl ?_
    exact ra_ireturn rfl (ra_okB (Or.inr rfl)) ⟨⟨_, (Or.inr rfl), rfl⟩, rfl⟩
theorem sp_69 {n : Nat} {f : Nat → Int32} {d : Nat} {D : Nat} {x0 : Int} {σ : ra_V} (hD : isD D) (hx0 : ra_in x0) : ra_C (g_Gs n f) g_sh 0 (d + 1) 69 [.index (D + 3), ra_I x0] σ (fun r s => rI r ∧ s = σ) := by
  refine ra_enter (nn := 1) mt_69 rfl (Nat.le_of_ble_eq_true rfl) rfl ?_
  refine ra_load rfl rfl rfl rfl ?_
  refine ra_getI rfl lk_3_18 (Nat.zero_le _) (sh_D3 hD) rfl ?_
  refine ra_gen (fun z1 hz1 => ?_)
  refine ra_load rfl rfl rfl rfl ?_
  refine ra_load rfl rfl rfl rfl ?_
  refine ra_getI rfl lk_3_27 (Nat.zero_le _) (sh_D3 hD) rfl ?_
  refine ra_gen (fun z2 hz2 => ?_)
  refine ra_imul rfl ?_
  refine ra_gen (fun z3 hz3 => ?_)
  refine ra_isub rfl ?_
  refine ra_gen (fun z4 hz4 => ?_)
  refine ra_store (L' := [_, _, _]) rfl rfl rfl (Nat.le_of_ble_eq_true rfl) rfl ?_
  refine ra_load rfl rfl rfl rfl ?_
  refine ra_load rfl rfl rfl rfl ?_
  refine ra_getI rfl lk_3_27 (Nat.zero_le _) (sh_D3 hD) rfl ?_
  refine ra_gen (fun z5 hz5 => ?_)
  refine ra_icge rfl rfl hz4 hz5 (fun h6 => ?_) (fun h6 => ?_)
  · refine ra_load rfl rfl rfl rfl ?_
    refine ra_getI rfl lk_3_27 (Nat.zero_le _) (sh_D3 hD) rfl ?_
    refine ra_gen (fun z7 hz7 => ?_)
    exact ra_ireturn rfl rfl ⟨⟨_, hz7, rfl⟩, rfl⟩
  · refine ra_load rfl rfl rfl rfl ?_
    refine ra_goto rfl rfl ?_
    exact ra_ireturn rfl rfl ⟨⟨_, hz4, rfl⟩, rfl⟩
theorem sp_70 {n : Nat} {f : Nat → Int32} {d : Nat} {D : Nat} {x0 : Int} {σ : ra_V} (hD : isD D) (hx0 : ra_in x0) : ra_C (g_Gs n f) g_sh 0 (d + 1) 70 [.index (D + 3), ra_I x0] σ (fun r s => rB r ∧ s = σ) := by
  refine ra_enter (nn := 0) mt_70 rfl (Nat.le_of_ble_eq_true rfl) rfl ?_
  refine ra_load rfl rfl rfl rfl ?_
  refine ra_getI rfl lk_3_24 (Nat.zero_le _) (sh_D3 hD) rfl ?_
  refine ra_gen (fun z1 hz1 => ?_)
  refine ra_load rfl rfl rfl rfl ?_
  refine ra_getI rfl lk_3_21 (Nat.zero_le _) (sh_D3 hD) rfl ?_
  refine ra_gen (fun z2 hz2 => ?_)
  refine ra_icge rfl rfl hz1 hz2 (fun h3 => ?_) (fun h3 => ?_)
  · refine ra_load rfl rfl rfl rfl ?_
    refine ra_load rfl rfl rfl rfl ?_
    refine ra_getI rfl lk_3_30 (Nat.zero_le _) (sh_D3 hD) rfl ?_
    refine ra_gen (fun z4 hz4 => ?_)
    refine ra_load rfl rfl rfl rfl ?_
    refine ra_getI rfl lk_3_33 (Nat.zero_le _) (sh_D3 hD) rfl ?_
    refine ra_gen (fun z5 hz5 => ?_)
    refine ra_isub rfl ?_
    refine ra_gen (fun z6 hz6 => ?_)
    refine ra_iclt rfl rfl hx0 hz6 (fun h7 => ?_) (fun h7 => ?_)
    · refine ra_iconst rfl ?_
      exact ra_ireturn rfl (ra_okB (Or.inl rfl)) ⟨⟨_, (Or.inl rfl), rfl⟩, rfl⟩
    · refine ra_iconst rfl ?_
      refine ra_goto rfl rfl ?_
      exact ra_ireturn rfl (ra_okB (Or.inr rfl)) ⟨⟨_, (Or.inr rfl), rfl⟩, rfl⟩
  · refine ra_load rfl rfl rfl rfl ?_
    refine ra_load rfl rfl rfl rfl ?_
    refine ra_getI rfl lk_3_33 (Nat.zero_le _) (sh_D3 hD) rfl ?_
    refine ra_gen (fun z8 hz8 => ?_)
    refine ra_icge rfl rfl hx0 hz8 (fun h9 => ?_) (fun h9 => ?_)
    · refine ra_iconst rfl ?_
      refine ra_goto rfl rfl ?_
      exact ra_ireturn rfl (ra_okB (Or.inl rfl)) ⟨⟨_, (Or.inl rfl), rfl⟩, rfl⟩
    · refine ra_iconst rfl ?_
      refine ra_goto rfl rfl ?_
      exact ra_ireturn rfl (ra_okB (Or.inr rfl)) ⟨⟨_, (Or.inr rfl), rfl⟩, rfl⟩
theorem sp_71 {n : Nat} {f : Nat → Int32} {d : Nat} {D : Nat} {σ : ra_V} (hD : isD D) : ra_C (g_Gs n f) g_sh 0 (d + 1) 71 [.index (D + 3)] σ (fun r s => rI r ∧ s = σ) := by
  refine ra_enter (nn := 0) mt_71 rfl (Nat.le_of_ble_eq_true rfl) rfl ?_
  refine ra_load rfl rfl rfl rfl ?_
  refine ra_getI rfl lk_3_24 (Nat.zero_le _) (sh_D3 hD) rfl ?_
  refine ra_gen (fun z1 hz1 => ?_)
  refine ra_load rfl rfl rfl rfl ?_
  refine ra_getI rfl lk_3_21 (Nat.zero_le _) (sh_D3 hD) rfl ?_
  refine ra_gen (fun z2 hz2 => ?_)
  refine ra_icge rfl rfl hz1 hz2 (fun h3 => ?_) (fun h3 => ?_)
  · refine ra_load rfl rfl rfl rfl ?_
    refine ra_getI rfl lk_3_30 (Nat.zero_le _) (sh_D3 hD) rfl ?_
    refine ra_gen (fun z4 hz4 => ?_)
    refine ra_iconst rfl ?_
    refine ra_isub rfl ?_
    refine ra_gen (fun z5 hz5 => ?_)
    refine ra_load rfl rfl rfl rfl ?_
    refine ra_getI rfl lk_3_33 (Nat.zero_le _) (sh_D3 hD) rfl ?_
    refine ra_gen (fun z6 hz6 => ?_)
    refine ra_isub rfl ?_
    refine ra_gen (fun z7 hz7 => ?_)
    exact ra_ireturn rfl rfl ⟨⟨_, hz7, rfl⟩, rfl⟩
  · refine ra_load rfl rfl rfl rfl ?_
    refine ra_getI rfl lk_3_33 (Nat.zero_le _) (sh_D3 hD) rfl ?_
    refine ra_gen (fun z8 hz8 => ?_)
    refine ra_goto rfl rfl ?_
    exact ra_ireturn rfl rfl ⟨⟨_, hz8, rfl⟩, rfl⟩
theorem sp_72 {n : Nat} {f : Nat → Int32} {d : Nat} {D : Nat} {σ : ra_V} (hD : isD D) : ra_C (g_Gs n f) g_sh 0 (d + 2) 72 [.index (D + 3)] σ (fun r s => rI r ∧ s = σ) := by
  refine ra_enter (nn := 0) mt_72 rfl (Nat.le_of_ble_eq_true rfl) rfl ?_
  refine ra_load rfl rfl rfl rfl ?_
  refine ra_cIp (sp_71 hD) rfl (ct_71 rfl lk_3_40 (Or.inl rfl) (sh_D3 hD) (Nat.le_of_ble_eq_true rfl)) (fun z2 hz2 => ?_)
  refine ra_load rfl rfl rfl rfl ?_
  refine ra_getI rfl lk_3_27 (Nat.zero_le _) (sh_D3 hD) rfl ?_
  refine ra_gen (fun z3 hz3 => ?_)
  refine ra_imul rfl ?_
  refine ra_gen (fun z4 hz4 => ?_)
  exact ra_ireturn rfl rfl ⟨⟨_, hz4, rfl⟩, rfl⟩
theorem sp_73 {n : Nat} {f : Nat → Int32} {d : Nat} {D : Nat} {σ : ra_V} (hD : isD D) : ra_C (g_Gs n f) g_sh 0 (d + 2) 73 [.index (D + 3)] σ (fun r s => rI r ∧ s = σ) := by
  refine ra_enter (nn := 0) mt_73 rfl (Nat.le_of_ble_eq_true rfl) rfl ?_
  refine ra_load rfl rfl rfl rfl ?_
  refine ra_load rfl rfl rfl rfl ?_
  refine ra_cIp (sp_71 hD) rfl (ct_71 rfl lk_3_40 (Or.inl rfl) (sh_D3 hD) (Nat.le_of_ble_eq_true rfl)) (fun z2 hz2 => ?_)
  refine ra_cIp (sp_69 hD hz2) rfl (ct_69 rfl lk_3_44 (Or.inl rfl) (sh_D3 hD) (Nat.le_of_ble_eq_true rfl)) (fun z4 hz4 => ?_)
  exact ra_ireturn rfl rfl ⟨⟨_, hz4, rfl⟩, rfl⟩
theorem sp_74 {n : Nat} {f : Nat → Int32} {d : Nat} {D : Nat} {σ : ra_V} (hD : isD D) : ra_C (g_Gs n f) g_sh 0 (d + 3) 74 [.index (D + 3)] σ (fun r s => rI r ∧ s = σ) := by
  refine ra_enter (nn := 0) mt_74 rfl (Nat.le_of_ble_eq_true rfl) rfl ?_
  refine ra_load rfl rfl rfl rfl ?_
  refine ra_getBw rfl lk_3_36 (Nat.zero_le _) (sh_D3 hD) rfl (fun z1 hz1 => ?_)
  refine ra_ifeq rfl rfl (ra_in01 hz1) (fun h2 => ?_) (fun h2 => ?_)
  · refine ra_load rfl rfl rfl rfl ?_
    refine ra_cIp (sp_73 hD) rfl (ct_73 rfl lk_3_48 (Or.inl rfl) (sh_D3 hD) (Nat.le_of_ble_eq_true rfl)) (fun z4 hz4 => ?_)
    refine ra_load rfl rfl rfl rfl ?_
    refine ra_getI rfl lk_3_21 (Nat.zero_le _) (sh_D3 hD) rfl ?_
    refine ra_gen (fun z5 hz5 => ?_)
    refine ra_load rfl rfl rfl rfl ?_
    refine ra_getI rfl lk_3_24 (Nat.zero_le _) (sh_D3 hD) rfl ?_
    refine ra_gen (fun z6 hz6 => ?_)
    refine ra_cIp (sp_188 hz5 hz6) rfl (ct_188 rfl lk_3_51 (Or.inr ⟨rfl, rfl⟩) (Nat.le_of_ble_eq_true rfl)) (fun z8 hz8 => ?_)
    refine ra_icle rfl rfl hz4 hz8 (fun h9 => ?_) (fun h9 => ?_)
    · refine ra_iconst rfl ?_
      exact ra_ireturn rfl rfl ⟨⟨_, (by unfold ra_in at *; omega), rfl⟩, rfl⟩
    · refine ra_iconst rfl ?_
      refine ra_goto rfl rfl ?_
      exact ra_ireturn rfl rfl ⟨⟨_, (by unfold ra_in at *; omega), rfl⟩, rfl⟩
  · refine ra_iconst rfl ?_
    exact ra_ireturn rfl rfl ⟨⟨_, (by unfold ra_in at *; omega), rfl⟩, rfl⟩
theorem sp_75 {n : Nat} {f : Nat → Int32} {d : Nat} {D : Nat} {x0 : Int} {σ : ra_V} (hD : isD D) (hx0 : ra_in x0) : ra_C (g_Gs n f) g_sh 0 (d + 3) 75 [.index (D + 3), ra_I x0] σ (fun r s => rI r ∧ s = σ) := by
  refine ra_enter (nn := 0) mt_75 rfl (Nat.le_of_ble_eq_true rfl) rfl ?_
  refine ra_load rfl rfl rfl rfl ?_
  refine ra_getBw rfl lk_3_36 (Nat.zero_le _) (sh_D3 hD) rfl (fun z1 hz1 => ?_)
  refine ra_ifeq rfl rfl (ra_in01 hz1) (fun h2 => ?_) (fun h2 => ?_)
  · refine ra_load rfl rfl rfl rfl ?_
    refine ra_getI rfl lk_3_21 (Nat.zero_le _) (sh_D3 hD) rfl ?_
    refine ra_gen (fun z3 hz3 => ?_)
    refine ra_load rfl rfl rfl rfl ?_
    refine ra_iadd rfl ?_
    refine ra_gen (fun z4 hz4 => ?_)
    exact ra_ireturn rfl rfl ⟨⟨_, hz4, rfl⟩, rfl⟩
  · refine ra_load rfl rfl rfl rfl ?_
    refine ra_getI rfl lk_3_15 (Nat.zero_le _) (sh_D3 hD) rfl ?_
    refine ra_gen (fun z5 hz5 => ?_)
    refine ra_load rfl rfl rfl rfl ?_
    refine ra_iadd rfl ?_
    refine ra_gen (fun z6 hz6 => ?_)
    refine ra_load rfl rfl rfl rfl ?_
    refine ra_cIp (sp_72 hD) rfl (ct_72 rfl lk_3_55 (Or.inl rfl) (sh_D3 hD) (Nat.le_of_ble_eq_true rfl)) (fun z8 hz8 => ?_)
    refine ra_isub rfl ?_
    refine ra_gen (fun z9 hz9 => ?_)
    refine ra_goto rfl rfl ?_
    exact ra_ireturn rfl rfl ⟨⟨_, hz9, rfl⟩, rfl⟩
theorem sp_76 {n : Nat} {f : Nat → Int32} {d : Nat} {D : Nat} {x0 : Int} {σ : ra_V} (hD : isD D) (hx0 : ra_in x0) : ra_C (g_Gs n f) g_sh 0 (d + 4) 76 [.index (D + 3), ra_I x0] σ (fun r s => rI r ∧ s = σ) := by
  refine ra_enter (nn := 0) mt_76 rfl (Nat.le_of_ble_eq_true rfl) rfl ?_
  refine ra_load rfl rfl rfl rfl ?_
  refine ra_cIp (sp_74 hD) rfl (ct_74 rfl lk_3_58 (Or.inl rfl) (sh_D3 hD) (Nat.le_of_ble_eq_true rfl)) (fun z2 hz2 => ?_)
  refine ra_iconst rfl ?_
  refine ra_icne rfl rfl hz2 (by unfold ra_in at *; omega) (fun h3 => ?_) (fun h3 => ?_)
  · refine ra_load rfl rfl rfl rfl ?_
    refine ra_getI rfl lk_3_24 (Nat.zero_le _) (sh_D3 hD) rfl ?_
    refine ra_gen (fun z4 hz4 => ?_)
    refine ra_load rfl rfl rfl rfl ?_
    refine ra_iadd rfl ?_
    refine ra_gen (fun z5 hz5 => ?_)
    exact ra_ireturn rfl rfl ⟨⟨_, hz5, rfl⟩, rfl⟩
  · refine ra_load rfl rfl rfl rfl ?_
    refine ra_getI rfl lk_3_15 (Nat.zero_le _) (sh_D3 hD) rfl ?_
    refine ra_gen (fun z6 hz6 => ?_)
    refine ra_load rfl rfl rfl rfl ?_
    refine ra_iadd rfl ?_
    refine ra_gen (fun z7 hz7 => ?_)
    refine ra_load rfl rfl rfl rfl ?_
    refine ra_cIp (sp_72 hD) rfl (ct_72 rfl lk_3_55 (Or.inl rfl) (sh_D3 hD) (Nat.le_of_ble_eq_true rfl)) (fun z9 hz9 => ?_)
    refine ra_isub rfl ?_
    refine ra_gen (fun z10 hz10 => ?_)
    refine ra_goto rfl rfl ?_
    exact ra_ireturn rfl rfl ⟨⟨_, hz10, rfl⟩, rfl⟩
theorem sp_77 {n : Nat} {f : Nat → Int32} {d : Nat} {D : Nat} {x0 : Int} {σ : ra_V} (hD : isD D) (hx0 : ra_in x0) : ra_C (g_Gs n f) g_sh 0 (d + 2) 77 [.index (D + 3), ra_I x0] σ (fun r s => rI r ∧ s = σ) := by
  refine ra_enter (nn := 2) mt_77 rfl (Nat.le_of_ble_eq_true rfl) rfl ?_
  refine ra_load rfl rfl rfl rfl ?_
  refine ra_getI rfl lk_3_27 (Nat.zero_le _) (sh_D3 hD) rfl ?_
  refine ra_gen (fun z1 hz1 => ?_)
  refine ra_iconst rfl ?_
  refine ra_icge rfl rfl hz1 (by unfold ra_in at *; omega) (fun h2 => ?_) (fun h2 => ?_)
  · refine ra_load rfl rfl rfl rfl ?_
    refine ra_load rfl rfl rfl rfl ?_
    refine ra_getI rfl lk_3_27 (Nat.zero_le _) (sh_D3 hD) rfl ?_
    refine ra_gen (fun z3 hz3 => ?_)
    refine ra_idiv rfl hx0 hz3 (by omega) ?_
    refine ra_gen (fun z4 hz4 => ?_)
    refine ra_store (L' := [_, _, _, _]) rfl rfl rfl (Nat.le_of_ble_eq_true rfl) rfl ?_
    refine ra_load rfl rfl rfl rfl ?_
    refine ra_load rfl rfl rfl rfl ?_
    refine ra_cBp (sp_70 hD hz4) rfl (ct_70 rfl lk_3_61 (Or.inl rfl) (sh_D3 hD) (Nat.le_of_ble_eq_true rfl)) (fun z6 hz6 => ?_)
    refine ra_ifeq rfl rfl (ra_in01 hz6) (fun h7 => ?_) (fun h7 => ?_)
    · refine ra_load rfl rfl rfl rfl ?_
      refine ra_getBw rfl lk_3_36 (Nat.zero_le _) (sh_D3 hD) rfl (fun z8 hz8 => ?_)
      refine ra_ifeq rfl rfl (ra_in01 hz8) (fun h9 => ?_) (fun h9 => ?_)
      · refine ra_iconst rfl ?_
        refine ra_store (L' := [_, _, _, _]) rfl rfl rfl (Nat.le_of_ble_eq_true rfl) rfl ?_
        refine ra_load rfl rfl rfl rfl ?_
        refine ra_ifeq rfl rfl (by unfold ra_in at *; omega) (fun h10 => ?_) (fun h10 => ?_)
        · refine ra_load rfl rfl rfl rfl ?_
          refine ra_getI rfl lk_3_21 (Nat.zero_le _) (sh_D3 hD) rfl ?_
          refine ra_gen (fun z11 hz11 => ?_)
          refine ra_load rfl rfl rfl rfl ?_
          refine ra_iadd rfl ?_
          refine ra_gen (fun z12 hz12 => ?_)
          exact ra_ireturn rfl rfl ⟨⟨_, hz12, rfl⟩, rfl⟩
        · refine ra_load rfl rfl rfl rfl ?_
          refine ra_getI rfl lk_3_15 (Nat.zero_le _) (sh_D3 hD) rfl ?_
          refine ra_gen (fun z13 hz13 => ?_)
          refine ra_load rfl rfl rfl rfl ?_
          refine ra_iadd rfl ?_
          refine ra_gen (fun z14 hz14 => ?_)
          refine ra_load rfl rfl rfl rfl ?_
          refine ra_load rfl rfl rfl rfl ?_
          refine ra_getI rfl lk_3_27 (Nat.zero_le _) (sh_D3 hD) rfl ?_
          refine ra_gen (fun z15 hz15 => ?_)
          refine ra_imul rfl ?_
          refine ra_gen (fun z16 hz16 => ?_)
          refine ra_isub rfl ?_
          refine ra_gen (fun z17 hz17 => ?_)
          refine ra_goto rfl rfl ?_
          exact ra_ireturn rfl rfl ⟨⟨_, hz17, rfl⟩, rfl⟩
      · refine ra_load rfl rfl rfl rfl ?_
        refine ra_load rfl rfl rfl rfl ?_
        refine ra_cIp (sp_71 hD) rfl (ct_71 rfl lk_3_40 (Or.inl rfl) (sh_D3 hD) (Nat.le_of_ble_eq_true rfl)) (fun z19 hz19 => ?_)
        refine ra_icne rfl rfl hz4 hz19 (fun h20 => ?_) (fun h20 => ?_)
        · refine ra_iconst rfl ?_
          refine ra_store (L' := [_, _, _, _]) rfl rfl rfl (Nat.le_of_ble_eq_true rfl) rfl ?_
          refine ra_load rfl rfl rfl rfl ?_
          refine ra_ifeq rfl rfl (by unfold ra_in at *; omega) (fun h21 => ?_) (fun h21 => ?_)
          · refine ra_load rfl rfl rfl rfl ?_
            refine ra_getI rfl lk_3_21 (Nat.zero_le _) (sh_D3 hD) rfl ?_
            refine ra_gen (fun z22 hz22 => ?_)
            refine ra_load rfl rfl rfl rfl ?_
            refine ra_iadd rfl ?_
            refine ra_gen (fun z23 hz23 => ?_)
            exact ra_ireturn rfl rfl ⟨⟨_, hz23, rfl⟩, rfl⟩
          · refine ra_load rfl rfl rfl rfl ?_
            refine ra_getI rfl lk_3_15 (Nat.zero_le _) (sh_D3 hD) rfl ?_
            refine ra_gen (fun z24 hz24 => ?_)
            refine ra_load rfl rfl rfl rfl ?_
            refine ra_iadd rfl ?_
            refine ra_gen (fun z25 hz25 => ?_)
            refine ra_load rfl rfl rfl rfl ?_
            refine ra_load rfl rfl rfl rfl ?_
            refine ra_getI rfl lk_3_27 (Nat.zero_le _) (sh_D3 hD) rfl ?_
            refine ra_gen (fun z26 hz26 => ?_)
            refine ra_imul rfl ?_
            refine ra_gen (fun z27 hz27 => ?_)
            refine ra_isub rfl ?_
            refine ra_gen (fun z28 hz28 => ?_)
            refine ra_goto rfl rfl ?_
            exact ra_ireturn rfl rfl ⟨⟨_, hz28, rfl⟩, rfl⟩
        · refine ra_iconst rfl ?_
          refine ra_goto rfl rfl ?_
          refine ra_store (L' := [_, _, _, _]) rfl rfl rfl (Nat.le_of_ble_eq_true rfl) rfl ?_
          refine ra_load rfl rfl rfl rfl ?_
          refine ra_ifeq rfl rfl (by unfold ra_in at *; omega) (fun h29 => ?_) (fun h29 => ?_)
          · refine ra_load rfl rfl rfl rfl ?_
            refine ra_getI rfl lk_3_21 (Nat.zero_le _) (sh_D3 hD) rfl ?_
            refine ra_gen (fun z30 hz30 => ?_)
            refine ra_load rfl rfl rfl rfl ?_
            refine ra_iadd rfl ?_
            refine ra_gen (fun z31 hz31 => ?_)
            exact ra_ireturn rfl rfl ⟨⟨_, hz31, rfl⟩, rfl⟩
          · refine ra_load rfl rfl rfl rfl ?_
            refine ra_getI rfl lk_3_15 (Nat.zero_le _) (sh_D3 hD) rfl ?_
            refine ra_gen (fun z32 hz32 => ?_)
            refine ra_load rfl rfl rfl rfl ?_
            refine ra_iadd rfl ?_
            refine ra_gen (fun z33 hz33 => ?_)
            refine ra_load rfl rfl rfl rfl ?_
            refine ra_load rfl rfl rfl rfl ?_
            refine ra_getI rfl lk_3_27 (Nat.zero_le _) (sh_D3 hD) rfl ?_
            refine ra_gen (fun z34 hz34 => ?_)
            refine ra_imul rfl ?_
            refine ra_gen (fun z35 hz35 => ?_)
            refine ra_isub rfl ?_
            refine ra_gen (fun z36 hz36 => ?_)
            refine ra_goto rfl rfl ?_
            exact ra_ireturn rfl rfl ⟨⟨_, hz36, rfl⟩, rfl⟩
    · refine ra_load rfl rfl rfl rfl ?_
      refine ra_getI rfl lk_3_24 (Nat.zero_le _) (sh_D3 hD) rfl ?_
      refine ra_gen (fun z37 hz37 => ?_)
      refine ra_load rfl rfl rfl rfl ?_
      refine ra_iadd rfl ?_
      refine ra_gen (fun z38 hz38 => ?_)
      exact ra_ireturn rfl rfl ⟨⟨_, hz38, rfl⟩, rfl⟩
  · refine ra_iconst rfl ?_
    refine ra_goto rfl rfl ?_
    refine ra_store (L' := [_, _, _, _]) rfl rfl rfl (Nat.le_of_ble_eq_true rfl) rfl ?_
    refine ra_load rfl rfl rfl rfl ?_
    refine ra_load rfl rfl rfl rfl ?_
    refine ra_cBp (sp_70 hD (by unfold ra_in at *; omega)) rfl (ct_70 rfl lk_3_61 (Or.inl rfl) (sh_D3 hD) (Nat.le_of_ble_eq_true rfl)) (fun z40 hz40 => ?_)
    refine ra_ifeq rfl rfl (ra_in01 hz40) (fun h41 => ?_) (fun h41 => ?_)
    · refine ra_load rfl rfl rfl rfl ?_
      refine ra_getBw rfl lk_3_36 (Nat.zero_le _) (sh_D3 hD) rfl (fun z42 hz42 => ?_)
      refine ra_ifeq rfl rfl (ra_in01 hz42) (fun h43 => ?_) (fun h43 => ?_)
      · refine ra_iconst rfl ?_
        refine ra_store (L' := [_, _, _, _]) rfl rfl rfl (Nat.le_of_ble_eq_true rfl) rfl ?_
        refine ra_load rfl rfl rfl rfl ?_
        refine ra_ifeq rfl rfl (by unfold ra_in at *; omega) (fun h44 => ?_) (fun h44 => ?_)
        · refine ra_load rfl rfl rfl rfl ?_
          refine ra_getI rfl lk_3_21 (Nat.zero_le _) (sh_D3 hD) rfl ?_
          refine ra_gen (fun z45 hz45 => ?_)
          refine ra_load rfl rfl rfl rfl ?_
          refine ra_iadd rfl ?_
          refine ra_gen (fun z46 hz46 => ?_)
          exact ra_ireturn rfl rfl ⟨⟨_, hz46, rfl⟩, rfl⟩
        · refine ra_load rfl rfl rfl rfl ?_
          refine ra_getI rfl lk_3_15 (Nat.zero_le _) (sh_D3 hD) rfl ?_
          refine ra_gen (fun z47 hz47 => ?_)
          refine ra_load rfl rfl rfl rfl ?_
          refine ra_iadd rfl ?_
          refine ra_gen (fun z48 hz48 => ?_)
          refine ra_load rfl rfl rfl rfl ?_
          refine ra_load rfl rfl rfl rfl ?_
          refine ra_getI rfl lk_3_27 (Nat.zero_le _) (sh_D3 hD) rfl ?_
          refine ra_gen (fun z49 hz49 => ?_)
          refine ra_imul rfl ?_
          refine ra_gen (fun z50 hz50 => ?_)
          refine ra_isub rfl ?_
          refine ra_gen (fun z51 hz51 => ?_)
          refine ra_goto rfl rfl ?_
          exact ra_ireturn rfl rfl ⟨⟨_, hz51, rfl⟩, rfl⟩
      · refine ra_load rfl rfl rfl rfl ?_
        refine ra_load rfl rfl rfl rfl ?_
        refine ra_cIp (sp_71 hD) rfl (ct_71 rfl lk_3_40 (Or.inl rfl) (sh_D3 hD) (Nat.le_of_ble_eq_true rfl)) (fun z53 hz53 => ?_)
        refine ra_icne rfl rfl (by unfold ra_in at *; omega) hz53 (fun h54 => ?_) (fun h54 => ?_)
        · refine ra_iconst rfl ?_
          refine ra_store (L' := [_, _, _, _]) rfl rfl rfl (Nat.le_of_ble_eq_true rfl) rfl ?_
          refine ra_load rfl rfl rfl rfl ?_
          refine ra_ifeq rfl rfl (by unfold ra_in at *; omega) (fun h55 => ?_) (fun h55 => ?_)
          · refine ra_load rfl rfl rfl rfl ?_
            refine ra_getI rfl lk_3_21 (Nat.zero_le _) (sh_D3 hD) rfl ?_
            refine ra_gen (fun z56 hz56 => ?_)
            refine ra_load rfl rfl rfl rfl ?_
            refine ra_iadd rfl ?_
            refine ra_gen (fun z57 hz57 => ?_)
            exact ra_ireturn rfl rfl ⟨⟨_, hz57, rfl⟩, rfl⟩
          · refine ra_load rfl rfl rfl rfl ?_
            refine ra_getI rfl lk_3_15 (Nat.zero_le _) (sh_D3 hD) rfl ?_
            refine ra_gen (fun z58 hz58 => ?_)
            refine ra_load rfl rfl rfl rfl ?_
            refine ra_iadd rfl ?_
            refine ra_gen (fun z59 hz59 => ?_)
            refine ra_load rfl rfl rfl rfl ?_
            refine ra_load rfl rfl rfl rfl ?_
            refine ra_getI rfl lk_3_27 (Nat.zero_le _) (sh_D3 hD) rfl ?_
            refine ra_gen (fun z60 hz60 => ?_)
            refine ra_imul rfl ?_
            refine ra_gen (fun z61 hz61 => ?_)
            refine ra_isub rfl ?_
            refine ra_gen (fun z62 hz62 => ?_)
            refine ra_goto rfl rfl ?_
            exact ra_ireturn rfl rfl ⟨⟨_, hz62, rfl⟩, rfl⟩
        · refine ra_iconst rfl ?_
          refine ra_goto rfl rfl ?_
          refine ra_store (L' := [_, _, _, _]) rfl rfl rfl (Nat.le_of_ble_eq_true rfl) rfl ?_
          refine ra_load rfl rfl rfl rfl ?_
          refine ra_ifeq rfl rfl (by unfold ra_in at *; omega) (fun h63 => ?_) (fun h63 => ?_)
          · refine ra_load rfl rfl rfl rfl ?_
            refine ra_getI rfl lk_3_21 (Nat.zero_le _) (sh_D3 hD) rfl ?_
            refine ra_gen (fun z64 hz64 => ?_)
            refine ra_load rfl rfl rfl rfl ?_
            refine ra_iadd rfl ?_
            refine ra_gen (fun z65 hz65 => ?_)
            exact ra_ireturn rfl rfl ⟨⟨_, hz65, rfl⟩, rfl⟩
          · refine ra_load rfl rfl rfl rfl ?_
            refine ra_getI rfl lk_3_15 (Nat.zero_le _) (sh_D3 hD) rfl ?_
            refine ra_gen (fun z66 hz66 => ?_)
            refine ra_load rfl rfl rfl rfl ?_
            refine ra_iadd rfl ?_
            refine ra_gen (fun z67 hz67 => ?_)
            refine ra_load rfl rfl rfl rfl ?_
            refine ra_load rfl rfl rfl rfl ?_
            refine ra_getI rfl lk_3_27 (Nat.zero_le _) (sh_D3 hD) rfl ?_
            refine ra_gen (fun z68 hz68 => ?_)
            refine ra_imul rfl ?_
            refine ra_gen (fun z69 hz69 => ?_)
            refine ra_isub rfl ?_
            refine ra_gen (fun z70 hz70 => ?_)
            refine ra_goto rfl rfl ?_
            exact ra_ireturn rfl rfl ⟨⟨_, hz70, rfl⟩, rfl⟩
    · refine ra_load rfl rfl rfl rfl ?_
      refine ra_getI rfl lk_3_24 (Nat.zero_le _) (sh_D3 hD) rfl ?_
      refine ra_gen (fun z71 hz71 => ?_)
      refine ra_load rfl rfl rfl rfl ?_
      refine ra_iadd rfl ?_
      refine ra_gen (fun z72 hz72 => ?_)
      exact ra_ireturn rfl rfl ⟨⟨_, hz72, rfl⟩, rfl⟩
theorem sp_80 {n : Nat} {f : Nat → Int32} {d : Nat} {D : Nat} {σ : ra_V} (hD : isD D) : ra_C (g_Gs n f) g_sh 0 (d + 1) 80 [.index (D + 3)] σ (fun r s => rI r ∧ s = σ) := by
  refine ra_enter (nn := 0) mt_80 rfl (Nat.le_of_ble_eq_true rfl) rfl ?_
  refine ra_load rfl rfl rfl rfl ?_
  refine ra_getI rfl lk_3_15 (Nat.zero_le _) (sh_D3 hD) rfl ?_
  refine ra_gen (fun z1 hz1 => ?_)
  refine ra_iconst rfl ?_
  refine ra_icne rfl rfl hz1 (by unfold ra_in at *; omega) (fun h2 => ?_) (fun h2 => ?_)
  · refine ra_load rfl rfl rfl rfl ?_
    refine ra_getI rfl lk_3_27 (Nat.zero_le _) (sh_D3 hD) rfl ?_
    refine ra_gen (fun z3 hz3 => ?_)
    refine ra_load rfl rfl rfl rfl ?_
    refine ra_getI rfl lk_3_18 (Nat.zero_le _) (sh_D3 hD) rfl ?_
    refine ra_gen (fun z4 hz4 => ?_)
    refine ra_min rfl lk_3_72 hz3 hz4 (Nat.le_of_ble_eq_true rfl) ?_
    refine ra_gen (fun z5 hz5 => ?_)
    exact ra_ireturn rfl rfl ⟨⟨_, hz5, rfl⟩, rfl⟩
  · refine ra_iconst rfl ?_
    refine ra_goto rfl rfl ?_
    exact ra_ireturn rfl rfl ⟨⟨_, (by unfold ra_in at *; omega), rfl⟩, rfl⟩
theorem sp_81 {n : Nat} {f : Nat → Int32} {d : Nat} {D : Nat} {x0 : Int} {x1 : Int} {σ : ra_V} (hD : isD D) (hx0 : ra_in x0) (hx1 : ra_in x1) : ra_C (g_Gs n f) g_sh 0 (d + 2) 81 [.index (D + 3), ra_J x0, ra_J x1] σ (fun r s => rB r ∧ s = σ) := by
  refine ra_enter (nn := 0) mt_81 rfl (Nat.le_of_ble_eq_true rfl) rfl ?_
  refine ra_load rfl rfl rfl rfl ?_
  refine ra_cBp (sp_67 hD) rfl (ct_67 rfl lk_3_65 (Or.inl rfl) (sh_D3 hD) (Nat.le_of_ble_eq_true rfl)) (fun z2 hz2 => ?_)
  refine ra_ifeq rfl rfl (ra_in01 hz2) (fun h3 => ?_) (fun h3 => ?_)
  · refine ra_iconst rfl ?_
    exact ra_ireturn rfl (ra_okB (Or.inl rfl)) ⟨⟨_, (Or.inl rfl), rfl⟩, rfl⟩
  · refine ra_load rfl rfl rfl rfl ?_
    refine ra_getI rfl lk_3_24 (Nat.zero_le _) (sh_D3 hD) rfl ?_
    refine ra_gen (fun z4 hz4 => ?_)
    refine ra_i2l rfl hz4 ?_
    refine ra_load rfl rfl rfl rfl ?_
    refine ra_getI rfl lk_3_18 (Nat.zero_le _) (sh_D3 hD) rfl ?_
    refine ra_gen (fun z5 hz5 => ?_)
    refine ra_i2l rfl hz5 ?_
    refine ra_load rfl rfl rfl rfl ?_
    refine ra_load rfl rfl rfl rfl ?_
    refine ra_cBp (sp_185 hz4 hz5 hx0 hx1) rfl (ct_185 rfl lk_3_77 (Or.inr ⟨rfl, rfl⟩) (Nat.le_of_ble_eq_true rfl)) (fun z7 hz7 => ?_)
    refine ra_ifne rfl rfl (ra_in01 hz7) (fun h8 => ?_) (fun h8 => ?_)
    · refine ra_iconst rfl ?_
      refine ra_goto rfl rfl ?_
      exact ra_ireturn rfl (ra_okB (Or.inr rfl)) ⟨⟨_, (Or.inr rfl), rfl⟩, rfl⟩
    · refine ra_load rfl rfl rfl rfl ?_
      refine ra_getI rfl lk_3_15 (Nat.zero_le _) (sh_D3 hD) rfl ?_
      refine ra_gen (fun z9 hz9 => ?_)
      refine ra_iconst rfl ?_
      refine ra_iceq rfl rfl hz9 (by unfold ra_in at *; omega) (fun h10 => ?_) (fun h10 => ?_)
      · refine ra_iconst rfl ?_
        exact ra_ireturn rfl (ra_okB (Or.inl rfl)) ⟨⟨_, (Or.inl rfl), rfl⟩, rfl⟩
      · refine ra_load rfl rfl rfl rfl ?_
        refine ra_getI rfl lk_3_15 (Nat.zero_le _) (sh_D3 hD) rfl ?_
        refine ra_gen (fun z11 hz11 => ?_)
        refine ra_i2l rfl hz11 ?_
        refine ra_load rfl rfl rfl rfl ?_
        refine ra_cIp (sp_80 hD) rfl (ct_80 rfl lk_3_81 (Or.inl rfl) (sh_D3 hD) (Nat.le_of_ble_eq_true rfl)) (fun z13 hz13 => ?_)
        refine ra_i2l rfl hz13 ?_
        refine ra_load rfl rfl rfl rfl ?_
        refine ra_load rfl rfl rfl rfl ?_
        refine ra_cBp (sp_185 hz11 hz13 hx0 hx1) rfl (ct_185 rfl lk_3_77 (Or.inr ⟨rfl, rfl⟩) (Nat.le_of_ble_eq_true rfl)) (fun z15 hz15 => ?_)
        refine ra_ifeq rfl rfl (ra_in01 hz15) (fun h16 => ?_) (fun h16 => ?_)
        · refine ra_iconst rfl ?_
          exact ra_ireturn rfl (ra_okB (Or.inl rfl)) ⟨⟨_, (Or.inl rfl), rfl⟩, rfl⟩
        · refine ra_iconst rfl ?_
          refine ra_goto rfl rfl ?_
          exact ra_ireturn rfl (ra_okB (Or.inr rfl)) ⟨⟨_, (Or.inr rfl), rfl⟩, rfl⟩
theorem sp_82 {n : Nat} {f : Nat → Int32} {d : Nat} {D : Nat} {x0 : Int} {σ : ra_V} (hD : isD D) (hx0 : ra_in x0) : ra_C (g_Gs n f) g_sh 0 (d + 3) 82 [.index (D + 3), ra_I x0] σ (fun r s => rI r ∧ s = σ) := by
  refine ra_enter (nn := 0) mt_82 rfl (Nat.le_of_ble_eq_true rfl) rfl ?_
  refine ra_load rfl rfl rfl rfl ?_
  refine ra_cBp (sp_67 hD) rfl (ct_67 rfl lk_3_65 (Or.inl rfl) (sh_D3 hD) (Nat.le_of_ble_eq_true rfl)) (fun z2 hz2 => ?_)
  refine ra_ifeq rfl rfl (ra_in01 hz2) (fun h3 => ?_) (fun h3 => ?_)
  · refine ra_load rfl rfl rfl rfl ?_
    refine ra_load rfl rfl rfl rfl ?_
    refine ra_i2l rfl hx0 ?_
    refine ra_lconst1 rfl ?_
    refine ra_cBp (sp_81 hD hx0 (by unfold ra_in at *; omega)) rfl (ct_81 rfl lk_3_84 (Or.inl rfl) (sh_D3 hD) (Nat.le_of_ble_eq_true rfl)) (fun z5 hz5 => ?_)
    refine ra_ifeq rfl rfl (ra_in01 hz5) (fun h6 => ?_) (fun h6 => ?_)
    · refine ra_load rfl rfl rfl rfl ?_
      exact ra_ireturn rfl rfl ⟨⟨_, hx0, rfl⟩, rfl⟩
    · refine ra_load rfl rfl rfl rfl ?_
      refine ra_getI rfl lk_3_15 (Nat.zero_le _) (sh_D3 hD) rfl ?_
      refine ra_gen (fun z7 hz7 => ?_)
      refine ra_load rfl rfl rfl rfl ?_
      refine ra_cIp (sp_80 hD) rfl (ct_80 rfl lk_3_81 (Or.inl rfl) (sh_D3 hD) (Nat.le_of_ble_eq_true rfl)) (fun z9 hz9 => ?_)
      refine ra_iadd rfl ?_
      refine ra_gen (fun z10 hz10 => ?_)
      refine ra_goto rfl rfl ?_
      exact ra_ireturn rfl rfl ⟨⟨_, hz10, rfl⟩, rfl⟩
  · refine ra_load rfl rfl rfl rfl ?_
    refine ra_getI rfl lk_3_24 (Nat.zero_le _) (sh_D3 hD) rfl ?_
    refine ra_gen (fun z11 hz11 => ?_)
    refine ra_i2l rfl hz11 ?_
    refine ra_load rfl rfl rfl rfl ?_
    refine ra_getI rfl lk_3_18 (Nat.zero_le _) (sh_D3 hD) rfl ?_
    refine ra_gen (fun z12 hz12 => ?_)
    refine ra_i2l rfl hz12 ?_
    refine ra_load rfl rfl rfl rfl ?_
    refine ra_i2l rfl hx0 ?_
    refine ra_lconst1 rfl ?_
    refine ra_cBp (sp_185 hz11 hz12 hx0 (by unfold ra_in at *; omega)) rfl (ct_185 rfl lk_3_77 (Or.inr ⟨rfl, rfl⟩) (Nat.le_of_ble_eq_true rfl)) (fun z14 hz14 => ?_)
    refine ra_ifeq rfl rfl (ra_in01 hz14) (fun h15 => ?_) (fun h15 => ?_)
    · refine ra_load rfl rfl rfl rfl ?_
      refine ra_load rfl rfl rfl rfl ?_
      refine ra_i2l rfl hx0 ?_
      refine ra_lconst1 rfl ?_
      refine ra_cBp (sp_81 hD hx0 (by unfold ra_in at *; omega)) rfl (ct_81 rfl lk_3_84 (Or.inl rfl) (sh_D3 hD) (Nat.le_of_ble_eq_true rfl)) (fun z17 hz17 => ?_)
      refine ra_ifeq rfl rfl (ra_in01 hz17) (fun h18 => ?_) (fun h18 => ?_)
      · refine ra_load rfl rfl rfl rfl ?_
        exact ra_ireturn rfl rfl ⟨⟨_, hx0, rfl⟩, rfl⟩
      · refine ra_load rfl rfl rfl rfl ?_
        refine ra_getI rfl lk_3_15 (Nat.zero_le _) (sh_D3 hD) rfl ?_
        refine ra_gen (fun z19 hz19 => ?_)
        refine ra_load rfl rfl rfl rfl ?_
        refine ra_cIp (sp_80 hD) rfl (ct_80 rfl lk_3_81 (Or.inl rfl) (sh_D3 hD) (Nat.le_of_ble_eq_true rfl)) (fun z21 hz21 => ?_)
        refine ra_iadd rfl ?_
        refine ra_gen (fun z22 hz22 => ?_)
        refine ra_goto rfl rfl ?_
        exact ra_ireturn rfl rfl ⟨⟨_, hz22, rfl⟩, rfl⟩
    · refine ra_load rfl rfl rfl rfl ?_
      refine ra_getI rfl lk_3_24 (Nat.zero_le _) (sh_D3 hD) rfl ?_
      refine ra_gen (fun z23 hz23 => ?_)
      refine ra_load rfl rfl rfl rfl ?_
      refine ra_getI rfl lk_3_18 (Nat.zero_le _) (sh_D3 hD) rfl ?_
      refine ra_gen (fun z24 hz24 => ?_)
      refine ra_iadd rfl ?_
      refine ra_gen (fun z25 hz25 => ?_)
      exact ra_ireturn rfl rfl ⟨⟨_, hz25, rfl⟩, rfl⟩
theorem sp_83 {n : Nat} {f : Nat → Int32} {d : Nat} {D : Nat} {x0 : Int} {x1 : Int} {σ : ra_V} (hD : isD D) (hx0 : ra_in x0) (hx1 : ra_in x1) : ra_C (g_Gs n f) g_sh 0 (d + 2) 83 [.index (D + 3), ra_I x0, ra_I x1] σ (fun r s => rI r ∧ s = σ) := by
  refine ra_enter (nn := 1) mt_83 rfl (Nat.le_of_ble_eq_true rfl) rfl ?_
  refine ra_load rfl rfl rfl rfl ?_
  refine ra_store (L' := [_, _, _, _]) rfl rfl rfl (Nat.le_of_ble_eq_true rfl) rfl ?_
  refine ra_load rfl rfl rfl rfl ?_
  refine ra_cBp (sp_67 hD) rfl (ct_67 rfl lk_3_65 (Or.inl rfl) (sh_D3 hD) (Nat.le_of_ble_eq_true rfl)) (fun z2 hz2 => ?_)
  refine ra_ifeq rfl rfl (ra_in01 hz2) (fun h3 => ?_) (fun h3 => ?_)
  · refine ra_load rfl rfl rfl rfl ?_
    refine ra_cBp (sp_67 hD) rfl (ct_67 rfl lk_3_65 (Or.inl rfl) (sh_D3 hD) (Nat.le_of_ble_eq_true rfl)) (fun z5 hz5 => ?_)
    refine ra_ifeq rfl rfl (ra_in01 hz5) (fun h6 => ?_) (fun h6 => ?_)
    · refine ra_load rfl rfl rfl rfl ?_
      exact ra_ireturn rfl rfl ⟨⟨_, hx1, rfl⟩, rfl⟩
    · refine ra_load rfl rfl rfl rfl ?_
      refine ra_getI rfl lk_3_15 (Nat.zero_le _) (sh_D3 hD) rfl ?_
      refine ra_gen (fun z7 hz7 => ?_)
      refine ra_load rfl rfl rfl rfl ?_
      refine ra_icle rfl rfl hz7 hx0 (fun h8 => ?_) (fun h8 => ?_)
      · refine ra_load rfl rfl rfl rfl ?_
        exact ra_ireturn rfl rfl ⟨⟨_, hx1, rfl⟩, rfl⟩
      · refine ra_load rfl rfl rfl rfl ?_
        refine ra_getI rfl lk_3_15 (Nat.zero_le _) (sh_D3 hD) rfl ?_
        refine ra_gen (fun z9 hz9 => ?_)
        refine ra_load rfl rfl rfl rfl ?_
        refine ra_icge rfl rfl hz9 hx1 (fun h10 => ?_) (fun h10 => ?_)
        · refine ra_load rfl rfl rfl rfl ?_
          exact ra_ireturn rfl rfl ⟨⟨_, hx1, rfl⟩, rfl⟩
        · refine ra_load rfl rfl rfl rfl ?_
          refine ra_getI rfl lk_3_15 (Nat.zero_le _) (sh_D3 hD) rfl ?_
          refine ra_gen (fun z11 hz11 => ?_)
          refine ra_store (L' := [_, _, _, _]) rfl rfl rfl (Nat.le_of_ble_eq_true rfl) rfl ?_
          refine ra_load rfl rfl rfl rfl ?_
          exact ra_ireturn rfl rfl ⟨⟨_, hz11, rfl⟩, rfl⟩
  · refine ra_load rfl rfl rfl rfl ?_
    refine ra_getI rfl lk_3_24 (Nat.zero_le _) (sh_D3 hD) rfl ?_
    refine ra_gen (fun z12 hz12 => ?_)
    refine ra_load rfl rfl rfl rfl ?_
    refine ra_icle rfl rfl hz12 hx0 (fun h13 => ?_) (fun h13 => ?_)
    · refine ra_load rfl rfl rfl rfl ?_
      refine ra_cBp (sp_67 hD) rfl (ct_67 rfl lk_3_65 (Or.inl rfl) (sh_D3 hD) (Nat.le_of_ble_eq_true rfl)) (fun z15 hz15 => ?_)
      refine ra_ifeq rfl rfl (ra_in01 hz15) (fun h16 => ?_) (fun h16 => ?_)
      · refine ra_load rfl rfl rfl rfl ?_
        exact ra_ireturn rfl rfl ⟨⟨_, hx1, rfl⟩, rfl⟩
      · refine ra_load rfl rfl rfl rfl ?_
        refine ra_getI rfl lk_3_15 (Nat.zero_le _) (sh_D3 hD) rfl ?_
        refine ra_gen (fun z17 hz17 => ?_)
        refine ra_load rfl rfl rfl rfl ?_
        refine ra_icle rfl rfl hz17 hx0 (fun h18 => ?_) (fun h18 => ?_)
        · refine ra_load rfl rfl rfl rfl ?_
          exact ra_ireturn rfl rfl ⟨⟨_, hx1, rfl⟩, rfl⟩
        · refine ra_load rfl rfl rfl rfl ?_
          refine ra_getI rfl lk_3_15 (Nat.zero_le _) (sh_D3 hD) rfl ?_
          refine ra_gen (fun z19 hz19 => ?_)
          refine ra_load rfl rfl rfl rfl ?_
          refine ra_icge rfl rfl hz19 hx1 (fun h20 => ?_) (fun h20 => ?_)
          · refine ra_load rfl rfl rfl rfl ?_
            exact ra_ireturn rfl rfl ⟨⟨_, hx1, rfl⟩, rfl⟩
          · refine ra_load rfl rfl rfl rfl ?_
            refine ra_getI rfl lk_3_15 (Nat.zero_le _) (sh_D3 hD) rfl ?_
            refine ra_gen (fun z21 hz21 => ?_)
            refine ra_store (L' := [_, _, _, _]) rfl rfl rfl (Nat.le_of_ble_eq_true rfl) rfl ?_
            refine ra_load rfl rfl rfl rfl ?_
            exact ra_ireturn rfl rfl ⟨⟨_, hz21, rfl⟩, rfl⟩
    · refine ra_load rfl rfl rfl rfl ?_
      refine ra_getI rfl lk_3_24 (Nat.zero_le _) (sh_D3 hD) rfl ?_
      refine ra_gen (fun z22 hz22 => ?_)
      refine ra_load rfl rfl rfl rfl ?_
      refine ra_icge rfl rfl hz22 hx1 (fun h23 => ?_) (fun h23 => ?_)
      · refine ra_load rfl rfl rfl rfl ?_
        refine ra_cBp (sp_67 hD) rfl (ct_67 rfl lk_3_65 (Or.inl rfl) (sh_D3 hD) (Nat.le_of_ble_eq_true rfl)) (fun z25 hz25 => ?_)
        refine ra_ifeq rfl rfl (ra_in01 hz25) (fun h26 => ?_) (fun h26 => ?_)
        · refine ra_load rfl rfl rfl rfl ?_
          exact ra_ireturn rfl rfl ⟨⟨_, hx1, rfl⟩, rfl⟩
        · refine ra_load rfl rfl rfl rfl ?_
          refine ra_getI rfl lk_3_15 (Nat.zero_le _) (sh_D3 hD) rfl ?_
          refine ra_gen (fun z27 hz27 => ?_)
          refine ra_load rfl rfl rfl rfl ?_
          refine ra_icle rfl rfl hz27 hx0 (fun h28 => ?_) (fun h28 => ?_)
          · refine ra_load rfl rfl rfl rfl ?_
            exact ra_ireturn rfl rfl ⟨⟨_, hx1, rfl⟩, rfl⟩
          · refine ra_load rfl rfl rfl rfl ?_
            refine ra_getI rfl lk_3_15 (Nat.zero_le _) (sh_D3 hD) rfl ?_
            refine ra_gen (fun z29 hz29 => ?_)
            refine ra_load rfl rfl rfl rfl ?_
            refine ra_icge rfl rfl hz29 hx1 (fun h30 => ?_) (fun h30 => ?_)
            · refine ra_load rfl rfl rfl rfl ?_
              exact ra_ireturn rfl rfl ⟨⟨_, hx1, rfl⟩, rfl⟩
            · refine ra_load rfl rfl rfl rfl ?_
              refine ra_getI rfl lk_3_15 (Nat.zero_le _) (sh_D3 hD) rfl ?_
              refine ra_gen (fun z31 hz31 => ?_)
              refine ra_store (L' := [_, _, _, _]) rfl rfl rfl (Nat.le_of_ble_eq_true rfl) rfl ?_
              refine ra_load rfl rfl rfl rfl ?_
              exact ra_ireturn rfl rfl ⟨⟨_, hz31, rfl⟩, rfl⟩
      · refine ra_load rfl rfl rfl rfl ?_
        refine ra_getI rfl lk_3_24 (Nat.zero_le _) (sh_D3 hD) rfl ?_
        refine ra_gen (fun z32 hz32 => ?_)
        refine ra_store (L' := [_, _, _, _]) rfl rfl rfl (Nat.le_of_ble_eq_true rfl) rfl ?_
        refine ra_load rfl rfl rfl rfl ?_
        refine ra_cBp (sp_67 hD) rfl (ct_67 rfl lk_3_65 (Or.inl rfl) (sh_D3 hD) (Nat.le_of_ble_eq_true rfl)) (fun z34 hz34 => ?_)
        refine ra_ifeq rfl rfl (ra_in01 hz34) (fun h35 => ?_) (fun h35 => ?_)
        · refine ra_load rfl rfl rfl rfl ?_
          exact ra_ireturn rfl rfl ⟨⟨_, hz32, rfl⟩, rfl⟩
        · refine ra_load rfl rfl rfl rfl ?_
          refine ra_getI rfl lk_3_15 (Nat.zero_le _) (sh_D3 hD) rfl ?_
          refine ra_gen (fun z36 hz36 => ?_)
          refine ra_load rfl rfl rfl rfl ?_
          refine ra_icle rfl rfl hz36 hx0 (fun h37 => ?_) (fun h37 => ?_)
          · refine ra_load rfl rfl rfl rfl ?_
            exact ra_ireturn rfl rfl ⟨⟨_, hz32, rfl⟩, rfl⟩
          · refine ra_load rfl rfl rfl rfl ?_
            refine ra_getI rfl lk_3_15 (Nat.zero_le _) (sh_D3 hD) rfl ?_
            refine ra_gen (fun z38 hz38 => ?_)
            refine ra_load rfl rfl rfl rfl ?_
            refine ra_icge rfl rfl hz38 hz32 (fun h39 => ?_) (fun h39 => ?_)
            · refine ra_load rfl rfl rfl rfl ?_
              exact ra_ireturn rfl rfl ⟨⟨_, hz32, rfl⟩, rfl⟩
            · refine ra_load rfl rfl rfl rfl ?_
              refine ra_getI rfl lk_3_15 (Nat.zero_le _) (sh_D3 hD) rfl ?_
              refine ra_gen (fun z40 hz40 => ?_)
              refine ra_store (L' := [_, _, _, _]) rfl rfl rfl (Nat.le_of_ble_eq_true rfl) rfl ?_
              refine ra_load rfl rfl rfl rfl ?_
              exact ra_ireturn rfl rfl ⟨⟨_, hz40, rfl⟩, rfl⟩
end CW
