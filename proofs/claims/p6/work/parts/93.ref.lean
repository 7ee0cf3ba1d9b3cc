/-! the reference: what its methods do (printed by wip/gen/ref.py) -/
section RB
theorem lp_249_146 {n : Nat} {f : Nat → Int32} {d : Nat}  {σ : ra_V} (hpn : 0 ≤ ra_g σ 179 17 ∧ ra_g σ 179 17 ≤ ra_g σ 179 12 ∧ ra_g σ 179 12 ≤ 500) : ∀ (nn : Nat) (s : ra_V) (hF : Fr (179) (180) σ s) (hov : ∀ a, a ≠ 17 → a ≠ 18 → a ≠ 19 → a ≠ 20 → ra_g s 179 a = ra_g σ 179 a) (hnv : 0 ≤ ra_g s 179 18 ∧ ra_g s 179 18 ≤ ra_g s 179 17 ∧ ra_g s 179 17 ≤ ra_g s 179 12 ∧ ra_g s 179 12 ≤ 500 ∧ 0 ≤ ra_g s 179 19 ∧ ra_g s 179 19 ≤ 999 ∧ ra_g σ 179 17 ≤ ra_g s 179 17 ∧ ra_g s 179 20 ≠ 3 ∧ (ra_g s 179 17 - ra_g s 179 18 ≤ 0 → ra_g s 179 19 = 0) ∧ (ra_g s 179 17 - ra_g s 179 18 ≤ 1 → ra_g s 179 19 ≤ 9) ∧ (ra_g s 179 17 - ra_g s 179 18 ≤ 2 → ra_g s 179 19 ≤ 99)) (hm : ((501 - ra_g s 179 17 : Int)).toNat < nn), ra_P (g_Gs n f) g_sh 0 (d + 1) g_m_X8_advanceToken 146 [some (.index (179)), none] [] s (fun r s => rV r ∧ Fr (179) (180) σ s ∧ (∀ a, a ≠ 17 → a ≠ 18 → a ≠ 19 → a ≠ 20 → ra_g s 179 a = ra_g σ 179 a) ∧ (0 ≤ ra_g s 179 18 ∧ ra_g s 179 18 ≤ ra_g s 179 17 ∧ ra_g s 179 17 ≤ ra_g s 179 12 ∧ ra_g s 179 12 ≤ 500 ∧ 0 ≤ ra_g s 179 19 ∧ ra_g s 179 19 ≤ 999) ∧ ra_g σ 179 17 ≤ ra_g s 179 17 ∧ (ra_g s 179 20 = 3 → ra_g σ 179 17 < ra_g s 179 17)) := by
  intro nn
  induction nn with
  | zero => intro s hF hov hnv hm; exact absurd hm (Nat.not_lt_zero _)
  | succ nn ih =>
    intro s hF hov hnv hm
    refine ra_load rfl rfl rfl rfl ?_
    refine ra_load rfl rfl rfl rfl ?_
    refine ra_getI rfl lk_8_192 (Nat.zero_le _) sh_179 rfl ?_
    have hr46 : ra_in (ra_g s (179) 17) := (ra_in_g _ _ _)
    refine ra_cIPp (sp_248 hr46 (by first | assumption | rfl | omega) (by first | assumption | rfl | omega)) rfl (ct_248 rfl lk_8_195 (Or.inl rfl) sh_179 (Nat.le_of_ble_eq_true rfl)) (fun z48 hz48 hz48p => ?_)
    refine ra_i2l rfl hz48 ?_
    refine ra_ldc2 (z := 48) rfl lk_8_211 (by decide) ?_
    refine ra_ldc2 (z := 57) rfl lk_8_213 (by decide) ?_
    refine ra_cTp (sp_192 hz48 (by first | omega | (unfold ra_in at *; omega)) (by first | omega | (unfold ra_in at *; omega))) rfl (ct_192 rfl lk_8_63 (Or.inl rfl) (Nat.le_of_ble_eq_true rfl)) ?_
    refine ra_ifeqB rfl rfl (fun h50 => ?_) (fun h50 => ?_)
    · exact ra_return rfl rfl ⟨rfl, ⟨hF, (fun a h17 h18 h19 h20 => (hov a h17 h18 h19 h20)), by omega, by omega⟩⟩
    · refine ra_load rfl rfl rfl rfl ?_
      refine ra_getI rfl lk_8_192 (Nat.zero_le _) sh_179 rfl ?_
      have hr51 : ra_in (ra_g s (179) 17) := (ra_in_g _ _ _)
      refine ra_load rfl rfl rfl rfl ?_
      refine ra_getI rfl lk_8_198 (Nat.zero_le _) sh_179 rfl ?_
      have hr52 : ra_in (ra_g s (179) 18) := (ra_in_g _ _ _)
      refine ra_isub rfl ?_
      refine ra_iconst rfl ?_
      refine ra_icge rfl rfl (by first | omega | (unfold ra_in at *; omega)) (by first | omega | (unfold ra_in at *; omega)) (fun h53 => ?_) (fun h53 => ?_)
      · refine ra_load rfl rfl rfl rfl ?_
        refine ra_dup rfl rfl ?_
        refine ra_getI rfl lk_8_192 (Nat.zero_le _) sh_179 rfl ?_
        have hr54 : ra_in (ra_g s (179) 17) := (ra_in_g _ _ _)
        refine ra_iconst rfl ?_
        refine ra_iadd rfl ?_
        refine ra_putI rfl lk_8_192 (Nat.zero_le _) sh_179 rfl rfl ?_
        refine ra_newU (by first | omega | (unfold ra_in at *; omega)) (fun s55 hs55 hp56 hp56o => ?_)
        have hp56_12 := hp56o 12 (by decide)
        have hp56_18 := hp56o 18 (by decide)
        have hp56_19 := hp56o 19 (by decide)
        have hp56_20 := hp56o 20 (by decide)
        have hF57 := Fr_tr (lo := 179) (hi := 180) hF hs55 (by omega)
        refine ra_goto rfl rfl ?_
        exact ra_weak (by repeat' constructor) (ih s55 hF57 (fun a h17 h18 h19 h20 => ((hp56o a (by assumption)).trans (hov a h17 h18 h19 h20))) (by omega) (by first | omega | (unfold ra_in at *; omega)))
      · refine ra_load rfl rfl rfl rfl ?_
        refine ra_bipush rfl (by decide) ?_
        refine ra_load rfl rfl rfl rfl ?_
        refine ra_getI rfl lk_8_201 (Nat.zero_le _) sh_179 rfl ?_
        have hr58 : ra_in (ra_g s (179) 19) := (ra_in_g _ _ _)
        refine ra_imul rfl ?_
        refine ra_load rfl rfl rfl rfl ?_
        refine ra_load rfl rfl rfl rfl ?_
        refine ra_getI rfl lk_8_192 (Nat.zero_le _) sh_179 rfl ?_
        have hr59 : ra_in (ra_g s (179) 17) := (ra_in_g _ _ _)
        refine ra_cIPp (sp_248 hr59 (by first | assumption | rfl | omega) (by first | assumption | rfl | omega)) rfl (ct_248 rfl lk_8_195 (Or.inl rfl) sh_179 (Nat.le_of_ble_eq_true rfl)) (fun z61 hz61 hz61p => ?_)
        refine ra_iadd rfl ?_
        refine ra_bipush rfl (by decide) ?_
        refine ra_isub rfl ?_
        refine ra_putI rfl lk_8_201 (Nat.zero_le _) sh_179 rfl rfl ?_
        refine ra_newU (by first | omega | (unfold ra_in at *; omega)) (fun s62 hs62 hp63 hp63o => ?_)
        have hp63_12 := hp63o 12 (by decide)
        have hp63_17 := hp63o 17 (by decide)
        have hp63_18 := hp63o 18 (by decide)
        have hp63_20 := hp63o 20 (by decide)
        have hF64 := Fr_tr (lo := 179) (hi := 180) hF hs62 (by omega)
        refine ra_load rfl rfl rfl rfl ?_
        refine ra_dup rfl rfl ?_
        refine ra_getI rfl lk_8_192 (Nat.zero_le _) sh_179 rfl ?_
        have hr65 : ra_in (ra_g s62 (179) 17) := (ra_in_g _ _ _)
        refine ra_iconst rfl ?_
        refine ra_iadd rfl ?_
        refine ra_putI rfl lk_8_192 (Nat.zero_le _) sh_179 rfl rfl ?_
        refine ra_newU (by first | omega | (unfold ra_in at *; omega)) (fun s66 hs66 hp67 hp67o => ?_)
        have hp67_12 := hp67o 12 (by decide)
        have hp67_18 := hp67o 18 (by decide)
        have hp67_19 := hp67o 19 (by decide)
        have hp67_20 := hp67o 20 (by decide)
        have hF68 := Fr_tr (lo := 179) (hi := 180) hF64 hs66 (by omega)
        refine ra_goto rfl rfl ?_
        exact ra_weak (by repeat' constructor) (ih s66 hF68 (fun a h17 h18 h19 h20 => ((hp67o a (by assumption)).trans ((hp63o a (by assumption)).trans (hov a h17 h18 h19 h20)))) (by omega) (by first | omega | (unfold ra_in at *; omega)))
theorem lp_249_93 {n : Nat} {f : Nat → Int32} {d : Nat}  {σ : ra_V} (hpn : 0 ≤ ra_g σ 179 17 ∧ ra_g σ 179 17 ≤ ra_g σ 179 12 ∧ ra_g σ 179 12 ≤ 500) : ∀ (nn : Nat) (s : ra_V) (hF : Fr (179) (180) σ s) (hov : ∀ a, a ≠ 17 → a ≠ 18 → a ≠ 19 → a ≠ 20 → ra_g s 179 a = ra_g σ 179 a) (hnv : 0 ≤ ra_g s 179 18 ∧ ra_g s 179 18 ≤ ra_g s 179 17 ∧ ra_g s 179 17 ≤ ra_g s 179 12 ∧ ra_g s 179 12 ≤ 500 ∧ 0 ≤ ra_g s 179 19 ∧ ra_g s 179 19 ≤ 999 ∧ ra_g σ 179 17 ≤ ra_g s 179 17 ∧ ra_g s 179 20 ≠ 3) (hm : ((501 - ra_g s 179 17 : Int)).toNat < nn), ra_P (g_Gs n f) g_sh 0 (d + 1) g_m_X8_advanceToken 93 [some (.index (179)), none] [] s (fun r s => rV r ∧ Fr (179) (180) σ s ∧ (∀ a, a ≠ 17 → a ≠ 18 → a ≠ 19 → a ≠ 20 → ra_g s 179 a = ra_g σ 179 a) ∧ (0 ≤ ra_g s 179 18 ∧ ra_g s 179 18 ≤ ra_g s 179 17 ∧ ra_g s 179 17 ≤ ra_g s 179 12 ∧ ra_g s 179 12 ≤ 500 ∧ 0 ≤ ra_g s 179 19 ∧ ra_g s 179 19 ≤ 999) ∧ ra_g σ 179 17 ≤ ra_g s 179 17 ∧ (ra_g s 179 20 = 3 → ra_g σ 179 17 < ra_g s 179 17)) := by
  intro nn
  induction nn with
  | zero => intro s hF hov hnv hm; exact absurd hm (Nat.not_lt_zero _)
  | succ nn ih =>
    intro s hF hov hnv hm
    refine ra_load rfl rfl rfl rfl ?_
    refine ra_load rfl rfl rfl rfl ?_
    refine ra_getI rfl lk_8_192 (Nat.zero_le _) sh_179 rfl ?_
    have hr72 : ra_in (ra_g s (179) 17) := (ra_in_g _ _ _)
    refine ra_cIPp (sp_248 hr72 (by first | assumption | rfl | omega) (by first | assumption | rfl | omega)) rfl (ct_248 rfl lk_8_195 (Or.inl rfl) sh_179 (Nat.le_of_ble_eq_true rfl)) (fun z74 hz74 hz74p => ?_)
    refine ra_i2l rfl hz74 ?_
    refine ra_ldc2 (z := 97) rfl lk_8_207 (by decide) ?_
    refine ra_ldc2 (z := 122) rfl lk_8_209 (by decide) ?_
    refine ra_cTp (sp_192 hz74 (by first | omega | (unfold ra_in at *; omega)) (by first | omega | (unfold ra_in at *; omega))) rfl (ct_192 rfl lk_8_63 (Or.inl rfl) (Nat.le_of_ble_eq_true rfl)) ?_
    refine ra_ifeqB rfl rfl (fun h76 => ?_) (fun h76 => ?_)
    · exact ra_return rfl rfl ⟨rfl, ⟨hF, (fun a h17 h18 h19 h20 => (hov a h17 h18 h19 h20)), by omega, by omega⟩⟩
    · refine ra_load rfl rfl rfl rfl ?_
      refine ra_dup rfl rfl ?_
      refine ra_getI rfl lk_8_192 (Nat.zero_le _) sh_179 rfl ?_
      have hr77 : ra_in (ra_g s (179) 17) := (ra_in_g _ _ _)
      refine ra_iconst rfl ?_
      refine ra_iadd rfl ?_
      refine ra_putI rfl lk_8_192 (Nat.zero_le _) sh_179 rfl rfl ?_
      refine ra_newU (by first | omega | (unfold ra_in at *; omega)) (fun s78 hs78 hp79 hp79o => ?_)
      have hp79_12 := hp79o 12 (by decide)
      have hp79_18 := hp79o 18 (by decide)
      have hp79_19 := hp79o 19 (by decide)
      have hp79_20 := hp79o 20 (by decide)
      have hF80 := Fr_tr (lo := 179) (hi := 180) hF hs78 (by omega)
      refine ra_goto rfl rfl ?_
      exact ra_weak (by repeat' constructor) (ih s78 hF80 (fun a h17 h18 h19 h20 => ((hp79o a (by assumption)).trans (hov a h17 h18 h19 h20))) (by omega) (by first | omega | (unfold ra_in at *; omega)))
theorem lp_249_0 {n : Nat} {f : Nat → Int32} {d : Nat}  {σ : ra_V} (hpn : 0 ≤ ra_g σ 179 17 ∧ ra_g σ 179 17 ≤ ra_g σ 179 12 ∧ ra_g σ 179 12 ≤ 500) : ∀ (nn : Nat) (s : ra_V) (hF : Fr (179) (180) σ s) (hov : ∀ a, a ≠ 17 → a ≠ 18 → a ≠ 19 → a ≠ 20 → ra_g s 179 a = ra_g σ 179 a) (hnv : 0 ≤ ra_g s 179 17 ∧ ra_g s 179 17 ≤ ra_g s 179 12 ∧ ra_g s 179 12 ≤ 500 ∧ ra_g σ 179 17 ≤ ra_g s 179 17) (hm : ((501 - ra_g s 179 17 : Int)).toNat < nn), ra_P (g_Gs n f) g_sh 0 (d + 1) g_m_X8_advanceToken 0 [some (.index (179)), none] [] s (fun r s => rV r ∧ Fr (179) (180) σ s ∧ (∀ a, a ≠ 17 → a ≠ 18 → a ≠ 19 → a ≠ 20 → ra_g s 179 a = ra_g σ 179 a) ∧ (0 ≤ ra_g s 179 18 ∧ ra_g s 179 18 ≤ ra_g s 179 17 ∧ ra_g s 179 17 ≤ ra_g s 179 12 ∧ ra_g s 179 12 ≤ 500 ∧ 0 ≤ ra_g s 179 19 ∧ ra_g s 179 19 ≤ 999) ∧ ra_g σ 179 17 ≤ ra_g s 179 17 ∧ (ra_g s 179 20 = 3 → ra_g σ 179 17 < ra_g s 179 17)) := by
  intro nn
  induction nn with
  | zero => intro s hF hov hnv hm; exact absurd hm (Nat.not_lt_zero _)
  | succ nn ih =>
    intro s hF hov hnv hm
    refine ra_load rfl rfl rfl rfl ?_
    refine ra_load rfl rfl rfl rfl ?_
    refine ra_getI rfl lk_8_192 (Nat.zero_le _) sh_179 rfl ?_
    have hr1 : ra_in (ra_g s (179) 17) := (ra_in_g _ _ _)
    refine ra_cIPp (sp_248 hr1 (by first | assumption | rfl | omega) (by first | assumption | rfl | omega)) rfl (ct_248 rfl lk_8_195 (Or.inl rfl) sh_179 (Nat.le_of_ble_eq_true rfl)) (fun z3 hz3 hz3p => ?_)
    refine ra_bipush rfl (by decide) ?_
    refine ra_iceq rfl rfl hz3 (by first | omega | (unfold ra_in at *; omega)) (fun h4 => ?_) (fun h4 => ?_)
    · refine ra_load rfl rfl rfl rfl ?_
      refine ra_dup rfl rfl ?_
      refine ra_getI rfl lk_8_192 (Nat.zero_le _) sh_179 rfl ?_
      have hr5 : ra_in (ra_g s (179) 17) := (ra_in_g _ _ _)
      refine ra_iconst rfl ?_
      refine ra_iadd rfl ?_
      refine ra_putI rfl lk_8_192 (Nat.zero_le _) sh_179 rfl rfl ?_
      refine ra_newU (by first | omega | (unfold ra_in at *; omega)) (fun s6 hs6 hp7 hp7o => ?_)
      have hp7_12 := hp7o 12 (by decide)
      have hp7_18 := hp7o 18 (by decide)
      have hp7_19 := hp7o 19 (by decide)
      have hp7_20 := hp7o 20 (by decide)
      have hF8 := Fr_tr (lo := 179) (hi := 180) hF hs6 (by omega)
      refine ra_goto rfl rfl ?_
      exact ra_weak (by repeat' constructor) (ih s6 hF8 (fun a h17 h18 h19 h20 => ((hp7o a (by assumption)).trans (hov a h17 h18 h19 h20))) (by omega) (by first | omega | (unfold ra_in at *; omega)))
    · refine ra_load rfl rfl rfl rfl ?_
      refine ra_load rfl rfl rfl rfl ?_
      refine ra_getI rfl lk_8_192 (Nat.zero_le _) sh_179 rfl ?_
      have hr9 : ra_in (ra_g s (179) 17) := (ra_in_g _ _ _)
      refine ra_cIPp (sp_248 hr9 (by first | assumption | rfl | omega) (by first | assumption | rfl | omega)) rfl (ct_248 rfl lk_8_195 (Or.inl rfl) sh_179 (Nat.le_of_ble_eq_true rfl)) (fun z11 hz11 hz11p => ?_)
      refine ra_bipush rfl (by decide) ?_
      refine ra_icne rfl rfl hz11 (by first | omega | (unfold ra_in at *; omega)) (fun h12 => ?_) (fun h12 => ?_)
      · refine ra_load rfl rfl rfl rfl ?_
        refine ra_load rfl rfl rfl rfl ?_
        refine ra_getI rfl lk_8_192 (Nat.zero_le _) sh_179 rfl ?_
        have hr13 : ra_in (ra_g s (179) 17) := (ra_in_g _ _ _)
        refine ra_putI rfl lk_8_198 (Nat.zero_le _) sh_179 rfl rfl ?_
        refine ra_newU hr13 (fun s14 hs14 hp15 hp15o => ?_)
        have hp15_12 := hp15o 12 (by decide)
        have hp15_17 := hp15o 17 (by decide)
        have hp15_19 := hp15o 19 (by decide)
        have hp15_20 := hp15o 20 (by decide)
        have hF16 := Fr_tr (lo := 179) (hi := 180) hF hs14 (by omega)
        refine ra_load rfl rfl rfl rfl ?_
        refine ra_load rfl rfl rfl rfl ?_
        refine ra_getI rfl lk_8_192 (Nat.zero_le _) sh_179 rfl ?_
        have hr17 : ra_in (ra_g s14 (179) 17) := (ra_in_g _ _ _)
        refine ra_cIPp (sp_248 hr17 (by first | assumption | rfl | omega) (by first | assumption | rfl | omega)) rfl (ct_248 rfl lk_8_195 (Or.inl rfl) sh_179 (Nat.le_of_ble_eq_true rfl)) (fun z19 hz19 hz19p => ?_)
        refine ra_store (L' := [_, _]) rfl rfl rfl (Nat.le_of_ble_eq_true rfl) rfl ?_
        refine ra_load rfl rfl rfl rfl ?_
        refine ra_iconst rfl ?_
        refine ra_putI rfl lk_8_201 (Nat.zero_le _) sh_179 rfl rfl ?_
        refine ra_newU (by first | omega | (unfold ra_in at *; omega)) (fun s20 hs20 hp21 hp21o => ?_)
        have hp21_12 := hp21o 12 (by decide)
        have hp21_17 := hp21o 17 (by decide)
        have hp21_18 := hp21o 18 (by decide)
        have hp21_20 := hp21o 20 (by decide)
        have hF22 := Fr_tr (lo := 179) (hi := 180) hF16 hs20 (by omega)
        refine ra_load rfl rfl rfl rfl ?_
        refine ra_iconst rfl ?_
        refine ra_icne rfl rfl hz19 (by first | omega | (unfold ra_in at *; omega)) (fun h23 => ?_) (fun h23 => ?_)
        · refine ra_load rfl rfl rfl rfl ?_
          refine ra_i2l rfl hz19 ?_
          refine ra_ldc2 (z := 97) rfl lk_8_207 (by decide) ?_
          refine ra_ldc2 (z := 122) rfl lk_8_209 (by decide) ?_
          refine ra_cTp (sp_192 hz19 (by first | omega | (unfold ra_in at *; omega)) (by first | omega | (unfold ra_in at *; omega))) rfl (ct_192 rfl lk_8_63 (Or.inl rfl) (Nat.le_of_ble_eq_true rfl)) ?_
          refine ra_ifeqB rfl rfl (fun h25 => ?_) (fun h25 => ?_)
          · refine ra_load rfl rfl rfl rfl ?_
            refine ra_i2l rfl hz19 ?_
            refine ra_ldc2 (z := 48) rfl lk_8_211 (by decide) ?_
            refine ra_ldc2 (z := 57) rfl lk_8_213 (by decide) ?_
            refine ra_cTp (sp_192 hz19 (by first | omega | (unfold ra_in at *; omega)) (by first | omega | (unfold ra_in at *; omega))) rfl (ct_192 rfl lk_8_63 (Or.inl rfl) (Nat.le_of_ble_eq_true rfl)) ?_
            refine ra_ifeqB rfl rfl (fun h27 => ?_) (fun h27 => ?_)
            · refine ra_load rfl rfl rfl rfl ?_
              refine ra_load rfl rfl rfl rfl ?_
              refine ra_bipush rfl (by decide) ?_
              refine ra_icne rfl rfl hz19 (by first | omega | (unfold ra_in at *; omega)) (fun h28 => ?_) (fun h28 => ?_)
              · refine ra_iconst rfl ?_
                refine ra_putI rfl lk_8_204 (Nat.zero_le _) sh_179 rfl rfl ?_
                refine ra_newU (by first | omega | (unfold ra_in at *; omega)) (fun s29 hs29 hp30 hp30o => ?_)
                have hp30_12 := hp30o 12 (by decide)
                have hp30_17 := hp30o 17 (by decide)
                have hp30_18 := hp30o 18 (by decide)
                have hp30_19 := hp30o 19 (by decide)
                have hF31 := Fr_tr (lo := 179) (hi := 180) hF22 hs29 (by omega)
                refine ra_load rfl rfl rfl rfl ?_
                refine ra_dup rfl rfl ?_
                refine ra_getI rfl lk_8_192 (Nat.zero_le _) sh_179 rfl ?_
                have hr32 : ra_in (ra_g s29 (179) 17) := (ra_in_g _ _ _)
                refine ra_iconst rfl ?_
                refine ra_iadd rfl ?_
                refine ra_putI rfl lk_8_192 (Nat.zero_le _) sh_179 rfl rfl ?_
                refine ra_newU (by first | omega | (unfold ra_in at *; omega)) (fun s33 hs33 hp34 hp34o => ?_)
                have hp34_12 := hp34o 12 (by decide)
                have hp34_18 := hp34o 18 (by decide)
                have hp34_19 := hp34o 19 (by decide)
                have hp34_20 := hp34o 20 (by decide)
                have hF35 := Fr_tr (lo := 179) (hi := 180) hF31 hs33 (by omega)
                exact ra_return rfl rfl ⟨rfl, ⟨hF35, (fun a h17 h18 h19 h20 => ((hp34o a (by assumption)).trans ((hp30o a (by assumption)).trans ((hp21o a (by assumption)).trans ((hp15o a (by assumption)).trans (hov a h17 h18 h19 h20)))))), by omega, by omega⟩⟩
              · refine ra_iconst rfl ?_
                refine ra_goto rfl rfl ?_
                refine ra_putI rfl lk_8_204 (Nat.zero_le _) sh_179 rfl rfl ?_
                refine ra_newU (by first | omega | (unfold ra_in at *; omega)) (fun s36 hs36 hp37 hp37o => ?_)
                have hp37_12 := hp37o 12 (by decide)
                have hp37_17 := hp37o 17 (by decide)
                have hp37_18 := hp37o 18 (by decide)
                have hp37_19 := hp37o 19 (by decide)
                have hF38 := Fr_tr (lo := 179) (hi := 180) hF22 hs36 (by omega)
                refine ra_load rfl rfl rfl rfl ?_
                refine ra_dup rfl rfl ?_
                refine ra_getI rfl lk_8_192 (Nat.zero_le _) sh_179 rfl ?_
                have hr39 : ra_in (ra_g s36 (179) 17) := (ra_in_g _ _ _)
                refine ra_iconst rfl ?_
                refine ra_iadd rfl ?_
                refine ra_putI rfl lk_8_192 (Nat.zero_le _) sh_179 rfl rfl ?_
                refine ra_newU (by first | omega | (unfold ra_in at *; omega)) (fun s40 hs40 hp41 hp41o => ?_)
                have hp41_12 := hp41o 12 (by decide)
                have hp41_18 := hp41o 18 (by decide)
                have hp41_19 := hp41o 19 (by decide)
                have hp41_20 := hp41o 20 (by decide)
                have hF42 := Fr_tr (lo := 179) (hi := 180) hF38 hs40 (by omega)
                exact ra_return rfl rfl ⟨rfl, ⟨hF42, (fun a h17 h18 h19 h20 => ((hp41o a (by assumption)).trans ((hp37o a (by assumption)).trans ((hp21o a (by assumption)).trans ((hp15o a (by assumption)).trans (hov a h17 h18 h19 h20)))))), by omega, by omega⟩⟩
            · refine ra_load rfl rfl rfl rfl ?_
              refine ra_iconst rfl ?_
              refine ra_putI rfl lk_8_204 (Nat.zero_le _) sh_179 rfl rfl ?_
              refine ra_newU (by first | omega | (unfold ra_in at *; omega)) (fun s43 hs43 hp44 hp44o => ?_)
              have hp44_12 := hp44o 12 (by decide)
              have hp44_17 := hp44o 17 (by decide)
              have hp44_18 := hp44o 18 (by decide)
              have hp44_19 := hp44o 19 (by decide)
              have hF45 := Fr_tr (lo := 179) (hi := 180) hF22 hs43 (by omega)
              exact ra_weak (by repeat' constructor) (lp_249_146 hpn _ s43 hF45 (fun a h17 h18 h19 h20 => ((hp44o a (by assumption)).trans ((hp21o a (by assumption)).trans ((hp15o a (by assumption)).trans (hov a h17 h18 h19 h20))))) (by omega) (Nat.lt_succ_self _))
          · refine ra_load rfl rfl rfl rfl ?_
            refine ra_iconst rfl ?_
            refine ra_putI rfl lk_8_204 (Nat.zero_le _) sh_179 rfl rfl ?_
            refine ra_newU (by first | omega | (unfold ra_in at *; omega)) (fun s69 hs69 hp70 hp70o => ?_)
            have hp70_12 := hp70o 12 (by decide)
            have hp70_17 := hp70o 17 (by decide)
            have hp70_18 := hp70o 18 (by decide)
            have hp70_19 := hp70o 19 (by decide)
            have hF71 := Fr_tr (lo := 179) (hi := 180) hF22 hs69 (by omega)
            exact ra_weak (by repeat' constructor) (lp_249_93 hpn _ s69 hF71 (fun a h17 h18 h19 h20 => ((hp70o a (by assumption)).trans ((hp21o a (by assumption)).trans ((hp15o a (by assumption)).trans (hov a h17 h18 h19 h20))))) (by omega) (Nat.lt_succ_self _))
        · refine ra_load rfl rfl rfl rfl ?_
          refine ra_iconst rfl ?_
          refine ra_putI rfl lk_8_204 (Nat.zero_le _) sh_179 rfl rfl ?_
          refine ra_newU (by first | omega | (unfold ra_in at *; omega)) (fun s81 hs81 hp82 hp82o => ?_)
          have hp82_12 := hp82o 12 (by decide)
          have hp82_17 := hp82o 17 (by decide)
          have hp82_18 := hp82o 18 (by decide)
          have hp82_19 := hp82o 19 (by decide)
          have hF83 := Fr_tr (lo := 179) (hi := 180) hF22 hs81 (by omega)
          refine ra_goto rfl rfl ?_
          exact ra_return rfl rfl ⟨rfl, ⟨hF83, (fun a h17 h18 h19 h20 => ((hp82o a (by assumption)).trans ((hp21o a (by assumption)).trans ((hp15o a (by assumption)).trans (hov a h17 h18 h19 h20))))), by omega, by omega⟩⟩
      · refine ra_load rfl rfl rfl rfl ?_
        refine ra_dup rfl rfl ?_
        refine ra_getI rfl lk_8_192 (Nat.zero_le _) sh_179 rfl ?_
        have hr84 : ra_in (ra_g s (179) 17) := (ra_in_g _ _ _)
        refine ra_iconst rfl ?_
        refine ra_iadd rfl ?_
        refine ra_putI rfl lk_8_192 (Nat.zero_le _) sh_179 rfl rfl ?_
        refine ra_newU (by first | omega | (unfold ra_in at *; omega)) (fun s85 hs85 hp86 hp86o => ?_)
        have hp86_12 := hp86o 12 (by decide)
        have hp86_18 := hp86o 18 (by decide)
        have hp86_19 := hp86o 19 (by decide)
        have hp86_20 := hp86o 20 (by decide)
        have hF87 := Fr_tr (lo := 179) (hi := 180) hF hs85 (by omega)
        refine ra_goto rfl rfl ?_
        exact ra_weak (by repeat' constructor) (ih s85 hF87 (fun a h17 h18 h19 h20 => ((hp86o a (by assumption)).trans (hov a h17 h18 h19 h20))) (by omega) (by first | omega | (unfold ra_in at *; omega)))
theorem sp_249 {n : Nat} {f : Nat → Int32} {d : Nat}  {σ : ra_V} (hpn : 0 ≤ ra_g σ 179 17 ∧ ra_g σ 179 17 ≤ ra_g σ 179 12 ∧ ra_g σ 179 12 ≤ 500) : ra_C (g_Gs n f) g_sh 0 (d + 2) 249 [.index (179)] σ (fun r s => rV r ∧ Fr (179) (180) σ s ∧ (∀ a, a ≠ 17 → a ≠ 18 → a ≠ 19 → a ≠ 20 → ra_g s 179 a = ra_g σ 179 a) ∧ (0 ≤ ra_g s 179 18 ∧ ra_g s 179 18 ≤ ra_g s 179 17 ∧ ra_g s 179 17 ≤ ra_g s 179 12 ∧ ra_g s 179 12 ≤ 500 ∧ 0 ≤ ra_g s 179 19 ∧ ra_g s 179 19 ≤ 999) ∧ ra_g σ 179 17 ≤ ra_g s 179 17 ∧ (ra_g s 179 20 = 3 → ra_g σ 179 17 < ra_g s 179 17)) := by
  refine ra_enter (nn := 1) mt_249 rfl (Nat.le_of_ble_eq_true rfl) rfl (fun h => absurd h (by decide +kernel)) ?_
  exact ra_weak (by repeat' constructor) (lp_249_0 hpn _ σ Fr_rf (fun a h17 h18 h19 h20 => rfl) (by omega) (Nat.lt_succ_self _))
end RB
