/-! the reference: what its methods do (printed by wip/gen/ref.py) -/
section RB
theorem lp_212_6 {n : Nat} {f : Nat → Int32} {d : Nat} {x0 : Int} {x1 : Int} {x2 : Int} {σ : ra_V} (hx0 : ra_in x0) (hx1 : ra_in x1) (hx2 : ra_in x2) : ∀ (nn : Nat) (v6 : Int) (v7 : Int) (hv6_0 : v6 = 0 ∨ v6 = 1) (hv6_1 : v6 = 1 ↔ ∃ p, 0 ≤ p ∧ p < v7 ∧ p ≠ x2 ∧ wq σ p 0 = 1 ∧ x0 < wq σ p 1 + wq σ p 2 ∧ wq σ p 1 < x0 + x1) (hv7_0 : 0 ≤ v7) (hv7_1 : v7 ≤ 8) (hm : ((8 - v7 : Int)).toNat < nn), ra_P (g_Gs n f) g_sh 0 (d + 1) g_m_X8_isTaken 6 [some (.index (179)), some (ra_J x0), none, some (ra_J x1), none, some (ra_I x2), some (ra_I v6), some (ra_I v7)] [] σ (fun r s => (∃ z : Int, (z = 0 ∨ z = 1) ∧ (z = 1 ↔ TK σ x0 x1 x2) ∧ r = .inl (some (ra_I z))) ∧ s = σ) := by
  intro nn
  induction nn with
  | zero => intro v6 v7 hv6_0 hv6_1 hv7_0 hv7_1 hm; exact absurd hm (Nat.not_lt_zero _)
  | succ nn ih =>
    intro v6 v7 hv6_0 hv6_1 hv7_0 hv7_1 hm
    refine ra_load rfl rfl rfl rfl ?_
    refine ra_bipush rfl (by decide) ?_
    refine ra_icge rfl rfl (by first | omega | (unfold ra_in at *; omega)) (by first | omega | (unfold ra_in at *; omega)) (fun h1 => ?_) (fun h1 => ?_)
    · refine ra_load rfl rfl rfl rfl ?_
      exact ra_ireturn rfl (ra_okB hv6_0) ⟨⟨_, hv6_0, (by obtain rfl : v7 = 8 := (by omega); exact hv6_1), rfl⟩, rfl⟩
    · refine ra_load rfl rfl rfl rfl ?_
      refine ra_ifne rfl rfl (ra_in01 hv6_0) (fun h2 => ?_) (fun h2 => ?_)
      · refine ra_iconst rfl ?_
        refine ra_goto rfl rfl ?_
        refine ra_store (L' := [_, _, _, _, _, _, _, _]) rfl rfl rfl (Nat.le_of_ble_eq_true rfl) rfl ?_
        refine ra_iinc (L' := [_, _, _, _, _, _, _, _]) rfl rfl (Nat.le_of_ble_eq_true rfl) rfl ?_
        refine ra_goto rfl rfl ?_
        exact ra_weak (by repeat' constructor) (ih (1) (v7 + 1) (Or.inr rfl) (by first | exact iff_of_false (by decide) (by rintro ⟨p, h1, h2, -⟩; omega) | exact iff_of_true rfl (ex_s1 (hv6_1.mp (by omega))) | exact iff_of_true rfl (ex_s2 (by omega) ⟨by omega, by omega, by omega, by omega⟩) | exact iff_of_false (by decide) (ex_s0 (fun q => absurd (hv6_1.mpr q) (by omega)) (by rintro ⟨a1, a2, a3, a4⟩; omega))) (by first | omega | (unfold ra_in at *; omega)) (by first | omega | (unfold ra_in at *; omega)) (by first | omega | (unfold ra_in at *; omega)))
      · refine ra_load rfl rfl rfl rfl ?_
        refine ra_load rfl rfl rfl rfl ?_
        refine ra_iceq rfl rfl (by first | omega | (unfold ra_in at *; omega)) hx2 (fun h3 => ?_) (fun h3 => ?_)
        · refine ra_iconst rfl ?_
          refine ra_store (L' := [_, _, _, _, _, _, _, _]) rfl rfl rfl (Nat.le_of_ble_eq_true rfl) rfl ?_
          refine ra_iinc (L' := [_, _, _, _, _, _, _, _]) rfl rfl (Nat.le_of_ble_eq_true rfl) rfl ?_
          refine ra_goto rfl rfl ?_
          exact ra_weak (by repeat' constructor) (ih (0) (v7 + 1) (Or.inl rfl) (by first | exact iff_of_false (by decide) (by rintro ⟨p, h1, h2, -⟩; omega) | exact iff_of_true rfl (ex_s1 (hv6_1.mp (by omega))) | exact iff_of_true rfl (ex_s2 (by omega) ⟨by omega, by omega, by omega, by omega⟩) | exact iff_of_false (by decide) (ex_s0 (fun q => absurd (hv6_1.mpr q) (by omega)) (by rintro ⟨a1, a2, a3, a4⟩; omega))) (by first | omega | (unfold ra_in at *; omega)) (by first | omega | (unfold ra_in at *; omega)) (by first | omega | (unfold ra_in at *; omega)))
        · refine ra_load rfl rfl rfl rfl ?_
          refine ra_load rfl rfl rfl rfl ?_
          refine ra_iconst rfl ?_
          refine ra_cTp (sp_199 (by first | omega | (unfold ra_in at *; omega)) (by first | omega | (unfold ra_in at *; omega)) (by first | assumption | rfl | omega)) rfl (ct_199 rfl lk_8_67 (Or.inl rfl) sh_179 (Nat.le_of_ble_eq_true rfl)) ?_
          have hr5 : ra_in (wq σ v7 (0)) := (ra_in_wq _ _ _)
          refine ra_iconst rfl ?_
          refine ra_icne rfl rfl hr5 (by first | omega | (unfold ra_in at *; omega)) (fun h6 => ?_) (fun h6 => ?_)
          · refine ra_iconst rfl ?_
            refine ra_store (L' := [_, _, _, _, _, _, _, _]) rfl rfl rfl (Nat.le_of_ble_eq_true rfl) rfl ?_
            refine ra_iinc (L' := [_, _, _, _, _, _, _, _]) rfl rfl (Nat.le_of_ble_eq_true rfl) rfl ?_
            refine ra_goto rfl rfl ?_
            exact ra_weak (by repeat' constructor) (ih (0) (v7 + 1) (Or.inl rfl) (by first | exact iff_of_false (by decide) (by rintro ⟨p, h1, h2, -⟩; omega) | exact iff_of_true rfl (ex_s1 (hv6_1.mp (by omega))) | exact iff_of_true rfl (ex_s2 (by omega) ⟨by omega, by omega, by omega, by omega⟩) | exact iff_of_false (by decide) (ex_s0 (fun q => absurd (hv6_1.mpr q) (by omega)) (by rintro ⟨a1, a2, a3, a4⟩; omega))) (by first | omega | (unfold ra_in at *; omega)) (by first | omega | (unfold ra_in at *; omega)) (by first | omega | (unfold ra_in at *; omega)))
          · refine ra_load rfl rfl rfl rfl ?_
            refine ra_load rfl rfl rfl rfl ?_
            refine ra_load rfl rfl rfl rfl ?_
            refine ra_load rfl rfl rfl rfl ?_
            refine ra_iconst rfl ?_
            refine ra_cTp (sp_199 (by first | omega | (unfold ra_in at *; omega)) (by first | omega | (unfold ra_in at *; omega)) (by first | assumption | rfl | omega)) rfl (ct_199 rfl lk_8_67 (Or.inl rfl) sh_179 (Nat.le_of_ble_eq_true rfl)) ?_
            have hr8 : ra_in (wq σ v7 (1)) := (ra_in_wq _ _ _)
            refine ra_i2l rfl hr8 ?_
            refine ra_load rfl rfl rfl rfl ?_
            refine ra_load rfl rfl rfl rfl ?_
            refine ra_iconst rfl ?_
            refine ra_cTp (sp_199 (by first | omega | (unfold ra_in at *; omega)) (by first | omega | (unfold ra_in at *; omega)) (by first | assumption | rfl | omega)) rfl (ct_199 rfl lk_8_67 (Or.inl rfl) sh_179 (Nat.le_of_ble_eq_true rfl)) ?_
            have hr10 : ra_in (wq σ v7 (2)) := (ra_in_wq _ _ _)
            refine ra_i2l rfl hr10 ?_
            refine ra_cTp (sp_211 hx0 hx1 hr8 hr10) rfl (ct_211 rfl lk_8_86 (Or.inl rfl) (Nat.le_of_ble_eq_true rfl)) ?_
            refine ra_ifeqB rfl rfl (fun h12 => ?_) (fun h12 => ?_)
            · refine ra_iconst rfl ?_
              refine ra_store (L' := [_, _, _, _, _, _, _, _]) rfl rfl rfl (Nat.le_of_ble_eq_true rfl) rfl ?_
              refine ra_iinc (L' := [_, _, _, _, _, _, _, _]) rfl rfl (Nat.le_of_ble_eq_true rfl) rfl ?_
              refine ra_goto rfl rfl ?_
              exact ra_weak (by repeat' constructor) (ih (0) (v7 + 1) (Or.inl rfl) (by first | exact iff_of_false (by decide) (by rintro ⟨p, h1, h2, -⟩; omega) | exact iff_of_true rfl (ex_s1 (hv6_1.mp (by omega))) | exact iff_of_true rfl (ex_s2 (by omega) ⟨by omega, by omega, by omega, by omega⟩) | exact iff_of_false (by decide) (ex_s0 (fun q => absurd (hv6_1.mpr q) (by omega)) (by rintro ⟨a1, a2, a3, a4⟩; omega))) (by first | omega | (unfold ra_in at *; omega)) (by first | omega | (unfold ra_in at *; omega)) (by first | omega | (unfold ra_in at *; omega)))
            · refine ra_iconst rfl ?_
              refine ra_goto rfl rfl ?_
              refine ra_store (L' := [_, _, _, _, _, _, _, _]) rfl rfl rfl (Nat.le_of_ble_eq_true rfl) rfl ?_
              refine ra_iinc (L' := [_, _, _, _, _, _, _, _]) rfl rfl (Nat.le_of_ble_eq_true rfl) rfl ?_
              refine ra_goto rfl rfl ?_
              exact ra_weak (by repeat' constructor) (ih (1) (v7 + 1) (Or.inr rfl) (by first | exact iff_of_false (by decide) (by rintro ⟨p, h1, h2, -⟩; omega) | exact iff_of_true rfl (ex_s1 (hv6_1.mp (by omega))) | exact iff_of_true rfl (ex_s2 (by omega) ⟨by omega, by omega, by omega, by omega⟩) | exact iff_of_false (by decide) (ex_s0 (fun q => absurd (hv6_1.mpr q) (by omega)) (by rintro ⟨a1, a2, a3, a4⟩; omega))) (by first | omega | (unfold ra_in at *; omega)) (by first | omega | (unfold ra_in at *; omega)) (by first | omega | (unfold ra_in at *; omega)))
theorem sp_212 {n : Nat} {f : Nat → Int32} {d : Nat} {x0 : Int} {x1 : Int} {x2 : Int} {σ : ra_V} (hx0 : ra_in x0) (hx1 : ra_in x1) (hx2 : ra_in x2) : ra_C (g_Gs n f) g_sh 0 (d + 2) 212 [.index (179), ra_J x0, ra_J x1, ra_I x2] σ (fun r s => (∃ z : Int, (z = 0 ∨ z = 1) ∧ (z = 1 ↔ TK σ x0 x1 x2) ∧ r = .inl (some (ra_I z))) ∧ s = σ) := by
  refine ra_enter (nn := 2) mt_212 rfl (Nat.le_of_ble_eq_true rfl) rfl (fun h => absurd h (by decide +kernel)) ?_
  refine ra_iconst rfl ?_
  refine ra_store (L' := [_, _, _, _, _, _, _, _]) rfl rfl rfl (Nat.le_of_ble_eq_true rfl) rfl ?_
  refine ra_iconst rfl ?_
  refine ra_store (L' := [_, _, _, _, _, _, _, _]) rfl rfl rfl (Nat.le_of_ble_eq_true rfl) rfl ?_
  exact ra_weak (by repeat' constructor) (lp_212_6 hx0 hx1 hx2 _ (0) (0) (Or.inl rfl) (by first | exact iff_of_false (by decide) (by rintro ⟨p, h1, h2, -⟩; omega) | exact iff_of_true rfl (ex_s1 (hv6_1.mp (by omega))) | exact iff_of_true rfl (ex_s2 (by omega) ⟨by omega, by omega, by omega, by omega⟩) | exact iff_of_false (by decide) (ex_s0 (fun q => absurd (hv6_1.mpr q) (by omega)) (by rintro ⟨a1, a2, a3, a4⟩; omega))) (by first | omega | (unfold ra_in at *; omega)) (by first | omega | (unfold ra_in at *; omega)) (Nat.lt_succ_self _))
theorem sp_213 {n : Nat} {f : Nat → Int32} {d : Nat}  {σ : ra_V} (hw : WFa σ) : ra_C (g_Gs n f) g_sh 0 (d + 2) 213 [.index (179)] σ (fun r s => rI r ∧ s = σ) := by
  refine ra_enter (nn := 0) mt_213 rfl (Nat.le_of_ble_eq_true rfl) rfl (fun h => absurd h (by decide +kernel)) ?_
  have hw0 := hw
  unfold WFa at hw0
  refine ra_load rfl rfl rfl rfl ?_
  refine ra_getR rfl lk_8_7 (Nat.zero_le _) sh_179 rfl ?_
  refine ra_bipush rfl (by decide) ?_
  refine ra_ialoadJ (j := 19) rfl sh_180 rfl (by decide) rfl (by decide) ?_
  have hr1 : ra_in (ra_g σ (180) 19) := (ra_in_g _ _ _)
  refine ra_load rfl rfl rfl rfl ?_
  refine ra_load rfl rfl rfl rfl ?_
  refine ra_getR rfl lk_8_7 (Nat.zero_le _) sh_179 rfl ?_
  refine ra_bipush rfl (by decide) ?_
  refine ra_ialoadJ (j := 16) rfl sh_180 rfl (by decide) rfl (by decide) ?_
  have hr2 : ra_in (ra_g σ (180) 16) := (ra_in_g _ _ _)
  refine ra_iconst rfl ?_
  refine ra_cTp (sp_199 hr2 (by first | omega | (unfold ra_in at *; omega)) (by first | assumption | rfl | omega)) rfl (ct_199 rfl lk_8_67 (Or.inl rfl) sh_179 (Nat.le_of_ble_eq_true rfl)) ?_
  have hr4 : ra_in (wq σ (ra_g σ (180) 16) (2)) := (ra_in_wq _ _ _)
  refine ra_min rfl lk_8_90 hr1 hr4 (Nat.le_of_ble_eq_true rfl) ?_
  exact ra_ireturn rfl rfl ⟨⟨_, (by first | omega | (unfold ra_in at *; omega)), rfl⟩, rfl⟩
theorem sp_214 {n : Nat} {f : Nat → Int32} {d : Nat} {x0 : Int} {x1 : Int} {σ : ra_V} (hx0 : ra_in x0) (hx1 : ra_in x1) (hw : WFa σ) : ra_C (g_Gs n f) g_sh 0 (d + 3) 214 [.index (179), ra_J x0, ra_J x1] σ (fun r s => (∃ z : Int, (z = 0 ∨ z = 1) ∧ ((z = 0 → ¬ BT σ x0 x1) ∧ (x1 < 1 → z = 0)) ∧ r = .inl (some (ra_I z))) ∧ s = σ) := by
  refine ra_enter (nn := 0) mt_214 rfl (Nat.le_of_ble_eq_true rfl) rfl (fun h => absurd h (by decide +kernel)) ?_
  have hw0 := hw
  unfold WFa at hw0
  refine ra_load rfl rfl rfl rfl ?_
  refine ra_cQPp (sp_203 ) rfl (ct_203 rfl lk_8_95 (Or.inl rfl) sh_179 (Nat.le_of_ble_eq_true rfl)) (fun z2 hz2 hz2p => ?_)
  refine ra_ifeq rfl rfl (ra_in01 hz2) (fun h3 => ?_) (fun h3 => ?_)
  · refine ra_iconst rfl ?_
    exact ra_ireturn rfl (ra_okB (Or.inl rfl)) ⟨⟨_, (Or.inl rfl), (by unfold BT; refine ⟨fun hq => ?_, fun hq => ?_⟩ <;> omega), rfl⟩, rfl⟩
  · refine ra_load rfl rfl rfl rfl ?_
    refine ra_lconst1 rfl ?_
    refine ra_lcmp rfl (by unfold ra_in6; first | omega | (unfold ra_in at *; omega)) (by unfold ra_in6; first | omega | (unfold ra_in at *; omega)) ?_
    refine ra_ifge rfl rfl (ra_in_cmp _ _) (fun h4 => ?_) (fun h4 => ?_)
    · rw [ra_cmp_ge] at h4
      refine ra_load rfl rfl rfl rfl ?_
      refine ra_load rfl rfl rfl rfl ?_
      refine ra_load rfl rfl rfl rfl ?_
      refine ra_getR rfl lk_8_7 (Nat.zero_le _) sh_179 rfl ?_
      refine ra_bipush rfl (by decide) ?_
      refine ra_ialoadJ (j := 18) rfl sh_180 rfl (by decide) rfl (by decide) ?_
      have hr5 : ra_in (ra_g σ (180) 18) := (ra_in_g _ _ _)
      refine ra_i2l rfl hr5 ?_
      refine ra_load rfl rfl rfl rfl ?_
      refine ra_load rfl rfl rfl rfl ?_
      refine ra_getR rfl lk_8_7 (Nat.zero_le _) sh_179 rfl ?_
      refine ra_bipush rfl (by decide) ?_
      refine ra_ialoadJ (j := 16) rfl sh_180 rfl (by decide) rfl (by decide) ?_
      have hr6 : ra_in (ra_g σ (180) 16) := (ra_in_g _ _ _)
      refine ra_iconst rfl ?_
      refine ra_cTp (sp_199 hr6 (by first | omega | (unfold ra_in at *; omega)) (by first | assumption | rfl | omega)) rfl (ct_199 rfl lk_8_67 (Or.inl rfl) sh_179 (Nat.le_of_ble_eq_true rfl)) ?_
      have hr8 : ra_in (wq σ (ra_g σ (180) 16) (2)) := (ra_in_wq _ _ _)
      refine ra_i2l rfl hr8 ?_
      refine ra_cTp (sp_211 hx0 hx1 hr5 hr8) rfl (ct_211 rfl lk_8_86 (Or.inl rfl) (Nat.le_of_ble_eq_true rfl)) ?_
      refine ra_ifneB rfl rfl (fun h10 => ?_) (fun h10 => ?_)
      · refine ra_iconst rfl ?_
        refine ra_goto rfl rfl ?_
        exact ra_ireturn rfl (ra_okB (Or.inr rfl)) ⟨⟨_, (Or.inr rfl), (by unfold BT; refine ⟨fun hq => ?_, fun hq => ?_⟩ <;> omega), rfl⟩, rfl⟩
      · refine ra_load rfl rfl rfl rfl ?_
        refine ra_getR rfl lk_8_7 (Nat.zero_le _) sh_179 rfl ?_
        refine ra_bipush rfl (by decide) ?_
        refine ra_ialoadJ (j := 20) rfl sh_180 rfl (by decide) rfl (by decide) ?_
        have hr11 : ra_in (ra_g σ (180) 20) := (ra_in_g _ _ _)
        refine ra_iconst rfl ?_
        refine ra_iceq rfl rfl hr11 (by first | omega | (unfold ra_in at *; omega)) (fun h12 => ?_) (fun h12 => ?_)
        · refine ra_iconst rfl ?_
          exact ra_ireturn rfl (ra_okB (Or.inl rfl)) ⟨⟨_, (Or.inl rfl), (by unfold BT; refine ⟨fun hq => ?_, fun hq => ?_⟩ <;> omega), rfl⟩, rfl⟩
        · refine ra_load rfl rfl rfl rfl ?_
          refine ra_load rfl rfl rfl rfl ?_
          refine ra_load rfl rfl rfl rfl ?_
          refine ra_getR rfl lk_8_7 (Nat.zero_le _) sh_179 rfl ?_
          refine ra_bipush rfl (by decide) ?_
          refine ra_ialoadJ (j := 20) rfl sh_180 rfl (by decide) rfl (by decide) ?_
          have hr13 : ra_in (ra_g σ (180) 20) := (ra_in_g _ _ _)
          refine ra_i2l rfl hr13 ?_
          refine ra_load rfl rfl rfl rfl ?_
          refine ra_cIp (sp_213 hw) rfl (ct_213 rfl lk_8_99 (Or.inl rfl) sh_179 (Nat.le_of_ble_eq_true rfl)) (fun z15 hz15 => ?_)
          refine ra_i2l rfl hz15 ?_
          refine ra_cTp (sp_211 hx0 hx1 hr13 hz15) rfl (ct_211 rfl lk_8_86 (Or.inl rfl) (Nat.le_of_ble_eq_true rfl)) ?_
          refine ra_ifeqB rfl rfl (fun h17 => ?_) (fun h17 => ?_)
          · refine ra_iconst rfl ?_
            exact ra_ireturn rfl (ra_okB (Or.inl rfl)) ⟨⟨_, (Or.inl rfl), (by unfold BT; refine ⟨fun hq => ?_, fun hq => ?_⟩ <;> omega), rfl⟩, rfl⟩
          · refine ra_iconst rfl ?_
            refine ra_goto rfl rfl ?_
            exact ra_ireturn rfl (ra_okB (Or.inr rfl)) ⟨⟨_, (Or.inr rfl), (by unfold BT; refine ⟨fun hq => ?_, fun hq => ?_⟩ <;> omega), rfl⟩, rfl⟩
    · rw [ra_cmp_lt] at h4
      refine ra_iconst rfl ?_
      exact ra_ireturn rfl (ra_okB (Or.inl rfl)) ⟨⟨_, (Or.inl rfl), (by unfold BT; refine ⟨fun hq => ?_, fun hq => ?_⟩ <;> omega), rfl⟩, rfl⟩
theorem sp_215 {n : Nat} {f : Nat → Int32} {d : Nat} {x0 : Int} {x1 : Int} {σ : ra_V} (hx0 : ra_in x0) (hx1 : ra_in x1) (hw : WFa σ) : ra_C (g_Gs n f) g_sh 0 (d + 4) 215 [.index (179), ra_I x0, ra_I x1] σ (fun r s => (∃ z, ra_in z ∧ (z = 0 → (US σ x0 x1 ∧ ¬ TK σ x0 x1 (-1) ∧ ¬ BT σ x0 x1)) ∧ r = .inl (some (ra_I z))) ∧ s = σ) := by
  refine ra_enter (nn := 0) mt_215 rfl (Nat.le_of_ble_eq_true rfl) rfl (fun h => absurd h (by decide +kernel)) ?_
  have hw0 := hw
  unfold WFa at hw0
  refine ra_load rfl rfl rfl rfl ?_
  refine ra_load rfl rfl rfl rfl ?_
  refine ra_i2l rfl hx0 ?_
  refine ra_load rfl rfl rfl rfl ?_
  refine ra_i2l rfl hx1 ?_
  refine ra_cQPp (sp_210 hx0 hx1 hw) rfl (ct_210 rfl lk_8_103 (Or.inl rfl) sh_179 (Nat.le_of_ble_eq_true rfl)) (fun z2 hz2 hz2p => ?_)
  refine ra_ifne rfl rfl (ra_in01 hz2) (fun h3 => ?_) (fun h3 => ?_)
  · refine ra_load rfl rfl rfl rfl ?_
    refine ra_load rfl rfl rfl rfl ?_
    refine ra_getR rfl lk_8_7 (Nat.zero_le _) sh_179 rfl ?_
    refine ra_iconst rfl ?_
    refine ra_ialoadJ (j := 3) rfl sh_180 rfl (by decide) rfl (by decide) ?_
    have hr4 : ra_in (ra_g σ (180) 3) := (ra_in_g _ _ _)
    refine ra_irem rfl hx0 hr4 (by omega) ?_
    refine ra_ifeq rfl rfl (ra_in_tmod hx0 (by omega)) (fun h5 => ?_) (fun h5 => ?_)
    · refine ra_load rfl rfl rfl rfl ?_
      refine ra_load rfl rfl rfl rfl ?_
      refine ra_i2l rfl hx0 ?_
      refine ra_load rfl rfl rfl rfl ?_
      refine ra_i2l rfl hx1 ?_
      refine ra_iconst rfl ?_
      refine ra_cQPp (sp_212 hx0 hx1 (by first | omega | (unfold ra_in at *; omega))) rfl (ct_212 rfl lk_8_107 (Or.inl rfl) sh_179 (Nat.le_of_ble_eq_true rfl)) (fun z7 hz7 hz7p => ?_)
      refine ra_ifeq rfl rfl (ra_in01 hz7) (fun h8 => ?_) (fun h8 => ?_)
      · refine ra_load rfl rfl rfl rfl ?_
        refine ra_load rfl rfl rfl rfl ?_
        refine ra_i2l rfl hx0 ?_
        refine ra_load rfl rfl rfl rfl ?_
        refine ra_i2l rfl hx1 ?_
        refine ra_cQPp (sp_214 hx0 hx1 hw) rfl (ct_214 rfl lk_8_111 (Or.inl rfl) sh_179 (Nat.le_of_ble_eq_true rfl)) (fun z10 hz10 hz10p => ?_)
        refine ra_ifeq rfl rfl (ra_in01 hz10) (fun h11 => ?_) (fun h11 => ?_)
        · refine ra_iconst rfl ?_
          exact ra_ireturn rfl rfl ⟨⟨_, (by first | omega | (unfold ra_in at *; omega)), (fun _ => ⟨hz2p.mp (by omega), fun q => absurd (hz7p.mpr q) (by omega), hz10p.1 (by omega)⟩), rfl⟩, rfl⟩
        · refine ra_iconst rfl ?_
          refine ra_goto rfl rfl ?_
          exact ra_ireturn rfl rfl ⟨⟨_, (by first | omega | (unfold ra_in at *; omega)), (fun hq => absurd hq (by decide)), rfl⟩, rfl⟩
      · refine ra_iconst rfl ?_
        refine ra_goto rfl rfl ?_
        exact ra_ireturn rfl rfl ⟨⟨_, (by first | omega | (unfold ra_in at *; omega)), (fun hq => absurd hq (by decide)), rfl⟩, rfl⟩
    · refine ra_iconst rfl ?_
      exact ra_ireturn rfl rfl ⟨⟨_, (by first | omega | (unfold ra_in at *; omega)), (fun hq => absurd hq (by decide)), rfl⟩, rfl⟩
  · refine ra_iconst rfl ?_
    exact ra_ireturn rfl rfl ⟨⟨_, (by first | omega | (unfold ra_in at *; omega)), (fun hq => absurd hq (by decide)), rfl⟩, rfl⟩
theorem sp_216 {n : Nat} {f : Nat → Int32} {d : Nat} {x0 : Int} {σ : ra_V} (hx0 : ra_in x0) (hw : WFa σ) : ra_C (g_Gs n f) g_sh 0 (d + 4) 216 [.index (179), ra_I x0] σ (fun r s => (∃ z : Int, (z = 0 ∨ z = 1) ∧ (z = 1 → (US σ x0 1 ∧ ¬ TK σ x0 1 (-1) ∧ ¬ BT σ x0 1)) ∧ r = .inl (some (ra_I z))) ∧ s = σ) := by
  refine ra_enter (nn := 0) mt_216 rfl (Nat.le_of_ble_eq_true rfl) rfl (fun h => absurd h (by decide +kernel)) ?_
  have hw0 := hw
  unfold WFa at hw0
  refine ra_load rfl rfl rfl rfl ?_
  refine ra_load rfl rfl rfl rfl ?_
  refine ra_i2l rfl hx0 ?_
  refine ra_lconst1 rfl ?_
  refine ra_cQPp (sp_210 hx0 (by first | omega | (unfold ra_in at *; omega)) hw) rfl (ct_210 rfl lk_8_103 (Or.inl rfl) sh_179 (Nat.le_of_ble_eq_true rfl)) (fun z2 hz2 hz2p => ?_)
  refine ra_ifeq rfl rfl (ra_in01 hz2) (fun h3 => ?_) (fun h3 => ?_)
  · refine ra_iconst rfl ?_
    exact ra_ireturn rfl (ra_okB (Or.inl rfl)) ⟨⟨_, (Or.inl rfl), (fun hq => absurd hq (by decide)), rfl⟩, rfl⟩
  · refine ra_load rfl rfl rfl rfl ?_
    refine ra_load rfl rfl rfl rfl ?_
    refine ra_i2l rfl hx0 ?_
    refine ra_lconst1 rfl ?_
    refine ra_iconst rfl ?_
    refine ra_cQPp (sp_212 hx0 (by first | omega | (unfold ra_in at *; omega)) (by first | omega | (unfold ra_in at *; omega))) rfl (ct_212 rfl lk_8_107 (Or.inl rfl) sh_179 (Nat.le_of_ble_eq_true rfl)) (fun z5 hz5 hz5p => ?_)
    refine ra_ifne rfl rfl (ra_in01 hz5) (fun h6 => ?_) (fun h6 => ?_)
    · refine ra_iconst rfl ?_
      exact ra_ireturn rfl (ra_okB (Or.inl rfl)) ⟨⟨_, (Or.inl rfl), (fun hq => absurd hq (by decide)), rfl⟩, rfl⟩
    · refine ra_load rfl rfl rfl rfl ?_
      refine ra_load rfl rfl rfl rfl ?_
      refine ra_i2l rfl hx0 ?_
      refine ra_lconst1 rfl ?_
      refine ra_cQPp (sp_214 hx0 (by first | omega | (unfold ra_in at *; omega)) hw) rfl (ct_214 rfl lk_8_111 (Or.inl rfl) sh_179 (Nat.le_of_ble_eq_true rfl)) (fun z8 hz8 hz8p => ?_)
      refine ra_ifne rfl rfl (ra_in01 hz8) (fun h9 => ?_) (fun h9 => ?_)
      · refine ra_iconst rfl ?_
        exact ra_ireturn rfl (ra_okB (Or.inl rfl)) ⟨⟨_, (Or.inl rfl), (fun hq => absurd hq (by decide)), rfl⟩, rfl⟩
      · refine ra_iconst rfl ?_
        refine ra_goto rfl rfl ?_
        exact ra_ireturn rfl (ra_okB (Or.inr rfl)) ⟨⟨_, (Or.inr rfl), (fun _ => ⟨hz2p.mp (by omega), fun q => absurd (hz5p.mpr q) (by omega), hz8p.1 (by omega)⟩), rfl⟩, rfl⟩
theorem lp_202_4 {n : Nat} {f : Nat → Int32} {d : Nat}  {σ : ra_V} (hw : WF σ) : ∀ (nn : Nat) (v1 : Int) (v2 : Int) (hv1_0 : 0 ≤ v1) (hv1_1 : v1 ≤ v2) (hv1_2 : v1 < v2 → ∃ p, 0 ≤ p ∧ p < v2 ∧ wq σ p 0 = 0) (hv2_0 : 0 ≤ v2) (hv2_1 : v2 ≤ 8) (hm : ((8 - v2 : Int)).toNat < nn), ra_P (g_Gs n f) g_sh 0 (d + 1) g_m_X8_partsMany 4 [some (.index (179)), some (ra_I v1), some (ra_I v2)] [] σ (fun r s => (∃ z, ra_in z ∧ (0 ≤ z ∧ z ≤ 8 ∧ (z < 8 → ∃ p, 0 ≤ p ∧ p < 8 ∧ wq σ p 0 = 0)) ∧ r = .inl (some (ra_I z))) ∧ s = σ) := by
  intro nn
  induction nn with
  | zero => intro v1 v2 hv1_0 hv1_1 hv1_2 hv2_0 hv2_1 hm; exact absurd hm (Nat.not_lt_zero _)
  | succ nn ih =>
    intro v1 v2 hv1_0 hv1_1 hv1_2 hv2_0 hv2_1 hm
    refine ra_load rfl rfl rfl rfl ?_
    refine ra_bipush rfl (by decide) ?_
    refine ra_icge rfl rfl (by first | omega | (unfold ra_in at *; omega)) (by first | omega | (unfold ra_in at *; omega)) (fun h1 => ?_) (fun h1 => ?_)
    · refine ra_load rfl rfl rfl rfl ?_
      exact ra_ireturn rfl rfl ⟨⟨_, (by first | omega | (unfold ra_in at *; omega)), (by obtain rfl : v2 = 8 := (by omega); exact ⟨by omega, by omega, hv1_2⟩), rfl⟩, rfl⟩
    · refine ra_load rfl rfl rfl rfl ?_
      refine ra_load rfl rfl rfl rfl ?_
      refine ra_load rfl rfl rfl rfl ?_
      refine ra_iconst rfl ?_
      refine ra_cTp (sp_199 (by first | omega | (unfold ra_in at *; omega)) (by first | omega | (unfold ra_in at *; omega)) (by first | assumption | rfl | omega)) rfl (ct_199 rfl lk_8_67 (Or.inl rfl) sh_179 (Nat.le_of_ble_eq_true rfl)) ?_
      have hr3 : ra_in (wq σ v2 (0)) := (ra_in_wq _ _ _)
      refine ra_iadd rfl ?_
      refine ra_store (L' := [_, _, _]) rfl rfl rfl (Nat.le_of_ble_eq_true rfl) rfl ?_
      refine ra_iinc (L' := [_, _, _]) rfl rfl (Nat.le_of_ble_eq_true rfl) rfl ?_
      refine ra_goto rfl rfl ?_
      exact ra_weak (by repeat' constructor) (ih (v1 + (wq σ v2 (0))) (v2 + 1) (by have := WF_ex hw hv2_0 (by omega); omega) (by have := WF_ex hw hv2_0 (by omega); omega) ((WF_ex hw hv2_0 (by omega)).elim (fun e _ => ⟨v2, by omega, by omega, e⟩) (fun e q => (hv1_2 (by omega)).elim fun p a => ⟨p, a.1, by omega, a.2.2⟩)) (by first | omega | (unfold ra_in at *; omega)) (by first | omega | (unfold ra_in at *; omega)) (by first | omega | (unfold ra_in at *; omega)))
theorem sp_202 {n : Nat} {f : Nat → Int32} {d : Nat}  {σ : ra_V} (hw : WF σ) : ra_C (g_Gs n f) g_sh 0 (d + 2) 202 [.index (179)] σ (fun r s => (∃ z, ra_in z ∧ (0 ≤ z ∧ z ≤ 8 ∧ (z < 8 → ∃ p, 0 ≤ p ∧ p < 8 ∧ wq σ p 0 = 0)) ∧ r = .inl (some (ra_I z))) ∧ s = σ) := by
  refine ra_enter (nn := 2) mt_202 rfl (Nat.le_of_ble_eq_true rfl) rfl (fun h => absurd h (by decide +kernel)) ?_
  refine ra_iconst rfl ?_
  refine ra_store (L' := [_, _, _]) rfl rfl rfl (Nat.le_of_ble_eq_true rfl) rfl ?_
  refine ra_iconst rfl ?_
  refine ra_store (L' := [_, _, _]) rfl rfl rfl (Nat.le_of_ble_eq_true rfl) rfl ?_
  exact ra_weak (by repeat' constructor) (lp_202_4 hw _ (0) (0) (by first | omega | (unfold ra_in at *; omega)) (by first | omega | (unfold ra_in at *; omega)) (fun q => absurd q (by omega)) (by first | omega | (unfold ra_in at *; omega)) (by first | omega | (unfold ra_in at *; omega)) (Nat.lt_succ_self _))
theorem sp_207 {n : Nat} {f : Nat → Int32} {d : Nat} {x0 : Int} {x1 : Int} {σ : ra_V} (hx0 : ra_in x0) (hx1 : ra_in x1) (hp : -1 ≤ x0 ∧ x0 < 8) : ra_C (g_Gs n f) g_sh 0 (d + 2) 207 [.index (179), ra_I x0, ra_I x1] σ (fun r s => rI r ∧ s = σ) := by
  refine ra_enter (nn := 0) mt_207 rfl (Nat.le_of_ble_eq_true rfl) rfl (fun h => absurd h (by decide +kernel)) ?_
  refine ra_sipush rfl (by decide) ?_
  refine ra_load rfl rfl rfl rfl ?_
  refine ra_load rfl rfl rfl rfl ?_
  refine ra_bipush rfl (by decide) ?_
  refine ra_cTp (sp_199 hx0 (by first | omega | (unfold ra_in at *; omega)) (by first | assumption | rfl | omega)) rfl (ct_199 rfl lk_8_67 (Or.inl rfl) sh_179 (Nat.le_of_ble_eq_true rfl)) ?_
  refine ra_iconst rfl ?_
  refine ra_iadd rfl ?_
  refine ra_gen (fun z2 hz2 => ?_)
  refine ra_imul rfl ?_
  refine ra_gen (fun z3 hz3 => ?_)
  refine ra_load rfl rfl rfl rfl ?_
  refine ra_iadd rfl ?_
  refine ra_gen (fun z4 hz4 => ?_)
  exact ra_ireturn rfl rfl ⟨⟨_, hz4, rfl⟩, rfl⟩
end RB
