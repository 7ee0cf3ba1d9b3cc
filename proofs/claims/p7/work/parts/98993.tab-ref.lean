/-! T5: what the reference answers (printed by wip/gen/r5.py) -/
section
theorem s5_214 {n : Nat} {f : Nat → Int32} {d : Nat}  {σ : ra_V} (hw : WFa σ) : ra_C (g_Gs n f) g_sh 0 (d + 2) 214 [.index (179)] σ (fun r9 s => r9 = .inl (some (ra_I (min (ra_g σ 180 19) (msz σ)))) ∧ s = σ) := by
  refine ra_enter (nn := 0) mt_214 rfl (Nat.le_of_ble_eq_true rfl) rfl (fun h => absurd h (by decide +kernel)) ?_
  have hw0 := hw
  unfold WFa at hw0
  refine ra_load rfl rfl rfl rfl ?_
  refine ra_getR rfl lk_8_7 (Nat.zero_le _) sh_179 rfl ?_
  refine ra_bipush rfl (by decide) ?_
  refine ra_ialoadJ (j := 19) rfl sh_180 rfl (by decide) rfl (by decide) ?_
  have hr1 : ra_in (ra_g σ (180) 19) := (ra_in_g _ _ _)
  refine ra_load rfl rfl rfl rfl ?_
  refine ra_load rfl rfl rfl rfl ?_
  refine ra_getR rfl lk_8_7 (Nat.zero_le _) sh_179 rfl ?_
  refine ra_bipush rfl (by decide) ?_
  refine ra_ialoadJ (j := 16) rfl sh_180 rfl (by decide) rfl (by decide) ?_
  have hr2 : ra_in (ra_g σ (180) 16) := (ra_in_g _ _ _)
  refine ra_iconst rfl ?_
  refine ra_cTp (sp_200 hr2 (by first | omega | (unfold ra_in at *; omega)) (by first | assumption | rfl | omega)) rfl (ct_200 rfl lk_8_67 (Or.inl rfl) sh_179 (Nat.le_of_ble_eq_true rfl)) ?_
  have hr4 : ra_in (wq σ (ra_g σ (180) 16) (2)) := (ra_in_wq _ _ _)
  refine ra_min rfl lk_8_90 hr1 hr4 (Nat.le_of_ble_eq_true rfl) ?_
  exact ra_ireturn rfl rfl ⟨(congrArg (fun z => Sum.inl (some (ra_I z))) rfl), rfl⟩
theorem s5_215 {n : Nat} {f : Nat → Int32} {d : Nat} {x0 : Int} {x1 : Int} {σ : ra_V} (hx0 : ra_in x0) (hx1 : ra_in x1) (hw : WFa σ) : ra_C (g_Gs n f) g_sh 0 (d + 3) 215 [.index (179), ra_J x0, ra_J x1] σ (fun r9 s => (∃ z : Int, (z = 0 ∨ z = 1) ∧ (z = 1 ↔ x5BSY σ x0 x1) ∧ r9 = .inl (some (ra_I z))) ∧ s = σ) := by
  refine ra_enter (nn := 0) mt_215 rfl (Nat.le_of_ble_eq_true rfl) rfl (fun h => absurd h (by decide +kernel)) ?_
  have hw0 := hw
  unfold WFa at hw0
  have hz : msz σ = wq σ (ra_g σ 180 16) 2 := rfl
  refine ra_load rfl rfl rfl rfl ?_
  refine ra_cQPp (sp_204 ) rfl (ct_204 rfl lk_8_95 (Or.inl rfl) sh_179 (Nat.le_of_ble_eq_true rfl)) (fun z2 hz2 hz2p => ?_)
  refine ra_ifeq rfl rfl (ra_in01 hz2) (fun h3 => ?_) (fun h3 => ?_)
  · refine ra_iconst rfl ?_
    exact ra_ireturn rfl (ra_okB (Or.inl rfl)) ⟨⟨_, (Or.inl rfl), (by unfold x5BSY; constructor <;> intro q <;> omega), rfl⟩, rfl⟩
  · refine ra_load rfl rfl rfl rfl ?_
    refine ra_lconst1 rfl ?_
    refine ra_lcmp rfl (by unfold ra_in6; first | omega | (unfold ra_in at *; omega)) (by unfold ra_in6; first | omega | (unfold ra_in at *; omega)) ?_
    refine ra_ifge rfl rfl (ra_in_cmp _ _) (fun h4 => ?_) (fun h4 => ?_)
    · rw [ra_cmp_ge] at h4
      refine ra_load rfl rfl rfl rfl ?_
      refine ra_load rfl rfl rfl rfl ?_
      refine ra_load rfl rfl rfl rfl ?_
      refine ra_getR rfl lk_8_7 (Nat.zero_le _) sh_179 rfl ?_
      refine ra_bipush rfl (by decide) ?_
      refine ra_ialoadJ (j := 18) rfl sh_180 rfl (by decide) rfl (by decide) ?_
      have hr5 : ra_in (ra_g σ (180) 18) := (ra_in_g _ _ _)
      refine ra_i2l rfl hr5 ?_
      refine ra_load rfl rfl rfl rfl ?_
      refine ra_load rfl rfl rfl rfl ?_
      refine ra_getR rfl lk_8_7 (Nat.zero_le _) sh_179 rfl ?_
      refine ra_bipush rfl (by decide) ?_
      refine ra_ialoadJ (j := 16) rfl sh_180 rfl (by decide) rfl (by decide) ?_
      have hr6 : ra_in (ra_g σ (180) 16) := (ra_in_g _ _ _)
      refine ra_iconst rfl ?_
      refine ra_cTp (sp_200 hr6 (by first | omega | (unfold ra_in at *; omega)) (by first | assumption | rfl | omega)) rfl (ct_200 rfl lk_8_67 (Or.inl rfl) sh_179 (Nat.le_of_ble_eq_true rfl)) ?_
      have hr8 : ra_in (wq σ (ra_g σ (180) 16) (2)) := (ra_in_wq _ _ _)
      refine ra_i2l rfl hr8 ?_
      refine ra_cTp (sp_212 hx0 hx1 hr5 hr8) rfl (ct_212 rfl lk_8_86 (Or.inl rfl) (Nat.le_of_ble_eq_true rfl)) ?_
      refine ra_ifneB rfl rfl (fun h10 => ?_) (fun h10 => ?_)
      · refine ra_iconst rfl ?_
        refine ra_goto rfl rfl ?_
        exact ra_ireturn rfl (ra_okB (Or.inr rfl)) ⟨⟨_, (Or.inr rfl), (by unfold x5BSY; constructor <;> intro q <;> omega), rfl⟩, rfl⟩
      · refine ra_load rfl rfl rfl rfl ?_
        refine ra_getR rfl lk_8_7 (Nat.zero_le _) sh_179 rfl ?_
        refine ra_bipush rfl (by decide) ?_
        refine ra_ialoadJ (j := 20) rfl sh_180 rfl (by decide) rfl (by decide) ?_
        have hr11 : ra_in (ra_g σ (180) 20) := (ra_in_g _ _ _)
        refine ra_iconst rfl ?_
        refine ra_iceq rfl rfl hr11 (by first | omega | (unfold ra_in at *; omega)) (fun h12 => ?_) (fun h12 => ?_)
        · refine ra_iconst rfl ?_
          exact ra_ireturn rfl (ra_okB (Or.inl rfl)) ⟨⟨_, (Or.inl rfl), (by unfold x5BSY; constructor <;> intro q <;> omega), rfl⟩, rfl⟩
        · refine ra_load rfl rfl rfl rfl ?_
          refine ra_load rfl rfl rfl rfl ?_
          refine ra_load rfl rfl rfl rfl ?_
          refine ra_getR rfl lk_8_7 (Nat.zero_le _) sh_179 rfl ?_
          refine ra_bipush rfl (by decide) ?_
          refine ra_ialoadJ (j := 20) rfl sh_180 rfl (by decide) rfl (by decide) ?_
          have hr13 : ra_in (ra_g σ (180) 20) := (ra_in_g _ _ _)
          refine ra_i2l rfl hr13 ?_
          refine ra_load rfl rfl rfl rfl ?_
          refine ra_cTp (s5_214 hw) rfl (ct_214 rfl lk_8_99 (Or.inl rfl) sh_179 (Nat.le_of_ble_eq_true rfl)) ?_
          have hr15 : ra_in (min (ra_g σ 180 19) (msz σ)) := (x5min_in (ra_in_g _ _ _) (ra_in_wq _ _ _))
          refine ra_i2l rfl hr15 ?_
          refine ra_cTp (sp_212 hx0 hx1 hr13 hr15) rfl (ct_212 rfl lk_8_86 (Or.inl rfl) (Nat.le_of_ble_eq_true rfl)) ?_
          refine ra_ifeqB rfl rfl (fun h17 => ?_) (fun h17 => ?_)
          · refine ra_iconst rfl ?_
            exact ra_ireturn rfl (ra_okB (Or.inl rfl)) ⟨⟨_, (Or.inl rfl), (by unfold x5BSY; constructor <;> intro q <;> omega), rfl⟩, rfl⟩
          · refine ra_iconst rfl ?_
            refine ra_goto rfl rfl ?_
            exact ra_ireturn rfl (ra_okB (Or.inr rfl)) ⟨⟨_, (Or.inr rfl), (by unfold x5BSY; constructor <;> intro q <;> omega), rfl⟩, rfl⟩
    · rw [ra_cmp_lt] at h4
      refine ra_iconst rfl ?_
      exact ra_ireturn rfl (ra_okB (Or.inl rfl)) ⟨⟨_, (Or.inl rfl), (by unfold x5BSY; constructor <;> intro q <;> omega), rfl⟩, rfl⟩
theorem s5_216 {n : Nat} {f : Nat → Int32} {d : Nat} {x0 : Int} {x1 : Int} {σ : ra_V} (hx0 : ra_in x0) (hx1 : ra_in x1) (hw : WFa σ) : ra_C (g_Gs n f) g_sh 0 (d + 4) 216 [.index (179), ra_I x0, ra_I x1] σ (fun r9 s => r9 = .inl (some (ra_I (x5why σ x0 x1))) ∧ s = σ) := by
  refine ra_enter (nn := 0) mt_216 rfl (Nat.le_of_ble_eq_true rfl) rfl (fun h => absurd h (by decide +kernel)) ?_
  have hw0 := hw
  unfold WFa at hw0
  refine ra_load rfl rfl rfl rfl ?_
  refine ra_load rfl rfl rfl rfl ?_
  refine ra_i2l rfl hx0 ?_
  refine ra_load rfl rfl rfl rfl ?_
  refine ra_i2l rfl hx1 ?_
  refine ra_cQPp (sp_211 hx0 hx1 hw) rfl (ct_211 rfl lk_8_103 (Or.inl rfl) sh_179 (Nat.le_of_ble_eq_true rfl)) (fun z2 hz2 hz2p => ?_)
  refine ra_ifne rfl rfl (ra_in01 hz2) (fun h3 => ?_) (fun h3 => ?_)
  · refine ra_load rfl rfl rfl rfl ?_
    refine ra_load rfl rfl rfl rfl ?_
    refine ra_getR rfl lk_8_7 (Nat.zero_le _) sh_179 rfl ?_
    refine ra_iconst rfl ?_
    refine ra_ialoadJ (j := 3) rfl sh_180 rfl (by decide) rfl (by decide) ?_
    have hr4 : ra_in (ra_g σ (180) 3) := (ra_in_g _ _ _)
    refine ra_irem rfl hx0 hr4 (by omega) ?_
    refine ra_ifeq rfl rfl (ra_in_tmod hx0 (by omega)) (fun h5 => ?_) (fun h5 => ?_)
    · refine ra_load rfl rfl rfl rfl ?_
      refine ra_load rfl rfl rfl rfl ?_
      refine ra_i2l rfl hx0 ?_
      refine ra_load rfl rfl rfl rfl ?_
      refine ra_i2l rfl hx1 ?_
      refine ra_iconst rfl ?_
      refine ra_cQPp (sp_213 hx0 hx1 (by first | omega | (unfold ra_in at *; omega))) rfl (ct_213 rfl lk_8_107 (Or.inl rfl) sh_179 (Nat.le_of_ble_eq_true rfl)) (fun z7 hz7 hz7p => ?_)
      refine ra_ifeq rfl rfl (ra_in01 hz7) (fun h8 => ?_) (fun h8 => ?_)
      · refine ra_load rfl rfl rfl rfl ?_
        refine ra_load rfl rfl rfl rfl ?_
        refine ra_i2l rfl hx0 ?_
        refine ra_load rfl rfl rfl rfl ?_
        refine ra_i2l rfl hx1 ?_
        refine ra_cQPp (s5_215 hx0 hx1 hw) rfl (ct_215 rfl lk_8_111 (Or.inl rfl) sh_179 (Nat.le_of_ble_eq_true rfl)) (fun z10 hz10 hz10p => ?_)
        refine ra_ifeq rfl rfl (ra_in01 hz10) (fun h11 => ?_) (fun h11 => ?_)
        · refine ra_iconst rfl ?_
          exact ra_ireturn rfl rfl ⟨(congrArg (fun z => Sum.inl (some (ra_I z))) (x5why_0 (hz2p.mp (by omega)) (by have hu9 := (hz2p.mp (by omega)); unfold US at hu9; rw [← x5em_t (by omega)]; omega) (fun q => absurd (hz7p.mpr q) (by omega)) (fun q => absurd (hz10p.mpr q) (by omega)))), rfl⟩
        · refine ra_iconst rfl ?_
          refine ra_goto rfl rfl ?_
          exact ra_ireturn rfl rfl ⟨(congrArg (fun z => Sum.inl (some (ra_I z))) (x5why_4 (hz2p.mp (by omega)) (by have hu9 := (hz2p.mp (by omega)); unfold US at hu9; rw [← x5em_t (by omega)]; omega) (fun q => absurd (hz7p.mpr q) (by omega)) (hz10p.mp (by omega)))), rfl⟩
      · refine ra_iconst rfl ?_
        refine ra_goto rfl rfl ?_
        exact ra_ireturn rfl rfl ⟨(congrArg (fun z => Sum.inl (some (ra_I z))) (x5why_3 (hz2p.mp (by omega)) (by have hu9 := (hz2p.mp (by omega)); unfold US at hu9; rw [← x5em_t (by omega)]; omega) (hz7p.mp (by omega)))), rfl⟩
    · refine ra_iconst rfl ?_
      exact ra_ireturn rfl rfl ⟨(congrArg (fun z => Sum.inl (some (ra_I z))) (x5why_2 (hz2p.mp (by omega)) (by have hu9 := (hz2p.mp (by omega)); unfold US at hu9; rw [← x5em_t (by omega)]; omega))), rfl⟩
  · refine ra_iconst rfl ?_
    exact ra_ireturn rfl rfl ⟨(congrArg (fun z => Sum.inl (some (ra_I z))) (x5why_1 (fun q => absurd (hz2p.mpr q) (by omega)))), rfl⟩
theorem s5_217 {n : Nat} {f : Nat → Int32} {d : Nat} {x0 : Int} {σ : ra_V} (hx0 : ra_in x0) (hw : WFa σ) : ra_C (g_Gs n f) g_sh 0 (d + 4) 217 [.index (179), ra_I x0] σ (fun r9 s => (∃ z : Int, (z = 0 ∨ z = 1) ∧ (z = 1 ↔ x5FRE σ x0) ∧ r9 = .inl (some (ra_I z))) ∧ s = σ) := by
  refine ra_enter (nn := 0) mt_217 rfl (Nat.le_of_ble_eq_true rfl) rfl (fun h => absurd h (by decide +kernel)) ?_
  have hw0 := hw
  unfold WFa at hw0
  refine ra_load rfl rfl rfl rfl ?_
  refine ra_load rfl rfl rfl rfl ?_
  refine ra_i2l rfl hx0 ?_
  refine ra_lconst1 rfl ?_
  refine ra_cQPp (sp_211 hx0 (by first | omega | (unfold ra_in at *; omega)) hw) rfl (ct_211 rfl lk_8_103 (Or.inl rfl) sh_179 (Nat.le_of_ble_eq_true rfl)) (fun z2 hz2 hz2p => ?_)
  refine ra_ifeq rfl rfl (ra_in01 hz2) (fun h3 => ?_) (fun h3 => ?_)
  · refine ra_iconst rfl ?_
    exact ra_ireturn rfl (ra_okB (Or.inl rfl)) ⟨⟨_, (Or.inl rfl), (iff_of_false (by decide) (fun q => by obtain ⟨q1, q2, q3⟩ := q; first | exact (fun q => absurd (hz2p.mpr q) (by omega)) q1)), rfl⟩, rfl⟩
  · refine ra_load rfl rfl rfl rfl ?_
    refine ra_load rfl rfl rfl rfl ?_
    refine ra_i2l rfl hx0 ?_
    refine ra_lconst1 rfl ?_
    refine ra_iconst rfl ?_
    refine ra_cQPp (sp_213 hx0 (by first | omega | (unfold ra_in at *; omega)) (by first | omega | (unfold ra_in at *; omega))) rfl (ct_213 rfl lk_8_107 (Or.inl rfl) sh_179 (Nat.le_of_ble_eq_true rfl)) (fun z5 hz5 hz5p => ?_)
    refine ra_ifne rfl rfl (ra_in01 hz5) (fun h6 => ?_) (fun h6 => ?_)
    · refine ra_iconst rfl ?_
      exact ra_ireturn rfl (ra_okB (Or.inl rfl)) ⟨⟨_, (Or.inl rfl), (iff_of_false (by decide) (fun q => by obtain ⟨q1, q2, q3⟩ := q; first | exact (fun q => absurd (hz2p.mpr q) (by omega)) q1 | exact q2 (hz5p.mp (by omega)))), rfl⟩, rfl⟩
    · refine ra_load rfl rfl rfl rfl ?_
      refine ra_load rfl rfl rfl rfl ?_
      refine ra_i2l rfl hx0 ?_
      refine ra_lconst1 rfl ?_
      refine ra_cQPp (s5_215 hx0 (by first | omega | (unfold ra_in at *; omega)) hw) rfl (ct_215 rfl lk_8_111 (Or.inl rfl) sh_179 (Nat.le_of_ble_eq_true rfl)) (fun z8 hz8 hz8p => ?_)
      refine ra_ifne rfl rfl (ra_in01 hz8) (fun h9 => ?_) (fun h9 => ?_)
      · refine ra_iconst rfl ?_
        exact ra_ireturn rfl (ra_okB (Or.inl rfl)) ⟨⟨_, (Or.inl rfl), (iff_of_false (by decide) (fun q => by obtain ⟨q1, q2, q3⟩ := q; first | exact (fun q => absurd (hz2p.mpr q) (by omega)) q1 | exact q2 (hz5p.mp (by omega)) | exact q3 (hz8p.mp (by omega)))), rfl⟩, rfl⟩
      · refine ra_iconst rfl ?_
        refine ra_goto rfl rfl ?_
        exact ra_ireturn rfl (ra_okB (Or.inr rfl)) ⟨⟨_, (Or.inr rfl), (iff_of_true rfl ⟨(hz2p.mp (by omega)), (fun q => absurd (hz5p.mpr q) (by omega)), (fun q => absurd (hz8p.mpr q) (by omega))⟩), rfl⟩, rfl⟩
end
