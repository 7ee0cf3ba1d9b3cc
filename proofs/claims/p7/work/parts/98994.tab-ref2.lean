/-! T5: what the reference answers (printed by wip/gen/r5.py) -/
section
theorem s5_301 {n : Nat} {f : Nat → Int32} {d : Nat} {x0 : Int} {x1 : Int} {σ : ra_V} (hx0 : ra_in x0) (hx1 : ra_in x1) (hw : WF σ) (hp : 0 ≤ x0 ∧ x0 < 8 ∧ wq σ x0 0 = 1) : ra_C (g_Gs n f) g_sh 0 (d + 4) 301 [.index (179), ra_I x0, ra_I x1] σ (fun r9 s => r9 = .inl (some (ra_I (x5whyS σ x0 x1))) ∧ s = σ) := by
  refine ra_enter (nn := 0) mt_301 rfl (Nat.le_of_ble_eq_true rfl) rfl (fun h => absurd h (by decide +kernel)) ?_
  have hw0 := WF_a hw
  unfold WFa at hw0
  have hq := WF_p hw hp.1 hp.2.1 hp.2.2
  refine ra_load rfl rfl rfl rfl ?_
  refine ra_load rfl rfl rfl rfl ?_
  refine ra_load rfl rfl rfl rfl ?_
  refine ra_iconst rfl ?_
  refine ra_cTp (sp_200 hx0 (by first | omega | (unfold ra_in at *; omega)) (by first | assumption | rfl | omega)) rfl (ct_200 rfl lk_8_67 (Or.inl rfl) sh_179 (Nat.le_of_ble_eq_true rfl)) ?_
  have hr2 : ra_in (wq σ x0 (3)) := (ra_in_wq _ _ _)
  refine ra_icge rfl rfl hx1 hr2 (fun h3 => ?_) (fun h3 => ?_)
  · refine ra_load rfl rfl rfl rfl ?_
    refine ra_load rfl rfl rfl rfl ?_
    refine ra_load rfl rfl rfl rfl ?_
    refine ra_iconst rfl ?_
    refine ra_cTp (sp_200 hx0 (by first | omega | (unfold ra_in at *; omega)) (by first | assumption | rfl | omega)) rfl (ct_200 rfl lk_8_67 (Or.inl rfl) sh_179 (Nat.le_of_ble_eq_true rfl)) ?_
    have hr5 : ra_in (wq σ x0 (1)) := (ra_in_wq _ _ _)
    refine ra_i2l rfl hr5 ?_
    refine ra_load rfl rfl rfl rfl ?_
    refine ra_i2l rfl hx1 ?_
    refine ra_cQPp (sp_211 hr5 hx1 (WF_a hw)) rfl (ct_211 rfl lk_8_103 (Or.inl rfl) sh_179 (Nat.le_of_ble_eq_true rfl)) (fun z7 hz7 hz7p => ?_)
    refine ra_ifne rfl rfl (ra_in01 hz7) (fun h8 => ?_) (fun h8 => ?_)
    · refine ra_load rfl rfl rfl rfl ?_
      refine ra_load rfl rfl rfl rfl ?_
      refine ra_load rfl rfl rfl rfl ?_
      refine ra_iconst rfl ?_
      refine ra_cTp (sp_200 hx0 (by first | omega | (unfold ra_in at *; omega)) (by first | assumption | rfl | omega)) rfl (ct_200 rfl lk_8_67 (Or.inl rfl) sh_179 (Nat.le_of_ble_eq_true rfl)) ?_
      have hr10 : ra_in (wq σ x0 (1)) := (ra_in_wq _ _ _)
      refine ra_i2l rfl hr10 ?_
      refine ra_load rfl rfl rfl rfl ?_
      refine ra_i2l rfl hx1 ?_
      refine ra_load rfl rfl rfl rfl ?_
      refine ra_cQPp (sp_213 hr10 hx1 hx0) rfl (ct_213 rfl lk_8_107 (Or.inl rfl) sh_179 (Nat.le_of_ble_eq_true rfl)) (fun z12 hz12 hz12p => ?_)
      refine ra_ifeq rfl rfl (ra_in01 hz12) (fun h13 => ?_) (fun h13 => ?_)
      · refine ra_load rfl rfl rfl rfl ?_
        refine ra_load rfl rfl rfl rfl ?_
        refine ra_load rfl rfl rfl rfl ?_
        refine ra_iconst rfl ?_
        refine ra_cTp (sp_200 hx0 (by first | omega | (unfold ra_in at *; omega)) (by first | assumption | rfl | omega)) rfl (ct_200 rfl lk_8_67 (Or.inl rfl) sh_179 (Nat.le_of_ble_eq_true rfl)) ?_
        have hr15 : ra_in (wq σ x0 (1)) := (ra_in_wq _ _ _)
        refine ra_load rfl rfl rfl rfl ?_
        refine ra_load rfl rfl rfl rfl ?_
        refine ra_iconst rfl ?_
        refine ra_cTp (sp_200 hx0 (by first | omega | (unfold ra_in at *; omega)) (by first | assumption | rfl | omega)) rfl (ct_200 rfl lk_8_67 (Or.inl rfl) sh_179 (Nat.le_of_ble_eq_true rfl)) ?_
        have hr17 : ra_in (wq σ x0 (2)) := (ra_in_wq _ _ _)
        refine ra_iadd rfl ?_
        refine ra_i2l rfl (by first | omega | (unfold ra_in at *; omega)) ?_
        refine ra_load rfl rfl rfl rfl ?_
        refine ra_load rfl rfl rfl rfl ?_
        refine ra_load rfl rfl rfl rfl ?_
        refine ra_iconst rfl ?_
        refine ra_cTp (sp_200 hx0 (by first | omega | (unfold ra_in at *; omega)) (by first | assumption | rfl | omega)) rfl (ct_200 rfl lk_8_67 (Or.inl rfl) sh_179 (Nat.le_of_ble_eq_true rfl)) ?_
        have hr19 : ra_in (wq σ x0 (2)) := (ra_in_wq _ _ _)
        refine ra_isub rfl ?_
        refine ra_i2l rfl (by first | omega | (unfold ra_in at *; omega)) ?_
        refine ra_cQPp (s5_215 (by first | omega | (unfold ra_in at *; omega)) (by first | omega | (unfold ra_in at *; omega)) (WF_a hw)) rfl (ct_215 rfl lk_8_111 (Or.inl rfl) sh_179 (Nat.le_of_ble_eq_true rfl)) (fun z21 hz21 hz21p => ?_)
        refine ra_ifeq rfl rfl (ra_in01 hz21) (fun h22 => ?_) (fun h22 => ?_)
        · refine ra_iconst rfl ?_
          exact ra_ireturn rfl rfl ⟨(congrArg (fun z => Sum.inl (some (ra_I z))) (x5whyS_0 (by omega) (hz7p.mp (by omega)) (fun q => absurd (hz12p.mpr q) (by omega)) (fun q => absurd (hz21p.mpr q) (by omega)))), rfl⟩
        · refine ra_bipush rfl (by decide) ?_
          refine ra_goto rfl rfl ?_
          exact ra_ireturn rfl rfl ⟨(congrArg (fun z => Sum.inl (some (ra_I z))) (x5whyS_6 (by omega) (hz7p.mp (by omega)) (fun q => absurd (hz12p.mpr q) (by omega)) (hz21p.mp (by omega)))), rfl⟩
      · refine ra_iconst rfl ?_
        exact ra_ireturn rfl rfl ⟨(congrArg (fun z => Sum.inl (some (ra_I z))) (x5whyS_5 (by omega) (hz7p.mp (by omega)) (hz12p.mp (by omega)))), rfl⟩
    · refine ra_iconst rfl ?_
      exact ra_ireturn rfl rfl ⟨(congrArg (fun z => Sum.inl (some (ra_I z))) (x5whyS_4 (by omega) (fun q => absurd (hz7p.mpr q) (by omega)))), rfl⟩
  · refine ra_iconst rfl ?_
    exact ra_ireturn rfl rfl ⟨(congrArg (fun z => Sum.inl (some (ra_I z))) (x5whyS_3 (by omega))), rfl⟩
theorem s5_302 {n : Nat} {f : Nat → Int32} {d : Nat} {x0 : Int} {x1 : Int} {σ : ra_V} (hx0 : ra_in x0) (hx1 : ra_in x1) (hw : WF σ) (hp : 0 ≤ x0 ∧ x0 < 8 ∧ wq σ x0 0 = 1) : ra_C (g_Gs n f) g_sh 0 (d + 5) 302 [.index (179), ra_I x0, ra_I x1] σ (fun r9 s => r9 = .inl (some (ra_I (x5whyR σ x0 x1))) ∧ s = σ) := by
  refine ra_enter (nn := 0) mt_302 rfl (Nat.le_of_ble_eq_true rfl) rfl (fun h => absurd h (by decide +kernel)) ?_
  have hw0 := WF_a hw
  unfold WFa at hw0
  have hq := WF_p hw hp.1 hp.2.1 hp.2.2
  refine ra_load rfl rfl rfl rfl ?_
  refine ra_load rfl rfl rfl rfl ?_
  refine ra_iconst rfl ?_
  refine ra_cTp (sp_200 hx0 (by first | omega | (unfold ra_in at *; omega)) (by first | assumption | rfl | omega)) rfl (ct_200 rfl lk_8_67 (Or.inl rfl) sh_179 (Nat.le_of_ble_eq_true rfl)) ?_
  have hr2 : ra_in (wq σ x0 (5)) := (ra_in_wq _ _ _)
  refine ra_iconst rfl ?_
  refine ra_icne rfl rfl hr2 (by first | omega | (unfold ra_in at *; omega)) (fun h3 => ?_) (fun h3 => ?_)
  · refine ra_load rfl rfl rfl rfl ?_
    refine ra_load rfl rfl rfl rfl ?_
    refine ra_cQPp (sp_205 hx0) rfl (ct_205 rfl lk_8_71 (Or.inl rfl) sh_179 (Nat.le_of_ble_eq_true rfl)) (fun z5 hz5 hz5p => ?_)
    refine ra_ifeq rfl rfl (ra_in01 hz5) (fun h6 => ?_) (fun h6 => ?_)
    · refine ra_load rfl rfl rfl rfl ?_
      refine ra_load rfl rfl rfl rfl ?_
      refine ra_load rfl rfl rfl rfl ?_
      refine ra_cTp (s5_301 hx0 hx1 hw (by first | assumption | omega)) rfl (ct_301 rfl lk_8_369 (Or.inl rfl) sh_179 (Nat.le_of_ble_eq_true rfl)) ?_
      exact ra_ireturn rfl rfl ⟨(congrArg (fun z => Sum.inl (some (ra_I z))) (x5whyR_s (by omega) (by have q9 := hz5p; omega))), rfl⟩
    · refine ra_iconst rfl ?_
      refine ra_goto rfl rfl ?_
      exact ra_ireturn rfl rfl ⟨(congrArg (fun z => Sum.inl (some (ra_I z))) (x5whyR_2 (by omega) (by have q9 := hz5p; omega))), rfl⟩
  · refine ra_iconst rfl ?_
    refine ra_goto rfl rfl ?_
    exact ra_ireturn rfl rfl ⟨(congrArg (fun z => Sum.inl (some (ra_I z))) (x5whyR_1 (by omega))), rfl⟩
theorem l5_223_13 {n : Nat} {f : Nat → Int32} {d : Nat} {x0 : Int} {x1 : Int} {x2 : Int} {σ : ra_V} (hx0 : ra_in x0) (hx1 : ra_in x1) (hx2 : ra_in x2) (hw : WFa σ) (hp : -1 ≤ x0 ∧ x0 < 8 ∧ 1 ≤ x2) : ∀ (nn : Nat) (v4 : Int) (v5 : Int) (hv4_0 : SCI σ x0 x1 x2 v4 v5) (hv5_0 : -1 ≤ v5) (hv5_1 : v5 < ra_g σ 180 0) (hm : ((v5 + 1 : Int)).toNat < nn), ra_P (g_Gs n f) g_sh 0 (d + 2) g_m_X8_scratchFor 13 [some (.index (179)), some (ra_I x0), some (ra_I x1), some (ra_I x2), some (ra_I v4), some (ra_I v5), none] [] σ (fun r9 s => (∃ z, ra_in z ∧ (x5SCG σ x0 x1 x2 z) ∧ r9 = .inl (some (ra_I z))) ∧ s = σ) := by
  intro nn
  induction nn with
  | zero => intro v4 v5 hv4_0 hv5_0 hv5_1 hm; exact absurd hm (Nat.not_lt_zero _)
  | succ nn ih =>
    intro v4 v5 hv4_0 hv5_0 hv5_1 hm
    have hw0 := hw
    unfold WFa at hw0
    have hp0 := hv4_0.1
    have hp1 := hv4_0
    refine ra_load rfl rfl rfl rfl ?_
    refine ra_iflt rfl rfl (by first | omega | (unfold ra_in at *; omega)) (fun h2 => ?_) (fun h2 => ?_)
    · refine ra_iconst rfl ?_
      exact ra_ireturn rfl rfl ⟨⟨_, (by first | omega | (unfold ra_in at *; omega)), (Or.inl ⟨rfl, fun q hq => by obtain rfl : v5 = -1 := (by omega); exact hv4_0.2.2.2 q (by have := hq.1; omega) hq.2⟩), rfl⟩, rfl⟩
    · refine ra_load rfl rfl rfl rfl ?_
      refine ra_load rfl rfl rfl rfl ?_
      refine ra_i2l rfl (by first | omega | (unfold ra_in at *; omega)) ?_
      refine ra_lconst1 rfl ?_
      refine ra_cQPp (sp_211 (by first | omega | (unfold ra_in at *; omega)) (by first | omega | (unfold ra_in at *; omega)) hw) rfl (ct_211 rfl lk_8_103 (Or.inl rfl) sh_179 (Nat.le_of_ble_eq_true rfl)) (fun z4 hz4 hz4p => ?_)
      refine ra_ifeq rfl rfl (ra_in01 hz4) (fun h5 => ?_) (fun h5 => ?_)
      · refine ra_iconst rfl ?_
        refine ra_store (L' := [_, _, _, _, _, _, _]) rfl rfl rfl (Nat.le_of_ble_eq_true rfl) rfl ?_
        refine ra_load rfl rfl rfl rfl ?_
        refine ra_ifeq rfl rfl (by first | omega | (unfold ra_in at *; omega)) (fun h6 => ?_) (fun h6 => ?_)
        · refine ra_iconst rfl ?_
          refine ra_store (L' := [_, _, _, _, _, _, _]) rfl rfl rfl (Nat.le_of_ble_eq_true rfl) rfl ?_
          refine ra_load rfl rfl rfl rfl ?_
          refine ra_load rfl rfl rfl rfl ?_
          refine ra_icne rfl rfl (by first | omega | (unfold ra_in at *; omega)) hx2 (fun h7 => ?_) (fun h7 => ?_)
          · refine ra_iinc (L' := [_, _, _, _, _, _, _]) rfl rfl (Nat.le_of_ble_eq_true rfl) rfl ?_
            refine ra_goto rfl rfl ?_
            exact ra_weak (by repeat' constructor) (ih (0) (v5 + (-1)) (sci_n hv4_0 (by omega) (fun hc => by obtain ⟨c1, c2, c3⟩ := hc; first | exact absurd (hz4p.mpr c1) (by omega))) (by first | omega | (unfold ra_in at *; omega)) (by first | omega | (unfold ra_in at *; omega)) (by first | omega | (unfold ra_in at *; omega)))
          · refine ra_load rfl rfl rfl rfl ?_
            exact ra_ireturn rfl rfl ⟨⟨_, (by first | omega | (unfold ra_in at *; omega)), (by exfalso; have := hp; omega), rfl⟩, rfl⟩
        · exact absurd h6 (by decide)
      · refine ra_load rfl rfl rfl rfl ?_
        refine ra_load rfl rfl rfl rfl ?_
        refine ra_i2l rfl (by first | omega | (unfold ra_in at *; omega)) ?_
        refine ra_lconst1 rfl ?_
        refine ra_iconst rfl ?_
        refine ra_cQPp (sp_213 (by first | omega | (unfold ra_in at *; omega)) (by first | omega | (unfold ra_in at *; omega)) (by first | omega | (unfold ra_in at *; omega))) rfl (ct_213 rfl lk_8_107 (Or.inl rfl) sh_179 (Nat.le_of_ble_eq_true rfl)) (fun z9 hz9 hz9p => ?_)
        refine ra_ifne rfl rfl (ra_in01 hz9) (fun h10 => ?_) (fun h10 => ?_)
        · refine ra_iconst rfl ?_
          refine ra_store (L' := [_, _, _, _, _, _, _]) rfl rfl rfl (Nat.le_of_ble_eq_true rfl) rfl ?_
          refine ra_load rfl rfl rfl rfl ?_
          refine ra_ifeq rfl rfl (by first | omega | (unfold ra_in at *; omega)) (fun h11 => ?_) (fun h11 => ?_)
          · refine ra_iconst rfl ?_
            refine ra_store (L' := [_, _, _, _, _, _, _]) rfl rfl rfl (Nat.le_of_ble_eq_true rfl) rfl ?_
            refine ra_load rfl rfl rfl rfl ?_
            refine ra_load rfl rfl rfl rfl ?_
            refine ra_icne rfl rfl (by first | omega | (unfold ra_in at *; omega)) hx2 (fun h12 => ?_) (fun h12 => ?_)
            · refine ra_iinc (L' := [_, _, _, _, _, _, _]) rfl rfl (Nat.le_of_ble_eq_true rfl) rfl ?_
              refine ra_goto rfl rfl ?_
              exact ra_weak (by repeat' constructor) (ih (0) (v5 + (-1)) (sci_n hv4_0 (by omega) (fun hc => by obtain ⟨c1, c2, c3⟩ := hc; first | exact absurd (hz4p.mpr c1) (by omega) | exact c2 (hz9p.mp (by omega)) | omega)) (by first | omega | (unfold ra_in at *; omega)) (by first | omega | (unfold ra_in at *; omega)) (by first | omega | (unfold ra_in at *; omega)))
            · refine ra_load rfl rfl rfl rfl ?_
              exact ra_ireturn rfl rfl ⟨⟨_, (by first | omega | (unfold ra_in at *; omega)), (by exfalso; have := hp; omega), rfl⟩, rfl⟩
          · exact absurd h11 (by decide)
        · refine ra_load rfl rfl rfl rfl ?_
          refine ra_i2l rfl (by first | omega | (unfold ra_in at *; omega)) ?_
          refine ra_lconst1 rfl ?_
          refine ra_load rfl rfl rfl rfl ?_
          refine ra_i2l rfl hx1 ?_
          refine ra_load rfl rfl rfl rfl ?_
          refine ra_load rfl rfl rfl rfl ?_
          refine ra_iconst rfl ?_
          refine ra_cTp (sp_200 hx0 (by first | omega | (unfold ra_in at *; omega)) (by first | assumption | rfl | omega)) rfl (ct_200 rfl lk_8_67 (Or.inl rfl) sh_179 (Nat.le_of_ble_eq_true rfl)) ?_
          have hr14 : ra_in (wq σ x0 (2)) := (ra_in_wq _ _ _)
          refine ra_i2l rfl hr14 ?_
          refine ra_cTp (sp_212 (by first | omega | (unfold ra_in at *; omega)) (by first | omega | (unfold ra_in at *; omega)) hx1 hr14) rfl (ct_212 rfl lk_8_86 (Or.inl rfl) (Nat.le_of_ble_eq_true rfl)) ?_
          refine ra_ifneB rfl rfl (fun h16 => ?_) (fun h16 => ?_)
          · refine ra_iconst rfl ?_
            refine ra_store (L' := [_, _, _, _, _, _, _]) rfl rfl rfl (Nat.le_of_ble_eq_true rfl) rfl ?_
            refine ra_load rfl rfl rfl rfl ?_
            refine ra_ifeq rfl rfl (by first | omega | (unfold ra_in at *; omega)) (fun h17 => ?_) (fun h17 => ?_)
            · refine ra_iconst rfl ?_
              refine ra_store (L' := [_, _, _, _, _, _, _]) rfl rfl rfl (Nat.le_of_ble_eq_true rfl) rfl ?_
              refine ra_load rfl rfl rfl rfl ?_
              refine ra_load rfl rfl rfl rfl ?_
              refine ra_icne rfl rfl (by first | omega | (unfold ra_in at *; omega)) hx2 (fun h18 => ?_) (fun h18 => ?_)
              · refine ra_iinc (L' := [_, _, _, _, _, _, _]) rfl rfl (Nat.le_of_ble_eq_true rfl) rfl ?_
                refine ra_goto rfl rfl ?_
                exact ra_weak (by repeat' constructor) (ih (0) (v5 + (-1)) (sci_n hv4_0 (by omega) (fun hc => by obtain ⟨c1, c2, c3⟩ := hc; first | exact absurd (hz4p.mpr c1) (by omega) | exact c2 (hz9p.mp (by omega)) | omega)) (by first | omega | (unfold ra_in at *; omega)) (by first | omega | (unfold ra_in at *; omega)) (by first | omega | (unfold ra_in at *; omega)))
              · refine ra_load rfl rfl rfl rfl ?_
                exact ra_ireturn rfl rfl ⟨⟨_, (by first | omega | (unfold ra_in at *; omega)), (by exfalso; have := hp; omega), rfl⟩, rfl⟩
            · exact absurd h17 (by decide)
          · refine ra_iconst rfl ?_
            refine ra_goto rfl rfl ?_
            refine ra_store (L' := [_, _, _, _, _, _, _]) rfl rfl rfl (Nat.le_of_ble_eq_true rfl) rfl ?_
            refine ra_load rfl rfl rfl rfl ?_
            refine ra_ifeq rfl rfl (by first | omega | (unfold ra_in at *; omega)) (fun h19 => ?_) (fun h19 => ?_)
            · exact absurd h19 (by decide)
            · refine ra_load rfl rfl rfl rfl ?_
              refine ra_iconst rfl ?_
              refine ra_iadd rfl ?_
              refine ra_goto rfl rfl ?_
              refine ra_store (L' := [_, _, _, _, _, _, _]) rfl rfl rfl (Nat.le_of_ble_eq_true rfl) rfl ?_
              refine ra_load rfl rfl rfl rfl ?_
              refine ra_load rfl rfl rfl rfl ?_
              refine ra_icne rfl rfl (by first | omega | (unfold ra_in at *; omega)) hx2 (fun h20 => ?_) (fun h20 => ?_)
              · refine ra_iinc (L' := [_, _, _, _, _, _, _]) rfl rfl (Nat.le_of_ble_eq_true rfl) rfl ?_
                refine ra_goto rfl rfl ?_
                exact ra_weak (by repeat' constructor) (ih (v4 + (1)) (v5 + (-1)) (sci_y hv4_0 (by omega) ⟨hz4p.mp (by omega), fun q => absurd (hz9p.mpr q) (by omega), by omega⟩ (by omega)) (by first | omega | (unfold ra_in at *; omega)) (by first | omega | (unfold ra_in at *; omega)) (by first | omega | (unfold ra_in at *; omega)))
              · refine ra_load rfl rfl rfl rfl ?_
                exact ra_ireturn rfl rfl ⟨⟨_, (by first | omega | (unfold ra_in at *; omega)), (x5sci_g hv4_0 (by omega) ⟨hz4p.mp (by omega), fun q => absurd (hz9p.mpr q) (by omega), by omega⟩ (by omega)), rfl⟩, rfl⟩
theorem s5_223 {n : Nat} {f : Nat → Int32} {d : Nat} {x0 : Int} {x1 : Int} {x2 : Int} {σ : ra_V} (hx0 : ra_in x0) (hx1 : ra_in x1) (hx2 : ra_in x2) (hw : WFa σ) (hp : -1 ≤ x0 ∧ x0 < 8 ∧ 1 ≤ x2) : ra_C (g_Gs n f) g_sh 0 (d + 3) 223 [.index (179), ra_I x0, ra_I x1, ra_I x2] σ (fun r9 s => (∃ z, ra_in z ∧ (x5SCG σ x0 x1 x2 z) ∧ r9 = .inl (some (ra_I z))) ∧ s = σ) := by
  refine ra_enter (nn := 3) mt_223 rfl (Nat.le_of_ble_eq_true rfl) rfl (fun h => absurd h (by decide +kernel)) ?_
  have hw0 := hw
  unfold WFa at hw0
  refine ra_iconst rfl ?_
  refine ra_store (L' := [_, _, _, _, _, _, _]) rfl rfl rfl (Nat.le_of_ble_eq_true rfl) rfl ?_
  refine ra_load rfl rfl rfl rfl ?_
  refine ra_getR rfl lk_8_7 (Nat.zero_le _) sh_179 rfl ?_
  refine ra_iconst rfl ?_
  refine ra_ialoadJ (j := 0) rfl sh_180 rfl (by decide) rfl (by decide) ?_
  have hr1 : ra_in (ra_g σ (180) 0) := (ra_in_g _ _ _)
  refine ra_iconst rfl ?_
  refine ra_isub rfl ?_
  refine ra_store (L' := [_, _, _, _, _, _, _]) rfl rfl rfl (Nat.le_of_ble_eq_true rfl) rfl ?_
  exact ra_weak (by repeat' constructor) (l5_223_13 hx0 hx1 hx2 hw hp _ (0) ((ra_g σ (180) 0) - (1)) (sci_0 (by omega) hw) (by first | omega | (unfold ra_in at *; omega)) (by first | omega | (unfold ra_in at *; omega)) (Nat.lt_succ_self _))
theorem s5_224 {n : Nat} {f : Nat → Int32} {d : Nat} {x0 : Int} {x1 : Int} {σ : ra_V} (hx0 : ra_in x0) (hx1 : ra_in x1) (hw : WF σ) (hp : 0 ≤ x0 ∧ x0 < 8 ∧ wq σ x0 0 = 1) : ra_C (g_Gs n f) g_sh 0 (d + 4) 224 [.index (179), ra_I x0, ra_I x1] σ (fun r9 s => r9 = .inl (some (ra_I (x5whyM σ x0 x1 (ra_g σ 180 4)))) ∧ s = σ) := by
  refine ra_enter (nn := 1) mt_224 rfl (Nat.le_of_ble_eq_true rfl) rfl (fun h => absurd h (by decide +kernel)) ?_
  have hw0 := WF_a hw
  unfold WFa at hw0
  have hq := WF_p hw hp.1 hp.2.1 hp.2.2
  refine ra_load rfl rfl rfl rfl ?_
  refine ra_load rfl rfl rfl rfl ?_
  refine ra_iconst rfl ?_
  refine ra_cTp (sp_200 hx0 (by first | omega | (unfold ra_in at *; omega)) (by first | assumption | rfl | omega)) rfl (ct_200 rfl lk_8_67 (Or.inl rfl) sh_179 (Nat.le_of_ble_eq_true rfl)) ?_
  have hr2 : ra_in (wq σ x0 (5)) := (ra_in_wq _ _ _)
  refine ra_iconst rfl ?_
  refine ra_icne rfl rfl hr2 (by first | omega | (unfold ra_in at *; omega)) (fun h3 => ?_) (fun h3 => ?_)
  · refine ra_load rfl rfl rfl rfl ?_
    refine ra_cQPp (sp_204 ) rfl (ct_204 rfl lk_8_95 (Or.inl rfl) sh_179 (Nat.le_of_ble_eq_true rfl)) (fun z5 hz5 hz5p => ?_)
    refine ra_ifeq rfl rfl (ra_in01 hz5) (fun h6 => ?_) (fun h6 => ?_)
    · refine ra_load rfl rfl rfl rfl ?_
      refine ra_load rfl rfl rfl rfl ?_
      refine ra_load rfl rfl rfl rfl ?_
      refine ra_iconst rfl ?_
      refine ra_cTp (sp_200 hx0 (by first | omega | (unfold ra_in at *; omega)) (by first | assumption | rfl | omega)) rfl (ct_200 rfl lk_8_67 (Or.inl rfl) sh_179 (Nat.le_of_ble_eq_true rfl)) ?_
      have hr8 : ra_in (wq σ x0 (1)) := (ra_in_wq _ _ _)
      refine ra_icne rfl rfl hx1 hr8 (fun h9 => ?_) (fun h9 => ?_)
      · refine ra_load rfl rfl rfl rfl ?_
        refine ra_load rfl rfl rfl rfl ?_
        refine ra_i2l rfl hx1 ?_
        refine ra_load rfl rfl rfl rfl ?_
        refine ra_load rfl rfl rfl rfl ?_
        refine ra_iconst rfl ?_
        refine ra_cTp (sp_200 hx0 (by first | omega | (unfold ra_in at *; omega)) (by first | assumption | rfl | omega)) rfl (ct_200 rfl lk_8_67 (Or.inl rfl) sh_179 (Nat.le_of_ble_eq_true rfl)) ?_
        have hr11 : ra_in (wq σ x0 (2)) := (ra_in_wq _ _ _)
        refine ra_i2l rfl hr11 ?_
        refine ra_cQPp (sp_211 hx1 hr11 (WF_a hw)) rfl (ct_211 rfl lk_8_103 (Or.inl rfl) sh_179 (Nat.le_of_ble_eq_true rfl)) (fun z13 hz13 hz13p => ?_)
        refine ra_ifne rfl rfl (ra_in01 hz13) (fun h14 => ?_) (fun h14 => ?_)
        · refine ra_load rfl rfl rfl rfl ?_
          refine ra_load rfl rfl rfl rfl ?_
          refine ra_getR rfl lk_8_7 (Nat.zero_le _) sh_179 rfl ?_
          refine ra_iconst rfl ?_
          refine ra_ialoadJ (j := 3) rfl sh_180 rfl (by decide) rfl (by decide) ?_
          have hr15 : ra_in (ra_g σ (180) 3) := (ra_in_g _ _ _)
          refine ra_irem rfl hx1 hr15 (by omega) ?_
          refine ra_ifeq rfl rfl (ra_in_tmod hx1 (by omega)) (fun h16 => ?_) (fun h16 => ?_)
          · refine ra_load rfl rfl rfl rfl ?_
            refine ra_load rfl rfl rfl rfl ?_
            refine ra_i2l rfl hx1 ?_
            refine ra_load rfl rfl rfl rfl ?_
            refine ra_load rfl rfl rfl rfl ?_
            refine ra_iconst rfl ?_
            refine ra_cTp (sp_200 hx0 (by first | omega | (unfold ra_in at *; omega)) (by first | assumption | rfl | omega)) rfl (ct_200 rfl lk_8_67 (Or.inl rfl) sh_179 (Nat.le_of_ble_eq_true rfl)) ?_
            have hr18 : ra_in (wq σ x0 (2)) := (ra_in_wq _ _ _)
            refine ra_i2l rfl hr18 ?_
            refine ra_load rfl rfl rfl rfl ?_
            refine ra_cQPp (sp_213 hx1 hr18 hx0) rfl (ct_213 rfl lk_8_107 (Or.inl rfl) sh_179 (Nat.le_of_ble_eq_true rfl)) (fun z20 hz20 hz20p => ?_)
            refine ra_ifeq rfl rfl (ra_in01 hz20) (fun h21 => ?_) (fun h21 => ?_)
            · refine ra_load rfl rfl rfl rfl ?_
              refine ra_getR rfl lk_8_7 (Nat.zero_le _) sh_179 rfl ?_
              refine ra_iconst rfl ?_
              refine ra_ialoadJ (j := 4) rfl sh_180 rfl (by decide) rfl (by decide) ?_
              have hr22 : ra_in (ra_g σ (180) 4) := (ra_in_g _ _ _)
              refine ra_load rfl rfl rfl rfl ?_
              refine ra_load rfl rfl rfl rfl ?_
              refine ra_iconst rfl ?_
              refine ra_cTp (sp_200 hx0 (by first | omega | (unfold ra_in at *; omega)) (by first | assumption | rfl | omega)) rfl (ct_200 rfl lk_8_67 (Or.inl rfl) sh_179 (Nat.le_of_ble_eq_true rfl)) ?_
              have hr24 : ra_in (wq σ x0 (2)) := (ra_in_wq _ _ _)
              refine ra_min rfl lk_8_90 hr22 hr24 (Nat.le_of_ble_eq_true rfl) ?_
              refine ra_store (L' := [_, _, _, _]) rfl rfl rfl (Nat.le_of_ble_eq_true rfl) rfl ?_
              refine ra_load rfl rfl rfl rfl ?_
              refine ra_load rfl rfl rfl rfl ?_
              refine ra_load rfl rfl rfl rfl ?_
              refine ra_iconst rfl ?_
              refine ra_cTp (sp_200 hx0 (by first | omega | (unfold ra_in at *; omega)) (by first | assumption | rfl | omega)) rfl (ct_200 rfl lk_8_67 (Or.inl rfl) sh_179 (Nat.le_of_ble_eq_true rfl)) ?_
              have hr26 : ra_in (wq σ x0 (1)) := (ra_in_wq _ _ _)
              refine ra_load rfl rfl rfl rfl ?_
              have hu := hz13p.mp (by omega)
              unfold US at hu
              refine ra_cTp (sp_225 hr26 hx1 (by first | assumption | rfl | omega)) rfl (ct_225 rfl lk_8_136 (Or.inl rfl) (Nat.le_of_ble_eq_true rfl)) ?_
              have hf28 := rfar_b (wq σ x0 (1)) x1
              have hr29 : ra_in (rfar (wq σ x0 (1)) x1) := (by first | omega | (unfold ra_in at *; omega))
              refine ra_icle rfl rfl (by first | omega | (unfold ra_in at *; omega)) hr29 (fun h30 => ?_) (fun h30 => ?_)
              · refine ra_iconst rfl ?_
                exact ra_ireturn rfl rfl ⟨(congrArg (fun z => Sum.inl (some (ra_I z))) (x5whyM_0 (by omega) (by have q9 := hz5p; omega) (by omega) (hz13p.mp (by omega)) (by have hu9 := (hz13p.mp (by omega)); unfold US at hu9; rw [← x5em_t (by omega)]; omega) (fun q => absurd (hz20p.mpr q) (by omega)) (by omega))), rfl⟩
              · refine ra_load rfl rfl rfl rfl ?_
                refine ra_load rfl rfl rfl rfl ?_
                refine ra_load rfl rfl rfl rfl ?_
                refine ra_load rfl rfl rfl rfl ?_
                refine ra_cIPp (s5_223 hx0 hx1 (by first | omega | (unfold ra_in at *; omega)) (WF_a hw) (by first | assumption | rfl | omega)) rfl (ct_223 rfl lk_8_139 (Or.inl rfl) sh_179 (Nat.le_of_ble_eq_true rfl)) (fun z32 hz32 hz32p => ?_)
                refine ra_iconst rfl ?_
                refine ra_icne rfl rfl hz32 (by first | omega | (unfold ra_in at *; omega)) (fun h33 => ?_) (fun h33 => ?_)
                · refine ra_iconst rfl ?_
                  exact ra_ireturn rfl rfl ⟨(congrArg (fun z => Sum.inl (some (ra_I z))) (x5whyM_s (by omega) (by have q9 := hz5p; omega) (by omega) (hz13p.mp (by omega)) (by have hu9 := (hz13p.mp (by omega)); unfold US at hu9; rw [← x5em_t (by omega)]; omega) (fun q => absurd (hz20p.mpr q) (by omega)) hz32p (by omega))), rfl⟩
                · refine ra_bipush rfl (by decide) ?_
                  refine ra_goto rfl rfl ?_
                  exact ra_ireturn rfl rfl ⟨(congrArg (fun z => Sum.inl (some (ra_I z))) (x5whyM_7 (by omega) (by have q9 := hz5p; omega) (by omega) (hz13p.mp (by omega)) (by have hu9 := (hz13p.mp (by omega)); unfold US at hu9; rw [← x5em_t (by omega)]; omega) (fun q => absurd (hz20p.mpr q) (by omega)) (by omega) (by have q9 := hz32p; rw [show z32 = -1 by omega] at q9; exact q9))), rfl⟩
            · refine ra_bipush rfl (by decide) ?_
              exact ra_ireturn rfl rfl ⟨(congrArg (fun z => Sum.inl (some (ra_I z))) (x5whyM_6 (by omega) (by have q9 := hz5p; omega) (by omega) (hz13p.mp (by omega)) (by have hu9 := (hz13p.mp (by omega)); unfold US at hu9; rw [← x5em_t (by omega)]; omega) (hz20p.mp (by omega)))), rfl⟩
          · refine ra_iconst rfl ?_
            exact ra_ireturn rfl rfl ⟨(congrArg (fun z => Sum.inl (some (ra_I z))) (x5whyM_5 (by omega) (by have q9 := hz5p; omega) (by omega) (hz13p.mp (by omega)) (by have hu9 := (hz13p.mp (by omega)); unfold US at hu9; rw [← x5em_t (by omega)]; omega))), rfl⟩
        · refine ra_iconst rfl ?_
          exact ra_ireturn rfl rfl ⟨(congrArg (fun z => Sum.inl (some (ra_I z))) (x5whyM_4 (by omega) (by have q9 := hz5p; omega) (by omega) (fun q => absurd (hz13p.mpr q) (by omega)))), rfl⟩
      · refine ra_iconst rfl ?_
        exact ra_ireturn rfl rfl ⟨(congrArg (fun z => Sum.inl (some (ra_I z))) (x5whyM_3 (by omega) (by have q9 := hz5p; omega) (by omega))), rfl⟩
    · refine ra_iconst rfl ?_
      exact ra_ireturn rfl rfl ⟨(congrArg (fun z => Sum.inl (some (ra_I z))) (x5whyM_2 (by omega) (by have q9 := hz5p; omega))), rfl⟩
  · refine ra_iconst rfl ?_
    exact ra_ireturn rfl rfl ⟨(congrArg (fun z => Sum.inl (some (ra_I z))) (x5whyM_1 (by omega))), rfl⟩
theorem l5_244_2 {n : Nat} {f : Nat → Int32} {d : Nat} {x0 : Int} {σ : ra_V} (hx0 : ra_in x0) (hw : WF σ) (hp : 0 ≤ x0 ∧ x0 < 8 ∧ wq σ x0 0 = 1) : ∀ (nn : Nat) (v2 : Int) (hv2_0 : 0 ≤ v2 ∧ v2 ≤ wq σ x0 1) (hv2_1 : ∀ k, 0 ≤ k → k < v2 → ¬ x5whyM σ x0 k (ra_g σ 180 4) = 0) (hm : ((wq σ x0 1 - v2 : Int)).toNat < nn), ra_P (g_Gs n f) g_sh 0 (d + 4) g_m_X8_leftOf 2 [some (.index (179)), some (ra_I x0), some (ra_I v2)] [] σ (fun r9 s => (∃ z, ra_in z ∧ (x5LST (fun k => x5whyM σ x0 k (ra_g σ 180 4) = 0) 0 (wq σ x0 1) z) ∧ r9 = .inl (some (ra_I z))) ∧ s = σ) := by
  intro nn
  induction nn with
  | zero => intro v2 hv2_0 hv2_1 hm; exact absurd hm (Nat.not_lt_zero _)
  | succ nn ih =>
    intro v2 hv2_0 hv2_1 hm
    have hw0 := WF_a hw
    unfold WFa at hw0
    have hq := WF_p hw hp.1 hp.2.1 hp.2.2
    refine ra_load rfl rfl rfl rfl ?_
    refine ra_load rfl rfl rfl rfl ?_
    refine ra_load rfl rfl rfl rfl ?_
    refine ra_iconst rfl ?_
    refine ra_cTp (sp_200 hx0 (by first | omega | (unfold ra_in at *; omega)) (by first | assumption | rfl | omega)) rfl (ct_200 rfl lk_8_67 (Or.inl rfl) sh_179 (Nat.le_of_ble_eq_true rfl)) ?_
    have hr2 : ra_in (wq σ x0 (1)) := (ra_in_wq _ _ _)
    refine ra_icge rfl rfl (by first | omega | (unfold ra_in at *; omega)) hr2 (fun h3 => ?_) (fun h3 => ?_)
    · refine ra_iconst rfl ?_
      exact ra_ireturn rfl rfl ⟨⟨_, (by first | omega | (unfold ra_in at *; omega)), (Or.inl ⟨rfl, fun k k0 k1 => hv2_1 k k0 (by omega)⟩), rfl⟩, rfl⟩
    · refine ra_load rfl rfl rfl rfl ?_
      refine ra_load rfl rfl rfl rfl ?_
      refine ra_load rfl rfl rfl rfl ?_
      refine ra_cTp (s5_224 hx0 (by first | omega | (unfold ra_in at *; omega)) hw (by first | assumption | omega)) rfl (ct_224 rfl lk_8_183 (Or.inl rfl) sh_179 (Nat.le_of_ble_eq_true rfl)) ?_
      refine ra_ifne rfl rfl x5whyM_in (fun h5 => ?_) (fun h5 => ?_)
      · refine ra_iinc (L' := [_, _, _]) rfl rfl (Nat.le_of_ble_eq_true rfl) rfl ?_
        refine ra_goto rfl rfl ?_
        exact ra_weak (by repeat' constructor) (ih (v2 + 1) (by first | omega | (unfold ra_in at *; omega)) (fun k k0 k1 => if e : k = v2 then (by rw [e]; omega) else hv2_1 k k0 (by omega)) (by first | omega | (unfold ra_in at *; omega)))
      · refine ra_load rfl rfl rfl rfl ?_
        exact ra_ireturn rfl rfl ⟨⟨_, (by first | omega | (unfold ra_in at *; omega)), (Or.inr ⟨by omega, by omega, by omega, fun k k0 k1 => hv2_1 k k0 k1⟩), rfl⟩, rfl⟩
theorem s5_244 {n : Nat} {f : Nat → Int32} {d : Nat} {x0 : Int} {σ : ra_V} (hx0 : ra_in x0) (hw : WF σ) (hp : 0 ≤ x0 ∧ x0 < 8 ∧ wq σ x0 0 = 1) : ra_C (g_Gs n f) g_sh 0 (d + 5) 244 [.index (179), ra_I x0] σ (fun r9 s => (∃ z, ra_in z ∧ (x5LST (fun k => x5whyM σ x0 k (ra_g σ 180 4) = 0) 0 (wq σ x0 1) z) ∧ r9 = .inl (some (ra_I z))) ∧ s = σ) := by
  refine ra_enter (nn := 1) mt_244 rfl (Nat.le_of_ble_eq_true rfl) rfl (fun h => absurd h (by decide +kernel)) ?_
  have hw0 := WF_a hw
  unfold WFa at hw0
  have hq := WF_p hw hp.1 hp.2.1 hp.2.2
  refine ra_iconst rfl ?_
  refine ra_store (L' := [_, _, _]) rfl rfl rfl (Nat.le_of_ble_eq_true rfl) rfl ?_
  exact ra_weak (by repeat' constructor) (l5_244_2 hx0 hw hp _ (0) (by first | omega | (unfold ra_in at *; omega)) (fun k k0 k1 => by omega) (Nat.lt_succ_self _))
theorem l5_245_9 {n : Nat} {f : Nat → Int32} {d : Nat} {x0 : Int} {σ : ra_V} (hx0 : ra_in x0) (hw : WF σ) (hp : 0 ≤ x0 ∧ x0 < 8 ∧ wq σ x0 0 = 1) : ∀ (nn : Nat) (v2 : Int) (hv2_0 : -1 ≤ v2 ∧ v2 < ra_g σ 180 0) (hv2_1 : ∀ k, v2 < k → k < ra_g σ 180 0 → ¬ x5whyM σ x0 k (ra_g σ 180 4) = 0) (hm : ((v2 - wq σ x0 1 : Int)).toNat < nn), ra_P (g_Gs n f) g_sh 0 (d + 4) g_m_X8_rightOf 9 [some (.index (179)), some (ra_I x0), some (ra_I v2)] [] σ (fun r9 s => (∃ z, ra_in z ∧ (x5GST (fun k => x5whyM σ x0 k (ra_g σ 180 4) = 0) (wq σ x0 1 + 1) (ra_g σ 180 0) z) ∧ r9 = .inl (some (ra_I z))) ∧ s = σ) := by
  intro nn
  induction nn with
  | zero => intro v2 hv2_0 hv2_1 hm; exact absurd hm (Nat.not_lt_zero _)
  | succ nn ih =>
    intro v2 hv2_0 hv2_1 hm
    have hw0 := WF_a hw
    unfold WFa at hw0
    have hq := WF_p hw hp.1 hp.2.1 hp.2.2
    refine ra_load rfl rfl rfl rfl ?_
    refine ra_load rfl rfl rfl rfl ?_
    refine ra_load rfl rfl rfl rfl ?_
    refine ra_iconst rfl ?_
    refine ra_cTp (sp_200 hx0 (by first | omega | (unfold ra_in at *; omega)) (by first | assumption | rfl | omega)) rfl (ct_200 rfl lk_8_67 (Or.inl rfl) sh_179 (Nat.le_of_ble_eq_true rfl)) ?_
    have hr3 : ra_in (wq σ x0 (1)) := (ra_in_wq _ _ _)
    refine ra_icle rfl rfl (by first | omega | (unfold ra_in at *; omega)) hr3 (fun h4 => ?_) (fun h4 => ?_)
    · refine ra_iconst rfl ?_
      exact ra_ireturn rfl rfl ⟨⟨_, (by first | omega | (unfold ra_in at *; omega)), (Or.inl ⟨rfl, fun k k0 k1 => hv2_1 k (by omega) k1⟩), rfl⟩, rfl⟩
    · refine ra_load rfl rfl rfl rfl ?_
      refine ra_load rfl rfl rfl rfl ?_
      refine ra_load rfl rfl rfl rfl ?_
      refine ra_cTp (s5_224 hx0 (by first | omega | (unfold ra_in at *; omega)) hw (by first | assumption | omega)) rfl (ct_224 rfl lk_8_183 (Or.inl rfl) sh_179 (Nat.le_of_ble_eq_true rfl)) ?_
      refine ra_ifne rfl rfl x5whyM_in (fun h6 => ?_) (fun h6 => ?_)
      · refine ra_iinc (L' := [_, _, _]) rfl rfl (Nat.le_of_ble_eq_true rfl) rfl ?_
        refine ra_goto rfl rfl ?_
        exact ra_weak (by repeat' constructor) (ih (v2 + (-1)) (by first | omega | (unfold ra_in at *; omega)) (fun k k0 k1 => if e : k = v2 then (by rw [e]; omega) else hv2_1 k (by omega) k1) (by first | omega | (unfold ra_in at *; omega)))
      · refine ra_load rfl rfl rfl rfl ?_
        exact ra_ireturn rfl rfl ⟨⟨_, (by first | omega | (unfold ra_in at *; omega)), (Or.inr ⟨by omega, by omega, by omega, fun k k0 k1 => hv2_1 k k0 k1⟩), rfl⟩, rfl⟩
theorem s5_245 {n : Nat} {f : Nat → Int32} {d : Nat} {x0 : Int} {σ : ra_V} (hx0 : ra_in x0) (hw : WF σ) (hp : 0 ≤ x0 ∧ x0 < 8 ∧ wq σ x0 0 = 1) : ra_C (g_Gs n f) g_sh 0 (d + 5) 245 [.index (179), ra_I x0] σ (fun r9 s => (∃ z, ra_in z ∧ (x5GST (fun k => x5whyM σ x0 k (ra_g σ 180 4) = 0) (wq σ x0 1 + 1) (ra_g σ 180 0) z) ∧ r9 = .inl (some (ra_I z))) ∧ s = σ) := by
  refine ra_enter (nn := 1) mt_245 rfl (Nat.le_of_ble_eq_true rfl) rfl (fun h => absurd h (by decide +kernel)) ?_
  have hw0 := WF_a hw
  unfold WFa at hw0
  have hq := WF_p hw hp.1 hp.2.1 hp.2.2
  refine ra_load rfl rfl rfl rfl ?_
  refine ra_getR rfl lk_8_7 (Nat.zero_le _) sh_179 rfl ?_
  refine ra_iconst rfl ?_
  refine ra_ialoadJ (j := 0) rfl sh_180 rfl (by decide) rfl (by decide) ?_
  have hr1 : ra_in (ra_g σ (180) 0) := (ra_in_g _ _ _)
  refine ra_iconst rfl ?_
  refine ra_isub rfl ?_
  refine ra_store (L' := [_, _, _]) rfl rfl rfl (Nat.le_of_ble_eq_true rfl) rfl ?_
  exact ra_weak (by repeat' constructor) (l5_245_9 hx0 hw hp _ ((ra_g σ (180) 0) - (1)) (by first | omega | (unfold ra_in at *; omega)) (fun k k0 k1 => by omega) (Nat.lt_succ_self _))
end
