/-! the reference: what its methods do (printed by wip/gen/ref.py) -/
section RB
theorem sp_223 {n : Nat} {f : Nat → Int32} {d : Nat} {x0 : Int} {x1 : Int} {σ : ra_V} (hx0 : ra_in x0) (hx1 : ra_in x1) (hw : WF σ) (hp : 0 ≤ x0 ∧ x0 < 8 ∧ wq σ x0 0 = 1) : ra_C (g_Gs n f) g_sh 0 (d + 4) 223 [.index (179), ra_I x0, ra_I x1] σ (fun r s => (∃ z, ra_in z ∧ (z = 0 → MOK σ x0 x1) ∧ r = .inl (some (ra_I z))) ∧ s = σ) := by
  refine ra_enter (nn := 1) mt_223 rfl (Nat.le_of_ble_eq_true rfl) rfl (fun h => absurd h (by decide +kernel)) ?_
  have hw0 := WF_a hw
  unfold WFa at hw0
  have hq := WF_p hw hp.1 hp.2.1 hp.2.2
  refine ra_load rfl rfl rfl rfl ?_
  refine ra_load rfl rfl rfl rfl ?_
  refine ra_iconst rfl ?_
  refine ra_cTp (sp_199 hx0 (by first | omega | (unfold ra_in at *; omega)) (by first | assumption | rfl | omega)) rfl (ct_199 rfl lk_8_67 (Or.inl rfl) sh_179 (Nat.le_of_ble_eq_true rfl)) ?_
  have hr2 : ra_in (wq σ x0 (5)) := (ra_in_wq _ _ _)
  refine ra_iconst rfl ?_
  refine ra_icne rfl rfl hr2 (by first | omega | (unfold ra_in at *; omega)) (fun h3 => ?_) (fun h3 => ?_)
  · refine ra_load rfl rfl rfl rfl ?_
    refine ra_cQPp (sp_203 ) rfl (ct_203 rfl lk_8_95 (Or.inl rfl) sh_179 (Nat.le_of_ble_eq_true rfl)) (fun z5 hz5 hz5p => ?_)
    refine ra_ifeq rfl rfl (ra_in01 hz5) (fun h6 => ?_) (fun h6 => ?_)
    · refine ra_load rfl rfl rfl rfl ?_
      refine ra_load rfl rfl rfl rfl ?_
      refine ra_load rfl rfl rfl rfl ?_
      refine ra_iconst rfl ?_
      refine ra_cTp (sp_199 hx0 (by first | omega | (unfold ra_in at *; omega)) (by first | assumption | rfl | omega)) rfl (ct_199 rfl lk_8_67 (Or.inl rfl) sh_179 (Nat.le_of_ble_eq_true rfl)) ?_
      have hr8 : ra_in (wq σ x0 (1)) := (ra_in_wq _ _ _)
      refine ra_icne rfl rfl hx1 hr8 (fun h9 => ?_) (fun h9 => ?_)
      · refine ra_load rfl rfl rfl rfl ?_
        refine ra_load rfl rfl rfl rfl ?_
        refine ra_i2l rfl hx1 ?_
        refine ra_load rfl rfl rfl rfl ?_
        refine ra_load rfl rfl rfl rfl ?_
        refine ra_iconst rfl ?_
        refine ra_cTp (sp_199 hx0 (by first | omega | (unfold ra_in at *; omega)) (by first | assumption | rfl | omega)) rfl (ct_199 rfl lk_8_67 (Or.inl rfl) sh_179 (Nat.le_of_ble_eq_true rfl)) ?_
        have hr11 : ra_in (wq σ x0 (2)) := (ra_in_wq _ _ _)
        refine ra_i2l rfl hr11 ?_
        refine ra_cQPp (sp_210 hx1 hr11 (WF_a hw)) rfl (ct_210 rfl lk_8_103 (Or.inl rfl) sh_179 (Nat.le_of_ble_eq_true rfl)) (fun z13 hz13 hz13p => ?_)
        refine ra_ifne rfl rfl (ra_in01 hz13) (fun h14 => ?_) (fun h14 => ?_)
        · refine ra_load rfl rfl rfl rfl ?_
          refine ra_load rfl rfl rfl rfl ?_
          refine ra_getR rfl lk_8_7 (Nat.zero_le _) sh_179 rfl ?_
          refine ra_iconst rfl ?_
          refine ra_ialoadJ (j := 3) rfl sh_180 rfl (by decide) rfl (by decide) ?_
          have hr15 : ra_in (ra_g σ (180) 3) := (ra_in_g _ _ _)
          refine ra_irem rfl hx1 hr15 (by omega) ?_
          refine ra_ifeq rfl rfl (ra_in_tmod hx1 (by omega)) (fun h16 => ?_) (fun h16 => ?_)
          · refine ra_load rfl rfl rfl rfl ?_
            refine ra_load rfl rfl rfl rfl ?_
            refine ra_i2l rfl hx1 ?_
            refine ra_load rfl rfl rfl rfl ?_
            refine ra_load rfl rfl rfl rfl ?_
            refine ra_iconst rfl ?_
            refine ra_cTp (sp_199 hx0 (by first | omega | (unfold ra_in at *; omega)) (by first | assumption | rfl | omega)) rfl (ct_199 rfl lk_8_67 (Or.inl rfl) sh_179 (Nat.le_of_ble_eq_true rfl)) ?_
            have hr18 : ra_in (wq σ x0 (2)) := (ra_in_wq _ _ _)
            refine ra_i2l rfl hr18 ?_
            refine ra_load rfl rfl rfl rfl ?_
            refine ra_cQPp (sp_212 hx1 hr18 hx0) rfl (ct_212 rfl lk_8_107 (Or.inl rfl) sh_179 (Nat.le_of_ble_eq_true rfl)) (fun z20 hz20 hz20p => ?_)
            refine ra_ifeq rfl rfl (ra_in01 hz20) (fun h21 => ?_) (fun h21 => ?_)
            · refine ra_load rfl rfl rfl rfl ?_
              refine ra_getR rfl lk_8_7 (Nat.zero_le _) sh_179 rfl ?_
              refine ra_iconst rfl ?_
              refine ra_ialoadJ (j := 4) rfl sh_180 rfl (by decide) rfl (by decide) ?_
              have hr22 : ra_in (ra_g σ (180) 4) := (ra_in_g _ _ _)
              refine ra_load rfl rfl rfl rfl ?_
              refine ra_load rfl rfl rfl rfl ?_
              refine ra_iconst rfl ?_
              refine ra_cTp (sp_199 hx0 (by first | omega | (unfold ra_in at *; omega)) (by first | assumption | rfl | omega)) rfl (ct_199 rfl lk_8_67 (Or.inl rfl) sh_179 (Nat.le_of_ble_eq_true rfl)) ?_
              have hr24 : ra_in (wq σ x0 (2)) := (ra_in_wq _ _ _)
              refine ra_min rfl lk_8_90 hr22 hr24 (Nat.le_of_ble_eq_true rfl) ?_
              refine ra_store (L' := [_, _, _, _]) rfl rfl rfl (Nat.le_of_ble_eq_true rfl) rfl ?_
              refine ra_load rfl rfl rfl rfl ?_
              refine ra_load rfl rfl rfl rfl ?_
              refine ra_load rfl rfl rfl rfl ?_
              refine ra_iconst rfl ?_
              refine ra_cTp (sp_199 hx0 (by first | omega | (unfold ra_in at *; omega)) (by first | assumption | rfl | omega)) rfl (ct_199 rfl lk_8_67 (Or.inl rfl) sh_179 (Nat.le_of_ble_eq_true rfl)) ?_
              have hr26 : ra_in (wq σ x0 (1)) := (ra_in_wq _ _ _)
              refine ra_load rfl rfl rfl rfl ?_
              have hu := hz13p.mp (by omega)
              unfold US at hu
              refine ra_cTp (sp_224 hr26 hx1 (by first | assumption | rfl | omega)) rfl (ct_224 rfl lk_8_136 (Or.inl rfl) (Nat.le_of_ble_eq_true rfl)) ?_
              have hf28 := rfar_b (wq σ x0 (1)) x1
              have hr29 : ra_in (rfar (wq σ x0 (1)) x1) := (by first | omega | (unfold ra_in at *; omega))
              refine ra_icle rfl rfl (by first | omega | (unfold ra_in at *; omega)) hr29 (fun h30 => ?_) (fun h30 => ?_)
              · refine ra_iconst rfl ?_
                exact ra_ireturn rfl rfl ⟨⟨_, (by first | omega | (unfold ra_in at *; omega)), (fun _ => ⟨by omega, by omega, hz13p.mp (by omega), fun q => absurd (hz20p.mpr q) (by omega), Or.inl (by omega)⟩), rfl⟩, rfl⟩
              · refine ra_load rfl rfl rfl rfl ?_
                refine ra_load rfl rfl rfl rfl ?_
                refine ra_load rfl rfl rfl rfl ?_
                refine ra_load rfl rfl rfl rfl ?_
                refine ra_cIPp (sp_222 hx0 hx1 (by first | omega | (unfold ra_in at *; omega)) (WF_a hw) (by first | assumption | rfl | omega)) rfl (ct_222 rfl lk_8_139 (Or.inl rfl) sh_179 (Nat.le_of_ble_eq_true rfl)) (fun z32 hz32 hz32p => ?_)
                refine ra_iconst rfl ?_
                refine ra_icne rfl rfl hz32 (by first | omega | (unfold ra_in at *; omega)) (fun h33 => ?_) (fun h33 => ?_)
                · refine ra_iconst rfl ?_
                  exact ra_ireturn rfl rfl ⟨⟨_, (by first | omega | (unfold ra_in at *; omega)), (fun _ => ⟨by omega, by omega, hz13p.mp (by omega), fun q => absurd (hz20p.mpr q) (by omega), Or.inr (hz32p.2.2 (by omega))⟩), rfl⟩, rfl⟩
                · refine ra_bipush rfl (by decide) ?_
                  refine ra_goto rfl rfl ?_
                  exact ra_ireturn rfl rfl ⟨⟨_, (by first | omega | (unfold ra_in at *; omega)), (fun hq => absurd hq (by decide)), rfl⟩, rfl⟩
            · refine ra_bipush rfl (by decide) ?_
              exact ra_ireturn rfl rfl ⟨⟨_, (by first | omega | (unfold ra_in at *; omega)), (fun hq => absurd hq (by decide)), rfl⟩, rfl⟩
          · refine ra_iconst rfl ?_
            exact ra_ireturn rfl rfl ⟨⟨_, (by first | omega | (unfold ra_in at *; omega)), (fun hq => absurd hq (by decide)), rfl⟩, rfl⟩
        · refine ra_iconst rfl ?_
          exact ra_ireturn rfl rfl ⟨⟨_, (by first | omega | (unfold ra_in at *; omega)), (fun hq => absurd hq (by decide)), rfl⟩, rfl⟩
      · refine ra_iconst rfl ?_
        exact ra_ireturn rfl rfl ⟨⟨_, (by first | omega | (unfold ra_in at *; omega)), (fun hq => absurd hq (by decide)), rfl⟩, rfl⟩
    · refine ra_iconst rfl ?_
      exact ra_ireturn rfl rfl ⟨⟨_, (by first | omega | (unfold ra_in at *; omega)), (fun hq => absurd hq (by decide)), rfl⟩, rfl⟩
  · refine ra_iconst rfl ?_
    exact ra_ireturn rfl rfl ⟨⟨_, (by first | omega | (unfold ra_in at *; omega)), (fun hq => absurd hq (by decide)), rfl⟩, rfl⟩
theorem sp_300 {n : Nat} {f : Nat → Int32} {d : Nat} {x0 : Int} {x1 : Int} {σ : ra_V} (hx0 : ra_in x0) (hx1 : ra_in x1) (hw : WF σ) (hp : 0 ≤ x0 ∧ x0 < 8 ∧ wq σ x0 0 = 1) : ra_C (g_Gs n f) g_sh 0 (d + 4) 300 [.index (179), ra_I x0, ra_I x1] σ (fun r s => (∃ z, ra_in z ∧ ((z = 0 → SZK σ x0 x1) ∧ (x1 = wq σ x0 2 → z = 0)) ∧ r = .inl (some (ra_I z))) ∧ s = σ) := by
  refine ra_enter (nn := 0) mt_300 rfl (Nat.le_of_ble_eq_true rfl) rfl (fun h => absurd h (by decide +kernel)) ?_
  have hw0 := WF_a hw
  unfold WFa at hw0
  have hq := WF_p hw hp.1 hp.2.1 hp.2.2
  refine ra_load rfl rfl rfl rfl ?_
  refine ra_load rfl rfl rfl rfl ?_
  refine ra_load rfl rfl rfl rfl ?_
  refine ra_iconst rfl ?_
  refine ra_cTp (sp_199 hx0 (by first | omega | (unfold ra_in at *; omega)) (by first | assumption | rfl | omega)) rfl (ct_199 rfl lk_8_67 (Or.inl rfl) sh_179 (Nat.le_of_ble_eq_true rfl)) ?_
  have hr2 : ra_in (wq σ x0 (3)) := (ra_in_wq _ _ _)
  refine ra_icge rfl rfl hx1 hr2 (fun h3 => ?_) (fun h3 => ?_)
  · refine ra_load rfl rfl rfl rfl ?_
    refine ra_load rfl rfl rfl rfl ?_
    refine ra_load rfl rfl rfl rfl ?_
    refine ra_iconst rfl ?_
    refine ra_cTp (sp_199 hx0 (by first | omega | (unfold ra_in at *; omega)) (by first | assumption | rfl | omega)) rfl (ct_199 rfl lk_8_67 (Or.inl rfl) sh_179 (Nat.le_of_ble_eq_true rfl)) ?_
    have hr5 : ra_in (wq σ x0 (1)) := (ra_in_wq _ _ _)
    refine ra_i2l rfl hr5 ?_
    refine ra_load rfl rfl rfl rfl ?_
    refine ra_i2l rfl hx1 ?_
    refine ra_cQPp (sp_210 hr5 hx1 (WF_a hw)) rfl (ct_210 rfl lk_8_103 (Or.inl rfl) sh_179 (Nat.le_of_ble_eq_true rfl)) (fun z7 hz7 hz7p => ?_)
    refine ra_ifne rfl rfl (ra_in01 hz7) (fun h8 => ?_) (fun h8 => ?_)
    · refine ra_load rfl rfl rfl rfl ?_
      refine ra_load rfl rfl rfl rfl ?_
      refine ra_load rfl rfl rfl rfl ?_
      refine ra_iconst rfl ?_
      refine ra_cTp (sp_199 hx0 (by first | omega | (unfold ra_in at *; omega)) (by first | assumption | rfl | omega)) rfl (ct_199 rfl lk_8_67 (Or.inl rfl) sh_179 (Nat.le_of_ble_eq_true rfl)) ?_
      have hr10 : ra_in (wq σ x0 (1)) := (ra_in_wq _ _ _)
      refine ra_i2l rfl hr10 ?_
      refine ra_load rfl rfl rfl rfl ?_
      refine ra_i2l rfl hx1 ?_
      refine ra_load rfl rfl rfl rfl ?_
      refine ra_cQPp (sp_212 hr10 hx1 hx0) rfl (ct_212 rfl lk_8_107 (Or.inl rfl) sh_179 (Nat.le_of_ble_eq_true rfl)) (fun z12 hz12 hz12p => ?_)
      refine ra_ifeq rfl rfl (ra_in01 hz12) (fun h13 => ?_) (fun h13 => ?_)
      · refine ra_load rfl rfl rfl rfl ?_
        refine ra_load rfl rfl rfl rfl ?_
        refine ra_load rfl rfl rfl rfl ?_
        refine ra_iconst rfl ?_
        refine ra_cTp (sp_199 hx0 (by first | omega | (unfold ra_in at *; omega)) (by first | assumption | rfl | omega)) rfl (ct_199 rfl lk_8_67 (Or.inl rfl) sh_179 (Nat.le_of_ble_eq_true rfl)) ?_
        have hr15 : ra_in (wq σ x0 (1)) := (ra_in_wq _ _ _)
        refine ra_load rfl rfl rfl rfl ?_
        refine ra_load rfl rfl rfl rfl ?_
        refine ra_iconst rfl ?_
        refine ra_cTp (sp_199 hx0 (by first | omega | (unfold ra_in at *; omega)) (by first | assumption | rfl | omega)) rfl (ct_199 rfl lk_8_67 (Or.inl rfl) sh_179 (Nat.le_of_ble_eq_true rfl)) ?_
        have hr17 : ra_in (wq σ x0 (2)) := (ra_in_wq _ _ _)
        refine ra_iadd rfl ?_
        refine ra_i2l rfl (by first | omega | (unfold ra_in at *; omega)) ?_
        refine ra_load rfl rfl rfl rfl ?_
        refine ra_load rfl rfl rfl rfl ?_
        refine ra_load rfl rfl rfl rfl ?_
        refine ra_iconst rfl ?_
        refine ra_cTp (sp_199 hx0 (by first | omega | (unfold ra_in at *; omega)) (by first | assumption | rfl | omega)) rfl (ct_199 rfl lk_8_67 (Or.inl rfl) sh_179 (Nat.le_of_ble_eq_true rfl)) ?_
        have hr19 : ra_in (wq σ x0 (2)) := (ra_in_wq _ _ _)
        refine ra_isub rfl ?_
        refine ra_i2l rfl (by first | omega | (unfold ra_in at *; omega)) ?_
        refine ra_cQPp (sp_214 (by first | omega | (unfold ra_in at *; omega)) (by first | omega | (unfold ra_in at *; omega)) (WF_a hw)) rfl (ct_214 rfl lk_8_111 (Or.inl rfl) sh_179 (Nat.le_of_ble_eq_true rfl)) (fun z21 hz21 hz21p => ?_)
        refine ra_ifeq rfl rfl (ra_in01 hz21) (fun h22 => ?_) (fun h22 => ?_)
        · refine ra_iconst rfl ?_
          exact ra_ireturn rfl rfl ⟨⟨_, (by first | omega | (unfold ra_in at *; omega)), ⟨fun _ => ⟨by omega, hz7p.mp (by omega), fun q => absurd (hz12p.mpr q) (by omega), hz21p.1 (by omega)⟩, fun _ => rfl⟩, rfl⟩, rfl⟩
        · refine ra_bipush rfl (by decide) ?_
          refine ra_goto rfl rfl ?_
          exact ra_ireturn rfl rfl ⟨⟨_, (by first | omega | (unfold ra_in at *; omega)), ⟨fun hq => absurd hq (by decide), fun q => by have := hz21p.2 (by omega); omega⟩, rfl⟩, rfl⟩
      · refine ra_iconst rfl ?_
        exact ra_ireturn rfl rfl ⟨⟨_, (by first | omega | (unfold ra_in at *; omega)), ⟨fun hq => absurd hq (by decide), fun q => absurd (hz12p.mp (by omega)) (by rw [q]; exact tk_self hw hp)⟩, rfl⟩, rfl⟩
    · refine ra_iconst rfl ?_
      exact ra_ireturn rfl rfl ⟨⟨_, (by first | omega | (unfold ra_in at *; omega)), ⟨fun hq => absurd hq (by decide), fun q => absurd (hz7p.mpr (by rw [q]; exact us_self hw hp)) (by omega)⟩, rfl⟩, rfl⟩
  · refine ra_iconst rfl ?_
    exact ra_ireturn rfl rfl ⟨⟨_, (by first | omega | (unfold ra_in at *; omega)), ⟨fun hq => absurd hq (by decide), fun q => by omega⟩, rfl⟩, rfl⟩
theorem sp_301 {n : Nat} {f : Nat → Int32} {d : Nat} {x0 : Int} {x1 : Int} {σ : ra_V} (hx0 : ra_in x0) (hx1 : ra_in x1) (hw : WF σ) (hp : 0 ≤ x0 ∧ x0 < 8 ∧ wq σ x0 0 = 1) : ra_C (g_Gs n f) g_sh 0 (d + 5) 301 [.index (179), ra_I x0, ra_I x1] σ (fun r s => (∃ z, ra_in z ∧ (z = 0 → (wq σ x0 5 ≠ 1 ∧ ra_g σ 180 16 ≠ x0 ∧ SZK σ x0 x1)) ∧ r = .inl (some (ra_I z))) ∧ s = σ) := by
  refine ra_enter (nn := 0) mt_301 rfl (Nat.le_of_ble_eq_true rfl) rfl (fun h => absurd h (by decide +kernel)) ?_
  have hw0 := WF_a hw
  unfold WFa at hw0
  have hq := WF_p hw hp.1 hp.2.1 hp.2.2
  refine ra_load rfl rfl rfl rfl ?_
  refine ra_load rfl rfl rfl rfl ?_
  refine ra_iconst rfl ?_
  refine ra_cTp (sp_199 hx0 (by first | omega | (unfold ra_in at *; omega)) (by first | assumption | rfl | omega)) rfl (ct_199 rfl lk_8_67 (Or.inl rfl) sh_179 (Nat.le_of_ble_eq_true rfl)) ?_
  have hr2 : ra_in (wq σ x0 (5)) := (ra_in_wq _ _ _)
  refine ra_iconst rfl ?_
  refine ra_icne rfl rfl hr2 (by first | omega | (unfold ra_in at *; omega)) (fun h3 => ?_) (fun h3 => ?_)
  · refine ra_load rfl rfl rfl rfl ?_
    refine ra_load rfl rfl rfl rfl ?_
    refine ra_cQPp (sp_204 hx0) rfl (ct_204 rfl lk_8_71 (Or.inl rfl) sh_179 (Nat.le_of_ble_eq_true rfl)) (fun z5 hz5 hz5p => ?_)
    refine ra_ifeq rfl rfl (ra_in01 hz5) (fun h6 => ?_) (fun h6 => ?_)
    · refine ra_load rfl rfl rfl rfl ?_
      refine ra_load rfl rfl rfl rfl ?_
      refine ra_load rfl rfl rfl rfl ?_
      refine ra_cIPp (sp_300 hx0 hx1 hw (by first | assumption | omega)) rfl (ct_300 rfl lk_8_369 (Or.inl rfl) sh_179 (Nat.le_of_ble_eq_true rfl)) (fun z8 hz8 hz8p => ?_)
      exact ra_ireturn rfl rfl ⟨⟨_, hz8, (fun hq => ⟨by omega, by omega, hz8p.1 hq⟩), rfl⟩, rfl⟩
    · refine ra_iconst rfl ?_
      refine ra_goto rfl rfl ?_
      exact ra_ireturn rfl rfl ⟨⟨_, (by first | omega | (unfold ra_in at *; omega)), (fun hq => absurd hq (by decide)), rfl⟩, rfl⟩
  · refine ra_iconst rfl ?_
    refine ra_goto rfl rfl ?_
    exact ra_ireturn rfl rfl ⟨⟨_, (by first | omega | (unfold ra_in at *; omega)), (fun hq => absurd hq (by decide)), rfl⟩, rfl⟩
theorem sp_226 {n : Nat} {f : Nat → Int32} {d : Nat} {x0 : Int} {x1 : Int} {σ : ra_V} (hx0 : ra_in x0) (hx1 : ra_in x1) (hw : WF σ) (hp : 0 ≤ x0 ∧ x0 < 8 ∧ wq σ x0 0 = 1) (ht : 0 ≤ x1 ∧ x1 ≤ 600) : ra_C (g_Gs n f) g_sh 0 (d + 2) 226 [.index (179), ra_I x0, ra_I x1] σ (fun r s => rI r ∧ s = σ) := by
  refine ra_enter (nn := 0) mt_226 rfl (Nat.le_of_ble_eq_true rfl) rfl (fun h => absurd h (by decide +kernel)) ?_
  have hw0 := WF_a hw
  unfold WFa at hw0
  have hq := WF_p hw hp.1 hp.2.1 hp.2.2
  refine ra_load rfl rfl rfl rfl ?_
  refine ra_load rfl rfl rfl rfl ?_
  refine ra_iconst rfl ?_
  refine ra_cTp (sp_199 hx0 (by first | omega | (unfold ra_in at *; omega)) (by first | assumption | rfl | omega)) rfl (ct_199 rfl lk_8_67 (Or.inl rfl) sh_179 (Nat.le_of_ble_eq_true rfl)) ?_
  have hr2 : ra_in (wq σ x0 (2)) := (ra_in_wq _ _ _)
  refine ra_load rfl rfl rfl rfl ?_
  refine ra_getR rfl lk_8_7 (Nat.zero_le _) sh_179 rfl ?_
  refine ra_iconst rfl ?_
  refine ra_ialoadJ (j := 4) rfl sh_180 rfl (by decide) rfl (by decide) ?_
  have hr3 : ra_in (ra_g σ (180) 4) := (ra_in_g _ _ _)
  refine ra_load rfl rfl rfl rfl ?_
  refine ra_load rfl rfl rfl rfl ?_
  refine ra_iconst rfl ?_
  refine ra_cTp (sp_199 hx0 (by first | omega | (unfold ra_in at *; omega)) (by first | assumption | rfl | omega)) rfl (ct_199 rfl lk_8_67 (Or.inl rfl) sh_179 (Nat.le_of_ble_eq_true rfl)) ?_
  have hr5 : ra_in (wq σ x0 (1)) := (ra_in_wq _ _ _)
  refine ra_load rfl rfl rfl rfl ?_
  refine ra_cTp (sp_224 hr5 hx1 (by first | assumption | rfl | omega)) rfl (ct_224 rfl lk_8_136 (Or.inl rfl) (Nat.le_of_ble_eq_true rfl)) ?_
  have hf7 := rfar_b (wq σ x0 (1)) x1
  have hr8 : ra_in (rfar (wq σ x0 (1)) x1) := (by first | omega | (unfold ra_in at *; omega))
  refine ra_iconst rfl ?_
  refine ra_load rfl rfl rfl rfl ?_
  refine ra_load rfl rfl rfl rfl ?_
  refine ra_iconst rfl ?_
  refine ra_cTp (sp_199 hx0 (by first | omega | (unfold ra_in at *; omega)) (by first | assumption | rfl | omega)) rfl (ct_199 rfl lk_8_67 (Or.inl rfl) sh_179 (Nat.le_of_ble_eq_true rfl)) ?_
  have hr10 : ra_in (wq σ x0 (2)) := (ra_in_wq _ _ _)
  refine ra_load rfl rfl rfl rfl ?_
  refine ra_getR rfl lk_8_7 (Nat.zero_le _) sh_179 rfl ?_
  refine ra_iconst rfl ?_
  refine ra_ialoadJ (j := 4) rfl sh_180 rfl (by decide) rfl (by decide) ?_
  have hr11 : ra_in (ra_g σ (180) 4) := (ra_in_g _ _ _)
  refine ra_cTp (sp_206 hr10 hr11 (by first | assumption | rfl | omega)) rfl (ct_206 rfl lk_8_120 (Or.inl rfl) (Nat.le_of_ble_eq_true rfl)) ?_
  have hr13 : ra_in (((wq σ x0 (2)) + (ra_g σ (180) 4) - 1).tdiv (ra_g σ (180) 4)) := (ra_in_tdiv (by unfold ra_in; omega) (by omega))
  refine ra_cIp (sp_225 hr2 hr3 hr8 (by first | omega | (unfold ra_in at *; omega)) hr13) rfl (ct_225 rfl lk_8_143 (Or.inl rfl) (Nat.le_of_ble_eq_true rfl)) (fun z15 hz15 => ?_)
  exact ra_ireturn rfl rfl ⟨⟨_, hz15, rfl⟩, rfl⟩
theorem sp_242 {n : Nat} {f : Nat → Int32} {d : Nat} {x0 : Int} {x1 : Int} {σ : ra_V} (hx0 : ra_in x0) (hx1 : ra_in x1) (hw : WF σ) (hp : 0 ≤ x0 ∧ x0 < 8 ∧ wq σ x0 0 = 1) (hb : 0 ≤ x1 ∧ x1 < wq σ x0 2) : ra_C (g_Gs n f) g_sh 0 (d + 5) 242 [.index (179), ra_I x0, ra_I x1] σ (fun r s => (∃ z, ra_in z ∧ (-1 ≤ z ∧ z < 600) ∧ r = .inl (some (ra_I z))) ∧ s = σ) := by
  refine ra_enter (nn := 1) mt_242 rfl (Nat.le_of_ble_eq_true rfl) rfl (fun h => absurd h (by decide +kernel)) ?_
  have hw0 := WF_a hw
  unfold WFa at hw0
  have hq := WF_p hw hp.1 hp.2.1 hp.2.2
  refine ra_load rfl rfl rfl rfl ?_
  refine ra_load rfl rfl rfl rfl ?_
  refine ra_cQPp (sp_204 hx0) rfl (ct_204 rfl lk_8_71 (Or.inl rfl) sh_179 (Nat.le_of_ble_eq_true rfl)) (fun z2 hz2 hz2p => ?_)
  refine ra_ifne rfl rfl (ra_in01 hz2) (fun h3 => ?_) (fun h3 => ?_)
  · have hm0 := MV_f hw (by omega)
    unfold MF at hm0
    have he : ra_g σ 180 16 = x0 := hz2p.mp (by omega)
    rw [he] at hm0
    refine ra_load rfl rfl rfl rfl ?_
    refine ra_load rfl rfl rfl rfl ?_
    refine ra_getR rfl lk_8_7 (Nat.zero_le _) sh_179 rfl ?_
    refine ra_bipush rfl (by decide) ?_
    refine ra_ialoadJ (j := 19) rfl sh_180 rfl (by decide) rfl (by decide) ?_
    have hr4 : ra_in (ra_g σ (180) 19) := (ra_in_g _ _ _)
    refine ra_idiv rfl hx1 hr4 (by omega) ?_
    refine ra_store (L' := [_, _, _, _]) rfl rfl rfl (Nat.le_of_ble_eq_true rfl) rfl ?_
    refine ra_load rfl rfl rfl rfl ?_
    refine ra_load rfl rfl rfl rfl ?_
    refine ra_cBp (sp_230 (ra_in_tdiv hx1 (by omega)) (MV_f hw (by omega))) rfl (ct_230 rfl lk_8_180 (Or.inl rfl) sh_179 (Nat.le_of_ble_eq_true rfl)) (fun z6 hz6 => ?_)
    refine ra_ifeq rfl rfl (ra_in01 hz6) (fun h7 => ?_) (fun h7 => ?_)
    · refine ra_load rfl rfl rfl rfl ?_
      refine ra_getR rfl lk_8_7 (Nat.zero_le _) sh_179 rfl ?_
      refine ra_bipush rfl (by decide) ?_
      refine ra_ialoadJ (j := 22) rfl sh_180 rfl (by decide) rfl (by decide) ?_
      have hr8 : ra_in (ra_g σ (180) 22) := (ra_in_g _ _ _)
      refine ra_iconst rfl ?_
      refine ra_icne rfl rfl hr8 (by first | omega | (unfold ra_in at *; omega)) (fun h9 => ?_) (fun h9 => ?_)
      · refine ra_load rfl rfl rfl rfl ?_
        refine ra_getR rfl lk_8_7 (Nat.zero_le _) sh_179 rfl ?_
        refine ra_bipush rfl (by decide) ?_
        refine ra_ialoadJ (j := 17) rfl sh_180 rfl (by decide) rfl (by decide) ?_
        have hr10 : ra_in (ra_g σ (180) 17) := (ra_in_g _ _ _)
        refine ra_load rfl rfl rfl rfl ?_
        refine ra_iadd rfl ?_
        exact ra_ireturn rfl rfl ⟨⟨_, (by first | omega | (unfold ra_in at *; omega)), (by omega), rfl⟩, rfl⟩
      · refine ra_load rfl rfl rfl rfl ?_
        refine ra_load rfl rfl rfl rfl ?_
        refine ra_cTp (sp_231 (MV_f hw (by omega))) rfl (ct_231 rfl lk_8_153 (Or.inl rfl) sh_179 (Nat.le_of_ble_eq_true rfl)) ?_
        have hm12 := (MV_f hw (by omega))
        unfold MF at hm12
        have hr13 : ra_in (rnx σ) := (by first | omega | (unfold ra_in at *; omega))
        refine ra_icne rfl rfl (ra_in_tdiv hx1 (by omega)) hr13 (fun h14 => ?_) (fun h14 => ?_)
        · refine ra_load rfl rfl rfl rfl ?_
          refine ra_getR rfl lk_8_7 (Nat.zero_le _) sh_179 rfl ?_
          refine ra_bipush rfl (by decide) ?_
          refine ra_ialoadJ (j := 17) rfl sh_180 rfl (by decide) rfl (by decide) ?_
          have hr15 : ra_in (ra_g σ (180) 17) := (ra_in_g _ _ _)
          refine ra_load rfl rfl rfl rfl ?_
          refine ra_iadd rfl ?_
          exact ra_ireturn rfl rfl ⟨⟨_, (by first | omega | (unfold ra_in at *; omega)), (by omega), rfl⟩, rfl⟩
        · have hl := pl_in (σ := σ) (x := x1) (by omega) (by omega) (by assumption)
          refine ra_load rfl rfl rfl rfl ?_
          refine ra_getR rfl lk_8_7 (Nat.zero_le _) sh_179 rfl ?_
          refine ra_bipush rfl (by decide) ?_
          refine ra_ialoadJ (j := 20) rfl sh_180 rfl (by decide) rfl (by decide) ?_
          have hr16 : ra_in (ra_g σ (180) 20) := (ra_in_g _ _ _)
          refine ra_load rfl rfl rfl rfl ?_
          refine ra_iadd rfl ?_
          refine ra_load rfl rfl rfl rfl ?_
          refine ra_cTp (sp_232 (MV_f hw (by omega))) rfl (ct_232 rfl lk_8_156 (Or.inl rfl) sh_179 (Nat.le_of_ble_eq_true rfl)) ?_
          have hm18 := (MV_f hw (by omega))
          unfold MF at hm18
          have hr19 : ra_in (rfb σ) := (by first | omega | (unfold ra_in at *; omega))
          refine ra_isub rfl ?_
          refine ra_goto rfl rfl ?_
          exact ra_ireturn rfl rfl ⟨⟨_, (by first | omega | (unfold ra_in at *; omega)), (by omega), rfl⟩, rfl⟩
    · refine ra_load rfl rfl rfl rfl ?_
      refine ra_getR rfl lk_8_7 (Nat.zero_le _) sh_179 rfl ?_
      refine ra_bipush rfl (by decide) ?_
      refine ra_ialoadJ (j := 18) rfl sh_180 rfl (by decide) rfl (by decide) ?_
      have hr20 : ra_in (ra_g σ (180) 18) := (ra_in_g _ _ _)
      refine ra_load rfl rfl rfl rfl ?_
      refine ra_iadd rfl ?_
      exact ra_ireturn rfl rfl ⟨⟨_, (by first | omega | (unfold ra_in at *; omega)), (by omega), rfl⟩, rfl⟩
  · refine ra_load rfl rfl rfl rfl ?_
    refine ra_load rfl rfl rfl rfl ?_
    refine ra_iconst rfl ?_
    refine ra_cTp (sp_199 hx0 (by first | omega | (unfold ra_in at *; omega)) (by first | assumption | rfl | omega)) rfl (ct_199 rfl lk_8_67 (Or.inl rfl) sh_179 (Nat.le_of_ble_eq_true rfl)) ?_
    have hr22 : ra_in (wq σ x0 (1)) := (ra_in_wq _ _ _)
    refine ra_load rfl rfl rfl rfl ?_
    refine ra_iadd rfl ?_
    exact ra_ireturn rfl rfl ⟨⟨_, (by first | omega | (unfold ra_in at *; omega)), (by omega), rfl⟩, rfl⟩
theorem lp_277_4 {n : Nat} {f : Nat → Int32} {d : Nat} {x0 : Int} {σ : ra_V} (hx0 : ra_in x0) : ∀ (nn : Nat) (v2 : Int) (v3 : Int) (hv2_0 : NB σ x0 v3 v2) (hv2_1 : -1 ≤ v2 ∧ v2 < 8) (hv3_0 : 0 ≤ v3) (hv3_1 : v3 ≤ 8) (hm : ((8 - v3 : Int)).toNat < nn), ra_P (g_Gs n f) g_sh 0 (d + 1) g_m_X8_nextBy 4 [some (.index (179)), some (ra_I x0), some (ra_I v2), some (ra_I v3)] [] σ (fun r s => (∃ z, ra_in z ∧ (NB σ x0 8 z) ∧ r = .inl (some (ra_I z))) ∧ s = σ) := by
  intro nn
  induction nn with
  | zero => intro v2 v3 hv2_0 hv2_1 hv3_0 hv3_1 hm; exact absurd hm (Nat.not_lt_zero _)
  | succ nn ih =>
    intro v2 v3 hv2_0 hv2_1 hv3_0 hv3_1 hm
    refine ra_load rfl rfl rfl rfl ?_
    refine ra_bipush rfl (by decide) ?_
    refine ra_icge rfl rfl (by first | omega | (unfold ra_in at *; omega)) (by first | omega | (unfold ra_in at *; omega)) (fun h1 => ?_) (fun h1 => ?_)
    · refine ra_load rfl rfl rfl rfl ?_
      exact ra_ireturn rfl rfl ⟨⟨_, (by first | omega | (unfold ra_in at *; omega)), (by obtain rfl : v3 = 8 := (by omega); exact hv2_0), rfl⟩, rfl⟩
    · refine ra_load rfl rfl rfl rfl ?_
      refine ra_load rfl rfl rfl rfl ?_
      refine ra_iconst rfl ?_
      refine ra_cTp (sp_199 (by first | omega | (unfold ra_in at *; omega)) (by first | omega | (unfold ra_in at *; omega)) (by first | assumption | rfl | omega)) rfl (ct_199 rfl lk_8_67 (Or.inl rfl) sh_179 (Nat.le_of_ble_eq_true rfl)) ?_
      have hr3 : ra_in (wq σ v3 (0)) := (ra_in_wq _ _ _)
      refine ra_iconst rfl ?_
      refine ra_icne rfl rfl hr3 (by first | omega | (unfold ra_in at *; omega)) (fun h4 => ?_) (fun h4 => ?_)
      · refine ra_iinc (L' := [_, _, _, _]) rfl rfl (Nat.le_of_ble_eq_true rfl) rfl ?_
        refine ra_goto rfl rfl ?_
        exact ra_weak (by repeat' constructor) (ih v2 (v3 + 1) (by first | exact nb_n hv2_0 (by omega) (by omega) | exact nb_k hv2_0 (by omega) (by omega) (by omega) | exact nb_y hv2_0 (by omega) (by omega) (by omega) (by omega)) (by first | omega | (unfold ra_in at *; omega)) (by first | omega | (unfold ra_in at *; omega)) (by first | omega | (unfold ra_in at *; omega)) (by first | omega | (unfold ra_in at *; omega)))
      · refine ra_load rfl rfl rfl rfl ?_
        refine ra_load rfl rfl rfl rfl ?_
        refine ra_iconst rfl ?_
        refine ra_cTp (sp_199 (by first | omega | (unfold ra_in at *; omega)) (by first | omega | (unfold ra_in at *; omega)) (by first | assumption | rfl | omega)) rfl (ct_199 rfl lk_8_67 (Or.inl rfl) sh_179 (Nat.le_of_ble_eq_true rfl)) ?_
        have hr6 : ra_in (wq σ v3 (1)) := (ra_in_wq _ _ _)
        refine ra_load rfl rfl rfl rfl ?_
        refine ra_icle rfl rfl hr6 hx0 (fun h7 => ?_) (fun h7 => ?_)
        · refine ra_iinc (L' := [_, _, _, _]) rfl rfl (Nat.le_of_ble_eq_true rfl) rfl ?_
          refine ra_goto rfl rfl ?_
          exact ra_weak (by repeat' constructor) (ih v2 (v3 + 1) (by first | exact nb_n hv2_0 (by omega) (by omega) | exact nb_k hv2_0 (by omega) (by omega) (by omega) | exact nb_y hv2_0 (by omega) (by omega) (by omega) (by omega)) (by first | omega | (unfold ra_in at *; omega)) (by first | omega | (unfold ra_in at *; omega)) (by first | omega | (unfold ra_in at *; omega)) (by first | omega | (unfold ra_in at *; omega)))
        · refine ra_load rfl rfl rfl rfl ?_
          refine ra_iconst rfl ?_
          refine ra_iceq rfl rfl (by first | omega | (unfold ra_in at *; omega)) (by first | omega | (unfold ra_in at *; omega)) (fun h8 => ?_) (fun h8 => ?_)
          · refine ra_load rfl rfl rfl rfl ?_
            refine ra_store (L' := [_, _, _, _]) rfl rfl rfl (Nat.le_of_ble_eq_true rfl) rfl ?_
            refine ra_iinc (L' := [_, _, _, _]) rfl rfl (Nat.le_of_ble_eq_true rfl) rfl ?_
            refine ra_goto rfl rfl ?_
            exact ra_weak (by repeat' constructor) (ih v3 (v3 + 1) (by first | exact nb_n hv2_0 (by omega) (by omega) | exact nb_k hv2_0 (by omega) (by omega) (by omega) | exact nb_y hv2_0 (by omega) (by omega) (by omega) (by omega)) (by first | omega | (unfold ra_in at *; omega)) (by first | omega | (unfold ra_in at *; omega)) (by first | omega | (unfold ra_in at *; omega)) (by first | omega | (unfold ra_in at *; omega)))
          · refine ra_load rfl rfl rfl rfl ?_
            refine ra_load rfl rfl rfl rfl ?_
            refine ra_iconst rfl ?_
            refine ra_cTp (sp_199 (by first | omega | (unfold ra_in at *; omega)) (by first | omega | (unfold ra_in at *; omega)) (by first | assumption | rfl | omega)) rfl (ct_199 rfl lk_8_67 (Or.inl rfl) sh_179 (Nat.le_of_ble_eq_true rfl)) ?_
            have hr10 : ra_in (wq σ v3 (1)) := (ra_in_wq _ _ _)
            refine ra_load rfl rfl rfl rfl ?_
            refine ra_load rfl rfl rfl rfl ?_
            refine ra_iconst rfl ?_
            refine ra_cTp (sp_199 (by first | omega | (unfold ra_in at *; omega)) (by first | omega | (unfold ra_in at *; omega)) (by first | assumption | rfl | omega)) rfl (ct_199 rfl lk_8_67 (Or.inl rfl) sh_179 (Nat.le_of_ble_eq_true rfl)) ?_
            have hr12 : ra_in (wq σ v2 (1)) := (ra_in_wq _ _ _)
            refine ra_icge rfl rfl hr10 hr12 (fun h13 => ?_) (fun h13 => ?_)
            · refine ra_iinc (L' := [_, _, _, _]) rfl rfl (Nat.le_of_ble_eq_true rfl) rfl ?_
              refine ra_goto rfl rfl ?_
              exact ra_weak (by repeat' constructor) (ih v2 (v3 + 1) (by first | exact nb_n hv2_0 (by omega) (by omega) | exact nb_k hv2_0 (by omega) (by omega) (by omega) | exact nb_y hv2_0 (by omega) (by omega) (by omega) (by omega)) (by first | omega | (unfold ra_in at *; omega)) (by first | omega | (unfold ra_in at *; omega)) (by first | omega | (unfold ra_in at *; omega)) (by first | omega | (unfold ra_in at *; omega)))
            · refine ra_load rfl rfl rfl rfl ?_
              refine ra_store (L' := [_, _, _, _]) rfl rfl rfl (Nat.le_of_ble_eq_true rfl) rfl ?_
              refine ra_iinc (L' := [_, _, _, _]) rfl rfl (Nat.le_of_ble_eq_true rfl) rfl ?_
              refine ra_goto rfl rfl ?_
              exact ra_weak (by repeat' constructor) (ih v3 (v3 + 1) (by first | exact nb_n hv2_0 (by omega) (by omega) | exact nb_k hv2_0 (by omega) (by omega) (by omega) | exact nb_y hv2_0 (by omega) (by omega) (by omega) (by omega)) (by first | omega | (unfold ra_in at *; omega)) (by first | omega | (unfold ra_in at *; omega)) (by first | omega | (unfold ra_in at *; omega)) (by first | omega | (unfold ra_in at *; omega)))
theorem sp_277 {n : Nat} {f : Nat → Int32} {d : Nat} {x0 : Int} {σ : ra_V} (hx0 : ra_in x0) : ra_C (g_Gs n f) g_sh 0 (d + 2) 277 [.index (179), ra_I x0] σ (fun r s => (∃ z, ra_in z ∧ (NB σ x0 8 z) ∧ r = .inl (some (ra_I z))) ∧ s = σ) := by
  refine ra_enter (nn := 2) mt_277 rfl (Nat.le_of_ble_eq_true rfl) rfl (fun h => absurd h (by decide +kernel)) ?_
  refine ra_iconst rfl ?_
  refine ra_store (L' := [_, _, _, _]) rfl rfl rfl (Nat.le_of_ble_eq_true rfl) rfl ?_
  refine ra_iconst rfl ?_
  refine ra_store (L' := [_, _, _, _]) rfl rfl rfl (Nat.le_of_ble_eq_true rfl) rfl ?_
  exact ra_weak (by repeat' constructor) (lp_277_4 hx0 _ (-1) (0) nb_0 (by first | omega | (unfold ra_in at *; omega)) (by first | omega | (unfold ra_in at *; omega)) (by first | omega | (unfold ra_in at *; omega)) (Nat.lt_succ_self _))
theorem lp_243_2 {n : Nat} {f : Nat → Int32} {d : Nat} {x0 : Int} {σ : ra_V} (hx0 : ra_in x0) (hw : WF σ) (hp : 0 ≤ x0 ∧ x0 < 8 ∧ wq σ x0 0 = 1) : ∀ (nn : Nat) (v2 : Int) (hv2_0 : 0 ≤ v2 ∧ v2 ≤ wq σ x0 1) (hm : ((wq σ x0 1 - v2 : Int)).toNat < nn), ra_P (g_Gs n f) g_sh 0 (d + 4) g_m_X8_leftOf 2 [some (.index (179)), some (ra_I x0), some (ra_I v2)] [] σ (fun r s => (∃ z, ra_in z ∧ (z = -1 ∨ (0 ≤ z ∧ z ≤ 600 ∧ MOK σ x0 z)) ∧ r = .inl (some (ra_I z))) ∧ s = σ) := by
  intro nn
  induction nn with
  | zero => intro v2 hv2_0 hm; exact absurd hm (Nat.not_lt_zero _)
  | succ nn ih =>
    intro v2 hv2_0 hm
    have hw0 := WF_a hw
    unfold WFa at hw0
    have hq := WF_p hw hp.1 hp.2.1 hp.2.2
    refine ra_load rfl rfl rfl rfl ?_
    refine ra_load rfl rfl rfl rfl ?_
    refine ra_load rfl rfl rfl rfl ?_
    refine ra_iconst rfl ?_
    refine ra_cTp (sp_199 hx0 (by first | omega | (unfold ra_in at *; omega)) (by first | assumption | rfl | omega)) rfl (ct_199 rfl lk_8_67 (Or.inl rfl) sh_179 (Nat.le_of_ble_eq_true rfl)) ?_
    have hr2 : ra_in (wq σ x0 (1)) := (ra_in_wq _ _ _)
    refine ra_icge rfl rfl (by first | omega | (unfold ra_in at *; omega)) hr2 (fun h3 => ?_) (fun h3 => ?_)
    · refine ra_iconst rfl ?_
      exact ra_ireturn rfl rfl ⟨⟨_, (by first | omega | (unfold ra_in at *; omega)), (Or.inl rfl), rfl⟩, rfl⟩
    · refine ra_load rfl rfl rfl rfl ?_
      refine ra_load rfl rfl rfl rfl ?_
      refine ra_load rfl rfl rfl rfl ?_
      refine ra_cIPp (sp_223 hx0 (by first | omega | (unfold ra_in at *; omega)) hw (by first | assumption | omega)) rfl (ct_223 rfl lk_8_183 (Or.inl rfl) sh_179 (Nat.le_of_ble_eq_true rfl)) (fun z5 hz5 hz5p => ?_)
      refine ra_ifne rfl rfl hz5 (fun h6 => ?_) (fun h6 => ?_)
      · refine ra_iinc (L' := [_, _, _]) rfl rfl (Nat.le_of_ble_eq_true rfl) rfl ?_
        refine ra_goto rfl rfl ?_
        exact ra_weak (by repeat' constructor) (ih (v2 + 1) (by first | omega | (unfold ra_in at *; omega)) (by first | omega | (unfold ra_in at *; omega)))
      · refine ra_load rfl rfl rfl rfl ?_
        exact ra_ireturn rfl rfl ⟨⟨_, (by first | omega | (unfold ra_in at *; omega)), (Or.inr ⟨by omega, by omega, hz5p (by omega)⟩), rfl⟩, rfl⟩
theorem sp_243 {n : Nat} {f : Nat → Int32} {d : Nat} {x0 : Int} {σ : ra_V} (hx0 : ra_in x0) (hw : WF σ) (hp : 0 ≤ x0 ∧ x0 < 8 ∧ wq σ x0 0 = 1) : ra_C (g_Gs n f) g_sh 0 (d + 5) 243 [.index (179), ra_I x0] σ (fun r s => (∃ z, ra_in z ∧ (z = -1 ∨ (0 ≤ z ∧ z ≤ 600 ∧ MOK σ x0 z)) ∧ r = .inl (some (ra_I z))) ∧ s = σ) := by
  refine ra_enter (nn := 1) mt_243 rfl (Nat.le_of_ble_eq_true rfl) rfl (fun h => absurd h (by decide +kernel)) ?_
  have hw0 := WF_a hw
  unfold WFa at hw0
  have hq := WF_p hw hp.1 hp.2.1 hp.2.2
  refine ra_iconst rfl ?_
  refine ra_store (L' := [_, _, _]) rfl rfl rfl (Nat.le_of_ble_eq_true rfl) rfl ?_
  exact ra_weak (by repeat' constructor) (lp_243_2 hx0 hw hp _ (0) (by first | omega | (unfold ra_in at *; omega)) (Nat.lt_succ_self _))
theorem lp_244_9 {n : Nat} {f : Nat → Int32} {d : Nat} {x0 : Int} {σ : ra_V} (hx0 : ra_in x0) (hw : WF σ) (hp : 0 ≤ x0 ∧ x0 < 8 ∧ wq σ x0 0 = 1) : ∀ (nn : Nat) (v2 : Int) (hv2_0 : -1 ≤ v2 ∧ v2 < 600) (hm : ((v2 - wq σ x0 1 : Int)).toNat < nn), ra_P (g_Gs n f) g_sh 0 (d + 4) g_m_X8_rightOf 9 [some (.index (179)), some (ra_I x0), some (ra_I v2)] [] σ (fun r s => (∃ z, ra_in z ∧ (z = -1 ∨ (0 ≤ z ∧ z ≤ 600 ∧ MOK σ x0 z)) ∧ r = .inl (some (ra_I z))) ∧ s = σ) := by
  intro nn
  induction nn with
  | zero => intro v2 hv2_0 hm; exact absurd hm (Nat.not_lt_zero _)
  | succ nn ih =>
    intro v2 hv2_0 hm
    have hw0 := WF_a hw
    unfold WFa at hw0
    have hq := WF_p hw hp.1 hp.2.1 hp.2.2
    refine ra_load rfl rfl rfl rfl ?_
    refine ra_load rfl rfl rfl rfl ?_
    refine ra_load rfl rfl rfl rfl ?_
    refine ra_iconst rfl ?_
    refine ra_cTp (sp_199 hx0 (by first | omega | (unfold ra_in at *; omega)) (by first | assumption | rfl | omega)) rfl (ct_199 rfl lk_8_67 (Or.inl rfl) sh_179 (Nat.le_of_ble_eq_true rfl)) ?_
    have hr3 : ra_in (wq σ x0 (1)) := (ra_in_wq _ _ _)
    refine ra_icle rfl rfl (by first | omega | (unfold ra_in at *; omega)) hr3 (fun h4 => ?_) (fun h4 => ?_)
    · refine ra_iconst rfl ?_
      exact ra_ireturn rfl rfl ⟨⟨_, (by first | omega | (unfold ra_in at *; omega)), (Or.inl rfl), rfl⟩, rfl⟩
    · refine ra_load rfl rfl rfl rfl ?_
      refine ra_load rfl rfl rfl rfl ?_
      refine ra_load rfl rfl rfl rfl ?_
      refine ra_cIPp (sp_223 hx0 (by first | omega | (unfold ra_in at *; omega)) hw (by first | assumption | omega)) rfl (ct_223 rfl lk_8_183 (Or.inl rfl) sh_179 (Nat.le_of_ble_eq_true rfl)) (fun z6 hz6 hz6p => ?_)
      refine ra_ifne rfl rfl hz6 (fun h7 => ?_) (fun h7 => ?_)
      · refine ra_iinc (L' := [_, _, _]) rfl rfl (Nat.le_of_ble_eq_true rfl) rfl ?_
        refine ra_goto rfl rfl ?_
        exact ra_weak (by repeat' constructor) (ih (v2 + (-1)) (by first | omega | (unfold ra_in at *; omega)) (by first | omega | (unfold ra_in at *; omega)))
      · refine ra_load rfl rfl rfl rfl ?_
        exact ra_ireturn rfl rfl ⟨⟨_, (by first | omega | (unfold ra_in at *; omega)), (Or.inr ⟨by omega, by omega, hz6p (by omega)⟩), rfl⟩, rfl⟩
theorem sp_244 {n : Nat} {f : Nat → Int32} {d : Nat} {x0 : Int} {σ : ra_V} (hx0 : ra_in x0) (hw : WF σ) (hp : 0 ≤ x0 ∧ x0 < 8 ∧ wq σ x0 0 = 1) : ra_C (g_Gs n f) g_sh 0 (d + 5) 244 [.index (179), ra_I x0] σ (fun r s => (∃ z, ra_in z ∧ (z = -1 ∨ (0 ≤ z ∧ z ≤ 600 ∧ MOK σ x0 z)) ∧ r = .inl (some (ra_I z))) ∧ s = σ) := by
  refine ra_enter (nn := 1) mt_244 rfl (Nat.le_of_ble_eq_true rfl) rfl (fun h => absurd h (by decide +kernel)) ?_
  have hw0 := WF_a hw
  unfold WFa at hw0
  have hq := WF_p hw hp.1 hp.2.1 hp.2.2
  refine ra_load rfl rfl rfl rfl ?_
  refine ra_getR rfl lk_8_7 (Nat.zero_le _) sh_179 rfl ?_
  refine ra_iconst rfl ?_
  refine ra_ialoadJ (j := 0) rfl sh_180 rfl (by decide) rfl (by decide) ?_
  have hr1 : ra_in (ra_g σ (180) 0) := (ra_in_g _ _ _)
  refine ra_iconst rfl ?_
  refine ra_isub rfl ?_
  refine ra_store (L' := [_, _, _]) rfl rfl rfl (Nat.le_of_ble_eq_true rfl) rfl ?_
  exact ra_weak (by repeat' constructor) (lp_244_9 hx0 hw hp _ ((ra_g σ (180) 0) - (1)) (by first | omega | (unfold ra_in at *; omega)) (Nat.lt_succ_self _))
theorem lp_309_2 {n : Nat} {f : Nat → Int32} {d : Nat} {x0 : Int} {σ : ra_V} (hx0 : ra_in x0) (hw : WF σ) (hp : 0 ≤ x0 ∧ x0 < 8 ∧ wq σ x0 0 = 1) : ∀ (nn : Nat) (v2 : Int) (hv2_0 : 0 ≤ v2) (hv2_1 : v2 ≤ 8) (hv2_2 : NN σ x0 v2) (hm : ((8 - v2 : Int)).toNat < nn), ra_P (g_Gs n f) g_sh 0 (d + 1) g_m_X8_neighbour 2 [some (.index (179)), some (ra_I x0), some (ra_I v2)] [] σ (fun r s => (∃ z, ra_in z ∧ ((z = -1 ∧ NN σ x0 8) ∨ (0 ≤ z ∧ z < 8 ∧ wq σ z 0 = 1 ∧ wq σ z 1 = wq σ x0 1 + wq σ x0 2)) ∧ r = .inl (some (ra_I z))) ∧ s = σ) := by
  intro nn
  induction nn with
  | zero => intro v2 hv2_0 hv2_1 hv2_2 hm; exact absurd hm (Nat.not_lt_zero _)
  | succ nn ih =>
    intro v2 hv2_0 hv2_1 hv2_2 hm
    have hw0 := WF_a hw
    unfold WFa at hw0
    have hq := WF_p hw hp.1 hp.2.1 hp.2.2
    refine ra_load rfl rfl rfl rfl ?_
    refine ra_bipush rfl (by decide) ?_
    refine ra_icge rfl rfl (by first | omega | (unfold ra_in at *; omega)) (by first | omega | (unfold ra_in at *; omega)) (fun h1 => ?_) (fun h1 => ?_)
    · refine ra_iconst rfl ?_
      exact ra_ireturn rfl rfl ⟨⟨_, (by first | omega | (unfold ra_in at *; omega)), (Or.inl ⟨rfl, by obtain rfl : v2 = 8 := (by omega); exact hv2_2⟩), rfl⟩, rfl⟩
    · refine ra_load rfl rfl rfl rfl ?_
      refine ra_load rfl rfl rfl rfl ?_
      refine ra_iconst rfl ?_
      refine ra_cTp (sp_199 (by first | omega | (unfold ra_in at *; omega)) (by first | omega | (unfold ra_in at *; omega)) (by first | assumption | rfl | omega)) rfl (ct_199 rfl lk_8_67 (Or.inl rfl) sh_179 (Nat.le_of_ble_eq_true rfl)) ?_
      have hr3 : ra_in (wq σ v2 (0)) := (ra_in_wq _ _ _)
      refine ra_iconst rfl ?_
      refine ra_icne rfl rfl hr3 (by first | omega | (unfold ra_in at *; omega)) (fun h4 => ?_) (fun h4 => ?_)
      · refine ra_iinc (L' := [_, _, _]) rfl rfl (Nat.le_of_ble_eq_true rfl) rfl ?_
        refine ra_goto rfl rfl ?_
        exact ra_weak (by repeat' constructor) (ih (v2 + 1) (by first | omega | (unfold ra_in at *; omega)) (by first | omega | (unfold ra_in at *; omega)) (nn_y hv2_2 (fun e => by omega)) (by first | omega | (unfold ra_in at *; omega)))
      · refine ra_load rfl rfl rfl rfl ?_
        refine ra_load rfl rfl rfl rfl ?_
        refine ra_iconst rfl ?_
        refine ra_cTp (sp_199 (by first | omega | (unfold ra_in at *; omega)) (by first | omega | (unfold ra_in at *; omega)) (by first | assumption | rfl | omega)) rfl (ct_199 rfl lk_8_67 (Or.inl rfl) sh_179 (Nat.le_of_ble_eq_true rfl)) ?_
        have hr6 : ra_in (wq σ v2 (1)) := (ra_in_wq _ _ _)
        refine ra_load rfl rfl rfl rfl ?_
        refine ra_load rfl rfl rfl rfl ?_
        refine ra_iconst rfl ?_
        refine ra_cTp (sp_199 hx0 (by first | omega | (unfold ra_in at *; omega)) (by first | assumption | rfl | omega)) rfl (ct_199 rfl lk_8_67 (Or.inl rfl) sh_179 (Nat.le_of_ble_eq_true rfl)) ?_
        have hr8 : ra_in (wq σ x0 (1)) := (ra_in_wq _ _ _)
        refine ra_load rfl rfl rfl rfl ?_
        refine ra_load rfl rfl rfl rfl ?_
        refine ra_iconst rfl ?_
        refine ra_cTp (sp_199 hx0 (by first | omega | (unfold ra_in at *; omega)) (by first | assumption | rfl | omega)) rfl (ct_199 rfl lk_8_67 (Or.inl rfl) sh_179 (Nat.le_of_ble_eq_true rfl)) ?_
        have hr10 : ra_in (wq σ x0 (2)) := (ra_in_wq _ _ _)
        refine ra_iadd rfl ?_
        refine ra_icne rfl rfl hr6 (by first | omega | (unfold ra_in at *; omega)) (fun h11 => ?_) (fun h11 => ?_)
        · refine ra_iinc (L' := [_, _, _]) rfl rfl (Nat.le_of_ble_eq_true rfl) rfl ?_
          refine ra_goto rfl rfl ?_
          exact ra_weak (by repeat' constructor) (ih (v2 + 1) (by first | omega | (unfold ra_in at *; omega)) (by first | omega | (unfold ra_in at *; omega)) (nn_y hv2_2 (fun e => by omega)) (by first | omega | (unfold ra_in at *; omega)))
        · refine ra_load rfl rfl rfl rfl ?_
          exact ra_ireturn rfl rfl ⟨⟨_, (by first | omega | (unfold ra_in at *; omega)), (Or.inr ⟨by omega, by omega, by omega, by omega⟩), rfl⟩, rfl⟩
theorem sp_309 {n : Nat} {f : Nat → Int32} {d : Nat} {x0 : Int} {σ : ra_V} (hx0 : ra_in x0) (hw : WF σ) (hp : 0 ≤ x0 ∧ x0 < 8 ∧ wq σ x0 0 = 1) : ra_C (g_Gs n f) g_sh 0 (d + 2) 309 [.index (179), ra_I x0] σ (fun r s => (∃ z, ra_in z ∧ ((z = -1 ∧ NN σ x0 8) ∨ (0 ≤ z ∧ z < 8 ∧ wq σ z 0 = 1 ∧ wq σ z 1 = wq σ x0 1 + wq σ x0 2)) ∧ r = .inl (some (ra_I z))) ∧ s = σ) := by
  refine ra_enter (nn := 1) mt_309 rfl (Nat.le_of_ble_eq_true rfl) rfl (fun h => absurd h (by decide +kernel)) ?_
  have hw0 := WF_a hw
  unfold WFa at hw0
  have hq := WF_p hw hp.1 hp.2.1 hp.2.2
  refine ra_iconst rfl ?_
  refine ra_store (L' := [_, _, _]) rfl rfl rfl (Nat.le_of_ble_eq_true rfl) rfl ?_
  exact ra_weak (by repeat' constructor) (lp_309_2 hx0 hw hp _ (0) (by first | omega | (unfold ra_in at *; omega)) (by first | omega | (unfold ra_in at *; omega)) nn_0 (Nat.lt_succ_self _))
theorem sp_310 {n : Nat} {f : Nat → Int32} {d : Nat} {x0 : Int} {σ : ra_V} (hx0 : ra_in x0) (hw : WF σ) (hp : 0 ≤ x0 ∧ x0 < 8 ∧ wq σ x0 0 = 1) : ra_C (g_Gs n f) g_sh 0 (d + 3) 310 [.index (179), ra_I x0] σ (fun r s => (∃ z : Int, (z = 0 ∨ z = 1) ∧ (z = 1 → CJ σ x0) ∧ r = .inl (some (ra_I z))) ∧ s = σ) := by
  refine ra_enter (nn := 1) mt_310 rfl (Nat.le_of_ble_eq_true rfl) rfl (fun h => absurd h (by decide +kernel)) ?_
  have hw0 := WF_a hw
  unfold WFa at hw0
  have hq := WF_p hw hp.1 hp.2.1 hp.2.2
  refine ra_load rfl rfl rfl rfl ?_
  refine ra_load rfl rfl rfl rfl ?_
  refine ra_cIPp (sp_309 hx0 hw (by first | assumption | omega)) rfl (ct_309 rfl lk_8_378 (Or.inl rfl) sh_179 (Nat.le_of_ble_eq_true rfl)) (fun z2 hz2 hz2p => ?_)
  refine ra_store (L' := [_, _, _]) rfl rfl rfl (Nat.le_of_ble_eq_true rfl) rfl ?_
  refine ra_load rfl rfl rfl rfl ?_
  refine ra_iconst rfl ?_
  refine ra_iceq rfl rfl hz2 (by first | omega | (unfold ra_in at *; omega)) (fun h3 => ?_) (fun h3 => ?_)
  · refine ra_iconst rfl ?_
    exact ra_ireturn rfl (ra_okB (Or.inl rfl)) ⟨⟨_, (Or.inl rfl), (fun hq => absurd hq (by decide)), rfl⟩, rfl⟩
  · refine ra_load rfl rfl rfl rfl ?_
    refine ra_load rfl rfl rfl rfl ?_
    refine ra_iconst rfl ?_
    refine ra_cTp (sp_199 hz2 (by first | omega | (unfold ra_in at *; omega)) (by first | assumption | rfl | omega)) rfl (ct_199 rfl lk_8_67 (Or.inl rfl) sh_179 (Nat.le_of_ble_eq_true rfl)) ?_
    have hr5 : ra_in (wq σ z2 (4)) := (ra_in_wq _ _ _)
    refine ra_load rfl rfl rfl rfl ?_
    refine ra_load rfl rfl rfl rfl ?_
    refine ra_iconst rfl ?_
    refine ra_cTp (sp_199 hx0 (by first | omega | (unfold ra_in at *; omega)) (by first | assumption | rfl | omega)) rfl (ct_199 rfl lk_8_67 (Or.inl rfl) sh_179 (Nat.le_of_ble_eq_true rfl)) ?_
    have hr7 : ra_in (wq σ x0 (4)) := (ra_in_wq _ _ _)
    refine ra_icne rfl rfl hr5 hr7 (fun h8 => ?_) (fun h8 => ?_)
    · refine ra_iconst rfl ?_
      exact ra_ireturn rfl (ra_okB (Or.inl rfl)) ⟨⟨_, (Or.inl rfl), (fun hq => absurd hq (by decide)), rfl⟩, rfl⟩
    · refine ra_load rfl rfl rfl rfl ?_
      refine ra_load rfl rfl rfl rfl ?_
      refine ra_cQPp (sp_205 hx0 (by first | assumption | rfl | omega)) rfl (ct_205 rfl lk_8_355 (Or.inl rfl) sh_179 (Nat.le_of_ble_eq_true rfl)) (fun z10 hz10 hz10p => ?_)
      refine ra_ifne rfl rfl (ra_in01 hz10) (fun h11 => ?_) (fun h11 => ?_)
      · refine ra_iconst rfl ?_
        exact ra_ireturn rfl (ra_okB (Or.inl rfl)) ⟨⟨_, (Or.inl rfl), (fun hq => absurd hq (by decide)), rfl⟩, rfl⟩
      · have hf1 := hz10p (by omega)
        refine ra_load rfl rfl rfl rfl ?_
        refine ra_load rfl rfl rfl rfl ?_
        refine ra_cQPp (sp_205 hz2 (by first | assumption | rfl | omega)) rfl (ct_205 rfl lk_8_355 (Or.inl rfl) sh_179 (Nat.le_of_ble_eq_true rfl)) (fun z13 hz13 hz13p => ?_)
        refine ra_ifne rfl rfl (ra_in01 hz13) (fun h14 => ?_) (fun h14 => ?_)
        · refine ra_iconst rfl ?_
          exact ra_ireturn rfl (ra_okB (Or.inl rfl)) ⟨⟨_, (Or.inl rfl), (fun hq => absurd hq (by decide)), rfl⟩, rfl⟩
        · have hf2 := hz13p (by omega)
          refine ra_iconst rfl ?_
          refine ra_goto rfl rfl ?_
          exact ra_ireturn rfl (ra_okB (Or.inr rfl)) ⟨⟨_, (Or.inr rfl), (fun _ => ⟨z2, by omega, by omega, by omega, by omega, hf1.2, hf2.2⟩), rfl⟩, rfl⟩
theorem lp_274_4 {n : Nat} {f : Nat → Int32} {d : Nat} {x0 : Int} {σ : ra_V} (hx0 : ra_in x0) (hw : WF σ) (hp : 0 ≤ x0 ∧ x0 < 8 ∧ wq σ x0 0 = 1) : ∀ (nn : Nat) (v2 : Int) (v3 : Int) (hv2_0 : v2 = 0 ∨ v2 = 1) (hv3_0 : 0 ≤ v3 ∧ v3 ≤ 600) (hm : ((wq σ x0 2 - v3 : Int)).toNat < nn), ra_P (g_Gs n f) g_sh 0 (d + 5) g_m_X8_whole 4 [some (.index (179)), some (ra_I x0), some (ra_I v2), some (ra_I v3)] [] σ (fun r s => rB r ∧ s = σ) := by
  intro nn
  induction nn with
  | zero => intro v2 v3 hv2_0 hv3_0 hm; exact absurd hm (Nat.not_lt_zero _)
  | succ nn ih =>
    intro v2 v3 hv2_0 hv3_0 hm
    have hw0 := WF_a hw
    unfold WFa at hw0
    have hq := WF_p hw hp.1 hp.2.1 hp.2.2
    refine ra_load rfl rfl rfl rfl ?_
    refine ra_load rfl rfl rfl rfl ?_
    refine ra_load rfl rfl rfl rfl ?_
    refine ra_iconst rfl ?_
    refine ra_cTp (sp_199 hx0 (by first | omega | (unfold ra_in at *; omega)) (by first | assumption | rfl | omega)) rfl (ct_199 rfl lk_8_67 (Or.inl rfl) sh_179 (Nat.le_of_ble_eq_true rfl)) ?_
    have hr2 : ra_in (wq σ x0 (2)) := (ra_in_wq _ _ _)
    refine ra_icge rfl rfl (by first | omega | (unfold ra_in at *; omega)) hr2 (fun h3 => ?_) (fun h3 => ?_)
    · refine ra_load rfl rfl rfl rfl ?_
      exact ra_ireturn rfl (ra_okB hv2_0) ⟨⟨_, hv2_0, rfl⟩, rfl⟩
    · refine ra_load rfl rfl rfl rfl ?_
      refine ra_ifeq rfl rfl (ra_in01 hv2_0) (fun h4 => ?_) (fun h4 => ?_)
      · refine ra_iconst rfl ?_
        refine ra_store (L' := [_, _, _, _]) rfl rfl rfl (Nat.le_of_ble_eq_true rfl) rfl ?_
        refine ra_iinc (L' := [_, _, _, _]) rfl rfl (Nat.le_of_ble_eq_true rfl) rfl ?_
        refine ra_goto rfl rfl ?_
        exact ra_weak (by repeat' constructor) (ih (0) (v3 + 1) (Or.inl rfl) (by first | omega | (unfold ra_in at *; omega)) (by first | omega | (unfold ra_in at *; omega)))
      · refine ra_load rfl rfl rfl rfl ?_
        refine ra_getR rfl lk_8_7 (Nat.zero_le _) sh_179 rfl ?_
        refine ra_bipush rfl (by decide) ?_
        refine ra_load rfl rfl rfl rfl ?_
        refine ra_load rfl rfl rfl rfl ?_
        refine ra_load rfl rfl rfl rfl ?_
        refine ra_cIPp (sp_242 hx0 (by first | omega | (unfold ra_in at *; omega)) hw (by first | assumption | omega) (by first | assumption | rfl | omega)) rfl (ct_242 rfl lk_8_324 (Or.inl rfl) sh_179 (Nat.le_of_ble_eq_true rfl)) (fun z6 hz6 hz6p => ?_)
        refine ra_iadd rfl ?_
        refine ra_iaload rfl sh_180 rfl (by decide) (by first | omega | (unfold ra_in at *; omega)) (by first | omega | (unfold ra_in at *; omega)) ?_
        have hr7 : ra_in (ra_g σ (180) ((88) + z6).toNat) := (ra_in_g _ _ _)
        refine ra_load rfl rfl rfl rfl ?_
        refine ra_load rfl rfl rfl rfl ?_
        refine ra_load rfl rfl rfl rfl ?_
        refine ra_cIp (sp_207 hx0 (by first | omega | (unfold ra_in at *; omega)) (by first | assumption | rfl | omega)) rfl (ct_207 rfl lk_8_75 (Or.inl rfl) sh_179 (Nat.le_of_ble_eq_true rfl)) (fun z9 hz9 => ?_)
        refine ra_icne rfl rfl hr7 hz9 (fun h10 => ?_) (fun h10 => ?_)
        · refine ra_iconst rfl ?_
          refine ra_store (L' := [_, _, _, _]) rfl rfl rfl (Nat.le_of_ble_eq_true rfl) rfl ?_
          refine ra_iinc (L' := [_, _, _, _]) rfl rfl (Nat.le_of_ble_eq_true rfl) rfl ?_
          refine ra_goto rfl rfl ?_
          exact ra_weak (by repeat' constructor) (ih (0) (v3 + 1) (Or.inl rfl) (by first | omega | (unfold ra_in at *; omega)) (by first | omega | (unfold ra_in at *; omega)))
        · refine ra_iconst rfl ?_
          refine ra_goto rfl rfl ?_
          refine ra_store (L' := [_, _, _, _]) rfl rfl rfl (Nat.le_of_ble_eq_true rfl) rfl ?_
          refine ra_iinc (L' := [_, _, _, _]) rfl rfl (Nat.le_of_ble_eq_true rfl) rfl ?_
          refine ra_goto rfl rfl ?_
          exact ra_weak (by repeat' constructor) (ih (1) (v3 + 1) (Or.inr rfl) (by first | omega | (unfold ra_in at *; omega)) (by first | omega | (unfold ra_in at *; omega)))
theorem sp_274 {n : Nat} {f : Nat → Int32} {d : Nat} {x0 : Int} {σ : ra_V} (hx0 : ra_in x0) (hw : WF σ) (hp : 0 ≤ x0 ∧ x0 < 8 ∧ wq σ x0 0 = 1) : ra_C (g_Gs n f) g_sh 0 (d + 6) 274 [.index (179), ra_I x0] σ (fun r s => rB r ∧ s = σ) := by
  refine ra_enter (nn := 2) mt_274 rfl (Nat.le_of_ble_eq_true rfl) rfl (fun h => absurd h (by decide +kernel)) ?_
  have hw0 := WF_a hw
  unfold WFa at hw0
  have hq := WF_p hw hp.1 hp.2.1 hp.2.2
  refine ra_iconst rfl ?_
  refine ra_store (L' := [_, _, _, _]) rfl rfl rfl (Nat.le_of_ble_eq_true rfl) rfl ?_
  refine ra_iconst rfl ?_
  refine ra_store (L' := [_, _, _, _]) rfl rfl rfl (Nat.le_of_ble_eq_true rfl) rfl ?_
  exact ra_weak (by repeat' constructor) (lp_274_4 hx0 hw hp _ (1) (0) (Or.inr rfl) (by first | omega | (unfold ra_in at *; omega)) (Nat.lt_succ_self _))
theorem lp_278_8 {n : Nat} {f : Nat → Int32} {d : Nat} {x0 : Int} {σ : ra_V} (hx0 : ra_in x0) (hw : WF σ) : ∀ (nn : Nat) (v2 : Int) (v3 : Int) (hv2_0 : v2 = -1 ∨ (0 ≤ v2 ∧ v2 < 8 ∧ wq σ v2 0 = 1)) (hv3_0 : ra_in v3) (hm : ((x0 - v3 : Int)).toNat < nn), ra_P (g_Gs n f) g_sh 0 (d + 2) g_m_X8_standsAt 8 [some (.index (179)), some (ra_I x0), some (ra_I v2), some (ra_I v3)] [] σ (fun r s => (∃ z, ra_in z ∧ (z = -1 ∨ (0 ≤ z ∧ z < 8 ∧ wq σ z 0 = 1)) ∧ r = .inl (some (ra_I z))) ∧ s = σ) := by
  intro nn
  induction nn with
  | zero => intro v2 v3 hv2_0 hv3_0 hm; exact absurd hm (Nat.not_lt_zero _)
  | succ nn ih =>
    intro v2 v3 hv2_0 hv3_0 hm
    refine ra_load rfl rfl rfl rfl ?_
    refine ra_load rfl rfl rfl rfl ?_
    refine ra_icge rfl rfl (by first | omega | (unfold ra_in at *; omega)) hx0 (fun h3 => ?_) (fun h3 => ?_)
    · refine ra_load rfl rfl rfl rfl ?_
      exact ra_ireturn rfl rfl ⟨⟨_, (by first | omega | (unfold ra_in at *; omega)), (by omega), rfl⟩, rfl⟩
    · refine ra_load rfl rfl rfl rfl ?_
      refine ra_iconst rfl ?_
      refine ra_iceq rfl rfl (by first | omega | (unfold ra_in at *; omega)) (by first | omega | (unfold ra_in at *; omega)) (fun h4 => ?_) (fun h4 => ?_)
      · refine ra_load rfl rfl rfl rfl ?_
        exact ra_ireturn rfl rfl ⟨⟨_, (by first | omega | (unfold ra_in at *; omega)), (by omega), rfl⟩, rfl⟩
      · refine ra_load rfl rfl rfl rfl ?_
        refine ra_load rfl rfl rfl rfl ?_
        refine ra_load rfl rfl rfl rfl ?_
        refine ra_iconst rfl ?_
        refine ra_cTp (sp_199 (by first | omega | (unfold ra_in at *; omega)) (by first | omega | (unfold ra_in at *; omega)) (by first | assumption | rfl | omega)) rfl (ct_199 rfl lk_8_67 (Or.inl rfl) sh_179 (Nat.le_of_ble_eq_true rfl)) ?_
        have hr6 : ra_in (wq σ v2 (1)) := (ra_in_wq _ _ _)
        refine ra_cIPp (sp_277 hr6) rfl (ct_277 rfl lk_8_333 (Or.inl rfl) sh_179 (Nat.le_of_ble_eq_true rfl)) (fun z8 hz8 hz8p => ?_)
        refine ra_store (L' := [_, _, _, _]) rfl rfl rfl (Nat.le_of_ble_eq_true rfl) rfl ?_
        refine ra_iinc (L' := [_, _, _, _]) rfl rfl (Nat.le_of_ble_eq_true rfl) rfl ?_
        refine ra_goto rfl rfl ?_
        exact ra_weak (by repeat' constructor) (ih z8 (v3 + 1) (by have := hz8p.1; omega) (by first | omega | (unfold ra_in at *; omega)) (by first | omega | (unfold ra_in at *; omega)))
theorem sp_278 {n : Nat} {f : Nat → Int32} {d : Nat} {x0 : Int} {σ : ra_V} (hx0 : ra_in x0) (hw : WF σ) : ra_C (g_Gs n f) g_sh 0 (d + 3) 278 [.index (179), ra_I x0] σ (fun r s => (∃ z, ra_in z ∧ (z = -1 ∨ (0 ≤ z ∧ z < 8 ∧ wq σ z 0 = 1)) ∧ r = .inl (some (ra_I z))) ∧ s = σ) := by
  refine ra_enter (nn := 2) mt_278 rfl (Nat.le_of_ble_eq_true rfl) rfl (fun h => absurd h (by decide +kernel)) ?_
  refine ra_load rfl rfl rfl rfl ?_
  refine ra_iconst rfl ?_
  refine ra_cIPp (sp_277 (by first | omega | (unfold ra_in at *; omega))) rfl (ct_277 rfl lk_8_333 (Or.inl rfl) sh_179 (Nat.le_of_ble_eq_true rfl)) (fun z2 hz2 hz2p => ?_)
  refine ra_store (L' := [_, _, _, _]) rfl rfl rfl (Nat.le_of_ble_eq_true rfl) rfl ?_
  refine ra_iconst rfl ?_
  refine ra_store (L' := [_, _, _, _]) rfl rfl rfl (Nat.le_of_ble_eq_true rfl) rfl ?_
  exact ra_weak (by repeat' constructor) (lp_278_8 hx0 hw _ z2 (0) (by have := hz2p.1; omega) (by first | omega | (unfold ra_in at *; omega)) (Nat.lt_succ_self _))
end RB
