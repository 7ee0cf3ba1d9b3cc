/-! the reference: what its methods do (printed by wip/gen/ref.py) -/
section RB
theorem sp_321 {n : Nat} {f : Nat → Int32} {d : Nat} {x0 : Int} {σ : ra_V} (hx0 : ra_in x0) (hw : WF σ) : ra_C (g_Gs n f) g_sh 0 (d + 4) 321 [.index (179), ra_I x0] σ (fun r s => rI r ∧ Fr (179) (187) σ s ∧ s (180) = σ (180) ∧ s (181) = σ (181) ∧ s (182) = σ (182) ∧ s (183) = σ (183) ∧ s (184) = σ (184) ∧ (∀ a, a ≠ 7 → a ≠ 10 → ra_g s 179 a = ra_g σ 179 a)) := by
  refine ra_enter (nn := 0) mt_321 rfl (Nat.le_of_ble_eq_true rfl) rfl (fun h => absurd h (by decide +kernel)) ?_
  have hw0 := WF_a hw
  unfold WFa at hw0
  refine ra_load rfl rfl rfl rfl ?_
  refine ra_iconst rfl ?_
  refine ra_putI rfl lk_8_51 (Nat.zero_le _) sh_179 rfl rfl ?_
  refine ra_newU (by first | omega | (unfold ra_in at *; omega)) (fun s1 hs1 hp2 hp2o => ?_)
  have hp2_99 := hp2o 99 (by decide)
  have hF3 := Fr_tr (lo := 179) (hi := 187) Fr_rf hs1 (by omega)
  have hk4 : s1 (180) = σ (180) := (hs1 (180) (by omega))
  have hk5 : s1 (181) = σ (181) := (hs1 (181) (by omega))
  have hk6 : s1 (182) = σ (182) := (hs1 (182) (by omega))
  have hk7 : s1 (183) = σ (183) := (hs1 (183) (by omega))
  have hk8 : s1 (184) = σ (184) := (hs1 (184) (by omega))
  have ho9 : ∀ a, a ≠ 7 → a ≠ 10 → ra_g s1 179 a = ra_g σ 179 a := fun a h7 h10 => ((fun a h7 h10 => hp2o a h7) a h7 h10).trans ((fun _ _ _ => rfl) a h7 h10)
  refine ra_load rfl rfl rfl rfl ?_
  refine ra_load rfl rfl rfl rfl ?_
  refine ra_i2l rfl hx0 ?_
  refine ra_lconst0 rfl ?_
  refine ra_ldc2 (z := 8) rfl lk_8_402 (by decide) ?_
  refine ra_cTp (sp_192 hx0 (by first | omega | (unfold ra_in at *; omega)) (by first | omega | (unfold ra_in at *; omega))) rfl (ct_192 rfl lk_8_63 (Or.inl rfl) (Nat.le_of_ble_eq_true rfl)) ?_
  refine ra_ifneB rfl rfl (fun h11 => ?_) (fun h11 => ?_)
  · refine ra_iconst rfl ?_
    refine ra_iconst rfl ?_
    refine ra_cT (sp_193 (Or.inl rfl) (by first | omega | (unfold ra_in at *; omega))) rfl (ct_193 rfl lk_8_303 (Or.inl rfl) sh_179 (Nat.le_of_ble_eq_true rfl)) (fun s12 hs12 => ?_)
    obtain ⟨hf13, he14⟩ := hs12
    have hF15 := Fr_tr (lo := 179) (hi := 187) hF3 hf13 (by omega)
    have hk16 : s12 (180) = σ (180) := (hf13 (180) (by omega)).trans hk4
    have hk17 : s12 (181) = σ (181) := (hf13 (181) (by omega)).trans hk5
    have hk18 : s12 (182) = σ (182) := (hf13 (182) (by omega)).trans hk6
    have hk19 : s12 (183) = σ (183) := (hf13 (183) (by omega)).trans hk7
    have hk20 : s12 (184) = σ (184) := (hf13 (184) (by omega)).trans hk8
    have ho21 : ∀ a, a ≠ 7 → a ≠ 10 → ra_g s12 179 a = ra_g σ 179 a := fun a h7 h10 => ((fun a h7 h10 => he14 a h7) a h7 h10).trans (ho9 a h7 h10)
    refine ra_ifeq rfl rfl (by first | omega | (unfold ra_in at *; omega)) (fun h22 => ?_) (fun h22 => ?_)
    · refine ra_load rfl rfl rfl rfl ?_
      refine ra_cQPp (sp_203 ) rfl (ct_203 rfl lk_8_95 (Or.inl rfl) sh_179 (Nat.le_of_ble_eq_true rfl)) (fun z24 hz24 hz24p => ?_)
      refine ra_ifne rfl rfl (ra_in01 hz24) (fun h25 => ?_) (fun h25 => ?_)
      · refine ra_load rfl rfl rfl rfl ?_
        by_cases h26 : x0 = 0
        · refine ra_switch (t := 88) rfl hx0 ⟨by decide, by decide, by decide⟩ (Or.inl ⟨(0, 46), by rw [h26]; rfl, rfl⟩) ?_
          refine ra_load rfl rfl rfl rfl ?_
          refine ra_getR rfl lk_8_7 (Nat.zero_le _) sh_179 rfl ?_
          refine ra_bipush rfl (by decide) ?_
          refine ra_ialoadJ (j := 16) rfl sh_180 rfl (by decide) rfl (by decide) ?_
          rw [ra_gk hk16]
          have hr27 : ra_in (ra_g σ (180) 16) := (ra_in_g _ _ _)
          exact ra_ireturn rfl rfl ⟨⟨_, hr27, rfl⟩, ⟨hF15, hk16, hk17, hk18, hk19, hk20, ho21⟩⟩
        by_cases h28 : x0 = 1
        · refine ra_switch (t := 96) rfl hx0 ⟨by decide, by decide, by decide⟩ (Or.inl ⟨(1, 54), by rw [h28]; rfl, rfl⟩) ?_
          refine ra_load rfl rfl rfl rfl ?_
          refine ra_getR rfl lk_8_7 (Nat.zero_le _) sh_179 rfl ?_
          refine ra_bipush rfl (by decide) ?_
          refine ra_ialoadJ (j := 17) rfl sh_180 rfl (by decide) rfl (by decide) ?_
          rw [ra_gk hk16]
          have hr29 : ra_in (ra_g σ (180) 17) := (ra_in_g _ _ _)
          exact ra_ireturn rfl rfl ⟨⟨_, hr29, rfl⟩, ⟨hF15, hk16, hk17, hk18, hk19, hk20, ho21⟩⟩
        by_cases h30 : x0 = 2
        · refine ra_switch (t := 104) rfl hx0 ⟨by decide, by decide, by decide⟩ (Or.inl ⟨(2, 62), by rw [h30]; rfl, rfl⟩) ?_
          refine ra_load rfl rfl rfl rfl ?_
          refine ra_getR rfl lk_8_7 (Nat.zero_le _) sh_179 rfl ?_
          refine ra_bipush rfl (by decide) ?_
          refine ra_ialoadJ (j := 18) rfl sh_180 rfl (by decide) rfl (by decide) ?_
          rw [ra_gk hk16]
          have hr31 : ra_in (ra_g σ (180) 18) := (ra_in_g _ _ _)
          exact ra_ireturn rfl rfl ⟨⟨_, hr31, rfl⟩, ⟨hF15, hk16, hk17, hk18, hk19, hk20, ho21⟩⟩
        by_cases h32 : x0 = 3
        · refine ra_switch (t := 112) rfl hx0 ⟨by decide, by decide, by decide⟩ (Or.inl ⟨(3, 70), by rw [h32]; rfl, rfl⟩) ?_
          refine ra_load rfl rfl rfl rfl ?_
          refine ra_getR rfl lk_8_7 (Nat.zero_le _) sh_179 rfl ?_
          refine ra_bipush rfl (by decide) ?_
          refine ra_ialoadJ (j := 20) rfl sh_180 rfl (by decide) rfl (by decide) ?_
          rw [ra_gk hk16]
          have hr33 : ra_in (ra_g σ (180) 20) := (ra_in_g _ _ _)
          exact ra_ireturn rfl rfl ⟨⟨_, hr33, rfl⟩, ⟨hF15, hk16, hk17, hk18, hk19, hk20, ho21⟩⟩
        by_cases h34 : x0 = 4
        · refine ra_switch (t := 120) rfl hx0 ⟨by decide, by decide, by decide⟩ (Or.inl ⟨(4, 78), by rw [h34]; rfl, rfl⟩) ?_
          refine ra_load rfl rfl rfl rfl ?_
          refine ra_getR rfl lk_8_7 (Nat.zero_le _) sh_179 rfl ?_
          refine ra_bipush rfl (by decide) ?_
          refine ra_ialoadJ (j := 19) rfl sh_180 rfl (by decide) rfl (by decide) ?_
          rw [ra_gk hk16]
          have hr35 : ra_in (ra_g σ (180) 19) := (ra_in_g _ _ _)
          exact ra_ireturn rfl rfl ⟨⟨_, hr35, rfl⟩, ⟨hF15, hk16, hk17, hk18, hk19, hk20, ho21⟩⟩
        by_cases h36 : x0 = 5
        · refine ra_switch (t := 128) rfl hx0 ⟨by decide, by decide, by decide⟩ (Or.inl ⟨(5, 86), by rw [h36]; rfl, rfl⟩) ?_
          refine ra_load rfl rfl rfl rfl ?_
          refine ra_cTp (sp_227 (MV_f (WF_k hk16 hw) (by omega))) rfl (ct_227 rfl lk_8_150 (Or.inl rfl) sh_179 (Nat.le_of_ble_eq_true rfl)) ?_
          have hm38 := (MV_f (WF_k hk16 hw) (by omega))
          unfold MF at hm38
          have hr39 : ra_in (rch s12) := (by first | omega | (unfold ra_in at *; omega))
          exact ra_ireturn rfl rfl ⟨⟨_, hr39, rfl⟩, ⟨hF15, hk16, hk17, hk18, hk19, hk20, ho21⟩⟩
        by_cases h40 : x0 = 6
        · refine ra_switch (t := 133) rfl hx0 ⟨by decide, by decide, by decide⟩ (Or.inl ⟨(6, 91), by rw [h40]; rfl, rfl⟩) ?_
          refine ra_load rfl rfl rfl rfl ?_
          refine ra_getR rfl lk_8_7 (Nat.zero_le _) sh_179 rfl ?_
          refine ra_bipush rfl (by decide) ?_
          refine ra_ialoadJ (j := 21) rfl sh_180 rfl (by decide) rfl (by decide) ?_
          rw [ra_gk hk16]
          have hr41 : ra_in (ra_g σ (180) 21) := (ra_in_g _ _ _)
          exact ra_ireturn rfl rfl ⟨⟨_, hr41, rfl⟩, ⟨hF15, hk16, hk17, hk18, hk19, hk20, ho21⟩⟩
        by_cases h42 : x0 = 7
        · refine ra_switch (t := 141) rfl hx0 ⟨by decide, by decide, by decide⟩ (Or.inl ⟨(7, 99), by rw [h42]; rfl, rfl⟩) ?_
          refine ra_load rfl rfl rfl rfl ?_
          refine ra_cIp (sp_234 (MV_f (WF_k hk16 hw) (by omega))) rfl (ct_234 rfl lk_8_394 (Or.inl rfl) sh_179 (Nat.le_of_ble_eq_true rfl)) (fun z44 hz44 => ?_)
          exact ra_ireturn rfl rfl ⟨⟨_, hz44, rfl⟩, ⟨hF15, hk16, hk17, hk18, hk19, hk20, ho21⟩⟩
        refine ra_switch (t := 146) rfl hx0 ⟨by decide, by decide, by decide⟩ (Or.inr ⟨ra_sw_none (by simp only [List.length]; omega), rfl⟩) ?_
        refine ra_load rfl rfl rfl rfl ?_
        refine ra_getR rfl lk_8_7 (Nat.zero_le _) sh_179 rfl ?_
        refine ra_bipush rfl (by decide) ?_
        refine ra_ialoadJ (j := 22) rfl sh_180 rfl (by decide) rfl (by decide) ?_
        rw [ra_gk hk16]
        have hr45 : ra_in (ra_g σ (180) 22) := (ra_in_g _ _ _)
        exact ra_ireturn rfl rfl ⟨⟨_, hr45, rfl⟩, ⟨hF15, hk16, hk17, hk18, hk19, hk20, ho21⟩⟩
      · refine ra_iconst rfl ?_
        exact ra_ireturn rfl rfl ⟨⟨_, (by first | omega | (unfold ra_in at *; omega)), rfl⟩, ⟨hF15, hk16, hk17, hk18, hk19, hk20, ho21⟩⟩
    · exact absurd h22 (by decide)
  · refine ra_iconst rfl ?_
    refine ra_goto rfl rfl ?_
    refine ra_iconst rfl ?_
    refine ra_cT (sp_193 (Or.inr rfl) (by first | omega | (unfold ra_in at *; omega))) rfl (ct_193 rfl lk_8_303 (Or.inl rfl) sh_179 (Nat.le_of_ble_eq_true rfl)) (fun s46 hs46 => ?_)
    obtain ⟨hf47, he48⟩ := hs46
    have hF49 := Fr_tr (lo := 179) (hi := 187) hF3 hf47 (by omega)
    have hk50 : s46 (180) = σ (180) := (hf47 (180) (by omega)).trans hk4
    have hk51 : s46 (181) = σ (181) := (hf47 (181) (by omega)).trans hk5
    have hk52 : s46 (182) = σ (182) := (hf47 (182) (by omega)).trans hk6
    have hk53 : s46 (183) = σ (183) := (hf47 (183) (by omega)).trans hk7
    have hk54 : s46 (184) = σ (184) := (hf47 (184) (by omega)).trans hk8
    have ho55 : ∀ a, a ≠ 7 → a ≠ 10 → ra_g s46 179 a = ra_g σ 179 a := fun a h7 h10 => ((fun a h7 h10 => he48 a h7) a h7 h10).trans (ho9 a h7 h10)
    refine ra_ifeq rfl rfl (by first | omega | (unfold ra_in at *; omega)) (fun h56 => ?_) (fun h56 => ?_)
    · exact absurd h56 (by decide)
    · refine ra_iconst rfl ?_
      exact ra_ireturn rfl rfl ⟨⟨_, (by first | omega | (unfold ra_in at *; omega)), rfl⟩, ⟨hF49, hk50, hk51, hk52, hk53, hk54, ho55⟩⟩
theorem sp_323 {n : Nat} {f : Nat → Int32} {d : Nat} {x0 : Int} {σ : ra_V} (hx0 : ra_in x0) (hw : WF σ) : ra_C (g_Gs n f) g_sh 0 (d + 7) 323 [.index (179), ra_I x0] σ (fun r s => rI r ∧ Fr (179) (187) σ s ∧ s (180) = σ (180) ∧ s (181) = σ (181) ∧ s (182) = σ (182) ∧ s (183) = σ (183) ∧ s (184) = σ (184) ∧ (∀ a, a ≠ 7 → a ≠ 10 → ra_g s 179 a = ra_g σ 179 a)) := by
  refine ra_enter (nn := 0) mt_323 rfl (Nat.le_of_ble_eq_true rfl) rfl (fun h => absurd h (by decide +kernel)) ?_
  have hw0 := WF_a hw
  unfold WFa at hw0
  refine ra_load rfl rfl rfl rfl ?_
  refine ra_iconst rfl ?_
  refine ra_putI rfl lk_8_51 (Nat.zero_le _) sh_179 rfl rfl ?_
  refine ra_newU (by first | omega | (unfold ra_in at *; omega)) (fun s1 hs1 hp2 hp2o => ?_)
  have hp2_99 := hp2o 99 (by decide)
  have hF3 := Fr_tr (lo := 179) (hi := 187) Fr_rf hs1 (by omega)
  have hk4 : s1 (180) = σ (180) := (hs1 (180) (by omega))
  have hk5 : s1 (181) = σ (181) := (hs1 (181) (by omega))
  have hk6 : s1 (182) = σ (182) := (hs1 (182) (by omega))
  have hk7 : s1 (183) = σ (183) := (hs1 (183) (by omega))
  have hk8 : s1 (184) = σ (184) := (hs1 (184) (by omega))
  have ho9 : ∀ a, a ≠ 7 → a ≠ 10 → ra_g s1 179 a = ra_g σ 179 a := fun a h7 h10 => ((fun a h7 h10 => hp2o a h7) a h7 h10).trans ((fun _ _ _ => rfl) a h7 h10)
  refine ra_load rfl rfl rfl rfl ?_
  refine ra_load rfl rfl rfl rfl ?_
  refine ra_i2l rfl hx0 ?_
  refine ra_lconst0 rfl ?_
  refine ra_ldc2 (z := 3) rfl lk_8_339 (by decide) ?_
  refine ra_cTp (sp_192 hx0 (by first | omega | (unfold ra_in at *; omega)) (by first | omega | (unfold ra_in at *; omega))) rfl (ct_192 rfl lk_8_63 (Or.inl rfl) (Nat.le_of_ble_eq_true rfl)) ?_
  refine ra_ifneB rfl rfl (fun h11 => ?_) (fun h11 => ?_)
  · refine ra_iconst rfl ?_
    refine ra_iconst rfl ?_
    refine ra_cT (sp_193 (Or.inl rfl) (by first | omega | (unfold ra_in at *; omega))) rfl (ct_193 rfl lk_8_303 (Or.inl rfl) sh_179 (Nat.le_of_ble_eq_true rfl)) (fun s12 hs12 => ?_)
    obtain ⟨hf13, he14⟩ := hs12
    have hF15 := Fr_tr (lo := 179) (hi := 187) hF3 hf13 (by omega)
    have hk16 : s12 (180) = σ (180) := (hf13 (180) (by omega)).trans hk4
    have hk17 : s12 (181) = σ (181) := (hf13 (181) (by omega)).trans hk5
    have hk18 : s12 (182) = σ (182) := (hf13 (182) (by omega)).trans hk6
    have hk19 : s12 (183) = σ (183) := (hf13 (183) (by omega)).trans hk7
    have hk20 : s12 (184) = σ (184) := (hf13 (184) (by omega)).trans hk8
    have ho21 : ∀ a, a ≠ 7 → a ≠ 10 → ra_g s12 179 a = ra_g σ 179 a := fun a h7 h10 => ((fun a h7 h10 => he14 a h7) a h7 h10).trans (ho9 a h7 h10)
    refine ra_ifeq rfl rfl (by first | omega | (unfold ra_in at *; omega)) (fun h22 => ?_) (fun h22 => ?_)
    · refine ra_load rfl rfl rfl rfl ?_
      refine ra_cQPp (sp_203 ) rfl (ct_203 rfl lk_8_95 (Or.inl rfl) sh_179 (Nat.le_of_ble_eq_true rfl)) (fun z24 hz24 hz24p => ?_)
      refine ra_ifne rfl rfl (ra_in01 hz24) (fun h25 => ?_) (fun h25 => ?_)
      · refine ra_load rfl rfl rfl rfl ?_
        refine ra_ifne rfl rfl hx0 (fun h26 => ?_) (fun h26 => ?_)
        · refine ra_load rfl rfl rfl rfl ?_
          refine ra_iconst rfl ?_
          refine ra_icne rfl rfl hx0 (by first | omega | (unfold ra_in at *; omega)) (fun h27 => ?_) (fun h27 => ?_)
          · refine ra_load rfl rfl rfl rfl ?_
            refine ra_iconst rfl ?_
            refine ra_icne rfl rfl hx0 (by first | omega | (unfold ra_in at *; omega)) (fun h28 => ?_) (fun h28 => ?_)
            · refine ra_load rfl rfl rfl rfl ?_
              refine ra_cTp (sp_233 (MV_f (WF_k hk16 hw) (by omega))) rfl (ct_233 rfl lk_8_162 (Or.inl rfl) sh_179 (Nat.le_of_ble_eq_true rfl)) ?_
              have hm30 := (MV_f (WF_k hk16 hw) (by omega))
              unfold MF at hm30
              have hr31 : ra_in (rbn s12) := (by first | omega | (unfold ra_in at *; omega))
              exact ra_ireturn rfl rfl ⟨⟨_, hr31, rfl⟩, ⟨hF15, hk16, hk17, hk18, hk19, hk20, ho21⟩⟩
            · refine ra_load rfl rfl rfl rfl ?_
              refine ra_cTp (sp_232 (MV_f (WF_k hk16 hw) (by omega))) rfl (ct_232 rfl lk_8_156 (Or.inl rfl) sh_179 (Nat.le_of_ble_eq_true rfl)) ?_
              have hm33 := (MV_f (WF_k hk16 hw) (by omega))
              unfold MF at hm33
              have hr34 : ra_in (rfb s12) := (by first | omega | (unfold ra_in at *; omega))
              refine ra_goto rfl rfl ?_
              exact ra_ireturn rfl rfl ⟨⟨_, hr34, rfl⟩, ⟨hF15, hk16, hk17, hk18, hk19, hk20, ho21⟩⟩
          · refine ra_load rfl rfl rfl rfl ?_
            refine ra_cTp (sp_231 (MV_f (WF_k hk16 hw) (by omega))) rfl (ct_231 rfl lk_8_153 (Or.inl rfl) sh_179 (Nat.le_of_ble_eq_true rfl)) ?_
            have hm36 := (MV_f (WF_k hk16 hw) (by omega))
            unfold MF at hm36
            have hr37 : ra_in (rnx s12) := (by first | omega | (unfold ra_in at *; omega))
            refine ra_goto rfl rfl ?_
            exact ra_ireturn rfl rfl ⟨⟨_, hr37, rfl⟩, ⟨hF15, hk16, hk17, hk18, hk19, hk20, ho21⟩⟩
        · refine ra_load rfl rfl rfl rfl ?_
          refine ra_cIPp (sp_235 (MV_f (WF_k hk16 hw) (by omega))) rfl (ct_235 rfl lk_8_165 (Or.inl rfl) sh_179 (Nat.le_of_ble_eq_true rfl)) (fun z39 hz39 hz39p => ?_)
          refine ra_goto rfl rfl ?_
          exact ra_ireturn rfl rfl ⟨⟨_, hz39, rfl⟩, ⟨hF15, hk16, hk17, hk18, hk19, hk20, ho21⟩⟩
      · refine ra_iconst rfl ?_
        exact ra_ireturn rfl rfl ⟨⟨_, (by first | omega | (unfold ra_in at *; omega)), rfl⟩, ⟨hF15, hk16, hk17, hk18, hk19, hk20, ho21⟩⟩
    · exact absurd h22 (by decide)
  · refine ra_iconst rfl ?_
    refine ra_goto rfl rfl ?_
    refine ra_iconst rfl ?_
    refine ra_cT (sp_193 (Or.inr rfl) (by first | omega | (unfold ra_in at *; omega))) rfl (ct_193 rfl lk_8_303 (Or.inl rfl) sh_179 (Nat.le_of_ble_eq_true rfl)) (fun s40 hs40 => ?_)
    obtain ⟨hf41, he42⟩ := hs40
    have hF43 := Fr_tr (lo := 179) (hi := 187) hF3 hf41 (by omega)
    have hk44 : s40 (180) = σ (180) := (hf41 (180) (by omega)).trans hk4
    have hk45 : s40 (181) = σ (181) := (hf41 (181) (by omega)).trans hk5
    have hk46 : s40 (182) = σ (182) := (hf41 (182) (by omega)).trans hk6
    have hk47 : s40 (183) = σ (183) := (hf41 (183) (by omega)).trans hk7
    have hk48 : s40 (184) = σ (184) := (hf41 (184) (by omega)).trans hk8
    have ho49 : ∀ a, a ≠ 7 → a ≠ 10 → ra_g s40 179 a = ra_g σ 179 a := fun a h7 h10 => ((fun a h7 h10 => he42 a h7) a h7 h10).trans (ho9 a h7 h10)
    refine ra_ifeq rfl rfl (by first | omega | (unfold ra_in at *; omega)) (fun h50 => ?_) (fun h50 => ?_)
    · exact absurd h50 (by decide)
    · refine ra_iconst rfl ?_
      exact ra_ireturn rfl rfl ⟨⟨_, (by first | omega | (unfold ra_in at *; omega)), rfl⟩, ⟨hF43, hk44, hk45, hk46, hk47, hk48, ho49⟩⟩
theorem sp_324 {n : Nat} {f : Nat → Int32} {d : Nat} {x0 : Int} {x1 : Int} {σ : ra_V} (hx0 : ra_in x0) (hx1 : x1 = 0 ∨ x1 = 1) (hw : WF σ) : ra_C (g_Gs n f) g_sh 0 (d + 8) 324 [.index (179), ra_I x0, ra_I x1] σ (fun r s => rI r ∧ Fr (179) (187) σ s ∧ s (180) = σ (180) ∧ s (181) = σ (181) ∧ s (182) = σ (182) ∧ s (183) = σ (183) ∧ s (184) = σ (184) ∧ (∀ a, a ≠ 7 → a ≠ 10 → ra_g s 179 a = ra_g σ 179 a)) := by
  refine ra_enter (nn := 0) mt_324 rfl (Nat.le_of_ble_eq_true rfl) rfl (fun h => absurd h (by decide +kernel)) ?_
  have hw0 := WF_a hw
  unfold WFa at hw0
  refine ra_load rfl rfl rfl rfl ?_
  refine ra_iconst rfl ?_
  refine ra_putI rfl lk_8_51 (Nat.zero_le _) sh_179 rfl rfl ?_
  refine ra_newU (by first | omega | (unfold ra_in at *; omega)) (fun s1 hs1 hp2 hp2o => ?_)
  have hp2_99 := hp2o 99 (by decide)
  have hF3 := Fr_tr (lo := 179) (hi := 187) Fr_rf hs1 (by omega)
  have hk4 : s1 (180) = σ (180) := (hs1 (180) (by omega))
  have hk5 : s1 (181) = σ (181) := (hs1 (181) (by omega))
  have hk6 : s1 (182) = σ (182) := (hs1 (182) (by omega))
  have hk7 : s1 (183) = σ (183) := (hs1 (183) (by omega))
  have hk8 : s1 (184) = σ (184) := (hs1 (184) (by omega))
  have ho9 : ∀ a, a ≠ 7 → a ≠ 10 → ra_g s1 179 a = ra_g σ 179 a := fun a h7 h10 => ((fun a h7 h10 => hp2o a h7) a h7 h10).trans ((fun _ _ _ => rfl) a h7 h10)
  refine ra_load rfl rfl rfl rfl ?_
  refine ra_cQPp (sp_203 ) rfl (ct_203 rfl lk_8_95 (Or.inl rfl) sh_179 (Nat.le_of_ble_eq_true rfl)) (fun z11 hz11 hz11p => ?_)
  refine ra_ifeq rfl rfl (ra_in01 hz11) (fun h12 => ?_) (fun h12 => ?_)
  · refine ra_iconst rfl ?_
    exact ra_ireturn rfl rfl ⟨⟨_, (by first | omega | (unfold ra_in at *; omega)), rfl⟩, ⟨hF3, hk4, hk5, hk6, hk7, hk8, ho9⟩⟩
  · refine ra_load rfl rfl rfl rfl ?_
    refine ra_i2l rfl hx0 ?_
    refine ra_lconst0 rfl ?_
    refine ra_load rfl rfl rfl rfl ?_
    refine ra_cTp (sp_233 (MV_f (WF_k hk4 hw) (by omega))) rfl (ct_233 rfl lk_8_162 (Or.inl rfl) sh_179 (Nat.le_of_ble_eq_true rfl)) ?_
    have hm14 := (MV_f (WF_k hk4 hw) (by omega))
    unfold MF at hm14
    have hr15 : ra_in (rbn s1) := (by first | omega | (unfold ra_in at *; omega))
    refine ra_iconst rfl ?_
    refine ra_isub rfl ?_
    refine ra_i2l rfl (by first | omega | (unfold ra_in at *; omega)) ?_
    refine ra_cTp (sp_192 hx0 (by first | omega | (unfold ra_in at *; omega)) (by first | omega | (unfold ra_in at *; omega))) rfl (ct_192 rfl lk_8_63 (Or.inl rfl) (Nat.le_of_ble_eq_true rfl)) ?_
    refine ra_ifneB rfl rfl (fun h17 => ?_) (fun h17 => ?_)
    · refine ra_load rfl rfl rfl rfl ?_
      refine ra_ifeq rfl rfl (ra_in01 hx1) (fun h18 => ?_) (fun h18 => ?_)
      · refine ra_load rfl rfl rfl rfl ?_
        refine ra_load rfl rfl rfl rfl ?_
        refine ra_cIPp (sp_236 hx0 (MV_f (WF_k hk4 hw) (by omega)) (by first | assumption | rfl | omega)) rfl (ct_236 rfl lk_8_171 (Or.inl rfl) sh_179 (Nat.le_of_ble_eq_true rfl)) (fun z20 hz20 hz20p => ?_)
        exact ra_ireturn rfl rfl ⟨⟨_, hz20, rfl⟩, ⟨hF3, hk4, hk5, hk6, hk7, hk8, ho9⟩⟩
      · refine ra_load rfl rfl rfl rfl ?_
        refine ra_load rfl rfl rfl rfl ?_
        refine ra_cIPp (sp_237 hx0 (MV_f (WF_k hk4 hw) (by omega)) (by first | assumption | rfl | omega)) rfl (ct_237 rfl lk_8_168 (Or.inl rfl) sh_179 (Nat.le_of_ble_eq_true rfl)) (fun z22 hz22 hz22p => ?_)
        refine ra_goto rfl rfl ?_
        exact ra_ireturn rfl rfl ⟨⟨_, hz22, rfl⟩, ⟨hF3, hk4, hk5, hk6, hk7, hk8, ho9⟩⟩
    · refine ra_iconst rfl ?_
      exact ra_ireturn rfl rfl ⟨⟨_, (by first | omega | (unfold ra_in at *; omega)), rfl⟩, ⟨hF3, hk4, hk5, hk6, hk7, hk8, ho9⟩⟩
theorem sp_316 {n : Nat} {f : Nat → Int32} {d : Nat} {x0 : Int} {x1 : Int} {σ : ra_V} (hx0 : ra_in x0) (hx1 : ra_in x1) (hw : WF σ) : ra_C (g_Gs n f) g_sh 0 (d + 5) 316 [.index (179), ra_I x0, ra_I x1] σ (fun r s => rI r ∧ Fr (179) (187) σ s ∧ s (180) = σ (180) ∧ s (181) = σ (181) ∧ s (182) = σ (182) ∧ s (183) = σ (183) ∧ s (184) = σ (184) ∧ (∀ a, a ≠ 7 → a ≠ 10 → ra_g s 179 a = ra_g σ 179 a)) := by
  refine ra_enter (nn := 0) mt_316 rfl (Nat.le_of_ble_eq_true rfl) rfl (fun h => absurd h (by decide +kernel)) ?_
  have hw0 := WF_a hw
  unfold WFa at hw0
  refine ra_load rfl rfl rfl rfl ?_
  refine ra_iconst rfl ?_
  refine ra_putI rfl lk_8_51 (Nat.zero_le _) sh_179 rfl rfl ?_
  refine ra_newU (by first | omega | (unfold ra_in at *; omega)) (fun s1 hs1 hp2 hp2o => ?_)
  have hp2_99 := hp2o 99 (by decide)
  have hF3 := Fr_tr (lo := 179) (hi := 187) Fr_rf hs1 (by omega)
  have hk4 : s1 (180) = σ (180) := (hs1 (180) (by omega))
  have hk5 : s1 (181) = σ (181) := (hs1 (181) (by omega))
  have hk6 : s1 (182) = σ (182) := (hs1 (182) (by omega))
  have hk7 : s1 (183) = σ (183) := (hs1 (183) (by omega))
  have hk8 : s1 (184) = σ (184) := (hs1 (184) (by omega))
  have ho9 : ∀ a, a ≠ 7 → a ≠ 10 → ra_g s1 179 a = ra_g σ 179 a := fun a h7 h10 => ((fun a h7 h10 => hp2o a h7) a h7 h10).trans ((fun _ _ _ => rfl) a h7 h10)
  refine ra_load rfl rfl rfl rfl ?_
  refine ra_load rfl rfl rfl rfl ?_
  refine ra_iconst rfl ?_
  refine ra_cQP (sp_267 hx0 (by first | omega | (unfold ra_in at *; omega))) rfl (ct_267 rfl lk_8_318 (Or.inl rfl) sh_179 (Nat.le_of_ble_eq_true rfl)) (fun z11 s10 hz11 hz11p hs10 => ?_)
  rw [wq_k hk4] at hz11p
  obtain ⟨hf12, he13⟩ := hs10
  have hF14 := Fr_tr (lo := 179) (hi := 187) hF3 hf12 (by omega)
  have hk15 : s10 (180) = σ (180) := (hf12 (180) (by omega)).trans hk4
  have hk16 : s10 (181) = σ (181) := (hf12 (181) (by omega)).trans hk5
  have hk17 : s10 (182) = σ (182) := (hf12 (182) (by omega)).trans hk6
  have hk18 : s10 (183) = σ (183) := (hf12 (183) (by omega)).trans hk7
  have hk19 : s10 (184) = σ (184) := (hf12 (184) (by omega)).trans hk8
  have ho20 : ∀ a, a ≠ 7 → a ≠ 10 → ra_g s10 179 a = ra_g σ 179 a := fun a h7 h10 => ((fun a h7 h10 => he13 a h7) a h7 h10).trans (ho9 a h7 h10)
  refine ra_ifeq rfl rfl (ra_in01 hz11) (fun h21 => ?_) (fun h21 => ?_)
  · refine ra_load rfl rfl rfl rfl ?_
    refine ra_load rfl rfl rfl rfl ?_
    refine ra_load rfl rfl rfl rfl ?_
    refine ra_cIPp (sp_223 hx0 hx1 (WF_k hk15 hw) (sp_k hk15 rfl (hz11p (by omega)))) rfl (ct_223 rfl lk_8_183 (Or.inl rfl) sh_179 (Nat.le_of_ble_eq_true rfl)) (fun z23 hz23 hz23p => ?_)
    refine ra_ifne rfl rfl hz23 (fun h24 => ?_) (fun h24 => ?_)
    · refine ra_iconst rfl ?_
      exact ra_ireturn rfl rfl ⟨⟨_, (by first | omega | (unfold ra_in at *; omega)), rfl⟩, ⟨hF14, hk15, hk16, hk17, hk18, hk19, ho20⟩⟩
    · refine ra_load rfl rfl rfl rfl ?_
      refine ra_load rfl rfl rfl rfl ?_
      refine ra_load rfl rfl rfl rfl ?_
      refine ra_cIp (sp_226 hx0 hx1 (WF_k hk15 hw) (sp_k hk15 rfl (hz11p (by omega))) (mok_to (WF_k hk15 hw) (hz23p (by omega)))) rfl (ct_226 rfl lk_8_388 (Or.inl rfl) sh_179 (Nat.le_of_ble_eq_true rfl)) (fun z26 hz26 => ?_)
      refine ra_goto rfl rfl ?_
      exact ra_ireturn rfl rfl ⟨⟨_, hz26, rfl⟩, ⟨hF14, hk15, hk16, hk17, hk18, hk19, ho20⟩⟩
  · refine ra_iconst rfl ?_
    exact ra_ireturn rfl rfl ⟨⟨_, (by first | omega | (unfold ra_in at *; omega)), rfl⟩, ⟨hF14, hk15, hk16, hk17, hk18, hk19, ho20⟩⟩
end RB
