/-! the reference: what its methods do (printed by wip/gen/ref.py) -/
section RB
theorem sp_341 {n : Nat} {f : Nat → Int32} {d : Nat}  {σ : ra_V} (hw : WF σ) (hpw : PW σ) (hsv : ra_g σ 179 6 ≠ 0 → WF (rowV σ 183 0)) : ra_C (g_Gs n f) g_sh 0 (d + 3) 341 [.index (179)] σ (fun r s => rI r ∧ Fr (179) (191) σ s ∧ s (183) = σ (183) ∧ s (187) = σ (187) ∧ (∀ a, a ≠ 5 → a ≠ 7 → a ≠ 10 → ra_g s 179 a = ra_g σ 179 a) ∧ WF s ∧ PW s) := by
  refine ra_enter (nn := 0) mt_341 rfl (Nat.le_of_ble_eq_true rfl) rfl (fun h => absurd h (by decide +kernel)) ?_
  have hw0 := WF_a hw
  unfold WFa at hw0
  refine ra_load rfl rfl rfl rfl ?_
  refine ra_iconst rfl ?_
  refine ra_putI rfl lk_8_51 (Nat.zero_le _) sh_179 rfl rfl ?_
  refine ra_newU (by first | omega | (unfold ra_in at *; omega)) (fun s1 hs1 hp2 hp2o => ?_)
  have hp2_6 := hp2o 6 (by decide)
  have hp2_99 := hp2o 99 (by decide)
  have hF3 := Fr_tr (lo := 179) (hi := 191) Fr_rf hs1 (by omega)
  have hk4 : s1 (180) = σ (180) := (hs1 (180) (by omega))
  have hk5 : s1 (183) = σ (183) := (hs1 (183) (by omega))
  have hk6 : s1 (184) = σ (184) := (hs1 (184) (by omega))
  have hk7 : s1 (187) = σ (187) := (hs1 (187) (by omega))
  have hg8 : ∀ a, a ≠ 5 → a ≠ 7 → a ≠ 10 → ra_g s1 179 a = ra_g σ 179 a := fun a h5 h7 h10 => ((fun a h7 h10 => hp2o a h7) a h7 h10).trans ((fun _ _ _ _ => rfl) a h5 h7 h10)
  have ho9 : ∀ a, a ≠ 7 → a ≠ 10 → ra_g s1 179 a = ra_g σ 179 a := fun a h7 h10 => ((fun a h7 h10 => hp2o a h7) a h7 h10).trans ((fun _ _ _ => rfl) a h7 h10)
  refine ra_load rfl rfl rfl rfl ?_
  refine ra_load rfl rfl rfl rfl ?_
  refine ra_getB rfl lk_8_294 (Nat.zero_le _) sh_179 rfl ?_
  refine ra_ifneB rfl rfl (fun h10 => ?_) (fun h10 => ?_)
  · refine ra_iconst rfl ?_
    refine ra_iconst rfl ?_
    refine ra_cT (sp_193 (Or.inl rfl) (by first | omega | (unfold ra_in at *; omega))) rfl (ct_193 rfl lk_8_303 (Or.inl rfl) sh_179 (Nat.le_of_ble_eq_true rfl)) (fun s11 hs11 => ?_)
    obtain ⟨hf12, he13⟩ := hs11
    have hF14 := Fr_tr (lo := 179) (hi := 191) hF3 hf12 (by omega)
    have hk15 : s11 (180) = σ (180) := (hf12 (180) (by omega)).trans hk4
    have hk16 : s11 (183) = σ (183) := (hf12 (183) (by omega)).trans hk5
    have hk17 : s11 (184) = σ (184) := (hf12 (184) (by omega)).trans hk6
    have hk18 : s11 (187) = σ (187) := (hf12 (187) (by omega)).trans hk7
    have hg19 : ∀ a, a ≠ 5 → a ≠ 7 → a ≠ 10 → ra_g s11 179 a = ra_g σ 179 a := fun a h5 h7 h10 => ((fun a h7 h10 => he13 a h7) a h7 h10).trans (hg8 a h5 h7 h10)
    have ho20 : ∀ a, a ≠ 7 → a ≠ 10 → ra_g s11 179 a = ra_g σ 179 a := fun a h7 h10 => ((fun a h7 h10 => he13 a h7) a h7 h10).trans (ho9 a h7 h10)
    refine ra_ifeq rfl rfl (by first | omega | (unfold ra_in at *; omega)) (fun h21 => ?_) (fun h21 => ?_)
    · refine ra_load rfl rfl rfl rfl ?_
      refine ra_getR rfl lk_8_19 (Nat.zero_le _) sh_179 rfl ?_
      refine ra_iconst rfl ?_
      refine ra_load rfl rfl rfl rfl ?_
      refine ra_getR rfl lk_8_7 (Nat.zero_le _) sh_179 rfl ?_
      refine ra_iconst rfl ?_
      refine ra_sipush rfl (by decide) ?_
      refine ra_cV (sp_194 sh_183 (by decide) (by first | omega | (unfold ra_in at *; omega)) sh_180 (by decide) (by first | omega | (unfold ra_in at *; omega)) (by first | omega | (unfold ra_in at *; omega)) (by first | assumption | rfl | omega) (by first | assumption | rfl | omega)) rfl (ct_194 rfl lk_8_57 (Or.inl rfl) (Nat.le_of_ble_eq_true rfl)) (fun s22 hs22 => ?_)
      obtain ⟨hf23, he24⟩ := hs22
      have hF25 := Fr_tr (lo := 179) (hi := 191) hF14 hf23 (by omega)
      have hk26 : s22 (183) = σ (183) := (hf23 (183) (by omega)).trans hk16
      have hk27 : s22 (184) = σ (184) := (hf23 (184) (by omega)).trans hk17
      have hk28 : s22 (187) = σ (187) := (hf23 (187) (by omega)).trans hk18
      have hg29 : ∀ a, a ≠ 5 → a ≠ 7 → a ≠ 10 → ra_g s22 179 a = ra_g σ 179 a := fun a h5 h7 h10 => (ra_gk (hf23 179 (by omega))).trans (hg19 a h5 h7 h10)
      have ho30 : ∀ a, a ≠ 7 → a ≠ 10 → ra_g s22 179 a = ra_g σ 179 a := fun a h7 h10 => (ra_gk (hf23 179 (by omega))).trans (ho20 a h7 h10)
      refine ra_load rfl rfl rfl rfl ?_
      refine ra_iconst rfl ?_
      refine ra_putI rfl lk_8_54 (Nat.zero_le _) sh_179 rfl rfl ?_
      refine ra_newU (by first | omega | (unfold ra_in at *; omega)) (fun s31 hs31 hp32 hp32o => ?_)
      have hp32_6 := hp32o 6 (by decide)
      have hp32_99 := hp32o 99 (by decide)
      have hF33 := Fr_tr (lo := 179) (hi := 191) hF25 hs31 (by omega)
      have hk34 : s31 (183) = σ (183) := (hs31 (183) (by omega)).trans hk26
      have hk35 : s31 (184) = σ (184) := (hs31 (184) (by omega)).trans hk27
      have hk36 : s31 (187) = σ (187) := (hs31 (187) (by omega)).trans hk28
      have hg37 : ∀ a, a ≠ 5 → a ≠ 7 → a ≠ 10 → ra_g s31 179 a = ra_g σ 179 a := fun a h5 h7 h10 => ((fun a h5 h7 h10 => hp32o a h5) a h5 h7 h10).trans (hg29 a h5 h7 h10)
      refine ra_load rfl rfl rfl rfl ?_
      refine ra_cIPp (sp_202 (rs_w (hsv (by omega)) ((hf12 183 (by omega)).trans (hs1 183 (by omega))) he24 (hs31 180 (by omega)) hp32).1) rfl (ct_202 rfl lk_8_298 (Or.inl rfl) sh_179 (Nat.le_of_ble_eq_true rfl)) (fun z39 hz39 hz39p => ?_)
      exact ra_ireturn rfl rfl ⟨⟨_, hz39, rfl⟩, ⟨hF33, hk34, hk36, hg37, (rs_w (hsv (by omega)) ((hf12 183 (by omega)).trans (hs1 183 (by omega))) he24 (hs31 180 (by omega)) hp32)⟩⟩
    · exact absurd h21 (by decide)
  · refine ra_iconst rfl ?_
    refine ra_goto rfl rfl ?_
    refine ra_iconst rfl ?_
    refine ra_cT (sp_193 (Or.inr rfl) (by first | omega | (unfold ra_in at *; omega))) rfl (ct_193 rfl lk_8_303 (Or.inl rfl) sh_179 (Nat.le_of_ble_eq_true rfl)) (fun s40 hs40 => ?_)
    obtain ⟨hf41, he42⟩ := hs40
    have hF43 := Fr_tr (lo := 179) (hi := 191) hF3 hf41 (by omega)
    have hk44 : s40 (180) = σ (180) := (hf41 (180) (by omega)).trans hk4
    have hk45 : s40 (183) = σ (183) := (hf41 (183) (by omega)).trans hk5
    have hk46 : s40 (184) = σ (184) := (hf41 (184) (by omega)).trans hk6
    have hk47 : s40 (187) = σ (187) := (hf41 (187) (by omega)).trans hk7
    have hg48 : ∀ a, a ≠ 5 → a ≠ 7 → a ≠ 10 → ra_g s40 179 a = ra_g σ 179 a := fun a h5 h7 h10 => ((fun a h7 h10 => he42 a h7) a h7 h10).trans (hg8 a h5 h7 h10)
    have ho49 : ∀ a, a ≠ 7 → a ≠ 10 → ra_g s40 179 a = ra_g σ 179 a := fun a h7 h10 => ((fun a h7 h10 => he42 a h7) a h7 h10).trans (ho9 a h7 h10)
    refine ra_ifeq rfl rfl (by first | omega | (unfold ra_in at *; omega)) (fun h50 => ?_) (fun h50 => ?_)
    · exact absurd h50 (by decide)
    · refine ra_iconst rfl ?_
      exact ra_ireturn rfl rfl ⟨⟨_, (by first | omega | (unfold ra_in at *; omega)), rfl⟩, ⟨hF43, hk45, hk47, hg48, (WF_k hk44 hw), (PW_k hpw (ho49 5 (by decide) (by decide)) hk46)⟩⟩
end RB
