/-! the reference: what its methods do (printed by wip/gen/ref.py) -/
section RB
theorem sp_341 {n : Nat} {f : Nat → Int32} {d : Nat}  {σ : ra_V} (hw : WF σ) (hpw : PW σ) (hsv : ra_g σ 179 6 ≠ 0 → WF (rowV σ 183 0)) : ra_C (g_Gs n f) g_sh 0 (d + 3) 341 [.index (179)] σ (fun r s => rI r ∧ Fr (179) (191) σ s ∧ s (183) = σ (183) ∧ (∀ a, a ≠ 5 → a ≠ 7 → a ≠ 10 → ra_g s 179 a = ra_g σ 179 a) ∧ WF s ∧ PW s) := by
  refine ra_enter (nn := 0) mt_341 rfl (Nat.le_of_ble_eq_true rfl) rfl (fun h => absurd h (by decide +kernel)) ?_
  have hw0 := WF_a hw
  unfold WFa at hw0
  refine ra_load rfl rfl rfl rfl ?_
  refine ra_iconst rfl ?_
  refine ra_putI rfl lk_8_51 (Nat.zero_le _) sh_179 rfl rfl ?_
  refine ra_newU (by first | omega | (unfold ra_in at *; omega)) (fun s1 hs1 hp2 hp2o => ?_)
  have hp2_6 := hp2o 6 (by decide)
  have hp2_99 := hp2o 99 (by decide)
  have hF3 := Fr_tr (lo := 179) (hi := 191) Fr_rf hs1 (by omega)
  have hk4 : s1 (180) = σ (180) := (hs1 (180) (by omega))
  have hk5 : s1 (183) = σ (183) := (hs1 (183) (by omega))
  have hk6 : s1 (184) = σ (184) := (hs1 (184) (by omega))
  have hg7 : ∀ a, a ≠ 5 → a ≠ 7 → a ≠ 10 → ra_g s1 179 a = ra_g σ 179 a := fun a h5 h7 h10 => ((fun a h7 h10 => hp2o a h7) a h7 h10).trans ((fun _ _ _ _ => rfl) a h5 h7 h10)
  have ho8 : ∀ a, a ≠ 7 → a ≠ 10 → ra_g s1 179 a = ra_g σ 179 a := fun a h7 h10 => ((fun a h7 h10 => hp2o a h7) a h7 h10).trans ((fun _ _ _ => rfl) a h7 h10)
  refine ra_load rfl rfl rfl rfl ?_
  refine ra_load rfl rfl rfl rfl ?_
  refine ra_getB rfl lk_8_294 (Nat.zero_le _) sh_179 rfl ?_
  refine ra_ifneB rfl rfl (fun h9 => ?_) (fun h9 => ?_)
  · refine ra_iconst rfl ?_
    refine ra_iconst rfl ?_
    refine ra_cT (sp_193 (Or.inl rfl) (by first | omega | (unfold ra_in at *; omega))) rfl (ct_193 rfl lk_8_303 (Or.inl rfl) sh_179 (Nat.le_of_ble_eq_true rfl)) (fun s10 hs10 => ?_)
    obtain ⟨hf11, he12⟩ := hs10
    have hF13 := Fr_tr (lo := 179) (hi := 191) hF3 hf11 (by omega)
    have hk14 : s10 (180) = σ (180) := (hf11 (180) (by omega)).trans hk4
    have hk15 : s10 (183) = σ (183) := (hf11 (183) (by omega)).trans hk5
    have hk16 : s10 (184) = σ (184) := (hf11 (184) (by omega)).trans hk6
    have hg17 : ∀ a, a ≠ 5 → a ≠ 7 → a ≠ 10 → ra_g s10 179 a = ra_g σ 179 a := fun a h5 h7 h10 => ((fun a h7 h10 => he12 a h7) a h7 h10).trans (hg7 a h5 h7 h10)
    have ho18 : ∀ a, a ≠ 7 → a ≠ 10 → ra_g s10 179 a = ra_g σ 179 a := fun a h7 h10 => ((fun a h7 h10 => he12 a h7) a h7 h10).trans (ho8 a h7 h10)
    refine ra_ifeq rfl rfl (by first | omega | (unfold ra_in at *; omega)) (fun h19 => ?_) (fun h19 => ?_)
    · refine ra_load rfl rfl rfl rfl ?_
      refine ra_getR rfl lk_8_19 (Nat.zero_le _) sh_179 rfl ?_
      refine ra_iconst rfl ?_
      refine ra_load rfl rfl rfl rfl ?_
      refine ra_getR rfl lk_8_7 (Nat.zero_le _) sh_179 rfl ?_
      refine ra_iconst rfl ?_
      refine ra_sipush rfl (by decide) ?_
      refine ra_cV (sp_194 sh_183 (by decide) (by first | omega | (unfold ra_in at *; omega)) sh_180 (by decide) (by first | omega | (unfold ra_in at *; omega)) (by first | omega | (unfold ra_in at *; omega)) (by first | assumption | rfl | omega) (by first | assumption | rfl | omega)) rfl (ct_194 rfl lk_8_57 (Or.inl rfl) (Nat.le_of_ble_eq_true rfl)) (fun s20 hs20 => ?_)
      obtain ⟨hf21, he22⟩ := hs20
      have hF23 := Fr_tr (lo := 179) (hi := 191) hF13 hf21 (by omega)
      have hk24 : s20 (183) = σ (183) := (hf21 (183) (by omega)).trans hk15
      have hk25 : s20 (184) = σ (184) := (hf21 (184) (by omega)).trans hk16
      have hg26 : ∀ a, a ≠ 5 → a ≠ 7 → a ≠ 10 → ra_g s20 179 a = ra_g σ 179 a := fun a h5 h7 h10 => (ra_gk (hf21 179 (by omega))).trans (hg17 a h5 h7 h10)
      have ho27 : ∀ a, a ≠ 7 → a ≠ 10 → ra_g s20 179 a = ra_g σ 179 a := fun a h7 h10 => (ra_gk (hf21 179 (by omega))).trans (ho18 a h7 h10)
      refine ra_load rfl rfl rfl rfl ?_
      refine ra_iconst rfl ?_
      refine ra_putI rfl lk_8_54 (Nat.zero_le _) sh_179 rfl rfl ?_
      refine ra_newU (by first | omega | (unfold ra_in at *; omega)) (fun s28 hs28 hp29 hp29o => ?_)
      have hp29_6 := hp29o 6 (by decide)
      have hp29_99 := hp29o 99 (by decide)
      have hF30 := Fr_tr (lo := 179) (hi := 191) hF23 hs28 (by omega)
      have hk31 : s28 (183) = σ (183) := (hs28 (183) (by omega)).trans hk24
      have hk32 : s28 (184) = σ (184) := (hs28 (184) (by omega)).trans hk25
      have hg33 : ∀ a, a ≠ 5 → a ≠ 7 → a ≠ 10 → ra_g s28 179 a = ra_g σ 179 a := fun a h5 h7 h10 => ((fun a h5 h7 h10 => hp29o a h5) a h5 h7 h10).trans (hg26 a h5 h7 h10)
      refine ra_load rfl rfl rfl rfl ?_
      refine ra_cIPp (sp_202 (rs_w (hsv (by omega)) ((hf11 183 (by omega)).trans (hs1 183 (by omega))) he22 (hs28 180 (by omega)) hp29).1) rfl (ct_202 rfl lk_8_298 (Or.inl rfl) sh_179 (Nat.le_of_ble_eq_true rfl)) (fun z35 hz35 hz35p => ?_)
      exact ra_ireturn rfl rfl ⟨⟨_, hz35, rfl⟩, ⟨hF30, hk31, hg33, (rs_w (hsv (by omega)) ((hf11 183 (by omega)).trans (hs1 183 (by omega))) he22 (hs28 180 (by omega)) hp29)⟩⟩
    · exact absurd h19 (by decide)
  · refine ra_iconst rfl ?_
    refine ra_goto rfl rfl ?_
    refine ra_iconst rfl ?_
    refine ra_cT (sp_193 (Or.inr rfl) (by first | omega | (unfold ra_in at *; omega))) rfl (ct_193 rfl lk_8_303 (Or.inl rfl) sh_179 (Nat.le_of_ble_eq_true rfl)) (fun s36 hs36 => ?_)
    obtain ⟨hf37, he38⟩ := hs36
    have hF39 := Fr_tr (lo := 179) (hi := 191) hF3 hf37 (by omega)
    have hk40 : s36 (180) = σ (180) := (hf37 (180) (by omega)).trans hk4
    have hk41 : s36 (183) = σ (183) := (hf37 (183) (by omega)).trans hk5
    have hk42 : s36 (184) = σ (184) := (hf37 (184) (by omega)).trans hk6
    have hg43 : ∀ a, a ≠ 5 → a ≠ 7 → a ≠ 10 → ra_g s36 179 a = ra_g σ 179 a := fun a h5 h7 h10 => ((fun a h7 h10 => he38 a h7) a h7 h10).trans (hg7 a h5 h7 h10)
    have ho44 : ∀ a, a ≠ 7 → a ≠ 10 → ra_g s36 179 a = ra_g σ 179 a := fun a h7 h10 => ((fun a h7 h10 => he38 a h7) a h7 h10).trans (ho8 a h7 h10)
    refine ra_ifeq rfl rfl (by first | omega | (unfold ra_in at *; omega)) (fun h45 => ?_) (fun h45 => ?_)
    · exact absurd h45 (by decide)
    · refine ra_iconst rfl ?_
      exact ra_ireturn rfl rfl ⟨⟨_, (by first | omega | (unfold ra_in at *; omega)), rfl⟩, ⟨hF39, hk41, hg43, (WF_k hk40 hw), (PW_k hpw (ho44 5 (by decide) (by decide)) hk42)⟩⟩
end RB
