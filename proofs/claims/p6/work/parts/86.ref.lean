/-! the reference: what its methods do (printed by wip/gen/ref.py) -/
section RB
theorem sp_339 {n : Nat} {f : Nat → Int32} {d : Nat}  {σ : ra_V} (hw : WF σ) (hpw : PW σ) : ra_C (g_Gs n f) g_sh 0 (d + 2) 339 [.index (179)] σ (fun r s => rI r ∧ Fr (179) (191) σ s ∧ s (183) = σ (183) ∧ s (187) = σ (187) ∧ (∀ a, a ≠ 5 → a ≠ 7 → a ≠ 10 → ra_g s 179 a = ra_g σ 179 a) ∧ WF s ∧ PW s) := by
  refine ra_enter (nn := 0) mt_339 rfl (Nat.le_of_ble_eq_true rfl) rfl (fun h => absurd h (by decide +kernel)) ?_
  have hpw0 := hpw.1
  refine ra_load rfl rfl rfl rfl ?_
  refine ra_iconst rfl ?_
  refine ra_putI rfl lk_8_51 (Nat.zero_le _) sh_179 rfl rfl ?_
  refine ra_newU (by first | omega | (unfold ra_in at *; omega)) (fun s1 hs1 hp2 hp2o => ?_)
  have hp2_5 := hp2o 5 (by decide)
  have hp2_99 := hp2o 99 (by decide)
  have hF3 := Fr_tr (lo := 179) (hi := 191) Fr_rf hs1 (by omega)
  have hk4 : s1 (180) = σ (180) := (hs1 (180) (by omega))
  have hk5 : s1 (183) = σ (183) := (hs1 (183) (by omega))
  have hk6 : s1 (184) = σ (184) := (hs1 (184) (by omega))
  have hk7 : s1 (187) = σ (187) := (hs1 (187) (by omega))
  have hg8 : ∀ a, a ≠ 5 → a ≠ 7 → a ≠ 10 → ra_g s1 179 a = ra_g σ 179 a := fun a h5 h7 h10 => ((fun a h7 h10 => hp2o a h7) a h7 h10).trans ((fun _ _ _ _ => rfl) a h5 h7 h10)
  have ho9 : ∀ a, a ≠ 7 → a ≠ 10 → ra_g s1 179 a = ra_g σ 179 a := fun a h7 h10 => ((fun a h7 h10 => hp2o a h7) a h7 h10).trans ((fun _ _ _ => rfl) a h7 h10)
  refine ra_load rfl rfl rfl rfl ?_
  refine ra_getI rfl lk_8_54 (Nat.zero_le _) sh_179 rfl ?_
  have hr10 : ra_in (ra_g s1 (179) 5) := (ra_in_g _ _ _)
  refine ra_ifne rfl rfl hr10 (fun h11 => ?_) (fun h11 => ?_)
  · refine ra_load rfl rfl rfl rfl ?_
    refine ra_dup rfl rfl ?_
    refine ra_getI rfl lk_8_54 (Nat.zero_le _) sh_179 rfl ?_
    have hr12 : ra_in (ra_g s1 (179) 5) := (ra_in_g _ _ _)
    refine ra_iconst rfl ?_
    refine ra_isub rfl ?_
    refine ra_putI rfl lk_8_54 (Nat.zero_le _) sh_179 rfl rfl ?_
    refine ra_newU (by first | omega | (unfold ra_in at *; omega)) (fun s13 hs13 hp14 hp14o => ?_)
    have hp14_99 := hp14o 99 (by decide)
    have hF15 := Fr_tr (lo := 179) (hi := 191) hF3 hs13 (by omega)
    have hk16 : s13 (180) = σ (180) := (hs13 (180) (by omega)).trans hk4
    have hk17 : s13 (183) = σ (183) := (hs13 (183) (by omega)).trans hk5
    have hk18 : s13 (184) = σ (184) := (hs13 (184) (by omega)).trans hk6
    have hk19 : s13 (187) = σ (187) := (hs13 (187) (by omega)).trans hk7
    have hg20 : ∀ a, a ≠ 5 → a ≠ 7 → a ≠ 10 → ra_g s13 179 a = ra_g σ 179 a := fun a h5 h7 h10 => ((fun a h5 h7 h10 => hp14o a h5) a h5 h7 h10).trans (hg8 a h5 h7 h10)
    refine ra_load rfl rfl rfl rfl ?_
    refine ra_getR rfl lk_8_22 (Nat.zero_le _) sh_179 rfl ?_
    refine ra_sipush rfl (by decide) ?_
    refine ra_load rfl rfl rfl rfl ?_
    refine ra_getI rfl lk_8_54 (Nat.zero_le _) sh_179 rfl ?_
    have hr21 : ra_in (ra_g s13 (179) 5) := (ra_in_g _ _ _)
    refine ra_imul rfl ?_
    refine ra_load rfl rfl rfl rfl ?_
    refine ra_getR rfl lk_8_7 (Nat.zero_le _) sh_179 rfl ?_
    refine ra_iconst rfl ?_
    refine ra_sipush rfl (by decide) ?_
    refine ra_cV (sp_194 sh_184 (by decide) (by first | omega | (unfold ra_in at *; omega)) sh_180 (by decide) (by first | omega | (unfold ra_in at *; omega)) (by first | omega | (unfold ra_in at *; omega)) (by first | assumption | rfl | omega) (by first | assumption | rfl | omega)) rfl (ct_194 rfl lk_8_57 (Or.inl rfl) (Nat.le_of_ble_eq_true rfl)) (fun s22 hs22 => ?_)
    obtain ⟨hf23, he24⟩ := hs22
    have hF25 := Fr_tr (lo := 179) (hi := 191) hF15 hf23 (by omega)
    have hk26 : s22 (183) = σ (183) := (hf23 (183) (by omega)).trans hk17
    have hk27 : s22 (184) = σ (184) := (hf23 (184) (by omega)).trans hk18
    have hk28 : s22 (187) = σ (187) := (hf23 (187) (by omega)).trans hk19
    have hk29 : s22 (179) = s13 (179) := (hf23 (179) (by omega))
    have hg30 : ∀ a, a ≠ 5 → a ≠ 7 → a ≠ 10 → ra_g s22 179 a = ra_g σ 179 a := fun a h5 h7 h10 => (ra_gk (hf23 179 (by omega))).trans (hg20 a h5 h7 h10)
    refine ra_load rfl rfl rfl rfl ?_
    refine ra_getI rfl lk_8_54 (Nat.zero_le _) sh_179 rfl ?_
    rw [ra_gk hk29]
    have hr31 : ra_in (ra_g s13 (179) 5) := (ra_in_g _ _ _)
    exact ra_ireturn rfl rfl ⟨⟨_, hr31, rfl⟩, ⟨hF25, hk26, hk28, hg30, (ud_w hpw (by omega) (by omega) ((hs13 184 (by omega)).trans (hs1 184 (by omega))) he24 (ra_gk (hf23 179 (by omega))) (hf23 184 (by omega)))⟩⟩
  · refine ra_iconst rfl ?_
    exact ra_ireturn rfl rfl ⟨⟨_, (by first | omega | (unfold ra_in at *; omega)), rfl⟩, ⟨hF3, hk5, hk7, hg8, (WF_k hk4 hw), (PW_k hpw (ho9 5 (by decide) (by decide)) hk6)⟩⟩
theorem sp_340 {n : Nat} {f : Nat → Int32} {d : Nat}  {σ : ra_V} (hw : WF σ) : ra_C (g_Gs n f) g_sh 0 (d + 3) 340 [.index (179)] σ (fun r s => rI r ∧ Fr (179) (184) σ s ∧ s (180) = σ (180) ∧ s (184) = σ (184) ∧ (∀ a, a ≠ 6 → a ≠ 7 → ra_g s 179 a = ra_g σ 179 a) ∧ WF (rowV s 183 0)) := by
  refine ra_enter (nn := 0) mt_340 rfl (Nat.le_of_ble_eq_true rfl) rfl (fun h => absurd h (by decide +kernel)) ?_
  refine ra_load rfl rfl rfl rfl ?_
  refine ra_iconst rfl ?_
  refine ra_putI rfl lk_8_51 (Nat.zero_le _) sh_179 rfl rfl ?_
  refine ra_newU (by first | omega | (unfold ra_in at *; omega)) (fun s1 hs1 hp2 hp2o => ?_)
  have hp2_99 := hp2o 99 (by decide)
  have hF3 := Fr_tr (lo := 179) (hi := 184) Fr_rf hs1 (by omega)
  have hk4 : s1 (180) = σ (180) := (hs1 (180) (by omega))
  have hk5 : s1 (184) = σ (184) := (hs1 (184) (by omega))
  refine ra_load rfl rfl rfl rfl ?_
  refine ra_getR rfl lk_8_7 (Nat.zero_le _) sh_179 rfl ?_
  refine ra_iconst rfl ?_
  refine ra_load rfl rfl rfl rfl ?_
  refine ra_getR rfl lk_8_19 (Nat.zero_le _) sh_179 rfl ?_
  refine ra_iconst rfl ?_
  refine ra_sipush rfl (by decide) ?_
  refine ra_cV (sp_194 sh_180 (by decide) (by first | omega | (unfold ra_in at *; omega)) sh_183 (by decide) (by first | omega | (unfold ra_in at *; omega)) (by first | omega | (unfold ra_in at *; omega)) (by first | assumption | rfl | omega) (by first | assumption | rfl | omega)) rfl (ct_194 rfl lk_8_57 (Or.inl rfl) (Nat.le_of_ble_eq_true rfl)) (fun s6 hs6 => ?_)
  obtain ⟨hf7, he8⟩ := hs6
  have hF9 := Fr_tr (lo := 179) (hi := 184) hF3 hf7 (by omega)
  have hk10 : s6 (180) = σ (180) := (hf7 (180) (by omega)).trans hk4
  have hk11 : s6 (184) = σ (184) := (hf7 (184) (by omega)).trans hk5
  have hk12 : s6 (179) = s1 (179) := (hf7 (179) (by omega))
  refine ra_load rfl rfl rfl rfl ?_
  refine ra_iconst rfl ?_
  refine ra_putB rfl lk_8_294 (Nat.zero_le _) sh_179 rfl rfl (Or.inr rfl) ?_
  refine ra_newU (ra_in01 (Or.inr rfl)) (fun s13 hs13 hp14 hp14o => ?_)
  have hp14_99 := hp14o 99 (by decide)
  rw [ra_gk hk12] at hp14_99
  have hF15 := Fr_tr (lo := 179) (hi := 184) hF9 hs13 (by omega)
  have hk16 : s13 (180) = σ (180) := (hs13 (180) (by omega)).trans hk10
  have hk17 : s13 (184) = σ (184) := (hs13 (184) (by omega)).trans hk11
  refine ra_load rfl rfl rfl rfl ?_
  refine ra_cIPp (sp_202 (WF_k hk16 hw)) rfl (ct_202 rfl lk_8_298 (Or.inl rfl) sh_179 (Nat.le_of_ble_eq_true rfl)) (fun z19 hz19 hz19p => ?_)
  exact ra_ireturn rfl rfl ⟨⟨_, hz19, rfl⟩, ⟨hF15, hk16, hk17, (fun a h6 h7 => (hp14o a h6).trans ((ra_gk (hf7 179 (by omega))).trans (hp2o a h7))), sv_w hw (hs1 180 (by omega)) he8 (hs13 183 (by omega))⟩⟩
end RB
