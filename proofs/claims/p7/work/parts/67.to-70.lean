section
/-! the reference: what its methods do (printed by wip/gen/ref.py) -/
section RB
theorem sp_263 {n : Nat} {f : Nat → Int32} {d : Nat}  {σ : ra_V} (hw : WF σ) : ra_C (g_Gs n f) g_sh 0 (d + 1) 263 [.index (179)] σ (fun r s => rI r ∧ Fr (179) (187) σ s ∧ s (180) = σ (180) ∧ s (181) = σ (181) ∧ s (182) = σ (182) ∧ s (183) = σ (183) ∧ s (184) = σ (184) ∧ (∀ a, a ≠ 7 → a ≠ 10 → ra_g s 179 a = ra_g σ 179 a)) := by
  refine ra_enter (nn := 0) mt_263 rfl (Nat.le_of_ble_eq_true rfl) rfl (fun h => absurd h (by decide +kernel)) ?_
  have hw0 := WF_a hw
  unfold WFa at hw0
  refine ra_load rfl rfl rfl rfl ?_
  refine ra_iconst rfl ?_
  refine ra_putI rfl lk_8_51 (Nat.zero_le _) sh_179 rfl rfl ?_
  refine ra_newU (by first | omega | (unfold ra_in at *; omega)) (fun s1 hs1 hp2 hp2o => ?_)
  have hp2_99 := hp2o 99 (by decide)
  have hF3 := Fr_tr (lo := 179) (hi := 187) Fr_rf hs1 (by omega)
  have hk4 : s1 (180) = σ (180) := (hs1 (180) (by omega))
  have hk5 : s1 (181) = σ (181) := (hs1 (181) (by omega))
  have hk6 : s1 (182) = σ (182) := (hs1 (182) (by omega))
  have hk7 : s1 (183) = σ (183) := (hs1 (183) (by omega))
  have hk8 : s1 (184) = σ (184) := (hs1 (184) (by omega))
  have ho9 : ∀ a, a ≠ 7 → a ≠ 10 → ra_g s1 179 a = ra_g σ 179 a := fun a h7 h10 => ((fun a h7 h10 => hp2o a h7) a h7 h10).trans ((fun _ _ _ => rfl) a h7 h10)
  refine ra_load rfl rfl rfl rfl ?_
  refine ra_getI rfl lk_8_291 (Nat.zero_le _) sh_179 rfl ?_
  have hr10 : ra_in (ra_g s1 (179) 13) := (ra_in_g _ _ _)
  exact ra_ireturn rfl rfl ⟨⟨_, hr10, rfl⟩, ⟨hF3, hk4, hk5, hk6, hk7, hk8, ho9⟩⟩
theorem sp_264 {n : Nat} {f : Nat → Int32} {d : Nat}  {σ : ra_V} (hw : WF σ) : ra_C (g_Gs n f) g_sh 0 (d + 1) 264 [.index (179)] σ (fun r s => rI r ∧ Fr (179) (187) σ s ∧ s (180) = σ (180) ∧ s (181) = σ (181) ∧ s (182) = σ (182) ∧ s (183) = σ (183) ∧ s (184) = σ (184) ∧ (∀ a, a ≠ 7 → a ≠ 10 → ra_g s 179 a = ra_g σ 179 a)) := by
  refine ra_enter (nn := 0) mt_264 rfl (Nat.le_of_ble_eq_true rfl) rfl (fun h => absurd h (by decide +kernel)) ?_
  have hw0 := WF_a hw
  unfold WFa at hw0
  refine ra_load rfl rfl rfl rfl ?_
  refine ra_iconst rfl ?_
  refine ra_putI rfl lk_8_51 (Nat.zero_le _) sh_179 rfl rfl ?_
  refine ra_newU (by first | omega | (unfold ra_in at *; omega)) (fun s1 hs1 hp2 hp2o => ?_)
  have hp2_99 := hp2o 99 (by decide)
  have hF3 := Fr_tr (lo := 179) (hi := 187) Fr_rf hs1 (by omega)
  have hk4 : s1 (180) = σ (180) := (hs1 (180) (by omega))
  have hk5 : s1 (181) = σ (181) := (hs1 (181) (by omega))
  have hk6 : s1 (182) = σ (182) := (hs1 (182) (by omega))
  have hk7 : s1 (183) = σ (183) := (hs1 (183) (by omega))
  have hk8 : s1 (184) = σ (184) := (hs1 (184) (by omega))
  have ho9 : ∀ a, a ≠ 7 → a ≠ 10 → ra_g s1 179 a = ra_g σ 179 a := fun a h7 h10 => ((fun a h7 h10 => hp2o a h7) a h7 h10).trans ((fun _ _ _ => rfl) a h7 h10)
  refine ra_load rfl rfl rfl rfl ?_
  refine ra_getI rfl lk_8_34 (Nat.zero_le _) sh_179 rfl ?_
  have hr10 : ra_in (ra_g s1 (179) 14) := (ra_in_g _ _ _)
  exact ra_ireturn rfl rfl ⟨⟨_, hr10, rfl⟩, ⟨hF3, hk4, hk5, hk6, hk7, hk8, ho9⟩⟩
theorem sp_293 {n : Nat} {f : Nat → Int32} {d : Nat} {x0 : Int} {σ : ra_V} (hx0 : ra_in x0) (hw : WF σ) (hp : 0 ≤ x0 ∧ x0 < 8) : ra_C (g_Gs n f) g_sh 0 (d + 3) 293 [.index (179), ra_I x0] σ (fun r s => (∃ z, ra_in z ∧ (z = 0 ∨ (z = wq σ x0 2 - wq σ x0 3 ∧ wq σ x0 0 = 1 ∧ ra_g σ 180 16 ≠ x0)) ∧ r = .inl (some (ra_I z))) ∧ s = σ) := by
  refine ra_enter (nn := 0) mt_293 rfl (Nat.le_of_ble_eq_true rfl) rfl (fun h => absurd h (by decide +kernel)) ?_
  refine ra_load rfl rfl rfl rfl ?_
  refine ra_load rfl rfl rfl rfl ?_
  refine ra_iconst rfl ?_
  refine ra_cTp (sp_200 hx0 (by first | omega | (unfold ra_in at *; omega)) (by first | assumption | rfl | omega)) rfl (ct_200 rfl lk_8_67 (Or.inl rfl) sh_179 (Nat.le_of_ble_eq_true rfl)) ?_
  have hr2 : ra_in (wq σ x0 (0)) := (ra_in_wq _ _ _)
  refine ra_iconst rfl ?_
  refine ra_icne rfl rfl hr2 (by first | omega | (unfold ra_in at *; omega)) (fun h3 => ?_) (fun h3 => ?_)
  · refine ra_iconst rfl ?_
    exact ra_ireturn rfl rfl ⟨⟨_, (by first | omega | (unfold ra_in at *; omega)), (Or.inl rfl), rfl⟩, rfl⟩
  · refine ra_load rfl rfl rfl rfl ?_
    refine ra_load rfl rfl rfl rfl ?_
    refine ra_cQPp (sp_206 hx0 (by first | assumption | rfl | omega)) rfl (ct_206 rfl lk_8_355 (Or.inl rfl) sh_179 (Nat.le_of_ble_eq_true rfl)) (fun z5 hz5 hz5p => ?_)
    refine ra_ifne rfl rfl (ra_in01 hz5) (fun h6 => ?_) (fun h6 => ?_)
    · refine ra_iconst rfl ?_
      exact ra_ireturn rfl rfl ⟨⟨_, (by first | omega | (unfold ra_in at *; omega)), (Or.inl rfl), rfl⟩, rfl⟩
    · refine ra_load rfl rfl rfl rfl ?_
      refine ra_load rfl rfl rfl rfl ?_
      refine ra_iconst rfl ?_
      refine ra_cTp (sp_200 hx0 (by first | omega | (unfold ra_in at *; omega)) (by first | assumption | rfl | omega)) rfl (ct_200 rfl lk_8_67 (Or.inl rfl) sh_179 (Nat.le_of_ble_eq_true rfl)) ?_
      have hr8 : ra_in (wq σ x0 (2)) := (ra_in_wq _ _ _)
      refine ra_load rfl rfl rfl rfl ?_
      refine ra_load rfl rfl rfl rfl ?_
      refine ra_iconst rfl ?_
      refine ra_cTp (sp_200 hx0 (by first | omega | (unfold ra_in at *; omega)) (by first | assumption | rfl | omega)) rfl (ct_200 rfl lk_8_67 (Or.inl rfl) sh_179 (Nat.le_of_ble_eq_true rfl)) ?_
      have hr10 : ra_in (wq σ x0 (3)) := (ra_in_wq _ _ _)
      have hq := WF_p hw hp.1 hp.2 (by omega)
      refine ra_isub rfl ?_
      refine ra_goto rfl rfl ?_
      exact ra_ireturn rfl rfl ⟨⟨_, (by first | omega | (unfold ra_in at *; omega)), (Or.inr ⟨rfl, by omega, (hz5p (by omega)).2⟩), rfl⟩, rfl⟩
theorem lp_294_9 {n : Nat} {f : Nat → Int32} {d : Nat}  {σ : ra_V} (hw : WF σ) : ∀ (nn : Nat) (v1 : Int) (v2 : Int) (s : ra_V) (hv1 : ra_in v1) (hv2_0 : 0 ≤ v2) (hv2_1 : v2 ≤ 8) (hF : Fr (179) (187) σ s) (hk0 : s (180) = σ (180)) (hk1 : s (181) = σ (181)) (hk2 : s (182) = σ (182)) (hk3 : s (183) = σ (183)) (hk4 : s (184) = σ (184)) (hoo : ∀ a, a ≠ 7 → a ≠ 10 → ra_g s 179 a = ra_g σ 179 a) (hm : ((8 - v2 : Int)).toNat < nn), ra_P (g_Gs n f) g_sh 0 (d + 3) g_m_X8_slack 9 [some (.index (179)), some (ra_I v1), some (ra_I v2)] [] s (fun r s => rI r ∧ Fr (179) (187) σ s ∧ s (180) = σ (180) ∧ s (181) = σ (181) ∧ s (182) = σ (182) ∧ s (183) = σ (183) ∧ s (184) = σ (184) ∧ (∀ a, a ≠ 7 → a ≠ 10 → ra_g s 179 a = ra_g σ 179 a)) := by
  intro nn
  induction nn with
  | zero => intro v1 v2 s hv1 hv2_0 hv2_1 hF hk0 hk1 hk2 hk3 hk4 hoo hm; exact absurd hm (Nat.not_lt_zero _)
  | succ nn ih =>
    intro v1 v2 s hv1 hv2_0 hv2_1 hF hk0 hk1 hk2 hk3 hk4 hoo hm
    refine ra_load rfl rfl rfl rfl ?_
    refine ra_bipush rfl (by decide) ?_
    refine ra_icge rfl rfl (by first | omega | (unfold ra_in at *; omega)) (by first | omega | (unfold ra_in at *; omega)) (fun h10 => ?_) (fun h10 => ?_)
    · refine ra_load rfl rfl rfl rfl ?_
      exact ra_ireturn rfl rfl ⟨⟨_, hv1, rfl⟩, ⟨hF, hk0, hk1, hk2, hk3, hk4, hoo⟩⟩
    · refine ra_load rfl rfl rfl rfl ?_
      refine ra_load rfl rfl rfl rfl ?_
      refine ra_load rfl rfl rfl rfl ?_
      refine ra_cIPp (sp_293 (by first | omega | (unfold ra_in at *; omega)) (WF_k hk0 hw) (by first | assumption | rfl | omega)) rfl (ct_293 rfl lk_8_358 (Or.inl rfl) sh_179 (Nat.le_of_ble_eq_true rfl)) (fun z12 hz12 hz12p => ?_)
      refine ra_iadd rfl ?_
      refine ra_gen (fun z13 hz13 => ?_)
      refine ra_store (L' := [_, _, _]) rfl rfl rfl (Nat.le_of_ble_eq_true rfl) rfl ?_
      refine ra_iinc (L' := [_, _, _]) rfl rfl (Nat.le_of_ble_eq_true rfl) rfl ?_
      refine ra_goto rfl rfl ?_
      exact ra_weak (by repeat' constructor) (ih z13 (v2 + 1) s hz13 (by first | omega | (unfold ra_in at *; omega)) (by first | omega | (unfold ra_in at *; omega)) hF hk0 hk1 hk2 hk3 hk4 hoo (by first | omega | (unfold ra_in at *; omega)))
theorem sp_294 {n : Nat} {f : Nat → Int32} {d : Nat}  {σ : ra_V} (hw : WF σ) : ra_C (g_Gs n f) g_sh 0 (d + 4) 294 [.index (179)] σ (fun r s => rI r ∧ Fr (179) (187) σ s ∧ s (180) = σ (180) ∧ s (181) = σ (181) ∧ s (182) = σ (182) ∧ s (183) = σ (183) ∧ s (184) = σ (184) ∧ (∀ a, a ≠ 7 → a ≠ 10 → ra_g s 179 a = ra_g σ 179 a)) := by
  refine ra_enter (nn := 2) mt_294 rfl (Nat.le_of_ble_eq_true rfl) rfl (fun h => absurd h (by decide +kernel)) ?_
  have hw0 := WF_a hw
  unfold WFa at hw0
  refine ra_load rfl rfl rfl rfl ?_
  refine ra_iconst rfl ?_
  refine ra_putI rfl lk_8_51 (Nat.zero_le _) sh_179 rfl rfl ?_
  refine ra_newU (by first | omega | (unfold ra_in at *; omega)) (fun s1 hs1 hp2 hp2o => ?_)
  have hp2_99 := hp2o 99 (by decide)
  have hF3 := Fr_tr (lo := 179) (hi := 187) Fr_rf hs1 (by omega)
  have hk4 : s1 (180) = σ (180) := (hs1 (180) (by omega))
  have hk5 : s1 (181) = σ (181) := (hs1 (181) (by omega))
  have hk6 : s1 (182) = σ (182) := (hs1 (182) (by omega))
  have hk7 : s1 (183) = σ (183) := (hs1 (183) (by omega))
  have hk8 : s1 (184) = σ (184) := (hs1 (184) (by omega))
  have ho9 : ∀ a, a ≠ 7 → a ≠ 10 → ra_g s1 179 a = ra_g σ 179 a := fun a h7 h10 => ((fun a h7 h10 => hp2o a h7) a h7 h10).trans ((fun _ _ _ => rfl) a h7 h10)
  refine ra_iconst rfl ?_
  refine ra_store (L' := [_, _, _]) rfl rfl rfl (Nat.le_of_ble_eq_true rfl) rfl ?_
  refine ra_iconst rfl ?_
  refine ra_store (L' := [_, _, _]) rfl rfl rfl (Nat.le_of_ble_eq_true rfl) rfl ?_
  exact ra_weak (by repeat' constructor) (lp_294_9 hw _ (0) (0) s1 (by first | omega | (unfold ra_in at *; omega)) (by first | omega | (unfold ra_in at *; omega)) (by first | omega | (unfold ra_in at *; omega)) hF3 hk4 hk5 hk6 hk7 hk8 ho9 (Nat.lt_succ_self _))
theorem lp_295_36 {n : Nat} {f : Nat → Int32} {d : Nat} {x0 : Int} {σ : ra_V} (hx0 : ra_in x0) (hw : WF σ) : ∀ (nn : Nat) (v2 : Int) (v3 : Int) (s : ra_V) (hv2 : ra_in v2) (hv3_0 : 0 ≤ v3) (hv3_1 : v3 ≤ 8) (hF : Fr (179) (187) σ s) (hk0 : s (180) = σ (180)) (hk1 : s (181) = σ (181)) (hk2 : s (182) = σ (182)) (hk3 : s (183) = σ (183)) (hk4 : s (184) = σ (184)) (hoo : ∀ a, a ≠ 7 → a ≠ 10 → ra_g s 179 a = ra_g σ 179 a) (hm : ((8 - v3 : Int)).toNat < nn), ra_P (g_Gs n f) g_sh 0 (d + 1) g_m_X8_ofKind 36 [some (.index (179)), some (ra_I x0), some (ra_I v2), some (ra_I v3)] [] s (fun r s => rI r ∧ Fr (179) (187) σ s ∧ s (180) = σ (180) ∧ s (181) = σ (181) ∧ s (182) = σ (182) ∧ s (183) = σ (183) ∧ s (184) = σ (184) ∧ (∀ a, a ≠ 7 → a ≠ 10 → ra_g s 179 a = ra_g σ 179 a)) := by
  intro nn
  induction nn with
  | zero => intro v2 v3 s hv2 hv3_0 hv3_1 hF hk0 hk1 hk2 hk3 hk4 hoo hm; exact absurd hm (Nat.not_lt_zero _)
  | succ nn ih =>
    intro v2 v3 s hv2 hv3_0 hv3_1 hF hk0 hk1 hk2 hk3 hk4 hoo hm
    refine ra_load rfl rfl rfl rfl ?_
    refine ra_bipush rfl (by decide) ?_
    refine ra_icge rfl rfl (by first | omega | (unfold ra_in at *; omega)) (by first | omega | (unfold ra_in at *; omega)) (fun h23 => ?_) (fun h23 => ?_)
    · refine ra_load rfl rfl rfl rfl ?_
      exact ra_ireturn rfl rfl ⟨⟨_, hv2, rfl⟩, ⟨hF, hk0, hk1, hk2, hk3, hk4, hoo⟩⟩
    · refine ra_load rfl rfl rfl rfl ?_
      refine ra_load rfl rfl rfl rfl ?_
      refine ra_load rfl rfl rfl rfl ?_
      refine ra_iconst rfl ?_
      refine ra_cTp (sp_200 (by first | omega | (unfold ra_in at *; omega)) (by first | omega | (unfold ra_in at *; omega)) (by first | assumption | rfl | omega)) rfl (ct_200 rfl lk_8_67 (Or.inl rfl) sh_179 (Nat.le_of_ble_eq_true rfl)) ?_
      rw [wq_k hk0]
      have hr25 : ra_in (wq σ v3 (0)) := (ra_in_wq _ _ _)
      refine ra_iconst rfl ?_
      refine ra_icne rfl rfl hr25 (by first | omega | (unfold ra_in at *; omega)) (fun h26 => ?_) (fun h26 => ?_)
      · refine ra_iconst rfl ?_
        refine ra_iadd rfl ?_
        refine ra_gen (fun z27 hz27 => ?_)
        refine ra_store (L' := [_, _, _, _]) rfl rfl rfl (Nat.le_of_ble_eq_true rfl) rfl ?_
        refine ra_iinc (L' := [_, _, _, _]) rfl rfl (Nat.le_of_ble_eq_true rfl) rfl ?_
        refine ra_goto rfl rfl ?_
        exact ra_weak (by repeat' constructor) (ih z27 (v3 + 1) s hz27 (by first | omega | (unfold ra_in at *; omega)) (by first | omega | (unfold ra_in at *; omega)) hF hk0 hk1 hk2 hk3 hk4 hoo (by first | omega | (unfold ra_in at *; omega)))
      · refine ra_load rfl rfl rfl rfl ?_
        refine ra_load rfl rfl rfl rfl ?_
        refine ra_iconst rfl ?_
        refine ra_cTp (sp_200 (by first | omega | (unfold ra_in at *; omega)) (by first | omega | (unfold ra_in at *; omega)) (by first | assumption | rfl | omega)) rfl (ct_200 rfl lk_8_67 (Or.inl rfl) sh_179 (Nat.le_of_ble_eq_true rfl)) ?_
        rw [wq_k hk0]
        have hr29 : ra_in (wq σ v3 (4)) := (ra_in_wq _ _ _)
        refine ra_load rfl rfl rfl rfl ?_
        refine ra_icne rfl rfl hr29 hx0 (fun h30 => ?_) (fun h30 => ?_)
        · refine ra_iconst rfl ?_
          refine ra_iadd rfl ?_
          refine ra_gen (fun z31 hz31 => ?_)
          refine ra_store (L' := [_, _, _, _]) rfl rfl rfl (Nat.le_of_ble_eq_true rfl) rfl ?_
          refine ra_iinc (L' := [_, _, _, _]) rfl rfl (Nat.le_of_ble_eq_true rfl) rfl ?_
          refine ra_goto rfl rfl ?_
          exact ra_weak (by repeat' constructor) (ih z31 (v3 + 1) s hz31 (by first | omega | (unfold ra_in at *; omega)) (by first | omega | (unfold ra_in at *; omega)) hF hk0 hk1 hk2 hk3 hk4 hoo (by first | omega | (unfold ra_in at *; omega)))
        · refine ra_load rfl rfl rfl rfl ?_
          refine ra_load rfl rfl rfl rfl ?_
          refine ra_iconst rfl ?_
          refine ra_cTp (sp_200 (by first | omega | (unfold ra_in at *; omega)) (by first | omega | (unfold ra_in at *; omega)) (by first | assumption | rfl | omega)) rfl (ct_200 rfl lk_8_67 (Or.inl rfl) sh_179 (Nat.le_of_ble_eq_true rfl)) ?_
          rw [wq_k hk0]
          have hr33 : ra_in (wq σ v3 (2)) := (ra_in_wq _ _ _)
          refine ra_goto rfl rfl ?_
          refine ra_iadd rfl ?_
          refine ra_gen (fun z34 hz34 => ?_)
          refine ra_store (L' := [_, _, _, _]) rfl rfl rfl (Nat.le_of_ble_eq_true rfl) rfl ?_
          refine ra_iinc (L' := [_, _, _, _]) rfl rfl (Nat.le_of_ble_eq_true rfl) rfl ?_
          refine ra_goto rfl rfl ?_
          exact ra_weak (by repeat' constructor) (ih z34 (v3 + 1) s hz34 (by first | omega | (unfold ra_in at *; omega)) (by first | omega | (unfold ra_in at *; omega)) hF hk0 hk1 hk2 hk3 hk4 hoo (by first | omega | (unfold ra_in at *; omega)))
theorem sp_295 {n : Nat} {f : Nat → Int32} {d : Nat} {x0 : Int} {σ : ra_V} (hx0 : ra_in x0) (hw : WF σ) : ra_C (g_Gs n f) g_sh 0 (d + 2) 295 [.index (179), ra_I x0] σ (fun r s => rI r ∧ Fr (179) (187) σ s ∧ s (180) = σ (180) ∧ s (181) = σ (181) ∧ s (182) = σ (182) ∧ s (183) = σ (183) ∧ s (184) = σ (184) ∧ (∀ a, a ≠ 7 → a ≠ 10 → ra_g s 179 a = ra_g σ 179 a)) := by
  refine ra_enter (nn := 2) mt_295 rfl (Nat.le_of_ble_eq_true rfl) rfl (fun h => absurd h (by decide +kernel)) ?_
  have hw0 := WF_a hw
  unfold WFa at hw0
  refine ra_load rfl rfl rfl rfl ?_
  refine ra_iconst rfl ?_
  refine ra_putI rfl lk_8_51 (Nat.zero_le _) sh_179 rfl rfl ?_
  refine ra_newU (by first | omega | (unfold ra_in at *; omega)) (fun s1 hs1 hp2 hp2o => ?_)
  have hp2_99 := hp2o 99 (by decide)
  have hF3 := Fr_tr (lo := 179) (hi := 187) Fr_rf hs1 (by omega)
  have hk4 : s1 (180) = σ (180) := (hs1 (180) (by omega))
  have hk5 : s1 (181) = σ (181) := (hs1 (181) (by omega))
  have hk6 : s1 (182) = σ (182) := (hs1 (182) (by omega))
  have hk7 : s1 (183) = σ (183) := (hs1 (183) (by omega))
  have hk8 : s1 (184) = σ (184) := (hs1 (184) (by omega))
  have ho9 : ∀ a, a ≠ 7 → a ≠ 10 → ra_g s1 179 a = ra_g σ 179 a := fun a h7 h10 => ((fun a h7 h10 => hp2o a h7) a h7 h10).trans ((fun _ _ _ => rfl) a h7 h10)
  refine ra_load rfl rfl rfl rfl ?_
  refine ra_load rfl rfl rfl rfl ?_
  refine ra_i2l rfl hx0 ?_
  refine ra_lconst0 rfl ?_
  refine ra_ldc2 (z := 9) rfl lk_8_361 (by decide) ?_
  refine ra_cTp (sp_193 hx0 (by first | omega | (unfold ra_in at *; omega)) (by first | omega | (unfold ra_in at *; omega))) rfl (ct_193 rfl lk_8_63 (Or.inl rfl) (Nat.le_of_ble_eq_true rfl)) ?_
  refine ra_ifneB rfl rfl (fun h11 => ?_) (fun h11 => ?_)
  · refine ra_iconst rfl ?_
    refine ra_iconst rfl ?_
    refine ra_cT (sp_194 (Or.inl rfl) (by first | omega | (unfold ra_in at *; omega))) rfl (ct_194 rfl lk_8_303 (Or.inl rfl) sh_179 (Nat.le_of_ble_eq_true rfl)) (fun s12 hs12 => ?_)
    obtain ⟨hf13, he14⟩ := hs12
    have hF15 := Fr_tr (lo := 179) (hi := 187) hF3 hf13 (by omega)
    have hk16 : s12 (180) = σ (180) := (hf13 (180) (by omega)).trans hk4
    have hk17 : s12 (181) = σ (181) := (hf13 (181) (by omega)).trans hk5
    have hk18 : s12 (182) = σ (182) := (hf13 (182) (by omega)).trans hk6
    have hk19 : s12 (183) = σ (183) := (hf13 (183) (by omega)).trans hk7
    have hk20 : s12 (184) = σ (184) := (hf13 (184) (by omega)).trans hk8
    have ho21 : ∀ a, a ≠ 7 → a ≠ 10 → ra_g s12 179 a = ra_g σ 179 a := fun a h7 h10 => ((fun a h7 h10 => he14 a h7) a h7 h10).trans (ho9 a h7 h10)
    refine ra_ifeq rfl rfl (by first | omega | (unfold ra_in at *; omega)) (fun h22 => ?_) (fun h22 => ?_)
    · refine ra_iconst rfl ?_
      refine ra_store (L' := [_, _, _, _]) rfl rfl rfl (Nat.le_of_ble_eq_true rfl) rfl ?_
      refine ra_iconst rfl ?_
      refine ra_store (L' := [_, _, _, _]) rfl rfl rfl (Nat.le_of_ble_eq_true rfl) rfl ?_
      exact ra_weak (by repeat' constructor) (lp_295_36 hx0 hw _ (0) (0) s12 (by first | omega | (unfold ra_in at *; omega)) (by first | omega | (unfold ra_in at *; omega)) (by first | omega | (unfold ra_in at *; omega)) hF15 hk16 hk17 hk18 hk19 hk20 ho21 (Nat.lt_succ_self _))
    · exact absurd h22 (by decide)
  · refine ra_iconst rfl ?_
    refine ra_goto rfl rfl ?_
    refine ra_iconst rfl ?_
    refine ra_cT (sp_194 (Or.inr rfl) (by first | omega | (unfold ra_in at *; omega))) rfl (ct_194 rfl lk_8_303 (Or.inl rfl) sh_179 (Nat.le_of_ble_eq_true rfl)) (fun s35 hs35 => ?_)
    obtain ⟨hf36, he37⟩ := hs35
    have hF38 := Fr_tr (lo := 179) (hi := 187) hF3 hf36 (by omega)
    have hk39 : s35 (180) = σ (180) := (hf36 (180) (by omega)).trans hk4
    have hk40 : s35 (181) = σ (181) := (hf36 (181) (by omega)).trans hk5
    have hk41 : s35 (182) = σ (182) := (hf36 (182) (by omega)).trans hk6
    have hk42 : s35 (183) = σ (183) := (hf36 (183) (by omega)).trans hk7
    have hk43 : s35 (184) = σ (184) := (hf36 (184) (by omega)).trans hk8
    have ho44 : ∀ a, a ≠ 7 → a ≠ 10 → ra_g s35 179 a = ra_g σ 179 a := fun a h7 h10 => ((fun a h7 h10 => he37 a h7) a h7 h10).trans (ho9 a h7 h10)
    refine ra_ifeq rfl rfl (by first | omega | (unfold ra_in at *; omega)) (fun h45 => ?_) (fun h45 => ?_)
    · exact absurd h45 (by decide)
    · refine ra_iconst rfl ?_
      exact ra_ireturn rfl rfl ⟨⟨_, (by first | omega | (unfold ra_in at *; omega)), rfl⟩, ⟨hF38, hk39, hk40, hk41, hk42, hk43, ho44⟩⟩
theorem lp_288_10 {n : Nat} {f : Nat → Int32} {d : Nat} {x0 : Int} {x1 : Int} {σ : ra_V} (hx0 : ra_in x0) (hx1 : ra_in x1) (hw : WF σ) : ∀ (nn : Nat) (v3 : Int) (v4 : Int) (s : ra_V) (hv3 : ra_in v3) (hv4_0 : 0 ≤ v4) (hv4_1 : v4 ≤ 8) (hF : Fr (179) (187) σ s) (hk0 : s (180) = σ (180)) (hk1 : s (181) = σ (181)) (hk2 : s (182) = σ (182)) (hk3 : s (183) = σ (183)) (hk4 : s (184) = σ (184)) (hoo : ∀ a, a ≠ 7 → a ≠ 10 → ra_g s 179 a = ra_g σ 179 a) (hm : ((8 - v4 : Int)).toNat < nn), ra_P (g_Gs n f) g_sh 0 (d + 1) g_m_X8_overlapped 10 [some (.index (179)), some (ra_I x0), some (ra_I x1), some (ra_I v3), some (ra_I v4)] [] s (fun r s => rI r ∧ Fr (179) (187) σ s ∧ s (180) = σ (180) ∧ s (181) = σ (181) ∧ s (182) = σ (182) ∧ s (183) = σ (183) ∧ s (184) = σ (184) ∧ (∀ a, a ≠ 7 → a ≠ 10 → ra_g s 179 a = ra_g σ 179 a)) := by
  intro nn
  induction nn with
  | zero => intro v3 v4 s hv3 hv4_0 hv4_1 hF hk0 hk1 hk2 hk3 hk4 hoo hm; exact absurd hm (Nat.not_lt_zero _)
  | succ nn ih =>
    intro v3 v4 s hv3 hv4_0 hv4_1 hF hk0 hk1 hk2 hk3 hk4 hoo hm
    refine ra_load rfl rfl rfl rfl ?_
    refine ra_bipush rfl (by decide) ?_
    refine ra_icge rfl rfl (by first | omega | (unfold ra_in at *; omega)) (by first | omega | (unfold ra_in at *; omega)) (fun h10 => ?_) (fun h10 => ?_)
    · refine ra_load rfl rfl rfl rfl ?_
      exact ra_ireturn rfl rfl ⟨⟨_, hv3, rfl⟩, ⟨hF, hk0, hk1, hk2, hk3, hk4, hoo⟩⟩
    · refine ra_load rfl rfl rfl rfl ?_
      refine ra_ifle rfl rfl hx1 (fun h11 => ?_) (fun h11 => ?_)
      · refine ra_load rfl rfl rfl rfl ?_
        exact ra_ireturn rfl rfl ⟨⟨_, hv3, rfl⟩, ⟨hF, hk0, hk1, hk2, hk3, hk4, hoo⟩⟩
      · refine ra_load rfl rfl rfl rfl ?_
        refine ra_load rfl rfl rfl rfl ?_
        refine ra_load rfl rfl rfl rfl ?_
        refine ra_iconst rfl ?_
        refine ra_cTp (sp_200 (by first | omega | (unfold ra_in at *; omega)) (by first | omega | (unfold ra_in at *; omega)) (by first | assumption | rfl | omega)) rfl (ct_200 rfl lk_8_67 (Or.inl rfl) sh_179 (Nat.le_of_ble_eq_true rfl)) ?_
        rw [wq_k hk0]
        have hr13 : ra_in (wq σ v4 (0)) := (ra_in_wq _ _ _)
        refine ra_iconst rfl ?_
        refine ra_icne rfl rfl hr13 (by first | omega | (unfold ra_in at *; omega)) (fun h14 => ?_) (fun h14 => ?_)
        · refine ra_iconst rfl ?_
          refine ra_ior rfl ?_
          refine ra_store (L' := [_, _, _, _, _]) rfl rfl rfl (Nat.le_of_ble_eq_true rfl) rfl ?_
          refine ra_iinc (L' := [_, _, _, _, _]) rfl rfl (Nat.le_of_ble_eq_true rfl) rfl ?_
          refine ra_goto rfl rfl ?_
          exact ra_weak (by repeat' constructor) (ih (ra_op .ior v3 (0)) (v4 + 1) s (ra_in_op _ _ _) (by first | omega | (unfold ra_in at *; omega)) (by first | omega | (unfold ra_in at *; omega)) hF hk0 hk1 hk2 hk3 hk4 hoo (by first | omega | (unfold ra_in at *; omega)))
        · refine ra_load rfl rfl rfl rfl ?_
          refine ra_i2l rfl hx0 ?_
          refine ra_load rfl rfl rfl rfl ?_
          refine ra_i2l rfl hx1 ?_
          refine ra_load rfl rfl rfl rfl ?_
          refine ra_load rfl rfl rfl rfl ?_
          refine ra_iconst rfl ?_
          refine ra_cTp (sp_200 (by first | omega | (unfold ra_in at *; omega)) (by first | omega | (unfold ra_in at *; omega)) (by first | assumption | rfl | omega)) rfl (ct_200 rfl lk_8_67 (Or.inl rfl) sh_179 (Nat.le_of_ble_eq_true rfl)) ?_
          rw [wq_k hk0]
          have hr16 : ra_in (wq σ v4 (1)) := (ra_in_wq _ _ _)
          refine ra_i2l rfl hr16 ?_
          refine ra_load rfl rfl rfl rfl ?_
          refine ra_load rfl rfl rfl rfl ?_
          refine ra_iconst rfl ?_
          refine ra_cTp (sp_200 (by first | omega | (unfold ra_in at *; omega)) (by first | omega | (unfold ra_in at *; omega)) (by first | assumption | rfl | omega)) rfl (ct_200 rfl lk_8_67 (Or.inl rfl) sh_179 (Nat.le_of_ble_eq_true rfl)) ?_
          rw [wq_k hk0]
          have hr18 : ra_in (wq σ v4 (2)) := (ra_in_wq _ _ _)
          refine ra_i2l rfl hr18 ?_
          refine ra_cTp (sp_212 hx0 hx1 hr16 hr18) rfl (ct_212 rfl lk_8_86 (Or.inl rfl) (Nat.le_of_ble_eq_true rfl)) ?_
          refine ra_ifeqB rfl rfl (fun h20 => ?_) (fun h20 => ?_)
          · refine ra_iconst rfl ?_
            refine ra_ior rfl ?_
            refine ra_store (L' := [_, _, _, _, _]) rfl rfl rfl (Nat.le_of_ble_eq_true rfl) rfl ?_
            refine ra_iinc (L' := [_, _, _, _, _]) rfl rfl (Nat.le_of_ble_eq_true rfl) rfl ?_
            refine ra_goto rfl rfl ?_
            exact ra_weak (by repeat' constructor) (ih (ra_op .ior v3 (0)) (v4 + 1) s (ra_in_op _ _ _) (by first | omega | (unfold ra_in at *; omega)) (by first | omega | (unfold ra_in at *; omega)) hF hk0 hk1 hk2 hk3 hk4 hoo (by first | omega | (unfold ra_in at *; omega)))
          · refine ra_iconst rfl ?_
            refine ra_load rfl rfl rfl rfl ?_
            refine ra_ishl rfl ?_
            refine ra_goto rfl rfl ?_
            refine ra_ior rfl ?_
            refine ra_store (L' := [_, _, _, _, _]) rfl rfl rfl (Nat.le_of_ble_eq_true rfl) rfl ?_
            refine ra_iinc (L' := [_, _, _, _, _]) rfl rfl (Nat.le_of_ble_eq_true rfl) rfl ?_
            refine ra_goto rfl rfl ?_
            exact ra_weak (by repeat' constructor) (ih (ra_op .ior v3 (ra_op .ishl (1) v4)) (v4 + 1) s (ra_in_op _ _ _) (by first | omega | (unfold ra_in at *; omega)) (by first | omega | (unfold ra_in at *; omega)) hF hk0 hk1 hk2 hk3 hk4 hoo (by first | omega | (unfold ra_in at *; omega)))
theorem sp_288 {n : Nat} {f : Nat → Int32} {d : Nat} {x0 : Int} {x1 : Int} {σ : ra_V} (hx0 : ra_in x0) (hx1 : ra_in x1) (hw : WF σ) : ra_C (g_Gs n f) g_sh 0 (d + 2) 288 [.index (179), ra_I x0, ra_I x1] σ (fun r s => rI r ∧ Fr (179) (187) σ s ∧ s (180) = σ (180) ∧ s (181) = σ (181) ∧ s (182) = σ (182) ∧ s (183) = σ (183) ∧ s (184) = σ (184) ∧ (∀ a, a ≠ 7 → a ≠ 10 → ra_g s 179 a = ra_g σ 179 a)) := by
  refine ra_enter (nn := 2) mt_288 rfl (Nat.le_of_ble_eq_true rfl) rfl (fun h => absurd h (by decide +kernel)) ?_
  have hw0 := WF_a hw
  unfold WFa at hw0
  refine ra_load rfl rfl rfl rfl ?_
  refine ra_iconst rfl ?_
  refine ra_putI rfl lk_8_51 (Nat.zero_le _) sh_179 rfl rfl ?_
  refine ra_newU (by first | omega | (unfold ra_in at *; omega)) (fun s1 hs1 hp2 hp2o => ?_)
  have hp2_99 := hp2o 99 (by decide)
  have hF3 := Fr_tr (lo := 179) (hi := 187) Fr_rf hs1 (by omega)
  have hk4 : s1 (180) = σ (180) := (hs1 (180) (by omega))
  have hk5 : s1 (181) = σ (181) := (hs1 (181) (by omega))
  have hk6 : s1 (182) = σ (182) := (hs1 (182) (by omega))
  have hk7 : s1 (183) = σ (183) := (hs1 (183) (by omega))
  have hk8 : s1 (184) = σ (184) := (hs1 (184) (by omega))
  have ho9 : ∀ a, a ≠ 7 → a ≠ 10 → ra_g s1 179 a = ra_g σ 179 a := fun a h7 h10 => ((fun a h7 h10 => hp2o a h7) a h7 h10).trans ((fun _ _ _ => rfl) a h7 h10)
  refine ra_iconst rfl ?_
  refine ra_store (L' := [_, _, _, _, _]) rfl rfl rfl (Nat.le_of_ble_eq_true rfl) rfl ?_
  refine ra_iconst rfl ?_
  refine ra_store (L' := [_, _, _, _, _]) rfl rfl rfl (Nat.le_of_ble_eq_true rfl) rfl ?_
  exact ra_weak (by repeat' constructor) (lp_288_10 hx0 hx1 hw _ (0) (0) s1 (by first | omega | (unfold ra_in at *; omega)) (by first | omega | (unfold ra_in at *; omega)) (by first | omega | (unfold ra_in at *; omega)) hF3 hk4 hk5 hk6 hk7 hk8 ho9 (Nat.lt_succ_self _))
end RB
end
section
/-! the reference's move -/
section RB
def rfar (a b : Int) : Int := if a < b then b - a else a - b
theorem rfar_b (a b : Int) : (a < b → rfar a b = b - a) ∧ (b ≤ a → rfar a b = a - b) := by
  unfold rfar
  exact ⟨fun h => if_pos h, fun h => if_neg (by omega)⟩
def msz (σ : ra_V) : Int := wq σ (ra_g σ 180 16) 2
def rch (σ : ra_V) : Int := ref_chunks (msz σ) (ra_g σ 180 19)
def rnx (σ : ra_V) : Int := if ra_g σ 180 18 < ra_g σ 180 17 then ra_g σ 180 21 else rch σ - 1 - ra_g σ 180 21
def rfb (σ : ra_V) : Int := rnx σ * ra_g σ 180 19
def rbn (σ : ra_V) : Int := min (ra_g σ 180 19) (msz σ - rfb σ)
def rds (σ : ra_V) : Int := rfar (ra_g σ 180 17) (ra_g σ 180 18)
/-- the numbers of a move -/
def MF (σ : ra_V) : Prop := (0 ≤ ra_g σ 180 16 ∧ ra_g σ 180 16 < 8) ∧ wq σ (ra_g σ 180 16) 0 = 1 ∧ wq σ (ra_g σ 180 16) 1 = ra_g σ 180 17 ∧ (1 ≤ msz σ ∧ msz σ ≤ 600 ∧ wq σ (ra_g σ 180 16) 2 = msz σ) ∧
  (0 ≤ ra_g σ 180 17 ∧ ra_g σ 180 17 + msz σ ≤ 600) ∧ (0 ≤ ra_g σ 180 18 ∧ ra_g σ 180 18 + msz σ ≤ 600) ∧ ra_g σ 180 17 ≠ ra_g σ 180 18 ∧ (1 ≤ ra_g σ 180 19 ∧ ra_g σ 180 19 ≤ 16) ∧ (0 ≤ ra_g σ 180 21 ∧ ra_g σ 180 21 < rch σ) ∧ (ra_g σ 180 22 = 0 ∨ ra_g σ 180 22 = 1) ∧
  (-1 ≤ ra_g σ 180 20 ∧ ra_g σ 180 20 + min (ra_g σ 180 19) (msz σ) ≤ 600) ∧ (ra_g σ 180 20 = -1 → min (ra_g σ 180 19) (msz σ) ≤ rds σ) ∧ (1 ≤ rch σ ∧ rch σ ≤ 600) ∧ (0 ≤ rnx σ ∧ rnx σ < rch σ) ∧ (0 ≤ rfb σ ∧ rfb σ < msz σ) ∧ (1 ≤ rbn σ ∧ rbn σ ≤ ra_g σ 180 19 ∧ rbn σ + rfb σ ≤ msz σ) ∧ (1 ≤ rds σ ∧ rds σ ≤ 600)
theorem ref_chunks_b {m c k : Int} (hm : 1 ≤ m) (hc : 1 ≤ c) : 1 ≤ ref_chunks m c ∧ ref_chunks m c ≤ m ∧ (0 ≤ k → k < ref_chunks m c → 0 ≤ k * c ∧ k * c < m) := by
  unfold ref_chunks
  have h1 := Int.tmod_add_mul_tdiv (m + c - 1) c
  have h2 := Int.tmod_lt_of_pos (m + c - 1) (by omega : 0 < c)
  have h3 := Int.tmod_nonneg c (by omega : 0 ≤ m + c - 1)
  generalize (m + c - 1).tdiv c = q at *
  generalize (m + c - 1).tmod c = r at *
  rw [Int.mul_comm] at h1
  have hq : 1 ≤ q := by
    by_cases h : q ≤ 0
    · have := Int.mul_le_mul_of_nonneg_right h (by omega : 0 ≤ c)
      omega
    · omega
  refine ⟨hq, ?_, fun k0 k1 => ⟨Int.mul_nonneg k0 (by omega), ?_⟩⟩
  · have h4 : q * 1 ≤ q * c := Int.mul_le_mul_of_nonneg_left hc (by omega)
    by_cases h5 : q ≤ m
    · exact h5
    · exfalso
      have h6 : (q - 1) * 1 ≤ (q - 1) * c := Int.mul_le_mul_of_nonneg_left hc (by omega)
      have h7 : (q - 1) * c = q * c - c := by rw [Int.sub_mul, Int.one_mul]
      omega
  · have h6 : k * c ≤ (q - 1) * c := Int.mul_le_mul_of_nonneg_right (by omega) (by omega)
    have h7 : (q - 1) * c = q * c - c := by rw [Int.sub_mul, Int.one_mul]
    omega
theorem MV_f {σ : ra_V} (h : WF σ) (hm : ra_g σ 180 16 ≠ -1) : MF σ := by
  have ha := WF_a h
  unfold WFa at ha
  obtain ⟨⟨a1, a2⟩, a3, a4, a5, a6, a7, a8, a9, a10, b2, -⟩ := WF_m h hm
  have a1 : 0 ≤ ra_g σ 180 16 := a1
  have a2 : ra_g σ 180 16 < 8 := a2
  have a3 : wq σ (ra_g σ 180 16) 0 = 1 := a3
  have a4 : wq σ (ra_g σ 180 16) 1 = ra_g σ 180 17 := a4
  have a5 : ra_g σ 180 1 ≤ ra_g σ 180 18 ∧ ra_g σ 180 18 + msz σ ≤ ra_g σ 180 0 - ra_g σ 180 2 := a5
  have a6 : ra_g σ 180 17 ≠ ra_g σ 180 18 := a6
  have a7 : 1 ≤ ra_g σ 180 19 ∧ ra_g σ 180 19 ≤ 16 := a7
  have a8 : 0 ≤ ra_g σ 180 21 ∧ ra_g σ 180 21 < rch σ := a8
  have a9 : ra_g σ 180 22 = 0 ∨ ra_g σ 180 22 = 1 := a9
  have b1 : -1 ≤ ra_g σ 180 20 ∧ ra_g σ 180 20 + min (ra_g σ 180 19) (msz σ) ≤ 600 := a10
  have b2 : ra_g σ 180 20 = -1 → min (ra_g σ 180 19) (msz σ) ≤ ra_g σ 180 17 - ra_g σ 180 18 ∨ min (ra_g σ 180 19) (msz σ) ≤ ra_g σ 180 18 - ra_g σ 180 17 := b2
  have hp := WF_p h a1 a2 a3
  have hz : wq σ (ra_g σ 180 16) 2 = msz σ := rfl
  have hc := fun k => ref_chunks_b (m := msz σ) (c := ra_g σ 180 19) (k := k) (by omega) (by omega)
  have hr : rch σ = ref_chunks (msz σ) (ra_g σ 180 19) := rfl
  have hd := rfar_b (ra_g σ 180 17) (ra_g σ 180 18)
  have hd2 : rds σ = rfar (ra_g σ 180 17) (ra_g σ 180 18) := rfl
  have hn : 0 ≤ rnx σ ∧ rnx σ < rch σ := by
    unfold rnx
    split <;> omega
  have hf : 0 ≤ rfb σ ∧ rfb σ < msz σ := (hc (rnx σ)).2.2 hn.1 (by rw [← hr]; exact hn.2)
  have hb : rbn σ = min (ra_g σ 180 19) (msz σ - rfb σ) := rfl
  have hcc := hc 0
  refine ⟨⟨a1, a2⟩, a3, a4, ⟨by omega, by omega, hz⟩, ⟨by omega, by omega⟩, ⟨by omega, by omega⟩, a6, a7, a8, a9, b1, fun q => ?_, ⟨by omega, by omega⟩, hn, hf, ⟨by omega, by omega, by omega⟩, ⟨by omega, by omega⟩⟩
  have := b2 q
  omega
/-- the row below its sectors is as it was -/
def SC (σ s : ra_V) : Prop := ∀ a, a < 88 → ra_g s 180 a = ra_g σ 180 a
theorem SC_rf {σ : ra_V} : SC σ σ := fun _ _ => rfl
theorem SC_tr {σ s t : ra_V} (h1 : SC σ s) (h2 : SC s t) : SC σ t := fun a ha => (h2 a ha).trans (h1 a ha)
theorem SC_k {σ s : ra_V} (h : s 180 = σ 180) : SC σ s := fun a _ => ra_gk h
section
variable {σ s : ra_V}
theorem wq_sc (h : SC σ s) {p w : Int} (h1 : p < 8) (h2 : w < 8) : wq s p w = wq σ p w := h _ (by omega)
theorem WF_sc (h : SC σ s) (hw : WF σ) : WF s := by
  obtain ⟨h1, h2, h3, h4, h5⟩ := hw
  have e : ∀ p w, p < 8 → w < 8 → wf (rw_ s) p w = wf (rw_ σ) p w := fun p w p1 w1 => wq_sc h p1 w1
  have e0 : ∀ j, j < 88 → rw_ s j = rw_ σ j := fun j hj => h j hj
  refine ⟨?_, fun p p0 p1 => ?_, fun p p0 p1 pe => ?_, fun p q p0 p1 q0 q1 hn pe qe => ?_, ?_⟩
  · unfold WFs
    rw [e0 0 (by omega), e0 1 (by omega), e0 2 (by omega), e0 3 (by omega), e0 4 (by omega)]
    exact h1
  · rw [e p 0 p1 (by omega)]
    exact h2 p p0 p1
  · rw [e p 0 p1 (by omega)] at pe
    have := h3 p p0 p1 pe
    unfold WFp at *
    rw [e p 3 p1 (by omega), e p 2 p1 (by omega), e p 1 p1 (by omega), e0 0 (by omega), e0 1 (by omega), e0 2 (by omega)]
    exact this
  · rw [e p 0 p1 (by omega)] at pe
    rw [e q 0 q1 (by omega)] at qe
    rw [e p 1 p1 (by omega), e p 2 p1 (by omega), e q 1 q1 (by omega), e q 2 q1 (by omega)]
    exact h4 p q p0 p1 q0 q1 hn pe qe
  · rcases h5 with h5 | h5
    · exact Or.inl ((e0 16 (by omega)).trans h5)
    · refine Or.inr ?_
      have hp := h5.1
      unfold WFm at *
      rw [e0 16 (by omega), e0 17 (by omega), e0 18 (by omega), e0 19 (by omega), e0 20 (by omega), e0 21 (by omega), e0 22 (by omega), e0 0 (by omega), e0 1 (by omega), e0 2 (by omega), e _ 0 hp.2 (by omega), e _ 1 hp.2 (by omega), e _ 2 hp.2 (by omega)]
      obtain ⟨c1, c2, c3, c4, c5, c6, c7, c8, c9, c10, c11⟩ := h5
      refine ⟨c1, c2, c3, c4, c5, c6, c7, c8, c9, c10, fun q q0 q1 hn qe => ?_⟩
      rw [e q 0 q1 (by omega)] at qe
      rw [e q 1 q1 (by omega), e q 2 q1 (by omega)]
      exact c11 q q0 q1 hn qe
theorem mv_sc (h : SC σ s) (h16 : ra_g σ 180 16 < 8) : msz s = msz σ ∧ rch s = rch σ ∧ rnx s = rnx σ ∧ rfb s = rfb σ ∧ rbn s = rbn σ ∧ rds s = rds σ := by
  have e1 : msz s = msz σ := by unfold msz; rw [h 16 (by omega), wq_sc h h16 (by omega)]
  have e2 : rch s = rch σ := by unfold rch; rw [e1, h 19 (by omega)]
  have e3 : rnx s = rnx σ := by unfold rnx; rw [e2, h 18 (by omega), h 17 (by omega), h 21 (by omega)]
  have e4 : rfb s = rfb σ := by unfold rfb; rw [e3, h 19 (by omega)]
  exact ⟨e1, e2, e3, e4, by unfold rbn; rw [e1, e4, h 19 (by omega)], by unfold rds; rw [h 17 (by omega), h 18 (by omega)]⟩
theorem MF_sc (h : SC σ s) (hm : MF σ) : MF s := by
  have h8 := hm.1.2
  obtain ⟨e1, e2, e3, e4, e5, e6⟩ := mv_sc h h8
  unfold MF at *
  rw [e1, e2, e3, e4, e5, e6, h 16 (by omega), h 17 (by omega), h 18 (by omega), h 19 (by omega), h 20 (by omega), h 21 (by omega), h 22 (by omega), wq_sc h h8 (by omega), wq_sc h h8 (by omega), wq_sc h h8 (by omega)]
  exact hm
end
end RB
end
section
/-! the reference: what its methods do (printed by wip/gen/ref.py) -/
section RB
theorem sp_225 {n : Nat} {f : Nat → Int32} {d : Nat} {x0 : Int} {x1 : Int} {σ : ra_V} (hx0 : ra_in x0) (hx1 : ra_in x1) (hp : -1000000 ≤ x0 ∧ x0 ≤ 1000000 ∧ -1000000 ≤ x1 ∧ x1 ≤ 1000000) : ra_C (g_Gs n f) g_sh 0 (d + 1) 225 [ra_I x0, ra_I x1] σ (fun r s => r = .inl (some (ra_I (rfar x0 x1))) ∧ s = σ) := by
  refine ra_enter (nn := 0) mt_225 rfl (Nat.le_of_ble_eq_true rfl) rfl (fun h => absurd h (by decide +kernel)) ?_
  have hr0 := rfar_b x0 x1
  refine ra_load rfl rfl rfl rfl ?_
  refine ra_load rfl rfl rfl rfl ?_
  refine ra_icge rfl rfl hx0 hx1 (fun h1 => ?_) (fun h1 => ?_)
  · refine ra_load rfl rfl rfl rfl ?_
    refine ra_load rfl rfl rfl rfl ?_
    refine ra_isub rfl ?_
    exact ra_ireturn rfl rfl ⟨(congrArg (fun z => Sum.inl (some (ra_I z))) (by first | rfl | omega)), rfl⟩
  · refine ra_load rfl rfl rfl rfl ?_
    refine ra_load rfl rfl rfl rfl ?_
    refine ra_isub rfl ?_
    refine ra_goto rfl rfl ?_
    exact ra_ireturn rfl rfl ⟨(congrArg (fun z => Sum.inl (some (ra_I z))) (by first | rfl | omega)), rfl⟩
theorem sp_228 {n : Nat} {f : Nat → Int32} {d : Nat}  {σ : ra_V} (hm : MF σ) : ra_C (g_Gs n f) g_sh 0 (d + 2) 228 [.index (179)] σ (fun r s => r = .inl (some (ra_I (rch σ))) ∧ s = σ) := by
  refine ra_enter (nn := 0) mt_228 rfl (Nat.le_of_ble_eq_true rfl) rfl (fun h => absurd h (by decide +kernel)) ?_
  have hm0 := hm
  unfold MF at hm0
  refine ra_load rfl rfl rfl rfl ?_
  refine ra_load rfl rfl rfl rfl ?_
  refine ra_getR rfl lk_8_7 (Nat.zero_le _) sh_179 rfl ?_
  refine ra_bipush rfl (by decide) ?_
  refine ra_ialoadJ (j := 16) rfl sh_180 rfl (by decide) rfl (by decide) ?_
  have hr1 : ra_in (ra_g σ (180) 16) := (ra_in_g _ _ _)
  refine ra_iconst rfl ?_
  refine ra_cTp (sp_200 hr1 (by first | omega | (unfold ra_in at *; omega)) (by first | assumption | rfl | omega)) rfl (ct_200 rfl lk_8_67 (Or.inl rfl) sh_179 (Nat.le_of_ble_eq_true rfl)) ?_
  have hr3 : ra_in (wq σ (ra_g σ (180) 16) (2)) := (ra_in_wq _ _ _)
  refine ra_load rfl rfl rfl rfl ?_
  refine ra_getR rfl lk_8_7 (Nat.zero_le _) sh_179 rfl ?_
  refine ra_bipush rfl (by decide) ?_
  refine ra_ialoadJ (j := 19) rfl sh_180 rfl (by decide) rfl (by decide) ?_
  have hr4 : ra_in (ra_g σ (180) 19) := (ra_in_g _ _ _)
  refine ra_cTp (sp_207 hr3 hr4 (by first | assumption | rfl | omega)) rfl (ct_207 rfl lk_8_120 (Or.inl rfl) (Nat.le_of_ble_eq_true rfl)) ?_
  have hr6 : ra_in (((wq σ (ra_g σ (180) 16) (2)) + (ra_g σ (180) 19) - 1).tdiv (ra_g σ (180) 19)) := (ra_in_tdiv (by unfold ra_in; omega) (by omega))
  exact ra_ireturn rfl rfl ⟨(congrArg (fun z => Sum.inl (some (ra_I z))) rfl), rfl⟩
theorem sp_229 {n : Nat} {f : Nat → Int32} {d : Nat}  {σ : ra_V} (hm : MF σ) : ra_C (g_Gs n f) g_sh 0 (d + 2) 229 [.index (179)] σ (fun r s => r = .inl (some (ra_I (rds σ))) ∧ s = σ) := by
  refine ra_enter (nn := 0) mt_229 rfl (Nat.le_of_ble_eq_true rfl) rfl (fun h => absurd h (by decide +kernel)) ?_
  have hm0 := hm
  unfold MF at hm0
  refine ra_load rfl rfl rfl rfl ?_
  refine ra_getR rfl lk_8_7 (Nat.zero_le _) sh_179 rfl ?_
  refine ra_bipush rfl (by decide) ?_
  refine ra_ialoadJ (j := 17) rfl sh_180 rfl (by decide) rfl (by decide) ?_
  have hr1 : ra_in (ra_g σ (180) 17) := (ra_in_g _ _ _)
  refine ra_load rfl rfl rfl rfl ?_
  refine ra_getR rfl lk_8_7 (Nat.zero_le _) sh_179 rfl ?_
  refine ra_bipush rfl (by decide) ?_
  refine ra_ialoadJ (j := 18) rfl sh_180 rfl (by decide) rfl (by decide) ?_
  have hr2 : ra_in (ra_g σ (180) 18) := (ra_in_g _ _ _)
  refine ra_cTp (sp_225 hr1 hr2 (by first | assumption | rfl | omega)) rfl (ct_225 rfl lk_8_136 (Or.inl rfl) (Nat.le_of_ble_eq_true rfl)) ?_
  have hf4 := rfar_b (ra_g σ (180) 17) (ra_g σ (180) 18)
  have hr5 : ra_in (rfar (ra_g σ (180) 17) (ra_g σ (180) 18)) := (by first | omega | (unfold ra_in at *; omega))
  exact ra_ireturn rfl rfl ⟨(congrArg (fun z => Sum.inl (some (ra_I z))) rfl), rfl⟩
theorem sp_230 {n : Nat} {f : Nat → Int32} {d : Nat}  {σ : ra_V}  : ra_C (g_Gs n f) g_sh 0 (d + 1) 230 [.index (179)] σ (fun r s => (∃ z : Int, (z = 0 ∨ z = 1) ∧ (z = 1 ↔ ra_g σ 180 18 < ra_g σ 180 17) ∧ r = .inl (some (ra_I z))) ∧ s = σ) := by
  refine ra_enter (nn := 0) mt_230 rfl (Nat.le_of_ble_eq_true rfl) rfl (fun h => absurd h (by decide +kernel)) ?_
  refine ra_load rfl rfl rfl rfl ?_
  refine ra_getR rfl lk_8_7 (Nat.zero_le _) sh_179 rfl ?_
  refine ra_bipush rfl (by decide) ?_
  refine ra_ialoadJ (j := 18) rfl sh_180 rfl (by decide) rfl (by decide) ?_
  have hr1 : ra_in (ra_g σ (180) 18) := (ra_in_g _ _ _)
  refine ra_load rfl rfl rfl rfl ?_
  refine ra_getR rfl lk_8_7 (Nat.zero_le _) sh_179 rfl ?_
  refine ra_bipush rfl (by decide) ?_
  refine ra_ialoadJ (j := 17) rfl sh_180 rfl (by decide) rfl (by decide) ?_
  have hr2 : ra_in (ra_g σ (180) 17) := (ra_in_g _ _ _)
  refine ra_icge rfl rfl hr1 hr2 (fun h3 => ?_) (fun h3 => ?_)
  · refine ra_iconst rfl ?_
    exact ra_ireturn rfl (ra_okB (Or.inl rfl)) ⟨⟨_, (Or.inl rfl), (by omega), rfl⟩, rfl⟩
  · refine ra_iconst rfl ?_
    refine ra_goto rfl rfl ?_
    exact ra_ireturn rfl (ra_okB (Or.inr rfl)) ⟨⟨_, (Or.inr rfl), (by omega), rfl⟩, rfl⟩
theorem sp_231 {n : Nat} {f : Nat → Int32} {d : Nat} {x0 : Int} {σ : ra_V} (hx0 : ra_in x0) (hm : MF σ) : ra_C (g_Gs n f) g_sh 0 (d + 3) 231 [.index (179), ra_I x0] σ (fun r s => rB r ∧ s = σ) := by
  refine ra_enter (nn := 0) mt_231 rfl (Nat.le_of_ble_eq_true rfl) rfl (fun h => absurd h (by decide +kernel)) ?_
  have hm0 := hm
  unfold MF at hm0
  refine ra_load rfl rfl rfl rfl ?_
  refine ra_cQPp (sp_230 ) rfl (ct_230 rfl lk_8_147 (Or.inl rfl) sh_179 (Nat.le_of_ble_eq_true rfl)) (fun z2 hz2 hz2p => ?_)
  refine ra_ifeq rfl rfl (ra_in01 hz2) (fun h3 => ?_) (fun h3 => ?_)
  · refine ra_load rfl rfl rfl rfl ?_
    refine ra_load rfl rfl rfl rfl ?_
    refine ra_cTp (sp_228 hm) rfl (ct_228 rfl lk_8_150 (Or.inl rfl) sh_179 (Nat.le_of_ble_eq_true rfl)) ?_
    have hr5 : ra_in (rch σ) := (by first | omega | (unfold ra_in at *; omega))
    refine ra_load rfl rfl rfl rfl ?_
    refine ra_getR rfl lk_8_7 (Nat.zero_le _) sh_179 rfl ?_
    refine ra_bipush rfl (by decide) ?_
    refine ra_ialoadJ (j := 21) rfl sh_180 rfl (by decide) rfl (by decide) ?_
    have hr6 : ra_in (ra_g σ (180) 21) := (ra_in_g _ _ _)
    refine ra_isub rfl ?_
    refine ra_iclt rfl rfl hx0 (by first | omega | (unfold ra_in at *; omega)) (fun h7 => ?_) (fun h7 => ?_)
    · refine ra_iconst rfl ?_
      exact ra_ireturn rfl (ra_okB (Or.inl rfl)) ⟨⟨_, (Or.inl rfl), rfl⟩, rfl⟩
    · refine ra_iconst rfl ?_
      refine ra_goto rfl rfl ?_
      exact ra_ireturn rfl (ra_okB (Or.inr rfl)) ⟨⟨_, (Or.inr rfl), rfl⟩, rfl⟩
  · refine ra_load rfl rfl rfl rfl ?_
    refine ra_load rfl rfl rfl rfl ?_
    refine ra_getR rfl lk_8_7 (Nat.zero_le _) sh_179 rfl ?_
    refine ra_bipush rfl (by decide) ?_
    refine ra_ialoadJ (j := 21) rfl sh_180 rfl (by decide) rfl (by decide) ?_
    have hr8 : ra_in (ra_g σ (180) 21) := (ra_in_g _ _ _)
    refine ra_icge rfl rfl hx0 hr8 (fun h9 => ?_) (fun h9 => ?_)
    · refine ra_iconst rfl ?_
      refine ra_goto rfl rfl ?_
      exact ra_ireturn rfl (ra_okB (Or.inl rfl)) ⟨⟨_, (Or.inl rfl), rfl⟩, rfl⟩
    · refine ra_iconst rfl ?_
      refine ra_goto rfl rfl ?_
      exact ra_ireturn rfl (ra_okB (Or.inr rfl)) ⟨⟨_, (Or.inr rfl), rfl⟩, rfl⟩
theorem sp_232 {n : Nat} {f : Nat → Int32} {d : Nat}  {σ : ra_V} (hm : MF σ) : ra_C (g_Gs n f) g_sh 0 (d + 3) 232 [.index (179)] σ (fun r s => r = .inl (some (ra_I (rnx σ))) ∧ s = σ) := by
  refine ra_enter (nn := 0) mt_232 rfl (Nat.le_of_ble_eq_true rfl) rfl (fun h => absurd h (by decide +kernel)) ?_
  have hm0 := hm
  unfold MF at hm0
  refine ra_load rfl rfl rfl rfl ?_
  refine ra_cQPp (sp_230 ) rfl (ct_230 rfl lk_8_147 (Or.inl rfl) sh_179 (Nat.le_of_ble_eq_true rfl)) (fun z2 hz2 hz2p => ?_)
  refine ra_ifeq rfl rfl (ra_in01 hz2) (fun h3 => ?_) (fun h3 => ?_)
  · refine ra_load rfl rfl rfl rfl ?_
    refine ra_cTp (sp_228 hm) rfl (ct_228 rfl lk_8_150 (Or.inl rfl) sh_179 (Nat.le_of_ble_eq_true rfl)) ?_
    have hr5 : ra_in (rch σ) := (by first | omega | (unfold ra_in at *; omega))
    refine ra_iconst rfl ?_
    refine ra_isub rfl ?_
    refine ra_load rfl rfl rfl rfl ?_
    refine ra_getR rfl lk_8_7 (Nat.zero_le _) sh_179 rfl ?_
    refine ra_bipush rfl (by decide) ?_
    refine ra_ialoadJ (j := 21) rfl sh_180 rfl (by decide) rfl (by decide) ?_
    have hr6 : ra_in (ra_g σ (180) 21) := (ra_in_g _ _ _)
    refine ra_isub rfl ?_
    exact ra_ireturn rfl rfl ⟨(congrArg (fun z => Sum.inl (some (ra_I z))) (by unfold rnx; first | rw [if_pos (by omega)] | rw [if_neg (by omega)])), rfl⟩
  · refine ra_load rfl rfl rfl rfl ?_
    refine ra_getR rfl lk_8_7 (Nat.zero_le _) sh_179 rfl ?_
    refine ra_bipush rfl (by decide) ?_
    refine ra_ialoadJ (j := 21) rfl sh_180 rfl (by decide) rfl (by decide) ?_
    have hr7 : ra_in (ra_g σ (180) 21) := (ra_in_g _ _ _)
    refine ra_goto rfl rfl ?_
    exact ra_ireturn rfl rfl ⟨(congrArg (fun z => Sum.inl (some (ra_I z))) (by unfold rnx; first | rw [if_pos (by omega)] | rw [if_neg (by omega)])), rfl⟩
theorem sp_233 {n : Nat} {f : Nat → Int32} {d : Nat}  {σ : ra_V} (hm : MF σ) : ra_C (g_Gs n f) g_sh 0 (d + 4) 233 [.index (179)] σ (fun r s => r = .inl (some (ra_I (rfb σ))) ∧ s = σ) := by
  refine ra_enter (nn := 0) mt_233 rfl (Nat.le_of_ble_eq_true rfl) rfl (fun h => absurd h (by decide +kernel)) ?_
  have hm0 := hm
  unfold MF at hm0
  refine ra_load rfl rfl rfl rfl ?_
  refine ra_cTp (sp_232 hm) rfl (ct_232 rfl lk_8_153 (Or.inl rfl) sh_179 (Nat.le_of_ble_eq_true rfl)) ?_
  have hr2 : ra_in (rnx σ) := (by first | omega | (unfold ra_in at *; omega))
  refine ra_load rfl rfl rfl rfl ?_
  refine ra_getR rfl lk_8_7 (Nat.zero_le _) sh_179 rfl ?_
  refine ra_bipush rfl (by decide) ?_
  refine ra_ialoadJ (j := 19) rfl sh_180 rfl (by decide) rfl (by decide) ?_
  have hr3 : ra_in (ra_g σ (180) 19) := (ra_in_g _ _ _)
  refine ra_imul rfl ?_
  exact ra_ireturn rfl rfl ⟨(congrArg (fun z => Sum.inl (some (ra_I z))) rfl), rfl⟩
theorem sp_234 {n : Nat} {f : Nat → Int32} {d : Nat}  {σ : ra_V} (hm : MF σ) : ra_C (g_Gs n f) g_sh 0 (d + 5) 234 [.index (179)] σ (fun r s => r = .inl (some (ra_I (rbn σ))) ∧ s = σ) := by
  refine ra_enter (nn := 0) mt_234 rfl (Nat.le_of_ble_eq_true rfl) rfl (fun h => absurd h (by decide +kernel)) ?_
  have hm0 := hm
  unfold MF at hm0
  refine ra_load rfl rfl rfl rfl ?_
  refine ra_getR rfl lk_8_7 (Nat.zero_le _) sh_179 rfl ?_
  refine ra_bipush rfl (by decide) ?_
  refine ra_ialoadJ (j := 19) rfl sh_180 rfl (by decide) rfl (by decide) ?_
  have hr1 : ra_in (ra_g σ (180) 19) := (ra_in_g _ _ _)
  refine ra_load rfl rfl rfl rfl ?_
  refine ra_load rfl rfl rfl rfl ?_
  refine ra_getR rfl lk_8_7 (Nat.zero_le _) sh_179 rfl ?_
  refine ra_bipush rfl (by decide) ?_
  refine ra_ialoadJ (j := 16) rfl sh_180 rfl (by decide) rfl (by decide) ?_
  have hr2 : ra_in (ra_g σ (180) 16) := (ra_in_g _ _ _)
  refine ra_iconst rfl ?_
  refine ra_cTp (sp_200 hr2 (by first | omega | (unfold ra_in at *; omega)) (by first | assumption | rfl | omega)) rfl (ct_200 rfl lk_8_67 (Or.inl rfl) sh_179 (Nat.le_of_ble_eq_true rfl)) ?_
  have hr4 : ra_in (wq σ (ra_g σ (180) 16) (2)) := (ra_in_wq _ _ _)
  refine ra_load rfl rfl rfl rfl ?_
  refine ra_cTp (sp_233 hm) rfl (ct_233 rfl lk_8_156 (Or.inl rfl) sh_179 (Nat.le_of_ble_eq_true rfl)) ?_
  have hr6 : ra_in (rfb σ) := (by first | omega | (unfold ra_in at *; omega))
  refine ra_isub rfl ?_
  refine ra_min rfl lk_8_90 hr1 (by first | omega | (unfold ra_in at *; omega)) (Nat.le_of_ble_eq_true rfl) ?_
  exact ra_ireturn rfl rfl ⟨(congrArg (fun z => Sum.inl (some (ra_I z))) rfl), rfl⟩
theorem sp_236 {n : Nat} {f : Nat → Int32} {d : Nat}  {σ : ra_V} (hm : MF σ) : ra_C (g_Gs n f) g_sh 0 (d + 6) 236 [.index (179)] σ (fun r s => (∃ z, ra_in z ∧ ((z = 0 ∨ z = 1 ∨ z = 2) ∧ (z = 0 ↔ rbn σ ≤ rds σ) ∧ (z = 2 → ra_g σ 180 22 = 1) ∧ (z = 1 → ra_g σ 180 22 ≠ 1)) ∧ r = .inl (some (ra_I z))) ∧ s = σ) := by
  refine ra_enter (nn := 0) mt_236 rfl (Nat.le_of_ble_eq_true rfl) rfl (fun h => absurd h (by decide +kernel)) ?_
  have hm0 := hm
  unfold MF at hm0
  refine ra_load rfl rfl rfl rfl ?_
  refine ra_cTp (sp_234 hm) rfl (ct_234 rfl lk_8_162 (Or.inl rfl) sh_179 (Nat.le_of_ble_eq_true rfl)) ?_
  have hr2 : ra_in (rbn σ) := (by first | omega | (unfold ra_in at *; omega))
  refine ra_load rfl rfl rfl rfl ?_
  refine ra_cTp (sp_229 hm) rfl (ct_229 rfl lk_8_159 (Or.inl rfl) sh_179 (Nat.le_of_ble_eq_true rfl)) ?_
  have hr4 : ra_in (rds σ) := (by first | omega | (unfold ra_in at *; omega))
  refine ra_icgt rfl rfl hr2 hr4 (fun h5 => ?_) (fun h5 => ?_)
  · refine ra_load rfl rfl rfl rfl ?_
    refine ra_getR rfl lk_8_7 (Nat.zero_le _) sh_179 rfl ?_
    refine ra_bipush rfl (by decide) ?_
    refine ra_ialoadJ (j := 22) rfl sh_180 rfl (by decide) rfl (by decide) ?_
    have hr6 : ra_in (ra_g σ (180) 22) := (ra_in_g _ _ _)
    refine ra_iconst rfl ?_
    refine ra_icne rfl rfl hr6 (by first | omega | (unfold ra_in at *; omega)) (fun h7 => ?_) (fun h7 => ?_)
    · refine ra_iconst rfl ?_
      exact ra_ireturn rfl rfl ⟨⟨_, (by first | omega | (unfold ra_in at *; omega)), (by omega), rfl⟩, rfl⟩
    · refine ra_iconst rfl ?_
      refine ra_goto rfl rfl ?_
      exact ra_ireturn rfl rfl ⟨⟨_, (by first | omega | (unfold ra_in at *; omega)), (by omega), rfl⟩, rfl⟩
  · refine ra_iconst rfl ?_
    refine ra_goto rfl rfl ?_
    exact ra_ireturn rfl rfl ⟨⟨_, (by first | omega | (unfold ra_in at *; omega)), (by omega), rfl⟩, rfl⟩
theorem sp_237 {n : Nat} {f : Nat → Int32} {d : Nat} {x0 : Int} {σ : ra_V} (hx0 : ra_in x0) (hm : MF σ) (hi : 0 ≤ x0 ∧ x0 < rbn σ) : ra_C (g_Gs n f) g_sh 0 (d + 7) 237 [.index (179), ra_I x0] σ (fun r s => (∃ z, ra_in z ∧ (0 ≤ z ∧ z < 600) ∧ r = .inl (some (ra_I z))) ∧ s = σ) := by
  refine ra_enter (nn := 0) mt_237 rfl (Nat.le_of_ble_eq_true rfl) rfl (fun h => absurd h (by decide +kernel)) ?_
  have hm0 := hm
  unfold MF at hm0
  refine ra_load rfl rfl rfl rfl ?_
  refine ra_cIPp (sp_236 hm) rfl (ct_236 rfl lk_8_165 (Or.inl rfl) sh_179 (Nat.le_of_ble_eq_true rfl)) (fun z2 hz2 hz2p => ?_)
  refine ra_iconst rfl ?_
  refine ra_icne rfl rfl hz2 (by first | omega | (unfold ra_in at *; omega)) (fun h3 => ?_) (fun h3 => ?_)
  · refine ra_load rfl rfl rfl rfl ?_
    refine ra_getR rfl lk_8_7 (Nat.zero_le _) sh_179 rfl ?_
    refine ra_bipush rfl (by decide) ?_
    refine ra_ialoadJ (j := 17) rfl sh_180 rfl (by decide) rfl (by decide) ?_
    have hr4 : ra_in (ra_g σ (180) 17) := (ra_in_g _ _ _)
    refine ra_load rfl rfl rfl rfl ?_
    refine ra_cTp (sp_233 hm) rfl (ct_233 rfl lk_8_156 (Or.inl rfl) sh_179 (Nat.le_of_ble_eq_true rfl)) ?_
    have hr6 : ra_in (rfb σ) := (by first | omega | (unfold ra_in at *; omega))
    refine ra_iadd rfl ?_
    refine ra_load rfl rfl rfl rfl ?_
    refine ra_iadd rfl ?_
    exact ra_ireturn rfl rfl ⟨⟨_, (by first | omega | (unfold ra_in at *; omega)), (by omega), rfl⟩, rfl⟩
  · refine ra_load rfl rfl rfl rfl ?_
    refine ra_getR rfl lk_8_7 (Nat.zero_le _) sh_179 rfl ?_
    refine ra_bipush rfl (by decide) ?_
    refine ra_ialoadJ (j := 20) rfl sh_180 rfl (by decide) rfl (by decide) ?_
    have hr7 : ra_in (ra_g σ (180) 20) := (ra_in_g _ _ _)
    refine ra_load rfl rfl rfl rfl ?_
    refine ra_iadd rfl ?_
    refine ra_goto rfl rfl ?_
    exact ra_ireturn rfl rfl ⟨⟨_, (by first | omega | (unfold ra_in at *; omega)), (by omega), rfl⟩, rfl⟩
theorem sp_238 {n : Nat} {f : Nat → Int32} {d : Nat} {x0 : Int} {σ : ra_V} (hx0 : ra_in x0) (hm : MF σ) (hi : 0 ≤ x0 ∧ x0 < rbn σ) : ra_C (g_Gs n f) g_sh 0 (d + 7) 238 [.index (179), ra_I x0] σ (fun r s => (∃ z, ra_in z ∧ (0 ≤ z ∧ z < 600) ∧ r = .inl (some (ra_I z))) ∧ s = σ) := by
  refine ra_enter (nn := 0) mt_238 rfl (Nat.le_of_ble_eq_true rfl) rfl (fun h => absurd h (by decide +kernel)) ?_
  have hm0 := hm
  unfold MF at hm0
  refine ra_load rfl rfl rfl rfl ?_
  refine ra_cIPp (sp_236 hm) rfl (ct_236 rfl lk_8_165 (Or.inl rfl) sh_179 (Nat.le_of_ble_eq_true rfl)) (fun z2 hz2 hz2p => ?_)
  refine ra_iconst rfl ?_
  refine ra_icne rfl rfl hz2 (by first | omega | (unfold ra_in at *; omega)) (fun h3 => ?_) (fun h3 => ?_)
  · refine ra_load rfl rfl rfl rfl ?_
    refine ra_getR rfl lk_8_7 (Nat.zero_le _) sh_179 rfl ?_
    refine ra_bipush rfl (by decide) ?_
    refine ra_ialoadJ (j := 18) rfl sh_180 rfl (by decide) rfl (by decide) ?_
    have hr4 : ra_in (ra_g σ (180) 18) := (ra_in_g _ _ _)
    refine ra_load rfl rfl rfl rfl ?_
    refine ra_cTp (sp_233 hm) rfl (ct_233 rfl lk_8_156 (Or.inl rfl) sh_179 (Nat.le_of_ble_eq_true rfl)) ?_
    have hr6 : ra_in (rfb σ) := (by first | omega | (unfold ra_in at *; omega))
    refine ra_iadd rfl ?_
    refine ra_load rfl rfl rfl rfl ?_
    refine ra_iadd rfl ?_
    exact ra_ireturn rfl rfl ⟨⟨_, (by first | omega | (unfold ra_in at *; omega)), (by omega), rfl⟩, rfl⟩
  · refine ra_load rfl rfl rfl rfl ?_
    refine ra_getR rfl lk_8_7 (Nat.zero_le _) sh_179 rfl ?_
    refine ra_bipush rfl (by decide) ?_
    refine ra_ialoadJ (j := 20) rfl sh_180 rfl (by decide) rfl (by decide) ?_
    have hr7 : ra_in (ra_g σ (180) 20) := (ra_in_g _ _ _)
    refine ra_load rfl rfl rfl rfl ?_
    refine ra_iadd rfl ?_
    refine ra_goto rfl rfl ?_
    exact ra_ireturn rfl rfl ⟨⟨_, (by first | omega | (unfold ra_in at *; omega)), (by omega), rfl⟩, rfl⟩
theorem lp_226_6 {n : Nat} {f : Nat → Int32} {d : Nat} {x0 : Int} {x1 : Int} {x2 : Int} {x3 : Int} {x4 : Int} {σ : ra_V} (hx0 : ra_in x0) (hx1 : ra_in x1) (hx2 : ra_in x2) (hx3 : ra_in x3) (hx4 : ra_in x4) : ∀ (nn : Nat) (v5 : Int) (v6 : Int) (hv5 : ra_in v5) (hv6_0 : ra_in v6) (hm : ((x4 - v6 : Int)).toNat < nn), ra_P (g_Gs n f) g_sh 0 (d + 0) g_m_X8_stepsOf 6 [some (ra_I x0), some (ra_I x1), some (ra_I x2), none, some (ra_I x4), some (ra_I v5), some (ra_I v6)] [] σ (fun r s => rI r ∧ s = σ) := by
  intro nn
  induction nn with
  | zero => intro v5 v6 hv5 hv6_0 hm; exact absurd hm (Nat.not_lt_zero _)
  | succ nn ih =>
    intro v5 v6 hv5 hv6_0 hm
    refine ra_load rfl rfl rfl rfl ?_
    refine ra_load rfl rfl rfl rfl ?_
    refine ra_icge rfl rfl (by first | omega | (unfold ra_in at *; omega)) hx4 (fun h1 => ?_) (fun h1 => ?_)
    · refine ra_load rfl rfl rfl rfl ?_
      exact ra_ireturn rfl rfl ⟨⟨_, hv5, rfl⟩, rfl⟩
    · refine ra_load rfl rfl rfl rfl ?_
      refine ra_load rfl rfl rfl rfl ?_
      refine ra_load rfl rfl rfl rfl ?_
      refine ra_load rfl rfl rfl rfl ?_
      refine ra_load rfl rfl rfl rfl ?_
      refine ra_imul rfl ?_
      refine ra_gen (fun z2 hz2 => ?_)
      refine ra_isub rfl ?_
      refine ra_gen (fun z3 hz3 => ?_)
      refine ra_min rfl lk_8_90 hx1 hz3 (Nat.le_of_ble_eq_true rfl) ?_
      refine ra_load rfl rfl rfl rfl ?_
      refine ra_icle rfl rfl (by first | omega | (unfold ra_in at *; omega)) hx2 (fun h4 => ?_) (fun h4 => ?_)
      · refine ra_iconst rfl ?_
        refine ra_iadd rfl ?_
        refine ra_gen (fun z5 hz5 => ?_)
        refine ra_store (L' := [_, _, _, _, _, _, _]) rfl rfl rfl (Nat.le_of_ble_eq_true rfl) rfl ?_
        refine ra_iinc (L' := [_, _, _, _, _, _, _]) rfl rfl (Nat.le_of_ble_eq_true rfl) rfl ?_
        refine ra_goto rfl rfl ?_
        exact ra_weak (by repeat' constructor) (ih z5 (v6 + 1) hz5 (by first | omega | (unfold ra_in at *; omega)) (by first | omega | (unfold ra_in at *; omega)))
      · refine ra_iconst rfl ?_
        refine ra_goto rfl rfl ?_
        refine ra_iadd rfl ?_
        refine ra_gen (fun z6 hz6 => ?_)
        refine ra_store (L' := [_, _, _, _, _, _, _]) rfl rfl rfl (Nat.le_of_ble_eq_true rfl) rfl ?_
        refine ra_iinc (L' := [_, _, _, _, _, _, _]) rfl rfl (Nat.le_of_ble_eq_true rfl) rfl ?_
        refine ra_goto rfl rfl ?_
        exact ra_weak (by repeat' constructor) (ih z6 (v6 + 1) hz6 (by first | omega | (unfold ra_in at *; omega)) (by first | omega | (unfold ra_in at *; omega)))
theorem sp_226 {n : Nat} {f : Nat → Int32} {d : Nat} {x0 : Int} {x1 : Int} {x2 : Int} {x3 : Int} {x4 : Int} {σ : ra_V} (hx0 : ra_in x0) (hx1 : ra_in x1) (hx2 : ra_in x2) (hx3 : ra_in x3) (hx4 : ra_in x4) : ra_C (g_Gs n f) g_sh 0 (d + 1) 226 [ra_I x0, ra_I x1, ra_I x2, ra_I x3, ra_I x4] σ (fun r s => rI r ∧ s = σ) := by
  refine ra_enter (nn := 2) mt_226 rfl (Nat.le_of_ble_eq_true rfl) rfl (fun h => absurd h (by decide +kernel)) ?_
  refine ra_iconst rfl ?_
  refine ra_store (L' := [_, _, _, _, _, _, _]) rfl rfl rfl (Nat.le_of_ble_eq_true rfl) rfl ?_
  refine ra_load rfl rfl rfl rfl ?_
  refine ra_store (L' := [_, _, _, _, _, _, _]) rfl rfl rfl (Nat.le_of_ble_eq_true rfl) rfl ?_
  exact ra_weak (by repeat' constructor) (lp_226_6 hx0 hx1 hx2 hx3 hx4 _ (0) x3 (by first | omega | (unfold ra_in at *; omega)) hx3 (Nat.lt_succ_self _))
theorem sp_235 {n : Nat} {f : Nat → Int32} {d : Nat}  {σ : ra_V} (hm : MF σ) : ra_C (g_Gs n f) g_sh 0 (d + 3) 235 [.index (179)] σ (fun r s => rI r ∧ s = σ) := by
  refine ra_enter (nn := 2) mt_235 rfl (Nat.le_of_ble_eq_true rfl) rfl (fun h => absurd h (by decide +kernel)) ?_
  have hm0 := hm
  unfold MF at hm0
  refine ra_load rfl rfl rfl rfl ?_
  refine ra_load rfl rfl rfl rfl ?_
  refine ra_getR rfl lk_8_7 (Nat.zero_le _) sh_179 rfl ?_
  refine ra_bipush rfl (by decide) ?_
  refine ra_ialoadJ (j := 16) rfl sh_180 rfl (by decide) rfl (by decide) ?_
  have hr1 : ra_in (ra_g σ (180) 16) := (ra_in_g _ _ _)
  refine ra_iconst rfl ?_
  refine ra_cTp (sp_200 hr1 (by first | omega | (unfold ra_in at *; omega)) (by first | assumption | rfl | omega)) rfl (ct_200 rfl lk_8_67 (Or.inl rfl) sh_179 (Nat.le_of_ble_eq_true rfl)) ?_
  have hr3 : ra_in (wq σ (ra_g σ (180) 16) (2)) := (ra_in_wq _ _ _)
  refine ra_store (L' := [_, _, _]) rfl rfl rfl (Nat.le_of_ble_eq_true rfl) rfl ?_
  refine ra_load rfl rfl rfl rfl ?_
  refine ra_cQPp (sp_230 ) rfl (ct_230 rfl lk_8_147 (Or.inl rfl) sh_179 (Nat.le_of_ble_eq_true rfl)) (fun z5 hz5 hz5p => ?_)
  refine ra_ifeq rfl rfl (ra_in01 hz5) (fun h6 => ?_) (fun h6 => ?_)
  · refine ra_load rfl rfl rfl rfl ?_
    refine ra_load rfl rfl rfl rfl ?_
    refine ra_getR rfl lk_8_7 (Nat.zero_le _) sh_179 rfl ?_
    refine ra_bipush rfl (by decide) ?_
    refine ra_ialoadJ (j := 19) rfl sh_180 rfl (by decide) rfl (by decide) ?_
    have hr7 : ra_in (ra_g σ (180) 19) := (ra_in_g _ _ _)
    refine ra_load rfl rfl rfl rfl ?_
    refine ra_cTp (sp_229 hm) rfl (ct_229 rfl lk_8_159 (Or.inl rfl) sh_179 (Nat.le_of_ble_eq_true rfl)) ?_
    have hr9 : ra_in (rds σ) := (by first | omega | (unfold ra_in at *; omega))
    refine ra_iconst rfl ?_
    refine ra_load rfl rfl rfl rfl ?_
    refine ra_cTp (sp_228 hm) rfl (ct_228 rfl lk_8_150 (Or.inl rfl) sh_179 (Nat.le_of_ble_eq_true rfl)) ?_
    have hr11 : ra_in (rch σ) := (by first | omega | (unfold ra_in at *; omega))
    refine ra_load rfl rfl rfl rfl ?_
    refine ra_getR rfl lk_8_7 (Nat.zero_le _) sh_179 rfl ?_
    refine ra_bipush rfl (by decide) ?_
    refine ra_ialoadJ (j := 21) rfl sh_180 rfl (by decide) rfl (by decide) ?_
    have hr12 : ra_in (ra_g σ (180) 21) := (ra_in_g _ _ _)
    refine ra_isub rfl ?_
    refine ra_gen (fun z13 hz13 => ?_)
    refine ra_cIp (sp_226 hr3 hr7 hr9 (by first | omega | (unfold ra_in at *; omega)) hz13) rfl (ct_226 rfl lk_8_143 (Or.inl rfl) (Nat.le_of_ble_eq_true rfl)) (fun z15 hz15 => ?_)
    refine ra_store (L' := [_, _, _]) rfl rfl rfl (Nat.le_of_ble_eq_true rfl) rfl ?_
    refine ra_load rfl rfl rfl rfl ?_
    refine ra_load rfl rfl rfl rfl ?_
    refine ra_getR rfl lk_8_7 (Nat.zero_le _) sh_179 rfl ?_
    refine ra_bipush rfl (by decide) ?_
    refine ra_ialoadJ (j := 22) rfl sh_180 rfl (by decide) rfl (by decide) ?_
    have hr16 : ra_in (ra_g σ (180) 22) := (ra_in_g _ _ _)
    refine ra_isub rfl ?_
    refine ra_gen (fun z17 hz17 => ?_)
    exact ra_ireturn rfl rfl ⟨⟨_, hz17, rfl⟩, rfl⟩
  · refine ra_load rfl rfl rfl rfl ?_
    refine ra_load rfl rfl rfl rfl ?_
    refine ra_getR rfl lk_8_7 (Nat.zero_le _) sh_179 rfl ?_
    refine ra_bipush rfl (by decide) ?_
    refine ra_ialoadJ (j := 19) rfl sh_180 rfl (by decide) rfl (by decide) ?_
    have hr18 : ra_in (ra_g σ (180) 19) := (ra_in_g _ _ _)
    refine ra_load rfl rfl rfl rfl ?_
    refine ra_cTp (sp_229 hm) rfl (ct_229 rfl lk_8_159 (Or.inl rfl) sh_179 (Nat.le_of_ble_eq_true rfl)) ?_
    have hr20 : ra_in (rds σ) := (by first | omega | (unfold ra_in at *; omega))
    refine ra_load rfl rfl rfl rfl ?_
    refine ra_getR rfl lk_8_7 (Nat.zero_le _) sh_179 rfl ?_
    refine ra_bipush rfl (by decide) ?_
    refine ra_ialoadJ (j := 21) rfl sh_180 rfl (by decide) rfl (by decide) ?_
    have hr21 : ra_in (ra_g σ (180) 21) := (ra_in_g _ _ _)
    refine ra_load rfl rfl rfl rfl ?_
    refine ra_cTp (sp_228 hm) rfl (ct_228 rfl lk_8_150 (Or.inl rfl) sh_179 (Nat.le_of_ble_eq_true rfl)) ?_
    have hr23 : ra_in (rch σ) := (by first | omega | (unfold ra_in at *; omega))
    refine ra_cIp (sp_226 hr3 hr18 hr20 hr21 hr23) rfl (ct_226 rfl lk_8_143 (Or.inl rfl) (Nat.le_of_ble_eq_true rfl)) (fun z25 hz25 => ?_)
    refine ra_goto rfl rfl ?_
    refine ra_store (L' := [_, _, _]) rfl rfl rfl (Nat.le_of_ble_eq_true rfl) rfl ?_
    refine ra_load rfl rfl rfl rfl ?_
    refine ra_load rfl rfl rfl rfl ?_
    refine ra_getR rfl lk_8_7 (Nat.zero_le _) sh_179 rfl ?_
    refine ra_bipush rfl (by decide) ?_
    refine ra_ialoadJ (j := 22) rfl sh_180 rfl (by decide) rfl (by decide) ?_
    have hr26 : ra_in (ra_g σ (180) 22) := (ra_in_g _ _ _)
    refine ra_isub rfl ?_
    refine ra_gen (fun z27 hz27 => ?_)
    exact ra_ireturn rfl rfl ⟨⟨_, hz27, rfl⟩, rfl⟩
end RB
end
section
/-! scratch areas of the reference -/
section RB
/-- a sector that a scratch area may have -/
def CAN (σ : ra_V) (p to k : Int) : Prop := US σ k 1 ∧ ¬ TK σ k 1 (-1) ∧ ¬ (k < to + wq σ p 2 ∧ to < k + 1)
def SCE (σ : ra_V) (p to m : Int) : Prop := ∃ k, 0 ≤ k ∧ ∀ j, k ≤ j → j < k + m → CAN σ p to j
/-- from above down to k (not itself): v sectors in a row lie there -/
def SCI (σ : ra_V) (p to m v k : Int) : Prop := (0 ≤ v ∧ v < m) ∧ (∀ j, k < j → j ≤ k + v → CAN σ p to j) ∧ ¬ CAN σ p to (k + v + 1) ∧ ∀ q, k < q → ¬ (∀ j, q ≤ j → j < q + m → CAN σ p to j)
section
variable {σ : ra_V} {p to m v k : Int}
theorem can_hi (h : CAN σ p to k) (hw : WFa σ) : 0 ≤ k ∧ k < ra_g σ 180 0 := by
  unfold WFa at hw
  obtain ⟨⟨-, h1, h2⟩, -⟩ := h
  omega
theorem sci_0 (hm : 1 ≤ m) (hw : WFa σ) : SCI σ p to m 0 (ra_g σ 180 0 - 1) := by
  refine ⟨⟨by omega, by omega⟩, fun j a b => absurd b (by omega), fun h => ?_, fun q hq h => ?_⟩
  · have := (can_hi h hw).2; omega
  · have := (can_hi (h q (by omega) (by omega)) hw).2; omega
theorem sci_n (h : SCI σ p to m v k) (hk : 0 ≤ k) (hc : ¬ CAN σ p to k) : SCI σ p to m 0 (k + (-1)) := by
  obtain ⟨h1, h2, h3, h4⟩ := h
  refine ⟨⟨by omega, by omega⟩, fun j a b => absurd b (by omega), ?_, fun q hq hh => ?_⟩
  · rw [show k + (-1) + 0 + 1 = k by omega]; exact hc
  · by_cases e : q = k
    · subst e; exact hc (hh q (by omega) (by omega))
    · exact h4 q (by omega) hh
theorem sci_y (h : SCI σ p to m v k) (hk : 0 ≤ k) (hc : CAN σ p to k) (hn : ¬ v + 1 = m) : SCI σ p to m (v + 1) (k + (-1)) := by
  obtain ⟨h1, h2, h3, h4⟩ := h
  refine ⟨⟨by omega, by omega⟩, fun j a b => ?_, ?_, fun q hq hh => ?_⟩
  · by_cases e : j = k
    · rw [e]; exact hc
    · exact h2 j (by omega) (by omega)
  · rw [show k + (-1) + (v + 1) + 1 = k + v + 1 by omega]; exact h3
  · by_cases e : q = k
    · subst e; exact h3 (hh (q + v + 1) (by omega) (by omega))
    · exact h4 q (by omega) hh
theorem sci_z (h : SCI σ p to m v (-1)) : ¬ SCE σ p to m := by
  rintro ⟨k, k0, hk⟩
  exact h.2.2.2 k (by omega) hk
theorem sci_f (h : SCI σ p to m v k) (hk : 0 ≤ k) (hc : CAN σ p to k) (hn : v + 1 = m) (hw : WFa σ) : (k = -1 ∨ (0 ≤ k ∧ k + m ≤ 600)) ∧ (k = -1 → ¬ SCE σ p to m) ∧ (k ≠ -1 → SCE σ p to m) := by
  obtain ⟨h1, h2, h3, h4⟩ := h
  have hA : ∀ j, k ≤ j → j < k + m → CAN σ p to j := fun j a b => by
    by_cases e : j = k
    · rw [e]; exact hc
    · exact h2 j (by omega) (by omega)
  have h5 := can_hi (hA (k + m - 1) (by omega) (by omega)) hw
  have h6 := hw
  unfold WFa at h6
  exact ⟨Or.inr ⟨hk, by omega⟩, fun q => by omega, fun _ => ⟨k, hk, hA⟩⟩
end
end RB
end
section
/-! the reference: what its methods do (printed by wip/gen/ref.py) -/
section RB
theorem lp_223_13 {n : Nat} {f : Nat → Int32} {d : Nat} {x0 : Int} {x1 : Int} {x2 : Int} {σ : ra_V} (hx0 : ra_in x0) (hx1 : ra_in x1) (hx2 : ra_in x2) (hw : WFa σ) (hp : -1 ≤ x0 ∧ x0 < 8 ∧ 1 ≤ x2) : ∀ (nn : Nat) (v4 : Int) (v5 : Int) (hv4_0 : SCI σ x0 x1 x2 v4 v5) (hv5_0 : -1 ≤ v5) (hv5_1 : v5 < ra_g σ 180 0) (hm : ((v5 + 1 : Int)).toNat < nn), ra_P (g_Gs n f) g_sh 0 (d + 2) g_m_X8_scratchFor 13 [some (.index (179)), some (ra_I x0), some (ra_I x1), some (ra_I x2), some (ra_I v4), some (ra_I v5), none] [] σ (fun r s => (∃ z, ra_in z ∧ ((z = -1 ∨ (0 ≤ z ∧ z + x2 ≤ 600)) ∧ (z = -1 → ¬ SCE σ x0 x1 x2) ∧ (z ≠ -1 → SCE σ x0 x1 x2)) ∧ r = .inl (some (ra_I z))) ∧ s = σ) := by
  intro nn
  induction nn with
  | zero => intro v4 v5 hv4_0 hv5_0 hv5_1 hm; exact absurd hm (Nat.not_lt_zero _)
  | succ nn ih =>
    intro v4 v5 hv4_0 hv5_0 hv5_1 hm
    have hw0 := hw
    unfold WFa at hw0
    have hp0 := hv4_0.1
    have hp1 := hv4_0
    refine ra_load rfl rfl rfl rfl ?_
    refine ra_iflt rfl rfl (by first | omega | (unfold ra_in at *; omega)) (fun h2 => ?_) (fun h2 => ?_)
    · refine ra_iconst rfl ?_
      exact ra_ireturn rfl rfl ⟨⟨_, (by first | omega | (unfold ra_in at *; omega)), (⟨Or.inl rfl, fun _ => sci_z (by obtain rfl : v5 = -1 := (by omega); exact hv4_0), fun q => absurd rfl q⟩), rfl⟩, rfl⟩
    · refine ra_load rfl rfl rfl rfl ?_
      refine ra_load rfl rfl rfl rfl ?_
      refine ra_i2l rfl (by first | omega | (unfold ra_in at *; omega)) ?_
      refine ra_lconst1 rfl ?_
      refine ra_cQPp (sp_211 (by first | omega | (unfold ra_in at *; omega)) (by first | omega | (unfold ra_in at *; omega)) hw) rfl (ct_211 rfl lk_8_103 (Or.inl rfl) sh_179 (Nat.le_of_ble_eq_true rfl)) (fun z4 hz4 hz4p => ?_)
      refine ra_ifeq rfl rfl (ra_in01 hz4) (fun h5 => ?_) (fun h5 => ?_)
      · refine ra_iconst rfl ?_
        refine ra_store (L' := [_, _, _, _, _, _, _]) rfl rfl rfl (Nat.le_of_ble_eq_true rfl) rfl ?_
        refine ra_load rfl rfl rfl rfl ?_
        refine ra_ifeq rfl rfl (by first | omega | (unfold ra_in at *; omega)) (fun h6 => ?_) (fun h6 => ?_)
        · refine ra_iconst rfl ?_
          refine ra_store (L' := [_, _, _, _, _, _, _]) rfl rfl rfl (Nat.le_of_ble_eq_true rfl) rfl ?_
          refine ra_load rfl rfl rfl rfl ?_
          refine ra_load rfl rfl rfl rfl ?_
          refine ra_icne rfl rfl (by first | omega | (unfold ra_in at *; omega)) hx2 (fun h7 => ?_) (fun h7 => ?_)
          · refine ra_iinc (L' := [_, _, _, _, _, _, _]) rfl rfl (Nat.le_of_ble_eq_true rfl) rfl ?_
            refine ra_goto rfl rfl ?_
            exact ra_weak (by repeat' constructor) (ih (0) (v5 + (-1)) (sci_n hv4_0 (by omega) (fun hc => by obtain ⟨c1, c2, c3⟩ := hc; first | exact absurd (hz4p.mpr c1) (by omega))) (by first | omega | (unfold ra_in at *; omega)) (by first | omega | (unfold ra_in at *; omega)) (by first | omega | (unfold ra_in at *; omega)))
          · refine ra_load rfl rfl rfl rfl ?_
            exact ra_ireturn rfl rfl ⟨⟨_, (by first | omega | (unfold ra_in at *; omega)), (by exfalso; have := hp; omega), rfl⟩, rfl⟩
        · exact absurd h6 (by decide)
      · refine ra_load rfl rfl rfl rfl ?_
        refine ra_load rfl rfl rfl rfl ?_
        refine ra_i2l rfl (by first | omega | (unfold ra_in at *; omega)) ?_
        refine ra_lconst1 rfl ?_
        refine ra_iconst rfl ?_
        refine ra_cQPp (sp_213 (by first | omega | (unfold ra_in at *; omega)) (by first | omega | (unfold ra_in at *; omega)) (by first | omega | (unfold ra_in at *; omega))) rfl (ct_213 rfl lk_8_107 (Or.inl rfl) sh_179 (Nat.le_of_ble_eq_true rfl)) (fun z9 hz9 hz9p => ?_)
        refine ra_ifne rfl rfl (ra_in01 hz9) (fun h10 => ?_) (fun h10 => ?_)
        · refine ra_iconst rfl ?_
          refine ra_store (L' := [_, _, _, _, _, _, _]) rfl rfl rfl (Nat.le_of_ble_eq_true rfl) rfl ?_
          refine ra_load rfl rfl rfl rfl ?_
          refine ra_ifeq rfl rfl (by first | omega | (unfold ra_in at *; omega)) (fun h11 => ?_) (fun h11 => ?_)
          · refine ra_iconst rfl ?_
            refine ra_store (L' := [_, _, _, _, _, _, _]) rfl rfl rfl (Nat.le_of_ble_eq_true rfl) rfl ?_
            refine ra_load rfl rfl rfl rfl ?_
            refine ra_load rfl rfl rfl rfl ?_
            refine ra_icne rfl rfl (by first | omega | (unfold ra_in at *; omega)) hx2 (fun h12 => ?_) (fun h12 => ?_)
            · refine ra_iinc (L' := [_, _, _, _, _, _, _]) rfl rfl (Nat.le_of_ble_eq_true rfl) rfl ?_
              refine ra_goto rfl rfl ?_
              exact ra_weak (by repeat' constructor) (ih (0) (v5 + (-1)) (sci_n hv4_0 (by omega) (fun hc => by obtain ⟨c1, c2, c3⟩ := hc; first | exact absurd (hz4p.mpr c1) (by omega) | exact c2 (hz9p.mp (by omega)) | omega)) (by first | omega | (unfold ra_in at *; omega)) (by first | omega | (unfold ra_in at *; omega)) (by first | omega | (unfold ra_in at *; omega)))
            · refine ra_load rfl rfl rfl rfl ?_
              exact ra_ireturn rfl rfl ⟨⟨_, (by first | omega | (unfold ra_in at *; omega)), (by exfalso; have := hp; omega), rfl⟩, rfl⟩
          · exact absurd h11 (by decide)
        · refine ra_load rfl rfl rfl rfl ?_
          refine ra_i2l rfl (by first | omega | (unfold ra_in at *; omega)) ?_
          refine ra_lconst1 rfl ?_
          refine ra_load rfl rfl rfl rfl ?_
          refine ra_i2l rfl hx1 ?_
          refine ra_load rfl rfl rfl rfl ?_
          refine ra_load rfl rfl rfl rfl ?_
          refine ra_iconst rfl ?_
          refine ra_cTp (sp_200 hx0 (by first | omega | (unfold ra_in at *; omega)) (by first | assumption | rfl | omega)) rfl (ct_200 rfl lk_8_67 (Or.inl rfl) sh_179 (Nat.le_of_ble_eq_true rfl)) ?_
          have hr14 : ra_in (wq σ x0 (2)) := (ra_in_wq _ _ _)
          refine ra_i2l rfl hr14 ?_
          refine ra_cTp (sp_212 (by first | omega | (unfold ra_in at *; omega)) (by first | omega | (unfold ra_in at *; omega)) hx1 hr14) rfl (ct_212 rfl lk_8_86 (Or.inl rfl) (Nat.le_of_ble_eq_true rfl)) ?_
          refine ra_ifneB rfl rfl (fun h16 => ?_) (fun h16 => ?_)
          · refine ra_iconst rfl ?_
            refine ra_store (L' := [_, _, _, _, _, _, _]) rfl rfl rfl (Nat.le_of_ble_eq_true rfl) rfl ?_
            refine ra_load rfl rfl rfl rfl ?_
            refine ra_ifeq rfl rfl (by first | omega | (unfold ra_in at *; omega)) (fun h17 => ?_) (fun h17 => ?_)
            · refine ra_iconst rfl ?_
              refine ra_store (L' := [_, _, _, _, _, _, _]) rfl rfl rfl (Nat.le_of_ble_eq_true rfl) rfl ?_
              refine ra_load rfl rfl rfl rfl ?_
              refine ra_load rfl rfl rfl rfl ?_
              refine ra_icne rfl rfl (by first | omega | (unfold ra_in at *; omega)) hx2 (fun h18 => ?_) (fun h18 => ?_)
              · refine ra_iinc (L' := [_, _, _, _, _, _, _]) rfl rfl (Nat.le_of_ble_eq_true rfl) rfl ?_
                refine ra_goto rfl rfl ?_
                exact ra_weak (by repeat' constructor) (ih (0) (v5 + (-1)) (sci_n hv4_0 (by omega) (fun hc => by obtain ⟨c1, c2, c3⟩ := hc; first | exact absurd (hz4p.mpr c1) (by omega) | exact c2 (hz9p.mp (by omega)) | omega)) (by first | omega | (unfold ra_in at *; omega)) (by first | omega | (unfold ra_in at *; omega)) (by first | omega | (unfold ra_in at *; omega)))
              · refine ra_load rfl rfl rfl rfl ?_
                exact ra_ireturn rfl rfl ⟨⟨_, (by first | omega | (unfold ra_in at *; omega)), (by exfalso; have := hp; omega), rfl⟩, rfl⟩
            · exact absurd h17 (by decide)
          · refine ra_iconst rfl ?_
            refine ra_goto rfl rfl ?_
            refine ra_store (L' := [_, _, _, _, _, _, _]) rfl rfl rfl (Nat.le_of_ble_eq_true rfl) rfl ?_
            refine ra_load rfl rfl rfl rfl ?_
            refine ra_ifeq rfl rfl (by first | omega | (unfold ra_in at *; omega)) (fun h19 => ?_) (fun h19 => ?_)
            · exact absurd h19 (by decide)
            · refine ra_load rfl rfl rfl rfl ?_
              refine ra_iconst rfl ?_
              refine ra_iadd rfl ?_
              refine ra_goto rfl rfl ?_
              refine ra_store (L' := [_, _, _, _, _, _, _]) rfl rfl rfl (Nat.le_of_ble_eq_true rfl) rfl ?_
              refine ra_load rfl rfl rfl rfl ?_
              refine ra_load rfl rfl rfl rfl ?_
              refine ra_icne rfl rfl (by first | omega | (unfold ra_in at *; omega)) hx2 (fun h20 => ?_) (fun h20 => ?_)
              · refine ra_iinc (L' := [_, _, _, _, _, _, _]) rfl rfl (Nat.le_of_ble_eq_true rfl) rfl ?_
                refine ra_goto rfl rfl ?_
                exact ra_weak (by repeat' constructor) (ih (v4 + (1)) (v5 + (-1)) (sci_y hv4_0 (by omega) ⟨hz4p.mp (by omega), fun q => absurd (hz9p.mpr q) (by omega), by omega⟩ (by omega)) (by first | omega | (unfold ra_in at *; omega)) (by first | omega | (unfold ra_in at *; omega)) (by first | omega | (unfold ra_in at *; omega)))
              · refine ra_load rfl rfl rfl rfl ?_
                exact ra_ireturn rfl rfl ⟨⟨_, (by first | omega | (unfold ra_in at *; omega)), (sci_f hv4_0 (by omega) ⟨hz4p.mp (by omega), fun q => absurd (hz9p.mpr q) (by omega), by omega⟩ (by omega) hw), rfl⟩, rfl⟩
theorem sp_223 {n : Nat} {f : Nat → Int32} {d : Nat} {x0 : Int} {x1 : Int} {x2 : Int} {σ : ra_V} (hx0 : ra_in x0) (hx1 : ra_in x1) (hx2 : ra_in x2) (hw : WFa σ) (hp : -1 ≤ x0 ∧ x0 < 8 ∧ 1 ≤ x2) : ra_C (g_Gs n f) g_sh 0 (d + 3) 223 [.index (179), ra_I x0, ra_I x1, ra_I x2] σ (fun r s => (∃ z, ra_in z ∧ ((z = -1 ∨ (0 ≤ z ∧ z + x2 ≤ 600)) ∧ (z = -1 → ¬ SCE σ x0 x1 x2) ∧ (z ≠ -1 → SCE σ x0 x1 x2)) ∧ r = .inl (some (ra_I z))) ∧ s = σ) := by
  refine ra_enter (nn := 3) mt_223 rfl (Nat.le_of_ble_eq_true rfl) rfl (fun h => absurd h (by decide +kernel)) ?_
  have hw0 := hw
  unfold WFa at hw0
  refine ra_iconst rfl ?_
  refine ra_store (L' := [_, _, _, _, _, _, _]) rfl rfl rfl (Nat.le_of_ble_eq_true rfl) rfl ?_
  refine ra_load rfl rfl rfl rfl ?_
  refine ra_getR rfl lk_8_7 (Nat.zero_le _) sh_179 rfl ?_
  refine ra_iconst rfl ?_
  refine ra_ialoadJ (j := 0) rfl sh_180 rfl (by decide) rfl (by decide) ?_
  have hr1 : ra_in (ra_g σ (180) 0) := (ra_in_g _ _ _)
  refine ra_iconst rfl ?_
  refine ra_isub rfl ?_
  refine ra_store (L' := [_, _, _, _, _, _, _]) rfl rfl rfl (Nat.le_of_ble_eq_true rfl) rfl ?_
  exact ra_weak (by repeat' constructor) (lp_223_13 hx0 hx1 hx2 hw hp _ (0) ((ra_g σ (180) 0) - (1)) (sci_0 (by omega) hw) (by first | omega | (unfold ra_in at *; omega)) (by first | omega | (unfold ra_in at *; omega)) (Nat.lt_succ_self _))
end RB
end
section
/-! why not, where else: what is needed of the numbers -/
section RB
def MOK (σ : ra_V) (p to : Int) : Prop := ra_g σ 180 16 = -1 ∧ to ≠ wq σ p 1 ∧ US σ to (wq σ p 2) ∧ ¬ TK σ to (wq σ p 2) p ∧ (min (ra_g σ 180 4) (wq σ p 2) ≤ rfar (wq σ p 1) to ∨ SCE σ p to (min (ra_g σ 180 4) (wq σ p 2)))
def SZK (σ : ra_V) (p m : Int) : Prop := wq σ p 3 ≤ m ∧ US σ (wq σ p 1) m ∧ ¬ TK σ (wq σ p 1) m p ∧ ¬ BT σ (wq σ p 1 + wq σ p 2) (m - wq σ p 2)
section
variable {σ : ra_V} {p : Int}
theorem tk_self (hw : WF σ) (hp : 0 ≤ p ∧ p < 8 ∧ wq σ p 0 = 1) : ¬ TK σ (wq σ p 1) (wq σ p 2) p := by
  rintro ⟨q, q0, q1, q2, q3, q4, q5⟩
  have := WF_ap hw hp.1 hp.2.1 q0 q1 (Ne.symm q2) hp.2.2 q3
  omega
theorem us_self (hw : WF σ) (hp : 0 ≤ p ∧ p < 8 ∧ wq σ p 0 = 1) : US σ (wq σ p 1) (wq σ p 2) := by
  have := WF_p hw hp.1 hp.2.1 hp.2.2
  unfold US
  omega
theorem tdiv_b {x c : Int} (hx : 0 ≤ x) (hc : 1 ≤ c) : x.tdiv c * c ≤ x ∧ x < x.tdiv c * c + c ∧ 0 ≤ x.tdiv c := by
  have h1 := Int.tmod_add_mul_tdiv x c
  have h2 := Int.tmod_lt_of_pos x (by omega : 0 < c)
  have h3 := Int.tmod_nonneg c hx
  have h4 := Int.tdiv_nonneg hx (by omega : 0 ≤ c)
  rw [Int.mul_comm] at h1
  omega
theorem pl_in {x : Int} (hx : 0 ≤ x) (hc : 1 ≤ ra_g σ 180 19) (h : x.tdiv (ra_g σ 180 19) = rnx σ) : rfb σ ≤ x ∧ x < rfb σ + ra_g σ 180 19 := by
  have := tdiv_b hx hc
  rw [h] at this
  unfold rfb
  omega
end
theorem mok_to {s : ra_V} {p to : Int} (hw : WF s) (h : MOK s p to) : 0 ≤ to ∧ to ≤ 600 := by
  have ha := WF_a hw
  unfold WFa at ha
  obtain ⟨-, -, h1, -⟩ := h
  unfold US at h1
  omega
theorem sp_k {σ s t : ra_V} {p : Int} (h2 : t 180 = σ 180) (h1 : s 180 = σ 180) (h : 0 ≤ p ∧ p < 8 ∧ wq s p 0 = 1) : 0 ≤ p ∧ p < 8 ∧ wq t p 0 = 1 := ⟨h.1, h.2.1, by rw [wq_k (h2.trans h1.symm)]; exact h.2.2⟩
/-- the next one by its start -/
def NB (σ : ra_V) (c v z : Int) : Prop := (z = -1 ∨ (0 ≤ z ∧ z < v ∧ wq σ z 0 = 1 ∧ c < wq σ z 1)) ∧ ∀ q, 0 ≤ q → q < v → wq σ q 0 = 1 → c < wq σ q 1 → z ≠ -1 ∧ wq σ z 1 ≤ wq σ q 1
section
variable {σ : ra_V} {c v z : Int}
theorem nb_0 : NB σ c 0 (-1) := ⟨Or.inl rfl, fun q a b => by omega⟩
theorem nb_n (h : NB σ c v z) (hv : 0 ≤ v) (hn : ¬ (wq σ v 0 = 1 ∧ c < wq σ v 1)) : NB σ c (v + 1) z := by
  obtain ⟨h1, h2⟩ := h
  refine ⟨by omega, fun q a b d e => ?_⟩
  by_cases hq : q = v
  · rw [hq] at d e; exact absurd ⟨d, e⟩ hn
  · exact h2 q a (by omega) d e
theorem nb_k (h : NB σ c v z) (hv : 0 ≤ v) (hz : z ≠ -1) (hl : wq σ z 1 ≤ wq σ v 1) : NB σ c (v + 1) z := by
  obtain ⟨h1, h2⟩ := h
  refine ⟨by omega, fun q a b d e => ?_⟩
  by_cases hq : q = v
  · rw [hq]; exact ⟨hz, hl⟩
  · exact h2 q a (by omega) d e
theorem nb_y (h : NB σ c v z) (hv : 0 ≤ v) (he : wq σ v 0 = 1) (hc : c < wq σ v 1) (hl : z = -1 ∨ wq σ v 1 < wq σ z 1) : NB σ c (v + 1) v := by
  obtain ⟨h1, h2⟩ := h
  refine ⟨Or.inr ⟨hv, by omega, he, hc⟩, fun q a b d e => ⟨by omega, ?_⟩⟩
  by_cases hq : q = v
  · rw [hq]; omega
  · have := h2 q a (by omega) d e
    omega
end
/-- no partition begins behind p -/
def NN (σ : ra_V) (p v : Int) : Prop := ∀ r, 0 ≤ r → r < v → wq σ r 0 = 1 → wq σ r 1 ≠ wq σ p 1 + wq σ p 2
theorem nn_0 {σ : ra_V} {p : Int} : NN σ p 0 := fun r a b => by omega
theorem nn_y {σ : ra_V} {p v : Int} (h : NN σ p v) (hx : wq σ v 0 = 1 → wq σ v 1 ≠ wq σ p 1 + wq σ p 2) : NN σ p (v + 1) := fun r a b c => by
  by_cases e : r = v
  · rw [e] at c ⊢; exact hx c
  · exact h r a (by omega) c
/-- a partition can be joined with the next one -/
def CJ (σ : ra_V) (p : Int) : Prop := ∃ q, 0 ≤ q ∧ q < 8 ∧ wq σ q 0 = 1 ∧ wq σ q 1 = wq σ p 1 + wq σ p 2 ∧ ra_g σ 180 16 ≠ p ∧ ra_g σ 180 16 ≠ q
end RB
end
section
/-! the reference: what its methods do (printed by wip/gen/ref.py) -/
section RB
theorem sp_224 {n : Nat} {f : Nat → Int32} {d : Nat} {x0 : Int} {x1 : Int} {σ : ra_V} (hx0 : ra_in x0) (hx1 : ra_in x1) (hw : WF σ) (hp : 0 ≤ x0 ∧ x0 < 8 ∧ wq σ x0 0 = 1) : ra_C (g_Gs n f) g_sh 0 (d + 4) 224 [.index (179), ra_I x0, ra_I x1] σ (fun r s => (∃ z, ra_in z ∧ (z = 0 → MOK σ x0 x1) ∧ r = .inl (some (ra_I z))) ∧ s = σ) := by
  refine ra_enter (nn := 1) mt_224 rfl (Nat.le_of_ble_eq_true rfl) rfl (fun h => absurd h (by decide +kernel)) ?_
  have hw0 := WF_a hw
  unfold WFa at hw0
  have hq := WF_p hw hp.1 hp.2.1 hp.2.2
  refine ra_load rfl rfl rfl rfl ?_
  refine ra_load rfl rfl rfl rfl ?_
  refine ra_iconst rfl ?_
  refine ra_cTp (sp_200 hx0 (by first | omega | (unfold ra_in at *; omega)) (by first | assumption | rfl | omega)) rfl (ct_200 rfl lk_8_67 (Or.inl rfl) sh_179 (Nat.le_of_ble_eq_true rfl)) ?_
  have hr2 : ra_in (wq σ x0 (5)) := (ra_in_wq _ _ _)
  refine ra_iconst rfl ?_
  refine ra_icne rfl rfl hr2 (by first | omega | (unfold ra_in at *; omega)) (fun h3 => ?_) (fun h3 => ?_)
  · refine ra_load rfl rfl rfl rfl ?_
    refine ra_cQPp (sp_204 ) rfl (ct_204 rfl lk_8_95 (Or.inl rfl) sh_179 (Nat.le_of_ble_eq_true rfl)) (fun z5 hz5 hz5p => ?_)
    refine ra_ifeq rfl rfl (ra_in01 hz5) (fun h6 => ?_) (fun h6 => ?_)
    · refine ra_load rfl rfl rfl rfl ?_
      refine ra_load rfl rfl rfl rfl ?_
      refine ra_load rfl rfl rfl rfl ?_
      refine ra_iconst rfl ?_
      refine ra_cTp (sp_200 hx0 (by first | omega | (unfold ra_in at *; omega)) (by first | assumption | rfl | omega)) rfl (ct_200 rfl lk_8_67 (Or.inl rfl) sh_179 (Nat.le_of_ble_eq_true rfl)) ?_
      have hr8 : ra_in (wq σ x0 (1)) := (ra_in_wq _ _ _)
      refine ra_icne rfl rfl hx1 hr8 (fun h9 => ?_) (fun h9 => ?_)
      · refine ra_load rfl rfl rfl rfl ?_
        refine ra_load rfl rfl rfl rfl ?_
        refine ra_i2l rfl hx1 ?_
        refine ra_load rfl rfl rfl rfl ?_
        refine ra_load rfl rfl rfl rfl ?_
        refine ra_iconst rfl ?_
        refine ra_cTp (sp_200 hx0 (by first | omega | (unfold ra_in at *; omega)) (by first | assumption | rfl | omega)) rfl (ct_200 rfl lk_8_67 (Or.inl rfl) sh_179 (Nat.le_of_ble_eq_true rfl)) ?_
        have hr11 : ra_in (wq σ x0 (2)) := (ra_in_wq _ _ _)
        refine ra_i2l rfl hr11 ?_
        refine ra_cQPp (sp_211 hx1 hr11 (WF_a hw)) rfl (ct_211 rfl lk_8_103 (Or.inl rfl) sh_179 (Nat.le_of_ble_eq_true rfl)) (fun z13 hz13 hz13p => ?_)
        refine ra_ifne rfl rfl (ra_in01 hz13) (fun h14 => ?_) (fun h14 => ?_)
        · refine ra_load rfl rfl rfl rfl ?_
          refine ra_load rfl rfl rfl rfl ?_
          refine ra_getR rfl lk_8_7 (Nat.zero_le _) sh_179 rfl ?_
          refine ra_iconst rfl ?_
          refine ra_ialoadJ (j := 3) rfl sh_180 rfl (by decide) rfl (by decide) ?_
          have hr15 : ra_in (ra_g σ (180) 3) := (ra_in_g _ _ _)
          refine ra_irem rfl hx1 hr15 (by omega) ?_
          refine ra_ifeq rfl rfl (ra_in_tmod hx1 (by omega)) (fun h16 => ?_) (fun h16 => ?_)
          · refine ra_load rfl rfl rfl rfl ?_
            refine ra_load rfl rfl rfl rfl ?_
            refine ra_i2l rfl hx1 ?_
            refine ra_load rfl rfl rfl rfl ?_
            refine ra_load rfl rfl rfl rfl ?_
            refine ra_iconst rfl ?_
            refine ra_cTp (sp_200 hx0 (by first | omega | (unfold ra_in at *; omega)) (by first | assumption | rfl | omega)) rfl (ct_200 rfl lk_8_67 (Or.inl rfl) sh_179 (Nat.le_of_ble_eq_true rfl)) ?_
            have hr18 : ra_in (wq σ x0 (2)) := (ra_in_wq _ _ _)
            refine ra_i2l rfl hr18 ?_
            refine ra_load rfl rfl rfl rfl ?_
            refine ra_cQPp (sp_213 hx1 hr18 hx0) rfl (ct_213 rfl lk_8_107 (Or.inl rfl) sh_179 (Nat.le_of_ble_eq_true rfl)) (fun z20 hz20 hz20p => ?_)
            refine ra_ifeq rfl rfl (ra_in01 hz20) (fun h21 => ?_) (fun h21 => ?_)
            · refine ra_load rfl rfl rfl rfl ?_
              refine ra_getR rfl lk_8_7 (Nat.zero_le _) sh_179 rfl ?_
              refine ra_iconst rfl ?_
              refine ra_ialoadJ (j := 4) rfl sh_180 rfl (by decide) rfl (by decide) ?_
              have hr22 : ra_in (ra_g σ (180) 4) := (ra_in_g _ _ _)
              refine ra_load rfl rfl rfl rfl ?_
              refine ra_load rfl rfl rfl rfl ?_
              refine ra_iconst rfl ?_
              refine ra_cTp (sp_200 hx0 (by first | omega | (unfold ra_in at *; omega)) (by first | assumption | rfl | omega)) rfl (ct_200 rfl lk_8_67 (Or.inl rfl) sh_179 (Nat.le_of_ble_eq_true rfl)) ?_
              have hr24 : ra_in (wq σ x0 (2)) := (ra_in_wq _ _ _)
              refine ra_min rfl lk_8_90 hr22 hr24 (Nat.le_of_ble_eq_true rfl) ?_
              refine ra_store (L' := [_, _, _, _]) rfl rfl rfl (Nat.le_of_ble_eq_true rfl) rfl ?_
              refine ra_load rfl rfl rfl rfl ?_
              refine ra_load rfl rfl rfl rfl ?_
              refine ra_load rfl rfl rfl rfl ?_
              refine ra_iconst rfl ?_
              refine ra_cTp (sp_200 hx0 (by first | omega | (unfold ra_in at *; omega)) (by first | assumption | rfl | omega)) rfl (ct_200 rfl lk_8_67 (Or.inl rfl) sh_179 (Nat.le_of_ble_eq_true rfl)) ?_
              have hr26 : ra_in (wq σ x0 (1)) := (ra_in_wq _ _ _)
              refine ra_load rfl rfl rfl rfl ?_
              have hu := hz13p.mp (by omega)
              unfold US at hu
              refine ra_cTp (sp_225 hr26 hx1 (by first | assumption | rfl | omega)) rfl (ct_225 rfl lk_8_136 (Or.inl rfl) (Nat.le_of_ble_eq_true rfl)) ?_
              have hf28 := rfar_b (wq σ x0 (1)) x1
              have hr29 : ra_in (rfar (wq σ x0 (1)) x1) := (by first | omega | (unfold ra_in at *; omega))
              refine ra_icle rfl rfl (by first | omega | (unfold ra_in at *; omega)) hr29 (fun h30 => ?_) (fun h30 => ?_)
              · refine ra_iconst rfl ?_
                exact ra_ireturn rfl rfl ⟨⟨_, (by first | omega | (unfold ra_in at *; omega)), (fun _ => ⟨by omega, by omega, hz13p.mp (by omega), fun q => absurd (hz20p.mpr q) (by omega), Or.inl (by omega)⟩), rfl⟩, rfl⟩
              · refine ra_load rfl rfl rfl rfl ?_
                refine ra_load rfl rfl rfl rfl ?_
                refine ra_load rfl rfl rfl rfl ?_
                refine ra_load rfl rfl rfl rfl ?_
                refine ra_cIPp (sp_223 hx0 hx1 (by first | omega | (unfold ra_in at *; omega)) (WF_a hw) (by first | assumption | rfl | omega)) rfl (ct_223 rfl lk_8_139 (Or.inl rfl) sh_179 (Nat.le_of_ble_eq_true rfl)) (fun z32 hz32 hz32p => ?_)
                refine ra_iconst rfl ?_
                refine ra_icne rfl rfl hz32 (by first | omega | (unfold ra_in at *; omega)) (fun h33 => ?_) (fun h33 => ?_)
                · refine ra_iconst rfl ?_
                  exact ra_ireturn rfl rfl ⟨⟨_, (by first | omega | (unfold ra_in at *; omega)), (fun _ => ⟨by omega, by omega, hz13p.mp (by omega), fun q => absurd (hz20p.mpr q) (by omega), Or.inr (hz32p.2.2 (by omega))⟩), rfl⟩, rfl⟩
                · refine ra_bipush rfl (by decide) ?_
                  refine ra_goto rfl rfl ?_
                  exact ra_ireturn rfl rfl ⟨⟨_, (by first | omega | (unfold ra_in at *; omega)), (fun hq => absurd hq (by decide)), rfl⟩, rfl⟩
            · refine ra_bipush rfl (by decide) ?_
              exact ra_ireturn rfl rfl ⟨⟨_, (by first | omega | (unfold ra_in at *; omega)), (fun hq => absurd hq (by decide)), rfl⟩, rfl⟩
          · refine ra_iconst rfl ?_
            exact ra_ireturn rfl rfl ⟨⟨_, (by first | omega | (unfold ra_in at *; omega)), (fun hq => absurd hq (by decide)), rfl⟩, rfl⟩
        · refine ra_iconst rfl ?_
          exact ra_ireturn rfl rfl ⟨⟨_, (by first | omega | (unfold ra_in at *; omega)), (fun hq => absurd hq (by decide)), rfl⟩, rfl⟩
      · refine ra_iconst rfl ?_
        exact ra_ireturn rfl rfl ⟨⟨_, (by first | omega | (unfold ra_in at *; omega)), (fun hq => absurd hq (by decide)), rfl⟩, rfl⟩
    · refine ra_iconst rfl ?_
      exact ra_ireturn rfl rfl ⟨⟨_, (by first | omega | (unfold ra_in at *; omega)), (fun hq => absurd hq (by decide)), rfl⟩, rfl⟩
  · refine ra_iconst rfl ?_
    exact ra_ireturn rfl rfl ⟨⟨_, (by first | omega | (unfold ra_in at *; omega)), (fun hq => absurd hq (by decide)), rfl⟩, rfl⟩
theorem sp_301 {n : Nat} {f : Nat → Int32} {d : Nat} {x0 : Int} {x1 : Int} {σ : ra_V} (hx0 : ra_in x0) (hx1 : ra_in x1) (hw : WF σ) (hp : 0 ≤ x0 ∧ x0 < 8 ∧ wq σ x0 0 = 1) : ra_C (g_Gs n f) g_sh 0 (d + 4) 301 [.index (179), ra_I x0, ra_I x1] σ (fun r s => (∃ z, ra_in z ∧ ((z = 0 → SZK σ x0 x1) ∧ (x1 = wq σ x0 2 → z = 0)) ∧ r = .inl (some (ra_I z))) ∧ s = σ) := by
  refine ra_enter (nn := 0) mt_301 rfl (Nat.le_of_ble_eq_true rfl) rfl (fun h => absurd h (by decide +kernel)) ?_
  have hw0 := WF_a hw
  unfold WFa at hw0
  have hq := WF_p hw hp.1 hp.2.1 hp.2.2
  refine ra_load rfl rfl rfl rfl ?_
  refine ra_load rfl rfl rfl rfl ?_
  refine ra_load rfl rfl rfl rfl ?_
  refine ra_iconst rfl ?_
  refine ra_cTp (sp_200 hx0 (by first | omega | (unfold ra_in at *; omega)) (by first | assumption | rfl | omega)) rfl (ct_200 rfl lk_8_67 (Or.inl rfl) sh_179 (Nat.le_of_ble_eq_true rfl)) ?_
  have hr2 : ra_in (wq σ x0 (3)) := (ra_in_wq _ _ _)
  refine ra_icge rfl rfl hx1 hr2 (fun h3 => ?_) (fun h3 => ?_)
  · refine ra_load rfl rfl rfl rfl ?_
    refine ra_load rfl rfl rfl rfl ?_
    refine ra_load rfl rfl rfl rfl ?_
    refine ra_iconst rfl ?_
    refine ra_cTp (sp_200 hx0 (by first | omega | (unfold ra_in at *; omega)) (by first | assumption | rfl | omega)) rfl (ct_200 rfl lk_8_67 (Or.inl rfl) sh_179 (Nat.le_of_ble_eq_true rfl)) ?_
    have hr5 : ra_in (wq σ x0 (1)) := (ra_in_wq _ _ _)
    refine ra_i2l rfl hr5 ?_
    refine ra_load rfl rfl rfl rfl ?_
    refine ra_i2l rfl hx1 ?_
    refine ra_cQPp (sp_211 hr5 hx1 (WF_a hw)) rfl (ct_211 rfl lk_8_103 (Or.inl rfl) sh_179 (Nat.le_of_ble_eq_true rfl)) (fun z7 hz7 hz7p => ?_)
    refine ra_ifne rfl rfl (ra_in01 hz7) (fun h8 => ?_) (fun h8 => ?_)
    · refine ra_load rfl rfl rfl rfl ?_
      refine ra_load rfl rfl rfl rfl ?_
      refine ra_load rfl rfl rfl rfl ?_
      refine ra_iconst rfl ?_
      refine ra_cTp (sp_200 hx0 (by first | omega | (unfold ra_in at *; omega)) (by first | assumption | rfl | omega)) rfl (ct_200 rfl lk_8_67 (Or.inl rfl) sh_179 (Nat.le_of_ble_eq_true rfl)) ?_
      have hr10 : ra_in (wq σ x0 (1)) := (ra_in_wq _ _ _)
      refine ra_i2l rfl hr10 ?_
      refine ra_load rfl rfl rfl rfl ?_
      refine ra_i2l rfl hx1 ?_
      refine ra_load rfl rfl rfl rfl ?_
      refine ra_cQPp (sp_213 hr10 hx1 hx0) rfl (ct_213 rfl lk_8_107 (Or.inl rfl) sh_179 (Nat.le_of_ble_eq_true rfl)) (fun z12 hz12 hz12p => ?_)
      refine ra_ifeq rfl rfl (ra_in01 hz12) (fun h13 => ?_) (fun h13 => ?_)
      · refine ra_load rfl rfl rfl rfl ?_
        refine ra_load rfl rfl rfl rfl ?_
        refine ra_load rfl rfl rfl rfl ?_
        refine ra_iconst rfl ?_
        refine ra_cTp (sp_200 hx0 (by first | omega | (unfold ra_in at *; omega)) (by first | assumption | rfl | omega)) rfl (ct_200 rfl lk_8_67 (Or.inl rfl) sh_179 (Nat.le_of_ble_eq_true rfl)) ?_
        have hr15 : ra_in (wq σ x0 (1)) := (ra_in_wq _ _ _)
        refine ra_load rfl rfl rfl rfl ?_
        refine ra_load rfl rfl rfl rfl ?_
        refine ra_iconst rfl ?_
        refine ra_cTp (sp_200 hx0 (by first | omega | (unfold ra_in at *; omega)) (by first | assumption | rfl | omega)) rfl (ct_200 rfl lk_8_67 (Or.inl rfl) sh_179 (Nat.le_of_ble_eq_true rfl)) ?_
        have hr17 : ra_in (wq σ x0 (2)) := (ra_in_wq _ _ _)
        refine ra_iadd rfl ?_
        refine ra_i2l rfl (by first | omega | (unfold ra_in at *; omega)) ?_
        refine ra_load rfl rfl rfl rfl ?_
        refine ra_load rfl rfl rfl rfl ?_
        refine ra_load rfl rfl rfl rfl ?_
        refine ra_iconst rfl ?_
        refine ra_cTp (sp_200 hx0 (by first | omega | (unfold ra_in at *; omega)) (by first | assumption | rfl | omega)) rfl (ct_200 rfl lk_8_67 (Or.inl rfl) sh_179 (Nat.le_of_ble_eq_true rfl)) ?_
        have hr19 : ra_in (wq σ x0 (2)) := (ra_in_wq _ _ _)
        refine ra_isub rfl ?_
        refine ra_i2l rfl (by first | omega | (unfold ra_in at *; omega)) ?_
        refine ra_cQPp (sp_215 (by first | omega | (unfold ra_in at *; omega)) (by first | omega | (unfold ra_in at *; omega)) (WF_a hw)) rfl (ct_215 rfl lk_8_111 (Or.inl rfl) sh_179 (Nat.le_of_ble_eq_true rfl)) (fun z21 hz21 hz21p => ?_)
        refine ra_ifeq rfl rfl (ra_in01 hz21) (fun h22 => ?_) (fun h22 => ?_)
        · refine ra_iconst rfl ?_
          exact ra_ireturn rfl rfl ⟨⟨_, (by first | omega | (unfold ra_in at *; omega)), ⟨fun _ => ⟨by omega, hz7p.mp (by omega), fun q => absurd (hz12p.mpr q) (by omega), hz21p.1 (by omega)⟩, fun _ => rfl⟩, rfl⟩, rfl⟩
        · refine ra_bipush rfl (by decide) ?_
          refine ra_goto rfl rfl ?_
          exact ra_ireturn rfl rfl ⟨⟨_, (by first | omega | (unfold ra_in at *; omega)), ⟨fun hq => absurd hq (by decide), fun q => by have := hz21p.2 (by omega); omega⟩, rfl⟩, rfl⟩
      · refine ra_iconst rfl ?_
        exact ra_ireturn rfl rfl ⟨⟨_, (by first | omega | (unfold ra_in at *; omega)), ⟨fun hq => absurd hq (by decide), fun q => absurd (hz12p.mp (by omega)) (by rw [q]; exact tk_self hw hp)⟩, rfl⟩, rfl⟩
    · refine ra_iconst rfl ?_
      exact ra_ireturn rfl rfl ⟨⟨_, (by first | omega | (unfold ra_in at *; omega)), ⟨fun hq => absurd hq (by decide), fun q => absurd (hz7p.mpr (by rw [q]; exact us_self hw hp)) (by omega)⟩, rfl⟩, rfl⟩
  · refine ra_iconst rfl ?_
    exact ra_ireturn rfl rfl ⟨⟨_, (by first | omega | (unfold ra_in at *; omega)), ⟨fun hq => absurd hq (by decide), fun q => by omega⟩, rfl⟩, rfl⟩
theorem sp_302 {n : Nat} {f : Nat → Int32} {d : Nat} {x0 : Int} {x1 : Int} {σ : ra_V} (hx0 : ra_in x0) (hx1 : ra_in x1) (hw : WF σ) (hp : 0 ≤ x0 ∧ x0 < 8 ∧ wq σ x0 0 = 1) : ra_C (g_Gs n f) g_sh 0 (d + 5) 302 [.index (179), ra_I x0, ra_I x1] σ (fun r s => (∃ z, ra_in z ∧ (z = 0 → (wq σ x0 5 ≠ 1 ∧ ra_g σ 180 16 ≠ x0 ∧ SZK σ x0 x1)) ∧ r = .inl (some (ra_I z))) ∧ s = σ) := by
  refine ra_enter (nn := 0) mt_302 rfl (Nat.le_of_ble_eq_true rfl) rfl (fun h => absurd h (by decide +kernel)) ?_
  have hw0 := WF_a hw
  unfold WFa at hw0
  have hq := WF_p hw hp.1 hp.2.1 hp.2.2
  refine ra_load rfl rfl rfl rfl ?_
  refine ra_load rfl rfl rfl rfl ?_
  refine ra_iconst rfl ?_
  refine ra_cTp (sp_200 hx0 (by first | omega | (unfold ra_in at *; omega)) (by first | assumption | rfl | omega)) rfl (ct_200 rfl lk_8_67 (Or.inl rfl) sh_179 (Nat.le_of_ble_eq_true rfl)) ?_
  have hr2 : ra_in (wq σ x0 (5)) := (ra_in_wq _ _ _)
  refine ra_iconst rfl ?_
  refine ra_icne rfl rfl hr2 (by first | omega | (unfold ra_in at *; omega)) (fun h3 => ?_) (fun h3 => ?_)
  · refine ra_load rfl rfl rfl rfl ?_
    refine ra_load rfl rfl rfl rfl ?_
    refine ra_cQPp (sp_205 hx0) rfl (ct_205 rfl lk_8_71 (Or.inl rfl) sh_179 (Nat.le_of_ble_eq_true rfl)) (fun z5 hz5 hz5p => ?_)
    refine ra_ifeq rfl rfl (ra_in01 hz5) (fun h6 => ?_) (fun h6 => ?_)
    · refine ra_load rfl rfl rfl rfl ?_
      refine ra_load rfl rfl rfl rfl ?_
      refine ra_load rfl rfl rfl rfl ?_
      refine ra_cIPp (sp_301 hx0 hx1 hw (by first | assumption | omega)) rfl (ct_301 rfl lk_8_369 (Or.inl rfl) sh_179 (Nat.le_of_ble_eq_true rfl)) (fun z8 hz8 hz8p => ?_)
      exact ra_ireturn rfl rfl ⟨⟨_, hz8, (fun hq => ⟨by omega, by omega, hz8p.1 hq⟩), rfl⟩, rfl⟩
    · refine ra_iconst rfl ?_
      refine ra_goto rfl rfl ?_
      exact ra_ireturn rfl rfl ⟨⟨_, (by first | omega | (unfold ra_in at *; omega)), (fun hq => absurd hq (by decide)), rfl⟩, rfl⟩
  · refine ra_iconst rfl ?_
    refine ra_goto rfl rfl ?_
    exact ra_ireturn rfl rfl ⟨⟨_, (by first | omega | (unfold ra_in at *; omega)), (fun hq => absurd hq (by decide)), rfl⟩, rfl⟩
theorem sp_227 {n : Nat} {f : Nat → Int32} {d : Nat} {x0 : Int} {x1 : Int} {σ : ra_V} (hx0 : ra_in x0) (hx1 : ra_in x1) (hw : WF σ) (hp : 0 ≤ x0 ∧ x0 < 8 ∧ wq σ x0 0 = 1) (ht : 0 ≤ x1 ∧ x1 ≤ 600) : ra_C (g_Gs n f) g_sh 0 (d + 2) 227 [.index (179), ra_I x0, ra_I x1] σ (fun r s => rI r ∧ s = σ) := by
  refine ra_enter (nn := 0) mt_227 rfl (Nat.le_of_ble_eq_true rfl) rfl (fun h => absurd h (by decide +kernel)) ?_
  have hw0 := WF_a hw
  unfold WFa at hw0
  have hq := WF_p hw hp.1 hp.2.1 hp.2.2
  refine ra_load rfl rfl rfl rfl ?_
  refine ra_load rfl rfl rfl rfl ?_
  refine ra_iconst rfl ?_
  refine ra_cTp (sp_200 hx0 (by first | omega | (unfold ra_in at *; omega)) (by first | assumption | rfl | omega)) rfl (ct_200 rfl lk_8_67 (Or.inl rfl) sh_179 (Nat.le_of_ble_eq_true rfl)) ?_
  have hr2 : ra_in (wq σ x0 (2)) := (ra_in_wq _ _ _)
  refine ra_load rfl rfl rfl rfl ?_
  refine ra_getR rfl lk_8_7 (Nat.zero_le _) sh_179 rfl ?_
  refine ra_iconst rfl ?_
  refine ra_ialoadJ (j := 4) rfl sh_180 rfl (by decide) rfl (by decide) ?_
  have hr3 : ra_in (ra_g σ (180) 4) := (ra_in_g _ _ _)
  refine ra_load rfl rfl rfl rfl ?_
  refine ra_load rfl rfl rfl rfl ?_
  refine ra_iconst rfl ?_
  refine ra_cTp (sp_200 hx0 (by first | omega | (unfold ra_in at *; omega)) (by first | assumption | rfl | omega)) rfl (ct_200 rfl lk_8_67 (Or.inl rfl) sh_179 (Nat.le_of_ble_eq_true rfl)) ?_
  have hr5 : ra_in (wq σ x0 (1)) := (ra_in_wq _ _ _)
  refine ra_load rfl rfl rfl rfl ?_
  refine ra_cTp (sp_225 hr5 hx1 (by first | assumption | rfl | omega)) rfl (ct_225 rfl lk_8_136 (Or.inl rfl) (Nat.le_of_ble_eq_true rfl)) ?_
  have hf7 := rfar_b (wq σ x0 (1)) x1
  have hr8 : ra_in (rfar (wq σ x0 (1)) x1) := (by first | omega | (unfold ra_in at *; omega))
  refine ra_iconst rfl ?_
  refine ra_load rfl rfl rfl rfl ?_
  refine ra_load rfl rfl rfl rfl ?_
  refine ra_iconst rfl ?_
  refine ra_cTp (sp_200 hx0 (by first | omega | (unfold ra_in at *; omega)) (by first | assumption | rfl | omega)) rfl (ct_200 rfl lk_8_67 (Or.inl rfl) sh_179 (Nat.le_of_ble_eq_true rfl)) ?_
  have hr10 : ra_in (wq σ x0 (2)) := (ra_in_wq _ _ _)
  refine ra_load rfl rfl rfl rfl ?_
  refine ra_getR rfl lk_8_7 (Nat.zero_le _) sh_179 rfl ?_
  refine ra_iconst rfl ?_
  refine ra_ialoadJ (j := 4) rfl sh_180 rfl (by decide) rfl (by decide) ?_
  have hr11 : ra_in (ra_g σ (180) 4) := (ra_in_g _ _ _)
  refine ra_cTp (sp_207 hr10 hr11 (by first | assumption | rfl | omega)) rfl (ct_207 rfl lk_8_120 (Or.inl rfl) (Nat.le_of_ble_eq_true rfl)) ?_
  have hr13 : ra_in (((wq σ x0 (2)) + (ra_g σ (180) 4) - 1).tdiv (ra_g σ (180) 4)) := (ra_in_tdiv (by unfold ra_in; omega) (by omega))
  refine ra_cIp (sp_226 hr2 hr3 hr8 (by first | omega | (unfold ra_in at *; omega)) hr13) rfl (ct_226 rfl lk_8_143 (Or.inl rfl) (Nat.le_of_ble_eq_true rfl)) (fun z15 hz15 => ?_)
  exact ra_ireturn rfl rfl ⟨⟨_, hz15, rfl⟩, rfl⟩
theorem sp_243 {n : Nat} {f : Nat → Int32} {d : Nat} {x0 : Int} {x1 : Int} {σ : ra_V} (hx0 : ra_in x0) (hx1 : ra_in x1) (hw : WF σ) (hp : 0 ≤ x0 ∧ x0 < 8 ∧ wq σ x0 0 = 1) (hb : 0 ≤ x1 ∧ x1 < wq σ x0 2) : ra_C (g_Gs n f) g_sh 0 (d + 5) 243 [.index (179), ra_I x0, ra_I x1] σ (fun r s => (∃ z, ra_in z ∧ (-1 ≤ z ∧ z < 600) ∧ r = .inl (some (ra_I z))) ∧ s = σ) := by
  refine ra_enter (nn := 1) mt_243 rfl (Nat.le_of_ble_eq_true rfl) rfl (fun h => absurd h (by decide +kernel)) ?_
  have hw0 := WF_a hw
  unfold WFa at hw0
  have hq := WF_p hw hp.1 hp.2.1 hp.2.2
  refine ra_load rfl rfl rfl rfl ?_
  refine ra_load rfl rfl rfl rfl ?_
  refine ra_cQPp (sp_205 hx0) rfl (ct_205 rfl lk_8_71 (Or.inl rfl) sh_179 (Nat.le_of_ble_eq_true rfl)) (fun z2 hz2 hz2p => ?_)
  refine ra_ifne rfl rfl (ra_in01 hz2) (fun h3 => ?_) (fun h3 => ?_)
  · have hm0 := MV_f hw (by omega)
    unfold MF at hm0
    have he : ra_g σ 180 16 = x0 := hz2p.mp (by omega)
    rw [he] at hm0
    refine ra_load rfl rfl rfl rfl ?_
    refine ra_load rfl rfl rfl rfl ?_
    refine ra_getR rfl lk_8_7 (Nat.zero_le _) sh_179 rfl ?_
    refine ra_bipush rfl (by decide) ?_
    refine ra_ialoadJ (j := 19) rfl sh_180 rfl (by decide) rfl (by decide) ?_
    have hr4 : ra_in (ra_g σ (180) 19) := (ra_in_g _ _ _)
    refine ra_idiv rfl hx1 hr4 (by omega) ?_
    refine ra_store (L' := [_, _, _, _]) rfl rfl rfl (Nat.le_of_ble_eq_true rfl) rfl ?_
    refine ra_load rfl rfl rfl rfl ?_
    refine ra_load rfl rfl rfl rfl ?_
    refine ra_cBp (sp_231 (ra_in_tdiv hx1 (by omega)) (MV_f hw (by omega))) rfl (ct_231 rfl lk_8_180 (Or.inl rfl) sh_179 (Nat.le_of_ble_eq_true rfl)) (fun z6 hz6 => ?_)
    refine ra_ifeq rfl rfl (ra_in01 hz6) (fun h7 => ?_) (fun h7 => ?_)
    · refine ra_load rfl rfl rfl rfl ?_
      refine ra_getR rfl lk_8_7 (Nat.zero_le _) sh_179 rfl ?_
      refine ra_bipush rfl (by decide) ?_
      refine ra_ialoadJ (j := 22) rfl sh_180 rfl (by decide) rfl (by decide) ?_
      have hr8 : ra_in (ra_g σ (180) 22) := (ra_in_g _ _ _)
      refine ra_iconst rfl ?_
      refine ra_icne rfl rfl hr8 (by first | omega | (unfold ra_in at *; omega)) (fun h9 => ?_) (fun h9 => ?_)
      · refine ra_load rfl rfl rfl rfl ?_
        refine ra_getR rfl lk_8_7 (Nat.zero_le _) sh_179 rfl ?_
        refine ra_bipush rfl (by decide) ?_
        refine ra_ialoadJ (j := 17) rfl sh_180 rfl (by decide) rfl (by decide) ?_
        have hr10 : ra_in (ra_g σ (180) 17) := (ra_in_g _ _ _)
        refine ra_load rfl rfl rfl rfl ?_
        refine ra_iadd rfl ?_
        exact ra_ireturn rfl rfl ⟨⟨_, (by first | omega | (unfold ra_in at *; omega)), (by omega), rfl⟩, rfl⟩
      · refine ra_load rfl rfl rfl rfl ?_
        refine ra_load rfl rfl rfl rfl ?_
        refine ra_cTp (sp_232 (MV_f hw (by omega))) rfl (ct_232 rfl lk_8_153 (Or.inl rfl) sh_179 (Nat.le_of_ble_eq_true rfl)) ?_
        have hm12 := (MV_f hw (by omega))
        unfold MF at hm12
        have hr13 : ra_in (rnx σ) := (by first | omega | (unfold ra_in at *; omega))
        refine ra_icne rfl rfl (ra_in_tdiv hx1 (by omega)) hr13 (fun h14 => ?_) (fun h14 => ?_)
        · refine ra_load rfl rfl rfl rfl ?_
          refine ra_getR rfl lk_8_7 (Nat.zero_le _) sh_179 rfl ?_
          refine ra_bipush rfl (by decide) ?_
          refine ra_ialoadJ (j := 17) rfl sh_180 rfl (by decide) rfl (by decide) ?_
          have hr15 : ra_in (ra_g σ (180) 17) := (ra_in_g _ _ _)
          refine ra_load rfl rfl rfl rfl ?_
          refine ra_iadd rfl ?_
          exact ra_ireturn rfl rfl ⟨⟨_, (by first | omega | (unfold ra_in at *; omega)), (by omega), rfl⟩, rfl⟩
        · have hl := pl_in (σ := σ) (x := x1) (by omega) (by omega) (by assumption)
          refine ra_load rfl rfl rfl rfl ?_
          refine ra_getR rfl lk_8_7 (Nat.zero_le _) sh_179 rfl ?_
          refine ra_bipush rfl (by decide) ?_
          refine ra_ialoadJ (j := 20) rfl sh_180 rfl (by decide) rfl (by decide) ?_
          have hr16 : ra_in (ra_g σ (180) 20) := (ra_in_g _ _ _)
          refine ra_load rfl rfl rfl rfl ?_
          refine ra_iadd rfl ?_
          refine ra_load rfl rfl rfl rfl ?_
          refine ra_cTp (sp_233 (MV_f hw (by omega))) rfl (ct_233 rfl lk_8_156 (Or.inl rfl) sh_179 (Nat.le_of_ble_eq_true rfl)) ?_
          have hm18 := (MV_f hw (by omega))
          unfold MF at hm18
          have hr19 : ra_in (rfb σ) := (by first | omega | (unfold ra_in at *; omega))
          refine ra_isub rfl ?_
          refine ra_goto rfl rfl ?_
          exact ra_ireturn rfl rfl ⟨⟨_, (by first | omega | (unfold ra_in at *; omega)), (by omega), rfl⟩, rfl⟩
    · refine ra_load rfl rfl rfl rfl ?_
      refine ra_getR rfl lk_8_7 (Nat.zero_le _) sh_179 rfl ?_
      refine ra_bipush rfl (by decide) ?_
      refine ra_ialoadJ (j := 18) rfl sh_180 rfl (by decide) rfl (by decide) ?_
      have hr20 : ra_in (ra_g σ (180) 18) := (ra_in_g _ _ _)
      refine ra_load rfl rfl rfl rfl ?_
      refine ra_iadd rfl ?_
      exact ra_ireturn rfl rfl ⟨⟨_, (by first | omega | (unfold ra_in at *; omega)), (by omega), rfl⟩, rfl⟩
  · refine ra_load rfl rfl rfl rfl ?_
    refine ra_load rfl rfl rfl rfl ?_
    refine ra_iconst rfl ?_
    refine ra_cTp (sp_200 hx0 (by first | omega | (unfold ra_in at *; omega)) (by first | assumption | rfl | omega)) rfl (ct_200 rfl lk_8_67 (Or.inl rfl) sh_179 (Nat.le_of_ble_eq_true rfl)) ?_
    have hr22 : ra_in (wq σ x0 (1)) := (ra_in_wq _ _ _)
    refine ra_load rfl rfl rfl rfl ?_
    refine ra_iadd rfl ?_
    exact ra_ireturn rfl rfl ⟨⟨_, (by first | omega | (unfold ra_in at *; omega)), (by omega), rfl⟩, rfl⟩
theorem lp_278_4 {n : Nat} {f : Nat → Int32} {d : Nat} {x0 : Int} {σ : ra_V} (hx0 : ra_in x0) : ∀ (nn : Nat) (v2 : Int) (v3 : Int) (hv2_0 : NB σ x0 v3 v2) (hv2_1 : -1 ≤ v2 ∧ v2 < 8) (hv3_0 : 0 ≤ v3) (hv3_1 : v3 ≤ 8) (hm : ((8 - v3 : Int)).toNat < nn), ra_P (g_Gs n f) g_sh 0 (d + 1) g_m_X8_nextBy 4 [some (.index (179)), some (ra_I x0), some (ra_I v2), some (ra_I v3)] [] σ (fun r s => (∃ z, ra_in z ∧ (NB σ x0 8 z) ∧ r = .inl (some (ra_I z))) ∧ s = σ) := by
  intro nn
  induction nn with
  | zero => intro v2 v3 hv2_0 hv2_1 hv3_0 hv3_1 hm; exact absurd hm (Nat.not_lt_zero _)
  | succ nn ih =>
    intro v2 v3 hv2_0 hv2_1 hv3_0 hv3_1 hm
    refine ra_load rfl rfl rfl rfl ?_
    refine ra_bipush rfl (by decide) ?_
    refine ra_icge rfl rfl (by first | omega | (unfold ra_in at *; omega)) (by first | omega | (unfold ra_in at *; omega)) (fun h1 => ?_) (fun h1 => ?_)
    · refine ra_load rfl rfl rfl rfl ?_
      exact ra_ireturn rfl rfl ⟨⟨_, (by first | omega | (unfold ra_in at *; omega)), (by obtain rfl : v3 = 8 := (by omega); exact hv2_0), rfl⟩, rfl⟩
    · refine ra_load rfl rfl rfl rfl ?_
      refine ra_load rfl rfl rfl rfl ?_
      refine ra_iconst rfl ?_
      refine ra_cTp (sp_200 (by first | omega | (unfold ra_in at *; omega)) (by first | omega | (unfold ra_in at *; omega)) (by first | assumption | rfl | omega)) rfl (ct_200 rfl lk_8_67 (Or.inl rfl) sh_179 (Nat.le_of_ble_eq_true rfl)) ?_
      have hr3 : ra_in (wq σ v3 (0)) := (ra_in_wq _ _ _)
      refine ra_iconst rfl ?_
      refine ra_icne rfl rfl hr3 (by first | omega | (unfold ra_in at *; omega)) (fun h4 => ?_) (fun h4 => ?_)
      · refine ra_iinc (L' := [_, _, _, _]) rfl rfl (Nat.le_of_ble_eq_true rfl) rfl ?_
        refine ra_goto rfl rfl ?_
        exact ra_weak (by repeat' constructor) (ih v2 (v3 + 1) (by first | exact nb_n hv2_0 (by omega) (by omega) | exact nb_k hv2_0 (by omega) (by omega) (by omega) | exact nb_y hv2_0 (by omega) (by omega) (by omega) (by omega)) (by first | omega | (unfold ra_in at *; omega)) (by first | omega | (unfold ra_in at *; omega)) (by first | omega | (unfold ra_in at *; omega)) (by first | omega | (unfold ra_in at *; omega)))
      · refine ra_load rfl rfl rfl rfl ?_
        refine ra_load rfl rfl rfl rfl ?_
        refine ra_iconst rfl ?_
        refine ra_cTp (sp_200 (by first | omega | (unfold ra_in at *; omega)) (by first | omega | (unfold ra_in at *; omega)) (by first | assumption | rfl | omega)) rfl (ct_200 rfl lk_8_67 (Or.inl rfl) sh_179 (Nat.le_of_ble_eq_true rfl)) ?_
        have hr6 : ra_in (wq σ v3 (1)) := (ra_in_wq _ _ _)
        refine ra_load rfl rfl rfl rfl ?_
        refine ra_icle rfl rfl hr6 hx0 (fun h7 => ?_) (fun h7 => ?_)
        · refine ra_iinc (L' := [_, _, _, _]) rfl rfl (Nat.le_of_ble_eq_true rfl) rfl ?_
          refine ra_goto rfl rfl ?_
          exact ra_weak (by repeat' constructor) (ih v2 (v3 + 1) (by first | exact nb_n hv2_0 (by omega) (by omega) | exact nb_k hv2_0 (by omega) (by omega) (by omega) | exact nb_y hv2_0 (by omega) (by omega) (by omega) (by omega)) (by first | omega | (unfold ra_in at *; omega)) (by first | omega | (unfold ra_in at *; omega)) (by first | omega | (unfold ra_in at *; omega)) (by first | omega | (unfold ra_in at *; omega)))
        · refine ra_load rfl rfl rfl rfl ?_
          refine ra_iconst rfl ?_
          refine ra_iceq rfl rfl (by first | omega | (unfold ra_in at *; omega)) (by first | omega | (unfold ra_in at *; omega)) (fun h8 => ?_) (fun h8 => ?_)
          · refine ra_load rfl rfl rfl rfl ?_
            refine ra_store (L' := [_, _, _, _]) rfl rfl rfl (Nat.le_of_ble_eq_true rfl) rfl ?_
            refine ra_iinc (L' := [_, _, _, _]) rfl rfl (Nat.le_of_ble_eq_true rfl) rfl ?_
            refine ra_goto rfl rfl ?_
            exact ra_weak (by repeat' constructor) (ih v3 (v3 + 1) (by first | exact nb_n hv2_0 (by omega) (by omega) | exact nb_k hv2_0 (by omega) (by omega) (by omega) | exact nb_y hv2_0 (by omega) (by omega) (by omega) (by omega)) (by first | omega | (unfold ra_in at *; omega)) (by first | omega | (unfold ra_in at *; omega)) (by first | omega | (unfold ra_in at *; omega)) (by first | omega | (unfold ra_in at *; omega)))
          · refine ra_load rfl rfl rfl rfl ?_
            refine ra_load rfl rfl rfl rfl ?_
            refine ra_iconst rfl ?_
            refine ra_cTp (sp_200 (by first | omega | (unfold ra_in at *; omega)) (by first | omega | (unfold ra_in at *; omega)) (by first | assumption | rfl | omega)) rfl (ct_200 rfl lk_8_67 (Or.inl rfl) sh_179 (Nat.le_of_ble_eq_true rfl)) ?_
            have hr10 : ra_in (wq σ v3 (1)) := (ra_in_wq _ _ _)
            refine ra_load rfl rfl rfl rfl ?_
            refine ra_load rfl rfl rfl rfl ?_
            refine ra_iconst rfl ?_
            refine ra_cTp (sp_200 (by first | omega | (unfold ra_in at *; omega)) (by first | omega | (unfold ra_in at *; omega)) (by first | assumption | rfl | omega)) rfl (ct_200 rfl lk_8_67 (Or.inl rfl) sh_179 (Nat.le_of_ble_eq_true rfl)) ?_
            have hr12 : ra_in (wq σ v2 (1)) := (ra_in_wq _ _ _)
            refine ra_icge rfl rfl hr10 hr12 (fun h13 => ?_) (fun h13 => ?_)
            · refine ra_iinc (L' := [_, _, _, _]) rfl rfl (Nat.le_of_ble_eq_true rfl) rfl ?_
              refine ra_goto rfl rfl ?_
              exact ra_weak (by repeat' constructor) (ih v2 (v3 + 1) (by first | exact nb_n hv2_0 (by omega) (by omega) | exact nb_k hv2_0 (by omega) (by omega) (by omega) | exact nb_y hv2_0 (by omega) (by omega) (by omega) (by omega)) (by first | omega | (unfold ra_in at *; omega)) (by first | omega | (unfold ra_in at *; omega)) (by first | omega | (unfold ra_in at *; omega)) (by first | omega | (unfold ra_in at *; omega)))
            · refine ra_load rfl rfl rfl rfl ?_
              refine ra_store (L' := [_, _, _, _]) rfl rfl rfl (Nat.le_of_ble_eq_true rfl) rfl ?_
              refine ra_iinc (L' := [_, _, _, _]) rfl rfl (Nat.le_of_ble_eq_true rfl) rfl ?_
              refine ra_goto rfl rfl ?_
              exact ra_weak (by repeat' constructor) (ih v3 (v3 + 1) (by first | exact nb_n hv2_0 (by omega) (by omega) | exact nb_k hv2_0 (by omega) (by omega) (by omega) | exact nb_y hv2_0 (by omega) (by omega) (by omega) (by omega)) (by first | omega | (unfold ra_in at *; omega)) (by first | omega | (unfold ra_in at *; omega)) (by first | omega | (unfold ra_in at *; omega)) (by first | omega | (unfold ra_in at *; omega)))
theorem sp_278 {n : Nat} {f : Nat → Int32} {d : Nat} {x0 : Int} {σ : ra_V} (hx0 : ra_in x0) : ra_C (g_Gs n f) g_sh 0 (d + 2) 278 [.index (179), ra_I x0] σ (fun r s => (∃ z, ra_in z ∧ (NB σ x0 8 z) ∧ r = .inl (some (ra_I z))) ∧ s = σ) := by
  refine ra_enter (nn := 2) mt_278 rfl (Nat.le_of_ble_eq_true rfl) rfl (fun h => absurd h (by decide +kernel)) ?_
  refine ra_iconst rfl ?_
  refine ra_store (L' := [_, _, _, _]) rfl rfl rfl (Nat.le_of_ble_eq_true rfl) rfl ?_
  refine ra_iconst rfl ?_
  refine ra_store (L' := [_, _, _, _]) rfl rfl rfl (Nat.le_of_ble_eq_true rfl) rfl ?_
  exact ra_weak (by repeat' constructor) (lp_278_4 hx0 _ (-1) (0) nb_0 (by first | omega | (unfold ra_in at *; omega)) (by first | omega | (unfold ra_in at *; omega)) (by first | omega | (unfold ra_in at *; omega)) (Nat.lt_succ_self _))
theorem lp_244_2 {n : Nat} {f : Nat → Int32} {d : Nat} {x0 : Int} {σ : ra_V} (hx0 : ra_in x0) (hw : WF σ) (hp : 0 ≤ x0 ∧ x0 < 8 ∧ wq σ x0 0 = 1) : ∀ (nn : Nat) (v2 : Int) (hv2_0 : 0 ≤ v2 ∧ v2 ≤ wq σ x0 1) (hm : ((wq σ x0 1 - v2 : Int)).toNat < nn), ra_P (g_Gs n f) g_sh 0 (d + 4) g_m_X8_leftOf 2 [some (.index (179)), some (ra_I x0), some (ra_I v2)] [] σ (fun r s => (∃ z, ra_in z ∧ (z = -1 ∨ (0 ≤ z ∧ z ≤ 600 ∧ MOK σ x0 z)) ∧ r = .inl (some (ra_I z))) ∧ s = σ) := by
  intro nn
  induction nn with
  | zero => intro v2 hv2_0 hm; exact absurd hm (Nat.not_lt_zero _)
  | succ nn ih =>
    intro v2 hv2_0 hm
    have hw0 := WF_a hw
    unfold WFa at hw0
    have hq := WF_p hw hp.1 hp.2.1 hp.2.2
    refine ra_load rfl rfl rfl rfl ?_
    refine ra_load rfl rfl rfl rfl ?_
    refine ra_load rfl rfl rfl rfl ?_
    refine ra_iconst rfl ?_
    refine ra_cTp (sp_200 hx0 (by first | omega | (unfold ra_in at *; omega)) (by first | assumption | rfl | omega)) rfl (ct_200 rfl lk_8_67 (Or.inl rfl) sh_179 (Nat.le_of_ble_eq_true rfl)) ?_
    have hr2 : ra_in (wq σ x0 (1)) := (ra_in_wq _ _ _)
    refine ra_icge rfl rfl (by first | omega | (unfold ra_in at *; omega)) hr2 (fun h3 => ?_) (fun h3 => ?_)
    · refine ra_iconst rfl ?_
      exact ra_ireturn rfl rfl ⟨⟨_, (by first | omega | (unfold ra_in at *; omega)), (Or.inl rfl), rfl⟩, rfl⟩
    · refine ra_load rfl rfl rfl rfl ?_
      refine ra_load rfl rfl rfl rfl ?_
      refine ra_load rfl rfl rfl rfl ?_
      refine ra_cIPp (sp_224 hx0 (by first | omega | (unfold ra_in at *; omega)) hw (by first | assumption | omega)) rfl (ct_224 rfl lk_8_183 (Or.inl rfl) sh_179 (Nat.le_of_ble_eq_true rfl)) (fun z5 hz5 hz5p => ?_)
      refine ra_ifne rfl rfl hz5 (fun h6 => ?_) (fun h6 => ?_)
      · refine ra_iinc (L' := [_, _, _]) rfl rfl (Nat.le_of_ble_eq_true rfl) rfl ?_
        refine ra_goto rfl rfl ?_
        exact ra_weak (by repeat' constructor) (ih (v2 + 1) (by first | omega | (unfold ra_in at *; omega)) (by first | omega | (unfold ra_in at *; omega)))
      · refine ra_load rfl rfl rfl rfl ?_
        exact ra_ireturn rfl rfl ⟨⟨_, (by first | omega | (unfold ra_in at *; omega)), (Or.inr ⟨by omega, by omega, hz5p (by omega)⟩), rfl⟩, rfl⟩
theorem sp_244 {n : Nat} {f : Nat → Int32} {d : Nat} {x0 : Int} {σ : ra_V} (hx0 : ra_in x0) (hw : WF σ) (hp : 0 ≤ x0 ∧ x0 < 8 ∧ wq σ x0 0 = 1) : ra_C (g_Gs n f) g_sh 0 (d + 5) 244 [.index (179), ra_I x0] σ (fun r s => (∃ z, ra_in z ∧ (z = -1 ∨ (0 ≤ z ∧ z ≤ 600 ∧ MOK σ x0 z)) ∧ r = .inl (some (ra_I z))) ∧ s = σ) := by
  refine ra_enter (nn := 1) mt_244 rfl (Nat.le_of_ble_eq_true rfl) rfl (fun h => absurd h (by decide +kernel)) ?_
  have hw0 := WF_a hw
  unfold WFa at hw0
  have hq := WF_p hw hp.1 hp.2.1 hp.2.2
  refine ra_iconst rfl ?_
  refine ra_store (L' := [_, _, _]) rfl rfl rfl (Nat.le_of_ble_eq_true rfl) rfl ?_
  exact ra_weak (by repeat' constructor) (lp_244_2 hx0 hw hp _ (0) (by first | omega | (unfold ra_in at *; omega)) (Nat.lt_succ_self _))
theorem lp_245_9 {n : Nat} {f : Nat → Int32} {d : Nat} {x0 : Int} {σ : ra_V} (hx0 : ra_in x0) (hw : WF σ) (hp : 0 ≤ x0 ∧ x0 < 8 ∧ wq σ x0 0 = 1) : ∀ (nn : Nat) (v2 : Int) (hv2_0 : -1 ≤ v2 ∧ v2 < 600) (hm : ((v2 - wq σ x0 1 : Int)).toNat < nn), ra_P (g_Gs n f) g_sh 0 (d + 4) g_m_X8_rightOf 9 [some (.index (179)), some (ra_I x0), some (ra_I v2)] [] σ (fun r s => (∃ z, ra_in z ∧ (z = -1 ∨ (0 ≤ z ∧ z ≤ 600 ∧ MOK σ x0 z)) ∧ r = .inl (some (ra_I z))) ∧ s = σ) := by
  intro nn
  induction nn with
  | zero => intro v2 hv2_0 hm; exact absurd hm (Nat.not_lt_zero _)
  | succ nn ih =>
    intro v2 hv2_0 hm
    have hw0 := WF_a hw
    unfold WFa at hw0
    have hq := WF_p hw hp.1 hp.2.1 hp.2.2
    refine ra_load rfl rfl rfl rfl ?_
    refine ra_load rfl rfl rfl rfl ?_
    refine ra_load rfl rfl rfl rfl ?_
    refine ra_iconst rfl ?_
    refine ra_cTp (sp_200 hx0 (by first | omega | (unfold ra_in at *; omega)) (by first | assumption | rfl | omega)) rfl (ct_200 rfl lk_8_67 (Or.inl rfl) sh_179 (Nat.le_of_ble_eq_true rfl)) ?_
    have hr3 : ra_in (wq σ x0 (1)) := (ra_in_wq _ _ _)
    refine ra_icle rfl rfl (by first | omega | (unfold ra_in at *; omega)) hr3 (fun h4 => ?_) (fun h4 => ?_)
    · refine ra_iconst rfl ?_
      exact ra_ireturn rfl rfl ⟨⟨_, (by first | omega | (unfold ra_in at *; omega)), (Or.inl rfl), rfl⟩, rfl⟩
    · refine ra_load rfl rfl rfl rfl ?_
      refine ra_load rfl rfl rfl rfl ?_
      refine ra_load rfl rfl rfl rfl ?_
      refine ra_cIPp (sp_224 hx0 (by first | omega | (unfold ra_in at *; omega)) hw (by first | assumption | omega)) rfl (ct_224 rfl lk_8_183 (Or.inl rfl) sh_179 (Nat.le_of_ble_eq_true rfl)) (fun z6 hz6 hz6p => ?_)
      refine ra_ifne rfl rfl hz6 (fun h7 => ?_) (fun h7 => ?_)
      · refine ra_iinc (L' := [_, _, _]) rfl rfl (Nat.le_of_ble_eq_true rfl) rfl ?_
        refine ra_goto rfl rfl ?_
        exact ra_weak (by repeat' constructor) (ih (v2 + (-1)) (by first | omega | (unfold ra_in at *; omega)) (by first | omega | (unfold ra_in at *; omega)))
      · refine ra_load rfl rfl rfl rfl ?_
        exact ra_ireturn rfl rfl ⟨⟨_, (by first | omega | (unfold ra_in at *; omega)), (Or.inr ⟨by omega, by omega, hz6p (by omega)⟩), rfl⟩, rfl⟩
theorem sp_245 {n : Nat} {f : Nat → Int32} {d : Nat} {x0 : Int} {σ : ra_V} (hx0 : ra_in x0) (hw : WF σ) (hp : 0 ≤ x0 ∧ x0 < 8 ∧ wq σ x0 0 = 1) : ra_C (g_Gs n f) g_sh 0 (d + 5) 245 [.index (179), ra_I x0] σ (fun r s => (∃ z, ra_in z ∧ (z = -1 ∨ (0 ≤ z ∧ z ≤ 600 ∧ MOK σ x0 z)) ∧ r = .inl (some (ra_I z))) ∧ s = σ) := by
  refine ra_enter (nn := 1) mt_245 rfl (Nat.le_of_ble_eq_true rfl) rfl (fun h => absurd h (by decide +kernel)) ?_
  have hw0 := WF_a hw
  unfold WFa at hw0
  have hq := WF_p hw hp.1 hp.2.1 hp.2.2
  refine ra_load rfl rfl rfl rfl ?_
  refine ra_getR rfl lk_8_7 (Nat.zero_le _) sh_179 rfl ?_
  refine ra_iconst rfl ?_
  refine ra_ialoadJ (j := 0) rfl sh_180 rfl (by decide) rfl (by decide) ?_
  have hr1 : ra_in (ra_g σ (180) 0) := (ra_in_g _ _ _)
  refine ra_iconst rfl ?_
  refine ra_isub rfl ?_
  refine ra_store (L' := [_, _, _]) rfl rfl rfl (Nat.le_of_ble_eq_true rfl) rfl ?_
  exact ra_weak (by repeat' constructor) (lp_245_9 hx0 hw hp _ ((ra_g σ (180) 0) - (1)) (by first | omega | (unfold ra_in at *; omega)) (Nat.lt_succ_self _))
theorem lp_310_2 {n : Nat} {f : Nat → Int32} {d : Nat} {x0 : Int} {σ : ra_V} (hx0 : ra_in x0) (hw : WF σ) (hp : 0 ≤ x0 ∧ x0 < 8 ∧ wq σ x0 0 = 1) : ∀ (nn : Nat) (v2 : Int) (hv2_0 : 0 ≤ v2) (hv2_1 : v2 ≤ 8) (hv2_2 : NN σ x0 v2) (hm : ((8 - v2 : Int)).toNat < nn), ra_P (g_Gs n f) g_sh 0 (d + 1) g_m_X8_neighbour 2 [some (.index (179)), some (ra_I x0), some (ra_I v2)] [] σ (fun r s => (∃ z, ra_in z ∧ ((z = -1 ∧ NN σ x0 8) ∨ (0 ≤ z ∧ z < 8 ∧ wq σ z 0 = 1 ∧ wq σ z 1 = wq σ x0 1 + wq σ x0 2)) ∧ r = .inl (some (ra_I z))) ∧ s = σ) := by
  intro nn
  induction nn with
  | zero => intro v2 hv2_0 hv2_1 hv2_2 hm; exact absurd hm (Nat.not_lt_zero _)
  | succ nn ih =>
    intro v2 hv2_0 hv2_1 hv2_2 hm
    have hw0 := WF_a hw
    unfold WFa at hw0
    have hq := WF_p hw hp.1 hp.2.1 hp.2.2
    refine ra_load rfl rfl rfl rfl ?_
    refine ra_bipush rfl (by decide) ?_
    refine ra_icge rfl rfl (by first | omega | (unfold ra_in at *; omega)) (by first | omega | (unfold ra_in at *; omega)) (fun h1 => ?_) (fun h1 => ?_)
    · refine ra_iconst rfl ?_
      exact ra_ireturn rfl rfl ⟨⟨_, (by first | omega | (unfold ra_in at *; omega)), (Or.inl ⟨rfl, by obtain rfl : v2 = 8 := (by omega); exact hv2_2⟩), rfl⟩, rfl⟩
    · refine ra_load rfl rfl rfl rfl ?_
      refine ra_load rfl rfl rfl rfl ?_
      refine ra_iconst rfl ?_
      refine ra_cTp (sp_200 (by first | omega | (unfold ra_in at *; omega)) (by first | omega | (unfold ra_in at *; omega)) (by first | assumption | rfl | omega)) rfl (ct_200 rfl lk_8_67 (Or.inl rfl) sh_179 (Nat.le_of_ble_eq_true rfl)) ?_
      have hr3 : ra_in (wq σ v2 (0)) := (ra_in_wq _ _ _)
      refine ra_iconst rfl ?_
      refine ra_icne rfl rfl hr3 (by first | omega | (unfold ra_in at *; omega)) (fun h4 => ?_) (fun h4 => ?_)
      · refine ra_iinc (L' := [_, _, _]) rfl rfl (Nat.le_of_ble_eq_true rfl) rfl ?_
        refine ra_goto rfl rfl ?_
        exact ra_weak (by repeat' constructor) (ih (v2 + 1) (by first | omega | (unfold ra_in at *; omega)) (by first | omega | (unfold ra_in at *; omega)) (nn_y hv2_2 (fun e => by omega)) (by first | omega | (unfold ra_in at *; omega)))
      · refine ra_load rfl rfl rfl rfl ?_
        refine ra_load rfl rfl rfl rfl ?_
        refine ra_iconst rfl ?_
        refine ra_cTp (sp_200 (by first | omega | (unfold ra_in at *; omega)) (by first | omega | (unfold ra_in at *; omega)) (by first | assumption | rfl | omega)) rfl (ct_200 rfl lk_8_67 (Or.inl rfl) sh_179 (Nat.le_of_ble_eq_true rfl)) ?_
        have hr6 : ra_in (wq σ v2 (1)) := (ra_in_wq _ _ _)
        refine ra_load rfl rfl rfl rfl ?_
        refine ra_load rfl rfl rfl rfl ?_
        refine ra_iconst rfl ?_
        refine ra_cTp (sp_200 hx0 (by first | omega | (unfold ra_in at *; omega)) (by first | assumption | rfl | omega)) rfl (ct_200 rfl lk_8_67 (Or.inl rfl) sh_179 (Nat.le_of_ble_eq_true rfl)) ?_
        have hr8 : ra_in (wq σ x0 (1)) := (ra_in_wq _ _ _)
        refine ra_load rfl rfl rfl rfl ?_
        refine ra_load rfl rfl rfl rfl ?_
        refine ra_iconst rfl ?_
        refine ra_cTp (sp_200 hx0 (by first | omega | (unfold ra_in at *; omega)) (by first | assumption | rfl | omega)) rfl (ct_200 rfl lk_8_67 (Or.inl rfl) sh_179 (Nat.le_of_ble_eq_true rfl)) ?_
        have hr10 : ra_in (wq σ x0 (2)) := (ra_in_wq _ _ _)
        refine ra_iadd rfl ?_
        refine ra_icne rfl rfl hr6 (by first | omega | (unfold ra_in at *; omega)) (fun h11 => ?_) (fun h11 => ?_)
        · refine ra_iinc (L' := [_, _, _]) rfl rfl (Nat.le_of_ble_eq_true rfl) rfl ?_
          refine ra_goto rfl rfl ?_
          exact ra_weak (by repeat' constructor) (ih (v2 + 1) (by first | omega | (unfold ra_in at *; omega)) (by first | omega | (unfold ra_in at *; omega)) (nn_y hv2_2 (fun e => by omega)) (by first | omega | (unfold ra_in at *; omega)))
        · refine ra_load rfl rfl rfl rfl ?_
          exact ra_ireturn rfl rfl ⟨⟨_, (by first | omega | (unfold ra_in at *; omega)), (Or.inr ⟨by omega, by omega, by omega, by omega⟩), rfl⟩, rfl⟩
theorem sp_310 {n : Nat} {f : Nat → Int32} {d : Nat} {x0 : Int} {σ : ra_V} (hx0 : ra_in x0) (hw : WF σ) (hp : 0 ≤ x0 ∧ x0 < 8 ∧ wq σ x0 0 = 1) : ra_C (g_Gs n f) g_sh 0 (d + 2) 310 [.index (179), ra_I x0] σ (fun r s => (∃ z, ra_in z ∧ ((z = -1 ∧ NN σ x0 8) ∨ (0 ≤ z ∧ z < 8 ∧ wq σ z 0 = 1 ∧ wq σ z 1 = wq σ x0 1 + wq σ x0 2)) ∧ r = .inl (some (ra_I z))) ∧ s = σ) := by
  refine ra_enter (nn := 1) mt_310 rfl (Nat.le_of_ble_eq_true rfl) rfl (fun h => absurd h (by decide +kernel)) ?_
  have hw0 := WF_a hw
  unfold WFa at hw0
  have hq := WF_p hw hp.1 hp.2.1 hp.2.2
  refine ra_iconst rfl ?_
  refine ra_store (L' := [_, _, _]) rfl rfl rfl (Nat.le_of_ble_eq_true rfl) rfl ?_
  exact ra_weak (by repeat' constructor) (lp_310_2 hx0 hw hp _ (0) (by first | omega | (unfold ra_in at *; omega)) (by first | omega | (unfold ra_in at *; omega)) nn_0 (Nat.lt_succ_self _))
theorem sp_311 {n : Nat} {f : Nat → Int32} {d : Nat} {x0 : Int} {σ : ra_V} (hx0 : ra_in x0) (hw : WF σ) (hp : 0 ≤ x0 ∧ x0 < 8 ∧ wq σ x0 0 = 1) : ra_C (g_Gs n f) g_sh 0 (d + 3) 311 [.index (179), ra_I x0] σ (fun r s => (∃ z : Int, (z = 0 ∨ z = 1) ∧ (z = 1 → CJ σ x0) ∧ r = .inl (some (ra_I z))) ∧ s = σ) := by
  refine ra_enter (nn := 1) mt_311 rfl (Nat.le_of_ble_eq_true rfl) rfl (fun h => absurd h (by decide +kernel)) ?_
  have hw0 := WF_a hw
  unfold WFa at hw0
  have hq := WF_p hw hp.1 hp.2.1 hp.2.2
  refine ra_load rfl rfl rfl rfl ?_
  refine ra_load rfl rfl rfl rfl ?_
  refine ra_cIPp (sp_310 hx0 hw (by first | assumption | omega)) rfl (ct_310 rfl lk_8_378 (Or.inl rfl) sh_179 (Nat.le_of_ble_eq_true rfl)) (fun z2 hz2 hz2p => ?_)
  refine ra_store (L' := [_, _, _]) rfl rfl rfl (Nat.le_of_ble_eq_true rfl) rfl ?_
  refine ra_load rfl rfl rfl rfl ?_
  refine ra_iconst rfl ?_
  refine ra_iceq rfl rfl hz2 (by first | omega | (unfold ra_in at *; omega)) (fun h3 => ?_) (fun h3 => ?_)
  · refine ra_iconst rfl ?_
    exact ra_ireturn rfl (ra_okB (Or.inl rfl)) ⟨⟨_, (Or.inl rfl), (fun hq => absurd hq (by decide)), rfl⟩, rfl⟩
  · refine ra_load rfl rfl rfl rfl ?_
    refine ra_load rfl rfl rfl rfl ?_
    refine ra_iconst rfl ?_
    refine ra_cTp (sp_200 hz2 (by first | omega | (unfold ra_in at *; omega)) (by first | assumption | rfl | omega)) rfl (ct_200 rfl lk_8_67 (Or.inl rfl) sh_179 (Nat.le_of_ble_eq_true rfl)) ?_
    have hr5 : ra_in (wq σ z2 (4)) := (ra_in_wq _ _ _)
    refine ra_load rfl rfl rfl rfl ?_
    refine ra_load rfl rfl rfl rfl ?_
    refine ra_iconst rfl ?_
    refine ra_cTp (sp_200 hx0 (by first | omega | (unfold ra_in at *; omega)) (by first | assumption | rfl | omega)) rfl (ct_200 rfl lk_8_67 (Or.inl rfl) sh_179 (Nat.le_of_ble_eq_true rfl)) ?_
    have hr7 : ra_in (wq σ x0 (4)) := (ra_in_wq _ _ _)
    refine ra_icne rfl rfl hr5 hr7 (fun h8 => ?_) (fun h8 => ?_)
    · refine ra_iconst rfl ?_
      exact ra_ireturn rfl (ra_okB (Or.inl rfl)) ⟨⟨_, (Or.inl rfl), (fun hq => absurd hq (by decide)), rfl⟩, rfl⟩
    · refine ra_load rfl rfl rfl rfl ?_
      refine ra_load rfl rfl rfl rfl ?_
      refine ra_cQPp (sp_206 hx0 (by first | assumption | rfl | omega)) rfl (ct_206 rfl lk_8_355 (Or.inl rfl) sh_179 (Nat.le_of_ble_eq_true rfl)) (fun z10 hz10 hz10p => ?_)
      refine ra_ifne rfl rfl (ra_in01 hz10) (fun h11 => ?_) (fun h11 => ?_)
      · refine ra_iconst rfl ?_
        exact ra_ireturn rfl (ra_okB (Or.inl rfl)) ⟨⟨_, (Or.inl rfl), (fun hq => absurd hq (by decide)), rfl⟩, rfl⟩
      · have hf1 := hz10p (by omega)
        refine ra_load rfl rfl rfl rfl ?_
        refine ra_load rfl rfl rfl rfl ?_
        refine ra_cQPp (sp_206 hz2 (by first | assumption | rfl | omega)) rfl (ct_206 rfl lk_8_355 (Or.inl rfl) sh_179 (Nat.le_of_ble_eq_true rfl)) (fun z13 hz13 hz13p => ?_)
        refine ra_ifne rfl rfl (ra_in01 hz13) (fun h14 => ?_) (fun h14 => ?_)
        · refine ra_iconst rfl ?_
          exact ra_ireturn rfl (ra_okB (Or.inl rfl)) ⟨⟨_, (Or.inl rfl), (fun hq => absurd hq (by decide)), rfl⟩, rfl⟩
        · have hf2 := hz13p (by omega)
          refine ra_iconst rfl ?_
          refine ra_goto rfl rfl ?_
          exact ra_ireturn rfl (ra_okB (Or.inr rfl)) ⟨⟨_, (Or.inr rfl), (fun _ => ⟨z2, by omega, by omega, by omega, by omega, hf1.2, hf2.2⟩), rfl⟩, rfl⟩
theorem lp_275_4 {n : Nat} {f : Nat → Int32} {d : Nat} {x0 : Int} {σ : ra_V} (hx0 : ra_in x0) (hw : WF σ) (hp : 0 ≤ x0 ∧ x0 < 8 ∧ wq σ x0 0 = 1) : ∀ (nn : Nat) (v2 : Int) (v3 : Int) (hv2_0 : v2 = 0 ∨ v2 = 1) (hv3_0 : 0 ≤ v3 ∧ v3 ≤ 600) (hm : ((wq σ x0 2 - v3 : Int)).toNat < nn), ra_P (g_Gs n f) g_sh 0 (d + 5) g_m_X8_whole 4 [some (.index (179)), some (ra_I x0), some (ra_I v2), some (ra_I v3)] [] σ (fun r s => rB r ∧ s = σ) := by
  intro nn
  induction nn with
  | zero => intro v2 v3 hv2_0 hv3_0 hm; exact absurd hm (Nat.not_lt_zero _)
  | succ nn ih =>
    intro v2 v3 hv2_0 hv3_0 hm
    have hw0 := WF_a hw
    unfold WFa at hw0
    have hq := WF_p hw hp.1 hp.2.1 hp.2.2
    refine ra_load rfl rfl rfl rfl ?_
    refine ra_load rfl rfl rfl rfl ?_
    refine ra_load rfl rfl rfl rfl ?_
    refine ra_iconst rfl ?_
    refine ra_cTp (sp_200 hx0 (by first | omega | (unfold ra_in at *; omega)) (by first | assumption | rfl | omega)) rfl (ct_200 rfl lk_8_67 (Or.inl rfl) sh_179 (Nat.le_of_ble_eq_true rfl)) ?_
    have hr2 : ra_in (wq σ x0 (2)) := (ra_in_wq _ _ _)
    refine ra_icge rfl rfl (by first | omega | (unfold ra_in at *; omega)) hr2 (fun h3 => ?_) (fun h3 => ?_)
    · refine ra_load rfl rfl rfl rfl ?_
      exact ra_ireturn rfl (ra_okB hv2_0) ⟨⟨_, hv2_0, rfl⟩, rfl⟩
    · refine ra_load rfl rfl rfl rfl ?_
      refine ra_ifeq rfl rfl (ra_in01 hv2_0) (fun h4 => ?_) (fun h4 => ?_)
      · refine ra_iconst rfl ?_
        refine ra_store (L' := [_, _, _, _]) rfl rfl rfl (Nat.le_of_ble_eq_true rfl) rfl ?_
        refine ra_iinc (L' := [_, _, _, _]) rfl rfl (Nat.le_of_ble_eq_true rfl) rfl ?_
        refine ra_goto rfl rfl ?_
        exact ra_weak (by repeat' constructor) (ih (0) (v3 + 1) (Or.inl rfl) (by first | omega | (unfold ra_in at *; omega)) (by first | omega | (unfold ra_in at *; omega)))
      · refine ra_load rfl rfl rfl rfl ?_
        refine ra_getR rfl lk_8_7 (Nat.zero_le _) sh_179 rfl ?_
        refine ra_bipush rfl (by decide) ?_
        refine ra_load rfl rfl rfl rfl ?_
        refine ra_load rfl rfl rfl rfl ?_
        refine ra_load rfl rfl rfl rfl ?_
        refine ra_cIPp (sp_243 hx0 (by first | omega | (unfold ra_in at *; omega)) hw (by first | assumption | omega) (by first | assumption | rfl | omega)) rfl (ct_243 rfl lk_8_324 (Or.inl rfl) sh_179 (Nat.le_of_ble_eq_true rfl)) (fun z6 hz6 hz6p => ?_)
        refine ra_iadd rfl ?_
        refine ra_iaload rfl sh_180 rfl (by decide) (by first | omega | (unfold ra_in at *; omega)) (by first | omega | (unfold ra_in at *; omega)) ?_
        have hr7 : ra_in (ra_g σ (180) ((88) + z6).toNat) := (ra_in_g _ _ _)
        refine ra_load rfl rfl rfl rfl ?_
        refine ra_load rfl rfl rfl rfl ?_
        refine ra_load rfl rfl rfl rfl ?_
        refine ra_cIp (sp_208 hx0 (by first | omega | (unfold ra_in at *; omega)) (by first | assumption | rfl | omega)) rfl (ct_208 rfl lk_8_75 (Or.inl rfl) sh_179 (Nat.le_of_ble_eq_true rfl)) (fun z9 hz9 => ?_)
        refine ra_icne rfl rfl hr7 hz9 (fun h10 => ?_) (fun h10 => ?_)
        · refine ra_iconst rfl ?_
          refine ra_store (L' := [_, _, _, _]) rfl rfl rfl (Nat.le_of_ble_eq_true rfl) rfl ?_
          refine ra_iinc (L' := [_, _, _, _]) rfl rfl (Nat.le_of_ble_eq_true rfl) rfl ?_
          refine ra_goto rfl rfl ?_
          exact ra_weak (by repeat' constructor) (ih (0) (v3 + 1) (Or.inl rfl) (by first | omega | (unfold ra_in at *; omega)) (by first | omega | (unfold ra_in at *; omega)))
        · refine ra_iconst rfl ?_
          refine ra_goto rfl rfl ?_
          refine ra_store (L' := [_, _, _, _]) rfl rfl rfl (Nat.le_of_ble_eq_true rfl) rfl ?_
          refine ra_iinc (L' := [_, _, _, _]) rfl rfl (Nat.le_of_ble_eq_true rfl) rfl ?_
          refine ra_goto rfl rfl ?_
          exact ra_weak (by repeat' constructor) (ih (1) (v3 + 1) (Or.inr rfl) (by first | omega | (unfold ra_in at *; omega)) (by first | omega | (unfold ra_in at *; omega)))
theorem sp_275 {n : Nat} {f : Nat → Int32} {d : Nat} {x0 : Int} {σ : ra_V} (hx0 : ra_in x0) (hw : WF σ) (hp : 0 ≤ x0 ∧ x0 < 8 ∧ wq σ x0 0 = 1) : ra_C (g_Gs n f) g_sh 0 (d + 6) 275 [.index (179), ra_I x0] σ (fun r s => rB r ∧ s = σ) := by
  refine ra_enter (nn := 2) mt_275 rfl (Nat.le_of_ble_eq_true rfl) rfl (fun h => absurd h (by decide +kernel)) ?_
  have hw0 := WF_a hw
  unfold WFa at hw0
  have hq := WF_p hw hp.1 hp.2.1 hp.2.2
  refine ra_iconst rfl ?_
  refine ra_store (L' := [_, _, _, _]) rfl rfl rfl (Nat.le_of_ble_eq_true rfl) rfl ?_
  refine ra_iconst rfl ?_
  refine ra_store (L' := [_, _, _, _]) rfl rfl rfl (Nat.le_of_ble_eq_true rfl) rfl ?_
  exact ra_weak (by repeat' constructor) (lp_275_4 hx0 hw hp _ (1) (0) (Or.inr rfl) (by first | omega | (unfold ra_in at *; omega)) (Nat.lt_succ_self _))
theorem lp_279_8 {n : Nat} {f : Nat → Int32} {d : Nat} {x0 : Int} {σ : ra_V} (hx0 : ra_in x0) (hw : WF σ) : ∀ (nn : Nat) (v2 : Int) (v3 : Int) (hv2_0 : v2 = -1 ∨ (0 ≤ v2 ∧ v2 < 8 ∧ wq σ v2 0 = 1)) (hv3_0 : ra_in v3) (hm : ((x0 - v3 : Int)).toNat < nn), ra_P (g_Gs n f) g_sh 0 (d + 2) g_m_X8_standsAt 8 [some (.index (179)), some (ra_I x0), some (ra_I v2), some (ra_I v3)] [] σ (fun r s => (∃ z, ra_in z ∧ (z = -1 ∨ (0 ≤ z ∧ z < 8 ∧ wq σ z 0 = 1)) ∧ r = .inl (some (ra_I z))) ∧ s = σ) := by
  intro nn
  induction nn with
  | zero => intro v2 v3 hv2_0 hv3_0 hm; exact absurd hm (Nat.not_lt_zero _)
  | succ nn ih =>
    intro v2 v3 hv2_0 hv3_0 hm
    refine ra_load rfl rfl rfl rfl ?_
    refine ra_load rfl rfl rfl rfl ?_
    refine ra_icge rfl rfl (by first | omega | (unfold ra_in at *; omega)) hx0 (fun h3 => ?_) (fun h3 => ?_)
    · refine ra_load rfl rfl rfl rfl ?_
      exact ra_ireturn rfl rfl ⟨⟨_, (by first | omega | (unfold ra_in at *; omega)), (by omega), rfl⟩, rfl⟩
    · refine ra_load rfl rfl rfl rfl ?_
      refine ra_iconst rfl ?_
      refine ra_iceq rfl rfl (by first | omega | (unfold ra_in at *; omega)) (by first | omega | (unfold ra_in at *; omega)) (fun h4 => ?_) (fun h4 => ?_)
      · refine ra_load rfl rfl rfl rfl ?_
        exact ra_ireturn rfl rfl ⟨⟨_, (by first | omega | (unfold ra_in at *; omega)), (by omega), rfl⟩, rfl⟩
      · refine ra_load rfl rfl rfl rfl ?_
        refine ra_load rfl rfl rfl rfl ?_
        refine ra_load rfl rfl rfl rfl ?_
        refine ra_iconst rfl ?_
        refine ra_cTp (sp_200 (by first | omega | (unfold ra_in at *; omega)) (by first | omega | (unfold ra_in at *; omega)) (by first | assumption | rfl | omega)) rfl (ct_200 rfl lk_8_67 (Or.inl rfl) sh_179 (Nat.le_of_ble_eq_true rfl)) ?_
        have hr6 : ra_in (wq σ v2 (1)) := (ra_in_wq _ _ _)
        refine ra_cIPp (sp_278 hr6) rfl (ct_278 rfl lk_8_333 (Or.inl rfl) sh_179 (Nat.le_of_ble_eq_true rfl)) (fun z8 hz8 hz8p => ?_)
        refine ra_store (L' := [_, _, _, _]) rfl rfl rfl (Nat.le_of_ble_eq_true rfl) rfl ?_
        refine ra_iinc (L' := [_, _, _, _]) rfl rfl (Nat.le_of_ble_eq_true rfl) rfl ?_
        refine ra_goto rfl rfl ?_
        exact ra_weak (by repeat' constructor) (ih z8 (v3 + 1) (by have := hz8p.1; omega) (by first | omega | (unfold ra_in at *; omega)) (by first | omega | (unfold ra_in at *; omega)))
theorem sp_279 {n : Nat} {f : Nat → Int32} {d : Nat} {x0 : Int} {σ : ra_V} (hx0 : ra_in x0) (hw : WF σ) : ra_C (g_Gs n f) g_sh 0 (d + 3) 279 [.index (179), ra_I x0] σ (fun r s => (∃ z, ra_in z ∧ (z = -1 ∨ (0 ≤ z ∧ z < 8 ∧ wq σ z 0 = 1)) ∧ r = .inl (some (ra_I z))) ∧ s = σ) := by
  refine ra_enter (nn := 2) mt_279 rfl (Nat.le_of_ble_eq_true rfl) rfl (fun h => absurd h (by decide +kernel)) ?_
  refine ra_load rfl rfl rfl rfl ?_
  refine ra_iconst rfl ?_
  refine ra_cIPp (sp_278 (by first | omega | (unfold ra_in at *; omega))) rfl (ct_278 rfl lk_8_333 (Or.inl rfl) sh_179 (Nat.le_of_ble_eq_true rfl)) (fun z2 hz2 hz2p => ?_)
  refine ra_store (L' := [_, _, _, _]) rfl rfl rfl (Nat.le_of_ble_eq_true rfl) rfl ?_
  refine ra_iconst rfl ?_
  refine ra_store (L' := [_, _, _, _]) rfl rfl rfl (Nat.le_of_ble_eq_true rfl) rfl ?_
  exact ra_weak (by repeat' constructor) (lp_279_8 hx0 hw _ z2 (0) (by have := hz2p.1; omega) (by first | omega | (unfold ra_in at *; omega)) (Nat.lt_succ_self _))
end RB
end
