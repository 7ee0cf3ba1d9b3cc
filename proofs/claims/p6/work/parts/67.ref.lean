/-! the reference: what its methods do (printed by wip/gen/ref.py) -/
section RB
theorem sp_262 {n : Nat} {f : Nat → Int32} {d : Nat}  {σ : ra_V} (hw : WF σ) : ra_C (g_Gs n f) g_sh 0 (d + 1) 262 [.index (179)] σ (fun r s => rI r ∧ Fr (179) (187) σ s ∧ s (180) = σ (180) ∧ s (181) = σ (181) ∧ s (182) = σ (182) ∧ s (183) = σ (183) ∧ s (184) = σ (184) ∧ (∀ a, a ≠ 7 → a ≠ 10 → ra_g s 179 a = ra_g σ 179 a)) := by
  refine ra_enter (nn := 0) mt_262 rfl (Nat.le_of_ble_eq_true rfl) rfl (fun h => absurd h (by decide +kernel)) ?_
  have hw0 := WF_a hw
  unfold WFa at hw0
  refine ra_load rfl rfl rfl rfl ?_
  refine ra_iconst rfl ?_
  refine ra_putI rfl lk_8_51 (Nat.zero_le _) sh_179 rfl rfl ?_
  refine ra_newU (by first | omega | (unfold ra_in at *; omega)) (fun s1 hs1 hp2 hp2o => ?_)
  have hp2_99 := hp2o 99 (by decide)
  have hF3 := Fr_tr (lo := 179) (hi := 187) Fr_rf hs1 (by omega)
  have hk4 : s1 (180) = σ (180) := (hs1 (180) (by omega))
  have hk5 : s1 (181) = σ (181) := (hs1 (181) (by omega))
  have hk6 : s1 (182) = σ (182) := (hs1 (182) (by omega))
  have hk7 : s1 (183) = σ (183) := (hs1 (183) (by omega))
  have hk8 : s1 (184) = σ (184) := (hs1 (184) (by omega))
  have ho9 : ∀ a, a ≠ 7 → a ≠ 10 → ra_g s1 179 a = ra_g σ 179 a := fun a h7 h10 => ((fun a h7 h10 => hp2o a h7) a h7 h10).trans ((fun _ _ _ => rfl) a h7 h10)
  refine ra_load rfl rfl rfl rfl ?_
  refine ra_getI rfl lk_8_291 (Nat.zero_le _) sh_179 rfl ?_
  have hr10 : ra_in (ra_g s1 (179) 13) := (ra_in_g _ _ _)
  exact ra_ireturn rfl rfl ⟨⟨_, hr10, rfl⟩, ⟨hF3, hk4, hk5, hk6, hk7, hk8, ho9⟩⟩
theorem sp_263 {n : Nat} {f : Nat → Int32} {d : Nat}  {σ : ra_V} (hw : WF σ) : ra_C (g_Gs n f) g_sh 0 (d + 1) 263 [.index (179)] σ (fun r s => rI r ∧ Fr (179) (187) σ s ∧ s (180) = σ (180) ∧ s (181) = σ (181) ∧ s (182) = σ (182) ∧ s (183) = σ (183) ∧ s (184) = σ (184) ∧ (∀ a, a ≠ 7 → a ≠ 10 → ra_g s 179 a = ra_g σ 179 a)) := by
  refine ra_enter (nn := 0) mt_263 rfl (Nat.le_of_ble_eq_true rfl) rfl (fun h => absurd h (by decide +kernel)) ?_
  have hw0 := WF_a hw
  unfold WFa at hw0
  refine ra_load rfl rfl rfl rfl ?_
  refine ra_iconst rfl ?_
  refine ra_putI rfl lk_8_51 (Nat.zero_le _) sh_179 rfl rfl ?_
  refine ra_newU (by first | omega | (unfold ra_in at *; omega)) (fun s1 hs1 hp2 hp2o => ?_)
  have hp2_99 := hp2o 99 (by decide)
  have hF3 := Fr_tr (lo := 179) (hi := 187) Fr_rf hs1 (by omega)
  have hk4 : s1 (180) = σ (180) := (hs1 (180) (by omega))
  have hk5 : s1 (181) = σ (181) := (hs1 (181) (by omega))
  have hk6 : s1 (182) = σ (182) := (hs1 (182) (by omega))
  have hk7 : s1 (183) = σ (183) := (hs1 (183) (by omega))
  have hk8 : s1 (184) = σ (184) := (hs1 (184) (by omega))
  have ho9 : ∀ a, a ≠ 7 → a ≠ 10 → ra_g s1 179 a = ra_g σ 179 a := fun a h7 h10 => ((fun a h7 h10 => hp2o a h7) a h7 h10).trans ((fun _ _ _ => rfl) a h7 h10)
  refine ra_load rfl rfl rfl rfl ?_
  refine ra_getI rfl lk_8_34 (Nat.zero_le _) sh_179 rfl ?_
  have hr10 : ra_in (ra_g s1 (179) 14) := (ra_in_g _ _ _)
  exact ra_ireturn rfl rfl ⟨⟨_, hr10, rfl⟩, ⟨hF3, hk4, hk5, hk6, hk7, hk8, ho9⟩⟩
theorem sp_292 {n : Nat} {f : Nat → Int32} {d : Nat} {x0 : Int} {σ : ra_V} (hx0 : ra_in x0) (hw : WF σ) (hp : 0 ≤ x0 ∧ x0 < 8) : ra_C (g_Gs n f) g_sh 0 (d + 3) 292 [.index (179), ra_I x0] σ (fun r s => (∃ z, ra_in z ∧ (z = 0 ∨ (z = wq σ x0 2 - wq σ x0 3 ∧ wq σ x0 0 = 1 ∧ ra_g σ 180 16 ≠ x0)) ∧ r = .inl (some (ra_I z))) ∧ s = σ) := by
  refine ra_enter (nn := 0) mt_292 rfl (Nat.le_of_ble_eq_true rfl) rfl (fun h => absurd h (by decide +kernel)) ?_
  refine ra_load rfl rfl rfl rfl ?_
  refine ra_load rfl rfl rfl rfl ?_
  refine ra_iconst rfl ?_
  refine ra_cTp (sp_199 hx0 (by first | omega | (unfold ra_in at *; omega)) (by first | assumption | rfl | omega)) rfl (ct_199 rfl lk_8_67 (Or.inl rfl) sh_179 (Nat.le_of_ble_eq_true rfl)) ?_
  have hr2 : ra_in (wq σ x0 (0)) := (ra_in_wq _ _ _)
  refine ra_iconst rfl ?_
  refine ra_icne rfl rfl hr2 (by first | omega | (unfold ra_in at *; omega)) (fun h3 => ?_) (fun h3 => ?_)
  · refine ra_iconst rfl ?_
    exact ra_ireturn rfl rfl ⟨⟨_, (by first | omega | (unfold ra_in at *; omega)), (Or.inl rfl), rfl⟩, rfl⟩
  · refine ra_load rfl rfl rfl rfl ?_
    refine ra_load rfl rfl rfl rfl ?_
    refine ra_cQPp (sp_205 hx0 (by first | assumption | rfl | omega)) rfl (ct_205 rfl lk_8_355 (Or.inl rfl) sh_179 (Nat.le_of_ble_eq_true rfl)) (fun z5 hz5 hz5p => ?_)
    refine ra_ifne rfl rfl (ra_in01 hz5) (fun h6 => ?_) (fun h6 => ?_)
    · refine ra_iconst rfl ?_
      exact ra_ireturn rfl rfl ⟨⟨_, (by first | omega | (unfold ra_in at *; omega)), (Or.inl rfl), rfl⟩, rfl⟩
    · refine ra_load rfl rfl rfl rfl ?_
      refine ra_load rfl rfl rfl rfl ?_
      refine ra_iconst rfl ?_
      refine ra_cTp (sp_199 hx0 (by first | omega | (unfold ra_in at *; omega)) (by first | assumption | rfl | omega)) rfl (ct_199 rfl lk_8_67 (Or.inl rfl) sh_179 (Nat.le_of_ble_eq_true rfl)) ?_
      have hr8 : ra_in (wq σ x0 (2)) := (ra_in_wq _ _ _)
      refine ra_load rfl rfl rfl rfl ?_
      refine ra_load rfl rfl rfl rfl ?_
      refine ra_iconst rfl ?_
      refine ra_cTp (sp_199 hx0 (by first | omega | (unfold ra_in at *; omega)) (by first | assumption | rfl | omega)) rfl (ct_199 rfl lk_8_67 (Or.inl rfl) sh_179 (Nat.le_of_ble_eq_true rfl)) ?_
      have hr10 : ra_in (wq σ x0 (3)) := (ra_in_wq _ _ _)
      have hq := WF_p hw hp.1 hp.2 (by omega)
      refine ra_isub rfl ?_
      refine ra_goto rfl rfl ?_
      exact ra_ireturn rfl rfl ⟨⟨_, (by first | omega | (unfold ra_in at *; omega)), (Or.inr ⟨rfl, by omega, (hz5p (by omega)).2⟩), rfl⟩, rfl⟩
theorem lp_293_9 {n : Nat} {f : Nat → Int32} {d : Nat}  {σ : ra_V} (hw : WF σ) : ∀ (nn : Nat) (v1 : Int) (v2 : Int) (s : ra_V) (hv1 : ra_in v1) (hv2_0 : 0 ≤ v2) (hv2_1 : v2 ≤ 8) (hF : Fr (179) (187) σ s) (hk0 : s (180) = σ (180)) (hk1 : s (181) = σ (181)) (hk2 : s (182) = σ (182)) (hk3 : s (183) = σ (183)) (hk4 : s (184) = σ (184)) (hoo : ∀ a, a ≠ 7 → a ≠ 10 → ra_g s 179 a = ra_g σ 179 a) (hm : ((8 - v2 : Int)).toNat < nn), ra_P (g_Gs n f) g_sh 0 (d + 3) g_m_X8_slack 9 [some (.index (179)), some (ra_I v1), some (ra_I v2)] [] s (fun r s => rI r ∧ Fr (179) (187) σ s ∧ s (180) = σ (180) ∧ s (181) = σ (181) ∧ s (182) = σ (182) ∧ s (183) = σ (183) ∧ s (184) = σ (184) ∧ (∀ a, a ≠ 7 → a ≠ 10 → ra_g s 179 a = ra_g σ 179 a)) := by
  intro nn
  induction nn with
  | zero => intro v1 v2 s hv1 hv2_0 hv2_1 hF hk0 hk1 hk2 hk3 hk4 hoo hm; exact absurd hm (Nat.not_lt_zero _)
  | succ nn ih =>
    intro v1 v2 s hv1 hv2_0 hv2_1 hF hk0 hk1 hk2 hk3 hk4 hoo hm
    refine ra_load rfl rfl rfl rfl ?_
    refine ra_bipush rfl (by decide) ?_
    refine ra_icge rfl rfl (by first | omega | (unfold ra_in at *; omega)) (by first | omega | (unfold ra_in at *; omega)) (fun h10 => ?_) (fun h10 => ?_)
    · refine ra_load rfl rfl rfl rfl ?_
      exact ra_ireturn rfl rfl ⟨⟨_, hv1, rfl⟩, ⟨hF, hk0, hk1, hk2, hk3, hk4, hoo⟩⟩
    · refine ra_load rfl rfl rfl rfl ?_
      refine ra_load rfl rfl rfl rfl ?_
      refine ra_load rfl rfl rfl rfl ?_
      refine ra_cIPp (sp_292 (by first | omega | (unfold ra_in at *; omega)) (WF_k hk0 hw) (by first | assumption | rfl | omega)) rfl (ct_292 rfl lk_8_358 (Or.inl rfl) sh_179 (Nat.le_of_ble_eq_true rfl)) (fun z12 hz12 hz12p => ?_)
      refine ra_iadd rfl ?_
      refine ra_gen (fun z13 hz13 => ?_)
      refine ra_store (L' := [_, _, _]) rfl rfl rfl (Nat.le_of_ble_eq_true rfl) rfl ?_
      refine ra_iinc (L' := [_, _, _]) rfl rfl (Nat.le_of_ble_eq_true rfl) rfl ?_
      refine ra_goto rfl rfl ?_
      exact ra_weak (by repeat' constructor) (ih z13 (v2 + 1) s hz13 (by first | omega | (unfold ra_in at *; omega)) (by first | omega | (unfold ra_in at *; omega)) hF hk0 hk1 hk2 hk3 hk4 hoo (by first | omega | (unfold ra_in at *; omega)))
theorem sp_293 {n : Nat} {f : Nat → Int32} {d : Nat}  {σ : ra_V} (hw : WF σ) : ra_C (g_Gs n f) g_sh 0 (d + 4) 293 [.index (179)] σ (fun r s => rI r ∧ Fr (179) (187) σ s ∧ s (180) = σ (180) ∧ s (181) = σ (181) ∧ s (182) = σ (182) ∧ s (183) = σ (183) ∧ s (184) = σ (184) ∧ (∀ a, a ≠ 7 → a ≠ 10 → ra_g s 179 a = ra_g σ 179 a)) := by
  refine ra_enter (nn := 2) mt_293 rfl (Nat.le_of_ble_eq_true rfl) rfl (fun h => absurd h (by decide +kernel)) ?_
  have hw0 := WF_a hw
  unfold WFa at hw0
  refine ra_load rfl rfl rfl rfl ?_
  refine ra_iconst rfl ?_
  refine ra_putI rfl lk_8_51 (Nat.zero_le _) sh_179 rfl rfl ?_
  refine ra_newU (by first | omega | (unfold ra_in at *; omega)) (fun s1 hs1 hp2 hp2o => ?_)
  have hp2_99 := hp2o 99 (by decide)
  have hF3 := Fr_tr (lo := 179) (hi := 187) Fr_rf hs1 (by omega)
  have hk4 : s1 (180) = σ (180) := (hs1 (180) (by omega))
  have hk5 : s1 (181) = σ (181) := (hs1 (181) (by omega))
  have hk6 : s1 (182) = σ (182) := (hs1 (182) (by omega))
  have hk7 : s1 (183) = σ (183) := (hs1 (183) (by omega))
  have hk8 : s1 (184) = σ (184) := (hs1 (184) (by omega))
  have ho9 : ∀ a, a ≠ 7 → a ≠ 10 → ra_g s1 179 a = ra_g σ 179 a := fun a h7 h10 => ((fun a h7 h10 => hp2o a h7) a h7 h10).trans ((fun _ _ _ => rfl) a h7 h10)
  refine ra_iconst rfl ?_
  refine ra_store (L' := [_, _, _]) rfl rfl rfl (Nat.le_of_ble_eq_true rfl) rfl ?_
  refine ra_iconst rfl ?_
  refine ra_store (L' := [_, _, _]) rfl rfl rfl (Nat.le_of_ble_eq_true rfl) rfl ?_
  exact ra_weak (by repeat' constructor) (lp_293_9 hw _ (0) (0) s1 (by first | omega | (unfold ra_in at *; omega)) (by first | omega | (unfold ra_in at *; omega)) (by first | omega | (unfold ra_in at *; omega)) hF3 hk4 hk5 hk6 hk7 hk8 ho9 (Nat.lt_succ_self _))
theorem lp_294_36 {n : Nat} {f : Nat → Int32} {d : Nat} {x0 : Int} {σ : ra_V} (hx0 : ra_in x0) (hw : WF σ) : ∀ (nn : Nat) (v2 : Int) (v3 : Int) (s : ra_V) (hv2 : ra_in v2) (hv3_0 : 0 ≤ v3) (hv3_1 : v3 ≤ 8) (hF : Fr (179) (187) σ s) (hk0 : s (180) = σ (180)) (hk1 : s (181) = σ (181)) (hk2 : s (182) = σ (182)) (hk3 : s (183) = σ (183)) (hk4 : s (184) = σ (184)) (hoo : ∀ a, a ≠ 7 → a ≠ 10 → ra_g s 179 a = ra_g σ 179 a) (hm : ((8 - v3 : Int)).toNat < nn), ra_P (g_Gs n f) g_sh 0 (d + 1) g_m_X8_ofKind 36 [some (.index (179)), some (ra_I x0), some (ra_I v2), some (ra_I v3)] [] s (fun r s => rI r ∧ Fr (179) (187) σ s ∧ s (180) = σ (180) ∧ s (181) = σ (181) ∧ s (182) = σ (182) ∧ s (183) = σ (183) ∧ s (184) = σ (184) ∧ (∀ a, a ≠ 7 → a ≠ 10 → ra_g s 179 a = ra_g σ 179 a)) := by
  intro nn
  induction nn with
  | zero => intro v2 v3 s hv2 hv3_0 hv3_1 hF hk0 hk1 hk2 hk3 hk4 hoo hm; exact absurd hm (Nat.not_lt_zero _)
  | succ nn ih =>
    intro v2 v3 s hv2 hv3_0 hv3_1 hF hk0 hk1 hk2 hk3 hk4 hoo hm
    refine ra_load rfl rfl rfl rfl ?_
    refine ra_bipush rfl (by decide) ?_
    refine ra_icge rfl rfl (by first | omega | (unfold ra_in at *; omega)) (by first | omega | (unfold ra_in at *; omega)) (fun h23 => ?_) (fun h23 => ?_)
    · refine ra_load rfl rfl rfl rfl ?_
      exact ra_ireturn rfl rfl ⟨⟨_, hv2, rfl⟩, ⟨hF, hk0, hk1, hk2, hk3, hk4, hoo⟩⟩
    · refine ra_load rfl rfl rfl rfl ?_
      refine ra_load rfl rfl rfl rfl ?_
      refine ra_load rfl rfl rfl rfl ?_
      refine ra_iconst rfl ?_
      refine ra_cTp (sp_199 (by first | omega | (unfold ra_in at *; omega)) (by first | omega | (unfold ra_in at *; omega)) (by first | assumption | rfl | omega)) rfl (ct_199 rfl lk_8_67 (Or.inl rfl) sh_179 (Nat.le_of_ble_eq_true rfl)) ?_
      rw [wq_k hk0]
      have hr25 : ra_in (wq σ v3 (0)) := (ra_in_wq _ _ _)
      refine ra_iconst rfl ?_
      refine ra_icne rfl rfl hr25 (by first | omega | (unfold ra_in at *; omega)) (fun h26 => ?_) (fun h26 => ?_)
      · refine ra_iconst rfl ?_
        refine ra_iadd rfl ?_
        refine ra_gen (fun z27 hz27 => ?_)
        refine ra_store (L' := [_, _, _, _]) rfl rfl rfl (Nat.le_of_ble_eq_true rfl) rfl ?_
        refine ra_iinc (L' := [_, _, _, _]) rfl rfl (Nat.le_of_ble_eq_true rfl) rfl ?_
        refine ra_goto rfl rfl ?_
        exact ra_weak (by repeat' constructor) (ih z27 (v3 + 1) s hz27 (by first | omega | (unfold ra_in at *; omega)) (by first | omega | (unfold ra_in at *; omega)) hF hk0 hk1 hk2 hk3 hk4 hoo (by first | omega | (unfold ra_in at *; omega)))
      · refine ra_load rfl rfl rfl rfl ?_
        refine ra_load rfl rfl rfl rfl ?_
        refine ra_iconst rfl ?_
        refine ra_cTp (sp_199 (by first | omega | (unfold ra_in at *; omega)) (by first | omega | (unfold ra_in at *; omega)) (by first | assumption | rfl | omega)) rfl (ct_199 rfl lk_8_67 (Or.inl rfl) sh_179 (Nat.le_of_ble_eq_true rfl)) ?_
        rw [wq_k hk0]
        have hr29 : ra_in (wq σ v3 (4)) := (ra_in_wq _ _ _)
        refine ra_load rfl rfl rfl rfl ?_
        refine ra_icne rfl rfl hr29 hx0 (fun h30 => ?_) (fun h30 => ?_)
        · refine ra_iconst rfl ?_
          refine ra_iadd rfl ?_
          refine ra_gen (fun z31 hz31 => ?_)
          refine ra_store (L' := [_, _, _, _]) rfl rfl rfl (Nat.le_of_ble_eq_true rfl) rfl ?_
          refine ra_iinc (L' := [_, _, _, _]) rfl rfl (Nat.le_of_ble_eq_true rfl) rfl ?_
          refine ra_goto rfl rfl ?_
          exact ra_weak (by repeat' constructor) (ih z31 (v3 + 1) s hz31 (by first | omega | (unfold ra_in at *; omega)) (by first | omega | (unfold ra_in at *; omega)) hF hk0 hk1 hk2 hk3 hk4 hoo (by first | omega | (unfold ra_in at *; omega)))
        · refine ra_load rfl rfl rfl rfl ?_
          refine ra_load rfl rfl rfl rfl ?_
          refine ra_iconst rfl ?_
          refine ra_cTp (sp_199 (by first | omega | (unfold ra_in at *; omega)) (by first | omega | (unfold ra_in at *; omega)) (by first | assumption | rfl | omega)) rfl (ct_199 rfl lk_8_67 (Or.inl rfl) sh_179 (Nat.le_of_ble_eq_true rfl)) ?_
          rw [wq_k hk0]
          have hr33 : ra_in (wq σ v3 (2)) := (ra_in_wq _ _ _)
          refine ra_goto rfl rfl ?_
          refine ra_iadd rfl ?_
          refine ra_gen (fun z34 hz34 => ?_)
          refine ra_store (L' := [_, _, _, _]) rfl rfl rfl (Nat.le_of_ble_eq_true rfl) rfl ?_
          refine ra_iinc (L' := [_, _, _, _]) rfl rfl (Nat.le_of_ble_eq_true rfl) rfl ?_
          refine ra_goto rfl rfl ?_
          exact ra_weak (by repeat' constructor) (ih z34 (v3 + 1) s hz34 (by first | omega | (unfold ra_in at *; omega)) (by first | omega | (unfold ra_in at *; omega)) hF hk0 hk1 hk2 hk3 hk4 hoo (by first | omega | (unfold ra_in at *; omega)))
theorem sp_294 {n : Nat} {f : Nat → Int32} {d : Nat} {x0 : Int} {σ : ra_V} (hx0 : ra_in x0) (hw : WF σ) : ra_C (g_Gs n f) g_sh 0 (d + 2) 294 [.index (179), ra_I x0] σ (fun r s => rI r ∧ Fr (179) (187) σ s ∧ s (180) = σ (180) ∧ s (181) = σ (181) ∧ s (182) = σ (182) ∧ s (183) = σ (183) ∧ s (184) = σ (184) ∧ (∀ a, a ≠ 7 → a ≠ 10 → ra_g s 179 a = ra_g σ 179 a)) := by
  refine ra_enter (nn := 2) mt_294 rfl (Nat.le_of_ble_eq_true rfl) rfl (fun h => absurd h (by decide +kernel)) ?_
  have hw0 := WF_a hw
  unfold WFa at hw0
  refine ra_load rfl rfl rfl rfl ?_
  refine ra_iconst rfl ?_
  refine ra_putI rfl lk_8_51 (Nat.zero_le _) sh_179 rfl rfl ?_
  refine ra_newU (by first | omega | (unfold ra_in at *; omega)) (fun s1 hs1 hp2 hp2o => ?_)
  have hp2_99 := hp2o 99 (by decide)
  have hF3 := Fr_tr (lo := 179) (hi := 187) Fr_rf hs1 (by omega)
  have hk4 : s1 (180) = σ (180) := (hs1 (180) (by omega))
  have hk5 : s1 (181) = σ (181) := (hs1 (181) (by omega))
  have hk6 : s1 (182) = σ (182) := (hs1 (182) (by omega))
  have hk7 : s1 (183) = σ (183) := (hs1 (183) (by omega))
  have hk8 : s1 (184) = σ (184) := (hs1 (184) (by omega))
  have ho9 : ∀ a, a ≠ 7 → a ≠ 10 → ra_g s1 179 a = ra_g σ 179 a := fun a h7 h10 => ((fun a h7 h10 => hp2o a h7) a h7 h10).trans ((fun _ _ _ => rfl) a h7 h10)
  refine ra_load rfl rfl rfl rfl ?_
  refine ra_load rfl rfl rfl rfl ?_
  refine ra_i2l rfl hx0 ?_
  refine ra_lconst0 rfl ?_
  refine ra_ldc2 (z := 9) rfl lk_8_361 (by decide) ?_
  refine ra_cTp (sp_192 hx0 (by first | omega | (unfold ra_in at *; omega)) (by first | omega | (unfold ra_in at *; omega))) rfl (ct_192 rfl lk_8_63 (Or.inl rfl) (Nat.le_of_ble_eq_true rfl)) ?_
  refine ra_ifneB rfl rfl (fun h11 => ?_) (fun h11 => ?_)
  · refine ra_iconst rfl ?_
    refine ra_iconst rfl ?_
    refine ra_cT (sp_193 (Or.inl rfl) (by first | omega | (unfold ra_in at *; omega))) rfl (ct_193 rfl lk_8_303 (Or.inl rfl) sh_179 (Nat.le_of_ble_eq_true rfl)) (fun s12 hs12 => ?_)
    obtain ⟨hf13, he14⟩ := hs12
    have hF15 := Fr_tr (lo := 179) (hi := 187) hF3 hf13 (by omega)
    have hk16 : s12 (180) = σ (180) := (hf13 (180) (by omega)).trans hk4
    have hk17 : s12 (181) = σ (181) := (hf13 (181) (by omega)).trans hk5
    have hk18 : s12 (182) = σ (182) := (hf13 (182) (by omega)).trans hk6
    have hk19 : s12 (183) = σ (183) := (hf13 (183) (by omega)).trans hk7
    have hk20 : s12 (184) = σ (184) := (hf13 (184) (by omega)).trans hk8
    have ho21 : ∀ a, a ≠ 7 → a ≠ 10 → ra_g s12 179 a = ra_g σ 179 a := fun a h7 h10 => ((fun a h7 h10 => he14 a h7) a h7 h10).trans (ho9 a h7 h10)
    refine ra_ifeq rfl rfl (by first | omega | (unfold ra_in at *; omega)) (fun h22 => ?_) (fun h22 => ?_)
    · refine ra_iconst rfl ?_
      refine ra_store (L' := [_, _, _, _]) rfl rfl rfl (Nat.le_of_ble_eq_true rfl) rfl ?_
      refine ra_iconst rfl ?_
      refine ra_store (L' := [_, _, _, _]) rfl rfl rfl (Nat.le_of_ble_eq_true rfl) rfl ?_
      exact ra_weak (by repeat' constructor) (lp_294_36 hx0 hw _ (0) (0) s12 (by first | omega | (unfold ra_in at *; omega)) (by first | omega | (unfold ra_in at *; omega)) (by first | omega | (unfold ra_in at *; omega)) hF15 hk16 hk17 hk18 hk19 hk20 ho21 (Nat.lt_succ_self _))
    · exact absurd h22 (by decide)
  · refine ra_iconst rfl ?_
    refine ra_goto rfl rfl ?_
    refine ra_iconst rfl ?_
    refine ra_cT (sp_193 (Or.inr rfl) (by first | omega | (unfold ra_in at *; omega))) rfl (ct_193 rfl lk_8_303 (Or.inl rfl) sh_179 (Nat.le_of_ble_eq_true rfl)) (fun s35 hs35 => ?_)
    obtain ⟨hf36, he37⟩ := hs35
    have hF38 := Fr_tr (lo := 179) (hi := 187) hF3 hf36 (by omega)
    have hk39 : s35 (180) = σ (180) := (hf36 (180) (by omega)).trans hk4
    have hk40 : s35 (181) = σ (181) := (hf36 (181) (by omega)).trans hk5
    have hk41 : s35 (182) = σ (182) := (hf36 (182) (by omega)).trans hk6
    have hk42 : s35 (183) = σ (183) := (hf36 (183) (by omega)).trans hk7
    have hk43 : s35 (184) = σ (184) := (hf36 (184) (by omega)).trans hk8
    have ho44 : ∀ a, a ≠ 7 → a ≠ 10 → ra_g s35 179 a = ra_g σ 179 a := fun a h7 h10 => ((fun a h7 h10 => he37 a h7) a h7 h10).trans (ho9 a h7 h10)
    refine ra_ifeq rfl rfl (by first | omega | (unfold ra_in at *; omega)) (fun h45 => ?_) (fun h45 => ?_)
    · exact absurd h45 (by decide)
    · refine ra_iconst rfl ?_
      exact ra_ireturn rfl rfl ⟨⟨_, (by first | omega | (unfold ra_in at *; omega)), rfl⟩, ⟨hF38, hk39, hk40, hk41, hk42, hk43, ho44⟩⟩
theorem lp_287_10 {n : Nat} {f : Nat → Int32} {d : Nat} {x0 : Int} {x1 : Int} {σ : ra_V} (hx0 : ra_in x0) (hx1 : ra_in x1) (hw : WF σ) : ∀ (nn : Nat) (v3 : Int) (v4 : Int) (s : ra_V) (hv3 : ra_in v3) (hv4_0 : 0 ≤ v4) (hv4_1 : v4 ≤ 8) (hF : Fr (179) (187) σ s) (hk0 : s (180) = σ (180)) (hk1 : s (181) = σ (181)) (hk2 : s (182) = σ (182)) (hk3 : s (183) = σ (183)) (hk4 : s (184) = σ (184)) (hoo : ∀ a, a ≠ 7 → a ≠ 10 → ra_g s 179 a = ra_g σ 179 a) (hm : ((8 - v4 : Int)).toNat < nn), ra_P (g_Gs n f) g_sh 0 (d + 1) g_m_X8_overlapped 10 [some (.index (179)), some (ra_I x0), some (ra_I x1), some (ra_I v3), some (ra_I v4)] [] s (fun r s => rI r ∧ Fr (179) (187) σ s ∧ s (180) = σ (180) ∧ s (181) = σ (181) ∧ s (182) = σ (182) ∧ s (183) = σ (183) ∧ s (184) = σ (184) ∧ (∀ a, a ≠ 7 → a ≠ 10 → ra_g s 179 a = ra_g σ 179 a)) := by
  intro nn
  induction nn with
  | zero => intro v3 v4 s hv3 hv4_0 hv4_1 hF hk0 hk1 hk2 hk3 hk4 hoo hm; exact absurd hm (Nat.not_lt_zero _)
  | succ nn ih =>
    intro v3 v4 s hv3 hv4_0 hv4_1 hF hk0 hk1 hk2 hk3 hk4 hoo hm
    refine ra_load rfl rfl rfl rfl ?_
    refine ra_bipush rfl (by decide) ?_
    refine ra_icge rfl rfl (by first | omega | (unfold ra_in at *; omega)) (by first | omega | (unfold ra_in at *; omega)) (fun h10 => ?_) (fun h10 => ?_)
    · refine ra_load rfl rfl rfl rfl ?_
      exact ra_ireturn rfl rfl ⟨⟨_, hv3, rfl⟩, ⟨hF, hk0, hk1, hk2, hk3, hk4, hoo⟩⟩
    · refine ra_load rfl rfl rfl rfl ?_
      refine ra_ifle rfl rfl hx1 (fun h11 => ?_) (fun h11 => ?_)
      · refine ra_load rfl rfl rfl rfl ?_
        exact ra_ireturn rfl rfl ⟨⟨_, hv3, rfl⟩, ⟨hF, hk0, hk1, hk2, hk3, hk4, hoo⟩⟩
      · refine ra_load rfl rfl rfl rfl ?_
        refine ra_load rfl rfl rfl rfl ?_
        refine ra_load rfl rfl rfl rfl ?_
        refine ra_iconst rfl ?_
        refine ra_cTp (sp_199 (by first | omega | (unfold ra_in at *; omega)) (by first | omega | (unfold ra_in at *; omega)) (by first | assumption | rfl | omega)) rfl (ct_199 rfl lk_8_67 (Or.inl rfl) sh_179 (Nat.le_of_ble_eq_true rfl)) ?_
        rw [wq_k hk0]
        have hr13 : ra_in (wq σ v4 (0)) := (ra_in_wq _ _ _)
        refine ra_iconst rfl ?_
        refine ra_icne rfl rfl hr13 (by first | omega | (unfold ra_in at *; omega)) (fun h14 => ?_) (fun h14 => ?_)
        · refine ra_iconst rfl ?_
          refine ra_ior rfl ?_
          refine ra_store (L' := [_, _, _, _, _]) rfl rfl rfl (Nat.le_of_ble_eq_true rfl) rfl ?_
          refine ra_iinc (L' := [_, _, _, _, _]) rfl rfl (Nat.le_of_ble_eq_true rfl) rfl ?_
          refine ra_goto rfl rfl ?_
          exact ra_weak (by repeat' constructor) (ih (ra_op .ior v3 (0)) (v4 + 1) s (ra_in_op _ _ _) (by first | omega | (unfold ra_in at *; omega)) (by first | omega | (unfold ra_in at *; omega)) hF hk0 hk1 hk2 hk3 hk4 hoo (by first | omega | (unfold ra_in at *; omega)))
        · refine ra_load rfl rfl rfl rfl ?_
          refine ra_i2l rfl hx0 ?_
          refine ra_load rfl rfl rfl rfl ?_
          refine ra_i2l rfl hx1 ?_
          refine ra_load rfl rfl rfl rfl ?_
          refine ra_load rfl rfl rfl rfl ?_
          refine ra_iconst rfl ?_
          refine ra_cTp (sp_199 (by first | omega | (unfold ra_in at *; omega)) (by first | omega | (unfold ra_in at *; omega)) (by first | assumption | rfl | omega)) rfl (ct_199 rfl lk_8_67 (Or.inl rfl) sh_179 (Nat.le_of_ble_eq_true rfl)) ?_
          rw [wq_k hk0]
          have hr16 : ra_in (wq σ v4 (1)) := (ra_in_wq _ _ _)
          refine ra_i2l rfl hr16 ?_
          refine ra_load rfl rfl rfl rfl ?_
          refine ra_load rfl rfl rfl rfl ?_
          refine ra_iconst rfl ?_
          refine ra_cTp (sp_199 (by first | omega | (unfold ra_in at *; omega)) (by first | omega | (unfold ra_in at *; omega)) (by first | assumption | rfl | omega)) rfl (ct_199 rfl lk_8_67 (Or.inl rfl) sh_179 (Nat.le_of_ble_eq_true rfl)) ?_
          rw [wq_k hk0]
          have hr18 : ra_in (wq σ v4 (2)) := (ra_in_wq _ _ _)
          refine ra_i2l rfl hr18 ?_
          refine ra_cTp (sp_211 hx0 hx1 hr16 hr18) rfl (ct_211 rfl lk_8_86 (Or.inl rfl) (Nat.le_of_ble_eq_true rfl)) ?_
          refine ra_ifeqB rfl rfl (fun h20 => ?_) (fun h20 => ?_)
          · refine ra_iconst rfl ?_
            refine ra_ior rfl ?_
            refine ra_store (L' := [_, _, _, _, _]) rfl rfl rfl (Nat.le_of_ble_eq_true rfl) rfl ?_
            refine ra_iinc (L' := [_, _, _, _, _]) rfl rfl (Nat.le_of_ble_eq_true rfl) rfl ?_
            refine ra_goto rfl rfl ?_
            exact ra_weak (by repeat' constructor) (ih (ra_op .ior v3 (0)) (v4 + 1) s (ra_in_op _ _ _) (by first | omega | (unfold ra_in at *; omega)) (by first | omega | (unfold ra_in at *; omega)) hF hk0 hk1 hk2 hk3 hk4 hoo (by first | omega | (unfold ra_in at *; omega)))
          · refine ra_iconst rfl ?_
            refine ra_load rfl rfl rfl rfl ?_
            refine ra_ishl rfl ?_
            refine ra_goto rfl rfl ?_
            refine ra_ior rfl ?_
            refine ra_store (L' := [_, _, _, _, _]) rfl rfl rfl (Nat.le_of_ble_eq_true rfl) rfl ?_
            refine ra_iinc (L' := [_, _, _, _, _]) rfl rfl (Nat.le_of_ble_eq_true rfl) rfl ?_
            refine ra_goto rfl rfl ?_
            exact ra_weak (by repeat' constructor) (ih (ra_op .ior v3 (ra_op .ishl (1) v4)) (v4 + 1) s (ra_in_op _ _ _) (by first | omega | (unfold ra_in at *; omega)) (by first | omega | (unfold ra_in at *; omega)) hF hk0 hk1 hk2 hk3 hk4 hoo (by first | omega | (unfold ra_in at *; omega)))
theorem sp_287 {n : Nat} {f : Nat → Int32} {d : Nat} {x0 : Int} {x1 : Int} {σ : ra_V} (hx0 : ra_in x0) (hx1 : ra_in x1) (hw : WF σ) : ra_C (g_Gs n f) g_sh 0 (d + 2) 287 [.index (179), ra_I x0, ra_I x1] σ (fun r s => rI r ∧ Fr (179) (187) σ s ∧ s (180) = σ (180) ∧ s (181) = σ (181) ∧ s (182) = σ (182) ∧ s (183) = σ (183) ∧ s (184) = σ (184) ∧ (∀ a, a ≠ 7 → a ≠ 10 → ra_g s 179 a = ra_g σ 179 a)) := by
  refine ra_enter (nn := 2) mt_287 rfl (Nat.le_of_ble_eq_true rfl) rfl (fun h => absurd h (by decide +kernel)) ?_
  have hw0 := WF_a hw
  unfold WFa at hw0
  refine ra_load rfl rfl rfl rfl ?_
  refine ra_iconst rfl ?_
  refine ra_putI rfl lk_8_51 (Nat.zero_le _) sh_179 rfl rfl ?_
  refine ra_newU (by first | omega | (unfold ra_in at *; omega)) (fun s1 hs1 hp2 hp2o => ?_)
  have hp2_99 := hp2o 99 (by decide)
  have hF3 := Fr_tr (lo := 179) (hi := 187) Fr_rf hs1 (by omega)
  have hk4 : s1 (180) = σ (180) := (hs1 (180) (by omega))
  have hk5 : s1 (181) = σ (181) := (hs1 (181) (by omega))
  have hk6 : s1 (182) = σ (182) := (hs1 (182) (by omega))
  have hk7 : s1 (183) = σ (183) := (hs1 (183) (by omega))
  have hk8 : s1 (184) = σ (184) := (hs1 (184) (by omega))
  have ho9 : ∀ a, a ≠ 7 → a ≠ 10 → ra_g s1 179 a = ra_g σ 179 a := fun a h7 h10 => ((fun a h7 h10 => hp2o a h7) a h7 h10).trans ((fun _ _ _ => rfl) a h7 h10)
  refine ra_iconst rfl ?_
  refine ra_store (L' := [_, _, _, _, _]) rfl rfl rfl (Nat.le_of_ble_eq_true rfl) rfl ?_
  refine ra_iconst rfl ?_
  refine ra_store (L' := [_, _, _, _, _]) rfl rfl rfl (Nat.le_of_ble_eq_true rfl) rfl ?_
  exact ra_weak (by repeat' constructor) (lp_287_10 hx0 hx1 hw _ (0) (0) s1 (by first | omega | (unfold ra_in at *; omega)) (by first | omega | (unfold ra_in at *; omega)) (by first | omega | (unfold ra_in at *; omega)) hF3 hk4 hk5 hk6 hk7 hk8 ho9 (Nat.lt_succ_self _))
end RB
