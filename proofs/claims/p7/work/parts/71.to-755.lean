section
/-! the reference: what its methods do (printed by wip/gen/ref.py) -/
section RB
theorem sp_303 {n : Nat} {f : Nat → Int32} {d : Nat} {x0 : Int} {x1 : Int} {σ : ra_V} (hx0 : ra_in x0) (hx1 : ra_in x1) (hw : WF σ) : ra_C (g_Gs n f) g_sh 0 (d + 6) 303 [.index (179), ra_I x0, ra_I x1] σ (fun r s => rI r ∧ Fr (179) (187) σ s ∧ s (180) = σ (180) ∧ s (181) = σ (181) ∧ s (182) = σ (182) ∧ s (183) = σ (183) ∧ s (184) = σ (184) ∧ (∀ a, a ≠ 7 → a ≠ 10 → ra_g s 179 a = ra_g σ 179 a)) := by
  refine ra_enter (nn := 0) mt_303 rfl (Nat.le_of_ble_eq_true rfl) rfl (fun h => absurd h (by decide +kernel)) ?_
  have hw0 := WF_a hw
  unfold WFa at hw0
  refine ra_load rfl rfl rfl rfl ?_
  refine ra_iconst rfl ?_
  refine ra_putI rfl lk_8_51 (Nat.zero_le _) sh_179 rfl rfl ?_
  refine ra_newU (by first | omega | (unfold ra_in at *; omega)) (fun s1 hs1 hp2 hp2o => ?_)
  have hp2_99 := hp2o 99 (by decide)
  have hF3 := Fr_tr (lo := 179) (hi := 187) Fr_rf hs1 (by omega)
  have hk4 : s1 (180) = σ (180) := (hs1 (180) (by omega))
  have hk5 : s1 (181) = σ (181) := (hs1 (181) (by omega))
  have hk6 : s1 (182) = σ (182) := (hs1 (182) (by omega))
  have hk7 : s1 (183) = σ (183) := (hs1 (183) (by omega))
  have hk8 : s1 (184) = σ (184) := (hs1 (184) (by omega))
  have ho9 : ∀ a, a ≠ 7 → a ≠ 10 → ra_g s1 179 a = ra_g σ 179 a := fun a h7 h10 => ((fun a h7 h10 => hp2o a h7) a h7 h10).trans ((fun _ _ _ => rfl) a h7 h10)
  refine ra_load rfl rfl rfl rfl ?_
  refine ra_load rfl rfl rfl rfl ?_
  refine ra_iconst rfl ?_
  refine ra_cQP (sp_268 hx0 (by first | omega | (unfold ra_in at *; omega))) rfl (ct_268 rfl lk_8_318 (Or.inl rfl) sh_179 (Nat.le_of_ble_eq_true rfl)) (fun z11 s10 hz11 hz11p hs10 => ?_)
  rw [wq_k hk4] at hz11p
  obtain ⟨hf12, he13⟩ := hs10
  have hF14 := Fr_tr (lo := 179) (hi := 187) hF3 hf12 (by omega)
  have hk15 : s10 (180) = σ (180) := (hf12 (180) (by omega)).trans hk4
  have hk16 : s10 (181) = σ (181) := (hf12 (181) (by omega)).trans hk5
  have hk17 : s10 (182) = σ (182) := (hf12 (182) (by omega)).trans hk6
  have hk18 : s10 (183) = σ (183) := (hf12 (183) (by omega)).trans hk7
  have hk19 : s10 (184) = σ (184) := (hf12 (184) (by omega)).trans hk8
  have ho20 : ∀ a, a ≠ 7 → a ≠ 10 → ra_g s10 179 a = ra_g σ 179 a := fun a h7 h10 => ((fun a h7 h10 => he13 a h7) a h7 h10).trans (ho9 a h7 h10)
  refine ra_ifeq rfl rfl (ra_in01 hz11) (fun h21 => ?_) (fun h21 => ?_)
  · refine ra_load rfl rfl rfl rfl ?_
    refine ra_load rfl rfl rfl rfl ?_
    refine ra_load rfl rfl rfl rfl ?_
    refine ra_cIPp (sp_302 hx0 hx1 (WF_k hk15 hw) (sp_k hk15 rfl (hz11p (by omega)))) rfl (ct_302 rfl lk_8_372 (Or.inl rfl) sh_179 (Nat.le_of_ble_eq_true rfl)) (fun z23 hz23 hz23p => ?_)
    exact ra_ireturn rfl rfl ⟨⟨_, hz23, rfl⟩, ⟨hF14, hk15, hk16, hk17, hk18, hk19, ho20⟩⟩
  · refine ra_iconst rfl ?_
    refine ra_goto rfl rfl ?_
    exact ra_ireturn rfl rfl ⟨⟨_, (by first | omega | (unfold ra_in at *; omega)), rfl⟩, ⟨hF14, hk15, hk16, hk17, hk18, hk19, ho20⟩⟩
theorem sp_316 {n : Nat} {f : Nat → Int32} {d : Nat} {x0 : Int} {x1 : Int} {σ : ra_V} (hx0 : ra_in x0) (hx1 : ra_in x1) (hw : WF σ) : ra_C (g_Gs n f) g_sh 0 (d + 5) 316 [.index (179), ra_I x0, ra_I x1] σ (fun r s => rI r ∧ Fr (179) (187) σ s ∧ s (180) = σ (180) ∧ s (181) = σ (181) ∧ s (182) = σ (182) ∧ s (183) = σ (183) ∧ s (184) = σ (184) ∧ (∀ a, a ≠ 7 → a ≠ 10 → ra_g s 179 a = ra_g σ 179 a)) := by
  refine ra_enter (nn := 0) mt_316 rfl (Nat.le_of_ble_eq_true rfl) rfl (fun h => absurd h (by decide +kernel)) ?_
  have hw0 := WF_a hw
  unfold WFa at hw0
  refine ra_load rfl rfl rfl rfl ?_
  refine ra_iconst rfl ?_
  refine ra_putI rfl lk_8_51 (Nat.zero_le _) sh_179 rfl rfl ?_
  refine ra_newU (by first | omega | (unfold ra_in at *; omega)) (fun s1 hs1 hp2 hp2o => ?_)
  have hp2_99 := hp2o 99 (by decide)
  have hF3 := Fr_tr (lo := 179) (hi := 187) Fr_rf hs1 (by omega)
  have hk4 : s1 (180) = σ (180) := (hs1 (180) (by omega))
  have hk5 : s1 (181) = σ (181) := (hs1 (181) (by omega))
  have hk6 : s1 (182) = σ (182) := (hs1 (182) (by omega))
  have hk7 : s1 (183) = σ (183) := (hs1 (183) (by omega))
  have hk8 : s1 (184) = σ (184) := (hs1 (184) (by omega))
  have ho9 : ∀ a, a ≠ 7 → a ≠ 10 → ra_g s1 179 a = ra_g σ 179 a := fun a h7 h10 => ((fun a h7 h10 => hp2o a h7) a h7 h10).trans ((fun _ _ _ => rfl) a h7 h10)
  refine ra_load rfl rfl rfl rfl ?_
  refine ra_load rfl rfl rfl rfl ?_
  refine ra_iconst rfl ?_
  refine ra_cQP (sp_268 hx0 (by first | omega | (unfold ra_in at *; omega))) rfl (ct_268 rfl lk_8_318 (Or.inl rfl) sh_179 (Nat.le_of_ble_eq_true rfl)) (fun z11 s10 hz11 hz11p hs10 => ?_)
  rw [wq_k hk4] at hz11p
  obtain ⟨hf12, he13⟩ := hs10
  have hF14 := Fr_tr (lo := 179) (hi := 187) hF3 hf12 (by omega)
  have hk15 : s10 (180) = σ (180) := (hf12 (180) (by omega)).trans hk4
  have hk16 : s10 (181) = σ (181) := (hf12 (181) (by omega)).trans hk5
  have hk17 : s10 (182) = σ (182) := (hf12 (182) (by omega)).trans hk6
  have hk18 : s10 (183) = σ (183) := (hf12 (183) (by omega)).trans hk7
  have hk19 : s10 (184) = σ (184) := (hf12 (184) (by omega)).trans hk8
  have ho20 : ∀ a, a ≠ 7 → a ≠ 10 → ra_g s10 179 a = ra_g σ 179 a := fun a h7 h10 => ((fun a h7 h10 => he13 a h7) a h7 h10).trans (ho9 a h7 h10)
  refine ra_ifeq rfl rfl (ra_in01 hz11) (fun h21 => ?_) (fun h21 => ?_)
  · refine ra_load rfl rfl rfl rfl ?_
    refine ra_load rfl rfl rfl rfl ?_
    refine ra_load rfl rfl rfl rfl ?_
    refine ra_cIPp (sp_224 hx0 hx1 (WF_k hk15 hw) (sp_k hk15 rfl (hz11p (by omega)))) rfl (ct_224 rfl lk_8_183 (Or.inl rfl) sh_179 (Nat.le_of_ble_eq_true rfl)) (fun z23 hz23 hz23p => ?_)
    exact ra_ireturn rfl rfl ⟨⟨_, hz23, rfl⟩, ⟨hF14, hk15, hk16, hk17, hk18, hk19, ho20⟩⟩
  · refine ra_iconst rfl ?_
    refine ra_goto rfl rfl ?_
    exact ra_ireturn rfl rfl ⟨⟨_, (by first | omega | (unfold ra_in at *; omega)), rfl⟩, ⟨hF14, hk15, hk16, hk17, hk18, hk19, ho20⟩⟩
theorem sp_327 {n : Nat} {f : Nat → Int32} {d : Nat} {x0 : Int} {σ : ra_V} (hx0 : ra_in x0) (hw : WF σ) : ra_C (g_Gs n f) g_sh 0 (d + 6) 327 [.index (179), ra_I x0] σ (fun r s => rI r ∧ Fr (179) (187) σ s ∧ s (180) = σ (180) ∧ s (181) = σ (181) ∧ s (182) = σ (182) ∧ s (183) = σ (183) ∧ s (184) = σ (184) ∧ (∀ a, a ≠ 7 → a ≠ 10 → ra_g s 179 a = ra_g σ 179 a)) := by
  refine ra_enter (nn := 0) mt_327 rfl (Nat.le_of_ble_eq_true rfl) rfl (fun h => absurd h (by decide +kernel)) ?_
  have hw0 := WF_a hw
  unfold WFa at hw0
  refine ra_load rfl rfl rfl rfl ?_
  refine ra_iconst rfl ?_
  refine ra_putI rfl lk_8_51 (Nat.zero_le _) sh_179 rfl rfl ?_
  refine ra_newU (by first | omega | (unfold ra_in at *; omega)) (fun s1 hs1 hp2 hp2o => ?_)
  have hp2_99 := hp2o 99 (by decide)
  have hF3 := Fr_tr (lo := 179) (hi := 187) Fr_rf hs1 (by omega)
  have hk4 : s1 (180) = σ (180) := (hs1 (180) (by omega))
  have hk5 : s1 (181) = σ (181) := (hs1 (181) (by omega))
  have hk6 : s1 (182) = σ (182) := (hs1 (182) (by omega))
  have hk7 : s1 (183) = σ (183) := (hs1 (183) (by omega))
  have hk8 : s1 (184) = σ (184) := (hs1 (184) (by omega))
  have ho9 : ∀ a, a ≠ 7 → a ≠ 10 → ra_g s1 179 a = ra_g σ 179 a := fun a h7 h10 => ((fun a h7 h10 => hp2o a h7) a h7 h10).trans ((fun _ _ _ => rfl) a h7 h10)
  refine ra_load rfl rfl rfl rfl ?_
  refine ra_load rfl rfl rfl rfl ?_
  refine ra_iconst rfl ?_
  refine ra_cQP (sp_268 hx0 (by first | omega | (unfold ra_in at *; omega))) rfl (ct_268 rfl lk_8_318 (Or.inl rfl) sh_179 (Nat.le_of_ble_eq_true rfl)) (fun z11 s10 hz11 hz11p hs10 => ?_)
  rw [wq_k hk4] at hz11p
  obtain ⟨hf12, he13⟩ := hs10
  have hF14 := Fr_tr (lo := 179) (hi := 187) hF3 hf12 (by omega)
  have hk15 : s10 (180) = σ (180) := (hf12 (180) (by omega)).trans hk4
  have hk16 : s10 (181) = σ (181) := (hf12 (181) (by omega)).trans hk5
  have hk17 : s10 (182) = σ (182) := (hf12 (182) (by omega)).trans hk6
  have hk18 : s10 (183) = σ (183) := (hf12 (183) (by omega)).trans hk7
  have hk19 : s10 (184) = σ (184) := (hf12 (184) (by omega)).trans hk8
  have ho20 : ∀ a, a ≠ 7 → a ≠ 10 → ra_g s10 179 a = ra_g σ 179 a := fun a h7 h10 => ((fun a h7 h10 => he13 a h7) a h7 h10).trans (ho9 a h7 h10)
  refine ra_ifeq rfl rfl (ra_in01 hz11) (fun h21 => ?_) (fun h21 => ?_)
  · refine ra_load rfl rfl rfl rfl ?_
    refine ra_load rfl rfl rfl rfl ?_
    refine ra_cIPp (sp_244 hx0 (WF_k hk15 hw) (sp_k hk15 rfl (hz11p (by omega)))) rfl (ct_244 rfl lk_8_404 (Or.inl rfl) sh_179 (Nat.le_of_ble_eq_true rfl)) (fun z23 hz23 hz23p => ?_)
    exact ra_ireturn rfl rfl ⟨⟨_, hz23, rfl⟩, ⟨hF14, hk15, hk16, hk17, hk18, hk19, ho20⟩⟩
  · refine ra_iconst rfl ?_
    refine ra_goto rfl rfl ?_
    exact ra_ireturn rfl rfl ⟨⟨_, (by first | omega | (unfold ra_in at *; omega)), rfl⟩, ⟨hF14, hk15, hk16, hk17, hk18, hk19, ho20⟩⟩
theorem sp_328 {n : Nat} {f : Nat → Int32} {d : Nat} {x0 : Int} {σ : ra_V} (hx0 : ra_in x0) (hw : WF σ) : ra_C (g_Gs n f) g_sh 0 (d + 6) 328 [.index (179), ra_I x0] σ (fun r s => rI r ∧ Fr (179) (187) σ s ∧ s (180) = σ (180) ∧ s (181) = σ (181) ∧ s (182) = σ (182) ∧ s (183) = σ (183) ∧ s (184) = σ (184) ∧ (∀ a, a ≠ 7 → a ≠ 10 → ra_g s 179 a = ra_g σ 179 a)) := by
  refine ra_enter (nn := 0) mt_328 rfl (Nat.le_of_ble_eq_true rfl) rfl (fun h => absurd h (by decide +kernel)) ?_
  have hw0 := WF_a hw
  unfold WFa at hw0
  refine ra_load rfl rfl rfl rfl ?_
  refine ra_iconst rfl ?_
  refine ra_putI rfl lk_8_51 (Nat.zero_le _) sh_179 rfl rfl ?_
  refine ra_newU (by first | omega | (unfold ra_in at *; omega)) (fun s1 hs1 hp2 hp2o => ?_)
  have hp2_99 := hp2o 99 (by decide)
  have hF3 := Fr_tr (lo := 179) (hi := 187) Fr_rf hs1 (by omega)
  have hk4 : s1 (180) = σ (180) := (hs1 (180) (by omega))
  have hk5 : s1 (181) = σ (181) := (hs1 (181) (by omega))
  have hk6 : s1 (182) = σ (182) := (hs1 (182) (by omega))
  have hk7 : s1 (183) = σ (183) := (hs1 (183) (by omega))
  have hk8 : s1 (184) = σ (184) := (hs1 (184) (by omega))
  have ho9 : ∀ a, a ≠ 7 → a ≠ 10 → ra_g s1 179 a = ra_g σ 179 a := fun a h7 h10 => ((fun a h7 h10 => hp2o a h7) a h7 h10).trans ((fun _ _ _ => rfl) a h7 h10)
  refine ra_load rfl rfl rfl rfl ?_
  refine ra_load rfl rfl rfl rfl ?_
  refine ra_iconst rfl ?_
  refine ra_cQP (sp_268 hx0 (by first | omega | (unfold ra_in at *; omega))) rfl (ct_268 rfl lk_8_318 (Or.inl rfl) sh_179 (Nat.le_of_ble_eq_true rfl)) (fun z11 s10 hz11 hz11p hs10 => ?_)
  rw [wq_k hk4] at hz11p
  obtain ⟨hf12, he13⟩ := hs10
  have hF14 := Fr_tr (lo := 179) (hi := 187) hF3 hf12 (by omega)
  have hk15 : s10 (180) = σ (180) := (hf12 (180) (by omega)).trans hk4
  have hk16 : s10 (181) = σ (181) := (hf12 (181) (by omega)).trans hk5
  have hk17 : s10 (182) = σ (182) := (hf12 (182) (by omega)).trans hk6
  have hk18 : s10 (183) = σ (183) := (hf12 (183) (by omega)).trans hk7
  have hk19 : s10 (184) = σ (184) := (hf12 (184) (by omega)).trans hk8
  have ho20 : ∀ a, a ≠ 7 → a ≠ 10 → ra_g s10 179 a = ra_g σ 179 a := fun a h7 h10 => ((fun a h7 h10 => he13 a h7) a h7 h10).trans (ho9 a h7 h10)
  refine ra_ifeq rfl rfl (ra_in01 hz11) (fun h21 => ?_) (fun h21 => ?_)
  · refine ra_load rfl rfl rfl rfl ?_
    refine ra_load rfl rfl rfl rfl ?_
    refine ra_cIPp (sp_245 hx0 (WF_k hk15 hw) (sp_k hk15 rfl (hz11p (by omega)))) rfl (ct_245 rfl lk_8_407 (Or.inl rfl) sh_179 (Nat.le_of_ble_eq_true rfl)) (fun z23 hz23 hz23p => ?_)
    exact ra_ireturn rfl rfl ⟨⟨_, hz23, rfl⟩, ⟨hF14, hk15, hk16, hk17, hk18, hk19, ho20⟩⟩
  · refine ra_iconst rfl ?_
    refine ra_goto rfl rfl ?_
    exact ra_ireturn rfl rfl ⟨⟨_, (by first | omega | (unfold ra_in at *; omega)), rfl⟩, ⟨hF14, hk15, hk16, hk17, hk18, hk19, ho20⟩⟩
theorem sp_276 {n : Nat} {f : Nat → Int32} {d : Nat} {x0 : Int} {σ : ra_V} (hx0 : ra_in x0) (hw : WF σ) : ra_C (g_Gs n f) g_sh 0 (d + 7) 276 [.index (179), ra_I x0] σ (fun r s => rB r ∧ Fr (179) (187) σ s ∧ s (180) = σ (180) ∧ s (181) = σ (181) ∧ s (182) = σ (182) ∧ s (183) = σ (183) ∧ s (184) = σ (184) ∧ (∀ a, a ≠ 7 → a ≠ 10 → ra_g s 179 a = ra_g σ 179 a)) := by
  refine ra_enter (nn := 0) mt_276 rfl (Nat.le_of_ble_eq_true rfl) rfl (fun h => absurd h (by decide +kernel)) ?_
  have hw0 := WF_a hw
  unfold WFa at hw0
  refine ra_load rfl rfl rfl rfl ?_
  refine ra_iconst rfl ?_
  refine ra_putI rfl lk_8_51 (Nat.zero_le _) sh_179 rfl rfl ?_
  refine ra_newU (by first | omega | (unfold ra_in at *; omega)) (fun s1 hs1 hp2 hp2o => ?_)
  have hp2_99 := hp2o 99 (by decide)
  have hF3 := Fr_tr (lo := 179) (hi := 187) Fr_rf hs1 (by omega)
  have hk4 : s1 (180) = σ (180) := (hs1 (180) (by omega))
  have hk5 : s1 (181) = σ (181) := (hs1 (181) (by omega))
  have hk6 : s1 (182) = σ (182) := (hs1 (182) (by omega))
  have hk7 : s1 (183) = σ (183) := (hs1 (183) (by omega))
  have hk8 : s1 (184) = σ (184) := (hs1 (184) (by omega))
  have ho9 : ∀ a, a ≠ 7 → a ≠ 10 → ra_g s1 179 a = ra_g σ 179 a := fun a h7 h10 => ((fun a h7 h10 => hp2o a h7) a h7 h10).trans ((fun _ _ _ => rfl) a h7 h10)
  refine ra_load rfl rfl rfl rfl ?_
  refine ra_load rfl rfl rfl rfl ?_
  refine ra_iconst rfl ?_
  refine ra_cQP (sp_268 hx0 (by first | omega | (unfold ra_in at *; omega))) rfl (ct_268 rfl lk_8_318 (Or.inl rfl) sh_179 (Nat.le_of_ble_eq_true rfl)) (fun z11 s10 hz11 hz11p hs10 => ?_)
  rw [wq_k hk4] at hz11p
  obtain ⟨hf12, he13⟩ := hs10
  have hF14 := Fr_tr (lo := 179) (hi := 187) hF3 hf12 (by omega)
  have hk15 : s10 (180) = σ (180) := (hf12 (180) (by omega)).trans hk4
  have hk16 : s10 (181) = σ (181) := (hf12 (181) (by omega)).trans hk5
  have hk17 : s10 (182) = σ (182) := (hf12 (182) (by omega)).trans hk6
  have hk18 : s10 (183) = σ (183) := (hf12 (183) (by omega)).trans hk7
  have hk19 : s10 (184) = σ (184) := (hf12 (184) (by omega)).trans hk8
  have ho20 : ∀ a, a ≠ 7 → a ≠ 10 → ra_g s10 179 a = ra_g σ 179 a := fun a h7 h10 => ((fun a h7 h10 => he13 a h7) a h7 h10).trans (ho9 a h7 h10)
  refine ra_ifne rfl rfl (ra_in01 hz11) (fun h21 => ?_) (fun h21 => ?_)
  · refine ra_iconst rfl ?_
    exact ra_ireturn rfl (ra_okB (Or.inl rfl)) ⟨⟨_, (Or.inl rfl), rfl⟩, ⟨hF14, hk15, hk16, hk17, hk18, hk19, ho20⟩⟩
  · refine ra_load rfl rfl rfl rfl ?_
    refine ra_load rfl rfl rfl rfl ?_
    refine ra_cBp (sp_275 hx0 (WF_k hk15 hw) (sp_k hk15 rfl (hz11p (by omega)))) rfl (ct_275 rfl lk_8_330 (Or.inl rfl) sh_179 (Nat.le_of_ble_eq_true rfl)) (fun z23 hz23 => ?_)
    refine ra_ifeq rfl rfl (ra_in01 hz23) (fun h24 => ?_) (fun h24 => ?_)
    · refine ra_iconst rfl ?_
      exact ra_ireturn rfl (ra_okB (Or.inl rfl)) ⟨⟨_, (Or.inl rfl), rfl⟩, ⟨hF14, hk15, hk16, hk17, hk18, hk19, ho20⟩⟩
    · refine ra_iconst rfl ?_
      refine ra_goto rfl rfl ?_
      exact ra_ireturn rfl (ra_okB (Or.inr rfl)) ⟨⟨_, (Or.inr rfl), rfl⟩, ⟨hF14, hk15, hk16, hk17, hk18, hk19, ho20⟩⟩
theorem sp_339 {n : Nat} {f : Nat → Int32} {d : Nat} {x0 : Int} {σ : ra_V} (hx0 : ra_in x0) (hw : WF σ) (ho : 0 ≤ ra_g σ 179 25 ∧ ra_g σ 179 25 ≤ 150) : ra_C (g_Gs n f) g_sh 0 (d + 2) 339 [.index (179), ra_I x0] σ (fun r s => rI r ∧ Fr (179) (187) σ s ∧ s (180) = σ (180) ∧ s (181) = σ (181) ∧ s (182) = σ (182) ∧ s (183) = σ (183) ∧ s (184) = σ (184) ∧ (∀ a, a ≠ 7 → a ≠ 10 → ra_g s 179 a = ra_g σ 179 a)) := by
  refine ra_enter (nn := 0) mt_339 rfl (Nat.le_of_ble_eq_true rfl) rfl (fun h => absurd h (by decide +kernel)) ?_
  have hw0 := WF_a hw
  unfold WFa at hw0
  refine ra_load rfl rfl rfl rfl ?_
  refine ra_iconst rfl ?_
  refine ra_putI rfl lk_8_51 (Nat.zero_le _) sh_179 rfl rfl ?_
  refine ra_newU (by first | omega | (unfold ra_in at *; omega)) (fun s1 hs1 hp2 hp2o => ?_)
  have hp2_25 := hp2o 25 (by decide)
  have hF3 := Fr_tr (lo := 179) (hi := 187) Fr_rf hs1 (by omega)
  have hk4 : s1 (180) = σ (180) := (hs1 (180) (by omega))
  have hk5 : s1 (181) = σ (181) := (hs1 (181) (by omega))
  have hk6 : s1 (182) = σ (182) := (hs1 (182) (by omega))
  have hk7 : s1 (183) = σ (183) := (hs1 (183) (by omega))
  have hk8 : s1 (184) = σ (184) := (hs1 (184) (by omega))
  have ho9 : ∀ a, a ≠ 7 → a ≠ 10 → ra_g s1 179 a = ra_g σ 179 a := fun a h7 h10 => ((fun a h7 h10 => hp2o a h7) a h7 h10).trans ((fun _ _ _ => rfl) a h7 h10)
  refine ra_load rfl rfl rfl rfl ?_
  refine ra_i2l rfl hx0 ?_
  refine ra_lconst0 rfl ?_
  refine ra_load rfl rfl rfl rfl ?_
  refine ra_getI rfl lk_8_427 (Nat.zero_le _) sh_179 rfl ?_
  have hr10 : ra_in (ra_g s1 (179) 25) := (ra_in_g _ _ _)
  refine ra_iconst rfl ?_
  refine ra_isub rfl ?_
  refine ra_i2l rfl (by first | omega | (unfold ra_in at *; omega)) ?_
  refine ra_cTp (sp_193 hx0 (by first | omega | (unfold ra_in at *; omega)) (by first | omega | (unfold ra_in at *; omega))) rfl (ct_193 rfl lk_8_63 (Or.inl rfl) (Nat.le_of_ble_eq_true rfl)) ?_
  refine ra_ifeqB rfl rfl (fun h12 => ?_) (fun h12 => ?_)
  · refine ra_iconst rfl ?_
    exact ra_ireturn rfl rfl ⟨⟨_, (by first | omega | (unfold ra_in at *; omega)), rfl⟩, ⟨hF3, hk4, hk5, hk6, hk7, hk8, ho9⟩⟩
  · refine ra_load rfl rfl rfl rfl ?_
    refine ra_getR rfl lk_8_44 (Nat.zero_le _) sh_179 rfl ?_
    refine ra_load rfl rfl rfl rfl ?_
    refine ra_iaload rfl sh_190 rfl (by decide) (by first | omega | (unfold ra_in at *; omega)) (by first | omega | (unfold ra_in at *; omega)) ?_
    have hr13 : ra_in (ra_g s1 (190) x0.toNat) := (ra_in_g _ _ _)
    refine ra_goto rfl rfl ?_
    exact ra_ireturn rfl rfl ⟨⟨_, hr13, rfl⟩, ⟨hF3, hk4, hk5, hk6, hk7, hk8, ho9⟩⟩
theorem lp_272_10 {n : Nat} {f : Nat → Int32} {d : Nat} {x0 : Int} {σ : ra_V} (hx0 : ra_in x0) (hw : WF σ) {nn2 : Nat} (ih2 : ∀ (v2 : Int) (hv2_0 : 0 ≤ v2) (hv2_1 : v2 ≤ 8) (hm : ((8 - v2 : Int)).toNat < nn2), ra_P (g_Gs n f) g_sh 0 (d + 5) g_m_X8_ownerOf 2 [some (.index (179)), some (ra_I x0), some (ra_I v2), none] [] σ (fun r s => rI r ∧ s = σ)) : ∀ (nn : Nat) (v2 : Int) (v3 : Int) (hv2_0 : 0 ≤ v2) (hv2_1 : v2 < 8) (hv3_0 : 0 ≤ v3) (hv3_1 : ra_in v3) (hm0 : (8 - (v2 + 1)).toNat < nn2) (hm : ((wq σ v2 2 - v3 : Int)).toNat < nn), ra_P (g_Gs n f) g_sh 0 (d + 5) g_m_X8_ownerOf 10 [some (.index (179)), some (ra_I x0), some (ra_I v2), some (ra_I v3)] [] σ (fun r s => rI r ∧ s = σ) := by
  intro nn
  induction nn with
  | zero => intro v2 v3 hv2_0 hv2_1 hv3_0 hv3_1 hm0 hm; exact absurd hm (Nat.not_lt_zero _)
  | succ nn ih =>
    intro v2 v3 hv2_0 hv2_1 hv3_0 hv3_1 hm0 hm
    refine ra_load rfl rfl rfl rfl ?_
    refine ra_load rfl rfl rfl rfl ?_
    refine ra_iconst rfl ?_
    refine ra_cTp (sp_200 (by first | omega | (unfold ra_in at *; omega)) (by first | omega | (unfold ra_in at *; omega)) (by first | assumption | rfl | omega)) rfl (ct_200 rfl lk_8_67 (Or.inl rfl) sh_179 (Nat.le_of_ble_eq_true rfl)) ?_
    have hr3 : ra_in (wq σ v2 (0)) := (ra_in_wq _ _ _)
    refine ra_iconst rfl ?_
    refine ra_icne rfl rfl hr3 (by first | omega | (unfold ra_in at *; omega)) (fun h4 => ?_) (fun h4 => ?_)
    · refine ra_iinc (L' := [_, _, _, _]) rfl rfl (Nat.le_of_ble_eq_true rfl) rfl ?_
      refine ra_goto rfl rfl ?_
      exact ra_weak (by repeat' constructor) (ih2 (v2 + 1) (by first | omega | (unfold ra_in at *; omega)) (by first | omega | (unfold ra_in at *; omega)) (by first | omega | (unfold ra_in at *; omega)))
    · refine ra_load rfl rfl rfl rfl ?_
      refine ra_load rfl rfl rfl rfl ?_
      refine ra_load rfl rfl rfl rfl ?_
      refine ra_iconst rfl ?_
      refine ra_cTp (sp_200 (by first | omega | (unfold ra_in at *; omega)) (by first | omega | (unfold ra_in at *; omega)) (by first | assumption | rfl | omega)) rfl (ct_200 rfl lk_8_67 (Or.inl rfl) sh_179 (Nat.le_of_ble_eq_true rfl)) ?_
      have hr6 : ra_in (wq σ v2 (2)) := (ra_in_wq _ _ _)
      refine ra_icge rfl rfl (by first | omega | (unfold ra_in at *; omega)) hr6 (fun h7 => ?_) (fun h7 => ?_)
      · refine ra_iinc (L' := [_, _, _, _]) rfl rfl (Nat.le_of_ble_eq_true rfl) rfl ?_
        refine ra_goto rfl rfl ?_
        exact ra_weak (by repeat' constructor) (ih2 (v2 + 1) (by first | omega | (unfold ra_in at *; omega)) (by first | omega | (unfold ra_in at *; omega)) (by first | omega | (unfold ra_in at *; omega)))
      · refine ra_load rfl rfl rfl rfl ?_
        refine ra_load rfl rfl rfl rfl ?_
        refine ra_load rfl rfl rfl rfl ?_
        refine ra_cIPp (sp_243 (by first | omega | (unfold ra_in at *; omega)) (by first | omega | (unfold ra_in at *; omega)) hw (by first | assumption | omega) (by first | assumption | rfl | omega)) rfl (ct_243 rfl lk_8_324 (Or.inl rfl) sh_179 (Nat.le_of_ble_eq_true rfl)) (fun z9 hz9 hz9p => ?_)
        refine ra_load rfl rfl rfl rfl ?_
        refine ra_icne rfl rfl hz9 hx0 (fun h10 => ?_) (fun h10 => ?_)
        · refine ra_iinc (L' := [_, _, _, _]) rfl rfl (Nat.le_of_ble_eq_true rfl) rfl ?_
          refine ra_goto rfl rfl ?_
          exact ra_weak (by repeat' constructor) (ih v2 (v3 + 1) (by first | omega | (unfold ra_in at *; omega)) (by first | omega | (unfold ra_in at *; omega)) (by first | omega | (unfold ra_in at *; omega)) (by first | omega | (unfold ra_in at *; omega)) (by omega) (by first | omega | (unfold ra_in at *; omega)))
        · refine ra_load rfl rfl rfl rfl ?_
          exact ra_ireturn rfl rfl ⟨⟨_, (by first | omega | (unfold ra_in at *; omega)), rfl⟩, rfl⟩
theorem lp_272_2 {n : Nat} {f : Nat → Int32} {d : Nat} {x0 : Int} {σ : ra_V} (hx0 : ra_in x0) (hw : WF σ) : ∀ (nn : Nat) (v2 : Int) (hv2_0 : 0 ≤ v2) (hv2_1 : v2 ≤ 8) (hm : ((8 - v2 : Int)).toNat < nn), ra_P (g_Gs n f) g_sh 0 (d + 5) g_m_X8_ownerOf 2 [some (.index (179)), some (ra_I x0), some (ra_I v2), none] [] σ (fun r s => rI r ∧ s = σ) := by
  intro nn
  induction nn with
  | zero => intro v2 hv2_0 hv2_1 hm; exact absurd hm (Nat.not_lt_zero _)
  | succ nn ih =>
    intro v2 hv2_0 hv2_1 hm
    refine ra_load rfl rfl rfl rfl ?_
    refine ra_bipush rfl (by decide) ?_
    refine ra_icge rfl rfl (by first | omega | (unfold ra_in at *; omega)) (by first | omega | (unfold ra_in at *; omega)) (fun h1 => ?_) (fun h1 => ?_)
    · refine ra_iconst rfl ?_
      exact ra_ireturn rfl rfl ⟨⟨_, (by first | omega | (unfold ra_in at *; omega)), rfl⟩, rfl⟩
    · refine ra_iconst rfl ?_
      refine ra_store (L' := [_, _, _, _]) rfl rfl rfl (Nat.le_of_ble_eq_true rfl) rfl ?_
      exact ra_weak (by repeat' constructor) (lp_272_10 hx0 hw ih _ v2 (0) (by first | omega | (unfold ra_in at *; omega)) (by first | omega | (unfold ra_in at *; omega)) (by first | omega | (unfold ra_in at *; omega)) (by first | omega | (unfold ra_in at *; omega)) (by omega) (Nat.lt_succ_self _))
theorem sp_272 {n : Nat} {f : Nat → Int32} {d : Nat} {x0 : Int} {σ : ra_V} (hx0 : ra_in x0) (hw : WF σ) : ra_C (g_Gs n f) g_sh 0 (d + 6) 272 [.index (179), ra_I x0] σ (fun r s => rI r ∧ s = σ) := by
  refine ra_enter (nn := 2) mt_272 rfl (Nat.le_of_ble_eq_true rfl) rfl (fun h => absurd h (by decide +kernel)) ?_
  refine ra_iconst rfl ?_
  refine ra_store (L' := [_, _, _, _]) rfl rfl rfl (Nat.le_of_ble_eq_true rfl) rfl ?_
  exact ra_weak (by repeat' constructor) (lp_272_2 hx0 hw _ (0) (by first | omega | (unfold ra_in at *; omega)) (by first | omega | (unfold ra_in at *; omega)) (Nat.lt_succ_self _))
theorem sp_273 {n : Nat} {f : Nat → Int32} {d : Nat} {x0 : Int} {σ : ra_V} (hx0 : ra_in x0) (hw : WF σ) : ra_C (g_Gs n f) g_sh 0 (d + 7) 273 [.index (179), ra_I x0] σ (fun r s => rI r ∧ Fr (179) (187) σ s ∧ s (180) = σ (180) ∧ s (181) = σ (181) ∧ s (182) = σ (182) ∧ s (183) = σ (183) ∧ s (184) = σ (184) ∧ (∀ a, a ≠ 7 → a ≠ 10 → ra_g s 179 a = ra_g σ 179 a)) := by
  refine ra_enter (nn := 0) mt_273 rfl (Nat.le_of_ble_eq_true rfl) rfl (fun h => absurd h (by decide +kernel)) ?_
  have hw0 := WF_a hw
  unfold WFa at hw0
  refine ra_load rfl rfl rfl rfl ?_
  refine ra_load rfl rfl rfl rfl ?_
  refine ra_cQP (sp_270 hx0 hw) rfl (ct_270 rfl lk_8_321 (Or.inl rfl) sh_179 (Nat.le_of_ble_eq_true rfl)) (fun z2 s1 hz2 hz2p hs1 => ?_)
  obtain ⟨hf3, hc4, hc5, hc6, hc7, hc8, he9⟩ := hs1
  have hF10 := Fr_tr (lo := 179) (hi := 187) Fr_rf hf3 (by omega)
  have hk11 : s1 (180) = σ (180) := hc4
  have hk12 : s1 (181) = σ (181) := hc5
  have hk13 : s1 (182) = σ (182) := hc6
  have hk14 : s1 (183) = σ (183) := hc7
  have hk15 : s1 (184) = σ (184) := hc8
  have ho16 : ∀ a, a ≠ 7 → a ≠ 10 → ra_g s1 179 a = ra_g σ 179 a := fun a h7 h10 => (he9 a h7 h10).trans ((fun _ _ _ => rfl) a h7 h10)
  refine ra_ifeq rfl rfl (ra_in01 hz2) (fun h17 => ?_) (fun h17 => ?_)
  · refine ra_load rfl rfl rfl rfl ?_
    refine ra_load rfl rfl rfl rfl ?_
    refine ra_cIp (sp_272 hx0 (WF_k hk11 hw)) rfl (ct_272 rfl lk_8_327 (Or.inl rfl) sh_179 (Nat.le_of_ble_eq_true rfl)) (fun z19 hz19 => ?_)
    exact ra_ireturn rfl rfl ⟨⟨_, hz19, rfl⟩, ⟨hF10, hk11, hk12, hk13, hk14, hk15, ho16⟩⟩
  · refine ra_iconst rfl ?_
    refine ra_goto rfl rfl ?_
    exact ra_ireturn rfl rfl ⟨⟨_, (by first | omega | (unfold ra_in at *; omega)), rfl⟩, ⟨hF10, hk11, hk12, hk13, hk14, hk15, ho16⟩⟩
theorem sp_274 {n : Nat} {f : Nat → Int32} {d : Nat} {x0 : Int} {x1 : Int} {σ : ra_V} (hx0 : ra_in x0) (hx1 : ra_in x1) (hw : WF σ) : ra_C (g_Gs n f) g_sh 0 (d + 6) 274 [.index (179), ra_I x0, ra_I x1] σ (fun r s => rI r ∧ Fr (179) (187) σ s ∧ s (180) = σ (180) ∧ s (181) = σ (181) ∧ s (182) = σ (182) ∧ s (183) = σ (183) ∧ s (184) = σ (184) ∧ (∀ a, a ≠ 7 → a ≠ 10 → ra_g s 179 a = ra_g σ 179 a)) := by
  refine ra_enter (nn := 0) mt_274 rfl (Nat.le_of_ble_eq_true rfl) rfl (fun h => absurd h (by decide +kernel)) ?_
  have hw0 := WF_a hw
  unfold WFa at hw0
  refine ra_load rfl rfl rfl rfl ?_
  refine ra_iconst rfl ?_
  refine ra_putI rfl lk_8_51 (Nat.zero_le _) sh_179 rfl rfl ?_
  refine ra_newU (by first | omega | (unfold ra_in at *; omega)) (fun s1 hs1 hp2 hp2o => ?_)
  have hp2_99 := hp2o 99 (by decide)
  have hF3 := Fr_tr (lo := 179) (hi := 187) Fr_rf hs1 (by omega)
  have hk4 : s1 (180) = σ (180) := (hs1 (180) (by omega))
  have hk5 : s1 (181) = σ (181) := (hs1 (181) (by omega))
  have hk6 : s1 (182) = σ (182) := (hs1 (182) (by omega))
  have hk7 : s1 (183) = σ (183) := (hs1 (183) (by omega))
  have hk8 : s1 (184) = σ (184) := (hs1 (184) (by omega))
  have ho9 : ∀ a, a ≠ 7 → a ≠ 10 → ra_g s1 179 a = ra_g σ 179 a := fun a h7 h10 => ((fun a h7 h10 => hp2o a h7) a h7 h10).trans ((fun _ _ _ => rfl) a h7 h10)
  refine ra_load rfl rfl rfl rfl ?_
  refine ra_load rfl rfl rfl rfl ?_
  refine ra_load rfl rfl rfl rfl ?_
  refine ra_cQPp (sp_202 hx0) rfl (ct_202 rfl lk_8_313 (Or.inl rfl) sh_179 (Nat.le_of_ble_eq_true rfl)) (fun z11 hz11 hz11p => ?_)
  rw [wq_k hk4] at hz11p
  refine ra_ifeq rfl rfl (ra_in01 hz11) (fun h12 => ?_) (fun h12 => ?_)
  · refine ra_iconst rfl ?_
    refine ra_iconst rfl ?_
    refine ra_cT (sp_194 (Or.inl rfl) (by first | omega | (unfold ra_in at *; omega))) rfl (ct_194 rfl lk_8_303 (Or.inl rfl) sh_179 (Nat.le_of_ble_eq_true rfl)) (fun s13 hs13 => ?_)
    obtain ⟨hf14, he15⟩ := hs13
    have hF16 := Fr_tr (lo := 179) (hi := 187) hF3 hf14 (by omega)
    have hk17 : s13 (180) = σ (180) := (hf14 (180) (by omega)).trans hk4
    have hk18 : s13 (181) = σ (181) := (hf14 (181) (by omega)).trans hk5
    have hk19 : s13 (182) = σ (182) := (hf14 (182) (by omega)).trans hk6
    have hk20 : s13 (183) = σ (183) := (hf14 (183) (by omega)).trans hk7
    have hk21 : s13 (184) = σ (184) := (hf14 (184) (by omega)).trans hk8
    have ho22 : ∀ a, a ≠ 7 → a ≠ 10 → ra_g s13 179 a = ra_g σ 179 a := fun a h7 h10 => ((fun a h7 h10 => he15 a h7) a h7 h10).trans (ho9 a h7 h10)
    refine ra_ifne rfl rfl (by first | omega | (unfold ra_in at *; omega)) (fun h23 => ?_) (fun h23 => ?_)
    · exact absurd h23 (by decide)
    · refine ra_load rfl rfl rfl rfl ?_
      refine ra_load rfl rfl rfl rfl ?_
      refine ra_iconst rfl ?_
      refine ra_cQP (sp_268 hx0 (by first | omega | (unfold ra_in at *; omega))) rfl (ct_268 rfl lk_8_318 (Or.inl rfl) sh_179 (Nat.le_of_ble_eq_true rfl)) (fun z25 s24 hz25 hz25p hs24 => ?_)
      rw [wq_k hk17] at hz25p
      obtain ⟨hf26, he27⟩ := hs24
      have hF28 := Fr_tr (lo := 179) (hi := 187) hF16 hf26 (by omega)
      have hk29 : s24 (180) = σ (180) := (hf26 (180) (by omega)).trans hk17
      have hk30 : s24 (181) = σ (181) := (hf26 (181) (by omega)).trans hk18
      have hk31 : s24 (182) = σ (182) := (hf26 (182) (by omega)).trans hk19
      have hk32 : s24 (183) = σ (183) := (hf26 (183) (by omega)).trans hk20
      have hk33 : s24 (184) = σ (184) := (hf26 (184) (by omega)).trans hk21
      have ho34 : ∀ a, a ≠ 7 → a ≠ 10 → ra_g s24 179 a = ra_g σ 179 a := fun a h7 h10 => ((fun a h7 h10 => he27 a h7) a h7 h10).trans (ho22 a h7 h10)
      refine ra_ifeq rfl rfl (ra_in01 hz25) (fun h35 => ?_) (fun h35 => ?_)
      · refine ra_load rfl rfl rfl rfl ?_
        refine ra_load rfl rfl rfl rfl ?_
        refine ra_load rfl rfl rfl rfl ?_
        refine ra_cIPp (sp_243 hx0 hx1 (WF_k hk29 hw) (sp_k hk29 rfl (hz25p (by omega))) (by rw [wq_k hk29]; omega)) rfl (ct_243 rfl lk_8_324 (Or.inl rfl) sh_179 (Nat.le_of_ble_eq_true rfl)) (fun z37 hz37 hz37p => ?_)
        exact ra_ireturn rfl rfl ⟨⟨_, hz37, rfl⟩, ⟨hF28, hk29, hk30, hk31, hk32, hk33, ho34⟩⟩
      · refine ra_iconst rfl ?_
        exact ra_ireturn rfl rfl ⟨⟨_, (by first | omega | (unfold ra_in at *; omega)), rfl⟩, ⟨hF28, hk29, hk30, hk31, hk32, hk33, ho34⟩⟩
  · have hp := hz11p.mp (by omega)
    have hq := WF_p hw hp.1 hp.2.1 hp.2.2
    refine ra_load rfl rfl rfl rfl ?_
    refine ra_i2l rfl hx1 ?_
    refine ra_lconst0 rfl ?_
    refine ra_load rfl rfl rfl rfl ?_
    refine ra_load rfl rfl rfl rfl ?_
    refine ra_iconst rfl ?_
    refine ra_cTp (sp_200 hx0 (by first | omega | (unfold ra_in at *; omega)) (by first | assumption | rfl | omega)) rfl (ct_200 rfl lk_8_67 (Or.inl rfl) sh_179 (Nat.le_of_ble_eq_true rfl)) ?_
    rw [wq_k hk4]
    have hr39 : ra_in (wq σ x0 (2)) := (ra_in_wq _ _ _)
    refine ra_iconst rfl ?_
    refine ra_isub rfl ?_
    refine ra_i2l rfl (by first | omega | (unfold ra_in at *; omega)) ?_
    refine ra_cTp (sp_193 hx1 (by first | omega | (unfold ra_in at *; omega)) (by first | omega | (unfold ra_in at *; omega))) rfl (ct_193 rfl lk_8_63 (Or.inl rfl) (Nat.le_of_ble_eq_true rfl)) ?_
    refine ra_ifneB rfl rfl (fun h41 => ?_) (fun h41 => ?_)
    · refine ra_iconst rfl ?_
      refine ra_iconst rfl ?_
      refine ra_cT (sp_194 (Or.inl rfl) (by first | omega | (unfold ra_in at *; omega))) rfl (ct_194 rfl lk_8_303 (Or.inl rfl) sh_179 (Nat.le_of_ble_eq_true rfl)) (fun s42 hs42 => ?_)
      obtain ⟨hf43, he44⟩ := hs42
      have hF45 := Fr_tr (lo := 179) (hi := 187) hF3 hf43 (by omega)
      have hk46 : s42 (180) = σ (180) := (hf43 (180) (by omega)).trans hk4
      have hk47 : s42 (181) = σ (181) := (hf43 (181) (by omega)).trans hk5
      have hk48 : s42 (182) = σ (182) := (hf43 (182) (by omega)).trans hk6
      have hk49 : s42 (183) = σ (183) := (hf43 (183) (by omega)).trans hk7
      have hk50 : s42 (184) = σ (184) := (hf43 (184) (by omega)).trans hk8
      have ho51 : ∀ a, a ≠ 7 → a ≠ 10 → ra_g s42 179 a = ra_g σ 179 a := fun a h7 h10 => ((fun a h7 h10 => he44 a h7) a h7 h10).trans (ho9 a h7 h10)
      refine ra_ifne rfl rfl (by first | omega | (unfold ra_in at *; omega)) (fun h52 => ?_) (fun h52 => ?_)
      · exact absurd h52 (by decide)
      · refine ra_load rfl rfl rfl rfl ?_
        refine ra_load rfl rfl rfl rfl ?_
        refine ra_iconst rfl ?_
        refine ra_cQP (sp_268 hx0 (by first | omega | (unfold ra_in at *; omega))) rfl (ct_268 rfl lk_8_318 (Or.inl rfl) sh_179 (Nat.le_of_ble_eq_true rfl)) (fun z54 s53 hz54 hz54p hs53 => ?_)
        rw [wq_k hk46] at hz54p
        obtain ⟨hf55, he56⟩ := hs53
        have hF57 := Fr_tr (lo := 179) (hi := 187) hF45 hf55 (by omega)
        have hk58 : s53 (180) = σ (180) := (hf55 (180) (by omega)).trans hk46
        have hk59 : s53 (181) = σ (181) := (hf55 (181) (by omega)).trans hk47
        have hk60 : s53 (182) = σ (182) := (hf55 (182) (by omega)).trans hk48
        have hk61 : s53 (183) = σ (183) := (hf55 (183) (by omega)).trans hk49
        have hk62 : s53 (184) = σ (184) := (hf55 (184) (by omega)).trans hk50
        have ho63 : ∀ a, a ≠ 7 → a ≠ 10 → ra_g s53 179 a = ra_g σ 179 a := fun a h7 h10 => ((fun a h7 h10 => he56 a h7) a h7 h10).trans (ho51 a h7 h10)
        refine ra_ifeq rfl rfl (ra_in01 hz54) (fun h64 => ?_) (fun h64 => ?_)
        · refine ra_load rfl rfl rfl rfl ?_
          refine ra_load rfl rfl rfl rfl ?_
          refine ra_load rfl rfl rfl rfl ?_
          refine ra_cIPp (sp_243 hx0 hx1 (WF_k hk58 hw) (sp_k hk58 rfl (hz54p (by omega))) (by rw [wq_k hk58]; omega)) rfl (ct_243 rfl lk_8_324 (Or.inl rfl) sh_179 (Nat.le_of_ble_eq_true rfl)) (fun z66 hz66 hz66p => ?_)
          exact ra_ireturn rfl rfl ⟨⟨_, hz66, rfl⟩, ⟨hF57, hk58, hk59, hk60, hk61, hk62, ho63⟩⟩
        · refine ra_iconst rfl ?_
          exact ra_ireturn rfl rfl ⟨⟨_, (by first | omega | (unfold ra_in at *; omega)), rfl⟩, ⟨hF57, hk58, hk59, hk60, hk61, hk62, ho63⟩⟩
    · refine ra_iconst rfl ?_
      refine ra_goto rfl rfl ?_
      refine ra_iconst rfl ?_
      refine ra_cT (sp_194 (Or.inr rfl) (by first | omega | (unfold ra_in at *; omega))) rfl (ct_194 rfl lk_8_303 (Or.inl rfl) sh_179 (Nat.le_of_ble_eq_true rfl)) (fun s67 hs67 => ?_)
      obtain ⟨hf68, he69⟩ := hs67
      have hF70 := Fr_tr (lo := 179) (hi := 187) hF3 hf68 (by omega)
      have hk71 : s67 (180) = σ (180) := (hf68 (180) (by omega)).trans hk4
      have hk72 : s67 (181) = σ (181) := (hf68 (181) (by omega)).trans hk5
      have hk73 : s67 (182) = σ (182) := (hf68 (182) (by omega)).trans hk6
      have hk74 : s67 (183) = σ (183) := (hf68 (183) (by omega)).trans hk7
      have hk75 : s67 (184) = σ (184) := (hf68 (184) (by omega)).trans hk8
      have ho76 : ∀ a, a ≠ 7 → a ≠ 10 → ra_g s67 179 a = ra_g σ 179 a := fun a h7 h10 => ((fun a h7 h10 => he69 a h7) a h7 h10).trans (ho9 a h7 h10)
      refine ra_ifne rfl rfl (by first | omega | (unfold ra_in at *; omega)) (fun h77 => ?_) (fun h77 => ?_)
      · refine ra_iconst rfl ?_
        exact ra_ireturn rfl rfl ⟨⟨_, (by first | omega | (unfold ra_in at *; omega)), rfl⟩, ⟨hF70, hk71, hk72, hk73, hk74, hk75, ho76⟩⟩
      · exact absurd h77 (by decide)
theorem lp_277_9 {n : Nat} {f : Nat → Int32} {d : Nat}  {σ : ra_V} (hw : WF σ) : ∀ (nn : Nat) (v1 : Int) (v2 : Int) (s : ra_V) (hv1_0 : ra_in v1) (hv2_0 : 0 ≤ v2) (hv2_1 : v2 ≤ 8) (hF : Fr (179) (187) σ s) (hk0 : s (180) = σ (180)) (hk1 : s (181) = σ (181)) (hk2 : s (182) = σ (182)) (hk3 : s (183) = σ (183)) (hk4 : s (184) = σ (184)) (hoo : ∀ a, a ≠ 7 → a ≠ 10 → ra_g s 179 a = ra_g σ 179 a) (hm : ((8 - v2 : Int)).toNat < nn), ra_P (g_Gs n f) g_sh 0 (d + 6) g_m_X8_verify 9 [some (.index (179)), some (ra_I v1), some (ra_I v2)] [] s (fun r s => rI r ∧ Fr (179) (187) σ s ∧ s (180) = σ (180) ∧ s (181) = σ (181) ∧ s (182) = σ (182) ∧ s (183) = σ (183) ∧ s (184) = σ (184) ∧ (∀ a, a ≠ 7 → a ≠ 10 → ra_g s 179 a = ra_g σ 179 a)) := by
  intro nn
  induction nn with
  | zero => intro v1 v2 s hv1_0 hv2_0 hv2_1 hF hk0 hk1 hk2 hk3 hk4 hoo hm; exact absurd hm (Nat.not_lt_zero _)
  | succ nn ih =>
    intro v1 v2 s hv1_0 hv2_0 hv2_1 hF hk0 hk1 hk2 hk3 hk4 hoo hm
    refine ra_load rfl rfl rfl rfl ?_
    refine ra_bipush rfl (by decide) ?_
    refine ra_icge rfl rfl (by first | omega | (unfold ra_in at *; omega)) (by first | omega | (unfold ra_in at *; omega)) (fun h10 => ?_) (fun h10 => ?_)
    · refine ra_load rfl rfl rfl rfl ?_
      exact ra_ireturn rfl rfl ⟨⟨_, (by first | omega | (unfold ra_in at *; omega)), rfl⟩, ⟨hF, hk0, hk1, hk2, hk3, hk4, hoo⟩⟩
    · refine ra_load rfl rfl rfl rfl ?_
      refine ra_load rfl rfl rfl rfl ?_
      refine ra_load rfl rfl rfl rfl ?_
      refine ra_iconst rfl ?_
      refine ra_cTp (sp_200 (by first | omega | (unfold ra_in at *; omega)) (by first | omega | (unfold ra_in at *; omega)) (by first | assumption | rfl | omega)) rfl (ct_200 rfl lk_8_67 (Or.inl rfl) sh_179 (Nat.le_of_ble_eq_true rfl)) ?_
      rw [wq_k hk0]
      have hr12 : ra_in (wq σ v2 (0)) := (ra_in_wq _ _ _)
      refine ra_iconst rfl ?_
      refine ra_icne rfl rfl hr12 (by first | omega | (unfold ra_in at *; omega)) (fun h13 => ?_) (fun h13 => ?_)
      · refine ra_iconst rfl ?_
        refine ra_ior rfl ?_
        refine ra_store (L' := [_, _, _]) rfl rfl rfl (Nat.le_of_ble_eq_true rfl) rfl ?_
        refine ra_iinc (L' := [_, _, _]) rfl rfl (Nat.le_of_ble_eq_true rfl) rfl ?_
        refine ra_goto rfl rfl ?_
        exact ra_weak (by repeat' constructor) (ih (ra_op .ior v1 (0)) (v2 + 1) s (ra_in_op _ _ _) (by first | omega | (unfold ra_in at *; omega)) (by first | omega | (unfold ra_in at *; omega)) hF hk0 hk1 hk2 hk3 hk4 hoo (by first | omega | (unfold ra_in at *; omega)))
      · refine ra_load rfl rfl rfl rfl ?_
        refine ra_load rfl rfl rfl rfl ?_
        refine ra_cBp (sp_275 (by first | omega | (unfold ra_in at *; omega)) (WF_k hk0 hw) (by first | assumption | (rw [wq_k hk0]; omega))) rfl (ct_275 rfl lk_8_330 (Or.inl rfl) sh_179 (Nat.le_of_ble_eq_true rfl)) (fun z15 hz15 => ?_)
        refine ra_ifeq rfl rfl (ra_in01 hz15) (fun h16 => ?_) (fun h16 => ?_)
        · refine ra_iconst rfl ?_
          refine ra_ior rfl ?_
          refine ra_store (L' := [_, _, _]) rfl rfl rfl (Nat.le_of_ble_eq_true rfl) rfl ?_
          refine ra_iinc (L' := [_, _, _]) rfl rfl (Nat.le_of_ble_eq_true rfl) rfl ?_
          refine ra_goto rfl rfl ?_
          exact ra_weak (by repeat' constructor) (ih (ra_op .ior v1 (0)) (v2 + 1) s (ra_in_op _ _ _) (by first | omega | (unfold ra_in at *; omega)) (by first | omega | (unfold ra_in at *; omega)) hF hk0 hk1 hk2 hk3 hk4 hoo (by first | omega | (unfold ra_in at *; omega)))
        · refine ra_iconst rfl ?_
          refine ra_load rfl rfl rfl rfl ?_
          refine ra_ishl rfl ?_
          refine ra_goto rfl rfl ?_
          refine ra_ior rfl ?_
          refine ra_store (L' := [_, _, _]) rfl rfl rfl (Nat.le_of_ble_eq_true rfl) rfl ?_
          refine ra_iinc (L' := [_, _, _]) rfl rfl (Nat.le_of_ble_eq_true rfl) rfl ?_
          refine ra_goto rfl rfl ?_
          exact ra_weak (by repeat' constructor) (ih (ra_op .ior v1 (ra_op .ishl (1) v2)) (v2 + 1) s (ra_in_op _ _ _) (by first | omega | (unfold ra_in at *; omega)) (by first | omega | (unfold ra_in at *; omega)) hF hk0 hk1 hk2 hk3 hk4 hoo (by first | omega | (unfold ra_in at *; omega)))
theorem sp_277 {n : Nat} {f : Nat → Int32} {d : Nat}  {σ : ra_V} (hw : WF σ) : ra_C (g_Gs n f) g_sh 0 (d + 7) 277 [.index (179)] σ (fun r s => rI r ∧ Fr (179) (187) σ s ∧ s (180) = σ (180) ∧ s (181) = σ (181) ∧ s (182) = σ (182) ∧ s (183) = σ (183) ∧ s (184) = σ (184) ∧ (∀ a, a ≠ 7 → a ≠ 10 → ra_g s 179 a = ra_g σ 179 a)) := by
  refine ra_enter (nn := 2) mt_277 rfl (Nat.le_of_ble_eq_true rfl) rfl (fun h => absurd h (by decide +kernel)) ?_
  have hw0 := WF_a hw
  unfold WFa at hw0
  refine ra_load rfl rfl rfl rfl ?_
  refine ra_iconst rfl ?_
  refine ra_putI rfl lk_8_51 (Nat.zero_le _) sh_179 rfl rfl ?_
  refine ra_newU (by first | omega | (unfold ra_in at *; omega)) (fun s1 hs1 hp2 hp2o => ?_)
  have hp2_99 := hp2o 99 (by decide)
  have hF3 := Fr_tr (lo := 179) (hi := 187) Fr_rf hs1 (by omega)
  have hk4 : s1 (180) = σ (180) := (hs1 (180) (by omega))
  have hk5 : s1 (181) = σ (181) := (hs1 (181) (by omega))
  have hk6 : s1 (182) = σ (182) := (hs1 (182) (by omega))
  have hk7 : s1 (183) = σ (183) := (hs1 (183) (by omega))
  have hk8 : s1 (184) = σ (184) := (hs1 (184) (by omega))
  have ho9 : ∀ a, a ≠ 7 → a ≠ 10 → ra_g s1 179 a = ra_g σ 179 a := fun a h7 h10 => ((fun a h7 h10 => hp2o a h7) a h7 h10).trans ((fun _ _ _ => rfl) a h7 h10)
  refine ra_iconst rfl ?_
  refine ra_store (L' := [_, _, _]) rfl rfl rfl (Nat.le_of_ble_eq_true rfl) rfl ?_
  refine ra_iconst rfl ?_
  refine ra_store (L' := [_, _, _]) rfl rfl rfl (Nat.le_of_ble_eq_true rfl) rfl ?_
  exact ra_weak (by repeat' constructor) (lp_277_9 hw _ (0) (0) s1 (by first | omega | (unfold ra_in at *; omega)) (by first | omega | (unfold ra_in at *; omega)) (by first | omega | (unfold ra_in at *; omega)) hF3 hk4 hk5 hk6 hk7 hk8 ho9 (Nat.lt_succ_self _))
theorem sp_280 {n : Nat} {f : Nat → Int32} {d : Nat} {x0 : Int} {σ : ra_V} (hx0 : ra_in x0) (hw : WF σ) : ra_C (g_Gs n f) g_sh 0 (d + 4) 280 [.index (179), ra_I x0] σ (fun r s => rI r ∧ Fr (179) (187) σ s ∧ s (180) = σ (180) ∧ s (181) = σ (181) ∧ s (182) = σ (182) ∧ s (183) = σ (183) ∧ s (184) = σ (184) ∧ (∀ a, a ≠ 7 → a ≠ 10 → ra_g s 179 a = ra_g σ 179 a)) := by
  refine ra_enter (nn := 0) mt_280 rfl (Nat.le_of_ble_eq_true rfl) rfl (fun h => absurd h (by decide +kernel)) ?_
  have hw0 := WF_a hw
  unfold WFa at hw0
  refine ra_load rfl rfl rfl rfl ?_
  refine ra_iconst rfl ?_
  refine ra_putI rfl lk_8_51 (Nat.zero_le _) sh_179 rfl rfl ?_
  refine ra_newU (by first | omega | (unfold ra_in at *; omega)) (fun s1 hs1 hp2 hp2o => ?_)
  have hp2_99 := hp2o 99 (by decide)
  have hF3 := Fr_tr (lo := 179) (hi := 187) Fr_rf hs1 (by omega)
  have hk4 : s1 (180) = σ (180) := (hs1 (180) (by omega))
  have hk5 : s1 (181) = σ (181) := (hs1 (181) (by omega))
  have hk6 : s1 (182) = σ (182) := (hs1 (182) (by omega))
  have hk7 : s1 (183) = σ (183) := (hs1 (183) (by omega))
  have hk8 : s1 (184) = σ (184) := (hs1 (184) (by omega))
  have ho9 : ∀ a, a ≠ 7 → a ≠ 10 → ra_g s1 179 a = ra_g σ 179 a := fun a h7 h10 => ((fun a h7 h10 => hp2o a h7) a h7 h10).trans ((fun _ _ _ => rfl) a h7 h10)
  refine ra_load rfl rfl rfl rfl ?_
  refine ra_load rfl rfl rfl rfl ?_
  refine ra_ifge rfl rfl hx0 (fun h10 => ?_) (fun h10 => ?_)
  · refine ra_iconst rfl ?_
    refine ra_iconst rfl ?_
    refine ra_cT (sp_194 (Or.inl rfl) (by first | omega | (unfold ra_in at *; omega))) rfl (ct_194 rfl lk_8_303 (Or.inl rfl) sh_179 (Nat.le_of_ble_eq_true rfl)) (fun s11 hs11 => ?_)
    obtain ⟨hf12, he13⟩ := hs11
    have hF14 := Fr_tr (lo := 179) (hi := 187) hF3 hf12 (by omega)
    have hk15 : s11 (180) = σ (180) := (hf12 (180) (by omega)).trans hk4
    have hk16 : s11 (181) = σ (181) := (hf12 (181) (by omega)).trans hk5
    have hk17 : s11 (182) = σ (182) := (hf12 (182) (by omega)).trans hk6
    have hk18 : s11 (183) = σ (183) := (hf12 (183) (by omega)).trans hk7
    have hk19 : s11 (184) = σ (184) := (hf12 (184) (by omega)).trans hk8
    have ho20 : ∀ a, a ≠ 7 → a ≠ 10 → ra_g s11 179 a = ra_g σ 179 a := fun a h7 h10 => ((fun a h7 h10 => he13 a h7) a h7 h10).trans (ho9 a h7 h10)
    refine ra_ifeq rfl rfl (by first | omega | (unfold ra_in at *; omega)) (fun h21 => ?_) (fun h21 => ?_)
    · refine ra_load rfl rfl rfl rfl ?_
      refine ra_load rfl rfl rfl rfl ?_
      refine ra_bipush rfl (by decide) ?_
      refine ra_min rfl lk_8_90 hx0 (by first | omega | (unfold ra_in at *; omega)) (Nat.le_of_ble_eq_true rfl) ?_
      refine ra_cIPp (sp_279 (by first | omega | (unfold ra_in at *; omega)) (WF_k hk15 hw)) rfl (ct_279 rfl lk_8_336 (Or.inl rfl) sh_179 (Nat.le_of_ble_eq_true rfl)) (fun z23 hz23 hz23p => ?_)
      exact ra_ireturn rfl rfl ⟨⟨_, hz23, rfl⟩, ⟨hF14, hk15, hk16, hk17, hk18, hk19, ho20⟩⟩
    · exact absurd h21 (by decide)
  · refine ra_iconst rfl ?_
    refine ra_goto rfl rfl ?_
    refine ra_iconst rfl ?_
    refine ra_cT (sp_194 (Or.inr rfl) (by first | omega | (unfold ra_in at *; omega))) rfl (ct_194 rfl lk_8_303 (Or.inl rfl) sh_179 (Nat.le_of_ble_eq_true rfl)) (fun s24 hs24 => ?_)
    obtain ⟨hf25, he26⟩ := hs24
    have hF27 := Fr_tr (lo := 179) (hi := 187) hF3 hf25 (by omega)
    have hk28 : s24 (180) = σ (180) := (hf25 (180) (by omega)).trans hk4
    have hk29 : s24 (181) = σ (181) := (hf25 (181) (by omega)).trans hk5
    have hk30 : s24 (182) = σ (182) := (hf25 (182) (by omega)).trans hk6
    have hk31 : s24 (183) = σ (183) := (hf25 (183) (by omega)).trans hk7
    have hk32 : s24 (184) = σ (184) := (hf25 (184) (by omega)).trans hk8
    have ho33 : ∀ a, a ≠ 7 → a ≠ 10 → ra_g s24 179 a = ra_g σ 179 a := fun a h7 h10 => ((fun a h7 h10 => he26 a h7) a h7 h10).trans (ho9 a h7 h10)
    refine ra_ifeq rfl rfl (by first | omega | (unfold ra_in at *; omega)) (fun h34 => ?_) (fun h34 => ?_)
    · exact absurd h34 (by decide)
    · refine ra_iconst rfl ?_
      refine ra_goto rfl rfl ?_
      exact ra_ireturn rfl rfl ⟨⟨_, (by first | omega | (unfold ra_in at *; omega)), rfl⟩, ⟨hF27, hk28, hk29, hk30, hk31, hk32, ho33⟩⟩
theorem sp_281 {n : Nat} {f : Nat → Int32} {d : Nat} {x0 : Int} {σ : ra_V} (hx0 : ra_in x0) (hw : WF σ) : ra_C (g_Gs n f) g_sh 0 (d + 4) 281 [.index (179), ra_I x0] σ (fun r s => rI r ∧ Fr (179) (187) σ s ∧ s (180) = σ (180) ∧ s (181) = σ (181) ∧ s (182) = σ (182) ∧ s (183) = σ (183) ∧ s (184) = σ (184) ∧ (∀ a, a ≠ 7 → a ≠ 10 → ra_g s 179 a = ra_g σ 179 a)) := by
  refine ra_enter (nn := 0) mt_281 rfl (Nat.le_of_ble_eq_true rfl) rfl (fun h => absurd h (by decide +kernel)) ?_
  have hw0 := WF_a hw
  unfold WFa at hw0
  refine ra_load rfl rfl rfl rfl ?_
  refine ra_iconst rfl ?_
  refine ra_putI rfl lk_8_51 (Nat.zero_le _) sh_179 rfl rfl ?_
  refine ra_newU (by first | omega | (unfold ra_in at *; omega)) (fun s1 hs1 hp2 hp2o => ?_)
  have hp2_99 := hp2o 99 (by decide)
  have hF3 := Fr_tr (lo := 179) (hi := 187) Fr_rf hs1 (by omega)
  have hk4 : s1 (180) = σ (180) := (hs1 (180) (by omega))
  have hk5 : s1 (181) = σ (181) := (hs1 (181) (by omega))
  have hk6 : s1 (182) = σ (182) := (hs1 (182) (by omega))
  have hk7 : s1 (183) = σ (183) := (hs1 (183) (by omega))
  have hk8 : s1 (184) = σ (184) := (hs1 (184) (by omega))
  have ho9 : ∀ a, a ≠ 7 → a ≠ 10 → ra_g s1 179 a = ra_g σ 179 a := fun a h7 h10 => ((fun a h7 h10 => hp2o a h7) a h7 h10).trans ((fun _ _ _ => rfl) a h7 h10)
  refine ra_load rfl rfl rfl rfl ?_
  refine ra_load rfl rfl rfl rfl ?_
  refine ra_iconst rfl ?_
  refine ra_cQP (sp_268 hx0 (by first | omega | (unfold ra_in at *; omega))) rfl (ct_268 rfl lk_8_318 (Or.inl rfl) sh_179 (Nat.le_of_ble_eq_true rfl)) (fun z11 s10 hz11 hz11p hs10 => ?_)
  rw [wq_k hk4] at hz11p
  obtain ⟨hf12, he13⟩ := hs10
  have hF14 := Fr_tr (lo := 179) (hi := 187) hF3 hf12 (by omega)
  have hk15 : s10 (180) = σ (180) := (hf12 (180) (by omega)).trans hk4
  have hk16 : s10 (181) = σ (181) := (hf12 (181) (by omega)).trans hk5
  have hk17 : s10 (182) = σ (182) := (hf12 (182) (by omega)).trans hk6
  have hk18 : s10 (183) = σ (183) := (hf12 (183) (by omega)).trans hk7
  have hk19 : s10 (184) = σ (184) := (hf12 (184) (by omega)).trans hk8
  have ho20 : ∀ a, a ≠ 7 → a ≠ 10 → ra_g s10 179 a = ra_g σ 179 a := fun a h7 h10 => ((fun a h7 h10 => he13 a h7) a h7 h10).trans (ho9 a h7 h10)
  refine ra_ifeq rfl rfl (ra_in01 hz11) (fun h21 => ?_) (fun h21 => ?_)
  · refine ra_load rfl rfl rfl rfl ?_
    refine ra_load rfl rfl rfl rfl ?_
    refine ra_load rfl rfl rfl rfl ?_
    refine ra_iconst rfl ?_
    refine ra_cTp (sp_200 hx0 (by first | omega | (unfold ra_in at *; omega)) (by first | assumption | rfl | omega)) rfl (ct_200 rfl lk_8_67 (Or.inl rfl) sh_179 (Nat.le_of_ble_eq_true rfl)) ?_
    rw [wq_k hk15]
    have hr23 : ra_in (wq σ x0 (1)) := (ra_in_wq _ _ _)
    refine ra_cIPp (sp_278 hr23) rfl (ct_278 rfl lk_8_333 (Or.inl rfl) sh_179 (Nat.le_of_ble_eq_true rfl)) (fun z25 hz25 hz25p => ?_)
    exact ra_ireturn rfl rfl ⟨⟨_, hz25, rfl⟩, ⟨hF14, hk15, hk16, hk17, hk18, hk19, ho20⟩⟩
  · refine ra_iconst rfl ?_
    refine ra_goto rfl rfl ?_
    exact ra_ireturn rfl rfl ⟨⟨_, (by first | omega | (unfold ra_in at *; omega)), rfl⟩, ⟨hF14, hk15, hk16, hk17, hk18, hk19, ho20⟩⟩
end RB
end
section
/-! the reference: what its methods do (printed by wip/gen/ref.py) -/
section RB
theorem sp_322 {n : Nat} {f : Nat → Int32} {d : Nat} {x0 : Int} {σ : ra_V} (hx0 : ra_in x0) (hw : WF σ) : ra_C (g_Gs n f) g_sh 0 (d + 4) 322 [.index (179), ra_I x0] σ (fun r s => rI r ∧ Fr (179) (187) σ s ∧ s (180) = σ (180) ∧ s (181) = σ (181) ∧ s (182) = σ (182) ∧ s (183) = σ (183) ∧ s (184) = σ (184) ∧ (∀ a, a ≠ 7 → a ≠ 10 → ra_g s 179 a = ra_g σ 179 a)) := by
  refine ra_enter (nn := 0) mt_322 rfl (Nat.le_of_ble_eq_true rfl) rfl (fun h => absurd h (by decide +kernel)) ?_
  have hw0 := WF_a hw
  unfold WFa at hw0
  refine ra_load rfl rfl rfl rfl ?_
  refine ra_iconst rfl ?_
  refine ra_putI rfl lk_8_51 (Nat.zero_le _) sh_179 rfl rfl ?_
  refine ra_newU (by first | omega | (unfold ra_in at *; omega)) (fun s1 hs1 hp2 hp2o => ?_)
  have hp2_99 := hp2o 99 (by decide)
  have hF3 := Fr_tr (lo := 179) (hi := 187) Fr_rf hs1 (by omega)
  have hk4 : s1 (180) = σ (180) := (hs1 (180) (by omega))
  have hk5 : s1 (181) = σ (181) := (hs1 (181) (by omega))
  have hk6 : s1 (182) = σ (182) := (hs1 (182) (by omega))
  have hk7 : s1 (183) = σ (183) := (hs1 (183) (by omega))
  have hk8 : s1 (184) = σ (184) := (hs1 (184) (by omega))
  have ho9 : ∀ a, a ≠ 7 → a ≠ 10 → ra_g s1 179 a = ra_g σ 179 a := fun a h7 h10 => ((fun a h7 h10 => hp2o a h7) a h7 h10).trans ((fun _ _ _ => rfl) a h7 h10)
  refine ra_load rfl rfl rfl rfl ?_
  refine ra_load rfl rfl rfl rfl ?_
  refine ra_i2l rfl hx0 ?_
  refine ra_lconst0 rfl ?_
  refine ra_ldc2 (z := 8) rfl lk_8_402 (by decide) ?_
  refine ra_cTp (sp_193 hx0 (by first | omega | (unfold ra_in at *; omega)) (by first | omega | (unfold ra_in at *; omega))) rfl (ct_193 rfl lk_8_63 (Or.inl rfl) (Nat.le_of_ble_eq_true rfl)) ?_
  refine ra_ifneB rfl rfl (fun h11 => ?_) (fun h11 => ?_)
  · refine ra_iconst rfl ?_
    refine ra_iconst rfl ?_
    refine ra_cT (sp_194 (Or.inl rfl) (by first | omega | (unfold ra_in at *; omega))) rfl (ct_194 rfl lk_8_303 (Or.inl rfl) sh_179 (Nat.le_of_ble_eq_true rfl)) (fun s12 hs12 => ?_)
    obtain ⟨hf13, he14⟩ := hs12
    have hF15 := Fr_tr (lo := 179) (hi := 187) hF3 hf13 (by omega)
    have hk16 : s12 (180) = σ (180) := (hf13 (180) (by omega)).trans hk4
    have hk17 : s12 (181) = σ (181) := (hf13 (181) (by omega)).trans hk5
    have hk18 : s12 (182) = σ (182) := (hf13 (182) (by omega)).trans hk6
    have hk19 : s12 (183) = σ (183) := (hf13 (183) (by omega)).trans hk7
    have hk20 : s12 (184) = σ (184) := (hf13 (184) (by omega)).trans hk8
    have ho21 : ∀ a, a ≠ 7 → a ≠ 10 → ra_g s12 179 a = ra_g σ 179 a := fun a h7 h10 => ((fun a h7 h10 => he14 a h7) a h7 h10).trans (ho9 a h7 h10)
    refine ra_ifeq rfl rfl (by first | omega | (unfold ra_in at *; omega)) (fun h22 => ?_) (fun h22 => ?_)
    · refine ra_load rfl rfl rfl rfl ?_
      refine ra_cQPp (sp_204 ) rfl (ct_204 rfl lk_8_95 (Or.inl rfl) sh_179 (Nat.le_of_ble_eq_true rfl)) (fun z24 hz24 hz24p => ?_)
      refine ra_ifne rfl rfl (ra_in01 hz24) (fun h25 => ?_) (fun h25 => ?_)
      · refine ra_load rfl rfl rfl rfl ?_
        by_cases h26 : x0 = 0
        · refine ra_switch (t := 88) rfl hx0 ⟨by decide, by decide, by decide⟩ (Or.inl ⟨(0, 46), by rw [h26]; rfl, rfl⟩) ?_
          refine ra_load rfl rfl rfl rfl ?_
          refine ra_getR rfl lk_8_7 (Nat.zero_le _) sh_179 rfl ?_
          refine ra_bipush rfl (by decide) ?_
          refine ra_ialoadJ (j := 16) rfl sh_180 rfl (by decide) rfl (by decide) ?_
          rw [ra_gk hk16]
          have hr27 : ra_in (ra_g σ (180) 16) := (ra_in_g _ _ _)
          exact ra_ireturn rfl rfl ⟨⟨_, hr27, rfl⟩, ⟨hF15, hk16, hk17, hk18, hk19, hk20, ho21⟩⟩
        by_cases h28 : x0 = 1
        · refine ra_switch (t := 96) rfl hx0 ⟨by decide, by decide, by decide⟩ (Or.inl ⟨(1, 54), by rw [h28]; rfl, rfl⟩) ?_
          refine ra_load rfl rfl rfl rfl ?_
          refine ra_getR rfl lk_8_7 (Nat.zero_le _) sh_179 rfl ?_
          refine ra_bipush rfl (by decide) ?_
          refine ra_ialoadJ (j := 17) rfl sh_180 rfl (by decide) rfl (by decide) ?_
          rw [ra_gk hk16]
          have hr29 : ra_in (ra_g σ (180) 17) := (ra_in_g _ _ _)
          exact ra_ireturn rfl rfl ⟨⟨_, hr29, rfl⟩, ⟨hF15, hk16, hk17, hk18, hk19, hk20, ho21⟩⟩
        by_cases h30 : x0 = 2
        · refine ra_switch (t := 104) rfl hx0 ⟨by decide, by decide, by decide⟩ (Or.inl ⟨(2, 62), by rw [h30]; rfl, rfl⟩) ?_
          refine ra_load rfl rfl rfl rfl ?_
          refine ra_getR rfl lk_8_7 (Nat.zero_le _) sh_179 rfl ?_
          refine ra_bipush rfl (by decide) ?_
          refine ra_ialoadJ (j := 18) rfl sh_180 rfl (by decide) rfl (by decide) ?_
          rw [ra_gk hk16]
          have hr31 : ra_in (ra_g σ (180) 18) := (ra_in_g _ _ _)
          exact ra_ireturn rfl rfl ⟨⟨_, hr31, rfl⟩, ⟨hF15, hk16, hk17, hk18, hk19, hk20, ho21⟩⟩
        by_cases h32 : x0 = 3
        · refine ra_switch (t := 112) rfl hx0 ⟨by decide, by decide, by decide⟩ (Or.inl ⟨(3, 70), by rw [h32]; rfl, rfl⟩) ?_
          refine ra_load rfl rfl rfl rfl ?_
          refine ra_getR rfl lk_8_7 (Nat.zero_le _) sh_179 rfl ?_
          refine ra_bipush rfl (by decide) ?_
          refine ra_ialoadJ (j := 20) rfl sh_180 rfl (by decide) rfl (by decide) ?_
          rw [ra_gk hk16]
          have hr33 : ra_in (ra_g σ (180) 20) := (ra_in_g _ _ _)
          exact ra_ireturn rfl rfl ⟨⟨_, hr33, rfl⟩, ⟨hF15, hk16, hk17, hk18, hk19, hk20, ho21⟩⟩
        by_cases h34 : x0 = 4
        · refine ra_switch (t := 120) rfl hx0 ⟨by decide, by decide, by decide⟩ (Or.inl ⟨(4, 78), by rw [h34]; rfl, rfl⟩) ?_
          refine ra_load rfl rfl rfl rfl ?_
          refine ra_getR rfl lk_8_7 (Nat.zero_le _) sh_179 rfl ?_
          refine ra_bipush rfl (by decide) ?_
          refine ra_ialoadJ (j := 19) rfl sh_180 rfl (by decide) rfl (by decide) ?_
          rw [ra_gk hk16]
          have hr35 : ra_in (ra_g σ (180) 19) := (ra_in_g _ _ _)
          exact ra_ireturn rfl rfl ⟨⟨_, hr35, rfl⟩, ⟨hF15, hk16, hk17, hk18, hk19, hk20, ho21⟩⟩
        by_cases h36 : x0 = 5
        · refine ra_switch (t := 128) rfl hx0 ⟨by decide, by decide, by decide⟩ (Or.inl ⟨(5, 86), by rw [h36]; rfl, rfl⟩) ?_
          refine ra_load rfl rfl rfl rfl ?_
          refine ra_cTp (sp_228 (MV_f (WF_k hk16 hw) (by omega))) rfl (ct_228 rfl lk_8_150 (Or.inl rfl) sh_179 (Nat.le_of_ble_eq_true rfl)) ?_
          have hm38 := (MV_f (WF_k hk16 hw) (by omega))
          unfold MF at hm38
          have hr39 : ra_in (rch s12) := (by first | omega | (unfold ra_in at *; omega))
          exact ra_ireturn rfl rfl ⟨⟨_, hr39, rfl⟩, ⟨hF15, hk16, hk17, hk18, hk19, hk20, ho21⟩⟩
        by_cases h40 : x0 = 6
        · refine ra_switch (t := 133) rfl hx0 ⟨by decide, by decide, by decide⟩ (Or.inl ⟨(6, 91), by rw [h40]; rfl, rfl⟩) ?_
          refine ra_load rfl rfl rfl rfl ?_
          refine ra_getR rfl lk_8_7 (Nat.zero_le _) sh_179 rfl ?_
          refine ra_bipush rfl (by decide) ?_
          refine ra_ialoadJ (j := 21) rfl sh_180 rfl (by decide) rfl (by decide) ?_
          rw [ra_gk hk16]
          have hr41 : ra_in (ra_g σ (180) 21) := (ra_in_g _ _ _)
          exact ra_ireturn rfl rfl ⟨⟨_, hr41, rfl⟩, ⟨hF15, hk16, hk17, hk18, hk19, hk20, ho21⟩⟩
        by_cases h42 : x0 = 7
        · refine ra_switch (t := 141) rfl hx0 ⟨by decide, by decide, by decide⟩ (Or.inl ⟨(7, 99), by rw [h42]; rfl, rfl⟩) ?_
          refine ra_load rfl rfl rfl rfl ?_
          refine ra_cIp (sp_235 (MV_f (WF_k hk16 hw) (by omega))) rfl (ct_235 rfl lk_8_394 (Or.inl rfl) sh_179 (Nat.le_of_ble_eq_true rfl)) (fun z44 hz44 => ?_)
          exact ra_ireturn rfl rfl ⟨⟨_, hz44, rfl⟩, ⟨hF15, hk16, hk17, hk18, hk19, hk20, ho21⟩⟩
        refine ra_switch (t := 146) rfl hx0 ⟨by decide, by decide, by decide⟩ (Or.inr ⟨ra_sw_none (by simp only [List.length]; omega), rfl⟩) ?_
        refine ra_load rfl rfl rfl rfl ?_
        refine ra_getR rfl lk_8_7 (Nat.zero_le _) sh_179 rfl ?_
        refine ra_bipush rfl (by decide) ?_
        refine ra_ialoadJ (j := 22) rfl sh_180 rfl (by decide) rfl (by decide) ?_
        rw [ra_gk hk16]
        have hr45 : ra_in (ra_g σ (180) 22) := (ra_in_g _ _ _)
        exact ra_ireturn rfl rfl ⟨⟨_, hr45, rfl⟩, ⟨hF15, hk16, hk17, hk18, hk19, hk20, ho21⟩⟩
      · refine ra_iconst rfl ?_
        exact ra_ireturn rfl rfl ⟨⟨_, (by first | omega | (unfold ra_in at *; omega)), rfl⟩, ⟨hF15, hk16, hk17, hk18, hk19, hk20, ho21⟩⟩
    · exact absurd h22 (by decide)
  · refine ra_iconst rfl ?_
    refine ra_goto rfl rfl ?_
    refine ra_iconst rfl ?_
    refine ra_cT (sp_194 (Or.inr rfl) (by first | omega | (unfold ra_in at *; omega))) rfl (ct_194 rfl lk_8_303 (Or.inl rfl) sh_179 (Nat.le_of_ble_eq_true rfl)) (fun s46 hs46 => ?_)
    obtain ⟨hf47, he48⟩ := hs46
    have hF49 := Fr_tr (lo := 179) (hi := 187) hF3 hf47 (by omega)
    have hk50 : s46 (180) = σ (180) := (hf47 (180) (by omega)).trans hk4
    have hk51 : s46 (181) = σ (181) := (hf47 (181) (by omega)).trans hk5
    have hk52 : s46 (182) = σ (182) := (hf47 (182) (by omega)).trans hk6
    have hk53 : s46 (183) = σ (183) := (hf47 (183) (by omega)).trans hk7
    have hk54 : s46 (184) = σ (184) := (hf47 (184) (by omega)).trans hk8
    have ho55 : ∀ a, a ≠ 7 → a ≠ 10 → ra_g s46 179 a = ra_g σ 179 a := fun a h7 h10 => ((fun a h7 h10 => he48 a h7) a h7 h10).trans (ho9 a h7 h10)
    refine ra_ifeq rfl rfl (by first | omega | (unfold ra_in at *; omega)) (fun h56 => ?_) (fun h56 => ?_)
    · exact absurd h56 (by decide)
    · refine ra_iconst rfl ?_
      exact ra_ireturn rfl rfl ⟨⟨_, (by first | omega | (unfold ra_in at *; omega)), rfl⟩, ⟨hF49, hk50, hk51, hk52, hk53, hk54, ho55⟩⟩
theorem sp_324 {n : Nat} {f : Nat → Int32} {d : Nat} {x0 : Int} {σ : ra_V} (hx0 : ra_in x0) (hw : WF σ) : ra_C (g_Gs n f) g_sh 0 (d + 7) 324 [.index (179), ra_I x0] σ (fun r s => rI r ∧ Fr (179) (187) σ s ∧ s (180) = σ (180) ∧ s (181) = σ (181) ∧ s (182) = σ (182) ∧ s (183) = σ (183) ∧ s (184) = σ (184) ∧ (∀ a, a ≠ 7 → a ≠ 10 → ra_g s 179 a = ra_g σ 179 a)) := by
  refine ra_enter (nn := 0) mt_324 rfl (Nat.le_of_ble_eq_true rfl) rfl (fun h => absurd h (by decide +kernel)) ?_
  have hw0 := WF_a hw
  unfold WFa at hw0
  refine ra_load rfl rfl rfl rfl ?_
  refine ra_iconst rfl ?_
  refine ra_putI rfl lk_8_51 (Nat.zero_le _) sh_179 rfl rfl ?_
  refine ra_newU (by first | omega | (unfold ra_in at *; omega)) (fun s1 hs1 hp2 hp2o => ?_)
  have hp2_99 := hp2o 99 (by decide)
  have hF3 := Fr_tr (lo := 179) (hi := 187) Fr_rf hs1 (by omega)
  have hk4 : s1 (180) = σ (180) := (hs1 (180) (by omega))
  have hk5 : s1 (181) = σ (181) := (hs1 (181) (by omega))
  have hk6 : s1 (182) = σ (182) := (hs1 (182) (by omega))
  have hk7 : s1 (183) = σ (183) := (hs1 (183) (by omega))
  have hk8 : s1 (184) = σ (184) := (hs1 (184) (by omega))
  have ho9 : ∀ a, a ≠ 7 → a ≠ 10 → ra_g s1 179 a = ra_g σ 179 a := fun a h7 h10 => ((fun a h7 h10 => hp2o a h7) a h7 h10).trans ((fun _ _ _ => rfl) a h7 h10)
  refine ra_load rfl rfl rfl rfl ?_
  refine ra_load rfl rfl rfl rfl ?_
  refine ra_i2l rfl hx0 ?_
  refine ra_lconst0 rfl ?_
  refine ra_ldc2 (z := 3) rfl lk_8_339 (by decide) ?_
  refine ra_cTp (sp_193 hx0 (by first | omega | (unfold ra_in at *; omega)) (by first | omega | (unfold ra_in at *; omega))) rfl (ct_193 rfl lk_8_63 (Or.inl rfl) (Nat.le_of_ble_eq_true rfl)) ?_
  refine ra_ifneB rfl rfl (fun h11 => ?_) (fun h11 => ?_)
  · refine ra_iconst rfl ?_
    refine ra_iconst rfl ?_
    refine ra_cT (sp_194 (Or.inl rfl) (by first | omega | (unfold ra_in at *; omega))) rfl (ct_194 rfl lk_8_303 (Or.inl rfl) sh_179 (Nat.le_of_ble_eq_true rfl)) (fun s12 hs12 => ?_)
    obtain ⟨hf13, he14⟩ := hs12
    have hF15 := Fr_tr (lo := 179) (hi := 187) hF3 hf13 (by omega)
    have hk16 : s12 (180) = σ (180) := (hf13 (180) (by omega)).trans hk4
    have hk17 : s12 (181) = σ (181) := (hf13 (181) (by omega)).trans hk5
    have hk18 : s12 (182) = σ (182) := (hf13 (182) (by omega)).trans hk6
    have hk19 : s12 (183) = σ (183) := (hf13 (183) (by omega)).trans hk7
    have hk20 : s12 (184) = σ (184) := (hf13 (184) (by omega)).trans hk8
    have ho21 : ∀ a, a ≠ 7 → a ≠ 10 → ra_g s12 179 a = ra_g σ 179 a := fun a h7 h10 => ((fun a h7 h10 => he14 a h7) a h7 h10).trans (ho9 a h7 h10)
    refine ra_ifeq rfl rfl (by first | omega | (unfold ra_in at *; omega)) (fun h22 => ?_) (fun h22 => ?_)
    · refine ra_load rfl rfl rfl rfl ?_
      refine ra_cQPp (sp_204 ) rfl (ct_204 rfl lk_8_95 (Or.inl rfl) sh_179 (Nat.le_of_ble_eq_true rfl)) (fun z24 hz24 hz24p => ?_)
      refine ra_ifne rfl rfl (ra_in01 hz24) (fun h25 => ?_) (fun h25 => ?_)
      · refine ra_load rfl rfl rfl rfl ?_
        refine ra_ifne rfl rfl hx0 (fun h26 => ?_) (fun h26 => ?_)
        · refine ra_load rfl rfl rfl rfl ?_
          refine ra_iconst rfl ?_
          refine ra_icne rfl rfl hx0 (by first | omega | (unfold ra_in at *; omega)) (fun h27 => ?_) (fun h27 => ?_)
          · refine ra_load rfl rfl rfl rfl ?_
            refine ra_iconst rfl ?_
            refine ra_icne rfl rfl hx0 (by first | omega | (unfold ra_in at *; omega)) (fun h28 => ?_) (fun h28 => ?_)
            · refine ra_load rfl rfl rfl rfl ?_
              refine ra_cTp (sp_234 (MV_f (WF_k hk16 hw) (by omega))) rfl (ct_234 rfl lk_8_162 (Or.inl rfl) sh_179 (Nat.le_of_ble_eq_true rfl)) ?_
              have hm30 := (MV_f (WF_k hk16 hw) (by omega))
              unfold MF at hm30
              have hr31 : ra_in (rbn s12) := (by first | omega | (unfold ra_in at *; omega))
              exact ra_ireturn rfl rfl ⟨⟨_, hr31, rfl⟩, ⟨hF15, hk16, hk17, hk18, hk19, hk20, ho21⟩⟩
            · refine ra_load rfl rfl rfl rfl ?_
              refine ra_cTp (sp_233 (MV_f (WF_k hk16 hw) (by omega))) rfl (ct_233 rfl lk_8_156 (Or.inl rfl) sh_179 (Nat.le_of_ble_eq_true rfl)) ?_
              have hm33 := (MV_f (WF_k hk16 hw) (by omega))
              unfold MF at hm33
              have hr34 : ra_in (rfb s12) := (by first | omega | (unfold ra_in at *; omega))
              refine ra_goto rfl rfl ?_
              exact ra_ireturn rfl rfl ⟨⟨_, hr34, rfl⟩, ⟨hF15, hk16, hk17, hk18, hk19, hk20, ho21⟩⟩
          · refine ra_load rfl rfl rfl rfl ?_
            refine ra_cTp (sp_232 (MV_f (WF_k hk16 hw) (by omega))) rfl (ct_232 rfl lk_8_153 (Or.inl rfl) sh_179 (Nat.le_of_ble_eq_true rfl)) ?_
            have hm36 := (MV_f (WF_k hk16 hw) (by omega))
            unfold MF at hm36
            have hr37 : ra_in (rnx s12) := (by first | omega | (unfold ra_in at *; omega))
            refine ra_goto rfl rfl ?_
            exact ra_ireturn rfl rfl ⟨⟨_, hr37, rfl⟩, ⟨hF15, hk16, hk17, hk18, hk19, hk20, ho21⟩⟩
        · refine ra_load rfl rfl rfl rfl ?_
          refine ra_cIPp (sp_236 (MV_f (WF_k hk16 hw) (by omega))) rfl (ct_236 rfl lk_8_165 (Or.inl rfl) sh_179 (Nat.le_of_ble_eq_true rfl)) (fun z39 hz39 hz39p => ?_)
          refine ra_goto rfl rfl ?_
          exact ra_ireturn rfl rfl ⟨⟨_, hz39, rfl⟩, ⟨hF15, hk16, hk17, hk18, hk19, hk20, ho21⟩⟩
      · refine ra_iconst rfl ?_
        exact ra_ireturn rfl rfl ⟨⟨_, (by first | omega | (unfold ra_in at *; omega)), rfl⟩, ⟨hF15, hk16, hk17, hk18, hk19, hk20, ho21⟩⟩
    · exact absurd h22 (by decide)
  · refine ra_iconst rfl ?_
    refine ra_goto rfl rfl ?_
    refine ra_iconst rfl ?_
    refine ra_cT (sp_194 (Or.inr rfl) (by first | omega | (unfold ra_in at *; omega))) rfl (ct_194 rfl lk_8_303 (Or.inl rfl) sh_179 (Nat.le_of_ble_eq_true rfl)) (fun s40 hs40 => ?_)
    obtain ⟨hf41, he42⟩ := hs40
    have hF43 := Fr_tr (lo := 179) (hi := 187) hF3 hf41 (by omega)
    have hk44 : s40 (180) = σ (180) := (hf41 (180) (by omega)).trans hk4
    have hk45 : s40 (181) = σ (181) := (hf41 (181) (by omega)).trans hk5
    have hk46 : s40 (182) = σ (182) := (hf41 (182) (by omega)).trans hk6
    have hk47 : s40 (183) = σ (183) := (hf41 (183) (by omega)).trans hk7
    have hk48 : s40 (184) = σ (184) := (hf41 (184) (by omega)).trans hk8
    have ho49 : ∀ a, a ≠ 7 → a ≠ 10 → ra_g s40 179 a = ra_g σ 179 a := fun a h7 h10 => ((fun a h7 h10 => he42 a h7) a h7 h10).trans (ho9 a h7 h10)
    refine ra_ifeq rfl rfl (by first | omega | (unfold ra_in at *; omega)) (fun h50 => ?_) (fun h50 => ?_)
    · exact absurd h50 (by decide)
    · refine ra_iconst rfl ?_
      exact ra_ireturn rfl rfl ⟨⟨_, (by first | omega | (unfold ra_in at *; omega)), rfl⟩, ⟨hF43, hk44, hk45, hk46, hk47, hk48, ho49⟩⟩
theorem sp_325 {n : Nat} {f : Nat → Int32} {d : Nat} {x0 : Int} {x1 : Int} {σ : ra_V} (hx0 : ra_in x0) (hx1 : x1 = 0 ∨ x1 = 1) (hw : WF σ) : ra_C (g_Gs n f) g_sh 0 (d + 8) 325 [.index (179), ra_I x0, ra_I x1] σ (fun r s => rI r ∧ Fr (179) (187) σ s ∧ s (180) = σ (180) ∧ s (181) = σ (181) ∧ s (182) = σ (182) ∧ s (183) = σ (183) ∧ s (184) = σ (184) ∧ (∀ a, a ≠ 7 → a ≠ 10 → ra_g s 179 a = ra_g σ 179 a)) := by
  refine ra_enter (nn := 0) mt_325 rfl (Nat.le_of_ble_eq_true rfl) rfl (fun h => absurd h (by decide +kernel)) ?_
  have hw0 := WF_a hw
  unfold WFa at hw0
  refine ra_load rfl rfl rfl rfl ?_
  refine ra_iconst rfl ?_
  refine ra_putI rfl lk_8_51 (Nat.zero_le _) sh_179 rfl rfl ?_
  refine ra_newU (by first | omega | (unfold ra_in at *; omega)) (fun s1 hs1 hp2 hp2o => ?_)
  have hp2_99 := hp2o 99 (by decide)
  have hF3 := Fr_tr (lo := 179) (hi := 187) Fr_rf hs1 (by omega)
  have hk4 : s1 (180) = σ (180) := (hs1 (180) (by omega))
  have hk5 : s1 (181) = σ (181) := (hs1 (181) (by omega))
  have hk6 : s1 (182) = σ (182) := (hs1 (182) (by omega))
  have hk7 : s1 (183) = σ (183) := (hs1 (183) (by omega))
  have hk8 : s1 (184) = σ (184) := (hs1 (184) (by omega))
  have ho9 : ∀ a, a ≠ 7 → a ≠ 10 → ra_g s1 179 a = ra_g σ 179 a := fun a h7 h10 => ((fun a h7 h10 => hp2o a h7) a h7 h10).trans ((fun _ _ _ => rfl) a h7 h10)
  refine ra_load rfl rfl rfl rfl ?_
  refine ra_cQPp (sp_204 ) rfl (ct_204 rfl lk_8_95 (Or.inl rfl) sh_179 (Nat.le_of_ble_eq_true rfl)) (fun z11 hz11 hz11p => ?_)
  refine ra_ifeq rfl rfl (ra_in01 hz11) (fun h12 => ?_) (fun h12 => ?_)
  · refine ra_iconst rfl ?_
    exact ra_ireturn rfl rfl ⟨⟨_, (by first | omega | (unfold ra_in at *; omega)), rfl⟩, ⟨hF3, hk4, hk5, hk6, hk7, hk8, ho9⟩⟩
  · refine ra_load rfl rfl rfl rfl ?_
    refine ra_i2l rfl hx0 ?_
    refine ra_lconst0 rfl ?_
    refine ra_load rfl rfl rfl rfl ?_
    refine ra_cTp (sp_234 (MV_f (WF_k hk4 hw) (by omega))) rfl (ct_234 rfl lk_8_162 (Or.inl rfl) sh_179 (Nat.le_of_ble_eq_true rfl)) ?_
    have hm14 := (MV_f (WF_k hk4 hw) (by omega))
    unfold MF at hm14
    have hr15 : ra_in (rbn s1) := (by first | omega | (unfold ra_in at *; omega))
    refine ra_iconst rfl ?_
    refine ra_isub rfl ?_
    refine ra_i2l rfl (by first | omega | (unfold ra_in at *; omega)) ?_
    refine ra_cTp (sp_193 hx0 (by first | omega | (unfold ra_in at *; omega)) (by first | omega | (unfold ra_in at *; omega))) rfl (ct_193 rfl lk_8_63 (Or.inl rfl) (Nat.le_of_ble_eq_true rfl)) ?_
    refine ra_ifneB rfl rfl (fun h17 => ?_) (fun h17 => ?_)
    · refine ra_load rfl rfl rfl rfl ?_
      refine ra_ifeq rfl rfl (ra_in01 hx1) (fun h18 => ?_) (fun h18 => ?_)
      · refine ra_load rfl rfl rfl rfl ?_
        refine ra_load rfl rfl rfl rfl ?_
        refine ra_cIPp (sp_237 hx0 (MV_f (WF_k hk4 hw) (by omega)) (by first | assumption | rfl | omega)) rfl (ct_237 rfl lk_8_171 (Or.inl rfl) sh_179 (Nat.le_of_ble_eq_true rfl)) (fun z20 hz20 hz20p => ?_)
        exact ra_ireturn rfl rfl ⟨⟨_, hz20, rfl⟩, ⟨hF3, hk4, hk5, hk6, hk7, hk8, ho9⟩⟩
      · refine ra_load rfl rfl rfl rfl ?_
        refine ra_load rfl rfl rfl rfl ?_
        refine ra_cIPp (sp_238 hx0 (MV_f (WF_k hk4 hw) (by omega)) (by first | assumption | rfl | omega)) rfl (ct_238 rfl lk_8_168 (Or.inl rfl) sh_179 (Nat.le_of_ble_eq_true rfl)) (fun z22 hz22 hz22p => ?_)
        refine ra_goto rfl rfl ?_
        exact ra_ireturn rfl rfl ⟨⟨_, hz22, rfl⟩, ⟨hF3, hk4, hk5, hk6, hk7, hk8, ho9⟩⟩
    · refine ra_iconst rfl ?_
      exact ra_ireturn rfl rfl ⟨⟨_, (by first | omega | (unfold ra_in at *; omega)), rfl⟩, ⟨hF3, hk4, hk5, hk6, hk7, hk8, ho9⟩⟩
theorem sp_317 {n : Nat} {f : Nat → Int32} {d : Nat} {x0 : Int} {x1 : Int} {σ : ra_V} (hx0 : ra_in x0) (hx1 : ra_in x1) (hw : WF σ) : ra_C (g_Gs n f) g_sh 0 (d + 5) 317 [.index (179), ra_I x0, ra_I x1] σ (fun r s => rI r ∧ Fr (179) (187) σ s ∧ s (180) = σ (180) ∧ s (181) = σ (181) ∧ s (182) = σ (182) ∧ s (183) = σ (183) ∧ s (184) = σ (184) ∧ (∀ a, a ≠ 7 → a ≠ 10 → ra_g s 179 a = ra_g σ 179 a)) := by
  refine ra_enter (nn := 0) mt_317 rfl (Nat.le_of_ble_eq_true rfl) rfl (fun h => absurd h (by decide +kernel)) ?_
  have hw0 := WF_a hw
  unfold WFa at hw0
  refine ra_load rfl rfl rfl rfl ?_
  refine ra_iconst rfl ?_
  refine ra_putI rfl lk_8_51 (Nat.zero_le _) sh_179 rfl rfl ?_
  refine ra_newU (by first | omega | (unfold ra_in at *; omega)) (fun s1 hs1 hp2 hp2o => ?_)
  have hp2_99 := hp2o 99 (by decide)
  have hF3 := Fr_tr (lo := 179) (hi := 187) Fr_rf hs1 (by omega)
  have hk4 : s1 (180) = σ (180) := (hs1 (180) (by omega))
  have hk5 : s1 (181) = σ (181) := (hs1 (181) (by omega))
  have hk6 : s1 (182) = σ (182) := (hs1 (182) (by omega))
  have hk7 : s1 (183) = σ (183) := (hs1 (183) (by omega))
  have hk8 : s1 (184) = σ (184) := (hs1 (184) (by omega))
  have ho9 : ∀ a, a ≠ 7 → a ≠ 10 → ra_g s1 179 a = ra_g σ 179 a := fun a h7 h10 => ((fun a h7 h10 => hp2o a h7) a h7 h10).trans ((fun _ _ _ => rfl) a h7 h10)
  refine ra_load rfl rfl rfl rfl ?_
  refine ra_load rfl rfl rfl rfl ?_
  refine ra_iconst rfl ?_
  refine ra_cQP (sp_268 hx0 (by first | omega | (unfold ra_in at *; omega))) rfl (ct_268 rfl lk_8_318 (Or.inl rfl) sh_179 (Nat.le_of_ble_eq_true rfl)) (fun z11 s10 hz11 hz11p hs10 => ?_)
  rw [wq_k hk4] at hz11p
  obtain ⟨hf12, he13⟩ := hs10
  have hF14 := Fr_tr (lo := 179) (hi := 187) hF3 hf12 (by omega)
  have hk15 : s10 (180) = σ (180) := (hf12 (180) (by omega)).trans hk4
  have hk16 : s10 (181) = σ (181) := (hf12 (181) (by omega)).trans hk5
  have hk17 : s10 (182) = σ (182) := (hf12 (182) (by omega)).trans hk6
  have hk18 : s10 (183) = σ (183) := (hf12 (183) (by omega)).trans hk7
  have hk19 : s10 (184) = σ (184) := (hf12 (184) (by omega)).trans hk8
  have ho20 : ∀ a, a ≠ 7 → a ≠ 10 → ra_g s10 179 a = ra_g σ 179 a := fun a h7 h10 => ((fun a h7 h10 => he13 a h7) a h7 h10).trans (ho9 a h7 h10)
  refine ra_ifeq rfl rfl (ra_in01 hz11) (fun h21 => ?_) (fun h21 => ?_)
  · refine ra_load rfl rfl rfl rfl ?_
    refine ra_load rfl rfl rfl rfl ?_
    refine ra_load rfl rfl rfl rfl ?_
    refine ra_cIPp (sp_224 hx0 hx1 (WF_k hk15 hw) (sp_k hk15 rfl (hz11p (by omega)))) rfl (ct_224 rfl lk_8_183 (Or.inl rfl) sh_179 (Nat.le_of_ble_eq_true rfl)) (fun z23 hz23 hz23p => ?_)
    refine ra_ifne rfl rfl hz23 (fun h24 => ?_) (fun h24 => ?_)
    · refine ra_iconst rfl ?_
      exact ra_ireturn rfl rfl ⟨⟨_, (by first | omega | (unfold ra_in at *; omega)), rfl⟩, ⟨hF14, hk15, hk16, hk17, hk18, hk19, ho20⟩⟩
    · refine ra_load rfl rfl rfl rfl ?_
      refine ra_load rfl rfl rfl rfl ?_
      refine ra_load rfl rfl rfl rfl ?_
      refine ra_cIp (sp_227 hx0 hx1 (WF_k hk15 hw) (sp_k hk15 rfl (hz11p (by omega))) (mok_to (WF_k hk15 hw) (hz23p (by omega)))) rfl (ct_227 rfl lk_8_388 (Or.inl rfl) sh_179 (Nat.le_of_ble_eq_true rfl)) (fun z26 hz26 => ?_)
      refine ra_goto rfl rfl ?_
      exact ra_ireturn rfl rfl ⟨⟨_, hz26, rfl⟩, ⟨hF14, hk15, hk16, hk17, hk18, hk19, ho20⟩⟩
  · refine ra_iconst rfl ?_
    exact ra_ireturn rfl rfl ⟨⟨_, (by first | omega | (unfold ra_in at *; omega)), rfl⟩, ⟨hF14, hk15, hk16, hk17, hk18, hk19, ho20⟩⟩
end RB
end
section
/-! the row changed: it stays right -/
section RB
/-- places that matter -/
def REL (a : Nat) : Prop := a < 5 ∨ (16 ≤ a ∧ a ≤ 22) ∨ (24 ≤ a ∧ a < 88 ∧ (a - 24) % 8 < 4)
section
variable {σ s : ra_V}
theorem wq_rel (h : ∀ a, REL a → ra_g s 180 a = ra_g σ 180 a) {p w : Int} (h0 : 0 ≤ p) (h1 : p < 8) (h2 : 0 ≤ w) (h3 : w < 4) : wq s p w = wq σ p w := h _ (Or.inr (Or.inr (by omega)))
theorem WF_rel (h : ∀ a, REL a → ra_g s 180 a = ra_g σ 180 a) (hw : WF σ) : WF s := by
  obtain ⟨h1, h2, h3, h4, h5⟩ := hw
  have e : ∀ p w, 0 ≤ p → p < 8 → 0 ≤ w → w < 4 → wf (rw_ s) p w = wf (rw_ σ) p w := fun p w p0 p1 w0 w1 => wq_rel h p0 p1 w0 w1
  have e0 : ∀ j, REL j → rw_ s j = rw_ σ j := fun j hj => h j hj
  have r : ∀ j, j < 5 → REL j := fun j hj => Or.inl hj
  have r2 : ∀ j, 16 ≤ j → j ≤ 22 → REL j := fun j a b => Or.inr (Or.inl ⟨a, b⟩)
  refine ⟨?_, fun p p0 p1 => ?_, fun p p0 p1 pe => ?_, fun p q p0 p1 q0 q1 hn pe qe => ?_, ?_⟩
  · unfold WFs
    rw [e0 0 (r 0 (by omega)), e0 1 (r 1 (by omega)), e0 2 (r 2 (by omega)), e0 3 (r 3 (by omega)), e0 4 (r 4 (by omega))]
    exact h1
  · rw [e p 0 p0 p1 (by omega) (by omega)]
    exact h2 p p0 p1
  · rw [e p 0 p0 p1 (by omega) (by omega)] at pe
    have := h3 p p0 p1 pe
    unfold WFp at *
    rw [e p 3 p0 p1 (by omega) (by omega), e p 2 p0 p1 (by omega) (by omega), e p 1 p0 p1 (by omega) (by omega), e0 0 (r 0 (by omega)), e0 1 (r 1 (by omega)), e0 2 (r 2 (by omega))]
    exact this
  · rw [e p 0 p0 p1 (by omega) (by omega)] at pe
    rw [e q 0 q0 q1 (by omega) (by omega)] at qe
    rw [e p 1 p0 p1 (by omega) (by omega), e p 2 p0 p1 (by omega) (by omega), e q 1 q0 q1 (by omega) (by omega), e q 2 q0 q1 (by omega) (by omega)]
    exact h4 p q p0 p1 q0 q1 hn pe qe
  · rcases h5 with h5 | h5
    · exact Or.inl ((e0 16 (r2 16 (by omega) (by omega))).trans h5)
    · refine Or.inr ?_
      have hp := h5.1
      unfold WFm at *
      rw [e0 16 (r2 16 (by omega) (by omega)), e0 17 (r2 17 (by omega) (by omega)), e0 18 (r2 18 (by omega) (by omega)), e0 19 (r2 19 (by omega) (by omega)), e0 20 (r2 20 (by omega) (by omega)), e0 21 (r2 21 (by omega) (by omega)), e0 22 (r2 22 (by omega) (by omega)), e0 0 (r 0 (by omega)), e0 1 (r 1 (by omega)), e0 2 (r 2 (by omega)), e _ 0 hp.1 hp.2 (by omega) (by omega), e _ 1 hp.1 hp.2 (by omega) (by omega), e _ 2 hp.1 hp.2 (by omega) (by omega)]
      obtain ⟨c1, c2, c3, c4, c5, c6, c7, c8, c9, c10, c11⟩ := h5
      refine ⟨c1, c2, c3, c4, c5, c6, c7, c8, c9, c10, fun q q0 q1 hn qe => ?_⟩
      rw [e q 0 q0 q1 (by omega) (by omega)] at qe
      rw [e q 1 q0 q1 (by omega) (by omega), e q 2 q0 q1 (by omega) (by omega)]
      exact c11 q q0 q1 hn qe
/-- all that matters is as it was, but partition p's places -/
def AG (σ s : ra_V) (p : Int) : Prop := ∀ a : Nat, REL a → ¬ (24 + 8 * p ≤ (a : Int) ∧ (a : Int) < 24 + 8 * p + 8) → ra_g s 180 a = ra_g σ 180 a
theorem AG_q {p q w : Int} (h : AG σ s p) (hn : q ≠ p) (h0 : 0 ≤ q) (h1 : q < 8) (h2 : 0 ≤ w) (h3 : w < 4) : wq s q w = wq σ q w := h _ (Or.inr (Or.inr (by omega))) (by omega)
theorem AG_s {p : Int} (h : AG σ s p) (hp : 0 ≤ p) (j : Nat) (hj : j < 5 ∨ (16 ≤ j ∧ j ≤ 22)) : ra_g s 180 j = ra_g σ 180 j := h j (by unfold REL; omega) (by omega)
theorem WF_chg {p : Int} (hw : WF σ) (hp : 0 ≤ p ∧ p < 8) (h : AG σ s p) (hm : ra_g σ 180 16 ≠ p)
    (he : wq s p 0 = 0 ∨ (wq s p 0 = 1 ∧ 1 ≤ wq s p 3 ∧ wq s p 3 ≤ wq s p 2 ∧ US σ (wq s p 1) (wq s p 2) ∧ ¬ TK σ (wq s p 1) (wq s p 2) p ∧ ¬ BT σ (wq s p 1) (wq s p 2))) : WF s := by
  have g := AG_s h hp.1
  have q_ := fun {q w : Int} => AG_q (q := q) (w := w) h
  have ap : ∀ q, 0 ≤ q → q < 8 → q ≠ p → wq σ q 0 = 1 → wq s p 0 = 1 → wq s p 1 + wq s p 2 ≤ wq σ q 1 ∨ wq σ q 1 + wq σ q 2 ≤ wq s p 1 := fun q q0 q1 hn hq hs => by
    rcases he with he | ⟨-, e1, e2, e3, e4, -⟩
    · omega
    · by_cases c1 : wq s p 1 < wq σ q 1 + wq σ q 2
      · by_cases c2 : wq σ q 1 < wq s p 1 + wq s p 2
        · exact absurd ⟨q, q0, q1, hn, hq, c1, c2⟩ e4
        · omega
      · omega
  refine ⟨?_, fun q q0 q1 => ?_, fun q q0 q1 qe => ?_, fun q r q0 q1 r0 r1 hn qe re => ?_, ?_⟩
  · have := hw.1
    unfold WFs at *
    show (64 ≤ ra_g s 180 0 ∧ ra_g s 180 0 ≤ 600) ∧ (0 ≤ ra_g s 180 1 ∧ ra_g s 180 1 ≤ 31) ∧ (0 ≤ ra_g s 180 2 ∧ ra_g s 180 2 ≤ 31) ∧ (1 ≤ ra_g s 180 3 ∧ ra_g s 180 3 ≤ 32) ∧ (1 ≤ ra_g s 180 4 ∧ ra_g s 180 4 ≤ 16)
    rw [g 0 (by omega), g 1 (by omega), g 2 (by omega), g 3 (by omega), g 4 (by omega)]
    exact this
  · show wq s q 0 = 0 ∨ wq s q 0 = 1
    by_cases e : q = p
    · rw [e]; rcases he with he | ⟨he, -⟩ <;> omega
    · rw [q_ e q0 q1 (by omega) (by omega)]; exact WF_ex hw q0 q1
  · have qe : wq s q 0 = 1 := qe
    show 1 ≤ wq s q 3 ∧ wq s q 3 ≤ wq s q 2 ∧ ra_g s 180 1 ≤ wq s q 1 ∧ wq s q 1 + wq s q 2 ≤ ra_g s 180 0 - ra_g s 180 2
    rw [g 1 (by omega), g 0 (by omega), g 2 (by omega)]
    by_cases e : q = p
    · rw [e] at qe ⊢
      rcases he with he | ⟨-, e1, e2, e3, -, -⟩
      · omega
      · unfold US at e3; omega
    · rw [q_ e q0 q1 (by omega) (by omega)] at qe
      rw [q_ e q0 q1 (by omega) (by omega), q_ e q0 q1 (by omega) (by omega), q_ e q0 q1 (by omega) (by omega)]
      exact WF_p hw q0 q1 qe
  · have qe : wq s q 0 = 1 := qe
    have re : wq s r 0 = 1 := re
    show wq s q 1 + wq s q 2 ≤ wq s r 1 ∨ wq s r 1 + wq s r 2 ≤ wq s q 1
    by_cases e : q = p
    · subst e
      have e2 : r ≠ q := Ne.symm hn
      rw [q_ e2 r0 r1 (by omega) (by omega)] at re
      rw [q_ e2 r0 r1 (by omega) (by omega), q_ e2 r0 r1 (by omega) (by omega)]
      exact ap r r0 r1 e2 re qe
    · rw [q_ e q0 q1 (by omega) (by omega)] at qe
      rw [q_ e q0 q1 (by omega) (by omega), q_ e q0 q1 (by omega) (by omega)]
      by_cases e2 : r = p
      · subst e2
        have := ap q q0 q1 e qe re
        omega
      · rw [q_ e2 r0 r1 (by omega) (by omega)] at re
        rw [q_ e2 r0 r1 (by omega) (by omega), q_ e2 r0 r1 (by omega) (by omega)]
        exact WF_ap hw q0 q1 r0 r1 hn qe re
  · by_cases hmv : ra_g σ 180 16 = -1
    · exact Or.inl ((g 16 (by omega)).trans hmv)
    · refine Or.inr ?_
      have hv := WF_m hw hmv
      have hz := WF_msz hw hmv
      have e16 := g 16 (by omega)
      obtain ⟨c1, c2, c3, c4, c5, c6, c7, c8, c9, c10, c11⟩ := hv
      have k : ∀ w, 0 ≤ w → w < 4 → wq s (ra_g s 180 16) w = wq σ (ra_g σ 180 16) w := fun w w0 w1 => by
        rw [e16]
        exact q_ hm hz.1.1 hz.1.2 w0 w1
      have k0 : wf (rw_ s) (rw_ s 16) 0 = wf (rw_ σ) (rw_ σ 16) 0 := k 0 (by omega) (by omega)
      have k1 : wf (rw_ s) (rw_ s 16) 1 = wf (rw_ σ) (rw_ σ 16) 1 := k 1 (by omega) (by omega)
      have k2 : wf (rw_ s) (rw_ s 16) 2 = wf (rw_ σ) (rw_ σ 16) 2 := k 2 (by omega) (by omega)
      have j : ∀ n, (n < 5 ∨ (16 ≤ n ∧ n ≤ 22)) → rw_ s n = rw_ σ n := fun n hn => g n hn
      unfold WFm
      rw [k0, k1, k2, j 16 (by omega), j 17 (by omega), j 18 (by omega), j 19 (by omega), j 20 (by omega), j 21 (by omega), j 22 (by omega), j 0 (by omega), j 1 (by omega), j 2 (by omega)]
      refine ⟨c1, c2, c3, c4, c5, c6, c7, c8, c9, c10, fun q q0 q1 hn qe => ?_⟩
      have qe : wq s q 0 = 1 := qe
      show ra_g σ 180 18 + wq σ (ra_g σ 180 16) 2 ≤ wq s q 1 ∨ wq s q 1 + wq s q 2 ≤ ra_g σ 180 18
      by_cases e : q = p
      · subst e
        rcases he with he | ⟨-, e1, e2, e3, -, e5⟩
        · omega
        · unfold BT at e5
          omega
      · rw [q_ e q0 q1 (by omega) (by omega)] at qe
        rw [q_ e q0 q1 (by omega) (by omega), q_ e q0 q1 (by omega) (by omega)]
        exact c11 q q0 q1 hn qe
end
end RB
end
section
/-! rows copied -/
section RB
def CPO (σ s : ra_V) (k0 k2 : Nat) (at_ into many : Int) : Prop := ∀ a : Nat, ra_g s k2 a = if into ≤ (a : Int) ∧ (a : Int) < into + many then ra_g σ k0 ((a : Int) - into + at_).toNat else ra_g σ k2 a
theorem cp_0 {σ : ra_V} {k0 k2 : Nat} {at_ into : Int} : CPO σ σ k0 k2 at_ into 0 := fun a => (if_neg (by omega)).symm
theorem cp_y {σ s s1 : ra_V} {k0 k2 : Nat} {at_ into v : Int} (h : CPO σ s k0 k2 at_ into v) (hv : 0 ≤ v) (hi : 0 ≤ into) (ha : 0 ≤ at_) (hk : k0 ≠ k2 → s k0 = σ k0) (ho : k0 = k2 → into ≤ at_)
    (b1 : ra_g s1 k2 (into + v).toNat = ra_g s k0 (at_ + v).toNat) (b2 : ∀ a, a ≠ (into + v).toNat → ra_g s1 k2 a = ra_g s k2 a) : CPO σ s1 k0 k2 at_ into (v + 1) := by
  intro a
  by_cases e : a = (into + v).toNat
  · have e2 : ((a : Int) - into + at_).toNat = (at_ + v).toNat := by omega
    rw [e, b1, ← e, if_pos (by omega), e2]
    by_cases hk2 : k0 = k2
    · subst hk2
      have := ho rfl
      rw [h, if_neg (by omega)]
    · exact ra_gk (hk hk2)
  · rw [b2 a e, h a]
    by_cases c : into ≤ (a : Int) ∧ (a : Int) < into + v
    · rw [if_pos c, if_pos (by omega)]
    · rw [if_neg c, if_neg (by omega)]
/-- a row of 688 within a row, as if it were w -/
def rowV (σ : ra_V) (k off : Nat) : ra_V := fun _ j => σ k (off + j)
theorem rowV_g {σ : ra_V} {k off a j : Nat} : ra_g (rowV σ k off) a j = ra_g σ k (off + j) := rfl
/-- what can be undone is right -/
def PW (σ : ra_V) : Prop := (0 ≤ ra_g σ 179 5 ∧ ra_g σ 179 5 ≤ 10) ∧ ∀ i : Nat, (i : Int) < ra_g σ 179 5 → WF (rowV σ 184 (688 * i))
theorem PW_k {σ s : ra_V} (h : PW σ) (h1 : ra_g s 179 5 = ra_g σ 179 5) (h2 : s 184 = σ 184) : PW s := by
  obtain ⟨p1, p2⟩ := h
  refine ⟨by omega, fun i hi => ?_⟩
  refine WF_sc (σ := rowV σ 184 (688 * i)) (fun a _ => ?_) (p2 i (by omega))
  rw [rowV_g, rowV_g]
  exact ra_gk h2
theorem pw_push {σ s s2 : ra_V} (hw : WF σ) (h0 : 0 ≤ ra_g σ 179 5) (h1 : ra_g σ 179 5 < 10) (hp : ∀ i : Nat, (i : Int) < ra_g σ 179 5 → WF (rowV σ 184 (688 * i))) (hc : CPO σ s 180 184 0 (688 * ra_g σ 179 5) 688) (h5 : ra_g s2 179 5 = ra_g σ 179 5 + 1) (h6 : s2 184 = s 184) : PW s2 := by
  refine ⟨by omega, fun i hi => ?_⟩
  by_cases e : (i : Int) = ra_g σ 179 5
  · refine WF_sc (σ := σ) (fun a ha => ?_) hw
    rw [rowV_g, ra_gk h6, hc, if_pos (by omega)]
    congr 1
    omega
  · refine WF_sc (σ := rowV σ 184 (688 * i)) (fun a ha => ?_) (hp i (by omega))
    rw [rowV_g, rowV_g, ra_gk h6, hc, if_neg (by omega)]
theorem pw_shift {σ s : ra_V} (hp : ∀ i : Nat, (i : Int) < 10 → WF (rowV σ 184 (688 * i))) (hc : CPO σ s 184 184 688 0 6192) : ∀ i : Nat, (i : Int) < 9 → WF (rowV s 184 (688 * i)) := by
  intro i hi
  refine WF_sc (σ := rowV σ 184 (688 * (i + 1))) (fun a ha => ?_) (hp (i + 1) (by omega))
  rw [rowV_g, rowV_g, hc, if_pos (by omega)]
  congr 1
  omega
/-- an empty disk -/
theorem wf_clear {s : ra_V} {x : Int} (hx : 64 ≤ x ∧ x ≤ 600) (h0 : ra_g s 180 0 = x) (h3 : ra_g s 180 3 = 1) (h4 : ra_g s 180 4 = 4) (h16 : ra_g s 180 16 = -1) (h : ∀ a, a < 88 → a ≠ 0 → a ≠ 3 → a ≠ 4 → a ≠ 16 → ra_g s 180 a = 0) : WF s := by
  have e : ∀ p, 0 ≤ p → p < 8 → wf (rw_ s) p 0 = 0 := fun p p0 p1 => h (24 + 8 * p + 0).toNat (by omega) (by omega) (by omega) (by omega) (by omega)
  have h1 := h 1 (by omega) (by omega) (by omega) (by omega) (by omega)
  have h2 := h 2 (by omega) (by omega) (by omega) (by omega) (by omega)
  refine ⟨?_, fun p p0 p1 => Or.inl (e p p0 p1), fun p p0 p1 pe => ?_, fun p q p0 p1 q0 q1 hn pe qe => ?_, Or.inl h16⟩
  · show (64 ≤ ra_g s 180 0 ∧ ra_g s 180 0 ≤ 600) ∧ (0 ≤ ra_g s 180 1 ∧ ra_g s 180 1 ≤ 31) ∧ (0 ≤ ra_g s 180 2 ∧ ra_g s 180 2 ≤ 31) ∧ (1 ≤ ra_g s 180 3 ∧ ra_g s 180 3 ≤ 32) ∧ (1 ≤ ra_g s 180 4 ∧ ra_g s 180 4 ≤ 16)
    omega
  · rw [e p p0 p1] at pe
    omega
  · rw [e p p0 p1] at pe
    omega
end RB
end
section
/-! the reference: what its methods do (printed by wip/gen/ref.py) -/
section RB
theorem lp_195_3 {n : Nat} {f : Nat → Int32} {d : Nat} {k0 n0 : Nat} {x1 : Int} {k2 n2 : Nat} {x3 : Int} {x4 : Int} {σ : ra_V} (hsh0 : g_sh[k0]? = some (.inr (0, n0, false, none))) (hn0 : n0 ≤ 2147483647) (hx1 : ra_in x1) (hsh2 : g_sh[k2]? = some (.inr (0, n2, false, none))) (hn2 : n2 ≤ 2147483647) (hx3 : ra_in x3) (hx4 : ra_in x4) (hb : 0 ≤ x1 ∧ x1 + x4 ≤ n0 ∧ 0 ≤ x3 ∧ x3 + x4 ≤ n2 ∧ 0 ≤ x4 ∧ x4 ≤ 100000) (ho : k0 = k2 → x3 ≤ x1) : ∀ (nn : Nat) (v5 : Int) (s : ra_V) (hv5_0 : 0 ≤ v5) (hv5_1 : v5 ≤ x4) (hF : Fr (k2) (k2 + 1) σ s) (hc : CPO σ s k0 k2 x1 x3 v5) (hk : k0 ≠ k2 → s k0 = σ k0) (hm : ((x4 - v5 : Int)).toNat < nn), ra_P (g_Gs n f) g_sh 0 (d + 0) g_m_X8_copies 3 [some (.index (k0)), some (ra_I x1), some (.index (k2)), some (ra_I x3), some (ra_I x4), some (ra_I v5)] [] s (fun r s => rV r ∧ Fr (k2) (k2 + 1) σ s ∧ CPO σ s k0 k2 x1 x3 x4) := by
  intro nn
  induction nn with
  | zero => intro v5 s hv5_0 hv5_1 hF hc hk hm; exact absurd hm (Nat.not_lt_zero _)
  | succ nn ih =>
    intro v5 s hv5_0 hv5_1 hF hc hk hm
    refine ra_load rfl rfl rfl rfl ?_
    refine ra_load rfl rfl rfl rfl ?_
    refine ra_icge rfl rfl (by first | omega | (unfold ra_in at *; omega)) hx4 (fun h1 => ?_) (fun h1 => ?_)
    · exact ra_return rfl rfl ⟨rfl, ⟨hF, by obtain rfl : v5 = x4 := (by omega); exact hc⟩⟩
    · refine ra_load rfl rfl rfl rfl ?_
      refine ra_load rfl rfl rfl rfl ?_
      refine ra_load rfl rfl rfl rfl ?_
      refine ra_iadd rfl ?_
      refine ra_load rfl rfl rfl rfl ?_
      refine ra_load rfl rfl rfl rfl ?_
      refine ra_load rfl rfl rfl rfl ?_
      refine ra_iadd rfl ?_
      refine ra_iaload rfl hsh0 rfl hn0 (by first | omega | (unfold ra_in at *; omega)) (by first | omega | (unfold ra_in at *; omega)) ?_
      have hr2 : ra_in (ra_g s (k0) (x1 + v5).toNat) := (ra_in_g _ _ _)
      refine ra_iastore rfl hsh2 rfl hn2 (by first | omega | (unfold ra_in at *; omega)) (by first | omega | (unfold ra_in at *; omega)) ?_
      refine ra_newR hr2 (fun s3 hs3 hs3v hs3o => ?_)
      have hF4 := Fr_tr (lo := k2) (hi := k2 + 1) hF hs3 (by omega)
      refine ra_iinc (L' := [_, _, _, _, _, _]) rfl rfl (Nat.le_of_ble_eq_true rfl) rfl ?_
      refine ra_goto rfl rfl ?_
      exact ra_weak (by repeat' constructor) (ih (v5 + 1) s3 (by first | omega | (unfold ra_in at *; omega)) (by first | omega | (unfold ra_in at *; omega)) hF4 (cp_y hc (by omega) (by omega) (by omega) hk ho hs3v hs3o) (fun q => (hs3 k0 (by omega)).trans (hk q)) (by first | omega | (unfold ra_in at *; omega)))
theorem sp_195 {n : Nat} {f : Nat → Int32} {d : Nat} {k0 n0 : Nat} {x1 : Int} {k2 n2 : Nat} {x3 : Int} {x4 : Int} {σ : ra_V} (hsh0 : g_sh[k0]? = some (.inr (0, n0, false, none))) (hn0 : n0 ≤ 2147483647) (hx1 : ra_in x1) (hsh2 : g_sh[k2]? = some (.inr (0, n2, false, none))) (hn2 : n2 ≤ 2147483647) (hx3 : ra_in x3) (hx4 : ra_in x4) (hb : 0 ≤ x1 ∧ x1 + x4 ≤ n0 ∧ 0 ≤ x3 ∧ x3 + x4 ≤ n2 ∧ 0 ≤ x4 ∧ x4 ≤ 100000) (ho : k0 = k2 → x3 ≤ x1) : ra_C (g_Gs n f) g_sh 0 (d + 1) 195 [.index (k0), ra_I x1, .index (k2), ra_I x3, ra_I x4] σ (fun r s => rV r ∧ Fr (k2) (k2 + 1) σ s ∧ CPO σ s k0 k2 x1 x3 x4) := by
  refine ra_enter (nn := 1) mt_195 rfl (Nat.le_of_ble_eq_true rfl) rfl (fun h => absurd h (by decide +kernel)) ?_
  refine ra_iconst rfl ?_
  refine ra_store (L' := [_, _, _, _, _, _]) rfl rfl rfl (Nat.le_of_ble_eq_true rfl) rfl ?_
  exact ra_weak (by repeat' constructor) (lp_195_3 hsh0 hn0 hx1 hsh2 hn2 hx3 hx4 hb ho _ (0) σ (by first | omega | (unfold ra_in at *; omega)) (by first | omega | (unfold ra_in at *; omega)) Fr_rf cp_0 (fun _ => rfl) (Nat.lt_succ_self _))
theorem lp_209_2 {n : Nat} {f : Nat → Int32} {d : Nat} {x0 : Int} {x1 : Int} {σ : ra_V} (hx0 : ra_in x0) (hx1 : ra_in x1) (hp : 0 ≤ x0 ∧ x0 < 8) (hn : 0 ≤ wq σ x0 1 ∧ wq σ x0 1 + wq σ x0 2 ≤ 600) (hf : 0 ≤ x1) : ∀ (nn : Nat) (v3 : Int) (s : ra_V) (hv3_0 : 0 ≤ v3) (hv3_1 : ra_in v3) (hF : Fr (180) (181) σ s) (hsc : SC σ s) (hm : ((wq σ x0 2 - v3 : Int)).toNat < nn), ra_P (g_Gs n f) g_sh 0 (d + 2) g_m_X8_writes 2 [some (.index (179)), some (ra_I x0), none, some (ra_I v3)] [] s (fun r s => rV r ∧ Fr (180) (181) σ s ∧ SC σ s) := by
  intro nn
  induction nn with
  | zero => intro v3 s hv3_0 hv3_1 hF hsc hm; exact absurd hm (Nat.not_lt_zero _)
  | succ nn ih =>
    intro v3 s hv3_0 hv3_1 hF hsc hm
    have e1 := wq_sc hsc (p := x0) (w := 1) (by omega) (by omega)
    have e2 := wq_sc hsc (p := x0) (w := 2) (by omega) (by omega)
    refine ra_load rfl rfl rfl rfl ?_
    refine ra_load rfl rfl rfl rfl ?_
    refine ra_load rfl rfl rfl rfl ?_
    refine ra_iconst rfl ?_
    refine ra_cTp (sp_200 hx0 (by first | omega | (unfold ra_in at *; omega)) (by first | assumption | rfl | omega)) rfl (ct_200 rfl lk_8_67 (Or.inl rfl) sh_179 (Nat.le_of_ble_eq_true rfl)) ?_
    have hr2 : ra_in (wq s x0 (2)) := (ra_in_wq _ _ _)
    refine ra_icge rfl rfl (by first | omega | (unfold ra_in at *; omega)) hr2 (fun h3 => ?_) (fun h3 => ?_)
    · exact ra_return rfl rfl ⟨rfl, ⟨hF, hsc⟩⟩
    · refine ra_load rfl rfl rfl rfl ?_
      refine ra_getR rfl lk_8_7 (Nat.zero_le _) sh_179 rfl ?_
      refine ra_bipush rfl (by decide) ?_
      refine ra_load rfl rfl rfl rfl ?_
      refine ra_load rfl rfl rfl rfl ?_
      refine ra_iconst rfl ?_
      refine ra_cTp (sp_200 hx0 (by first | omega | (unfold ra_in at *; omega)) (by first | assumption | rfl | omega)) rfl (ct_200 rfl lk_8_67 (Or.inl rfl) sh_179 (Nat.le_of_ble_eq_true rfl)) ?_
      have hr5 : ra_in (wq s x0 (1)) := (ra_in_wq _ _ _)
      refine ra_iadd rfl ?_
      refine ra_load rfl rfl rfl rfl ?_
      refine ra_iadd rfl ?_
      refine ra_load rfl rfl rfl rfl ?_
      refine ra_load rfl rfl rfl rfl ?_
      refine ra_load rfl rfl rfl rfl ?_
      refine ra_cIp (sp_208 hx0 (by first | omega | (unfold ra_in at *; omega)) (by first | assumption | rfl | omega)) rfl (ct_208 rfl lk_8_75 (Or.inl rfl) sh_179 (Nat.le_of_ble_eq_true rfl)) (fun z7 hz7 => ?_)
      refine ra_iastore rfl sh_180 rfl (by decide) (by first | omega | (unfold ra_in at *; omega)) (by first | omega | (unfold ra_in at *; omega)) ?_
      refine ra_newR hz7 (fun s8 hs8 hs8v hs8o => ?_)
      have hF9 := Fr_tr (lo := 180) (hi := 181) hF hs8 (by omega)
      refine ra_iinc (L' := [_, _, _, _]) rfl rfl (Nat.le_of_ble_eq_true rfl) rfl ?_
      refine ra_goto rfl rfl ?_
      exact ra_weak (by repeat' constructor) (ih (v3 + 1) s8 (by first | omega | (unfold ra_in at *; omega)) (by first | omega | (unfold ra_in at *; omega)) hF9 (SC_tr hsc (fun a ha => hs8o a (by omega))) (by first | omega | (unfold ra_in at *; omega)))
theorem sp_209 {n : Nat} {f : Nat → Int32} {d : Nat} {x0 : Int} {x1 : Int} {σ : ra_V} (hx0 : ra_in x0) (hx1 : ra_in x1) (hp : 0 ≤ x0 ∧ x0 < 8) (hn : 0 ≤ wq σ x0 1 ∧ wq σ x0 1 + wq σ x0 2 ≤ 600) (hf : 0 ≤ x1) : ra_C (g_Gs n f) g_sh 0 (d + 3) 209 [.index (179), ra_I x0, ra_I x1] σ (fun r s => rV r ∧ Fr (180) (181) σ s ∧ SC σ s) := by
  refine ra_enter (nn := 1) mt_209 rfl (Nat.le_of_ble_eq_true rfl) rfl (fun h => absurd h (by decide +kernel)) ?_
  refine ra_load rfl rfl rfl rfl ?_
  refine ra_store (L' := [_, _, _, _]) rfl rfl rfl (Nat.le_of_ble_eq_true rfl) rfl ?_
  exact ra_weak (by repeat' constructor) (lp_209_2 hx0 hx1 hp hn hf _ x1 σ (by first | omega | (unfold ra_in at *; omega)) hx1 Fr_rf SC_rf (Nat.lt_succ_self _))
end RB
end
section
/-! a partition made, sized -/
section RB
section
variable {G : ri_Tb} {sh : ra_Sh} {b d mi : Nat} {M : ri_Mt} {pc : Nat} {L : List (Option Jvm.Term)} {st rest args : List Jvm.Term} {σ : ra_V} {Q : ra_Q} {i : Instr} {S : ra_V → Prop} {P : Int → ra_V → Prop}
theorem ra_cIPs (hC : ra_C G sh 0 d mi args σ (fun r s => (∃ z, ra_in z ∧ P z s ∧ r = .inl (some (ra_I z))) ∧ S s)) (hd : (ri_co M)[pc]? = some (some (i, 3))) (ht : ra_ct G sh M i st args rest mi) (k : ∀ z s, ra_in z → P z s → S s → ra_P G sh b d M (pc + 3) L (ra_I z :: rest) s Q) : ra_P G sh b d M pc L st σ Q :=
  ra_callA hC hd ht (fun E s h => by obtain ⟨⟨z, -, -, e⟩, -⟩ := h; cases e) (fun t s h => by obtain ⟨⟨z, hz, hp, e⟩, hs⟩ := h; cases e; exact k z s hz hp hs)
end
def MKN (σ s : ra_V) (z a m mn : Int) : Prop := (0 ≤ z ∧ z < 8 ∧ wq σ z 0 ≠ 1) ∧ wq s z 0 = 1 ∧ wq s z 1 = a ∧ wq s z 2 = m ∧ wq s z 3 = mn ∧ ∀ a : Nat, a < 88 → a ≠ 5 → ¬ (24 + 8 * z ≤ (a : Int) ∧ (a : Int) < 24 + 8 * z + 8) → ra_g s 180 a = ra_g σ 180 a
theorem free_lt {σ : ra_V} {v : Int} (h : ∃ q, 0 ≤ q ∧ q < 8 ∧ wq σ q 0 ≠ 1) (hv : ∀ r, 0 ≤ r → r < v → wq σ r 0 = 1) : v < 8 := by
  obtain ⟨q, q0, q1, q2⟩ := h
  by_cases e : v < 8
  · exact e
  · exact absurd (hv q q0 (by omega)) q2
theorem mk_chain {σ s0 s1 s2 s3 s4 s5 s6 s7 s8 s9 : ra_V} {z a m mn : Int} (hz : 0 ≤ z ∧ z < 8 ∧ wq σ z 0 ≠ 1)
    (v0 : wq s0 z 0 = 1) (o0 : ∀ a, a ≠ (24 + 8 * z + 0).toNat → ra_g s0 180 a = ra_g σ 180 a) (v1 : wq s1 z 1 = a) (o1 : ∀ a, a ≠ (24 + 8 * z + 1).toNat → ra_g s1 180 a = ra_g s0 180 a)
    (v2 : wq s2 z 2 = m) (o2 : ∀ a, a ≠ (24 + 8 * z + 2).toNat → ra_g s2 180 a = ra_g s1 180 a) (v3 : wq s3 z 3 = mn) (o3 : ∀ a, a ≠ (24 + 8 * z + 3).toNat → ra_g s3 180 a = ra_g s2 180 a)
    (o4 : ∀ a, a ≠ (24 + 8 * z + 4).toNat → ra_g s4 180 a = ra_g s3 180 a) (o5 : ∀ a, a ≠ (24 + 8 * z + 5).toNat → ra_g s5 180 a = ra_g s4 180 a) (o6 : ∀ a, a ≠ (24 + 8 * z + 6).toNat → ra_g s6 180 a = ra_g s5 180 a) (o7 : ∀ a, a ≠ (24 + 8 * z + 7).toNat → ra_g s7 180 a = ra_g s6 180 a)
    (o8 : ∀ a, a ≠ 5 → ra_g s8 180 a = ra_g s7 180 a) (sc : SC s8 s9) : MKN σ s9 z a m mn := by
  have t : ∀ a : Nat, a < 88 → a ≠ 5 → a ≠ (24 + 8 * z + 4).toNat → a ≠ (24 + 8 * z + 5).toNat → a ≠ (24 + 8 * z + 6).toNat → a ≠ (24 + 8 * z + 7).toNat → ra_g s9 180 a = ra_g s3 180 a := fun a h1 h2 h3 h4 h5 h6 => by
    rw [sc a h1, o8 a h2, o7 a h6, o6 a h5, o5 a h4, o4 a h3]
  refine ⟨hz, ?_, ?_, ?_, ?_, fun a h1 h2 h3 => ?_⟩
  · have e := t (24 + 8 * z + 0).toNat (by omega) (by omega) (by omega) (by omega) (by omega) (by omega)
    rw [o3 _ (by omega), o2 _ (by omega), o1 _ (by omega)] at e
    exact e.trans v0
  · have e := t (24 + 8 * z + 1).toNat (by omega) (by omega) (by omega) (by omega) (by omega) (by omega)
    rw [o3 _ (by omega), o2 _ (by omega)] at e
    exact e.trans v1
  · have e := t (24 + 8 * z + 2).toNat (by omega) (by omega) (by omega) (by omega) (by omega) (by omega)
    rw [o3 _ (by omega)] at e
    exact e.trans v2
  · have e := t (24 + 8 * z + 3).toNat (by omega) (by omega) (by omega) (by omega) (by omega) (by omega)
    exact e.trans v3
  · rw [t a h1 h2 (by omega) (by omega) (by omega) (by omega), o3 a (by omega), o2 a (by omega), o1 a (by omega), o0 a (by omega)]
theorem WF_new {σ s : ra_V} {z a m mn : Int} (hw : WF σ) (h : MKN σ s z a m mn) (hu : US σ a m) (ht : ¬ TK σ a m (-1)) (hb : ¬ BT σ a m) (hm : 1 ≤ mn ∧ mn ≤ m) : WF s := by
  obtain ⟨⟨z0, z1, z2⟩, h0, h1, h2, h3, h4⟩ := h
  refine WF_chg (p := z) hw ⟨z0, z1⟩ (fun a ha hn => h4 a (by unfold REL at ha; omega) (by unfold REL at ha; omega) hn) (fun e => ?_) (Or.inr ⟨h0, by omega, by omega, by rw [h1, h2]; exact hu, ?_, by rw [h1, h2]; exact hb⟩)
  · have := (WF_msz hw (by omega)).2.1
    rw [e] at this
    exact z2 this
  · rw [h1, h2]
    rintro ⟨p, p0, p1, p2, p3, p4, p5⟩
    exact ht ⟨p, p0, p1, by omega, p3, p4, p5⟩
/-- a partition given a size -/
def RSZ (σ s : ra_V) (p m : Int) : Prop := wq s p 2 = m ∧ ∀ a : Nat, a < 88 → a ≠ (24 + 8 * p + 2).toNat → ra_g s 180 a = ra_g σ 180 a
theorem rsz_ch {σ s1 s2 : ra_V} {p m : Int} (hp : 0 ≤ p ∧ p < 8) (v : wq s1 p 2 = m) (o : ∀ a, a ≠ (24 + 8 * p + 2).toNat → ra_g s1 180 a = ra_g σ 180 a) (sc : SC s1 s2) : RSZ σ s2 p m :=
  ⟨(sc (24 + 8 * p + 2).toNat (by omega)).trans v, fun a h1 h2 => (sc a h1).trans (o a h2)⟩
theorem WF_rsz {σ s : ra_V} {p m : Int} (hw : WF σ) (hp : 0 ≤ p ∧ p < 8 ∧ wq σ p 0 = 1) (hm : ra_g σ 180 16 ≠ p) (h : RSZ σ s p m) (hz : SZK σ p m) : WF s := by
  obtain ⟨p0, p1, p2⟩ := hp
  have hq := WF_p hw p0 p1 p2
  obtain ⟨v, o⟩ := h
  obtain ⟨k1, k2, k3, k4⟩ := hz
  have e0 : wq s p 0 = wq σ p 0 := o _ (by omega) (by omega)
  have e1 : wq s p 1 = wq σ p 1 := o _ (by omega) (by omega)
  have e3 : wq s p 3 = wq σ p 3 := o _ (by omega) (by omega)
  refine WF_chg (p := p) hw ⟨p0, p1⟩ (fun a ha hn => o a (by unfold REL at ha; omega) (by omega)) hm (Or.inr ⟨by omega, by omega, by omega, by rw [e1, v]; exact k2, by rw [e1, v]; exact k3, ?_⟩)
  rw [e1, v]
  rintro ⟨b1, b2, b3, b4⟩
  have hv := WF_m hw b1
  have ha := hv.2.2.2.2.2.2.2.2.2.2 p p0 p1 (Ne.symm hm) p2
  have hz := (WF_msz hw b1).2.2
  have ha : ra_g σ 180 18 + wq σ (ra_g σ 180 16) 2 ≤ wq σ p 1 ∨ wq σ p 1 + wq σ p 2 ≤ ra_g σ 180 18 := ha
  rcases ha with ha | ha
  · omega
  · exact k4 ⟨b1, by omega, by omega, by omega⟩
end RB
end
section
/-! the reference: what its methods do (printed by wip/gen/ref.py) -/
section RB
theorem lp_196_2 {n : Nat} {f : Nat → Int32} {d : Nat} {x0 : Int} {σ : ra_V} (hx0 : ra_in x0) (hb : 64 ≤ x0 ∧ x0 ≤ 600) : ∀ (nn : Nat) (v2 : Int) (s : ra_V) (hv2_0 : 0 ≤ v2) (hv2_1 : v2 ≤ 688) (hF : Fr (180) (181) σ s) (hc : ∀ a : Nat, (a : Int) < v2 → ra_g s 180 a = 0) (hm : ((688 - v2 : Int)).toNat < nn), ra_P (g_Gs n f) g_sh 0 (d + 0) g_m_X8_clear 2 [some (.index (179)), some (ra_I x0), some (ra_I v2)] [] s (fun r s => rV r ∧ Fr (180) (181) σ s ∧ WF s ∧ (∀ a, a < 88 → a ≠ 0 → a ≠ 3 → a ≠ 4 → a ≠ 16 → ra_g s 180 a = 0)) := by
  intro nn
  induction nn with
  | zero => intro v2 s hv2_0 hv2_1 hF hc hm; exact absurd hm (Nat.not_lt_zero _)
  | succ nn ih =>
    intro v2 s hv2_0 hv2_1 hF hc hm
    refine ra_load rfl rfl rfl rfl ?_
    refine ra_sipush rfl (by decide) ?_
    refine ra_icge rfl rfl (by first | omega | (unfold ra_in at *; omega)) (by first | omega | (unfold ra_in at *; omega)) (fun h1 => ?_) (fun h1 => ?_)
    · refine ra_load rfl rfl rfl rfl ?_
      refine ra_getR rfl lk_8_7 (Nat.zero_le _) sh_179 rfl ?_
      refine ra_iconst rfl ?_
      refine ra_load rfl rfl rfl rfl ?_
      refine ra_iastoreJ (j := 0) rfl sh_180 rfl (by decide) rfl (by decide) ?_
      refine ra_newR hx0 (fun s2 hs2 hs2v hs2o => ?_)
      have hF3 := Fr_tr (lo := 180) (hi := 181) hF hs2 (by omega)
      refine ra_load rfl rfl rfl rfl ?_
      refine ra_getR rfl lk_8_7 (Nat.zero_le _) sh_179 rfl ?_
      refine ra_iconst rfl ?_
      refine ra_iconst rfl ?_
      refine ra_iastoreJ (j := 3) rfl sh_180 rfl (by decide) rfl (by decide) ?_
      refine ra_newR (by first | omega | (unfold ra_in at *; omega)) (fun s4 hs4 hs4v hs4o => ?_)
      have hF5 := Fr_tr (lo := 180) (hi := 181) hF3 hs4 (by omega)
      refine ra_load rfl rfl rfl rfl ?_
      refine ra_getR rfl lk_8_7 (Nat.zero_le _) sh_179 rfl ?_
      refine ra_iconst rfl ?_
      refine ra_iconst rfl ?_
      refine ra_iastoreJ (j := 4) rfl sh_180 rfl (by decide) rfl (by decide) ?_
      refine ra_newR (by first | omega | (unfold ra_in at *; omega)) (fun s6 hs6 hs6v hs6o => ?_)
      have hF7 := Fr_tr (lo := 180) (hi := 181) hF5 hs6 (by omega)
      refine ra_load rfl rfl rfl rfl ?_
      refine ra_getR rfl lk_8_7 (Nat.zero_le _) sh_179 rfl ?_
      refine ra_bipush rfl (by decide) ?_
      refine ra_iconst rfl ?_
      refine ra_iastoreJ (j := 16) rfl sh_180 rfl (by decide) rfl (by decide) ?_
      refine ra_newR (by first | omega | (unfold ra_in at *; omega)) (fun s8 hs8 hs8v hs8o => ?_)
      have hF9 := Fr_tr (lo := 180) (hi := 181) hF7 hs8 (by omega)
      exact ra_return rfl rfl ⟨rfl, ⟨hF9, wf_clear hb ((((hs8o 0 (by decide)).trans (hs6o 0 (by decide))).trans (hs4o 0 (by decide))).trans hs2v) (((hs8o 3 (by decide)).trans (hs6o 3 (by decide))).trans hs4v) ((hs8o 4 (by decide)).trans hs6v) hs8v (fun a h1 h2 h3 h4 h5 => (hs8o a h5).trans ((hs6o a h4).trans ((hs4o a h3).trans ((hs2o a h2).trans (hc a (by omega)))))), (fun a h1 h2 h3 h4 h5 => (hs8o a h5).trans ((hs6o a h4).trans ((hs4o a h3).trans ((hs2o a h2).trans (hc a (by omega))))))⟩⟩
    · refine ra_load rfl rfl rfl rfl ?_
      refine ra_getR rfl lk_8_7 (Nat.zero_le _) sh_179 rfl ?_
      refine ra_load rfl rfl rfl rfl ?_
      refine ra_iconst rfl ?_
      refine ra_iastore rfl sh_180 rfl (by decide) (by first | omega | (unfold ra_in at *; omega)) (by first | omega | (unfold ra_in at *; omega)) ?_
      refine ra_newR (by first | omega | (unfold ra_in at *; omega)) (fun s10 hs10 hs10v hs10o => ?_)
      have hF11 := Fr_tr (lo := 180) (hi := 181) hF hs10 (by omega)
      refine ra_iinc (L' := [_, _, _]) rfl rfl (Nat.le_of_ble_eq_true rfl) rfl ?_
      refine ra_goto rfl rfl ?_
      exact ra_weak (by repeat' constructor) (ih (v2 + 1) s10 (by first | omega | (unfold ra_in at *; omega)) (by first | omega | (unfold ra_in at *; omega)) hF11 (fun a h => if e : a = v2.toNat then (by rw [e]; exact hs10v) else (hs10o a e).trans (hc a (by omega))) (by first | omega | (unfold ra_in at *; omega)))
theorem sp_196 {n : Nat} {f : Nat → Int32} {d : Nat} {x0 : Int} {σ : ra_V} (hx0 : ra_in x0) (hb : 64 ≤ x0 ∧ x0 ≤ 600) : ra_C (g_Gs n f) g_sh 0 (d + 1) 196 [.index (179), ra_I x0] σ (fun r s => rV r ∧ Fr (180) (181) σ s ∧ WF s ∧ (∀ a, a < 88 → a ≠ 0 → a ≠ 3 → a ≠ 4 → a ≠ 16 → ra_g s 180 a = 0)) := by
  refine ra_enter (nn := 1) mt_196 rfl (Nat.le_of_ble_eq_true rfl) rfl (fun h => absurd h (by decide +kernel)) ?_
  refine ra_iconst rfl ?_
  refine ra_store (L' := [_, _, _]) rfl rfl rfl (Nat.le_of_ble_eq_true rfl) rfl ?_
  exact ra_weak (by repeat' constructor) (lp_196_2 hx0 hb _ (0) σ (by first | omega | (unfold ra_in at *; omega)) (by first | omega | (unfold ra_in at *; omega)) Fr_rf (fun a h => by omega) (Nat.lt_succ_self _))
theorem lp_210_3 {n : Nat} {f : Nat → Int32} {d : Nat} {x0 : Int} {x1 : Int} {x2 : Int} {x3 : Int} {σ : ra_V} (hx0 : ra_in x0) (hx1 : ra_in x1) (hx2 : ra_in x2) (hx3 : ra_in x3) (hx : ∃ q, 0 ≤ q ∧ q < 8 ∧ wq σ q 0 ≠ 1) (hn : 0 ≤ x0 ∧ 1 ≤ x1 ∧ x0 + x1 ≤ 600) : ∀ (nn : Nat) (v5 : Int) (hv5_0 : 0 ≤ v5) (hv5_1 : ∀ r, 0 ≤ r → r < v5 → wq σ r 0 = 1) (hm : ((8 - v5 : Int)).toNat < nn), ra_P (g_Gs n f) g_sh 0 (d + 3) g_m_X8_makes 3 [some (.index (179)), some (ra_I x0), some (ra_I x1), some (ra_I x2), some (ra_I x3), some (ra_I v5)] [] σ (fun r s => (∃ z, ra_in z ∧ (MKN σ s z x0 x1 x3) ∧ r = .inl (some (ra_I z))) ∧ Fr (180) (181) σ s) := by
  intro nn
  induction nn with
  | zero => intro v5 hv5_0 hv5_1 hm; exact absurd hm (Nat.not_lt_zero _)
  | succ nn ih =>
    intro v5 hv5_0 hv5_1 hm
    have hv8 : v5 < 8 := free_lt hx hv5_1
    refine ra_load rfl rfl rfl rfl ?_
    refine ra_load rfl rfl rfl rfl ?_
    refine ra_iconst rfl ?_
    refine ra_cTp (sp_200 (by first | omega | (unfold ra_in at *; omega)) (by first | omega | (unfold ra_in at *; omega)) (by first | assumption | rfl | omega)) rfl (ct_200 rfl lk_8_67 (Or.inl rfl) sh_179 (Nat.le_of_ble_eq_true rfl)) ?_
    have hr2 : ra_in (wq σ v5 (0)) := (ra_in_wq _ _ _)
    refine ra_iconst rfl ?_
    refine ra_icne rfl rfl hr2 (by first | omega | (unfold ra_in at *; omega)) (fun h3 => ?_) (fun h3 => ?_)
    · refine ra_load rfl rfl rfl rfl ?_
      refine ra_load rfl rfl rfl rfl ?_
      refine ra_iconst rfl ?_
      refine ra_iconst rfl ?_
      refine ra_cV (sp_201 (by first | omega | (unfold ra_in at *; omega)) (by first | omega | (unfold ra_in at *; omega)) (by first | omega | (unfold ra_in at *; omega)) (by first | assumption | rfl | omega)) rfl (ct_201 rfl lk_8_78 (Or.inl rfl) sh_179 (Nat.le_of_ble_eq_true rfl)) (fun s4 hs4 => ?_)
      obtain ⟨hf5, he6, he7⟩ := hs4
      have hF8 := Fr_tr (lo := 180) (hi := 181) Fr_rf hf5 (by omega)
      refine ra_load rfl rfl rfl rfl ?_
      refine ra_load rfl rfl rfl rfl ?_
      refine ra_iconst rfl ?_
      refine ra_load rfl rfl rfl rfl ?_
      refine ra_cV (sp_201 (by first | omega | (unfold ra_in at *; omega)) (by first | omega | (unfold ra_in at *; omega)) hx0 (by first | assumption | rfl | omega)) rfl (ct_201 rfl lk_8_78 (Or.inl rfl) sh_179 (Nat.le_of_ble_eq_true rfl)) (fun s9 hs9 => ?_)
      obtain ⟨hf10, he11, he12⟩ := hs9
      have hF13 := Fr_tr (lo := 180) (hi := 181) hF8 hf10 (by omega)
      refine ra_load rfl rfl rfl rfl ?_
      refine ra_load rfl rfl rfl rfl ?_
      refine ra_iconst rfl ?_
      refine ra_load rfl rfl rfl rfl ?_
      refine ra_cV (sp_201 (by first | omega | (unfold ra_in at *; omega)) (by first | omega | (unfold ra_in at *; omega)) hx1 (by first | assumption | rfl | omega)) rfl (ct_201 rfl lk_8_78 (Or.inl rfl) sh_179 (Nat.le_of_ble_eq_true rfl)) (fun s14 hs14 => ?_)
      obtain ⟨hf15, he16, he17⟩ := hs14
      have hF18 := Fr_tr (lo := 180) (hi := 181) hF13 hf15 (by omega)
      refine ra_load rfl rfl rfl rfl ?_
      refine ra_load rfl rfl rfl rfl ?_
      refine ra_iconst rfl ?_
      refine ra_load rfl rfl rfl rfl ?_
      refine ra_cV (sp_201 (by first | omega | (unfold ra_in at *; omega)) (by first | omega | (unfold ra_in at *; omega)) hx3 (by first | assumption | rfl | omega)) rfl (ct_201 rfl lk_8_78 (Or.inl rfl) sh_179 (Nat.le_of_ble_eq_true rfl)) (fun s19 hs19 => ?_)
      obtain ⟨hf20, he21, he22⟩ := hs19
      have hF23 := Fr_tr (lo := 180) (hi := 181) hF18 hf20 (by omega)
      refine ra_load rfl rfl rfl rfl ?_
      refine ra_load rfl rfl rfl rfl ?_
      refine ra_iconst rfl ?_
      refine ra_load rfl rfl rfl rfl ?_
      refine ra_cV (sp_201 (by first | omega | (unfold ra_in at *; omega)) (by first | omega | (unfold ra_in at *; omega)) hx2 (by first | assumption | rfl | omega)) rfl (ct_201 rfl lk_8_78 (Or.inl rfl) sh_179 (Nat.le_of_ble_eq_true rfl)) (fun s24 hs24 => ?_)
      obtain ⟨hf25, he26, he27⟩ := hs24
      have hF28 := Fr_tr (lo := 180) (hi := 181) hF23 hf25 (by omega)
      refine ra_load rfl rfl rfl rfl ?_
      refine ra_load rfl rfl rfl rfl ?_
      refine ra_iconst rfl ?_
      refine ra_iconst rfl ?_
      refine ra_cV (sp_201 (by first | omega | (unfold ra_in at *; omega)) (by first | omega | (unfold ra_in at *; omega)) (by first | omega | (unfold ra_in at *; omega)) (by first | assumption | rfl | omega)) rfl (ct_201 rfl lk_8_78 (Or.inl rfl) sh_179 (Nat.le_of_ble_eq_true rfl)) (fun s29 hs29 => ?_)
      obtain ⟨hf30, he31, he32⟩ := hs29
      have hF33 := Fr_tr (lo := 180) (hi := 181) hF28 hf30 (by omega)
      refine ra_load rfl rfl rfl rfl ?_
      refine ra_load rfl rfl rfl rfl ?_
      refine ra_bipush rfl (by decide) ?_
      refine ra_load rfl rfl rfl rfl ?_
      refine ra_getR rfl lk_8_7 (Nat.zero_le _) sh_179 rfl ?_
      refine ra_iconst rfl ?_
      refine ra_ialoadJ (j := 5) rfl sh_180 rfl (by decide) rfl (by decide) ?_
      have hr34 : ra_in (ra_g s29 (180) 5) := (ra_in_g _ _ _)
      refine ra_cV (sp_201 (by first | omega | (unfold ra_in at *; omega)) (by first | omega | (unfold ra_in at *; omega)) hr34 (by first | assumption | rfl | omega)) rfl (ct_201 rfl lk_8_78 (Or.inl rfl) sh_179 (Nat.le_of_ble_eq_true rfl)) (fun s35 hs35 => ?_)
      obtain ⟨hf36, he37, he38⟩ := hs35
      have hF39 := Fr_tr (lo := 180) (hi := 181) hF33 hf36 (by omega)
      refine ra_load rfl rfl rfl rfl ?_
      refine ra_load rfl rfl rfl rfl ?_
      refine ra_bipush rfl (by decide) ?_
      refine ra_iconst rfl ?_
      refine ra_cV (sp_201 (by first | omega | (unfold ra_in at *; omega)) (by first | omega | (unfold ra_in at *; omega)) (by first | omega | (unfold ra_in at *; omega)) (by first | assumption | rfl | omega)) rfl (ct_201 rfl lk_8_78 (Or.inl rfl) sh_179 (Nat.le_of_ble_eq_true rfl)) (fun s40 hs40 => ?_)
      obtain ⟨hf41, he42, he43⟩ := hs40
      have hF44 := Fr_tr (lo := 180) (hi := 181) hF39 hf41 (by omega)
      refine ra_load rfl rfl rfl rfl ?_
      refine ra_getR rfl lk_8_7 (Nat.zero_le _) sh_179 rfl ?_
      refine ra_iconst rfl ?_
      refine ra_dup2 rfl rfl rfl ?_
      refine ra_ialoadJ (j := 5) rfl sh_180 rfl (by decide) rfl (by decide) ?_
      have hr45 : ra_in (ra_g s40 (180) 5) := (ra_in_g _ _ _)
      refine ra_iconst rfl ?_
      refine ra_iadd rfl ?_
      refine ra_gen (fun z46 hz46 => ?_)
      refine ra_iastoreJ (j := 5) rfl sh_180 rfl (by decide) rfl (by decide) ?_
      refine ra_newR hz46 (fun s47 hs47 hs47v hs47o => ?_)
      have hF48 := Fr_tr (lo := 180) (hi := 181) hF44 hs47 (by omega)
      refine ra_load rfl rfl rfl rfl ?_
      refine ra_load rfl rfl rfl rfl ?_
      refine ra_iconst rfl ?_
      refine ra_cV (sp_209 (by first | omega | (unfold ra_in at *; omega)) (by first | omega | (unfold ra_in at *; omega)) (by first | assumption | rfl | omega) (by have := mk_chain (a := x0) (m := x1) (mn := x3) ⟨by omega, by omega, by omega⟩ he6 he7 he11 he12 he16 he17 he21 he22 he27 he32 he38 he43 hs47o SC_rf; obtain ⟨-, -, t1, t2, -⟩ := this; omega) (by first | assumption | rfl | omega)) rfl (ct_209 rfl lk_8_82 (Or.inl rfl) sh_179 (Nat.le_of_ble_eq_true rfl)) (fun s49 hs49 => ?_)
      obtain ⟨hf50, he51⟩ := hs49
      have hF52 := Fr_tr (lo := 180) (hi := 181) hF48 hf50 (by omega)
      refine ra_load rfl rfl rfl rfl ?_
      exact ra_ireturn rfl rfl ⟨⟨_, (by first | omega | (unfold ra_in at *; omega)), (mk_chain ⟨by omega, by omega, by omega⟩ he6 he7 he11 he12 he16 he17 he21 he22 he27 he32 he38 he43 hs47o he51), rfl⟩, hF52⟩
    · refine ra_iinc (L' := [_, _, _, _, _, _]) rfl rfl (Nat.le_of_ble_eq_true rfl) rfl ?_
      refine ra_goto rfl rfl ?_
      exact ra_weak (by repeat' constructor) (ih (v5 + 1) (by first | omega | (unfold ra_in at *; omega)) (fun r a b => if e : r = v5 then (by rw [e]; omega) else hv5_1 r a (by omega)) (by first | omega | (unfold ra_in at *; omega)))
theorem sp_210 {n : Nat} {f : Nat → Int32} {d : Nat} {x0 : Int} {x1 : Int} {x2 : Int} {x3 : Int} {σ : ra_V} (hx0 : ra_in x0) (hx1 : ra_in x1) (hx2 : ra_in x2) (hx3 : ra_in x3) (hx : ∃ q, 0 ≤ q ∧ q < 8 ∧ wq σ q 0 ≠ 1) (hn : 0 ≤ x0 ∧ 1 ≤ x1 ∧ x0 + x1 ≤ 600) : ra_C (g_Gs n f) g_sh 0 (d + 4) 210 [.index (179), ra_I x0, ra_I x1, ra_I x2, ra_I x3] σ (fun r s => (∃ z, ra_in z ∧ (MKN σ s z x0 x1 x3) ∧ r = .inl (some (ra_I z))) ∧ Fr (180) (181) σ s) := by
  refine ra_enter (nn := 1) mt_210 rfl (Nat.le_of_ble_eq_true rfl) rfl (fun h => absurd h (by decide +kernel)) ?_
  refine ra_iconst rfl ?_
  refine ra_store (L' := [_, _, _, _, _, _]) rfl rfl rfl (Nat.le_of_ble_eq_true rfl) rfl ?_
  exact ra_weak (by repeat' constructor) (lp_210_3 hx0 hx1 hx2 hx3 hx hn _ (0) (by first | omega | (unfold ra_in at *; omega)) (fun r a b => by omega) (Nat.lt_succ_self _))
theorem sp_304 {n : Nat} {f : Nat → Int32} {d : Nat} {x0 : Int} {x1 : Int} {σ : ra_V} (hx0 : ra_in x0) (hx1 : ra_in x1) (hp : 0 ≤ x0 ∧ x0 < 8) (hn : 0 ≤ wq σ x0 1 ∧ wq σ x0 1 + x1 ≤ 600 ∧ 0 ≤ wq σ x0 2) : ra_C (g_Gs n f) g_sh 0 (d + 4) 304 [.index (179), ra_I x0, ra_I x1] σ (fun r s => rV r ∧ Fr (180) (181) σ s ∧ RSZ σ s x0 x1) := by
  refine ra_enter (nn := 1) mt_304 rfl (Nat.le_of_ble_eq_true rfl) rfl (fun h => absurd h (by decide +kernel)) ?_
  refine ra_load rfl rfl rfl rfl ?_
  refine ra_load rfl rfl rfl rfl ?_
  refine ra_iconst rfl ?_
  refine ra_cTp (sp_200 hx0 (by first | omega | (unfold ra_in at *; omega)) (by first | assumption | rfl | omega)) rfl (ct_200 rfl lk_8_67 (Or.inl rfl) sh_179 (Nat.le_of_ble_eq_true rfl)) ?_
  have hr2 : ra_in (wq σ x0 (2)) := (ra_in_wq _ _ _)
  refine ra_store (L' := [_, _, _, _]) rfl rfl rfl (Nat.le_of_ble_eq_true rfl) rfl ?_
  refine ra_load rfl rfl rfl rfl ?_
  refine ra_load rfl rfl rfl rfl ?_
  refine ra_iconst rfl ?_
  refine ra_load rfl rfl rfl rfl ?_
  refine ra_cV (sp_201 hx0 (by first | omega | (unfold ra_in at *; omega)) hx1 (by first | assumption | rfl | omega)) rfl (ct_201 rfl lk_8_78 (Or.inl rfl) sh_179 (Nat.le_of_ble_eq_true rfl)) (fun s3 hs3 => ?_)
  obtain ⟨hf4, he5, he6⟩ := hs3
  have hF7 := Fr_tr (lo := 180) (hi := 181) Fr_rf hf4 (by omega)
  refine ra_load rfl rfl rfl rfl ?_
  refine ra_load rfl rfl rfl rfl ?_
  refine ra_load rfl rfl rfl rfl ?_
  refine ra_cV (sp_209 hx0 hr2 (by first | assumption | rfl | omega) (by have t1 := he5; have t2 : wq s3 x0 1 = wq σ x0 1 := he6 _ (by omega); omega) (by first | assumption | rfl | omega)) rfl (ct_209 rfl lk_8_82 (Or.inl rfl) sh_179 (Nat.le_of_ble_eq_true rfl)) (fun s8 hs8 => ?_)
  obtain ⟨hf9, he10⟩ := hs8
  have hF11 := Fr_tr (lo := 180) (hi := 181) hF7 hf9 (by omega)
  exact ra_return rfl rfl ⟨rfl, ⟨hF11, rsz_ch hp he5 he6 he10⟩⟩
end RB
end
section
/-! what was is remembered -/
section RB
theorem rem_a {σ s1 s2 s3 s4 : ra_V} (hw : WF σ) (hp : PW σ) (h10 : ra_g σ 179 5 = 10) (c1 : CPO σ s1 184 184 688 0 6192) (k1 : s2 184 = s1 184) (w2 : s2 180 = σ 180) (p2 : ra_g s2 179 5 = 9)
    (c2 : CPO s2 s3 180 184 0 (688 * ra_g s2 179 5) 688) (p4 : ra_g s4 179 5 = ra_g s2 179 5 + 1) (k4 : s4 184 = s3 184) : PW s4 := by
  refine pw_push (WF_k w2 hw) (by omega) (by omega) (fun i hi => ?_) c2 p4 k4
  refine WF_sc (σ := rowV s1 184 (688 * i)) (fun a _ => ?_) (pw_shift (fun j hj => hp.2 j (by omega)) c1 i (by omega))
  rw [rowV_g, rowV_g]
  exact ra_gk k1
theorem rem_b {σ s3 s4 : ra_V} (hw : WF σ) (hp : PW σ) (h10 : ra_g σ 179 5 ≠ 10) (c2 : CPO σ s3 180 184 0 (688 * ra_g σ 179 5) 688) (p4 : ra_g s4 179 5 = ra_g σ 179 5 + 1) (k4 : s4 184 = s3 184) : PW s4 := by
  obtain ⟨⟨h0, h1⟩, h2⟩ := hp
  exact pw_push hw h0 (by omega) h2 c2 p4 k4
end RB
end
section
/-! the reference: what its methods do (printed by wip/gen/ref.py) -/
section RB
theorem sp_197 {n : Nat} {f : Nat → Int32} {d : Nat}  {σ : ra_V} (hw : WF σ) (hp : PW σ) : ra_C (g_Gs n f) g_sh 0 (d + 2) 197 [.index (179)] σ (fun r s => rV r ∧ Fr (179) (185) σ s ∧ s (180) = σ (180) ∧ s (181) = σ (181) ∧ s (182) = σ (182) ∧ s (183) = σ (183) ∧ (∀ a, a ≠ 5 → ra_g s 179 a = ra_g σ 179 a) ∧ PW s) := by
  refine ra_enter (nn := 0) mt_197 rfl (Nat.le_of_ble_eq_true rfl) rfl (fun h => absurd h (by decide +kernel)) ?_
  have hp0 := hp.1
  refine ra_load rfl rfl rfl rfl ?_
  refine ra_getI rfl lk_8_54 (Nat.zero_le _) sh_179 rfl ?_
  have hr1 : ra_in (ra_g σ (179) 5) := (ra_in_g _ _ _)
  refine ra_bipush rfl (by decide) ?_
  refine ra_icne rfl rfl hr1 (by first | omega | (unfold ra_in at *; omega)) (fun h2 => ?_) (fun h2 => ?_)
  · refine ra_load rfl rfl rfl rfl ?_
    refine ra_getR rfl lk_8_7 (Nat.zero_le _) sh_179 rfl ?_
    refine ra_iconst rfl ?_
    refine ra_load rfl rfl rfl rfl ?_
    refine ra_getR rfl lk_8_22 (Nat.zero_le _) sh_179 rfl ?_
    refine ra_sipush rfl (by decide) ?_
    refine ra_load rfl rfl rfl rfl ?_
    refine ra_getI rfl lk_8_54 (Nat.zero_le _) sh_179 rfl ?_
    have hr3 : ra_in (ra_g σ (179) 5) := (ra_in_g _ _ _)
    refine ra_imul rfl ?_
    refine ra_sipush rfl (by decide) ?_
    refine ra_cV (sp_195 sh_180 (by decide) (by first | omega | (unfold ra_in at *; omega)) sh_184 (by decide) (by first | omega | (unfold ra_in at *; omega)) (by first | omega | (unfold ra_in at *; omega)) (by first | assumption | rfl | omega) (by first | assumption | rfl | omega)) rfl (ct_195 rfl lk_8_57 (Or.inl rfl) (Nat.le_of_ble_eq_true rfl)) (fun s4 hs4 => ?_)
    obtain ⟨hf5, he6⟩ := hs4
    have hF7 := Fr_tr (lo := 179) (hi := 185) Fr_rf hf5 (by omega)
    have hk8 : s4 (179) = σ (179) := (hf5 (179) (by omega))
    have hk9 : s4 (180) = σ (180) := (hf5 (180) (by omega))
    have hk10 : s4 (181) = σ (181) := (hf5 (181) (by omega))
    have hk11 : s4 (182) = σ (182) := (hf5 (182) (by omega))
    have hk12 : s4 (183) = σ (183) := (hf5 (183) (by omega))
    refine ra_load rfl rfl rfl rfl ?_
    refine ra_dup rfl rfl ?_
    refine ra_getI rfl lk_8_54 (Nat.zero_le _) sh_179 rfl ?_
    rw [ra_gk hk8]
    have hr13 : ra_in (ra_g σ (179) 5) := (ra_in_g _ _ _)
    refine ra_iconst rfl ?_
    refine ra_iadd rfl ?_
    refine ra_putI rfl lk_8_54 (Nat.zero_le _) sh_179 rfl rfl ?_
    refine ra_newU (by first | omega | (unfold ra_in at *; omega)) (fun s14 hs14 hp15 hp15o => ?_)
    have hF16 := Fr_tr (lo := 179) (hi := 185) hF7 hs14 (by omega)
    have hk17 : s14 (180) = σ (180) := (hs14 (180) (by omega)).trans hk9
    have hk18 : s14 (181) = σ (181) := (hs14 (181) (by omega)).trans hk10
    have hk19 : s14 (182) = σ (182) := (hs14 (182) (by omega)).trans hk11
    have hk20 : s14 (183) = σ (183) := (hs14 (183) (by omega)).trans hk12
    exact ra_return rfl rfl ⟨rfl, ⟨hF16, hk17, hk18, hk19, hk20, (fun a h5 => ((hp15o a h5).trans (ra_gk (hf5 179 (by omega))))), (rem_b hw hp (by omega) he6 (by omega) (hs14 184 (by omega)))⟩⟩
  · refine ra_load rfl rfl rfl rfl ?_
    refine ra_getR rfl lk_8_22 (Nat.zero_le _) sh_179 rfl ?_
    refine ra_sipush rfl (by decide) ?_
    refine ra_load rfl rfl rfl rfl ?_
    refine ra_getR rfl lk_8_22 (Nat.zero_le _) sh_179 rfl ?_
    refine ra_iconst rfl ?_
    refine ra_sipush rfl (by decide) ?_
    refine ra_cV (sp_195 sh_184 (by decide) (by first | omega | (unfold ra_in at *; omega)) sh_184 (by decide) (by first | omega | (unfold ra_in at *; omega)) (by first | omega | (unfold ra_in at *; omega)) (by first | assumption | rfl | omega) (by first | assumption | rfl | omega)) rfl (ct_195 rfl lk_8_57 (Or.inl rfl) (Nat.le_of_ble_eq_true rfl)) (fun s21 hs21 => ?_)
    obtain ⟨hf22, he23⟩ := hs21
    have hF24 := Fr_tr (lo := 179) (hi := 185) Fr_rf hf22 (by omega)
    have hk25 : s21 (179) = σ (179) := (hf22 (179) (by omega))
    have hk26 : s21 (180) = σ (180) := (hf22 (180) (by omega))
    have hk27 : s21 (181) = σ (181) := (hf22 (181) (by omega))
    have hk28 : s21 (182) = σ (182) := (hf22 (182) (by omega))
    have hk29 : s21 (183) = σ (183) := (hf22 (183) (by omega))
    refine ra_load rfl rfl rfl rfl ?_
    refine ra_dup rfl rfl ?_
    refine ra_getI rfl lk_8_54 (Nat.zero_le _) sh_179 rfl ?_
    rw [ra_gk hk25]
    have hr30 : ra_in (ra_g σ (179) 5) := (ra_in_g _ _ _)
    refine ra_iconst rfl ?_
    refine ra_isub rfl ?_
    refine ra_putI rfl lk_8_54 (Nat.zero_le _) sh_179 rfl rfl ?_
    refine ra_newU (by first | omega | (unfold ra_in at *; omega)) (fun s31 hs31 hp32 hp32o => ?_)
    have hF33 := Fr_tr (lo := 179) (hi := 185) hF24 hs31 (by omega)
    have hk34 : s31 (180) = σ (180) := (hs31 (180) (by omega)).trans hk26
    have hk35 : s31 (181) = σ (181) := (hs31 (181) (by omega)).trans hk27
    have hk36 : s31 (182) = σ (182) := (hs31 (182) (by omega)).trans hk28
    have hk37 : s31 (183) = σ (183) := (hs31 (183) (by omega)).trans hk29
    refine ra_load rfl rfl rfl rfl ?_
    refine ra_getR rfl lk_8_7 (Nat.zero_le _) sh_179 rfl ?_
    refine ra_iconst rfl ?_
    refine ra_load rfl rfl rfl rfl ?_
    refine ra_getR rfl lk_8_22 (Nat.zero_le _) sh_179 rfl ?_
    refine ra_sipush rfl (by decide) ?_
    refine ra_load rfl rfl rfl rfl ?_
    refine ra_getI rfl lk_8_54 (Nat.zero_le _) sh_179 rfl ?_
    have hr38 : ra_in (ra_g s31 (179) 5) := (ra_in_g _ _ _)
    refine ra_imul rfl ?_
    refine ra_sipush rfl (by decide) ?_
    refine ra_cV (sp_195 sh_180 (by decide) (by first | omega | (unfold ra_in at *; omega)) sh_184 (by decide) (by first | omega | (unfold ra_in at *; omega)) (by first | omega | (unfold ra_in at *; omega)) (by first | assumption | rfl | omega) (by first | assumption | rfl | omega)) rfl (ct_195 rfl lk_8_57 (Or.inl rfl) (Nat.le_of_ble_eq_true rfl)) (fun s39 hs39 => ?_)
    obtain ⟨hf40, he41⟩ := hs39
    have hF42 := Fr_tr (lo := 179) (hi := 185) hF33 hf40 (by omega)
    have hk43 : s39 (180) = σ (180) := (hf40 (180) (by omega)).trans hk34
    have hk44 : s39 (181) = σ (181) := (hf40 (181) (by omega)).trans hk35
    have hk45 : s39 (182) = σ (182) := (hf40 (182) (by omega)).trans hk36
    have hk46 : s39 (183) = σ (183) := (hf40 (183) (by omega)).trans hk37
    have hk47 : s39 (179) = s31 (179) := (hf40 (179) (by omega))
    refine ra_load rfl rfl rfl rfl ?_
    refine ra_dup rfl rfl ?_
    refine ra_getI rfl lk_8_54 (Nat.zero_le _) sh_179 rfl ?_
    rw [ra_gk hk47]
    have hr48 : ra_in (ra_g s31 (179) 5) := (ra_in_g _ _ _)
    refine ra_iconst rfl ?_
    refine ra_iadd rfl ?_
    refine ra_putI rfl lk_8_54 (Nat.zero_le _) sh_179 rfl rfl ?_
    refine ra_newU (by first | omega | (unfold ra_in at *; omega)) (fun s49 hs49 hp50 hp50o => ?_)
    have hF51 := Fr_tr (lo := 179) (hi := 185) hF42 hs49 (by omega)
    have hk52 : s49 (180) = σ (180) := (hs49 (180) (by omega)).trans hk43
    have hk53 : s49 (181) = σ (181) := (hs49 (181) (by omega)).trans hk44
    have hk54 : s49 (182) = σ (182) := (hs49 (182) (by omega)).trans hk45
    have hk55 : s49 (183) = σ (183) := (hs49 (183) (by omega)).trans hk46
    exact ra_return rfl rfl ⟨rfl, ⟨hF51, hk52, hk53, hk54, hk55, (fun a h5 => ((hp50o a h5).trans ((ra_gk (hf40 179 (by omega))).trans ((hp32o a h5).trans (ra_gk (hf22 179 (by omega))))))), (rem_a hw hp (by omega) he23 (hs31 184 (by omega)) ((hs31 180 (by omega)).trans (hf22 180 (by omega))) (by omega) he41 (by omega) (hs49 184 (by omega)))⟩⟩
theorem sp_198 {n : Nat} {f : Nat → Int32} {d : Nat}  {σ : ra_V}  : ra_C (g_Gs n f) g_sh 0 (d + 2) 198 [.index (179)] σ (fun r s => rV r ∧ Fr (182) (183) σ s ∧ CPO σ s 180 182 0 0 688) := by
  refine ra_enter (nn := 0) mt_198 rfl (Nat.le_of_ble_eq_true rfl) rfl (fun h => absurd h (by decide +kernel)) ?_
  refine ra_load rfl rfl rfl rfl ?_
  refine ra_getR rfl lk_8_7 (Nat.zero_le _) sh_179 rfl ?_
  refine ra_iconst rfl ?_
  refine ra_load rfl rfl rfl rfl ?_
  refine ra_getR rfl lk_8_16 (Nat.zero_le _) sh_179 rfl ?_
  refine ra_iconst rfl ?_
  refine ra_sipush rfl (by decide) ?_
  refine ra_cV (sp_195 sh_180 (by decide) (by first | omega | (unfold ra_in at *; omega)) sh_182 (by decide) (by first | omega | (unfold ra_in at *; omega)) (by first | omega | (unfold ra_in at *; omega)) (by first | assumption | rfl | omega) (by first | assumption | rfl | omega)) rfl (ct_195 rfl lk_8_57 (Or.inl rfl) (Nat.le_of_ble_eq_true rfl)) (fun s1 hs1 => ?_)
  obtain ⟨hf2, he3⟩ := hs1
  have hF4 := Fr_tr (lo := 182) (hi := 183) Fr_rf hf2 (by omega)
  exact ra_return rfl rfl ⟨rfl, ⟨hF4, he3⟩⟩
theorem sp_199 {n : Nat} {f : Nat → Int32} {d : Nat}  {σ : ra_V}  : ra_C (g_Gs n f) g_sh 0 (d + 2) 199 [.index (179)] σ (fun r s => rV r ∧ Fr (180) (181) σ s ∧ CPO σ s 182 180 0 0 688) := by
  refine ra_enter (nn := 0) mt_199 rfl (Nat.le_of_ble_eq_true rfl) rfl (fun h => absurd h (by decide +kernel)) ?_
  refine ra_load rfl rfl rfl rfl ?_
  refine ra_getR rfl lk_8_16 (Nat.zero_le _) sh_179 rfl ?_
  refine ra_iconst rfl ?_
  refine ra_load rfl rfl rfl rfl ?_
  refine ra_getR rfl lk_8_7 (Nat.zero_le _) sh_179 rfl ?_
  refine ra_iconst rfl ?_
  refine ra_sipush rfl (by decide) ?_
  refine ra_cV (sp_195 sh_182 (by decide) (by first | omega | (unfold ra_in at *; omega)) sh_180 (by decide) (by first | omega | (unfold ra_in at *; omega)) (by first | omega | (unfold ra_in at *; omega)) (by first | assumption | rfl | omega) (by first | assumption | rfl | omega)) rfl (ct_195 rfl lk_8_57 (Or.inl rfl) (Nat.le_of_ble_eq_true rfl)) (fun s1 hs1 => ?_)
  obtain ⟨hf2, he3⟩ := hs1
  have hF4 := Fr_tr (lo := 180) (hi := 181) Fr_rf hf2 (by omega)
  exact ra_return rfl rfl ⟨rfl, ⟨hF4, he3⟩⟩
end RB
end
section
/-! small changes of the row -/
section RB
section
variable {σ s : ra_V}
/-- only a partition's own minimum -/
theorem WF_mn {p : Int} (hw : WF σ) (hp : 0 ≤ p ∧ p < 8) (h : ∀ a, a ≠ (24 + 8 * p + 3).toNat → ra_g s 180 a = ra_g σ 180 a) (v : 1 ≤ wq s p 3 ∧ wq s p 3 ≤ wq σ p 2) : WF s := by
  have e : ∀ q w, 0 ≤ q → q < 8 → 0 ≤ w → w < 3 → wf (rw_ s) q w = wf (rw_ σ) q w := fun q w q0 q1 w0 w1 => h _ (by omega)
  have e0 : ∀ j, j < 24 → rw_ s j = rw_ σ j := fun j hj => h j (by omega)
  obtain ⟨h1, h2, h3, h4, h5⟩ := hw
  refine ⟨?_, fun q p0 p1 => ?_, fun q p0 p1 pe => ?_, fun q r p0 p1 q0 q1 hn pe qe => ?_, ?_⟩
  · unfold WFs
    rw [e0 0 (by omega), e0 1 (by omega), e0 2 (by omega), e0 3 (by omega), e0 4 (by omega)]
    exact h1
  · rw [e q 0 p0 p1 (by omega) (by omega)]
    exact h2 q p0 p1
  · rw [e q 0 p0 p1 (by omega) (by omega)] at pe
    have h6 := h3 q p0 p1 pe
    unfold WFp at *
    rw [e q 2 p0 p1 (by omega) (by omega), e q 1 p0 p1 (by omega) (by omega), e0 0 (by omega), e0 1 (by omega), e0 2 (by omega)]
    by_cases eq : q = p
    · subst eq
      exact ⟨v.1, v.2, h6.2.2⟩
    · have e3 : wf (rw_ s) q 3 = wf (rw_ σ) q 3 := h _ (by omega)
      rw [e3]
      exact h6
  · rw [e q 0 p0 p1 (by omega) (by omega)] at pe
    rw [e r 0 q0 q1 (by omega) (by omega)] at qe
    rw [e q 1 p0 p1 (by omega) (by omega), e q 2 p0 p1 (by omega) (by omega), e r 1 q0 q1 (by omega) (by omega), e r 2 q0 q1 (by omega) (by omega)]
    exact h4 q r p0 p1 q0 q1 hn pe qe
  · rcases h5 with h5 | h5
    · exact Or.inl ((e0 16 (by omega)).trans h5)
    · refine Or.inr ?_
      have hq := h5.1
      unfold WFm at *
      rw [e0 16 (by omega), e0 17 (by omega), e0 18 (by omega), e0 19 (by omega), e0 20 (by omega), e0 21 (by omega), e0 22 (by omega), e0 0 (by omega), e0 1 (by omega), e0 2 (by omega), e _ 0 hq.1 hq.2 (by omega) (by omega), e _ 1 hq.1 hq.2 (by omega) (by omega), e _ 2 hq.1 hq.2 (by omega) (by omega)]
      obtain ⟨c1, c2, c3, c4, c5, c6, c7, c8, c9, c10, c11⟩ := h5
      refine ⟨c1, c2, c3, c4, c5, c6, c7, c8, c9, c10, fun r q0 q1 hn qe => ?_⟩
      rw [e r 0 q0 q1 (by omega) (by omega)] at qe
      rw [e r 1 q0 q1 (by omega) (by omega), e r 2 q0 q1 (by omega) (by omega)]
      exact c11 r q0 q1 hn qe
/-- only what partitions and moves are to keep to from now on -/
theorem WF_set {j : Nat} (hw : WF σ) (hj : j = 3 ∨ j = 4) (h : ∀ a, a ≠ j → ra_g s 180 a = ra_g σ 180 a) (v : 1 ≤ ra_g s 180 j ∧ ra_g s 180 j ≤ 32 ∧ (j = 4 → ra_g s 180 j ≤ 16)) : WF s := by
  have e : ∀ q w, 0 ≤ q → q < 8 → 0 ≤ w → wf (rw_ s) q w = wf (rw_ σ) q w := fun q w q0 q1 w0 => h _ (by omega)
  have e0 : ∀ i, (i < 3 ∨ 5 ≤ i) → rw_ s i = rw_ σ i := fun i hi => h i (by omega)
  have ea := WF_a hw
  unfold WFa at ea
  obtain ⟨h1, h2, h3, h4, h5⟩ := hw
  refine ⟨?_, fun q p0 p1 => ?_, fun q p0 p1 pe => ?_, fun q r p0 p1 q0 q1 hn pe qe => ?_, ?_⟩
  · show (64 ≤ ra_g s 180 0 ∧ ra_g s 180 0 ≤ 600) ∧ (0 ≤ ra_g s 180 1 ∧ ra_g s 180 1 ≤ 31) ∧ (0 ≤ ra_g s 180 2 ∧ ra_g s 180 2 ≤ 31) ∧ (1 ≤ ra_g s 180 3 ∧ ra_g s 180 3 ≤ 32) ∧ (1 ≤ ra_g s 180 4 ∧ ra_g s 180 4 ≤ 16)
    rw [h 0 (by omega), h 1 (by omega), h 2 (by omega)]
    rcases hj with rfl | rfl
    · rw [h 4 (by omega)]; omega
    · rw [h 3 (by omega)]; omega
  · rw [e q 0 p0 p1 (by omega)]
    exact h2 q p0 p1
  · rw [e q 0 p0 p1 (by omega)] at pe
    have h6 := h3 q p0 p1 pe
    unfold WFp at *
    rw [e q 3 p0 p1 (by omega), e q 2 p0 p1 (by omega), e q 1 p0 p1 (by omega), e0 0 (by omega), e0 1 (by omega), e0 2 (by omega)]
    exact h6
  · rw [e q 0 p0 p1 (by omega)] at pe
    rw [e r 0 q0 q1 (by omega)] at qe
    rw [e q 1 p0 p1 (by omega), e q 2 p0 p1 (by omega), e r 1 q0 q1 (by omega), e r 2 q0 q1 (by omega)]
    exact h4 q r p0 p1 q0 q1 hn pe qe
  · rcases h5 with h5 | h5
    · exact Or.inl ((e0 16 (by omega)).trans h5)
    · refine Or.inr ?_
      have hq := h5.1
      unfold WFm at *
      rw [e0 16 (by omega), e0 17 (by omega), e0 18 (by omega), e0 19 (by omega), e0 20 (by omega), e0 21 (by omega), e0 22 (by omega), e0 0 (by omega), e0 1 (by omega), e0 2 (by omega), e _ 0 hq.1 hq.2 (by omega), e _ 1 hq.1 hq.2 (by omega), e _ 2 hq.1 hq.2 (by omega)]
      obtain ⟨c1, c2, c3, c4, c5, c6, c7, c8, c9, c10, c11⟩ := h5
      refine ⟨c1, c2, c3, c4, c5, c6, c7, c8, c9, c10, fun r q0 q1 hn qe => ?_⟩
      rw [e r 0 q0 q1 (by omega)] at qe
      rw [e r 1 q0 q1 (by omega), e r 2 q0 q1 (by omega)]
      exact c11 r q0 q1 hn qe
end
end RB
end
