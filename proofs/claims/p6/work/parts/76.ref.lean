/-! the reference: what its methods do (printed by wip/gen/ref.py) -/
section RB
theorem sp_295 {n : Nat} {f : Nat → Int32} {d : Nat} {x0 : Int} {x1 : Int} {x2 : Int} {σ : ra_V} (hx0 : ra_in x0) (hx1 : ra_in x1) (hx2 : ra_in x2) : ra_C (g_Gs n f) g_sh 0 (d + 2) 295 [ra_I x0, ra_I x1, ra_I x2] σ (fun r s => (∃ z : Int, (z = 0 ∨ z = 1) ∧ (z = 1 → (0 ≤ x0 ∧ x0 ≤ 9 ∧ 1 ≤ x1 ∧ x1 ≤ x2)) ∧ r = .inl (some (ra_I z))) ∧ s = σ) := by
  refine ra_enter (nn := 0) mt_295 rfl (Nat.le_of_ble_eq_true rfl) rfl (fun h => absurd h (by decide +kernel)) ?_
  refine ra_load rfl rfl rfl rfl ?_
  refine ra_i2l rfl hx0 ?_
  refine ra_lconst0 rfl ?_
  refine ra_ldc2 (z := 9) rfl lk_8_361 (by decide) ?_
  refine ra_cTp (sp_192 hx0 (by first | omega | (unfold ra_in at *; omega)) (by first | omega | (unfold ra_in at *; omega))) rfl (ct_192 rfl lk_8_63 (Or.inl rfl) (Nat.le_of_ble_eq_true rfl)) ?_
  refine ra_ifeqB rfl rfl (fun h2 => ?_) (fun h2 => ?_)
  · refine ra_iconst rfl ?_
    exact ra_ireturn rfl (ra_okB (Or.inl rfl)) ⟨⟨_, (Or.inl rfl), (by omega), rfl⟩, rfl⟩
  · refine ra_load rfl rfl rfl rfl ?_
    refine ra_i2l rfl hx1 ?_
    refine ra_lconst1 rfl ?_
    refine ra_load rfl rfl rfl rfl ?_
    refine ra_i2l rfl hx2 ?_
    refine ra_cTp (sp_192 hx1 (by first | omega | (unfold ra_in at *; omega)) hx2) rfl (ct_192 rfl lk_8_63 (Or.inl rfl) (Nat.le_of_ble_eq_true rfl)) ?_
    refine ra_ifeqB rfl rfl (fun h4 => ?_) (fun h4 => ?_)
    · refine ra_iconst rfl ?_
      exact ra_ireturn rfl (ra_okB (Or.inl rfl)) ⟨⟨_, (Or.inl rfl), (by omega), rfl⟩, rfl⟩
    · refine ra_iconst rfl ?_
      refine ra_goto rfl rfl ?_
      exact ra_ireturn rfl (ra_okB (Or.inr rfl)) ⟨⟨_, (Or.inr rfl), (by omega), rfl⟩, rfl⟩
theorem sp_299 {n : Nat} {f : Nat → Int32} {d : Nat} {x0 : Int} {x1 : Int} {σ : ra_V} (hx0 : ra_in x0) (hx1 : x1 = 0 ∨ x1 = 1) (hw : WF σ) (hpw : PW σ) : ra_C (g_Gs n f) g_sh 0 (d + 4) 299 [.index (179), ra_I x0, ra_I x1] σ (fun r s => rB r ∧ Fr (179) (191) σ s ∧ s (183) = σ (183) ∧ s (187) = σ (187) ∧ (∀ a, a ≠ 5 → a ≠ 7 → a ≠ 10 → ra_g s 179 a = ra_g σ 179 a) ∧ WF s ∧ PW s) := by
  refine ra_enter (nn := 1) mt_299 rfl (Nat.le_of_ble_eq_true rfl) rfl (fun h => absurd h (by decide +kernel)) ?_
  have hw0 := WF_a hw
  unfold WFa at hw0
  refine ra_load rfl rfl rfl rfl ?_
  refine ra_iconst rfl ?_
  refine ra_putI rfl lk_8_51 (Nat.zero_le _) sh_179 rfl rfl ?_
  refine ra_newU (by first | omega | (unfold ra_in at *; omega)) (fun s1 hs1 hp2 hp2o => ?_)
  have hp2_99 := hp2o 99 (by decide)
  have hF3 := Fr_tr (lo := 179) (hi := 191) Fr_rf hs1 (by omega)
  have hk4 : s1 (180) = σ (180) := (hs1 (180) (by omega))
  have hk5 : s1 (183) = σ (183) := (hs1 (183) (by omega))
  have hk6 : s1 (184) = σ (184) := (hs1 (184) (by omega))
  have hk7 : s1 (187) = σ (187) := (hs1 (187) (by omega))
  have hg8 : ∀ a, a ≠ 5 → a ≠ 7 → a ≠ 10 → ra_g s1 179 a = ra_g σ 179 a := fun a h5 h7 h10 => ((fun a h7 h10 => hp2o a h7) a h7 h10).trans ((fun _ _ _ _ => rfl) a h5 h7 h10)
  have ho9 : ∀ a, a ≠ 7 → a ≠ 10 → ra_g s1 179 a = ra_g σ 179 a := fun a h7 h10 => ((fun a h7 h10 => hp2o a h7) a h7 h10).trans ((fun _ _ _ => rfl) a h7 h10)
  refine ra_load rfl rfl rfl rfl ?_
  refine ra_load rfl rfl rfl rfl ?_
  refine ra_iconst rfl ?_
  refine ra_cQP (sp_267 hx0 (by first | omega | (unfold ra_in at *; omega))) rfl (ct_267 rfl lk_8_318 (Or.inl rfl) sh_179 (Nat.le_of_ble_eq_true rfl)) (fun z11 s10 hz11 hz11p hs10 => ?_)
  rw [wq_k hk4] at hz11p
  obtain ⟨hf12, he13⟩ := hs10
  have hF14 := Fr_tr (lo := 179) (hi := 191) hF3 hf12 (by omega)
  have hk15 : s10 (180) = σ (180) := (hf12 (180) (by omega)).trans hk4
  have hk16 : s10 (183) = σ (183) := (hf12 (183) (by omega)).trans hk5
  have hk17 : s10 (184) = σ (184) := (hf12 (184) (by omega)).trans hk6
  have hk18 : s10 (187) = σ (187) := (hf12 (187) (by omega)).trans hk7
  have hg19 : ∀ a, a ≠ 5 → a ≠ 7 → a ≠ 10 → ra_g s10 179 a = ra_g σ 179 a := fun a h5 h7 h10 => ((fun a h7 h10 => he13 a h7) a h7 h10).trans (hg8 a h5 h7 h10)
  have ho20 : ∀ a, a ≠ 7 → a ≠ 10 → ra_g s10 179 a = ra_g σ 179 a := fun a h7 h10 => ((fun a h7 h10 => he13 a h7) a h7 h10).trans (ho9 a h7 h10)
  refine ra_ifeq rfl rfl (ra_in01 hz11) (fun h21 => ?_) (fun h21 => ?_)
  · refine ra_load rfl rfl rfl rfl ?_
    have hp := hz11p (by omega)
    have hq := WF_p hw hp.1 hp.2.1 hp.2.2
    refine ra_cV (sp_196 (WF_k hk15 hw) (PW_k hpw (ho20 5 (by decide) (by decide)) hk17)) rfl (ct_196 rfl lk_8_366 (Or.inl rfl) sh_179 (Nat.le_of_ble_eq_true rfl)) (fun s22 hs22 => ?_)
    obtain ⟨hf23, hc24, hc25, hc26, hc27, he28, he29⟩ := hs22
    have hF30 := Fr_tr (lo := 179) (hi := 191) hF14 hf23 (by omega)
    have hk31 : s22 (180) = σ (180) := hc24.trans hk15
    have hk32 : s22 (183) = σ (183) := hc27.trans hk16
    have hk33 : s22 (187) = σ (187) := (hf23 (187) (by omega)).trans hk18
    have hg34 : ∀ a, a ≠ 5 → a ≠ 7 → a ≠ 10 → ra_g s22 179 a = ra_g σ 179 a := fun a h5 h7 h10 => ((fun a h5 h7 h10 => he28 a h5) a h5 h7 h10).trans (hg19 a h5 h7 h10)
    refine ra_load rfl rfl rfl rfl ?_
    refine ra_load rfl rfl rfl rfl ?_
    refine ra_iconst rfl ?_
    refine ra_cTp (sp_199 hx0 (by first | omega | (unfold ra_in at *; omega)) (by first | assumption | rfl | omega)) rfl (ct_199 rfl lk_8_67 (Or.inl rfl) sh_179 (Nat.le_of_ble_eq_true rfl)) ?_
    rw [wq_k hk31]
    have hr36 : ra_in (wq σ x0 (5)) := (ra_in_wq _ _ _)
    refine ra_iconst rfl ?_
    refine ra_icne rfl rfl hr36 (by first | omega | (unfold ra_in at *; omega)) (fun h37 => ?_) (fun h37 => ?_)
    · refine ra_iconst rfl ?_
      refine ra_store (L' := [_, _, _, _]) rfl rfl rfl (Nat.le_of_ble_eq_true rfl) rfl ?_
      refine ra_load rfl rfl rfl rfl ?_
      refine ra_load rfl rfl rfl rfl ?_
      refine ra_iconst rfl ?_
      refine ra_load rfl rfl rfl rfl ?_
      refine ra_ifeq rfl rfl (ra_in01 hx1) (fun h38 => ?_) (fun h38 => ?_)
      · refine ra_iconst rfl ?_
        refine ra_cV (sp_200 hx0 (by first | omega | (unfold ra_in at *; omega)) (by first | omega | (unfold ra_in at *; omega)) (by first | assumption | rfl | omega)) rfl (ct_200 rfl lk_8_78 (Or.inl rfl) sh_179 (Nat.le_of_ble_eq_true rfl)) (fun s39 hs39 => ?_)
        obtain ⟨hf40, he41, he42⟩ := hs39
        have hF43 := Fr_tr (lo := 179) (hi := 191) hF30 hf40 (by omega)
        have hk44 : s39 (183) = σ (183) := (hf40 (183) (by omega)).trans hk32
        have hk45 : s39 (187) = σ (187) := (hf40 (187) (by omega)).trans hk33
        have hg46 : ∀ a, a ≠ 5 → a ≠ 7 → a ≠ 10 → ra_g s39 179 a = ra_g σ 179 a := fun a h5 h7 h10 => (ra_gk (hf40 179 (by omega))).trans (hg34 a h5 h7 h10)
        refine ra_load rfl rfl rfl rfl ?_
        exact ra_ireturn rfl (ra_okB (Or.inl rfl)) ⟨⟨_, (Or.inl rfl), rfl⟩, ⟨hF43, hk44, hk45, hg46, (WF_rel (fun a ha => he42 a (by unfold REL at ha; omega)) (WF_k hk31 hw)), (PW_k he29 (ra_gk (hf40 179 (by omega))) (hf40 184 (by omega)))⟩⟩
      · refine ra_iconst rfl ?_
        refine ra_goto rfl rfl ?_
        refine ra_cV (sp_200 hx0 (by first | omega | (unfold ra_in at *; omega)) (by first | omega | (unfold ra_in at *; omega)) (by first | assumption | rfl | omega)) rfl (ct_200 rfl lk_8_78 (Or.inl rfl) sh_179 (Nat.le_of_ble_eq_true rfl)) (fun s47 hs47 => ?_)
        obtain ⟨hf48, he49, he50⟩ := hs47
        have hF51 := Fr_tr (lo := 179) (hi := 191) hF30 hf48 (by omega)
        have hk52 : s47 (183) = σ (183) := (hf48 (183) (by omega)).trans hk32
        have hk53 : s47 (187) = σ (187) := (hf48 (187) (by omega)).trans hk33
        have hg54 : ∀ a, a ≠ 5 → a ≠ 7 → a ≠ 10 → ra_g s47 179 a = ra_g σ 179 a := fun a h5 h7 h10 => (ra_gk (hf48 179 (by omega))).trans (hg34 a h5 h7 h10)
        refine ra_load rfl rfl rfl rfl ?_
        exact ra_ireturn rfl (ra_okB (Or.inl rfl)) ⟨⟨_, (Or.inl rfl), rfl⟩, ⟨hF51, hk52, hk53, hg54, (WF_rel (fun a ha => he50 a (by unfold REL at ha; omega)) (WF_k hk31 hw)), (PW_k he29 (ra_gk (hf48 179 (by omega))) (hf48 184 (by omega)))⟩⟩
    · refine ra_iconst rfl ?_
      refine ra_goto rfl rfl ?_
      refine ra_store (L' := [_, _, _, _]) rfl rfl rfl (Nat.le_of_ble_eq_true rfl) rfl ?_
      refine ra_load rfl rfl rfl rfl ?_
      refine ra_load rfl rfl rfl rfl ?_
      refine ra_iconst rfl ?_
      refine ra_load rfl rfl rfl rfl ?_
      refine ra_ifeq rfl rfl (ra_in01 hx1) (fun h55 => ?_) (fun h55 => ?_)
      · refine ra_iconst rfl ?_
        refine ra_cV (sp_200 hx0 (by first | omega | (unfold ra_in at *; omega)) (by first | omega | (unfold ra_in at *; omega)) (by first | assumption | rfl | omega)) rfl (ct_200 rfl lk_8_78 (Or.inl rfl) sh_179 (Nat.le_of_ble_eq_true rfl)) (fun s56 hs56 => ?_)
        obtain ⟨hf57, he58, he59⟩ := hs56
        have hF60 := Fr_tr (lo := 179) (hi := 191) hF30 hf57 (by omega)
        have hk61 : s56 (183) = σ (183) := (hf57 (183) (by omega)).trans hk32
        have hk62 : s56 (187) = σ (187) := (hf57 (187) (by omega)).trans hk33
        have hg63 : ∀ a, a ≠ 5 → a ≠ 7 → a ≠ 10 → ra_g s56 179 a = ra_g σ 179 a := fun a h5 h7 h10 => (ra_gk (hf57 179 (by omega))).trans (hg34 a h5 h7 h10)
        refine ra_load rfl rfl rfl rfl ?_
        exact ra_ireturn rfl (ra_okB (Or.inr rfl)) ⟨⟨_, (Or.inr rfl), rfl⟩, ⟨hF60, hk61, hk62, hg63, (WF_rel (fun a ha => he59 a (by unfold REL at ha; omega)) (WF_k hk31 hw)), (PW_k he29 (ra_gk (hf57 179 (by omega))) (hf57 184 (by omega)))⟩⟩
      · refine ra_iconst rfl ?_
        refine ra_goto rfl rfl ?_
        refine ra_cV (sp_200 hx0 (by first | omega | (unfold ra_in at *; omega)) (by first | omega | (unfold ra_in at *; omega)) (by first | assumption | rfl | omega)) rfl (ct_200 rfl lk_8_78 (Or.inl rfl) sh_179 (Nat.le_of_ble_eq_true rfl)) (fun s64 hs64 => ?_)
        obtain ⟨hf65, he66, he67⟩ := hs64
        have hF68 := Fr_tr (lo := 179) (hi := 191) hF30 hf65 (by omega)
        have hk69 : s64 (183) = σ (183) := (hf65 (183) (by omega)).trans hk32
        have hk70 : s64 (187) = σ (187) := (hf65 (187) (by omega)).trans hk33
        have hg71 : ∀ a, a ≠ 5 → a ≠ 7 → a ≠ 10 → ra_g s64 179 a = ra_g σ 179 a := fun a h5 h7 h10 => (ra_gk (hf65 179 (by omega))).trans (hg34 a h5 h7 h10)
        refine ra_load rfl rfl rfl rfl ?_
        exact ra_ireturn rfl (ra_okB (Or.inr rfl)) ⟨⟨_, (Or.inr rfl), rfl⟩, ⟨hF68, hk69, hk70, hg71, (WF_rel (fun a ha => he67 a (by unfold REL at ha; omega)) (WF_k hk31 hw)), (PW_k he29 (ra_gk (hf65 179 (by omega))) (hf65 184 (by omega)))⟩⟩
  · refine ra_iconst rfl ?_
    exact ra_ireturn rfl (ra_okB (Or.inl rfl)) ⟨⟨_, (Or.inl rfl), rfl⟩, ⟨hF14, hk16, hk18, hg19, (WF_k hk15 hw), (PW_k hpw (ho20 5 (by decide) (by decide)) hk17)⟩⟩
theorem sp_298 {n : Nat} {f : Nat → Int32} {d : Nat} {x0 : Int} {σ : ra_V} (hx0 : ra_in x0) (hw : WF σ) (hpw : PW σ) : ra_C (g_Gs n f) g_sh 0 (d + 4) 298 [.index (179), ra_I x0] σ (fun r s => rI r ∧ Fr (179) (191) σ s ∧ s (183) = σ (183) ∧ s (187) = σ (187) ∧ (∀ a, a ≠ 5 → a ≠ 7 → a ≠ 10 → ra_g s 179 a = ra_g σ 179 a) ∧ WF s ∧ PW s) := by
  refine ra_enter (nn := 0) mt_298 rfl (Nat.le_of_ble_eq_true rfl) rfl (fun h => absurd h (by decide +kernel)) ?_
  have hw0 := WF_a hw
  unfold WFa at hw0
  refine ra_load rfl rfl rfl rfl ?_
  refine ra_iconst rfl ?_
  refine ra_putI rfl lk_8_51 (Nat.zero_le _) sh_179 rfl rfl ?_
  refine ra_newU (by first | omega | (unfold ra_in at *; omega)) (fun s1 hs1 hp2 hp2o => ?_)
  have hp2_99 := hp2o 99 (by decide)
  have hF3 := Fr_tr (lo := 179) (hi := 191) Fr_rf hs1 (by omega)
  have hk4 : s1 (180) = σ (180) := (hs1 (180) (by omega))
  have hk5 : s1 (183) = σ (183) := (hs1 (183) (by omega))
  have hk6 : s1 (184) = σ (184) := (hs1 (184) (by omega))
  have hk7 : s1 (187) = σ (187) := (hs1 (187) (by omega))
  have hg8 : ∀ a, a ≠ 5 → a ≠ 7 → a ≠ 10 → ra_g s1 179 a = ra_g σ 179 a := fun a h5 h7 h10 => ((fun a h7 h10 => hp2o a h7) a h7 h10).trans ((fun _ _ _ _ => rfl) a h5 h7 h10)
  have ho9 : ∀ a, a ≠ 7 → a ≠ 10 → ra_g s1 179 a = ra_g σ 179 a := fun a h7 h10 => ((fun a h7 h10 => hp2o a h7) a h7 h10).trans ((fun _ _ _ => rfl) a h7 h10)
  refine ra_load rfl rfl rfl rfl ?_
  refine ra_load rfl rfl rfl rfl ?_
  refine ra_load rfl rfl rfl rfl ?_
  refine ra_cQPp (sp_201 hx0) rfl (ct_201 rfl lk_8_313 (Or.inl rfl) sh_179 (Nat.le_of_ble_eq_true rfl)) (fun z11 hz11 hz11p => ?_)
  rw [wq_k hk4] at hz11p
  refine ra_ifeq rfl rfl (ra_in01 hz11) (fun h12 => ?_) (fun h12 => ?_)
  · refine ra_iconst rfl ?_
    refine ra_iconst rfl ?_
    refine ra_cT (sp_193 (Or.inl rfl) (by first | omega | (unfold ra_in at *; omega))) rfl (ct_193 rfl lk_8_303 (Or.inl rfl) sh_179 (Nat.le_of_ble_eq_true rfl)) (fun s13 hs13 => ?_)
    obtain ⟨hf14, he15⟩ := hs13
    have hF16 := Fr_tr (lo := 179) (hi := 191) hF3 hf14 (by omega)
    have hk17 : s13 (180) = σ (180) := (hf14 (180) (by omega)).trans hk4
    have hk18 : s13 (183) = σ (183) := (hf14 (183) (by omega)).trans hk5
    have hk19 : s13 (184) = σ (184) := (hf14 (184) (by omega)).trans hk6
    have hk20 : s13 (187) = σ (187) := (hf14 (187) (by omega)).trans hk7
    have hg21 : ∀ a, a ≠ 5 → a ≠ 7 → a ≠ 10 → ra_g s13 179 a = ra_g σ 179 a := fun a h5 h7 h10 => ((fun a h7 h10 => he15 a h7) a h7 h10).trans (hg8 a h5 h7 h10)
    have ho22 : ∀ a, a ≠ 7 → a ≠ 10 → ra_g s13 179 a = ra_g σ 179 a := fun a h7 h10 => ((fun a h7 h10 => he15 a h7) a h7 h10).trans (ho9 a h7 h10)
    refine ra_ifne rfl rfl (by first | omega | (unfold ra_in at *; omega)) (fun h23 => ?_) (fun h23 => ?_)
    · exact absurd h23 (by decide)
    · refine ra_load rfl rfl rfl rfl ?_
      refine ra_load rfl rfl rfl rfl ?_
      refine ra_iconst rfl ?_
      refine ra_cQP (sp_267 hx0 (by first | omega | (unfold ra_in at *; omega))) rfl (ct_267 rfl lk_8_318 (Or.inl rfl) sh_179 (Nat.le_of_ble_eq_true rfl)) (fun z25 s24 hz25 hz25p hs24 => ?_)
      rw [wq_k hk17] at hz25p
      obtain ⟨hf26, he27⟩ := hs24
      have hF28 := Fr_tr (lo := 179) (hi := 191) hF16 hf26 (by omega)
      have hk29 : s24 (180) = σ (180) := (hf26 (180) (by omega)).trans hk17
      have hk30 : s24 (183) = σ (183) := (hf26 (183) (by omega)).trans hk18
      have hk31 : s24 (184) = σ (184) := (hf26 (184) (by omega)).trans hk19
      have hk32 : s24 (187) = σ (187) := (hf26 (187) (by omega)).trans hk20
      have hg33 : ∀ a, a ≠ 5 → a ≠ 7 → a ≠ 10 → ra_g s24 179 a = ra_g σ 179 a := fun a h5 h7 h10 => ((fun a h7 h10 => he27 a h7) a h7 h10).trans (hg21 a h5 h7 h10)
      have ho34 : ∀ a, a ≠ 7 → a ≠ 10 → ra_g s24 179 a = ra_g σ 179 a := fun a h7 h10 => ((fun a h7 h10 => he27 a h7) a h7 h10).trans (ho22 a h7 h10)
      refine ra_ifeq rfl rfl (ra_in01 hz25) (fun h35 => ?_) (fun h35 => ?_)
      · refine ra_load rfl rfl rfl rfl ?_
        have hp := hz25p (by omega)
        have hst := hz11p.mpr hp
        have hq := WF_p hw hp.1 hp.2.1 hp.2.2
        refine ra_cV (sp_196 (WF_k hk29 hw) (PW_k hpw (ho34 5 (by decide) (by decide)) hk31)) rfl (ct_196 rfl lk_8_366 (Or.inl rfl) sh_179 (Nat.le_of_ble_eq_true rfl)) (fun s36 hs36 => ?_)
        obtain ⟨hf37, hc38, hc39, hc40, hc41, he42, he43⟩ := hs36
        have hF44 := Fr_tr (lo := 179) (hi := 191) hF28 hf37 (by omega)
        have hk45 : s36 (180) = σ (180) := hc38.trans hk29
        have hk46 : s36 (183) = σ (183) := hc41.trans hk30
        have hk47 : s36 (187) = σ (187) := (hf37 (187) (by omega)).trans hk32
        have hg48 : ∀ a, a ≠ 5 → a ≠ 7 → a ≠ 10 → ra_g s36 179 a = ra_g σ 179 a := fun a h5 h7 h10 => ((fun a h5 h7 h10 => he42 a h5) a h5 h7 h10).trans (hg33 a h5 h7 h10)
        refine ra_load rfl rfl rfl rfl ?_
        refine ra_load rfl rfl rfl rfl ?_
        refine ra_iconst rfl ?_
        refine ra_iconst rfl ?_
        refine ra_cV (sp_200 hx0 (by first | omega | (unfold ra_in at *; omega)) (by first | omega | (unfold ra_in at *; omega)) (by first | assumption | rfl | omega)) rfl (ct_200 rfl lk_8_78 (Or.inl rfl) sh_179 (Nat.le_of_ble_eq_true rfl)) (fun s49 hs49 => ?_)
        obtain ⟨hf50, he51, he52⟩ := hs49
        have hF53 := Fr_tr (lo := 179) (hi := 191) hF44 hf50 (by omega)
        have hk54 : s49 (183) = σ (183) := (hf50 (183) (by omega)).trans hk46
        have hk55 : s49 (187) = σ (187) := (hf50 (187) (by omega)).trans hk47
        have hg56 : ∀ a, a ≠ 5 → a ≠ 7 → a ≠ 10 → ra_g s49 179 a = ra_g σ 179 a := fun a h5 h7 h10 => (ra_gk (hf50 179 (by omega))).trans (hg48 a h5 h7 h10)
        refine ra_load rfl rfl rfl rfl ?_
        refine ra_load rfl rfl rfl rfl ?_
        refine ra_iconst rfl ?_
        refine ra_cTp (sp_199 hx0 (by first | omega | (unfold ra_in at *; omega)) (by first | assumption | rfl | omega)) rfl (ct_199 rfl lk_8_67 (Or.inl rfl) sh_179 (Nat.le_of_ble_eq_true rfl)) ?_
        have hr58 : ra_in (wq s49 x0 (2)) := (ra_in_wq _ _ _)
        exact ra_ireturn rfl rfl ⟨⟨_, hr58, rfl⟩, ⟨hF53, hk54, hk55, hg56, (by first | (exfalso; omega) | exact WF_chg (p := x0) (WF_k hk45 hw) ⟨by omega, by omega⟩ (fun a ha hn => he52 a (by omega)) (by rw [ra_gk hk45]; exact hfx.2) (Or.inl he51)), (PW_k he43 (ra_gk (hf50 179 (by omega))) (hf50 184 (by omega)))⟩⟩
      · refine ra_iconst rfl ?_
        exact ra_ireturn rfl rfl ⟨⟨_, (by first | omega | (unfold ra_in at *; omega)), rfl⟩, ⟨hF28, hk30, hk32, hg33, (WF_k hk29 hw), (PW_k hpw (ho34 5 (by decide) (by decide)) hk31)⟩⟩
  · refine ra_load rfl rfl rfl rfl ?_
    refine ra_load rfl rfl rfl rfl ?_
    refine ra_cQPp (sp_205 hx0 (by first | assumption | rfl | omega)) rfl (ct_205 rfl lk_8_355 (Or.inl rfl) sh_179 (Nat.le_of_ble_eq_true rfl)) (fun z60 hz60 hz60p => ?_)
    refine ra_ifeq rfl rfl (ra_in01 hz60) (fun h61 => ?_) (fun h61 => ?_)
    · refine ra_iconst rfl ?_
      refine ra_iconst rfl ?_
      refine ra_cT (sp_193 (Or.inl rfl) (by first | omega | (unfold ra_in at *; omega))) rfl (ct_193 rfl lk_8_303 (Or.inl rfl) sh_179 (Nat.le_of_ble_eq_true rfl)) (fun s62 hs62 => ?_)
      obtain ⟨hf63, he64⟩ := hs62
      have hF65 := Fr_tr (lo := 179) (hi := 191) hF3 hf63 (by omega)
      have hk66 : s62 (180) = σ (180) := (hf63 (180) (by omega)).trans hk4
      have hk67 : s62 (183) = σ (183) := (hf63 (183) (by omega)).trans hk5
      have hk68 : s62 (184) = σ (184) := (hf63 (184) (by omega)).trans hk6
      have hk69 : s62 (187) = σ (187) := (hf63 (187) (by omega)).trans hk7
      have hg70 : ∀ a, a ≠ 5 → a ≠ 7 → a ≠ 10 → ra_g s62 179 a = ra_g σ 179 a := fun a h5 h7 h10 => ((fun a h7 h10 => he64 a h7) a h7 h10).trans (hg8 a h5 h7 h10)
      have ho71 : ∀ a, a ≠ 7 → a ≠ 10 → ra_g s62 179 a = ra_g σ 179 a := fun a h7 h10 => ((fun a h7 h10 => he64 a h7) a h7 h10).trans (ho9 a h7 h10)
      refine ra_ifne rfl rfl (by first | omega | (unfold ra_in at *; omega)) (fun h72 => ?_) (fun h72 => ?_)
      · exact absurd h72 (by decide)
      · refine ra_load rfl rfl rfl rfl ?_
        refine ra_load rfl rfl rfl rfl ?_
        refine ra_iconst rfl ?_
        refine ra_cQP (sp_267 hx0 (by first | omega | (unfold ra_in at *; omega))) rfl (ct_267 rfl lk_8_318 (Or.inl rfl) sh_179 (Nat.le_of_ble_eq_true rfl)) (fun z74 s73 hz74 hz74p hs73 => ?_)
        rw [wq_k hk66] at hz74p
        obtain ⟨hf75, he76⟩ := hs73
        have hF77 := Fr_tr (lo := 179) (hi := 191) hF65 hf75 (by omega)
        have hk78 : s73 (180) = σ (180) := (hf75 (180) (by omega)).trans hk66
        have hk79 : s73 (183) = σ (183) := (hf75 (183) (by omega)).trans hk67
        have hk80 : s73 (184) = σ (184) := (hf75 (184) (by omega)).trans hk68
        have hk81 : s73 (187) = σ (187) := (hf75 (187) (by omega)).trans hk69
        have hg82 : ∀ a, a ≠ 5 → a ≠ 7 → a ≠ 10 → ra_g s73 179 a = ra_g σ 179 a := fun a h5 h7 h10 => ((fun a h7 h10 => he76 a h7) a h7 h10).trans (hg70 a h5 h7 h10)
        have ho83 : ∀ a, a ≠ 7 → a ≠ 10 → ra_g s73 179 a = ra_g σ 179 a := fun a h7 h10 => ((fun a h7 h10 => he76 a h7) a h7 h10).trans (ho71 a h7 h10)
        refine ra_ifeq rfl rfl (ra_in01 hz74) (fun h84 => ?_) (fun h84 => ?_)
        · refine ra_load rfl rfl rfl rfl ?_
          have hp := hz74p (by omega)
          have hst := hz11p.mpr hp
          have hfx := hz60p (by omega)
          rw [wq_k hk4, ra_gk hk4] at hfx
          have hq := WF_p hw hp.1 hp.2.1 hp.2.2
          refine ra_cV (sp_196 (WF_k hk78 hw) (PW_k hpw (ho83 5 (by decide) (by decide)) hk80)) rfl (ct_196 rfl lk_8_366 (Or.inl rfl) sh_179 (Nat.le_of_ble_eq_true rfl)) (fun s85 hs85 => ?_)
          obtain ⟨hf86, hc87, hc88, hc89, hc90, he91, he92⟩ := hs85
          have hF93 := Fr_tr (lo := 179) (hi := 191) hF77 hf86 (by omega)
          have hk94 : s85 (180) = σ (180) := hc87.trans hk78
          have hk95 : s85 (183) = σ (183) := hc90.trans hk79
          have hk96 : s85 (187) = σ (187) := (hf86 (187) (by omega)).trans hk81
          have hg97 : ∀ a, a ≠ 5 → a ≠ 7 → a ≠ 10 → ra_g s85 179 a = ra_g σ 179 a := fun a h5 h7 h10 => ((fun a h5 h7 h10 => he91 a h5) a h5 h7 h10).trans (hg82 a h5 h7 h10)
          refine ra_load rfl rfl rfl rfl ?_
          refine ra_load rfl rfl rfl rfl ?_
          refine ra_iconst rfl ?_
          refine ra_iconst rfl ?_
          refine ra_cV (sp_200 hx0 (by first | omega | (unfold ra_in at *; omega)) (by first | omega | (unfold ra_in at *; omega)) (by first | assumption | rfl | omega)) rfl (ct_200 rfl lk_8_78 (Or.inl rfl) sh_179 (Nat.le_of_ble_eq_true rfl)) (fun s98 hs98 => ?_)
          obtain ⟨hf99, he100, he101⟩ := hs98
          have hF102 := Fr_tr (lo := 179) (hi := 191) hF93 hf99 (by omega)
          have hk103 : s98 (183) = σ (183) := (hf99 (183) (by omega)).trans hk95
          have hk104 : s98 (187) = σ (187) := (hf99 (187) (by omega)).trans hk96
          have hg105 : ∀ a, a ≠ 5 → a ≠ 7 → a ≠ 10 → ra_g s98 179 a = ra_g σ 179 a := fun a h5 h7 h10 => (ra_gk (hf99 179 (by omega))).trans (hg97 a h5 h7 h10)
          refine ra_load rfl rfl rfl rfl ?_
          refine ra_load rfl rfl rfl rfl ?_
          refine ra_iconst rfl ?_
          refine ra_cTp (sp_199 hx0 (by first | omega | (unfold ra_in at *; omega)) (by first | assumption | rfl | omega)) rfl (ct_199 rfl lk_8_67 (Or.inl rfl) sh_179 (Nat.le_of_ble_eq_true rfl)) ?_
          have hr107 : ra_in (wq s98 x0 (2)) := (ra_in_wq _ _ _)
          exact ra_ireturn rfl rfl ⟨⟨_, hr107, rfl⟩, ⟨hF102, hk103, hk104, hg105, (by first | (exfalso; omega) | exact WF_chg (p := x0) (WF_k hk94 hw) ⟨by omega, by omega⟩ (fun a ha hn => he101 a (by omega)) (by rw [ra_gk hk94]; exact hfx.2) (Or.inl he100)), (PW_k he92 (ra_gk (hf99 179 (by omega))) (hf99 184 (by omega)))⟩⟩
        · refine ra_iconst rfl ?_
          exact ra_ireturn rfl rfl ⟨⟨_, (by first | omega | (unfold ra_in at *; omega)), rfl⟩, ⟨hF77, hk79, hk81, hg82, (WF_k hk78 hw), (PW_k hpw (ho83 5 (by decide) (by decide)) hk80)⟩⟩
    · refine ra_iconst rfl ?_
      refine ra_goto rfl rfl ?_
      refine ra_iconst rfl ?_
      refine ra_cT (sp_193 (Or.inr rfl) (by first | omega | (unfold ra_in at *; omega))) rfl (ct_193 rfl lk_8_303 (Or.inl rfl) sh_179 (Nat.le_of_ble_eq_true rfl)) (fun s108 hs108 => ?_)
      obtain ⟨hf109, he110⟩ := hs108
      have hF111 := Fr_tr (lo := 179) (hi := 191) hF3 hf109 (by omega)
      have hk112 : s108 (180) = σ (180) := (hf109 (180) (by omega)).trans hk4
      have hk113 : s108 (183) = σ (183) := (hf109 (183) (by omega)).trans hk5
      have hk114 : s108 (184) = σ (184) := (hf109 (184) (by omega)).trans hk6
      have hk115 : s108 (187) = σ (187) := (hf109 (187) (by omega)).trans hk7
      have hg116 : ∀ a, a ≠ 5 → a ≠ 7 → a ≠ 10 → ra_g s108 179 a = ra_g σ 179 a := fun a h5 h7 h10 => ((fun a h7 h10 => he110 a h7) a h7 h10).trans (hg8 a h5 h7 h10)
      have ho117 : ∀ a, a ≠ 7 → a ≠ 10 → ra_g s108 179 a = ra_g σ 179 a := fun a h7 h10 => ((fun a h7 h10 => he110 a h7) a h7 h10).trans (ho9 a h7 h10)
      refine ra_ifne rfl rfl (by first | omega | (unfold ra_in at *; omega)) (fun h118 => ?_) (fun h118 => ?_)
      · refine ra_iconst rfl ?_
        exact ra_ireturn rfl rfl ⟨⟨_, (by first | omega | (unfold ra_in at *; omega)), rfl⟩, ⟨hF111, hk113, hk115, hg116, (WF_k hk112 hw), (PW_k hpw (ho117 5 (by decide) (by decide)) hk114)⟩⟩
      · exact absurd h118 (by decide)
theorem sp_306 {n : Nat} {f : Nat → Int32} {d : Nat} {x0 : Int} {x1 : Int} {σ : ra_V} (hx0 : ra_in x0) (hx1 : ra_in x1) (hw : WF σ) (hpw : PW σ) : ra_C (g_Gs n f) g_sh 0 (d + 4) 306 [.index (179), ra_I x0, ra_I x1] σ (fun r s => rI r ∧ Fr (179) (191) σ s ∧ s (183) = σ (183) ∧ s (187) = σ (187) ∧ (∀ a, a ≠ 5 → a ≠ 7 → a ≠ 10 → ra_g s 179 a = ra_g σ 179 a) ∧ WF s ∧ PW s) := by
  refine ra_enter (nn := 1) mt_306 rfl (Nat.le_of_ble_eq_true rfl) rfl (fun h => absurd h (by decide +kernel)) ?_
  have hw0 := WF_a hw
  unfold WFa at hw0
  refine ra_load rfl rfl rfl rfl ?_
  refine ra_iconst rfl ?_
  refine ra_putI rfl lk_8_51 (Nat.zero_le _) sh_179 rfl rfl ?_
  refine ra_newU (by first | omega | (unfold ra_in at *; omega)) (fun s1 hs1 hp2 hp2o => ?_)
  have hp2_99 := hp2o 99 (by decide)
  have hF3 := Fr_tr (lo := 179) (hi := 191) Fr_rf hs1 (by omega)
  have hk4 : s1 (180) = σ (180) := (hs1 (180) (by omega))
  have hk5 : s1 (183) = σ (183) := (hs1 (183) (by omega))
  have hk6 : s1 (184) = σ (184) := (hs1 (184) (by omega))
  have hk7 : s1 (187) = σ (187) := (hs1 (187) (by omega))
  have hg8 : ∀ a, a ≠ 5 → a ≠ 7 → a ≠ 10 → ra_g s1 179 a = ra_g σ 179 a := fun a h5 h7 h10 => ((fun a h7 h10 => hp2o a h7) a h7 h10).trans ((fun _ _ _ _ => rfl) a h5 h7 h10)
  have ho9 : ∀ a, a ≠ 7 → a ≠ 10 → ra_g s1 179 a = ra_g σ 179 a := fun a h7 h10 => ((fun a h7 h10 => hp2o a h7) a h7 h10).trans ((fun _ _ _ => rfl) a h7 h10)
  refine ra_load rfl rfl rfl rfl ?_
  refine ra_load rfl rfl rfl rfl ?_
  refine ra_load rfl rfl rfl rfl ?_
  refine ra_cQPp (sp_201 hx0) rfl (ct_201 rfl lk_8_313 (Or.inl rfl) sh_179 (Nat.le_of_ble_eq_true rfl)) (fun z11 hz11 hz11p => ?_)
  rw [wq_k hk4] at hz11p
  refine ra_ifeq rfl rfl (ra_in01 hz11) (fun h12 => ?_) (fun h12 => ?_)
  · refine ra_iconst rfl ?_
    refine ra_iconst rfl ?_
    refine ra_cT (sp_193 (Or.inl rfl) (by first | omega | (unfold ra_in at *; omega))) rfl (ct_193 rfl lk_8_303 (Or.inl rfl) sh_179 (Nat.le_of_ble_eq_true rfl)) (fun s13 hs13 => ?_)
    obtain ⟨hf14, he15⟩ := hs13
    have hF16 := Fr_tr (lo := 179) (hi := 191) hF3 hf14 (by omega)
    have hk17 : s13 (180) = σ (180) := (hf14 (180) (by omega)).trans hk4
    have hk18 : s13 (183) = σ (183) := (hf14 (183) (by omega)).trans hk5
    have hk19 : s13 (184) = σ (184) := (hf14 (184) (by omega)).trans hk6
    have hk20 : s13 (187) = σ (187) := (hf14 (187) (by omega)).trans hk7
    have hg21 : ∀ a, a ≠ 5 → a ≠ 7 → a ≠ 10 → ra_g s13 179 a = ra_g σ 179 a := fun a h5 h7 h10 => ((fun a h7 h10 => he15 a h7) a h7 h10).trans (hg8 a h5 h7 h10)
    have ho22 : ∀ a, a ≠ 7 → a ≠ 10 → ra_g s13 179 a = ra_g σ 179 a := fun a h7 h10 => ((fun a h7 h10 => he15 a h7) a h7 h10).trans (ho9 a h7 h10)
    refine ra_ifne rfl rfl (by first | omega | (unfold ra_in at *; omega)) (fun h23 => ?_) (fun h23 => ?_)
    · exact absurd h23 (by decide)
    · refine ra_load rfl rfl rfl rfl ?_
      refine ra_load rfl rfl rfl rfl ?_
      refine ra_iconst rfl ?_
      refine ra_cQP (sp_267 hx0 (by first | omega | (unfold ra_in at *; omega))) rfl (ct_267 rfl lk_8_318 (Or.inl rfl) sh_179 (Nat.le_of_ble_eq_true rfl)) (fun z25 s24 hz25 hz25p hs24 => ?_)
      rw [wq_k hk17] at hz25p
      obtain ⟨hf26, he27⟩ := hs24
      have hF28 := Fr_tr (lo := 179) (hi := 191) hF16 hf26 (by omega)
      have hk29 : s24 (180) = σ (180) := (hf26 (180) (by omega)).trans hk17
      have hk30 : s24 (183) = σ (183) := (hf26 (183) (by omega)).trans hk18
      have hk31 : s24 (184) = σ (184) := (hf26 (184) (by omega)).trans hk19
      have hk32 : s24 (187) = σ (187) := (hf26 (187) (by omega)).trans hk20
      have hg33 : ∀ a, a ≠ 5 → a ≠ 7 → a ≠ 10 → ra_g s24 179 a = ra_g σ 179 a := fun a h5 h7 h10 => ((fun a h7 h10 => he27 a h7) a h7 h10).trans (hg21 a h5 h7 h10)
      have ho34 : ∀ a, a ≠ 7 → a ≠ 10 → ra_g s24 179 a = ra_g σ 179 a := fun a h7 h10 => ((fun a h7 h10 => he27 a h7) a h7 h10).trans (ho22 a h7 h10)
      refine ra_ifeq rfl rfl (ra_in01 hz25) (fun h35 => ?_) (fun h35 => ?_)
      · refine ra_load rfl rfl rfl rfl ?_
        have hp := hz25p (by omega)
        have hst := hz11p.mpr hp
        have hq := WF_p hw hp.1 hp.2.1 hp.2.2
        refine ra_cV (sp_196 (WF_k hk29 hw) (PW_k hpw (ho34 5 (by decide) (by decide)) hk31)) rfl (ct_196 rfl lk_8_366 (Or.inl rfl) sh_179 (Nat.le_of_ble_eq_true rfl)) (fun s36 hs36 => ?_)
        obtain ⟨hf37, hc38, hc39, hc40, hc41, he42, he43⟩ := hs36
        have hF44 := Fr_tr (lo := 179) (hi := 191) hF28 hf37 (by omega)
        have hk45 : s36 (180) = σ (180) := hc38.trans hk29
        have hk46 : s36 (183) = σ (183) := hc41.trans hk30
        have hk47 : s36 (187) = σ (187) := (hf37 (187) (by omega)).trans hk32
        have hg48 : ∀ a, a ≠ 5 → a ≠ 7 → a ≠ 10 → ra_g s36 179 a = ra_g σ 179 a := fun a h5 h7 h10 => ((fun a h5 h7 h10 => he42 a h5) a h5 h7 h10).trans (hg33 a h5 h7 h10)
        refine ra_load rfl rfl rfl rfl ?_
        refine ra_load rfl rfl rfl rfl ?_
        refine ra_iconst rfl ?_
        refine ra_cTp (sp_199 hx0 (by first | omega | (unfold ra_in at *; omega)) (by first | assumption | rfl | omega)) rfl (ct_199 rfl lk_8_67 (Or.inl rfl) sh_179 (Nat.le_of_ble_eq_true rfl)) ?_
        rw [wq_k hk45]
        have hr50 : ra_in (wq σ x0 (3)) := (ra_in_wq _ _ _)
        refine ra_store (L' := [_, _, _, _]) rfl rfl rfl (Nat.le_of_ble_eq_true rfl) rfl ?_
        refine ra_load rfl rfl rfl rfl ?_
        refine ra_load rfl rfl rfl rfl ?_
        refine ra_iconst rfl ?_
        refine ra_load rfl rfl rfl rfl ?_
        refine ra_cV (sp_200 hx0 (by first | omega | (unfold ra_in at *; omega)) hx1 (by first | assumption | rfl | omega)) rfl (ct_200 rfl lk_8_78 (Or.inl rfl) sh_179 (Nat.le_of_ble_eq_true rfl)) (fun s51 hs51 => ?_)
        obtain ⟨hf52, he53, he54⟩ := hs51
        have hF55 := Fr_tr (lo := 179) (hi := 191) hF44 hf52 (by omega)
        have hk56 : s51 (183) = σ (183) := (hf52 (183) (by omega)).trans hk46
        have hk57 : s51 (187) = σ (187) := (hf52 (187) (by omega)).trans hk47
        have hg58 : ∀ a, a ≠ 5 → a ≠ 7 → a ≠ 10 → ra_g s51 179 a = ra_g σ 179 a := fun a h5 h7 h10 => (ra_gk (hf52 179 (by omega))).trans (hg48 a h5 h7 h10)
        refine ra_load rfl rfl rfl rfl ?_
        exact ra_ireturn rfl rfl ⟨⟨_, hr50, rfl⟩, ⟨hF55, hk56, hk57, hg58, (by first | (exfalso; omega) | exact WF_mn (p := x0) (WF_k hk45 hw) ⟨by omega, by omega⟩ (fun a hn => he54 a hn) (by have t := he53; rw [wq_k hk45]; omega)), (PW_k he43 (ra_gk (hf52 179 (by omega))) (hf52 184 (by omega)))⟩⟩
      · refine ra_iconst rfl ?_
        exact ra_ireturn rfl rfl ⟨⟨_, (by first | omega | (unfold ra_in at *; omega)), rfl⟩, ⟨hF28, hk30, hk32, hg33, (WF_k hk29 hw), (PW_k hpw (ho34 5 (by decide) (by decide)) hk31)⟩⟩
  · refine ra_load rfl rfl rfl rfl ?_
    refine ra_i2l rfl hx1 ?_
    refine ra_lconst1 rfl ?_
    refine ra_load rfl rfl rfl rfl ?_
    refine ra_load rfl rfl rfl rfl ?_
    refine ra_iconst rfl ?_
    refine ra_cTp (sp_199 hx0 (by first | omega | (unfold ra_in at *; omega)) (by first | assumption | rfl | omega)) rfl (ct_199 rfl lk_8_67 (Or.inl rfl) sh_179 (Nat.le_of_ble_eq_true rfl)) ?_
    rw [wq_k hk4]
    have hr60 : ra_in (wq σ x0 (2)) := (ra_in_wq _ _ _)
    refine ra_i2l rfl hr60 ?_
    refine ra_cTp (sp_192 hx1 (by first | omega | (unfold ra_in at *; omega)) hr60) rfl (ct_192 rfl lk_8_63 (Or.inl rfl) (Nat.le_of_ble_eq_true rfl)) ?_
    refine ra_ifneB rfl rfl (fun h62 => ?_) (fun h62 => ?_)
    · refine ra_iconst rfl ?_
      refine ra_iconst rfl ?_
      refine ra_cT (sp_193 (Or.inl rfl) (by first | omega | (unfold ra_in at *; omega))) rfl (ct_193 rfl lk_8_303 (Or.inl rfl) sh_179 (Nat.le_of_ble_eq_true rfl)) (fun s63 hs63 => ?_)
      obtain ⟨hf64, he65⟩ := hs63
      have hF66 := Fr_tr (lo := 179) (hi := 191) hF3 hf64 (by omega)
      have hk67 : s63 (180) = σ (180) := (hf64 (180) (by omega)).trans hk4
      have hk68 : s63 (183) = σ (183) := (hf64 (183) (by omega)).trans hk5
      have hk69 : s63 (184) = σ (184) := (hf64 (184) (by omega)).trans hk6
      have hk70 : s63 (187) = σ (187) := (hf64 (187) (by omega)).trans hk7
      have hg71 : ∀ a, a ≠ 5 → a ≠ 7 → a ≠ 10 → ra_g s63 179 a = ra_g σ 179 a := fun a h5 h7 h10 => ((fun a h7 h10 => he65 a h7) a h7 h10).trans (hg8 a h5 h7 h10)
      have ho72 : ∀ a, a ≠ 7 → a ≠ 10 → ra_g s63 179 a = ra_g σ 179 a := fun a h7 h10 => ((fun a h7 h10 => he65 a h7) a h7 h10).trans (ho9 a h7 h10)
      refine ra_ifne rfl rfl (by first | omega | (unfold ra_in at *; omega)) (fun h73 => ?_) (fun h73 => ?_)
      · exact absurd h73 (by decide)
      · refine ra_load rfl rfl rfl rfl ?_
        refine ra_load rfl rfl rfl rfl ?_
        refine ra_iconst rfl ?_
        refine ra_cQP (sp_267 hx0 (by first | omega | (unfold ra_in at *; omega))) rfl (ct_267 rfl lk_8_318 (Or.inl rfl) sh_179 (Nat.le_of_ble_eq_true rfl)) (fun z75 s74 hz75 hz75p hs74 => ?_)
        rw [wq_k hk67] at hz75p
        obtain ⟨hf76, he77⟩ := hs74
        have hF78 := Fr_tr (lo := 179) (hi := 191) hF66 hf76 (by omega)
        have hk79 : s74 (180) = σ (180) := (hf76 (180) (by omega)).trans hk67
        have hk80 : s74 (183) = σ (183) := (hf76 (183) (by omega)).trans hk68
        have hk81 : s74 (184) = σ (184) := (hf76 (184) (by omega)).trans hk69
        have hk82 : s74 (187) = σ (187) := (hf76 (187) (by omega)).trans hk70
        have hg83 : ∀ a, a ≠ 5 → a ≠ 7 → a ≠ 10 → ra_g s74 179 a = ra_g σ 179 a := fun a h5 h7 h10 => ((fun a h7 h10 => he77 a h7) a h7 h10).trans (hg71 a h5 h7 h10)
        have ho84 : ∀ a, a ≠ 7 → a ≠ 10 → ra_g s74 179 a = ra_g σ 179 a := fun a h7 h10 => ((fun a h7 h10 => he77 a h7) a h7 h10).trans (ho72 a h7 h10)
        refine ra_ifeq rfl rfl (ra_in01 hz75) (fun h85 => ?_) (fun h85 => ?_)
        · refine ra_load rfl rfl rfl rfl ?_
          have hp := hz75p (by omega)
          have hst := hz11p.mpr hp
          have hq := WF_p hw hp.1 hp.2.1 hp.2.2
          refine ra_cV (sp_196 (WF_k hk79 hw) (PW_k hpw (ho84 5 (by decide) (by decide)) hk81)) rfl (ct_196 rfl lk_8_366 (Or.inl rfl) sh_179 (Nat.le_of_ble_eq_true rfl)) (fun s86 hs86 => ?_)
          obtain ⟨hf87, hc88, hc89, hc90, hc91, he92, he93⟩ := hs86
          have hF94 := Fr_tr (lo := 179) (hi := 191) hF78 hf87 (by omega)
          have hk95 : s86 (180) = σ (180) := hc88.trans hk79
          have hk96 : s86 (183) = σ (183) := hc91.trans hk80
          have hk97 : s86 (187) = σ (187) := (hf87 (187) (by omega)).trans hk82
          have hg98 : ∀ a, a ≠ 5 → a ≠ 7 → a ≠ 10 → ra_g s86 179 a = ra_g σ 179 a := fun a h5 h7 h10 => ((fun a h5 h7 h10 => he92 a h5) a h5 h7 h10).trans (hg83 a h5 h7 h10)
          refine ra_load rfl rfl rfl rfl ?_
          refine ra_load rfl rfl rfl rfl ?_
          refine ra_iconst rfl ?_
          refine ra_cTp (sp_199 hx0 (by first | omega | (unfold ra_in at *; omega)) (by first | assumption | rfl | omega)) rfl (ct_199 rfl lk_8_67 (Or.inl rfl) sh_179 (Nat.le_of_ble_eq_true rfl)) ?_
          rw [wq_k hk95]
          have hr100 : ra_in (wq σ x0 (3)) := (ra_in_wq _ _ _)
          refine ra_store (L' := [_, _, _, _]) rfl rfl rfl (Nat.le_of_ble_eq_true rfl) rfl ?_
          refine ra_load rfl rfl rfl rfl ?_
          refine ra_load rfl rfl rfl rfl ?_
          refine ra_iconst rfl ?_
          refine ra_load rfl rfl rfl rfl ?_
          refine ra_cV (sp_200 hx0 (by first | omega | (unfold ra_in at *; omega)) hx1 (by first | assumption | rfl | omega)) rfl (ct_200 rfl lk_8_78 (Or.inl rfl) sh_179 (Nat.le_of_ble_eq_true rfl)) (fun s101 hs101 => ?_)
          obtain ⟨hf102, he103, he104⟩ := hs101
          have hF105 := Fr_tr (lo := 179) (hi := 191) hF94 hf102 (by omega)
          have hk106 : s101 (183) = σ (183) := (hf102 (183) (by omega)).trans hk96
          have hk107 : s101 (187) = σ (187) := (hf102 (187) (by omega)).trans hk97
          have hg108 : ∀ a, a ≠ 5 → a ≠ 7 → a ≠ 10 → ra_g s101 179 a = ra_g σ 179 a := fun a h5 h7 h10 => (ra_gk (hf102 179 (by omega))).trans (hg98 a h5 h7 h10)
          refine ra_load rfl rfl rfl rfl ?_
          exact ra_ireturn rfl rfl ⟨⟨_, hr100, rfl⟩, ⟨hF105, hk106, hk107, hg108, (by first | (exfalso; omega) | exact WF_mn (p := x0) (WF_k hk95 hw) ⟨by omega, by omega⟩ (fun a hn => he104 a hn) (by have t := he103; rw [wq_k hk95]; omega)), (PW_k he93 (ra_gk (hf102 179 (by omega))) (hf102 184 (by omega)))⟩⟩
        · refine ra_iconst rfl ?_
          exact ra_ireturn rfl rfl ⟨⟨_, (by first | omega | (unfold ra_in at *; omega)), rfl⟩, ⟨hF78, hk80, hk82, hg83, (WF_k hk79 hw), (PW_k hpw (ho84 5 (by decide) (by decide)) hk81)⟩⟩
    · refine ra_iconst rfl ?_
      refine ra_goto rfl rfl ?_
      refine ra_iconst rfl ?_
      refine ra_cT (sp_193 (Or.inr rfl) (by first | omega | (unfold ra_in at *; omega))) rfl (ct_193 rfl lk_8_303 (Or.inl rfl) sh_179 (Nat.le_of_ble_eq_true rfl)) (fun s109 hs109 => ?_)
      obtain ⟨hf110, he111⟩ := hs109
      have hF112 := Fr_tr (lo := 179) (hi := 191) hF3 hf110 (by omega)
      have hk113 : s109 (180) = σ (180) := (hf110 (180) (by omega)).trans hk4
      have hk114 : s109 (183) = σ (183) := (hf110 (183) (by omega)).trans hk5
      have hk115 : s109 (184) = σ (184) := (hf110 (184) (by omega)).trans hk6
      have hk116 : s109 (187) = σ (187) := (hf110 (187) (by omega)).trans hk7
      have hg117 : ∀ a, a ≠ 5 → a ≠ 7 → a ≠ 10 → ra_g s109 179 a = ra_g σ 179 a := fun a h5 h7 h10 => ((fun a h7 h10 => he111 a h7) a h7 h10).trans (hg8 a h5 h7 h10)
      have ho118 : ∀ a, a ≠ 7 → a ≠ 10 → ra_g s109 179 a = ra_g σ 179 a := fun a h7 h10 => ((fun a h7 h10 => he111 a h7) a h7 h10).trans (ho9 a h7 h10)
      refine ra_ifne rfl rfl (by first | omega | (unfold ra_in at *; omega)) (fun h119 => ?_) (fun h119 => ?_)
      · refine ra_iconst rfl ?_
        exact ra_ireturn rfl rfl ⟨⟨_, (by first | omega | (unfold ra_in at *; omega)), rfl⟩, ⟨hF112, hk114, hk116, hg117, (WF_k hk113 hw), (PW_k hpw (ho118 5 (by decide) (by decide)) hk115)⟩⟩
      · exact absurd h119 (by decide)
theorem sp_314 {n : Nat} {f : Nat → Int32} {d : Nat} {x0 : Int} {x1 : Int} {σ : ra_V} (hx0 : ra_in x0) (hx1 : ra_in x1) (hw : WF σ) (hpw : PW σ) : ra_C (g_Gs n f) g_sh 0 (d + 3) 314 [.index (179), ra_I x0, ra_I x1] σ (fun r s => rI r ∧ Fr (179) (191) σ s ∧ s (183) = σ (183) ∧ s (187) = σ (187) ∧ (∀ a, a ≠ 5 → a ≠ 7 → a ≠ 10 → ra_g s 179 a = ra_g σ 179 a) ∧ WF s ∧ PW s) := by
  refine ra_enter (nn := 1) mt_314 rfl (Nat.le_of_ble_eq_true rfl) rfl (fun h => absurd h (by decide +kernel)) ?_
  have hw0 := WF_a hw
  unfold WFa at hw0
  refine ra_load rfl rfl rfl rfl ?_
  refine ra_iconst rfl ?_
  refine ra_putI rfl lk_8_51 (Nat.zero_le _) sh_179 rfl rfl ?_
  refine ra_newU (by first | omega | (unfold ra_in at *; omega)) (fun s1 hs1 hp2 hp2o => ?_)
  have hp2_99 := hp2o 99 (by decide)
  have hF3 := Fr_tr (lo := 179) (hi := 191) Fr_rf hs1 (by omega)
  have hk4 : s1 (180) = σ (180) := (hs1 (180) (by omega))
  have hk5 : s1 (183) = σ (183) := (hs1 (183) (by omega))
  have hk6 : s1 (184) = σ (184) := (hs1 (184) (by omega))
  have hk7 : s1 (187) = σ (187) := (hs1 (187) (by omega))
  have hg8 : ∀ a, a ≠ 5 → a ≠ 7 → a ≠ 10 → ra_g s1 179 a = ra_g σ 179 a := fun a h5 h7 h10 => ((fun a h7 h10 => hp2o a h7) a h7 h10).trans ((fun _ _ _ _ => rfl) a h5 h7 h10)
  have ho9 : ∀ a, a ≠ 7 → a ≠ 10 → ra_g s1 179 a = ra_g σ 179 a := fun a h7 h10 => ((fun a h7 h10 => hp2o a h7) a h7 h10).trans ((fun _ _ _ => rfl) a h7 h10)
  refine ra_load rfl rfl rfl rfl ?_
  refine ra_load rfl rfl rfl rfl ?_
  refine ra_iconst rfl ?_
  refine ra_icne rfl rfl hx0 (by first | omega | (unfold ra_in at *; omega)) (fun h10 => ?_) (fun h10 => ?_)
  · refine ra_load rfl rfl rfl rfl ?_
    refine ra_iconst rfl ?_
    refine ra_icne rfl rfl hx0 (by first | omega | (unfold ra_in at *; omega)) (fun h11 => ?_) (fun h11 => ?_)
    · refine ra_iconst rfl ?_
      refine ra_goto rfl rfl ?_
      refine ra_iconst rfl ?_
      refine ra_cT (sp_193 (Or.inr rfl) (by first | omega | (unfold ra_in at *; omega))) rfl (ct_193 rfl lk_8_303 (Or.inl rfl) sh_179 (Nat.le_of_ble_eq_true rfl)) (fun s12 hs12 => ?_)
      obtain ⟨hf13, he14⟩ := hs12
      have hF15 := Fr_tr (lo := 179) (hi := 191) hF3 hf13 (by omega)
      have hk16 : s12 (180) = σ (180) := (hf13 (180) (by omega)).trans hk4
      have hk17 : s12 (183) = σ (183) := (hf13 (183) (by omega)).trans hk5
      have hk18 : s12 (184) = σ (184) := (hf13 (184) (by omega)).trans hk6
      have hk19 : s12 (187) = σ (187) := (hf13 (187) (by omega)).trans hk7
      have hg20 : ∀ a, a ≠ 5 → a ≠ 7 → a ≠ 10 → ra_g s12 179 a = ra_g σ 179 a := fun a h5 h7 h10 => ((fun a h7 h10 => he14 a h7) a h7 h10).trans (hg8 a h5 h7 h10)
      have ho21 : ∀ a, a ≠ 7 → a ≠ 10 → ra_g s12 179 a = ra_g σ 179 a := fun a h7 h10 => ((fun a h7 h10 => he14 a h7) a h7 h10).trans (ho9 a h7 h10)
      refine ra_ifeq rfl rfl (by first | omega | (unfold ra_in at *; omega)) (fun h22 => ?_) (fun h22 => ?_)
      · exact absurd h22 (by decide)
      · refine ra_iconst rfl ?_
        exact ra_ireturn rfl rfl ⟨⟨_, (by first | omega | (unfold ra_in at *; omega)), rfl⟩, ⟨hF15, hk17, hk19, hg20, (WF_k hk16 hw), (PW_k hpw (ho21 5 (by decide) (by decide)) hk18)⟩⟩
    · refine ra_load rfl rfl rfl rfl ?_
      refine ra_i2l rfl hx1 ?_
      refine ra_lconst1 rfl ?_
      refine ra_ldc2 (z := 16) rfl lk_8_386 (by decide) ?_
      refine ra_cTp (sp_192 hx1 (by first | omega | (unfold ra_in at *; omega)) (by first | omega | (unfold ra_in at *; omega))) rfl (ct_192 rfl lk_8_63 (Or.inl rfl) (Nat.le_of_ble_eq_true rfl)) ?_
      refine ra_ifneB rfl rfl (fun h24 => ?_) (fun h24 => ?_)
      · refine ra_iconst rfl ?_
        refine ra_iconst rfl ?_
        refine ra_cT (sp_193 (Or.inl rfl) (by first | omega | (unfold ra_in at *; omega))) rfl (ct_193 rfl lk_8_303 (Or.inl rfl) sh_179 (Nat.le_of_ble_eq_true rfl)) (fun s25 hs25 => ?_)
        obtain ⟨hf26, he27⟩ := hs25
        have hF28 := Fr_tr (lo := 179) (hi := 191) hF3 hf26 (by omega)
        have hk29 : s25 (180) = σ (180) := (hf26 (180) (by omega)).trans hk4
        have hk30 : s25 (183) = σ (183) := (hf26 (183) (by omega)).trans hk5
        have hk31 : s25 (184) = σ (184) := (hf26 (184) (by omega)).trans hk6
        have hk32 : s25 (187) = σ (187) := (hf26 (187) (by omega)).trans hk7
        have hg33 : ∀ a, a ≠ 5 → a ≠ 7 → a ≠ 10 → ra_g s25 179 a = ra_g σ 179 a := fun a h5 h7 h10 => ((fun a h7 h10 => he27 a h7) a h7 h10).trans (hg8 a h5 h7 h10)
        have ho34 : ∀ a, a ≠ 7 → a ≠ 10 → ra_g s25 179 a = ra_g σ 179 a := fun a h7 h10 => ((fun a h7 h10 => he27 a h7) a h7 h10).trans (ho9 a h7 h10)
        refine ra_ifeq rfl rfl (by first | omega | (unfold ra_in at *; omega)) (fun h35 => ?_) (fun h35 => ?_)
        · refine ra_load rfl rfl rfl rfl ?_
          refine ra_cV (sp_196 (WF_k hk29 hw) (PW_k hpw (ho34 5 (by decide) (by decide)) hk31)) rfl (ct_196 rfl lk_8_366 (Or.inl rfl) sh_179 (Nat.le_of_ble_eq_true rfl)) (fun s36 hs36 => ?_)
          obtain ⟨hf37, hc38, hc39, hc40, hc41, he42, he43⟩ := hs36
          have hF44 := Fr_tr (lo := 179) (hi := 191) hF28 hf37 (by omega)
          have hk45 : s36 (180) = σ (180) := hc38.trans hk29
          have hk46 : s36 (183) = σ (183) := hc41.trans hk30
          have hk47 : s36 (187) = σ (187) := (hf37 (187) (by omega)).trans hk32
          have hg48 : ∀ a, a ≠ 5 → a ≠ 7 → a ≠ 10 → ra_g s36 179 a = ra_g σ 179 a := fun a h5 h7 h10 => ((fun a h5 h7 h10 => he42 a h5) a h5 h7 h10).trans (hg33 a h5 h7 h10)
          refine ra_load rfl rfl rfl rfl ?_
          refine ra_getR rfl lk_8_7 (Nat.zero_le _) sh_179 rfl ?_
          refine ra_load rfl rfl rfl rfl ?_
          refine ra_iaload rfl sh_180 rfl (by decide) (by first | omega | (unfold ra_in at *; omega)) (by first | omega | (unfold ra_in at *; omega)) ?_
          rw [ra_gk hk45]
          have hr49 : ra_in (ra_g σ (180) x0.toNat) := (ra_in_g _ _ _)
          refine ra_store (L' := [_, _, _, _]) rfl rfl rfl (Nat.le_of_ble_eq_true rfl) rfl ?_
          refine ra_load rfl rfl rfl rfl ?_
          refine ra_getR rfl lk_8_7 (Nat.zero_le _) sh_179 rfl ?_
          refine ra_load rfl rfl rfl rfl ?_
          refine ra_load rfl rfl rfl rfl ?_
          refine ra_iastore rfl sh_180 rfl (by decide) (by first | omega | (unfold ra_in at *; omega)) (by first | omega | (unfold ra_in at *; omega)) ?_
          refine ra_newR hx1 (fun s50 hs50 hs50v hs50o => ?_)
          have hF51 := Fr_tr (lo := 179) (hi := 191) hF44 hs50 (by omega)
          have hk52 : s50 (183) = σ (183) := (hs50 (183) (by omega)).trans hk46
          have hk53 : s50 (187) = σ (187) := (hs50 (187) (by omega)).trans hk47
          have hg54 : ∀ a, a ≠ 5 → a ≠ 7 → a ≠ 10 → ra_g s50 179 a = ra_g σ 179 a := fun a h5 h7 h10 => (ra_gk (hs50 179 (by omega))).trans (hg48 a h5 h7 h10)
          refine ra_load rfl rfl rfl rfl ?_
          exact ra_ireturn rfl rfl ⟨⟨_, hr49, rfl⟩, ⟨hF51, hk52, hk53, hg54, (Or.elim (show x0 = 3 ∨ x0 = 4 by omega) (fun e => by subst e; have t : ra_g s50 180 3 = x1 := hs50v; exact WF_set (j := 3) (WF_k hk45 hw) (Or.inl rfl) hs50o ⟨by omega, by omega, fun q => absurd q (by decide)⟩) (fun e => by subst e; have t : ra_g s50 180 4 = x1 := hs50v; exact WF_set (j := 4) (WF_k hk45 hw) (Or.inr rfl) hs50o ⟨by omega, by omega, fun _ => by omega⟩)), (PW_k he43 (ra_gk (hs50 179 (by omega))) (hs50 184 (by omega)))⟩⟩
        · exact absurd h35 (by decide)
      · refine ra_iconst rfl ?_
        refine ra_goto rfl rfl ?_
        refine ra_iconst rfl ?_
        refine ra_cT (sp_193 (Or.inr rfl) (by first | omega | (unfold ra_in at *; omega))) rfl (ct_193 rfl lk_8_303 (Or.inl rfl) sh_179 (Nat.le_of_ble_eq_true rfl)) (fun s55 hs55 => ?_)
        obtain ⟨hf56, he57⟩ := hs55
        have hF58 := Fr_tr (lo := 179) (hi := 191) hF3 hf56 (by omega)
        have hk59 : s55 (180) = σ (180) := (hf56 (180) (by omega)).trans hk4
        have hk60 : s55 (183) = σ (183) := (hf56 (183) (by omega)).trans hk5
        have hk61 : s55 (184) = σ (184) := (hf56 (184) (by omega)).trans hk6
        have hk62 : s55 (187) = σ (187) := (hf56 (187) (by omega)).trans hk7
        have hg63 : ∀ a, a ≠ 5 → a ≠ 7 → a ≠ 10 → ra_g s55 179 a = ra_g σ 179 a := fun a h5 h7 h10 => ((fun a h7 h10 => he57 a h7) a h7 h10).trans (hg8 a h5 h7 h10)
        have ho64 : ∀ a, a ≠ 7 → a ≠ 10 → ra_g s55 179 a = ra_g σ 179 a := fun a h7 h10 => ((fun a h7 h10 => he57 a h7) a h7 h10).trans (ho9 a h7 h10)
        refine ra_ifeq rfl rfl (by first | omega | (unfold ra_in at *; omega)) (fun h65 => ?_) (fun h65 => ?_)
        · exact absurd h65 (by decide)
        · refine ra_iconst rfl ?_
          exact ra_ireturn rfl rfl ⟨⟨_, (by first | omega | (unfold ra_in at *; omega)), rfl⟩, ⟨hF58, hk60, hk62, hg63, (WF_k hk59 hw), (PW_k hpw (ho64 5 (by decide) (by decide)) hk61)⟩⟩
  · refine ra_load rfl rfl rfl rfl ?_
    refine ra_i2l rfl hx1 ?_
    refine ra_lconst1 rfl ?_
    refine ra_ldc2 (z := 32) rfl lk_8_384 (by decide) ?_
    refine ra_cTp (sp_192 hx1 (by first | omega | (unfold ra_in at *; omega)) (by first | omega | (unfold ra_in at *; omega))) rfl (ct_192 rfl lk_8_63 (Or.inl rfl) (Nat.le_of_ble_eq_true rfl)) ?_
    refine ra_ifneB rfl rfl (fun h67 => ?_) (fun h67 => ?_)
    · refine ra_iconst rfl ?_
      refine ra_goto rfl rfl ?_
      refine ra_iconst rfl ?_
      refine ra_cT (sp_193 (Or.inl rfl) (by first | omega | (unfold ra_in at *; omega))) rfl (ct_193 rfl lk_8_303 (Or.inl rfl) sh_179 (Nat.le_of_ble_eq_true rfl)) (fun s68 hs68 => ?_)
      obtain ⟨hf69, he70⟩ := hs68
      have hF71 := Fr_tr (lo := 179) (hi := 191) hF3 hf69 (by omega)
      have hk72 : s68 (180) = σ (180) := (hf69 (180) (by omega)).trans hk4
      have hk73 : s68 (183) = σ (183) := (hf69 (183) (by omega)).trans hk5
      have hk74 : s68 (184) = σ (184) := (hf69 (184) (by omega)).trans hk6
      have hk75 : s68 (187) = σ (187) := (hf69 (187) (by omega)).trans hk7
      have hg76 : ∀ a, a ≠ 5 → a ≠ 7 → a ≠ 10 → ra_g s68 179 a = ra_g σ 179 a := fun a h5 h7 h10 => ((fun a h7 h10 => he70 a h7) a h7 h10).trans (hg8 a h5 h7 h10)
      have ho77 : ∀ a, a ≠ 7 → a ≠ 10 → ra_g s68 179 a = ra_g σ 179 a := fun a h7 h10 => ((fun a h7 h10 => he70 a h7) a h7 h10).trans (ho9 a h7 h10)
      refine ra_ifeq rfl rfl (by first | omega | (unfold ra_in at *; omega)) (fun h78 => ?_) (fun h78 => ?_)
      · refine ra_load rfl rfl rfl rfl ?_
        refine ra_cV (sp_196 (WF_k hk72 hw) (PW_k hpw (ho77 5 (by decide) (by decide)) hk74)) rfl (ct_196 rfl lk_8_366 (Or.inl rfl) sh_179 (Nat.le_of_ble_eq_true rfl)) (fun s79 hs79 => ?_)
        obtain ⟨hf80, hc81, hc82, hc83, hc84, he85, he86⟩ := hs79
        have hF87 := Fr_tr (lo := 179) (hi := 191) hF71 hf80 (by omega)
        have hk88 : s79 (180) = σ (180) := hc81.trans hk72
        have hk89 : s79 (183) = σ (183) := hc84.trans hk73
        have hk90 : s79 (187) = σ (187) := (hf80 (187) (by omega)).trans hk75
        have hg91 : ∀ a, a ≠ 5 → a ≠ 7 → a ≠ 10 → ra_g s79 179 a = ra_g σ 179 a := fun a h5 h7 h10 => ((fun a h5 h7 h10 => he85 a h5) a h5 h7 h10).trans (hg76 a h5 h7 h10)
        refine ra_load rfl rfl rfl rfl ?_
        refine ra_getR rfl lk_8_7 (Nat.zero_le _) sh_179 rfl ?_
        refine ra_load rfl rfl rfl rfl ?_
        refine ra_iaload rfl sh_180 rfl (by decide) (by first | omega | (unfold ra_in at *; omega)) (by first | omega | (unfold ra_in at *; omega)) ?_
        rw [ra_gk hk88]
        have hr92 : ra_in (ra_g σ (180) x0.toNat) := (ra_in_g _ _ _)
        refine ra_store (L' := [_, _, _, _]) rfl rfl rfl (Nat.le_of_ble_eq_true rfl) rfl ?_
        refine ra_load rfl rfl rfl rfl ?_
        refine ra_getR rfl lk_8_7 (Nat.zero_le _) sh_179 rfl ?_
        refine ra_load rfl rfl rfl rfl ?_
        refine ra_load rfl rfl rfl rfl ?_
        refine ra_iastore rfl sh_180 rfl (by decide) (by first | omega | (unfold ra_in at *; omega)) (by first | omega | (unfold ra_in at *; omega)) ?_
        refine ra_newR hx1 (fun s93 hs93 hs93v hs93o => ?_)
        have hF94 := Fr_tr (lo := 179) (hi := 191) hF87 hs93 (by omega)
        have hk95 : s93 (183) = σ (183) := (hs93 (183) (by omega)).trans hk89
        have hk96 : s93 (187) = σ (187) := (hs93 (187) (by omega)).trans hk90
        have hg97 : ∀ a, a ≠ 5 → a ≠ 7 → a ≠ 10 → ra_g s93 179 a = ra_g σ 179 a := fun a h5 h7 h10 => (ra_gk (hs93 179 (by omega))).trans (hg91 a h5 h7 h10)
        refine ra_load rfl rfl rfl rfl ?_
        exact ra_ireturn rfl rfl ⟨⟨_, hr92, rfl⟩, ⟨hF94, hk95, hk96, hg97, (Or.elim (show x0 = 3 ∨ x0 = 4 by omega) (fun e => by subst e; have t : ra_g s93 180 3 = x1 := hs93v; exact WF_set (j := 3) (WF_k hk88 hw) (Or.inl rfl) hs93o ⟨by omega, by omega, fun q => absurd q (by decide)⟩) (fun e => by subst e; have t : ra_g s93 180 4 = x1 := hs93v; exact WF_set (j := 4) (WF_k hk88 hw) (Or.inr rfl) hs93o ⟨by omega, by omega, fun _ => by omega⟩)), (PW_k he86 (ra_gk (hs93 179 (by omega))) (hs93 184 (by omega)))⟩⟩
      · exact absurd h78 (by decide)
    · refine ra_iconst rfl ?_
      refine ra_goto rfl rfl ?_
      refine ra_iconst rfl ?_
      refine ra_cT (sp_193 (Or.inr rfl) (by first | omega | (unfold ra_in at *; omega))) rfl (ct_193 rfl lk_8_303 (Or.inl rfl) sh_179 (Nat.le_of_ble_eq_true rfl)) (fun s98 hs98 => ?_)
      obtain ⟨hf99, he100⟩ := hs98
      have hF101 := Fr_tr (lo := 179) (hi := 191) hF3 hf99 (by omega)
      have hk102 : s98 (180) = σ (180) := (hf99 (180) (by omega)).trans hk4
      have hk103 : s98 (183) = σ (183) := (hf99 (183) (by omega)).trans hk5
      have hk104 : s98 (184) = σ (184) := (hf99 (184) (by omega)).trans hk6
      have hk105 : s98 (187) = σ (187) := (hf99 (187) (by omega)).trans hk7
      have hg106 : ∀ a, a ≠ 5 → a ≠ 7 → a ≠ 10 → ra_g s98 179 a = ra_g σ 179 a := fun a h5 h7 h10 => ((fun a h7 h10 => he100 a h7) a h7 h10).trans (hg8 a h5 h7 h10)
      have ho107 : ∀ a, a ≠ 7 → a ≠ 10 → ra_g s98 179 a = ra_g σ 179 a := fun a h7 h10 => ((fun a h7 h10 => he100 a h7) a h7 h10).trans (ho9 a h7 h10)
      refine ra_ifeq rfl rfl (by first | omega | (unfold ra_in at *; omega)) (fun h108 => ?_) (fun h108 => ?_)
      · exact absurd h108 (by decide)
      · refine ra_iconst rfl ?_
        exact ra_ireturn rfl rfl ⟨⟨_, (by first | omega | (unfold ra_in at *; omega)), rfl⟩, ⟨hF101, hk103, hk105, hg106, (WF_k hk102 hw), (PW_k hpw (ho107 5 (by decide) (by decide)) hk104)⟩⟩
end RB
