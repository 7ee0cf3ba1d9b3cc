section
/-! the reference: what its methods do (printed by wip/gen/ref.py) -/
section RB
theorem sp_296 {n : Nat} {f : Nat → Int32} {d : Nat} {x0 : Int} {x1 : Int} {x2 : Int} {σ : ra_V} (hx0 : ra_in x0) (hx1 : ra_in x1) (hx2 : ra_in x2) : ra_C (g_Gs n f) g_sh 0 (d + 2) 296 [ra_I x0, ra_I x1, ra_I x2] σ (fun r s => (∃ z : Int, (z = 0 ∨ z = 1) ∧ (z = 1 → (0 ≤ x0 ∧ x0 ≤ 9 ∧ 1 ≤ x1 ∧ x1 ≤ x2)) ∧ r = .inl (some (ra_I z))) ∧ s = σ) := by
  refine ra_enter (nn := 0) mt_296 rfl (Nat.le_of_ble_eq_true rfl) rfl (fun h => absurd h (by decide +kernel)) ?_
  refine ra_load rfl rfl rfl rfl ?_
  refine ra_i2l rfl hx0 ?_
  refine ra_lconst0 rfl ?_
  refine ra_ldc2 (z := 9) rfl lk_8_361 (by decide) ?_
  refine ra_cTp (sp_193 hx0 (by first | omega | (unfold ra_in at *; omega)) (by first | omega | (unfold ra_in at *; omega))) rfl (ct_193 rfl lk_8_63 (Or.inl rfl) (Nat.le_of_ble_eq_true rfl)) ?_
  refine ra_ifeqB rfl rfl (fun h2 => ?_) (fun h2 => ?_)
  · refine ra_iconst rfl ?_
    exact ra_ireturn rfl (ra_okB (Or.inl rfl)) ⟨⟨_, (Or.inl rfl), (by omega), rfl⟩, rfl⟩
  · refine ra_load rfl rfl rfl rfl ?_
    refine ra_i2l rfl hx1 ?_
    refine ra_lconst1 rfl ?_
    refine ra_load rfl rfl rfl rfl ?_
    refine ra_i2l rfl hx2 ?_
    refine ra_cTp (sp_193 hx1 (by first | omega | (unfold ra_in at *; omega)) hx2) rfl (ct_193 rfl lk_8_63 (Or.inl rfl) (Nat.le_of_ble_eq_true rfl)) ?_
    refine ra_ifeqB rfl rfl (fun h4 => ?_) (fun h4 => ?_)
    · refine ra_iconst rfl ?_
      exact ra_ireturn rfl (ra_okB (Or.inl rfl)) ⟨⟨_, (Or.inl rfl), (by omega), rfl⟩, rfl⟩
    · refine ra_iconst rfl ?_
      refine ra_goto rfl rfl ?_
      exact ra_ireturn rfl (ra_okB (Or.inr rfl)) ⟨⟨_, (Or.inr rfl), (by omega), rfl⟩, rfl⟩
theorem sp_300 {n : Nat} {f : Nat → Int32} {d : Nat} {x0 : Int} {x1 : Int} {σ : ra_V} (hx0 : ra_in x0) (hx1 : x1 = 0 ∨ x1 = 1) (hw : WF σ) (hpw : PW σ) : ra_C (g_Gs n f) g_sh 0 (d + 4) 300 [.index (179), ra_I x0, ra_I x1] σ (fun r s => rB r ∧ Fr (179) (191) σ s ∧ s (183) = σ (183) ∧ s (187) = σ (187) ∧ (∀ a, a ≠ 5 → a ≠ 7 → a ≠ 10 → ra_g s 179 a = ra_g σ 179 a) ∧ WF s ∧ PW s) := by
  refine ra_enter (nn := 1) mt_300 rfl (Nat.le_of_ble_eq_true rfl) rfl (fun h => absurd h (by decide +kernel)) ?_
  have hw0 := WF_a hw
  unfold WFa at hw0
  refine ra_load rfl rfl rfl rfl ?_
  refine ra_iconst rfl ?_
  refine ra_putI rfl lk_8_51 (Nat.zero_le _) sh_179 rfl rfl ?_
  refine ra_newU (by first | omega | (unfold ra_in at *; omega)) (fun s1 hs1 hp2 hp2o => ?_)
  have hp2_99 := hp2o 99 (by decide)
  have hF3 := Fr_tr (lo := 179) (hi := 191) Fr_rf hs1 (by omega)
  have hk4 : s1 (180) = σ (180) := (hs1 (180) (by omega))
  have hk5 : s1 (183) = σ (183) := (hs1 (183) (by omega))
  have hk6 : s1 (184) = σ (184) := (hs1 (184) (by omega))
  have hk7 : s1 (187) = σ (187) := (hs1 (187) (by omega))
  have hg8 : ∀ a, a ≠ 5 → a ≠ 7 → a ≠ 10 → ra_g s1 179 a = ra_g σ 179 a := fun a h5 h7 h10 => ((fun a h7 h10 => hp2o a h7) a h7 h10).trans ((fun _ _ _ _ => rfl) a h5 h7 h10)
  have ho9 : ∀ a, a ≠ 7 → a ≠ 10 → ra_g s1 179 a = ra_g σ 179 a := fun a h7 h10 => ((fun a h7 h10 => hp2o a h7) a h7 h10).trans ((fun _ _ _ => rfl) a h7 h10)
  refine ra_load rfl rfl rfl rfl ?_
  refine ra_load rfl rfl rfl rfl ?_
  refine ra_iconst rfl ?_
  refine ra_cQP (sp_268 hx0 (by first | omega | (unfold ra_in at *; omega))) rfl (ct_268 rfl lk_8_318 (Or.inl rfl) sh_179 (Nat.le_of_ble_eq_true rfl)) (fun z11 s10 hz11 hz11p hs10 => ?_)
  rw [wq_k hk4] at hz11p
  obtain ⟨hf12, he13⟩ := hs10
  have hF14 := Fr_tr (lo := 179) (hi := 191) hF3 hf12 (by omega)
  have hk15 : s10 (180) = σ (180) := (hf12 (180) (by omega)).trans hk4
  have hk16 : s10 (183) = σ (183) := (hf12 (183) (by omega)).trans hk5
  have hk17 : s10 (184) = σ (184) := (hf12 (184) (by omega)).trans hk6
  have hk18 : s10 (187) = σ (187) := (hf12 (187) (by omega)).trans hk7
  have hg19 : ∀ a, a ≠ 5 → a ≠ 7 → a ≠ 10 → ra_g s10 179 a = ra_g σ 179 a := fun a h5 h7 h10 => ((fun a h7 h10 => he13 a h7) a h7 h10).trans (hg8 a h5 h7 h10)
  have ho20 : ∀ a, a ≠ 7 → a ≠ 10 → ra_g s10 179 a = ra_g σ 179 a := fun a h7 h10 => ((fun a h7 h10 => he13 a h7) a h7 h10).trans (ho9 a h7 h10)
  refine ra_ifeq rfl rfl (ra_in01 hz11) (fun h21 => ?_) (fun h21 => ?_)
  · refine ra_load rfl rfl rfl rfl ?_
    have hp := hz11p (by omega)
    have hq := WF_p hw hp.1 hp.2.1 hp.2.2
    refine ra_cV (sp_197 (WF_k hk15 hw) (PW_k hpw (ho20 5 (by decide) (by decide)) hk17)) rfl (ct_197 rfl lk_8_366 (Or.inl rfl) sh_179 (Nat.le_of_ble_eq_true rfl)) (fun s22 hs22 => ?_)
    obtain ⟨hf23, hc24, hc25, hc26, hc27, he28, he29⟩ := hs22
    have hF30 := Fr_tr (lo := 179) (hi := 191) hF14 hf23 (by omega)
    have hk31 : s22 (180) = σ (180) := hc24.trans hk15
    have hk32 : s22 (183) = σ (183) := hc27.trans hk16
    have hk33 : s22 (187) = σ (187) := (hf23 (187) (by omega)).trans hk18
    have hg34 : ∀ a, a ≠ 5 → a ≠ 7 → a ≠ 10 → ra_g s22 179 a = ra_g σ 179 a := fun a h5 h7 h10 => ((fun a h5 h7 h10 => he28 a h5) a h5 h7 h10).trans (hg19 a h5 h7 h10)
    refine ra_load rfl rfl rfl rfl ?_
    refine ra_load rfl rfl rfl rfl ?_
    refine ra_iconst rfl ?_
    refine ra_cTp (sp_200 hx0 (by first | omega | (unfold ra_in at *; omega)) (by first | assumption | rfl | omega)) rfl (ct_200 rfl lk_8_67 (Or.inl rfl) sh_179 (Nat.le_of_ble_eq_true rfl)) ?_
    rw [wq_k hk31]
    have hr36 : ra_in (wq σ x0 (5)) := (ra_in_wq _ _ _)
    refine ra_iconst rfl ?_
    refine ra_icne rfl rfl hr36 (by first | omega | (unfold ra_in at *; omega)) (fun h37 => ?_) (fun h37 => ?_)
    · refine ra_iconst rfl ?_
      refine ra_store (L' := [_, _, _, _]) rfl rfl rfl (Nat.le_of_ble_eq_true rfl) rfl ?_
      refine ra_load rfl rfl rfl rfl ?_
      refine ra_load rfl rfl rfl rfl ?_
      refine ra_iconst rfl ?_
      refine ra_load rfl rfl rfl rfl ?_
      refine ra_ifeq rfl rfl (ra_in01 hx1) (fun h38 => ?_) (fun h38 => ?_)
      · refine ra_iconst rfl ?_
        refine ra_cV (sp_201 hx0 (by first | omega | (unfold ra_in at *; omega)) (by first | omega | (unfold ra_in at *; omega)) (by first | assumption | rfl | omega)) rfl (ct_201 rfl lk_8_78 (Or.inl rfl) sh_179 (Nat.le_of_ble_eq_true rfl)) (fun s39 hs39 => ?_)
        obtain ⟨hf40, he41, he42⟩ := hs39
        have hF43 := Fr_tr (lo := 179) (hi := 191) hF30 hf40 (by omega)
        have hk44 : s39 (183) = σ (183) := (hf40 (183) (by omega)).trans hk32
        have hk45 : s39 (187) = σ (187) := (hf40 (187) (by omega)).trans hk33
        have hg46 : ∀ a, a ≠ 5 → a ≠ 7 → a ≠ 10 → ra_g s39 179 a = ra_g σ 179 a := fun a h5 h7 h10 => (ra_gk (hf40 179 (by omega))).trans (hg34 a h5 h7 h10)
        refine ra_load rfl rfl rfl rfl ?_
        exact ra_ireturn rfl (ra_okB (Or.inl rfl)) ⟨⟨_, (Or.inl rfl), rfl⟩, ⟨hF43, hk44, hk45, hg46, (WF_rel (fun a ha => he42 a (by unfold REL at ha; omega)) (WF_k hk31 hw)), (PW_k he29 (ra_gk (hf40 179 (by omega))) (hf40 184 (by omega)))⟩⟩
      · refine ra_iconst rfl ?_
        refine ra_goto rfl rfl ?_
        refine ra_cV (sp_201 hx0 (by first | omega | (unfold ra_in at *; omega)) (by first | omega | (unfold ra_in at *; omega)) (by first | assumption | rfl | omega)) rfl (ct_201 rfl lk_8_78 (Or.inl rfl) sh_179 (Nat.le_of_ble_eq_true rfl)) (fun s47 hs47 => ?_)
        obtain ⟨hf48, he49, he50⟩ := hs47
        have hF51 := Fr_tr (lo := 179) (hi := 191) hF30 hf48 (by omega)
        have hk52 : s47 (183) = σ (183) := (hf48 (183) (by omega)).trans hk32
        have hk53 : s47 (187) = σ (187) := (hf48 (187) (by omega)).trans hk33
        have hg54 : ∀ a, a ≠ 5 → a ≠ 7 → a ≠ 10 → ra_g s47 179 a = ra_g σ 179 a := fun a h5 h7 h10 => (ra_gk (hf48 179 (by omega))).trans (hg34 a h5 h7 h10)
        refine ra_load rfl rfl rfl rfl ?_
        exact ra_ireturn rfl (ra_okB (Or.inl rfl)) ⟨⟨_, (Or.inl rfl), rfl⟩, ⟨hF51, hk52, hk53, hg54, (WF_rel (fun a ha => he50 a (by unfold REL at ha; omega)) (WF_k hk31 hw)), (PW_k he29 (ra_gk (hf48 179 (by omega))) (hf48 184 (by omega)))⟩⟩
    · refine ra_iconst rfl ?_
      refine ra_goto rfl rfl ?_
      refine ra_store (L' := [_, _, _, _]) rfl rfl rfl (Nat.le_of_ble_eq_true rfl) rfl ?_
      refine ra_load rfl rfl rfl rfl ?_
      refine ra_load rfl rfl rfl rfl ?_
      refine ra_iconst rfl ?_
      refine ra_load rfl rfl rfl rfl ?_
      refine ra_ifeq rfl rfl (ra_in01 hx1) (fun h55 => ?_) (fun h55 => ?_)
      · refine ra_iconst rfl ?_
        refine ra_cV (sp_201 hx0 (by first | omega | (unfold ra_in at *; omega)) (by first | omega | (unfold ra_in at *; omega)) (by first | assumption | rfl | omega)) rfl (ct_201 rfl lk_8_78 (Or.inl rfl) sh_179 (Nat.le_of_ble_eq_true rfl)) (fun s56 hs56 => ?_)
        obtain ⟨hf57, he58, he59⟩ := hs56
        have hF60 := Fr_tr (lo := 179) (hi := 191) hF30 hf57 (by omega)
        have hk61 : s56 (183) = σ (183) := (hf57 (183) (by omega)).trans hk32
        have hk62 : s56 (187) = σ (187) := (hf57 (187) (by omega)).trans hk33
        have hg63 : ∀ a, a ≠ 5 → a ≠ 7 → a ≠ 10 → ra_g s56 179 a = ra_g σ 179 a := fun a h5 h7 h10 => (ra_gk (hf57 179 (by omega))).trans (hg34 a h5 h7 h10)
        refine ra_load rfl rfl rfl rfl ?_
        exact ra_ireturn rfl (ra_okB (Or.inr rfl)) ⟨⟨_, (Or.inr rfl), rfl⟩, ⟨hF60, hk61, hk62, hg63, (WF_rel (fun a ha => he59 a (by unfold REL at ha; omega)) (WF_k hk31 hw)), (PW_k he29 (ra_gk (hf57 179 (by omega))) (hf57 184 (by omega)))⟩⟩
      · refine ra_iconst rfl ?_
        refine ra_goto rfl rfl ?_
        refine ra_cV (sp_201 hx0 (by first | omega | (unfold ra_in at *; omega)) (by first | omega | (unfold ra_in at *; omega)) (by first | assumption | rfl | omega)) rfl (ct_201 rfl lk_8_78 (Or.inl rfl) sh_179 (Nat.le_of_ble_eq_true rfl)) (fun s64 hs64 => ?_)
        obtain ⟨hf65, he66, he67⟩ := hs64
        have hF68 := Fr_tr (lo := 179) (hi := 191) hF30 hf65 (by omega)
        have hk69 : s64 (183) = σ (183) := (hf65 (183) (by omega)).trans hk32
        have hk70 : s64 (187) = σ (187) := (hf65 (187) (by omega)).trans hk33
        have hg71 : ∀ a, a ≠ 5 → a ≠ 7 → a ≠ 10 → ra_g s64 179 a = ra_g σ 179 a := fun a h5 h7 h10 => (ra_gk (hf65 179 (by omega))).trans (hg34 a h5 h7 h10)
        refine ra_load rfl rfl rfl rfl ?_
        exact ra_ireturn rfl (ra_okB (Or.inr rfl)) ⟨⟨_, (Or.inr rfl), rfl⟩, ⟨hF68, hk69, hk70, hg71, (WF_rel (fun a ha => he67 a (by unfold REL at ha; omega)) (WF_k hk31 hw)), (PW_k he29 (ra_gk (hf65 179 (by omega))) (hf65 184 (by omega)))⟩⟩
  · refine ra_iconst rfl ?_
    exact ra_ireturn rfl (ra_okB (Or.inl rfl)) ⟨⟨_, (Or.inl rfl), rfl⟩, ⟨hF14, hk16, hk18, hg19, (WF_k hk15 hw), (PW_k hpw (ho20 5 (by decide) (by decide)) hk17)⟩⟩
theorem sp_299 {n : Nat} {f : Nat → Int32} {d : Nat} {x0 : Int} {σ : ra_V} (hx0 : ra_in x0) (hw : WF σ) (hpw : PW σ) : ra_C (g_Gs n f) g_sh 0 (d + 4) 299 [.index (179), ra_I x0] σ (fun r s => rI r ∧ Fr (179) (191) σ s ∧ s (183) = σ (183) ∧ s (187) = σ (187) ∧ (∀ a, a ≠ 5 → a ≠ 7 → a ≠ 10 → ra_g s 179 a = ra_g σ 179 a) ∧ WF s ∧ PW s) := by
  refine ra_enter (nn := 0) mt_299 rfl (Nat.le_of_ble_eq_true rfl) rfl (fun h => absurd h (by decide +kernel)) ?_
  have hw0 := WF_a hw
  unfold WFa at hw0
  refine ra_load rfl rfl rfl rfl ?_
  refine ra_iconst rfl ?_
  refine ra_putI rfl lk_8_51 (Nat.zero_le _) sh_179 rfl rfl ?_
  refine ra_newU (by first | omega | (unfold ra_in at *; omega)) (fun s1 hs1 hp2 hp2o => ?_)
  have hp2_99 := hp2o 99 (by decide)
  have hF3 := Fr_tr (lo := 179) (hi := 191) Fr_rf hs1 (by omega)
  have hk4 : s1 (180) = σ (180) := (hs1 (180) (by omega))
  have hk5 : s1 (183) = σ (183) := (hs1 (183) (by omega))
  have hk6 : s1 (184) = σ (184) := (hs1 (184) (by omega))
  have hk7 : s1 (187) = σ (187) := (hs1 (187) (by omega))
  have hg8 : ∀ a, a ≠ 5 → a ≠ 7 → a ≠ 10 → ra_g s1 179 a = ra_g σ 179 a := fun a h5 h7 h10 => ((fun a h7 h10 => hp2o a h7) a h7 h10).trans ((fun _ _ _ _ => rfl) a h5 h7 h10)
  have ho9 : ∀ a, a ≠ 7 → a ≠ 10 → ra_g s1 179 a = ra_g σ 179 a := fun a h7 h10 => ((fun a h7 h10 => hp2o a h7) a h7 h10).trans ((fun _ _ _ => rfl) a h7 h10)
  refine ra_load rfl rfl rfl rfl ?_
  refine ra_load rfl rfl rfl rfl ?_
  refine ra_load rfl rfl rfl rfl ?_
  refine ra_cQPp (sp_202 hx0) rfl (ct_202 rfl lk_8_313 (Or.inl rfl) sh_179 (Nat.le_of_ble_eq_true rfl)) (fun z11 hz11 hz11p => ?_)
  rw [wq_k hk4] at hz11p
  refine ra_ifeq rfl rfl (ra_in01 hz11) (fun h12 => ?_) (fun h12 => ?_)
  · refine ra_iconst rfl ?_
    refine ra_iconst rfl ?_
    refine ra_cT (sp_194 (Or.inl rfl) (by first | omega | (unfold ra_in at *; omega))) rfl (ct_194 rfl lk_8_303 (Or.inl rfl) sh_179 (Nat.le_of_ble_eq_true rfl)) (fun s13 hs13 => ?_)
    obtain ⟨hf14, he15⟩ := hs13
    have hF16 := Fr_tr (lo := 179) (hi := 191) hF3 hf14 (by omega)
    have hk17 : s13 (180) = σ (180) := (hf14 (180) (by omega)).trans hk4
    have hk18 : s13 (183) = σ (183) := (hf14 (183) (by omega)).trans hk5
    have hk19 : s13 (184) = σ (184) := (hf14 (184) (by omega)).trans hk6
    have hk20 : s13 (187) = σ (187) := (hf14 (187) (by omega)).trans hk7
    have hg21 : ∀ a, a ≠ 5 → a ≠ 7 → a ≠ 10 → ra_g s13 179 a = ra_g σ 179 a := fun a h5 h7 h10 => ((fun a h7 h10 => he15 a h7) a h7 h10).trans (hg8 a h5 h7 h10)
    have ho22 : ∀ a, a ≠ 7 → a ≠ 10 → ra_g s13 179 a = ra_g σ 179 a := fun a h7 h10 => ((fun a h7 h10 => he15 a h7) a h7 h10).trans (ho9 a h7 h10)
    refine ra_ifne rfl rfl (by first | omega | (unfold ra_in at *; omega)) (fun h23 => ?_) (fun h23 => ?_)
    · exact absurd h23 (by decide)
    · refine ra_load rfl rfl rfl rfl ?_
      refine ra_load rfl rfl rfl rfl ?_
      refine ra_iconst rfl ?_
      refine ra_cQP (sp_268 hx0 (by first | omega | (unfold ra_in at *; omega))) rfl (ct_268 rfl lk_8_318 (Or.inl rfl) sh_179 (Nat.le_of_ble_eq_true rfl)) (fun z25 s24 hz25 hz25p hs24 => ?_)
      rw [wq_k hk17] at hz25p
      obtain ⟨hf26, he27⟩ := hs24
      have hF28 := Fr_tr (lo := 179) (hi := 191) hF16 hf26 (by omega)
      have hk29 : s24 (180) = σ (180) := (hf26 (180) (by omega)).trans hk17
      have hk30 : s24 (183) = σ (183) := (hf26 (183) (by omega)).trans hk18
      have hk31 : s24 (184) = σ (184) := (hf26 (184) (by omega)).trans hk19
      have hk32 : s24 (187) = σ (187) := (hf26 (187) (by omega)).trans hk20
      have hg33 : ∀ a, a ≠ 5 → a ≠ 7 → a ≠ 10 → ra_g s24 179 a = ra_g σ 179 a := fun a h5 h7 h10 => ((fun a h7 h10 => he27 a h7) a h7 h10).trans (hg21 a h5 h7 h10)
      have ho34 : ∀ a, a ≠ 7 → a ≠ 10 → ra_g s24 179 a = ra_g σ 179 a := fun a h7 h10 => ((fun a h7 h10 => he27 a h7) a h7 h10).trans (ho22 a h7 h10)
      refine ra_ifeq rfl rfl (ra_in01 hz25) (fun h35 => ?_) (fun h35 => ?_)
      · refine ra_load rfl rfl rfl rfl ?_
        have hp := hz25p (by omega)
        have hst := hz11p.mpr hp
        have hq := WF_p hw hp.1 hp.2.1 hp.2.2
        refine ra_cV (sp_197 (WF_k hk29 hw) (PW_k hpw (ho34 5 (by decide) (by decide)) hk31)) rfl (ct_197 rfl lk_8_366 (Or.inl rfl) sh_179 (Nat.le_of_ble_eq_true rfl)) (fun s36 hs36 => ?_)
        obtain ⟨hf37, hc38, hc39, hc40, hc41, he42, he43⟩ := hs36
        have hF44 := Fr_tr (lo := 179) (hi := 191) hF28 hf37 (by omega)
        have hk45 : s36 (180) = σ (180) := hc38.trans hk29
        have hk46 : s36 (183) = σ (183) := hc41.trans hk30
        have hk47 : s36 (187) = σ (187) := (hf37 (187) (by omega)).trans hk32
        have hg48 : ∀ a, a ≠ 5 → a ≠ 7 → a ≠ 10 → ra_g s36 179 a = ra_g σ 179 a := fun a h5 h7 h10 => ((fun a h5 h7 h10 => he42 a h5) a h5 h7 h10).trans (hg33 a h5 h7 h10)
        refine ra_load rfl rfl rfl rfl ?_
        refine ra_load rfl rfl rfl rfl ?_
        refine ra_iconst rfl ?_
        refine ra_iconst rfl ?_
        refine ra_cV (sp_201 hx0 (by first | omega | (unfold ra_in at *; omega)) (by first | omega | (unfold ra_in at *; omega)) (by first | assumption | rfl | omega)) rfl (ct_201 rfl lk_8_78 (Or.inl rfl) sh_179 (Nat.le_of_ble_eq_true rfl)) (fun s49 hs49 => ?_)
        obtain ⟨hf50, he51, he52⟩ := hs49
        have hF53 := Fr_tr (lo := 179) (hi := 191) hF44 hf50 (by omega)
        have hk54 : s49 (183) = σ (183) := (hf50 (183) (by omega)).trans hk46
        have hk55 : s49 (187) = σ (187) := (hf50 (187) (by omega)).trans hk47
        have hg56 : ∀ a, a ≠ 5 → a ≠ 7 → a ≠ 10 → ra_g s49 179 a = ra_g σ 179 a := fun a h5 h7 h10 => (ra_gk (hf50 179 (by omega))).trans (hg48 a h5 h7 h10)
        refine ra_load rfl rfl rfl rfl ?_
        refine ra_load rfl rfl rfl rfl ?_
        refine ra_iconst rfl ?_
        refine ra_cTp (sp_200 hx0 (by first | omega | (unfold ra_in at *; omega)) (by first | assumption | rfl | omega)) rfl (ct_200 rfl lk_8_67 (Or.inl rfl) sh_179 (Nat.le_of_ble_eq_true rfl)) ?_
        have hr58 : ra_in (wq s49 x0 (2)) := (ra_in_wq _ _ _)
        exact ra_ireturn rfl rfl ⟨⟨_, hr58, rfl⟩, ⟨hF53, hk54, hk55, hg56, (by first | (exfalso; omega) | exact WF_chg (p := x0) (WF_k hk45 hw) ⟨by omega, by omega⟩ (fun a ha hn => he52 a (by omega)) (by rw [ra_gk hk45]; exact hfx.2) (Or.inl he51)), (PW_k he43 (ra_gk (hf50 179 (by omega))) (hf50 184 (by omega)))⟩⟩
      · refine ra_iconst rfl ?_
        exact ra_ireturn rfl rfl ⟨⟨_, (by first | omega | (unfold ra_in at *; omega)), rfl⟩, ⟨hF28, hk30, hk32, hg33, (WF_k hk29 hw), (PW_k hpw (ho34 5 (by decide) (by decide)) hk31)⟩⟩
  · refine ra_load rfl rfl rfl rfl ?_
    refine ra_load rfl rfl rfl rfl ?_
    refine ra_cQPp (sp_206 hx0 (by first | assumption | rfl | omega)) rfl (ct_206 rfl lk_8_355 (Or.inl rfl) sh_179 (Nat.le_of_ble_eq_true rfl)) (fun z60 hz60 hz60p => ?_)
    refine ra_ifeq rfl rfl (ra_in01 hz60) (fun h61 => ?_) (fun h61 => ?_)
    · refine ra_iconst rfl ?_
      refine ra_iconst rfl ?_
      refine ra_cT (sp_194 (Or.inl rfl) (by first | omega | (unfold ra_in at *; omega))) rfl (ct_194 rfl lk_8_303 (Or.inl rfl) sh_179 (Nat.le_of_ble_eq_true rfl)) (fun s62 hs62 => ?_)
      obtain ⟨hf63, he64⟩ := hs62
      have hF65 := Fr_tr (lo := 179) (hi := 191) hF3 hf63 (by omega)
      have hk66 : s62 (180) = σ (180) := (hf63 (180) (by omega)).trans hk4
      have hk67 : s62 (183) = σ (183) := (hf63 (183) (by omega)).trans hk5
      have hk68 : s62 (184) = σ (184) := (hf63 (184) (by omega)).trans hk6
      have hk69 : s62 (187) = σ (187) := (hf63 (187) (by omega)).trans hk7
      have hg70 : ∀ a, a ≠ 5 → a ≠ 7 → a ≠ 10 → ra_g s62 179 a = ra_g σ 179 a := fun a h5 h7 h10 => ((fun a h7 h10 => he64 a h7) a h7 h10).trans (hg8 a h5 h7 h10)
      have ho71 : ∀ a, a ≠ 7 → a ≠ 10 → ra_g s62 179 a = ra_g σ 179 a := fun a h7 h10 => ((fun a h7 h10 => he64 a h7) a h7 h10).trans (ho9 a h7 h10)
      refine ra_ifne rfl rfl (by first | omega | (unfold ra_in at *; omega)) (fun h72 => ?_) (fun h72 => ?_)
      · exact absurd h72 (by decide)
      · refine ra_load rfl rfl rfl rfl ?_
        refine ra_load rfl rfl rfl rfl ?_
        refine ra_iconst rfl ?_
        refine ra_cQP (sp_268 hx0 (by first | omega | (unfold ra_in at *; omega))) rfl (ct_268 rfl lk_8_318 (Or.inl rfl) sh_179 (Nat.le_of_ble_eq_true rfl)) (fun z74 s73 hz74 hz74p hs73 => ?_)
        rw [wq_k hk66] at hz74p
        obtain ⟨hf75, he76⟩ := hs73
        have hF77 := Fr_tr (lo := 179) (hi := 191) hF65 hf75 (by omega)
        have hk78 : s73 (180) = σ (180) := (hf75 (180) (by omega)).trans hk66
        have hk79 : s73 (183) = σ (183) := (hf75 (183) (by omega)).trans hk67
        have hk80 : s73 (184) = σ (184) := (hf75 (184) (by omega)).trans hk68
        have hk81 : s73 (187) = σ (187) := (hf75 (187) (by omega)).trans hk69
        have hg82 : ∀ a, a ≠ 5 → a ≠ 7 → a ≠ 10 → ra_g s73 179 a = ra_g σ 179 a := fun a h5 h7 h10 => ((fun a h7 h10 => he76 a h7) a h7 h10).trans (hg70 a h5 h7 h10)
        have ho83 : ∀ a, a ≠ 7 → a ≠ 10 → ra_g s73 179 a = ra_g σ 179 a := fun a h7 h10 => ((fun a h7 h10 => he76 a h7) a h7 h10).trans (ho71 a h7 h10)
        refine ra_ifeq rfl rfl (ra_in01 hz74) (fun h84 => ?_) (fun h84 => ?_)
        · refine ra_load rfl rfl rfl rfl ?_
          have hp := hz74p (by omega)
          have hst := hz11p.mpr hp
          have hfx := hz60p (by omega)
          rw [wq_k hk4, ra_gk hk4] at hfx
          have hq := WF_p hw hp.1 hp.2.1 hp.2.2
          refine ra_cV (sp_197 (WF_k hk78 hw) (PW_k hpw (ho83 5 (by decide) (by decide)) hk80)) rfl (ct_197 rfl lk_8_366 (Or.inl rfl) sh_179 (Nat.le_of_ble_eq_true rfl)) (fun s85 hs85 => ?_)
          obtain ⟨hf86, hc87, hc88, hc89, hc90, he91, he92⟩ := hs85
          have hF93 := Fr_tr (lo := 179) (hi := 191) hF77 hf86 (by omega)
          have hk94 : s85 (180) = σ (180) := hc87.trans hk78
          have hk95 : s85 (183) = σ (183) := hc90.trans hk79
          have hk96 : s85 (187) = σ (187) := (hf86 (187) (by omega)).trans hk81
          have hg97 : ∀ a, a ≠ 5 → a ≠ 7 → a ≠ 10 → ra_g s85 179 a = ra_g σ 179 a := fun a h5 h7 h10 => ((fun a h5 h7 h10 => he91 a h5) a h5 h7 h10).trans (hg82 a h5 h7 h10)
          refine ra_load rfl rfl rfl rfl ?_
          refine ra_load rfl rfl rfl rfl ?_
          refine ra_iconst rfl ?_
          refine ra_iconst rfl ?_
          refine ra_cV (sp_201 hx0 (by first | omega | (unfold ra_in at *; omega)) (by first | omega | (unfold ra_in at *; omega)) (by first | assumption | rfl | omega)) rfl (ct_201 rfl lk_8_78 (Or.inl rfl) sh_179 (Nat.le_of_ble_eq_true rfl)) (fun s98 hs98 => ?_)
          obtain ⟨hf99, he100, he101⟩ := hs98
          have hF102 := Fr_tr (lo := 179) (hi := 191) hF93 hf99 (by omega)
          have hk103 : s98 (183) = σ (183) := (hf99 (183) (by omega)).trans hk95
          have hk104 : s98 (187) = σ (187) := (hf99 (187) (by omega)).trans hk96
          have hg105 : ∀ a, a ≠ 5 → a ≠ 7 → a ≠ 10 → ra_g s98 179 a = ra_g σ 179 a := fun a h5 h7 h10 => (ra_gk (hf99 179 (by omega))).trans (hg97 a h5 h7 h10)
          refine ra_load rfl rfl rfl rfl ?_
          refine ra_load rfl rfl rfl rfl ?_
          refine ra_iconst rfl ?_
          refine ra_cTp (sp_200 hx0 (by first | omega | (unfold ra_in at *; omega)) (by first | assumption | rfl | omega)) rfl (ct_200 rfl lk_8_67 (Or.inl rfl) sh_179 (Nat.le_of_ble_eq_true rfl)) ?_
          have hr107 : ra_in (wq s98 x0 (2)) := (ra_in_wq _ _ _)
          exact ra_ireturn rfl rfl ⟨⟨_, hr107, rfl⟩, ⟨hF102, hk103, hk104, hg105, (by first | (exfalso; omega) | exact WF_chg (p := x0) (WF_k hk94 hw) ⟨by omega, by omega⟩ (fun a ha hn => he101 a (by omega)) (by rw [ra_gk hk94]; exact hfx.2) (Or.inl he100)), (PW_k he92 (ra_gk (hf99 179 (by omega))) (hf99 184 (by omega)))⟩⟩
        · refine ra_iconst rfl ?_
          exact ra_ireturn rfl rfl ⟨⟨_, (by first | omega | (unfold ra_in at *; omega)), rfl⟩, ⟨hF77, hk79, hk81, hg82, (WF_k hk78 hw), (PW_k hpw (ho83 5 (by decide) (by decide)) hk80)⟩⟩
    · refine ra_iconst rfl ?_
      refine ra_goto rfl rfl ?_
      refine ra_iconst rfl ?_
      refine ra_cT (sp_194 (Or.inr rfl) (by first | omega | (unfold ra_in at *; omega))) rfl (ct_194 rfl lk_8_303 (Or.inl rfl) sh_179 (Nat.le_of_ble_eq_true rfl)) (fun s108 hs108 => ?_)
      obtain ⟨hf109, he110⟩ := hs108
      have hF111 := Fr_tr (lo := 179) (hi := 191) hF3 hf109 (by omega)
      have hk112 : s108 (180) = σ (180) := (hf109 (180) (by omega)).trans hk4
      have hk113 : s108 (183) = σ (183) := (hf109 (183) (by omega)).trans hk5
      have hk114 : s108 (184) = σ (184) := (hf109 (184) (by omega)).trans hk6
      have hk115 : s108 (187) = σ (187) := (hf109 (187) (by omega)).trans hk7
      have hg116 : ∀ a, a ≠ 5 → a ≠ 7 → a ≠ 10 → ra_g s108 179 a = ra_g σ 179 a := fun a h5 h7 h10 => ((fun a h7 h10 => he110 a h7) a h7 h10).trans (hg8 a h5 h7 h10)
      have ho117 : ∀ a, a ≠ 7 → a ≠ 10 → ra_g s108 179 a = ra_g σ 179 a := fun a h7 h10 => ((fun a h7 h10 => he110 a h7) a h7 h10).trans (ho9 a h7 h10)
      refine ra_ifne rfl rfl (by first | omega | (unfold ra_in at *; omega)) (fun h118 => ?_) (fun h118 => ?_)
      · refine ra_iconst rfl ?_
        exact ra_ireturn rfl rfl ⟨⟨_, (by first | omega | (unfold ra_in at *; omega)), rfl⟩, ⟨hF111, hk113, hk115, hg116, (WF_k hk112 hw), (PW_k hpw (ho117 5 (by decide) (by decide)) hk114)⟩⟩
      · exact absurd h118 (by decide)
theorem sp_307 {n : Nat} {f : Nat → Int32} {d : Nat} {x0 : Int} {x1 : Int} {σ : ra_V} (hx0 : ra_in x0) (hx1 : ra_in x1) (hw : WF σ) (hpw : PW σ) : ra_C (g_Gs n f) g_sh 0 (d + 4) 307 [.index (179), ra_I x0, ra_I x1] σ (fun r s => rI r ∧ Fr (179) (191) σ s ∧ s (183) = σ (183) ∧ s (187) = σ (187) ∧ (∀ a, a ≠ 5 → a ≠ 7 → a ≠ 10 → ra_g s 179 a = ra_g σ 179 a) ∧ WF s ∧ PW s) := by
  refine ra_enter (nn := 1) mt_307 rfl (Nat.le_of_ble_eq_true rfl) rfl (fun h => absurd h (by decide +kernel)) ?_
  have hw0 := WF_a hw
  unfold WFa at hw0
  refine ra_load rfl rfl rfl rfl ?_
  refine ra_iconst rfl ?_
  refine ra_putI rfl lk_8_51 (Nat.zero_le _) sh_179 rfl rfl ?_
  refine ra_newU (by first | omega | (unfold ra_in at *; omega)) (fun s1 hs1 hp2 hp2o => ?_)
  have hp2_99 := hp2o 99 (by decide)
  have hF3 := Fr_tr (lo := 179) (hi := 191) Fr_rf hs1 (by omega)
  have hk4 : s1 (180) = σ (180) := (hs1 (180) (by omega))
  have hk5 : s1 (183) = σ (183) := (hs1 (183) (by omega))
  have hk6 : s1 (184) = σ (184) := (hs1 (184) (by omega))
  have hk7 : s1 (187) = σ (187) := (hs1 (187) (by omega))
  have hg8 : ∀ a, a ≠ 5 → a ≠ 7 → a ≠ 10 → ra_g s1 179 a = ra_g σ 179 a := fun a h5 h7 h10 => ((fun a h7 h10 => hp2o a h7) a h7 h10).trans ((fun _ _ _ _ => rfl) a h5 h7 h10)
  have ho9 : ∀ a, a ≠ 7 → a ≠ 10 → ra_g s1 179 a = ra_g σ 179 a := fun a h7 h10 => ((fun a h7 h10 => hp2o a h7) a h7 h10).trans ((fun _ _ _ => rfl) a h7 h10)
  refine ra_load rfl rfl rfl rfl ?_
  refine ra_load rfl rfl rfl rfl ?_
  refine ra_load rfl rfl rfl rfl ?_
  refine ra_cQPp (sp_202 hx0) rfl (ct_202 rfl lk_8_313 (Or.inl rfl) sh_179 (Nat.le_of_ble_eq_true rfl)) (fun z11 hz11 hz11p => ?_)
  rw [wq_k hk4] at hz11p
  refine ra_ifeq rfl rfl (ra_in01 hz11) (fun h12 => ?_) (fun h12 => ?_)
  · refine ra_iconst rfl ?_
    refine ra_iconst rfl ?_
    refine ra_cT (sp_194 (Or.inl rfl) (by first | omega | (unfold ra_in at *; omega))) rfl (ct_194 rfl lk_8_303 (Or.inl rfl) sh_179 (Nat.le_of_ble_eq_true rfl)) (fun s13 hs13 => ?_)
    obtain ⟨hf14, he15⟩ := hs13
    have hF16 := Fr_tr (lo := 179) (hi := 191) hF3 hf14 (by omega)
    have hk17 : s13 (180) = σ (180) := (hf14 (180) (by omega)).trans hk4
    have hk18 : s13 (183) = σ (183) := (hf14 (183) (by omega)).trans hk5
    have hk19 : s13 (184) = σ (184) := (hf14 (184) (by omega)).trans hk6
    have hk20 : s13 (187) = σ (187) := (hf14 (187) (by omega)).trans hk7
    have hg21 : ∀ a, a ≠ 5 → a ≠ 7 → a ≠ 10 → ra_g s13 179 a = ra_g σ 179 a := fun a h5 h7 h10 => ((fun a h7 h10 => he15 a h7) a h7 h10).trans (hg8 a h5 h7 h10)
    have ho22 : ∀ a, a ≠ 7 → a ≠ 10 → ra_g s13 179 a = ra_g σ 179 a := fun a h7 h10 => ((fun a h7 h10 => he15 a h7) a h7 h10).trans (ho9 a h7 h10)
    refine ra_ifne rfl rfl (by first | omega | (unfold ra_in at *; omega)) (fun h23 => ?_) (fun h23 => ?_)
    · exact absurd h23 (by decide)
    · refine ra_load rfl rfl rfl rfl ?_
      refine ra_load rfl rfl rfl rfl ?_
      refine ra_iconst rfl ?_
      refine ra_cQP (sp_268 hx0 (by first | omega | (unfold ra_in at *; omega))) rfl (ct_268 rfl lk_8_318 (Or.inl rfl) sh_179 (Nat.le_of_ble_eq_true rfl)) (fun z25 s24 hz25 hz25p hs24 => ?_)
      rw [wq_k hk17] at hz25p
      obtain ⟨hf26, he27⟩ := hs24
      have hF28 := Fr_tr (lo := 179) (hi := 191) hF16 hf26 (by omega)
      have hk29 : s24 (180) = σ (180) := (hf26 (180) (by omega)).trans hk17
      have hk30 : s24 (183) = σ (183) := (hf26 (183) (by omega)).trans hk18
      have hk31 : s24 (184) = σ (184) := (hf26 (184) (by omega)).trans hk19
      have hk32 : s24 (187) = σ (187) := (hf26 (187) (by omega)).trans hk20
      have hg33 : ∀ a, a ≠ 5 → a ≠ 7 → a ≠ 10 → ra_g s24 179 a = ra_g σ 179 a := fun a h5 h7 h10 => ((fun a h7 h10 => he27 a h7) a h7 h10).trans (hg21 a h5 h7 h10)
      have ho34 : ∀ a, a ≠ 7 → a ≠ 10 → ra_g s24 179 a = ra_g σ 179 a := fun a h7 h10 => ((fun a h7 h10 => he27 a h7) a h7 h10).trans (ho22 a h7 h10)
      refine ra_ifeq rfl rfl (ra_in01 hz25) (fun h35 => ?_) (fun h35 => ?_)
      · refine ra_load rfl rfl rfl rfl ?_
        have hp := hz25p (by omega)
        have hst := hz11p.mpr hp
        have hq := WF_p hw hp.1 hp.2.1 hp.2.2
        refine ra_cV (sp_197 (WF_k hk29 hw) (PW_k hpw (ho34 5 (by decide) (by decide)) hk31)) rfl (ct_197 rfl lk_8_366 (Or.inl rfl) sh_179 (Nat.le_of_ble_eq_true rfl)) (fun s36 hs36 => ?_)
        obtain ⟨hf37, hc38, hc39, hc40, hc41, he42, he43⟩ := hs36
        have hF44 := Fr_tr (lo := 179) (hi := 191) hF28 hf37 (by omega)
        have hk45 : s36 (180) = σ (180) := hc38.trans hk29
        have hk46 : s36 (183) = σ (183) := hc41.trans hk30
        have hk47 : s36 (187) = σ (187) := (hf37 (187) (by omega)).trans hk32
        have hg48 : ∀ a, a ≠ 5 → a ≠ 7 → a ≠ 10 → ra_g s36 179 a = ra_g σ 179 a := fun a h5 h7 h10 => ((fun a h5 h7 h10 => he42 a h5) a h5 h7 h10).trans (hg33 a h5 h7 h10)
        refine ra_load rfl rfl rfl rfl ?_
        refine ra_load rfl rfl rfl rfl ?_
        refine ra_iconst rfl ?_
        refine ra_cTp (sp_200 hx0 (by first | omega | (unfold ra_in at *; omega)) (by first | assumption | rfl | omega)) rfl (ct_200 rfl lk_8_67 (Or.inl rfl) sh_179 (Nat.le_of_ble_eq_true rfl)) ?_
        rw [wq_k hk45]
        have hr50 : ra_in (wq σ x0 (3)) := (ra_in_wq _ _ _)
        refine ra_store (L' := [_, _, _, _]) rfl rfl rfl (Nat.le_of_ble_eq_true rfl) rfl ?_
        refine ra_load rfl rfl rfl rfl ?_
        refine ra_load rfl rfl rfl rfl ?_
        refine ra_iconst rfl ?_
        refine ra_load rfl rfl rfl rfl ?_
        refine ra_cV (sp_201 hx0 (by first | omega | (unfold ra_in at *; omega)) hx1 (by first | assumption | rfl | omega)) rfl (ct_201 rfl lk_8_78 (Or.inl rfl) sh_179 (Nat.le_of_ble_eq_true rfl)) (fun s51 hs51 => ?_)
        obtain ⟨hf52, he53, he54⟩ := hs51
        have hF55 := Fr_tr (lo := 179) (hi := 191) hF44 hf52 (by omega)
        have hk56 : s51 (183) = σ (183) := (hf52 (183) (by omega)).trans hk46
        have hk57 : s51 (187) = σ (187) := (hf52 (187) (by omega)).trans hk47
        have hg58 : ∀ a, a ≠ 5 → a ≠ 7 → a ≠ 10 → ra_g s51 179 a = ra_g σ 179 a := fun a h5 h7 h10 => (ra_gk (hf52 179 (by omega))).trans (hg48 a h5 h7 h10)
        refine ra_load rfl rfl rfl rfl ?_
        exact ra_ireturn rfl rfl ⟨⟨_, hr50, rfl⟩, ⟨hF55, hk56, hk57, hg58, (by first | (exfalso; omega) | exact WF_mn (p := x0) (WF_k hk45 hw) ⟨by omega, by omega⟩ (fun a hn => he54 a hn) (by have t := he53; rw [wq_k hk45]; omega)), (PW_k he43 (ra_gk (hf52 179 (by omega))) (hf52 184 (by omega)))⟩⟩
      · refine ra_iconst rfl ?_
        exact ra_ireturn rfl rfl ⟨⟨_, (by first | omega | (unfold ra_in at *; omega)), rfl⟩, ⟨hF28, hk30, hk32, hg33, (WF_k hk29 hw), (PW_k hpw (ho34 5 (by decide) (by decide)) hk31)⟩⟩
  · refine ra_load rfl rfl rfl rfl ?_
    refine ra_i2l rfl hx1 ?_
    refine ra_lconst1 rfl ?_
    refine ra_load rfl rfl rfl rfl ?_
    refine ra_load rfl rfl rfl rfl ?_
    refine ra_iconst rfl ?_
    refine ra_cTp (sp_200 hx0 (by first | omega | (unfold ra_in at *; omega)) (by first | assumption | rfl | omega)) rfl (ct_200 rfl lk_8_67 (Or.inl rfl) sh_179 (Nat.le_of_ble_eq_true rfl)) ?_
    rw [wq_k hk4]
    have hr60 : ra_in (wq σ x0 (2)) := (ra_in_wq _ _ _)
    refine ra_i2l rfl hr60 ?_
    refine ra_cTp (sp_193 hx1 (by first | omega | (unfold ra_in at *; omega)) hr60) rfl (ct_193 rfl lk_8_63 (Or.inl rfl) (Nat.le_of_ble_eq_true rfl)) ?_
    refine ra_ifneB rfl rfl (fun h62 => ?_) (fun h62 => ?_)
    · refine ra_iconst rfl ?_
      refine ra_iconst rfl ?_
      refine ra_cT (sp_194 (Or.inl rfl) (by first | omega | (unfold ra_in at *; omega))) rfl (ct_194 rfl lk_8_303 (Or.inl rfl) sh_179 (Nat.le_of_ble_eq_true rfl)) (fun s63 hs63 => ?_)
      obtain ⟨hf64, he65⟩ := hs63
      have hF66 := Fr_tr (lo := 179) (hi := 191) hF3 hf64 (by omega)
      have hk67 : s63 (180) = σ (180) := (hf64 (180) (by omega)).trans hk4
      have hk68 : s63 (183) = σ (183) := (hf64 (183) (by omega)).trans hk5
      have hk69 : s63 (184) = σ (184) := (hf64 (184) (by omega)).trans hk6
      have hk70 : s63 (187) = σ (187) := (hf64 (187) (by omega)).trans hk7
      have hg71 : ∀ a, a ≠ 5 → a ≠ 7 → a ≠ 10 → ra_g s63 179 a = ra_g σ 179 a := fun a h5 h7 h10 => ((fun a h7 h10 => he65 a h7) a h7 h10).trans (hg8 a h5 h7 h10)
      have ho72 : ∀ a, a ≠ 7 → a ≠ 10 → ra_g s63 179 a = ra_g σ 179 a := fun a h7 h10 => ((fun a h7 h10 => he65 a h7) a h7 h10).trans (ho9 a h7 h10)
      refine ra_ifne rfl rfl (by first | omega | (unfold ra_in at *; omega)) (fun h73 => ?_) (fun h73 => ?_)
      · exact absurd h73 (by decide)
      · refine ra_load rfl rfl rfl rfl ?_
        refine ra_load rfl rfl rfl rfl ?_
        refine ra_iconst rfl ?_
        refine ra_cQP (sp_268 hx0 (by first | omega | (unfold ra_in at *; omega))) rfl (ct_268 rfl lk_8_318 (Or.inl rfl) sh_179 (Nat.le_of_ble_eq_true rfl)) (fun z75 s74 hz75 hz75p hs74 => ?_)
        rw [wq_k hk67] at hz75p
        obtain ⟨hf76, he77⟩ := hs74
        have hF78 := Fr_tr (lo := 179) (hi := 191) hF66 hf76 (by omega)
        have hk79 : s74 (180) = σ (180) := (hf76 (180) (by omega)).trans hk67
        have hk80 : s74 (183) = σ (183) := (hf76 (183) (by omega)).trans hk68
        have hk81 : s74 (184) = σ (184) := (hf76 (184) (by omega)).trans hk69
        have hk82 : s74 (187) = σ (187) := (hf76 (187) (by omega)).trans hk70
        have hg83 : ∀ a, a ≠ 5 → a ≠ 7 → a ≠ 10 → ra_g s74 179 a = ra_g σ 179 a := fun a h5 h7 h10 => ((fun a h7 h10 => he77 a h7) a h7 h10).trans (hg71 a h5 h7 h10)
        have ho84 : ∀ a, a ≠ 7 → a ≠ 10 → ra_g s74 179 a = ra_g σ 179 a := fun a h7 h10 => ((fun a h7 h10 => he77 a h7) a h7 h10).trans (ho72 a h7 h10)
        refine ra_ifeq rfl rfl (ra_in01 hz75) (fun h85 => ?_) (fun h85 => ?_)
        · refine ra_load rfl rfl rfl rfl ?_
          have hp := hz75p (by omega)
          have hst := hz11p.mpr hp
          have hq := WF_p hw hp.1 hp.2.1 hp.2.2
          refine ra_cV (sp_197 (WF_k hk79 hw) (PW_k hpw (ho84 5 (by decide) (by decide)) hk81)) rfl (ct_197 rfl lk_8_366 (Or.inl rfl) sh_179 (Nat.le_of_ble_eq_true rfl)) (fun s86 hs86 => ?_)
          obtain ⟨hf87, hc88, hc89, hc90, hc91, he92, he93⟩ := hs86
          have hF94 := Fr_tr (lo := 179) (hi := 191) hF78 hf87 (by omega)
          have hk95 : s86 (180) = σ (180) := hc88.trans hk79
          have hk96 : s86 (183) = σ (183) := hc91.trans hk80
          have hk97 : s86 (187) = σ (187) := (hf87 (187) (by omega)).trans hk82
          have hg98 : ∀ a, a ≠ 5 → a ≠ 7 → a ≠ 10 → ra_g s86 179 a = ra_g σ 179 a := fun a h5 h7 h10 => ((fun a h5 h7 h10 => he92 a h5) a h5 h7 h10).trans (hg83 a h5 h7 h10)
          refine ra_load rfl rfl rfl rfl ?_
          refine ra_load rfl rfl rfl rfl ?_
          refine ra_iconst rfl ?_
          refine ra_cTp (sp_200 hx0 (by first | omega | (unfold ra_in at *; omega)) (by first | assumption | rfl | omega)) rfl (ct_200 rfl lk_8_67 (Or.inl rfl) sh_179 (Nat.le_of_ble_eq_true rfl)) ?_
          rw [wq_k hk95]
          have hr100 : ra_in (wq σ x0 (3)) := (ra_in_wq _ _ _)
          refine ra_store (L' := [_, _, _, _]) rfl rfl rfl (Nat.le_of_ble_eq_true rfl) rfl ?_
          refine ra_load rfl rfl rfl rfl ?_
          refine ra_load rfl rfl rfl rfl ?_
          refine ra_iconst rfl ?_
          refine ra_load rfl rfl rfl rfl ?_
          refine ra_cV (sp_201 hx0 (by first | omega | (unfold ra_in at *; omega)) hx1 (by first | assumption | rfl | omega)) rfl (ct_201 rfl lk_8_78 (Or.inl rfl) sh_179 (Nat.le_of_ble_eq_true rfl)) (fun s101 hs101 => ?_)
          obtain ⟨hf102, he103, he104⟩ := hs101
          have hF105 := Fr_tr (lo := 179) (hi := 191) hF94 hf102 (by omega)
          have hk106 : s101 (183) = σ (183) := (hf102 (183) (by omega)).trans hk96
          have hk107 : s101 (187) = σ (187) := (hf102 (187) (by omega)).trans hk97
          have hg108 : ∀ a, a ≠ 5 → a ≠ 7 → a ≠ 10 → ra_g s101 179 a = ra_g σ 179 a := fun a h5 h7 h10 => (ra_gk (hf102 179 (by omega))).trans (hg98 a h5 h7 h10)
          refine ra_load rfl rfl rfl rfl ?_
          exact ra_ireturn rfl rfl ⟨⟨_, hr100, rfl⟩, ⟨hF105, hk106, hk107, hg108, (by first | (exfalso; omega) | exact WF_mn (p := x0) (WF_k hk95 hw) ⟨by omega, by omega⟩ (fun a hn => he104 a hn) (by have t := he103; rw [wq_k hk95]; omega)), (PW_k he93 (ra_gk (hf102 179 (by omega))) (hf102 184 (by omega)))⟩⟩
        · refine ra_iconst rfl ?_
          exact ra_ireturn rfl rfl ⟨⟨_, (by first | omega | (unfold ra_in at *; omega)), rfl⟩, ⟨hF78, hk80, hk82, hg83, (WF_k hk79 hw), (PW_k hpw (ho84 5 (by decide) (by decide)) hk81)⟩⟩
    · refine ra_iconst rfl ?_
      refine ra_goto rfl rfl ?_
      refine ra_iconst rfl ?_
      refine ra_cT (sp_194 (Or.inr rfl) (by first | omega | (unfold ra_in at *; omega))) rfl (ct_194 rfl lk_8_303 (Or.inl rfl) sh_179 (Nat.le_of_ble_eq_true rfl)) (fun s109 hs109 => ?_)
      obtain ⟨hf110, he111⟩ := hs109
      have hF112 := Fr_tr (lo := 179) (hi := 191) hF3 hf110 (by omega)
      have hk113 : s109 (180) = σ (180) := (hf110 (180) (by omega)).trans hk4
      have hk114 : s109 (183) = σ (183) := (hf110 (183) (by omega)).trans hk5
      have hk115 : s109 (184) = σ (184) := (hf110 (184) (by omega)).trans hk6
      have hk116 : s109 (187) = σ (187) := (hf110 (187) (by omega)).trans hk7
      have hg117 : ∀ a, a ≠ 5 → a ≠ 7 → a ≠ 10 → ra_g s109 179 a = ra_g σ 179 a := fun a h5 h7 h10 => ((fun a h7 h10 => he111 a h7) a h7 h10).trans (hg8 a h5 h7 h10)
      have ho118 : ∀ a, a ≠ 7 → a ≠ 10 → ra_g s109 179 a = ra_g σ 179 a := fun a h7 h10 => ((fun a h7 h10 => he111 a h7) a h7 h10).trans (ho9 a h7 h10)
      refine ra_ifne rfl rfl (by first | omega | (unfold ra_in at *; omega)) (fun h119 => ?_) (fun h119 => ?_)
      · refine ra_iconst rfl ?_
        exact ra_ireturn rfl rfl ⟨⟨_, (by first | omega | (unfold ra_in at *; omega)), rfl⟩, ⟨hF112, hk114, hk116, hg117, (WF_k hk113 hw), (PW_k hpw (ho118 5 (by decide) (by decide)) hk115)⟩⟩
      · exact absurd h119 (by decide)
theorem sp_315 {n : Nat} {f : Nat → Int32} {d : Nat} {x0 : Int} {x1 : Int} {σ : ra_V} (hx0 : ra_in x0) (hx1 : ra_in x1) (hw : WF σ) (hpw : PW σ) : ra_C (g_Gs n f) g_sh 0 (d + 3) 315 [.index (179), ra_I x0, ra_I x1] σ (fun r s => rI r ∧ Fr (179) (191) σ s ∧ s (183) = σ (183) ∧ s (187) = σ (187) ∧ (∀ a, a ≠ 5 → a ≠ 7 → a ≠ 10 → ra_g s 179 a = ra_g σ 179 a) ∧ WF s ∧ PW s) := by
  refine ra_enter (nn := 1) mt_315 rfl (Nat.le_of_ble_eq_true rfl) rfl (fun h => absurd h (by decide +kernel)) ?_
  have hw0 := WF_a hw
  unfold WFa at hw0
  refine ra_load rfl rfl rfl rfl ?_
  refine ra_iconst rfl ?_
  refine ra_putI rfl lk_8_51 (Nat.zero_le _) sh_179 rfl rfl ?_
  refine ra_newU (by first | omega | (unfold ra_in at *; omega)) (fun s1 hs1 hp2 hp2o => ?_)
  have hp2_99 := hp2o 99 (by decide)
  have hF3 := Fr_tr (lo := 179) (hi := 191) Fr_rf hs1 (by omega)
  have hk4 : s1 (180) = σ (180) := (hs1 (180) (by omega))
  have hk5 : s1 (183) = σ (183) := (hs1 (183) (by omega))
  have hk6 : s1 (184) = σ (184) := (hs1 (184) (by omega))
  have hk7 : s1 (187) = σ (187) := (hs1 (187) (by omega))
  have hg8 : ∀ a, a ≠ 5 → a ≠ 7 → a ≠ 10 → ra_g s1 179 a = ra_g σ 179 a := fun a h5 h7 h10 => ((fun a h7 h10 => hp2o a h7) a h7 h10).trans ((fun _ _ _ _ => rfl) a h5 h7 h10)
  have ho9 : ∀ a, a ≠ 7 → a ≠ 10 → ra_g s1 179 a = ra_g σ 179 a := fun a h7 h10 => ((fun a h7 h10 => hp2o a h7) a h7 h10).trans ((fun _ _ _ => rfl) a h7 h10)
  refine ra_load rfl rfl rfl rfl ?_
  refine ra_load rfl rfl rfl rfl ?_
  refine ra_iconst rfl ?_
  refine ra_icne rfl rfl hx0 (by first | omega | (unfold ra_in at *; omega)) (fun h10 => ?_) (fun h10 => ?_)
  · refine ra_load rfl rfl rfl rfl ?_
    refine ra_iconst rfl ?_
    refine ra_icne rfl rfl hx0 (by first | omega | (unfold ra_in at *; omega)) (fun h11 => ?_) (fun h11 => ?_)
    · refine ra_iconst rfl ?_
      refine ra_goto rfl rfl ?_
      refine ra_iconst rfl ?_
      refine ra_cT (sp_194 (Or.inr rfl) (by first | omega | (unfold ra_in at *; omega))) rfl (ct_194 rfl lk_8_303 (Or.inl rfl) sh_179 (Nat.le_of_ble_eq_true rfl)) (fun s12 hs12 => ?_)
      obtain ⟨hf13, he14⟩ := hs12
      have hF15 := Fr_tr (lo := 179) (hi := 191) hF3 hf13 (by omega)
      have hk16 : s12 (180) = σ (180) := (hf13 (180) (by omega)).trans hk4
      have hk17 : s12 (183) = σ (183) := (hf13 (183) (by omega)).trans hk5
      have hk18 : s12 (184) = σ (184) := (hf13 (184) (by omega)).trans hk6
      have hk19 : s12 (187) = σ (187) := (hf13 (187) (by omega)).trans hk7
      have hg20 : ∀ a, a ≠ 5 → a ≠ 7 → a ≠ 10 → ra_g s12 179 a = ra_g σ 179 a := fun a h5 h7 h10 => ((fun a h7 h10 => he14 a h7) a h7 h10).trans (hg8 a h5 h7 h10)
      have ho21 : ∀ a, a ≠ 7 → a ≠ 10 → ra_g s12 179 a = ra_g σ 179 a := fun a h7 h10 => ((fun a h7 h10 => he14 a h7) a h7 h10).trans (ho9 a h7 h10)
      refine ra_ifeq rfl rfl (by first | omega | (unfold ra_in at *; omega)) (fun h22 => ?_) (fun h22 => ?_)
      · exact absurd h22 (by decide)
      · refine ra_iconst rfl ?_
        exact ra_ireturn rfl rfl ⟨⟨_, (by first | omega | (unfold ra_in at *; omega)), rfl⟩, ⟨hF15, hk17, hk19, hg20, (WF_k hk16 hw), (PW_k hpw (ho21 5 (by decide) (by decide)) hk18)⟩⟩
    · refine ra_load rfl rfl rfl rfl ?_
      refine ra_i2l rfl hx1 ?_
      refine ra_lconst1 rfl ?_
      refine ra_ldc2 (z := 16) rfl lk_8_386 (by decide) ?_
      refine ra_cTp (sp_193 hx1 (by first | omega | (unfold ra_in at *; omega)) (by first | omega | (unfold ra_in at *; omega))) rfl (ct_193 rfl lk_8_63 (Or.inl rfl) (Nat.le_of_ble_eq_true rfl)) ?_
      refine ra_ifneB rfl rfl (fun h24 => ?_) (fun h24 => ?_)
      · refine ra_iconst rfl ?_
        refine ra_iconst rfl ?_
        refine ra_cT (sp_194 (Or.inl rfl) (by first | omega | (unfold ra_in at *; omega))) rfl (ct_194 rfl lk_8_303 (Or.inl rfl) sh_179 (Nat.le_of_ble_eq_true rfl)) (fun s25 hs25 => ?_)
        obtain ⟨hf26, he27⟩ := hs25
        have hF28 := Fr_tr (lo := 179) (hi := 191) hF3 hf26 (by omega)
        have hk29 : s25 (180) = σ (180) := (hf26 (180) (by omega)).trans hk4
        have hk30 : s25 (183) = σ (183) := (hf26 (183) (by omega)).trans hk5
        have hk31 : s25 (184) = σ (184) := (hf26 (184) (by omega)).trans hk6
        have hk32 : s25 (187) = σ (187) := (hf26 (187) (by omega)).trans hk7
        have hg33 : ∀ a, a ≠ 5 → a ≠ 7 → a ≠ 10 → ra_g s25 179 a = ra_g σ 179 a := fun a h5 h7 h10 => ((fun a h7 h10 => he27 a h7) a h7 h10).trans (hg8 a h5 h7 h10)
        have ho34 : ∀ a, a ≠ 7 → a ≠ 10 → ra_g s25 179 a = ra_g σ 179 a := fun a h7 h10 => ((fun a h7 h10 => he27 a h7) a h7 h10).trans (ho9 a h7 h10)
        refine ra_ifeq rfl rfl (by first | omega | (unfold ra_in at *; omega)) (fun h35 => ?_) (fun h35 => ?_)
        · refine ra_load rfl rfl rfl rfl ?_
          refine ra_cV (sp_197 (WF_k hk29 hw) (PW_k hpw (ho34 5 (by decide) (by decide)) hk31)) rfl (ct_197 rfl lk_8_366 (Or.inl rfl) sh_179 (Nat.le_of_ble_eq_true rfl)) (fun s36 hs36 => ?_)
          obtain ⟨hf37, hc38, hc39, hc40, hc41, he42, he43⟩ := hs36
          have hF44 := Fr_tr (lo := 179) (hi := 191) hF28 hf37 (by omega)
          have hk45 : s36 (180) = σ (180) := hc38.trans hk29
          have hk46 : s36 (183) = σ (183) := hc41.trans hk30
          have hk47 : s36 (187) = σ (187) := (hf37 (187) (by omega)).trans hk32
          have hg48 : ∀ a, a ≠ 5 → a ≠ 7 → a ≠ 10 → ra_g s36 179 a = ra_g σ 179 a := fun a h5 h7 h10 => ((fun a h5 h7 h10 => he42 a h5) a h5 h7 h10).trans (hg33 a h5 h7 h10)
          refine ra_load rfl rfl rfl rfl ?_
          refine ra_getR rfl lk_8_7 (Nat.zero_le _) sh_179 rfl ?_
          refine ra_load rfl rfl rfl rfl ?_
          refine ra_iaload rfl sh_180 rfl (by decide) (by first | omega | (unfold ra_in at *; omega)) (by first | omega | (unfold ra_in at *; omega)) ?_
          rw [ra_gk hk45]
          have hr49 : ra_in (ra_g σ (180) x0.toNat) := (ra_in_g _ _ _)
          refine ra_store (L' := [_, _, _, _]) rfl rfl rfl (Nat.le_of_ble_eq_true rfl) rfl ?_
          refine ra_load rfl rfl rfl rfl ?_
          refine ra_getR rfl lk_8_7 (Nat.zero_le _) sh_179 rfl ?_
          refine ra_load rfl rfl rfl rfl ?_
          refine ra_load rfl rfl rfl rfl ?_
          refine ra_iastore rfl sh_180 rfl (by decide) (by first | omega | (unfold ra_in at *; omega)) (by first | omega | (unfold ra_in at *; omega)) ?_
          refine ra_newR hx1 (fun s50 hs50 hs50v hs50o => ?_)
          have hF51 := Fr_tr (lo := 179) (hi := 191) hF44 hs50 (by omega)
          have hk52 : s50 (183) = σ (183) := (hs50 (183) (by omega)).trans hk46
          have hk53 : s50 (187) = σ (187) := (hs50 (187) (by omega)).trans hk47
          have hg54 : ∀ a, a ≠ 5 → a ≠ 7 → a ≠ 10 → ra_g s50 179 a = ra_g σ 179 a := fun a h5 h7 h10 => (ra_gk (hs50 179 (by omega))).trans (hg48 a h5 h7 h10)
          refine ra_load rfl rfl rfl rfl ?_
          exact ra_ireturn rfl rfl ⟨⟨_, hr49, rfl⟩, ⟨hF51, hk52, hk53, hg54, (Or.elim (show x0 = 3 ∨ x0 = 4 by omega) (fun e => by subst e; have t : ra_g s50 180 3 = x1 := hs50v; exact WF_set (j := 3) (WF_k hk45 hw) (Or.inl rfl) hs50o ⟨by omega, by omega, fun q => absurd q (by decide)⟩) (fun e => by subst e; have t : ra_g s50 180 4 = x1 := hs50v; exact WF_set (j := 4) (WF_k hk45 hw) (Or.inr rfl) hs50o ⟨by omega, by omega, fun _ => by omega⟩)), (PW_k he43 (ra_gk (hs50 179 (by omega))) (hs50 184 (by omega)))⟩⟩
        · exact absurd h35 (by decide)
      · refine ra_iconst rfl ?_
        refine ra_goto rfl rfl ?_
        refine ra_iconst rfl ?_
        refine ra_cT (sp_194 (Or.inr rfl) (by first | omega | (unfold ra_in at *; omega))) rfl (ct_194 rfl lk_8_303 (Or.inl rfl) sh_179 (Nat.le_of_ble_eq_true rfl)) (fun s55 hs55 => ?_)
        obtain ⟨hf56, he57⟩ := hs55
        have hF58 := Fr_tr (lo := 179) (hi := 191) hF3 hf56 (by omega)
        have hk59 : s55 (180) = σ (180) := (hf56 (180) (by omega)).trans hk4
        have hk60 : s55 (183) = σ (183) := (hf56 (183) (by omega)).trans hk5
        have hk61 : s55 (184) = σ (184) := (hf56 (184) (by omega)).trans hk6
        have hk62 : s55 (187) = σ (187) := (hf56 (187) (by omega)).trans hk7
        have hg63 : ∀ a, a ≠ 5 → a ≠ 7 → a ≠ 10 → ra_g s55 179 a = ra_g σ 179 a := fun a h5 h7 h10 => ((fun a h7 h10 => he57 a h7) a h7 h10).trans (hg8 a h5 h7 h10)
        have ho64 : ∀ a, a ≠ 7 → a ≠ 10 → ra_g s55 179 a = ra_g σ 179 a := fun a h7 h10 => ((fun a h7 h10 => he57 a h7) a h7 h10).trans (ho9 a h7 h10)
        refine ra_ifeq rfl rfl (by first | omega | (unfold ra_in at *; omega)) (fun h65 => ?_) (fun h65 => ?_)
        · exact absurd h65 (by decide)
        · refine ra_iconst rfl ?_
          exact ra_ireturn rfl rfl ⟨⟨_, (by first | omega | (unfold ra_in at *; omega)), rfl⟩, ⟨hF58, hk60, hk62, hg63, (WF_k hk59 hw), (PW_k hpw (ho64 5 (by decide) (by decide)) hk61)⟩⟩
  · refine ra_load rfl rfl rfl rfl ?_
    refine ra_i2l rfl hx1 ?_
    refine ra_lconst1 rfl ?_
    refine ra_ldc2 (z := 32) rfl lk_8_384 (by decide) ?_
    refine ra_cTp (sp_193 hx1 (by first | omega | (unfold ra_in at *; omega)) (by first | omega | (unfold ra_in at *; omega))) rfl (ct_193 rfl lk_8_63 (Or.inl rfl) (Nat.le_of_ble_eq_true rfl)) ?_
    refine ra_ifneB rfl rfl (fun h67 => ?_) (fun h67 => ?_)
    · refine ra_iconst rfl ?_
      refine ra_goto rfl rfl ?_
      refine ra_iconst rfl ?_
      refine ra_cT (sp_194 (Or.inl rfl) (by first | omega | (unfold ra_in at *; omega))) rfl (ct_194 rfl lk_8_303 (Or.inl rfl) sh_179 (Nat.le_of_ble_eq_true rfl)) (fun s68 hs68 => ?_)
      obtain ⟨hf69, he70⟩ := hs68
      have hF71 := Fr_tr (lo := 179) (hi := 191) hF3 hf69 (by omega)
      have hk72 : s68 (180) = σ (180) := (hf69 (180) (by omega)).trans hk4
      have hk73 : s68 (183) = σ (183) := (hf69 (183) (by omega)).trans hk5
      have hk74 : s68 (184) = σ (184) := (hf69 (184) (by omega)).trans hk6
      have hk75 : s68 (187) = σ (187) := (hf69 (187) (by omega)).trans hk7
      have hg76 : ∀ a, a ≠ 5 → a ≠ 7 → a ≠ 10 → ra_g s68 179 a = ra_g σ 179 a := fun a h5 h7 h10 => ((fun a h7 h10 => he70 a h7) a h7 h10).trans (hg8 a h5 h7 h10)
      have ho77 : ∀ a, a ≠ 7 → a ≠ 10 → ra_g s68 179 a = ra_g σ 179 a := fun a h7 h10 => ((fun a h7 h10 => he70 a h7) a h7 h10).trans (ho9 a h7 h10)
      refine ra_ifeq rfl rfl (by first | omega | (unfold ra_in at *; omega)) (fun h78 => ?_) (fun h78 => ?_)
      · refine ra_load rfl rfl rfl rfl ?_
        refine ra_cV (sp_197 (WF_k hk72 hw) (PW_k hpw (ho77 5 (by decide) (by decide)) hk74)) rfl (ct_197 rfl lk_8_366 (Or.inl rfl) sh_179 (Nat.le_of_ble_eq_true rfl)) (fun s79 hs79 => ?_)
        obtain ⟨hf80, hc81, hc82, hc83, hc84, he85, he86⟩ := hs79
        have hF87 := Fr_tr (lo := 179) (hi := 191) hF71 hf80 (by omega)
        have hk88 : s79 (180) = σ (180) := hc81.trans hk72
        have hk89 : s79 (183) = σ (183) := hc84.trans hk73
        have hk90 : s79 (187) = σ (187) := (hf80 (187) (by omega)).trans hk75
        have hg91 : ∀ a, a ≠ 5 → a ≠ 7 → a ≠ 10 → ra_g s79 179 a = ra_g σ 179 a := fun a h5 h7 h10 => ((fun a h5 h7 h10 => he85 a h5) a h5 h7 h10).trans (hg76 a h5 h7 h10)
        refine ra_load rfl rfl rfl rfl ?_
        refine ra_getR rfl lk_8_7 (Nat.zero_le _) sh_179 rfl ?_
        refine ra_load rfl rfl rfl rfl ?_
        refine ra_iaload rfl sh_180 rfl (by decide) (by first | omega | (unfold ra_in at *; omega)) (by first | omega | (unfold ra_in at *; omega)) ?_
        rw [ra_gk hk88]
        have hr92 : ra_in (ra_g σ (180) x0.toNat) := (ra_in_g _ _ _)
        refine ra_store (L' := [_, _, _, _]) rfl rfl rfl (Nat.le_of_ble_eq_true rfl) rfl ?_
        refine ra_load rfl rfl rfl rfl ?_
        refine ra_getR rfl lk_8_7 (Nat.zero_le _) sh_179 rfl ?_
        refine ra_load rfl rfl rfl rfl ?_
        refine ra_load rfl rfl rfl rfl ?_
        refine ra_iastore rfl sh_180 rfl (by decide) (by first | omega | (unfold ra_in at *; omega)) (by first | omega | (unfold ra_in at *; omega)) ?_
        refine ra_newR hx1 (fun s93 hs93 hs93v hs93o => ?_)
        have hF94 := Fr_tr (lo := 179) (hi := 191) hF87 hs93 (by omega)
        have hk95 : s93 (183) = σ (183) := (hs93 (183) (by omega)).trans hk89
        have hk96 : s93 (187) = σ (187) := (hs93 (187) (by omega)).trans hk90
        have hg97 : ∀ a, a ≠ 5 → a ≠ 7 → a ≠ 10 → ra_g s93 179 a = ra_g σ 179 a := fun a h5 h7 h10 => (ra_gk (hs93 179 (by omega))).trans (hg91 a h5 h7 h10)
        refine ra_load rfl rfl rfl rfl ?_
        exact ra_ireturn rfl rfl ⟨⟨_, hr92, rfl⟩, ⟨hF94, hk95, hk96, hg97, (Or.elim (show x0 = 3 ∨ x0 = 4 by omega) (fun e => by subst e; have t : ra_g s93 180 3 = x1 := hs93v; exact WF_set (j := 3) (WF_k hk88 hw) (Or.inl rfl) hs93o ⟨by omega, by omega, fun q => absurd q (by decide)⟩) (fun e => by subst e; have t : ra_g s93 180 4 = x1 := hs93v; exact WF_set (j := 4) (WF_k hk88 hw) (Or.inr rfl) hs93o ⟨by omega, by omega, fun _ => by omega⟩)), (PW_k he86 (ra_gk (hs93 179 (by omega))) (hs93 184 (by omega)))⟩⟩
      · exact absurd h78 (by decide)
    · refine ra_iconst rfl ?_
      refine ra_goto rfl rfl ?_
      refine ra_iconst rfl ?_
      refine ra_cT (sp_194 (Or.inr rfl) (by first | omega | (unfold ra_in at *; omega))) rfl (ct_194 rfl lk_8_303 (Or.inl rfl) sh_179 (Nat.le_of_ble_eq_true rfl)) (fun s98 hs98 => ?_)
      obtain ⟨hf99, he100⟩ := hs98
      have hF101 := Fr_tr (lo := 179) (hi := 191) hF3 hf99 (by omega)
      have hk102 : s98 (180) = σ (180) := (hf99 (180) (by omega)).trans hk4
      have hk103 : s98 (183) = σ (183) := (hf99 (183) (by omega)).trans hk5
      have hk104 : s98 (184) = σ (184) := (hf99 (184) (by omega)).trans hk6
      have hk105 : s98 (187) = σ (187) := (hf99 (187) (by omega)).trans hk7
      have hg106 : ∀ a, a ≠ 5 → a ≠ 7 → a ≠ 10 → ra_g s98 179 a = ra_g σ 179 a := fun a h5 h7 h10 => ((fun a h7 h10 => he100 a h7) a h7 h10).trans (hg8 a h5 h7 h10)
      have ho107 : ∀ a, a ≠ 7 → a ≠ 10 → ra_g s98 179 a = ra_g σ 179 a := fun a h7 h10 => ((fun a h7 h10 => he100 a h7) a h7 h10).trans (ho9 a h7 h10)
      refine ra_ifeq rfl rfl (by first | omega | (unfold ra_in at *; omega)) (fun h108 => ?_) (fun h108 => ?_)
      · exact absurd h108 (by decide)
      · refine ra_iconst rfl ?_
        exact ra_ireturn rfl rfl ⟨⟨_, (by first | omega | (unfold ra_in at *; omega)), rfl⟩, ⟨hF101, hk103, hk105, hg106, (WF_k hk102 hw), (PW_k hpw (ho107 5 (by decide) (by decide)) hk104)⟩⟩
end RB
end
section
/-! told of one state, told of another with the same row -/
section RB
section
variable {s t : ra_V}
theorem wn_k (h : s 180 = t 180) {a m : Int} (q : US s a m ∧ ¬ TK s a m (-1) ∧ ¬ BT s a m) : US t a m ∧ ¬ TK t a m (-1) ∧ ¬ BT t a m := by
  unfold US TK BT wq at *
  simp only [ra_gk h] at q
  exact q
theorem szk_k (h : s 180 = t 180) {p m : Int} (q : SZK s p m) : SZK t p m := by
  unfold SZK US TK BT wq at *
  simp only [ra_gk h] at q
  exact q
def EX8 (σ : ra_V) : Prop := ∃ p, 0 ≤ p ∧ p < 8 ∧ wq σ p 0 ≠ 1
theorem exn_k (h : s 180 = t 180) (q : ∃ p, 0 ≤ p ∧ p < 8 ∧ wq s p 0 = 0) : EX8 t := by
  obtain ⟨p, h0, h1, h2⟩ := q
  rw [wq_k h] at h2
  exact ⟨p, h0, h1, by omega⟩
theorem exm_k (h : s 180 = t 180) (q : EX8 t) : ∃ p, 0 ≤ p ∧ p < 8 ∧ wq s p 0 ≠ 1 := by
  obtain ⟨p, h0, h1, h2⟩ := q
  rw [← wq_k h] at h2
  exact ⟨p, h0, h1, h2⟩
end
end RB
end
section
/-! the reference: what its methods do (printed by wip/gen/ref.py) -/
section RB
theorem sp_297 {n : Nat} {f : Nat → Int32} {d : Nat} {x0 : Int} {x1 : Int} {x2 : Int} {x3 : Int} {σ : ra_V} (hx0 : ra_in x0) (hx1 : ra_in x1) (hx2 : ra_in x2) (hx3 : ra_in x3) (hw : WF σ) (hpw : PW σ) : ra_C (g_Gs n f) g_sh 0 (d + 5) 297 [.index (179), ra_I x0, ra_I x1, ra_I x2, ra_I x3] σ (fun r s => rI r ∧ Fr (179) (191) σ s ∧ s (183) = σ (183) ∧ s (187) = σ (187) ∧ (∀ a, a ≠ 5 → a ≠ 7 → a ≠ 10 → ra_g s 179 a = ra_g σ 179 a) ∧ WF s ∧ PW s) := by
  refine ra_enter (nn := 0) mt_297 rfl (Nat.le_of_ble_eq_true rfl) rfl (fun h => absurd h (by decide +kernel)) ?_
  have hw0 := WF_a hw
  unfold WFa at hw0
  refine ra_load rfl rfl rfl rfl ?_
  refine ra_iconst rfl ?_
  refine ra_putI rfl lk_8_51 (Nat.zero_le _) sh_179 rfl rfl ?_
  refine ra_newU (by first | omega | (unfold ra_in at *; omega)) (fun s1 hs1 hp2 hp2o => ?_)
  have hp2_99 := hp2o 99 (by decide)
  have hF3 := Fr_tr (lo := 179) (hi := 191) Fr_rf hs1 (by omega)
  have hk4 : s1 (180) = σ (180) := (hs1 (180) (by omega))
  have hk5 : s1 (183) = σ (183) := (hs1 (183) (by omega))
  have hk6 : s1 (184) = σ (184) := (hs1 (184) (by omega))
  have hk7 : s1 (187) = σ (187) := (hs1 (187) (by omega))
  have hg8 : ∀ a, a ≠ 5 → a ≠ 7 → a ≠ 10 → ra_g s1 179 a = ra_g σ 179 a := fun a h5 h7 h10 => ((fun a h7 h10 => hp2o a h7) a h7 h10).trans ((fun _ _ _ _ => rfl) a h5 h7 h10)
  have ho9 : ∀ a, a ≠ 7 → a ≠ 10 → ra_g s1 179 a = ra_g σ 179 a := fun a h7 h10 => ((fun a h7 h10 => hp2o a h7) a h7 h10).trans ((fun _ _ _ => rfl) a h7 h10)
  refine ra_load rfl rfl rfl rfl ?_
  refine ra_load rfl rfl rfl rfl ?_
  refine ra_load rfl rfl rfl rfl ?_
  refine ra_load rfl rfl rfl rfl ?_
  refine ra_cQPp (sp_296 hx2 hx3 hx1) rfl (ct_296 rfl lk_8_363 (Or.inl rfl) (Nat.le_of_ble_eq_true rfl)) (fun z11 hz11 hz11p => ?_)
  refine ra_ifeq rfl rfl (ra_in01 hz11) (fun h12 => ?_) (fun h12 => ?_)
  · refine ra_iconst rfl ?_
    refine ra_goto rfl rfl ?_
    refine ra_iconst rfl ?_
    refine ra_cT (sp_194 (Or.inr rfl) (by first | omega | (unfold ra_in at *; omega))) rfl (ct_194 rfl lk_8_303 (Or.inl rfl) sh_179 (Nat.le_of_ble_eq_true rfl)) (fun s13 hs13 => ?_)
    obtain ⟨hf14, he15⟩ := hs13
    have hF16 := Fr_tr (lo := 179) (hi := 191) hF3 hf14 (by omega)
    have hk17 : s13 (180) = σ (180) := (hf14 (180) (by omega)).trans hk4
    have hk18 : s13 (183) = σ (183) := (hf14 (183) (by omega)).trans hk5
    have hk19 : s13 (184) = σ (184) := (hf14 (184) (by omega)).trans hk6
    have hk20 : s13 (187) = σ (187) := (hf14 (187) (by omega)).trans hk7
    have hg21 : ∀ a, a ≠ 5 → a ≠ 7 → a ≠ 10 → ra_g s13 179 a = ra_g σ 179 a := fun a h5 h7 h10 => ((fun a h7 h10 => he15 a h7) a h7 h10).trans (hg8 a h5 h7 h10)
    have ho22 : ∀ a, a ≠ 7 → a ≠ 10 → ra_g s13 179 a = ra_g σ 179 a := fun a h7 h10 => ((fun a h7 h10 => he15 a h7) a h7 h10).trans (ho9 a h7 h10)
    refine ra_ifne rfl rfl (by first | omega | (unfold ra_in at *; omega)) (fun h23 => ?_) (fun h23 => ?_)
    · refine ra_iconst rfl ?_
      exact ra_ireturn rfl rfl ⟨⟨_, (by first | omega | (unfold ra_in at *; omega)), rfl⟩, ⟨hF16, hk18, hk20, hg21, (WF_k hk17 hw), (PW_k hpw (ho22 5 (by decide) (by decide)) hk19)⟩⟩
    · exact absurd h23 (by decide)
  · refine ra_load rfl rfl rfl rfl ?_
    refine ra_load rfl rfl rfl rfl ?_
    refine ra_load rfl rfl rfl rfl ?_
    refine ra_cIPp (sp_216 hx0 hx1 (WFa_k hk4 (WF_a hw))) rfl (ct_216 rfl lk_8_349 (Or.inl rfl) sh_179 (Nat.le_of_ble_eq_true rfl)) (fun z25 hz25 hz25p => ?_)
    refine ra_ifeq rfl rfl hz25 (fun h26 => ?_) (fun h26 => ?_)
    · refine ra_iconst rfl ?_
      refine ra_iconst rfl ?_
      refine ra_cT (sp_194 (Or.inl rfl) (by first | omega | (unfold ra_in at *; omega))) rfl (ct_194 rfl lk_8_303 (Or.inl rfl) sh_179 (Nat.le_of_ble_eq_true rfl)) (fun s27 hs27 => ?_)
      obtain ⟨hf28, he29⟩ := hs27
      have hF30 := Fr_tr (lo := 179) (hi := 191) hF3 hf28 (by omega)
      have hk31 : s27 (180) = σ (180) := (hf28 (180) (by omega)).trans hk4
      have hk32 : s27 (183) = σ (183) := (hf28 (183) (by omega)).trans hk5
      have hk33 : s27 (184) = σ (184) := (hf28 (184) (by omega)).trans hk6
      have hk34 : s27 (187) = σ (187) := (hf28 (187) (by omega)).trans hk7
      have hg35 : ∀ a, a ≠ 5 → a ≠ 7 → a ≠ 10 → ra_g s27 179 a = ra_g σ 179 a := fun a h5 h7 h10 => ((fun a h7 h10 => he29 a h7) a h7 h10).trans (hg8 a h5 h7 h10)
      have ho36 : ∀ a, a ≠ 7 → a ≠ 10 → ra_g s27 179 a = ra_g σ 179 a := fun a h7 h10 => ((fun a h7 h10 => he29 a h7) a h7 h10).trans (ho9 a h7 h10)
      refine ra_ifne rfl rfl (by first | omega | (unfold ra_in at *; omega)) (fun h37 => ?_) (fun h37 => ?_)
      · exact absurd h37 (by decide)
      · refine ra_load rfl rfl rfl rfl ?_
        refine ra_load rfl rfl rfl rfl ?_
        refine ra_cIPp (sp_203 (WF_k hk31 hw)) rfl (ct_203 rfl lk_8_298 (Or.inl rfl) sh_179 (Nat.le_of_ble_eq_true rfl)) (fun z39 hz39 hz39p => ?_)
        refine ra_bipush rfl (by decide) ?_
        refine ra_icne rfl rfl hz39 (by first | omega | (unfold ra_in at *; omega)) (fun h40 => ?_) (fun h40 => ?_)
        · refine ra_iconst rfl ?_
          refine ra_iconst rfl ?_
          refine ra_cT (sp_194 (Or.inl rfl) (by first | omega | (unfold ra_in at *; omega))) rfl (ct_194 rfl lk_8_303 (Or.inl rfl) sh_179 (Nat.le_of_ble_eq_true rfl)) (fun s41 hs41 => ?_)
          obtain ⟨hf42, he43⟩ := hs41
          have hF44 := Fr_tr (lo := 179) (hi := 191) hF30 hf42 (by omega)
          have hk45 : s41 (180) = σ (180) := (hf42 (180) (by omega)).trans hk31
          have hk46 : s41 (183) = σ (183) := (hf42 (183) (by omega)).trans hk32
          have hk47 : s41 (184) = σ (184) := (hf42 (184) (by omega)).trans hk33
          have hk48 : s41 (187) = σ (187) := (hf42 (187) (by omega)).trans hk34
          have hg49 : ∀ a, a ≠ 5 → a ≠ 7 → a ≠ 10 → ra_g s41 179 a = ra_g σ 179 a := fun a h5 h7 h10 => ((fun a h7 h10 => he43 a h7) a h7 h10).trans (hg35 a h5 h7 h10)
          have ho50 : ∀ a, a ≠ 7 → a ≠ 10 → ra_g s41 179 a = ra_g σ 179 a := fun a h7 h10 => ((fun a h7 h10 => he43 a h7) a h7 h10).trans (ho36 a h7 h10)
          refine ra_ifeq rfl rfl (by first | omega | (unfold ra_in at *; omega)) (fun h51 => ?_) (fun h51 => ?_)
          · refine ra_load rfl rfl rfl rfl ?_
            have hu := wn_k hk4 (hz25p (by omega))
            have hx := exn_k hk31 (hz39p.2.2 (by omega))
            clear hz39p
            have hu1 := hu.1
            unfold US at hu1
            have ht := hz11p (by omega)
            refine ra_cV (sp_197 (WF_k hk45 hw) (PW_k hpw (ho50 5 (by decide) (by decide)) hk47)) rfl (ct_197 rfl lk_8_366 (Or.inl rfl) sh_179 (Nat.le_of_ble_eq_true rfl)) (fun s52 hs52 => ?_)
            obtain ⟨hf53, hc54, hc55, hc56, hc57, he58, he59⟩ := hs52
            have hF60 := Fr_tr (lo := 179) (hi := 191) hF44 hf53 (by omega)
            have hk61 : s52 (180) = σ (180) := hc54.trans hk45
            have hk62 : s52 (183) = σ (183) := hc57.trans hk46
            have hk63 : s52 (187) = σ (187) := (hf53 (187) (by omega)).trans hk48
            have hg64 : ∀ a, a ≠ 5 → a ≠ 7 → a ≠ 10 → ra_g s52 179 a = ra_g σ 179 a := fun a h5 h7 h10 => ((fun a h5 h7 h10 => he58 a h5) a h5 h7 h10).trans (hg49 a h5 h7 h10)
            refine ra_load rfl rfl rfl rfl ?_
            refine ra_load rfl rfl rfl rfl ?_
            refine ra_load rfl rfl rfl rfl ?_
            refine ra_load rfl rfl rfl rfl ?_
            refine ra_load rfl rfl rfl rfl ?_
            refine ra_cIPs (sp_210 hx0 hx1 hx2 hx3 (exm_k hk61 hx) (by omega)) rfl (ct_210 rfl lk_8_250 (Or.inl rfl) sh_179 (Nat.le_of_ble_eq_true rfl)) (fun z66 s65 hz66 hz66p hs65 => ?_)
            have hF67 := Fr_tr (lo := 179) (hi := 191) hF60 hs65 (by omega)
            have hk68 : s65 (183) = σ (183) := (hs65 (183) (by omega)).trans hk62
            have hk69 : s65 (187) = σ (187) := (hs65 (187) (by omega)).trans hk63
            have hg70 : ∀ a, a ≠ 5 → a ≠ 7 → a ≠ 10 → ra_g s65 179 a = ra_g σ 179 a := fun a h5 h7 h10 => (ra_gk (hs65 179 (by omega))).trans (hg64 a h5 h7 h10)
            exact ra_ireturn rfl rfl ⟨⟨_, hz66, rfl⟩, ⟨hF67, hk68, hk69, hg70, (WF_new (WF_k hk61 hw) hz66p (wn_k hk61.symm hu).1 (wn_k hk61.symm hu).2.1 (wn_k hk61.symm hu).2.2 ⟨by omega, by omega⟩), (PW_k he59 (ra_gk (hs65 179 (by omega))) (hs65 184 (by omega)))⟩⟩
          · exact absurd h51 (by decide)
        · refine ra_iconst rfl ?_
          refine ra_goto rfl rfl ?_
          refine ra_iconst rfl ?_
          refine ra_cT (sp_194 (Or.inr rfl) (by first | omega | (unfold ra_in at *; omega))) rfl (ct_194 rfl lk_8_303 (Or.inl rfl) sh_179 (Nat.le_of_ble_eq_true rfl)) (fun s71 hs71 => ?_)
          obtain ⟨hf72, he73⟩ := hs71
          have hF74 := Fr_tr (lo := 179) (hi := 191) hF30 hf72 (by omega)
          have hk75 : s71 (180) = σ (180) := (hf72 (180) (by omega)).trans hk31
          have hk76 : s71 (183) = σ (183) := (hf72 (183) (by omega)).trans hk32
          have hk77 : s71 (184) = σ (184) := (hf72 (184) (by omega)).trans hk33
          have hk78 : s71 (187) = σ (187) := (hf72 (187) (by omega)).trans hk34
          have hg79 : ∀ a, a ≠ 5 → a ≠ 7 → a ≠ 10 → ra_g s71 179 a = ra_g σ 179 a := fun a h5 h7 h10 => ((fun a h7 h10 => he73 a h7) a h7 h10).trans (hg35 a h5 h7 h10)
          have ho80 : ∀ a, a ≠ 7 → a ≠ 10 → ra_g s71 179 a = ra_g σ 179 a := fun a h7 h10 => ((fun a h7 h10 => he73 a h7) a h7 h10).trans (ho36 a h7 h10)
          refine ra_ifeq rfl rfl (by first | omega | (unfold ra_in at *; omega)) (fun h81 => ?_) (fun h81 => ?_)
          · exact absurd h81 (by decide)
          · refine ra_iconst rfl ?_
            exact ra_ireturn rfl rfl ⟨⟨_, (by first | omega | (unfold ra_in at *; omega)), rfl⟩, ⟨hF74, hk76, hk78, hg79, (WF_k hk75 hw), (PW_k hpw (ho80 5 (by decide) (by decide)) hk77)⟩⟩
    · refine ra_iconst rfl ?_
      refine ra_goto rfl rfl ?_
      refine ra_iconst rfl ?_
      refine ra_cT (sp_194 (Or.inr rfl) (by first | omega | (unfold ra_in at *; omega))) rfl (ct_194 rfl lk_8_303 (Or.inl rfl) sh_179 (Nat.le_of_ble_eq_true rfl)) (fun s82 hs82 => ?_)
      obtain ⟨hf83, he84⟩ := hs82
      have hF85 := Fr_tr (lo := 179) (hi := 191) hF3 hf83 (by omega)
      have hk86 : s82 (180) = σ (180) := (hf83 (180) (by omega)).trans hk4
      have hk87 : s82 (183) = σ (183) := (hf83 (183) (by omega)).trans hk5
      have hk88 : s82 (184) = σ (184) := (hf83 (184) (by omega)).trans hk6
      have hk89 : s82 (187) = σ (187) := (hf83 (187) (by omega)).trans hk7
      have hg90 : ∀ a, a ≠ 5 → a ≠ 7 → a ≠ 10 → ra_g s82 179 a = ra_g σ 179 a := fun a h5 h7 h10 => ((fun a h7 h10 => he84 a h7) a h7 h10).trans (hg8 a h5 h7 h10)
      have ho91 : ∀ a, a ≠ 7 → a ≠ 10 → ra_g s82 179 a = ra_g σ 179 a := fun a h7 h10 => ((fun a h7 h10 => he84 a h7) a h7 h10).trans (ho9 a h7 h10)
      refine ra_ifne rfl rfl (by first | omega | (unfold ra_in at *; omega)) (fun h92 => ?_) (fun h92 => ?_)
      · refine ra_iconst rfl ?_
        exact ra_ireturn rfl rfl ⟨⟨_, (by first | omega | (unfold ra_in at *; omega)), rfl⟩, ⟨hF85, hk87, hk89, hg90, (WF_k hk86 hw), (PW_k hpw (ho91 5 (by decide) (by decide)) hk88)⟩⟩
      · exact absurd h92 (by decide)
theorem sp_298 {n : Nat} {f : Nat → Int32} {d : Nat} {x0 : Int} {x1 : Int} {x2 : Int} {x3 : Int} {σ : ra_V} (hx0 : ra_in x0) (hx1 : ra_in x1) (hx2 : ra_in x2) (hx3 : ra_in x3) (hw : WF σ) (hpw : PW σ) : ra_C (g_Gs n f) g_sh 0 (d + 7) 298 [.index (179), ra_I x0, ra_I x1, ra_I x2, ra_I x3] σ (fun r s => rI r ∧ Fr (179) (191) σ s ∧ s (183) = σ (183) ∧ s (187) = σ (187) ∧ (∀ a, a ≠ 5 → a ≠ 7 → a ≠ 10 → ra_g s 179 a = ra_g σ 179 a) ∧ WF s ∧ PW s) := by
  refine ra_enter (nn := 1) mt_298 rfl (Nat.le_of_ble_eq_true rfl) rfl (fun h => absurd h (by decide +kernel)) ?_
  have hw0 := WF_a hw
  unfold WFa at hw0
  refine ra_load rfl rfl rfl rfl ?_
  refine ra_iconst rfl ?_
  refine ra_putI rfl lk_8_51 (Nat.zero_le _) sh_179 rfl rfl ?_
  refine ra_newU (by first | omega | (unfold ra_in at *; omega)) (fun s1 hs1 hp2 hp2o => ?_)
  have hp2_99 := hp2o 99 (by decide)
  have hF3 := Fr_tr (lo := 179) (hi := 191) Fr_rf hs1 (by omega)
  have hk4 : s1 (180) = σ (180) := (hs1 (180) (by omega))
  have hk5 : s1 (183) = σ (183) := (hs1 (183) (by omega))
  have hk6 : s1 (184) = σ (184) := (hs1 (184) (by omega))
  have hk7 : s1 (187) = σ (187) := (hs1 (187) (by omega))
  have hg8 : ∀ a, a ≠ 5 → a ≠ 7 → a ≠ 10 → ra_g s1 179 a = ra_g σ 179 a := fun a h5 h7 h10 => ((fun a h7 h10 => hp2o a h7) a h7 h10).trans ((fun _ _ _ _ => rfl) a h5 h7 h10)
  have ho9 : ∀ a, a ≠ 7 → a ≠ 10 → ra_g s1 179 a = ra_g σ 179 a := fun a h7 h10 => ((fun a h7 h10 => hp2o a h7) a h7 h10).trans ((fun _ _ _ => rfl) a h7 h10)
  refine ra_load rfl rfl rfl rfl ?_
  refine ra_load rfl rfl rfl rfl ?_
  refine ra_load rfl rfl rfl rfl ?_
  refine ra_load rfl rfl rfl rfl ?_
  refine ra_cQPp (sp_296 hx1 hx2 hx0) rfl (ct_296 rfl lk_8_363 (Or.inl rfl) (Nat.le_of_ble_eq_true rfl)) (fun z11 hz11 hz11p => ?_)
  refine ra_ifeq rfl rfl (ra_in01 hz11) (fun h12 => ?_) (fun h12 => ?_)
  · refine ra_iconst rfl ?_
    refine ra_goto rfl rfl ?_
    refine ra_iconst rfl ?_
    refine ra_cT (sp_194 (Or.inr rfl) (by first | omega | (unfold ra_in at *; omega))) rfl (ct_194 rfl lk_8_303 (Or.inl rfl) sh_179 (Nat.le_of_ble_eq_true rfl)) (fun s13 hs13 => ?_)
    obtain ⟨hf14, he15⟩ := hs13
    have hF16 := Fr_tr (lo := 179) (hi := 191) hF3 hf14 (by omega)
    have hk17 : s13 (180) = σ (180) := (hf14 (180) (by omega)).trans hk4
    have hk18 : s13 (183) = σ (183) := (hf14 (183) (by omega)).trans hk5
    have hk19 : s13 (184) = σ (184) := (hf14 (184) (by omega)).trans hk6
    have hk20 : s13 (187) = σ (187) := (hf14 (187) (by omega)).trans hk7
    have hg21 : ∀ a, a ≠ 5 → a ≠ 7 → a ≠ 10 → ra_g s13 179 a = ra_g σ 179 a := fun a h5 h7 h10 => ((fun a h7 h10 => he15 a h7) a h7 h10).trans (hg8 a h5 h7 h10)
    have ho22 : ∀ a, a ≠ 7 → a ≠ 10 → ra_g s13 179 a = ra_g σ 179 a := fun a h7 h10 => ((fun a h7 h10 => he15 a h7) a h7 h10).trans (ho9 a h7 h10)
    refine ra_ifeq rfl rfl (by first | omega | (unfold ra_in at *; omega)) (fun h23 => ?_) (fun h23 => ?_)
    · exact absurd h23 (by decide)
    · refine ra_iconst rfl ?_
      exact ra_ireturn rfl rfl ⟨⟨_, (by first | omega | (unfold ra_in at *; omega)), rfl⟩, ⟨hF16, hk18, hk20, hg21, (WF_k hk17 hw), (PW_k hpw (ho22 5 (by decide) (by decide)) hk19)⟩⟩
  · refine ra_load rfl rfl rfl rfl ?_
    refine ra_i2l rfl hx3 ?_
    refine ra_lconst0 rfl ?_
    refine ra_ldc2 (z := 2) rfl lk_8_344 (by decide) ?_
    refine ra_cTp (sp_193 hx3 (by first | omega | (unfold ra_in at *; omega)) (by first | omega | (unfold ra_in at *; omega))) rfl (ct_193 rfl lk_8_63 (Or.inl rfl) (Nat.le_of_ble_eq_true rfl)) ?_
    refine ra_ifneB rfl rfl (fun h25 => ?_) (fun h25 => ?_)
    · refine ra_iconst rfl ?_
      refine ra_iconst rfl ?_
      refine ra_cT (sp_194 (Or.inl rfl) (by first | omega | (unfold ra_in at *; omega))) rfl (ct_194 rfl lk_8_303 (Or.inl rfl) sh_179 (Nat.le_of_ble_eq_true rfl)) (fun s26 hs26 => ?_)
      obtain ⟨hf27, he28⟩ := hs26
      have hF29 := Fr_tr (lo := 179) (hi := 191) hF3 hf27 (by omega)
      have hk30 : s26 (180) = σ (180) := (hf27 (180) (by omega)).trans hk4
      have hk31 : s26 (183) = σ (183) := (hf27 (183) (by omega)).trans hk5
      have hk32 : s26 (184) = σ (184) := (hf27 (184) (by omega)).trans hk6
      have hk33 : s26 (187) = σ (187) := (hf27 (187) (by omega)).trans hk7
      have hg34 : ∀ a, a ≠ 5 → a ≠ 7 → a ≠ 10 → ra_g s26 179 a = ra_g σ 179 a := fun a h5 h7 h10 => ((fun a h7 h10 => he28 a h7) a h7 h10).trans (hg8 a h5 h7 h10)
      have ho35 : ∀ a, a ≠ 7 → a ≠ 10 → ra_g s26 179 a = ra_g σ 179 a := fun a h7 h10 => ((fun a h7 h10 => he28 a h7) a h7 h10).trans (ho9 a h7 h10)
      refine ra_ifeq rfl rfl (by first | omega | (unfold ra_in at *; omega)) (fun h36 => ?_) (fun h36 => ?_)
      · refine ra_load rfl rfl rfl rfl ?_
        refine ra_load rfl rfl rfl rfl ?_
        refine ra_load rfl rfl rfl rfl ?_
        refine ra_cIP (sp_222 hx0 hx3 (WF_k hk30 hw)) rfl (ct_222 rfl lk_8_346 (Or.inl rfl) sh_179 (Nat.le_of_ble_eq_true rfl)) (fun z38 s37 hz38 hz38p hs37 => ?_)
        obtain ⟨hf39, hc40, hc41, hc42, hc43, hc44, he45⟩ := hs37
        have hF46 := Fr_tr (lo := 179) (hi := 191) hF29 hf39 (by omega)
        have hk47 : s37 (180) = σ (180) := hc40.trans hk30
        have hk48 : s37 (183) = σ (183) := hc43.trans hk31
        have hk49 : s37 (184) = σ (184) := hc44.trans hk32
        have hk50 : s37 (187) = σ (187) := (hf39 (187) (by omega)).trans hk33
        have hg51 : ∀ a, a ≠ 5 → a ≠ 7 → a ≠ 10 → ra_g s37 179 a = ra_g σ 179 a := fun a h5 h7 h10 => ((fun a h7 h10 => he45 a h10) a h7 h10).trans (hg34 a h5 h7 h10)
        have ho52 : ∀ a, a ≠ 7 → a ≠ 10 → ra_g s37 179 a = ra_g σ 179 a := fun a h7 h10 => ((fun a h7 h10 => he45 a h10) a h7 h10).trans (ho35 a h7 h10)
        refine ra_store (L' := [_, _, _, _, _, _]) rfl rfl rfl (Nat.le_of_ble_eq_true rfl) rfl ?_
        refine ra_load rfl rfl rfl rfl ?_
        refine ra_load rfl rfl rfl rfl ?_
        refine ra_cIPp (sp_203 (WF_k hk47 hw)) rfl (ct_203 rfl lk_8_298 (Or.inl rfl) sh_179 (Nat.le_of_ble_eq_true rfl)) (fun z54 hz54 hz54p => ?_)
        refine ra_bipush rfl (by decide) ?_
        refine ra_iceq rfl rfl hz54 (by first | omega | (unfold ra_in at *; omega)) (fun h55 => ?_) (fun h55 => ?_)
        · refine ra_iconst rfl ?_
          refine ra_goto rfl rfl ?_
          refine ra_iconst rfl ?_
          refine ra_cT (sp_194 (Or.inr rfl) (by first | omega | (unfold ra_in at *; omega))) rfl (ct_194 rfl lk_8_303 (Or.inl rfl) sh_179 (Nat.le_of_ble_eq_true rfl)) (fun s56 hs56 => ?_)
          obtain ⟨hf57, he58⟩ := hs56
          have hF59 := Fr_tr (lo := 179) (hi := 191) hF46 hf57 (by omega)
          have hk60 : s56 (180) = σ (180) := (hf57 (180) (by omega)).trans hk47
          have hk61 : s56 (183) = σ (183) := (hf57 (183) (by omega)).trans hk48
          have hk62 : s56 (184) = σ (184) := (hf57 (184) (by omega)).trans hk49
          have hk63 : s56 (187) = σ (187) := (hf57 (187) (by omega)).trans hk50
          have hg64 : ∀ a, a ≠ 5 → a ≠ 7 → a ≠ 10 → ra_g s56 179 a = ra_g σ 179 a := fun a h5 h7 h10 => ((fun a h7 h10 => he58 a h7) a h7 h10).trans (hg51 a h5 h7 h10)
          have ho65 : ∀ a, a ≠ 7 → a ≠ 10 → ra_g s56 179 a = ra_g σ 179 a := fun a h7 h10 => ((fun a h7 h10 => he58 a h7) a h7 h10).trans (ho52 a h7 h10)
          refine ra_ifeq rfl rfl (by first | omega | (unfold ra_in at *; omega)) (fun h66 => ?_) (fun h66 => ?_)
          · exact absurd h66 (by decide)
          · refine ra_iconst rfl ?_
            exact ra_ireturn rfl rfl ⟨⟨_, (by first | omega | (unfold ra_in at *; omega)), rfl⟩, ⟨hF59, hk61, hk63, hg64, (WF_k hk60 hw), (PW_k hpw (ho65 5 (by decide) (by decide)) hk62)⟩⟩
        · refine ra_load rfl rfl rfl rfl ?_
          refine ra_iconst rfl ?_
          refine ra_icne rfl rfl hz38 (by first | omega | (unfold ra_in at *; omega)) (fun h67 => ?_) (fun h67 => ?_)
          · refine ra_iconst rfl ?_
            refine ra_iconst rfl ?_
            refine ra_cT (sp_194 (Or.inl rfl) (by first | omega | (unfold ra_in at *; omega))) rfl (ct_194 rfl lk_8_303 (Or.inl rfl) sh_179 (Nat.le_of_ble_eq_true rfl)) (fun s68 hs68 => ?_)
            obtain ⟨hf69, he70⟩ := hs68
            have hF71 := Fr_tr (lo := 179) (hi := 191) hF46 hf69 (by omega)
            have hk72 : s68 (180) = σ (180) := (hf69 (180) (by omega)).trans hk47
            have hk73 : s68 (183) = σ (183) := (hf69 (183) (by omega)).trans hk48
            have hk74 : s68 (184) = σ (184) := (hf69 (184) (by omega)).trans hk49
            have hk75 : s68 (187) = σ (187) := (hf69 (187) (by omega)).trans hk50
            have hg76 : ∀ a, a ≠ 5 → a ≠ 7 → a ≠ 10 → ra_g s68 179 a = ra_g σ 179 a := fun a h5 h7 h10 => ((fun a h7 h10 => he70 a h7) a h7 h10).trans (hg51 a h5 h7 h10)
            have ho77 : ∀ a, a ≠ 7 → a ≠ 10 → ra_g s68 179 a = ra_g σ 179 a := fun a h7 h10 => ((fun a h7 h10 => he70 a h7) a h7 h10).trans (ho52 a h7 h10)
            refine ra_ifeq rfl rfl (by first | omega | (unfold ra_in at *; omega)) (fun h78 => ?_) (fun h78 => ?_)
            · refine ra_load rfl rfl rfl rfl ?_
              have hu := wn_k hk30 (hz38p.resolve_left (by omega))
              have hx := exn_k hk47 (hz54p.2.2 (by omega))
              clear hz54p
              have hu1 := hu.1
              unfold US at hu1
              have ht := hz11p (by omega)
              refine ra_cV (sp_197 (WF_k hk72 hw) (PW_k hpw (ho77 5 (by decide) (by decide)) hk74)) rfl (ct_197 rfl lk_8_366 (Or.inl rfl) sh_179 (Nat.le_of_ble_eq_true rfl)) (fun s79 hs79 => ?_)
              obtain ⟨hf80, hc81, hc82, hc83, hc84, he85, he86⟩ := hs79
              have hF87 := Fr_tr (lo := 179) (hi := 191) hF71 hf80 (by omega)
              have hk88 : s79 (180) = σ (180) := hc81.trans hk72
              have hk89 : s79 (183) = σ (183) := hc84.trans hk73
              have hk90 : s79 (187) = σ (187) := (hf80 (187) (by omega)).trans hk75
              have hg91 : ∀ a, a ≠ 5 → a ≠ 7 → a ≠ 10 → ra_g s79 179 a = ra_g σ 179 a := fun a h5 h7 h10 => ((fun a h5 h7 h10 => he85 a h5) a h5 h7 h10).trans (hg76 a h5 h7 h10)
              refine ra_load rfl rfl rfl rfl ?_
              refine ra_load rfl rfl rfl rfl ?_
              refine ra_load rfl rfl rfl rfl ?_
              refine ra_load rfl rfl rfl rfl ?_
              refine ra_load rfl rfl rfl rfl ?_
              refine ra_cIPs (sp_210 hz38 hx0 hx1 hx2 (exm_k hk88 hx) (by omega)) rfl (ct_210 rfl lk_8_250 (Or.inl rfl) sh_179 (Nat.le_of_ble_eq_true rfl)) (fun z93 s92 hz93 hz93p hs92 => ?_)
              have hF94 := Fr_tr (lo := 179) (hi := 191) hF87 hs92 (by omega)
              have hk95 : s92 (183) = σ (183) := (hs92 (183) (by omega)).trans hk89
              have hk96 : s92 (187) = σ (187) := (hs92 (187) (by omega)).trans hk90
              have hg97 : ∀ a, a ≠ 5 → a ≠ 7 → a ≠ 10 → ra_g s92 179 a = ra_g σ 179 a := fun a h5 h7 h10 => (ra_gk (hs92 179 (by omega))).trans (hg91 a h5 h7 h10)
              exact ra_ireturn rfl rfl ⟨⟨_, hz93, rfl⟩, ⟨hF94, hk95, hk96, hg97, (WF_new (WF_k hk88 hw) hz93p (wn_k hk88.symm hu).1 (wn_k hk88.symm hu).2.1 (wn_k hk88.symm hu).2.2 ⟨by omega, by omega⟩), (PW_k he86 (ra_gk (hs92 179 (by omega))) (hs92 184 (by omega)))⟩⟩
            · exact absurd h78 (by decide)
          · refine ra_iconst rfl ?_
            refine ra_goto rfl rfl ?_
            refine ra_iconst rfl ?_
            refine ra_cT (sp_194 (Or.inr rfl) (by first | omega | (unfold ra_in at *; omega))) rfl (ct_194 rfl lk_8_303 (Or.inl rfl) sh_179 (Nat.le_of_ble_eq_true rfl)) (fun s98 hs98 => ?_)
            obtain ⟨hf99, he100⟩ := hs98
            have hF101 := Fr_tr (lo := 179) (hi := 191) hF46 hf99 (by omega)
            have hk102 : s98 (180) = σ (180) := (hf99 (180) (by omega)).trans hk47
            have hk103 : s98 (183) = σ (183) := (hf99 (183) (by omega)).trans hk48
            have hk104 : s98 (184) = σ (184) := (hf99 (184) (by omega)).trans hk49
            have hk105 : s98 (187) = σ (187) := (hf99 (187) (by omega)).trans hk50
            have hg106 : ∀ a, a ≠ 5 → a ≠ 7 → a ≠ 10 → ra_g s98 179 a = ra_g σ 179 a := fun a h5 h7 h10 => ((fun a h7 h10 => he100 a h7) a h7 h10).trans (hg51 a h5 h7 h10)
            have ho107 : ∀ a, a ≠ 7 → a ≠ 10 → ra_g s98 179 a = ra_g σ 179 a := fun a h7 h10 => ((fun a h7 h10 => he100 a h7) a h7 h10).trans (ho52 a h7 h10)
            refine ra_ifeq rfl rfl (by first | omega | (unfold ra_in at *; omega)) (fun h108 => ?_) (fun h108 => ?_)
            · exact absurd h108 (by decide)
            · refine ra_iconst rfl ?_
              exact ra_ireturn rfl rfl ⟨⟨_, (by first | omega | (unfold ra_in at *; omega)), rfl⟩, ⟨hF101, hk103, hk105, hg106, (WF_k hk102 hw), (PW_k hpw (ho107 5 (by decide) (by decide)) hk104)⟩⟩
      · exact absurd h36 (by decide)
    · refine ra_iconst rfl ?_
      refine ra_goto rfl rfl ?_
      refine ra_iconst rfl ?_
      refine ra_cT (sp_194 (Or.inr rfl) (by first | omega | (unfold ra_in at *; omega))) rfl (ct_194 rfl lk_8_303 (Or.inl rfl) sh_179 (Nat.le_of_ble_eq_true rfl)) (fun s109 hs109 => ?_)
      obtain ⟨hf110, he111⟩ := hs109
      have hF112 := Fr_tr (lo := 179) (hi := 191) hF3 hf110 (by omega)
      have hk113 : s109 (180) = σ (180) := (hf110 (180) (by omega)).trans hk4
      have hk114 : s109 (183) = σ (183) := (hf110 (183) (by omega)).trans hk5
      have hk115 : s109 (184) = σ (184) := (hf110 (184) (by omega)).trans hk6
      have hk116 : s109 (187) = σ (187) := (hf110 (187) (by omega)).trans hk7
      have hg117 : ∀ a, a ≠ 5 → a ≠ 7 → a ≠ 10 → ra_g s109 179 a = ra_g σ 179 a := fun a h5 h7 h10 => ((fun a h7 h10 => he111 a h7) a h7 h10).trans (hg8 a h5 h7 h10)
      have ho118 : ∀ a, a ≠ 7 → a ≠ 10 → ra_g s109 179 a = ra_g σ 179 a := fun a h7 h10 => ((fun a h7 h10 => he111 a h7) a h7 h10).trans (ho9 a h7 h10)
      refine ra_ifeq rfl rfl (by first | omega | (unfold ra_in at *; omega)) (fun h119 => ?_) (fun h119 => ?_)
      · exact absurd h119 (by decide)
      · refine ra_iconst rfl ?_
        exact ra_ireturn rfl rfl ⟨⟨_, (by first | omega | (unfold ra_in at *; omega)), rfl⟩, ⟨hF112, hk114, hk116, hg117, (WF_k hk113 hw), (PW_k hpw (ho118 5 (by decide) (by decide)) hk115)⟩⟩
theorem sp_305 {n : Nat} {f : Nat → Int32} {d : Nat} {x0 : Int} {x1 : Int} {σ : ra_V} (hx0 : ra_in x0) (hx1 : ra_in x1) (hw : WF σ) (hpw : PW σ) : ra_C (g_Gs n f) g_sh 0 (d + 6) 305 [.index (179), ra_I x0, ra_I x1] σ (fun r s => rI r ∧ Fr (179) (191) σ s ∧ s (183) = σ (183) ∧ s (187) = σ (187) ∧ (∀ a, a ≠ 5 → a ≠ 7 → a ≠ 10 → ra_g s 179 a = ra_g σ 179 a) ∧ WF s ∧ PW s) := by
  refine ra_enter (nn := 1) mt_305 rfl (Nat.le_of_ble_eq_true rfl) rfl (fun h => absurd h (by decide +kernel)) ?_
  have hw0 := WF_a hw
  unfold WFa at hw0
  refine ra_load rfl rfl rfl rfl ?_
  refine ra_iconst rfl ?_
  refine ra_putI rfl lk_8_51 (Nat.zero_le _) sh_179 rfl rfl ?_
  refine ra_newU (by first | omega | (unfold ra_in at *; omega)) (fun s1 hs1 hp2 hp2o => ?_)
  have hp2_99 := hp2o 99 (by decide)
  have hF3 := Fr_tr (lo := 179) (hi := 191) Fr_rf hs1 (by omega)
  have hk4 : s1 (180) = σ (180) := (hs1 (180) (by omega))
  have hk5 : s1 (183) = σ (183) := (hs1 (183) (by omega))
  have hk6 : s1 (184) = σ (184) := (hs1 (184) (by omega))
  have hk7 : s1 (187) = σ (187) := (hs1 (187) (by omega))
  have hg8 : ∀ a, a ≠ 5 → a ≠ 7 → a ≠ 10 → ra_g s1 179 a = ra_g σ 179 a := fun a h5 h7 h10 => ((fun a h7 h10 => hp2o a h7) a h7 h10).trans ((fun _ _ _ _ => rfl) a h5 h7 h10)
  have ho9 : ∀ a, a ≠ 7 → a ≠ 10 → ra_g s1 179 a = ra_g σ 179 a := fun a h7 h10 => ((fun a h7 h10 => hp2o a h7) a h7 h10).trans ((fun _ _ _ => rfl) a h7 h10)
  refine ra_load rfl rfl rfl rfl ?_
  refine ra_load rfl rfl rfl rfl ?_
  refine ra_load rfl rfl rfl rfl ?_
  refine ra_cQPp (sp_202 hx0) rfl (ct_202 rfl lk_8_313 (Or.inl rfl) sh_179 (Nat.le_of_ble_eq_true rfl)) (fun z11 hz11 hz11p => ?_)
  rw [wq_k hk4] at hz11p
  refine ra_ifeq rfl rfl (ra_in01 hz11) (fun h12 => ?_) (fun h12 => ?_)
  · refine ra_iconst rfl ?_
    refine ra_iconst rfl ?_
    refine ra_cT (sp_194 (Or.inl rfl) (by first | omega | (unfold ra_in at *; omega))) rfl (ct_194 rfl lk_8_303 (Or.inl rfl) sh_179 (Nat.le_of_ble_eq_true rfl)) (fun s13 hs13 => ?_)
    obtain ⟨hf14, he15⟩ := hs13
    have hF16 := Fr_tr (lo := 179) (hi := 191) hF3 hf14 (by omega)
    have hk17 : s13 (180) = σ (180) := (hf14 (180) (by omega)).trans hk4
    have hk18 : s13 (183) = σ (183) := (hf14 (183) (by omega)).trans hk5
    have hk19 : s13 (184) = σ (184) := (hf14 (184) (by omega)).trans hk6
    have hk20 : s13 (187) = σ (187) := (hf14 (187) (by omega)).trans hk7
    have hg21 : ∀ a, a ≠ 5 → a ≠ 7 → a ≠ 10 → ra_g s13 179 a = ra_g σ 179 a := fun a h5 h7 h10 => ((fun a h7 h10 => he15 a h7) a h7 h10).trans (hg8 a h5 h7 h10)
    have ho22 : ∀ a, a ≠ 7 → a ≠ 10 → ra_g s13 179 a = ra_g σ 179 a := fun a h7 h10 => ((fun a h7 h10 => he15 a h7) a h7 h10).trans (ho9 a h7 h10)
    refine ra_ifne rfl rfl (by first | omega | (unfold ra_in at *; omega)) (fun h23 => ?_) (fun h23 => ?_)
    · exact absurd h23 (by decide)
    · refine ra_load rfl rfl rfl rfl ?_
      refine ra_load rfl rfl rfl rfl ?_
      refine ra_iconst rfl ?_
      refine ra_cQP (sp_268 hx0 (by first | omega | (unfold ra_in at *; omega))) rfl (ct_268 rfl lk_8_318 (Or.inl rfl) sh_179 (Nat.le_of_ble_eq_true rfl)) (fun z25 s24 hz25 hz25p hs24 => ?_)
      rw [wq_k hk17] at hz25p
      obtain ⟨hf26, he27⟩ := hs24
      have hF28 := Fr_tr (lo := 179) (hi := 191) hF16 hf26 (by omega)
      have hk29 : s24 (180) = σ (180) := (hf26 (180) (by omega)).trans hk17
      have hk30 : s24 (183) = σ (183) := (hf26 (183) (by omega)).trans hk18
      have hk31 : s24 (184) = σ (184) := (hf26 (184) (by omega)).trans hk19
      have hk32 : s24 (187) = σ (187) := (hf26 (187) (by omega)).trans hk20
      have hg33 : ∀ a, a ≠ 5 → a ≠ 7 → a ≠ 10 → ra_g s24 179 a = ra_g σ 179 a := fun a h5 h7 h10 => ((fun a h7 h10 => he27 a h7) a h7 h10).trans (hg21 a h5 h7 h10)
      have ho34 : ∀ a, a ≠ 7 → a ≠ 10 → ra_g s24 179 a = ra_g σ 179 a := fun a h7 h10 => ((fun a h7 h10 => he27 a h7) a h7 h10).trans (ho22 a h7 h10)
      refine ra_ifeq rfl rfl (ra_in01 hz25) (fun h35 => ?_) (fun h35 => ?_)
      · refine ra_load rfl rfl rfl rfl ?_
        have hp := hz25p (by omega)
        have hst := hz11p.mpr hp
        have hq := WF_p hw hp.1 hp.2.1 hp.2.2
        refine ra_cV (sp_197 (WF_k hk29 hw) (PW_k hpw (ho34 5 (by decide) (by decide)) hk31)) rfl (ct_197 rfl lk_8_366 (Or.inl rfl) sh_179 (Nat.le_of_ble_eq_true rfl)) (fun s36 hs36 => ?_)
        obtain ⟨hf37, hc38, hc39, hc40, hc41, he42, he43⟩ := hs36
        have hF44 := Fr_tr (lo := 179) (hi := 191) hF28 hf37 (by omega)
        have hk45 : s36 (180) = σ (180) := hc38.trans hk29
        have hk46 : s36 (183) = σ (183) := hc41.trans hk30
        have hk47 : s36 (187) = σ (187) := (hf37 (187) (by omega)).trans hk32
        have hg48 : ∀ a, a ≠ 5 → a ≠ 7 → a ≠ 10 → ra_g s36 179 a = ra_g σ 179 a := fun a h5 h7 h10 => ((fun a h5 h7 h10 => he42 a h5) a h5 h7 h10).trans (hg33 a h5 h7 h10)
        refine ra_load rfl rfl rfl rfl ?_
        refine ra_load rfl rfl rfl rfl ?_
        refine ra_iconst rfl ?_
        refine ra_cTp (sp_200 hx0 (by first | omega | (unfold ra_in at *; omega)) (by first | assumption | rfl | omega)) rfl (ct_200 rfl lk_8_67 (Or.inl rfl) sh_179 (Nat.le_of_ble_eq_true rfl)) ?_
        rw [wq_k hk45]
        have hr50 : ra_in (wq σ x0 (2)) := (ra_in_wq _ _ _)
        refine ra_store (L' := [_, _, _, _]) rfl rfl rfl (Nat.le_of_ble_eq_true rfl) rfl ?_
        refine ra_load rfl rfl rfl rfl ?_
        refine ra_load rfl rfl rfl rfl ?_
        refine ra_load rfl rfl rfl rfl ?_
        refine ra_cV (sp_304 hx0 hx1 (by first | assumption | rfl | omega) (by simp only [wq_k hk45]; omega)) rfl (ct_304 rfl lk_8_375 (Or.inl rfl) sh_179 (Nat.le_of_ble_eq_true rfl)) (fun s51 hs51 => ?_)
        obtain ⟨hf52, he53⟩ := hs51
        have hF54 := Fr_tr (lo := 179) (hi := 191) hF44 hf52 (by omega)
        have hk55 : s51 (183) = σ (183) := (hf52 (183) (by omega)).trans hk46
        have hk56 : s51 (187) = σ (187) := (hf52 (187) (by omega)).trans hk47
        have hg57 : ∀ a, a ≠ 5 → a ≠ 7 → a ≠ 10 → ra_g s51 179 a = ra_g σ 179 a := fun a h5 h7 h10 => (ra_gk (hf52 179 (by omega))).trans (hg48 a h5 h7 h10)
        refine ra_load rfl rfl rfl rfl ?_
        exact ra_ireturn rfl rfl ⟨⟨_, hr50, rfl⟩, ⟨hF54, hk55, hk56, hg57, (by exfalso; omega), (PW_k he43 (ra_gk (hf52 179 (by omega))) (hf52 184 (by omega)))⟩⟩
      · refine ra_iconst rfl ?_
        exact ra_ireturn rfl rfl ⟨⟨_, (by first | omega | (unfold ra_in at *; omega)), rfl⟩, ⟨hF28, hk30, hk32, hg33, (WF_k hk29 hw), (PW_k hpw (ho34 5 (by decide) (by decide)) hk31)⟩⟩
  · refine ra_load rfl rfl rfl rfl ?_
    refine ra_load rfl rfl rfl rfl ?_
    refine ra_load rfl rfl rfl rfl ?_
    refine ra_cIPp (sp_302 hx0 hx1 (WF_k hk4 hw) (sp_k hk4 rfl (hz11p.mp (by omega)))) rfl (ct_302 rfl lk_8_372 (Or.inl rfl) sh_179 (Nat.le_of_ble_eq_true rfl)) (fun z59 hz59 hz59p => ?_)
    refine ra_ifeq rfl rfl hz59 (fun h60 => ?_) (fun h60 => ?_)
    · refine ra_iconst rfl ?_
      refine ra_iconst rfl ?_
      refine ra_cT (sp_194 (Or.inl rfl) (by first | omega | (unfold ra_in at *; omega))) rfl (ct_194 rfl lk_8_303 (Or.inl rfl) sh_179 (Nat.le_of_ble_eq_true rfl)) (fun s61 hs61 => ?_)
      obtain ⟨hf62, he63⟩ := hs61
      have hF64 := Fr_tr (lo := 179) (hi := 191) hF3 hf62 (by omega)
      have hk65 : s61 (180) = σ (180) := (hf62 (180) (by omega)).trans hk4
      have hk66 : s61 (183) = σ (183) := (hf62 (183) (by omega)).trans hk5
      have hk67 : s61 (184) = σ (184) := (hf62 (184) (by omega)).trans hk6
      have hk68 : s61 (187) = σ (187) := (hf62 (187) (by omega)).trans hk7
      have hg69 : ∀ a, a ≠ 5 → a ≠ 7 → a ≠ 10 → ra_g s61 179 a = ra_g σ 179 a := fun a h5 h7 h10 => ((fun a h7 h10 => he63 a h7) a h7 h10).trans (hg8 a h5 h7 h10)
      have ho70 : ∀ a, a ≠ 7 → a ≠ 10 → ra_g s61 179 a = ra_g σ 179 a := fun a h7 h10 => ((fun a h7 h10 => he63 a h7) a h7 h10).trans (ho9 a h7 h10)
      refine ra_ifne rfl rfl (by first | omega | (unfold ra_in at *; omega)) (fun h71 => ?_) (fun h71 => ?_)
      · exact absurd h71 (by decide)
      · refine ra_load rfl rfl rfl rfl ?_
        refine ra_load rfl rfl rfl rfl ?_
        refine ra_iconst rfl ?_
        refine ra_cQP (sp_268 hx0 (by first | omega | (unfold ra_in at *; omega))) rfl (ct_268 rfl lk_8_318 (Or.inl rfl) sh_179 (Nat.le_of_ble_eq_true rfl)) (fun z73 s72 hz73 hz73p hs72 => ?_)
        rw [wq_k hk65] at hz73p
        obtain ⟨hf74, he75⟩ := hs72
        have hF76 := Fr_tr (lo := 179) (hi := 191) hF64 hf74 (by omega)
        have hk77 : s72 (180) = σ (180) := (hf74 (180) (by omega)).trans hk65
        have hk78 : s72 (183) = σ (183) := (hf74 (183) (by omega)).trans hk66
        have hk79 : s72 (184) = σ (184) := (hf74 (184) (by omega)).trans hk67
        have hk80 : s72 (187) = σ (187) := (hf74 (187) (by omega)).trans hk68
        have hg81 : ∀ a, a ≠ 5 → a ≠ 7 → a ≠ 10 → ra_g s72 179 a = ra_g σ 179 a := fun a h5 h7 h10 => ((fun a h7 h10 => he75 a h7) a h7 h10).trans (hg69 a h5 h7 h10)
        have ho82 : ∀ a, a ≠ 7 → a ≠ 10 → ra_g s72 179 a = ra_g σ 179 a := fun a h7 h10 => ((fun a h7 h10 => he75 a h7) a h7 h10).trans (ho70 a h7 h10)
        refine ra_ifeq rfl rfl (ra_in01 hz73) (fun h83 => ?_) (fun h83 => ?_)
        · refine ra_load rfl rfl rfl rfl ?_
          have hp := hz73p (by omega)
          have hst := hz11p.mpr hp
          have hq := WF_p hw hp.1 hp.2.1 hp.2.2
          have hz0 := hz59p (by omega)
          have hz := szk_k hk4 hz0.2.2
          have hm1 := hz0.2.1
          rw [ra_gk hk4] at hm1
          have hz1 := hz.2.1
          unfold US at hz1
          refine ra_cV (sp_197 (WF_k hk77 hw) (PW_k hpw (ho82 5 (by decide) (by decide)) hk79)) rfl (ct_197 rfl lk_8_366 (Or.inl rfl) sh_179 (Nat.le_of_ble_eq_true rfl)) (fun s84 hs84 => ?_)
          obtain ⟨hf85, hc86, hc87, hc88, hc89, he90, he91⟩ := hs84
          have hF92 := Fr_tr (lo := 179) (hi := 191) hF76 hf85 (by omega)
          have hk93 : s84 (180) = σ (180) := hc86.trans hk77
          have hk94 : s84 (183) = σ (183) := hc89.trans hk78
          have hk95 : s84 (187) = σ (187) := (hf85 (187) (by omega)).trans hk80
          have hg96 : ∀ a, a ≠ 5 → a ≠ 7 → a ≠ 10 → ra_g s84 179 a = ra_g σ 179 a := fun a h5 h7 h10 => ((fun a h5 h7 h10 => he90 a h5) a h5 h7 h10).trans (hg81 a h5 h7 h10)
          refine ra_load rfl rfl rfl rfl ?_
          refine ra_load rfl rfl rfl rfl ?_
          refine ra_iconst rfl ?_
          refine ra_cTp (sp_200 hx0 (by first | omega | (unfold ra_in at *; omega)) (by first | assumption | rfl | omega)) rfl (ct_200 rfl lk_8_67 (Or.inl rfl) sh_179 (Nat.le_of_ble_eq_true rfl)) ?_
          rw [wq_k hk93]
          have hr98 : ra_in (wq σ x0 (2)) := (ra_in_wq _ _ _)
          refine ra_store (L' := [_, _, _, _]) rfl rfl rfl (Nat.le_of_ble_eq_true rfl) rfl ?_
          refine ra_load rfl rfl rfl rfl ?_
          refine ra_load rfl rfl rfl rfl ?_
          refine ra_load rfl rfl rfl rfl ?_
          refine ra_cV (sp_304 hx0 hx1 (by first | assumption | rfl | omega) (by simp only [wq_k hk93]; omega)) rfl (ct_304 rfl lk_8_375 (Or.inl rfl) sh_179 (Nat.le_of_ble_eq_true rfl)) (fun s99 hs99 => ?_)
          obtain ⟨hf100, he101⟩ := hs99
          have hF102 := Fr_tr (lo := 179) (hi := 191) hF92 hf100 (by omega)
          have hk103 : s99 (183) = σ (183) := (hf100 (183) (by omega)).trans hk94
          have hk104 : s99 (187) = σ (187) := (hf100 (187) (by omega)).trans hk95
          have hg105 : ∀ a, a ≠ 5 → a ≠ 7 → a ≠ 10 → ra_g s99 179 a = ra_g σ 179 a := fun a h5 h7 h10 => (ra_gk (hf100 179 (by omega))).trans (hg96 a h5 h7 h10)
          refine ra_load rfl rfl rfl rfl ?_
          exact ra_ireturn rfl rfl ⟨⟨_, hr98, rfl⟩, ⟨hF102, hk103, hk104, hg105, (WF_rsz (WF_k hk93 hw) ⟨by omega, by omega, by rw [wq_k hk93]; omega⟩ (by rw [ra_gk hk93]; exact hm1) he101 (szk_k hk93.symm hz)), (PW_k he91 (ra_gk (hf100 179 (by omega))) (hf100 184 (by omega)))⟩⟩
        · refine ra_iconst rfl ?_
          exact ra_ireturn rfl rfl ⟨⟨_, (by first | omega | (unfold ra_in at *; omega)), rfl⟩, ⟨hF76, hk78, hk80, hg81, (WF_k hk77 hw), (PW_k hpw (ho82 5 (by decide) (by decide)) hk79)⟩⟩
    · refine ra_iconst rfl ?_
      refine ra_goto rfl rfl ?_
      refine ra_iconst rfl ?_
      refine ra_cT (sp_194 (Or.inr rfl) (by first | omega | (unfold ra_in at *; omega))) rfl (ct_194 rfl lk_8_303 (Or.inl rfl) sh_179 (Nat.le_of_ble_eq_true rfl)) (fun s106 hs106 => ?_)
      obtain ⟨hf107, he108⟩ := hs106
      have hF109 := Fr_tr (lo := 179) (hi := 191) hF3 hf107 (by omega)
      have hk110 : s106 (180) = σ (180) := (hf107 (180) (by omega)).trans hk4
      have hk111 : s106 (183) = σ (183) := (hf107 (183) (by omega)).trans hk5
      have hk112 : s106 (184) = σ (184) := (hf107 (184) (by omega)).trans hk6
      have hk113 : s106 (187) = σ (187) := (hf107 (187) (by omega)).trans hk7
      have hg114 : ∀ a, a ≠ 5 → a ≠ 7 → a ≠ 10 → ra_g s106 179 a = ra_g σ 179 a := fun a h5 h7 h10 => ((fun a h7 h10 => he108 a h7) a h7 h10).trans (hg8 a h5 h7 h10)
      have ho115 : ∀ a, a ≠ 7 → a ≠ 10 → ra_g s106 179 a = ra_g σ 179 a := fun a h7 h10 => ((fun a h7 h10 => he108 a h7) a h7 h10).trans (ho9 a h7 h10)
      refine ra_ifne rfl rfl (by first | omega | (unfold ra_in at *; omega)) (fun h116 => ?_) (fun h116 => ?_)
      · refine ra_iconst rfl ?_
        exact ra_ireturn rfl rfl ⟨⟨_, (by first | omega | (unfold ra_in at *; omega)), rfl⟩, ⟨hF109, hk111, hk113, hg114, (WF_k hk110 hw), (PW_k hpw (ho115 5 (by decide) (by decide)) hk112)⟩⟩
      · exact absurd h116 (by decide)
theorem sp_306 {n : Nat} {f : Nat → Int32} {d : Nat} {x0 : Int} {σ : ra_V} (hx0 : ra_in x0) (hw : WF σ) (hpw : PW σ) : ra_C (g_Gs n f) g_sh 0 (d + 6) 306 [.index (179), ra_I x0] σ (fun r s => rI r ∧ Fr (179) (191) σ s ∧ s (183) = σ (183) ∧ s (187) = σ (187) ∧ (∀ a, a ≠ 5 → a ≠ 7 → a ≠ 10 → ra_g s 179 a = ra_g σ 179 a) ∧ WF s ∧ PW s) := by
  refine ra_enter (nn := 1) mt_306 rfl (Nat.le_of_ble_eq_true rfl) rfl (fun h => absurd h (by decide +kernel)) ?_
  have hw0 := WF_a hw
  unfold WFa at hw0
  refine ra_load rfl rfl rfl rfl ?_
  refine ra_iconst rfl ?_
  refine ra_putI rfl lk_8_51 (Nat.zero_le _) sh_179 rfl rfl ?_
  refine ra_newU (by first | omega | (unfold ra_in at *; omega)) (fun s1 hs1 hp2 hp2o => ?_)
  have hp2_99 := hp2o 99 (by decide)
  have hF3 := Fr_tr (lo := 179) (hi := 191) Fr_rf hs1 (by omega)
  have hk4 : s1 (180) = σ (180) := (hs1 (180) (by omega))
  have hk5 : s1 (183) = σ (183) := (hs1 (183) (by omega))
  have hk6 : s1 (184) = σ (184) := (hs1 (184) (by omega))
  have hk7 : s1 (187) = σ (187) := (hs1 (187) (by omega))
  have hg8 : ∀ a, a ≠ 5 → a ≠ 7 → a ≠ 10 → ra_g s1 179 a = ra_g σ 179 a := fun a h5 h7 h10 => ((fun a h7 h10 => hp2o a h7) a h7 h10).trans ((fun _ _ _ _ => rfl) a h5 h7 h10)
  have ho9 : ∀ a, a ≠ 7 → a ≠ 10 → ra_g s1 179 a = ra_g σ 179 a := fun a h7 h10 => ((fun a h7 h10 => hp2o a h7) a h7 h10).trans ((fun _ _ _ => rfl) a h7 h10)
  refine ra_load rfl rfl rfl rfl ?_
  refine ra_load rfl rfl rfl rfl ?_
  refine ra_cQPp (sp_202 hx0) rfl (ct_202 rfl lk_8_313 (Or.inl rfl) sh_179 (Nat.le_of_ble_eq_true rfl)) (fun z11 hz11 hz11p => ?_)
  rw [wq_k hk4] at hz11p
  refine ra_ifeq rfl rfl (ra_in01 hz11) (fun h12 => ?_) (fun h12 => ?_)
  · refine ra_iconst rfl ?_
    refine ra_store (L' := [_, _, _]) rfl rfl rfl (Nat.le_of_ble_eq_true rfl) rfl ?_
    refine ra_load rfl rfl rfl rfl ?_
    refine ra_load rfl rfl rfl rfl ?_
    refine ra_load rfl rfl rfl rfl ?_
    refine ra_cQPp (sp_202 hx0) rfl (ct_202 rfl lk_8_313 (Or.inl rfl) sh_179 (Nat.le_of_ble_eq_true rfl)) (fun z14 hz14 hz14p => ?_)
    rw [wq_k hk4] at hz14p
    refine ra_ifeq rfl rfl (ra_in01 hz14) (fun h15 => ?_) (fun h15 => ?_)
    · refine ra_iconst rfl ?_
      refine ra_iconst rfl ?_
      refine ra_cT (sp_194 (Or.inl rfl) (by first | omega | (unfold ra_in at *; omega))) rfl (ct_194 rfl lk_8_303 (Or.inl rfl) sh_179 (Nat.le_of_ble_eq_true rfl)) (fun s16 hs16 => ?_)
      obtain ⟨hf17, he18⟩ := hs16
      have hF19 := Fr_tr (lo := 179) (hi := 191) hF3 hf17 (by omega)
      have hk20 : s16 (180) = σ (180) := (hf17 (180) (by omega)).trans hk4
      have hk21 : s16 (183) = σ (183) := (hf17 (183) (by omega)).trans hk5
      have hk22 : s16 (184) = σ (184) := (hf17 (184) (by omega)).trans hk6
      have hk23 : s16 (187) = σ (187) := (hf17 (187) (by omega)).trans hk7
      have hg24 : ∀ a, a ≠ 5 → a ≠ 7 → a ≠ 10 → ra_g s16 179 a = ra_g σ 179 a := fun a h5 h7 h10 => ((fun a h7 h10 => he18 a h7) a h7 h10).trans (hg8 a h5 h7 h10)
      have ho25 : ∀ a, a ≠ 7 → a ≠ 10 → ra_g s16 179 a = ra_g σ 179 a := fun a h7 h10 => ((fun a h7 h10 => he18 a h7) a h7 h10).trans (ho9 a h7 h10)
      refine ra_ifne rfl rfl (by first | omega | (unfold ra_in at *; omega)) (fun h26 => ?_) (fun h26 => ?_)
      · exact absurd h26 (by decide)
      · refine ra_load rfl rfl rfl rfl ?_
        refine ra_load rfl rfl rfl rfl ?_
        refine ra_iconst rfl ?_
        refine ra_cQP (sp_268 hx0 (by first | omega | (unfold ra_in at *; omega))) rfl (ct_268 rfl lk_8_318 (Or.inl rfl) sh_179 (Nat.le_of_ble_eq_true rfl)) (fun z28 s27 hz28 hz28p hs27 => ?_)
        rw [wq_k hk20] at hz28p
        obtain ⟨hf29, he30⟩ := hs27
        have hF31 := Fr_tr (lo := 179) (hi := 191) hF19 hf29 (by omega)
        have hk32 : s27 (180) = σ (180) := (hf29 (180) (by omega)).trans hk20
        have hk33 : s27 (183) = σ (183) := (hf29 (183) (by omega)).trans hk21
        have hk34 : s27 (184) = σ (184) := (hf29 (184) (by omega)).trans hk22
        have hk35 : s27 (187) = σ (187) := (hf29 (187) (by omega)).trans hk23
        have hg36 : ∀ a, a ≠ 5 → a ≠ 7 → a ≠ 10 → ra_g s27 179 a = ra_g σ 179 a := fun a h5 h7 h10 => ((fun a h7 h10 => he30 a h7) a h7 h10).trans (hg24 a h5 h7 h10)
        have ho37 : ∀ a, a ≠ 7 → a ≠ 10 → ra_g s27 179 a = ra_g σ 179 a := fun a h7 h10 => ((fun a h7 h10 => he30 a h7) a h7 h10).trans (ho25 a h7 h10)
        refine ra_ifeq rfl rfl (ra_in01 hz28) (fun h38 => ?_) (fun h38 => ?_)
        · refine ra_load rfl rfl rfl rfl ?_
          have hp := hz28p (by omega)
          have hst := hz14p.mpr hp
          have hq := WF_p hw hp.1 hp.2.1 hp.2.2
          refine ra_cV (sp_197 (WF_k hk32 hw) (PW_k hpw (ho37 5 (by decide) (by decide)) hk34)) rfl (ct_197 rfl lk_8_366 (Or.inl rfl) sh_179 (Nat.le_of_ble_eq_true rfl)) (fun s39 hs39 => ?_)
          obtain ⟨hf40, hc41, hc42, hc43, hc44, he45, he46⟩ := hs39
          have hF47 := Fr_tr (lo := 179) (hi := 191) hF31 hf40 (by omega)
          have hk48 : s39 (180) = σ (180) := hc41.trans hk32
          have hk49 : s39 (183) = σ (183) := hc44.trans hk33
          have hk50 : s39 (187) = σ (187) := (hf40 (187) (by omega)).trans hk35
          have hg51 : ∀ a, a ≠ 5 → a ≠ 7 → a ≠ 10 → ra_g s39 179 a = ra_g σ 179 a := fun a h5 h7 h10 => ((fun a h5 h7 h10 => he45 a h5) a h5 h7 h10).trans (hg36 a h5 h7 h10)
          refine ra_load rfl rfl rfl rfl ?_
          refine ra_load rfl rfl rfl rfl ?_
          refine ra_load rfl rfl rfl rfl ?_
          refine ra_cV (sp_304 hx0 (by first | omega | (unfold ra_in at *; omega)) (by first | assumption | rfl | omega) (by simp only [wq_k hk48]; omega)) rfl (ct_304 rfl lk_8_375 (Or.inl rfl) sh_179 (Nat.le_of_ble_eq_true rfl)) (fun s52 hs52 => ?_)
          obtain ⟨hf53, he54⟩ := hs52
          have hF55 := Fr_tr (lo := 179) (hi := 191) hF47 hf53 (by omega)
          have hk56 : s52 (183) = σ (183) := (hf53 (183) (by omega)).trans hk49
          have hk57 : s52 (187) = σ (187) := (hf53 (187) (by omega)).trans hk50
          have hg58 : ∀ a, a ≠ 5 → a ≠ 7 → a ≠ 10 → ra_g s52 179 a = ra_g σ 179 a := fun a h5 h7 h10 => (ra_gk (hf53 179 (by omega))).trans (hg51 a h5 h7 h10)
          refine ra_load rfl rfl rfl rfl ?_
          exact ra_ireturn rfl rfl ⟨⟨_, (by first | omega | (unfold ra_in at *; omega)), rfl⟩, ⟨hF55, hk56, hk57, hg58, (by exfalso; omega), (PW_k he46 (ra_gk (hf53 179 (by omega))) (hf53 184 (by omega)))⟩⟩
        · refine ra_iconst rfl ?_
          exact ra_ireturn rfl rfl ⟨⟨_, (by first | omega | (unfold ra_in at *; omega)), rfl⟩, ⟨hF31, hk33, hk35, hg36, (WF_k hk32 hw), (PW_k hpw (ho37 5 (by decide) (by decide)) hk34)⟩⟩
    · refine ra_load rfl rfl rfl rfl ?_
      refine ra_load rfl rfl rfl rfl ?_
      refine ra_load rfl rfl rfl rfl ?_
      refine ra_cIPp (sp_302 hx0 (by first | omega | (unfold ra_in at *; omega)) (WF_k hk4 hw) (sp_k hk4 rfl (hz14p.mp (by omega)))) rfl (ct_302 rfl lk_8_372 (Or.inl rfl) sh_179 (Nat.le_of_ble_eq_true rfl)) (fun z60 hz60 hz60p => ?_)
      refine ra_ifeq rfl rfl hz60 (fun h61 => ?_) (fun h61 => ?_)
      · refine ra_iconst rfl ?_
        refine ra_iconst rfl ?_
        refine ra_cT (sp_194 (Or.inl rfl) (by first | omega | (unfold ra_in at *; omega))) rfl (ct_194 rfl lk_8_303 (Or.inl rfl) sh_179 (Nat.le_of_ble_eq_true rfl)) (fun s62 hs62 => ?_)
        obtain ⟨hf63, he64⟩ := hs62
        have hF65 := Fr_tr (lo := 179) (hi := 191) hF3 hf63 (by omega)
        have hk66 : s62 (180) = σ (180) := (hf63 (180) (by omega)).trans hk4
        have hk67 : s62 (183) = σ (183) := (hf63 (183) (by omega)).trans hk5
        have hk68 : s62 (184) = σ (184) := (hf63 (184) (by omega)).trans hk6
        have hk69 : s62 (187) = σ (187) := (hf63 (187) (by omega)).trans hk7
        have hg70 : ∀ a, a ≠ 5 → a ≠ 7 → a ≠ 10 → ra_g s62 179 a = ra_g σ 179 a := fun a h5 h7 h10 => ((fun a h7 h10 => he64 a h7) a h7 h10).trans (hg8 a h5 h7 h10)
        have ho71 : ∀ a, a ≠ 7 → a ≠ 10 → ra_g s62 179 a = ra_g σ 179 a := fun a h7 h10 => ((fun a h7 h10 => he64 a h7) a h7 h10).trans (ho9 a h7 h10)
        refine ra_ifne rfl rfl (by first | omega | (unfold ra_in at *; omega)) (fun h72 => ?_) (fun h72 => ?_)
        · exact absurd h72 (by decide)
        · refine ra_load rfl rfl rfl rfl ?_
          refine ra_load rfl rfl rfl rfl ?_
          refine ra_iconst rfl ?_
          refine ra_cQP (sp_268 hx0 (by first | omega | (unfold ra_in at *; omega))) rfl (ct_268 rfl lk_8_318 (Or.inl rfl) sh_179 (Nat.le_of_ble_eq_true rfl)) (fun z74 s73 hz74 hz74p hs73 => ?_)
          rw [wq_k hk66] at hz74p
          obtain ⟨hf75, he76⟩ := hs73
          have hF77 := Fr_tr (lo := 179) (hi := 191) hF65 hf75 (by omega)
          have hk78 : s73 (180) = σ (180) := (hf75 (180) (by omega)).trans hk66
          have hk79 : s73 (183) = σ (183) := (hf75 (183) (by omega)).trans hk67
          have hk80 : s73 (184) = σ (184) := (hf75 (184) (by omega)).trans hk68
          have hk81 : s73 (187) = σ (187) := (hf75 (187) (by omega)).trans hk69
          have hg82 : ∀ a, a ≠ 5 → a ≠ 7 → a ≠ 10 → ra_g s73 179 a = ra_g σ 179 a := fun a h5 h7 h10 => ((fun a h7 h10 => he76 a h7) a h7 h10).trans (hg70 a h5 h7 h10)
          have ho83 : ∀ a, a ≠ 7 → a ≠ 10 → ra_g s73 179 a = ra_g σ 179 a := fun a h7 h10 => ((fun a h7 h10 => he76 a h7) a h7 h10).trans (ho71 a h7 h10)
          refine ra_ifeq rfl rfl (ra_in01 hz74) (fun h84 => ?_) (fun h84 => ?_)
          · refine ra_load rfl rfl rfl rfl ?_
            have hp := hz74p (by omega)
            have hst := hz14p.mpr hp
            have hq := WF_p hw hp.1 hp.2.1 hp.2.2
            have hz0 := hz60p (by omega)
            have hz := szk_k hk4 hz0.2.2
            have hm1 := hz0.2.1
            rw [ra_gk hk4] at hm1
            have hz1 := hz.2.1
            unfold US at hz1
            refine ra_cV (sp_197 (WF_k hk78 hw) (PW_k hpw (ho83 5 (by decide) (by decide)) hk80)) rfl (ct_197 rfl lk_8_366 (Or.inl rfl) sh_179 (Nat.le_of_ble_eq_true rfl)) (fun s85 hs85 => ?_)
            obtain ⟨hf86, hc87, hc88, hc89, hc90, he91, he92⟩ := hs85
            have hF93 := Fr_tr (lo := 179) (hi := 191) hF77 hf86 (by omega)
            have hk94 : s85 (180) = σ (180) := hc87.trans hk78
            have hk95 : s85 (183) = σ (183) := hc90.trans hk79
            have hk96 : s85 (187) = σ (187) := (hf86 (187) (by omega)).trans hk81
            have hg97 : ∀ a, a ≠ 5 → a ≠ 7 → a ≠ 10 → ra_g s85 179 a = ra_g σ 179 a := fun a h5 h7 h10 => ((fun a h5 h7 h10 => he91 a h5) a h5 h7 h10).trans (hg82 a h5 h7 h10)
            refine ra_load rfl rfl rfl rfl ?_
            refine ra_load rfl rfl rfl rfl ?_
            refine ra_load rfl rfl rfl rfl ?_
            refine ra_cV (sp_304 hx0 (by first | omega | (unfold ra_in at *; omega)) (by first | assumption | rfl | omega) (by simp only [wq_k hk94]; omega)) rfl (ct_304 rfl lk_8_375 (Or.inl rfl) sh_179 (Nat.le_of_ble_eq_true rfl)) (fun s98 hs98 => ?_)
            obtain ⟨hf99, he100⟩ := hs98
            have hF101 := Fr_tr (lo := 179) (hi := 191) hF93 hf99 (by omega)
            have hk102 : s98 (183) = σ (183) := (hf99 (183) (by omega)).trans hk95
            have hk103 : s98 (187) = σ (187) := (hf99 (187) (by omega)).trans hk96
            have hg104 : ∀ a, a ≠ 5 → a ≠ 7 → a ≠ 10 → ra_g s98 179 a = ra_g σ 179 a := fun a h5 h7 h10 => (ra_gk (hf99 179 (by omega))).trans (hg97 a h5 h7 h10)
            refine ra_load rfl rfl rfl rfl ?_
            exact ra_ireturn rfl rfl ⟨⟨_, (by first | omega | (unfold ra_in at *; omega)), rfl⟩, ⟨hF101, hk102, hk103, hg104, (WF_rsz (WF_k hk94 hw) ⟨by omega, by omega, by rw [wq_k hk94]; omega⟩ (by rw [ra_gk hk94]; exact hm1) he100 (szk_k hk94.symm hz)), (PW_k he92 (ra_gk (hf99 179 (by omega))) (hf99 184 (by omega)))⟩⟩
          · refine ra_iconst rfl ?_
            exact ra_ireturn rfl rfl ⟨⟨_, (by first | omega | (unfold ra_in at *; omega)), rfl⟩, ⟨hF77, hk79, hk81, hg82, (WF_k hk78 hw), (PW_k hpw (ho83 5 (by decide) (by decide)) hk80)⟩⟩
      · refine ra_iconst rfl ?_
        refine ra_goto rfl rfl ?_
        refine ra_iconst rfl ?_
        refine ra_cT (sp_194 (Or.inr rfl) (by first | omega | (unfold ra_in at *; omega))) rfl (ct_194 rfl lk_8_303 (Or.inl rfl) sh_179 (Nat.le_of_ble_eq_true rfl)) (fun s105 hs105 => ?_)
        obtain ⟨hf106, he107⟩ := hs105
        have hF108 := Fr_tr (lo := 179) (hi := 191) hF3 hf106 (by omega)
        have hk109 : s105 (180) = σ (180) := (hf106 (180) (by omega)).trans hk4
        have hk110 : s105 (183) = σ (183) := (hf106 (183) (by omega)).trans hk5
        have hk111 : s105 (184) = σ (184) := (hf106 (184) (by omega)).trans hk6
        have hk112 : s105 (187) = σ (187) := (hf106 (187) (by omega)).trans hk7
        have hg113 : ∀ a, a ≠ 5 → a ≠ 7 → a ≠ 10 → ra_g s105 179 a = ra_g σ 179 a := fun a h5 h7 h10 => ((fun a h7 h10 => he107 a h7) a h7 h10).trans (hg8 a h5 h7 h10)
        have ho114 : ∀ a, a ≠ 7 → a ≠ 10 → ra_g s105 179 a = ra_g σ 179 a := fun a h7 h10 => ((fun a h7 h10 => he107 a h7) a h7 h10).trans (ho9 a h7 h10)
        refine ra_ifne rfl rfl (by first | omega | (unfold ra_in at *; omega)) (fun h115 => ?_) (fun h115 => ?_)
        · refine ra_iconst rfl ?_
          exact ra_ireturn rfl rfl ⟨⟨_, (by first | omega | (unfold ra_in at *; omega)), rfl⟩, ⟨hF108, hk110, hk112, hg113, (WF_k hk109 hw), (PW_k hpw (ho114 5 (by decide) (by decide)) hk111)⟩⟩
        · exact absurd h115 (by decide)
  · refine ra_load rfl rfl rfl rfl ?_
    refine ra_load rfl rfl rfl rfl ?_
    refine ra_iconst rfl ?_
    refine ra_cTp (sp_200 hx0 (by first | omega | (unfold ra_in at *; omega)) (by first | assumption | rfl | omega)) rfl (ct_200 rfl lk_8_67 (Or.inl rfl) sh_179 (Nat.le_of_ble_eq_true rfl)) ?_
    rw [wq_k hk4]
    have hr117 : ra_in (wq σ x0 (2)) := (ra_in_wq _ _ _)
    refine ra_load rfl rfl rfl rfl ?_
    refine ra_getR rfl lk_8_7 (Nat.zero_le _) sh_179 rfl ?_
    refine ra_iconst rfl ?_
    refine ra_ialoadJ (j := 3) rfl sh_180 rfl (by decide) rfl (by decide) ?_
    rw [ra_gk hk4]
    have hr118 : ra_in (ra_g σ (180) 3) := (ra_in_g _ _ _)
    have hp := hz11p.mp (by omega)
    have hq := WF_p hw hp.1 hp.2.1 hp.2.2
    have e1 : wq s1 x0 2 = wq σ x0 2 := wq_k hk4
    have e2 : ra_g s1 180 3 = ra_g σ 180 3 := ra_gk hk4
    refine ra_cTp (sp_207 hr117 hr118 (by first | assumption | rfl | omega)) rfl (ct_207 rfl lk_8_120 (Or.inl rfl) (Nat.le_of_ble_eq_true rfl)) ?_
    have hr120 : ra_in (((wq s1 x0 (2)) + (ra_g s1 (180) 3) - 1).tdiv (ra_g s1 (180) 3)) := (ra_in_tdiv (by unfold ra_in; omega) (by omega))
    refine ra_load rfl rfl rfl rfl ?_
    refine ra_getR rfl lk_8_7 (Nat.zero_le _) sh_179 rfl ?_
    refine ra_iconst rfl ?_
    refine ra_ialoadJ (j := 3) rfl sh_180 rfl (by decide) rfl (by decide) ?_
    rw [ra_gk hk4]
    have hr121 : ra_in (ra_g σ (180) 3) := (ra_in_g _ _ _)
    refine ra_imul rfl ?_
    refine ra_gen (fun z122 hz122 => ?_)
    refine ra_goto rfl rfl ?_
    refine ra_store (L' := [_, _, _]) rfl rfl rfl (Nat.le_of_ble_eq_true rfl) rfl ?_
    refine ra_load rfl rfl rfl rfl ?_
    refine ra_load rfl rfl rfl rfl ?_
    refine ra_load rfl rfl rfl rfl ?_
    refine ra_cQPp (sp_202 hx0) rfl (ct_202 rfl lk_8_313 (Or.inl rfl) sh_179 (Nat.le_of_ble_eq_true rfl)) (fun z124 hz124 hz124p => ?_)
    rw [wq_k hk4] at hz124p
    refine ra_ifeq rfl rfl (ra_in01 hz124) (fun h125 => ?_) (fun h125 => ?_)
    · refine ra_iconst rfl ?_
      refine ra_iconst rfl ?_
      refine ra_cT (sp_194 (Or.inl rfl) (by first | omega | (unfold ra_in at *; omega))) rfl (ct_194 rfl lk_8_303 (Or.inl rfl) sh_179 (Nat.le_of_ble_eq_true rfl)) (fun s126 hs126 => ?_)
      obtain ⟨hf127, he128⟩ := hs126
      have hF129 := Fr_tr (lo := 179) (hi := 191) hF3 hf127 (by omega)
      have hk130 : s126 (180) = σ (180) := (hf127 (180) (by omega)).trans hk4
      have hk131 : s126 (183) = σ (183) := (hf127 (183) (by omega)).trans hk5
      have hk132 : s126 (184) = σ (184) := (hf127 (184) (by omega)).trans hk6
      have hk133 : s126 (187) = σ (187) := (hf127 (187) (by omega)).trans hk7
      have hg134 : ∀ a, a ≠ 5 → a ≠ 7 → a ≠ 10 → ra_g s126 179 a = ra_g σ 179 a := fun a h5 h7 h10 => ((fun a h7 h10 => he128 a h7) a h7 h10).trans (hg8 a h5 h7 h10)
      have ho135 : ∀ a, a ≠ 7 → a ≠ 10 → ra_g s126 179 a = ra_g σ 179 a := fun a h7 h10 => ((fun a h7 h10 => he128 a h7) a h7 h10).trans (ho9 a h7 h10)
      refine ra_ifne rfl rfl (by first | omega | (unfold ra_in at *; omega)) (fun h136 => ?_) (fun h136 => ?_)
      · exact absurd h136 (by decide)
      · refine ra_load rfl rfl rfl rfl ?_
        refine ra_load rfl rfl rfl rfl ?_
        refine ra_iconst rfl ?_
        refine ra_cQP (sp_268 hx0 (by first | omega | (unfold ra_in at *; omega))) rfl (ct_268 rfl lk_8_318 (Or.inl rfl) sh_179 (Nat.le_of_ble_eq_true rfl)) (fun z138 s137 hz138 hz138p hs137 => ?_)
        rw [wq_k hk130] at hz138p
        obtain ⟨hf139, he140⟩ := hs137
        have hF141 := Fr_tr (lo := 179) (hi := 191) hF129 hf139 (by omega)
        have hk142 : s137 (180) = σ (180) := (hf139 (180) (by omega)).trans hk130
        have hk143 : s137 (183) = σ (183) := (hf139 (183) (by omega)).trans hk131
        have hk144 : s137 (184) = σ (184) := (hf139 (184) (by omega)).trans hk132
        have hk145 : s137 (187) = σ (187) := (hf139 (187) (by omega)).trans hk133
        have hg146 : ∀ a, a ≠ 5 → a ≠ 7 → a ≠ 10 → ra_g s137 179 a = ra_g σ 179 a := fun a h5 h7 h10 => ((fun a h7 h10 => he140 a h7) a h7 h10).trans (hg134 a h5 h7 h10)
        have ho147 : ∀ a, a ≠ 7 → a ≠ 10 → ra_g s137 179 a = ra_g σ 179 a := fun a h7 h10 => ((fun a h7 h10 => he140 a h7) a h7 h10).trans (ho135 a h7 h10)
        refine ra_ifeq rfl rfl (ra_in01 hz138) (fun h148 => ?_) (fun h148 => ?_)
        · refine ra_load rfl rfl rfl rfl ?_
          have hp := hz138p (by omega)
          have hst := hz124p.mpr hp
          have hq := WF_p hw hp.1 hp.2.1 hp.2.2
          refine ra_cV (sp_197 (WF_k hk142 hw) (PW_k hpw (ho147 5 (by decide) (by decide)) hk144)) rfl (ct_197 rfl lk_8_366 (Or.inl rfl) sh_179 (Nat.le_of_ble_eq_true rfl)) (fun s149 hs149 => ?_)
          obtain ⟨hf150, hc151, hc152, hc153, hc154, he155, he156⟩ := hs149
          have hF157 := Fr_tr (lo := 179) (hi := 191) hF141 hf150 (by omega)
          have hk158 : s149 (180) = σ (180) := hc151.trans hk142
          have hk159 : s149 (183) = σ (183) := hc154.trans hk143
          have hk160 : s149 (187) = σ (187) := (hf150 (187) (by omega)).trans hk145
          have hg161 : ∀ a, a ≠ 5 → a ≠ 7 → a ≠ 10 → ra_g s149 179 a = ra_g σ 179 a := fun a h5 h7 h10 => ((fun a h5 h7 h10 => he155 a h5) a h5 h7 h10).trans (hg146 a h5 h7 h10)
          refine ra_load rfl rfl rfl rfl ?_
          refine ra_load rfl rfl rfl rfl ?_
          refine ra_load rfl rfl rfl rfl ?_
          refine ra_cV (sp_304 hx0 hz122 (by first | assumption | rfl | omega) (by simp only [wq_k hk158]; omega)) rfl (ct_304 rfl lk_8_375 (Or.inl rfl) sh_179 (Nat.le_of_ble_eq_true rfl)) (fun s162 hs162 => ?_)
          obtain ⟨hf163, he164⟩ := hs162
          have hF165 := Fr_tr (lo := 179) (hi := 191) hF157 hf163 (by omega)
          have hk166 : s162 (183) = σ (183) := (hf163 (183) (by omega)).trans hk159
          have hk167 : s162 (187) = σ (187) := (hf163 (187) (by omega)).trans hk160
          have hg168 : ∀ a, a ≠ 5 → a ≠ 7 → a ≠ 10 → ra_g s162 179 a = ra_g σ 179 a := fun a h5 h7 h10 => (ra_gk (hf163 179 (by omega))).trans (hg161 a h5 h7 h10)
          refine ra_load rfl rfl rfl rfl ?_
          exact ra_ireturn rfl rfl ⟨⟨_, hz122, rfl⟩, ⟨hF165, hk166, hk167, hg168, (by exfalso; omega), (PW_k he156 (ra_gk (hf163 179 (by omega))) (hf163 184 (by omega)))⟩⟩
        · refine ra_iconst rfl ?_
          exact ra_ireturn rfl rfl ⟨⟨_, (by first | omega | (unfold ra_in at *; omega)), rfl⟩, ⟨hF141, hk143, hk145, hg146, (WF_k hk142 hw), (PW_k hpw (ho147 5 (by decide) (by decide)) hk144)⟩⟩
    · refine ra_load rfl rfl rfl rfl ?_
      refine ra_load rfl rfl rfl rfl ?_
      refine ra_load rfl rfl rfl rfl ?_
      refine ra_cIPp (sp_302 hx0 hz122 (WF_k hk4 hw) (sp_k hk4 rfl (hz124p.mp (by omega)))) rfl (ct_302 rfl lk_8_372 (Or.inl rfl) sh_179 (Nat.le_of_ble_eq_true rfl)) (fun z170 hz170 hz170p => ?_)
      refine ra_ifeq rfl rfl hz170 (fun h171 => ?_) (fun h171 => ?_)
      · refine ra_iconst rfl ?_
        refine ra_iconst rfl ?_
        refine ra_cT (sp_194 (Or.inl rfl) (by first | omega | (unfold ra_in at *; omega))) rfl (ct_194 rfl lk_8_303 (Or.inl rfl) sh_179 (Nat.le_of_ble_eq_true rfl)) (fun s172 hs172 => ?_)
        obtain ⟨hf173, he174⟩ := hs172
        have hF175 := Fr_tr (lo := 179) (hi := 191) hF3 hf173 (by omega)
        have hk176 : s172 (180) = σ (180) := (hf173 (180) (by omega)).trans hk4
        have hk177 : s172 (183) = σ (183) := (hf173 (183) (by omega)).trans hk5
        have hk178 : s172 (184) = σ (184) := (hf173 (184) (by omega)).trans hk6
        have hk179 : s172 (187) = σ (187) := (hf173 (187) (by omega)).trans hk7
        have hg180 : ∀ a, a ≠ 5 → a ≠ 7 → a ≠ 10 → ra_g s172 179 a = ra_g σ 179 a := fun a h5 h7 h10 => ((fun a h7 h10 => he174 a h7) a h7 h10).trans (hg8 a h5 h7 h10)
        have ho181 : ∀ a, a ≠ 7 → a ≠ 10 → ra_g s172 179 a = ra_g σ 179 a := fun a h7 h10 => ((fun a h7 h10 => he174 a h7) a h7 h10).trans (ho9 a h7 h10)
        refine ra_ifne rfl rfl (by first | omega | (unfold ra_in at *; omega)) (fun h182 => ?_) (fun h182 => ?_)
        · exact absurd h182 (by decide)
        · refine ra_load rfl rfl rfl rfl ?_
          refine ra_load rfl rfl rfl rfl ?_
          refine ra_iconst rfl ?_
          refine ra_cQP (sp_268 hx0 (by first | omega | (unfold ra_in at *; omega))) rfl (ct_268 rfl lk_8_318 (Or.inl rfl) sh_179 (Nat.le_of_ble_eq_true rfl)) (fun z184 s183 hz184 hz184p hs183 => ?_)
          rw [wq_k hk176] at hz184p
          obtain ⟨hf185, he186⟩ := hs183
          have hF187 := Fr_tr (lo := 179) (hi := 191) hF175 hf185 (by omega)
          have hk188 : s183 (180) = σ (180) := (hf185 (180) (by omega)).trans hk176
          have hk189 : s183 (183) = σ (183) := (hf185 (183) (by omega)).trans hk177
          have hk190 : s183 (184) = σ (184) := (hf185 (184) (by omega)).trans hk178
          have hk191 : s183 (187) = σ (187) := (hf185 (187) (by omega)).trans hk179
          have hg192 : ∀ a, a ≠ 5 → a ≠ 7 → a ≠ 10 → ra_g s183 179 a = ra_g σ 179 a := fun a h5 h7 h10 => ((fun a h7 h10 => he186 a h7) a h7 h10).trans (hg180 a h5 h7 h10)
          have ho193 : ∀ a, a ≠ 7 → a ≠ 10 → ra_g s183 179 a = ra_g σ 179 a := fun a h7 h10 => ((fun a h7 h10 => he186 a h7) a h7 h10).trans (ho181 a h7 h10)
          refine ra_ifeq rfl rfl (ra_in01 hz184) (fun h194 => ?_) (fun h194 => ?_)
          · refine ra_load rfl rfl rfl rfl ?_
            have hp := hz184p (by omega)
            have hst := hz124p.mpr hp
            have hq := WF_p hw hp.1 hp.2.1 hp.2.2
            have hz0 := hz170p (by omega)
            have hz := szk_k hk4 hz0.2.2
            have hm1 := hz0.2.1
            rw [ra_gk hk4] at hm1
            have hz1 := hz.2.1
            unfold US at hz1
            refine ra_cV (sp_197 (WF_k hk188 hw) (PW_k hpw (ho193 5 (by decide) (by decide)) hk190)) rfl (ct_197 rfl lk_8_366 (Or.inl rfl) sh_179 (Nat.le_of_ble_eq_true rfl)) (fun s195 hs195 => ?_)
            obtain ⟨hf196, hc197, hc198, hc199, hc200, he201, he202⟩ := hs195
            have hF203 := Fr_tr (lo := 179) (hi := 191) hF187 hf196 (by omega)
            have hk204 : s195 (180) = σ (180) := hc197.trans hk188
            have hk205 : s195 (183) = σ (183) := hc200.trans hk189
            have hk206 : s195 (187) = σ (187) := (hf196 (187) (by omega)).trans hk191
            have hg207 : ∀ a, a ≠ 5 → a ≠ 7 → a ≠ 10 → ra_g s195 179 a = ra_g σ 179 a := fun a h5 h7 h10 => ((fun a h5 h7 h10 => he201 a h5) a h5 h7 h10).trans (hg192 a h5 h7 h10)
            refine ra_load rfl rfl rfl rfl ?_
            refine ra_load rfl rfl rfl rfl ?_
            refine ra_load rfl rfl rfl rfl ?_
            refine ra_cV (sp_304 hx0 hz122 (by first | assumption | rfl | omega) (by simp only [wq_k hk204]; omega)) rfl (ct_304 rfl lk_8_375 (Or.inl rfl) sh_179 (Nat.le_of_ble_eq_true rfl)) (fun s208 hs208 => ?_)
            obtain ⟨hf209, he210⟩ := hs208
            have hF211 := Fr_tr (lo := 179) (hi := 191) hF203 hf209 (by omega)
            have hk212 : s208 (183) = σ (183) := (hf209 (183) (by omega)).trans hk205
            have hk213 : s208 (187) = σ (187) := (hf209 (187) (by omega)).trans hk206
            have hg214 : ∀ a, a ≠ 5 → a ≠ 7 → a ≠ 10 → ra_g s208 179 a = ra_g σ 179 a := fun a h5 h7 h10 => (ra_gk (hf209 179 (by omega))).trans (hg207 a h5 h7 h10)
            refine ra_load rfl rfl rfl rfl ?_
            exact ra_ireturn rfl rfl ⟨⟨_, hz122, rfl⟩, ⟨hF211, hk212, hk213, hg214, (WF_rsz (WF_k hk204 hw) ⟨by omega, by omega, by rw [wq_k hk204]; omega⟩ (by rw [ra_gk hk204]; exact hm1) he210 (szk_k hk204.symm hz)), (PW_k he202 (ra_gk (hf209 179 (by omega))) (hf209 184 (by omega)))⟩⟩
          · refine ra_iconst rfl ?_
            exact ra_ireturn rfl rfl ⟨⟨_, (by first | omega | (unfold ra_in at *; omega)), rfl⟩, ⟨hF187, hk189, hk191, hg192, (WF_k hk188 hw), (PW_k hpw (ho193 5 (by decide) (by decide)) hk190)⟩⟩
      · refine ra_iconst rfl ?_
        refine ra_goto rfl rfl ?_
        refine ra_iconst rfl ?_
        refine ra_cT (sp_194 (Or.inr rfl) (by first | omega | (unfold ra_in at *; omega))) rfl (ct_194 rfl lk_8_303 (Or.inl rfl) sh_179 (Nat.le_of_ble_eq_true rfl)) (fun s215 hs215 => ?_)
        obtain ⟨hf216, he217⟩ := hs215
        have hF218 := Fr_tr (lo := 179) (hi := 191) hF3 hf216 (by omega)
        have hk219 : s215 (180) = σ (180) := (hf216 (180) (by omega)).trans hk4
        have hk220 : s215 (183) = σ (183) := (hf216 (183) (by omega)).trans hk5
        have hk221 : s215 (184) = σ (184) := (hf216 (184) (by omega)).trans hk6
        have hk222 : s215 (187) = σ (187) := (hf216 (187) (by omega)).trans hk7
        have hg223 : ∀ a, a ≠ 5 → a ≠ 7 → a ≠ 10 → ra_g s215 179 a = ra_g σ 179 a := fun a h5 h7 h10 => ((fun a h7 h10 => he217 a h7) a h7 h10).trans (hg8 a h5 h7 h10)
        have ho224 : ∀ a, a ≠ 7 → a ≠ 10 → ra_g s215 179 a = ra_g σ 179 a := fun a h7 h10 => ((fun a h7 h10 => he217 a h7) a h7 h10).trans (ho9 a h7 h10)
        refine ra_ifne rfl rfl (by first | omega | (unfold ra_in at *; omega)) (fun h225 => ?_) (fun h225 => ?_)
        · refine ra_iconst rfl ?_
          exact ra_ireturn rfl rfl ⟨⟨_, (by first | omega | (unfold ra_in at *; omega)), rfl⟩, ⟨hF218, hk220, hk222, hg223, (WF_k hk219 hw), (PW_k hpw (ho224 5 (by decide) (by decide)) hk221)⟩⟩
        · exact absurd h225 (by decide)
theorem lp_308_23 {n : Nat} {f : Nat → Int32} {d : Nat} {x0 : Int} {σ : ra_V} (hx0 : ra_in x0) (hw : WF σ) : ∀ (nn : Nat) (v2 : Int) (s : ra_V) (hv2_0 : wq σ x0 2 ≤ v2) (hv2_1 : v2 ≤ 600) (hF : Fr (179) (187) σ s) (hk0 : s (180) = σ (180)) (hk1 : s (181) = σ (181)) (hk2 : s (182) = σ (182)) (hk3 : s (183) = σ (183)) (hk4 : s (184) = σ (184)) (hoo : ∀ a, a ≠ 7 → a ≠ 10 → ra_g s 179 a = ra_g σ 179 a) (hp : 0 ≤ x0 ∧ x0 < 8 ∧ wq σ x0 0 = 1) (hm : ((v2 - wq σ x0 2 + 1 : Int)).toNat < nn), ra_P (g_Gs n f) g_sh 0 (d + 4) g_m_X8_growsTo 23 [some (.index (179)), some (ra_I x0), some (ra_I v2)] [] s (fun r s => rI r ∧ Fr (179) (187) σ s ∧ s (180) = σ (180) ∧ s (181) = σ (181) ∧ s (182) = σ (182) ∧ s (183) = σ (183) ∧ s (184) = σ (184) ∧ (∀ a, a ≠ 7 → a ≠ 10 → ra_g s 179 a = ra_g σ 179 a)) := by
  intro nn
  induction nn with
  | zero => intro v2 s hv2_0 hv2_1 hF hk0 hk1 hk2 hk3 hk4 hoo hp hm; exact absurd hm (Nat.not_lt_zero _)
  | succ nn ih =>
    intro v2 s hv2_0 hv2_1 hF hk0 hk1 hk2 hk3 hk4 hoo hp hm
    have hw0 := WF_a hw
    unfold WFa at hw0
    have hq := WF_p hw hp.1 hp.2.1 hp.2.2
    refine ra_load rfl rfl rfl rfl ?_
    refine ra_load rfl rfl rfl rfl ?_
    refine ra_load rfl rfl rfl rfl ?_
    refine ra_cIPp (sp_301 hx0 (by first | omega | (unfold ra_in at *; omega)) (WF_k hk0 hw) (by first | assumption | (rw [wq_k hk0]; omega))) rfl (ct_301 rfl lk_8_369 (Or.inl rfl) sh_179 (Nat.le_of_ble_eq_true rfl)) (fun z24 hz24 hz24p => ?_)
    have hj := hz24p.2
    rw [wq_k hk0] at hj
    refine ra_ifeq rfl rfl hz24 (fun h25 => ?_) (fun h25 => ?_)
    · refine ra_load rfl rfl rfl rfl ?_
      exact ra_ireturn rfl rfl ⟨⟨_, (by first | omega | (unfold ra_in at *; omega)), rfl⟩, ⟨hF, hk0, hk1, hk2, hk3, hk4, hoo⟩⟩
    · refine ra_iinc (L' := [_, _, _]) rfl rfl (Nat.le_of_ble_eq_true rfl) rfl ?_
      refine ra_goto rfl rfl ?_
      exact ra_weak (by repeat' constructor) (ih (v2 + (-1)) s (by first | omega | (unfold ra_in at *; omega)) (by first | omega | (unfold ra_in at *; omega)) hF hk0 hk1 hk2 hk3 hk4 hoo hp (by first | omega | (unfold ra_in at *; omega)))
theorem sp_308 {n : Nat} {f : Nat → Int32} {d : Nat} {x0 : Int} {σ : ra_V} (hx0 : ra_in x0) (hw : WF σ) : ra_C (g_Gs n f) g_sh 0 (d + 5) 308 [.index (179), ra_I x0] σ (fun r s => rI r ∧ Fr (179) (187) σ s ∧ s (180) = σ (180) ∧ s (181) = σ (181) ∧ s (182) = σ (182) ∧ s (183) = σ (183) ∧ s (184) = σ (184) ∧ (∀ a, a ≠ 7 → a ≠ 10 → ra_g s 179 a = ra_g σ 179 a)) := by
  refine ra_enter (nn := 1) mt_308 rfl (Nat.le_of_ble_eq_true rfl) rfl (fun h => absurd h (by decide +kernel)) ?_
  have hw0 := WF_a hw
  unfold WFa at hw0
  refine ra_load rfl rfl rfl rfl ?_
  refine ra_iconst rfl ?_
  refine ra_putI rfl lk_8_51 (Nat.zero_le _) sh_179 rfl rfl ?_
  refine ra_newU (by first | omega | (unfold ra_in at *; omega)) (fun s1 hs1 hp2 hp2o => ?_)
  have hp2_99 := hp2o 99 (by decide)
  have hF3 := Fr_tr (lo := 179) (hi := 187) Fr_rf hs1 (by omega)
  have hk4 : s1 (180) = σ (180) := (hs1 (180) (by omega))
  have hk5 : s1 (181) = σ (181) := (hs1 (181) (by omega))
  have hk6 : s1 (182) = σ (182) := (hs1 (182) (by omega))
  have hk7 : s1 (183) = σ (183) := (hs1 (183) (by omega))
  have hk8 : s1 (184) = σ (184) := (hs1 (184) (by omega))
  have ho9 : ∀ a, a ≠ 7 → a ≠ 10 → ra_g s1 179 a = ra_g σ 179 a := fun a h7 h10 => ((fun a h7 h10 => hp2o a h7) a h7 h10).trans ((fun _ _ _ => rfl) a h7 h10)
  refine ra_load rfl rfl rfl rfl ?_
  refine ra_load rfl rfl rfl rfl ?_
  refine ra_iconst rfl ?_
  refine ra_cQP (sp_268 hx0 (by first | omega | (unfold ra_in at *; omega))) rfl (ct_268 rfl lk_8_318 (Or.inl rfl) sh_179 (Nat.le_of_ble_eq_true rfl)) (fun z11 s10 hz11 hz11p hs10 => ?_)
  rw [wq_k hk4] at hz11p
  obtain ⟨hf12, he13⟩ := hs10
  have hF14 := Fr_tr (lo := 179) (hi := 187) hF3 hf12 (by omega)
  have hk15 : s10 (180) = σ (180) := (hf12 (180) (by omega)).trans hk4
  have hk16 : s10 (181) = σ (181) := (hf12 (181) (by omega)).trans hk5
  have hk17 : s10 (182) = σ (182) := (hf12 (182) (by omega)).trans hk6
  have hk18 : s10 (183) = σ (183) := (hf12 (183) (by omega)).trans hk7
  have hk19 : s10 (184) = σ (184) := (hf12 (184) (by omega)).trans hk8
  have ho20 : ∀ a, a ≠ 7 → a ≠ 10 → ra_g s10 179 a = ra_g σ 179 a := fun a h7 h10 => ((fun a h7 h10 => he13 a h7) a h7 h10).trans (ho9 a h7 h10)
  refine ra_ifeq rfl rfl (ra_in01 hz11) (fun h21 => ?_) (fun h21 => ?_)
  · refine ra_load rfl rfl rfl rfl ?_
    refine ra_getR rfl lk_8_7 (Nat.zero_le _) sh_179 rfl ?_
    refine ra_iconst rfl ?_
    refine ra_ialoadJ (j := 0) rfl sh_180 rfl (by decide) rfl (by decide) ?_
    rw [ra_gk hk15]
    have hr22 : ra_in (ra_g σ (180) 0) := (ra_in_g _ _ _)
    have hp := hz11p (by omega)
    have hq := WF_p hw hp.1 hp.2.1 hp.2.2
    refine ra_store (L' := [_, _, _]) rfl rfl rfl (Nat.le_of_ble_eq_true rfl) rfl ?_
    exact ra_weak (by repeat' constructor) (lp_308_23 hx0 hw _ (ra_g σ (180) 0) s10 (by first | omega | (unfold ra_in at *; omega)) (by first | omega | (unfold ra_in at *; omega)) hF14 hk15 hk16 hk17 hk18 hk19 ho20 hp (Nat.lt_succ_self _))
  · refine ra_iconst rfl ?_
    exact ra_ireturn rfl rfl ⟨⟨_, (by first | omega | (unfold ra_in at *; omega)), rfl⟩, ⟨hF14, hk15, hk16, hk17, hk18, hk19, ho20⟩⟩
end RB
end
section
/-! partitions made smaller, joined, split -/
section RB
section
variable {σ s : ra_V} {p : Int}
theorem szk_le (hw : WF σ) (hp : 0 ≤ p ∧ p < 8) (he : wq σ p 0 = 1) {m : Int} (h1 : wq σ p 3 ≤ m) (h2 : m ≤ wq σ p 2) : SZK σ p m := by
  have hq := WF_p hw hp.1 hp.2 he
  refine ⟨h1, ⟨by omega, by omega, by omega⟩, ?_, fun q => ?_⟩
  · rintro ⟨q, q0, q1, q2, q3, q4, q5⟩
    have := WF_ap hw hp.1 hp.2 q0 q1 (Ne.symm q2) he q3
    omega
  · have := q.2.1
    omega
theorem shr_w (hw : WF σ) (hp : 0 ≤ p ∧ p < 8) {z : Int} (hz : z = 0 ∨ (z = wq σ p 2 - wq σ p 3 ∧ wq σ p 0 = 1 ∧ ra_g σ 180 16 ≠ p)) (v : wq s p 2 = wq σ p 2 - z) (o : ∀ a, a ≠ (24 + 8 * p + 2).toNat → ra_g s 180 a = ra_g σ 180 a) : WF s := by
  rcases hz with hz | ⟨hz, he, hm⟩
  · refine WF_sc (fun a _ => ?_) hw
    by_cases e : a = (24 + 8 * p + 2).toNat
    · rw [e]
      have : wq s p 2 = wq σ p 2 := by omega
      exact this
    · exact o a e
  · have hq := WF_p hw hp.1 hp.2 he
    exact WF_rsz hw ⟨hp.1, hp.2, he⟩ hm (m := wq σ p 2 - z) ⟨v, fun a _ h => o a h⟩ (szk_le hw hp he (by omega) (by omega))
end
end RB
end
section
/-! the reference: what its methods do (printed by wip/gen/ref.py) -/
section RB
theorem lp_313_13 {n : Nat} {f : Nat → Int32} {d : Nat}  {σ : ra_V} (hw : WF σ) (hpw : PW σ) : ∀ (nn : Nat) (v1 : Int) (v2 : Int) (s : ra_V) (hv1_0 : ra_in v1) (hv2_0 : 0 ≤ v2) (hv2_1 : v2 ≤ 8) (hF : Fr (179) (191) σ s) (hk0 : s (183) = σ (183)) (hk1 : s (187) = σ (187)) (hws : WF s) (hps : PW s) (ho3 : ∀ a, a ≠ 5 → a ≠ 7 → a ≠ 10 → ra_g s 179 a = ra_g σ 179 a) (hm : ((8 - v2 : Int)).toNat < nn), ra_P (g_Gs n f) g_sh 0 (d + 3) g_m_X8_shrinkAll 13 [some (.index (179)), some (ra_I v1), some (ra_I v2), none] [] s (fun r s => rI r ∧ Fr (179) (191) σ s ∧ s (183) = σ (183) ∧ s (187) = σ (187) ∧ (∀ a, a ≠ 5 → a ≠ 7 → a ≠ 10 → ra_g s 179 a = ra_g σ 179 a) ∧ WF s ∧ PW s) := by
  intro nn
  induction nn with
  | zero => intro v1 v2 s hv1_0 hv2_0 hv2_1 hF hk0 hk1 hws hps ho3 hm; exact absurd hm (Nat.not_lt_zero _)
  | succ nn ih =>
    intro v1 v2 s hv1_0 hv2_0 hv2_1 hF hk0 hk1 hws hps ho3 hm
    refine ra_load rfl rfl rfl rfl ?_
    refine ra_bipush rfl (by decide) ?_
    refine ra_icge rfl rfl (by first | omega | (unfold ra_in at *; omega)) (by first | omega | (unfold ra_in at *; omega)) (fun h23 => ?_) (fun h23 => ?_)
    · refine ra_load rfl rfl rfl rfl ?_
      exact ra_ireturn rfl rfl ⟨⟨_, (by first | omega | (unfold ra_in at *; omega)), rfl⟩, ⟨hF, hk0, hk1, ho3, hws, hps⟩⟩
    · refine ra_load rfl rfl rfl rfl ?_
      refine ra_load rfl rfl rfl rfl ?_
      refine ra_cIPp (sp_293 (by first | omega | (unfold ra_in at *; omega)) hws (by first | assumption | rfl | omega)) rfl (ct_293 rfl lk_8_358 (Or.inl rfl) sh_179 (Nat.le_of_ble_eq_true rfl)) (fun z25 hz25 hz25p => ?_)
      refine ra_store (L' := [_, _, _, _]) rfl rfl rfl (Nat.le_of_ble_eq_true rfl) rfl ?_
      refine ra_load rfl rfl rfl rfl ?_
      refine ra_load rfl rfl rfl rfl ?_
      refine ra_iconst rfl ?_
      refine ra_load rfl rfl rfl rfl ?_
      refine ra_load rfl rfl rfl rfl ?_
      refine ra_iconst rfl ?_
      refine ra_cTp (sp_200 (by first | omega | (unfold ra_in at *; omega)) (by first | omega | (unfold ra_in at *; omega)) (by first | assumption | rfl | omega)) rfl (ct_200 rfl lk_8_67 (Or.inl rfl) sh_179 (Nat.le_of_ble_eq_true rfl)) ?_
      have hr27 : ra_in (wq s v2 (2)) := (ra_in_wq _ _ _)
      have hb := ra_in_wq s v2 3
      have hb2 := ra_in_wq s v2 2
      unfold ra_in at hb hb2
      refine ra_load rfl rfl rfl rfl ?_
      refine ra_isub rfl ?_
      refine ra_cV (sp_201 (by first | omega | (unfold ra_in at *; omega)) (by first | omega | (unfold ra_in at *; omega)) (by first | omega | (unfold ra_in at *; omega)) (by first | assumption | rfl | omega)) rfl (ct_201 rfl lk_8_78 (Or.inl rfl) sh_179 (Nat.le_of_ble_eq_true rfl)) (fun s28 hs28 => ?_)
      obtain ⟨hf29, he30, he31⟩ := hs28
      have hF32 := Fr_tr (lo := 179) (hi := 191) hF hf29 (by omega)
      have hk33 : s28 (183) = σ (183) := (hf29 (183) (by omega)).trans hk0
      have hk34 : s28 (187) = σ (187) := (hf29 (187) (by omega)).trans hk1
      have hg35 : ∀ a, a ≠ 5 → a ≠ 7 → a ≠ 10 → ra_g s28 179 a = ra_g σ 179 a := fun a h5 h7 h10 => (ra_gk (hf29 179 (by omega))).trans (ho3 a h5 h7 h10)
      refine ra_load rfl rfl rfl rfl ?_
      refine ra_load rfl rfl rfl rfl ?_
      refine ra_iadd rfl ?_
      refine ra_gen (fun z36 hz36 => ?_)
      refine ra_store (L' := [_, _, _, _]) rfl rfl rfl (Nat.le_of_ble_eq_true rfl) rfl ?_
      refine ra_iinc (L' := [_, _, _, _]) rfl rfl (Nat.le_of_ble_eq_true rfl) rfl ?_
      refine ra_goto rfl rfl ?_
      exact ra_weak (by repeat' constructor) (ih z36 (v2 + 1) s28 hz36 (by first | omega | (unfold ra_in at *; omega)) (by first | omega | (unfold ra_in at *; omega)) hF32 hk33 hk34 (shr_w hws ⟨by omega, by omega⟩ hz25p he30 he31) (PW_k hps (ra_gk (hf29 179 (by omega))) (hf29 184 (by omega))) hg35 (by first | omega | (unfold ra_in at *; omega)))
theorem sp_313 {n : Nat} {f : Nat → Int32} {d : Nat}  {σ : ra_V} (hw : WF σ) (hpw : PW σ) : ra_C (g_Gs n f) g_sh 0 (d + 4) 313 [.index (179)] σ (fun r s => rI r ∧ Fr (179) (191) σ s ∧ s (183) = σ (183) ∧ s (187) = σ (187) ∧ (∀ a, a ≠ 5 → a ≠ 7 → a ≠ 10 → ra_g s 179 a = ra_g σ 179 a) ∧ WF s ∧ PW s) := by
  refine ra_enter (nn := 3) mt_313 rfl (Nat.le_of_ble_eq_true rfl) rfl (fun h => absurd h (by decide +kernel)) ?_
  have hw0 := WF_a hw
  unfold WFa at hw0
  refine ra_load rfl rfl rfl rfl ?_
  refine ra_iconst rfl ?_
  refine ra_putI rfl lk_8_51 (Nat.zero_le _) sh_179 rfl rfl ?_
  refine ra_newU (by first | omega | (unfold ra_in at *; omega)) (fun s1 hs1 hp2 hp2o => ?_)
  have hp2_99 := hp2o 99 (by decide)
  have hF3 := Fr_tr (lo := 179) (hi := 191) Fr_rf hs1 (by omega)
  have hk4 : s1 (180) = σ (180) := (hs1 (180) (by omega))
  have hk5 : s1 (183) = σ (183) := (hs1 (183) (by omega))
  have hk6 : s1 (184) = σ (184) := (hs1 (184) (by omega))
  have hk7 : s1 (187) = σ (187) := (hs1 (187) (by omega))
  have hg8 : ∀ a, a ≠ 5 → a ≠ 7 → a ≠ 10 → ra_g s1 179 a = ra_g σ 179 a := fun a h5 h7 h10 => ((fun a h7 h10 => hp2o a h7) a h7 h10).trans ((fun _ _ _ _ => rfl) a h5 h7 h10)
  have ho9 : ∀ a, a ≠ 7 → a ≠ 10 → ra_g s1 179 a = ra_g σ 179 a := fun a h7 h10 => ((fun a h7 h10 => hp2o a h7) a h7 h10).trans ((fun _ _ _ => rfl) a h7 h10)
  refine ra_load rfl rfl rfl rfl ?_
  refine ra_cV (sp_197 (WF_k hk4 hw) (PW_k hpw (ho9 5 (by decide) (by decide)) hk6)) rfl (ct_197 rfl lk_8_366 (Or.inl rfl) sh_179 (Nat.le_of_ble_eq_true rfl)) (fun s10 hs10 => ?_)
  obtain ⟨hf11, hc12, hc13, hc14, hc15, he16, he17⟩ := hs10
  have hF18 := Fr_tr (lo := 179) (hi := 191) hF3 hf11 (by omega)
  have hk19 : s10 (180) = σ (180) := hc12.trans hk4
  have hk20 : s10 (183) = σ (183) := hc15.trans hk5
  have hk21 : s10 (187) = σ (187) := (hf11 (187) (by omega)).trans hk7
  have hg22 : ∀ a, a ≠ 5 → a ≠ 7 → a ≠ 10 → ra_g s10 179 a = ra_g σ 179 a := fun a h5 h7 h10 => ((fun a h5 h7 h10 => he16 a h5) a h5 h7 h10).trans (hg8 a h5 h7 h10)
  refine ra_iconst rfl ?_
  refine ra_store (L' := [_, _, _, _]) rfl rfl rfl (Nat.le_of_ble_eq_true rfl) rfl ?_
  refine ra_iconst rfl ?_
  refine ra_store (L' := [_, _, _, _]) rfl rfl rfl (Nat.le_of_ble_eq_true rfl) rfl ?_
  exact ra_weak (by repeat' constructor) (lp_313_13 hw hpw _ (0) (0) s10 (by first | omega | (unfold ra_in at *; omega)) (by first | omega | (unfold ra_in at *; omega)) (by first | omega | (unfold ra_in at *; omega)) hF18 hk20 hk21 (WF_k hk19 hw) he17 hg22 (Nat.lt_succ_self _))
theorem lp_314_13 {n : Nat} {f : Nat → Int32} {d : Nat}  {σ : ra_V} (hw : WF σ) (hpw : PW σ) : ∀ (nn : Nat) (v1 : Int) (v2 : Int) (s : ra_V) (hv1_0 : 0 ≤ v1) (hv1_1 : v1 ≤ v2) (hv2_0 : 0 ≤ v2) (hv2_1 : v2 ≤ 600) (hF : Fr (179) (191) σ s) (hk0 : s (183) = σ (183)) (hk1 : s (187) = σ (187)) (hws : WF s) (hps : PW s) (ho3 : ∀ a, a ≠ 5 → a ≠ 7 → a ≠ 10 → ra_g s 179 a = ra_g σ 179 a) (hm : ((600 - v2 : Int)).toNat < nn), ra_P (g_Gs n f) g_sh 0 (d + 6) g_m_X8_wipe 13 [some (.index (179)), some (ra_I v1), some (ra_I v2)] [] s (fun r s => rI r ∧ Fr (179) (191) σ s ∧ s (183) = σ (183) ∧ s (187) = σ (187) ∧ (∀ a, a ≠ 5 → a ≠ 7 → a ≠ 10 → ra_g s 179 a = ra_g σ 179 a) ∧ WF s ∧ PW s) := by
  intro nn
  induction nn with
  | zero => intro v1 v2 s hv1_0 hv1_1 hv2_0 hv2_1 hF hk0 hk1 hws hps ho3 hm; exact absurd hm (Nat.not_lt_zero _)
  | succ nn ih =>
    intro v1 v2 s hv1_0 hv1_1 hv2_0 hv2_1 hF hk0 hk1 hws hps ho3 hm
    have hw1 := WF_a hws
    unfold WFa at hw1
    refine ra_load rfl rfl rfl rfl ?_
    refine ra_load rfl rfl rfl rfl ?_
    refine ra_getR rfl lk_8_7 (Nat.zero_le _) sh_179 rfl ?_
    refine ra_iconst rfl ?_
    refine ra_ialoadJ (j := 0) rfl sh_180 rfl (by decide) rfl (by decide) ?_
    have hr23 : ra_in (ra_g s (180) 0) := (ra_in_g _ _ _)
    refine ra_icge rfl rfl (by first | omega | (unfold ra_in at *; omega)) hr23 (fun h24 => ?_) (fun h24 => ?_)
    · refine ra_load rfl rfl rfl rfl ?_
      exact ra_ireturn rfl rfl ⟨⟨_, (by first | omega | (unfold ra_in at *; omega)), rfl⟩, ⟨hF, hk0, hk1, ho3, hws, hps⟩⟩
    · refine ra_load rfl rfl rfl rfl ?_
      refine ra_getR rfl lk_8_7 (Nat.zero_le _) sh_179 rfl ?_
      refine ra_bipush rfl (by decide) ?_
      refine ra_load rfl rfl rfl rfl ?_
      refine ra_iadd rfl ?_
      refine ra_iaload rfl sh_180 rfl (by decide) (by first | omega | (unfold ra_in at *; omega)) (by first | omega | (unfold ra_in at *; omega)) ?_
      have hr25 : ra_in (ra_g s (180) ((88) + v2).toNat) := (ra_in_g _ _ _)
      refine ra_ifeq rfl rfl hr25 (fun h26 => ?_) (fun h26 => ?_)
      · refine ra_iinc (L' := [_, _, _]) rfl rfl (Nat.le_of_ble_eq_true rfl) rfl ?_
        refine ra_goto rfl rfl ?_
        exact ra_weak (by repeat' constructor) (ih v1 (v2 + 1) s (by first | omega | (unfold ra_in at *; omega)) (by first | omega | (unfold ra_in at *; omega)) (by first | omega | (unfold ra_in at *; omega)) (by first | omega | (unfold ra_in at *; omega)) hF hk0 hk1 hws hps ho3 (by first | omega | (unfold ra_in at *; omega)))
      · refine ra_load rfl rfl rfl rfl ?_
        refine ra_load rfl rfl rfl rfl ?_
        refine ra_cIp (sp_272 (by first | omega | (unfold ra_in at *; omega)) hws) rfl (ct_272 rfl lk_8_327 (Or.inl rfl) sh_179 (Nat.le_of_ble_eq_true rfl)) (fun z28 hz28 => ?_)
        refine ra_iconst rfl ?_
        refine ra_iceq rfl rfl hz28 (by first | omega | (unfold ra_in at *; omega)) (fun h29 => ?_) (fun h29 => ?_)
        · refine ra_load rfl rfl rfl rfl ?_
          refine ra_getR rfl lk_8_7 (Nat.zero_le _) sh_179 rfl ?_
          refine ra_bipush rfl (by decide) ?_
          refine ra_load rfl rfl rfl rfl ?_
          refine ra_iadd rfl ?_
          refine ra_iconst rfl ?_
          refine ra_iastore rfl sh_180 rfl (by decide) (by first | omega | (unfold ra_in at *; omega)) (by first | omega | (unfold ra_in at *; omega)) ?_
          refine ra_newR (by first | omega | (unfold ra_in at *; omega)) (fun s30 hs30 hs30v hs30o => ?_)
          have hF31 := Fr_tr (lo := 179) (hi := 191) hF hs30 (by omega)
          have hk32 : s30 (183) = σ (183) := (hs30 (183) (by omega)).trans hk0
          have hk33 : s30 (187) = σ (187) := (hs30 (187) (by omega)).trans hk1
          have hg34 : ∀ a, a ≠ 5 → a ≠ 7 → a ≠ 10 → ra_g s30 179 a = ra_g σ 179 a := fun a h5 h7 h10 => (ra_gk (hs30 179 (by omega))).trans (ho3 a h5 h7 h10)
          refine ra_iinc (L' := [_, _, _]) rfl rfl (Nat.le_of_ble_eq_true rfl) rfl ?_
          refine ra_iinc (L' := [_, _, _]) rfl rfl (Nat.le_of_ble_eq_true rfl) rfl ?_
          refine ra_goto rfl rfl ?_
          exact ra_weak (by repeat' constructor) (ih (v1 + 1) (v2 + 1) s30 (by first | omega | (unfold ra_in at *; omega)) (by first | omega | (unfold ra_in at *; omega)) (by first | omega | (unfold ra_in at *; omega)) (by first | omega | (unfold ra_in at *; omega)) hF31 hk32 hk33 (WF_sc (fun a ha => hs30o a (by omega)) hws) (PW_k hps (ra_gk (hs30 179 (by omega))) (hs30 184 (by omega))) hg34 (by first | omega | (unfold ra_in at *; omega)))
        · refine ra_goto rfl rfl ?_
          refine ra_iinc (L' := [_, _, _]) rfl rfl (Nat.le_of_ble_eq_true rfl) rfl ?_
          refine ra_goto rfl rfl ?_
          exact ra_weak (by repeat' constructor) (ih v1 (v2 + 1) s (by first | omega | (unfold ra_in at *; omega)) (by first | omega | (unfold ra_in at *; omega)) (by first | omega | (unfold ra_in at *; omega)) (by first | omega | (unfold ra_in at *; omega)) hF hk0 hk1 hws hps ho3 (by first | omega | (unfold ra_in at *; omega)))
theorem sp_314 {n : Nat} {f : Nat → Int32} {d : Nat}  {σ : ra_V} (hw : WF σ) (hpw : PW σ) : ra_C (g_Gs n f) g_sh 0 (d + 7) 314 [.index (179)] σ (fun r s => rI r ∧ Fr (179) (191) σ s ∧ s (183) = σ (183) ∧ s (187) = σ (187) ∧ (∀ a, a ≠ 5 → a ≠ 7 → a ≠ 10 → ra_g s 179 a = ra_g σ 179 a) ∧ WF s ∧ PW s) := by
  refine ra_enter (nn := 2) mt_314 rfl (Nat.le_of_ble_eq_true rfl) rfl (fun h => absurd h (by decide +kernel)) ?_
  have hw0 := WF_a hw
  unfold WFa at hw0
  refine ra_load rfl rfl rfl rfl ?_
  refine ra_iconst rfl ?_
  refine ra_putI rfl lk_8_51 (Nat.zero_le _) sh_179 rfl rfl ?_
  refine ra_newU (by first | omega | (unfold ra_in at *; omega)) (fun s1 hs1 hp2 hp2o => ?_)
  have hp2_99 := hp2o 99 (by decide)
  have hF3 := Fr_tr (lo := 179) (hi := 191) Fr_rf hs1 (by omega)
  have hk4 : s1 (180) = σ (180) := (hs1 (180) (by omega))
  have hk5 : s1 (183) = σ (183) := (hs1 (183) (by omega))
  have hk6 : s1 (184) = σ (184) := (hs1 (184) (by omega))
  have hk7 : s1 (187) = σ (187) := (hs1 (187) (by omega))
  have hg8 : ∀ a, a ≠ 5 → a ≠ 7 → a ≠ 10 → ra_g s1 179 a = ra_g σ 179 a := fun a h5 h7 h10 => ((fun a h7 h10 => hp2o a h7) a h7 h10).trans ((fun _ _ _ _ => rfl) a h5 h7 h10)
  have ho9 : ∀ a, a ≠ 7 → a ≠ 10 → ra_g s1 179 a = ra_g σ 179 a := fun a h7 h10 => ((fun a h7 h10 => hp2o a h7) a h7 h10).trans ((fun _ _ _ => rfl) a h7 h10)
  refine ra_load rfl rfl rfl rfl ?_
  refine ra_cV (sp_197 (WF_k hk4 hw) (PW_k hpw (ho9 5 (by decide) (by decide)) hk6)) rfl (ct_197 rfl lk_8_366 (Or.inl rfl) sh_179 (Nat.le_of_ble_eq_true rfl)) (fun s10 hs10 => ?_)
  obtain ⟨hf11, hc12, hc13, hc14, hc15, he16, he17⟩ := hs10
  have hF18 := Fr_tr (lo := 179) (hi := 191) hF3 hf11 (by omega)
  have hk19 : s10 (180) = σ (180) := hc12.trans hk4
  have hk20 : s10 (183) = σ (183) := hc15.trans hk5
  have hk21 : s10 (187) = σ (187) := (hf11 (187) (by omega)).trans hk7
  have hg22 : ∀ a, a ≠ 5 → a ≠ 7 → a ≠ 10 → ra_g s10 179 a = ra_g σ 179 a := fun a h5 h7 h10 => ((fun a h5 h7 h10 => he16 a h5) a h5 h7 h10).trans (hg8 a h5 h7 h10)
  refine ra_iconst rfl ?_
  refine ra_store (L' := [_, _, _]) rfl rfl rfl (Nat.le_of_ble_eq_true rfl) rfl ?_
  refine ra_iconst rfl ?_
  refine ra_store (L' := [_, _, _]) rfl rfl rfl (Nat.le_of_ble_eq_true rfl) rfl ?_
  exact ra_weak (by repeat' constructor) (lp_314_13 hw hpw _ (0) (0) s10 (by first | omega | (unfold ra_in at *; omega)) (by first | omega | (unfold ra_in at *; omega)) (by first | omega | (unfold ra_in at *; omega)) (by first | omega | (unfold ra_in at *; omega)) hF18 hk20 hk21 (WF_k hk19 hw) he17 hg22 (Nat.lt_succ_self _))
end RB
end
section
/-! joined -/
section RB
theorem cj_k {s t : ra_V} (h : s 180 = t 180) {p : Int} (q : CJ s p) : CJ t p := by
  unfold CJ wq at *
  simp only [ra_gk h] at q
  exact q
def JN (σ : ra_V) (p z : Int) : Prop := 0 ≤ z ∧ z < 8 ∧ z ≠ p ∧ wq σ z 0 = 1 ∧ wq σ z 1 = wq σ p 1 + wq σ p 2 ∧ ra_g σ 180 16 ≠ p ∧ ra_g σ 180 16 ≠ z
section
variable {σ s t : ra_V} {p z : Int}
theorem nb_j (hw : WF σ) (hp : 0 ≤ p ∧ p < 8 ∧ wq σ p 0 = 1) (hc : CJ σ p) (hz : (z = -1 ∧ NN σ p 8) ∨ (0 ≤ z ∧ z < 8 ∧ wq σ z 0 = 1 ∧ wq σ z 1 = wq σ p 1 + wq σ p 2)) : JN σ p z := by
  obtain ⟨q, q0, q1, q2, q3, q4, q5⟩ := hc
  rcases hz with ⟨e, hn⟩ | ⟨z0, z1, z2, z3⟩
  · exact absurd q3 (hn q q0 q1 q2)
  · have hq := WF_p hw hp.1 hp.2.1 hp.2.2
    have hq2 := WF_p hw q0 q1 q2
    have hzz := WF_p hw z0 z1 z2
    by_cases e : z = q
    · subst e
      exact ⟨z0, z1, (fun e => by rw [e] at z3; omega), z2, z3, q4, q5⟩
    · have := WF_ap hw z0 z1 q0 q1 e z2 q2
      omega
theorem jn_b (hw : WF σ) (hp : 0 ≤ p ∧ p < 8 ∧ wq σ p 0 = 1) (hj : JN σ p z) (o : ∀ a, a ≠ (24 + 8 * z + 0).toNat → ra_g s 180 a = ra_g σ 180 a) : wq s p 0 = 1 ∧ wq s p 1 = wq σ p 1 ∧ wq s p 2 = wq σ p 2 ∧ wq s z 2 = wq σ z 2 ∧ 0 ≤ wq s p 1 ∧ wq s p 1 + (wq s p 2 + wq s z 2) ≤ 600 ∧ 0 ≤ wq s p 2 ∧ 1 ≤ wq s z 2 := by
  obtain ⟨j0, j1, j2, j3, j4, j5, j6⟩ := hj
  have hq := WF_p hw hp.1 hp.2.1 hp.2.2
  have hz := WF_p hw j0 j1 j3
  have ha := WF_a hw
  unfold WFa at ha
  have e0 : wq s p 0 = wq σ p 0 := o _ (by omega)
  have e1 : wq s p 1 = wq σ p 1 := o _ (by omega)
  have e2 : wq s p 2 = wq σ p 2 := o _ (by omega)
  have e3 : wq s z 2 = wq σ z 2 := o _ (by omega)
  omega
theorem jn_w (hw : WF σ) (hp : 0 ≤ p ∧ p < 8 ∧ wq σ p 0 = 1) (hj : JN σ p z) (v : wq s z 0 = 0) (o : ∀ a, a ≠ (24 + 8 * z + 0).toNat → ra_g s 180 a = ra_g σ 180 a) (r : RSZ s t p (wq s p 2 + wq s z 2)) : WF t := by
  have hb := jn_b hw hp hj o
  obtain ⟨j0, j1, j2, j3, j4, j5, j6⟩ := hj
  have w1 : WF s := WF_chg (p := z) hw ⟨j0, j1⟩ (fun a ha hn => o a (by omega)) j6 (Or.inl v)
  have g : ∀ j : Nat, j < 24 → ra_g s 180 j = ra_g σ 180 j := fun j hj => o j (by omega)
  have e16 := g 16 (by omega)
  have hq := WF_p w1 hp.1 hp.2.1 hb.1
  have hz := WF_p hw j0 j1 j3
  refine WF_rsz w1 ⟨hp.1, hp.2.1, hb.1⟩ (by omega) r ⟨by omega, ⟨by omega, by omega, ?_⟩, ?_, ?_⟩
  · rw [g 0 (by omega), g 2 (by omega)]; omega
  · rintro ⟨q, q0, q1, q2, q3, q4, q5⟩
    have qz : q ≠ z := fun e => by rw [e] at q3; omega
    have a0 : wq s q 0 = wq σ q 0 := o _ (by omega)
    have a1 : wq s q 1 = wq σ q 1 := o _ (by omega)
    have a2 : wq s q 2 = wq σ q 2 := o _ (by omega)
    have h1 := WF_ap hw q0 q1 hp.1 hp.2.1 q2 (by omega) hp.2.2
    have h2 := WF_ap hw q0 q1 j0 j1 qz (by omega) j3
    have h3 := WF_p hw q0 q1 (by omega)
    omega
  · rintro ⟨b1, b2, b3, b4⟩
    have hm : ra_g σ 180 16 ≠ -1 := by omega
    have hv := (WF_m hw hm).2.2.2.2.2.2.2.2.2.2 z j0 j1 (Ne.symm j6) j3
    have hs := WF_msz hw hm
    have a2 : wq s (ra_g s 180 16) 2 = wq σ (ra_g σ 180 16) 2 := by
      rw [e16]
      exact o _ (by omega)
    have e18 := g 18 (by omega)
    have hv : ra_g σ 180 18 + wq σ (ra_g σ 180 16) 2 ≤ wq σ z 1 ∨ wq σ z 1 + wq σ z 2 ≤ ra_g σ 180 18 := hv
    omega
end
end RB
end
