/-! the reference: what its methods do (printed by wip/gen/ref.py) -/
section RB
theorem sp_295 {n : Nat} {f : Nat → Int32} {d : Nat} {x0 : Int} {x1 : Int} {x2 : Int} {σ : ra_V} (hx0 : ra_in x0) (hx1 : ra_in x1) (hx2 : ra_in x2) : ra_C (g_Gs n f) g_sh 0 (d + 2) 295 [ra_I x0, ra_I x1, ra_I x2] σ (fun r s => (∃ z : Int, (z = 0 ∨ z = 1) ∧ (z = 1 → (0 ≤ x0 ∧ x0 ≤ 9 ∧ 1 ≤ x1 ∧ x1 ≤ x2)) ∧ r = .inl (some (ra_I z))) ∧ s = σ) := by
  refine ra_enter (nn := 0) mt_295 rfl (Nat.le_of_ble_eq_true rfl) rfl (fun h => absurd h (by decide +kernel)) ?_
  refine ra_load rfl rfl rfl rfl ?_
  refine ra_i2l rfl hx0 ?_
  refine ra_lconst0 rfl ?_
  refine ra_ldc2 (z := 9) rfl lk_8_361 (by decide) ?_
  refine ra_cTp (sp_192 hx0 (by first | omega | (unfold ra_in at *; omega)) (by first | omega | (unfold ra_in at *; omega))) rfl (ct_192 rfl lk_8_63 (Or.inl rfl) (Nat.le_of_ble_eq_true rfl)) ?_
  refine ra_ifeqB rfl rfl (fun h2 => ?_) (fun h2 => ?_)
  · refine ra_iconst rfl ?_
    exact ra_ireturn rfl (ra_okB (Or.inl rfl)) ⟨⟨_, (Or.inl rfl), (by omega), rfl⟩, rfl⟩
  · refine ra_load rfl rfl rfl rfl ?_
    refine ra_i2l rfl hx1 ?_
    refine ra_lconst1 rfl ?_
    refine ra_load rfl rfl rfl rfl ?_
    refine ra_i2l rfl hx2 ?_
    refine ra_cTp (sp_192 hx1 (by first | omega | (unfold ra_in at *; omega)) hx2) rfl (ct_192 rfl lk_8_63 (Or.inl rfl) (Nat.le_of_ble_eq_true rfl)) ?_
    refine ra_ifeqB rfl rfl (fun h4 => ?_) (fun h4 => ?_)
    · refine ra_iconst rfl ?_
      exact ra_ireturn rfl (ra_okB (Or.inl rfl)) ⟨⟨_, (Or.inl rfl), (by omega), rfl⟩, rfl⟩
    · refine ra_iconst rfl ?_
      refine ra_goto rfl rfl ?_
      exact ra_ireturn rfl (ra_okB (Or.inr rfl)) ⟨⟨_, (Or.inr rfl), (by omega), rfl⟩, rfl⟩
theorem sp_299 {n : Nat} {f : Nat → Int32} {d : Nat} {x0 : Int} {x1 : Int} {σ : ra_V} (hx0 : ra_in x0) (hx1 : x1 = 0 ∨ x1 = 1) (hw : WF σ) (hpw : PW σ) : ra_C (g_Gs n f) g_sh 0 (d + 4) 299 [.index (179), ra_I x0, ra_I x1] σ (fun r s => rB r ∧ Fr (179) (191) σ s ∧ s (183) = σ (183) ∧ (∀ a, a ≠ 5 → a ≠ 7 → a ≠ 10 → ra_g s 179 a = ra_g σ 179 a) ∧ WF s ∧ PW s) := by
  refine ra_enter (nn := 1) mt_299 rfl (Nat.le_of_ble_eq_true rfl) rfl (fun h => absurd h (by decide +kernel)) ?_
  have hw0 := WF_a hw
  unfold WFa at hw0
  refine ra_load rfl rfl rfl rfl ?_
  refine ra_iconst rfl ?_
  refine ra_putI rfl lk_8_51 (Nat.zero_le _) sh_179 rfl rfl ?_
  refine ra_newU (by first | omega | (unfold ra_in at *; omega)) (fun s1 hs1 hp2 hp2o => ?_)
  have hp2_99 := hp2o 99 (by decide)
  have hF3 := Fr_tr (lo := 179) (hi := 191) Fr_rf hs1 (by omega)
  have hk4 : s1 (180) = σ (180) := (hs1 (180) (by omega))
  have hk5 : s1 (183) = σ (183) := (hs1 (183) (by omega))
  have hk6 : s1 (184) = σ (184) := (hs1 (184) (by omega))
  have hg7 : ∀ a, a ≠ 5 → a ≠ 7 → a ≠ 10 → ra_g s1 179 a = ra_g σ 179 a := fun a h5 h7 h10 => ((fun a h7 h10 => hp2o a h7) a h7 h10).trans ((fun _ _ _ _ => rfl) a h5 h7 h10)
  have ho8 : ∀ a, a ≠ 7 → a ≠ 10 → ra_g s1 179 a = ra_g σ 179 a := fun a h7 h10 => ((fun a h7 h10 => hp2o a h7) a h7 h10).trans ((fun _ _ _ => rfl) a h7 h10)
  refine ra_load rfl rfl rfl rfl ?_
  refine ra_load rfl rfl rfl rfl ?_
  refine ra_iconst rfl ?_
  refine ra_cQP (sp_267 hx0 (by first | omega | (unfold ra_in at *; omega))) rfl (ct_267 rfl lk_8_318 (Or.inl rfl) sh_179 (Nat.le_of_ble_eq_true rfl)) (fun z10 s9 hz10 hz10p hs9 => ?_)
  rw [wq_k hk4] at hz10p
  obtain ⟨hf11, he12⟩ := hs9
  have hF13 := Fr_tr (lo := 179) (hi := 191) hF3 hf11 (by omega)
  have hk14 : s9 (180) = σ (180) := (hf11 (180) (by omega)).trans hk4
  have hk15 : s9 (183) = σ (183) := (hf11 (183) (by omega)).trans hk5
  have hk16 : s9 (184) = σ (184) := (hf11 (184) (by omega)).trans hk6
  have hg17 : ∀ a, a ≠ 5 → a ≠ 7 → a ≠ 10 → ra_g s9 179 a = ra_g σ 179 a := fun a h5 h7 h10 => ((fun a h7 h10 => he12 a h7) a h7 h10).trans (hg7 a h5 h7 h10)
  have ho18 : ∀ a, a ≠ 7 → a ≠ 10 → ra_g s9 179 a = ra_g σ 179 a := fun a h7 h10 => ((fun a h7 h10 => he12 a h7) a h7 h10).trans (ho8 a h7 h10)
  refine ra_ifeq rfl rfl (ra_in01 hz10) (fun h19 => ?_) (fun h19 => ?_)
  · refine ra_load rfl rfl rfl rfl ?_
    have hp := hz10p (by omega)
    have hq := WF_p hw hp.1 hp.2.1 hp.2.2
    refine ra_cV (sp_196 (WF_k hk14 hw) (PW_k hpw (ho18 5 (by decide) (by decide)) hk16)) rfl (ct_196 rfl lk_8_366 (Or.inl rfl) sh_179 (Nat.le_of_ble_eq_true rfl)) (fun s20 hs20 => ?_)
    obtain ⟨hf21, hc22, hc23, hc24, hc25, he26, he27⟩ := hs20
    have hF28 := Fr_tr (lo := 179) (hi := 191) hF13 hf21 (by omega)
    have hk29 : s20 (180) = σ (180) := hc22.trans hk14
    have hk30 : s20 (183) = σ (183) := hc25.trans hk15
    have hg31 : ∀ a, a ≠ 5 → a ≠ 7 → a ≠ 10 → ra_g s20 179 a = ra_g σ 179 a := fun a h5 h7 h10 => ((fun a h5 h7 h10 => he26 a h5) a h5 h7 h10).trans (hg17 a h5 h7 h10)
    refine ra_load rfl rfl rfl rfl ?_
    refine ra_load rfl rfl rfl rfl ?_
    refine ra_iconst rfl ?_
    refine ra_cTp (sp_199 hx0 (by first | omega | (unfold ra_in at *; omega)) (by first | assumption | rfl | omega)) rfl (ct_199 rfl lk_8_67 (Or.inl rfl) sh_179 (Nat.le_of_ble_eq_true rfl)) ?_
    rw [wq_k hk29]
    have hr33 : ra_in (wq σ x0 (5)) := (ra_in_wq _ _ _)
    refine ra_iconst rfl ?_
    refine ra_icne rfl rfl hr33 (by first | omega | (unfold ra_in at *; omega)) (fun h34 => ?_) (fun h34 => ?_)
    · refine ra_iconst rfl ?_
      refine ra_store (L' := [_, _, _, _]) rfl rfl rfl (Nat.le_of_ble_eq_true rfl) rfl ?_
      refine ra_load rfl rfl rfl rfl ?_
      refine ra_load rfl rfl rfl rfl ?_
      refine ra_iconst rfl ?_
      refine ra_load rfl rfl rfl rfl ?_
      refine ra_ifeq rfl rfl (ra_in01 hx1) (fun h35 => ?_) (fun h35 => ?_)
      · refine ra_iconst rfl ?_
        refine ra_cV (sp_200 hx0 (by first | omega | (unfold ra_in at *; omega)) (by first | omega | (unfold ra_in at *; omega)) (by first | assumption | rfl | omega)) rfl (ct_200 rfl lk_8_78 (Or.inl rfl) sh_179 (Nat.le_of_ble_eq_true rfl)) (fun s36 hs36 => ?_)
        obtain ⟨hf37, he38, he39⟩ := hs36
        have hF40 := Fr_tr (lo := 179) (hi := 191) hF28 hf37 (by omega)
        have hk41 : s36 (183) = σ (183) := (hf37 (183) (by omega)).trans hk30
        have hg42 : ∀ a, a ≠ 5 → a ≠ 7 → a ≠ 10 → ra_g s36 179 a = ra_g σ 179 a := fun a h5 h7 h10 => (ra_gk (hf37 179 (by omega))).trans (hg31 a h5 h7 h10)
        refine ra_load rfl rfl rfl rfl ?_
        exact ra_ireturn rfl (ra_okB (Or.inl rfl)) ⟨⟨_, (Or.inl rfl), rfl⟩, ⟨hF40, hk41, hg42, (WF_rel (fun a ha => he39 a (by unfold REL at ha; omega)) (WF_k hk29 hw)), (PW_k he27 (ra_gk (hf37 179 (by omega))) (hf37 184 (by omega)))⟩⟩
      · refine ra_iconst rfl ?_
        refine ra_goto rfl rfl ?_
        refine ra_cV (sp_200 hx0 (by first | omega | (unfold ra_in at *; omega)) (by first | omega | (unfold ra_in at *; omega)) (by first | assumption | rfl | omega)) rfl (ct_200 rfl lk_8_78 (Or.inl rfl) sh_179 (Nat.le_of_ble_eq_true rfl)) (fun s43 hs43 => ?_)
        obtain ⟨hf44, he45, he46⟩ := hs43
        have hF47 := Fr_tr (lo := 179) (hi := 191) hF28 hf44 (by omega)
        have hk48 : s43 (183) = σ (183) := (hf44 (183) (by omega)).trans hk30
        have hg49 : ∀ a, a ≠ 5 → a ≠ 7 → a ≠ 10 → ra_g s43 179 a = ra_g σ 179 a := fun a h5 h7 h10 => (ra_gk (hf44 179 (by omega))).trans (hg31 a h5 h7 h10)
        refine ra_load rfl rfl rfl rfl ?_
        exact ra_ireturn rfl (ra_okB (Or.inl rfl)) ⟨⟨_, (Or.inl rfl), rfl⟩, ⟨hF47, hk48, hg49, (WF_rel (fun a ha => he46 a (by unfold REL at ha; omega)) (WF_k hk29 hw)), (PW_k he27 (ra_gk (hf44 179 (by omega))) (hf44 184 (by omega)))⟩⟩
    · refine ra_iconst rfl ?_
      refine ra_goto rfl rfl ?_
      refine ra_store (L' := [_, _, _, _]) rfl rfl rfl (Nat.le_of_ble_eq_true rfl) rfl ?_
      refine ra_load rfl rfl rfl rfl ?_
      refine ra_load rfl rfl rfl rfl ?_
      refine ra_iconst rfl ?_
      refine ra_load rfl rfl rfl rfl ?_
      refine ra_ifeq rfl rfl (ra_in01 hx1) (fun h50 => ?_) (fun h50 => ?_)
      · refine ra_iconst rfl ?_
        refine ra_cV (sp_200 hx0 (by first | omega | (unfold ra_in at *; omega)) (by first | omega | (unfold ra_in at *; omega)) (by first | assumption | rfl | omega)) rfl (ct_200 rfl lk_8_78 (Or.inl rfl) sh_179 (Nat.le_of_ble_eq_true rfl)) (fun s51 hs51 => ?_)
        obtain ⟨hf52, he53, he54⟩ := hs51
        have hF55 := Fr_tr (lo := 179) (hi := 191) hF28 hf52 (by omega)
        have hk56 : s51 (183) = σ (183) := (hf52 (183) (by omega)).trans hk30
        have hg57 : ∀ a, a ≠ 5 → a ≠ 7 → a ≠ 10 → ra_g s51 179 a = ra_g σ 179 a := fun a h5 h7 h10 => (ra_gk (hf52 179 (by omega))).trans (hg31 a h5 h7 h10)
        refine ra_load rfl rfl rfl rfl ?_
        exact ra_ireturn rfl (ra_okB (Or.inr rfl)) ⟨⟨_, (Or.inr rfl), rfl⟩, ⟨hF55, hk56, hg57, (WF_rel (fun a ha => he54 a (by unfold REL at ha; omega)) (WF_k hk29 hw)), (PW_k he27 (ra_gk (hf52 179 (by omega))) (hf52 184 (by omega)))⟩⟩
      · refine ra_iconst rfl ?_
        refine ra_goto rfl rfl ?_
        refine ra_cV (sp_200 hx0 (by first | omega | (unfold ra_in at *; omega)) (by first | omega | (unfold ra_in at *; omega)) (by first | assumption | rfl | omega)) rfl (ct_200 rfl lk_8_78 (Or.inl rfl) sh_179 (Nat.le_of_ble_eq_true rfl)) (fun s58 hs58 => ?_)
        obtain ⟨hf59, he60, he61⟩ := hs58
        have hF62 := Fr_tr (lo := 179) (hi := 191) hF28 hf59 (by omega)
        have hk63 : s58 (183) = σ (183) := (hf59 (183) (by omega)).trans hk30
        have hg64 : ∀ a, a ≠ 5 → a ≠ 7 → a ≠ 10 → ra_g s58 179 a = ra_g σ 179 a := fun a h5 h7 h10 => (ra_gk (hf59 179 (by omega))).trans (hg31 a h5 h7 h10)
        refine ra_load rfl rfl rfl rfl ?_
        exact ra_ireturn rfl (ra_okB (Or.inr rfl)) ⟨⟨_, (Or.inr rfl), rfl⟩, ⟨hF62, hk63, hg64, (WF_rel (fun a ha => he61 a (by unfold REL at ha; omega)) (WF_k hk29 hw)), (PW_k he27 (ra_gk (hf59 179 (by omega))) (hf59 184 (by omega)))⟩⟩
  · refine ra_iconst rfl ?_
    exact ra_ireturn rfl (ra_okB (Or.inl rfl)) ⟨⟨_, (Or.inl rfl), rfl⟩, ⟨hF13, hk15, hg17, (WF_k hk14 hw), (PW_k hpw (ho18 5 (by decide) (by decide)) hk16)⟩⟩
theorem sp_298 {n : Nat} {f : Nat → Int32} {d : Nat} {x0 : Int} {σ : ra_V} (hx0 : ra_in x0) (hw : WF σ) (hpw : PW σ) : ra_C (g_Gs n f) g_sh 0 (d + 4) 298 [.index (179), ra_I x0] σ (fun r s => rI r ∧ Fr (179) (191) σ s ∧ s (183) = σ (183) ∧ (∀ a, a ≠ 5 → a ≠ 7 → a ≠ 10 → ra_g s 179 a = ra_g σ 179 a) ∧ WF s ∧ PW s) := by
  refine ra_enter (nn := 0) mt_298 rfl (Nat.le_of_ble_eq_true rfl) rfl (fun h => absurd h (by decide +kernel)) ?_
  have hw0 := WF_a hw
  unfold WFa at hw0
  refine ra_load rfl rfl rfl rfl ?_
  refine ra_iconst rfl ?_
  refine ra_putI rfl lk_8_51 (Nat.zero_le _) sh_179 rfl rfl ?_
  refine ra_newU (by first | omega | (unfold ra_in at *; omega)) (fun s1 hs1 hp2 hp2o => ?_)
  have hp2_99 := hp2o 99 (by decide)
  have hF3 := Fr_tr (lo := 179) (hi := 191) Fr_rf hs1 (by omega)
  have hk4 : s1 (180) = σ (180) := (hs1 (180) (by omega))
  have hk5 : s1 (183) = σ (183) := (hs1 (183) (by omega))
  have hk6 : s1 (184) = σ (184) := (hs1 (184) (by omega))
  have hg7 : ∀ a, a ≠ 5 → a ≠ 7 → a ≠ 10 → ra_g s1 179 a = ra_g σ 179 a := fun a h5 h7 h10 => ((fun a h7 h10 => hp2o a h7) a h7 h10).trans ((fun _ _ _ _ => rfl) a h5 h7 h10)
  have ho8 : ∀ a, a ≠ 7 → a ≠ 10 → ra_g s1 179 a = ra_g σ 179 a := fun a h7 h10 => ((fun a h7 h10 => hp2o a h7) a h7 h10).trans ((fun _ _ _ => rfl) a h7 h10)
  refine ra_load rfl rfl rfl rfl ?_
  refine ra_load rfl rfl rfl rfl ?_
  refine ra_load rfl rfl rfl rfl ?_
  refine ra_cQPp (sp_201 hx0) rfl (ct_201 rfl lk_8_313 (Or.inl rfl) sh_179 (Nat.le_of_ble_eq_true rfl)) (fun z10 hz10 hz10p => ?_)
  rw [wq_k hk4] at hz10p
  refine ra_ifeq rfl rfl (ra_in01 hz10) (fun h11 => ?_) (fun h11 => ?_)
  · refine ra_iconst rfl ?_
    refine ra_iconst rfl ?_
    refine ra_cT (sp_193 (Or.inl rfl) (by first | omega | (unfold ra_in at *; omega))) rfl (ct_193 rfl lk_8_303 (Or.inl rfl) sh_179 (Nat.le_of_ble_eq_true rfl)) (fun s12 hs12 => ?_)
    obtain ⟨hf13, he14⟩ := hs12
    have hF15 := Fr_tr (lo := 179) (hi := 191) hF3 hf13 (by omega)
    have hk16 : s12 (180) = σ (180) := (hf13 (180) (by omega)).trans hk4
    have hk17 : s12 (183) = σ (183) := (hf13 (183) (by omega)).trans hk5
    have hk18 : s12 (184) = σ (184) := (hf13 (184) (by omega)).trans hk6
    have hg19 : ∀ a, a ≠ 5 → a ≠ 7 → a ≠ 10 → ra_g s12 179 a = ra_g σ 179 a := fun a h5 h7 h10 => ((fun a h7 h10 => he14 a h7) a h7 h10).trans (hg7 a h5 h7 h10)
    have ho20 : ∀ a, a ≠ 7 → a ≠ 10 → ra_g s12 179 a = ra_g σ 179 a := fun a h7 h10 => ((fun a h7 h10 => he14 a h7) a h7 h10).trans (ho8 a h7 h10)
    refine ra_ifne rfl rfl (by first | omega | (unfold ra_in at *; omega)) (fun h21 => ?_) (fun h21 => ?_)
    · exact absurd h21 (by decide)
    · refine ra_load rfl rfl rfl rfl ?_
      refine ra_load rfl rfl rfl rfl ?_
      refine ra_iconst rfl ?_
      refine ra_cQP (sp_267 hx0 (by first | omega | (unfold ra_in at *; omega))) rfl (ct_267 rfl lk_8_318 (Or.inl rfl) sh_179 (Nat.le_of_ble_eq_true rfl)) (fun z23 s22 hz23 hz23p hs22 => ?_)
      rw [wq_k hk16] at hz23p
      obtain ⟨hf24, he25⟩ := hs22
      have hF26 := Fr_tr (lo := 179) (hi := 191) hF15 hf24 (by omega)
      have hk27 : s22 (180) = σ (180) := (hf24 (180) (by omega)).trans hk16
      have hk28 : s22 (183) = σ (183) := (hf24 (183) (by omega)).trans hk17
      have hk29 : s22 (184) = σ (184) := (hf24 (184) (by omega)).trans hk18
      have hg30 : ∀ a, a ≠ 5 → a ≠ 7 → a ≠ 10 → ra_g s22 179 a = ra_g σ 179 a := fun a h5 h7 h10 => ((fun a h7 h10 => he25 a h7) a h7 h10).trans (hg19 a h5 h7 h10)
      have ho31 : ∀ a, a ≠ 7 → a ≠ 10 → ra_g s22 179 a = ra_g σ 179 a := fun a h7 h10 => ((fun a h7 h10 => he25 a h7) a h7 h10).trans (ho20 a h7 h10)
      refine ra_ifeq rfl rfl (ra_in01 hz23) (fun h32 => ?_) (fun h32 => ?_)
      · refine ra_load rfl rfl rfl rfl ?_
        have hp := hz23p (by omega)
        have hst := hz10p.mpr hp
        have hq := WF_p hw hp.1 hp.2.1 hp.2.2
        refine ra_cV (sp_196 (WF_k hk27 hw) (PW_k hpw (ho31 5 (by decide) (by decide)) hk29)) rfl (ct_196 rfl lk_8_366 (Or.inl rfl) sh_179 (Nat.le_of_ble_eq_true rfl)) (fun s33 hs33 => ?_)
        obtain ⟨hf34, hc35, hc36, hc37, hc38, he39, he40⟩ := hs33
        have hF41 := Fr_tr (lo := 179) (hi := 191) hF26 hf34 (by omega)
        have hk42 : s33 (180) = σ (180) := hc35.trans hk27
        have hk43 : s33 (183) = σ (183) := hc38.trans hk28
        have hg44 : ∀ a, a ≠ 5 → a ≠ 7 → a ≠ 10 → ra_g s33 179 a = ra_g σ 179 a := fun a h5 h7 h10 => ((fun a h5 h7 h10 => he39 a h5) a h5 h7 h10).trans (hg30 a h5 h7 h10)
        refine ra_load rfl rfl rfl rfl ?_
        refine ra_load rfl rfl rfl rfl ?_
        refine ra_iconst rfl ?_
        refine ra_iconst rfl ?_
        refine ra_cV (sp_200 hx0 (by first | omega | (unfold ra_in at *; omega)) (by first | omega | (unfold ra_in at *; omega)) (by first | assumption | rfl | omega)) rfl (ct_200 rfl lk_8_78 (Or.inl rfl) sh_179 (Nat.le_of_ble_eq_true rfl)) (fun s45 hs45 => ?_)
        obtain ⟨hf46, he47, he48⟩ := hs45
        have hF49 := Fr_tr (lo := 179) (hi := 191) hF41 hf46 (by omega)
        have hk50 : s45 (183) = σ (183) := (hf46 (183) (by omega)).trans hk43
        have hg51 : ∀ a, a ≠ 5 → a ≠ 7 → a ≠ 10 → ra_g s45 179 a = ra_g σ 179 a := fun a h5 h7 h10 => (ra_gk (hf46 179 (by omega))).trans (hg44 a h5 h7 h10)
        refine ra_load rfl rfl rfl rfl ?_
        refine ra_load rfl rfl rfl rfl ?_
        refine ra_iconst rfl ?_
        refine ra_cTp (sp_199 hx0 (by first | omega | (unfold ra_in at *; omega)) (by first | assumption | rfl | omega)) rfl (ct_199 rfl lk_8_67 (Or.inl rfl) sh_179 (Nat.le_of_ble_eq_true rfl)) ?_
        have hr53 : ra_in (wq s45 x0 (2)) := (ra_in_wq _ _ _)
        exact ra_ireturn rfl rfl ⟨⟨_, hr53, rfl⟩, ⟨hF49, hk50, hg51, (by first | (exfalso; omega) | exact WF_chg (p := x0) (WF_k hk42 hw) ⟨by omega, by omega⟩ (fun a ha hn => he48 a (by omega)) (by rw [ra_gk hk42]; exact hfx.2) (Or.inl he47)), (PW_k he40 (ra_gk (hf46 179 (by omega))) (hf46 184 (by omega)))⟩⟩
      · refine ra_iconst rfl ?_
        exact ra_ireturn rfl rfl ⟨⟨_, (by first | omega | (unfold ra_in at *; omega)), rfl⟩, ⟨hF26, hk28, hg30, (WF_k hk27 hw), (PW_k hpw (ho31 5 (by decide) (by decide)) hk29)⟩⟩
  · refine ra_load rfl rfl rfl rfl ?_
    refine ra_load rfl rfl rfl rfl ?_
    refine ra_cQPp (sp_205 hx0 (by first | assumption | rfl | omega)) rfl (ct_205 rfl lk_8_355 (Or.inl rfl) sh_179 (Nat.le_of_ble_eq_true rfl)) (fun z55 hz55 hz55p => ?_)
    refine ra_ifeq rfl rfl (ra_in01 hz55) (fun h56 => ?_) (fun h56 => ?_)
    · refine ra_iconst rfl ?_
      refine ra_iconst rfl ?_
      refine ra_cT (sp_193 (Or.inl rfl) (by first | omega | (unfold ra_in at *; omega))) rfl (ct_193 rfl lk_8_303 (Or.inl rfl) sh_179 (Nat.le_of_ble_eq_true rfl)) (fun s57 hs57 => ?_)
      obtain ⟨hf58, he59⟩ := hs57
      have hF60 := Fr_tr (lo := 179) (hi := 191) hF3 hf58 (by omega)
      have hk61 : s57 (180) = σ (180) := (hf58 (180) (by omega)).trans hk4
      have hk62 : s57 (183) = σ (183) := (hf58 (183) (by omega)).trans hk5
      have hk63 : s57 (184) = σ (184) := (hf58 (184) (by omega)).trans hk6
      have hg64 : ∀ a, a ≠ 5 → a ≠ 7 → a ≠ 10 → ra_g s57 179 a = ra_g σ 179 a := fun a h5 h7 h10 => ((fun a h7 h10 => he59 a h7) a h7 h10).trans (hg7 a h5 h7 h10)
      have ho65 : ∀ a, a ≠ 7 → a ≠ 10 → ra_g s57 179 a = ra_g σ 179 a := fun a h7 h10 => ((fun a h7 h10 => he59 a h7) a h7 h10).trans (ho8 a h7 h10)
      refine ra_ifne rfl rfl (by first | omega | (unfold ra_in at *; omega)) (fun h66 => ?_) (fun h66 => ?_)
      · exact absurd h66 (by decide)
      · refine ra_load rfl rfl rfl rfl ?_
        refine ra_load rfl rfl rfl rfl ?_
        refine ra_iconst rfl ?_
        refine ra_cQP (sp_267 hx0 (by first | omega | (unfold ra_in at *; omega))) rfl (ct_267 rfl lk_8_318 (Or.inl rfl) sh_179 (Nat.le_of_ble_eq_true rfl)) (fun z68 s67 hz68 hz68p hs67 => ?_)
        rw [wq_k hk61] at hz68p
        obtain ⟨hf69, he70⟩ := hs67
        have hF71 := Fr_tr (lo := 179) (hi := 191) hF60 hf69 (by omega)
        have hk72 : s67 (180) = σ (180) := (hf69 (180) (by omega)).trans hk61
        have hk73 : s67 (183) = σ (183) := (hf69 (183) (by omega)).trans hk62
        have hk74 : s67 (184) = σ (184) := (hf69 (184) (by omega)).trans hk63
        have hg75 : ∀ a, a ≠ 5 → a ≠ 7 → a ≠ 10 → ra_g s67 179 a = ra_g σ 179 a := fun a h5 h7 h10 => ((fun a h7 h10 => he70 a h7) a h7 h10).trans (hg64 a h5 h7 h10)
        have ho76 : ∀ a, a ≠ 7 → a ≠ 10 → ra_g s67 179 a = ra_g σ 179 a := fun a h7 h10 => ((fun a h7 h10 => he70 a h7) a h7 h10).trans (ho65 a h7 h10)
        refine ra_ifeq rfl rfl (ra_in01 hz68) (fun h77 => ?_) (fun h77 => ?_)
        · refine ra_load rfl rfl rfl rfl ?_
          have hp := hz68p (by omega)
          have hst := hz10p.mpr hp
          have hfx := hz55p (by omega)
          rw [wq_k hk4, ra_gk hk4] at hfx
          have hq := WF_p hw hp.1 hp.2.1 hp.2.2
          refine ra_cV (sp_196 (WF_k hk72 hw) (PW_k hpw (ho76 5 (by decide) (by decide)) hk74)) rfl (ct_196 rfl lk_8_366 (Or.inl rfl) sh_179 (Nat.le_of_ble_eq_true rfl)) (fun s78 hs78 => ?_)
          obtain ⟨hf79, hc80, hc81, hc82, hc83, he84, he85⟩ := hs78
          have hF86 := Fr_tr (lo := 179) (hi := 191) hF71 hf79 (by omega)
          have hk87 : s78 (180) = σ (180) := hc80.trans hk72
          have hk88 : s78 (183) = σ (183) := hc83.trans hk73
          have hg89 : ∀ a, a ≠ 5 → a ≠ 7 → a ≠ 10 → ra_g s78 179 a = ra_g σ 179 a := fun a h5 h7 h10 => ((fun a h5 h7 h10 => he84 a h5) a h5 h7 h10).trans (hg75 a h5 h7 h10)
          refine ra_load rfl rfl rfl rfl ?_
          refine ra_load rfl rfl rfl rfl ?_
          refine ra_iconst rfl ?_
          refine ra_iconst rfl ?_
          refine ra_cV (sp_200 hx0 (by first | omega | (unfold ra_in at *; omega)) (by first | omega | (unfold ra_in at *; omega)) (by first | assumption | rfl | omega)) rfl (ct_200 rfl lk_8_78 (Or.inl rfl) sh_179 (Nat.le_of_ble_eq_true rfl)) (fun s90 hs90 => ?_)
          obtain ⟨hf91, he92, he93⟩ := hs90
          have hF94 := Fr_tr (lo := 179) (hi := 191) hF86 hf91 (by omega)
          have hk95 : s90 (183) = σ (183) := (hf91 (183) (by omega)).trans hk88
          have hg96 : ∀ a, a ≠ 5 → a ≠ 7 → a ≠ 10 → ra_g s90 179 a = ra_g σ 179 a := fun a h5 h7 h10 => (ra_gk (hf91 179 (by omega))).trans (hg89 a h5 h7 h10)
          refine ra_load rfl rfl rfl rfl ?_
          refine ra_load rfl rfl rfl rfl ?_
          refine ra_iconst rfl ?_
          refine ra_cTp (sp_199 hx0 (by first | omega | (unfold ra_in at *; omega)) (by first | assumption | rfl | omega)) rfl (ct_199 rfl lk_8_67 (Or.inl rfl) sh_179 (Nat.le_of_ble_eq_true rfl)) ?_
          have hr98 : ra_in (wq s90 x0 (2)) := (ra_in_wq _ _ _)
          exact ra_ireturn rfl rfl ⟨⟨_, hr98, rfl⟩, ⟨hF94, hk95, hg96, (by first | (exfalso; omega) | exact WF_chg (p := x0) (WF_k hk87 hw) ⟨by omega, by omega⟩ (fun a ha hn => he93 a (by omega)) (by rw [ra_gk hk87]; exact hfx.2) (Or.inl he92)), (PW_k he85 (ra_gk (hf91 179 (by omega))) (hf91 184 (by omega)))⟩⟩
        · refine ra_iconst rfl ?_
          exact ra_ireturn rfl rfl ⟨⟨_, (by first | omega | (unfold ra_in at *; omega)), rfl⟩, ⟨hF71, hk73, hg75, (WF_k hk72 hw), (PW_k hpw (ho76 5 (by decide) (by decide)) hk74)⟩⟩
    · refine ra_iconst rfl ?_
      refine ra_goto rfl rfl ?_
      refine ra_iconst rfl ?_
      refine ra_cT (sp_193 (Or.inr rfl) (by first | omega | (unfold ra_in at *; omega))) rfl (ct_193 rfl lk_8_303 (Or.inl rfl) sh_179 (Nat.le_of_ble_eq_true rfl)) (fun s99 hs99 => ?_)
      obtain ⟨hf100, he101⟩ := hs99
      have hF102 := Fr_tr (lo := 179) (hi := 191) hF3 hf100 (by omega)
      have hk103 : s99 (180) = σ (180) := (hf100 (180) (by omega)).trans hk4
      have hk104 : s99 (183) = σ (183) := (hf100 (183) (by omega)).trans hk5
      have hk105 : s99 (184) = σ (184) := (hf100 (184) (by omega)).trans hk6
      have hg106 : ∀ a, a ≠ 5 → a ≠ 7 → a ≠ 10 → ra_g s99 179 a = ra_g σ 179 a := fun a h5 h7 h10 => ((fun a h7 h10 => he101 a h7) a h7 h10).trans (hg7 a h5 h7 h10)
      have ho107 : ∀ a, a ≠ 7 → a ≠ 10 → ra_g s99 179 a = ra_g σ 179 a := fun a h7 h10 => ((fun a h7 h10 => he101 a h7) a h7 h10).trans (ho8 a h7 h10)
      refine ra_ifne rfl rfl (by first | omega | (unfold ra_in at *; omega)) (fun h108 => ?_) (fun h108 => ?_)
      · refine ra_iconst rfl ?_
        exact ra_ireturn rfl rfl ⟨⟨_, (by first | omega | (unfold ra_in at *; omega)), rfl⟩, ⟨hF102, hk104, hg106, (WF_k hk103 hw), (PW_k hpw (ho107 5 (by decide) (by decide)) hk105)⟩⟩
      · exact absurd h108 (by decide)
theorem sp_306 {n : Nat} {f : Nat → Int32} {d : Nat} {x0 : Int} {x1 : Int} {σ : ra_V} (hx0 : ra_in x0) (hx1 : ra_in x1) (hw : WF σ) (hpw : PW σ) : ra_C (g_Gs n f) g_sh 0 (d + 4) 306 [.index (179), ra_I x0, ra_I x1] σ (fun r s => rI r ∧ Fr (179) (191) σ s ∧ s (183) = σ (183) ∧ (∀ a, a ≠ 5 → a ≠ 7 → a ≠ 10 → ra_g s 179 a = ra_g σ 179 a) ∧ WF s ∧ PW s) := by
  refine ra_enter (nn := 1) mt_306 rfl (Nat.le_of_ble_eq_true rfl) rfl (fun h => absurd h (by decide +kernel)) ?_
  have hw0 := WF_a hw
  unfold WFa at hw0
  refine ra_load rfl rfl rfl rfl ?_
  refine ra_iconst rfl ?_
  refine ra_putI rfl lk_8_51 (Nat.zero_le _) sh_179 rfl rfl ?_
  refine ra_newU (by first | omega | (unfold ra_in at *; omega)) (fun s1 hs1 hp2 hp2o => ?_)
  have hp2_99 := hp2o 99 (by decide)
  have hF3 := Fr_tr (lo := 179) (hi := 191) Fr_rf hs1 (by omega)
  have hk4 : s1 (180) = σ (180) := (hs1 (180) (by omega))
  have hk5 : s1 (183) = σ (183) := (hs1 (183) (by omega))
  have hk6 : s1 (184) = σ (184) := (hs1 (184) (by omega))
  have hg7 : ∀ a, a ≠ 5 → a ≠ 7 → a ≠ 10 → ra_g s1 179 a = ra_g σ 179 a := fun a h5 h7 h10 => ((fun a h7 h10 => hp2o a h7) a h7 h10).trans ((fun _ _ _ _ => rfl) a h5 h7 h10)
  have ho8 : ∀ a, a ≠ 7 → a ≠ 10 → ra_g s1 179 a = ra_g σ 179 a := fun a h7 h10 => ((fun a h7 h10 => hp2o a h7) a h7 h10).trans ((fun _ _ _ => rfl) a h7 h10)
  refine ra_load rfl rfl rfl rfl ?_
  refine ra_load rfl rfl rfl rfl ?_
  refine ra_load rfl rfl rfl rfl ?_
  refine ra_cQPp (sp_201 hx0) rfl (ct_201 rfl lk_8_313 (Or.inl rfl) sh_179 (Nat.le_of_ble_eq_true rfl)) (fun z10 hz10 hz10p => ?_)
  rw [wq_k hk4] at hz10p
  refine ra_ifeq rfl rfl (ra_in01 hz10) (fun h11 => ?_) (fun h11 => ?_)
  · refine ra_iconst rfl ?_
    refine ra_iconst rfl ?_
    refine ra_cT (sp_193 (Or.inl rfl) (by first | omega | (unfold ra_in at *; omega))) rfl (ct_193 rfl lk_8_303 (Or.inl rfl) sh_179 (Nat.le_of_ble_eq_true rfl)) (fun s12 hs12 => ?_)
    obtain ⟨hf13, he14⟩ := hs12
    have hF15 := Fr_tr (lo := 179) (hi := 191) hF3 hf13 (by omega)
    have hk16 : s12 (180) = σ (180) := (hf13 (180) (by omega)).trans hk4
    have hk17 : s12 (183) = σ (183) := (hf13 (183) (by omega)).trans hk5
    have hk18 : s12 (184) = σ (184) := (hf13 (184) (by omega)).trans hk6
    have hg19 : ∀ a, a ≠ 5 → a ≠ 7 → a ≠ 10 → ra_g s12 179 a = ra_g σ 179 a := fun a h5 h7 h10 => ((fun a h7 h10 => he14 a h7) a h7 h10).trans (hg7 a h5 h7 h10)
    have ho20 : ∀ a, a ≠ 7 → a ≠ 10 → ra_g s12 179 a = ra_g σ 179 a := fun a h7 h10 => ((fun a h7 h10 => he14 a h7) a h7 h10).trans (ho8 a h7 h10)
    refine ra_ifne rfl rfl (by first | omega | (unfold ra_in at *; omega)) (fun h21 => ?_) (fun h21 => ?_)
    · exact absurd h21 (by decide)
    · refine ra_load rfl rfl rfl rfl ?_
      refine ra_load rfl rfl rfl rfl ?_
      refine ra_iconst rfl ?_
      refine ra_cQP (sp_267 hx0 (by first | omega | (unfold ra_in at *; omega))) rfl (ct_267 rfl lk_8_318 (Or.inl rfl) sh_179 (Nat.le_of_ble_eq_true rfl)) (fun z23 s22 hz23 hz23p hs22 => ?_)
      rw [wq_k hk16] at hz23p
      obtain ⟨hf24, he25⟩ := hs22
      have hF26 := Fr_tr (lo := 179) (hi := 191) hF15 hf24 (by omega)
      have hk27 : s22 (180) = σ (180) := (hf24 (180) (by omega)).trans hk16
      have hk28 : s22 (183) = σ (183) := (hf24 (183) (by omega)).trans hk17
      have hk29 : s22 (184) = σ (184) := (hf24 (184) (by omega)).trans hk18
      have hg30 : ∀ a, a ≠ 5 → a ≠ 7 → a ≠ 10 → ra_g s22 179 a = ra_g σ 179 a := fun a h5 h7 h10 => ((fun a h7 h10 => he25 a h7) a h7 h10).trans (hg19 a h5 h7 h10)
      have ho31 : ∀ a, a ≠ 7 → a ≠ 10 → ra_g s22 179 a = ra_g σ 179 a := fun a h7 h10 => ((fun a h7 h10 => he25 a h7) a h7 h10).trans (ho20 a h7 h10)
      refine ra_ifeq rfl rfl (ra_in01 hz23) (fun h32 => ?_) (fun h32 => ?_)
      · refine ra_load rfl rfl rfl rfl ?_
        have hp := hz23p (by omega)
        have hst := hz10p.mpr hp
        have hq := WF_p hw hp.1 hp.2.1 hp.2.2
        refine ra_cV (sp_196 (WF_k hk27 hw) (PW_k hpw (ho31 5 (by decide) (by decide)) hk29)) rfl (ct_196 rfl lk_8_366 (Or.inl rfl) sh_179 (Nat.le_of_ble_eq_true rfl)) (fun s33 hs33 => ?_)
        obtain ⟨hf34, hc35, hc36, hc37, hc38, he39, he40⟩ := hs33
        have hF41 := Fr_tr (lo := 179) (hi := 191) hF26 hf34 (by omega)
        have hk42 : s33 (180) = σ (180) := hc35.trans hk27
        have hk43 : s33 (183) = σ (183) := hc38.trans hk28
        have hg44 : ∀ a, a ≠ 5 → a ≠ 7 → a ≠ 10 → ra_g s33 179 a = ra_g σ 179 a := fun a h5 h7 h10 => ((fun a h5 h7 h10 => he39 a h5) a h5 h7 h10).trans (hg30 a h5 h7 h10)
        refine ra_load rfl rfl rfl rfl ?_
        refine ra_load rfl rfl rfl rfl ?_
        refine ra_iconst rfl ?_
        refine ra_cTp (sp_199 hx0 (by first | omega | (unfold ra_in at *; omega)) (by first | assumption | rfl | omega)) rfl (ct_199 rfl lk_8_67 (Or.inl rfl) sh_179 (Nat.le_of_ble_eq_true rfl)) ?_
        rw [wq_k hk42]
        have hr46 : ra_in (wq σ x0 (3)) := (ra_in_wq _ _ _)
        refine ra_store (L' := [_, _, _, _]) rfl rfl rfl (Nat.le_of_ble_eq_true rfl) rfl ?_
        refine ra_load rfl rfl rfl rfl ?_
        refine ra_load rfl rfl rfl rfl ?_
        refine ra_iconst rfl ?_
        refine ra_load rfl rfl rfl rfl ?_
        refine ra_cV (sp_200 hx0 (by first | omega | (unfold ra_in at *; omega)) hx1 (by first | assumption | rfl | omega)) rfl (ct_200 rfl lk_8_78 (Or.inl rfl) sh_179 (Nat.le_of_ble_eq_true rfl)) (fun s47 hs47 => ?_)
        obtain ⟨hf48, he49, he50⟩ := hs47
        have hF51 := Fr_tr (lo := 179) (hi := 191) hF41 hf48 (by omega)
        have hk52 : s47 (183) = σ (183) := (hf48 (183) (by omega)).trans hk43
        have hg53 : ∀ a, a ≠ 5 → a ≠ 7 → a ≠ 10 → ra_g s47 179 a = ra_g σ 179 a := fun a h5 h7 h10 => (ra_gk (hf48 179 (by omega))).trans (hg44 a h5 h7 h10)
        refine ra_load rfl rfl rfl rfl ?_
        exact ra_ireturn rfl rfl ⟨⟨_, hr46, rfl⟩, ⟨hF51, hk52, hg53, (by first | (exfalso; omega) | exact WF_mn (p := x0) (WF_k hk42 hw) ⟨by omega, by omega⟩ (fun a hn => he50 a hn) (by have t := he49; rw [wq_k hk42]; omega)), (PW_k he40 (ra_gk (hf48 179 (by omega))) (hf48 184 (by omega)))⟩⟩
      · refine ra_iconst rfl ?_
        exact ra_ireturn rfl rfl ⟨⟨_, (by first | omega | (unfold ra_in at *; omega)), rfl⟩, ⟨hF26, hk28, hg30, (WF_k hk27 hw), (PW_k hpw (ho31 5 (by decide) (by decide)) hk29)⟩⟩
  · refine ra_load rfl rfl rfl rfl ?_
    refine ra_i2l rfl hx1 ?_
    refine ra_lconst1 rfl ?_
    refine ra_load rfl rfl rfl rfl ?_
    refine ra_load rfl rfl rfl rfl ?_
    refine ra_iconst rfl ?_
    refine ra_cTp (sp_199 hx0 (by first | omega | (unfold ra_in at *; omega)) (by first | assumption | rfl | omega)) rfl (ct_199 rfl lk_8_67 (Or.inl rfl) sh_179 (Nat.le_of_ble_eq_true rfl)) ?_
    rw [wq_k hk4]
    have hr55 : ra_in (wq σ x0 (2)) := (ra_in_wq _ _ _)
    refine ra_i2l rfl hr55 ?_
    refine ra_cTp (sp_192 hx1 (by first | omega | (unfold ra_in at *; omega)) hr55) rfl (ct_192 rfl lk_8_63 (Or.inl rfl) (Nat.le_of_ble_eq_true rfl)) ?_
    refine ra_ifneB rfl rfl (fun h57 => ?_) (fun h57 => ?_)
    · refine ra_iconst rfl ?_
      refine ra_iconst rfl ?_
      refine ra_cT (sp_193 (Or.inl rfl) (by first | omega | (unfold ra_in at *; omega))) rfl (ct_193 rfl lk_8_303 (Or.inl rfl) sh_179 (Nat.le_of_ble_eq_true rfl)) (fun s58 hs58 => ?_)
      obtain ⟨hf59, he60⟩ := hs58
      have hF61 := Fr_tr (lo := 179) (hi := 191) hF3 hf59 (by omega)
      have hk62 : s58 (180) = σ (180) := (hf59 (180) (by omega)).trans hk4
      have hk63 : s58 (183) = σ (183) := (hf59 (183) (by omega)).trans hk5
      have hk64 : s58 (184) = σ (184) := (hf59 (184) (by omega)).trans hk6
      have hg65 : ∀ a, a ≠ 5 → a ≠ 7 → a ≠ 10 → ra_g s58 179 a = ra_g σ 179 a := fun a h5 h7 h10 => ((fun a h7 h10 => he60 a h7) a h7 h10).trans (hg7 a h5 h7 h10)
      have ho66 : ∀ a, a ≠ 7 → a ≠ 10 → ra_g s58 179 a = ra_g σ 179 a := fun a h7 h10 => ((fun a h7 h10 => he60 a h7) a h7 h10).trans (ho8 a h7 h10)
      refine ra_ifne rfl rfl (by first | omega | (unfold ra_in at *; omega)) (fun h67 => ?_) (fun h67 => ?_)
      · exact absurd h67 (by decide)
      · refine ra_load rfl rfl rfl rfl ?_
        refine ra_load rfl rfl rfl rfl ?_
        refine ra_iconst rfl ?_
        refine ra_cQP (sp_267 hx0 (by first | omega | (unfold ra_in at *; omega))) rfl (ct_267 rfl lk_8_318 (Or.inl rfl) sh_179 (Nat.le_of_ble_eq_true rfl)) (fun z69 s68 hz69 hz69p hs68 => ?_)
        rw [wq_k hk62] at hz69p
        obtain ⟨hf70, he71⟩ := hs68
        have hF72 := Fr_tr (lo := 179) (hi := 191) hF61 hf70 (by omega)
        have hk73 : s68 (180) = σ (180) := (hf70 (180) (by omega)).trans hk62
        have hk74 : s68 (183) = σ (183) := (hf70 (183) (by omega)).trans hk63
        have hk75 : s68 (184) = σ (184) := (hf70 (184) (by omega)).trans hk64
        have hg76 : ∀ a, a ≠ 5 → a ≠ 7 → a ≠ 10 → ra_g s68 179 a = ra_g σ 179 a := fun a h5 h7 h10 => ((fun a h7 h10 => he71 a h7) a h7 h10).trans (hg65 a h5 h7 h10)
        have ho77 : ∀ a, a ≠ 7 → a ≠ 10 → ra_g s68 179 a = ra_g σ 179 a := fun a h7 h10 => ((fun a h7 h10 => he71 a h7) a h7 h10).trans (ho66 a h7 h10)
        refine ra_ifeq rfl rfl (ra_in01 hz69) (fun h78 => ?_) (fun h78 => ?_)
        · refine ra_load rfl rfl rfl rfl ?_
          have hp := hz69p (by omega)
          have hst := hz10p.mpr hp
          have hq := WF_p hw hp.1 hp.2.1 hp.2.2
          refine ra_cV (sp_196 (WF_k hk73 hw) (PW_k hpw (ho77 5 (by decide) (by decide)) hk75)) rfl (ct_196 rfl lk_8_366 (Or.inl rfl) sh_179 (Nat.le_of_ble_eq_true rfl)) (fun s79 hs79 => ?_)
          obtain ⟨hf80, hc81, hc82, hc83, hc84, he85, he86⟩ := hs79
          have hF87 := Fr_tr (lo := 179) (hi := 191) hF72 hf80 (by omega)
          have hk88 : s79 (180) = σ (180) := hc81.trans hk73
          have hk89 : s79 (183) = σ (183) := hc84.trans hk74
          have hg90 : ∀ a, a ≠ 5 → a ≠ 7 → a ≠ 10 → ra_g s79 179 a = ra_g σ 179 a := fun a h5 h7 h10 => ((fun a h5 h7 h10 => he85 a h5) a h5 h7 h10).trans (hg76 a h5 h7 h10)
          refine ra_load rfl rfl rfl rfl ?_
          refine ra_load rfl rfl rfl rfl ?_
          refine ra_iconst rfl ?_
          refine ra_cTp (sp_199 hx0 (by first | omega | (unfold ra_in at *; omega)) (by first | assumption | rfl | omega)) rfl (ct_199 rfl lk_8_67 (Or.inl rfl) sh_179 (Nat.le_of_ble_eq_true rfl)) ?_
          rw [wq_k hk88]
          have hr92 : ra_in (wq σ x0 (3)) := (ra_in_wq _ _ _)
          refine ra_store (L' := [_, _, _, _]) rfl rfl rfl (Nat.le_of_ble_eq_true rfl) rfl ?_
          refine ra_load rfl rfl rfl rfl ?_
          refine ra_load rfl rfl rfl rfl ?_
          refine ra_iconst rfl ?_
          refine ra_load rfl rfl rfl rfl ?_
          refine ra_cV (sp_200 hx0 (by first | omega | (unfold ra_in at *; omega)) hx1 (by first | assumption | rfl | omega)) rfl (ct_200 rfl lk_8_78 (Or.inl rfl) sh_179 (Nat.le_of_ble_eq_true rfl)) (fun s93 hs93 => ?_)
          obtain ⟨hf94, he95, he96⟩ := hs93
          have hF97 := Fr_tr (lo := 179) (hi := 191) hF87 hf94 (by omega)
          have hk98 : s93 (183) = σ (183) := (hf94 (183) (by omega)).trans hk89
          have hg99 : ∀ a, a ≠ 5 → a ≠ 7 → a ≠ 10 → ra_g s93 179 a = ra_g σ 179 a := fun a h5 h7 h10 => (ra_gk (hf94 179 (by omega))).trans (hg90 a h5 h7 h10)
          refine ra_load rfl rfl rfl rfl ?_
          exact ra_ireturn rfl rfl ⟨⟨_, hr92, rfl⟩, ⟨hF97, hk98, hg99, (by first | (exfalso; omega) | exact WF_mn (p := x0) (WF_k hk88 hw) ⟨by omega, by omega⟩ (fun a hn => he96 a hn) (by have t := he95; rw [wq_k hk88]; omega)), (PW_k he86 (ra_gk (hf94 179 (by omega))) (hf94 184 (by omega)))⟩⟩
        · refine ra_iconst rfl ?_
          exact ra_ireturn rfl rfl ⟨⟨_, (by first | omega | (unfold ra_in at *; omega)), rfl⟩, ⟨hF72, hk74, hg76, (WF_k hk73 hw), (PW_k hpw (ho77 5 (by decide) (by decide)) hk75)⟩⟩
    · refine ra_iconst rfl ?_
      refine ra_goto rfl rfl ?_
      refine ra_iconst rfl ?_
      refine ra_cT (sp_193 (Or.inr rfl) (by first | omega | (unfold ra_in at *; omega))) rfl (ct_193 rfl lk_8_303 (Or.inl rfl) sh_179 (Nat.le_of_ble_eq_true rfl)) (fun s100 hs100 => ?_)
      obtain ⟨hf101, he102⟩ := hs100
      have hF103 := Fr_tr (lo := 179) (hi := 191) hF3 hf101 (by omega)
      have hk104 : s100 (180) = σ (180) := (hf101 (180) (by omega)).trans hk4
      have hk105 : s100 (183) = σ (183) := (hf101 (183) (by omega)).trans hk5
      have hk106 : s100 (184) = σ (184) := (hf101 (184) (by omega)).trans hk6
      have hg107 : ∀ a, a ≠ 5 → a ≠ 7 → a ≠ 10 → ra_g s100 179 a = ra_g σ 179 a := fun a h5 h7 h10 => ((fun a h7 h10 => he102 a h7) a h7 h10).trans (hg7 a h5 h7 h10)
      have ho108 : ∀ a, a ≠ 7 → a ≠ 10 → ra_g s100 179 a = ra_g σ 179 a := fun a h7 h10 => ((fun a h7 h10 => he102 a h7) a h7 h10).trans (ho8 a h7 h10)
      refine ra_ifne rfl rfl (by first | omega | (unfold ra_in at *; omega)) (fun h109 => ?_) (fun h109 => ?_)
      · refine ra_iconst rfl ?_
        exact ra_ireturn rfl rfl ⟨⟨_, (by first | omega | (unfold ra_in at *; omega)), rfl⟩, ⟨hF103, hk105, hg107, (WF_k hk104 hw), (PW_k hpw (ho108 5 (by decide) (by decide)) hk106)⟩⟩
      · exact absurd h109 (by decide)
theorem sp_314 {n : Nat} {f : Nat → Int32} {d : Nat} {x0 : Int} {x1 : Int} {σ : ra_V} (hx0 : ra_in x0) (hx1 : ra_in x1) (hw : WF σ) (hpw : PW σ) : ra_C (g_Gs n f) g_sh 0 (d + 3) 314 [.index (179), ra_I x0, ra_I x1] σ (fun r s => rI r ∧ Fr (179) (191) σ s ∧ s (183) = σ (183) ∧ (∀ a, a ≠ 5 → a ≠ 7 → a ≠ 10 → ra_g s 179 a = ra_g σ 179 a) ∧ WF s ∧ PW s) := by
  refine ra_enter (nn := 1) mt_314 rfl (Nat.le_of_ble_eq_true rfl) rfl (fun h => absurd h (by decide +kernel)) ?_
  have hw0 := WF_a hw
  unfold WFa at hw0
  refine ra_load rfl rfl rfl rfl ?_
  refine ra_iconst rfl ?_
  refine ra_putI rfl lk_8_51 (Nat.zero_le _) sh_179 rfl rfl ?_
  refine ra_newU (by first | omega | (unfold ra_in at *; omega)) (fun s1 hs1 hp2 hp2o => ?_)
  have hp2_99 := hp2o 99 (by decide)
  have hF3 := Fr_tr (lo := 179) (hi := 191) Fr_rf hs1 (by omega)
  have hk4 : s1 (180) = σ (180) := (hs1 (180) (by omega))
  have hk5 : s1 (183) = σ (183) := (hs1 (183) (by omega))
  have hk6 : s1 (184) = σ (184) := (hs1 (184) (by omega))
  have hg7 : ∀ a, a ≠ 5 → a ≠ 7 → a ≠ 10 → ra_g s1 179 a = ra_g σ 179 a := fun a h5 h7 h10 => ((fun a h7 h10 => hp2o a h7) a h7 h10).trans ((fun _ _ _ _ => rfl) a h5 h7 h10)
  have ho8 : ∀ a, a ≠ 7 → a ≠ 10 → ra_g s1 179 a = ra_g σ 179 a := fun a h7 h10 => ((fun a h7 h10 => hp2o a h7) a h7 h10).trans ((fun _ _ _ => rfl) a h7 h10)
  refine ra_load rfl rfl rfl rfl ?_
  refine ra_load rfl rfl rfl rfl ?_
  refine ra_iconst rfl ?_
  refine ra_icne rfl rfl hx0 (by first | omega | (unfold ra_in at *; omega)) (fun h9 => ?_) (fun h9 => ?_)
  · refine ra_load rfl rfl rfl rfl ?_
    refine ra_iconst rfl ?_
    refine ra_icne rfl rfl hx0 (by first | omega | (unfold ra_in at *; omega)) (fun h10 => ?_) (fun h10 => ?_)
    · refine ra_iconst rfl ?_
      refine ra_goto rfl rfl ?_
      refine ra_iconst rfl ?_
      refine ra_cT (sp_193 (Or.inr rfl) (by first | omega | (unfold ra_in at *; omega))) rfl (ct_193 rfl lk_8_303 (Or.inl rfl) sh_179 (Nat.le_of_ble_eq_true rfl)) (fun s11 hs11 => ?_)
      obtain ⟨hf12, he13⟩ := hs11
      have hF14 := Fr_tr (lo := 179) (hi := 191) hF3 hf12 (by omega)
      have hk15 : s11 (180) = σ (180) := (hf12 (180) (by omega)).trans hk4
      have hk16 : s11 (183) = σ (183) := (hf12 (183) (by omega)).trans hk5
      have hk17 : s11 (184) = σ (184) := (hf12 (184) (by omega)).trans hk6
      have hg18 : ∀ a, a ≠ 5 → a ≠ 7 → a ≠ 10 → ra_g s11 179 a = ra_g σ 179 a := fun a h5 h7 h10 => ((fun a h7 h10 => he13 a h7) a h7 h10).trans (hg7 a h5 h7 h10)
      have ho19 : ∀ a, a ≠ 7 → a ≠ 10 → ra_g s11 179 a = ra_g σ 179 a := fun a h7 h10 => ((fun a h7 h10 => he13 a h7) a h7 h10).trans (ho8 a h7 h10)
      refine ra_ifeq rfl rfl (by first | omega | (unfold ra_in at *; omega)) (fun h20 => ?_) (fun h20 => ?_)
      · exact absurd h20 (by decide)
      · refine ra_iconst rfl ?_
        exact ra_ireturn rfl rfl ⟨⟨_, (by first | omega | (unfold ra_in at *; omega)), rfl⟩, ⟨hF14, hk16, hg18, (WF_k hk15 hw), (PW_k hpw (ho19 5 (by decide) (by decide)) hk17)⟩⟩
    · refine ra_load rfl rfl rfl rfl ?_
      refine ra_i2l rfl hx1 ?_
      refine ra_lconst1 rfl ?_
      refine ra_ldc2 (z := 16) rfl lk_8_386 (by decide) ?_
      refine ra_cTp (sp_192 hx1 (by first | omega | (unfold ra_in at *; omega)) (by first | omega | (unfold ra_in at *; omega))) rfl (ct_192 rfl lk_8_63 (Or.inl rfl) (Nat.le_of_ble_eq_true rfl)) ?_
      refine ra_ifneB rfl rfl (fun h22 => ?_) (fun h22 => ?_)
      · refine ra_iconst rfl ?_
        refine ra_iconst rfl ?_
        refine ra_cT (sp_193 (Or.inl rfl) (by first | omega | (unfold ra_in at *; omega))) rfl (ct_193 rfl lk_8_303 (Or.inl rfl) sh_179 (Nat.le_of_ble_eq_true rfl)) (fun s23 hs23 => ?_)
        obtain ⟨hf24, he25⟩ := hs23
        have hF26 := Fr_tr (lo := 179) (hi := 191) hF3 hf24 (by omega)
        have hk27 : s23 (180) = σ (180) := (hf24 (180) (by omega)).trans hk4
        have hk28 : s23 (183) = σ (183) := (hf24 (183) (by omega)).trans hk5
        have hk29 : s23 (184) = σ (184) := (hf24 (184) (by omega)).trans hk6
        have hg30 : ∀ a, a ≠ 5 → a ≠ 7 → a ≠ 10 → ra_g s23 179 a = ra_g σ 179 a := fun a h5 h7 h10 => ((fun a h7 h10 => he25 a h7) a h7 h10).trans (hg7 a h5 h7 h10)
        have ho31 : ∀ a, a ≠ 7 → a ≠ 10 → ra_g s23 179 a = ra_g σ 179 a := fun a h7 h10 => ((fun a h7 h10 => he25 a h7) a h7 h10).trans (ho8 a h7 h10)
        refine ra_ifeq rfl rfl (by first | omega | (unfold ra_in at *; omega)) (fun h32 => ?_) (fun h32 => ?_)
        · refine ra_load rfl rfl rfl rfl ?_
          refine ra_cV (sp_196 (WF_k hk27 hw) (PW_k hpw (ho31 5 (by decide) (by decide)) hk29)) rfl (ct_196 rfl lk_8_366 (Or.inl rfl) sh_179 (Nat.le_of_ble_eq_true rfl)) (fun s33 hs33 => ?_)
          obtain ⟨hf34, hc35, hc36, hc37, hc38, he39, he40⟩ := hs33
          have hF41 := Fr_tr (lo := 179) (hi := 191) hF26 hf34 (by omega)
          have hk42 : s33 (180) = σ (180) := hc35.trans hk27
          have hk43 : s33 (183) = σ (183) := hc38.trans hk28
          have hg44 : ∀ a, a ≠ 5 → a ≠ 7 → a ≠ 10 → ra_g s33 179 a = ra_g σ 179 a := fun a h5 h7 h10 => ((fun a h5 h7 h10 => he39 a h5) a h5 h7 h10).trans (hg30 a h5 h7 h10)
          refine ra_load rfl rfl rfl rfl ?_
          refine ra_getR rfl lk_8_7 (Nat.zero_le _) sh_179 rfl ?_
          refine ra_load rfl rfl rfl rfl ?_
          refine ra_iaload rfl sh_180 rfl (by decide) (by first | omega | (unfold ra_in at *; omega)) (by first | omega | (unfold ra_in at *; omega)) ?_
          rw [ra_gk hk42]
          have hr45 : ra_in (ra_g σ (180) x0.toNat) := (ra_in_g _ _ _)
          refine ra_store (L' := [_, _, _, _]) rfl rfl rfl (Nat.le_of_ble_eq_true rfl) rfl ?_
          refine ra_load rfl rfl rfl rfl ?_
          refine ra_getR rfl lk_8_7 (Nat.zero_le _) sh_179 rfl ?_
          refine ra_load rfl rfl rfl rfl ?_
          refine ra_load rfl rfl rfl rfl ?_
          refine ra_iastore rfl sh_180 rfl (by decide) (by first | omega | (unfold ra_in at *; omega)) (by first | omega | (unfold ra_in at *; omega)) ?_
          refine ra_newR hx1 (fun s46 hs46 hs46v hs46o => ?_)
          have hF47 := Fr_tr (lo := 179) (hi := 191) hF41 hs46 (by omega)
          have hk48 : s46 (183) = σ (183) := (hs46 (183) (by omega)).trans hk43
          have hg49 : ∀ a, a ≠ 5 → a ≠ 7 → a ≠ 10 → ra_g s46 179 a = ra_g σ 179 a := fun a h5 h7 h10 => (ra_gk (hs46 179 (by omega))).trans (hg44 a h5 h7 h10)
          refine ra_load rfl rfl rfl rfl ?_
          exact ra_ireturn rfl rfl ⟨⟨_, hr45, rfl⟩, ⟨hF47, hk48, hg49, (Or.elim (show x0 = 3 ∨ x0 = 4 by omega) (fun e => by subst e; have t : ra_g s46 180 3 = x1 := hs46v; exact WF_set (j := 3) (WF_k hk42 hw) (Or.inl rfl) hs46o ⟨by omega, by omega, fun q => absurd q (by decide)⟩) (fun e => by subst e; have t : ra_g s46 180 4 = x1 := hs46v; exact WF_set (j := 4) (WF_k hk42 hw) (Or.inr rfl) hs46o ⟨by omega, by omega, fun _ => by omega⟩)), (PW_k he40 (ra_gk (hs46 179 (by omega))) (hs46 184 (by omega)))⟩⟩
        · exact absurd h32 (by decide)
      · refine ra_iconst rfl ?_
        refine ra_goto rfl rfl ?_
        refine ra_iconst rfl ?_
        refine ra_cT (sp_193 (Or.inr rfl) (by first | omega | (unfold ra_in at *; omega))) rfl (ct_193 rfl lk_8_303 (Or.inl rfl) sh_179 (Nat.le_of_ble_eq_true rfl)) (fun s50 hs50 => ?_)
        obtain ⟨hf51, he52⟩ := hs50
        have hF53 := Fr_tr (lo := 179) (hi := 191) hF3 hf51 (by omega)
        have hk54 : s50 (180) = σ (180) := (hf51 (180) (by omega)).trans hk4
        have hk55 : s50 (183) = σ (183) := (hf51 (183) (by omega)).trans hk5
        have hk56 : s50 (184) = σ (184) := (hf51 (184) (by omega)).trans hk6
        have hg57 : ∀ a, a ≠ 5 → a ≠ 7 → a ≠ 10 → ra_g s50 179 a = ra_g σ 179 a := fun a h5 h7 h10 => ((fun a h7 h10 => he52 a h7) a h7 h10).trans (hg7 a h5 h7 h10)
        have ho58 : ∀ a, a ≠ 7 → a ≠ 10 → ra_g s50 179 a = ra_g σ 179 a := fun a h7 h10 => ((fun a h7 h10 => he52 a h7) a h7 h10).trans (ho8 a h7 h10)
        refine ra_ifeq rfl rfl (by first | omega | (unfold ra_in at *; omega)) (fun h59 => ?_) (fun h59 => ?_)
        · exact absurd h59 (by decide)
        · refine ra_iconst rfl ?_
          exact ra_ireturn rfl rfl ⟨⟨_, (by first | omega | (unfold ra_in at *; omega)), rfl⟩, ⟨hF53, hk55, hg57, (WF_k hk54 hw), (PW_k hpw (ho58 5 (by decide) (by decide)) hk56)⟩⟩
  · refine ra_load rfl rfl rfl rfl ?_
    refine ra_i2l rfl hx1 ?_
    refine ra_lconst1 rfl ?_
    refine ra_ldc2 (z := 32) rfl lk_8_384 (by decide) ?_
    refine ra_cTp (sp_192 hx1 (by first | omega | (unfold ra_in at *; omega)) (by first | omega | (unfold ra_in at *; omega))) rfl (ct_192 rfl lk_8_63 (Or.inl rfl) (Nat.le_of_ble_eq_true rfl)) ?_
    refine ra_ifneB rfl rfl (fun h61 => ?_) (fun h61 => ?_)
    · refine ra_iconst rfl ?_
      refine ra_goto rfl rfl ?_
      refine ra_iconst rfl ?_
      refine ra_cT (sp_193 (Or.inl rfl) (by first | omega | (unfold ra_in at *; omega))) rfl (ct_193 rfl lk_8_303 (Or.inl rfl) sh_179 (Nat.le_of_ble_eq_true rfl)) (fun s62 hs62 => ?_)
      obtain ⟨hf63, he64⟩ := hs62
      have hF65 := Fr_tr (lo := 179) (hi := 191) hF3 hf63 (by omega)
      have hk66 : s62 (180) = σ (180) := (hf63 (180) (by omega)).trans hk4
      have hk67 : s62 (183) = σ (183) := (hf63 (183) (by omega)).trans hk5
      have hk68 : s62 (184) = σ (184) := (hf63 (184) (by omega)).trans hk6
      have hg69 : ∀ a, a ≠ 5 → a ≠ 7 → a ≠ 10 → ra_g s62 179 a = ra_g σ 179 a := fun a h5 h7 h10 => ((fun a h7 h10 => he64 a h7) a h7 h10).trans (hg7 a h5 h7 h10)
      have ho70 : ∀ a, a ≠ 7 → a ≠ 10 → ra_g s62 179 a = ra_g σ 179 a := fun a h7 h10 => ((fun a h7 h10 => he64 a h7) a h7 h10).trans (ho8 a h7 h10)
      refine ra_ifeq rfl rfl (by first | omega | (unfold ra_in at *; omega)) (fun h71 => ?_) (fun h71 => ?_)
      · refine ra_load rfl rfl rfl rfl ?_
        refine ra_cV (sp_196 (WF_k hk66 hw) (PW_k hpw (ho70 5 (by decide) (by decide)) hk68)) rfl (ct_196 rfl lk_8_366 (Or.inl rfl) sh_179 (Nat.le_of_ble_eq_true rfl)) (fun s72 hs72 => ?_)
        obtain ⟨hf73, hc74, hc75, hc76, hc77, he78, he79⟩ := hs72
        have hF80 := Fr_tr (lo := 179) (hi := 191) hF65 hf73 (by omega)
        have hk81 : s72 (180) = σ (180) := hc74.trans hk66
        have hk82 : s72 (183) = σ (183) := hc77.trans hk67
        have hg83 : ∀ a, a ≠ 5 → a ≠ 7 → a ≠ 10 → ra_g s72 179 a = ra_g σ 179 a := fun a h5 h7 h10 => ((fun a h5 h7 h10 => he78 a h5) a h5 h7 h10).trans (hg69 a h5 h7 h10)
        refine ra_load rfl rfl rfl rfl ?_
        refine ra_getR rfl lk_8_7 (Nat.zero_le _) sh_179 rfl ?_
        refine ra_load rfl rfl rfl rfl ?_
        refine ra_iaload rfl sh_180 rfl (by decide) (by first | omega | (unfold ra_in at *; omega)) (by first | omega | (unfold ra_in at *; omega)) ?_
        rw [ra_gk hk81]
        have hr84 : ra_in (ra_g σ (180) x0.toNat) := (ra_in_g _ _ _)
        refine ra_store (L' := [_, _, _, _]) rfl rfl rfl (Nat.le_of_ble_eq_true rfl) rfl ?_
        refine ra_load rfl rfl rfl rfl ?_
        refine ra_getR rfl lk_8_7 (Nat.zero_le _) sh_179 rfl ?_
        refine ra_load rfl rfl rfl rfl ?_
        refine ra_load rfl rfl rfl rfl ?_
        refine ra_iastore rfl sh_180 rfl (by decide) (by first | omega | (unfold ra_in at *; omega)) (by first | omega | (unfold ra_in at *; omega)) ?_
        refine ra_newR hx1 (fun s85 hs85 hs85v hs85o => ?_)
        have hF86 := Fr_tr (lo := 179) (hi := 191) hF80 hs85 (by omega)
        have hk87 : s85 (183) = σ (183) := (hs85 (183) (by omega)).trans hk82
        have hg88 : ∀ a, a ≠ 5 → a ≠ 7 → a ≠ 10 → ra_g s85 179 a = ra_g σ 179 a := fun a h5 h7 h10 => (ra_gk (hs85 179 (by omega))).trans (hg83 a h5 h7 h10)
        refine ra_load rfl rfl rfl rfl ?_
        exact ra_ireturn rfl rfl ⟨⟨_, hr84, rfl⟩, ⟨hF86, hk87, hg88, (Or.elim (show x0 = 3 ∨ x0 = 4 by omega) (fun e => by subst e; have t : ra_g s85 180 3 = x1 := hs85v; exact WF_set (j := 3) (WF_k hk81 hw) (Or.inl rfl) hs85o ⟨by omega, by omega, fun q => absurd q (by decide)⟩) (fun e => by subst e; have t : ra_g s85 180 4 = x1 := hs85v; exact WF_set (j := 4) (WF_k hk81 hw) (Or.inr rfl) hs85o ⟨by omega, by omega, fun _ => by omega⟩)), (PW_k he79 (ra_gk (hs85 179 (by omega))) (hs85 184 (by omega)))⟩⟩
      · exact absurd h71 (by decide)
    · refine ra_iconst rfl ?_
      refine ra_goto rfl rfl ?_
      refine ra_iconst rfl ?_
      refine ra_cT (sp_193 (Or.inr rfl) (by first | omega | (unfold ra_in at *; omega))) rfl (ct_193 rfl lk_8_303 (Or.inl rfl) sh_179 (Nat.le_of_ble_eq_true rfl)) (fun s89 hs89 => ?_)
      obtain ⟨hf90, he91⟩ := hs89
      have hF92 := Fr_tr (lo := 179) (hi := 191) hF3 hf90 (by omega)
      have hk93 : s89 (180) = σ (180) := (hf90 (180) (by omega)).trans hk4
      have hk94 : s89 (183) = σ (183) := (hf90 (183) (by omega)).trans hk5
      have hk95 : s89 (184) = σ (184) := (hf90 (184) (by omega)).trans hk6
      have hg96 : ∀ a, a ≠ 5 → a ≠ 7 → a ≠ 10 → ra_g s89 179 a = ra_g σ 179 a := fun a h5 h7 h10 => ((fun a h7 h10 => he91 a h7) a h7 h10).trans (hg7 a h5 h7 h10)
      have ho97 : ∀ a, a ≠ 7 → a ≠ 10 → ra_g s89 179 a = ra_g σ 179 a := fun a h7 h10 => ((fun a h7 h10 => he91 a h7) a h7 h10).trans (ho8 a h7 h10)
      refine ra_ifeq rfl rfl (by first | omega | (unfold ra_in at *; omega)) (fun h98 => ?_) (fun h98 => ?_)
      · exact absurd h98 (by decide)
      · refine ra_iconst rfl ?_
        exact ra_ireturn rfl rfl ⟨⟨_, (by first | omega | (unfold ra_in at *; omega)), rfl⟩, ⟨hF92, hk94, hg96, (WF_k hk93 hw), (PW_k hpw (ho97 5 (by decide) (by decide)) hk95)⟩⟩
end RB
