/-! the reference: what its methods do (printed by wip/gen/ref.py) -/
section RB
theorem sp_296 {n : Nat} {f : Nat → Int32} {d : Nat} {x0 : Int} {x1 : Int} {x2 : Int} {x3 : Int} {σ : ra_V} (hx0 : ra_in x0) (hx1 : ra_in x1) (hx2 : ra_in x2) (hx3 : ra_in x3) (hw : WF σ) (hpw : PW σ) : ra_C (g_Gs n f) g_sh 0 (d + 5) 296 [.index (179), ra_I x0, ra_I x1, ra_I x2, ra_I x3] σ (fun r s => rI r ∧ Fr (179) (191) σ s ∧ s (183) = σ (183) ∧ (∀ a, a ≠ 5 → a ≠ 7 → a ≠ 10 → ra_g s 179 a = ra_g σ 179 a) ∧ WF s ∧ PW s) := by
  refine ra_enter (nn := 0) mt_296 rfl (Nat.le_of_ble_eq_true rfl) rfl (fun h => absurd h (by decide +kernel)) ?_
  have hw0 := WF_a hw
  unfold WFa at hw0
  refine ra_load rfl rfl rfl rfl ?_
  refine ra_iconst rfl ?_
  refine ra_putI rfl lk_8_51 (Nat.zero_le _) sh_179 rfl rfl ?_
  refine ra_newU (by first | omega | (unfold ra_in at *; omega)) (fun s1 hs1 hp2 hp2o => ?_)
  have hp2_99 := hp2o 99 (by decide)
  have hF3 := Fr_tr (lo := 179) (hi := 191) Fr_rf hs1 (by omega)
  have hk4 : s1 (180) = σ (180) := (hs1 (180) (by omega))
  have hk5 : s1 (183) = σ (183) := (hs1 (183) (by omega))
  have hk6 : s1 (184) = σ (184) := (hs1 (184) (by omega))
  have hg7 : ∀ a, a ≠ 5 → a ≠ 7 → a ≠ 10 → ra_g s1 179 a = ra_g σ 179 a := fun a h5 h7 h10 => ((fun a h7 h10 => hp2o a h7) a h7 h10).trans ((fun _ _ _ _ => rfl) a h5 h7 h10)
  have ho8 : ∀ a, a ≠ 7 → a ≠ 10 → ra_g s1 179 a = ra_g σ 179 a := fun a h7 h10 => ((fun a h7 h10 => hp2o a h7) a h7 h10).trans ((fun _ _ _ => rfl) a h7 h10)
  refine ra_load rfl rfl rfl rfl ?_
  refine ra_load rfl rfl rfl rfl ?_
  refine ra_load rfl rfl rfl rfl ?_
  refine ra_load rfl rfl rfl rfl ?_
  refine ra_cQPp (sp_295 hx2 hx3 hx1) rfl (ct_295 rfl lk_8_363 (Or.inl rfl) (Nat.le_of_ble_eq_true rfl)) (fun z10 hz10 hz10p => ?_)
  refine ra_ifeq rfl rfl (ra_in01 hz10) (fun h11 => ?_) (fun h11 => ?_)
  · refine ra_iconst rfl ?_
    refine ra_goto rfl rfl ?_
    refine ra_iconst rfl ?_
    refine ra_cT (sp_193 (Or.inr rfl) (by first | omega | (unfold ra_in at *; omega))) rfl (ct_193 rfl lk_8_303 (Or.inl rfl) sh_179 (Nat.le_of_ble_eq_true rfl)) (fun s12 hs12 => ?_)
    obtain ⟨hf13, he14⟩ := hs12
    have hF15 := Fr_tr (lo := 179) (hi := 191) hF3 hf13 (by omega)
    have hk16 : s12 (180) = σ (180) := (hf13 (180) (by omega)).trans hk4
    have hk17 : s12 (183) = σ (183) := (hf13 (183) (by omega)).trans hk5
    have hk18 : s12 (184) = σ (184) := (hf13 (184) (by omega)).trans hk6
    have hg19 : ∀ a, a ≠ 5 → a ≠ 7 → a ≠ 10 → ra_g s12 179 a = ra_g σ 179 a := fun a h5 h7 h10 => ((fun a h7 h10 => he14 a h7) a h7 h10).trans (hg7 a h5 h7 h10)
    have ho20 : ∀ a, a ≠ 7 → a ≠ 10 → ra_g s12 179 a = ra_g σ 179 a := fun a h7 h10 => ((fun a h7 h10 => he14 a h7) a h7 h10).trans (ho8 a h7 h10)
    refine ra_ifne rfl rfl (by first | omega | (unfold ra_in at *; omega)) (fun h21 => ?_) (fun h21 => ?_)
    · refine ra_iconst rfl ?_
      exact ra_ireturn rfl rfl ⟨⟨_, (by first | omega | (unfold ra_in at *; omega)), rfl⟩, ⟨hF15, hk17, hg19, (WF_k hk16 hw), (PW_k hpw (ho20 5 (by decide) (by decide)) hk18)⟩⟩
    · exact absurd h21 (by decide)
  · refine ra_load rfl rfl rfl rfl ?_
    refine ra_load rfl rfl rfl rfl ?_
    refine ra_load rfl rfl rfl rfl ?_
    refine ra_cIPp (sp_215 hx0 hx1 (WFa_k hk4 (WF_a hw))) rfl (ct_215 rfl lk_8_349 (Or.inl rfl) sh_179 (Nat.le_of_ble_eq_true rfl)) (fun z23 hz23 hz23p => ?_)
    refine ra_ifeq rfl rfl hz23 (fun h24 => ?_) (fun h24 => ?_)
    · refine ra_iconst rfl ?_
      refine ra_iconst rfl ?_
      refine ra_cT (sp_193 (Or.inl rfl) (by first | omega | (unfold ra_in at *; omega))) rfl (ct_193 rfl lk_8_303 (Or.inl rfl) sh_179 (Nat.le_of_ble_eq_true rfl)) (fun s25 hs25 => ?_)
      obtain ⟨hf26, he27⟩ := hs25
      have hF28 := Fr_tr (lo := 179) (hi := 191) hF3 hf26 (by omega)
      have hk29 : s25 (180) = σ (180) := (hf26 (180) (by omega)).trans hk4
      have hk30 : s25 (183) = σ (183) := (hf26 (183) (by omega)).trans hk5
      have hk31 : s25 (184) = σ (184) := (hf26 (184) (by omega)).trans hk6
      have hg32 : ∀ a, a ≠ 5 → a ≠ 7 → a ≠ 10 → ra_g s25 179 a = ra_g σ 179 a := fun a h5 h7 h10 => ((fun a h7 h10 => he27 a h7) a h7 h10).trans (hg7 a h5 h7 h10)
      have ho33 : ∀ a, a ≠ 7 → a ≠ 10 → ra_g s25 179 a = ra_g σ 179 a := fun a h7 h10 => ((fun a h7 h10 => he27 a h7) a h7 h10).trans (ho8 a h7 h10)
      refine ra_ifne rfl rfl (by first | omega | (unfold ra_in at *; omega)) (fun h34 => ?_) (fun h34 => ?_)
      · exact absurd h34 (by decide)
      · refine ra_load rfl rfl rfl rfl ?_
        refine ra_load rfl rfl rfl rfl ?_
        refine ra_cIPp (sp_202 (WF_k hk29 hw)) rfl (ct_202 rfl lk_8_298 (Or.inl rfl) sh_179 (Nat.le_of_ble_eq_true rfl)) (fun z36 hz36 hz36p => ?_)
        refine ra_bipush rfl (by decide) ?_
        refine ra_icne rfl rfl hz36 (by first | omega | (unfold ra_in at *; omega)) (fun h37 => ?_) (fun h37 => ?_)
        · refine ra_iconst rfl ?_
          refine ra_iconst rfl ?_
          refine ra_cT (sp_193 (Or.inl rfl) (by first | omega | (unfold ra_in at *; omega))) rfl (ct_193 rfl lk_8_303 (Or.inl rfl) sh_179 (Nat.le_of_ble_eq_true rfl)) (fun s38 hs38 => ?_)
          obtain ⟨hf39, he40⟩ := hs38
          have hF41 := Fr_tr (lo := 179) (hi := 191) hF28 hf39 (by omega)
          have hk42 : s38 (180) = σ (180) := (hf39 (180) (by omega)).trans hk29
          have hk43 : s38 (183) = σ (183) := (hf39 (183) (by omega)).trans hk30
          have hk44 : s38 (184) = σ (184) := (hf39 (184) (by omega)).trans hk31
          have hg45 : ∀ a, a ≠ 5 → a ≠ 7 → a ≠ 10 → ra_g s38 179 a = ra_g σ 179 a := fun a h5 h7 h10 => ((fun a h7 h10 => he40 a h7) a h7 h10).trans (hg32 a h5 h7 h10)
          have ho46 : ∀ a, a ≠ 7 → a ≠ 10 → ra_g s38 179 a = ra_g σ 179 a := fun a h7 h10 => ((fun a h7 h10 => he40 a h7) a h7 h10).trans (ho33 a h7 h10)
          refine ra_ifeq rfl rfl (by first | omega | (unfold ra_in at *; omega)) (fun h47 => ?_) (fun h47 => ?_)
          · refine ra_load rfl rfl rfl rfl ?_
            have hu := wn_k hk4 (hz23p (by omega))
            have hx := exn_k hk29 (hz36p.2.2 (by omega))
            clear hz36p
            have hu1 := hu.1
            unfold US at hu1
            have ht := hz10p (by omega)
            refine ra_cV (sp_196 (WF_k hk42 hw) (PW_k hpw (ho46 5 (by decide) (by decide)) hk44)) rfl (ct_196 rfl lk_8_366 (Or.inl rfl) sh_179 (Nat.le_of_ble_eq_true rfl)) (fun s48 hs48 => ?_)
            obtain ⟨hf49, hc50, hc51, hc52, hc53, he54, he55⟩ := hs48
            have hF56 := Fr_tr (lo := 179) (hi := 191) hF41 hf49 (by omega)
            have hk57 : s48 (180) = σ (180) := hc50.trans hk42
            have hk58 : s48 (183) = σ (183) := hc53.trans hk43
            have hg59 : ∀ a, a ≠ 5 → a ≠ 7 → a ≠ 10 → ra_g s48 179 a = ra_g σ 179 a := fun a h5 h7 h10 => ((fun a h5 h7 h10 => he54 a h5) a h5 h7 h10).trans (hg45 a h5 h7 h10)
            refine ra_load rfl rfl rfl rfl ?_
            refine ra_load rfl rfl rfl rfl ?_
            refine ra_load rfl rfl rfl rfl ?_
            refine ra_load rfl rfl rfl rfl ?_
            refine ra_load rfl rfl rfl rfl ?_
            refine ra_cIPs (sp_209 hx0 hx1 hx2 hx3 (exm_k hk57 hx) (by omega)) rfl (ct_209 rfl lk_8_250 (Or.inl rfl) sh_179 (Nat.le_of_ble_eq_true rfl)) (fun z61 s60 hz61 hz61p hs60 => ?_)
            have hF62 := Fr_tr (lo := 179) (hi := 191) hF56 hs60 (by omega)
            have hk63 : s60 (183) = σ (183) := (hs60 (183) (by omega)).trans hk58
            have hg64 : ∀ a, a ≠ 5 → a ≠ 7 → a ≠ 10 → ra_g s60 179 a = ra_g σ 179 a := fun a h5 h7 h10 => (ra_gk (hs60 179 (by omega))).trans (hg59 a h5 h7 h10)
            exact ra_ireturn rfl rfl ⟨⟨_, hz61, rfl⟩, ⟨hF62, hk63, hg64, (WF_new (WF_k hk57 hw) hz61p (wn_k hk57.symm hu).1 (wn_k hk57.symm hu).2.1 (wn_k hk57.symm hu).2.2 ⟨by omega, by omega⟩), (PW_k he55 (ra_gk (hs60 179 (by omega))) (hs60 184 (by omega)))⟩⟩
          · exact absurd h47 (by decide)
        · refine ra_iconst rfl ?_
          refine ra_goto rfl rfl ?_
          refine ra_iconst rfl ?_
          refine ra_cT (sp_193 (Or.inr rfl) (by first | omega | (unfold ra_in at *; omega))) rfl (ct_193 rfl lk_8_303 (Or.inl rfl) sh_179 (Nat.le_of_ble_eq_true rfl)) (fun s65 hs65 => ?_)
          obtain ⟨hf66, he67⟩ := hs65
          have hF68 := Fr_tr (lo := 179) (hi := 191) hF28 hf66 (by omega)
          have hk69 : s65 (180) = σ (180) := (hf66 (180) (by omega)).trans hk29
          have hk70 : s65 (183) = σ (183) := (hf66 (183) (by omega)).trans hk30
          have hk71 : s65 (184) = σ (184) := (hf66 (184) (by omega)).trans hk31
          have hg72 : ∀ a, a ≠ 5 → a ≠ 7 → a ≠ 10 → ra_g s65 179 a = ra_g σ 179 a := fun a h5 h7 h10 => ((fun a h7 h10 => he67 a h7) a h7 h10).trans (hg32 a h5 h7 h10)
          have ho73 : ∀ a, a ≠ 7 → a ≠ 10 → ra_g s65 179 a = ra_g σ 179 a := fun a h7 h10 => ((fun a h7 h10 => he67 a h7) a h7 h10).trans (ho33 a h7 h10)
          refine ra_ifeq rfl rfl (by first | omega | (unfold ra_in at *; omega)) (fun h74 => ?_) (fun h74 => ?_)
          · exact absurd h74 (by decide)
          · refine ra_iconst rfl ?_
            exact ra_ireturn rfl rfl ⟨⟨_, (by first | omega | (unfold ra_in at *; omega)), rfl⟩, ⟨hF68, hk70, hg72, (WF_k hk69 hw), (PW_k hpw (ho73 5 (by decide) (by decide)) hk71)⟩⟩
    · refine ra_iconst rfl ?_
      refine ra_goto rfl rfl ?_
      refine ra_iconst rfl ?_
      refine ra_cT (sp_193 (Or.inr rfl) (by first | omega | (unfold ra_in at *; omega))) rfl (ct_193 rfl lk_8_303 (Or.inl rfl) sh_179 (Nat.le_of_ble_eq_true rfl)) (fun s75 hs75 => ?_)
      obtain ⟨hf76, he77⟩ := hs75
      have hF78 := Fr_tr (lo := 179) (hi := 191) hF3 hf76 (by omega)
      have hk79 : s75 (180) = σ (180) := (hf76 (180) (by omega)).trans hk4
      have hk80 : s75 (183) = σ (183) := (hf76 (183) (by omega)).trans hk5
      have hk81 : s75 (184) = σ (184) := (hf76 (184) (by omega)).trans hk6
      have hg82 : ∀ a, a ≠ 5 → a ≠ 7 → a ≠ 10 → ra_g s75 179 a = ra_g σ 179 a := fun a h5 h7 h10 => ((fun a h7 h10 => he77 a h7) a h7 h10).trans (hg7 a h5 h7 h10)
      have ho83 : ∀ a, a ≠ 7 → a ≠ 10 → ra_g s75 179 a = ra_g σ 179 a := fun a h7 h10 => ((fun a h7 h10 => he77 a h7) a h7 h10).trans (ho8 a h7 h10)
      refine ra_ifne rfl rfl (by first | omega | (unfold ra_in at *; omega)) (fun h84 => ?_) (fun h84 => ?_)
      · refine ra_iconst rfl ?_
        exact ra_ireturn rfl rfl ⟨⟨_, (by first | omega | (unfold ra_in at *; omega)), rfl⟩, ⟨hF78, hk80, hg82, (WF_k hk79 hw), (PW_k hpw (ho83 5 (by decide) (by decide)) hk81)⟩⟩
      · exact absurd h84 (by decide)
theorem sp_297 {n : Nat} {f : Nat → Int32} {d : Nat} {x0 : Int} {x1 : Int} {x2 : Int} {x3 : Int} {σ : ra_V} (hx0 : ra_in x0) (hx1 : ra_in x1) (hx2 : ra_in x2) (hx3 : ra_in x3) (hw : WF σ) (hpw : PW σ) : ra_C (g_Gs n f) g_sh 0 (d + 7) 297 [.index (179), ra_I x0, ra_I x1, ra_I x2, ra_I x3] σ (fun r s => rI r ∧ Fr (179) (191) σ s ∧ s (183) = σ (183) ∧ (∀ a, a ≠ 5 → a ≠ 7 → a ≠ 10 → ra_g s 179 a = ra_g σ 179 a) ∧ WF s ∧ PW s) := by
  refine ra_enter (nn := 1) mt_297 rfl (Nat.le_of_ble_eq_true rfl) rfl (fun h => absurd h (by decide +kernel)) ?_
  have hw0 := WF_a hw
  unfold WFa at hw0
  refine ra_load rfl rfl rfl rfl ?_
  refine ra_iconst rfl ?_
  refine ra_putI rfl lk_8_51 (Nat.zero_le _) sh_179 rfl rfl ?_
  refine ra_newU (by first | omega | (unfold ra_in at *; omega)) (fun s1 hs1 hp2 hp2o => ?_)
  have hp2_99 := hp2o 99 (by decide)
  have hF3 := Fr_tr (lo := 179) (hi := 191) Fr_rf hs1 (by omega)
  have hk4 : s1 (180) = σ (180) := (hs1 (180) (by omega))
  have hk5 : s1 (183) = σ (183) := (hs1 (183) (by omega))
  have hk6 : s1 (184) = σ (184) := (hs1 (184) (by omega))
  have hg7 : ∀ a, a ≠ 5 → a ≠ 7 → a ≠ 10 → ra_g s1 179 a = ra_g σ 179 a := fun a h5 h7 h10 => ((fun a h7 h10 => hp2o a h7) a h7 h10).trans ((fun _ _ _ _ => rfl) a h5 h7 h10)
  have ho8 : ∀ a, a ≠ 7 → a ≠ 10 → ra_g s1 179 a = ra_g σ 179 a := fun a h7 h10 => ((fun a h7 h10 => hp2o a h7) a h7 h10).trans ((fun _ _ _ => rfl) a h7 h10)
  refine ra_load rfl rfl rfl rfl ?_
  refine ra_load rfl rfl rfl rfl ?_
  refine ra_load rfl rfl rfl rfl ?_
  refine ra_load rfl rfl rfl rfl ?_
  refine ra_cQPp (sp_295 hx1 hx2 hx0) rfl (ct_295 rfl lk_8_363 (Or.inl rfl) (Nat.le_of_ble_eq_true rfl)) (fun z10 hz10 hz10p => ?_)
  refine ra_ifeq rfl rfl (ra_in01 hz10) (fun h11 => ?_) (fun h11 => ?_)
  · refine ra_iconst rfl ?_
    refine ra_goto rfl rfl ?_
    refine ra_iconst rfl ?_
    refine ra_cT (sp_193 (Or.inr rfl) (by first | omega | (unfold ra_in at *; omega))) rfl (ct_193 rfl lk_8_303 (Or.inl rfl) sh_179 (Nat.le_of_ble_eq_true rfl)) (fun s12 hs12 => ?_)
    obtain ⟨hf13, he14⟩ := hs12
    have hF15 := Fr_tr (lo := 179) (hi := 191) hF3 hf13 (by omega)
    have hk16 : s12 (180) = σ (180) := (hf13 (180) (by omega)).trans hk4
    have hk17 : s12 (183) = σ (183) := (hf13 (183) (by omega)).trans hk5
    have hk18 : s12 (184) = σ (184) := (hf13 (184) (by omega)).trans hk6
    have hg19 : ∀ a, a ≠ 5 → a ≠ 7 → a ≠ 10 → ra_g s12 179 a = ra_g σ 179 a := fun a h5 h7 h10 => ((fun a h7 h10 => he14 a h7) a h7 h10).trans (hg7 a h5 h7 h10)
    have ho20 : ∀ a, a ≠ 7 → a ≠ 10 → ra_g s12 179 a = ra_g σ 179 a := fun a h7 h10 => ((fun a h7 h10 => he14 a h7) a h7 h10).trans (ho8 a h7 h10)
    refine ra_ifeq rfl rfl (by first | omega | (unfold ra_in at *; omega)) (fun h21 => ?_) (fun h21 => ?_)
    · exact absurd h21 (by decide)
    · refine ra_iconst rfl ?_
      exact ra_ireturn rfl rfl ⟨⟨_, (by first | omega | (unfold ra_in at *; omega)), rfl⟩, ⟨hF15, hk17, hg19, (WF_k hk16 hw), (PW_k hpw (ho20 5 (by decide) (by decide)) hk18)⟩⟩
  · refine ra_load rfl rfl rfl rfl ?_
    refine ra_i2l rfl hx3 ?_
    refine ra_lconst0 rfl ?_
    refine ra_ldc2 (z := 2) rfl lk_8_344 (by decide) ?_
    refine ra_cTp (sp_192 hx3 (by first | omega | (unfold ra_in at *; omega)) (by first | omega | (unfold ra_in at *; omega))) rfl (ct_192 rfl lk_8_63 (Or.inl rfl) (Nat.le_of_ble_eq_true rfl)) ?_
    refine ra_ifneB rfl rfl (fun h23 => ?_) (fun h23 => ?_)
    · refine ra_iconst rfl ?_
      refine ra_iconst rfl ?_
      refine ra_cT (sp_193 (Or.inl rfl) (by first | omega | (unfold ra_in at *; omega))) rfl (ct_193 rfl lk_8_303 (Or.inl rfl) sh_179 (Nat.le_of_ble_eq_true rfl)) (fun s24 hs24 => ?_)
      obtain ⟨hf25, he26⟩ := hs24
      have hF27 := Fr_tr (lo := 179) (hi := 191) hF3 hf25 (by omega)
      have hk28 : s24 (180) = σ (180) := (hf25 (180) (by omega)).trans hk4
      have hk29 : s24 (183) = σ (183) := (hf25 (183) (by omega)).trans hk5
      have hk30 : s24 (184) = σ (184) := (hf25 (184) (by omega)).trans hk6
      have hg31 : ∀ a, a ≠ 5 → a ≠ 7 → a ≠ 10 → ra_g s24 179 a = ra_g σ 179 a := fun a h5 h7 h10 => ((fun a h7 h10 => he26 a h7) a h7 h10).trans (hg7 a h5 h7 h10)
      have ho32 : ∀ a, a ≠ 7 → a ≠ 10 → ra_g s24 179 a = ra_g σ 179 a := fun a h7 h10 => ((fun a h7 h10 => he26 a h7) a h7 h10).trans (ho8 a h7 h10)
      refine ra_ifeq rfl rfl (by first | omega | (unfold ra_in at *; omega)) (fun h33 => ?_) (fun h33 => ?_)
      · refine ra_load rfl rfl rfl rfl ?_
        refine ra_load rfl rfl rfl rfl ?_
        refine ra_load rfl rfl rfl rfl ?_
        refine ra_cIP (sp_221 hx0 hx3 (WF_k hk28 hw)) rfl (ct_221 rfl lk_8_346 (Or.inl rfl) sh_179 (Nat.le_of_ble_eq_true rfl)) (fun z35 s34 hz35 hz35p hs34 => ?_)
        obtain ⟨hf36, hc37, hc38, hc39, hc40, hc41, he42⟩ := hs34
        have hF43 := Fr_tr (lo := 179) (hi := 191) hF27 hf36 (by omega)
        have hk44 : s34 (180) = σ (180) := hc37.trans hk28
        have hk45 : s34 (183) = σ (183) := hc40.trans hk29
        have hk46 : s34 (184) = σ (184) := hc41.trans hk30
        have hg47 : ∀ a, a ≠ 5 → a ≠ 7 → a ≠ 10 → ra_g s34 179 a = ra_g σ 179 a := fun a h5 h7 h10 => ((fun a h7 h10 => he42 a h10) a h7 h10).trans (hg31 a h5 h7 h10)
        have ho48 : ∀ a, a ≠ 7 → a ≠ 10 → ra_g s34 179 a = ra_g σ 179 a := fun a h7 h10 => ((fun a h7 h10 => he42 a h10) a h7 h10).trans (ho32 a h7 h10)
        refine ra_store (L' := [_, _, _, _, _, _]) rfl rfl rfl (Nat.le_of_ble_eq_true rfl) rfl ?_
        refine ra_load rfl rfl rfl rfl ?_
        refine ra_load rfl rfl rfl rfl ?_
        refine ra_cIPp (sp_202 (WF_k hk44 hw)) rfl (ct_202 rfl lk_8_298 (Or.inl rfl) sh_179 (Nat.le_of_ble_eq_true rfl)) (fun z50 hz50 hz50p => ?_)
        refine ra_bipush rfl (by decide) ?_
        refine ra_iceq rfl rfl hz50 (by first | omega | (unfold ra_in at *; omega)) (fun h51 => ?_) (fun h51 => ?_)
        · refine ra_iconst rfl ?_
          refine ra_goto rfl rfl ?_
          refine ra_iconst rfl ?_
          refine ra_cT (sp_193 (Or.inr rfl) (by first | omega | (unfold ra_in at *; omega))) rfl (ct_193 rfl lk_8_303 (Or.inl rfl) sh_179 (Nat.le_of_ble_eq_true rfl)) (fun s52 hs52 => ?_)
          obtain ⟨hf53, he54⟩ := hs52
          have hF55 := Fr_tr (lo := 179) (hi := 191) hF43 hf53 (by omega)
          have hk56 : s52 (180) = σ (180) := (hf53 (180) (by omega)).trans hk44
          have hk57 : s52 (183) = σ (183) := (hf53 (183) (by omega)).trans hk45
          have hk58 : s52 (184) = σ (184) := (hf53 (184) (by omega)).trans hk46
          have hg59 : ∀ a, a ≠ 5 → a ≠ 7 → a ≠ 10 → ra_g s52 179 a = ra_g σ 179 a := fun a h5 h7 h10 => ((fun a h7 h10 => he54 a h7) a h7 h10).trans (hg47 a h5 h7 h10)
          have ho60 : ∀ a, a ≠ 7 → a ≠ 10 → ra_g s52 179 a = ra_g σ 179 a := fun a h7 h10 => ((fun a h7 h10 => he54 a h7) a h7 h10).trans (ho48 a h7 h10)
          refine ra_ifeq rfl rfl (by first | omega | (unfold ra_in at *; omega)) (fun h61 => ?_) (fun h61 => ?_)
          · exact absurd h61 (by decide)
          · refine ra_iconst rfl ?_
            exact ra_ireturn rfl rfl ⟨⟨_, (by first | omega | (unfold ra_in at *; omega)), rfl⟩, ⟨hF55, hk57, hg59, (WF_k hk56 hw), (PW_k hpw (ho60 5 (by decide) (by decide)) hk58)⟩⟩
        · refine ra_load rfl rfl rfl rfl ?_
          refine ra_iconst rfl ?_
          refine ra_icne rfl rfl hz35 (by first | omega | (unfold ra_in at *; omega)) (fun h62 => ?_) (fun h62 => ?_)
          · refine ra_iconst rfl ?_
            refine ra_iconst rfl ?_
            refine ra_cT (sp_193 (Or.inl rfl) (by first | omega | (unfold ra_in at *; omega))) rfl (ct_193 rfl lk_8_303 (Or.inl rfl) sh_179 (Nat.le_of_ble_eq_true rfl)) (fun s63 hs63 => ?_)
            obtain ⟨hf64, he65⟩ := hs63
            have hF66 := Fr_tr (lo := 179) (hi := 191) hF43 hf64 (by omega)
            have hk67 : s63 (180) = σ (180) := (hf64 (180) (by omega)).trans hk44
            have hk68 : s63 (183) = σ (183) := (hf64 (183) (by omega)).trans hk45
            have hk69 : s63 (184) = σ (184) := (hf64 (184) (by omega)).trans hk46
            have hg70 : ∀ a, a ≠ 5 → a ≠ 7 → a ≠ 10 → ra_g s63 179 a = ra_g σ 179 a := fun a h5 h7 h10 => ((fun a h7 h10 => he65 a h7) a h7 h10).trans (hg47 a h5 h7 h10)
            have ho71 : ∀ a, a ≠ 7 → a ≠ 10 → ra_g s63 179 a = ra_g σ 179 a := fun a h7 h10 => ((fun a h7 h10 => he65 a h7) a h7 h10).trans (ho48 a h7 h10)
            refine ra_ifeq rfl rfl (by first | omega | (unfold ra_in at *; omega)) (fun h72 => ?_) (fun h72 => ?_)
            · refine ra_load rfl rfl rfl rfl ?_
              have hu := wn_k hk28 (hz35p.resolve_left (by omega))
              have hx := exn_k hk44 (hz50p.2.2 (by omega))
              clear hz50p
              have hu1 := hu.1
              unfold US at hu1
              have ht := hz10p (by omega)
              refine ra_cV (sp_196 (WF_k hk67 hw) (PW_k hpw (ho71 5 (by decide) (by decide)) hk69)) rfl (ct_196 rfl lk_8_366 (Or.inl rfl) sh_179 (Nat.le_of_ble_eq_true rfl)) (fun s73 hs73 => ?_)
              obtain ⟨hf74, hc75, hc76, hc77, hc78, he79, he80⟩ := hs73
              have hF81 := Fr_tr (lo := 179) (hi := 191) hF66 hf74 (by omega)
              have hk82 : s73 (180) = σ (180) := hc75.trans hk67
              have hk83 : s73 (183) = σ (183) := hc78.trans hk68
              have hg84 : ∀ a, a ≠ 5 → a ≠ 7 → a ≠ 10 → ra_g s73 179 a = ra_g σ 179 a := fun a h5 h7 h10 => ((fun a h5 h7 h10 => he79 a h5) a h5 h7 h10).trans (hg70 a h5 h7 h10)
              refine ra_load rfl rfl rfl rfl ?_
              refine ra_load rfl rfl rfl rfl ?_
              refine ra_load rfl rfl rfl rfl ?_
              refine ra_load rfl rfl rfl rfl ?_
              refine ra_load rfl rfl rfl rfl ?_
              refine ra_cIPs (sp_209 hz35 hx0 hx1 hx2 (exm_k hk82 hx) (by omega)) rfl (ct_209 rfl lk_8_250 (Or.inl rfl) sh_179 (Nat.le_of_ble_eq_true rfl)) (fun z86 s85 hz86 hz86p hs85 => ?_)
              have hF87 := Fr_tr (lo := 179) (hi := 191) hF81 hs85 (by omega)
              have hk88 : s85 (183) = σ (183) := (hs85 (183) (by omega)).trans hk83
              have hg89 : ∀ a, a ≠ 5 → a ≠ 7 → a ≠ 10 → ra_g s85 179 a = ra_g σ 179 a := fun a h5 h7 h10 => (ra_gk (hs85 179 (by omega))).trans (hg84 a h5 h7 h10)
              exact ra_ireturn rfl rfl ⟨⟨_, hz86, rfl⟩, ⟨hF87, hk88, hg89, (WF_new (WF_k hk82 hw) hz86p (wn_k hk82.symm hu).1 (wn_k hk82.symm hu).2.1 (wn_k hk82.symm hu).2.2 ⟨by omega, by omega⟩), (PW_k he80 (ra_gk (hs85 179 (by omega))) (hs85 184 (by omega)))⟩⟩
            · exact absurd h72 (by decide)
          · refine ra_iconst rfl ?_
            refine ra_goto rfl rfl ?_
            refine ra_iconst rfl ?_
            refine ra_cT (sp_193 (Or.inr rfl) (by first | omega | (unfold ra_in at *; omega))) rfl (ct_193 rfl lk_8_303 (Or.inl rfl) sh_179 (Nat.le_of_ble_eq_true rfl)) (fun s90 hs90 => ?_)
            obtain ⟨hf91, he92⟩ := hs90
            have hF93 := Fr_tr (lo := 179) (hi := 191) hF43 hf91 (by omega)
            have hk94 : s90 (180) = σ (180) := (hf91 (180) (by omega)).trans hk44
            have hk95 : s90 (183) = σ (183) := (hf91 (183) (by omega)).trans hk45
            have hk96 : s90 (184) = σ (184) := (hf91 (184) (by omega)).trans hk46
            have hg97 : ∀ a, a ≠ 5 → a ≠ 7 → a ≠ 10 → ra_g s90 179 a = ra_g σ 179 a := fun a h5 h7 h10 => ((fun a h7 h10 => he92 a h7) a h7 h10).trans (hg47 a h5 h7 h10)
            have ho98 : ∀ a, a ≠ 7 → a ≠ 10 → ra_g s90 179 a = ra_g σ 179 a := fun a h7 h10 => ((fun a h7 h10 => he92 a h7) a h7 h10).trans (ho48 a h7 h10)
            refine ra_ifeq rfl rfl (by first | omega | (unfold ra_in at *; omega)) (fun h99 => ?_) (fun h99 => ?_)
            · exact absurd h99 (by decide)
            · refine ra_iconst rfl ?_
              exact ra_ireturn rfl rfl ⟨⟨_, (by first | omega | (unfold ra_in at *; omega)), rfl⟩, ⟨hF93, hk95, hg97, (WF_k hk94 hw), (PW_k hpw (ho98 5 (by decide) (by decide)) hk96)⟩⟩
      · exact absurd h33 (by decide)
    · refine ra_iconst rfl ?_
      refine ra_goto rfl rfl ?_
      refine ra_iconst rfl ?_
      refine ra_cT (sp_193 (Or.inr rfl) (by first | omega | (unfold ra_in at *; omega))) rfl (ct_193 rfl lk_8_303 (Or.inl rfl) sh_179 (Nat.le_of_ble_eq_true rfl)) (fun s100 hs100 => ?_)
      obtain ⟨hf101, he102⟩ := hs100
      have hF103 := Fr_tr (lo := 179) (hi := 191) hF3 hf101 (by omega)
      have hk104 : s100 (180) = σ (180) := (hf101 (180) (by omega)).trans hk4
      have hk105 : s100 (183) = σ (183) := (hf101 (183) (by omega)).trans hk5
      have hk106 : s100 (184) = σ (184) := (hf101 (184) (by omega)).trans hk6
      have hg107 : ∀ a, a ≠ 5 → a ≠ 7 → a ≠ 10 → ra_g s100 179 a = ra_g σ 179 a := fun a h5 h7 h10 => ((fun a h7 h10 => he102 a h7) a h7 h10).trans (hg7 a h5 h7 h10)
      have ho108 : ∀ a, a ≠ 7 → a ≠ 10 → ra_g s100 179 a = ra_g σ 179 a := fun a h7 h10 => ((fun a h7 h10 => he102 a h7) a h7 h10).trans (ho8 a h7 h10)
      refine ra_ifeq rfl rfl (by first | omega | (unfold ra_in at *; omega)) (fun h109 => ?_) (fun h109 => ?_)
      · exact absurd h109 (by decide)
      · refine ra_iconst rfl ?_
        exact ra_ireturn rfl rfl ⟨⟨_, (by first | omega | (unfold ra_in at *; omega)), rfl⟩, ⟨hF103, hk105, hg107, (WF_k hk104 hw), (PW_k hpw (ho108 5 (by decide) (by decide)) hk106)⟩⟩
theorem sp_304 {n : Nat} {f : Nat → Int32} {d : Nat} {x0 : Int} {x1 : Int} {σ : ra_V} (hx0 : ra_in x0) (hx1 : ra_in x1) (hw : WF σ) (hpw : PW σ) : ra_C (g_Gs n f) g_sh 0 (d + 6) 304 [.index (179), ra_I x0, ra_I x1] σ (fun r s => rI r ∧ Fr (179) (191) σ s ∧ s (183) = σ (183) ∧ (∀ a, a ≠ 5 → a ≠ 7 → a ≠ 10 → ra_g s 179 a = ra_g σ 179 a) ∧ WF s ∧ PW s) := by
  refine ra_enter (nn := 1) mt_304 rfl (Nat.le_of_ble_eq_true rfl) rfl (fun h => absurd h (by decide +kernel)) ?_
  have hw0 := WF_a hw
  unfold WFa at hw0
  refine ra_load rfl rfl rfl rfl ?_
  refine ra_iconst rfl ?_
  refine ra_putI rfl lk_8_51 (Nat.zero_le _) sh_179 rfl rfl ?_
  refine ra_newU (by first | omega | (unfold ra_in at *; omega)) (fun s1 hs1 hp2 hp2o => ?_)
  have hp2_99 := hp2o 99 (by decide)
  have hF3 := Fr_tr (lo := 179) (hi := 191) Fr_rf hs1 (by omega)
  have hk4 : s1 (180) = σ (180) := (hs1 (180) (by omega))
  have hk5 : s1 (183) = σ (183) := (hs1 (183) (by omega))
  have hk6 : s1 (184) = σ (184) := (hs1 (184) (by omega))
  have hg7 : ∀ a, a ≠ 5 → a ≠ 7 → a ≠ 10 → ra_g s1 179 a = ra_g σ 179 a := fun a h5 h7 h10 => ((fun a h7 h10 => hp2o a h7) a h7 h10).trans ((fun _ _ _ _ => rfl) a h5 h7 h10)
  have ho8 : ∀ a, a ≠ 7 → a ≠ 10 → ra_g s1 179 a = ra_g σ 179 a := fun a h7 h10 => ((fun a h7 h10 => hp2o a h7) a h7 h10).trans ((fun _ _ _ => rfl) a h7 h10)
  refine ra_load rfl rfl rfl rfl ?_
  refine ra_load rfl rfl rfl rfl ?_
  refine ra_load rfl rfl rfl rfl ?_
  refine ra_cQPp (sp_201 hx0) rfl (ct_201 rfl lk_8_313 (Or.inl rfl) sh_179 (Nat.le_of_ble_eq_true rfl)) (fun z10 hz10 hz10p => ?_)
  rw [wq_k hk4] at hz10p
  refine ra_ifeq rfl rfl (ra_in01 hz10) (fun h11 => ?_) (fun h11 => ?_)
  · refine ra_iconst rfl ?_
    refine ra_iconst rfl ?_
    refine ra_cT (sp_193 (Or.inl rfl) (by first | omega | (unfold ra_in at *; omega))) rfl (ct_193 rfl lk_8_303 (Or.inl rfl) sh_179 (Nat.le_of_ble_eq_true rfl)) (fun s12 hs12 => ?_)
    obtain ⟨hf13, he14⟩ := hs12
    have hF15 := Fr_tr (lo := 179) (hi := 191) hF3 hf13 (by omega)
    have hk16 : s12 (180) = σ (180) := (hf13 (180) (by omega)).trans hk4
    have hk17 : s12 (183) = σ (183) := (hf13 (183) (by omega)).trans hk5
    have hk18 : s12 (184) = σ (184) := (hf13 (184) (by omega)).trans hk6
    have hg19 : ∀ a, a ≠ 5 → a ≠ 7 → a ≠ 10 → ra_g s12 179 a = ra_g σ 179 a := fun a h5 h7 h10 => ((fun a h7 h10 => he14 a h7) a h7 h10).trans (hg7 a h5 h7 h10)
    have ho20 : ∀ a, a ≠ 7 → a ≠ 10 → ra_g s12 179 a = ra_g σ 179 a := fun a h7 h10 => ((fun a h7 h10 => he14 a h7) a h7 h10).trans (ho8 a h7 h10)
    refine ra_ifne rfl rfl (by first | omega | (unfold ra_in at *; omega)) (fun h21 => ?_) (fun h21 => ?_)
    · exact absurd h21 (by decide)
    · refine ra_load rfl rfl rfl rfl ?_
      refine ra_load rfl rfl rfl rfl ?_
      refine ra_iconst rfl ?_
      refine ra_cQP (sp_267 hx0 (by first | omega | (unfold ra_in at *; omega))) rfl (ct_267 rfl lk_8_318 (Or.inl rfl) sh_179 (Nat.le_of_ble_eq_true rfl)) (fun z23 s22 hz23 hz23p hs22 => ?_)
      rw [wq_k hk16] at hz23p
      obtain ⟨hf24, he25⟩ := hs22
      have hF26 := Fr_tr (lo := 179) (hi := 191) hF15 hf24 (by omega)
      have hk27 : s22 (180) = σ (180) := (hf24 (180) (by omega)).trans hk16
      have hk28 : s22 (183) = σ (183) := (hf24 (183) (by omega)).trans hk17
      have hk29 : s22 (184) = σ (184) := (hf24 (184) (by omega)).trans hk18
      have hg30 : ∀ a, a ≠ 5 → a ≠ 7 → a ≠ 10 → ra_g s22 179 a = ra_g σ 179 a := fun a h5 h7 h10 => ((fun a h7 h10 => he25 a h7) a h7 h10).trans (hg19 a h5 h7 h10)
      have ho31 : ∀ a, a ≠ 7 → a ≠ 10 → ra_g s22 179 a = ra_g σ 179 a := fun a h7 h10 => ((fun a h7 h10 => he25 a h7) a h7 h10).trans (ho20 a h7 h10)
      refine ra_ifeq rfl rfl (ra_in01 hz23) (fun h32 => ?_) (fun h32 => ?_)
      · refine ra_load rfl rfl rfl rfl ?_
        have hp := hz23p (by omega)
        have hst := hz10p.mpr hp
        have hq := WF_p hw hp.1 hp.2.1 hp.2.2
        refine ra_cV (sp_196 (WF_k hk27 hw) (PW_k hpw (ho31 5 (by decide) (by decide)) hk29)) rfl (ct_196 rfl lk_8_366 (Or.inl rfl) sh_179 (Nat.le_of_ble_eq_true rfl)) (fun s33 hs33 => ?_)
        obtain ⟨hf34, hc35, hc36, hc37, hc38, he39, he40⟩ := hs33
        have hF41 := Fr_tr (lo := 179) (hi := 191) hF26 hf34 (by omega)
        have hk42 : s33 (180) = σ (180) := hc35.trans hk27
        have hk43 : s33 (183) = σ (183) := hc38.trans hk28
        have hg44 : ∀ a, a ≠ 5 → a ≠ 7 → a ≠ 10 → ra_g s33 179 a = ra_g σ 179 a := fun a h5 h7 h10 => ((fun a h5 h7 h10 => he39 a h5) a h5 h7 h10).trans (hg30 a h5 h7 h10)
        refine ra_load rfl rfl rfl rfl ?_
        refine ra_load rfl rfl rfl rfl ?_
        refine ra_iconst rfl ?_
        refine ra_cTp (sp_199 hx0 (by first | omega | (unfold ra_in at *; omega)) (by first | assumption | rfl | omega)) rfl (ct_199 rfl lk_8_67 (Or.inl rfl) sh_179 (Nat.le_of_ble_eq_true rfl)) ?_
        rw [wq_k hk42]
        have hr46 : ra_in (wq σ x0 (2)) := (ra_in_wq _ _ _)
        refine ra_store (L' := [_, _, _, _]) rfl rfl rfl (Nat.le_of_ble_eq_true rfl) rfl ?_
        refine ra_load rfl rfl rfl rfl ?_
        refine ra_load rfl rfl rfl rfl ?_
        refine ra_load rfl rfl rfl rfl ?_
        refine ra_cV (sp_303 hx0 hx1 (by first | assumption | rfl | omega) (by simp only [wq_k hk42]; omega)) rfl (ct_303 rfl lk_8_375 (Or.inl rfl) sh_179 (Nat.le_of_ble_eq_true rfl)) (fun s47 hs47 => ?_)
        obtain ⟨hf48, he49⟩ := hs47
        have hF50 := Fr_tr (lo := 179) (hi := 191) hF41 hf48 (by omega)
        have hk51 : s47 (183) = σ (183) := (hf48 (183) (by omega)).trans hk43
        have hg52 : ∀ a, a ≠ 5 → a ≠ 7 → a ≠ 10 → ra_g s47 179 a = ra_g σ 179 a := fun a h5 h7 h10 => (ra_gk (hf48 179 (by omega))).trans (hg44 a h5 h7 h10)
        refine ra_load rfl rfl rfl rfl ?_
        exact ra_ireturn rfl rfl ⟨⟨_, hr46, rfl⟩, ⟨hF50, hk51, hg52, (by exfalso; omega), (PW_k he40 (ra_gk (hf48 179 (by omega))) (hf48 184 (by omega)))⟩⟩
      · refine ra_iconst rfl ?_
        exact ra_ireturn rfl rfl ⟨⟨_, (by first | omega | (unfold ra_in at *; omega)), rfl⟩, ⟨hF26, hk28, hg30, (WF_k hk27 hw), (PW_k hpw (ho31 5 (by decide) (by decide)) hk29)⟩⟩
  · refine ra_load rfl rfl rfl rfl ?_
    refine ra_load rfl rfl rfl rfl ?_
    refine ra_load rfl rfl rfl rfl ?_
    refine ra_cIPp (sp_301 hx0 hx1 (WF_k hk4 hw) (sp_k hk4 rfl (hz10p.mp (by omega)))) rfl (ct_301 rfl lk_8_372 (Or.inl rfl) sh_179 (Nat.le_of_ble_eq_true rfl)) (fun z54 hz54 hz54p => ?_)
    refine ra_ifeq rfl rfl hz54 (fun h55 => ?_) (fun h55 => ?_)
    · refine ra_iconst rfl ?_
      refine ra_iconst rfl ?_
      refine ra_cT (sp_193 (Or.inl rfl) (by first | omega | (unfold ra_in at *; omega))) rfl (ct_193 rfl lk_8_303 (Or.inl rfl) sh_179 (Nat.le_of_ble_eq_true rfl)) (fun s56 hs56 => ?_)
      obtain ⟨hf57, he58⟩ := hs56
      have hF59 := Fr_tr (lo := 179) (hi := 191) hF3 hf57 (by omega)
      have hk60 : s56 (180) = σ (180) := (hf57 (180) (by omega)).trans hk4
      have hk61 : s56 (183) = σ (183) := (hf57 (183) (by omega)).trans hk5
      have hk62 : s56 (184) = σ (184) := (hf57 (184) (by omega)).trans hk6
      have hg63 : ∀ a, a ≠ 5 → a ≠ 7 → a ≠ 10 → ra_g s56 179 a = ra_g σ 179 a := fun a h5 h7 h10 => ((fun a h7 h10 => he58 a h7) a h7 h10).trans (hg7 a h5 h7 h10)
      have ho64 : ∀ a, a ≠ 7 → a ≠ 10 → ra_g s56 179 a = ra_g σ 179 a := fun a h7 h10 => ((fun a h7 h10 => he58 a h7) a h7 h10).trans (ho8 a h7 h10)
      refine ra_ifne rfl rfl (by first | omega | (unfold ra_in at *; omega)) (fun h65 => ?_) (fun h65 => ?_)
      · exact absurd h65 (by decide)
      · refine ra_load rfl rfl rfl rfl ?_
        refine ra_load rfl rfl rfl rfl ?_
        refine ra_iconst rfl ?_
        refine ra_cQP (sp_267 hx0 (by first | omega | (unfold ra_in at *; omega))) rfl (ct_267 rfl lk_8_318 (Or.inl rfl) sh_179 (Nat.le_of_ble_eq_true rfl)) (fun z67 s66 hz67 hz67p hs66 => ?_)
        rw [wq_k hk60] at hz67p
        obtain ⟨hf68, he69⟩ := hs66
        have hF70 := Fr_tr (lo := 179) (hi := 191) hF59 hf68 (by omega)
        have hk71 : s66 (180) = σ (180) := (hf68 (180) (by omega)).trans hk60
        have hk72 : s66 (183) = σ (183) := (hf68 (183) (by omega)).trans hk61
        have hk73 : s66 (184) = σ (184) := (hf68 (184) (by omega)).trans hk62
        have hg74 : ∀ a, a ≠ 5 → a ≠ 7 → a ≠ 10 → ra_g s66 179 a = ra_g σ 179 a := fun a h5 h7 h10 => ((fun a h7 h10 => he69 a h7) a h7 h10).trans (hg63 a h5 h7 h10)
        have ho75 : ∀ a, a ≠ 7 → a ≠ 10 → ra_g s66 179 a = ra_g σ 179 a := fun a h7 h10 => ((fun a h7 h10 => he69 a h7) a h7 h10).trans (ho64 a h7 h10)
        refine ra_ifeq rfl rfl (ra_in01 hz67) (fun h76 => ?_) (fun h76 => ?_)
        · refine ra_load rfl rfl rfl rfl ?_
          have hp := hz67p (by omega)
          have hst := hz10p.mpr hp
          have hq := WF_p hw hp.1 hp.2.1 hp.2.2
          have hz0 := hz54p (by omega)
          have hz := szk_k hk4 hz0.2.2
          have hm1 := hz0.2.1
          rw [ra_gk hk4] at hm1
          have hz1 := hz.2.1
          unfold US at hz1
          refine ra_cV (sp_196 (WF_k hk71 hw) (PW_k hpw (ho75 5 (by decide) (by decide)) hk73)) rfl (ct_196 rfl lk_8_366 (Or.inl rfl) sh_179 (Nat.le_of_ble_eq_true rfl)) (fun s77 hs77 => ?_)
          obtain ⟨hf78, hc79, hc80, hc81, hc82, he83, he84⟩ := hs77
          have hF85 := Fr_tr (lo := 179) (hi := 191) hF70 hf78 (by omega)
          have hk86 : s77 (180) = σ (180) := hc79.trans hk71
          have hk87 : s77 (183) = σ (183) := hc82.trans hk72
          have hg88 : ∀ a, a ≠ 5 → a ≠ 7 → a ≠ 10 → ra_g s77 179 a = ra_g σ 179 a := fun a h5 h7 h10 => ((fun a h5 h7 h10 => he83 a h5) a h5 h7 h10).trans (hg74 a h5 h7 h10)
          refine ra_load rfl rfl rfl rfl ?_
          refine ra_load rfl rfl rfl rfl ?_
          refine ra_iconst rfl ?_
          refine ra_cTp (sp_199 hx0 (by first | omega | (unfold ra_in at *; omega)) (by first | assumption | rfl | omega)) rfl (ct_199 rfl lk_8_67 (Or.inl rfl) sh_179 (Nat.le_of_ble_eq_true rfl)) ?_
          rw [wq_k hk86]
          have hr90 : ra_in (wq σ x0 (2)) := (ra_in_wq _ _ _)
          refine ra_store (L' := [_, _, _, _]) rfl rfl rfl (Nat.le_of_ble_eq_true rfl) rfl ?_
          refine ra_load rfl rfl rfl rfl ?_
          refine ra_load rfl rfl rfl rfl ?_
          refine ra_load rfl rfl rfl rfl ?_
          refine ra_cV (sp_303 hx0 hx1 (by first | assumption | rfl | omega) (by simp only [wq_k hk86]; omega)) rfl (ct_303 rfl lk_8_375 (Or.inl rfl) sh_179 (Nat.le_of_ble_eq_true rfl)) (fun s91 hs91 => ?_)
          obtain ⟨hf92, he93⟩ := hs91
          have hF94 := Fr_tr (lo := 179) (hi := 191) hF85 hf92 (by omega)
          have hk95 : s91 (183) = σ (183) := (hf92 (183) (by omega)).trans hk87
          have hg96 : ∀ a, a ≠ 5 → a ≠ 7 → a ≠ 10 → ra_g s91 179 a = ra_g σ 179 a := fun a h5 h7 h10 => (ra_gk (hf92 179 (by omega))).trans (hg88 a h5 h7 h10)
          refine ra_load rfl rfl rfl rfl ?_
          exact ra_ireturn rfl rfl ⟨⟨_, hr90, rfl⟩, ⟨hF94, hk95, hg96, (WF_rsz (WF_k hk86 hw) ⟨by omega, by omega, by rw [wq_k hk86]; omega⟩ (by rw [ra_gk hk86]; exact hm1) he93 (szk_k hk86.symm hz)), (PW_k he84 (ra_gk (hf92 179 (by omega))) (hf92 184 (by omega)))⟩⟩
        · refine ra_iconst rfl ?_
          exact ra_ireturn rfl rfl ⟨⟨_, (by first | omega | (unfold ra_in at *; omega)), rfl⟩, ⟨hF70, hk72, hg74, (WF_k hk71 hw), (PW_k hpw (ho75 5 (by decide) (by decide)) hk73)⟩⟩
    · refine ra_iconst rfl ?_
      refine ra_goto rfl rfl ?_
      refine ra_iconst rfl ?_
      refine ra_cT (sp_193 (Or.inr rfl) (by first | omega | (unfold ra_in at *; omega))) rfl (ct_193 rfl lk_8_303 (Or.inl rfl) sh_179 (Nat.le_of_ble_eq_true rfl)) (fun s97 hs97 => ?_)
      obtain ⟨hf98, he99⟩ := hs97
      have hF100 := Fr_tr (lo := 179) (hi := 191) hF3 hf98 (by omega)
      have hk101 : s97 (180) = σ (180) := (hf98 (180) (by omega)).trans hk4
      have hk102 : s97 (183) = σ (183) := (hf98 (183) (by omega)).trans hk5
      have hk103 : s97 (184) = σ (184) := (hf98 (184) (by omega)).trans hk6
      have hg104 : ∀ a, a ≠ 5 → a ≠ 7 → a ≠ 10 → ra_g s97 179 a = ra_g σ 179 a := fun a h5 h7 h10 => ((fun a h7 h10 => he99 a h7) a h7 h10).trans (hg7 a h5 h7 h10)
      have ho105 : ∀ a, a ≠ 7 → a ≠ 10 → ra_g s97 179 a = ra_g σ 179 a := fun a h7 h10 => ((fun a h7 h10 => he99 a h7) a h7 h10).trans (ho8 a h7 h10)
      refine ra_ifne rfl rfl (by first | omega | (unfold ra_in at *; omega)) (fun h106 => ?_) (fun h106 => ?_)
      · refine ra_iconst rfl ?_
        exact ra_ireturn rfl rfl ⟨⟨_, (by first | omega | (unfold ra_in at *; omega)), rfl⟩, ⟨hF100, hk102, hg104, (WF_k hk101 hw), (PW_k hpw (ho105 5 (by decide) (by decide)) hk103)⟩⟩
      · exact absurd h106 (by decide)
theorem sp_305 {n : Nat} {f : Nat → Int32} {d : Nat} {x0 : Int} {σ : ra_V} (hx0 : ra_in x0) (hw : WF σ) (hpw : PW σ) : ra_C (g_Gs n f) g_sh 0 (d + 6) 305 [.index (179), ra_I x0] σ (fun r s => rI r ∧ Fr (179) (191) σ s ∧ s (183) = σ (183) ∧ (∀ a, a ≠ 5 → a ≠ 7 → a ≠ 10 → ra_g s 179 a = ra_g σ 179 a) ∧ WF s ∧ PW s) := by
  refine ra_enter (nn := 1) mt_305 rfl (Nat.le_of_ble_eq_true rfl) rfl (fun h => absurd h (by decide +kernel)) ?_
  have hw0 := WF_a hw
  unfold WFa at hw0
  refine ra_load rfl rfl rfl rfl ?_
  refine ra_iconst rfl ?_
  refine ra_putI rfl lk_8_51 (Nat.zero_le _) sh_179 rfl rfl ?_
  refine ra_newU (by first | omega | (unfold ra_in at *; omega)) (fun s1 hs1 hp2 hp2o => ?_)
  have hp2_99 := hp2o 99 (by decide)
  have hF3 := Fr_tr (lo := 179) (hi := 191) Fr_rf hs1 (by omega)
  have hk4 : s1 (180) = σ (180) := (hs1 (180) (by omega))
  have hk5 : s1 (183) = σ (183) := (hs1 (183) (by omega))
  have hk6 : s1 (184) = σ (184) := (hs1 (184) (by omega))
  have hg7 : ∀ a, a ≠ 5 → a ≠ 7 → a ≠ 10 → ra_g s1 179 a = ra_g σ 179 a := fun a h5 h7 h10 => ((fun a h7 h10 => hp2o a h7) a h7 h10).trans ((fun _ _ _ _ => rfl) a h5 h7 h10)
  have ho8 : ∀ a, a ≠ 7 → a ≠ 10 → ra_g s1 179 a = ra_g σ 179 a := fun a h7 h10 => ((fun a h7 h10 => hp2o a h7) a h7 h10).trans ((fun _ _ _ => rfl) a h7 h10)
  refine ra_load rfl rfl rfl rfl ?_
  refine ra_load rfl rfl rfl rfl ?_
  refine ra_cQPp (sp_201 hx0) rfl (ct_201 rfl lk_8_313 (Or.inl rfl) sh_179 (Nat.le_of_ble_eq_true rfl)) (fun z10 hz10 hz10p => ?_)
  rw [wq_k hk4] at hz10p
  refine ra_ifeq rfl rfl (ra_in01 hz10) (fun h11 => ?_) (fun h11 => ?_)
  · refine ra_iconst rfl ?_
    refine ra_store (L' := [_, _, _]) rfl rfl rfl (Nat.le_of_ble_eq_true rfl) rfl ?_
    refine ra_load rfl rfl rfl rfl ?_
    refine ra_load rfl rfl rfl rfl ?_
    refine ra_load rfl rfl rfl rfl ?_
    refine ra_cQPp (sp_201 hx0) rfl (ct_201 rfl lk_8_313 (Or.inl rfl) sh_179 (Nat.le_of_ble_eq_true rfl)) (fun z13 hz13 hz13p => ?_)
    rw [wq_k hk4] at hz13p
    refine ra_ifeq rfl rfl (ra_in01 hz13) (fun h14 => ?_) (fun h14 => ?_)
    · refine ra_iconst rfl ?_
      refine ra_iconst rfl ?_
      refine ra_cT (sp_193 (Or.inl rfl) (by first | omega | (unfold ra_in at *; omega))) rfl (ct_193 rfl lk_8_303 (Or.inl rfl) sh_179 (Nat.le_of_ble_eq_true rfl)) (fun s15 hs15 => ?_)
      obtain ⟨hf16, he17⟩ := hs15
      have hF18 := Fr_tr (lo := 179) (hi := 191) hF3 hf16 (by omega)
      have hk19 : s15 (180) = σ (180) := (hf16 (180) (by omega)).trans hk4
      have hk20 : s15 (183) = σ (183) := (hf16 (183) (by omega)).trans hk5
      have hk21 : s15 (184) = σ (184) := (hf16 (184) (by omega)).trans hk6
      have hg22 : ∀ a, a ≠ 5 → a ≠ 7 → a ≠ 10 → ra_g s15 179 a = ra_g σ 179 a := fun a h5 h7 h10 => ((fun a h7 h10 => he17 a h7) a h7 h10).trans (hg7 a h5 h7 h10)
      have ho23 : ∀ a, a ≠ 7 → a ≠ 10 → ra_g s15 179 a = ra_g σ 179 a := fun a h7 h10 => ((fun a h7 h10 => he17 a h7) a h7 h10).trans (ho8 a h7 h10)
      refine ra_ifne rfl rfl (by first | omega | (unfold ra_in at *; omega)) (fun h24 => ?_) (fun h24 => ?_)
      · exact absurd h24 (by decide)
      · refine ra_load rfl rfl rfl rfl ?_
        refine ra_load rfl rfl rfl rfl ?_
        refine ra_iconst rfl ?_
        refine ra_cQP (sp_267 hx0 (by first | omega | (unfold ra_in at *; omega))) rfl (ct_267 rfl lk_8_318 (Or.inl rfl) sh_179 (Nat.le_of_ble_eq_true rfl)) (fun z26 s25 hz26 hz26p hs25 => ?_)
        rw [wq_k hk19] at hz26p
        obtain ⟨hf27, he28⟩ := hs25
        have hF29 := Fr_tr (lo := 179) (hi := 191) hF18 hf27 (by omega)
        have hk30 : s25 (180) = σ (180) := (hf27 (180) (by omega)).trans hk19
        have hk31 : s25 (183) = σ (183) := (hf27 (183) (by omega)).trans hk20
        have hk32 : s25 (184) = σ (184) := (hf27 (184) (by omega)).trans hk21
        have hg33 : ∀ a, a ≠ 5 → a ≠ 7 → a ≠ 10 → ra_g s25 179 a = ra_g σ 179 a := fun a h5 h7 h10 => ((fun a h7 h10 => he28 a h7) a h7 h10).trans (hg22 a h5 h7 h10)
        have ho34 : ∀ a, a ≠ 7 → a ≠ 10 → ra_g s25 179 a = ra_g σ 179 a := fun a h7 h10 => ((fun a h7 h10 => he28 a h7) a h7 h10).trans (ho23 a h7 h10)
        refine ra_ifeq rfl rfl (ra_in01 hz26) (fun h35 => ?_) (fun h35 => ?_)
        · refine ra_load rfl rfl rfl rfl ?_
          have hp := hz26p (by omega)
          have hst := hz13p.mpr hp
          have hq := WF_p hw hp.1 hp.2.1 hp.2.2
          refine ra_cV (sp_196 (WF_k hk30 hw) (PW_k hpw (ho34 5 (by decide) (by decide)) hk32)) rfl (ct_196 rfl lk_8_366 (Or.inl rfl) sh_179 (Nat.le_of_ble_eq_true rfl)) (fun s36 hs36 => ?_)
          obtain ⟨hf37, hc38, hc39, hc40, hc41, he42, he43⟩ := hs36
          have hF44 := Fr_tr (lo := 179) (hi := 191) hF29 hf37 (by omega)
          have hk45 : s36 (180) = σ (180) := hc38.trans hk30
          have hk46 : s36 (183) = σ (183) := hc41.trans hk31
          have hg47 : ∀ a, a ≠ 5 → a ≠ 7 → a ≠ 10 → ra_g s36 179 a = ra_g σ 179 a := fun a h5 h7 h10 => ((fun a h5 h7 h10 => he42 a h5) a h5 h7 h10).trans (hg33 a h5 h7 h10)
          refine ra_load rfl rfl rfl rfl ?_
          refine ra_load rfl rfl rfl rfl ?_
          refine ra_load rfl rfl rfl rfl ?_
          refine ra_cV (sp_303 hx0 (by first | omega | (unfold ra_in at *; omega)) (by first | assumption | rfl | omega) (by simp only [wq_k hk45]; omega)) rfl (ct_303 rfl lk_8_375 (Or.inl rfl) sh_179 (Nat.le_of_ble_eq_true rfl)) (fun s48 hs48 => ?_)
          obtain ⟨hf49, he50⟩ := hs48
          have hF51 := Fr_tr (lo := 179) (hi := 191) hF44 hf49 (by omega)
          have hk52 : s48 (183) = σ (183) := (hf49 (183) (by omega)).trans hk46
          have hg53 : ∀ a, a ≠ 5 → a ≠ 7 → a ≠ 10 → ra_g s48 179 a = ra_g σ 179 a := fun a h5 h7 h10 => (ra_gk (hf49 179 (by omega))).trans (hg47 a h5 h7 h10)
          refine ra_load rfl rfl rfl rfl ?_
          exact ra_ireturn rfl rfl ⟨⟨_, (by first | omega | (unfold ra_in at *; omega)), rfl⟩, ⟨hF51, hk52, hg53, (by exfalso; omega), (PW_k he43 (ra_gk (hf49 179 (by omega))) (hf49 184 (by omega)))⟩⟩
        · refine ra_iconst rfl ?_
          exact ra_ireturn rfl rfl ⟨⟨_, (by first | omega | (unfold ra_in at *; omega)), rfl⟩, ⟨hF29, hk31, hg33, (WF_k hk30 hw), (PW_k hpw (ho34 5 (by decide) (by decide)) hk32)⟩⟩
    · refine ra_load rfl rfl rfl rfl ?_
      refine ra_load rfl rfl rfl rfl ?_
      refine ra_load rfl rfl rfl rfl ?_
      refine ra_cIPp (sp_301 hx0 (by first | omega | (unfold ra_in at *; omega)) (WF_k hk4 hw) (sp_k hk4 rfl (hz13p.mp (by omega)))) rfl (ct_301 rfl lk_8_372 (Or.inl rfl) sh_179 (Nat.le_of_ble_eq_true rfl)) (fun z55 hz55 hz55p => ?_)
      refine ra_ifeq rfl rfl hz55 (fun h56 => ?_) (fun h56 => ?_)
      · refine ra_iconst rfl ?_
        refine ra_iconst rfl ?_
        refine ra_cT (sp_193 (Or.inl rfl) (by first | omega | (unfold ra_in at *; omega))) rfl (ct_193 rfl lk_8_303 (Or.inl rfl) sh_179 (Nat.le_of_ble_eq_true rfl)) (fun s57 hs57 => ?_)
        obtain ⟨hf58, he59⟩ := hs57
        have hF60 := Fr_tr (lo := 179) (hi := 191) hF3 hf58 (by omega)
        have hk61 : s57 (180) = σ (180) := (hf58 (180) (by omega)).trans hk4
        have hk62 : s57 (183) = σ (183) := (hf58 (183) (by omega)).trans hk5
        have hk63 : s57 (184) = σ (184) := (hf58 (184) (by omega)).trans hk6
        have hg64 : ∀ a, a ≠ 5 → a ≠ 7 → a ≠ 10 → ra_g s57 179 a = ra_g σ 179 a := fun a h5 h7 h10 => ((fun a h7 h10 => he59 a h7) a h7 h10).trans (hg7 a h5 h7 h10)
        have ho65 : ∀ a, a ≠ 7 → a ≠ 10 → ra_g s57 179 a = ra_g σ 179 a := fun a h7 h10 => ((fun a h7 h10 => he59 a h7) a h7 h10).trans (ho8 a h7 h10)
        refine ra_ifne rfl rfl (by first | omega | (unfold ra_in at *; omega)) (fun h66 => ?_) (fun h66 => ?_)
        · exact absurd h66 (by decide)
        · refine ra_load rfl rfl rfl rfl ?_
          refine ra_load rfl rfl rfl rfl ?_
          refine ra_iconst rfl ?_
          refine ra_cQP (sp_267 hx0 (by first | omega | (unfold ra_in at *; omega))) rfl (ct_267 rfl lk_8_318 (Or.inl rfl) sh_179 (Nat.le_of_ble_eq_true rfl)) (fun z68 s67 hz68 hz68p hs67 => ?_)
          rw [wq_k hk61] at hz68p
          obtain ⟨hf69, he70⟩ := hs67
          have hF71 := Fr_tr (lo := 179) (hi := 191) hF60 hf69 (by omega)
          have hk72 : s67 (180) = σ (180) := (hf69 (180) (by omega)).trans hk61
          have hk73 : s67 (183) = σ (183) := (hf69 (183) (by omega)).trans hk62
          have hk74 : s67 (184) = σ (184) := (hf69 (184) (by omega)).trans hk63
          have hg75 : ∀ a, a ≠ 5 → a ≠ 7 → a ≠ 10 → ra_g s67 179 a = ra_g σ 179 a := fun a h5 h7 h10 => ((fun a h7 h10 => he70 a h7) a h7 h10).trans (hg64 a h5 h7 h10)
          have ho76 : ∀ a, a ≠ 7 → a ≠ 10 → ra_g s67 179 a = ra_g σ 179 a := fun a h7 h10 => ((fun a h7 h10 => he70 a h7) a h7 h10).trans (ho65 a h7 h10)
          refine ra_ifeq rfl rfl (ra_in01 hz68) (fun h77 => ?_) (fun h77 => ?_)
          · refine ra_load rfl rfl rfl rfl ?_
            have hp := hz68p (by omega)
            have hst := hz13p.mpr hp
            have hq := WF_p hw hp.1 hp.2.1 hp.2.2
            have hz0 := hz55p (by omega)
            have hz := szk_k hk4 hz0.2.2
            have hm1 := hz0.2.1
            rw [ra_gk hk4] at hm1
            have hz1 := hz.2.1
            unfold US at hz1
            refine ra_cV (sp_196 (WF_k hk72 hw) (PW_k hpw (ho76 5 (by decide) (by decide)) hk74)) rfl (ct_196 rfl lk_8_366 (Or.inl rfl) sh_179 (Nat.le_of_ble_eq_true rfl)) (fun s78 hs78 => ?_)
            obtain ⟨hf79, hc80, hc81, hc82, hc83, he84, he85⟩ := hs78
            have hF86 := Fr_tr (lo := 179) (hi := 191) hF71 hf79 (by omega)
            have hk87 : s78 (180) = σ (180) := hc80.trans hk72
            have hk88 : s78 (183) = σ (183) := hc83.trans hk73
            have hg89 : ∀ a, a ≠ 5 → a ≠ 7 → a ≠ 10 → ra_g s78 179 a = ra_g σ 179 a := fun a h5 h7 h10 => ((fun a h5 h7 h10 => he84 a h5) a h5 h7 h10).trans (hg75 a h5 h7 h10)
            refine ra_load rfl rfl rfl rfl ?_
            refine ra_load rfl rfl rfl rfl ?_
            refine ra_load rfl rfl rfl rfl ?_
            refine ra_cV (sp_303 hx0 (by first | omega | (unfold ra_in at *; omega)) (by first | assumption | rfl | omega) (by simp only [wq_k hk87]; omega)) rfl (ct_303 rfl lk_8_375 (Or.inl rfl) sh_179 (Nat.le_of_ble_eq_true rfl)) (fun s90 hs90 => ?_)
            obtain ⟨hf91, he92⟩ := hs90
            have hF93 := Fr_tr (lo := 179) (hi := 191) hF86 hf91 (by omega)
            have hk94 : s90 (183) = σ (183) := (hf91 (183) (by omega)).trans hk88
            have hg95 : ∀ a, a ≠ 5 → a ≠ 7 → a ≠ 10 → ra_g s90 179 a = ra_g σ 179 a := fun a h5 h7 h10 => (ra_gk (hf91 179 (by omega))).trans (hg89 a h5 h7 h10)
            refine ra_load rfl rfl rfl rfl ?_
            exact ra_ireturn rfl rfl ⟨⟨_, (by first | omega | (unfold ra_in at *; omega)), rfl⟩, ⟨hF93, hk94, hg95, (WF_rsz (WF_k hk87 hw) ⟨by omega, by omega, by rw [wq_k hk87]; omega⟩ (by rw [ra_gk hk87]; exact hm1) he92 (szk_k hk87.symm hz)), (PW_k he85 (ra_gk (hf91 179 (by omega))) (hf91 184 (by omega)))⟩⟩
          · refine ra_iconst rfl ?_
            exact ra_ireturn rfl rfl ⟨⟨_, (by first | omega | (unfold ra_in at *; omega)), rfl⟩, ⟨hF71, hk73, hg75, (WF_k hk72 hw), (PW_k hpw (ho76 5 (by decide) (by decide)) hk74)⟩⟩
      · refine ra_iconst rfl ?_
        refine ra_goto rfl rfl ?_
        refine ra_iconst rfl ?_
        refine ra_cT (sp_193 (Or.inr rfl) (by first | omega | (unfold ra_in at *; omega))) rfl (ct_193 rfl lk_8_303 (Or.inl rfl) sh_179 (Nat.le_of_ble_eq_true rfl)) (fun s96 hs96 => ?_)
        obtain ⟨hf97, he98⟩ := hs96
        have hF99 := Fr_tr (lo := 179) (hi := 191) hF3 hf97 (by omega)
        have hk100 : s96 (180) = σ (180) := (hf97 (180) (by omega)).trans hk4
        have hk101 : s96 (183) = σ (183) := (hf97 (183) (by omega)).trans hk5
        have hk102 : s96 (184) = σ (184) := (hf97 (184) (by omega)).trans hk6
        have hg103 : ∀ a, a ≠ 5 → a ≠ 7 → a ≠ 10 → ra_g s96 179 a = ra_g σ 179 a := fun a h5 h7 h10 => ((fun a h7 h10 => he98 a h7) a h7 h10).trans (hg7 a h5 h7 h10)
        have ho104 : ∀ a, a ≠ 7 → a ≠ 10 → ra_g s96 179 a = ra_g σ 179 a := fun a h7 h10 => ((fun a h7 h10 => he98 a h7) a h7 h10).trans (ho8 a h7 h10)
        refine ra_ifne rfl rfl (by first | omega | (unfold ra_in at *; omega)) (fun h105 => ?_) (fun h105 => ?_)
        · refine ra_iconst rfl ?_
          exact ra_ireturn rfl rfl ⟨⟨_, (by first | omega | (unfold ra_in at *; omega)), rfl⟩, ⟨hF99, hk101, hg103, (WF_k hk100 hw), (PW_k hpw (ho104 5 (by decide) (by decide)) hk102)⟩⟩
        · exact absurd h105 (by decide)
  · refine ra_load rfl rfl rfl rfl ?_
    refine ra_load rfl rfl rfl rfl ?_
    refine ra_iconst rfl ?_
    refine ra_cTp (sp_199 hx0 (by first | omega | (unfold ra_in at *; omega)) (by first | assumption | rfl | omega)) rfl (ct_199 rfl lk_8_67 (Or.inl rfl) sh_179 (Nat.le_of_ble_eq_true rfl)) ?_
    rw [wq_k hk4]
    have hr107 : ra_in (wq σ x0 (2)) := (ra_in_wq _ _ _)
    refine ra_load rfl rfl rfl rfl ?_
    refine ra_getR rfl lk_8_7 (Nat.zero_le _) sh_179 rfl ?_
    refine ra_iconst rfl ?_
    refine ra_ialoadJ (j := 3) rfl sh_180 rfl (by decide) rfl (by decide) ?_
    rw [ra_gk hk4]
    have hr108 : ra_in (ra_g σ (180) 3) := (ra_in_g _ _ _)
    have hp := hz10p.mp (by omega)
    have hq := WF_p hw hp.1 hp.2.1 hp.2.2
    have e1 : wq s1 x0 2 = wq σ x0 2 := wq_k hk4
    have e2 : ra_g s1 180 3 = ra_g σ 180 3 := ra_gk hk4
    refine ra_cTp (sp_206 hr107 hr108 (by first | assumption | rfl | omega)) rfl (ct_206 rfl lk_8_120 (Or.inl rfl) (Nat.le_of_ble_eq_true rfl)) ?_
    have hr110 : ra_in (((wq s1 x0 (2)) + (ra_g s1 (180) 3) - 1).tdiv (ra_g s1 (180) 3)) := (ra_in_tdiv (by unfold ra_in; omega) (by omega))
    refine ra_load rfl rfl rfl rfl ?_
    refine ra_getR rfl lk_8_7 (Nat.zero_le _) sh_179 rfl ?_
    refine ra_iconst rfl ?_
    refine ra_ialoadJ (j := 3) rfl sh_180 rfl (by decide) rfl (by decide) ?_
    rw [ra_gk hk4]
    have hr111 : ra_in (ra_g σ (180) 3) := (ra_in_g _ _ _)
    refine ra_imul rfl ?_
    refine ra_gen (fun z112 hz112 => ?_)
    refine ra_goto rfl rfl ?_
    refine ra_store (L' := [_, _, _]) rfl rfl rfl (Nat.le_of_ble_eq_true rfl) rfl ?_
    refine ra_load rfl rfl rfl rfl ?_
    refine ra_load rfl rfl rfl rfl ?_
    refine ra_load rfl rfl rfl rfl ?_
    refine ra_cQPp (sp_201 hx0) rfl (ct_201 rfl lk_8_313 (Or.inl rfl) sh_179 (Nat.le_of_ble_eq_true rfl)) (fun z114 hz114 hz114p => ?_)
    rw [wq_k hk4] at hz114p
    refine ra_ifeq rfl rfl (ra_in01 hz114) (fun h115 => ?_) (fun h115 => ?_)
    · refine ra_iconst rfl ?_
      refine ra_iconst rfl ?_
      refine ra_cT (sp_193 (Or.inl rfl) (by first | omega | (unfold ra_in at *; omega))) rfl (ct_193 rfl lk_8_303 (Or.inl rfl) sh_179 (Nat.le_of_ble_eq_true rfl)) (fun s116 hs116 => ?_)
      obtain ⟨hf117, he118⟩ := hs116
      have hF119 := Fr_tr (lo := 179) (hi := 191) hF3 hf117 (by omega)
      have hk120 : s116 (180) = σ (180) := (hf117 (180) (by omega)).trans hk4
      have hk121 : s116 (183) = σ (183) := (hf117 (183) (by omega)).trans hk5
      have hk122 : s116 (184) = σ (184) := (hf117 (184) (by omega)).trans hk6
      have hg123 : ∀ a, a ≠ 5 → a ≠ 7 → a ≠ 10 → ra_g s116 179 a = ra_g σ 179 a := fun a h5 h7 h10 => ((fun a h7 h10 => he118 a h7) a h7 h10).trans (hg7 a h5 h7 h10)
      have ho124 : ∀ a, a ≠ 7 → a ≠ 10 → ra_g s116 179 a = ra_g σ 179 a := fun a h7 h10 => ((fun a h7 h10 => he118 a h7) a h7 h10).trans (ho8 a h7 h10)
      refine ra_ifne rfl rfl (by first | omega | (unfold ra_in at *; omega)) (fun h125 => ?_) (fun h125 => ?_)
      · exact absurd h125 (by decide)
      · refine ra_load rfl rfl rfl rfl ?_
        refine ra_load rfl rfl rfl rfl ?_
        refine ra_iconst rfl ?_
        refine ra_cQP (sp_267 hx0 (by first | omega | (unfold ra_in at *; omega))) rfl (ct_267 rfl lk_8_318 (Or.inl rfl) sh_179 (Nat.le_of_ble_eq_true rfl)) (fun z127 s126 hz127 hz127p hs126 => ?_)
        rw [wq_k hk120] at hz127p
        obtain ⟨hf128, he129⟩ := hs126
        have hF130 := Fr_tr (lo := 179) (hi := 191) hF119 hf128 (by omega)
        have hk131 : s126 (180) = σ (180) := (hf128 (180) (by omega)).trans hk120
        have hk132 : s126 (183) = σ (183) := (hf128 (183) (by omega)).trans hk121
        have hk133 : s126 (184) = σ (184) := (hf128 (184) (by omega)).trans hk122
        have hg134 : ∀ a, a ≠ 5 → a ≠ 7 → a ≠ 10 → ra_g s126 179 a = ra_g σ 179 a := fun a h5 h7 h10 => ((fun a h7 h10 => he129 a h7) a h7 h10).trans (hg123 a h5 h7 h10)
        have ho135 : ∀ a, a ≠ 7 → a ≠ 10 → ra_g s126 179 a = ra_g σ 179 a := fun a h7 h10 => ((fun a h7 h10 => he129 a h7) a h7 h10).trans (ho124 a h7 h10)
        refine ra_ifeq rfl rfl (ra_in01 hz127) (fun h136 => ?_) (fun h136 => ?_)
        · refine ra_load rfl rfl rfl rfl ?_
          have hp := hz127p (by omega)
          have hst := hz114p.mpr hp
          have hq := WF_p hw hp.1 hp.2.1 hp.2.2
          refine ra_cV (sp_196 (WF_k hk131 hw) (PW_k hpw (ho135 5 (by decide) (by decide)) hk133)) rfl (ct_196 rfl lk_8_366 (Or.inl rfl) sh_179 (Nat.le_of_ble_eq_true rfl)) (fun s137 hs137 => ?_)
          obtain ⟨hf138, hc139, hc140, hc141, hc142, he143, he144⟩ := hs137
          have hF145 := Fr_tr (lo := 179) (hi := 191) hF130 hf138 (by omega)
          have hk146 : s137 (180) = σ (180) := hc139.trans hk131
          have hk147 : s137 (183) = σ (183) := hc142.trans hk132
          have hg148 : ∀ a, a ≠ 5 → a ≠ 7 → a ≠ 10 → ra_g s137 179 a = ra_g σ 179 a := fun a h5 h7 h10 => ((fun a h5 h7 h10 => he143 a h5) a h5 h7 h10).trans (hg134 a h5 h7 h10)
          refine ra_load rfl rfl rfl rfl ?_
          refine ra_load rfl rfl rfl rfl ?_
          refine ra_load rfl rfl rfl rfl ?_
          refine ra_cV (sp_303 hx0 hz112 (by first | assumption | rfl | omega) (by simp only [wq_k hk146]; omega)) rfl (ct_303 rfl lk_8_375 (Or.inl rfl) sh_179 (Nat.le_of_ble_eq_true rfl)) (fun s149 hs149 => ?_)
          obtain ⟨hf150, he151⟩ := hs149
          have hF152 := Fr_tr (lo := 179) (hi := 191) hF145 hf150 (by omega)
          have hk153 : s149 (183) = σ (183) := (hf150 (183) (by omega)).trans hk147
          have hg154 : ∀ a, a ≠ 5 → a ≠ 7 → a ≠ 10 → ra_g s149 179 a = ra_g σ 179 a := fun a h5 h7 h10 => (ra_gk (hf150 179 (by omega))).trans (hg148 a h5 h7 h10)
          refine ra_load rfl rfl rfl rfl ?_
          exact ra_ireturn rfl rfl ⟨⟨_, hz112, rfl⟩, ⟨hF152, hk153, hg154, (by exfalso; omega), (PW_k he144 (ra_gk (hf150 179 (by omega))) (hf150 184 (by omega)))⟩⟩
        · refine ra_iconst rfl ?_
          exact ra_ireturn rfl rfl ⟨⟨_, (by first | omega | (unfold ra_in at *; omega)), rfl⟩, ⟨hF130, hk132, hg134, (WF_k hk131 hw), (PW_k hpw (ho135 5 (by decide) (by decide)) hk133)⟩⟩
    · refine ra_load rfl rfl rfl rfl ?_
      refine ra_load rfl rfl rfl rfl ?_
      refine ra_load rfl rfl rfl rfl ?_
      refine ra_cIPp (sp_301 hx0 hz112 (WF_k hk4 hw) (sp_k hk4 rfl (hz114p.mp (by omega)))) rfl (ct_301 rfl lk_8_372 (Or.inl rfl) sh_179 (Nat.le_of_ble_eq_true rfl)) (fun z156 hz156 hz156p => ?_)
      refine ra_ifeq rfl rfl hz156 (fun h157 => ?_) (fun h157 => ?_)
      · refine ra_iconst rfl ?_
        refine ra_iconst rfl ?_
        refine ra_cT (sp_193 (Or.inl rfl) (by first | omega | (unfold ra_in at *; omega))) rfl (ct_193 rfl lk_8_303 (Or.inl rfl) sh_179 (Nat.le_of_ble_eq_true rfl)) (fun s158 hs158 => ?_)
        obtain ⟨hf159, he160⟩ := hs158
        have hF161 := Fr_tr (lo := 179) (hi := 191) hF3 hf159 (by omega)
        have hk162 : s158 (180) = σ (180) := (hf159 (180) (by omega)).trans hk4
        have hk163 : s158 (183) = σ (183) := (hf159 (183) (by omega)).trans hk5
        have hk164 : s158 (184) = σ (184) := (hf159 (184) (by omega)).trans hk6
        have hg165 : ∀ a, a ≠ 5 → a ≠ 7 → a ≠ 10 → ra_g s158 179 a = ra_g σ 179 a := fun a h5 h7 h10 => ((fun a h7 h10 => he160 a h7) a h7 h10).trans (hg7 a h5 h7 h10)
        have ho166 : ∀ a, a ≠ 7 → a ≠ 10 → ra_g s158 179 a = ra_g σ 179 a := fun a h7 h10 => ((fun a h7 h10 => he160 a h7) a h7 h10).trans (ho8 a h7 h10)
        refine ra_ifne rfl rfl (by first | omega | (unfold ra_in at *; omega)) (fun h167 => ?_) (fun h167 => ?_)
        · exact absurd h167 (by decide)
        · refine ra_load rfl rfl rfl rfl ?_
          refine ra_load rfl rfl rfl rfl ?_
          refine ra_iconst rfl ?_
          refine ra_cQP (sp_267 hx0 (by first | omega | (unfold ra_in at *; omega))) rfl (ct_267 rfl lk_8_318 (Or.inl rfl) sh_179 (Nat.le_of_ble_eq_true rfl)) (fun z169 s168 hz169 hz169p hs168 => ?_)
          rw [wq_k hk162] at hz169p
          obtain ⟨hf170, he171⟩ := hs168
          have hF172 := Fr_tr (lo := 179) (hi := 191) hF161 hf170 (by omega)
          have hk173 : s168 (180) = σ (180) := (hf170 (180) (by omega)).trans hk162
          have hk174 : s168 (183) = σ (183) := (hf170 (183) (by omega)).trans hk163
          have hk175 : s168 (184) = σ (184) := (hf170 (184) (by omega)).trans hk164
          have hg176 : ∀ a, a ≠ 5 → a ≠ 7 → a ≠ 10 → ra_g s168 179 a = ra_g σ 179 a := fun a h5 h7 h10 => ((fun a h7 h10 => he171 a h7) a h7 h10).trans (hg165 a h5 h7 h10)
          have ho177 : ∀ a, a ≠ 7 → a ≠ 10 → ra_g s168 179 a = ra_g σ 179 a := fun a h7 h10 => ((fun a h7 h10 => he171 a h7) a h7 h10).trans (ho166 a h7 h10)
          refine ra_ifeq rfl rfl (ra_in01 hz169) (fun h178 => ?_) (fun h178 => ?_)
          · refine ra_load rfl rfl rfl rfl ?_
            have hp := hz169p (by omega)
            have hst := hz114p.mpr hp
            have hq := WF_p hw hp.1 hp.2.1 hp.2.2
            have hz0 := hz156p (by omega)
            have hz := szk_k hk4 hz0.2.2
            have hm1 := hz0.2.1
            rw [ra_gk hk4] at hm1
            have hz1 := hz.2.1
            unfold US at hz1
            refine ra_cV (sp_196 (WF_k hk173 hw) (PW_k hpw (ho177 5 (by decide) (by decide)) hk175)) rfl (ct_196 rfl lk_8_366 (Or.inl rfl) sh_179 (Nat.le_of_ble_eq_true rfl)) (fun s179 hs179 => ?_)
            obtain ⟨hf180, hc181, hc182, hc183, hc184, he185, he186⟩ := hs179
            have hF187 := Fr_tr (lo := 179) (hi := 191) hF172 hf180 (by omega)
            have hk188 : s179 (180) = σ (180) := hc181.trans hk173
            have hk189 : s179 (183) = σ (183) := hc184.trans hk174
            have hg190 : ∀ a, a ≠ 5 → a ≠ 7 → a ≠ 10 → ra_g s179 179 a = ra_g σ 179 a := fun a h5 h7 h10 => ((fun a h5 h7 h10 => he185 a h5) a h5 h7 h10).trans (hg176 a h5 h7 h10)
            refine ra_load rfl rfl rfl rfl ?_
            refine ra_load rfl rfl rfl rfl ?_
            refine ra_load rfl rfl rfl rfl ?_
            refine ra_cV (sp_303 hx0 hz112 (by first | assumption | rfl | omega) (by simp only [wq_k hk188]; omega)) rfl (ct_303 rfl lk_8_375 (Or.inl rfl) sh_179 (Nat.le_of_ble_eq_true rfl)) (fun s191 hs191 => ?_)
            obtain ⟨hf192, he193⟩ := hs191
            have hF194 := Fr_tr (lo := 179) (hi := 191) hF187 hf192 (by omega)
            have hk195 : s191 (183) = σ (183) := (hf192 (183) (by omega)).trans hk189
            have hg196 : ∀ a, a ≠ 5 → a ≠ 7 → a ≠ 10 → ra_g s191 179 a = ra_g σ 179 a := fun a h5 h7 h10 => (ra_gk (hf192 179 (by omega))).trans (hg190 a h5 h7 h10)
            refine ra_load rfl rfl rfl rfl ?_
            exact ra_ireturn rfl rfl ⟨⟨_, hz112, rfl⟩, ⟨hF194, hk195, hg196, (WF_rsz (WF_k hk188 hw) ⟨by omega, by omega, by rw [wq_k hk188]; omega⟩ (by rw [ra_gk hk188]; exact hm1) he193 (szk_k hk188.symm hz)), (PW_k he186 (ra_gk (hf192 179 (by omega))) (hf192 184 (by omega)))⟩⟩
          · refine ra_iconst rfl ?_
            exact ra_ireturn rfl rfl ⟨⟨_, (by first | omega | (unfold ra_in at *; omega)), rfl⟩, ⟨hF172, hk174, hg176, (WF_k hk173 hw), (PW_k hpw (ho177 5 (by decide) (by decide)) hk175)⟩⟩
      · refine ra_iconst rfl ?_
        refine ra_goto rfl rfl ?_
        refine ra_iconst rfl ?_
        refine ra_cT (sp_193 (Or.inr rfl) (by first | omega | (unfold ra_in at *; omega))) rfl (ct_193 rfl lk_8_303 (Or.inl rfl) sh_179 (Nat.le_of_ble_eq_true rfl)) (fun s197 hs197 => ?_)
        obtain ⟨hf198, he199⟩ := hs197
        have hF200 := Fr_tr (lo := 179) (hi := 191) hF3 hf198 (by omega)
        have hk201 : s197 (180) = σ (180) := (hf198 (180) (by omega)).trans hk4
        have hk202 : s197 (183) = σ (183) := (hf198 (183) (by omega)).trans hk5
        have hk203 : s197 (184) = σ (184) := (hf198 (184) (by omega)).trans hk6
        have hg204 : ∀ a, a ≠ 5 → a ≠ 7 → a ≠ 10 → ra_g s197 179 a = ra_g σ 179 a := fun a h5 h7 h10 => ((fun a h7 h10 => he199 a h7) a h7 h10).trans (hg7 a h5 h7 h10)
        have ho205 : ∀ a, a ≠ 7 → a ≠ 10 → ra_g s197 179 a = ra_g σ 179 a := fun a h7 h10 => ((fun a h7 h10 => he199 a h7) a h7 h10).trans (ho8 a h7 h10)
        refine ra_ifne rfl rfl (by first | omega | (unfold ra_in at *; omega)) (fun h206 => ?_) (fun h206 => ?_)
        · refine ra_iconst rfl ?_
          exact ra_ireturn rfl rfl ⟨⟨_, (by first | omega | (unfold ra_in at *; omega)), rfl⟩, ⟨hF200, hk202, hg204, (WF_k hk201 hw), (PW_k hpw (ho205 5 (by decide) (by decide)) hk203)⟩⟩
        · exact absurd h206 (by decide)
theorem lp_307_23 {n : Nat} {f : Nat → Int32} {d : Nat} {x0 : Int} {σ : ra_V} (hx0 : ra_in x0) (hw : WF σ) : ∀ (nn : Nat) (v2 : Int) (s : ra_V) (hv2_0 : wq σ x0 2 ≤ v2) (hv2_1 : v2 ≤ 600) (hF : Fr (179) (187) σ s) (hk0 : s (180) = σ (180)) (hk1 : s (181) = σ (181)) (hk2 : s (182) = σ (182)) (hk3 : s (183) = σ (183)) (hk4 : s (184) = σ (184)) (hoo : ∀ a, a ≠ 7 → a ≠ 10 → ra_g s 179 a = ra_g σ 179 a) (hp : 0 ≤ x0 ∧ x0 < 8 ∧ wq σ x0 0 = 1) (hm : ((v2 - wq σ x0 2 + 1 : Int)).toNat < nn), ra_P (g_Gs n f) g_sh 0 (d + 4) g_m_X8_growsTo 23 [some (.index (179)), some (ra_I x0), some (ra_I v2)] [] s (fun r s => rI r ∧ Fr (179) (187) σ s ∧ s (180) = σ (180) ∧ s (181) = σ (181) ∧ s (182) = σ (182) ∧ s (183) = σ (183) ∧ s (184) = σ (184) ∧ (∀ a, a ≠ 7 → a ≠ 10 → ra_g s 179 a = ra_g σ 179 a)) := by
  intro nn
  induction nn with
  | zero => intro v2 s hv2_0 hv2_1 hF hk0 hk1 hk2 hk3 hk4 hoo hp hm; exact absurd hm (Nat.not_lt_zero _)
  | succ nn ih =>
    intro v2 s hv2_0 hv2_1 hF hk0 hk1 hk2 hk3 hk4 hoo hp hm
    have hw0 := WF_a hw
    unfold WFa at hw0
    have hq := WF_p hw hp.1 hp.2.1 hp.2.2
    refine ra_load rfl rfl rfl rfl ?_
    refine ra_load rfl rfl rfl rfl ?_
    refine ra_load rfl rfl rfl rfl ?_
    refine ra_cIPp (sp_300 hx0 (by first | omega | (unfold ra_in at *; omega)) (WF_k hk0 hw) (by first | assumption | (rw [wq_k hk0]; omega))) rfl (ct_300 rfl lk_8_369 (Or.inl rfl) sh_179 (Nat.le_of_ble_eq_true rfl)) (fun z24 hz24 hz24p => ?_)
    have hj := hz24p.2
    rw [wq_k hk0] at hj
    refine ra_ifeq rfl rfl hz24 (fun h25 => ?_) (fun h25 => ?_)
    · refine ra_load rfl rfl rfl rfl ?_
      exact ra_ireturn rfl rfl ⟨⟨_, (by first | omega | (unfold ra_in at *; omega)), rfl⟩, ⟨hF, hk0, hk1, hk2, hk3, hk4, hoo⟩⟩
    · refine ra_iinc (L' := [_, _, _]) rfl rfl (Nat.le_of_ble_eq_true rfl) rfl ?_
      refine ra_goto rfl rfl ?_
      exact ra_weak (by repeat' constructor) (ih (v2 + (-1)) s (by first | omega | (unfold ra_in at *; omega)) (by first | omega | (unfold ra_in at *; omega)) hF hk0 hk1 hk2 hk3 hk4 hoo hp (by first | omega | (unfold ra_in at *; omega)))
theorem sp_307 {n : Nat} {f : Nat → Int32} {d : Nat} {x0 : Int} {σ : ra_V} (hx0 : ra_in x0) (hw : WF σ) : ra_C (g_Gs n f) g_sh 0 (d + 5) 307 [.index (179), ra_I x0] σ (fun r s => rI r ∧ Fr (179) (187) σ s ∧ s (180) = σ (180) ∧ s (181) = σ (181) ∧ s (182) = σ (182) ∧ s (183) = σ (183) ∧ s (184) = σ (184) ∧ (∀ a, a ≠ 7 → a ≠ 10 → ra_g s 179 a = ra_g σ 179 a)) := by
  refine ra_enter (nn := 1) mt_307 rfl (Nat.le_of_ble_eq_true rfl) rfl (fun h => absurd h (by decide +kernel)) ?_
  have hw0 := WF_a hw
  unfold WFa at hw0
  refine ra_load rfl rfl rfl rfl ?_
  refine ra_iconst rfl ?_
  refine ra_putI rfl lk_8_51 (Nat.zero_le _) sh_179 rfl rfl ?_
  refine ra_newU (by first | omega | (unfold ra_in at *; omega)) (fun s1 hs1 hp2 hp2o => ?_)
  have hp2_99 := hp2o 99 (by decide)
  have hF3 := Fr_tr (lo := 179) (hi := 187) Fr_rf hs1 (by omega)
  have hk4 : s1 (180) = σ (180) := (hs1 (180) (by omega))
  have hk5 : s1 (181) = σ (181) := (hs1 (181) (by omega))
  have hk6 : s1 (182) = σ (182) := (hs1 (182) (by omega))
  have hk7 : s1 (183) = σ (183) := (hs1 (183) (by omega))
  have hk8 : s1 (184) = σ (184) := (hs1 (184) (by omega))
  have ho9 : ∀ a, a ≠ 7 → a ≠ 10 → ra_g s1 179 a = ra_g σ 179 a := fun a h7 h10 => ((fun a h7 h10 => hp2o a h7) a h7 h10).trans ((fun _ _ _ => rfl) a h7 h10)
  refine ra_load rfl rfl rfl rfl ?_
  refine ra_load rfl rfl rfl rfl ?_
  refine ra_iconst rfl ?_
  refine ra_cQP (sp_267 hx0 (by first | omega | (unfold ra_in at *; omega))) rfl (ct_267 rfl lk_8_318 (Or.inl rfl) sh_179 (Nat.le_of_ble_eq_true rfl)) (fun z11 s10 hz11 hz11p hs10 => ?_)
  rw [wq_k hk4] at hz11p
  obtain ⟨hf12, he13⟩ := hs10
  have hF14 := Fr_tr (lo := 179) (hi := 187) hF3 hf12 (by omega)
  have hk15 : s10 (180) = σ (180) := (hf12 (180) (by omega)).trans hk4
  have hk16 : s10 (181) = σ (181) := (hf12 (181) (by omega)).trans hk5
  have hk17 : s10 (182) = σ (182) := (hf12 (182) (by omega)).trans hk6
  have hk18 : s10 (183) = σ (183) := (hf12 (183) (by omega)).trans hk7
  have hk19 : s10 (184) = σ (184) := (hf12 (184) (by omega)).trans hk8
  have ho20 : ∀ a, a ≠ 7 → a ≠ 10 → ra_g s10 179 a = ra_g σ 179 a := fun a h7 h10 => ((fun a h7 h10 => he13 a h7) a h7 h10).trans (ho9 a h7 h10)
  refine ra_ifeq rfl rfl (ra_in01 hz11) (fun h21 => ?_) (fun h21 => ?_)
  · refine ra_load rfl rfl rfl rfl ?_
    refine ra_getR rfl lk_8_7 (Nat.zero_le _) sh_179 rfl ?_
    refine ra_iconst rfl ?_
    refine ra_ialoadJ (j := 0) rfl sh_180 rfl (by decide) rfl (by decide) ?_
    rw [ra_gk hk15]
    have hr22 : ra_in (ra_g σ (180) 0) := (ra_in_g _ _ _)
    have hp := hz11p (by omega)
    have hq := WF_p hw hp.1 hp.2.1 hp.2.2
    refine ra_store (L' := [_, _, _]) rfl rfl rfl (Nat.le_of_ble_eq_true rfl) rfl ?_
    exact ra_weak (by repeat' constructor) (lp_307_23 hx0 hw _ (ra_g σ (180) 0) s10 (by first | omega | (unfold ra_in at *; omega)) (by first | omega | (unfold ra_in at *; omega)) hF14 hk15 hk16 hk17 hk18 hk19 ho20 hp (Nat.lt_succ_self _))
  · refine ra_iconst rfl ?_
    exact ra_ireturn rfl rfl ⟨⟨_, (by first | omega | (unfold ra_in at *; omega)), rfl⟩, ⟨hF14, hk15, hk16, hk17, hk18, hk19, ho20⟩⟩
end RB
