/-! the reference: what its methods do (printed by wip/gen/ref.py) -/
section RB
theorem sp_308 {n : Nat} {f : Nat → Int32} {d : Nat} {x0 : Int} {x1 : Int} {σ : ra_V} (hx0 : ra_in x0) (hx1 : ra_in x1) (hw : WF σ) (hpw : PW σ) : ra_C (g_Gs n f) g_sh 0 (d + 5) 308 [.index (179), ra_I x0, ra_I x1] σ (fun r s => rI r ∧ Fr (179) (191) σ s ∧ s (183) = σ (183) ∧ s (187) = σ (187) ∧ (∀ a, a ≠ 5 → a ≠ 7 → a ≠ 10 → ra_g s 179 a = ra_g σ 179 a) ∧ WF s ∧ PW s) := by
  refine ra_enter (nn := 2) mt_308 rfl (Nat.le_of_ble_eq_true rfl) rfl (fun h => absurd h (by decide +kernel)) ?_
  have hw0 := WF_a hw
  unfold WFa at hw0
  refine ra_load rfl rfl rfl rfl ?_
  refine ra_iconst rfl ?_
  refine ra_putI rfl lk_8_51 (Nat.zero_le _) sh_179 rfl rfl ?_
  refine ra_newU (by first | omega | (unfold ra_in at *; omega)) (fun s1 hs1 hp2 hp2o => ?_)
  have hp2_99 := hp2o 99 (by decide)
  have hF3 := Fr_tr (lo := 179) (hi := 191) Fr_rf hs1 (by omega)
  have hk4 : s1 (180) = σ (180) := (hs1 (180) (by omega))
  have hk5 : s1 (183) = σ (183) := (hs1 (183) (by omega))
  have hk6 : s1 (184) = σ (184) := (hs1 (184) (by omega))
  have hk7 : s1 (187) = σ (187) := (hs1 (187) (by omega))
  have hg8 : ∀ a, a ≠ 5 → a ≠ 7 → a ≠ 10 → ra_g s1 179 a = ra_g σ 179 a := fun a h5 h7 h10 => ((fun a h7 h10 => hp2o a h7) a h7 h10).trans ((fun _ _ _ _ => rfl) a h5 h7 h10)
  have ho9 : ∀ a, a ≠ 7 → a ≠ 10 → ra_g s1 179 a = ra_g σ 179 a := fun a h7 h10 => ((fun a h7 h10 => hp2o a h7) a h7 h10).trans ((fun _ _ _ => rfl) a h7 h10)
  refine ra_load rfl rfl rfl rfl ?_
  refine ra_load rfl rfl rfl rfl ?_
  refine ra_load rfl rfl rfl rfl ?_
  refine ra_cQPp (sp_201 hx0) rfl (ct_201 rfl lk_8_313 (Or.inl rfl) sh_179 (Nat.le_of_ble_eq_true rfl)) (fun z11 hz11 hz11p => ?_)
  rw [wq_k hk4] at hz11p
  refine ra_ifeq rfl rfl (ra_in01 hz11) (fun h12 => ?_) (fun h12 => ?_)
  · refine ra_iconst rfl ?_
    refine ra_iconst rfl ?_
    refine ra_cT (sp_193 (Or.inl rfl) (by first | omega | (unfold ra_in at *; omega))) rfl (ct_193 rfl lk_8_303 (Or.inl rfl) sh_179 (Nat.le_of_ble_eq_true rfl)) (fun s13 hs13 => ?_)
    obtain ⟨hf14, he15⟩ := hs13
    have hF16 := Fr_tr (lo := 179) (hi := 191) hF3 hf14 (by omega)
    have hk17 : s13 (180) = σ (180) := (hf14 (180) (by omega)).trans hk4
    have hk18 : s13 (183) = σ (183) := (hf14 (183) (by omega)).trans hk5
    have hk19 : s13 (184) = σ (184) := (hf14 (184) (by omega)).trans hk6
    have hk20 : s13 (187) = σ (187) := (hf14 (187) (by omega)).trans hk7
    have hg21 : ∀ a, a ≠ 5 → a ≠ 7 → a ≠ 10 → ra_g s13 179 a = ra_g σ 179 a := fun a h5 h7 h10 => ((fun a h7 h10 => he15 a h7) a h7 h10).trans (hg8 a h5 h7 h10)
    have ho22 : ∀ a, a ≠ 7 → a ≠ 10 → ra_g s13 179 a = ra_g σ 179 a := fun a h7 h10 => ((fun a h7 h10 => he15 a h7) a h7 h10).trans (ho9 a h7 h10)
    refine ra_ifeq rfl rfl (by first | omega | (unfold ra_in at *; omega)) (fun h23 => ?_) (fun h23 => ?_)
    · refine ra_load rfl rfl rfl rfl ?_
      refine ra_load rfl rfl rfl rfl ?_
      refine ra_cQPp (sp_201 hx0) rfl (ct_201 rfl lk_8_313 (Or.inl rfl) sh_179 (Nat.le_of_ble_eq_true rfl)) (fun z25 hz25 hz25p => ?_)
      rw [wq_k hk17] at hz25p
      refine ra_ifeq rfl rfl (ra_in01 hz25) (fun h26 => ?_) (fun h26 => ?_)
      · refine ra_iconst rfl ?_
        refine ra_store (L' := [_, _, _, _, _]) rfl rfl rfl (Nat.le_of_ble_eq_true rfl) rfl ?_
        refine ra_load rfl rfl rfl rfl ?_
        refine ra_load rfl rfl rfl rfl ?_
        refine ra_iconst rfl ?_
        refine ra_cT (sp_193 (Or.inl rfl) (by first | omega | (unfold ra_in at *; omega))) rfl (ct_193 rfl lk_8_303 (Or.inl rfl) sh_179 (Nat.le_of_ble_eq_true rfl)) (fun s27 hs27 => ?_)
        obtain ⟨hf28, he29⟩ := hs27
        have hF30 := Fr_tr (lo := 179) (hi := 191) hF16 hf28 (by omega)
        have hk31 : s27 (180) = σ (180) := (hf28 (180) (by omega)).trans hk17
        have hk32 : s27 (183) = σ (183) := (hf28 (183) (by omega)).trans hk18
        have hk33 : s27 (184) = σ (184) := (hf28 (184) (by omega)).trans hk19
        have hk34 : s27 (187) = σ (187) := (hf28 (187) (by omega)).trans hk20
        have hg35 : ∀ a, a ≠ 5 → a ≠ 7 → a ≠ 10 → ra_g s27 179 a = ra_g σ 179 a := fun a h5 h7 h10 => ((fun a h7 h10 => he29 a h7) a h7 h10).trans (hg21 a h5 h7 h10)
        have ho36 : ∀ a, a ≠ 7 → a ≠ 10 → ra_g s27 179 a = ra_g σ 179 a := fun a h7 h10 => ((fun a h7 h10 => he29 a h7) a h7 h10).trans (ho22 a h7 h10)
        refine ra_ifne rfl rfl (by first | omega | (unfold ra_in at *; omega)) (fun h37 => ?_) (fun h37 => ?_)
        · exact absurd h37 (by decide)
        · refine ra_load rfl rfl rfl rfl ?_
          refine ra_load rfl rfl rfl rfl ?_
          refine ra_iconst rfl ?_
          refine ra_cQP (sp_267 hx0 (by first | omega | (unfold ra_in at *; omega))) rfl (ct_267 rfl lk_8_318 (Or.inl rfl) sh_179 (Nat.le_of_ble_eq_true rfl)) (fun z39 s38 hz39 hz39p hs38 => ?_)
          rw [wq_k hk31] at hz39p
          obtain ⟨hf40, he41⟩ := hs38
          have hF42 := Fr_tr (lo := 179) (hi := 191) hF30 hf40 (by omega)
          have hk43 : s38 (180) = σ (180) := (hf40 (180) (by omega)).trans hk31
          have hk44 : s38 (183) = σ (183) := (hf40 (183) (by omega)).trans hk32
          have hk45 : s38 (184) = σ (184) := (hf40 (184) (by omega)).trans hk33
          have hk46 : s38 (187) = σ (187) := (hf40 (187) (by omega)).trans hk34
          have hg47 : ∀ a, a ≠ 5 → a ≠ 7 → a ≠ 10 → ra_g s38 179 a = ra_g σ 179 a := fun a h5 h7 h10 => ((fun a h7 h10 => he41 a h7) a h7 h10).trans (hg35 a h5 h7 h10)
          have ho48 : ∀ a, a ≠ 7 → a ≠ 10 → ra_g s38 179 a = ra_g σ 179 a := fun a h7 h10 => ((fun a h7 h10 => he41 a h7) a h7 h10).trans (ho36 a h7 h10)
          refine ra_ifeq rfl rfl (ra_in01 hz39) (fun h49 => ?_) (fun h49 => ?_)
          · refine ra_load rfl rfl rfl rfl ?_
            have hp := hz39p (by omega)
            have hst := hz25p.mpr hp
            have hq := WF_p hw hp.1 hp.2.1 hp.2.2
            refine ra_cV (sp_196 (WF_k hk43 hw) (PW_k hpw (ho48 5 (by decide) (by decide)) hk45)) rfl (ct_196 rfl lk_8_366 (Or.inl rfl) sh_179 (Nat.le_of_ble_eq_true rfl)) (fun s50 hs50 => ?_)
            obtain ⟨hf51, hc52, hc53, hc54, hc55, he56, he57⟩ := hs50
            have hF58 := Fr_tr (lo := 179) (hi := 191) hF42 hf51 (by omega)
            have hk59 : s50 (180) = σ (180) := hc52.trans hk43
            have hk60 : s50 (183) = σ (183) := hc55.trans hk44
            have hk61 : s50 (187) = σ (187) := (hf51 (187) (by omega)).trans hk46
            have hg62 : ∀ a, a ≠ 5 → a ≠ 7 → a ≠ 10 → ra_g s50 179 a = ra_g σ 179 a := fun a h5 h7 h10 => ((fun a h5 h7 h10 => he56 a h5) a h5 h7 h10).trans (hg47 a h5 h7 h10)
            refine ra_load rfl rfl rfl rfl ?_
            refine ra_load rfl rfl rfl rfl ?_
            refine ra_iconst rfl ?_
            refine ra_cTp (sp_199 hx0 (by first | omega | (unfold ra_in at *; omega)) (by first | assumption | rfl | omega)) rfl (ct_199 rfl lk_8_67 (Or.inl rfl) sh_179 (Nat.le_of_ble_eq_true rfl)) ?_
            rw [wq_k hk59]
            have hr64 : ra_in (wq σ x0 (2)) := (ra_in_wq _ _ _)
            refine ra_load rfl rfl rfl rfl ?_
            refine ra_isub rfl ?_
            refine ra_store (L' := [_, _, _, _, _]) rfl rfl rfl (Nat.le_of_ble_eq_true rfl) rfl ?_
            refine ra_load rfl rfl rfl rfl ?_
            refine ra_load rfl rfl rfl rfl ?_
            refine ra_iconst rfl ?_
            refine ra_load rfl rfl rfl rfl ?_
            refine ra_cV (sp_200 hx0 (by first | omega | (unfold ra_in at *; omega)) hx1 (by first | assumption | rfl | omega)) rfl (ct_200 rfl lk_8_78 (Or.inl rfl) sh_179 (Nat.le_of_ble_eq_true rfl)) (fun s65 hs65 => ?_)
            obtain ⟨hf66, he67, he68⟩ := hs65
            have hF69 := Fr_tr (lo := 179) (hi := 191) hF58 hf66 (by omega)
            have hk70 : s65 (183) = σ (183) := (hf66 (183) (by omega)).trans hk60
            have hk71 : s65 (187) = σ (187) := (hf66 (187) (by omega)).trans hk61
            have hg72 : ∀ a, a ≠ 5 → a ≠ 7 → a ≠ 10 → ra_g s65 179 a = ra_g σ 179 a := fun a h5 h7 h10 => (ra_gk (hf66 179 (by omega))).trans (hg62 a h5 h7 h10)
            refine ra_load rfl rfl rfl rfl ?_
            refine ra_load rfl rfl rfl rfl ?_
            refine ra_load rfl rfl rfl rfl ?_
            refine ra_iconst rfl ?_
            refine ra_cTp (sp_199 hx0 (by first | omega | (unfold ra_in at *; omega)) (by first | assumption | rfl | omega)) rfl (ct_199 rfl lk_8_67 (Or.inl rfl) sh_179 (Nat.le_of_ble_eq_true rfl)) ?_
            have hr74 : ra_in (wq s65 x0 (1)) := (ra_in_wq _ _ _)
            refine ra_load rfl rfl rfl rfl ?_
            refine ra_iadd rfl ?_
            refine ra_load rfl rfl rfl rfl ?_
            refine ra_load rfl rfl rfl rfl ?_
            refine ra_load rfl rfl rfl rfl ?_
            refine ra_iconst rfl ?_
            refine ra_cTp (sp_199 hx0 (by first | omega | (unfold ra_in at *; omega)) (by first | assumption | rfl | omega)) rfl (ct_199 rfl lk_8_67 (Or.inl rfl) sh_179 (Nat.le_of_ble_eq_true rfl)) ?_
            have hr76 : ra_in (wq s65 x0 (4)) := (ra_in_wq _ _ _)
            refine ra_iconst rfl ?_
            refine ra_cIPs (sp_209 (by first | omega | (unfold ra_in at *; omega)) (by first | omega | (unfold ra_in at *; omega)) hr76 (by first | omega | (unfold ra_in at *; omega)) (by exfalso; omega) (by omega)) rfl (ct_209 rfl lk_8_250 (Or.inl rfl) sh_179 (Nat.le_of_ble_eq_true rfl)) (fun z78 s77 hz78 hz78p hs77 => ?_)
            have hF79 := Fr_tr (lo := 179) (hi := 191) hF69 hs77 (by omega)
            have hk80 : s77 (183) = σ (183) := (hs77 (183) (by omega)).trans hk70
            have hk81 : s77 (187) = σ (187) := (hs77 (187) (by omega)).trans hk71
            have hg82 : ∀ a, a ≠ 5 → a ≠ 7 → a ≠ 10 → ra_g s77 179 a = ra_g σ 179 a := fun a h5 h7 h10 => (ra_gk (hs77 179 (by omega))).trans (hg72 a h5 h7 h10)
            exact ra_ireturn rfl rfl ⟨⟨_, hz78, rfl⟩, ⟨hF79, hk80, hk81, hg82, (by exfalso; omega), (PW_k (PW_k he57 (ra_gk (hf66 179 (by omega))) (hf66 184 (by omega))) (ra_gk (hs77 179 (by omega))) (hs77 184 (by omega)))⟩⟩
          · refine ra_iconst rfl ?_
            exact ra_ireturn rfl rfl ⟨⟨_, (by first | omega | (unfold ra_in at *; omega)), rfl⟩, ⟨hF42, hk44, hk46, hg47, (WF_k hk43 hw), (PW_k hpw (ho48 5 (by decide) (by decide)) hk45)⟩⟩
      · have hp := hz25p.mp (by omega)
        have hq := WF_p hw hp.1 hp.2.1 hp.2.2
        refine ra_load rfl rfl rfl rfl ?_
        refine ra_load rfl rfl rfl rfl ?_
        refine ra_cQPp (sp_205 hx0 (by first | assumption | rfl | omega)) rfl (ct_205 rfl lk_8_355 (Or.inl rfl) sh_179 (Nat.le_of_ble_eq_true rfl)) (fun z84 hz84 hz84p => ?_)
        refine ra_ifne rfl rfl (ra_in01 hz84) (fun h85 => ?_) (fun h85 => ?_)
        · refine ra_iconst rfl ?_
          refine ra_goto rfl rfl ?_
          refine ra_store (L' := [_, _, _, _, _]) rfl rfl rfl (Nat.le_of_ble_eq_true rfl) rfl ?_
          refine ra_load rfl rfl rfl rfl ?_
          refine ra_load rfl rfl rfl rfl ?_
          refine ra_iconst rfl ?_
          refine ra_cT (sp_193 (Or.inr rfl) (by first | omega | (unfold ra_in at *; omega))) rfl (ct_193 rfl lk_8_303 (Or.inl rfl) sh_179 (Nat.le_of_ble_eq_true rfl)) (fun s86 hs86 => ?_)
          obtain ⟨hf87, he88⟩ := hs86
          have hF89 := Fr_tr (lo := 179) (hi := 191) hF16 hf87 (by omega)
          have hk90 : s86 (180) = σ (180) := (hf87 (180) (by omega)).trans hk17
          have hk91 : s86 (183) = σ (183) := (hf87 (183) (by omega)).trans hk18
          have hk92 : s86 (184) = σ (184) := (hf87 (184) (by omega)).trans hk19
          have hk93 : s86 (187) = σ (187) := (hf87 (187) (by omega)).trans hk20
          have hg94 : ∀ a, a ≠ 5 → a ≠ 7 → a ≠ 10 → ra_g s86 179 a = ra_g σ 179 a := fun a h5 h7 h10 => ((fun a h7 h10 => he88 a h7) a h7 h10).trans (hg21 a h5 h7 h10)
          have ho95 : ∀ a, a ≠ 7 → a ≠ 10 → ra_g s86 179 a = ra_g σ 179 a := fun a h7 h10 => ((fun a h7 h10 => he88 a h7) a h7 h10).trans (ho22 a h7 h10)
          refine ra_ifne rfl rfl (by first | omega | (unfold ra_in at *; omega)) (fun h96 => ?_) (fun h96 => ?_)
          · refine ra_iconst rfl ?_
            exact ra_ireturn rfl rfl ⟨⟨_, (by first | omega | (unfold ra_in at *; omega)), rfl⟩, ⟨hF89, hk91, hk93, hg94, (WF_k hk90 hw), (PW_k hpw (ho95 5 (by decide) (by decide)) hk92)⟩⟩
          · exact absurd h96 (by decide)
        · refine ra_load rfl rfl rfl rfl ?_
          refine ra_load rfl rfl rfl rfl ?_
          refine ra_iconst rfl ?_
          refine ra_cTp (sp_199 hx0 (by first | omega | (unfold ra_in at *; omega)) (by first | assumption | rfl | omega)) rfl (ct_199 rfl lk_8_67 (Or.inl rfl) sh_179 (Nat.le_of_ble_eq_true rfl)) ?_
          rw [wq_k hk17]
          have hr98 : ra_in (wq σ x0 (1)) := (ra_in_wq _ _ _)
          refine ra_load rfl rfl rfl rfl ?_
          refine ra_iadd rfl ?_
          refine ra_load rfl rfl rfl rfl ?_
          refine ra_getR rfl lk_8_7 (Nat.zero_le _) sh_179 rfl ?_
          refine ra_iconst rfl ?_
          refine ra_ialoadJ (j := 3) rfl sh_180 rfl (by decide) rfl (by decide) ?_
          rw [ra_gk hk17]
          have hr99 : ra_in (ra_g σ (180) 3) := (ra_in_g _ _ _)
          refine ra_irem rfl (by first | omega | (unfold ra_in at *; omega)) hr99 (by omega) ?_
          refine ra_ifne rfl rfl (ra_in_tmod (by first | omega | (unfold ra_in at *; omega)) (by omega)) (fun h100 => ?_) (fun h100 => ?_)
          · refine ra_iconst rfl ?_
            refine ra_goto rfl rfl ?_
            refine ra_store (L' := [_, _, _, _, _]) rfl rfl rfl (Nat.le_of_ble_eq_true rfl) rfl ?_
            refine ra_load rfl rfl rfl rfl ?_
            refine ra_load rfl rfl rfl rfl ?_
            refine ra_iconst rfl ?_
            refine ra_cT (sp_193 (Or.inr rfl) (by first | omega | (unfold ra_in at *; omega))) rfl (ct_193 rfl lk_8_303 (Or.inl rfl) sh_179 (Nat.le_of_ble_eq_true rfl)) (fun s101 hs101 => ?_)
            obtain ⟨hf102, he103⟩ := hs101
            have hF104 := Fr_tr (lo := 179) (hi := 191) hF16 hf102 (by omega)
            have hk105 : s101 (180) = σ (180) := (hf102 (180) (by omega)).trans hk17
            have hk106 : s101 (183) = σ (183) := (hf102 (183) (by omega)).trans hk18
            have hk107 : s101 (184) = σ (184) := (hf102 (184) (by omega)).trans hk19
            have hk108 : s101 (187) = σ (187) := (hf102 (187) (by omega)).trans hk20
            have hg109 : ∀ a, a ≠ 5 → a ≠ 7 → a ≠ 10 → ra_g s101 179 a = ra_g σ 179 a := fun a h5 h7 h10 => ((fun a h7 h10 => he103 a h7) a h7 h10).trans (hg21 a h5 h7 h10)
            have ho110 : ∀ a, a ≠ 7 → a ≠ 10 → ra_g s101 179 a = ra_g σ 179 a := fun a h7 h10 => ((fun a h7 h10 => he103 a h7) a h7 h10).trans (ho22 a h7 h10)
            refine ra_ifne rfl rfl (by first | omega | (unfold ra_in at *; omega)) (fun h111 => ?_) (fun h111 => ?_)
            · refine ra_iconst rfl ?_
              exact ra_ireturn rfl rfl ⟨⟨_, (by first | omega | (unfold ra_in at *; omega)), rfl⟩, ⟨hF104, hk106, hk108, hg109, (WF_k hk105 hw), (PW_k hpw (ho110 5 (by decide) (by decide)) hk107)⟩⟩
            · exact absurd h111 (by decide)
          · refine ra_load rfl rfl rfl rfl ?_
            refine ra_cIPp (sp_202 (WF_k hk17 hw)) rfl (ct_202 rfl lk_8_298 (Or.inl rfl) sh_179 (Nat.le_of_ble_eq_true rfl)) (fun z113 hz113 hz113p => ?_)
            refine ra_bipush rfl (by decide) ?_
            refine ra_icne rfl rfl hz113 (by first | omega | (unfold ra_in at *; omega)) (fun h114 => ?_) (fun h114 => ?_)
            · refine ra_iconst rfl ?_
              refine ra_store (L' := [_, _, _, _, _]) rfl rfl rfl (Nat.le_of_ble_eq_true rfl) rfl ?_
              refine ra_load rfl rfl rfl rfl ?_
              refine ra_load rfl rfl rfl rfl ?_
              refine ra_iconst rfl ?_
              refine ra_cT (sp_193 (Or.inl rfl) (by first | omega | (unfold ra_in at *; omega))) rfl (ct_193 rfl lk_8_303 (Or.inl rfl) sh_179 (Nat.le_of_ble_eq_true rfl)) (fun s115 hs115 => ?_)
              obtain ⟨hf116, he117⟩ := hs115
              have hF118 := Fr_tr (lo := 179) (hi := 191) hF16 hf116 (by omega)
              have hk119 : s115 (180) = σ (180) := (hf116 (180) (by omega)).trans hk17
              have hk120 : s115 (183) = σ (183) := (hf116 (183) (by omega)).trans hk18
              have hk121 : s115 (184) = σ (184) := (hf116 (184) (by omega)).trans hk19
              have hk122 : s115 (187) = σ (187) := (hf116 (187) (by omega)).trans hk20
              have hg123 : ∀ a, a ≠ 5 → a ≠ 7 → a ≠ 10 → ra_g s115 179 a = ra_g σ 179 a := fun a h5 h7 h10 => ((fun a h7 h10 => he117 a h7) a h7 h10).trans (hg21 a h5 h7 h10)
              have ho124 : ∀ a, a ≠ 7 → a ≠ 10 → ra_g s115 179 a = ra_g σ 179 a := fun a h7 h10 => ((fun a h7 h10 => he117 a h7) a h7 h10).trans (ho22 a h7 h10)
              refine ra_ifne rfl rfl (by first | omega | (unfold ra_in at *; omega)) (fun h125 => ?_) (fun h125 => ?_)
              · exact absurd h125 (by decide)
              · refine ra_load rfl rfl rfl rfl ?_
                refine ra_load rfl rfl rfl rfl ?_
                refine ra_iconst rfl ?_
                refine ra_cQP (sp_267 hx0 (by first | omega | (unfold ra_in at *; omega))) rfl (ct_267 rfl lk_8_318 (Or.inl rfl) sh_179 (Nat.le_of_ble_eq_true rfl)) (fun z127 s126 hz127 hz127p hs126 => ?_)
                rw [wq_k hk119] at hz127p
                obtain ⟨hf128, he129⟩ := hs126
                have hF130 := Fr_tr (lo := 179) (hi := 191) hF118 hf128 (by omega)
                have hk131 : s126 (180) = σ (180) := (hf128 (180) (by omega)).trans hk119
                have hk132 : s126 (183) = σ (183) := (hf128 (183) (by omega)).trans hk120
                have hk133 : s126 (184) = σ (184) := (hf128 (184) (by omega)).trans hk121
                have hk134 : s126 (187) = σ (187) := (hf128 (187) (by omega)).trans hk122
                have hg135 : ∀ a, a ≠ 5 → a ≠ 7 → a ≠ 10 → ra_g s126 179 a = ra_g σ 179 a := fun a h5 h7 h10 => ((fun a h7 h10 => he129 a h7) a h7 h10).trans (hg123 a h5 h7 h10)
                have ho136 : ∀ a, a ≠ 7 → a ≠ 10 → ra_g s126 179 a = ra_g σ 179 a := fun a h7 h10 => ((fun a h7 h10 => he129 a h7) a h7 h10).trans (ho124 a h7 h10)
                refine ra_ifeq rfl rfl (ra_in01 hz127) (fun h137 => ?_) (fun h137 => ?_)
                · refine ra_load rfl rfl rfl rfl ?_
                  have hx := exn_k hk17 (hz113p.2.2 (by omega))
                  clear hz113p
                  have hp := hz127p (by omega)
                  have hst := hz25p.mpr hp
                  have hfx := hz84p (by omega)
                  rw [wq_k hk17, ra_gk hk17] at hfx
                  have hq := WF_p hw hp.1 hp.2.1 hp.2.2
                  refine ra_cV (sp_196 (WF_k hk131 hw) (PW_k hpw (ho136 5 (by decide) (by decide)) hk133)) rfl (ct_196 rfl lk_8_366 (Or.inl rfl) sh_179 (Nat.le_of_ble_eq_true rfl)) (fun s138 hs138 => ?_)
                  obtain ⟨hf139, hc140, hc141, hc142, hc143, he144, he145⟩ := hs138
                  have hF146 := Fr_tr (lo := 179) (hi := 191) hF130 hf139 (by omega)
                  have hk147 : s138 (180) = σ (180) := hc140.trans hk131
                  have hk148 : s138 (183) = σ (183) := hc143.trans hk132
                  have hk149 : s138 (187) = σ (187) := (hf139 (187) (by omega)).trans hk134
                  have hg150 : ∀ a, a ≠ 5 → a ≠ 7 → a ≠ 10 → ra_g s138 179 a = ra_g σ 179 a := fun a h5 h7 h10 => ((fun a h5 h7 h10 => he144 a h5) a h5 h7 h10).trans (hg135 a h5 h7 h10)
                  refine ra_load rfl rfl rfl rfl ?_
                  refine ra_load rfl rfl rfl rfl ?_
                  refine ra_iconst rfl ?_
                  refine ra_cTp (sp_199 hx0 (by first | omega | (unfold ra_in at *; omega)) (by first | assumption | rfl | omega)) rfl (ct_199 rfl lk_8_67 (Or.inl rfl) sh_179 (Nat.le_of_ble_eq_true rfl)) ?_
                  rw [wq_k hk147]
                  have hr152 : ra_in (wq σ x0 (2)) := (ra_in_wq _ _ _)
                  refine ra_load rfl rfl rfl rfl ?_
                  refine ra_isub rfl ?_
                  refine ra_store (L' := [_, _, _, _, _]) rfl rfl rfl (Nat.le_of_ble_eq_true rfl) rfl ?_
                  refine ra_load rfl rfl rfl rfl ?_
                  refine ra_load rfl rfl rfl rfl ?_
                  refine ra_iconst rfl ?_
                  refine ra_load rfl rfl rfl rfl ?_
                  refine ra_cV (sp_200 hx0 (by first | omega | (unfold ra_in at *; omega)) hx1 (by first | assumption | rfl | omega)) rfl (ct_200 rfl lk_8_78 (Or.inl rfl) sh_179 (Nat.le_of_ble_eq_true rfl)) (fun s153 hs153 => ?_)
                  obtain ⟨hf154, he155, he156⟩ := hs153
                  have hF157 := Fr_tr (lo := 179) (hi := 191) hF146 hf154 (by omega)
                  have hk158 : s153 (183) = σ (183) := (hf154 (183) (by omega)).trans hk148
                  have hk159 : s153 (187) = σ (187) := (hf154 (187) (by omega)).trans hk149
                  have hg160 : ∀ a, a ≠ 5 → a ≠ 7 → a ≠ 10 → ra_g s153 179 a = ra_g σ 179 a := fun a h5 h7 h10 => (ra_gk (hf154 179 (by omega))).trans (hg150 a h5 h7 h10)
                  have hb := spl_b (p := x0) ⟨by omega, by omega⟩ he156
                  have hb2 : wq s153 x0 1 = wq σ x0 1 := hb.trans (wq_k hk147)
                  refine ra_load rfl rfl rfl rfl ?_
                  refine ra_load rfl rfl rfl rfl ?_
                  refine ra_load rfl rfl rfl rfl ?_
                  refine ra_iconst rfl ?_
                  refine ra_cTp (sp_199 hx0 (by first | omega | (unfold ra_in at *; omega)) (by first | assumption | rfl | omega)) rfl (ct_199 rfl lk_8_67 (Or.inl rfl) sh_179 (Nat.le_of_ble_eq_true rfl)) ?_
                  have hr162 : ra_in (wq s153 x0 (1)) := (ra_in_wq _ _ _)
                  refine ra_load rfl rfl rfl rfl ?_
                  refine ra_iadd rfl ?_
                  refine ra_load rfl rfl rfl rfl ?_
                  refine ra_load rfl rfl rfl rfl ?_
                  refine ra_load rfl rfl rfl rfl ?_
                  refine ra_iconst rfl ?_
                  refine ra_cTp (sp_199 hx0 (by first | omega | (unfold ra_in at *; omega)) (by first | assumption | rfl | omega)) rfl (ct_199 rfl lk_8_67 (Or.inl rfl) sh_179 (Nat.le_of_ble_eq_true rfl)) ?_
                  have hr164 : ra_in (wq s153 x0 (4)) := (ra_in_wq _ _ _)
                  refine ra_iconst rfl ?_
                  refine ra_cIPs (sp_209 (by first | omega | (unfold ra_in at *; omega)) (by first | omega | (unfold ra_in at *; omega)) hr164 (by first | omega | (unfold ra_in at *; omega)) (spl_x ⟨by omega, by omega⟩ he156 (exm_k hk147 hx)) (by omega)) rfl (ct_209 rfl lk_8_250 (Or.inl rfl) sh_179 (Nat.le_of_ble_eq_true rfl)) (fun z166 s165 hz166 hz166p hs165 => ?_)
                  have hF167 := Fr_tr (lo := 179) (hi := 191) hF157 hs165 (by omega)
                  have hk168 : s165 (183) = σ (183) := (hs165 (183) (by omega)).trans hk158
                  have hk169 : s165 (187) = σ (187) := (hs165 (187) (by omega)).trans hk159
                  have hg170 : ∀ a, a ≠ 5 → a ≠ 7 → a ≠ 10 → ra_g s165 179 a = ra_g σ 179 a := fun a h5 h7 h10 => (ra_gk (hs165 179 (by omega))).trans (hg160 a h5 h7 h10)
                  exact ra_ireturn rfl rfl ⟨⟨_, hz166, rfl⟩, ⟨hF167, hk168, hk169, hg170, (spl_n (WF_k hk147 hw) ⟨hp.1, hp.2.1, (wq_k hk147).trans hp.2.2⟩ (by rw [ra_gk hk147]; exact hfx.2) (by simp only [wq_k hk147]; omega) he155 he156 hz166p rfl (by simp only [wq_k hk147])), (PW_k (PW_k he145 (ra_gk (hf154 179 (by omega))) (hf154 184 (by omega))) (ra_gk (hs165 179 (by omega))) (hs165 184 (by omega)))⟩⟩
                · refine ra_iconst rfl ?_
                  exact ra_ireturn rfl rfl ⟨⟨_, (by first | omega | (unfold ra_in at *; omega)), rfl⟩, ⟨hF130, hk132, hk134, hg135, (WF_k hk131 hw), (PW_k hpw (ho136 5 (by decide) (by decide)) hk133)⟩⟩
            · refine ra_iconst rfl ?_
              refine ra_goto rfl rfl ?_
              refine ra_store (L' := [_, _, _, _, _]) rfl rfl rfl (Nat.le_of_ble_eq_true rfl) rfl ?_
              refine ra_load rfl rfl rfl rfl ?_
              refine ra_load rfl rfl rfl rfl ?_
              refine ra_iconst rfl ?_
              refine ra_cT (sp_193 (Or.inr rfl) (by first | omega | (unfold ra_in at *; omega))) rfl (ct_193 rfl lk_8_303 (Or.inl rfl) sh_179 (Nat.le_of_ble_eq_true rfl)) (fun s171 hs171 => ?_)
              obtain ⟨hf172, he173⟩ := hs171
              have hF174 := Fr_tr (lo := 179) (hi := 191) hF16 hf172 (by omega)
              have hk175 : s171 (180) = σ (180) := (hf172 (180) (by omega)).trans hk17
              have hk176 : s171 (183) = σ (183) := (hf172 (183) (by omega)).trans hk18
              have hk177 : s171 (184) = σ (184) := (hf172 (184) (by omega)).trans hk19
              have hk178 : s171 (187) = σ (187) := (hf172 (187) (by omega)).trans hk20
              have hg179 : ∀ a, a ≠ 5 → a ≠ 7 → a ≠ 10 → ra_g s171 179 a = ra_g σ 179 a := fun a h5 h7 h10 => ((fun a h7 h10 => he173 a h7) a h7 h10).trans (hg21 a h5 h7 h10)
              have ho180 : ∀ a, a ≠ 7 → a ≠ 10 → ra_g s171 179 a = ra_g σ 179 a := fun a h7 h10 => ((fun a h7 h10 => he173 a h7) a h7 h10).trans (ho22 a h7 h10)
              refine ra_ifne rfl rfl (by first | omega | (unfold ra_in at *; omega)) (fun h181 => ?_) (fun h181 => ?_)
              · refine ra_iconst rfl ?_
                exact ra_ireturn rfl rfl ⟨⟨_, (by first | omega | (unfold ra_in at *; omega)), rfl⟩, ⟨hF174, hk176, hk178, hg179, (WF_k hk175 hw), (PW_k hpw (ho180 5 (by decide) (by decide)) hk177)⟩⟩
              · exact absurd h181 (by decide)
    · exact absurd h23 (by decide)
  · have hp := hz11p.mp (by omega)
    have hq := WF_p hw hp.1 hp.2.1 hp.2.2
    refine ra_load rfl rfl rfl rfl ?_
    refine ra_i2l rfl hx1 ?_
    refine ra_load rfl rfl rfl rfl ?_
    refine ra_load rfl rfl rfl rfl ?_
    refine ra_iconst rfl ?_
    refine ra_cTp (sp_199 hx0 (by first | omega | (unfold ra_in at *; omega)) (by first | assumption | rfl | omega)) rfl (ct_199 rfl lk_8_67 (Or.inl rfl) sh_179 (Nat.le_of_ble_eq_true rfl)) ?_
    rw [wq_k hk4]
    have hr183 : ra_in (wq σ x0 (3)) := (ra_in_wq _ _ _)
    refine ra_i2l rfl hr183 ?_
    refine ra_load rfl rfl rfl rfl ?_
    refine ra_load rfl rfl rfl rfl ?_
    refine ra_iconst rfl ?_
    refine ra_cTp (sp_199 hx0 (by first | omega | (unfold ra_in at *; omega)) (by first | assumption | rfl | omega)) rfl (ct_199 rfl lk_8_67 (Or.inl rfl) sh_179 (Nat.le_of_ble_eq_true rfl)) ?_
    rw [wq_k hk4]
    have hr185 : ra_in (wq σ x0 (2)) := (ra_in_wq _ _ _)
    refine ra_iconst rfl ?_
    refine ra_isub rfl ?_
    refine ra_i2l rfl (by first | omega | (unfold ra_in at *; omega)) ?_
    refine ra_cTp (sp_192 hx1 hr183 (by first | omega | (unfold ra_in at *; omega))) rfl (ct_192 rfl lk_8_63 (Or.inl rfl) (Nat.le_of_ble_eq_true rfl)) ?_
    refine ra_ifneB rfl rfl (fun h187 => ?_) (fun h187 => ?_)
    · refine ra_iconst rfl ?_
      refine ra_iconst rfl ?_
      refine ra_cT (sp_193 (Or.inl rfl) (by first | omega | (unfold ra_in at *; omega))) rfl (ct_193 rfl lk_8_303 (Or.inl rfl) sh_179 (Nat.le_of_ble_eq_true rfl)) (fun s188 hs188 => ?_)
      obtain ⟨hf189, he190⟩ := hs188
      have hF191 := Fr_tr (lo := 179) (hi := 191) hF3 hf189 (by omega)
      have hk192 : s188 (180) = σ (180) := (hf189 (180) (by omega)).trans hk4
      have hk193 : s188 (183) = σ (183) := (hf189 (183) (by omega)).trans hk5
      have hk194 : s188 (184) = σ (184) := (hf189 (184) (by omega)).trans hk6
      have hk195 : s188 (187) = σ (187) := (hf189 (187) (by omega)).trans hk7
      have hg196 : ∀ a, a ≠ 5 → a ≠ 7 → a ≠ 10 → ra_g s188 179 a = ra_g σ 179 a := fun a h5 h7 h10 => ((fun a h7 h10 => he190 a h7) a h7 h10).trans (hg8 a h5 h7 h10)
      have ho197 : ∀ a, a ≠ 7 → a ≠ 10 → ra_g s188 179 a = ra_g σ 179 a := fun a h7 h10 => ((fun a h7 h10 => he190 a h7) a h7 h10).trans (ho9 a h7 h10)
      refine ra_ifeq rfl rfl (by first | omega | (unfold ra_in at *; omega)) (fun h198 => ?_) (fun h198 => ?_)
      · refine ra_load rfl rfl rfl rfl ?_
        refine ra_load rfl rfl rfl rfl ?_
        refine ra_cQPp (sp_201 hx0) rfl (ct_201 rfl lk_8_313 (Or.inl rfl) sh_179 (Nat.le_of_ble_eq_true rfl)) (fun z200 hz200 hz200p => ?_)
        rw [wq_k hk192] at hz200p
        refine ra_ifeq rfl rfl (ra_in01 hz200) (fun h201 => ?_) (fun h201 => ?_)
        · refine ra_iconst rfl ?_
          refine ra_store (L' := [_, _, _, _, _]) rfl rfl rfl (Nat.le_of_ble_eq_true rfl) rfl ?_
          refine ra_load rfl rfl rfl rfl ?_
          refine ra_load rfl rfl rfl rfl ?_
          refine ra_iconst rfl ?_
          refine ra_cT (sp_193 (Or.inl rfl) (by first | omega | (unfold ra_in at *; omega))) rfl (ct_193 rfl lk_8_303 (Or.inl rfl) sh_179 (Nat.le_of_ble_eq_true rfl)) (fun s202 hs202 => ?_)
          obtain ⟨hf203, he204⟩ := hs202
          have hF205 := Fr_tr (lo := 179) (hi := 191) hF191 hf203 (by omega)
          have hk206 : s202 (180) = σ (180) := (hf203 (180) (by omega)).trans hk192
          have hk207 : s202 (183) = σ (183) := (hf203 (183) (by omega)).trans hk193
          have hk208 : s202 (184) = σ (184) := (hf203 (184) (by omega)).trans hk194
          have hk209 : s202 (187) = σ (187) := (hf203 (187) (by omega)).trans hk195
          have hg210 : ∀ a, a ≠ 5 → a ≠ 7 → a ≠ 10 → ra_g s202 179 a = ra_g σ 179 a := fun a h5 h7 h10 => ((fun a h7 h10 => he204 a h7) a h7 h10).trans (hg196 a h5 h7 h10)
          have ho211 : ∀ a, a ≠ 7 → a ≠ 10 → ra_g s202 179 a = ra_g σ 179 a := fun a h7 h10 => ((fun a h7 h10 => he204 a h7) a h7 h10).trans (ho197 a h7 h10)
          refine ra_ifne rfl rfl (by first | omega | (unfold ra_in at *; omega)) (fun h212 => ?_) (fun h212 => ?_)
          · exact absurd h212 (by decide)
          · refine ra_load rfl rfl rfl rfl ?_
            refine ra_load rfl rfl rfl rfl ?_
            refine ra_iconst rfl ?_
            refine ra_cQP (sp_267 hx0 (by first | omega | (unfold ra_in at *; omega))) rfl (ct_267 rfl lk_8_318 (Or.inl rfl) sh_179 (Nat.le_of_ble_eq_true rfl)) (fun z214 s213 hz214 hz214p hs213 => ?_)
            rw [wq_k hk206] at hz214p
            obtain ⟨hf215, he216⟩ := hs213
            have hF217 := Fr_tr (lo := 179) (hi := 191) hF205 hf215 (by omega)
            have hk218 : s213 (180) = σ (180) := (hf215 (180) (by omega)).trans hk206
            have hk219 : s213 (183) = σ (183) := (hf215 (183) (by omega)).trans hk207
            have hk220 : s213 (184) = σ (184) := (hf215 (184) (by omega)).trans hk208
            have hk221 : s213 (187) = σ (187) := (hf215 (187) (by omega)).trans hk209
            have hg222 : ∀ a, a ≠ 5 → a ≠ 7 → a ≠ 10 → ra_g s213 179 a = ra_g σ 179 a := fun a h5 h7 h10 => ((fun a h7 h10 => he216 a h7) a h7 h10).trans (hg210 a h5 h7 h10)
            have ho223 : ∀ a, a ≠ 7 → a ≠ 10 → ra_g s213 179 a = ra_g σ 179 a := fun a h7 h10 => ((fun a h7 h10 => he216 a h7) a h7 h10).trans (ho211 a h7 h10)
            refine ra_ifeq rfl rfl (ra_in01 hz214) (fun h224 => ?_) (fun h224 => ?_)
            · refine ra_load rfl rfl rfl rfl ?_
              have hp := hz214p (by omega)
              have hst := hz200p.mpr hp
              have hq := WF_p hw hp.1 hp.2.1 hp.2.2
              refine ra_cV (sp_196 (WF_k hk218 hw) (PW_k hpw (ho223 5 (by decide) (by decide)) hk220)) rfl (ct_196 rfl lk_8_366 (Or.inl rfl) sh_179 (Nat.le_of_ble_eq_true rfl)) (fun s225 hs225 => ?_)
              obtain ⟨hf226, hc227, hc228, hc229, hc230, he231, he232⟩ := hs225
              have hF233 := Fr_tr (lo := 179) (hi := 191) hF217 hf226 (by omega)
              have hk234 : s225 (180) = σ (180) := hc227.trans hk218
              have hk235 : s225 (183) = σ (183) := hc230.trans hk219
              have hk236 : s225 (187) = σ (187) := (hf226 (187) (by omega)).trans hk221
              have hg237 : ∀ a, a ≠ 5 → a ≠ 7 → a ≠ 10 → ra_g s225 179 a = ra_g σ 179 a := fun a h5 h7 h10 => ((fun a h5 h7 h10 => he231 a h5) a h5 h7 h10).trans (hg222 a h5 h7 h10)
              refine ra_load rfl rfl rfl rfl ?_
              refine ra_load rfl rfl rfl rfl ?_
              refine ra_iconst rfl ?_
              refine ra_cTp (sp_199 hx0 (by first | omega | (unfold ra_in at *; omega)) (by first | assumption | rfl | omega)) rfl (ct_199 rfl lk_8_67 (Or.inl rfl) sh_179 (Nat.le_of_ble_eq_true rfl)) ?_
              rw [wq_k hk234]
              have hr239 : ra_in (wq σ x0 (2)) := (ra_in_wq _ _ _)
              refine ra_load rfl rfl rfl rfl ?_
              refine ra_isub rfl ?_
              refine ra_store (L' := [_, _, _, _, _]) rfl rfl rfl (Nat.le_of_ble_eq_true rfl) rfl ?_
              refine ra_load rfl rfl rfl rfl ?_
              refine ra_load rfl rfl rfl rfl ?_
              refine ra_iconst rfl ?_
              refine ra_load rfl rfl rfl rfl ?_
              refine ra_cV (sp_200 hx0 (by first | omega | (unfold ra_in at *; omega)) hx1 (by first | assumption | rfl | omega)) rfl (ct_200 rfl lk_8_78 (Or.inl rfl) sh_179 (Nat.le_of_ble_eq_true rfl)) (fun s240 hs240 => ?_)
              obtain ⟨hf241, he242, he243⟩ := hs240
              have hF244 := Fr_tr (lo := 179) (hi := 191) hF233 hf241 (by omega)
              have hk245 : s240 (183) = σ (183) := (hf241 (183) (by omega)).trans hk235
              have hk246 : s240 (187) = σ (187) := (hf241 (187) (by omega)).trans hk236
              have hg247 : ∀ a, a ≠ 5 → a ≠ 7 → a ≠ 10 → ra_g s240 179 a = ra_g σ 179 a := fun a h5 h7 h10 => (ra_gk (hf241 179 (by omega))).trans (hg237 a h5 h7 h10)
              refine ra_load rfl rfl rfl rfl ?_
              refine ra_load rfl rfl rfl rfl ?_
              refine ra_load rfl rfl rfl rfl ?_
              refine ra_iconst rfl ?_
              refine ra_cTp (sp_199 hx0 (by first | omega | (unfold ra_in at *; omega)) (by first | assumption | rfl | omega)) rfl (ct_199 rfl lk_8_67 (Or.inl rfl) sh_179 (Nat.le_of_ble_eq_true rfl)) ?_
              have hr249 : ra_in (wq s240 x0 (1)) := (ra_in_wq _ _ _)
              refine ra_load rfl rfl rfl rfl ?_
              refine ra_iadd rfl ?_
              refine ra_load rfl rfl rfl rfl ?_
              refine ra_load rfl rfl rfl rfl ?_
              refine ra_load rfl rfl rfl rfl ?_
              refine ra_iconst rfl ?_
              refine ra_cTp (sp_199 hx0 (by first | omega | (unfold ra_in at *; omega)) (by first | assumption | rfl | omega)) rfl (ct_199 rfl lk_8_67 (Or.inl rfl) sh_179 (Nat.le_of_ble_eq_true rfl)) ?_
              have hr251 : ra_in (wq s240 x0 (4)) := (ra_in_wq _ _ _)
              refine ra_iconst rfl ?_
              refine ra_cIPs (sp_209 (by first | omega | (unfold ra_in at *; omega)) (by first | omega | (unfold ra_in at *; omega)) hr251 (by first | omega | (unfold ra_in at *; omega)) (by exfalso; omega) (by omega)) rfl (ct_209 rfl lk_8_250 (Or.inl rfl) sh_179 (Nat.le_of_ble_eq_true rfl)) (fun z253 s252 hz253 hz253p hs252 => ?_)
              have hF254 := Fr_tr (lo := 179) (hi := 191) hF244 hs252 (by omega)
              have hk255 : s252 (183) = σ (183) := (hs252 (183) (by omega)).trans hk245
              have hk256 : s252 (187) = σ (187) := (hs252 (187) (by omega)).trans hk246
              have hg257 : ∀ a, a ≠ 5 → a ≠ 7 → a ≠ 10 → ra_g s252 179 a = ra_g σ 179 a := fun a h5 h7 h10 => (ra_gk (hs252 179 (by omega))).trans (hg247 a h5 h7 h10)
              exact ra_ireturn rfl rfl ⟨⟨_, hz253, rfl⟩, ⟨hF254, hk255, hk256, hg257, (by exfalso; omega), (PW_k (PW_k he232 (ra_gk (hf241 179 (by omega))) (hf241 184 (by omega))) (ra_gk (hs252 179 (by omega))) (hs252 184 (by omega)))⟩⟩
            · refine ra_iconst rfl ?_
              exact ra_ireturn rfl rfl ⟨⟨_, (by first | omega | (unfold ra_in at *; omega)), rfl⟩, ⟨hF217, hk219, hk221, hg222, (WF_k hk218 hw), (PW_k hpw (ho223 5 (by decide) (by decide)) hk220)⟩⟩
        · have hp := hz200p.mp (by omega)
          have hq := WF_p hw hp.1 hp.2.1 hp.2.2
          refine ra_load rfl rfl rfl rfl ?_
          refine ra_load rfl rfl rfl rfl ?_
          refine ra_cQPp (sp_205 hx0 (by first | assumption | rfl | omega)) rfl (ct_205 rfl lk_8_355 (Or.inl rfl) sh_179 (Nat.le_of_ble_eq_true rfl)) (fun z259 hz259 hz259p => ?_)
          refine ra_ifne rfl rfl (ra_in01 hz259) (fun h260 => ?_) (fun h260 => ?_)
          · refine ra_iconst rfl ?_
            refine ra_goto rfl rfl ?_
            refine ra_store (L' := [_, _, _, _, _]) rfl rfl rfl (Nat.le_of_ble_eq_true rfl) rfl ?_
            refine ra_load rfl rfl rfl rfl ?_
            refine ra_load rfl rfl rfl rfl ?_
            refine ra_iconst rfl ?_
            refine ra_cT (sp_193 (Or.inr rfl) (by first | omega | (unfold ra_in at *; omega))) rfl (ct_193 rfl lk_8_303 (Or.inl rfl) sh_179 (Nat.le_of_ble_eq_true rfl)) (fun s261 hs261 => ?_)
            obtain ⟨hf262, he263⟩ := hs261
            have hF264 := Fr_tr (lo := 179) (hi := 191) hF191 hf262 (by omega)
            have hk265 : s261 (180) = σ (180) := (hf262 (180) (by omega)).trans hk192
            have hk266 : s261 (183) = σ (183) := (hf262 (183) (by omega)).trans hk193
            have hk267 : s261 (184) = σ (184) := (hf262 (184) (by omega)).trans hk194
            have hk268 : s261 (187) = σ (187) := (hf262 (187) (by omega)).trans hk195
            have hg269 : ∀ a, a ≠ 5 → a ≠ 7 → a ≠ 10 → ra_g s261 179 a = ra_g σ 179 a := fun a h5 h7 h10 => ((fun a h7 h10 => he263 a h7) a h7 h10).trans (hg196 a h5 h7 h10)
            have ho270 : ∀ a, a ≠ 7 → a ≠ 10 → ra_g s261 179 a = ra_g σ 179 a := fun a h7 h10 => ((fun a h7 h10 => he263 a h7) a h7 h10).trans (ho197 a h7 h10)
            refine ra_ifne rfl rfl (by first | omega | (unfold ra_in at *; omega)) (fun h271 => ?_) (fun h271 => ?_)
            · refine ra_iconst rfl ?_
              exact ra_ireturn rfl rfl ⟨⟨_, (by first | omega | (unfold ra_in at *; omega)), rfl⟩, ⟨hF264, hk266, hk268, hg269, (WF_k hk265 hw), (PW_k hpw (ho270 5 (by decide) (by decide)) hk267)⟩⟩
            · exact absurd h271 (by decide)
          · refine ra_load rfl rfl rfl rfl ?_
            refine ra_load rfl rfl rfl rfl ?_
            refine ra_iconst rfl ?_
            refine ra_cTp (sp_199 hx0 (by first | omega | (unfold ra_in at *; omega)) (by first | assumption | rfl | omega)) rfl (ct_199 rfl lk_8_67 (Or.inl rfl) sh_179 (Nat.le_of_ble_eq_true rfl)) ?_
            rw [wq_k hk192]
            have hr273 : ra_in (wq σ x0 (1)) := (ra_in_wq _ _ _)
            refine ra_load rfl rfl rfl rfl ?_
            refine ra_iadd rfl ?_
            refine ra_load rfl rfl rfl rfl ?_
            refine ra_getR rfl lk_8_7 (Nat.zero_le _) sh_179 rfl ?_
            refine ra_iconst rfl ?_
            refine ra_ialoadJ (j := 3) rfl sh_180 rfl (by decide) rfl (by decide) ?_
            rw [ra_gk hk192]
            have hr274 : ra_in (ra_g σ (180) 3) := (ra_in_g _ _ _)
            refine ra_irem rfl (by first | omega | (unfold ra_in at *; omega)) hr274 (by omega) ?_
            refine ra_ifne rfl rfl (ra_in_tmod (by first | omega | (unfold ra_in at *; omega)) (by omega)) (fun h275 => ?_) (fun h275 => ?_)
            · refine ra_iconst rfl ?_
              refine ra_goto rfl rfl ?_
              refine ra_store (L' := [_, _, _, _, _]) rfl rfl rfl (Nat.le_of_ble_eq_true rfl) rfl ?_
              refine ra_load rfl rfl rfl rfl ?_
              refine ra_load rfl rfl rfl rfl ?_
              refine ra_iconst rfl ?_
              refine ra_cT (sp_193 (Or.inr rfl) (by first | omega | (unfold ra_in at *; omega))) rfl (ct_193 rfl lk_8_303 (Or.inl rfl) sh_179 (Nat.le_of_ble_eq_true rfl)) (fun s276 hs276 => ?_)
              obtain ⟨hf277, he278⟩ := hs276
              have hF279 := Fr_tr (lo := 179) (hi := 191) hF191 hf277 (by omega)
              have hk280 : s276 (180) = σ (180) := (hf277 (180) (by omega)).trans hk192
              have hk281 : s276 (183) = σ (183) := (hf277 (183) (by omega)).trans hk193
              have hk282 : s276 (184) = σ (184) := (hf277 (184) (by omega)).trans hk194
              have hk283 : s276 (187) = σ (187) := (hf277 (187) (by omega)).trans hk195
              have hg284 : ∀ a, a ≠ 5 → a ≠ 7 → a ≠ 10 → ra_g s276 179 a = ra_g σ 179 a := fun a h5 h7 h10 => ((fun a h7 h10 => he278 a h7) a h7 h10).trans (hg196 a h5 h7 h10)
              have ho285 : ∀ a, a ≠ 7 → a ≠ 10 → ra_g s276 179 a = ra_g σ 179 a := fun a h7 h10 => ((fun a h7 h10 => he278 a h7) a h7 h10).trans (ho197 a h7 h10)
              refine ra_ifne rfl rfl (by first | omega | (unfold ra_in at *; omega)) (fun h286 => ?_) (fun h286 => ?_)
              · refine ra_iconst rfl ?_
                exact ra_ireturn rfl rfl ⟨⟨_, (by first | omega | (unfold ra_in at *; omega)), rfl⟩, ⟨hF279, hk281, hk283, hg284, (WF_k hk280 hw), (PW_k hpw (ho285 5 (by decide) (by decide)) hk282)⟩⟩
              · exact absurd h286 (by decide)
            · refine ra_load rfl rfl rfl rfl ?_
              refine ra_cIPp (sp_202 (WF_k hk192 hw)) rfl (ct_202 rfl lk_8_298 (Or.inl rfl) sh_179 (Nat.le_of_ble_eq_true rfl)) (fun z288 hz288 hz288p => ?_)
              refine ra_bipush rfl (by decide) ?_
              refine ra_icne rfl rfl hz288 (by first | omega | (unfold ra_in at *; omega)) (fun h289 => ?_) (fun h289 => ?_)
              · refine ra_iconst rfl ?_
                refine ra_store (L' := [_, _, _, _, _]) rfl rfl rfl (Nat.le_of_ble_eq_true rfl) rfl ?_
                refine ra_load rfl rfl rfl rfl ?_
                refine ra_load rfl rfl rfl rfl ?_
                refine ra_iconst rfl ?_
                refine ra_cT (sp_193 (Or.inl rfl) (by first | omega | (unfold ra_in at *; omega))) rfl (ct_193 rfl lk_8_303 (Or.inl rfl) sh_179 (Nat.le_of_ble_eq_true rfl)) (fun s290 hs290 => ?_)
                obtain ⟨hf291, he292⟩ := hs290
                have hF293 := Fr_tr (lo := 179) (hi := 191) hF191 hf291 (by omega)
                have hk294 : s290 (180) = σ (180) := (hf291 (180) (by omega)).trans hk192
                have hk295 : s290 (183) = σ (183) := (hf291 (183) (by omega)).trans hk193
                have hk296 : s290 (184) = σ (184) := (hf291 (184) (by omega)).trans hk194
                have hk297 : s290 (187) = σ (187) := (hf291 (187) (by omega)).trans hk195
                have hg298 : ∀ a, a ≠ 5 → a ≠ 7 → a ≠ 10 → ra_g s290 179 a = ra_g σ 179 a := fun a h5 h7 h10 => ((fun a h7 h10 => he292 a h7) a h7 h10).trans (hg196 a h5 h7 h10)
                have ho299 : ∀ a, a ≠ 7 → a ≠ 10 → ra_g s290 179 a = ra_g σ 179 a := fun a h7 h10 => ((fun a h7 h10 => he292 a h7) a h7 h10).trans (ho197 a h7 h10)
                refine ra_ifne rfl rfl (by first | omega | (unfold ra_in at *; omega)) (fun h300 => ?_) (fun h300 => ?_)
                · exact absurd h300 (by decide)
                · refine ra_load rfl rfl rfl rfl ?_
                  refine ra_load rfl rfl rfl rfl ?_
                  refine ra_iconst rfl ?_
                  refine ra_cQP (sp_267 hx0 (by first | omega | (unfold ra_in at *; omega))) rfl (ct_267 rfl lk_8_318 (Or.inl rfl) sh_179 (Nat.le_of_ble_eq_true rfl)) (fun z302 s301 hz302 hz302p hs301 => ?_)
                  rw [wq_k hk294] at hz302p
                  obtain ⟨hf303, he304⟩ := hs301
                  have hF305 := Fr_tr (lo := 179) (hi := 191) hF293 hf303 (by omega)
                  have hk306 : s301 (180) = σ (180) := (hf303 (180) (by omega)).trans hk294
                  have hk307 : s301 (183) = σ (183) := (hf303 (183) (by omega)).trans hk295
                  have hk308 : s301 (184) = σ (184) := (hf303 (184) (by omega)).trans hk296
                  have hk309 : s301 (187) = σ (187) := (hf303 (187) (by omega)).trans hk297
                  have hg310 : ∀ a, a ≠ 5 → a ≠ 7 → a ≠ 10 → ra_g s301 179 a = ra_g σ 179 a := fun a h5 h7 h10 => ((fun a h7 h10 => he304 a h7) a h7 h10).trans (hg298 a h5 h7 h10)
                  have ho311 : ∀ a, a ≠ 7 → a ≠ 10 → ra_g s301 179 a = ra_g σ 179 a := fun a h7 h10 => ((fun a h7 h10 => he304 a h7) a h7 h10).trans (ho299 a h7 h10)
                  refine ra_ifeq rfl rfl (ra_in01 hz302) (fun h312 => ?_) (fun h312 => ?_)
                  · refine ra_load rfl rfl rfl rfl ?_
                    have hx := exn_k hk192 (hz288p.2.2 (by omega))
                    clear hz288p
                    have hp := hz302p (by omega)
                    have hst := hz200p.mpr hp
                    have hfx := hz259p (by omega)
                    rw [wq_k hk192, ra_gk hk192] at hfx
                    have hq := WF_p hw hp.1 hp.2.1 hp.2.2
                    refine ra_cV (sp_196 (WF_k hk306 hw) (PW_k hpw (ho311 5 (by decide) (by decide)) hk308)) rfl (ct_196 rfl lk_8_366 (Or.inl rfl) sh_179 (Nat.le_of_ble_eq_true rfl)) (fun s313 hs313 => ?_)
                    obtain ⟨hf314, hc315, hc316, hc317, hc318, he319, he320⟩ := hs313
                    have hF321 := Fr_tr (lo := 179) (hi := 191) hF305 hf314 (by omega)
                    have hk322 : s313 (180) = σ (180) := hc315.trans hk306
                    have hk323 : s313 (183) = σ (183) := hc318.trans hk307
                    have hk324 : s313 (187) = σ (187) := (hf314 (187) (by omega)).trans hk309
                    have hg325 : ∀ a, a ≠ 5 → a ≠ 7 → a ≠ 10 → ra_g s313 179 a = ra_g σ 179 a := fun a h5 h7 h10 => ((fun a h5 h7 h10 => he319 a h5) a h5 h7 h10).trans (hg310 a h5 h7 h10)
                    refine ra_load rfl rfl rfl rfl ?_
                    refine ra_load rfl rfl rfl rfl ?_
                    refine ra_iconst rfl ?_
                    refine ra_cTp (sp_199 hx0 (by first | omega | (unfold ra_in at *; omega)) (by first | assumption | rfl | omega)) rfl (ct_199 rfl lk_8_67 (Or.inl rfl) sh_179 (Nat.le_of_ble_eq_true rfl)) ?_
                    rw [wq_k hk322]
                    have hr327 : ra_in (wq σ x0 (2)) := (ra_in_wq _ _ _)
                    refine ra_load rfl rfl rfl rfl ?_
                    refine ra_isub rfl ?_
                    refine ra_store (L' := [_, _, _, _, _]) rfl rfl rfl (Nat.le_of_ble_eq_true rfl) rfl ?_
                    refine ra_load rfl rfl rfl rfl ?_
                    refine ra_load rfl rfl rfl rfl ?_
                    refine ra_iconst rfl ?_
                    refine ra_load rfl rfl rfl rfl ?_
                    refine ra_cV (sp_200 hx0 (by first | omega | (unfold ra_in at *; omega)) hx1 (by first | assumption | rfl | omega)) rfl (ct_200 rfl lk_8_78 (Or.inl rfl) sh_179 (Nat.le_of_ble_eq_true rfl)) (fun s328 hs328 => ?_)
                    obtain ⟨hf329, he330, he331⟩ := hs328
                    have hF332 := Fr_tr (lo := 179) (hi := 191) hF321 hf329 (by omega)
                    have hk333 : s328 (183) = σ (183) := (hf329 (183) (by omega)).trans hk323
                    have hk334 : s328 (187) = σ (187) := (hf329 (187) (by omega)).trans hk324
                    have hg335 : ∀ a, a ≠ 5 → a ≠ 7 → a ≠ 10 → ra_g s328 179 a = ra_g σ 179 a := fun a h5 h7 h10 => (ra_gk (hf329 179 (by omega))).trans (hg325 a h5 h7 h10)
                    have hb := spl_b (p := x0) ⟨by omega, by omega⟩ he331
                    have hb2 : wq s328 x0 1 = wq σ x0 1 := hb.trans (wq_k hk322)
                    refine ra_load rfl rfl rfl rfl ?_
                    refine ra_load rfl rfl rfl rfl ?_
                    refine ra_load rfl rfl rfl rfl ?_
                    refine ra_iconst rfl ?_
                    refine ra_cTp (sp_199 hx0 (by first | omega | (unfold ra_in at *; omega)) (by first | assumption | rfl | omega)) rfl (ct_199 rfl lk_8_67 (Or.inl rfl) sh_179 (Nat.le_of_ble_eq_true rfl)) ?_
                    have hr337 : ra_in (wq s328 x0 (1)) := (ra_in_wq _ _ _)
                    refine ra_load rfl rfl rfl rfl ?_
                    refine ra_iadd rfl ?_
                    refine ra_load rfl rfl rfl rfl ?_
                    refine ra_load rfl rfl rfl rfl ?_
                    refine ra_load rfl rfl rfl rfl ?_
                    refine ra_iconst rfl ?_
                    refine ra_cTp (sp_199 hx0 (by first | omega | (unfold ra_in at *; omega)) (by first | assumption | rfl | omega)) rfl (ct_199 rfl lk_8_67 (Or.inl rfl) sh_179 (Nat.le_of_ble_eq_true rfl)) ?_
                    have hr339 : ra_in (wq s328 x0 (4)) := (ra_in_wq _ _ _)
                    refine ra_iconst rfl ?_
                    refine ra_cIPs (sp_209 (by first | omega | (unfold ra_in at *; omega)) (by first | omega | (unfold ra_in at *; omega)) hr339 (by first | omega | (unfold ra_in at *; omega)) (spl_x ⟨by omega, by omega⟩ he331 (exm_k hk322 hx)) (by omega)) rfl (ct_209 rfl lk_8_250 (Or.inl rfl) sh_179 (Nat.le_of_ble_eq_true rfl)) (fun z341 s340 hz341 hz341p hs340 => ?_)
                    have hF342 := Fr_tr (lo := 179) (hi := 191) hF332 hs340 (by omega)
                    have hk343 : s340 (183) = σ (183) := (hs340 (183) (by omega)).trans hk333
                    have hk344 : s340 (187) = σ (187) := (hs340 (187) (by omega)).trans hk334
                    have hg345 : ∀ a, a ≠ 5 → a ≠ 7 → a ≠ 10 → ra_g s340 179 a = ra_g σ 179 a := fun a h5 h7 h10 => (ra_gk (hs340 179 (by omega))).trans (hg335 a h5 h7 h10)
                    exact ra_ireturn rfl rfl ⟨⟨_, hz341, rfl⟩, ⟨hF342, hk343, hk344, hg345, (spl_n (WF_k hk322 hw) ⟨hp.1, hp.2.1, (wq_k hk322).trans hp.2.2⟩ (by rw [ra_gk hk322]; exact hfx.2) (by simp only [wq_k hk322]; omega) he330 he331 hz341p rfl (by simp only [wq_k hk322])), (PW_k (PW_k he320 (ra_gk (hf329 179 (by omega))) (hf329 184 (by omega))) (ra_gk (hs340 179 (by omega))) (hs340 184 (by omega)))⟩⟩
                  · refine ra_iconst rfl ?_
                    exact ra_ireturn rfl rfl ⟨⟨_, (by first | omega | (unfold ra_in at *; omega)), rfl⟩, ⟨hF305, hk307, hk309, hg310, (WF_k hk306 hw), (PW_k hpw (ho311 5 (by decide) (by decide)) hk308)⟩⟩
              · refine ra_iconst rfl ?_
                refine ra_goto rfl rfl ?_
                refine ra_store (L' := [_, _, _, _, _]) rfl rfl rfl (Nat.le_of_ble_eq_true rfl) rfl ?_
                refine ra_load rfl rfl rfl rfl ?_
                refine ra_load rfl rfl rfl rfl ?_
                refine ra_iconst rfl ?_
                refine ra_cT (sp_193 (Or.inr rfl) (by first | omega | (unfold ra_in at *; omega))) rfl (ct_193 rfl lk_8_303 (Or.inl rfl) sh_179 (Nat.le_of_ble_eq_true rfl)) (fun s346 hs346 => ?_)
                obtain ⟨hf347, he348⟩ := hs346
                have hF349 := Fr_tr (lo := 179) (hi := 191) hF191 hf347 (by omega)
                have hk350 : s346 (180) = σ (180) := (hf347 (180) (by omega)).trans hk192
                have hk351 : s346 (183) = σ (183) := (hf347 (183) (by omega)).trans hk193
                have hk352 : s346 (184) = σ (184) := (hf347 (184) (by omega)).trans hk194
                have hk353 : s346 (187) = σ (187) := (hf347 (187) (by omega)).trans hk195
                have hg354 : ∀ a, a ≠ 5 → a ≠ 7 → a ≠ 10 → ra_g s346 179 a = ra_g σ 179 a := fun a h5 h7 h10 => ((fun a h7 h10 => he348 a h7) a h7 h10).trans (hg196 a h5 h7 h10)
                have ho355 : ∀ a, a ≠ 7 → a ≠ 10 → ra_g s346 179 a = ra_g σ 179 a := fun a h7 h10 => ((fun a h7 h10 => he348 a h7) a h7 h10).trans (ho197 a h7 h10)
                refine ra_ifne rfl rfl (by first | omega | (unfold ra_in at *; omega)) (fun h356 => ?_) (fun h356 => ?_)
                · refine ra_iconst rfl ?_
                  exact ra_ireturn rfl rfl ⟨⟨_, (by first | omega | (unfold ra_in at *; omega)), rfl⟩, ⟨hF349, hk351, hk353, hg354, (WF_k hk350 hw), (PW_k hpw (ho355 5 (by decide) (by decide)) hk352)⟩⟩
                · exact absurd h356 (by decide)
      · exact absurd h198 (by decide)
    · refine ra_iconst rfl ?_
      refine ra_goto rfl rfl ?_
      refine ra_iconst rfl ?_
      refine ra_cT (sp_193 (Or.inr rfl) (by first | omega | (unfold ra_in at *; omega))) rfl (ct_193 rfl lk_8_303 (Or.inl rfl) sh_179 (Nat.le_of_ble_eq_true rfl)) (fun s357 hs357 => ?_)
      obtain ⟨hf358, he359⟩ := hs357
      have hF360 := Fr_tr (lo := 179) (hi := 191) hF3 hf358 (by omega)
      have hk361 : s357 (180) = σ (180) := (hf358 (180) (by omega)).trans hk4
      have hk362 : s357 (183) = σ (183) := (hf358 (183) (by omega)).trans hk5
      have hk363 : s357 (184) = σ (184) := (hf358 (184) (by omega)).trans hk6
      have hk364 : s357 (187) = σ (187) := (hf358 (187) (by omega)).trans hk7
      have hg365 : ∀ a, a ≠ 5 → a ≠ 7 → a ≠ 10 → ra_g s357 179 a = ra_g σ 179 a := fun a h5 h7 h10 => ((fun a h7 h10 => he359 a h7) a h7 h10).trans (hg8 a h5 h7 h10)
      have ho366 : ∀ a, a ≠ 7 → a ≠ 10 → ra_g s357 179 a = ra_g σ 179 a := fun a h7 h10 => ((fun a h7 h10 => he359 a h7) a h7 h10).trans (ho9 a h7 h10)
      refine ra_ifeq rfl rfl (by first | omega | (unfold ra_in at *; omega)) (fun h367 => ?_) (fun h367 => ?_)
      · exact absurd h367 (by decide)
      · refine ra_iconst rfl ?_
        exact ra_ireturn rfl rfl ⟨⟨_, (by first | omega | (unfold ra_in at *; omega)), rfl⟩, ⟨hF360, hk362, hk364, hg365, (WF_k hk361 hw), (PW_k hpw (ho366 5 (by decide) (by decide)) hk363)⟩⟩
end RB
