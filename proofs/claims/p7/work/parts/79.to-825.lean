section
/-! the reference: what its methods do (printed by wip/gen/ref.py) -/
section RB
theorem sp_312 {n : Nat} {f : Nat → Int32} {d : Nat} {x0 : Int} {σ : ra_V} (hx0 : ra_in x0) (hw : WF σ) (hpw : PW σ) : ra_C (g_Gs n f) g_sh 0 (d + 5) 312 [.index (179), ra_I x0] σ (fun r s => rI r ∧ Fr (179) (191) σ s ∧ s (183) = σ (183) ∧ s (187) = σ (187) ∧ (∀ a, a ≠ 5 → a ≠ 7 → a ≠ 10 → ra_g s 179 a = ra_g σ 179 a) ∧ WF s ∧ PW s) := by
  refine ra_enter (nn := 1) mt_312 rfl (Nat.le_of_ble_eq_true rfl) rfl (fun h => absurd h (by decide +kernel)) ?_
  have hw0 := WF_a hw
  unfold WFa at hw0
  refine ra_load rfl rfl rfl rfl ?_
  refine ra_iconst rfl ?_
  refine ra_putI rfl lk_8_51 (Nat.zero_le _) sh_179 rfl rfl ?_
  refine ra_newU (by first | omega | (unfold ra_in at *; omega)) (fun s1 hs1 hp2 hp2o => ?_)
  have hp2_99 := hp2o 99 (by decide)
  have hF3 := Fr_tr (lo := 179) (hi := 191) Fr_rf hs1 (by omega)
  have hk4 : s1 (180) = σ (180) := (hs1 (180) (by omega))
  have hk5 : s1 (183) = σ (183) := (hs1 (183) (by omega))
  have hk6 : s1 (184) = σ (184) := (hs1 (184) (by omega))
  have hk7 : s1 (187) = σ (187) := (hs1 (187) (by omega))
  have hg8 : ∀ a, a ≠ 5 → a ≠ 7 → a ≠ 10 → ra_g s1 179 a = ra_g σ 179 a := fun a h5 h7 h10 => ((fun a h7 h10 => hp2o a h7) a h7 h10).trans ((fun _ _ _ _ => rfl) a h5 h7 h10)
  have ho9 : ∀ a, a ≠ 7 → a ≠ 10 → ra_g s1 179 a = ra_g σ 179 a := fun a h7 h10 => ((fun a h7 h10 => hp2o a h7) a h7 h10).trans ((fun _ _ _ => rfl) a h7 h10)
  refine ra_load rfl rfl rfl rfl ?_
  refine ra_load rfl rfl rfl rfl ?_
  refine ra_load rfl rfl rfl rfl ?_
  refine ra_cQPp (sp_202 hx0) rfl (ct_202 rfl lk_8_313 (Or.inl rfl) sh_179 (Nat.le_of_ble_eq_true rfl)) (fun z11 hz11 hz11p => ?_)
  rw [wq_k hk4] at hz11p
  refine ra_ifeq rfl rfl (ra_in01 hz11) (fun h12 => ?_) (fun h12 => ?_)
  · refine ra_iconst rfl ?_
    refine ra_iconst rfl ?_
    refine ra_cT (sp_194 (Or.inl rfl) (by first | omega | (unfold ra_in at *; omega))) rfl (ct_194 rfl lk_8_303 (Or.inl rfl) sh_179 (Nat.le_of_ble_eq_true rfl)) (fun s13 hs13 => ?_)
    obtain ⟨hf14, he15⟩ := hs13
    have hF16 := Fr_tr (lo := 179) (hi := 191) hF3 hf14 (by omega)
    have hk17 : s13 (180) = σ (180) := (hf14 (180) (by omega)).trans hk4
    have hk18 : s13 (183) = σ (183) := (hf14 (183) (by omega)).trans hk5
    have hk19 : s13 (184) = σ (184) := (hf14 (184) (by omega)).trans hk6
    have hk20 : s13 (187) = σ (187) := (hf14 (187) (by omega)).trans hk7
    have hg21 : ∀ a, a ≠ 5 → a ≠ 7 → a ≠ 10 → ra_g s13 179 a = ra_g σ 179 a := fun a h5 h7 h10 => ((fun a h7 h10 => he15 a h7) a h7 h10).trans (hg8 a h5 h7 h10)
    have ho22 : ∀ a, a ≠ 7 → a ≠ 10 → ra_g s13 179 a = ra_g σ 179 a := fun a h7 h10 => ((fun a h7 h10 => he15 a h7) a h7 h10).trans (ho9 a h7 h10)
    refine ra_ifne rfl rfl (by first | omega | (unfold ra_in at *; omega)) (fun h23 => ?_) (fun h23 => ?_)
    · exact absurd h23 (by decide)
    · refine ra_load rfl rfl rfl rfl ?_
      refine ra_load rfl rfl rfl rfl ?_
      refine ra_iconst rfl ?_
      refine ra_cQP (sp_268 hx0 (by first | omega | (unfold ra_in at *; omega))) rfl (ct_268 rfl lk_8_318 (Or.inl rfl) sh_179 (Nat.le_of_ble_eq_true rfl)) (fun z25 s24 hz25 hz25p hs24 => ?_)
      rw [wq_k hk17] at hz25p
      obtain ⟨hf26, he27⟩ := hs24
      have hF28 := Fr_tr (lo := 179) (hi := 191) hF16 hf26 (by omega)
      have hk29 : s24 (180) = σ (180) := (hf26 (180) (by omega)).trans hk17
      have hk30 : s24 (183) = σ (183) := (hf26 (183) (by omega)).trans hk18
      have hk31 : s24 (184) = σ (184) := (hf26 (184) (by omega)).trans hk19
      have hk32 : s24 (187) = σ (187) := (hf26 (187) (by omega)).trans hk20
      have hg33 : ∀ a, a ≠ 5 → a ≠ 7 → a ≠ 10 → ra_g s24 179 a = ra_g σ 179 a := fun a h5 h7 h10 => ((fun a h7 h10 => he27 a h7) a h7 h10).trans (hg21 a h5 h7 h10)
      have ho34 : ∀ a, a ≠ 7 → a ≠ 10 → ra_g s24 179 a = ra_g σ 179 a := fun a h7 h10 => ((fun a h7 h10 => he27 a h7) a h7 h10).trans (ho22 a h7 h10)
      refine ra_ifeq rfl rfl (ra_in01 hz25) (fun h35 => ?_) (fun h35 => ?_)
      · refine ra_load rfl rfl rfl rfl ?_
        have hp := hz25p (by omega)
        have hst := hz11p.mpr hp
        have hq := WF_p hw hp.1 hp.2.1 hp.2.2
        refine ra_cV (sp_197 (WF_k hk29 hw) (PW_k hpw (ho34 5 (by decide) (by decide)) hk31)) rfl (ct_197 rfl lk_8_366 (Or.inl rfl) sh_179 (Nat.le_of_ble_eq_true rfl)) (fun s36 hs36 => ?_)
        obtain ⟨hf37, hc38, hc39, hc40, hc41, he42, he43⟩ := hs36
        have hF44 := Fr_tr (lo := 179) (hi := 191) hF28 hf37 (by omega)
        have hk45 : s36 (180) = σ (180) := hc38.trans hk29
        have hk46 : s36 (183) = σ (183) := hc41.trans hk30
        have hk47 : s36 (187) = σ (187) := (hf37 (187) (by omega)).trans hk32
        have hg48 : ∀ a, a ≠ 5 → a ≠ 7 → a ≠ 10 → ra_g s36 179 a = ra_g σ 179 a := fun a h5 h7 h10 => ((fun a h5 h7 h10 => he42 a h5) a h5 h7 h10).trans (hg33 a h5 h7 h10)
        refine ra_load rfl rfl rfl rfl ?_
        refine ra_load rfl rfl rfl rfl ?_
        refine ra_cIPp (sp_310 hx0 (WF_k hk45 hw) (sp_k hk45 rfl (hz25p (by omega)))) rfl (ct_310 rfl lk_8_378 (Or.inl rfl) sh_179 (Nat.le_of_ble_eq_true rfl)) (fun z50 hz50 hz50p => ?_)
        refine ra_store (L' := [_, _, _]) rfl rfl rfl (Nat.le_of_ble_eq_true rfl) rfl ?_
        refine ra_load rfl rfl rfl rfl ?_
        refine ra_load rfl rfl rfl rfl ?_
        refine ra_iconst rfl ?_
        refine ra_iconst rfl ?_
        refine ra_cV (sp_201 hz50 (by first | omega | (unfold ra_in at *; omega)) (by first | omega | (unfold ra_in at *; omega)) (by first | assumption | rfl | omega)) rfl (ct_201 rfl lk_8_78 (Or.inl rfl) sh_179 (Nat.le_of_ble_eq_true rfl)) (fun s51 hs51 => ?_)
        obtain ⟨hf52, he53, he54⟩ := hs51
        have hF55 := Fr_tr (lo := 179) (hi := 191) hF44 hf52 (by omega)
        have hk56 : s51 (183) = σ (183) := (hf52 (183) (by omega)).trans hk46
        have hk57 : s51 (187) = σ (187) := (hf52 (187) (by omega)).trans hk47
        have hg58 : ∀ a, a ≠ 5 → a ≠ 7 → a ≠ 10 → ra_g s51 179 a = ra_g σ 179 a := fun a h5 h7 h10 => (ra_gk (hf52 179 (by omega))).trans (hg48 a h5 h7 h10)
        refine ra_load rfl rfl rfl rfl ?_
        refine ra_load rfl rfl rfl rfl ?_
        refine ra_load rfl rfl rfl rfl ?_
        refine ra_load rfl rfl rfl rfl ?_
        refine ra_iconst rfl ?_
        refine ra_cTp (sp_200 hx0 (by first | omega | (unfold ra_in at *; omega)) (by first | assumption | rfl | omega)) rfl (ct_200 rfl lk_8_67 (Or.inl rfl) sh_179 (Nat.le_of_ble_eq_true rfl)) ?_
        have hr60 : ra_in (wq s51 x0 (2)) := (ra_in_wq _ _ _)
        refine ra_load rfl rfl rfl rfl ?_
        refine ra_load rfl rfl rfl rfl ?_
        refine ra_iconst rfl ?_
        refine ra_cTp (sp_200 hz50 (by first | omega | (unfold ra_in at *; omega)) (by first | assumption | rfl | omega)) rfl (ct_200 rfl lk_8_67 (Or.inl rfl) sh_179 (Nat.le_of_ble_eq_true rfl)) ?_
        have hr62 : ra_in (wq s51 z50 (2)) := (ra_in_wq _ _ _)
        refine ra_iadd rfl ?_
        refine ra_cV (sp_304 hx0 (by first | omega | (unfold ra_in at *; omega)) (by first | assumption | rfl | omega) (by first | assumption | rfl | omega)) rfl (ct_304 rfl lk_8_375 (Or.inl rfl) sh_179 (Nat.le_of_ble_eq_true rfl)) (fun s63 hs63 => ?_)
        obtain ⟨hf64, he65⟩ := hs63
        have hF66 := Fr_tr (lo := 179) (hi := 191) hF55 hf64 (by omega)
        have hk67 : s63 (183) = σ (183) := (hf64 (183) (by omega)).trans hk56
        have hk68 : s63 (187) = σ (187) := (hf64 (187) (by omega)).trans hk57
        have hg69 : ∀ a, a ≠ 5 → a ≠ 7 → a ≠ 10 → ra_g s63 179 a = ra_g σ 179 a := fun a h5 h7 h10 => (ra_gk (hf64 179 (by omega))).trans (hg58 a h5 h7 h10)
        refine ra_load rfl rfl rfl rfl ?_
        exact ra_ireturn rfl rfl ⟨⟨_, hz50, rfl⟩, ⟨hF66, hk67, hk68, hg69, (by exfalso; omega), (PW_k (PW_k he43 (ra_gk (hf52 179 (by omega))) (hf52 184 (by omega))) (ra_gk (hf64 179 (by omega))) (hf64 184 (by omega)))⟩⟩
      · refine ra_iconst rfl ?_
        exact ra_ireturn rfl rfl ⟨⟨_, (by first | omega | (unfold ra_in at *; omega)), rfl⟩, ⟨hF28, hk30, hk32, hg33, (WF_k hk29 hw), (PW_k hpw (ho34 5 (by decide) (by decide)) hk31)⟩⟩
  · refine ra_load rfl rfl rfl rfl ?_
    refine ra_load rfl rfl rfl rfl ?_
    refine ra_cQPp (sp_311 hx0 (WF_k hk4 hw) (sp_k hk4 rfl (hz11p.mp (by omega)))) rfl (ct_311 rfl lk_8_381 (Or.inl rfl) sh_179 (Nat.le_of_ble_eq_true rfl)) (fun z71 hz71 hz71p => ?_)
    refine ra_ifne rfl rfl (ra_in01 hz71) (fun h72 => ?_) (fun h72 => ?_)
    · refine ra_iconst rfl ?_
      refine ra_iconst rfl ?_
      refine ra_cT (sp_194 (Or.inl rfl) (by first | omega | (unfold ra_in at *; omega))) rfl (ct_194 rfl lk_8_303 (Or.inl rfl) sh_179 (Nat.le_of_ble_eq_true rfl)) (fun s73 hs73 => ?_)
      obtain ⟨hf74, he75⟩ := hs73
      have hF76 := Fr_tr (lo := 179) (hi := 191) hF3 hf74 (by omega)
      have hk77 : s73 (180) = σ (180) := (hf74 (180) (by omega)).trans hk4
      have hk78 : s73 (183) = σ (183) := (hf74 (183) (by omega)).trans hk5
      have hk79 : s73 (184) = σ (184) := (hf74 (184) (by omega)).trans hk6
      have hk80 : s73 (187) = σ (187) := (hf74 (187) (by omega)).trans hk7
      have hg81 : ∀ a, a ≠ 5 → a ≠ 7 → a ≠ 10 → ra_g s73 179 a = ra_g σ 179 a := fun a h5 h7 h10 => ((fun a h7 h10 => he75 a h7) a h7 h10).trans (hg8 a h5 h7 h10)
      have ho82 : ∀ a, a ≠ 7 → a ≠ 10 → ra_g s73 179 a = ra_g σ 179 a := fun a h7 h10 => ((fun a h7 h10 => he75 a h7) a h7 h10).trans (ho9 a h7 h10)
      refine ra_ifne rfl rfl (by first | omega | (unfold ra_in at *; omega)) (fun h83 => ?_) (fun h83 => ?_)
      · exact absurd h83 (by decide)
      · refine ra_load rfl rfl rfl rfl ?_
        refine ra_load rfl rfl rfl rfl ?_
        refine ra_iconst rfl ?_
        refine ra_cQP (sp_268 hx0 (by first | omega | (unfold ra_in at *; omega))) rfl (ct_268 rfl lk_8_318 (Or.inl rfl) sh_179 (Nat.le_of_ble_eq_true rfl)) (fun z85 s84 hz85 hz85p hs84 => ?_)
        rw [wq_k hk77] at hz85p
        obtain ⟨hf86, he87⟩ := hs84
        have hF88 := Fr_tr (lo := 179) (hi := 191) hF76 hf86 (by omega)
        have hk89 : s84 (180) = σ (180) := (hf86 (180) (by omega)).trans hk77
        have hk90 : s84 (183) = σ (183) := (hf86 (183) (by omega)).trans hk78
        have hk91 : s84 (184) = σ (184) := (hf86 (184) (by omega)).trans hk79
        have hk92 : s84 (187) = σ (187) := (hf86 (187) (by omega)).trans hk80
        have hg93 : ∀ a, a ≠ 5 → a ≠ 7 → a ≠ 10 → ra_g s84 179 a = ra_g σ 179 a := fun a h5 h7 h10 => ((fun a h7 h10 => he87 a h7) a h7 h10).trans (hg81 a h5 h7 h10)
        have ho94 : ∀ a, a ≠ 7 → a ≠ 10 → ra_g s84 179 a = ra_g σ 179 a := fun a h7 h10 => ((fun a h7 h10 => he87 a h7) a h7 h10).trans (ho82 a h7 h10)
        refine ra_ifeq rfl rfl (ra_in01 hz85) (fun h95 => ?_) (fun h95 => ?_)
        · refine ra_load rfl rfl rfl rfl ?_
          have hp := hz85p (by omega)
          have hst := hz11p.mpr hp
          have hq := WF_p hw hp.1 hp.2.1 hp.2.2
          have hc := cj_k hk4 (hz71p (by omega))
          refine ra_cV (sp_197 (WF_k hk89 hw) (PW_k hpw (ho94 5 (by decide) (by decide)) hk91)) rfl (ct_197 rfl lk_8_366 (Or.inl rfl) sh_179 (Nat.le_of_ble_eq_true rfl)) (fun s96 hs96 => ?_)
          obtain ⟨hf97, hc98, hc99, hc100, hc101, he102, he103⟩ := hs96
          have hF104 := Fr_tr (lo := 179) (hi := 191) hF88 hf97 (by omega)
          have hk105 : s96 (180) = σ (180) := hc98.trans hk89
          have hk106 : s96 (183) = σ (183) := hc101.trans hk90
          have hk107 : s96 (187) = σ (187) := (hf97 (187) (by omega)).trans hk92
          have hg108 : ∀ a, a ≠ 5 → a ≠ 7 → a ≠ 10 → ra_g s96 179 a = ra_g σ 179 a := fun a h5 h7 h10 => ((fun a h5 h7 h10 => he102 a h5) a h5 h7 h10).trans (hg93 a h5 h7 h10)
          refine ra_load rfl rfl rfl rfl ?_
          refine ra_load rfl rfl rfl rfl ?_
          refine ra_cIPp (sp_310 hx0 (WF_k hk105 hw) (sp_k hk105 rfl (hz85p (by omega)))) rfl (ct_310 rfl lk_8_378 (Or.inl rfl) sh_179 (Nat.le_of_ble_eq_true rfl)) (fun z110 hz110 hz110p => ?_)
          have hj := nb_j (WF_k hk105 hw) ⟨hp.1, hp.2.1, (wq_k hk105).trans hp.2.2⟩ (cj_k hk105.symm hc) hz110p
          have hp2 := (⟨hp.1, hp.2.1, (wq_k hk105).trans hp.2.2⟩ : 0 ≤ x0 ∧ x0 < 8 ∧ wq s96 x0 0 = 1)
          refine ra_store (L' := [_, _, _]) rfl rfl rfl (Nat.le_of_ble_eq_true rfl) rfl ?_
          refine ra_load rfl rfl rfl rfl ?_
          refine ra_load rfl rfl rfl rfl ?_
          refine ra_iconst rfl ?_
          refine ra_iconst rfl ?_
          refine ra_cV (sp_201 hz110 (by first | omega | (unfold ra_in at *; omega)) (by first | omega | (unfold ra_in at *; omega)) (by first | assumption | rfl | omega)) rfl (ct_201 rfl lk_8_78 (Or.inl rfl) sh_179 (Nat.le_of_ble_eq_true rfl)) (fun s111 hs111 => ?_)
          obtain ⟨hf112, he113, he114⟩ := hs111
          have hF115 := Fr_tr (lo := 179) (hi := 191) hF104 hf112 (by omega)
          have hk116 : s111 (183) = σ (183) := (hf112 (183) (by omega)).trans hk106
          have hk117 : s111 (187) = σ (187) := (hf112 (187) (by omega)).trans hk107
          have hg118 : ∀ a, a ≠ 5 → a ≠ 7 → a ≠ 10 → ra_g s111 179 a = ra_g σ 179 a := fun a h5 h7 h10 => (ra_gk (hf112 179 (by omega))).trans (hg108 a h5 h7 h10)
          have hb := jn_b (WF_k hk105 hw) hp2 hj he114
          refine ra_load rfl rfl rfl rfl ?_
          refine ra_load rfl rfl rfl rfl ?_
          refine ra_load rfl rfl rfl rfl ?_
          refine ra_load rfl rfl rfl rfl ?_
          refine ra_iconst rfl ?_
          refine ra_cTp (sp_200 hx0 (by first | omega | (unfold ra_in at *; omega)) (by first | assumption | rfl | omega)) rfl (ct_200 rfl lk_8_67 (Or.inl rfl) sh_179 (Nat.le_of_ble_eq_true rfl)) ?_
          have hr120 : ra_in (wq s111 x0 (2)) := (ra_in_wq _ _ _)
          refine ra_load rfl rfl rfl rfl ?_
          refine ra_load rfl rfl rfl rfl ?_
          refine ra_iconst rfl ?_
          refine ra_cTp (sp_200 hz110 (by first | omega | (unfold ra_in at *; omega)) (by first | assumption | rfl | omega)) rfl (ct_200 rfl lk_8_67 (Or.inl rfl) sh_179 (Nat.le_of_ble_eq_true rfl)) ?_
          have hr122 : ra_in (wq s111 z110 (2)) := (ra_in_wq _ _ _)
          refine ra_iadd rfl ?_
          refine ra_cV (sp_304 hx0 (by first | omega | (unfold ra_in at *; omega)) (by first | assumption | rfl | omega) (by first | assumption | rfl | omega)) rfl (ct_304 rfl lk_8_375 (Or.inl rfl) sh_179 (Nat.le_of_ble_eq_true rfl)) (fun s123 hs123 => ?_)
          obtain ⟨hf124, he125⟩ := hs123
          have hF126 := Fr_tr (lo := 179) (hi := 191) hF115 hf124 (by omega)
          have hk127 : s123 (183) = σ (183) := (hf124 (183) (by omega)).trans hk116
          have hk128 : s123 (187) = σ (187) := (hf124 (187) (by omega)).trans hk117
          have hg129 : ∀ a, a ≠ 5 → a ≠ 7 → a ≠ 10 → ra_g s123 179 a = ra_g σ 179 a := fun a h5 h7 h10 => (ra_gk (hf124 179 (by omega))).trans (hg118 a h5 h7 h10)
          refine ra_load rfl rfl rfl rfl ?_
          exact ra_ireturn rfl rfl ⟨⟨_, hz110, rfl⟩, ⟨hF126, hk127, hk128, hg129, (jn_w (WF_k hk105 hw) hp2 hj he113 he114 he125), (PW_k (PW_k he103 (ra_gk (hf112 179 (by omega))) (hf112 184 (by omega))) (ra_gk (hf124 179 (by omega))) (hf124 184 (by omega)))⟩⟩
        · refine ra_iconst rfl ?_
          exact ra_ireturn rfl rfl ⟨⟨_, (by first | omega | (unfold ra_in at *; omega)), rfl⟩, ⟨hF88, hk90, hk92, hg93, (WF_k hk89 hw), (PW_k hpw (ho94 5 (by decide) (by decide)) hk91)⟩⟩
    · refine ra_iconst rfl ?_
      refine ra_goto rfl rfl ?_
      refine ra_iconst rfl ?_
      refine ra_cT (sp_194 (Or.inr rfl) (by first | omega | (unfold ra_in at *; omega))) rfl (ct_194 rfl lk_8_303 (Or.inl rfl) sh_179 (Nat.le_of_ble_eq_true rfl)) (fun s130 hs130 => ?_)
      obtain ⟨hf131, he132⟩ := hs130
      have hF133 := Fr_tr (lo := 179) (hi := 191) hF3 hf131 (by omega)
      have hk134 : s130 (180) = σ (180) := (hf131 (180) (by omega)).trans hk4
      have hk135 : s130 (183) = σ (183) := (hf131 (183) (by omega)).trans hk5
      have hk136 : s130 (184) = σ (184) := (hf131 (184) (by omega)).trans hk6
      have hk137 : s130 (187) = σ (187) := (hf131 (187) (by omega)).trans hk7
      have hg138 : ∀ a, a ≠ 5 → a ≠ 7 → a ≠ 10 → ra_g s130 179 a = ra_g σ 179 a := fun a h5 h7 h10 => ((fun a h7 h10 => he132 a h7) a h7 h10).trans (hg8 a h5 h7 h10)
      have ho139 : ∀ a, a ≠ 7 → a ≠ 10 → ra_g s130 179 a = ra_g σ 179 a := fun a h7 h10 => ((fun a h7 h10 => he132 a h7) a h7 h10).trans (ho9 a h7 h10)
      refine ra_ifne rfl rfl (by first | omega | (unfold ra_in at *; omega)) (fun h140 => ?_) (fun h140 => ?_)
      · refine ra_iconst rfl ?_
        exact ra_ireturn rfl rfl ⟨⟨_, (by first | omega | (unfold ra_in at *; omega)), rfl⟩, ⟨hF133, hk135, hk137, hg138, (WF_k hk134 hw), (PW_k hpw (ho139 5 (by decide) (by decide)) hk136)⟩⟩
      · exact absurd h140 (by decide)
end RB
end
section
/-! split -/
section RB
section
variable {σ s : ra_V} {p x a m : Int}
theorem spl_x (hp : 0 ≤ p ∧ p < 8) (o : ∀ a, a ≠ (24 + 8 * p + 2).toNat → ra_g s 180 a = ra_g σ 180 a) (h : EX8 σ) : EX8 s := by
  obtain ⟨q, q0, q1, q2⟩ := h
  have e : wq s q 0 = wq σ q 0 := o _ (by omega)
  exact ⟨q, q0, q1, by omega⟩
theorem spl_b (hp : 0 ≤ p ∧ p < 8) (o : ∀ a, a ≠ (24 + 8 * p + 2).toNat → ra_g s 180 a = ra_g σ 180 a) : wq s p 1 = wq σ p 1 := o _ (by omega)
theorem spl_w (hw : WF σ) (hp : 0 ≤ p ∧ p < 8 ∧ wq σ p 0 = 1) (hm : ra_g σ 180 16 ≠ p) (hx : wq σ p 3 ≤ x ∧ x < wq σ p 2) (v : wq s p 2 = x) (o : ∀ a, a ≠ (24 + 8 * p + 2).toNat → ra_g s 180 a = ra_g σ 180 a) (ea : a = wq s p 1 + x) (em : m = wq σ p 2 - x) :
    WF s ∧ US s a m ∧ ¬ TK s a m (-1) ∧ ¬ BT s a m := by
  have hq := WF_p hw hp.1 hp.2.1 hp.2.2
  have w1 : WF s := WF_rsz hw hp hm (m := x) ⟨v, fun a _ h => o a h⟩ (szk_le hw ⟨hp.1, hp.2.1⟩ hp.2.2 (by omega) (by omega))
  have g : ∀ j : Nat, j < 24 → ra_g s 180 j = ra_g σ 180 j := fun j hj => o j (by omega)
  have e1 : wq s p 1 = wq σ p 1 := o _ (by omega)
  subst ea em
  refine ⟨w1, ⟨by omega, ?_, ?_⟩, ?_, ?_⟩
  · rw [g 1 (by omega)]; omega
  · rw [g 0 (by omega), g 2 (by omega)]; omega
  · rintro ⟨q, q0, q1, q2, q3, q4, q5⟩
    by_cases e : q = p
    · subst e
      omega
    · have a0 : wq s q 0 = wq σ q 0 := o _ (by omega)
      have a1 : wq s q 1 = wq σ q 1 := o _ (by omega)
      have a2 : wq s q 2 = wq σ q 2 := o _ (by omega)
      have h1 := WF_ap hw q0 q1 hp.1 hp.2.1 e (by omega) hp.2.2
      omega
  · rintro ⟨b1, b2, b3, b4⟩
    have e16 := g 16 (by omega)
    have hmv : ra_g σ 180 16 ≠ -1 := by omega
    have hv := (WF_m hw hmv).2.2.2.2.2.2.2.2.2.2 p hp.1 hp.2.1 (Ne.symm hm) hp.2.2
    have hs := WF_msz hw hmv
    have a2 : wq s (ra_g s 180 16) 2 = wq σ (ra_g σ 180 16) 2 := by
      rw [e16]
      exact o _ (by omega)
    have e18 := g 18 (by omega)
    have hv : ra_g σ 180 18 + wq σ (ra_g σ 180 16) 2 ≤ wq σ p 1 ∨ wq σ p 1 + wq σ p 2 ≤ ra_g σ 180 18 := hv
    omega
theorem spl_n {t : ra_V} {z : Int} (hw : WF σ) (hp : 0 ≤ p ∧ p < 8 ∧ wq σ p 0 = 1) (hm : ra_g σ 180 16 ≠ p) (hx : wq σ p 3 ≤ x ∧ x < wq σ p 2) (v : wq s p 2 = x) (o : ∀ a, a ≠ (24 + 8 * p + 2).toNat → ra_g s 180 a = ra_g σ 180 a) (h : MKN s t z a m 1) (ea : a = wq s p 1 + x) (em : m = wq σ p 2 - x) : WF t := by
  have sw := spl_w hw hp hm hx v o ea em
  exact WF_new sw.1 h sw.2.1 sw.2.2.1 sw.2.2.2 ⟨by omega, by omega⟩
end
end RB
end
section
/-! the reference: what its methods do (printed by wip/gen/ref.py) -/
section RB
theorem sp_309 {n : Nat} {f : Nat → Int32} {d : Nat} {x0 : Int} {x1 : Int} {σ : ra_V} (hx0 : ra_in x0) (hx1 : ra_in x1) (hw : WF σ) (hpw : PW σ) : ra_C (g_Gs n f) g_sh 0 (d + 5) 309 [.index (179), ra_I x0, ra_I x1] σ (fun r s => rI r ∧ Fr (179) (191) σ s ∧ s (183) = σ (183) ∧ s (187) = σ (187) ∧ (∀ a, a ≠ 5 → a ≠ 7 → a ≠ 10 → ra_g s 179 a = ra_g σ 179 a) ∧ WF s ∧ PW s) := by
  refine ra_enter (nn := 2) mt_309 rfl (Nat.le_of_ble_eq_true rfl) rfl (fun h => absurd h (by decide +kernel)) ?_
  have hw0 := WF_a hw
  unfold WFa at hw0
  refine ra_load rfl rfl rfl rfl ?_
  refine ra_iconst rfl ?_
  refine ra_putI rfl lk_8_51 (Nat.zero_le _) sh_179 rfl rfl ?_
  refine ra_newU (by first | omega | (unfold ra_in at *; omega)) (fun s1 hs1 hp2 hp2o => ?_)
  have hp2_99 := hp2o 99 (by decide)
  have hF3 := Fr_tr (lo := 179) (hi := 191) Fr_rf hs1 (by omega)
  have hk4 : s1 (180) = σ (180) := (hs1 (180) (by omega))
  have hk5 : s1 (183) = σ (183) := (hs1 (183) (by omega))
  have hk6 : s1 (184) = σ (184) := (hs1 (184) (by omega))
  have hk7 : s1 (187) = σ (187) := (hs1 (187) (by omega))
  have hg8 : ∀ a, a ≠ 5 → a ≠ 7 → a ≠ 10 → ra_g s1 179 a = ra_g σ 179 a := fun a h5 h7 h10 => ((fun a h7 h10 => hp2o a h7) a h7 h10).trans ((fun _ _ _ _ => rfl) a h5 h7 h10)
  have ho9 : ∀ a, a ≠ 7 → a ≠ 10 → ra_g s1 179 a = ra_g σ 179 a := fun a h7 h10 => ((fun a h7 h10 => hp2o a h7) a h7 h10).trans ((fun _ _ _ => rfl) a h7 h10)
  refine ra_load rfl rfl rfl rfl ?_
  refine ra_load rfl rfl rfl rfl ?_
  refine ra_load rfl rfl rfl rfl ?_
  refine ra_cQPp (sp_202 hx0) rfl (ct_202 rfl lk_8_313 (Or.inl rfl) sh_179 (Nat.le_of_ble_eq_true rfl)) (fun z11 hz11 hz11p => ?_)
  rw [wq_k hk4] at hz11p
  refine ra_ifeq rfl rfl (ra_in01 hz11) (fun h12 => ?_) (fun h12 => ?_)
  · refine ra_iconst rfl ?_
    refine ra_iconst rfl ?_
    refine ra_cT (sp_194 (Or.inl rfl) (by first | omega | (unfold ra_in at *; omega))) rfl (ct_194 rfl lk_8_303 (Or.inl rfl) sh_179 (Nat.le_of_ble_eq_true rfl)) (fun s13 hs13 => ?_)
    obtain ⟨hf14, he15⟩ := hs13
    have hF16 := Fr_tr (lo := 179) (hi := 191) hF3 hf14 (by omega)
    have hk17 : s13 (180) = σ (180) := (hf14 (180) (by omega)).trans hk4
    have hk18 : s13 (183) = σ (183) := (hf14 (183) (by omega)).trans hk5
    have hk19 : s13 (184) = σ (184) := (hf14 (184) (by omega)).trans hk6
    have hk20 : s13 (187) = σ (187) := (hf14 (187) (by omega)).trans hk7
    have hg21 : ∀ a, a ≠ 5 → a ≠ 7 → a ≠ 10 → ra_g s13 179 a = ra_g σ 179 a := fun a h5 h7 h10 => ((fun a h7 h10 => he15 a h7) a h7 h10).trans (hg8 a h5 h7 h10)
    have ho22 : ∀ a, a ≠ 7 → a ≠ 10 → ra_g s13 179 a = ra_g σ 179 a := fun a h7 h10 => ((fun a h7 h10 => he15 a h7) a h7 h10).trans (ho9 a h7 h10)
    refine ra_ifeq rfl rfl (by first | omega | (unfold ra_in at *; omega)) (fun h23 => ?_) (fun h23 => ?_)
    · refine ra_load rfl rfl rfl rfl ?_
      refine ra_load rfl rfl rfl rfl ?_
      refine ra_cQPp (sp_202 hx0) rfl (ct_202 rfl lk_8_313 (Or.inl rfl) sh_179 (Nat.le_of_ble_eq_true rfl)) (fun z25 hz25 hz25p => ?_)
      rw [wq_k hk17] at hz25p
      refine ra_ifeq rfl rfl (ra_in01 hz25) (fun h26 => ?_) (fun h26 => ?_)
      · refine ra_iconst rfl ?_
        refine ra_store (L' := [_, _, _, _, _]) rfl rfl rfl (Nat.le_of_ble_eq_true rfl) rfl ?_
        refine ra_load rfl rfl rfl rfl ?_
        refine ra_load rfl rfl rfl rfl ?_
        refine ra_iconst rfl ?_
        refine ra_cT (sp_194 (Or.inl rfl) (by first | omega | (unfold ra_in at *; omega))) rfl (ct_194 rfl lk_8_303 (Or.inl rfl) sh_179 (Nat.le_of_ble_eq_true rfl)) (fun s27 hs27 => ?_)
        obtain ⟨hf28, he29⟩ := hs27
        have hF30 := Fr_tr (lo := 179) (hi := 191) hF16 hf28 (by omega)
        have hk31 : s27 (180) = σ (180) := (hf28 (180) (by omega)).trans hk17
        have hk32 : s27 (183) = σ (183) := (hf28 (183) (by omega)).trans hk18
        have hk33 : s27 (184) = σ (184) := (hf28 (184) (by omega)).trans hk19
        have hk34 : s27 (187) = σ (187) := (hf28 (187) (by omega)).trans hk20
        have hg35 : ∀ a, a ≠ 5 → a ≠ 7 → a ≠ 10 → ra_g s27 179 a = ra_g σ 179 a := fun a h5 h7 h10 => ((fun a h7 h10 => he29 a h7) a h7 h10).trans (hg21 a h5 h7 h10)
        have ho36 : ∀ a, a ≠ 7 → a ≠ 10 → ra_g s27 179 a = ra_g σ 179 a := fun a h7 h10 => ((fun a h7 h10 => he29 a h7) a h7 h10).trans (ho22 a h7 h10)
        refine ra_ifne rfl rfl (by first | omega | (unfold ra_in at *; omega)) (fun h37 => ?_) (fun h37 => ?_)
        · exact absurd h37 (by decide)
        · refine ra_load rfl rfl rfl rfl ?_
          refine ra_load rfl rfl rfl rfl ?_
          refine ra_iconst rfl ?_
          refine ra_cQP (sp_268 hx0 (by first | omega | (unfold ra_in at *; omega))) rfl (ct_268 rfl lk_8_318 (Or.inl rfl) sh_179 (Nat.le_of_ble_eq_true rfl)) (fun z39 s38 hz39 hz39p hs38 => ?_)
          rw [wq_k hk31] at hz39p
          obtain ⟨hf40, he41⟩ := hs38
          have hF42 := Fr_tr (lo := 179) (hi := 191) hF30 hf40 (by omega)
          have hk43 : s38 (180) = σ (180) := (hf40 (180) (by omega)).trans hk31
          have hk44 : s38 (183) = σ (183) := (hf40 (183) (by omega)).trans hk32
          have hk45 : s38 (184) = σ (184) := (hf40 (184) (by omega)).trans hk33
          have hk46 : s38 (187) = σ (187) := (hf40 (187) (by omega)).trans hk34
          have hg47 : ∀ a, a ≠ 5 → a ≠ 7 → a ≠ 10 → ra_g s38 179 a = ra_g σ 179 a := fun a h5 h7 h10 => ((fun a h7 h10 => he41 a h7) a h7 h10).trans (hg35 a h5 h7 h10)
          have ho48 : ∀ a, a ≠ 7 → a ≠ 10 → ra_g s38 179 a = ra_g σ 179 a := fun a h7 h10 => ((fun a h7 h10 => he41 a h7) a h7 h10).trans (ho36 a h7 h10)
          refine ra_ifeq rfl rfl (ra_in01 hz39) (fun h49 => ?_) (fun h49 => ?_)
          · refine ra_load rfl rfl rfl rfl ?_
            have hp := hz39p (by omega)
            have hst := hz25p.mpr hp
            have hq := WF_p hw hp.1 hp.2.1 hp.2.2
            refine ra_cV (sp_197 (WF_k hk43 hw) (PW_k hpw (ho48 5 (by decide) (by decide)) hk45)) rfl (ct_197 rfl lk_8_366 (Or.inl rfl) sh_179 (Nat.le_of_ble_eq_true rfl)) (fun s50 hs50 => ?_)
            obtain ⟨hf51, hc52, hc53, hc54, hc55, he56, he57⟩ := hs50
            have hF58 := Fr_tr (lo := 179) (hi := 191) hF42 hf51 (by omega)
            have hk59 : s50 (180) = σ (180) := hc52.trans hk43
            have hk60 : s50 (183) = σ (183) := hc55.trans hk44
            have hk61 : s50 (187) = σ (187) := (hf51 (187) (by omega)).trans hk46
            have hg62 : ∀ a, a ≠ 5 → a ≠ 7 → a ≠ 10 → ra_g s50 179 a = ra_g σ 179 a := fun a h5 h7 h10 => ((fun a h5 h7 h10 => he56 a h5) a h5 h7 h10).trans (hg47 a h5 h7 h10)
            refine ra_load rfl rfl rfl rfl ?_
            refine ra_load rfl rfl rfl rfl ?_
            refine ra_iconst rfl ?_
            refine ra_cTp (sp_200 hx0 (by first | omega | (unfold ra_in at *; omega)) (by first | assumption | rfl | omega)) rfl (ct_200 rfl lk_8_67 (Or.inl rfl) sh_179 (Nat.le_of_ble_eq_true rfl)) ?_
            rw [wq_k hk59]
            have hr64 : ra_in (wq σ x0 (2)) := (ra_in_wq _ _ _)
            refine ra_load rfl rfl rfl rfl ?_
            refine ra_isub rfl ?_
            refine ra_store (L' := [_, _, _, _, _]) rfl rfl rfl (Nat.le_of_ble_eq_true rfl) rfl ?_
            refine ra_load rfl rfl rfl rfl ?_
            refine ra_load rfl rfl rfl rfl ?_
            refine ra_iconst rfl ?_
            refine ra_load rfl rfl rfl rfl ?_
            refine ra_cV (sp_201 hx0 (by first | omega | (unfold ra_in at *; omega)) hx1 (by first | assumption | rfl | omega)) rfl (ct_201 rfl lk_8_78 (Or.inl rfl) sh_179 (Nat.le_of_ble_eq_true rfl)) (fun s65 hs65 => ?_)
            obtain ⟨hf66, he67, he68⟩ := hs65
            have hF69 := Fr_tr (lo := 179) (hi := 191) hF58 hf66 (by omega)
            have hk70 : s65 (183) = σ (183) := (hf66 (183) (by omega)).trans hk60
            have hk71 : s65 (187) = σ (187) := (hf66 (187) (by omega)).trans hk61
            have hg72 : ∀ a, a ≠ 5 → a ≠ 7 → a ≠ 10 → ra_g s65 179 a = ra_g σ 179 a := fun a h5 h7 h10 => (ra_gk (hf66 179 (by omega))).trans (hg62 a h5 h7 h10)
            refine ra_load rfl rfl rfl rfl ?_
            refine ra_load rfl rfl rfl rfl ?_
            refine ra_load rfl rfl rfl rfl ?_
            refine ra_iconst rfl ?_
            refine ra_cTp (sp_200 hx0 (by first | omega | (unfold ra_in at *; omega)) (by first | assumption | rfl | omega)) rfl (ct_200 rfl lk_8_67 (Or.inl rfl) sh_179 (Nat.le_of_ble_eq_true rfl)) ?_
            have hr74 : ra_in (wq s65 x0 (1)) := (ra_in_wq _ _ _)
            refine ra_load rfl rfl rfl rfl ?_
            refine ra_iadd rfl ?_
            refine ra_load rfl rfl rfl rfl ?_
            refine ra_load rfl rfl rfl rfl ?_
            refine ra_load rfl rfl rfl rfl ?_
            refine ra_iconst rfl ?_
            refine ra_cTp (sp_200 hx0 (by first | omega | (unfold ra_in at *; omega)) (by first | assumption | rfl | omega)) rfl (ct_200 rfl lk_8_67 (Or.inl rfl) sh_179 (Nat.le_of_ble_eq_true rfl)) ?_
            have hr76 : ra_in (wq s65 x0 (4)) := (ra_in_wq _ _ _)
            refine ra_iconst rfl ?_
            refine ra_cIPs (sp_210 (by first | omega | (unfold ra_in at *; omega)) (by first | omega | (unfold ra_in at *; omega)) hr76 (by first | omega | (unfold ra_in at *; omega)) (by exfalso; omega) (by omega)) rfl (ct_210 rfl lk_8_250 (Or.inl rfl) sh_179 (Nat.le_of_ble_eq_true rfl)) (fun z78 s77 hz78 hz78p hs77 => ?_)
            have hF79 := Fr_tr (lo := 179) (hi := 191) hF69 hs77 (by omega)
            have hk80 : s77 (183) = σ (183) := (hs77 (183) (by omega)).trans hk70
            have hk81 : s77 (187) = σ (187) := (hs77 (187) (by omega)).trans hk71
            have hg82 : ∀ a, a ≠ 5 → a ≠ 7 → a ≠ 10 → ra_g s77 179 a = ra_g σ 179 a := fun a h5 h7 h10 => (ra_gk (hs77 179 (by omega))).trans (hg72 a h5 h7 h10)
            exact ra_ireturn rfl rfl ⟨⟨_, hz78, rfl⟩, ⟨hF79, hk80, hk81, hg82, (by exfalso; omega), (PW_k (PW_k he57 (ra_gk (hf66 179 (by omega))) (hf66 184 (by omega))) (ra_gk (hs77 179 (by omega))) (hs77 184 (by omega)))⟩⟩
          · refine ra_iconst rfl ?_
            exact ra_ireturn rfl rfl ⟨⟨_, (by first | omega | (unfold ra_in at *; omega)), rfl⟩, ⟨hF42, hk44, hk46, hg47, (WF_k hk43 hw), (PW_k hpw (ho48 5 (by decide) (by decide)) hk45)⟩⟩
      · have hp := hz25p.mp (by omega)
        have hq := WF_p hw hp.1 hp.2.1 hp.2.2
        refine ra_load rfl rfl rfl rfl ?_
        refine ra_load rfl rfl rfl rfl ?_
        refine ra_cQPp (sp_206 hx0 (by first | assumption | rfl | omega)) rfl (ct_206 rfl lk_8_355 (Or.inl rfl) sh_179 (Nat.le_of_ble_eq_true rfl)) (fun z84 hz84 hz84p => ?_)
        refine ra_ifne rfl rfl (ra_in01 hz84) (fun h85 => ?_) (fun h85 => ?_)
        · refine ra_iconst rfl ?_
          refine ra_goto rfl rfl ?_
          refine ra_store (L' := [_, _, _, _, _]) rfl rfl rfl (Nat.le_of_ble_eq_true rfl) rfl ?_
          refine ra_load rfl rfl rfl rfl ?_
          refine ra_load rfl rfl rfl rfl ?_
          refine ra_iconst rfl ?_
          refine ra_cT (sp_194 (Or.inr rfl) (by first | omega | (unfold ra_in at *; omega))) rfl (ct_194 rfl lk_8_303 (Or.inl rfl) sh_179 (Nat.le_of_ble_eq_true rfl)) (fun s86 hs86 => ?_)
          obtain ⟨hf87, he88⟩ := hs86
          have hF89 := Fr_tr (lo := 179) (hi := 191) hF16 hf87 (by omega)
          have hk90 : s86 (180) = σ (180) := (hf87 (180) (by omega)).trans hk17
          have hk91 : s86 (183) = σ (183) := (hf87 (183) (by omega)).trans hk18
          have hk92 : s86 (184) = σ (184) := (hf87 (184) (by omega)).trans hk19
          have hk93 : s86 (187) = σ (187) := (hf87 (187) (by omega)).trans hk20
          have hg94 : ∀ a, a ≠ 5 → a ≠ 7 → a ≠ 10 → ra_g s86 179 a = ra_g σ 179 a := fun a h5 h7 h10 => ((fun a h7 h10 => he88 a h7) a h7 h10).trans (hg21 a h5 h7 h10)
          have ho95 : ∀ a, a ≠ 7 → a ≠ 10 → ra_g s86 179 a = ra_g σ 179 a := fun a h7 h10 => ((fun a h7 h10 => he88 a h7) a h7 h10).trans (ho22 a h7 h10)
          refine ra_ifne rfl rfl (by first | omega | (unfold ra_in at *; omega)) (fun h96 => ?_) (fun h96 => ?_)
          · refine ra_iconst rfl ?_
            exact ra_ireturn rfl rfl ⟨⟨_, (by first | omega | (unfold ra_in at *; omega)), rfl⟩, ⟨hF89, hk91, hk93, hg94, (WF_k hk90 hw), (PW_k hpw (ho95 5 (by decide) (by decide)) hk92)⟩⟩
          · exact absurd h96 (by decide)
        · refine ra_load rfl rfl rfl rfl ?_
          refine ra_load rfl rfl rfl rfl ?_
          refine ra_iconst rfl ?_
          refine ra_cTp (sp_200 hx0 (by first | omega | (unfold ra_in at *; omega)) (by first | assumption | rfl | omega)) rfl (ct_200 rfl lk_8_67 (Or.inl rfl) sh_179 (Nat.le_of_ble_eq_true rfl)) ?_
          rw [wq_k hk17]
          have hr98 : ra_in (wq σ x0 (1)) := (ra_in_wq _ _ _)
          refine ra_load rfl rfl rfl rfl ?_
          refine ra_iadd rfl ?_
          refine ra_load rfl rfl rfl rfl ?_
          refine ra_getR rfl lk_8_7 (Nat.zero_le _) sh_179 rfl ?_
          refine ra_iconst rfl ?_
          refine ra_ialoadJ (j := 3) rfl sh_180 rfl (by decide) rfl (by decide) ?_
          rw [ra_gk hk17]
          have hr99 : ra_in (ra_g σ (180) 3) := (ra_in_g _ _ _)
          refine ra_irem rfl (by first | omega | (unfold ra_in at *; omega)) hr99 (by omega) ?_
          refine ra_ifne rfl rfl (ra_in_tmod (by first | omega | (unfold ra_in at *; omega)) (by omega)) (fun h100 => ?_) (fun h100 => ?_)
          · refine ra_iconst rfl ?_
            refine ra_goto rfl rfl ?_
            refine ra_store (L' := [_, _, _, _, _]) rfl rfl rfl (Nat.le_of_ble_eq_true rfl) rfl ?_
            refine ra_load rfl rfl rfl rfl ?_
            refine ra_load rfl rfl rfl rfl ?_
            refine ra_iconst rfl ?_
            refine ra_cT (sp_194 (Or.inr rfl) (by first | omega | (unfold ra_in at *; omega))) rfl (ct_194 rfl lk_8_303 (Or.inl rfl) sh_179 (Nat.le_of_ble_eq_true rfl)) (fun s101 hs101 => ?_)
            obtain ⟨hf102, he103⟩ := hs101
            have hF104 := Fr_tr (lo := 179) (hi := 191) hF16 hf102 (by omega)
            have hk105 : s101 (180) = σ (180) := (hf102 (180) (by omega)).trans hk17
            have hk106 : s101 (183) = σ (183) := (hf102 (183) (by omega)).trans hk18
            have hk107 : s101 (184) = σ (184) := (hf102 (184) (by omega)).trans hk19
            have hk108 : s101 (187) = σ (187) := (hf102 (187) (by omega)).trans hk20
            have hg109 : ∀ a, a ≠ 5 → a ≠ 7 → a ≠ 10 → ra_g s101 179 a = ra_g σ 179 a := fun a h5 h7 h10 => ((fun a h7 h10 => he103 a h7) a h7 h10).trans (hg21 a h5 h7 h10)
            have ho110 : ∀ a, a ≠ 7 → a ≠ 10 → ra_g s101 179 a = ra_g σ 179 a := fun a h7 h10 => ((fun a h7 h10 => he103 a h7) a h7 h10).trans (ho22 a h7 h10)
            refine ra_ifne rfl rfl (by first | omega | (unfold ra_in at *; omega)) (fun h111 => ?_) (fun h111 => ?_)
            · refine ra_iconst rfl ?_
              exact ra_ireturn rfl rfl ⟨⟨_, (by first | omega | (unfold ra_in at *; omega)), rfl⟩, ⟨hF104, hk106, hk108, hg109, (WF_k hk105 hw), (PW_k hpw (ho110 5 (by decide) (by decide)) hk107)⟩⟩
            · exact absurd h111 (by decide)
          · refine ra_load rfl rfl rfl rfl ?_
            refine ra_cIPp (sp_203 (WF_k hk17 hw)) rfl (ct_203 rfl lk_8_298 (Or.inl rfl) sh_179 (Nat.le_of_ble_eq_true rfl)) (fun z113 hz113 hz113p => ?_)
            refine ra_bipush rfl (by decide) ?_
            refine ra_icne rfl rfl hz113 (by first | omega | (unfold ra_in at *; omega)) (fun h114 => ?_) (fun h114 => ?_)
            · refine ra_iconst rfl ?_
              refine ra_store (L' := [_, _, _, _, _]) rfl rfl rfl (Nat.le_of_ble_eq_true rfl) rfl ?_
              refine ra_load rfl rfl rfl rfl ?_
              refine ra_load rfl rfl rfl rfl ?_
              refine ra_iconst rfl ?_
              refine ra_cT (sp_194 (Or.inl rfl) (by first | omega | (unfold ra_in at *; omega))) rfl (ct_194 rfl lk_8_303 (Or.inl rfl) sh_179 (Nat.le_of_ble_eq_true rfl)) (fun s115 hs115 => ?_)
              obtain ⟨hf116, he117⟩ := hs115
              have hF118 := Fr_tr (lo := 179) (hi := 191) hF16 hf116 (by omega)
              have hk119 : s115 (180) = σ (180) := (hf116 (180) (by omega)).trans hk17
              have hk120 : s115 (183) = σ (183) := (hf116 (183) (by omega)).trans hk18
              have hk121 : s115 (184) = σ (184) := (hf116 (184) (by omega)).trans hk19
              have hk122 : s115 (187) = σ (187) := (hf116 (187) (by omega)).trans hk20
              have hg123 : ∀ a, a ≠ 5 → a ≠ 7 → a ≠ 10 → ra_g s115 179 a = ra_g σ 179 a := fun a h5 h7 h10 => ((fun a h7 h10 => he117 a h7) a h7 h10).trans (hg21 a h5 h7 h10)
              have ho124 : ∀ a, a ≠ 7 → a ≠ 10 → ra_g s115 179 a = ra_g σ 179 a := fun a h7 h10 => ((fun a h7 h10 => he117 a h7) a h7 h10).trans (ho22 a h7 h10)
              refine ra_ifne rfl rfl (by first | omega | (unfold ra_in at *; omega)) (fun h125 => ?_) (fun h125 => ?_)
              · exact absurd h125 (by decide)
              · refine ra_load rfl rfl rfl rfl ?_
                refine ra_load rfl rfl rfl rfl ?_
                refine ra_iconst rfl ?_
                refine ra_cQP (sp_268 hx0 (by first | omega | (unfold ra_in at *; omega))) rfl (ct_268 rfl lk_8_318 (Or.inl rfl) sh_179 (Nat.le_of_ble_eq_true rfl)) (fun z127 s126 hz127 hz127p hs126 => ?_)
                rw [wq_k hk119] at hz127p
                obtain ⟨hf128, he129⟩ := hs126
                have hF130 := Fr_tr (lo := 179) (hi := 191) hF118 hf128 (by omega)
                have hk131 : s126 (180) = σ (180) := (hf128 (180) (by omega)).trans hk119
                have hk132 : s126 (183) = σ (183) := (hf128 (183) (by omega)).trans hk120
                have hk133 : s126 (184) = σ (184) := (hf128 (184) (by omega)).trans hk121
                have hk134 : s126 (187) = σ (187) := (hf128 (187) (by omega)).trans hk122
                have hg135 : ∀ a, a ≠ 5 → a ≠ 7 → a ≠ 10 → ra_g s126 179 a = ra_g σ 179 a := fun a h5 h7 h10 => ((fun a h7 h10 => he129 a h7) a h7 h10).trans (hg123 a h5 h7 h10)
                have ho136 : ∀ a, a ≠ 7 → a ≠ 10 → ra_g s126 179 a = ra_g σ 179 a := fun a h7 h10 => ((fun a h7 h10 => he129 a h7) a h7 h10).trans (ho124 a h7 h10)
                refine ra_ifeq rfl rfl (ra_in01 hz127) (fun h137 => ?_) (fun h137 => ?_)
                · refine ra_load rfl rfl rfl rfl ?_
                  have hx := exn_k hk17 (hz113p.2.2 (by omega))
                  clear hz113p
                  have hp := hz127p (by omega)
                  have hst := hz25p.mpr hp
                  have hfx := hz84p (by omega)
                  rw [wq_k hk17, ra_gk hk17] at hfx
                  have hq := WF_p hw hp.1 hp.2.1 hp.2.2
                  refine ra_cV (sp_197 (WF_k hk131 hw) (PW_k hpw (ho136 5 (by decide) (by decide)) hk133)) rfl (ct_197 rfl lk_8_366 (Or.inl rfl) sh_179 (Nat.le_of_ble_eq_true rfl)) (fun s138 hs138 => ?_)
                  obtain ⟨hf139, hc140, hc141, hc142, hc143, he144, he145⟩ := hs138
                  have hF146 := Fr_tr (lo := 179) (hi := 191) hF130 hf139 (by omega)
                  have hk147 : s138 (180) = σ (180) := hc140.trans hk131
                  have hk148 : s138 (183) = σ (183) := hc143.trans hk132
                  have hk149 : s138 (187) = σ (187) := (hf139 (187) (by omega)).trans hk134
                  have hg150 : ∀ a, a ≠ 5 → a ≠ 7 → a ≠ 10 → ra_g s138 179 a = ra_g σ 179 a := fun a h5 h7 h10 => ((fun a h5 h7 h10 => he144 a h5) a h5 h7 h10).trans (hg135 a h5 h7 h10)
                  refine ra_load rfl rfl rfl rfl ?_
                  refine ra_load rfl rfl rfl rfl ?_
                  refine ra_iconst rfl ?_
                  refine ra_cTp (sp_200 hx0 (by first | omega | (unfold ra_in at *; omega)) (by first | assumption | rfl | omega)) rfl (ct_200 rfl lk_8_67 (Or.inl rfl) sh_179 (Nat.le_of_ble_eq_true rfl)) ?_
                  rw [wq_k hk147]
                  have hr152 : ra_in (wq σ x0 (2)) := (ra_in_wq _ _ _)
                  refine ra_load rfl rfl rfl rfl ?_
                  refine ra_isub rfl ?_
                  refine ra_store (L' := [_, _, _, _, _]) rfl rfl rfl (Nat.le_of_ble_eq_true rfl) rfl ?_
                  refine ra_load rfl rfl rfl rfl ?_
                  refine ra_load rfl rfl rfl rfl ?_
                  refine ra_iconst rfl ?_
                  refine ra_load rfl rfl rfl rfl ?_
                  refine ra_cV (sp_201 hx0 (by first | omega | (unfold ra_in at *; omega)) hx1 (by first | assumption | rfl | omega)) rfl (ct_201 rfl lk_8_78 (Or.inl rfl) sh_179 (Nat.le_of_ble_eq_true rfl)) (fun s153 hs153 => ?_)
                  obtain ⟨hf154, he155, he156⟩ := hs153
                  have hF157 := Fr_tr (lo := 179) (hi := 191) hF146 hf154 (by omega)
                  have hk158 : s153 (183) = σ (183) := (hf154 (183) (by omega)).trans hk148
                  have hk159 : s153 (187) = σ (187) := (hf154 (187) (by omega)).trans hk149
                  have hg160 : ∀ a, a ≠ 5 → a ≠ 7 → a ≠ 10 → ra_g s153 179 a = ra_g σ 179 a := fun a h5 h7 h10 => (ra_gk (hf154 179 (by omega))).trans (hg150 a h5 h7 h10)
                  have hb := spl_b (p := x0) ⟨by omega, by omega⟩ he156
                  have hb2 : wq s153 x0 1 = wq σ x0 1 := hb.trans (wq_k hk147)
                  refine ra_load rfl rfl rfl rfl ?_
                  refine ra_load rfl rfl rfl rfl ?_
                  refine ra_load rfl rfl rfl rfl ?_
                  refine ra_iconst rfl ?_
                  refine ra_cTp (sp_200 hx0 (by first | omega | (unfold ra_in at *; omega)) (by first | assumption | rfl | omega)) rfl (ct_200 rfl lk_8_67 (Or.inl rfl) sh_179 (Nat.le_of_ble_eq_true rfl)) ?_
                  have hr162 : ra_in (wq s153 x0 (1)) := (ra_in_wq _ _ _)
                  refine ra_load rfl rfl rfl rfl ?_
                  refine ra_iadd rfl ?_
                  refine ra_load rfl rfl rfl rfl ?_
                  refine ra_load rfl rfl rfl rfl ?_
                  refine ra_load rfl rfl rfl rfl ?_
                  refine ra_iconst rfl ?_
                  refine ra_cTp (sp_200 hx0 (by first | omega | (unfold ra_in at *; omega)) (by first | assumption | rfl | omega)) rfl (ct_200 rfl lk_8_67 (Or.inl rfl) sh_179 (Nat.le_of_ble_eq_true rfl)) ?_
                  have hr164 : ra_in (wq s153 x0 (4)) := (ra_in_wq _ _ _)
                  refine ra_iconst rfl ?_
                  refine ra_cIPs (sp_210 (by first | omega | (unfold ra_in at *; omega)) (by first | omega | (unfold ra_in at *; omega)) hr164 (by first | omega | (unfold ra_in at *; omega)) (spl_x ⟨by omega, by omega⟩ he156 (exm_k hk147 hx)) (by omega)) rfl (ct_210 rfl lk_8_250 (Or.inl rfl) sh_179 (Nat.le_of_ble_eq_true rfl)) (fun z166 s165 hz166 hz166p hs165 => ?_)
                  have hF167 := Fr_tr (lo := 179) (hi := 191) hF157 hs165 (by omega)
                  have hk168 : s165 (183) = σ (183) := (hs165 (183) (by omega)).trans hk158
                  have hk169 : s165 (187) = σ (187) := (hs165 (187) (by omega)).trans hk159
                  have hg170 : ∀ a, a ≠ 5 → a ≠ 7 → a ≠ 10 → ra_g s165 179 a = ra_g σ 179 a := fun a h5 h7 h10 => (ra_gk (hs165 179 (by omega))).trans (hg160 a h5 h7 h10)
                  exact ra_ireturn rfl rfl ⟨⟨_, hz166, rfl⟩, ⟨hF167, hk168, hk169, hg170, (spl_n (WF_k hk147 hw) ⟨hp.1, hp.2.1, (wq_k hk147).trans hp.2.2⟩ (by rw [ra_gk hk147]; exact hfx.2) (by simp only [wq_k hk147]; omega) he155 he156 hz166p rfl (by simp only [wq_k hk147])), (PW_k (PW_k he145 (ra_gk (hf154 179 (by omega))) (hf154 184 (by omega))) (ra_gk (hs165 179 (by omega))) (hs165 184 (by omega)))⟩⟩
                · refine ra_iconst rfl ?_
                  exact ra_ireturn rfl rfl ⟨⟨_, (by first | omega | (unfold ra_in at *; omega)), rfl⟩, ⟨hF130, hk132, hk134, hg135, (WF_k hk131 hw), (PW_k hpw (ho136 5 (by decide) (by decide)) hk133)⟩⟩
            · refine ra_iconst rfl ?_
              refine ra_goto rfl rfl ?_
              refine ra_store (L' := [_, _, _, _, _]) rfl rfl rfl (Nat.le_of_ble_eq_true rfl) rfl ?_
              refine ra_load rfl rfl rfl rfl ?_
              refine ra_load rfl rfl rfl rfl ?_
              refine ra_iconst rfl ?_
              refine ra_cT (sp_194 (Or.inr rfl) (by first | omega | (unfold ra_in at *; omega))) rfl (ct_194 rfl lk_8_303 (Or.inl rfl) sh_179 (Nat.le_of_ble_eq_true rfl)) (fun s171 hs171 => ?_)
              obtain ⟨hf172, he173⟩ := hs171
              have hF174 := Fr_tr (lo := 179) (hi := 191) hF16 hf172 (by omega)
              have hk175 : s171 (180) = σ (180) := (hf172 (180) (by omega)).trans hk17
              have hk176 : s171 (183) = σ (183) := (hf172 (183) (by omega)).trans hk18
              have hk177 : s171 (184) = σ (184) := (hf172 (184) (by omega)).trans hk19
              have hk178 : s171 (187) = σ (187) := (hf172 (187) (by omega)).trans hk20
              have hg179 : ∀ a, a ≠ 5 → a ≠ 7 → a ≠ 10 → ra_g s171 179 a = ra_g σ 179 a := fun a h5 h7 h10 => ((fun a h7 h10 => he173 a h7) a h7 h10).trans (hg21 a h5 h7 h10)
              have ho180 : ∀ a, a ≠ 7 → a ≠ 10 → ra_g s171 179 a = ra_g σ 179 a := fun a h7 h10 => ((fun a h7 h10 => he173 a h7) a h7 h10).trans (ho22 a h7 h10)
              refine ra_ifne rfl rfl (by first | omega | (unfold ra_in at *; omega)) (fun h181 => ?_) (fun h181 => ?_)
              · refine ra_iconst rfl ?_
                exact ra_ireturn rfl rfl ⟨⟨_, (by first | omega | (unfold ra_in at *; omega)), rfl⟩, ⟨hF174, hk176, hk178, hg179, (WF_k hk175 hw), (PW_k hpw (ho180 5 (by decide) (by decide)) hk177)⟩⟩
              · exact absurd h181 (by decide)
    · exact absurd h23 (by decide)
  · have hp := hz11p.mp (by omega)
    have hq := WF_p hw hp.1 hp.2.1 hp.2.2
    refine ra_load rfl rfl rfl rfl ?_
    refine ra_i2l rfl hx1 ?_
    refine ra_load rfl rfl rfl rfl ?_
    refine ra_load rfl rfl rfl rfl ?_
    refine ra_iconst rfl ?_
    refine ra_cTp (sp_200 hx0 (by first | omega | (unfold ra_in at *; omega)) (by first | assumption | rfl | omega)) rfl (ct_200 rfl lk_8_67 (Or.inl rfl) sh_179 (Nat.le_of_ble_eq_true rfl)) ?_
    rw [wq_k hk4]
    have hr183 : ra_in (wq σ x0 (3)) := (ra_in_wq _ _ _)
    refine ra_i2l rfl hr183 ?_
    refine ra_load rfl rfl rfl rfl ?_
    refine ra_load rfl rfl rfl rfl ?_
    refine ra_iconst rfl ?_
    refine ra_cTp (sp_200 hx0 (by first | omega | (unfold ra_in at *; omega)) (by first | assumption | rfl | omega)) rfl (ct_200 rfl lk_8_67 (Or.inl rfl) sh_179 (Nat.le_of_ble_eq_true rfl)) ?_
    rw [wq_k hk4]
    have hr185 : ra_in (wq σ x0 (2)) := (ra_in_wq _ _ _)
    refine ra_iconst rfl ?_
    refine ra_isub rfl ?_
    refine ra_i2l rfl (by first | omega | (unfold ra_in at *; omega)) ?_
    refine ra_cTp (sp_193 hx1 hr183 (by first | omega | (unfold ra_in at *; omega))) rfl (ct_193 rfl lk_8_63 (Or.inl rfl) (Nat.le_of_ble_eq_true rfl)) ?_
    refine ra_ifneB rfl rfl (fun h187 => ?_) (fun h187 => ?_)
    · refine ra_iconst rfl ?_
      refine ra_iconst rfl ?_
      refine ra_cT (sp_194 (Or.inl rfl) (by first | omega | (unfold ra_in at *; omega))) rfl (ct_194 rfl lk_8_303 (Or.inl rfl) sh_179 (Nat.le_of_ble_eq_true rfl)) (fun s188 hs188 => ?_)
      obtain ⟨hf189, he190⟩ := hs188
      have hF191 := Fr_tr (lo := 179) (hi := 191) hF3 hf189 (by omega)
      have hk192 : s188 (180) = σ (180) := (hf189 (180) (by omega)).trans hk4
      have hk193 : s188 (183) = σ (183) := (hf189 (183) (by omega)).trans hk5
      have hk194 : s188 (184) = σ (184) := (hf189 (184) (by omega)).trans hk6
      have hk195 : s188 (187) = σ (187) := (hf189 (187) (by omega)).trans hk7
      have hg196 : ∀ a, a ≠ 5 → a ≠ 7 → a ≠ 10 → ra_g s188 179 a = ra_g σ 179 a := fun a h5 h7 h10 => ((fun a h7 h10 => he190 a h7) a h7 h10).trans (hg8 a h5 h7 h10)
      have ho197 : ∀ a, a ≠ 7 → a ≠ 10 → ra_g s188 179 a = ra_g σ 179 a := fun a h7 h10 => ((fun a h7 h10 => he190 a h7) a h7 h10).trans (ho9 a h7 h10)
      refine ra_ifeq rfl rfl (by first | omega | (unfold ra_in at *; omega)) (fun h198 => ?_) (fun h198 => ?_)
      · refine ra_load rfl rfl rfl rfl ?_
        refine ra_load rfl rfl rfl rfl ?_
        refine ra_cQPp (sp_202 hx0) rfl (ct_202 rfl lk_8_313 (Or.inl rfl) sh_179 (Nat.le_of_ble_eq_true rfl)) (fun z200 hz200 hz200p => ?_)
        rw [wq_k hk192] at hz200p
        refine ra_ifeq rfl rfl (ra_in01 hz200) (fun h201 => ?_) (fun h201 => ?_)
        · refine ra_iconst rfl ?_
          refine ra_store (L' := [_, _, _, _, _]) rfl rfl rfl (Nat.le_of_ble_eq_true rfl) rfl ?_
          refine ra_load rfl rfl rfl rfl ?_
          refine ra_load rfl rfl rfl rfl ?_
          refine ra_iconst rfl ?_
          refine ra_cT (sp_194 (Or.inl rfl) (by first | omega | (unfold ra_in at *; omega))) rfl (ct_194 rfl lk_8_303 (Or.inl rfl) sh_179 (Nat.le_of_ble_eq_true rfl)) (fun s202 hs202 => ?_)
          obtain ⟨hf203, he204⟩ := hs202
          have hF205 := Fr_tr (lo := 179) (hi := 191) hF191 hf203 (by omega)
          have hk206 : s202 (180) = σ (180) := (hf203 (180) (by omega)).trans hk192
          have hk207 : s202 (183) = σ (183) := (hf203 (183) (by omega)).trans hk193
          have hk208 : s202 (184) = σ (184) := (hf203 (184) (by omega)).trans hk194
          have hk209 : s202 (187) = σ (187) := (hf203 (187) (by omega)).trans hk195
          have hg210 : ∀ a, a ≠ 5 → a ≠ 7 → a ≠ 10 → ra_g s202 179 a = ra_g σ 179 a := fun a h5 h7 h10 => ((fun a h7 h10 => he204 a h7) a h7 h10).trans (hg196 a h5 h7 h10)
          have ho211 : ∀ a, a ≠ 7 → a ≠ 10 → ra_g s202 179 a = ra_g σ 179 a := fun a h7 h10 => ((fun a h7 h10 => he204 a h7) a h7 h10).trans (ho197 a h7 h10)
          refine ra_ifne rfl rfl (by first | omega | (unfold ra_in at *; omega)) (fun h212 => ?_) (fun h212 => ?_)
          · exact absurd h212 (by decide)
          · refine ra_load rfl rfl rfl rfl ?_
            refine ra_load rfl rfl rfl rfl ?_
            refine ra_iconst rfl ?_
            refine ra_cQP (sp_268 hx0 (by first | omega | (unfold ra_in at *; omega))) rfl (ct_268 rfl lk_8_318 (Or.inl rfl) sh_179 (Nat.le_of_ble_eq_true rfl)) (fun z214 s213 hz214 hz214p hs213 => ?_)
            rw [wq_k hk206] at hz214p
            obtain ⟨hf215, he216⟩ := hs213
            have hF217 := Fr_tr (lo := 179) (hi := 191) hF205 hf215 (by omega)
            have hk218 : s213 (180) = σ (180) := (hf215 (180) (by omega)).trans hk206
            have hk219 : s213 (183) = σ (183) := (hf215 (183) (by omega)).trans hk207
            have hk220 : s213 (184) = σ (184) := (hf215 (184) (by omega)).trans hk208
            have hk221 : s213 (187) = σ (187) := (hf215 (187) (by omega)).trans hk209
            have hg222 : ∀ a, a ≠ 5 → a ≠ 7 → a ≠ 10 → ra_g s213 179 a = ra_g σ 179 a := fun a h5 h7 h10 => ((fun a h7 h10 => he216 a h7) a h7 h10).trans (hg210 a h5 h7 h10)
            have ho223 : ∀ a, a ≠ 7 → a ≠ 10 → ra_g s213 179 a = ra_g σ 179 a := fun a h7 h10 => ((fun a h7 h10 => he216 a h7) a h7 h10).trans (ho211 a h7 h10)
            refine ra_ifeq rfl rfl (ra_in01 hz214) (fun h224 => ?_) (fun h224 => ?_)
            · refine ra_load rfl rfl rfl rfl ?_
              have hp := hz214p (by omega)
              have hst := hz200p.mpr hp
              have hq := WF_p hw hp.1 hp.2.1 hp.2.2
              refine ra_cV (sp_197 (WF_k hk218 hw) (PW_k hpw (ho223 5 (by decide) (by decide)) hk220)) rfl (ct_197 rfl lk_8_366 (Or.inl rfl) sh_179 (Nat.le_of_ble_eq_true rfl)) (fun s225 hs225 => ?_)
              obtain ⟨hf226, hc227, hc228, hc229, hc230, he231, he232⟩ := hs225
              have hF233 := Fr_tr (lo := 179) (hi := 191) hF217 hf226 (by omega)
              have hk234 : s225 (180) = σ (180) := hc227.trans hk218
              have hk235 : s225 (183) = σ (183) := hc230.trans hk219
              have hk236 : s225 (187) = σ (187) := (hf226 (187) (by omega)).trans hk221
              have hg237 : ∀ a, a ≠ 5 → a ≠ 7 → a ≠ 10 → ra_g s225 179 a = ra_g σ 179 a := fun a h5 h7 h10 => ((fun a h5 h7 h10 => he231 a h5) a h5 h7 h10).trans (hg222 a h5 h7 h10)
              refine ra_load rfl rfl rfl rfl ?_
              refine ra_load rfl rfl rfl rfl ?_
              refine ra_iconst rfl ?_
              refine ra_cTp (sp_200 hx0 (by first | omega | (unfold ra_in at *; omega)) (by first | assumption | rfl | omega)) rfl (ct_200 rfl lk_8_67 (Or.inl rfl) sh_179 (Nat.le_of_ble_eq_true rfl)) ?_
              rw [wq_k hk234]
              have hr239 : ra_in (wq σ x0 (2)) := (ra_in_wq _ _ _)
              refine ra_load rfl rfl rfl rfl ?_
              refine ra_isub rfl ?_
              refine ra_store (L' := [_, _, _, _, _]) rfl rfl rfl (Nat.le_of_ble_eq_true rfl) rfl ?_
              refine ra_load rfl rfl rfl rfl ?_
              refine ra_load rfl rfl rfl rfl ?_
              refine ra_iconst rfl ?_
              refine ra_load rfl rfl rfl rfl ?_
              refine ra_cV (sp_201 hx0 (by first | omega | (unfold ra_in at *; omega)) hx1 (by first | assumption | rfl | omega)) rfl (ct_201 rfl lk_8_78 (Or.inl rfl) sh_179 (Nat.le_of_ble_eq_true rfl)) (fun s240 hs240 => ?_)
              obtain ⟨hf241, he242, he243⟩ := hs240
              have hF244 := Fr_tr (lo := 179) (hi := 191) hF233 hf241 (by omega)
              have hk245 : s240 (183) = σ (183) := (hf241 (183) (by omega)).trans hk235
              have hk246 : s240 (187) = σ (187) := (hf241 (187) (by omega)).trans hk236
              have hg247 : ∀ a, a ≠ 5 → a ≠ 7 → a ≠ 10 → ra_g s240 179 a = ra_g σ 179 a := fun a h5 h7 h10 => (ra_gk (hf241 179 (by omega))).trans (hg237 a h5 h7 h10)
              refine ra_load rfl rfl rfl rfl ?_
              refine ra_load rfl rfl rfl rfl ?_
              refine ra_load rfl rfl rfl rfl ?_
              refine ra_iconst rfl ?_
              refine ra_cTp (sp_200 hx0 (by first | omega | (unfold ra_in at *; omega)) (by first | assumption | rfl | omega)) rfl (ct_200 rfl lk_8_67 (Or.inl rfl) sh_179 (Nat.le_of_ble_eq_true rfl)) ?_
              have hr249 : ra_in (wq s240 x0 (1)) := (ra_in_wq _ _ _)
              refine ra_load rfl rfl rfl rfl ?_
              refine ra_iadd rfl ?_
              refine ra_load rfl rfl rfl rfl ?_
              refine ra_load rfl rfl rfl rfl ?_
              refine ra_load rfl rfl rfl rfl ?_
              refine ra_iconst rfl ?_
              refine ra_cTp (sp_200 hx0 (by first | omega | (unfold ra_in at *; omega)) (by first | assumption | rfl | omega)) rfl (ct_200 rfl lk_8_67 (Or.inl rfl) sh_179 (Nat.le_of_ble_eq_true rfl)) ?_
              have hr251 : ra_in (wq s240 x0 (4)) := (ra_in_wq _ _ _)
              refine ra_iconst rfl ?_
              refine ra_cIPs (sp_210 (by first | omega | (unfold ra_in at *; omega)) (by first | omega | (unfold ra_in at *; omega)) hr251 (by first | omega | (unfold ra_in at *; omega)) (by exfalso; omega) (by omega)) rfl (ct_210 rfl lk_8_250 (Or.inl rfl) sh_179 (Nat.le_of_ble_eq_true rfl)) (fun z253 s252 hz253 hz253p hs252 => ?_)
              have hF254 := Fr_tr (lo := 179) (hi := 191) hF244 hs252 (by omega)
              have hk255 : s252 (183) = σ (183) := (hs252 (183) (by omega)).trans hk245
              have hk256 : s252 (187) = σ (187) := (hs252 (187) (by omega)).trans hk246
              have hg257 : ∀ a, a ≠ 5 → a ≠ 7 → a ≠ 10 → ra_g s252 179 a = ra_g σ 179 a := fun a h5 h7 h10 => (ra_gk (hs252 179 (by omega))).trans (hg247 a h5 h7 h10)
              exact ra_ireturn rfl rfl ⟨⟨_, hz253, rfl⟩, ⟨hF254, hk255, hk256, hg257, (by exfalso; omega), (PW_k (PW_k he232 (ra_gk (hf241 179 (by omega))) (hf241 184 (by omega))) (ra_gk (hs252 179 (by omega))) (hs252 184 (by omega)))⟩⟩
            · refine ra_iconst rfl ?_
              exact ra_ireturn rfl rfl ⟨⟨_, (by first | omega | (unfold ra_in at *; omega)), rfl⟩, ⟨hF217, hk219, hk221, hg222, (WF_k hk218 hw), (PW_k hpw (ho223 5 (by decide) (by decide)) hk220)⟩⟩
        · have hp := hz200p.mp (by omega)
          have hq := WF_p hw hp.1 hp.2.1 hp.2.2
          refine ra_load rfl rfl rfl rfl ?_
          refine ra_load rfl rfl rfl rfl ?_
          refine ra_cQPp (sp_206 hx0 (by first | assumption | rfl | omega)) rfl (ct_206 rfl lk_8_355 (Or.inl rfl) sh_179 (Nat.le_of_ble_eq_true rfl)) (fun z259 hz259 hz259p => ?_)
          refine ra_ifne rfl rfl (ra_in01 hz259) (fun h260 => ?_) (fun h260 => ?_)
          · refine ra_iconst rfl ?_
            refine ra_goto rfl rfl ?_
            refine ra_store (L' := [_, _, _, _, _]) rfl rfl rfl (Nat.le_of_ble_eq_true rfl) rfl ?_
            refine ra_load rfl rfl rfl rfl ?_
            refine ra_load rfl rfl rfl rfl ?_
            refine ra_iconst rfl ?_
            refine ra_cT (sp_194 (Or.inr rfl) (by first | omega | (unfold ra_in at *; omega))) rfl (ct_194 rfl lk_8_303 (Or.inl rfl) sh_179 (Nat.le_of_ble_eq_true rfl)) (fun s261 hs261 => ?_)
            obtain ⟨hf262, he263⟩ := hs261
            have hF264 := Fr_tr (lo := 179) (hi := 191) hF191 hf262 (by omega)
            have hk265 : s261 (180) = σ (180) := (hf262 (180) (by omega)).trans hk192
            have hk266 : s261 (183) = σ (183) := (hf262 (183) (by omega)).trans hk193
            have hk267 : s261 (184) = σ (184) := (hf262 (184) (by omega)).trans hk194
            have hk268 : s261 (187) = σ (187) := (hf262 (187) (by omega)).trans hk195
            have hg269 : ∀ a, a ≠ 5 → a ≠ 7 → a ≠ 10 → ra_g s261 179 a = ra_g σ 179 a := fun a h5 h7 h10 => ((fun a h7 h10 => he263 a h7) a h7 h10).trans (hg196 a h5 h7 h10)
            have ho270 : ∀ a, a ≠ 7 → a ≠ 10 → ra_g s261 179 a = ra_g σ 179 a := fun a h7 h10 => ((fun a h7 h10 => he263 a h7) a h7 h10).trans (ho197 a h7 h10)
            refine ra_ifne rfl rfl (by first | omega | (unfold ra_in at *; omega)) (fun h271 => ?_) (fun h271 => ?_)
            · refine ra_iconst rfl ?_
              exact ra_ireturn rfl rfl ⟨⟨_, (by first | omega | (unfold ra_in at *; omega)), rfl⟩, ⟨hF264, hk266, hk268, hg269, (WF_k hk265 hw), (PW_k hpw (ho270 5 (by decide) (by decide)) hk267)⟩⟩
            · exact absurd h271 (by decide)
          · refine ra_load rfl rfl rfl rfl ?_
            refine ra_load rfl rfl rfl rfl ?_
            refine ra_iconst rfl ?_
            refine ra_cTp (sp_200 hx0 (by first | omega | (unfold ra_in at *; omega)) (by first | assumption | rfl | omega)) rfl (ct_200 rfl lk_8_67 (Or.inl rfl) sh_179 (Nat.le_of_ble_eq_true rfl)) ?_
            rw [wq_k hk192]
            have hr273 : ra_in (wq σ x0 (1)) := (ra_in_wq _ _ _)
            refine ra_load rfl rfl rfl rfl ?_
            refine ra_iadd rfl ?_
            refine ra_load rfl rfl rfl rfl ?_
            refine ra_getR rfl lk_8_7 (Nat.zero_le _) sh_179 rfl ?_
            refine ra_iconst rfl ?_
            refine ra_ialoadJ (j := 3) rfl sh_180 rfl (by decide) rfl (by decide) ?_
            rw [ra_gk hk192]
            have hr274 : ra_in (ra_g σ (180) 3) := (ra_in_g _ _ _)
            refine ra_irem rfl (by first | omega | (unfold ra_in at *; omega)) hr274 (by omega) ?_
            refine ra_ifne rfl rfl (ra_in_tmod (by first | omega | (unfold ra_in at *; omega)) (by omega)) (fun h275 => ?_) (fun h275 => ?_)
            · refine ra_iconst rfl ?_
              refine ra_goto rfl rfl ?_
              refine ra_store (L' := [_, _, _, _, _]) rfl rfl rfl (Nat.le_of_ble_eq_true rfl) rfl ?_
              refine ra_load rfl rfl rfl rfl ?_
              refine ra_load rfl rfl rfl rfl ?_
              refine ra_iconst rfl ?_
              refine ra_cT (sp_194 (Or.inr rfl) (by first | omega | (unfold ra_in at *; omega))) rfl (ct_194 rfl lk_8_303 (Or.inl rfl) sh_179 (Nat.le_of_ble_eq_true rfl)) (fun s276 hs276 => ?_)
              obtain ⟨hf277, he278⟩ := hs276
              have hF279 := Fr_tr (lo := 179) (hi := 191) hF191 hf277 (by omega)
              have hk280 : s276 (180) = σ (180) := (hf277 (180) (by omega)).trans hk192
              have hk281 : s276 (183) = σ (183) := (hf277 (183) (by omega)).trans hk193
              have hk282 : s276 (184) = σ (184) := (hf277 (184) (by omega)).trans hk194
              have hk283 : s276 (187) = σ (187) := (hf277 (187) (by omega)).trans hk195
              have hg284 : ∀ a, a ≠ 5 → a ≠ 7 → a ≠ 10 → ra_g s276 179 a = ra_g σ 179 a := fun a h5 h7 h10 => ((fun a h7 h10 => he278 a h7) a h7 h10).trans (hg196 a h5 h7 h10)
              have ho285 : ∀ a, a ≠ 7 → a ≠ 10 → ra_g s276 179 a = ra_g σ 179 a := fun a h7 h10 => ((fun a h7 h10 => he278 a h7) a h7 h10).trans (ho197 a h7 h10)
              refine ra_ifne rfl rfl (by first | omega | (unfold ra_in at *; omega)) (fun h286 => ?_) (fun h286 => ?_)
              · refine ra_iconst rfl ?_
                exact ra_ireturn rfl rfl ⟨⟨_, (by first | omega | (unfold ra_in at *; omega)), rfl⟩, ⟨hF279, hk281, hk283, hg284, (WF_k hk280 hw), (PW_k hpw (ho285 5 (by decide) (by decide)) hk282)⟩⟩
              · exact absurd h286 (by decide)
            · refine ra_load rfl rfl rfl rfl ?_
              refine ra_cIPp (sp_203 (WF_k hk192 hw)) rfl (ct_203 rfl lk_8_298 (Or.inl rfl) sh_179 (Nat.le_of_ble_eq_true rfl)) (fun z288 hz288 hz288p => ?_)
              refine ra_bipush rfl (by decide) ?_
              refine ra_icne rfl rfl hz288 (by first | omega | (unfold ra_in at *; omega)) (fun h289 => ?_) (fun h289 => ?_)
              · refine ra_iconst rfl ?_
                refine ra_store (L' := [_, _, _, _, _]) rfl rfl rfl (Nat.le_of_ble_eq_true rfl) rfl ?_
                refine ra_load rfl rfl rfl rfl ?_
                refine ra_load rfl rfl rfl rfl ?_
                refine ra_iconst rfl ?_
                refine ra_cT (sp_194 (Or.inl rfl) (by first | omega | (unfold ra_in at *; omega))) rfl (ct_194 rfl lk_8_303 (Or.inl rfl) sh_179 (Nat.le_of_ble_eq_true rfl)) (fun s290 hs290 => ?_)
                obtain ⟨hf291, he292⟩ := hs290
                have hF293 := Fr_tr (lo := 179) (hi := 191) hF191 hf291 (by omega)
                have hk294 : s290 (180) = σ (180) := (hf291 (180) (by omega)).trans hk192
                have hk295 : s290 (183) = σ (183) := (hf291 (183) (by omega)).trans hk193
                have hk296 : s290 (184) = σ (184) := (hf291 (184) (by omega)).trans hk194
                have hk297 : s290 (187) = σ (187) := (hf291 (187) (by omega)).trans hk195
                have hg298 : ∀ a, a ≠ 5 → a ≠ 7 → a ≠ 10 → ra_g s290 179 a = ra_g σ 179 a := fun a h5 h7 h10 => ((fun a h7 h10 => he292 a h7) a h7 h10).trans (hg196 a h5 h7 h10)
                have ho299 : ∀ a, a ≠ 7 → a ≠ 10 → ra_g s290 179 a = ra_g σ 179 a := fun a h7 h10 => ((fun a h7 h10 => he292 a h7) a h7 h10).trans (ho197 a h7 h10)
                refine ra_ifne rfl rfl (by first | omega | (unfold ra_in at *; omega)) (fun h300 => ?_) (fun h300 => ?_)
                · exact absurd h300 (by decide)
                · refine ra_load rfl rfl rfl rfl ?_
                  refine ra_load rfl rfl rfl rfl ?_
                  refine ra_iconst rfl ?_
                  refine ra_cQP (sp_268 hx0 (by first | omega | (unfold ra_in at *; omega))) rfl (ct_268 rfl lk_8_318 (Or.inl rfl) sh_179 (Nat.le_of_ble_eq_true rfl)) (fun z302 s301 hz302 hz302p hs301 => ?_)
                  rw [wq_k hk294] at hz302p
                  obtain ⟨hf303, he304⟩ := hs301
                  have hF305 := Fr_tr (lo := 179) (hi := 191) hF293 hf303 (by omega)
                  have hk306 : s301 (180) = σ (180) := (hf303 (180) (by omega)).trans hk294
                  have hk307 : s301 (183) = σ (183) := (hf303 (183) (by omega)).trans hk295
                  have hk308 : s301 (184) = σ (184) := (hf303 (184) (by omega)).trans hk296
                  have hk309 : s301 (187) = σ (187) := (hf303 (187) (by omega)).trans hk297
                  have hg310 : ∀ a, a ≠ 5 → a ≠ 7 → a ≠ 10 → ra_g s301 179 a = ra_g σ 179 a := fun a h5 h7 h10 => ((fun a h7 h10 => he304 a h7) a h7 h10).trans (hg298 a h5 h7 h10)
                  have ho311 : ∀ a, a ≠ 7 → a ≠ 10 → ra_g s301 179 a = ra_g σ 179 a := fun a h7 h10 => ((fun a h7 h10 => he304 a h7) a h7 h10).trans (ho299 a h7 h10)
                  refine ra_ifeq rfl rfl (ra_in01 hz302) (fun h312 => ?_) (fun h312 => ?_)
                  · refine ra_load rfl rfl rfl rfl ?_
                    have hx := exn_k hk192 (hz288p.2.2 (by omega))
                    clear hz288p
                    have hp := hz302p (by omega)
                    have hst := hz200p.mpr hp
                    have hfx := hz259p (by omega)
                    rw [wq_k hk192, ra_gk hk192] at hfx
                    have hq := WF_p hw hp.1 hp.2.1 hp.2.2
                    refine ra_cV (sp_197 (WF_k hk306 hw) (PW_k hpw (ho311 5 (by decide) (by decide)) hk308)) rfl (ct_197 rfl lk_8_366 (Or.inl rfl) sh_179 (Nat.le_of_ble_eq_true rfl)) (fun s313 hs313 => ?_)
                    obtain ⟨hf314, hc315, hc316, hc317, hc318, he319, he320⟩ := hs313
                    have hF321 := Fr_tr (lo := 179) (hi := 191) hF305 hf314 (by omega)
                    have hk322 : s313 (180) = σ (180) := hc315.trans hk306
                    have hk323 : s313 (183) = σ (183) := hc318.trans hk307
                    have hk324 : s313 (187) = σ (187) := (hf314 (187) (by omega)).trans hk309
                    have hg325 : ∀ a, a ≠ 5 → a ≠ 7 → a ≠ 10 → ra_g s313 179 a = ra_g σ 179 a := fun a h5 h7 h10 => ((fun a h5 h7 h10 => he319 a h5) a h5 h7 h10).trans (hg310 a h5 h7 h10)
                    refine ra_load rfl rfl rfl rfl ?_
                    refine ra_load rfl rfl rfl rfl ?_
                    refine ra_iconst rfl ?_
                    refine ra_cTp (sp_200 hx0 (by first | omega | (unfold ra_in at *; omega)) (by first | assumption | rfl | omega)) rfl (ct_200 rfl lk_8_67 (Or.inl rfl) sh_179 (Nat.le_of_ble_eq_true rfl)) ?_
                    rw [wq_k hk322]
                    have hr327 : ra_in (wq σ x0 (2)) := (ra_in_wq _ _ _)
                    refine ra_load rfl rfl rfl rfl ?_
                    refine ra_isub rfl ?_
                    refine ra_store (L' := [_, _, _, _, _]) rfl rfl rfl (Nat.le_of_ble_eq_true rfl) rfl ?_
                    refine ra_load rfl rfl rfl rfl ?_
                    refine ra_load rfl rfl rfl rfl ?_
                    refine ra_iconst rfl ?_
                    refine ra_load rfl rfl rfl rfl ?_
                    refine ra_cV (sp_201 hx0 (by first | omega | (unfold ra_in at *; omega)) hx1 (by first | assumption | rfl | omega)) rfl (ct_201 rfl lk_8_78 (Or.inl rfl) sh_179 (Nat.le_of_ble_eq_true rfl)) (fun s328 hs328 => ?_)
                    obtain ⟨hf329, he330, he331⟩ := hs328
                    have hF332 := Fr_tr (lo := 179) (hi := 191) hF321 hf329 (by omega)
                    have hk333 : s328 (183) = σ (183) := (hf329 (183) (by omega)).trans hk323
                    have hk334 : s328 (187) = σ (187) := (hf329 (187) (by omega)).trans hk324
                    have hg335 : ∀ a, a ≠ 5 → a ≠ 7 → a ≠ 10 → ra_g s328 179 a = ra_g σ 179 a := fun a h5 h7 h10 => (ra_gk (hf329 179 (by omega))).trans (hg325 a h5 h7 h10)
                    have hb := spl_b (p := x0) ⟨by omega, by omega⟩ he331
                    have hb2 : wq s328 x0 1 = wq σ x0 1 := hb.trans (wq_k hk322)
                    refine ra_load rfl rfl rfl rfl ?_
                    refine ra_load rfl rfl rfl rfl ?_
                    refine ra_load rfl rfl rfl rfl ?_
                    refine ra_iconst rfl ?_
                    refine ra_cTp (sp_200 hx0 (by first | omega | (unfold ra_in at *; omega)) (by first | assumption | rfl | omega)) rfl (ct_200 rfl lk_8_67 (Or.inl rfl) sh_179 (Nat.le_of_ble_eq_true rfl)) ?_
                    have hr337 : ra_in (wq s328 x0 (1)) := (ra_in_wq _ _ _)
                    refine ra_load rfl rfl rfl rfl ?_
                    refine ra_iadd rfl ?_
                    refine ra_load rfl rfl rfl rfl ?_
                    refine ra_load rfl rfl rfl rfl ?_
                    refine ra_load rfl rfl rfl rfl ?_
                    refine ra_iconst rfl ?_
                    refine ra_cTp (sp_200 hx0 (by first | omega | (unfold ra_in at *; omega)) (by first | assumption | rfl | omega)) rfl (ct_200 rfl lk_8_67 (Or.inl rfl) sh_179 (Nat.le_of_ble_eq_true rfl)) ?_
                    have hr339 : ra_in (wq s328 x0 (4)) := (ra_in_wq _ _ _)
                    refine ra_iconst rfl ?_
                    refine ra_cIPs (sp_210 (by first | omega | (unfold ra_in at *; omega)) (by first | omega | (unfold ra_in at *; omega)) hr339 (by first | omega | (unfold ra_in at *; omega)) (spl_x ⟨by omega, by omega⟩ he331 (exm_k hk322 hx)) (by omega)) rfl (ct_210 rfl lk_8_250 (Or.inl rfl) sh_179 (Nat.le_of_ble_eq_true rfl)) (fun z341 s340 hz341 hz341p hs340 => ?_)
                    have hF342 := Fr_tr (lo := 179) (hi := 191) hF332 hs340 (by omega)
                    have hk343 : s340 (183) = σ (183) := (hs340 (183) (by omega)).trans hk333
                    have hk344 : s340 (187) = σ (187) := (hs340 (187) (by omega)).trans hk334
                    have hg345 : ∀ a, a ≠ 5 → a ≠ 7 → a ≠ 10 → ra_g s340 179 a = ra_g σ 179 a := fun a h5 h7 h10 => (ra_gk (hs340 179 (by omega))).trans (hg335 a h5 h7 h10)
                    exact ra_ireturn rfl rfl ⟨⟨_, hz341, rfl⟩, ⟨hF342, hk343, hk344, hg345, (spl_n (WF_k hk322 hw) ⟨hp.1, hp.2.1, (wq_k hk322).trans hp.2.2⟩ (by rw [ra_gk hk322]; exact hfx.2) (by simp only [wq_k hk322]; omega) he330 he331 hz341p rfl (by simp only [wq_k hk322])), (PW_k (PW_k he320 (ra_gk (hf329 179 (by omega))) (hf329 184 (by omega))) (ra_gk (hs340 179 (by omega))) (hs340 184 (by omega)))⟩⟩
                  · refine ra_iconst rfl ?_
                    exact ra_ireturn rfl rfl ⟨⟨_, (by first | omega | (unfold ra_in at *; omega)), rfl⟩, ⟨hF305, hk307, hk309, hg310, (WF_k hk306 hw), (PW_k hpw (ho311 5 (by decide) (by decide)) hk308)⟩⟩
              · refine ra_iconst rfl ?_
                refine ra_goto rfl rfl ?_
                refine ra_store (L' := [_, _, _, _, _]) rfl rfl rfl (Nat.le_of_ble_eq_true rfl) rfl ?_
                refine ra_load rfl rfl rfl rfl ?_
                refine ra_load rfl rfl rfl rfl ?_
                refine ra_iconst rfl ?_
                refine ra_cT (sp_194 (Or.inr rfl) (by first | omega | (unfold ra_in at *; omega))) rfl (ct_194 rfl lk_8_303 (Or.inl rfl) sh_179 (Nat.le_of_ble_eq_true rfl)) (fun s346 hs346 => ?_)
                obtain ⟨hf347, he348⟩ := hs346
                have hF349 := Fr_tr (lo := 179) (hi := 191) hF191 hf347 (by omega)
                have hk350 : s346 (180) = σ (180) := (hf347 (180) (by omega)).trans hk192
                have hk351 : s346 (183) = σ (183) := (hf347 (183) (by omega)).trans hk193
                have hk352 : s346 (184) = σ (184) := (hf347 (184) (by omega)).trans hk194
                have hk353 : s346 (187) = σ (187) := (hf347 (187) (by omega)).trans hk195
                have hg354 : ∀ a, a ≠ 5 → a ≠ 7 → a ≠ 10 → ra_g s346 179 a = ra_g σ 179 a := fun a h5 h7 h10 => ((fun a h7 h10 => he348 a h7) a h7 h10).trans (hg196 a h5 h7 h10)
                have ho355 : ∀ a, a ≠ 7 → a ≠ 10 → ra_g s346 179 a = ra_g σ 179 a := fun a h7 h10 => ((fun a h7 h10 => he348 a h7) a h7 h10).trans (ho197 a h7 h10)
                refine ra_ifne rfl rfl (by first | omega | (unfold ra_in at *; omega)) (fun h356 => ?_) (fun h356 => ?_)
                · refine ra_iconst rfl ?_
                  exact ra_ireturn rfl rfl ⟨⟨_, (by first | omega | (unfold ra_in at *; omega)), rfl⟩, ⟨hF349, hk351, hk353, hg354, (WF_k hk350 hw), (PW_k hpw (ho355 5 (by decide) (by decide)) hk352)⟩⟩
                · exact absurd h356 (by decide)
      · exact absurd h198 (by decide)
    · refine ra_iconst rfl ?_
      refine ra_goto rfl rfl ?_
      refine ra_iconst rfl ?_
      refine ra_cT (sp_194 (Or.inr rfl) (by first | omega | (unfold ra_in at *; omega))) rfl (ct_194 rfl lk_8_303 (Or.inl rfl) sh_179 (Nat.le_of_ble_eq_true rfl)) (fun s357 hs357 => ?_)
      obtain ⟨hf358, he359⟩ := hs357
      have hF360 := Fr_tr (lo := 179) (hi := 191) hF3 hf358 (by omega)
      have hk361 : s357 (180) = σ (180) := (hf358 (180) (by omega)).trans hk4
      have hk362 : s357 (183) = σ (183) := (hf358 (183) (by omega)).trans hk5
      have hk363 : s357 (184) = σ (184) := (hf358 (184) (by omega)).trans hk6
      have hk364 : s357 (187) = σ (187) := (hf358 (187) (by omega)).trans hk7
      have hg365 : ∀ a, a ≠ 5 → a ≠ 7 → a ≠ 10 → ra_g s357 179 a = ra_g σ 179 a := fun a h5 h7 h10 => ((fun a h7 h10 => he359 a h7) a h7 h10).trans (hg8 a h5 h7 h10)
      have ho366 : ∀ a, a ≠ 7 → a ≠ 10 → ra_g s357 179 a = ra_g σ 179 a := fun a h7 h10 => ((fun a h7 h10 => he359 a h7) a h7 h10).trans (ho9 a h7 h10)
      refine ra_ifeq rfl rfl (by first | omega | (unfold ra_in at *; omega)) (fun h367 => ?_) (fun h367 => ?_)
      · exact absurd h367 (by decide)
      · refine ra_iconst rfl ?_
        exact ra_ireturn rfl rfl ⟨⟨_, (by first | omega | (unfold ra_in at *; omega)), rfl⟩, ⟨hF360, hk362, hk364, hg365, (WF_k hk361 hw), (PW_k hpw (ho366 5 (by decide) (by decide)) hk363)⟩⟩
end RB
end
section
/-! halves -/
section RB
theorem td2 {b : Int} (h : 0 ≤ b) : 0 ≤ b.tdiv 2 ∧ b.tdiv 2 ≤ b := by
  rw [Int.tdiv_eq_ediv_of_nonneg h]
  omega
end RB
end
section
/-! the reference: what its methods do (printed by wip/gen/ref.py) -/
section RB
theorem lp_239_2 {n : Nat} {f : Nat → Int32} {d : Nat} {x0 : Int} {σ : ra_V} (hx0 : ra_in x0) (hmf : MF σ) (hi : 0 ≤ x0 ∧ x0 ≤ rbn σ) : ∀ (nn : Nat) (v2 : Int) (s : ra_V) (hv2_0 : 0 ≤ v2) (hv2_1 : v2 ≤ x0) (hF : Fr (180) (181) σ s) (hsc : SC σ s) (hm : ((x0 - v2 : Int)).toNat < nn), ra_P (g_Gs n f) g_sh 0 (d + 7) g_m_X8_copiesBlocks 2 [some (.index (179)), some (ra_I x0), some (ra_I v2)] [] s (fun r s => rV r ∧ Fr (180) (181) σ s ∧ SC σ s) := by
  intro nn
  induction nn with
  | zero => intro v2 s hv2_0 hv2_1 hF hsc hm; exact absurd hm (Nat.not_lt_zero _)
  | succ nn ih =>
    intro v2 s hv2_0 hv2_1 hF hsc hm
    have hm0 := hmf
    unfold MF at hm0
    refine ra_load rfl rfl rfl rfl ?_
    refine ra_load rfl rfl rfl rfl ?_
    refine ra_icge rfl rfl (by first | omega | (unfold ra_in at *; omega)) hx0 (fun h1 => ?_) (fun h1 => ?_)
    · exact ra_return rfl rfl ⟨rfl, ⟨hF, hsc⟩⟩
    · refine ra_load rfl rfl rfl rfl ?_
      refine ra_getR rfl lk_8_7 (Nat.zero_le _) sh_179 rfl ?_
      refine ra_bipush rfl (by decide) ?_
      refine ra_load rfl rfl rfl rfl ?_
      refine ra_load rfl rfl rfl rfl ?_
      refine ra_cIPp (sp_238 (by first | omega | (unfold ra_in at *; omega)) (MF_sc hsc hmf) (by have e := (mv_sc hsc hmf.1.2).2.2.2.2.1; omega)) rfl (ct_238 rfl lk_8_168 (Or.inl rfl) sh_179 (Nat.le_of_ble_eq_true rfl)) (fun z3 hz3 hz3p => ?_)
      refine ra_iadd rfl ?_
      refine ra_load rfl rfl rfl rfl ?_
      refine ra_getR rfl lk_8_7 (Nat.zero_le _) sh_179 rfl ?_
      refine ra_bipush rfl (by decide) ?_
      refine ra_load rfl rfl rfl rfl ?_
      refine ra_load rfl rfl rfl rfl ?_
      refine ra_cIPp (sp_237 (by first | omega | (unfold ra_in at *; omega)) (MF_sc hsc hmf) (by have e := (mv_sc hsc hmf.1.2).2.2.2.2.1; omega)) rfl (ct_237 rfl lk_8_171 (Or.inl rfl) sh_179 (Nat.le_of_ble_eq_true rfl)) (fun z5 hz5 hz5p => ?_)
      refine ra_iadd rfl ?_
      refine ra_iaload rfl sh_180 rfl (by decide) (by first | omega | (unfold ra_in at *; omega)) (by first | omega | (unfold ra_in at *; omega)) ?_
      have hr6 : ra_in (ra_g s (180) ((88) + z5).toNat) := (ra_in_g _ _ _)
      refine ra_iastore rfl sh_180 rfl (by decide) (by first | omega | (unfold ra_in at *; omega)) (by first | omega | (unfold ra_in at *; omega)) ?_
      refine ra_newR hr6 (fun s7 hs7 hs7v hs7o => ?_)
      have hF8 := Fr_tr (lo := 180) (hi := 181) hF hs7 (by omega)
      refine ra_iinc (L' := [_, _, _]) rfl rfl (Nat.le_of_ble_eq_true rfl) rfl ?_
      refine ra_goto rfl rfl ?_
      exact ra_weak (by repeat' constructor) (ih (v2 + 1) s7 (by first | omega | (unfold ra_in at *; omega)) (by first | omega | (unfold ra_in at *; omega)) hF8 (SC_tr hsc (fun a ha => hs7o a (by omega))) (by first | omega | (unfold ra_in at *; omega)))
theorem sp_239 {n : Nat} {f : Nat → Int32} {d : Nat} {x0 : Int} {σ : ra_V} (hx0 : ra_in x0) (hmf : MF σ) (hi : 0 ≤ x0 ∧ x0 ≤ rbn σ) : ra_C (g_Gs n f) g_sh 0 (d + 8) 239 [.index (179), ra_I x0] σ (fun r s => rV r ∧ Fr (180) (181) σ s ∧ SC σ s) := by
  refine ra_enter (nn := 1) mt_239 rfl (Nat.le_of_ble_eq_true rfl) rfl (fun h => absurd h (by decide +kernel)) ?_
  have hm0 := hmf
  unfold MF at hm0
  refine ra_iconst rfl ?_
  refine ra_store (L' := [_, _, _]) rfl rfl rfl (Nat.le_of_ble_eq_true rfl) rfl ?_
  exact ra_weak (by repeat' constructor) (lp_239_2 hx0 hmf hi _ (0) σ (by first | omega | (unfold ra_in at *; omega)) (by first | omega | (unfold ra_in at *; omega)) Fr_rf SC_rf (Nat.lt_succ_self _))
theorem sp_320 {n : Nat} {f : Nat → Int32} {d : Nat}  {σ : ra_V} (hw : WF σ) (hpw : PW σ) : ra_C (g_Gs n f) g_sh 0 (d + 9) 320 [.index (179)] σ (fun r s => rI r ∧ Fr (179) (191) σ s ∧ s (183) = σ (183) ∧ s (187) = σ (187) ∧ (∀ a, a ≠ 5 → a ≠ 7 → a ≠ 10 → ra_g s 179 a = ra_g σ 179 a) ∧ WF s ∧ PW s) := by
  refine ra_enter (nn := 1) mt_320 rfl (Nat.le_of_ble_eq_true rfl) rfl (fun h => absurd h (by decide +kernel)) ?_
  have hw0 := WF_a hw
  unfold WFa at hw0
  refine ra_load rfl rfl rfl rfl ?_
  refine ra_iconst rfl ?_
  refine ra_putI rfl lk_8_51 (Nat.zero_le _) sh_179 rfl rfl ?_
  refine ra_newU (by first | omega | (unfold ra_in at *; omega)) (fun s1 hs1 hp2 hp2o => ?_)
  have hp2_99 := hp2o 99 (by decide)
  have hF3 := Fr_tr (lo := 179) (hi := 191) Fr_rf hs1 (by omega)
  have hk4 : s1 (180) = σ (180) := (hs1 (180) (by omega))
  have hk5 : s1 (183) = σ (183) := (hs1 (183) (by omega))
  have hk6 : s1 (184) = σ (184) := (hs1 (184) (by omega))
  have hk7 : s1 (187) = σ (187) := (hs1 (187) (by omega))
  have hg8 : ∀ a, a ≠ 5 → a ≠ 7 → a ≠ 10 → ra_g s1 179 a = ra_g σ 179 a := fun a h5 h7 h10 => ((fun a h7 h10 => hp2o a h7) a h7 h10).trans ((fun _ _ _ _ => rfl) a h5 h7 h10)
  have ho9 : ∀ a, a ≠ 7 → a ≠ 10 → ra_g s1 179 a = ra_g σ 179 a := fun a h7 h10 => ((fun a h7 h10 => hp2o a h7) a h7 h10).trans ((fun _ _ _ => rfl) a h7 h10)
  refine ra_load rfl rfl rfl rfl ?_
  refine ra_load rfl rfl rfl rfl ?_
  refine ra_cQPp (sp_204 ) rfl (ct_204 rfl lk_8_95 (Or.inl rfl) sh_179 (Nat.le_of_ble_eq_true rfl)) (fun z11 hz11 hz11p => ?_)
  refine ra_ifne rfl rfl (ra_in01 hz11) (fun h12 => ?_) (fun h12 => ?_)
  · refine ra_iconst rfl ?_
    refine ra_iconst rfl ?_
    refine ra_cT (sp_194 (Or.inl rfl) (by first | omega | (unfold ra_in at *; omega))) rfl (ct_194 rfl lk_8_303 (Or.inl rfl) sh_179 (Nat.le_of_ble_eq_true rfl)) (fun s13 hs13 => ?_)
    obtain ⟨hf14, he15⟩ := hs13
    have hF16 := Fr_tr (lo := 179) (hi := 191) hF3 hf14 (by omega)
    have hk17 : s13 (180) = σ (180) := (hf14 (180) (by omega)).trans hk4
    have hk18 : s13 (183) = σ (183) := (hf14 (183) (by omega)).trans hk5
    have hk19 : s13 (184) = σ (184) := (hf14 (184) (by omega)).trans hk6
    have hk20 : s13 (187) = σ (187) := (hf14 (187) (by omega)).trans hk7
    have hg21 : ∀ a, a ≠ 5 → a ≠ 7 → a ≠ 10 → ra_g s13 179 a = ra_g σ 179 a := fun a h5 h7 h10 => ((fun a h7 h10 => he15 a h7) a h7 h10).trans (hg8 a h5 h7 h10)
    have ho22 : ∀ a, a ≠ 7 → a ≠ 10 → ra_g s13 179 a = ra_g σ 179 a := fun a h7 h10 => ((fun a h7 h10 => he15 a h7) a h7 h10).trans (ho9 a h7 h10)
    refine ra_ifeq rfl rfl (by first | omega | (unfold ra_in at *; omega)) (fun h23 => ?_) (fun h23 => ?_)
    · refine ra_load rfl rfl rfl rfl ?_
      refine ra_cV (sp_197 (WF_k hk17 hw) (PW_k hpw (ho22 5 (by decide) (by decide)) hk19)) rfl (ct_197 rfl lk_8_366 (Or.inl rfl) sh_179 (Nat.le_of_ble_eq_true rfl)) (fun s24 hs24 => ?_)
      obtain ⟨hf25, hc26, hc27, hc28, hc29, he30, he31⟩ := hs24
      have hF32 := Fr_tr (lo := 179) (hi := 191) hF16 hf25 (by omega)
      have hk33 : s24 (180) = σ (180) := hc26.trans hk17
      have hk34 : s24 (183) = σ (183) := hc29.trans hk18
      have hk35 : s24 (187) = σ (187) := (hf25 (187) (by omega)).trans hk20
      have hg36 : ∀ a, a ≠ 5 → a ≠ 7 → a ≠ 10 → ra_g s24 179 a = ra_g σ 179 a := fun a h5 h7 h10 => ((fun a h5 h7 h10 => he30 a h5) a h5 h7 h10).trans (hg21 a h5 h7 h10)
      have hmv0 := hz11p.mp (by omega)
      rw [ra_gk hk4] at hmv0
      have hmv : ra_g s24 180 16 ≠ -1 := by rw [ra_gk hk33]; exact hmv0
      refine ra_load rfl rfl rfl rfl ?_
      refine ra_cTp (sp_234 (MV_f (WF_k hk33 hw) (by omega))) rfl (ct_234 rfl lk_8_162 (Or.inl rfl) sh_179 (Nat.le_of_ble_eq_true rfl)) ?_
      have hm38 := (MV_f (WF_k hk33 hw) (by omega))
      unfold MF at hm38
      have hr39 : ra_in (rbn s24) := (by first | omega | (unfold ra_in at *; omega))
      refine ra_iconst rfl ?_
      refine ra_idiv rfl hr39 (by first | omega | (unfold ra_in at *; omega)) (by omega) ?_
      refine ra_store (L' := [_, _]) rfl rfl rfl (Nat.le_of_ble_eq_true rfl) rfl ?_
      have ht := td2 (b := rbn s24) (by omega)
      refine ra_load rfl rfl rfl rfl ?_
      refine ra_load rfl rfl rfl rfl ?_
      refine ra_cV (sp_239 (ra_in_tdiv hr39 (by omega)) (MV_f (WF_k hk33 hw) (by omega)) (by first | assumption | rfl | omega)) rfl (ct_239 rfl lk_8_174 (Or.inl rfl) sh_179 (Nat.le_of_ble_eq_true rfl)) (fun s40 hs40 => ?_)
      obtain ⟨hf41, he42⟩ := hs40
      have hF43 := Fr_tr (lo := 179) (hi := 191) hF32 hf41 (by omega)
      have hk44 : s40 (183) = σ (183) := (hf41 (183) (by omega)).trans hk34
      have hk45 : s40 (187) = σ (187) := (hf41 (187) (by omega)).trans hk35
      have hg46 : ∀ a, a ≠ 5 → a ≠ 7 → a ≠ 10 → ra_g s40 179 a = ra_g σ 179 a := fun a h5 h7 h10 => (ra_gk (hf41 179 (by omega))).trans (hg36 a h5 h7 h10)
      refine ra_load rfl rfl rfl rfl ?_
      refine ra_getR rfl lk_8_7 (Nat.zero_le _) sh_179 rfl ?_
      refine ra_bipush rfl (by decide) ?_
      refine ra_dup2 rfl rfl rfl ?_
      refine ra_ialoadJ (j := 7) rfl sh_180 rfl (by decide) rfl (by decide) ?_
      have hr47 : ra_in (ra_g s40 (180) 7) := (ra_in_g _ _ _)
      refine ra_iconst rfl ?_
      refine ra_iadd rfl ?_
      refine ra_gen (fun z48 hz48 => ?_)
      refine ra_iastoreJ (j := 7) rfl sh_180 rfl (by decide) rfl (by decide) ?_
      refine ra_newR hz48 (fun s49 hs49 hs49v hs49o => ?_)
      have hF50 := Fr_tr (lo := 179) (hi := 191) hF43 hs49 (by omega)
      have hk51 : s49 (183) = σ (183) := (hs49 (183) (by omega)).trans hk44
      have hk52 : s49 (187) = σ (187) := (hs49 (187) (by omega)).trans hk45
      have hg53 : ∀ a, a ≠ 5 → a ≠ 7 → a ≠ 10 → ra_g s49 179 a = ra_g σ 179 a := fun a h5 h7 h10 => (ra_gk (hs49 179 (by omega))).trans (hg46 a h5 h7 h10)
      refine ra_load rfl rfl rfl rfl ?_
      exact ra_ireturn rfl rfl ⟨⟨_, (ra_in_tdiv hr39 (by omega)), rfl⟩, ⟨hF50, hk51, hk52, hg53, (WF_rel (fun a ha => hs49o a (by unfold REL at ha; omega)) (WF_sc he42 (WF_k hk33 hw))), (PW_k (PW_k he31 (ra_gk (hf41 179 (by omega))) (hf41 184 (by omega))) (ra_gk (hs49 179 (by omega))) (hs49 184 (by omega)))⟩⟩
    · exact absurd h23 (by decide)
  · refine ra_iconst rfl ?_
    refine ra_goto rfl rfl ?_
    refine ra_iconst rfl ?_
    refine ra_cT (sp_194 (Or.inr rfl) (by first | omega | (unfold ra_in at *; omega))) rfl (ct_194 rfl lk_8_303 (Or.inl rfl) sh_179 (Nat.le_of_ble_eq_true rfl)) (fun s54 hs54 => ?_)
    obtain ⟨hf55, he56⟩ := hs54
    have hF57 := Fr_tr (lo := 179) (hi := 191) hF3 hf55 (by omega)
    have hk58 : s54 (180) = σ (180) := (hf55 (180) (by omega)).trans hk4
    have hk59 : s54 (183) = σ (183) := (hf55 (183) (by omega)).trans hk5
    have hk60 : s54 (184) = σ (184) := (hf55 (184) (by omega)).trans hk6
    have hk61 : s54 (187) = σ (187) := (hf55 (187) (by omega)).trans hk7
    have hg62 : ∀ a, a ≠ 5 → a ≠ 7 → a ≠ 10 → ra_g s54 179 a = ra_g σ 179 a := fun a h5 h7 h10 => ((fun a h7 h10 => he56 a h7) a h7 h10).trans (hg8 a h5 h7 h10)
    have ho63 : ∀ a, a ≠ 7 → a ≠ 10 → ra_g s54 179 a = ra_g σ 179 a := fun a h7 h10 => ((fun a h7 h10 => he56 a h7) a h7 h10).trans (ho9 a h7 h10)
    refine ra_ifeq rfl rfl (by first | omega | (unfold ra_in at *; omega)) (fun h64 => ?_) (fun h64 => ?_)
    · exact absurd h64 (by decide)
    · refine ra_iconst rfl ?_
      exact ra_ireturn rfl rfl ⟨⟨_, (by first | omega | (unfold ra_in at *; omega)), rfl⟩, ⟨hF57, hk59, hk61, hg62, (WF_k hk58 hw), (PW_k hpw (ho63 5 (by decide) (by decide)) hk60)⟩⟩
theorem lp_323_54 {n : Nat} {f : Nat → Int32} {d : Nat} {x0 : Int} {σ : ra_V} (hx0 : ra_in x0) (hw : WF σ) : ∀ (nn : Nat) (v2 : Int) (v3 : Int) (v4 : Int) (s : ra_V) (hv2_0 : v2 = ra_g σ 180 16) (hv3_0 : ra_in v3) (hv4_0 : 0 ≤ v4) (hv4_1 : v4 ≤ 600) (hF : Fr (179) (187) σ s) (hk0 : s (180) = σ (180)) (hk1 : s (181) = σ (181)) (hk2 : s (182) = σ (182)) (hk3 : s (183) = σ (183)) (hk4 : s (184) = σ (184)) (hoo : ∀ a, a ≠ 7 → a ≠ 10 → ra_g s 179 a = ra_g σ 179 a) (hmv0 : ra_g σ 180 16 ≠ -1) (hm : ((600 - v4 : Int)).toNat < nn), ra_P (g_Gs n f) g_sh 0 (d + 3) g_m_X8_blocksAt 54 [some (.index (179)), some (ra_I x0), some (ra_I v2), some (ra_I v3), some (ra_I v4), none, none] [] s (fun r s => rI r ∧ Fr (179) (187) σ s ∧ s (180) = σ (180) ∧ s (181) = σ (181) ∧ s (182) = σ (182) ∧ s (183) = σ (183) ∧ s (184) = σ (184) ∧ (∀ a, a ≠ 7 → a ≠ 10 → ra_g s 179 a = ra_g σ 179 a)) := by
  intro nn
  induction nn with
  | zero => intro v2 v3 v4 s hv2_0 hv3_0 hv4_0 hv4_1 hF hk0 hk1 hk2 hk3 hk4 hoo hmv0 hm; exact absurd hm (Nat.not_lt_zero _)
  | succ nn ih =>
    intro v2 v3 v4 s hv2_0 hv3_0 hv4_0 hv4_1 hF hk0 hk1 hk2 hk3 hk4 hoo hmv0 hm
    have hw0 := WF_a hw
    unfold WFa at hw0
    have hm0 := MV_f hw hmv0
    unfold MF at hm0
    have hz2 : wq σ v2 2 = msz σ := by rw [hv2_0]; rfl
    have hmv : ra_g s 180 16 ≠ -1 := by rw [ra_gk hk0]; exact hmv0
    refine ra_load rfl rfl rfl rfl ?_
    refine ra_load rfl rfl rfl rfl ?_
    refine ra_load rfl rfl rfl rfl ?_
    refine ra_iconst rfl ?_
    refine ra_cTp (sp_200 (by first | omega | (unfold ra_in at *; omega)) (by first | omega | (unfold ra_in at *; omega)) (by first | assumption | rfl | omega)) rfl (ct_200 rfl lk_8_67 (Or.inl rfl) sh_179 (Nat.le_of_ble_eq_true rfl)) ?_
    rw [wq_k hk0]
    have hr28 : ra_in (wq σ v2 (2)) := (ra_in_wq _ _ _)
    refine ra_icge rfl rfl (by first | omega | (unfold ra_in at *; omega)) hr28 (fun h29 => ?_) (fun h29 => ?_)
    · refine ra_load rfl rfl rfl rfl ?_
      exact ra_ireturn rfl rfl ⟨⟨_, (by first | omega | (unfold ra_in at *; omega)), rfl⟩, ⟨hF, hk0, hk1, hk2, hk3, hk4, hoo⟩⟩
    · refine ra_load rfl rfl rfl rfl ?_
      refine ra_load rfl rfl rfl rfl ?_
      refine ra_getR rfl lk_8_7 (Nat.zero_le _) sh_179 rfl ?_
      refine ra_bipush rfl (by decide) ?_
      refine ra_ialoadJ (j := 19) rfl sh_180 rfl (by decide) rfl (by decide) ?_
      rw [ra_gk hk0]
      have hr30 : ra_in (ra_g σ (180) 19) := (ra_in_g _ _ _)
      refine ra_idiv rfl (by first | omega | (unfold ra_in at *; omega)) hr30 (by omega) ?_
      refine ra_store (L' := [_, _, _, _, _, _, _]) rfl rfl rfl (Nat.le_of_ble_eq_true rfl) rfl ?_
      refine ra_load rfl rfl rfl rfl ?_
      refine ra_load rfl rfl rfl rfl ?_
      refine ra_cBp (sp_231 (ra_in_tdiv (by first | omega | (unfold ra_in at *; omega)) (by omega)) (MV_f (WF_k hk0 hw) (by omega))) rfl (ct_231 rfl lk_8_180 (Or.inl rfl) sh_179 (Nat.le_of_ble_eq_true rfl)) (fun z32 hz32 => ?_)
      refine ra_ifeq rfl rfl (ra_in01 hz32) (fun h33 => ?_) (fun h33 => ?_)
      · refine ra_load rfl rfl rfl rfl ?_
        refine ra_getR rfl lk_8_7 (Nat.zero_le _) sh_179 rfl ?_
        refine ra_bipush rfl (by decide) ?_
        refine ra_ialoadJ (j := 22) rfl sh_180 rfl (by decide) rfl (by decide) ?_
        rw [ra_gk hk0]
        have hr34 : ra_in (ra_g σ (180) 22) := (ra_in_g _ _ _)
        refine ra_iconst rfl ?_
        refine ra_icne rfl rfl hr34 (by first | omega | (unfold ra_in at *; omega)) (fun h35 => ?_) (fun h35 => ?_)
        · refine ra_iconst rfl ?_
          refine ra_store (L' := [_, _, _, _, _, _, _]) rfl rfl rfl (Nat.le_of_ble_eq_true rfl) rfl ?_
          refine ra_load rfl rfl rfl rfl ?_
          refine ra_load rfl rfl rfl rfl ?_
          refine ra_load rfl rfl rfl rfl ?_
          refine ra_icne rfl rfl (by first | omega | (unfold ra_in at *; omega)) hx0 (fun h36 => ?_) (fun h36 => ?_)
          · refine ra_iconst rfl ?_
            refine ra_iadd rfl ?_
            refine ra_gen (fun z37 hz37 => ?_)
            refine ra_store (L' := [_, _, _, _, _, _, _]) rfl rfl rfl (Nat.le_of_ble_eq_true rfl) rfl ?_
            refine ra_iinc (L' := [_, _, _, _, _, _, _]) rfl rfl (Nat.le_of_ble_eq_true rfl) rfl ?_
            refine ra_goto rfl rfl ?_
            exact ra_weak (by repeat' constructor) (ih v2 z37 (v4 + 1) s (by first | omega | (unfold ra_in at *; omega)) hz37 (by first | omega | (unfold ra_in at *; omega)) (by first | omega | (unfold ra_in at *; omega)) hF hk0 hk1 hk2 hk3 hk4 hoo hmv0 (by first | omega | (unfold ra_in at *; omega)))
          · refine ra_iconst rfl ?_
            refine ra_goto rfl rfl ?_
            refine ra_iadd rfl ?_
            refine ra_gen (fun z38 hz38 => ?_)
            refine ra_store (L' := [_, _, _, _, _, _, _]) rfl rfl rfl (Nat.le_of_ble_eq_true rfl) rfl ?_
            refine ra_iinc (L' := [_, _, _, _, _, _, _]) rfl rfl (Nat.le_of_ble_eq_true rfl) rfl ?_
            refine ra_goto rfl rfl ?_
            exact ra_weak (by repeat' constructor) (ih v2 z38 (v4 + 1) s (by first | omega | (unfold ra_in at *; omega)) hz38 (by first | omega | (unfold ra_in at *; omega)) (by first | omega | (unfold ra_in at *; omega)) hF hk0 hk1 hk2 hk3 hk4 hoo hmv0 (by first | omega | (unfold ra_in at *; omega)))
        · refine ra_load rfl rfl rfl rfl ?_
          refine ra_load rfl rfl rfl rfl ?_
          refine ra_cTp (sp_232 (MV_f (WF_k hk0 hw) (by omega))) rfl (ct_232 rfl lk_8_153 (Or.inl rfl) sh_179 (Nat.le_of_ble_eq_true rfl)) ?_
          have hm40 := (MV_f (WF_k hk0 hw) (by omega))
          unfold MF at hm40
          have hr41 : ra_in (rnx s) := (by first | omega | (unfold ra_in at *; omega))
          refine ra_icne rfl rfl (ra_in_tdiv (by first | omega | (unfold ra_in at *; omega)) (by omega)) hr41 (fun h42 => ?_) (fun h42 => ?_)
          · refine ra_iconst rfl ?_
            refine ra_store (L' := [_, _, _, _, _, _, _]) rfl rfl rfl (Nat.le_of_ble_eq_true rfl) rfl ?_
            refine ra_load rfl rfl rfl rfl ?_
            refine ra_load rfl rfl rfl rfl ?_
            refine ra_load rfl rfl rfl rfl ?_
            refine ra_icne rfl rfl (by first | omega | (unfold ra_in at *; omega)) hx0 (fun h43 => ?_) (fun h43 => ?_)
            · refine ra_iconst rfl ?_
              refine ra_iadd rfl ?_
              refine ra_gen (fun z44 hz44 => ?_)
              refine ra_store (L' := [_, _, _, _, _, _, _]) rfl rfl rfl (Nat.le_of_ble_eq_true rfl) rfl ?_
              refine ra_iinc (L' := [_, _, _, _, _, _, _]) rfl rfl (Nat.le_of_ble_eq_true rfl) rfl ?_
              refine ra_goto rfl rfl ?_
              exact ra_weak (by repeat' constructor) (ih v2 z44 (v4 + 1) s (by first | omega | (unfold ra_in at *; omega)) hz44 (by first | omega | (unfold ra_in at *; omega)) (by first | omega | (unfold ra_in at *; omega)) hF hk0 hk1 hk2 hk3 hk4 hoo hmv0 (by first | omega | (unfold ra_in at *; omega)))
            · refine ra_iconst rfl ?_
              refine ra_goto rfl rfl ?_
              refine ra_iadd rfl ?_
              refine ra_gen (fun z45 hz45 => ?_)
              refine ra_store (L' := [_, _, _, _, _, _, _]) rfl rfl rfl (Nat.le_of_ble_eq_true rfl) rfl ?_
              refine ra_iinc (L' := [_, _, _, _, _, _, _]) rfl rfl (Nat.le_of_ble_eq_true rfl) rfl ?_
              refine ra_goto rfl rfl ?_
              exact ra_weak (by repeat' constructor) (ih v2 z45 (v4 + 1) s (by first | omega | (unfold ra_in at *; omega)) hz45 (by first | omega | (unfold ra_in at *; omega)) (by first | omega | (unfold ra_in at *; omega)) hF hk0 hk1 hk2 hk3 hk4 hoo hmv0 (by first | omega | (unfold ra_in at *; omega)))
          · refine ra_iconst rfl ?_
            refine ra_goto rfl rfl ?_
            refine ra_store (L' := [_, _, _, _, _, _, _]) rfl rfl rfl (Nat.le_of_ble_eq_true rfl) rfl ?_
            refine ra_load rfl rfl rfl rfl ?_
            refine ra_load rfl rfl rfl rfl ?_
            refine ra_load rfl rfl rfl rfl ?_
            refine ra_icne rfl rfl (by first | omega | (unfold ra_in at *; omega)) hx0 (fun h46 => ?_) (fun h46 => ?_)
            · refine ra_iconst rfl ?_
              refine ra_iadd rfl ?_
              refine ra_gen (fun z47 hz47 => ?_)
              refine ra_store (L' := [_, _, _, _, _, _, _]) rfl rfl rfl (Nat.le_of_ble_eq_true rfl) rfl ?_
              refine ra_iinc (L' := [_, _, _, _, _, _, _]) rfl rfl (Nat.le_of_ble_eq_true rfl) rfl ?_
              refine ra_goto rfl rfl ?_
              exact ra_weak (by repeat' constructor) (ih v2 z47 (v4 + 1) s (by first | omega | (unfold ra_in at *; omega)) hz47 (by first | omega | (unfold ra_in at *; omega)) (by first | omega | (unfold ra_in at *; omega)) hF hk0 hk1 hk2 hk3 hk4 hoo hmv0 (by first | omega | (unfold ra_in at *; omega)))
            · refine ra_iconst rfl ?_
              refine ra_goto rfl rfl ?_
              refine ra_iadd rfl ?_
              refine ra_gen (fun z48 hz48 => ?_)
              refine ra_store (L' := [_, _, _, _, _, _, _]) rfl rfl rfl (Nat.le_of_ble_eq_true rfl) rfl ?_
              refine ra_iinc (L' := [_, _, _, _, _, _, _]) rfl rfl (Nat.le_of_ble_eq_true rfl) rfl ?_
              refine ra_goto rfl rfl ?_
              exact ra_weak (by repeat' constructor) (ih v2 z48 (v4 + 1) s (by first | omega | (unfold ra_in at *; omega)) hz48 (by first | omega | (unfold ra_in at *; omega)) (by first | omega | (unfold ra_in at *; omega)) hF hk0 hk1 hk2 hk3 hk4 hoo hmv0 (by first | omega | (unfold ra_in at *; omega)))
      · refine ra_iconst rfl ?_
        refine ra_goto rfl rfl ?_
        refine ra_store (L' := [_, _, _, _, _, _, _]) rfl rfl rfl (Nat.le_of_ble_eq_true rfl) rfl ?_
        refine ra_load rfl rfl rfl rfl ?_
        refine ra_load rfl rfl rfl rfl ?_
        refine ra_load rfl rfl rfl rfl ?_
        refine ra_icne rfl rfl (by first | omega | (unfold ra_in at *; omega)) hx0 (fun h49 => ?_) (fun h49 => ?_)
        · refine ra_iconst rfl ?_
          refine ra_iadd rfl ?_
          refine ra_gen (fun z50 hz50 => ?_)
          refine ra_store (L' := [_, _, _, _, _, _, _]) rfl rfl rfl (Nat.le_of_ble_eq_true rfl) rfl ?_
          refine ra_iinc (L' := [_, _, _, _, _, _, _]) rfl rfl (Nat.le_of_ble_eq_true rfl) rfl ?_
          refine ra_goto rfl rfl ?_
          exact ra_weak (by repeat' constructor) (ih v2 z50 (v4 + 1) s (by first | omega | (unfold ra_in at *; omega)) hz50 (by first | omega | (unfold ra_in at *; omega)) (by first | omega | (unfold ra_in at *; omega)) hF hk0 hk1 hk2 hk3 hk4 hoo hmv0 (by first | omega | (unfold ra_in at *; omega)))
        · refine ra_iconst rfl ?_
          refine ra_goto rfl rfl ?_
          refine ra_iadd rfl ?_
          refine ra_gen (fun z51 hz51 => ?_)
          refine ra_store (L' := [_, _, _, _, _, _, _]) rfl rfl rfl (Nat.le_of_ble_eq_true rfl) rfl ?_
          refine ra_iinc (L' := [_, _, _, _, _, _, _]) rfl rfl (Nat.le_of_ble_eq_true rfl) rfl ?_
          refine ra_goto rfl rfl ?_
          exact ra_weak (by repeat' constructor) (ih v2 z51 (v4 + 1) s (by first | omega | (unfold ra_in at *; omega)) hz51 (by first | omega | (unfold ra_in at *; omega)) (by first | omega | (unfold ra_in at *; omega)) hF hk0 hk1 hk2 hk3 hk4 hoo hmv0 (by first | omega | (unfold ra_in at *; omega)))
theorem sp_323 {n : Nat} {f : Nat → Int32} {d : Nat} {x0 : Int} {σ : ra_V} (hx0 : ra_in x0) (hw : WF σ) : ra_C (g_Gs n f) g_sh 0 (d + 4) 323 [.index (179), ra_I x0] σ (fun r s => rI r ∧ Fr (179) (187) σ s ∧ s (180) = σ (180) ∧ s (181) = σ (181) ∧ s (182) = σ (182) ∧ s (183) = σ (183) ∧ s (184) = σ (184) ∧ (∀ a, a ≠ 7 → a ≠ 10 → ra_g s 179 a = ra_g σ 179 a)) := by
  refine ra_enter (nn := 5) mt_323 rfl (Nat.le_of_ble_eq_true rfl) rfl (fun h => absurd h (by decide +kernel)) ?_
  have hw0 := WF_a hw
  unfold WFa at hw0
  refine ra_load rfl rfl rfl rfl ?_
  refine ra_iconst rfl ?_
  refine ra_putI rfl lk_8_51 (Nat.zero_le _) sh_179 rfl rfl ?_
  refine ra_newU (by first | omega | (unfold ra_in at *; omega)) (fun s1 hs1 hp2 hp2o => ?_)
  have hp2_99 := hp2o 99 (by decide)
  have hF3 := Fr_tr (lo := 179) (hi := 187) Fr_rf hs1 (by omega)
  have hk4 : s1 (180) = σ (180) := (hs1 (180) (by omega))
  have hk5 : s1 (181) = σ (181) := (hs1 (181) (by omega))
  have hk6 : s1 (182) = σ (182) := (hs1 (182) (by omega))
  have hk7 : s1 (183) = σ (183) := (hs1 (183) (by omega))
  have hk8 : s1 (184) = σ (184) := (hs1 (184) (by omega))
  have ho9 : ∀ a, a ≠ 7 → a ≠ 10 → ra_g s1 179 a = ra_g σ 179 a := fun a h7 h10 => ((fun a h7 h10 => hp2o a h7) a h7 h10).trans ((fun _ _ _ => rfl) a h7 h10)
  refine ra_load rfl rfl rfl rfl ?_
  refine ra_load rfl rfl rfl rfl ?_
  refine ra_i2l rfl hx0 ?_
  refine ra_lconst0 rfl ?_
  refine ra_ldc2 (z := 2) rfl lk_8_344 (by decide) ?_
  refine ra_cTp (sp_193 hx0 (by first | omega | (unfold ra_in at *; omega)) (by first | omega | (unfold ra_in at *; omega))) rfl (ct_193 rfl lk_8_63 (Or.inl rfl) (Nat.le_of_ble_eq_true rfl)) ?_
  refine ra_ifneB rfl rfl (fun h11 => ?_) (fun h11 => ?_)
  · refine ra_iconst rfl ?_
    refine ra_iconst rfl ?_
    refine ra_cT (sp_194 (Or.inl rfl) (by first | omega | (unfold ra_in at *; omega))) rfl (ct_194 rfl lk_8_303 (Or.inl rfl) sh_179 (Nat.le_of_ble_eq_true rfl)) (fun s12 hs12 => ?_)
    obtain ⟨hf13, he14⟩ := hs12
    have hF15 := Fr_tr (lo := 179) (hi := 187) hF3 hf13 (by omega)
    have hk16 : s12 (180) = σ (180) := (hf13 (180) (by omega)).trans hk4
    have hk17 : s12 (181) = σ (181) := (hf13 (181) (by omega)).trans hk5
    have hk18 : s12 (182) = σ (182) := (hf13 (182) (by omega)).trans hk6
    have hk19 : s12 (183) = σ (183) := (hf13 (183) (by omega)).trans hk7
    have hk20 : s12 (184) = σ (184) := (hf13 (184) (by omega)).trans hk8
    have ho21 : ∀ a, a ≠ 7 → a ≠ 10 → ra_g s12 179 a = ra_g σ 179 a := fun a h7 h10 => ((fun a h7 h10 => he14 a h7) a h7 h10).trans (ho9 a h7 h10)
    refine ra_ifeq rfl rfl (by first | omega | (unfold ra_in at *; omega)) (fun h22 => ?_) (fun h22 => ?_)
    · refine ra_load rfl rfl rfl rfl ?_
      refine ra_cQPp (sp_204 ) rfl (ct_204 rfl lk_8_95 (Or.inl rfl) sh_179 (Nat.le_of_ble_eq_true rfl)) (fun z24 hz24 hz24p => ?_)
      refine ra_ifne rfl rfl (ra_in01 hz24) (fun h25 => ?_) (fun h25 => ?_)
      · have hmv0 := hz24p.mp (by omega)
        rw [ra_gk hk16] at hmv0
        have hmv : ra_g s12 180 16 ≠ -1 := by rw [ra_gk hk16]; exact hmv0
        refine ra_load rfl rfl rfl rfl ?_
        refine ra_getR rfl lk_8_7 (Nat.zero_le _) sh_179 rfl ?_
        refine ra_bipush rfl (by decide) ?_
        refine ra_ialoadJ (j := 16) rfl sh_180 rfl (by decide) rfl (by decide) ?_
        rw [ra_gk hk16]
        have hr26 : ra_in (ra_g σ (180) 16) := (ra_in_g _ _ _)
        refine ra_store (L' := [_, _, _, _, _, _, _]) rfl rfl rfl (Nat.le_of_ble_eq_true rfl) rfl ?_
        refine ra_iconst rfl ?_
        refine ra_store (L' := [_, _, _, _, _, _, _]) rfl rfl rfl (Nat.le_of_ble_eq_true rfl) rfl ?_
        refine ra_iconst rfl ?_
        refine ra_store (L' := [_, _, _, _, _, _, _]) rfl rfl rfl (Nat.le_of_ble_eq_true rfl) rfl ?_
        exact ra_weak (by repeat' constructor) (lp_323_54 hx0 hw _ (ra_g σ (180) 16) (0) (0) s12 (by first | omega | (unfold ra_in at *; omega)) (by first | omega | (unfold ra_in at *; omega)) (by first | omega | (unfold ra_in at *; omega)) (by first | omega | (unfold ra_in at *; omega)) hF15 hk16 hk17 hk18 hk19 hk20 ho21 hmv0 (Nat.lt_succ_self _))
      · refine ra_iconst rfl ?_
        exact ra_ireturn rfl rfl ⟨⟨_, (by first | omega | (unfold ra_in at *; omega)), rfl⟩, ⟨hF15, hk16, hk17, hk18, hk19, hk20, ho21⟩⟩
    · exact absurd h22 (by decide)
  · refine ra_iconst rfl ?_
    refine ra_goto rfl rfl ?_
    refine ra_iconst rfl ?_
    refine ra_cT (sp_194 (Or.inr rfl) (by first | omega | (unfold ra_in at *; omega))) rfl (ct_194 rfl lk_8_303 (Or.inl rfl) sh_179 (Nat.le_of_ble_eq_true rfl)) (fun s52 hs52 => ?_)
    obtain ⟨hf53, he54⟩ := hs52
    have hF55 := Fr_tr (lo := 179) (hi := 187) hF3 hf53 (by omega)
    have hk56 : s52 (180) = σ (180) := (hf53 (180) (by omega)).trans hk4
    have hk57 : s52 (181) = σ (181) := (hf53 (181) (by omega)).trans hk5
    have hk58 : s52 (182) = σ (182) := (hf53 (182) (by omega)).trans hk6
    have hk59 : s52 (183) = σ (183) := (hf53 (183) (by omega)).trans hk7
    have hk60 : s52 (184) = σ (184) := (hf53 (184) (by omega)).trans hk8
    have ho61 : ∀ a, a ≠ 7 → a ≠ 10 → ra_g s52 179 a = ra_g σ 179 a := fun a h7 h10 => ((fun a h7 h10 => he54 a h7) a h7 h10).trans (ho9 a h7 h10)
    refine ra_ifeq rfl rfl (by first | omega | (unfold ra_in at *; omega)) (fun h62 => ?_) (fun h62 => ?_)
    · exact absurd h62 (by decide)
    · refine ra_iconst rfl ?_
      exact ra_ireturn rfl rfl ⟨⟨_, (by first | omega | (unfold ra_in at *; omega)), rfl⟩, ⟨hF55, hk56, hk57, hk58, hk59, hk60, ho61⟩⟩
end RB
end
section
/-! a move begun -/
section RB
theorem mok_k {s t : ra_V} (h : s 180 = t 180) {p to : Int} (q : MOK s p to) : MOK t p to := by
  unfold MOK SCE CAN US TK wq at *
  simp only [ra_gk h] at q
  exact q
section
variable {σ s : ra_V} {p to z : Int}
theorem sc_ok {L : Int} (hw : WF σ) (hk : MOK σ p to) (eL : L = min (ra_g σ 180 4) (wq σ p 2)) (hf : rfar (wq σ p 1) to < L) (h : (z = -1 ∨ (0 ≤ z ∧ z + L ≤ 600)) ∧ (z = -1 → ¬ SCE σ p to L) ∧ (z ≠ -1 → SCE σ p to L)) :
    (-1 ≤ z ∧ z + L ≤ 600) ∧ (z = -1 → L ≤ rfar (wq σ p 1) to) := by
  obtain ⟨-, -, -, -, hk⟩ := hk
  have ha := WF_a hw
  unfold WFa at ha
  subst eL
  obtain ⟨h1, h2, -⟩ := h
  rcases hk with hk | hk
  · omega
  · refine ⟨by omega, fun e => absurd hk (h2 e)⟩
theorem st_w {sc : Int} (hw : WF σ) (hp : 0 ≤ p ∧ p < 8 ∧ wq σ p 0 = 1) (hk : MOK σ p to) (v16 : ra_g s 180 16 = p) (v17 : ra_g s 180 17 = wq σ p 1) (v18 : ra_g s 180 18 = to) (v19 : ra_g s 180 19 = ra_g σ 180 4) (v20 : ra_g s 180 20 = sc) (v21 : ra_g s 180 21 = 0) (v22 : ra_g s 180 22 = 0)
    (o : ∀ a, (a < 16 ∨ 22 < a) → ra_g s 180 a = ra_g σ 180 a) (hs : (-1 ≤ sc ∧ sc + min (ra_g σ 180 4) (wq σ p 2) ≤ 600) ∧ (sc = -1 → min (ra_g σ 180 4) (wq σ p 2) ≤ rfar (wq σ p 1) to)) : WF s := by
  have e : ∀ q w, 0 ≤ q → q < 8 → 0 ≤ w → w < 4 → wf (rw_ s) q w = wf (rw_ σ) q w := fun q w q0 q1 w0 w1 => o _ (by omega)
  have e0 : ∀ j, j < 16 → rw_ s j = rw_ σ j := fun j hj => o j (by omega)
  have ha := WF_a hw
  unfold WFa at ha
  have hq := WF_p hw hp.1 hp.2.1 hp.2.2
  have hap := fun q q0 q1 hn qe => WF_ap hw (p := p) (q := q) hp.1 hp.2.1 q0 q1 hn hp.2.2 qe
  obtain ⟨k1, k2, k3, k4, -⟩ := hk
  obtain ⟨h1, h2, h3, h4, -⟩ := hw
  refine ⟨?_, fun q p0 p1 => ?_, fun q p0 p1 pe => ?_, fun q r p0 p1 q0 q1 hn pe qe => ?_, Or.inr ?_⟩
  · unfold WFs
    rw [e0 0 (by omega), e0 1 (by omega), e0 2 (by omega), e0 3 (by omega), e0 4 (by omega)]
    exact h1
  · rw [e q 0 p0 p1 (by omega) (by omega)]
    exact h2 q p0 p1
  · rw [e q 0 p0 p1 (by omega) (by omega)] at pe
    have h6 := h3 q p0 p1 pe
    unfold WFp at *
    rw [e q 3 p0 p1 (by omega) (by omega), e q 2 p0 p1 (by omega) (by omega), e q 1 p0 p1 (by omega) (by omega), e0 0 (by omega), e0 1 (by omega), e0 2 (by omega)]
    exact h6
  · rw [e q 0 p0 p1 (by omega) (by omega)] at pe
    rw [e r 0 q0 q1 (by omega) (by omega)] at qe
    rw [e q 1 p0 p1 (by omega) (by omega), e q 2 p0 p1 (by omega) (by omega), e r 1 q0 q1 (by omega) (by omega), e r 2 q0 q1 (by omega) (by omega)]
    exact h4 q r p0 p1 q0 q1 hn pe qe
  · have r16 : rw_ s 16 = p := v16
    have r17 : rw_ s 17 = wq σ p 1 := v17
    have r18 : rw_ s 18 = to := v18
    have r19 : rw_ s 19 = ra_g σ 180 4 := v19
    have r20 : rw_ s 20 = sc := v20
    have r21 : rw_ s 21 = 0 := v21
    have r22 : rw_ s 22 = 0 := v22
    unfold WFm
    rw [r16, r17, r18, r19, r20, r21, r22, e p 0 hp.1 hp.2.1 (by omega) (by omega), e p 1 hp.1 hp.2.1 (by omega) (by omega), e p 2 hp.1 hp.2.1 (by omega) (by omega), e0 0 (by omega), e0 1 (by omega), e0 2 (by omega)]
    have hc := ref_chunks_b (m := wq σ p 2) (c := ra_g σ 180 4) (k := 0) (by omega) (by omega)
    have hd := rfar_b (wq σ p 1) to
    refine ⟨⟨hp.1, hp.2.1⟩, hp.2.2, rfl, ⟨k3.2.1, k3.2.2⟩, Ne.symm k2, ⟨by omega, by omega⟩, ⟨by omega, by have := hc.1; exact Int.lt_of_lt_of_le (by decide : (0 : Int) < 1) this⟩, Or.inl rfl, hs.1, fun q => ?_, fun q q0 q1 hn qe => ?_⟩
    · have := hs.2 q
      show min (ra_g σ 180 4) (wq σ p 2) ≤ wq σ p 1 - to ∨ min (ra_g σ 180 4) (wq σ p 2) ≤ to - wq σ p 1
      omega
    · rw [e q 0 q0 q1 (by omega) (by omega)] at qe
      rw [e q 1 q0 q1 (by omega) (by omega), e q 2 q0 q1 (by omega) (by omega)]
      have qe : wq σ q 0 = 1 := qe
      show to + wq σ p 2 ≤ wq σ q 1 ∨ wq σ q 1 + wq σ q 2 ≤ to
      by_cases c1 : to < wq σ q 1 + wq σ q 2
      · by_cases c2 : wq σ q 1 < to + wq σ p 2
        · exact absurd ⟨q, q0, q1, hn, qe, c1, c2⟩ k4
        · omega
      · omega
theorem st_ch {s1 s2 s3 s4 s5 s6 s7 : ra_V} {sc : Int} (hw : WF σ) (hp : 0 ≤ p ∧ p < 8 ∧ wq σ p 0 = 1) (hk : MOK σ p to) (v1 : ra_g s1 180 16 = p) (o1 : ∀ a, a ≠ 16 → ra_g s1 180 a = ra_g σ 180 a) (v2 : ra_g s2 180 17 = wq s1 p 1) (o2 : ∀ a, a ≠ 17 → ra_g s2 180 a = ra_g s1 180 a) (v3 : ra_g s3 180 18 = to) (o3 : ∀ a, a ≠ 18 → ra_g s3 180 a = ra_g s2 180 a) (v4 : ra_g s4 180 19 = ra_g s3 180 4) (o4 : ∀ a, a ≠ 19 → ra_g s4 180 a = ra_g s3 180 a)
    (v5 : ra_g s5 180 20 = sc) (o5 : ∀ a, a ≠ 20 → ra_g s5 180 a = ra_g s4 180 a) (v6 : ra_g s6 180 21 = 0) (o6 : ∀ a, a ≠ 21 → ra_g s6 180 a = ra_g s5 180 a) (v7 : ra_g s7 180 22 = 0) (o7 : ∀ a, a ≠ 22 → ra_g s7 180 a = ra_g s6 180 a)
    (hs : (-1 ≤ sc ∧ sc + min (ra_g σ 180 4) (wq σ p 2) ≤ 600) ∧ (sc = -1 → min (ra_g σ 180 4) (wq σ p 2) ≤ rfar (wq σ p 1) to)) : WF s7 ∧ ra_g s7 180 16 = p := by
  have b : ∀ a, a ≠ 17 → a ≠ 18 → a ≠ 19 → a ≠ 20 → a ≠ 21 → a ≠ 22 → ra_g s7 180 a = ra_g s1 180 a := fun a h1 h2 h3 h4 h5 h6 => by rw [o7 a h6, o6 a h5, o5 a h4, o4 a h3, o3 a h2, o2 a h1]
  have w16 : ra_g s7 180 16 = p := (b 16 (by omega) (by omega) (by omega) (by omega) (by omega) (by omega)).trans v1
  have e1 : wq s1 p 1 = wq σ p 1 := o1 _ (by omega)
  refine ⟨st_w hw hp hk w16 ?_ ?_ ?_ ?_ ?_ v7 (fun a ha => ?_) hs, w16⟩
  · rw [o7 17 (by omega), o6 17 (by omega), o5 17 (by omega), o4 17 (by omega), o3 17 (by omega), v2, e1]
  · rw [o7 18 (by omega), o6 18 (by omega), o5 18 (by omega), o4 18 (by omega), v3]
  · rw [o7 19 (by omega), o6 19 (by omega), o5 19 (by omega), v4, o3 4 (by omega), o2 4 (by omega), o1 4 (by omega)]
  · rw [o7 20 (by omega), o6 20 (by omega), v5]
  · rw [o7 21 (by omega), v6]
  · rw [b a (by omega) (by omega) (by omega) (by omega) (by omega) (by omega), o1 a (by omega)]
end
end RB
end
section
/-! the reference: what its methods do (printed by wip/gen/ref.py) -/
section RB
theorem sp_240 {n : Nat} {f : Nat → Int32} {d : Nat} {x0 : Int} {x1 : Int} {σ : ra_V} (hx0 : ra_in x0) (hx1 : ra_in x1) (hw : WF σ) (hp : 0 ≤ x0 ∧ x0 < 8 ∧ wq σ x0 0 = 1) (hk : MOK σ x0 x1) : ra_C (g_Gs n f) g_sh 0 (d + 4) 240 [.index (179), ra_I x0, ra_I x1] σ (fun r s => rV r ∧ Fr (180) (181) σ s ∧ WF s ∧ ra_g s 180 16 = x0 ∧ ∀ p, 0 ≤ p → p < 8 → wq s p 0 = wq σ p 0) := by
  refine ra_enter (nn := 2) mt_240 rfl (Nat.le_of_ble_eq_true rfl) rfl (fun h => absurd h (by decide +kernel)) ?_
  have hw0 := WF_a hw
  unfold WFa at hw0
  have hq := WF_p hw hp.1 hp.2.1 hp.2.2
  have hu := hk.2.2.1
  unfold US at hu
  refine ra_load rfl rfl rfl rfl ?_
  refine ra_getR rfl lk_8_7 (Nat.zero_le _) sh_179 rfl ?_
  refine ra_iconst rfl ?_
  refine ra_ialoadJ (j := 4) rfl sh_180 rfl (by decide) rfl (by decide) ?_
  have hr1 : ra_in (ra_g σ (180) 4) := (ra_in_g _ _ _)
  refine ra_load rfl rfl rfl rfl ?_
  refine ra_load rfl rfl rfl rfl ?_
  refine ra_iconst rfl ?_
  refine ra_cTp (sp_200 hx0 (by first | omega | (unfold ra_in at *; omega)) (by first | assumption | rfl | omega)) rfl (ct_200 rfl lk_8_67 (Or.inl rfl) sh_179 (Nat.le_of_ble_eq_true rfl)) ?_
  have hr3 : ra_in (wq σ x0 (2)) := (ra_in_wq _ _ _)
  refine ra_min rfl lk_8_90 hr1 hr3 (Nat.le_of_ble_eq_true rfl) ?_
  refine ra_store (L' := [_, _, _, _, _]) rfl rfl rfl (Nat.le_of_ble_eq_true rfl) rfl ?_
  refine ra_load rfl rfl rfl rfl ?_
  refine ra_load rfl rfl rfl rfl ?_
  refine ra_load rfl rfl rfl rfl ?_
  refine ra_iconst rfl ?_
  refine ra_cTp (sp_200 hx0 (by first | omega | (unfold ra_in at *; omega)) (by first | assumption | rfl | omega)) rfl (ct_200 rfl lk_8_67 (Or.inl rfl) sh_179 (Nat.le_of_ble_eq_true rfl)) ?_
  have hr5 : ra_in (wq σ x0 (1)) := (ra_in_wq _ _ _)
  refine ra_load rfl rfl rfl rfl ?_
  refine ra_cTp (sp_225 hr5 hx1 (by first | assumption | rfl | omega)) rfl (ct_225 rfl lk_8_136 (Or.inl rfl) (Nat.le_of_ble_eq_true rfl)) ?_
  have hf7 := rfar_b (wq σ x0 (1)) x1
  have hr8 : ra_in (rfar (wq σ x0 (1)) x1) := (by first | omega | (unfold ra_in at *; omega))
  refine ra_icle rfl rfl (by first | omega | (unfold ra_in at *; omega)) hr8 (fun h9 => ?_) (fun h9 => ?_)
  · refine ra_iconst rfl ?_
    refine ra_store (L' := [_, _, _, _, _]) rfl rfl rfl (Nat.le_of_ble_eq_true rfl) rfl ?_
    refine ra_load rfl rfl rfl rfl ?_
    refine ra_getR rfl lk_8_7 (Nat.zero_le _) sh_179 rfl ?_
    refine ra_bipush rfl (by decide) ?_
    refine ra_load rfl rfl rfl rfl ?_
    refine ra_iastoreJ (j := 16) rfl sh_180 rfl (by decide) rfl (by decide) ?_
    refine ra_newR hx0 (fun s10 hs10 hs10v hs10o => ?_)
    have hF11 := Fr_tr (lo := 180) (hi := 181) Fr_rf hs10 (by omega)
    refine ra_load rfl rfl rfl rfl ?_
    refine ra_getR rfl lk_8_7 (Nat.zero_le _) sh_179 rfl ?_
    refine ra_bipush rfl (by decide) ?_
    refine ra_load rfl rfl rfl rfl ?_
    refine ra_load rfl rfl rfl rfl ?_
    refine ra_iconst rfl ?_
    refine ra_cTp (sp_200 hx0 (by first | omega | (unfold ra_in at *; omega)) (by first | assumption | rfl | omega)) rfl (ct_200 rfl lk_8_67 (Or.inl rfl) sh_179 (Nat.le_of_ble_eq_true rfl)) ?_
    have hr13 : ra_in (wq s10 x0 (1)) := (ra_in_wq _ _ _)
    refine ra_iastoreJ (j := 17) rfl sh_180 rfl (by decide) rfl (by decide) ?_
    refine ra_newR hr13 (fun s14 hs14 hs14v hs14o => ?_)
    have hF15 := Fr_tr (lo := 180) (hi := 181) hF11 hs14 (by omega)
    refine ra_load rfl rfl rfl rfl ?_
    refine ra_getR rfl lk_8_7 (Nat.zero_le _) sh_179 rfl ?_
    refine ra_bipush rfl (by decide) ?_
    refine ra_load rfl rfl rfl rfl ?_
    refine ra_iastoreJ (j := 18) rfl sh_180 rfl (by decide) rfl (by decide) ?_
    refine ra_newR hx1 (fun s16 hs16 hs16v hs16o => ?_)
    have hF17 := Fr_tr (lo := 180) (hi := 181) hF15 hs16 (by omega)
    refine ra_load rfl rfl rfl rfl ?_
    refine ra_getR rfl lk_8_7 (Nat.zero_le _) sh_179 rfl ?_
    refine ra_bipush rfl (by decide) ?_
    refine ra_load rfl rfl rfl rfl ?_
    refine ra_getR rfl lk_8_7 (Nat.zero_le _) sh_179 rfl ?_
    refine ra_iconst rfl ?_
    refine ra_ialoadJ (j := 4) rfl sh_180 rfl (by decide) rfl (by decide) ?_
    have hr18 : ra_in (ra_g s16 (180) 4) := (ra_in_g _ _ _)
    refine ra_iastoreJ (j := 19) rfl sh_180 rfl (by decide) rfl (by decide) ?_
    refine ra_newR hr18 (fun s19 hs19 hs19v hs19o => ?_)
    have hF20 := Fr_tr (lo := 180) (hi := 181) hF17 hs19 (by omega)
    refine ra_load rfl rfl rfl rfl ?_
    refine ra_getR rfl lk_8_7 (Nat.zero_le _) sh_179 rfl ?_
    refine ra_bipush rfl (by decide) ?_
    refine ra_load rfl rfl rfl rfl ?_
    refine ra_iastoreJ (j := 20) rfl sh_180 rfl (by decide) rfl (by decide) ?_
    refine ra_newR (by first | omega | (unfold ra_in at *; omega)) (fun s21 hs21 hs21v hs21o => ?_)
    have hF22 := Fr_tr (lo := 180) (hi := 181) hF20 hs21 (by omega)
    refine ra_load rfl rfl rfl rfl ?_
    refine ra_getR rfl lk_8_7 (Nat.zero_le _) sh_179 rfl ?_
    refine ra_bipush rfl (by decide) ?_
    refine ra_iconst rfl ?_
    refine ra_iastoreJ (j := 21) rfl sh_180 rfl (by decide) rfl (by decide) ?_
    refine ra_newR (by first | omega | (unfold ra_in at *; omega)) (fun s23 hs23 hs23v hs23o => ?_)
    have hF24 := Fr_tr (lo := 180) (hi := 181) hF22 hs23 (by omega)
    refine ra_load rfl rfl rfl rfl ?_
    refine ra_getR rfl lk_8_7 (Nat.zero_le _) sh_179 rfl ?_
    refine ra_bipush rfl (by decide) ?_
    refine ra_iconst rfl ?_
    refine ra_iastoreJ (j := 22) rfl sh_180 rfl (by decide) rfl (by decide) ?_
    refine ra_newR (by first | omega | (unfold ra_in at *; omega)) (fun s25 hs25 hs25v hs25o => ?_)
    have hF26 := Fr_tr (lo := 180) (hi := 181) hF24 hs25 (by omega)
    exact ra_return rfl rfl ⟨rfl, (by have q := st_ch hw hp hk hs10v hs10o hs14v hs14o hs16v hs16o hs19v hs19o hs21v hs21o hs23v hs23o hs25v hs25o ⟨⟨by omega, by omega⟩, fun _ => by omega⟩; exact ⟨hF26, q.1, q.2, (fun p p0 p1 => ((hs25o _ (by omega)).trans ((hs23o _ (by omega)).trans ((hs21o _ (by omega)).trans ((hs19o _ (by omega)).trans ((hs16o _ (by omega)).trans ((hs14o _ (by omega)).trans (hs10o _ (by omega)))))))))⟩)⟩
  · refine ra_load rfl rfl rfl rfl ?_
    refine ra_load rfl rfl rfl rfl ?_
    refine ra_load rfl rfl rfl rfl ?_
    refine ra_load rfl rfl rfl rfl ?_
    refine ra_cIPp (sp_223 hx0 hx1 (by first | omega | (unfold ra_in at *; omega)) (WF_a hw) (by first | assumption | rfl | omega)) rfl (ct_223 rfl lk_8_139 (Or.inl rfl) sh_179 (Nat.le_of_ble_eq_true rfl)) (fun z28 hz28 hz28p => ?_)
    refine ra_goto rfl rfl ?_
    refine ra_store (L' := [_, _, _, _, _]) rfl rfl rfl (Nat.le_of_ble_eq_true rfl) rfl ?_
    refine ra_load rfl rfl rfl rfl ?_
    refine ra_getR rfl lk_8_7 (Nat.zero_le _) sh_179 rfl ?_
    refine ra_bipush rfl (by decide) ?_
    refine ra_load rfl rfl rfl rfl ?_
    refine ra_iastoreJ (j := 16) rfl sh_180 rfl (by decide) rfl (by decide) ?_
    refine ra_newR hx0 (fun s29 hs29 hs29v hs29o => ?_)
    have hF30 := Fr_tr (lo := 180) (hi := 181) Fr_rf hs29 (by omega)
    refine ra_load rfl rfl rfl rfl ?_
    refine ra_getR rfl lk_8_7 (Nat.zero_le _) sh_179 rfl ?_
    refine ra_bipush rfl (by decide) ?_
    refine ra_load rfl rfl rfl rfl ?_
    refine ra_load rfl rfl rfl rfl ?_
    refine ra_iconst rfl ?_
    refine ra_cTp (sp_200 hx0 (by first | omega | (unfold ra_in at *; omega)) (by first | assumption | rfl | omega)) rfl (ct_200 rfl lk_8_67 (Or.inl rfl) sh_179 (Nat.le_of_ble_eq_true rfl)) ?_
    have hr32 : ra_in (wq s29 x0 (1)) := (ra_in_wq _ _ _)
    refine ra_iastoreJ (j := 17) rfl sh_180 rfl (by decide) rfl (by decide) ?_
    refine ra_newR hr32 (fun s33 hs33 hs33v hs33o => ?_)
    have hF34 := Fr_tr (lo := 180) (hi := 181) hF30 hs33 (by omega)
    refine ra_load rfl rfl rfl rfl ?_
    refine ra_getR rfl lk_8_7 (Nat.zero_le _) sh_179 rfl ?_
    refine ra_bipush rfl (by decide) ?_
    refine ra_load rfl rfl rfl rfl ?_
    refine ra_iastoreJ (j := 18) rfl sh_180 rfl (by decide) rfl (by decide) ?_
    refine ra_newR hx1 (fun s35 hs35 hs35v hs35o => ?_)
    have hF36 := Fr_tr (lo := 180) (hi := 181) hF34 hs35 (by omega)
    refine ra_load rfl rfl rfl rfl ?_
    refine ra_getR rfl lk_8_7 (Nat.zero_le _) sh_179 rfl ?_
    refine ra_bipush rfl (by decide) ?_
    refine ra_load rfl rfl rfl rfl ?_
    refine ra_getR rfl lk_8_7 (Nat.zero_le _) sh_179 rfl ?_
    refine ra_iconst rfl ?_
    refine ra_ialoadJ (j := 4) rfl sh_180 rfl (by decide) rfl (by decide) ?_
    have hr37 : ra_in (ra_g s35 (180) 4) := (ra_in_g _ _ _)
    refine ra_iastoreJ (j := 19) rfl sh_180 rfl (by decide) rfl (by decide) ?_
    refine ra_newR hr37 (fun s38 hs38 hs38v hs38o => ?_)
    have hF39 := Fr_tr (lo := 180) (hi := 181) hF36 hs38 (by omega)
    refine ra_load rfl rfl rfl rfl ?_
    refine ra_getR rfl lk_8_7 (Nat.zero_le _) sh_179 rfl ?_
    refine ra_bipush rfl (by decide) ?_
    refine ra_load rfl rfl rfl rfl ?_
    refine ra_iastoreJ (j := 20) rfl sh_180 rfl (by decide) rfl (by decide) ?_
    refine ra_newR hz28 (fun s40 hs40 hs40v hs40o => ?_)
    have hF41 := Fr_tr (lo := 180) (hi := 181) hF39 hs40 (by omega)
    refine ra_load rfl rfl rfl rfl ?_
    refine ra_getR rfl lk_8_7 (Nat.zero_le _) sh_179 rfl ?_
    refine ra_bipush rfl (by decide) ?_
    refine ra_iconst rfl ?_
    refine ra_iastoreJ (j := 21) rfl sh_180 rfl (by decide) rfl (by decide) ?_
    refine ra_newR (by first | omega | (unfold ra_in at *; omega)) (fun s42 hs42 hs42v hs42o => ?_)
    have hF43 := Fr_tr (lo := 180) (hi := 181) hF41 hs42 (by omega)
    refine ra_load rfl rfl rfl rfl ?_
    refine ra_getR rfl lk_8_7 (Nat.zero_le _) sh_179 rfl ?_
    refine ra_bipush rfl (by decide) ?_
    refine ra_iconst rfl ?_
    refine ra_iastoreJ (j := 22) rfl sh_180 rfl (by decide) rfl (by decide) ?_
    refine ra_newR (by first | omega | (unfold ra_in at *; omega)) (fun s44 hs44 hs44v hs44o => ?_)
    have hF45 := Fr_tr (lo := 180) (hi := 181) hF43 hs44 (by omega)
    exact ra_return rfl rfl ⟨rfl, (by have q := st_ch hw hp hk hs29v hs29o hs33v hs33o hs35v hs35o hs38v hs38o hs40v hs40o hs42v hs42o hs44v hs44o (sc_ok hw hk rfl (by omega) hz28p); exact ⟨hF45, q.1, q.2, (fun p p0 p1 => ((hs44o _ (by omega)).trans ((hs42o _ (by omega)).trans ((hs40o _ (by omega)).trans ((hs38o _ (by omega)).trans ((hs35o _ (by omega)).trans ((hs33o _ (by omega)).trans (hs29o _ (by omega)))))))))⟩)⟩
theorem sp_318 {n : Nat} {f : Nat → Int32} {d : Nat} {x0 : Int} {x1 : Int} {σ : ra_V} (hx0 : ra_in x0) (hx1 : ra_in x1) (hw : WF σ) (hpw : PW σ) : ra_C (g_Gs n f) g_sh 0 (d + 5) 318 [.index (179), ra_I x0, ra_I x1] σ (fun r s => rI r ∧ Fr (179) (191) σ s ∧ s (183) = σ (183) ∧ s (187) = σ (187) ∧ (∀ a, a ≠ 5 → a ≠ 7 → a ≠ 10 → ra_g s 179 a = ra_g σ 179 a) ∧ WF s ∧ PW s) := by
  refine ra_enter (nn := 0) mt_318 rfl (Nat.le_of_ble_eq_true rfl) rfl (fun h => absurd h (by decide +kernel)) ?_
  have hw0 := WF_a hw
  unfold WFa at hw0
  refine ra_load rfl rfl rfl rfl ?_
  refine ra_iconst rfl ?_
  refine ra_putI rfl lk_8_51 (Nat.zero_le _) sh_179 rfl rfl ?_
  refine ra_newU (by first | omega | (unfold ra_in at *; omega)) (fun s1 hs1 hp2 hp2o => ?_)
  have hp2_99 := hp2o 99 (by decide)
  have hF3 := Fr_tr (lo := 179) (hi := 191) Fr_rf hs1 (by omega)
  have hk4 : s1 (180) = σ (180) := (hs1 (180) (by omega))
  have hk5 : s1 (183) = σ (183) := (hs1 (183) (by omega))
  have hk6 : s1 (184) = σ (184) := (hs1 (184) (by omega))
  have hk7 : s1 (187) = σ (187) := (hs1 (187) (by omega))
  have hg8 : ∀ a, a ≠ 5 → a ≠ 7 → a ≠ 10 → ra_g s1 179 a = ra_g σ 179 a := fun a h5 h7 h10 => ((fun a h7 h10 => hp2o a h7) a h7 h10).trans ((fun _ _ _ _ => rfl) a h5 h7 h10)
  have ho9 : ∀ a, a ≠ 7 → a ≠ 10 → ra_g s1 179 a = ra_g σ 179 a := fun a h7 h10 => ((fun a h7 h10 => hp2o a h7) a h7 h10).trans ((fun _ _ _ => rfl) a h7 h10)
  refine ra_load rfl rfl rfl rfl ?_
  refine ra_load rfl rfl rfl rfl ?_
  refine ra_load rfl rfl rfl rfl ?_
  refine ra_cQPp (sp_202 hx0) rfl (ct_202 rfl lk_8_313 (Or.inl rfl) sh_179 (Nat.le_of_ble_eq_true rfl)) (fun z11 hz11 hz11p => ?_)
  rw [wq_k hk4] at hz11p
  refine ra_ifeq rfl rfl (ra_in01 hz11) (fun h12 => ?_) (fun h12 => ?_)
  · refine ra_iconst rfl ?_
    refine ra_iconst rfl ?_
    refine ra_cT (sp_194 (Or.inl rfl) (by first | omega | (unfold ra_in at *; omega))) rfl (ct_194 rfl lk_8_303 (Or.inl rfl) sh_179 (Nat.le_of_ble_eq_true rfl)) (fun s13 hs13 => ?_)
    obtain ⟨hf14, he15⟩ := hs13
    have hF16 := Fr_tr (lo := 179) (hi := 191) hF3 hf14 (by omega)
    have hk17 : s13 (180) = σ (180) := (hf14 (180) (by omega)).trans hk4
    have hk18 : s13 (183) = σ (183) := (hf14 (183) (by omega)).trans hk5
    have hk19 : s13 (184) = σ (184) := (hf14 (184) (by omega)).trans hk6
    have hk20 : s13 (187) = σ (187) := (hf14 (187) (by omega)).trans hk7
    have hg21 : ∀ a, a ≠ 5 → a ≠ 7 → a ≠ 10 → ra_g s13 179 a = ra_g σ 179 a := fun a h5 h7 h10 => ((fun a h7 h10 => he15 a h7) a h7 h10).trans (hg8 a h5 h7 h10)
    have ho22 : ∀ a, a ≠ 7 → a ≠ 10 → ra_g s13 179 a = ra_g σ 179 a := fun a h7 h10 => ((fun a h7 h10 => he15 a h7) a h7 h10).trans (ho9 a h7 h10)
    refine ra_ifne rfl rfl (by first | omega | (unfold ra_in at *; omega)) (fun h23 => ?_) (fun h23 => ?_)
    · exact absurd h23 (by decide)
    · refine ra_load rfl rfl rfl rfl ?_
      refine ra_load rfl rfl rfl rfl ?_
      refine ra_iconst rfl ?_
      refine ra_cQP (sp_268 hx0 (by first | omega | (unfold ra_in at *; omega))) rfl (ct_268 rfl lk_8_318 (Or.inl rfl) sh_179 (Nat.le_of_ble_eq_true rfl)) (fun z25 s24 hz25 hz25p hs24 => ?_)
      rw [wq_k hk17] at hz25p
      obtain ⟨hf26, he27⟩ := hs24
      have hF28 := Fr_tr (lo := 179) (hi := 191) hF16 hf26 (by omega)
      have hk29 : s24 (180) = σ (180) := (hf26 (180) (by omega)).trans hk17
      have hk30 : s24 (183) = σ (183) := (hf26 (183) (by omega)).trans hk18
      have hk31 : s24 (184) = σ (184) := (hf26 (184) (by omega)).trans hk19
      have hk32 : s24 (187) = σ (187) := (hf26 (187) (by omega)).trans hk20
      have hg33 : ∀ a, a ≠ 5 → a ≠ 7 → a ≠ 10 → ra_g s24 179 a = ra_g σ 179 a := fun a h5 h7 h10 => ((fun a h7 h10 => he27 a h7) a h7 h10).trans (hg21 a h5 h7 h10)
      have ho34 : ∀ a, a ≠ 7 → a ≠ 10 → ra_g s24 179 a = ra_g σ 179 a := fun a h7 h10 => ((fun a h7 h10 => he27 a h7) a h7 h10).trans (ho22 a h7 h10)
      refine ra_ifeq rfl rfl (ra_in01 hz25) (fun h35 => ?_) (fun h35 => ?_)
      · refine ra_load rfl rfl rfl rfl ?_
        have hp := hz25p (by omega)
        have hst := hz11p.mpr hp
        have hq := WF_p hw hp.1 hp.2.1 hp.2.2
        refine ra_cV (sp_197 (WF_k hk29 hw) (PW_k hpw (ho34 5 (by decide) (by decide)) hk31)) rfl (ct_197 rfl lk_8_366 (Or.inl rfl) sh_179 (Nat.le_of_ble_eq_true rfl)) (fun s36 hs36 => ?_)
        obtain ⟨hf37, hc38, hc39, hc40, hc41, he42, he43⟩ := hs36
        have hF44 := Fr_tr (lo := 179) (hi := 191) hF28 hf37 (by omega)
        have hk45 : s36 (180) = σ (180) := hc38.trans hk29
        have hk46 : s36 (183) = σ (183) := hc41.trans hk30
        have hk47 : s36 (187) = σ (187) := (hf37 (187) (by omega)).trans hk32
        have hg48 : ∀ a, a ≠ 5 → a ≠ 7 → a ≠ 10 → ra_g s36 179 a = ra_g σ 179 a := fun a h5 h7 h10 => ((fun a h5 h7 h10 => he42 a h5) a h5 h7 h10).trans (hg33 a h5 h7 h10)
        refine ra_load rfl rfl rfl rfl ?_
        refine ra_load rfl rfl rfl rfl ?_
        refine ra_load rfl rfl rfl rfl ?_
        refine ra_cV (sp_240 hx0 hx1 (WF_k hk45 hw) (sp_k hk45 rfl (hz25p (by omega))) (by exfalso; omega)) rfl (ct_240 rfl lk_8_391 (Or.inl rfl) sh_179 (Nat.le_of_ble_eq_true rfl)) (fun s49 hs49 => ?_)
        obtain ⟨hf50, he51, he52, he53⟩ := hs49
        have hF54 := Fr_tr (lo := 179) (hi := 191) hF44 hf50 (by omega)
        have hk55 : s49 (183) = σ (183) := (hf50 (183) (by omega)).trans hk46
        have hk56 : s49 (187) = σ (187) := (hf50 (187) (by omega)).trans hk47
        have hg57 : ∀ a, a ≠ 5 → a ≠ 7 → a ≠ 10 → ra_g s49 179 a = ra_g σ 179 a := fun a h5 h7 h10 => (ra_gk (hf50 179 (by omega))).trans (hg48 a h5 h7 h10)
        refine ra_load rfl rfl rfl rfl ?_
        refine ra_cIp (sp_235 (MV_f he51 (by have := he52; omega))) rfl (ct_235 rfl lk_8_394 (Or.inl rfl) sh_179 (Nat.le_of_ble_eq_true rfl)) (fun z59 hz59 => ?_)
        exact ra_ireturn rfl rfl ⟨⟨_, hz59, rfl⟩, ⟨hF54, hk55, hk56, hg57, he51, (PW_k he43 (ra_gk (hf50 179 (by omega))) (hf50 184 (by omega)))⟩⟩
      · refine ra_iconst rfl ?_
        exact ra_ireturn rfl rfl ⟨⟨_, (by first | omega | (unfold ra_in at *; omega)), rfl⟩, ⟨hF28, hk30, hk32, hg33, (WF_k hk29 hw), (PW_k hpw (ho34 5 (by decide) (by decide)) hk31)⟩⟩
  · refine ra_load rfl rfl rfl rfl ?_
    refine ra_load rfl rfl rfl rfl ?_
    refine ra_load rfl rfl rfl rfl ?_
    refine ra_cIPp (sp_224 hx0 hx1 (WF_k hk4 hw) (sp_k hk4 rfl (hz11p.mp (by omega)))) rfl (ct_224 rfl lk_8_183 (Or.inl rfl) sh_179 (Nat.le_of_ble_eq_true rfl)) (fun z61 hz61 hz61p => ?_)
    refine ra_ifeq rfl rfl hz61 (fun h62 => ?_) (fun h62 => ?_)
    · refine ra_iconst rfl ?_
      refine ra_iconst rfl ?_
      refine ra_cT (sp_194 (Or.inl rfl) (by first | omega | (unfold ra_in at *; omega))) rfl (ct_194 rfl lk_8_303 (Or.inl rfl) sh_179 (Nat.le_of_ble_eq_true rfl)) (fun s63 hs63 => ?_)
      obtain ⟨hf64, he65⟩ := hs63
      have hF66 := Fr_tr (lo := 179) (hi := 191) hF3 hf64 (by omega)
      have hk67 : s63 (180) = σ (180) := (hf64 (180) (by omega)).trans hk4
      have hk68 : s63 (183) = σ (183) := (hf64 (183) (by omega)).trans hk5
      have hk69 : s63 (184) = σ (184) := (hf64 (184) (by omega)).trans hk6
      have hk70 : s63 (187) = σ (187) := (hf64 (187) (by omega)).trans hk7
      have hg71 : ∀ a, a ≠ 5 → a ≠ 7 → a ≠ 10 → ra_g s63 179 a = ra_g σ 179 a := fun a h5 h7 h10 => ((fun a h7 h10 => he65 a h7) a h7 h10).trans (hg8 a h5 h7 h10)
      have ho72 : ∀ a, a ≠ 7 → a ≠ 10 → ra_g s63 179 a = ra_g σ 179 a := fun a h7 h10 => ((fun a h7 h10 => he65 a h7) a h7 h10).trans (ho9 a h7 h10)
      refine ra_ifne rfl rfl (by first | omega | (unfold ra_in at *; omega)) (fun h73 => ?_) (fun h73 => ?_)
      · exact absurd h73 (by decide)
      · refine ra_load rfl rfl rfl rfl ?_
        refine ra_load rfl rfl rfl rfl ?_
        refine ra_iconst rfl ?_
        refine ra_cQP (sp_268 hx0 (by first | omega | (unfold ra_in at *; omega))) rfl (ct_268 rfl lk_8_318 (Or.inl rfl) sh_179 (Nat.le_of_ble_eq_true rfl)) (fun z75 s74 hz75 hz75p hs74 => ?_)
        rw [wq_k hk67] at hz75p
        obtain ⟨hf76, he77⟩ := hs74
        have hF78 := Fr_tr (lo := 179) (hi := 191) hF66 hf76 (by omega)
        have hk79 : s74 (180) = σ (180) := (hf76 (180) (by omega)).trans hk67
        have hk80 : s74 (183) = σ (183) := (hf76 (183) (by omega)).trans hk68
        have hk81 : s74 (184) = σ (184) := (hf76 (184) (by omega)).trans hk69
        have hk82 : s74 (187) = σ (187) := (hf76 (187) (by omega)).trans hk70
        have hg83 : ∀ a, a ≠ 5 → a ≠ 7 → a ≠ 10 → ra_g s74 179 a = ra_g σ 179 a := fun a h5 h7 h10 => ((fun a h7 h10 => he77 a h7) a h7 h10).trans (hg71 a h5 h7 h10)
        have ho84 : ∀ a, a ≠ 7 → a ≠ 10 → ra_g s74 179 a = ra_g σ 179 a := fun a h7 h10 => ((fun a h7 h10 => he77 a h7) a h7 h10).trans (ho72 a h7 h10)
        refine ra_ifeq rfl rfl (ra_in01 hz75) (fun h85 => ?_) (fun h85 => ?_)
        · refine ra_load rfl rfl rfl rfl ?_
          have hp := hz75p (by omega)
          have hst := hz11p.mpr hp
          have hq := WF_p hw hp.1 hp.2.1 hp.2.2
          have hk := mok_k hk4 (hz61p (by omega))
          refine ra_cV (sp_197 (WF_k hk79 hw) (PW_k hpw (ho84 5 (by decide) (by decide)) hk81)) rfl (ct_197 rfl lk_8_366 (Or.inl rfl) sh_179 (Nat.le_of_ble_eq_true rfl)) (fun s86 hs86 => ?_)
          obtain ⟨hf87, hc88, hc89, hc90, hc91, he92, he93⟩ := hs86
          have hF94 := Fr_tr (lo := 179) (hi := 191) hF78 hf87 (by omega)
          have hk95 : s86 (180) = σ (180) := hc88.trans hk79
          have hk96 : s86 (183) = σ (183) := hc91.trans hk80
          have hk97 : s86 (187) = σ (187) := (hf87 (187) (by omega)).trans hk82
          have hg98 : ∀ a, a ≠ 5 → a ≠ 7 → a ≠ 10 → ra_g s86 179 a = ra_g σ 179 a := fun a h5 h7 h10 => ((fun a h5 h7 h10 => he92 a h5) a h5 h7 h10).trans (hg83 a h5 h7 h10)
          refine ra_load rfl rfl rfl rfl ?_
          refine ra_load rfl rfl rfl rfl ?_
          refine ra_load rfl rfl rfl rfl ?_
          refine ra_cV (sp_240 hx0 hx1 (WF_k hk95 hw) (sp_k hk95 rfl (hz75p (by omega))) (mok_k hk95.symm hk)) rfl (ct_240 rfl lk_8_391 (Or.inl rfl) sh_179 (Nat.le_of_ble_eq_true rfl)) (fun s99 hs99 => ?_)
          obtain ⟨hf100, he101, he102, he103⟩ := hs99
          have hF104 := Fr_tr (lo := 179) (hi := 191) hF94 hf100 (by omega)
          have hk105 : s99 (183) = σ (183) := (hf100 (183) (by omega)).trans hk96
          have hk106 : s99 (187) = σ (187) := (hf100 (187) (by omega)).trans hk97
          have hg107 : ∀ a, a ≠ 5 → a ≠ 7 → a ≠ 10 → ra_g s99 179 a = ra_g σ 179 a := fun a h5 h7 h10 => (ra_gk (hf100 179 (by omega))).trans (hg98 a h5 h7 h10)
          refine ra_load rfl rfl rfl rfl ?_
          refine ra_cIp (sp_235 (MV_f he101 (by have := he102; omega))) rfl (ct_235 rfl lk_8_394 (Or.inl rfl) sh_179 (Nat.le_of_ble_eq_true rfl)) (fun z109 hz109 => ?_)
          exact ra_ireturn rfl rfl ⟨⟨_, hz109, rfl⟩, ⟨hF104, hk105, hk106, hg107, he101, (PW_k he93 (ra_gk (hf100 179 (by omega))) (hf100 184 (by omega)))⟩⟩
        · refine ra_iconst rfl ?_
          exact ra_ireturn rfl rfl ⟨⟨_, (by first | omega | (unfold ra_in at *; omega)), rfl⟩, ⟨hF78, hk80, hk82, hg83, (WF_k hk79 hw), (PW_k hpw (ho84 5 (by decide) (by decide)) hk81)⟩⟩
    · refine ra_iconst rfl ?_
      refine ra_goto rfl rfl ?_
      refine ra_iconst rfl ?_
      refine ra_cT (sp_194 (Or.inr rfl) (by first | omega | (unfold ra_in at *; omega))) rfl (ct_194 rfl lk_8_303 (Or.inl rfl) sh_179 (Nat.le_of_ble_eq_true rfl)) (fun s110 hs110 => ?_)
      obtain ⟨hf111, he112⟩ := hs110
      have hF113 := Fr_tr (lo := 179) (hi := 191) hF3 hf111 (by omega)
      have hk114 : s110 (180) = σ (180) := (hf111 (180) (by omega)).trans hk4
      have hk115 : s110 (183) = σ (183) := (hf111 (183) (by omega)).trans hk5
      have hk116 : s110 (184) = σ (184) := (hf111 (184) (by omega)).trans hk6
      have hk117 : s110 (187) = σ (187) := (hf111 (187) (by omega)).trans hk7
      have hg118 : ∀ a, a ≠ 5 → a ≠ 7 → a ≠ 10 → ra_g s110 179 a = ra_g σ 179 a := fun a h5 h7 h10 => ((fun a h7 h10 => he112 a h7) a h7 h10).trans (hg8 a h5 h7 h10)
      have ho119 : ∀ a, a ≠ 7 → a ≠ 10 → ra_g s110 179 a = ra_g σ 179 a := fun a h7 h10 => ((fun a h7 h10 => he112 a h7) a h7 h10).trans (ho9 a h7 h10)
      refine ra_ifne rfl rfl (by first | omega | (unfold ra_in at *; omega)) (fun h120 => ?_) (fun h120 => ?_)
      · refine ra_iconst rfl ?_
        exact ra_ireturn rfl rfl ⟨⟨_, (by first | omega | (unfold ra_in at *; omega)), rfl⟩, ⟨hF113, hk115, hk117, hg118, (WF_k hk114 hw), (PW_k hpw (ho119 5 (by decide) (by decide)) hk116)⟩⟩
      · exact absurd h120 (by decide)
end RB
end
section
/-! a step of a move -/
section RB
def MG (σ : ra_V) : Prop := (0 ≤ ra_g σ 180 16 ∧ ra_g σ 180 16 < 8) ∧ (1 ≤ msz σ ∧ msz σ ≤ 600 ∧ wq σ (ra_g σ 180 16) 2 = msz σ) ∧ (1 ≤ ra_g σ 180 19 ∧ ra_g σ 180 19 ≤ 16)
section
variable {σ s : ra_V}
theorem st_rel {s1 s2 s3 : ra_V} (c : SC σ s1) (o2 : ∀ a, a ≠ 6 → ra_g s2 180 a = ra_g s1 180 a) (o3 : ∀ a, a ≠ 22 → ra_g s3 180 a = ra_g s2 180 a) : ∀ a, REL a → a ≠ 21 → a ≠ 22 → ra_g s3 180 a = ra_g σ 180 a := fun a ha _ h2 => by
  unfold REL at ha
  rw [o3 a h2, o2 a (by omega), c a (by omega)]
theorem st_rel2 {t : ra_V} (h : ∀ a, REL a → a ≠ 21 → a ≠ 22 → ra_g s 180 a = ra_g σ 180 a) (o : ∀ a, a ≠ 21 → ra_g t 180 a = ra_g s 180 a) : ∀ a, REL a → a ≠ 21 → a ≠ 22 → ra_g t 180 a = ra_g σ 180 a := fun a ha h1 h2 => (o a h1).trans (h a ha h1 h2)
theorem mg_r (hm : MF σ) (h : ∀ a, REL a → a ≠ 21 → a ≠ 22 → ra_g s 180 a = ra_g σ 180 a) : ra_g s 180 16 = ra_g σ 180 16 ∧ ra_g s 180 18 = ra_g σ 180 18 ∧ MG s ∧ rch s = rch σ := by
  have e16 := h 16 (Or.inr (Or.inl (by omega))) (by omega) (by omega)
  have e18 := h 18 (Or.inr (Or.inl (by omega))) (by omega) (by omega)
  have e19 := h 19 (Or.inr (Or.inl (by omega))) (by omega) (by omega)
  obtain ⟨m1, -, -, m4, -, -, -, m8, -⟩ := hm
  have ez : msz s = msz σ := by
    unfold msz
    rw [e16]
    exact h _ (Or.inr (Or.inr (by omega))) (by omega) (by omega)
  refine ⟨e16, e18, ⟨by omega, ⟨by omega, by omega, rfl⟩, by omega⟩, ?_⟩
  unfold rch
  rw [ez, e19]
theorem mv_w (hw : WF σ) (hm : MF σ) (h : ∀ a, REL a → a ≠ 21 → a ≠ 22 → ra_g s 180 a = ra_g σ 180 a) (h21 : 0 ≤ ra_g s 180 21 ∧ ra_g s 180 21 < rch σ) (h22 : ra_g s 180 22 = 0 ∨ ra_g s 180 22 = 1) : WF s := by
  have e : ∀ p w, 0 ≤ p → p < 8 → 0 ≤ w → w < 4 → wf (rw_ s) p w = wf (rw_ σ) p w := fun p w p0 p1 w0 w1 => h _ (Or.inr (Or.inr (by omega))) (by omega) (by omega)
  have e0 : ∀ j, (j < 5 ∨ (16 ≤ j ∧ j ≤ 20)) → rw_ s j = rw_ σ j := fun j hj => h j (by unfold REL; omega) (by omega) (by omega)
  obtain ⟨h1, h2, h3, h4, h5⟩ := hw
  have hp := hm.1
  have hm1 : ra_g σ 180 16 ≠ -1 := by omega
  refine ⟨?_, fun q p0 p1 => ?_, fun q p0 p1 pe => ?_, fun q r p0 p1 q0 q1 hn pe qe => ?_, Or.inr ?_⟩
  · unfold WFs
    rw [e0 0 (by omega), e0 1 (by omega), e0 2 (by omega), e0 3 (by omega), e0 4 (by omega)]
    exact h1
  · rw [e q 0 p0 p1 (by omega) (by omega)]
    exact h2 q p0 p1
  · rw [e q 0 p0 p1 (by omega) (by omega)] at pe
    have h6 := h3 q p0 p1 pe
    unfold WFp at *
    rw [e q 3 p0 p1 (by omega) (by omega), e q 2 p0 p1 (by omega) (by omega), e q 1 p0 p1 (by omega) (by omega), e0 0 (by omega), e0 1 (by omega), e0 2 (by omega)]
    exact h6
  · rw [e q 0 p0 p1 (by omega) (by omega)] at pe
    rw [e r 0 q0 q1 (by omega) (by omega)] at qe
    rw [e q 1 p0 p1 (by omega) (by omega), e q 2 p0 p1 (by omega) (by omega), e r 1 q0 q1 (by omega) (by omega), e r 2 q0 q1 (by omega) (by omega)]
    exact h4 q r p0 p1 q0 q1 hn pe qe
  · rcases h5 with h5 | h5
    · exact absurd h5 hm1
    · have hq := h5.1
      unfold WFm at *
      rw [e0 16 (by omega), e0 17 (by omega), e0 18 (by omega), e0 19 (by omega), e0 20 (by omega), e0 0 (by omega), e0 1 (by omega), e0 2 (by omega), e _ 0 hq.1 hq.2 (by omega) (by omega), e _ 1 hq.1 hq.2 (by omega) (by omega), e _ 2 hq.1 hq.2 (by omega) (by omega)]
      obtain ⟨c1, c2, c3, c4, c5, c6, c7, c8, c9, c10, c11⟩ := h5
      refine ⟨c1, c2, c3, c4, c5, c6, h21, h22, c9, c10, fun r q0 q1 hn qe => ?_⟩
      rw [e r 0 q0 q1 (by omega) (by omega)] at qe
      rw [e r 1 q0 q1 (by omega) (by omega), e r 2 q0 q1 (by omega) (by omega)]
      exact c11 r q0 q1 hn qe
theorem mv_e {p : Int} (hw : WF σ) (hm : MF σ) (ep : p = ra_g σ 180 16) (h : ∀ a, REL a → a ≠ 16 → a ≠ 21 → a ≠ 22 → a ≠ (24 + 8 * p + 1).toNat → ra_g s 180 a = ra_g σ 180 a) (v : wq s p 1 = ra_g σ 180 18) (v16 : ra_g s 180 16 = -1) : WF s := by
  have hp := hm.1
  have e : ∀ q w, 0 ≤ q → q < 8 → 0 ≤ w → w < 4 → (q ≠ p ∨ w ≠ 1) → wf (rw_ s) q w = wf (rw_ σ) q w := fun q w p0 p1 w0 w1 hn => h _ (Or.inr (Or.inr (by omega))) (by omega) (by omega) (by omega) (by omega)
  have e0 : ∀ j, j < 5 → rw_ s j = rw_ σ j := fun j hj => h j (by unfold REL; omega) (by omega) (by omega) (by omega) (by omega)
  have hv := WF_m hw (by omega)
  subst ep
  have hp2 : wq σ (ra_g σ 180 16) 0 = 1 := hm.2.1
  have hpp := WF_p hw hp.1 hp.2 hp2
  have c4 : ra_g σ 180 1 ≤ ra_g σ 180 18 ∧ ra_g σ 180 18 + wq σ (ra_g σ 180 16) 2 ≤ ra_g σ 180 0 - ra_g σ 180 2 := hv.2.2.2.1
  have c11 : ∀ q, 0 ≤ q → q < 8 → q ≠ ra_g σ 180 16 → wq σ q 0 = 1 → ra_g σ 180 18 + wq σ (ra_g σ 180 16) 2 ≤ wq σ q 1 ∨ wq σ q 1 + wq σ q 2 ≤ ra_g σ 180 18 := hv.2.2.2.2.2.2.2.2.2.2
  obtain ⟨h1, h2, h3, h4, h5⟩ := hw
  refine ⟨?_, fun q p0 p1 => ?_, fun q p0 p1 pe => ?_, fun q r p0 p1 q0 q1 hn pe qe => ?_, Or.inl v16⟩
  · unfold WFs
    rw [e0 0 (by omega), e0 1 (by omega), e0 2 (by omega), e0 3 (by omega), e0 4 (by omega)]
    exact h1
  · rw [e q 0 p0 p1 (by omega) (by omega) (by omega)]
    exact h2 q p0 p1
  · rw [e q 0 p0 p1 (by omega) (by omega) (by omega)] at pe
    have h6 := h3 q p0 p1 pe
    unfold WFp at *
    rw [e q 3 p0 p1 (by omega) (by omega) (by omega), e q 2 p0 p1 (by omega) (by omega) (by omega), e0 0 (by omega), e0 1 (by omega), e0 2 (by omega)]
    by_cases eq : q = ra_g σ 180 16
    · subst eq
      have v : wf (rw_ s) (ra_g σ 180 16) 1 = ra_g σ 180 18 := v
      rw [v]
      exact ⟨h6.1, h6.2.1, c4.1, c4.2⟩
    · rw [e q 1 p0 p1 (by omega) (by omega) (by omega)]
      exact h6
  · rw [e q 0 p0 p1 (by omega) (by omega) (by omega)] at pe
    rw [e r 0 q0 q1 (by omega) (by omega) (by omega)] at qe
    have v : wf (rw_ s) (ra_g σ 180 16) 1 = ra_g σ 180 18 := v
    rw [e q 2 p0 p1 (by omega) (by omega) (by omega), e r 2 q0 q1 (by omega) (by omega) (by omega)]
    by_cases eq : q = ra_g σ 180 16
    · subst eq
      rw [v, e r 1 q0 q1 (by omega) (by omega) (by omega)]
      exact c11 r q0 q1 (Ne.symm hn) qe
    · by_cases er : r = ra_g σ 180 16
      · subst er
        rw [v, e q 1 p0 p1 (by omega) (by omega) (by omega)]
        have t : ra_g σ 180 18 + wf (rw_ σ) (ra_g σ 180 16) 2 ≤ wf (rw_ σ) q 1 ∨ wf (rw_ σ) q 1 + wf (rw_ σ) q 2 ≤ ra_g σ 180 18 := c11 q p0 p1 eq pe
        unfold ref_apart
        omega
      · rw [e q 1 p0 p1 (by omega) (by omega) (by omega), e r 1 q0 q1 (by omega) (by omega) (by omega)]
        exact h4 q r p0 p1 q0 q1 hn pe qe
theorem mv_ec {s4 s5 s6 s7 s8 : ra_V} {p : Int} (hw : WF σ) (hm : MF σ) (h : ∀ a, REL a → a ≠ 21 → a ≠ 22 → ra_g s4 180 a = ra_g σ 180 a) (ep : p = ra_g s4 180 16) (v5 : wq s5 p 1 = ra_g s4 180 18) (o5 : ∀ a, a ≠ (24 + 8 * p + 1).toNat → ra_g s5 180 a = ra_g s4 180 a) (o6 : ∀ a, a ≠ (24 + 8 * p + 7).toNat → ra_g s6 180 a = ra_g s5 180 a)
    (v7 : ra_g s7 180 16 = -1) (o7 : ∀ a, a ≠ 16 → ra_g s7 180 a = ra_g s6 180 a) (o8 : ∀ a, a ≠ 8 → ra_g s8 180 a = ra_g s7 180 a) : WF s8 := by
  have hg := mg_r hm h
  have hp := hm.1
  refine mv_e (p := p) hw hm (by omega) (fun a ha h1 h2 h3 h4 => ?_) ?_ ((o8 16 (by omega)).trans v7)
  · unfold REL at ha
    rw [o8 a (by omega), o7 a h1, o6 a (by omega), o5 a h4]
    exact h a (by unfold REL; omega) h2 h3
  · have e : wq s8 p 1 = wq s5 p 1 := by
      show ra_g s8 180 _ = _
      rw [o8 _ (by omega), o7 _ (by omega), o6 _ (by omega)]
      rfl
    rw [e, v5]
    exact hg.2.1
end
end RB
end
