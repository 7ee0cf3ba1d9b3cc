/-! the reference: what its methods do (printed by wip/gen/ref.py) -/
section RB
theorem sp_311 {n : Nat} {f : Nat → Int32} {d : Nat} {x0 : Int} {σ : ra_V} (hx0 : ra_in x0) (hw : WF σ) (hpw : PW σ) : ra_C (g_Gs n f) g_sh 0 (d + 5) 311 [.index (179), ra_I x0] σ (fun r s => rI r ∧ Fr (179) (191) σ s ∧ s (183) = σ (183) ∧ s (187) = σ (187) ∧ (∀ a, a ≠ 5 → a ≠ 7 → a ≠ 10 → ra_g s 179 a = ra_g σ 179 a) ∧ WF s ∧ PW s) := by
  refine ra_enter (nn := 1) mt_311 rfl (Nat.le_of_ble_eq_true rfl) rfl (fun h => absurd h (by decide +kernel)) ?_
  have hw0 := WF_a hw
  unfold WFa at hw0
  refine ra_load rfl rfl rfl rfl ?_
  refine ra_iconst rfl ?_
  refine ra_putI rfl lk_8_51 (Nat.zero_le _) sh_179 rfl rfl ?_
  refine ra_newU (by first | omega | (unfold ra_in at *; omega)) (fun s1 hs1 hp2 hp2o => ?_)
  have hp2_99 := hp2o 99 (by decide)
  have hF3 := Fr_tr (lo := 179) (hi := 191) Fr_rf hs1 (by omega)
  have hk4 : s1 (180) = σ (180) := (hs1 (180) (by omega))
  have hk5 : s1 (183) = σ (183) := (hs1 (183) (by omega))
  have hk6 : s1 (184) = σ (184) := (hs1 (184) (by omega))
  have hk7 : s1 (187) = σ (187) := (hs1 (187) (by omega))
  have hg8 : ∀ a, a ≠ 5 → a ≠ 7 → a ≠ 10 → ra_g s1 179 a = ra_g σ 179 a := fun a h5 h7 h10 => ((fun a h7 h10 => hp2o a h7) a h7 h10).trans ((fun _ _ _ _ => rfl) a h5 h7 h10)
  have ho9 : ∀ a, a ≠ 7 → a ≠ 10 → ra_g s1 179 a = ra_g σ 179 a := fun a h7 h10 => ((fun a h7 h10 => hp2o a h7) a h7 h10).trans ((fun _ _ _ => rfl) a h7 h10)
  refine ra_load rfl rfl rfl rfl ?_
  refine ra_load rfl rfl rfl rfl ?_
  refine ra_load rfl rfl rfl rfl ?_
  refine ra_cQPp (sp_201 hx0) rfl (ct_201 rfl lk_8_313 (Or.inl rfl) sh_179 (Nat.le_of_ble_eq_true rfl)) (fun z11 hz11 hz11p => ?_)
  rw [wq_k hk4] at hz11p
  refine ra_ifeq rfl rfl (ra_in01 hz11) (fun h12 => ?_) (fun h12 => ?_)
  · refine ra_iconst rfl ?_
    refine ra_iconst rfl ?_
    refine ra_cT (sp_193 (Or.inl rfl) (by first | omega | (unfold ra_in at *; omega))) rfl (ct_193 rfl lk_8_303 (Or.inl rfl) sh_179 (Nat.le_of_ble_eq_true rfl)) (fun s13 hs13 => ?_)
    obtain ⟨hf14, he15⟩ := hs13
    have hF16 := Fr_tr (lo := 179) (hi := 191) hF3 hf14 (by omega)
    have hk17 : s13 (180) = σ (180) := (hf14 (180) (by omega)).trans hk4
    have hk18 : s13 (183) = σ (183) := (hf14 (183) (by omega)).trans hk5
    have hk19 : s13 (184) = σ (184) := (hf14 (184) (by omega)).trans hk6
    have hk20 : s13 (187) = σ (187) := (hf14 (187) (by omega)).trans hk7
    have hg21 : ∀ a, a ≠ 5 → a ≠ 7 → a ≠ 10 → ra_g s13 179 a = ra_g σ 179 a := fun a h5 h7 h10 => ((fun a h7 h10 => he15 a h7) a h7 h10).trans (hg8 a h5 h7 h10)
    have ho22 : ∀ a, a ≠ 7 → a ≠ 10 → ra_g s13 179 a = ra_g σ 179 a := fun a h7 h10 => ((fun a h7 h10 => he15 a h7) a h7 h10).trans (ho9 a h7 h10)
    refine ra_ifne rfl rfl (by first | omega | (unfold ra_in at *; omega)) (fun h23 => ?_) (fun h23 => ?_)
    · exact absurd h23 (by decide)
    · refine ra_load rfl rfl rfl rfl ?_
      refine ra_load rfl rfl rfl rfl ?_
      refine ra_iconst rfl ?_
      refine ra_cQP (sp_267 hx0 (by first | omega | (unfold ra_in at *; omega))) rfl (ct_267 rfl lk_8_318 (Or.inl rfl) sh_179 (Nat.le_of_ble_eq_true rfl)) (fun z25 s24 hz25 hz25p hs24 => ?_)
      rw [wq_k hk17] at hz25p
      obtain ⟨hf26, he27⟩ := hs24
      have hF28 := Fr_tr (lo := 179) (hi := 191) hF16 hf26 (by omega)
      have hk29 : s24 (180) = σ (180) := (hf26 (180) (by omega)).trans hk17
      have hk30 : s24 (183) = σ (183) := (hf26 (183) (by omega)).trans hk18
      have hk31 : s24 (184) = σ (184) := (hf26 (184) (by omega)).trans hk19
      have hk32 : s24 (187) = σ (187) := (hf26 (187) (by omega)).trans hk20
      have hg33 : ∀ a, a ≠ 5 → a ≠ 7 → a ≠ 10 → ra_g s24 179 a = ra_g σ 179 a := fun a h5 h7 h10 => ((fun a h7 h10 => he27 a h7) a h7 h10).trans (hg21 a h5 h7 h10)
      have ho34 : ∀ a, a ≠ 7 → a ≠ 10 → ra_g s24 179 a = ra_g σ 179 a := fun a h7 h10 => ((fun a h7 h10 => he27 a h7) a h7 h10).trans (ho22 a h7 h10)
      refine ra_ifeq rfl rfl (ra_in01 hz25) (fun h35 => ?_) (fun h35 => ?_)
      · refine ra_load rfl rfl rfl rfl ?_
        have hp := hz25p (by omega)
        have hst := hz11p.mpr hp
        have hq := WF_p hw hp.1 hp.2.1 hp.2.2
        refine ra_cV (sp_196 (WF_k hk29 hw) (PW_k hpw (ho34 5 (by decide) (by decide)) hk31)) rfl (ct_196 rfl lk_8_366 (Or.inl rfl) sh_179 (Nat.le_of_ble_eq_true rfl)) (fun s36 hs36 => ?_)
        obtain ⟨hf37, hc38, hc39, hc40, hc41, he42, he43⟩ := hs36
        have hF44 := Fr_tr (lo := 179) (hi := 191) hF28 hf37 (by omega)
        have hk45 : s36 (180) = σ (180) := hc38.trans hk29
        have hk46 : s36 (183) = σ (183) := hc41.trans hk30
        have hk47 : s36 (187) = σ (187) := (hf37 (187) (by omega)).trans hk32
        have hg48 : ∀ a, a ≠ 5 → a ≠ 7 → a ≠ 10 → ra_g s36 179 a = ra_g σ 179 a := fun a h5 h7 h10 => ((fun a h5 h7 h10 => he42 a h5) a h5 h7 h10).trans (hg33 a h5 h7 h10)
        refine ra_load rfl rfl rfl rfl ?_
        refine ra_load rfl rfl rfl rfl ?_
        refine ra_cIPp (sp_309 hx0 (WF_k hk45 hw) (sp_k hk45 rfl (hz25p (by omega)))) rfl (ct_309 rfl lk_8_378 (Or.inl rfl) sh_179 (Nat.le_of_ble_eq_true rfl)) (fun z50 hz50 hz50p => ?_)
        refine ra_store (L' := [_, _, _]) rfl rfl rfl (Nat.le_of_ble_eq_true rfl) rfl ?_
        refine ra_load rfl rfl rfl rfl ?_
        refine ra_load rfl rfl rfl rfl ?_
        refine ra_iconst rfl ?_
        refine ra_iconst rfl ?_
        refine ra_cV (sp_200 hz50 (by first | omega | (unfold ra_in at *; omega)) (by first | omega | (unfold ra_in at *; omega)) (by first | assumption | rfl | omega)) rfl (ct_200 rfl lk_8_78 (Or.inl rfl) sh_179 (Nat.le_of_ble_eq_true rfl)) (fun s51 hs51 => ?_)
        obtain ⟨hf52, he53, he54⟩ := hs51
        have hF55 := Fr_tr (lo := 179) (hi := 191) hF44 hf52 (by omega)
        have hk56 : s51 (183) = σ (183) := (hf52 (183) (by omega)).trans hk46
        have hk57 : s51 (187) = σ (187) := (hf52 (187) (by omega)).trans hk47
        have hg58 : ∀ a, a ≠ 5 → a ≠ 7 → a ≠ 10 → ra_g s51 179 a = ra_g σ 179 a := fun a h5 h7 h10 => (ra_gk (hf52 179 (by omega))).trans (hg48 a h5 h7 h10)
        refine ra_load rfl rfl rfl rfl ?_
        refine ra_load rfl rfl rfl rfl ?_
        refine ra_load rfl rfl rfl rfl ?_
        refine ra_load rfl rfl rfl rfl ?_
        refine ra_iconst rfl ?_
        refine ra_cTp (sp_199 hx0 (by first | omega | (unfold ra_in at *; omega)) (by first | assumption | rfl | omega)) rfl (ct_199 rfl lk_8_67 (Or.inl rfl) sh_179 (Nat.le_of_ble_eq_true rfl)) ?_
        have hr60 : ra_in (wq s51 x0 (2)) := (ra_in_wq _ _ _)
        refine ra_load rfl rfl rfl rfl ?_
        refine ra_load rfl rfl rfl rfl ?_
        refine ra_iconst rfl ?_
        refine ra_cTp (sp_199 hz50 (by first | omega | (unfold ra_in at *; omega)) (by first | assumption | rfl | omega)) rfl (ct_199 rfl lk_8_67 (Or.inl rfl) sh_179 (Nat.le_of_ble_eq_true rfl)) ?_
        have hr62 : ra_in (wq s51 z50 (2)) := (ra_in_wq _ _ _)
        refine ra_iadd rfl ?_
        refine ra_cV (sp_303 hx0 (by first | omega | (unfold ra_in at *; omega)) (by first | assumption | rfl | omega) (by first | assumption | rfl | omega)) rfl (ct_303 rfl lk_8_375 (Or.inl rfl) sh_179 (Nat.le_of_ble_eq_true rfl)) (fun s63 hs63 => ?_)
        obtain ⟨hf64, he65⟩ := hs63
        have hF66 := Fr_tr (lo := 179) (hi := 191) hF55 hf64 (by omega)
        have hk67 : s63 (183) = σ (183) := (hf64 (183) (by omega)).trans hk56
        have hk68 : s63 (187) = σ (187) := (hf64 (187) (by omega)).trans hk57
        have hg69 : ∀ a, a ≠ 5 → a ≠ 7 → a ≠ 10 → ra_g s63 179 a = ra_g σ 179 a := fun a h5 h7 h10 => (ra_gk (hf64 179 (by omega))).trans (hg58 a h5 h7 h10)
        refine ra_load rfl rfl rfl rfl ?_
        exact ra_ireturn rfl rfl ⟨⟨_, hz50, rfl⟩, ⟨hF66, hk67, hk68, hg69, (by exfalso; omega), (PW_k (PW_k he43 (ra_gk (hf52 179 (by omega))) (hf52 184 (by omega))) (ra_gk (hf64 179 (by omega))) (hf64 184 (by omega)))⟩⟩
      · refine ra_iconst rfl ?_
        exact ra_ireturn rfl rfl ⟨⟨_, (by first | omega | (unfold ra_in at *; omega)), rfl⟩, ⟨hF28, hk30, hk32, hg33, (WF_k hk29 hw), (PW_k hpw (ho34 5 (by decide) (by decide)) hk31)⟩⟩
  · refine ra_load rfl rfl rfl rfl ?_
    refine ra_load rfl rfl rfl rfl ?_
    refine ra_cQPp (sp_310 hx0 (WF_k hk4 hw) (sp_k hk4 rfl (hz11p.mp (by omega)))) rfl (ct_310 rfl lk_8_381 (Or.inl rfl) sh_179 (Nat.le_of_ble_eq_true rfl)) (fun z71 hz71 hz71p => ?_)
    refine ra_ifne rfl rfl (ra_in01 hz71) (fun h72 => ?_) (fun h72 => ?_)
    · refine ra_iconst rfl ?_
      refine ra_iconst rfl ?_
      refine ra_cT (sp_193 (Or.inl rfl) (by first | omega | (unfold ra_in at *; omega))) rfl (ct_193 rfl lk_8_303 (Or.inl rfl) sh_179 (Nat.le_of_ble_eq_true rfl)) (fun s73 hs73 => ?_)
      obtain ⟨hf74, he75⟩ := hs73
      have hF76 := Fr_tr (lo := 179) (hi := 191) hF3 hf74 (by omega)
      have hk77 : s73 (180) = σ (180) := (hf74 (180) (by omega)).trans hk4
      have hk78 : s73 (183) = σ (183) := (hf74 (183) (by omega)).trans hk5
      have hk79 : s73 (184) = σ (184) := (hf74 (184) (by omega)).trans hk6
      have hk80 : s73 (187) = σ (187) := (hf74 (187) (by omega)).trans hk7
      have hg81 : ∀ a, a ≠ 5 → a ≠ 7 → a ≠ 10 → ra_g s73 179 a = ra_g σ 179 a := fun a h5 h7 h10 => ((fun a h7 h10 => he75 a h7) a h7 h10).trans (hg8 a h5 h7 h10)
      have ho82 : ∀ a, a ≠ 7 → a ≠ 10 → ra_g s73 179 a = ra_g σ 179 a := fun a h7 h10 => ((fun a h7 h10 => he75 a h7) a h7 h10).trans (ho9 a h7 h10)
      refine ra_ifne rfl rfl (by first | omega | (unfold ra_in at *; omega)) (fun h83 => ?_) (fun h83 => ?_)
      · exact absurd h83 (by decide)
      · refine ra_load rfl rfl rfl rfl ?_
        refine ra_load rfl rfl rfl rfl ?_
        refine ra_iconst rfl ?_
        refine ra_cQP (sp_267 hx0 (by first | omega | (unfold ra_in at *; omega))) rfl (ct_267 rfl lk_8_318 (Or.inl rfl) sh_179 (Nat.le_of_ble_eq_true rfl)) (fun z85 s84 hz85 hz85p hs84 => ?_)
        rw [wq_k hk77] at hz85p
        obtain ⟨hf86, he87⟩ := hs84
        have hF88 := Fr_tr (lo := 179) (hi := 191) hF76 hf86 (by omega)
        have hk89 : s84 (180) = σ (180) := (hf86 (180) (by omega)).trans hk77
        have hk90 : s84 (183) = σ (183) := (hf86 (183) (by omega)).trans hk78
        have hk91 : s84 (184) = σ (184) := (hf86 (184) (by omega)).trans hk79
        have hk92 : s84 (187) = σ (187) := (hf86 (187) (by omega)).trans hk80
        have hg93 : ∀ a, a ≠ 5 → a ≠ 7 → a ≠ 10 → ra_g s84 179 a = ra_g σ 179 a := fun a h5 h7 h10 => ((fun a h7 h10 => he87 a h7) a h7 h10).trans (hg81 a h5 h7 h10)
        have ho94 : ∀ a, a ≠ 7 → a ≠ 10 → ra_g s84 179 a = ra_g σ 179 a := fun a h7 h10 => ((fun a h7 h10 => he87 a h7) a h7 h10).trans (ho82 a h7 h10)
        refine ra_ifeq rfl rfl (ra_in01 hz85) (fun h95 => ?_) (fun h95 => ?_)
        · refine ra_load rfl rfl rfl rfl ?_
          have hp := hz85p (by omega)
          have hst := hz11p.mpr hp
          have hq := WF_p hw hp.1 hp.2.1 hp.2.2
          have hc := cj_k hk4 (hz71p (by omega))
          refine ra_cV (sp_196 (WF_k hk89 hw) (PW_k hpw (ho94 5 (by decide) (by decide)) hk91)) rfl (ct_196 rfl lk_8_366 (Or.inl rfl) sh_179 (Nat.le_of_ble_eq_true rfl)) (fun s96 hs96 => ?_)
          obtain ⟨hf97, hc98, hc99, hc100, hc101, he102, he103⟩ := hs96
          have hF104 := Fr_tr (lo := 179) (hi := 191) hF88 hf97 (by omega)
          have hk105 : s96 (180) = σ (180) := hc98.trans hk89
          have hk106 : s96 (183) = σ (183) := hc101.trans hk90
          have hk107 : s96 (187) = σ (187) := (hf97 (187) (by omega)).trans hk92
          have hg108 : ∀ a, a ≠ 5 → a ≠ 7 → a ≠ 10 → ra_g s96 179 a = ra_g σ 179 a := fun a h5 h7 h10 => ((fun a h5 h7 h10 => he102 a h5) a h5 h7 h10).trans (hg93 a h5 h7 h10)
          refine ra_load rfl rfl rfl rfl ?_
          refine ra_load rfl rfl rfl rfl ?_
          refine ra_cIPp (sp_309 hx0 (WF_k hk105 hw) (sp_k hk105 rfl (hz85p (by omega)))) rfl (ct_309 rfl lk_8_378 (Or.inl rfl) sh_179 (Nat.le_of_ble_eq_true rfl)) (fun z110 hz110 hz110p => ?_)
          have hj := nb_j (WF_k hk105 hw) ⟨hp.1, hp.2.1, (wq_k hk105).trans hp.2.2⟩ (cj_k hk105.symm hc) hz110p
          have hp2 := (⟨hp.1, hp.2.1, (wq_k hk105).trans hp.2.2⟩ : 0 ≤ x0 ∧ x0 < 8 ∧ wq s96 x0 0 = 1)
          refine ra_store (L' := [_, _, _]) rfl rfl rfl (Nat.le_of_ble_eq_true rfl) rfl ?_
          refine ra_load rfl rfl rfl rfl ?_
          refine ra_load rfl rfl rfl rfl ?_
          refine ra_iconst rfl ?_
          refine ra_iconst rfl ?_
          refine ra_cV (sp_200 hz110 (by first | omega | (unfold ra_in at *; omega)) (by first | omega | (unfold ra_in at *; omega)) (by first | assumption | rfl | omega)) rfl (ct_200 rfl lk_8_78 (Or.inl rfl) sh_179 (Nat.le_of_ble_eq_true rfl)) (fun s111 hs111 => ?_)
          obtain ⟨hf112, he113, he114⟩ := hs111
          have hF115 := Fr_tr (lo := 179) (hi := 191) hF104 hf112 (by omega)
          have hk116 : s111 (183) = σ (183) := (hf112 (183) (by omega)).trans hk106
          have hk117 : s111 (187) = σ (187) := (hf112 (187) (by omega)).trans hk107
          have hg118 : ∀ a, a ≠ 5 → a ≠ 7 → a ≠ 10 → ra_g s111 179 a = ra_g σ 179 a := fun a h5 h7 h10 => (ra_gk (hf112 179 (by omega))).trans (hg108 a h5 h7 h10)
          have hb := jn_b (WF_k hk105 hw) hp2 hj he114
          refine ra_load rfl rfl rfl rfl ?_
          refine ra_load rfl rfl rfl rfl ?_
          refine ra_load rfl rfl rfl rfl ?_
          refine ra_load rfl rfl rfl rfl ?_
          refine ra_iconst rfl ?_
          refine ra_cTp (sp_199 hx0 (by first | omega | (unfold ra_in at *; omega)) (by first | assumption | rfl | omega)) rfl (ct_199 rfl lk_8_67 (Or.inl rfl) sh_179 (Nat.le_of_ble_eq_true rfl)) ?_
          have hr120 : ra_in (wq s111 x0 (2)) := (ra_in_wq _ _ _)
          refine ra_load rfl rfl rfl rfl ?_
          refine ra_load rfl rfl rfl rfl ?_
          refine ra_iconst rfl ?_
          refine ra_cTp (sp_199 hz110 (by first | omega | (unfold ra_in at *; omega)) (by first | assumption | rfl | omega)) rfl (ct_199 rfl lk_8_67 (Or.inl rfl) sh_179 (Nat.le_of_ble_eq_true rfl)) ?_
          have hr122 : ra_in (wq s111 z110 (2)) := (ra_in_wq _ _ _)
          refine ra_iadd rfl ?_
          refine ra_cV (sp_303 hx0 (by first | omega | (unfold ra_in at *; omega)) (by first | assumption | rfl | omega) (by first | assumption | rfl | omega)) rfl (ct_303 rfl lk_8_375 (Or.inl rfl) sh_179 (Nat.le_of_ble_eq_true rfl)) (fun s123 hs123 => ?_)
          obtain ⟨hf124, he125⟩ := hs123
          have hF126 := Fr_tr (lo := 179) (hi := 191) hF115 hf124 (by omega)
          have hk127 : s123 (183) = σ (183) := (hf124 (183) (by omega)).trans hk116
          have hk128 : s123 (187) = σ (187) := (hf124 (187) (by omega)).trans hk117
          have hg129 : ∀ a, a ≠ 5 → a ≠ 7 → a ≠ 10 → ra_g s123 179 a = ra_g σ 179 a := fun a h5 h7 h10 => (ra_gk (hf124 179 (by omega))).trans (hg118 a h5 h7 h10)
          refine ra_load rfl rfl rfl rfl ?_
          exact ra_ireturn rfl rfl ⟨⟨_, hz110, rfl⟩, ⟨hF126, hk127, hk128, hg129, (jn_w (WF_k hk105 hw) hp2 hj he113 he114 he125), (PW_k (PW_k he103 (ra_gk (hf112 179 (by omega))) (hf112 184 (by omega))) (ra_gk (hf124 179 (by omega))) (hf124 184 (by omega)))⟩⟩
        · refine ra_iconst rfl ?_
          exact ra_ireturn rfl rfl ⟨⟨_, (by first | omega | (unfold ra_in at *; omega)), rfl⟩, ⟨hF88, hk90, hk92, hg93, (WF_k hk89 hw), (PW_k hpw (ho94 5 (by decide) (by decide)) hk91)⟩⟩
    · refine ra_iconst rfl ?_
      refine ra_goto rfl rfl ?_
      refine ra_iconst rfl ?_
      refine ra_cT (sp_193 (Or.inr rfl) (by first | omega | (unfold ra_in at *; omega))) rfl (ct_193 rfl lk_8_303 (Or.inl rfl) sh_179 (Nat.le_of_ble_eq_true rfl)) (fun s130 hs130 => ?_)
      obtain ⟨hf131, he132⟩ := hs130
      have hF133 := Fr_tr (lo := 179) (hi := 191) hF3 hf131 (by omega)
      have hk134 : s130 (180) = σ (180) := (hf131 (180) (by omega)).trans hk4
      have hk135 : s130 (183) = σ (183) := (hf131 (183) (by omega)).trans hk5
      have hk136 : s130 (184) = σ (184) := (hf131 (184) (by omega)).trans hk6
      have hk137 : s130 (187) = σ (187) := (hf131 (187) (by omega)).trans hk7
      have hg138 : ∀ a, a ≠ 5 → a ≠ 7 → a ≠ 10 → ra_g s130 179 a = ra_g σ 179 a := fun a h5 h7 h10 => ((fun a h7 h10 => he132 a h7) a h7 h10).trans (hg8 a h5 h7 h10)
      have ho139 : ∀ a, a ≠ 7 → a ≠ 10 → ra_g s130 179 a = ra_g σ 179 a := fun a h7 h10 => ((fun a h7 h10 => he132 a h7) a h7 h10).trans (ho9 a h7 h10)
      refine ra_ifne rfl rfl (by first | omega | (unfold ra_in at *; omega)) (fun h140 => ?_) (fun h140 => ?_)
      · refine ra_iconst rfl ?_
        exact ra_ireturn rfl rfl ⟨⟨_, (by first | omega | (unfold ra_in at *; omega)), rfl⟩, ⟨hF133, hk135, hk137, hg138, (WF_k hk134 hw), (PW_k hpw (ho139 5 (by decide) (by decide)) hk136)⟩⟩
      · exact absurd h140 (by decide)
end RB
