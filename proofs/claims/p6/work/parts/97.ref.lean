/-! the reference: what its methods do (printed by wip/gen/ref.py) -/
section RB
theorem sp_258 {n : Nat} {f : Nat → Int32} {d : Nat}  {σ : ra_V} (hpt : 0 ≤ ra_g σ 179 18 ∧ ra_g σ 179 18 ≤ ra_g σ 179 17 ∧ ra_g σ 179 17 ≤ ra_g σ 179 12 ∧ ra_g σ 179 12 ≤ 500 ∧ 0 ≤ ra_g σ 179 19 ∧ ra_g σ 179 19 ≤ 999) (hld : LD σ) : ra_C (g_Gs n f) g_sh 0 (d + 7) 258 [.index (179)] σ (fun r s => (∃ z : Int, (z = 0 ∨ z = 1) ∧ (z = 1 → ra_g s 179 20 = 3 → ra_g σ 179 17 < ra_g s 179 17) ∧ r = .inl (some (ra_I z))) ∧ Fr (179) (189) σ s ∧ s (181) = σ (181) ∧ s (182) = σ (182) ∧ s (183) = σ (183) ∧ s (184) = σ (184) ∧ (∀ a, a ≠ 15 → a ≠ 16 → a ≠ 17 → a ≠ 18 → a ≠ 19 → a ≠ 20 → a ≠ 21 → ra_g s 179 a = ra_g σ 179 a) ∧ LD s ∧ (0 ≤ ra_g s 179 18 ∧ ra_g s 179 18 ≤ ra_g s 179 17 ∧ ra_g s 179 17 ≤ ra_g s 179 12 ∧ ra_g s 179 12 ≤ 500 ∧ 0 ≤ ra_g s 179 19 ∧ ra_g s 179 19 ≤ 999) ∧ ra_g σ 179 17 ≤ ra_g s 179 17) := by
  refine ra_enter (nn := 0) mt_258 rfl (Nat.le_of_ble_eq_true rfl) rfl (fun h => absurd h (by decide +kernel)) ?_
  have hw0 := WF_a hld.1
  unfold WFa at hw0
  have hl5 := hld.2.2.1
  refine ra_load rfl rfl rfl rfl ?_
  refine ra_ldcS rfl lk_8_254 ?_
  refine ra_cBp (sp_252 lk_8_254 (by decide) hpt) rfl (ct_252 rfl lk_8_256 (Or.inl rfl) sh_179 (Nat.le_of_ble_eq_true rfl)) (fun z2 hz2 => ?_)
  refine ra_ifeq rfl rfl (ra_in01 hz2) (fun h3 => ?_) (fun h3 => ?_)
  · refine ra_load rfl rfl rfl rfl ?_
    refine ra_ldcwS rfl lk_8_264 ?_
    refine ra_cBp (sp_252 lk_8_264 (by decide) hpt) rfl (ct_252 rfl lk_8_256 (Or.inl rfl) sh_179 (Nat.le_of_ble_eq_true rfl)) (fun z5 hz5 => ?_)
    refine ra_ifeq rfl rfl (ra_in01 hz5) (fun h6 => ?_) (fun h6 => ?_)
    · refine ra_load rfl rfl rfl rfl ?_
      refine ra_ldcwS rfl lk_8_266 ?_
      refine ra_cBp (sp_252 lk_8_266 (by decide) hpt) rfl (ct_252 rfl lk_8_256 (Or.inl rfl) sh_179 (Nat.le_of_ble_eq_true rfl)) (fun z8 hz8 => ?_)
      refine ra_ifeq rfl rfl (ra_in01 hz8) (fun h9 => ?_) (fun h9 => ?_)
      · refine ra_load rfl rfl rfl rfl ?_
        refine ra_ldcwS rfl lk_8_268 ?_
        refine ra_cBp (sp_252 lk_8_268 (by decide) hpt) rfl (ct_252 rfl lk_8_256 (Or.inl rfl) sh_179 (Nat.le_of_ble_eq_true rfl)) (fun z11 hz11 => ?_)
        refine ra_ifeq rfl rfl (ra_in01 hz11) (fun h12 => ?_) (fun h12 => ?_)
        · refine ra_load rfl rfl rfl rfl ?_
          refine ra_ldcwS rfl lk_8_270 ?_
          refine ra_cBp (sp_252 lk_8_270 (by decide) hpt) rfl (ct_252 rfl lk_8_256 (Or.inl rfl) sh_179 (Nat.le_of_ble_eq_true rfl)) (fun z14 hz14 => ?_)
          refine ra_ifeq rfl rfl (ra_in01 hz14) (fun h15 => ?_) (fun h15 => ?_)
          · refine ra_load rfl rfl rfl rfl ?_
            refine ra_ldcwS rfl lk_8_275 ?_
            refine ra_cBp (sp_252 lk_8_275 (by decide) hpt) rfl (ct_252 rfl lk_8_256 (Or.inl rfl) sh_179 (Nat.le_of_ble_eq_true rfl)) (fun z17 hz17 => ?_)
            refine ra_ifeq rfl rfl (ra_in01 hz17) (fun h18 => ?_) (fun h18 => ?_)
            · refine ra_load rfl rfl rfl rfl ?_
              refine ra_iconst rfl ?_
              refine ra_cQP (sp_251 (by first | omega | (unfold ra_in at *; omega))) rfl (ct_251 rfl lk_8_233 (Or.inl rfl) sh_179 (Nat.le_of_ble_eq_true rfl)) (fun z20 s19 hz20 hz20p hs19 => ?_)
              obtain ⟨hf21, he22⟩ := hs19
              have hF23 := Fr_tr (lo := 179) (hi := 189) Fr_rf hf21 (by omega)
              have hk24 : s19 (180) = σ (180) := (hf21 (180) (by omega))
              have hk25 : s19 (181) = σ (181) := (hf21 (181) (by omega))
              have hk26 : s19 (182) = σ (182) := (hf21 (182) (by omega))
              have hk27 : s19 (183) = σ (183) := (hf21 (183) (by omega))
              have hk28 : s19 (184) = σ (184) := (hf21 (184) (by omega))
              exact ra_ireturn rfl (ra_okB hz20) ⟨⟨_, hz20, (fun q => absurd q (by omega)), rfl⟩, ⟨hF23, hk25, hk26, hk27, hk28, (fun a h15 h16 h17 h18 h19 h20 h21 => (he22 a h15 h16)), (LD_k (hf21 180 (by omega)) hld), (pt_e (he22 12 (by decide) (by decide)) (he22 17 (by decide) (by decide)) (he22 18 (by decide) (by decide)) (he22 19 (by decide) (by decide)) hpt), (by have m_s19 : ra_g s19 179 17 = ra_g σ 179 17 := (he22 17 (by decide) (by decide)); have k_s19 : ra_g s19 179 20 = ra_g σ 179 20 := (he22 20 (by decide) (by decide)); omega)⟩⟩
            · refine ra_load rfl rfl rfl rfl ?_
              refine ra_cQPs (sp_257 hpt hld) rfl (ct_257 rfl lk_8_277 (Or.inl rfl) sh_179 (Nat.le_of_ble_eq_true rfl)) (fun z30 s29 hz30 hz30p hs29 => ?_)
              obtain ⟨hf31, hc32, hc33, hc34, hc35, he36, he37, he38, he39⟩ := hs29
              have hF40 := Fr_tr (lo := 179) (hi := 189) Fr_rf hf31 (by omega)
              have hk41 : s29 (181) = σ (181) := hc32
              have hk42 : s29 (182) = σ (182) := hc33
              have hk43 : s29 (183) = σ (183) := hc34
              have hk44 : s29 (184) = σ (184) := hc35
              refine ra_goto rfl rfl ?_
              exact ra_ireturn rfl (ra_okB hz30) ⟨⟨_, hz30, hz30p, rfl⟩, ⟨hF40, hk41, hk42, hk43, hk44, (fun a h15 h16 h17 h18 h19 h20 h21 => (he36 a h15 h16 h17 h18 h19 h20 h21)), he37, he38, (by have m_s29 := he39; omega)⟩⟩
          · refine ra_load rfl rfl rfl rfl ?_
            refine ra_cQPs (sp_256 hpt hld) rfl (ct_256 rfl lk_8_272 (Or.inl rfl) sh_179 (Nat.le_of_ble_eq_true rfl)) (fun z46 s45 hz46 hz46p hs45 => ?_)
            obtain ⟨hf47, hc48, hc49, hc50, hc51, he52, he53, he54, he55⟩ := hs45
            have hF56 := Fr_tr (lo := 179) (hi := 189) Fr_rf hf47 (by omega)
            have hk57 : s45 (181) = σ (181) := hc48
            have hk58 : s45 (182) = σ (182) := hc49
            have hk59 : s45 (183) = σ (183) := hc50
            have hk60 : s45 (184) = σ (184) := hc51
            exact ra_ireturn rfl (ra_okB hz46) ⟨⟨_, hz46, hz46p, rfl⟩, ⟨hF56, hk57, hk58, hk59, hk60, (fun a h15 h16 h17 h18 h19 h20 h21 => (he52 a h15 h16 h17 h18 h19 h20 h21)), he53, he54, (by have m_s45 := he55; omega)⟩⟩
        · refine ra_load rfl rfl rfl rfl ?_
          refine ra_iconst rfl ?_
          refine ra_bipush rfl (by decide) ?_
          refine ra_iconst rfl ?_
          refine ra_bipush rfl (by decide) ?_
          refine ra_cQPs (sp_255 (by first | omega | (unfold ra_in at *; omega)) (by first | omega | (unfold ra_in at *; omega)) (by first | omega | (unfold ra_in at *; omega)) (by first | omega | (unfold ra_in at *; omega)) hpt hld (by omega)) rfl (ct_255 rfl lk_8_260 (Or.inl rfl) sh_179 (Nat.le_of_ble_eq_true rfl)) (fun z62 s61 hz62 hz62p hs61 => ?_)
          obtain ⟨hf63, hc64, hc65, hc66, hc67, he68, he69, he70, he71⟩ := hs61
          have hF72 := Fr_tr (lo := 179) (hi := 189) Fr_rf hf63 (by omega)
          have hk73 : s61 (181) = σ (181) := hc64
          have hk74 : s61 (182) = σ (182) := hc65
          have hk75 : s61 (183) = σ (183) := hc66
          have hk76 : s61 (184) = σ (184) := hc67
          exact ra_ireturn rfl (ra_okB hz62) ⟨⟨_, hz62, hz62p, rfl⟩, ⟨hF72, hk73, hk74, hk75, hk76, (fun a h15 h16 h17 h18 h19 h20 h21 => (he68 a h15 h16 h17 h18 h19 h20 h21)), he69, he70, (by have m_s61 := he71; omega)⟩⟩
      · refine ra_load rfl rfl rfl rfl ?_
        refine ra_iconst rfl ?_
        refine ra_iconst rfl ?_
        refine ra_iconst rfl ?_
        refine ra_bipush rfl (by decide) ?_
        refine ra_cQPs (sp_255 (by first | omega | (unfold ra_in at *; omega)) (by first | omega | (unfold ra_in at *; omega)) (by first | omega | (unfold ra_in at *; omega)) (by first | omega | (unfold ra_in at *; omega)) hpt hld (by omega)) rfl (ct_255 rfl lk_8_260 (Or.inl rfl) sh_179 (Nat.le_of_ble_eq_true rfl)) (fun z78 s77 hz78 hz78p hs77 => ?_)
        obtain ⟨hf79, hc80, hc81, hc82, hc83, he84, he85, he86, he87⟩ := hs77
        have hF88 := Fr_tr (lo := 179) (hi := 189) Fr_rf hf79 (by omega)
        have hk89 : s77 (181) = σ (181) := hc80
        have hk90 : s77 (182) = σ (182) := hc81
        have hk91 : s77 (183) = σ (183) := hc82
        have hk92 : s77 (184) = σ (184) := hc83
        exact ra_ireturn rfl (ra_okB hz78) ⟨⟨_, hz78, hz78p, rfl⟩, ⟨hF88, hk89, hk90, hk91, hk92, (fun a h15 h16 h17 h18 h19 h20 h21 => (he84 a h15 h16 h17 h18 h19 h20 h21)), he85, he86, (by have m_s77 := he87; omega)⟩⟩
    · refine ra_load rfl rfl rfl rfl ?_
      refine ra_iconst rfl ?_
      refine ra_iconst rfl ?_
      refine ra_iconst rfl ?_
      refine ra_bipush rfl (by decide) ?_
      refine ra_cQPs (sp_255 (by first | omega | (unfold ra_in at *; omega)) (by first | omega | (unfold ra_in at *; omega)) (by first | omega | (unfold ra_in at *; omega)) (by first | omega | (unfold ra_in at *; omega)) hpt hld (by omega)) rfl (ct_255 rfl lk_8_260 (Or.inl rfl) sh_179 (Nat.le_of_ble_eq_true rfl)) (fun z94 s93 hz94 hz94p hs93 => ?_)
      obtain ⟨hf95, hc96, hc97, hc98, hc99, he100, he101, he102, he103⟩ := hs93
      have hF104 := Fr_tr (lo := 179) (hi := 189) Fr_rf hf95 (by omega)
      have hk105 : s93 (181) = σ (181) := hc96
      have hk106 : s93 (182) = σ (182) := hc97
      have hk107 : s93 (183) = σ (183) := hc98
      have hk108 : s93 (184) = σ (184) := hc99
      exact ra_ireturn rfl (ra_okB hz94) ⟨⟨_, hz94, hz94p, rfl⟩, ⟨hF104, hk105, hk106, hk107, hk108, (fun a h15 h16 h17 h18 h19 h20 h21 => (he100 a h15 h16 h17 h18 h19 h20 h21)), he101, he102, (by have m_s93 := he103; omega)⟩⟩
  · refine ra_load rfl rfl rfl rfl ?_
    refine ra_iconst rfl ?_
    refine ra_iconst rfl ?_
    refine ra_iconst rfl ?_
    refine ra_bipush rfl (by decide) ?_
    refine ra_cQPs (sp_255 (by first | omega | (unfold ra_in at *; omega)) (by first | omega | (unfold ra_in at *; omega)) (by first | omega | (unfold ra_in at *; omega)) (by first | omega | (unfold ra_in at *; omega)) hpt hld (by omega)) rfl (ct_255 rfl lk_8_260 (Or.inl rfl) sh_179 (Nat.le_of_ble_eq_true rfl)) (fun z110 s109 hz110 hz110p hs109 => ?_)
    obtain ⟨hf111, hc112, hc113, hc114, hc115, he116, he117, he118, he119⟩ := hs109
    have hF120 := Fr_tr (lo := 179) (hi := 189) Fr_rf hf111 (by omega)
    have hk121 : s109 (181) = σ (181) := hc112
    have hk122 : s109 (182) = σ (182) := hc113
    have hk123 : s109 (183) = σ (183) := hc114
    have hk124 : s109 (184) = σ (184) := hc115
    exact ra_ireturn rfl (ra_okB hz110) ⟨⟨_, hz110, hz110p, rfl⟩, ⟨hF120, hk121, hk122, hk123, hk124, (fun a h15 h16 h17 h18 h19 h20 h21 => (he116 a h15 h16 h17 h18 h19 h20 h21)), he117, he118, (by have m_s109 := he119; omega)⟩⟩
theorem lp_260_56 {n : Nat} {f : Nat → Int32} {d : Nat}  {σ : ra_V} (hpt : 0 ≤ ra_g σ 179 18 ∧ ra_g σ 179 18 ≤ ra_g σ 179 17 ∧ ra_g σ 179 17 ≤ ra_g σ 179 12 ∧ ra_g σ 179 12 ≤ 500 ∧ 0 ≤ ra_g σ 179 19 ∧ ra_g σ 179 19 ≤ 999) (hld : LD σ) (h50 : ra_g σ 180 5 = 0) : ∀ (nn : Nat) (s : ra_V) (hF : Fr (179) (189) σ s) (hk0 : s (181) = σ (181)) (hk1 : s (182) = σ (182)) (hk2 : s (183) = σ (183)) (hk3 : s (184) = σ (184)) (hov : ∀ a, a ≠ 15 → a ≠ 16 → a ≠ 17 → a ≠ 18 → a ≠ 19 → a ≠ 20 → a ≠ 21 → ra_g s 179 a = ra_g σ 179 a) (hls : LD s) (hps : 0 ≤ ra_g s 179 18 ∧ ra_g s 179 18 ≤ ra_g s 179 17 ∧ ra_g s 179 17 ≤ ra_g s 179 12 ∧ ra_g s 179 12 ≤ 500 ∧ 0 ≤ ra_g s 179 19 ∧ ra_g s 179 19 ≤ 999) (hmo : ra_g σ 179 17 ≤ ra_g s 179 17) (hm : ((501 - ra_g s 179 17 : Int)).toNat < nn), ra_P (g_Gs n f) g_sh 0 (d + 7) g_m_X8_readText 56 [some (.index (179))] [] s (fun r s => rB r ∧ Fr (179) (189) σ s ∧ s (181) = σ (181) ∧ s (182) = σ (182) ∧ s (183) = σ (183) ∧ s (184) = σ (184) ∧ (∀ a, a ≠ 15 → a ≠ 16 → a ≠ 17 → a ≠ 18 → a ≠ 19 → a ≠ 20 → a ≠ 21 → ra_g s 179 a = ra_g σ 179 a) ∧ LD s ∧ (0 ≤ ra_g s 179 18 ∧ ra_g s 179 18 ≤ ra_g s 179 17 ∧ ra_g s 179 17 ≤ ra_g s 179 12 ∧ ra_g s 179 12 ≤ 500 ∧ 0 ≤ ra_g s 179 19 ∧ ra_g s 179 19 ≤ 999) ∧ ra_g σ 179 17 ≤ ra_g s 179 17) := by
  intro nn
  induction nn with
  | zero => intro s hF hk0 hk1 hk2 hk3 hov hls hps hmo hm; exact absurd hm (Nat.not_lt_zero _)
  | succ nn ih =>
    intro s hF hk0 hk1 hk2 hk3 hov hls hps hmo hm
    have hw0 := WF_a hls.1
    unfold WFa at hw0
    refine ra_load rfl rfl rfl rfl ?_
    refine ra_getI rfl lk_8_204 (Nat.zero_le _) sh_179 rfl ?_
    have hr53 : ra_in (ra_g s (179) 20) := (ra_in_g _ _ _)
    refine ra_ifeq rfl rfl hr53 (fun h54 => ?_) (fun h54 => ?_)
    · refine ra_iconst rfl ?_
      exact ra_ireturn rfl (ra_okB (Or.inr rfl)) ⟨⟨_, (Or.inr rfl), rfl⟩, ⟨hF, hk0, hk1, hk2, hk3, (fun a h15 h16 h17 h18 h19 h20 h21 => (hov a h15 h16 h17 h18 h19 h20 h21)), hls, hps, (by omega)⟩⟩
    · refine ra_load rfl rfl rfl rfl ?_
      refine ra_cQPs (sp_258 hps hls) rfl (ct_258 rfl lk_8_285 (Or.inl rfl) sh_179 (Nat.le_of_ble_eq_true rfl)) (fun z56 s55 hz56 hz56p hs55 => ?_)
      obtain ⟨hf57, hc58, hc59, hc60, hc61, he62, he63, he64, he65⟩ := hs55
      have hF66 := Fr_tr (lo := 179) (hi := 189) hF hf57 (by omega)
      have hk67 : s55 (181) = σ (181) := hc58.trans hk0
      have hk68 : s55 (182) = σ (182) := hc59.trans hk1
      have hk69 : s55 (183) = σ (183) := hc60.trans hk2
      have hk70 : s55 (184) = σ (184) := hc61.trans hk3
      refine ra_ifeq rfl rfl (ra_in01 hz56) (fun h71 => ?_) (fun h71 => ?_)
      · refine ra_iconst rfl ?_
        exact ra_ireturn rfl (ra_okB (Or.inl rfl)) ⟨⟨_, (Or.inl rfl), rfl⟩, ⟨hF66, hk67, hk68, hk69, hk70, (fun a h15 h16 h17 h18 h19 h20 h21 => ((he62 a h15 h16 h17 h18 h19 h20 h21).trans (hov a h15 h16 h17 h18 h19 h20 h21))), he63, he64, (by have m_s55 := he65; omega)⟩⟩
      · refine ra_load rfl rfl rfl rfl ?_
        refine ra_cQP (sp_259 he64) rfl (ct_259 rfl lk_8_282 (Or.inl rfl) sh_179 (Nat.le_of_ble_eq_true rfl)) (fun z73 s72 hz73 hz73p hs72 => ?_)
        obtain ⟨hf74, he75, he76, he77⟩ := hs72
        have hF78 := Fr_tr (lo := 179) (hi := 189) hF66 hf74 (by omega)
        have hk79 : s72 (181) = σ (181) := (hf74 (181) (by omega)).trans hk67
        have hk80 : s72 (182) = σ (182) := (hf74 (182) (by omega)).trans hk68
        have hk81 : s72 (183) = σ (183) := (hf74 (183) (by omega)).trans hk69
        have hk82 : s72 (184) = σ (184) := (hf74 (184) (by omega)).trans hk70
        refine ra_ifne rfl rfl (ra_in01 hz73) (fun h83 => ?_) (fun h83 => ?_)
        · exact ra_weak (by repeat' constructor) (ih s72 hF78 hk79 hk80 hk81 hk82 (fun a h15 h16 h17 h18 h19 h20 h21 => ((he75 a h15 h16 h17 h18 h19 h20).trans ((he62 a h15 h16 h17 h18 h19 h20 h21).trans (hov a h15 h16 h17 h18 h19 h20 h21)))) (LD_k (hf74 180 (by omega)) he63) he76 (by have m_s55 := he65; have m_s72 := he77; omega) (by first | omega | (unfold ra_in at *; omega)))
        · refine ra_iconst rfl ?_
          exact ra_ireturn rfl (ra_okB (Or.inl rfl)) ⟨⟨_, (Or.inl rfl), rfl⟩, ⟨hF78, hk79, hk80, hk81, hk82, (fun a h15 h16 h17 h18 h19 h20 h21 => ((he75 a h15 h16 h17 h18 h19 h20).trans ((he62 a h15 h16 h17 h18 h19 h20 h21).trans (hov a h15 h16 h17 h18 h19 h20 h21)))), (LD_k (hf74 180 (by omega)) he63), he76, (by have m_s55 := he65; have m_s72 := he77; omega)⟩⟩
theorem sp_260 {n : Nat} {f : Nat → Int32} {d : Nat}  {σ : ra_V} (hpt : 0 ≤ ra_g σ 179 18 ∧ ra_g σ 179 18 ≤ ra_g σ 179 17 ∧ ra_g σ 179 17 ≤ ra_g σ 179 12 ∧ ra_g σ 179 12 ≤ 500 ∧ 0 ≤ ra_g σ 179 19 ∧ ra_g σ 179 19 ≤ 999) (hld : LD σ) (h50 : ra_g σ 180 5 = 0) : ra_C (g_Gs n f) g_sh 0 (d + 8) 260 [.index (179)] σ (fun r s => rB r ∧ Fr (179) (189) σ s ∧ s (181) = σ (181) ∧ s (182) = σ (182) ∧ s (183) = σ (183) ∧ s (184) = σ (184) ∧ (∀ a, a ≠ 15 → a ≠ 16 → a ≠ 17 → a ≠ 18 → a ≠ 19 → a ≠ 20 → a ≠ 21 → ra_g s 179 a = ra_g σ 179 a) ∧ LD s ∧ (0 ≤ ra_g s 179 18 ∧ ra_g s 179 18 ≤ ra_g s 179 17 ∧ ra_g s 179 17 ≤ ra_g s 179 12 ∧ ra_g s 179 12 ≤ 500 ∧ 0 ≤ ra_g s 179 19 ∧ ra_g s 179 19 ≤ 999) ∧ ra_g σ 179 17 ≤ ra_g s 179 17) := by
  refine ra_enter (nn := 0) mt_260 rfl (Nat.le_of_ble_eq_true rfl) rfl (fun h => absurd h (by decide +kernel)) ?_
  have hw0 := WF_a hld.1
  unfold WFa at hw0
  have hl5 := hld.2.2.1
  refine ra_load rfl rfl rfl rfl ?_
  refine ra_ldcwS rfl lk_8_280 ?_
  refine ra_cBp (sp_252 lk_8_280 (by decide) hpt) rfl (ct_252 rfl lk_8_256 (Or.inl rfl) sh_179 (Nat.le_of_ble_eq_true rfl)) (fun z2 hz2 => ?_)
  refine ra_ifne rfl rfl (ra_in01 hz2) (fun h3 => ?_) (fun h3 => ?_)
  · refine ra_load rfl rfl rfl rfl ?_
    refine ra_cV (sp_249 (by have q := hpt; omega)) rfl (ct_249 rfl lk_8_240 (Or.inl rfl) sh_179 (Nat.le_of_ble_eq_true rfl)) (fun s4 hs4 => ?_)
    obtain ⟨hf5, he6, he7, he8⟩ := hs4
    have hF9 := Fr_tr (lo := 179) (hi := 189) Fr_rf hf5 (by omega)
    have hk10 : s4 (180) = σ (180) := (hf5 (180) (by omega))
    have hk11 : s4 (181) = σ (181) := (hf5 (181) (by omega))
    have hk12 : s4 (182) = σ (182) := (hf5 (182) (by omega))
    have hk13 : s4 (183) = σ (183) := (hf5 (183) (by omega))
    have hk14 : s4 (184) = σ (184) := (hf5 (184) (by omega))
    refine ra_load rfl rfl rfl rfl ?_
    refine ra_iconst rfl ?_
    refine ra_bipush rfl (by decide) ?_
    refine ra_sipush rfl (by decide) ?_
    refine ra_cQPs (sp_254 (by first | omega | (unfold ra_in at *; omega)) (by first | omega | (unfold ra_in at *; omega)) (by first | omega | (unfold ra_in at *; omega)) he7 (by first | assumption | rfl | omega)) rfl (ct_254 rfl lk_8_246 (Or.inl rfl) sh_179 (Nat.le_of_ble_eq_true rfl)) (fun z16 s15 hz16 hz16p hs15 => ?_)
    obtain ⟨hf17, hc18, hc19, hc20, hc21, hc22, he23, he24, he25, he26⟩ := hs15
    have hF27 := Fr_tr (lo := 179) (hi := 189) hF9 hf17 (by omega)
    have hk28 : s15 (180) = σ (180) := hc18.trans hk10
    have hk29 : s15 (181) = σ (181) := hc19.trans hk11
    have hk30 : s15 (182) = σ (182) := hc20.trans hk12
    have hk31 : s15 (183) = σ (183) := hc21.trans hk13
    have hk32 : s15 (184) = σ (184) := hc22.trans hk14
    refine ra_ifne rfl rfl (ra_in01 hz16) (fun h33 => ?_) (fun h33 => ?_)
    · have ht := hz16p (by omega)
      rw [toN0] at ht
      have hld1 := (LD_k hc18 (LD_k (hf5 180 (by omega)) hld))
      have h51 : ra_g s15 180 5 = ra_g σ 180 5 := ra_gk hk28
      refine ra_load rfl rfl rfl rfl ?_
      refine ra_getR rfl lk_8_7 (Nat.zero_le _) sh_179 rfl ?_
      refine ra_iconst rfl ?_
      refine ra_load rfl rfl rfl rfl ?_
      refine ra_getR rfl lk_8_38 (Nat.zero_le _) sh_179 rfl ?_
      refine ra_iconst rfl ?_
      refine ra_ialoadJ (j := 0) rfl sh_188 rfl (by decide) rfl (by decide) ?_
      have hr34 : ra_in (ra_g s15 (188) 0) := (ra_in_g _ _ _)
      refine ra_iastoreJ (j := 0) rfl sh_180 rfl (by decide) rfl (by decide) ?_
      refine ra_newR hr34 (fun s35 hs35 hs35v hs35o => ?_)
      have hF36 := Fr_tr (lo := 179) (hi := 189) hF27 hs35 (by omega)
      have hk37 : s35 (181) = σ (181) := (hs35 (181) (by omega)).trans hk29
      have hk38 : s35 (182) = σ (182) := (hs35 (182) (by omega)).trans hk30
      have hk39 : s35 (183) = σ (183) := (hs35 (183) (by omega)).trans hk31
      have hk40 : s35 (184) = σ (184) := (hs35 (184) (by omega)).trans hk32
      refine ra_load rfl rfl rfl rfl ?_
      refine ra_cQP (sp_259 (pt_e (ra_gk (hs35 179 (by omega))) (ra_gk (hs35 179 (by omega))) (ra_gk (hs35 179 (by omega))) (ra_gk (hs35 179 (by omega))) he25)) rfl (ct_259 rfl lk_8_282 (Or.inl rfl) sh_179 (Nat.le_of_ble_eq_true rfl)) (fun z42 s41 hz42 hz42p hs41 => ?_)
      obtain ⟨hf43, he44, he45, he46⟩ := hs41
      have hF47 := Fr_tr (lo := 179) (hi := 189) hF36 hf43 (by omega)
      have hk48 : s41 (181) = σ (181) := (hf43 (181) (by omega)).trans hk37
      have hk49 : s41 (182) = σ (182) := (hf43 (182) (by omega)).trans hk38
      have hk50 : s41 (183) = σ (183) := (hf43 (183) (by omega)).trans hk39
      have hk51 : s41 (184) = σ (184) := (hf43 (184) (by omega)).trans hk40
      refine ra_ifne rfl rfl (ra_in01 hz42) (fun h52 => ?_) (fun h52 => ?_)
      · exact ra_weak (by repeat' constructor) (lp_260_56 hpt hld h50 _ s41 hF47 hk48 hk49 hk50 hk51 (fun a h15 h16 h17 h18 h19 h20 h21 => ((he44 a h15 h16 h17 h18 h19 h20).trans ((ra_gk (hs35 179 (by omega))).trans ((he23 a h15 h16 h17 h18 h19 h20).trans (he6 a h17 h18 h19 h20))))) (LD_k (hf43 180 (by omega)) (LD_set (j := 0) hld1 (by omega) hs35o (fun q => by have t := hs35v; omega) (fun q => by omega) (fun q => by omega) (fun q => by omega) (by omega))) he45 (by have m_s4 := he8.1; have m_s15 := he26; have m_s35 : ra_g s35 179 17 = ra_g s15 179 17 := (ra_gk (hs35 179 (by omega))); have k_s35 : ra_g s35 179 20 = ra_g s15 179 20 := (ra_gk (hs35 179 (by omega))); have m_s41 := he46; omega) (Nat.lt_succ_self _))
      · refine ra_iconst rfl ?_
        exact ra_ireturn rfl (ra_okB (Or.inl rfl)) ⟨⟨_, (Or.inl rfl), rfl⟩, ⟨hF47, hk48, hk49, hk50, hk51, (fun a h15 h16 h17 h18 h19 h20 h21 => ((he44 a h15 h16 h17 h18 h19 h20).trans ((ra_gk (hs35 179 (by omega))).trans ((he23 a h15 h16 h17 h18 h19 h20).trans (he6 a h17 h18 h19 h20))))), (LD_k (hf43 180 (by omega)) (LD_set (j := 0) hld1 (by omega) hs35o (fun q => by have t := hs35v; omega) (fun q => by omega) (fun q => by omega) (fun q => by omega) (by omega))), he45, (by have m_s4 := he8.1; have m_s15 := he26; have m_s35 : ra_g s35 179 17 = ra_g s15 179 17 := (ra_gk (hs35 179 (by omega))); have k_s35 : ra_g s35 179 20 = ra_g s15 179 20 := (ra_gk (hs35 179 (by omega))); have m_s41 := he46; omega)⟩⟩
    · refine ra_iconst rfl ?_
      exact ra_ireturn rfl (ra_okB (Or.inl rfl)) ⟨⟨_, (Or.inl rfl), rfl⟩, ⟨hF27, hk29, hk30, hk31, hk32, (fun a h15 h16 h17 h18 h19 h20 h21 => ((he23 a h15 h16 h17 h18 h19 h20).trans (he6 a h17 h18 h19 h20))), (LD_k hc18 (LD_k (hf5 180 (by omega)) hld)), he25, (by have m_s4 := he8.1; have m_s15 := he26; omega)⟩⟩
  · refine ra_load rfl rfl rfl rfl ?_
    refine ra_iconst rfl ?_
    refine ra_cQP (sp_251 (by first | omega | (unfold ra_in at *; omega))) rfl (ct_251 rfl lk_8_233 (Or.inl rfl) sh_179 (Nat.le_of_ble_eq_true rfl)) (fun z85 s84 hz85 hz85p hs84 => ?_)
    obtain ⟨hf86, he87⟩ := hs84
    have hF88 := Fr_tr (lo := 179) (hi := 189) Fr_rf hf86 (by omega)
    have hk89 : s84 (180) = σ (180) := (hf86 (180) (by omega))
    have hk90 : s84 (181) = σ (181) := (hf86 (181) (by omega))
    have hk91 : s84 (182) = σ (182) := (hf86 (182) (by omega))
    have hk92 : s84 (183) = σ (183) := (hf86 (183) (by omega))
    have hk93 : s84 (184) = σ (184) := (hf86 (184) (by omega))
    exact ra_ireturn rfl (ra_okB hz85) ⟨⟨_, hz85, rfl⟩, ⟨hF88, hk90, hk91, hk92, hk93, (fun a h15 h16 h17 h18 h19 h20 h21 => (he87 a h15 h16)), (LD_k (hf86 180 (by omega)) hld), (pt_e (he87 12 (by decide) (by decide)) (he87 17 (by decide) (by decide)) (he87 18 (by decide) (by decide)) (he87 19 (by decide) (by decide)) hpt), (by have m_s84 : ra_g s84 179 17 = ra_g σ 179 17 := (he87 17 (by decide) (by decide)); have k_s84 : ra_g s84 179 20 = ra_g σ 179 20 := (he87 20 (by decide) (by decide)); omega)⟩⟩
end RB
