/-! the reference: what its methods do (printed by wip/gen/ref.py) -/
section RB
theorem lp_252_23 {n : Nat} {f : Nat → Int32} {d : Nat} {q0 : Nat} {tx0 : String} {u0 w0 : Nat} {σ : ra_V} (hq0 : ri_cp (g_Gs n f) g_m_X8_isWord q0 = some (9, u0, w0, tx0)) (hl0 : tx0.toList.length ≤ 100) (hpt : 0 ≤ ra_g σ 179 18 ∧ ra_g σ 179 18 ≤ ra_g σ 179 17 ∧ ra_g σ 179 17 ≤ ra_g σ 179 12 ∧ ra_g σ 179 12 ≤ 500 ∧ 0 ≤ ra_g σ 179 19 ∧ ra_g σ 179 19 ≤ 999) : ∀ (nn : Nat) (v2 : Int) (hv2_0 : 0 ≤ v2) (hv2_1 : v2 ≤ 500) (hle : (tx0.toList.length : Int) = ra_g σ 179 17 - ra_g σ 179 18) (hm : (((tx0.toList.length : Int) - v2 : Int)).toNat < nn), ra_P (g_Gs n f) g_sh 0 (d + 5) g_m_X8_isWord 23 [some (.index (179)), some (.string (ri_own g_m_X8_isWord) q0), some (ra_I v2)] [] σ (fun r s => rB r ∧ s = σ) := by
  intro nn
  induction nn with
  | zero => intro v2 hv2_0 hv2_1 hle hm; exact absurd hm (Nat.not_lt_zero _)
  | succ nn ih =>
    intro v2 hv2_0 hv2_1 hle hm
    refine ra_load rfl rfl rfl rfl ?_
    refine ra_load rfl rfl rfl rfl ?_
    refine ra_slen_ rfl lk_8_224 hq0 (Nat.le_of_ble_eq_true rfl) (by decide +kernel) ?_
    refine ra_icge rfl rfl (by first | omega | (unfold ra_in at *; omega)) (by first | omega | (unfold ra_in at *; omega)) (fun h6 => ?_) (fun h6 => ?_)
    · refine ra_iconst rfl ?_
      exact ra_ireturn rfl (ra_okB (Or.inr rfl)) ⟨⟨_, (Or.inr rfl), rfl⟩, rfl⟩
    · refine ra_load rfl rfl rfl rfl ?_
      refine ra_getR rfl lk_8_31 (Nat.zero_le _) sh_179 rfl ?_
      refine ra_load rfl rfl rfl rfl ?_
      refine ra_getI rfl lk_8_198 (Nat.zero_le _) sh_179 rfl ?_
      have hr7 : ra_in (ra_g σ (179) 18) := (ra_in_g _ _ _)
      refine ra_load rfl rfl rfl rfl ?_
      refine ra_iadd rfl ?_
      refine ra_iaload rfl sh_187 rfl (by decide) (by first | omega | (unfold ra_in at *; omega)) (by first | omega | (unfold ra_in at *; omega)) ?_
      have hr8 : ra_in (ra_g σ (187) ((ra_g σ (179) 18) + v2).toNat) := (ra_in_g _ _ _)
      refine ra_load rfl rfl rfl rfl ?_
      refine ra_load rfl rfl rfl rfl ?_
      obtain ⟨ch9, hch9⟩ : ∃ c, tx0.toList[(v2).toNat]? = some c := ⟨_, List.getElem?_eq_getElem (by first | omega | (unfold ra_in at *; omega))⟩
      refine ra_schar rfl lk_8_229 hq0 (Nat.le_of_ble_eq_true rfl) (by decide +kernel) (by first | omega | (unfold ra_in at *; omega)) (by first | omega | (unfold ra_in at *; omega)) hch9 ?_
      refine ra_gen (fun z10 hz10 => ?_)
      refine ra_iceq rfl rfl hr8 hz10 (fun h11 => ?_) (fun h11 => ?_)
      · refine ra_iinc (L' := [_, _, _]) rfl rfl (Nat.le_of_ble_eq_true rfl) rfl ?_
        refine ra_goto rfl rfl ?_
        exact ra_weak (by repeat' constructor) (ih (v2 + 1) (by first | omega | (unfold ra_in at *; omega)) (by first | omega | (unfold ra_in at *; omega)) hle (by first | omega | (unfold ra_in at *; omega)))
      · refine ra_iconst rfl ?_
        exact ra_ireturn rfl (ra_okB (Or.inl rfl)) ⟨⟨_, (Or.inl rfl), rfl⟩, rfl⟩
theorem sp_252 {n : Nat} {f : Nat → Int32} {d : Nat} {q0 : Nat} {tx0 : String} {u0 w0 : Nat} {σ : ra_V} (hq0 : ri_cp (g_Gs n f) g_m_X8_isWord q0 = some (9, u0, w0, tx0)) (hl0 : tx0.toList.length ≤ 100) (hpt : 0 ≤ ra_g σ 179 18 ∧ ra_g σ 179 18 ≤ ra_g σ 179 17 ∧ ra_g σ 179 17 ≤ ra_g σ 179 12 ∧ ra_g σ 179 12 ≤ 500 ∧ 0 ≤ ra_g σ 179 19 ∧ ra_g σ 179 19 ≤ 999) : ra_C (g_Gs n f) g_sh 0 (d + 6) 252 [.index (179), .string (ri_own g_m_X8_isWord) q0] σ (fun r s => rB r ∧ s = σ) := by
  refine ra_enter (nn := 1) mt_252 rfl (Nat.le_of_ble_eq_true rfl) rfl (fun _ => by omega) ?_
  refine ra_load rfl rfl rfl rfl ?_
  refine ra_getI rfl lk_8_204 (Nat.zero_le _) sh_179 rfl ?_
  have hr1 : ra_in (ra_g σ (179) 20) := (ra_in_g _ _ _)
  refine ra_iconst rfl ?_
  refine ra_icne rfl rfl hr1 (by first | omega | (unfold ra_in at *; omega)) (fun h2 => ?_) (fun h2 => ?_)
  · refine ra_iconst rfl ?_
    exact ra_ireturn rfl (ra_okB (Or.inl rfl)) ⟨⟨_, (Or.inl rfl), rfl⟩, rfl⟩
  · refine ra_load rfl rfl rfl rfl ?_
    refine ra_cTp (sp_250 (by omega)) rfl (ct_250 rfl lk_8_221 (Or.inl rfl) sh_179 (Nat.le_of_ble_eq_true rfl)) ?_
    have hr4 : ra_in (ra_g σ 179 17 - ra_g σ 179 18) := (by unfold ra_in; omega)
    refine ra_load rfl rfl rfl rfl ?_
    refine ra_slen_ rfl lk_8_224 hq0 (Nat.le_of_ble_eq_true rfl) (by decide +kernel) ?_
    refine ra_iceq rfl rfl hr4 (by first | omega | (unfold ra_in at *; omega)) (fun h5 => ?_) (fun h5 => ?_)
    · refine ra_iconst rfl ?_
      refine ra_store (L' := [_, _, _]) rfl rfl rfl (Nat.le_of_ble_eq_true rfl) rfl ?_
      exact ra_weak (by repeat' constructor) (lp_252_23 hq0 hl0 hpt _ (0) (by first | omega | (unfold ra_in at *; omega)) (by first | omega | (unfold ra_in at *; omega)) (by omega) (Nat.lt_succ_self _))
    · refine ra_iconst rfl ?_
      exact ra_ireturn rfl (ra_okB (Or.inl rfl)) ⟨⟨_, (Or.inl rfl), rfl⟩, rfl⟩
theorem sp_255 {n : Nat} {f : Nat → Int32} {d : Nat} {x0 : Int} {x1 : Int} {x2 : Int} {x3 : Int} {σ : ra_V} (hx0 : ra_in x0) (hx1 : ra_in x1) (hx2 : ra_in x2) (hx3 : ra_in x3) (hpt : 0 ≤ ra_g σ 179 18 ∧ ra_g σ 179 18 ≤ ra_g σ 179 17 ∧ ra_g σ 179 17 ≤ ra_g σ 179 12 ∧ ra_g σ 179 12 ≤ 500 ∧ 0 ≤ ra_g σ 179 19 ∧ ra_g σ 179 19 ≤ 999) (hld : LD σ) (hst : (x0 = 1 ∧ x1 = 1 ∧ x2 = 0 ∧ x3 = 31) ∨ (x0 = 2 ∧ x1 = 2 ∧ x2 = 0 ∧ x3 = 31) ∨ (x0 = 3 ∧ x1 = 4 ∧ x2 = 1 ∧ x3 = 32) ∨ (x0 = 4 ∧ x1 = 8 ∧ x2 = 1 ∧ x3 = 16)) : ra_C (g_Gs n f) g_sh 0 (d + 4) 255 [.index (179), ra_I x0, ra_I x1, ra_I x2, ra_I x3] σ (fun r s => (∃ z : Int, (z = 0 ∨ z = 1) ∧ (z = 1 → ra_g s 179 20 = 3 → ra_g σ 179 17 < ra_g s 179 17) ∧ r = .inl (some (ra_I z))) ∧ Fr (179) (189) σ s ∧ s (181) = σ (181) ∧ s (182) = σ (182) ∧ s (183) = σ (183) ∧ s (184) = σ (184) ∧ (∀ a, a ≠ 15 → a ≠ 16 → a ≠ 17 → a ≠ 18 → a ≠ 19 → a ≠ 20 → a ≠ 21 → ra_g s 179 a = ra_g σ 179 a) ∧ LD s ∧ (0 ≤ ra_g s 179 18 ∧ ra_g s 179 18 ≤ ra_g s 179 17 ∧ ra_g s 179 17 ≤ ra_g s 179 12 ∧ ra_g s 179 12 ≤ 500 ∧ 0 ≤ ra_g s 179 19 ∧ ra_g s 179 19 ≤ 999) ∧ ra_g σ 179 17 ≤ ra_g s 179 17) := by
  refine ra_enter (nn := 0) mt_255 rfl (Nat.le_of_ble_eq_true rfl) rfl (fun h => absurd h (by decide +kernel)) ?_
  have hw0 := WF_a hld.1
  unfold WFa at hw0
  have hl5 := hld.2.2.1
  refine ra_load rfl rfl rfl rfl ?_
  refine ra_bipush rfl (by decide) ?_
  refine ra_icge rfl rfl hx1 (by first | omega | (unfold ra_in at *; omega)) (fun h1 => ?_) (fun h1 => ?_)
  · refine ra_load rfl rfl rfl rfl ?_
    refine ra_getI rfl lk_8_243 (Nat.zero_le _) sh_179 rfl ?_
    have hr2 : ra_in (ra_g σ (179) 21) := (ra_in_g _ _ _)
    refine ra_load rfl rfl rfl rfl ?_
    refine ra_iand rfl ?_
    refine ra_ifeq rfl rfl (ra_in_op _ _ _) (fun h3 => ?_) (fun h3 => ?_)
    · refine ra_load rfl rfl rfl rfl ?_
      refine ra_dup rfl rfl ?_
      refine ra_getI rfl lk_8_243 (Nat.zero_le _) sh_179 rfl ?_
      have hr4 : ra_in (ra_g σ (179) 21) := (ra_in_g _ _ _)
      refine ra_load rfl rfl rfl rfl ?_
      refine ra_ior rfl ?_
      refine ra_putI rfl lk_8_243 (Nat.zero_le _) sh_179 rfl rfl ?_
      refine ra_newU (ra_in_op _ _ _) (fun s5 hs5 hp6 hp6o => ?_)
      have hp6_99 := hp6o 99 (by decide)
      have hF7 := Fr_tr (lo := 179) (hi := 189) Fr_rf hs5 (by omega)
      have hk8 : s5 (180) = σ (180) := (hs5 (180) (by omega))
      have hk9 : s5 (181) = σ (181) := (hs5 (181) (by omega))
      have hk10 : s5 (182) = σ (182) := (hs5 (182) (by omega))
      have hk11 : s5 (183) = σ (183) := (hs5 (183) (by omega))
      have hk12 : s5 (184) = σ (184) := (hs5 (184) (by omega))
      refine ra_load rfl rfl rfl rfl ?_
      refine ra_cV (sp_249 (by have q := (pt_e (hp6o 12 (by decide)) (hp6o 17 (by decide)) (hp6o 18 (by decide)) (hp6o 19 (by decide)) hpt); omega)) rfl (ct_249 rfl lk_8_240 (Or.inl rfl) sh_179 (Nat.le_of_ble_eq_true rfl)) (fun s13 hs13 => ?_)
      obtain ⟨hf14, he15, he16, he17⟩ := hs13
      have hF18 := Fr_tr (lo := 179) (hi := 189) hF7 hf14 (by omega)
      have hk19 : s13 (180) = σ (180) := (hf14 (180) (by omega)).trans hk8
      have hk20 : s13 (181) = σ (181) := (hf14 (181) (by omega)).trans hk9
      have hk21 : s13 (182) = σ (182) := (hf14 (182) (by omega)).trans hk10
      have hk22 : s13 (183) = σ (183) := (hf14 (183) (by omega)).trans hk11
      have hk23 : s13 (184) = σ (184) := (hf14 (184) (by omega)).trans hk12
      refine ra_load rfl rfl rfl rfl ?_
      refine ra_iconst rfl ?_
      refine ra_load rfl rfl rfl rfl ?_
      refine ra_load rfl rfl rfl rfl ?_
      refine ra_cQPs (sp_254 (by first | omega | (unfold ra_in at *; omega)) hx2 hx3 he16 (by first | assumption | rfl | omega)) rfl (ct_254 rfl lk_8_246 (Or.inl rfl) sh_179 (Nat.le_of_ble_eq_true rfl)) (fun z25 s24 hz25 hz25p hs24 => ?_)
      obtain ⟨hf26, hc27, hc28, hc29, hc30, hc31, he32, he33, he34, he35⟩ := hs24
      have hF36 := Fr_tr (lo := 179) (hi := 189) hF18 hf26 (by omega)
      have hk37 : s24 (180) = σ (180) := hc27.trans hk19
      have hk38 : s24 (181) = σ (181) := hc28.trans hk20
      have hk39 : s24 (182) = σ (182) := hc29.trans hk21
      have hk40 : s24 (183) = σ (183) := hc30.trans hk22
      have hk41 : s24 (184) = σ (184) := hc31.trans hk23
      refine ra_ifne rfl rfl (ra_in01 hz25) (fun h42 => ?_) (fun h42 => ?_)
      · have ht := hz25p (by omega)
        rw [toN0] at ht
        have hld1 := (LD_k hc27 (LD_k (hf14 180 (by omega)) (LD_k (hs5 180 (by omega)) hld)))
        have h51 : ra_g s24 180 5 = ra_g σ 180 5 := ra_gk hk37
        refine ra_load rfl rfl rfl rfl ?_
        refine ra_getR rfl lk_8_7 (Nat.zero_le _) sh_179 rfl ?_
        refine ra_load rfl rfl rfl rfl ?_
        refine ra_load rfl rfl rfl rfl ?_
        refine ra_getR rfl lk_8_38 (Nat.zero_le _) sh_179 rfl ?_
        refine ra_iconst rfl ?_
        refine ra_ialoadJ (j := 0) rfl sh_188 rfl (by decide) rfl (by decide) ?_
        have hr43 : ra_in (ra_g s24 (188) 0) := (ra_in_g _ _ _)
        refine ra_iastore rfl sh_180 rfl (by decide) (by first | omega | (unfold ra_in at *; omega)) (by first | omega | (unfold ra_in at *; omega)) ?_
        refine ra_newR hr43 (fun s44 hs44 hs44v hs44o => ?_)
        have hF45 := Fr_tr (lo := 179) (hi := 189) hF36 hs44 (by omega)
        have hk46 : s44 (181) = σ (181) := (hs44 (181) (by omega)).trans hk38
        have hk47 : s44 (182) = σ (182) := (hs44 (182) (by omega)).trans hk39
        have hk48 : s44 (183) = σ (183) := (hs44 (183) (by omega)).trans hk40
        have hk49 : s44 (184) = σ (184) := (hs44 (184) (by omega)).trans hk41
        refine ra_iconst rfl ?_
        exact ra_ireturn rfl (ra_okB (Or.inr rfl)) ⟨⟨_, (Or.inr rfl), (fun _ q => by have m_s5 : ra_g s5 179 17 = ra_g σ 179 17 := (hp6o 17 (by decide)); have k_s5 : ra_g s5 179 20 = ra_g σ 179 20 := (hp6o 20 (by decide)); have m_s13 := he17.1; have m_s24 := he35; have m_s44 : ra_g s44 179 17 = ra_g s24 179 17 := (ra_gk (hs44 179 (by omega))); have k_s44 : ra_g s44 179 20 = ra_g s24 179 20 := (ra_gk (hs44 179 (by omega))); have m_a := hz25p (by omega); omega), rfl⟩, ⟨hF45, hk46, hk47, hk48, hk49, (fun a h15 h16 h17 h18 h19 h20 h21 => ((ra_gk (hs44 179 (by omega))).trans ((he32 a h15 h16 h17 h18 h19 h20).trans ((he15 a h17 h18 h19 h20).trans (hp6o a h21))))), (LD_set (j := x0.toNat) hld1 (by omega) hs44o (fun q => by have t := hs44v; omega) (fun q => by have t := hs44v; omega) (fun q => by have t := hs44v; omega) (fun q => by have t := hs44v; omega) (by omega)), (pt_e (ra_gk (hs44 179 (by omega))) (ra_gk (hs44 179 (by omega))) (ra_gk (hs44 179 (by omega))) (ra_gk (hs44 179 (by omega))) he34), (by have m_s5 : ra_g s5 179 17 = ra_g σ 179 17 := (hp6o 17 (by decide)); have k_s5 : ra_g s5 179 20 = ra_g σ 179 20 := (hp6o 20 (by decide)); have m_s13 := he17.1; have m_s24 := he35; have m_s44 : ra_g s44 179 17 = ra_g s24 179 17 := (ra_gk (hs44 179 (by omega))); have k_s44 : ra_g s44 179 20 = ra_g s24 179 20 := (ra_gk (hs44 179 (by omega))); omega)⟩⟩
      · refine ra_iconst rfl ?_
        exact ra_ireturn rfl (ra_okB (Or.inl rfl)) ⟨⟨_, (Or.inl rfl), (fun q => absurd q (by decide)), rfl⟩, ⟨hF36, hk38, hk39, hk40, hk41, (fun a h15 h16 h17 h18 h19 h20 h21 => ((he32 a h15 h16 h17 h18 h19 h20).trans ((he15 a h17 h18 h19 h20).trans (hp6o a h21)))), (LD_k hc27 (LD_k (hf14 180 (by omega)) (LD_k (hs5 180 (by omega)) hld))), he34, (by have m_s5 : ra_g s5 179 17 = ra_g σ 179 17 := (hp6o 17 (by decide)); have k_s5 : ra_g s5 179 20 = ra_g σ 179 20 := (hp6o 20 (by decide)); have m_s13 := he17.1; have m_s24 := he35; omega)⟩⟩
    · refine ra_load rfl rfl rfl rfl ?_
      refine ra_iconst rfl ?_
      refine ra_cQP (sp_251 (by first | omega | (unfold ra_in at *; omega))) rfl (ct_251 rfl lk_8_233 (Or.inl rfl) sh_179 (Nat.le_of_ble_eq_true rfl)) (fun z51 s50 hz51 hz51p hs50 => ?_)
      obtain ⟨hf52, he53⟩ := hs50
      have hF54 := Fr_tr (lo := 179) (hi := 189) Fr_rf hf52 (by omega)
      have hk55 : s50 (180) = σ (180) := (hf52 (180) (by omega))
      have hk56 : s50 (181) = σ (181) := (hf52 (181) (by omega))
      have hk57 : s50 (182) = σ (182) := (hf52 (182) (by omega))
      have hk58 : s50 (183) = σ (183) := (hf52 (183) (by omega))
      have hk59 : s50 (184) = σ (184) := (hf52 (184) (by omega))
      exact ra_ireturn rfl (ra_okB hz51) ⟨⟨_, hz51, (fun q => absurd q (by omega)), rfl⟩, ⟨hF54, hk56, hk57, hk58, hk59, (fun a h15 h16 h17 h18 h19 h20 h21 => (he53 a h15 h16)), (LD_k (hf52 180 (by omega)) hld), (pt_e (he53 12 (by decide) (by decide)) (he53 17 (by decide) (by decide)) (he53 18 (by decide) (by decide)) (he53 19 (by decide) (by decide)) hpt), (by have m_s50 : ra_g s50 179 17 = ra_g σ 179 17 := (he53 17 (by decide) (by decide)); have k_s50 : ra_g s50 179 20 = ra_g σ 179 20 := (he53 20 (by decide) (by decide)); omega)⟩⟩
  · refine ra_load rfl rfl rfl rfl ?_
    refine ra_getR rfl lk_8_7 (Nat.zero_le _) sh_179 rfl ?_
    refine ra_iconst rfl ?_
    refine ra_ialoadJ (j := 5) rfl sh_180 rfl (by decide) rfl (by decide) ?_
    have hr60 : ra_in (ra_g σ (180) 5) := (ra_in_g _ _ _)
    refine ra_ifle rfl rfl hr60 (fun h61 => ?_) (fun h61 => ?_)
    · refine ra_load rfl rfl rfl rfl ?_
      refine ra_getI rfl lk_8_243 (Nat.zero_le _) sh_179 rfl ?_
      have hr62 : ra_in (ra_g σ (179) 21) := (ra_in_g _ _ _)
      refine ra_load rfl rfl rfl rfl ?_
      refine ra_iand rfl ?_
      refine ra_ifeq rfl rfl (ra_in_op _ _ _) (fun h63 => ?_) (fun h63 => ?_)
      · refine ra_load rfl rfl rfl rfl ?_
        refine ra_dup rfl rfl ?_
        refine ra_getI rfl lk_8_243 (Nat.zero_le _) sh_179 rfl ?_
        have hr64 : ra_in (ra_g σ (179) 21) := (ra_in_g _ _ _)
        refine ra_load rfl rfl rfl rfl ?_
        refine ra_ior rfl ?_
        refine ra_putI rfl lk_8_243 (Nat.zero_le _) sh_179 rfl rfl ?_
        refine ra_newU (ra_in_op _ _ _) (fun s65 hs65 hp66 hp66o => ?_)
        have hp66_99 := hp66o 99 (by decide)
        have hF67 := Fr_tr (lo := 179) (hi := 189) Fr_rf hs65 (by omega)
        have hk68 : s65 (180) = σ (180) := (hs65 (180) (by omega))
        have hk69 : s65 (181) = σ (181) := (hs65 (181) (by omega))
        have hk70 : s65 (182) = σ (182) := (hs65 (182) (by omega))
        have hk71 : s65 (183) = σ (183) := (hs65 (183) (by omega))
        have hk72 : s65 (184) = σ (184) := (hs65 (184) (by omega))
        refine ra_load rfl rfl rfl rfl ?_
        refine ra_cV (sp_249 (by have q := (pt_e (hp66o 12 (by decide)) (hp66o 17 (by decide)) (hp66o 18 (by decide)) (hp66o 19 (by decide)) hpt); omega)) rfl (ct_249 rfl lk_8_240 (Or.inl rfl) sh_179 (Nat.le_of_ble_eq_true rfl)) (fun s73 hs73 => ?_)
        obtain ⟨hf74, he75, he76, he77⟩ := hs73
        have hF78 := Fr_tr (lo := 179) (hi := 189) hF67 hf74 (by omega)
        have hk79 : s73 (180) = σ (180) := (hf74 (180) (by omega)).trans hk68
        have hk80 : s73 (181) = σ (181) := (hf74 (181) (by omega)).trans hk69
        have hk81 : s73 (182) = σ (182) := (hf74 (182) (by omega)).trans hk70
        have hk82 : s73 (183) = σ (183) := (hf74 (183) (by omega)).trans hk71
        have hk83 : s73 (184) = σ (184) := (hf74 (184) (by omega)).trans hk72
        refine ra_load rfl rfl rfl rfl ?_
        refine ra_iconst rfl ?_
        refine ra_load rfl rfl rfl rfl ?_
        refine ra_load rfl rfl rfl rfl ?_
        refine ra_cQPs (sp_254 (by first | omega | (unfold ra_in at *; omega)) hx2 hx3 he76 (by first | assumption | rfl | omega)) rfl (ct_254 rfl lk_8_246 (Or.inl rfl) sh_179 (Nat.le_of_ble_eq_true rfl)) (fun z85 s84 hz85 hz85p hs84 => ?_)
        obtain ⟨hf86, hc87, hc88, hc89, hc90, hc91, he92, he93, he94, he95⟩ := hs84
        have hF96 := Fr_tr (lo := 179) (hi := 189) hF78 hf86 (by omega)
        have hk97 : s84 (180) = σ (180) := hc87.trans hk79
        have hk98 : s84 (181) = σ (181) := hc88.trans hk80
        have hk99 : s84 (182) = σ (182) := hc89.trans hk81
        have hk100 : s84 (183) = σ (183) := hc90.trans hk82
        have hk101 : s84 (184) = σ (184) := hc91.trans hk83
        refine ra_ifne rfl rfl (ra_in01 hz85) (fun h102 => ?_) (fun h102 => ?_)
        · have ht := hz85p (by omega)
          rw [toN0] at ht
          have hld1 := (LD_k hc87 (LD_k (hf74 180 (by omega)) (LD_k (hs65 180 (by omega)) hld)))
          have h51 : ra_g s84 180 5 = ra_g σ 180 5 := ra_gk hk97
          refine ra_load rfl rfl rfl rfl ?_
          refine ra_getR rfl lk_8_7 (Nat.zero_le _) sh_179 rfl ?_
          refine ra_load rfl rfl rfl rfl ?_
          refine ra_load rfl rfl rfl rfl ?_
          refine ra_getR rfl lk_8_38 (Nat.zero_le _) sh_179 rfl ?_
          refine ra_iconst rfl ?_
          refine ra_ialoadJ (j := 0) rfl sh_188 rfl (by decide) rfl (by decide) ?_
          have hr103 : ra_in (ra_g s84 (188) 0) := (ra_in_g _ _ _)
          refine ra_iastore rfl sh_180 rfl (by decide) (by first | omega | (unfold ra_in at *; omega)) (by first | omega | (unfold ra_in at *; omega)) ?_
          refine ra_newR hr103 (fun s104 hs104 hs104v hs104o => ?_)
          have hF105 := Fr_tr (lo := 179) (hi := 189) hF96 hs104 (by omega)
          have hk106 : s104 (181) = σ (181) := (hs104 (181) (by omega)).trans hk98
          have hk107 : s104 (182) = σ (182) := (hs104 (182) (by omega)).trans hk99
          have hk108 : s104 (183) = σ (183) := (hs104 (183) (by omega)).trans hk100
          have hk109 : s104 (184) = σ (184) := (hs104 (184) (by omega)).trans hk101
          refine ra_iconst rfl ?_
          exact ra_ireturn rfl (ra_okB (Or.inr rfl)) ⟨⟨_, (Or.inr rfl), (fun _ q => by have m_s65 : ra_g s65 179 17 = ra_g σ 179 17 := (hp66o 17 (by decide)); have k_s65 : ra_g s65 179 20 = ra_g σ 179 20 := (hp66o 20 (by decide)); have m_s73 := he77.1; have m_s84 := he95; have m_s104 : ra_g s104 179 17 = ra_g s84 179 17 := (ra_gk (hs104 179 (by omega))); have k_s104 : ra_g s104 179 20 = ra_g s84 179 20 := (ra_gk (hs104 179 (by omega))); have m_a := hz85p (by omega); omega), rfl⟩, ⟨hF105, hk106, hk107, hk108, hk109, (fun a h15 h16 h17 h18 h19 h20 h21 => ((ra_gk (hs104 179 (by omega))).trans ((he92 a h15 h16 h17 h18 h19 h20).trans ((he75 a h17 h18 h19 h20).trans (hp66o a h21))))), (LD_set (j := x0.toNat) hld1 (by omega) hs104o (fun q => by have t := hs104v; omega) (fun q => by have t := hs104v; omega) (fun q => by have t := hs104v; omega) (fun q => by have t := hs104v; omega) (by omega)), (pt_e (ra_gk (hs104 179 (by omega))) (ra_gk (hs104 179 (by omega))) (ra_gk (hs104 179 (by omega))) (ra_gk (hs104 179 (by omega))) he94), (by have m_s65 : ra_g s65 179 17 = ra_g σ 179 17 := (hp66o 17 (by decide)); have k_s65 : ra_g s65 179 20 = ra_g σ 179 20 := (hp66o 20 (by decide)); have m_s73 := he77.1; have m_s84 := he95; have m_s104 : ra_g s104 179 17 = ra_g s84 179 17 := (ra_gk (hs104 179 (by omega))); have k_s104 : ra_g s104 179 20 = ra_g s84 179 20 := (ra_gk (hs104 179 (by omega))); omega)⟩⟩
        · refine ra_iconst rfl ?_
          exact ra_ireturn rfl (ra_okB (Or.inl rfl)) ⟨⟨_, (Or.inl rfl), (fun q => absurd q (by decide)), rfl⟩, ⟨hF96, hk98, hk99, hk100, hk101, (fun a h15 h16 h17 h18 h19 h20 h21 => ((he92 a h15 h16 h17 h18 h19 h20).trans ((he75 a h17 h18 h19 h20).trans (hp66o a h21)))), (LD_k hc87 (LD_k (hf74 180 (by omega)) (LD_k (hs65 180 (by omega)) hld))), he94, (by have m_s65 : ra_g s65 179 17 = ra_g σ 179 17 := (hp66o 17 (by decide)); have k_s65 : ra_g s65 179 20 = ra_g σ 179 20 := (hp66o 20 (by decide)); have m_s73 := he77.1; have m_s84 := he95; omega)⟩⟩
      · refine ra_load rfl rfl rfl rfl ?_
        refine ra_iconst rfl ?_
        refine ra_cQP (sp_251 (by first | omega | (unfold ra_in at *; omega))) rfl (ct_251 rfl lk_8_233 (Or.inl rfl) sh_179 (Nat.le_of_ble_eq_true rfl)) (fun z111 s110 hz111 hz111p hs110 => ?_)
        obtain ⟨hf112, he113⟩ := hs110
        have hF114 := Fr_tr (lo := 179) (hi := 189) Fr_rf hf112 (by omega)
        have hk115 : s110 (180) = σ (180) := (hf112 (180) (by omega))
        have hk116 : s110 (181) = σ (181) := (hf112 (181) (by omega))
        have hk117 : s110 (182) = σ (182) := (hf112 (182) (by omega))
        have hk118 : s110 (183) = σ (183) := (hf112 (183) (by omega))
        have hk119 : s110 (184) = σ (184) := (hf112 (184) (by omega))
        exact ra_ireturn rfl (ra_okB hz111) ⟨⟨_, hz111, (fun q => absurd q (by omega)), rfl⟩, ⟨hF114, hk116, hk117, hk118, hk119, (fun a h15 h16 h17 h18 h19 h20 h21 => (he113 a h15 h16)), (LD_k (hf112 180 (by omega)) hld), (pt_e (he113 12 (by decide) (by decide)) (he113 17 (by decide) (by decide)) (he113 18 (by decide) (by decide)) (he113 19 (by decide) (by decide)) hpt), (by have m_s110 : ra_g s110 179 17 = ra_g σ 179 17 := (he113 17 (by decide) (by decide)); have k_s110 : ra_g s110 179 20 = ra_g σ 179 20 := (he113 20 (by decide) (by decide)); omega)⟩⟩
    · refine ra_load rfl rfl rfl rfl ?_
      refine ra_iconst rfl ?_
      refine ra_cQP (sp_251 (by first | omega | (unfold ra_in at *; omega))) rfl (ct_251 rfl lk_8_233 (Or.inl rfl) sh_179 (Nat.le_of_ble_eq_true rfl)) (fun z121 s120 hz121 hz121p hs120 => ?_)
      obtain ⟨hf122, he123⟩ := hs120
      have hF124 := Fr_tr (lo := 179) (hi := 189) Fr_rf hf122 (by omega)
      have hk125 : s120 (180) = σ (180) := (hf122 (180) (by omega))
      have hk126 : s120 (181) = σ (181) := (hf122 (181) (by omega))
      have hk127 : s120 (182) = σ (182) := (hf122 (182) (by omega))
      have hk128 : s120 (183) = σ (183) := (hf122 (183) (by omega))
      have hk129 : s120 (184) = σ (184) := (hf122 (184) (by omega))
      exact ra_ireturn rfl (ra_okB hz121) ⟨⟨_, hz121, (fun q => absurd q (by omega)), rfl⟩, ⟨hF124, hk126, hk127, hk128, hk129, (fun a h15 h16 h17 h18 h19 h20 h21 => (he123 a h15 h16)), (LD_k (hf122 180 (by omega)) hld), (pt_e (he123 12 (by decide) (by decide)) (he123 17 (by decide) (by decide)) (he123 18 (by decide) (by decide)) (he123 19 (by decide) (by decide)) hpt), (by have m_s120 : ra_g s120 179 17 = ra_g σ 179 17 := (he123 17 (by decide) (by decide)); have k_s120 : ra_g s120 179 20 = ra_g σ 179 20 := (he123 20 (by decide) (by decide)); omega)⟩⟩
end RB
