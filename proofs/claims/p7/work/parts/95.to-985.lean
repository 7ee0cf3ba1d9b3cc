section
/-! the reference: what its methods do (printed by wip/gen/ref.py) -/
section RB
theorem lp_253_23 {n : Nat} {f : Nat → Int32} {d : Nat} {q0 : Nat} {tx0 : String} {u0 w0 : Nat} {σ : ra_V} (hq0 : ri_cp (g_Gs n f) g_m_X8_isWord q0 = some (9, u0, w0, tx0)) (hl0 : tx0.toList.length ≤ 100) (hpt : 0 ≤ ra_g σ 179 18 ∧ ra_g σ 179 18 ≤ ra_g σ 179 17 ∧ ra_g σ 179 17 ≤ ra_g σ 179 12 ∧ ra_g σ 179 12 ≤ 500 ∧ 0 ≤ ra_g σ 179 19 ∧ ra_g σ 179 19 ≤ 999) : ∀ (nn : Nat) (v2 : Int) (hv2_0 : 0 ≤ v2) (hv2_1 : v2 ≤ 500) (hle : (tx0.toList.length : Int) = ra_g σ 179 17 - ra_g σ 179 18) (hm : (((tx0.toList.length : Int) - v2 : Int)).toNat < nn), ra_P (g_Gs n f) g_sh 0 (d + 5) g_m_X8_isWord 23 [some (.index (179)), some (.string (ri_own g_m_X8_isWord) q0), some (ra_I v2)] [] σ (fun r s => rB r ∧ s = σ) := by
  intro nn
  induction nn with
  | zero => intro v2 hv2_0 hv2_1 hle hm; exact absurd hm (Nat.not_lt_zero _)
  | succ nn ih =>
    intro v2 hv2_0 hv2_1 hle hm
    refine ra_load rfl rfl rfl rfl ?_
    refine ra_load rfl rfl rfl rfl ?_
    refine ra_slen_ rfl lk_8_224 hq0 (Nat.le_of_ble_eq_true rfl) (by decide +kernel) ?_
    refine ra_icge rfl rfl (by first | omega | (unfold ra_in at *; omega)) (by first | omega | (unfold ra_in at *; omega)) (fun h6 => ?_) (fun h6 => ?_)
    · refine ra_iconst rfl ?_
      exact ra_ireturn rfl (ra_okB (Or.inr rfl)) ⟨⟨_, (Or.inr rfl), rfl⟩, rfl⟩
    · refine ra_load rfl rfl rfl rfl ?_
      refine ra_getR rfl lk_8_31 (Nat.zero_le _) sh_179 rfl ?_
      refine ra_load rfl rfl rfl rfl ?_
      refine ra_getI rfl lk_8_198 (Nat.zero_le _) sh_179 rfl ?_
      have hr7 : ra_in (ra_g σ (179) 18) := (ra_in_g _ _ _)
      refine ra_load rfl rfl rfl rfl ?_
      refine ra_iadd rfl ?_
      refine ra_iaload rfl sh_187 rfl (by decide) (by first | omega | (unfold ra_in at *; omega)) (by first | omega | (unfold ra_in at *; omega)) ?_
      have hr8 : ra_in (ra_g σ (187) ((ra_g σ (179) 18) + v2).toNat) := (ra_in_g _ _ _)
      refine ra_load rfl rfl rfl rfl ?_
      refine ra_load rfl rfl rfl rfl ?_
      obtain ⟨ch9, hch9⟩ : ∃ c, tx0.toList[(v2).toNat]? = some c := ⟨_, List.getElem?_eq_getElem (by first | omega | (unfold ra_in at *; omega))⟩
      refine ra_schar rfl lk_8_229 hq0 (Nat.le_of_ble_eq_true rfl) (by decide +kernel) (by first | omega | (unfold ra_in at *; omega)) (by first | omega | (unfold ra_in at *; omega)) hch9 ?_
      refine ra_gen (fun z10 hz10 => ?_)
      refine ra_iceq rfl rfl hr8 hz10 (fun h11 => ?_) (fun h11 => ?_)
      · refine ra_iinc (L' := [_, _, _]) rfl rfl (Nat.le_of_ble_eq_true rfl) rfl ?_
        refine ra_goto rfl rfl ?_
        exact ra_weak (by repeat' constructor) (ih (v2 + 1) (by first | omega | (unfold ra_in at *; omega)) (by first | omega | (unfold ra_in at *; omega)) hle (by first | omega | (unfold ra_in at *; omega)))
      · refine ra_iconst rfl ?_
        exact ra_ireturn rfl (ra_okB (Or.inl rfl)) ⟨⟨_, (Or.inl rfl), rfl⟩, rfl⟩
theorem sp_253 {n : Nat} {f : Nat → Int32} {d : Nat} {q0 : Nat} {tx0 : String} {u0 w0 : Nat} {σ : ra_V} (hq0 : ri_cp (g_Gs n f) g_m_X8_isWord q0 = some (9, u0, w0, tx0)) (hl0 : tx0.toList.length ≤ 100) (hpt : 0 ≤ ra_g σ 179 18 ∧ ra_g σ 179 18 ≤ ra_g σ 179 17 ∧ ra_g σ 179 17 ≤ ra_g σ 179 12 ∧ ra_g σ 179 12 ≤ 500 ∧ 0 ≤ ra_g σ 179 19 ∧ ra_g σ 179 19 ≤ 999) : ra_C (g_Gs n f) g_sh 0 (d + 6) 253 [.index (179), .string (ri_own g_m_X8_isWord) q0] σ (fun r s => rB r ∧ s = σ) := by
  refine ra_enter (nn := 1) mt_253 rfl (Nat.le_of_ble_eq_true rfl) rfl (fun _ => by omega) ?_
  refine ra_load rfl rfl rfl rfl ?_
  refine ra_getI rfl lk_8_204 (Nat.zero_le _) sh_179 rfl ?_
  have hr1 : ra_in (ra_g σ (179) 20) := (ra_in_g _ _ _)
  refine ra_iconst rfl ?_
  refine ra_icne rfl rfl hr1 (by first | omega | (unfold ra_in at *; omega)) (fun h2 => ?_) (fun h2 => ?_)
  · refine ra_iconst rfl ?_
    exact ra_ireturn rfl (ra_okB (Or.inl rfl)) ⟨⟨_, (Or.inl rfl), rfl⟩, rfl⟩
  · refine ra_load rfl rfl rfl rfl ?_
    refine ra_cTp (sp_251 (by omega)) rfl (ct_251 rfl lk_8_221 (Or.inl rfl) sh_179 (Nat.le_of_ble_eq_true rfl)) ?_
    have hr4 : ra_in (ra_g σ 179 17 - ra_g σ 179 18) := (by unfold ra_in; omega)
    refine ra_load rfl rfl rfl rfl ?_
    refine ra_slen_ rfl lk_8_224 hq0 (Nat.le_of_ble_eq_true rfl) (by decide +kernel) ?_
    refine ra_iceq rfl rfl hr4 (by first | omega | (unfold ra_in at *; omega)) (fun h5 => ?_) (fun h5 => ?_)
    · refine ra_iconst rfl ?_
      refine ra_store (L' := [_, _, _]) rfl rfl rfl (Nat.le_of_ble_eq_true rfl) rfl ?_
      exact ra_weak (by repeat' constructor) (lp_253_23 hq0 hl0 hpt _ (0) (by first | omega | (unfold ra_in at *; omega)) (by first | omega | (unfold ra_in at *; omega)) (by omega) (Nat.lt_succ_self _))
    · refine ra_iconst rfl ?_
      exact ra_ireturn rfl (ra_okB (Or.inl rfl)) ⟨⟨_, (Or.inl rfl), rfl⟩, rfl⟩
theorem sp_256 {n : Nat} {f : Nat → Int32} {d : Nat} {x0 : Int} {x1 : Int} {x2 : Int} {x3 : Int} {σ : ra_V} (hx0 : ra_in x0) (hx1 : ra_in x1) (hx2 : ra_in x2) (hx3 : ra_in x3) (hpt : 0 ≤ ra_g σ 179 18 ∧ ra_g σ 179 18 ≤ ra_g σ 179 17 ∧ ra_g σ 179 17 ≤ ra_g σ 179 12 ∧ ra_g σ 179 12 ≤ 500 ∧ 0 ≤ ra_g σ 179 19 ∧ ra_g σ 179 19 ≤ 999) (hld : LD σ) (hst : (x0 = 1 ∧ x1 = 1 ∧ x2 = 0 ∧ x3 = 31) ∨ (x0 = 2 ∧ x1 = 2 ∧ x2 = 0 ∧ x3 = 31) ∨ (x0 = 3 ∧ x1 = 4 ∧ x2 = 1 ∧ x3 = 32) ∨ (x0 = 4 ∧ x1 = 8 ∧ x2 = 1 ∧ x3 = 16)) : ra_C (g_Gs n f) g_sh 0 (d + 4) 256 [.index (179), ra_I x0, ra_I x1, ra_I x2, ra_I x3] σ (fun r s => (∃ z : Int, (z = 0 ∨ z = 1) ∧ (z = 1 → ra_g s 179 20 = 3 → ra_g σ 179 17 < ra_g s 179 17) ∧ r = .inl (some (ra_I z))) ∧ Fr (179) (189) σ s ∧ s (181) = σ (181) ∧ s (182) = σ (182) ∧ s (183) = σ (183) ∧ s (184) = σ (184) ∧ (∀ a, a ≠ 15 → a ≠ 16 → a ≠ 17 → a ≠ 18 → a ≠ 19 → a ≠ 20 → a ≠ 21 → ra_g s 179 a = ra_g σ 179 a) ∧ LD s ∧ (0 ≤ ra_g s 179 18 ∧ ra_g s 179 18 ≤ ra_g s 179 17 ∧ ra_g s 179 17 ≤ ra_g s 179 12 ∧ ra_g s 179 12 ≤ 500 ∧ 0 ≤ ra_g s 179 19 ∧ ra_g s 179 19 ≤ 999) ∧ ra_g σ 179 17 ≤ ra_g s 179 17) := by
  refine ra_enter (nn := 0) mt_256 rfl (Nat.le_of_ble_eq_true rfl) rfl (fun h => absurd h (by decide +kernel)) ?_
  have hw0 := WF_a hld.1
  unfold WFa at hw0
  have hl5 := hld.2.2.1
  refine ra_load rfl rfl rfl rfl ?_
  refine ra_bipush rfl (by decide) ?_
  refine ra_icge rfl rfl hx1 (by first | omega | (unfold ra_in at *; omega)) (fun h1 => ?_) (fun h1 => ?_)
  · refine ra_load rfl rfl rfl rfl ?_
    refine ra_getI rfl lk_8_243 (Nat.zero_le _) sh_179 rfl ?_
    have hr2 : ra_in (ra_g σ (179) 21) := (ra_in_g _ _ _)
    refine ra_load rfl rfl rfl rfl ?_
    refine ra_iand rfl ?_
    refine ra_ifeq rfl rfl (ra_in_op _ _ _) (fun h3 => ?_) (fun h3 => ?_)
    · refine ra_load rfl rfl rfl rfl ?_
      refine ra_dup rfl rfl ?_
      refine ra_getI rfl lk_8_243 (Nat.zero_le _) sh_179 rfl ?_
      have hr4 : ra_in (ra_g σ (179) 21) := (ra_in_g _ _ _)
      refine ra_load rfl rfl rfl rfl ?_
      refine ra_ior rfl ?_
      refine ra_putI rfl lk_8_243 (Nat.zero_le _) sh_179 rfl rfl ?_
      refine ra_newU (ra_in_op _ _ _) (fun s5 hs5 hp6 hp6o => ?_)
      have hp6_99 := hp6o 99 (by decide)
      have hF7 := Fr_tr (lo := 179) (hi := 189) Fr_rf hs5 (by omega)
      have hk8 : s5 (180) = σ (180) := (hs5 (180) (by omega))
      have hk9 : s5 (181) = σ (181) := (hs5 (181) (by omega))
      have hk10 : s5 (182) = σ (182) := (hs5 (182) (by omega))
      have hk11 : s5 (183) = σ (183) := (hs5 (183) (by omega))
      have hk12 : s5 (184) = σ (184) := (hs5 (184) (by omega))
      refine ra_load rfl rfl rfl rfl ?_
      refine ra_cV (sp_250 (by have q := (pt_e (hp6o 12 (by decide)) (hp6o 17 (by decide)) (hp6o 18 (by decide)) (hp6o 19 (by decide)) hpt); omega)) rfl (ct_250 rfl lk_8_240 (Or.inl rfl) sh_179 (Nat.le_of_ble_eq_true rfl)) (fun s13 hs13 => ?_)
      obtain ⟨hf14, he15, he16, he17⟩ := hs13
      have hF18 := Fr_tr (lo := 179) (hi := 189) hF7 hf14 (by omega)
      have hk19 : s13 (180) = σ (180) := (hf14 (180) (by omega)).trans hk8
      have hk20 : s13 (181) = σ (181) := (hf14 (181) (by omega)).trans hk9
      have hk21 : s13 (182) = σ (182) := (hf14 (182) (by omega)).trans hk10
      have hk22 : s13 (183) = σ (183) := (hf14 (183) (by omega)).trans hk11
      have hk23 : s13 (184) = σ (184) := (hf14 (184) (by omega)).trans hk12
      refine ra_load rfl rfl rfl rfl ?_
      refine ra_iconst rfl ?_
      refine ra_load rfl rfl rfl rfl ?_
      refine ra_load rfl rfl rfl rfl ?_
      refine ra_cQPs (sp_255 (by first | omega | (unfold ra_in at *; omega)) hx2 hx3 he16 (by first | assumption | rfl | omega)) rfl (ct_255 rfl lk_8_246 (Or.inl rfl) sh_179 (Nat.le_of_ble_eq_true rfl)) (fun z25 s24 hz25 hz25p hs24 => ?_)
      obtain ⟨hf26, hc27, hc28, hc29, hc30, hc31, he32, he33, he34, he35⟩ := hs24
      have hF36 := Fr_tr (lo := 179) (hi := 189) hF18 hf26 (by omega)
      have hk37 : s24 (180) = σ (180) := hc27.trans hk19
      have hk38 : s24 (181) = σ (181) := hc28.trans hk20
      have hk39 : s24 (182) = σ (182) := hc29.trans hk21
      have hk40 : s24 (183) = σ (183) := hc30.trans hk22
      have hk41 : s24 (184) = σ (184) := hc31.trans hk23
      refine ra_ifne rfl rfl (ra_in01 hz25) (fun h42 => ?_) (fun h42 => ?_)
      · have ht := hz25p (by omega)
        rw [toN0] at ht
        have hld1 := (LD_k hc27 (LD_k (hf14 180 (by omega)) (LD_k (hs5 180 (by omega)) hld)))
        have h51 : ra_g s24 180 5 = ra_g σ 180 5 := ra_gk hk37
        refine ra_load rfl rfl rfl rfl ?_
        refine ra_getR rfl lk_8_7 (Nat.zero_le _) sh_179 rfl ?_
        refine ra_load rfl rfl rfl rfl ?_
        refine ra_load rfl rfl rfl rfl ?_
        refine ra_getR rfl lk_8_38 (Nat.zero_le _) sh_179 rfl ?_
        refine ra_iconst rfl ?_
        refine ra_ialoadJ (j := 0) rfl sh_188 rfl (by decide) rfl (by decide) ?_
        have hr43 : ra_in (ra_g s24 (188) 0) := (ra_in_g _ _ _)
        refine ra_iastore rfl sh_180 rfl (by decide) (by first | omega | (unfold ra_in at *; omega)) (by first | omega | (unfold ra_in at *; omega)) ?_
        refine ra_newR hr43 (fun s44 hs44 hs44v hs44o => ?_)
        have hF45 := Fr_tr (lo := 179) (hi := 189) hF36 hs44 (by omega)
        have hk46 : s44 (181) = σ (181) := (hs44 (181) (by omega)).trans hk38
        have hk47 : s44 (182) = σ (182) := (hs44 (182) (by omega)).trans hk39
        have hk48 : s44 (183) = σ (183) := (hs44 (183) (by omega)).trans hk40
        have hk49 : s44 (184) = σ (184) := (hs44 (184) (by omega)).trans hk41
        refine ra_iconst rfl ?_
        exact ra_ireturn rfl (ra_okB (Or.inr rfl)) ⟨⟨_, (Or.inr rfl), (fun _ q => by have m_s5 : ra_g s5 179 17 = ra_g σ 179 17 := (hp6o 17 (by decide)); have k_s5 : ra_g s5 179 20 = ra_g σ 179 20 := (hp6o 20 (by decide)); have m_s13 := he17.1; have m_s24 := he35; have m_s44 : ra_g s44 179 17 = ra_g s24 179 17 := (ra_gk (hs44 179 (by omega))); have k_s44 : ra_g s44 179 20 = ra_g s24 179 20 := (ra_gk (hs44 179 (by omega))); have m_a := hz25p (by omega); omega), rfl⟩, ⟨hF45, hk46, hk47, hk48, hk49, (fun a h15 h16 h17 h18 h19 h20 h21 => ((ra_gk (hs44 179 (by omega))).trans ((he32 a h15 h16 h17 h18 h19 h20).trans ((he15 a h17 h18 h19 h20).trans (hp6o a h21))))), (LD_set (j := x0.toNat) hld1 (by omega) hs44o (fun q => by have t := hs44v; omega) (fun q => by have t := hs44v; omega) (fun q => by have t := hs44v; omega) (fun q => by have t := hs44v; omega) (by omega)), (pt_e (ra_gk (hs44 179 (by omega))) (ra_gk (hs44 179 (by omega))) (ra_gk (hs44 179 (by omega))) (ra_gk (hs44 179 (by omega))) he34), (by have m_s5 : ra_g s5 179 17 = ra_g σ 179 17 := (hp6o 17 (by decide)); have k_s5 : ra_g s5 179 20 = ra_g σ 179 20 := (hp6o 20 (by decide)); have m_s13 := he17.1; have m_s24 := he35; have m_s44 : ra_g s44 179 17 = ra_g s24 179 17 := (ra_gk (hs44 179 (by omega))); have k_s44 : ra_g s44 179 20 = ra_g s24 179 20 := (ra_gk (hs44 179 (by omega))); omega)⟩⟩
      · refine ra_iconst rfl ?_
        exact ra_ireturn rfl (ra_okB (Or.inl rfl)) ⟨⟨_, (Or.inl rfl), (fun q => absurd q (by decide)), rfl⟩, ⟨hF36, hk38, hk39, hk40, hk41, (fun a h15 h16 h17 h18 h19 h20 h21 => ((he32 a h15 h16 h17 h18 h19 h20).trans ((he15 a h17 h18 h19 h20).trans (hp6o a h21)))), (LD_k hc27 (LD_k (hf14 180 (by omega)) (LD_k (hs5 180 (by omega)) hld))), he34, (by have m_s5 : ra_g s5 179 17 = ra_g σ 179 17 := (hp6o 17 (by decide)); have k_s5 : ra_g s5 179 20 = ra_g σ 179 20 := (hp6o 20 (by decide)); have m_s13 := he17.1; have m_s24 := he35; omega)⟩⟩
    · refine ra_load rfl rfl rfl rfl ?_
      refine ra_iconst rfl ?_
      refine ra_cQP (sp_252 (by first | omega | (unfold ra_in at *; omega))) rfl (ct_252 rfl lk_8_233 (Or.inl rfl) sh_179 (Nat.le_of_ble_eq_true rfl)) (fun z51 s50 hz51 hz51p hs50 => ?_)
      obtain ⟨hf52, he53⟩ := hs50
      have hF54 := Fr_tr (lo := 179) (hi := 189) Fr_rf hf52 (by omega)
      have hk55 : s50 (180) = σ (180) := (hf52 (180) (by omega))
      have hk56 : s50 (181) = σ (181) := (hf52 (181) (by omega))
      have hk57 : s50 (182) = σ (182) := (hf52 (182) (by omega))
      have hk58 : s50 (183) = σ (183) := (hf52 (183) (by omega))
      have hk59 : s50 (184) = σ (184) := (hf52 (184) (by omega))
      exact ra_ireturn rfl (ra_okB hz51) ⟨⟨_, hz51, (fun q => absurd q (by omega)), rfl⟩, ⟨hF54, hk56, hk57, hk58, hk59, (fun a h15 h16 h17 h18 h19 h20 h21 => (he53 a h15 h16)), (LD_k (hf52 180 (by omega)) hld), (pt_e (he53 12 (by decide) (by decide)) (he53 17 (by decide) (by decide)) (he53 18 (by decide) (by decide)) (he53 19 (by decide) (by decide)) hpt), (by have m_s50 : ra_g s50 179 17 = ra_g σ 179 17 := (he53 17 (by decide) (by decide)); have k_s50 : ra_g s50 179 20 = ra_g σ 179 20 := (he53 20 (by decide) (by decide)); omega)⟩⟩
  · refine ra_load rfl rfl rfl rfl ?_
    refine ra_getR rfl lk_8_7 (Nat.zero_le _) sh_179 rfl ?_
    refine ra_iconst rfl ?_
    refine ra_ialoadJ (j := 5) rfl sh_180 rfl (by decide) rfl (by decide) ?_
    have hr60 : ra_in (ra_g σ (180) 5) := (ra_in_g _ _ _)
    refine ra_ifle rfl rfl hr60 (fun h61 => ?_) (fun h61 => ?_)
    · refine ra_load rfl rfl rfl rfl ?_
      refine ra_getI rfl lk_8_243 (Nat.zero_le _) sh_179 rfl ?_
      have hr62 : ra_in (ra_g σ (179) 21) := (ra_in_g _ _ _)
      refine ra_load rfl rfl rfl rfl ?_
      refine ra_iand rfl ?_
      refine ra_ifeq rfl rfl (ra_in_op _ _ _) (fun h63 => ?_) (fun h63 => ?_)
      · refine ra_load rfl rfl rfl rfl ?_
        refine ra_dup rfl rfl ?_
        refine ra_getI rfl lk_8_243 (Nat.zero_le _) sh_179 rfl ?_
        have hr64 : ra_in (ra_g σ (179) 21) := (ra_in_g _ _ _)
        refine ra_load rfl rfl rfl rfl ?_
        refine ra_ior rfl ?_
        refine ra_putI rfl lk_8_243 (Nat.zero_le _) sh_179 rfl rfl ?_
        refine ra_newU (ra_in_op _ _ _) (fun s65 hs65 hp66 hp66o => ?_)
        have hp66_99 := hp66o 99 (by decide)
        have hF67 := Fr_tr (lo := 179) (hi := 189) Fr_rf hs65 (by omega)
        have hk68 : s65 (180) = σ (180) := (hs65 (180) (by omega))
        have hk69 : s65 (181) = σ (181) := (hs65 (181) (by omega))
        have hk70 : s65 (182) = σ (182) := (hs65 (182) (by omega))
        have hk71 : s65 (183) = σ (183) := (hs65 (183) (by omega))
        have hk72 : s65 (184) = σ (184) := (hs65 (184) (by omega))
        refine ra_load rfl rfl rfl rfl ?_
        refine ra_cV (sp_250 (by have q := (pt_e (hp66o 12 (by decide)) (hp66o 17 (by decide)) (hp66o 18 (by decide)) (hp66o 19 (by decide)) hpt); omega)) rfl (ct_250 rfl lk_8_240 (Or.inl rfl) sh_179 (Nat.le_of_ble_eq_true rfl)) (fun s73 hs73 => ?_)
        obtain ⟨hf74, he75, he76, he77⟩ := hs73
        have hF78 := Fr_tr (lo := 179) (hi := 189) hF67 hf74 (by omega)
        have hk79 : s73 (180) = σ (180) := (hf74 (180) (by omega)).trans hk68
        have hk80 : s73 (181) = σ (181) := (hf74 (181) (by omega)).trans hk69
        have hk81 : s73 (182) = σ (182) := (hf74 (182) (by omega)).trans hk70
        have hk82 : s73 (183) = σ (183) := (hf74 (183) (by omega)).trans hk71
        have hk83 : s73 (184) = σ (184) := (hf74 (184) (by omega)).trans hk72
        refine ra_load rfl rfl rfl rfl ?_
        refine ra_iconst rfl ?_
        refine ra_load rfl rfl rfl rfl ?_
        refine ra_load rfl rfl rfl rfl ?_
        refine ra_cQPs (sp_255 (by first | omega | (unfold ra_in at *; omega)) hx2 hx3 he76 (by first | assumption | rfl | omega)) rfl (ct_255 rfl lk_8_246 (Or.inl rfl) sh_179 (Nat.le_of_ble_eq_true rfl)) (fun z85 s84 hz85 hz85p hs84 => ?_)
        obtain ⟨hf86, hc87, hc88, hc89, hc90, hc91, he92, he93, he94, he95⟩ := hs84
        have hF96 := Fr_tr (lo := 179) (hi := 189) hF78 hf86 (by omega)
        have hk97 : s84 (180) = σ (180) := hc87.trans hk79
        have hk98 : s84 (181) = σ (181) := hc88.trans hk80
        have hk99 : s84 (182) = σ (182) := hc89.trans hk81
        have hk100 : s84 (183) = σ (183) := hc90.trans hk82
        have hk101 : s84 (184) = σ (184) := hc91.trans hk83
        refine ra_ifne rfl rfl (ra_in01 hz85) (fun h102 => ?_) (fun h102 => ?_)
        · have ht := hz85p (by omega)
          rw [toN0] at ht
          have hld1 := (LD_k hc87 (LD_k (hf74 180 (by omega)) (LD_k (hs65 180 (by omega)) hld)))
          have h51 : ra_g s84 180 5 = ra_g σ 180 5 := ra_gk hk97
          refine ra_load rfl rfl rfl rfl ?_
          refine ra_getR rfl lk_8_7 (Nat.zero_le _) sh_179 rfl ?_
          refine ra_load rfl rfl rfl rfl ?_
          refine ra_load rfl rfl rfl rfl ?_
          refine ra_getR rfl lk_8_38 (Nat.zero_le _) sh_179 rfl ?_
          refine ra_iconst rfl ?_
          refine ra_ialoadJ (j := 0) rfl sh_188 rfl (by decide) rfl (by decide) ?_
          have hr103 : ra_in (ra_g s84 (188) 0) := (ra_in_g _ _ _)
          refine ra_iastore rfl sh_180 rfl (by decide) (by first | omega | (unfold ra_in at *; omega)) (by first | omega | (unfold ra_in at *; omega)) ?_
          refine ra_newR hr103 (fun s104 hs104 hs104v hs104o => ?_)
          have hF105 := Fr_tr (lo := 179) (hi := 189) hF96 hs104 (by omega)
          have hk106 : s104 (181) = σ (181) := (hs104 (181) (by omega)).trans hk98
          have hk107 : s104 (182) = σ (182) := (hs104 (182) (by omega)).trans hk99
          have hk108 : s104 (183) = σ (183) := (hs104 (183) (by omega)).trans hk100
          have hk109 : s104 (184) = σ (184) := (hs104 (184) (by omega)).trans hk101
          refine ra_iconst rfl ?_
          exact ra_ireturn rfl (ra_okB (Or.inr rfl)) ⟨⟨_, (Or.inr rfl), (fun _ q => by have m_s65 : ra_g s65 179 17 = ra_g σ 179 17 := (hp66o 17 (by decide)); have k_s65 : ra_g s65 179 20 = ra_g σ 179 20 := (hp66o 20 (by decide)); have m_s73 := he77.1; have m_s84 := he95; have m_s104 : ra_g s104 179 17 = ra_g s84 179 17 := (ra_gk (hs104 179 (by omega))); have k_s104 : ra_g s104 179 20 = ra_g s84 179 20 := (ra_gk (hs104 179 (by omega))); have m_a := hz85p (by omega); omega), rfl⟩, ⟨hF105, hk106, hk107, hk108, hk109, (fun a h15 h16 h17 h18 h19 h20 h21 => ((ra_gk (hs104 179 (by omega))).trans ((he92 a h15 h16 h17 h18 h19 h20).trans ((he75 a h17 h18 h19 h20).trans (hp66o a h21))))), (LD_set (j := x0.toNat) hld1 (by omega) hs104o (fun q => by have t := hs104v; omega) (fun q => by have t := hs104v; omega) (fun q => by have t := hs104v; omega) (fun q => by have t := hs104v; omega) (by omega)), (pt_e (ra_gk (hs104 179 (by omega))) (ra_gk (hs104 179 (by omega))) (ra_gk (hs104 179 (by omega))) (ra_gk (hs104 179 (by omega))) he94), (by have m_s65 : ra_g s65 179 17 = ra_g σ 179 17 := (hp66o 17 (by decide)); have k_s65 : ra_g s65 179 20 = ra_g σ 179 20 := (hp66o 20 (by decide)); have m_s73 := he77.1; have m_s84 := he95; have m_s104 : ra_g s104 179 17 = ra_g s84 179 17 := (ra_gk (hs104 179 (by omega))); have k_s104 : ra_g s104 179 20 = ra_g s84 179 20 := (ra_gk (hs104 179 (by omega))); omega)⟩⟩
        · refine ra_iconst rfl ?_
          exact ra_ireturn rfl (ra_okB (Or.inl rfl)) ⟨⟨_, (Or.inl rfl), (fun q => absurd q (by decide)), rfl⟩, ⟨hF96, hk98, hk99, hk100, hk101, (fun a h15 h16 h17 h18 h19 h20 h21 => ((he92 a h15 h16 h17 h18 h19 h20).trans ((he75 a h17 h18 h19 h20).trans (hp66o a h21)))), (LD_k hc87 (LD_k (hf74 180 (by omega)) (LD_k (hs65 180 (by omega)) hld))), he94, (by have m_s65 : ra_g s65 179 17 = ra_g σ 179 17 := (hp66o 17 (by decide)); have k_s65 : ra_g s65 179 20 = ra_g σ 179 20 := (hp66o 20 (by decide)); have m_s73 := he77.1; have m_s84 := he95; omega)⟩⟩
      · refine ra_load rfl rfl rfl rfl ?_
        refine ra_iconst rfl ?_
        refine ra_cQP (sp_252 (by first | omega | (unfold ra_in at *; omega))) rfl (ct_252 rfl lk_8_233 (Or.inl rfl) sh_179 (Nat.le_of_ble_eq_true rfl)) (fun z111 s110 hz111 hz111p hs110 => ?_)
        obtain ⟨hf112, he113⟩ := hs110
        have hF114 := Fr_tr (lo := 179) (hi := 189) Fr_rf hf112 (by omega)
        have hk115 : s110 (180) = σ (180) := (hf112 (180) (by omega))
        have hk116 : s110 (181) = σ (181) := (hf112 (181) (by omega))
        have hk117 : s110 (182) = σ (182) := (hf112 (182) (by omega))
        have hk118 : s110 (183) = σ (183) := (hf112 (183) (by omega))
        have hk119 : s110 (184) = σ (184) := (hf112 (184) (by omega))
        exact ra_ireturn rfl (ra_okB hz111) ⟨⟨_, hz111, (fun q => absurd q (by omega)), rfl⟩, ⟨hF114, hk116, hk117, hk118, hk119, (fun a h15 h16 h17 h18 h19 h20 h21 => (he113 a h15 h16)), (LD_k (hf112 180 (by omega)) hld), (pt_e (he113 12 (by decide) (by decide)) (he113 17 (by decide) (by decide)) (he113 18 (by decide) (by decide)) (he113 19 (by decide) (by decide)) hpt), (by have m_s110 : ra_g s110 179 17 = ra_g σ 179 17 := (he113 17 (by decide) (by decide)); have k_s110 : ra_g s110 179 20 = ra_g σ 179 20 := (he113 20 (by decide) (by decide)); omega)⟩⟩
    · refine ra_load rfl rfl rfl rfl ?_
      refine ra_iconst rfl ?_
      refine ra_cQP (sp_252 (by first | omega | (unfold ra_in at *; omega))) rfl (ct_252 rfl lk_8_233 (Or.inl rfl) sh_179 (Nat.le_of_ble_eq_true rfl)) (fun z121 s120 hz121 hz121p hs120 => ?_)
      obtain ⟨hf122, he123⟩ := hs120
      have hF124 := Fr_tr (lo := 179) (hi := 189) Fr_rf hf122 (by omega)
      have hk125 : s120 (180) = σ (180) := (hf122 (180) (by omega))
      have hk126 : s120 (181) = σ (181) := (hf122 (181) (by omega))
      have hk127 : s120 (182) = σ (182) := (hf122 (182) (by omega))
      have hk128 : s120 (183) = σ (183) := (hf122 (183) (by omega))
      have hk129 : s120 (184) = σ (184) := (hf122 (184) (by omega))
      exact ra_ireturn rfl (ra_okB hz121) ⟨⟨_, hz121, (fun q => absurd q (by omega)), rfl⟩, ⟨hF124, hk126, hk127, hk128, hk129, (fun a h15 h16 h17 h18 h19 h20 h21 => (he123 a h15 h16)), (LD_k (hf122 180 (by omega)) hld), (pt_e (he123 12 (by decide) (by decide)) (he123 17 (by decide) (by decide)) (he123 18 (by decide) (by decide)) (he123 19 (by decide) (by decide)) hpt), (by have m_s120 : ra_g s120 179 17 = ra_g σ 179 17 := (he123 17 (by decide) (by decide)); have k_s120 : ra_g s120 179 20 = ra_g σ 179 20 := (he123 20 (by decide) (by decide)); omega)⟩⟩
end RB
end
section
/-! the reference: what its methods do (printed by wip/gen/ref.py) -/
section RB
theorem lq_210_3 {n : Nat} {f : Nat → Int32} {d : Nat} {x0 : Int} {x1 : Int} {x2 : Int} {x3 : Int} {σ : ra_V} (hx0 : ra_in x0) (hx1 : ra_in x1) (hx2 : ra_in x2) (hx3 : ra_in x3) (hx : ∃ q, 0 ≤ q ∧ q < 8 ∧ wq σ q 0 ≠ 1) (hn : 0 ≤ x0 ∧ 1 ≤ x1 ∧ x0 + x1 ≤ 600) (h5 : 0 ≤ ra_g σ 180 5 ∧ ra_g σ 180 5 ≤ 8) : ∀ (nn : Nat) (v5 : Int) (hv5_0 : 0 ≤ v5) (hv5_1 : ∀ r, 0 ≤ r → r < v5 → wq σ r 0 = 1) (hm : ((8 - v5 : Int)).toNat < nn), ra_P (g_Gs n f) g_sh 0 (d + 3) g_m_X8_makes 3 [some (.index (179)), some (ra_I x0), some (ra_I x1), some (ra_I x2), some (ra_I x3), some (ra_I v5)] [] σ (fun r s => (∃ z, ra_in z ∧ (MK2 σ s z x0 x1 x3) ∧ r = .inl (some (ra_I z))) ∧ Fr (180) (181) σ s) := by
  intro nn
  induction nn with
  | zero => intro v5 hv5_0 hv5_1 hm; exact absurd hm (Nat.not_lt_zero _)
  | succ nn ih =>
    intro v5 hv5_0 hv5_1 hm
    have hv8 : v5 < 8 := free_lt hx hv5_1
    refine ra_load rfl rfl rfl rfl ?_
    refine ra_load rfl rfl rfl rfl ?_
    refine ra_iconst rfl ?_
    refine ra_cTp (sp_200 (by first | omega | (unfold ra_in at *; omega)) (by first | omega | (unfold ra_in at *; omega)) (by first | assumption | rfl | omega)) rfl (ct_200 rfl lk_8_67 (Or.inl rfl) sh_179 (Nat.le_of_ble_eq_true rfl)) ?_
    have hr2 : ra_in (wq σ v5 (0)) := (ra_in_wq _ _ _)
    refine ra_iconst rfl ?_
    refine ra_icne rfl rfl hr2 (by first | omega | (unfold ra_in at *; omega)) (fun h3 => ?_) (fun h3 => ?_)
    · refine ra_load rfl rfl rfl rfl ?_
      refine ra_load rfl rfl rfl rfl ?_
      refine ra_iconst rfl ?_
      refine ra_iconst rfl ?_
      refine ra_cV (sp_201 (by first | omega | (unfold ra_in at *; omega)) (by first | omega | (unfold ra_in at *; omega)) (by first | omega | (unfold ra_in at *; omega)) (by first | assumption | rfl | omega)) rfl (ct_201 rfl lk_8_78 (Or.inl rfl) sh_179 (Nat.le_of_ble_eq_true rfl)) (fun s4 hs4 => ?_)
      obtain ⟨hf5, he6, he7⟩ := hs4
      have hF8 := Fr_tr (lo := 180) (hi := 181) Fr_rf hf5 (by omega)
      refine ra_load rfl rfl rfl rfl ?_
      refine ra_load rfl rfl rfl rfl ?_
      refine ra_iconst rfl ?_
      refine ra_load rfl rfl rfl rfl ?_
      refine ra_cV (sp_201 (by first | omega | (unfold ra_in at *; omega)) (by first | omega | (unfold ra_in at *; omega)) hx0 (by first | assumption | rfl | omega)) rfl (ct_201 rfl lk_8_78 (Or.inl rfl) sh_179 (Nat.le_of_ble_eq_true rfl)) (fun s9 hs9 => ?_)
      obtain ⟨hf10, he11, he12⟩ := hs9
      have hF13 := Fr_tr (lo := 180) (hi := 181) hF8 hf10 (by omega)
      refine ra_load rfl rfl rfl rfl ?_
      refine ra_load rfl rfl rfl rfl ?_
      refine ra_iconst rfl ?_
      refine ra_load rfl rfl rfl rfl ?_
      refine ra_cV (sp_201 (by first | omega | (unfold ra_in at *; omega)) (by first | omega | (unfold ra_in at *; omega)) hx1 (by first | assumption | rfl | omega)) rfl (ct_201 rfl lk_8_78 (Or.inl rfl) sh_179 (Nat.le_of_ble_eq_true rfl)) (fun s14 hs14 => ?_)
      obtain ⟨hf15, he16, he17⟩ := hs14
      have hF18 := Fr_tr (lo := 180) (hi := 181) hF13 hf15 (by omega)
      refine ra_load rfl rfl rfl rfl ?_
      refine ra_load rfl rfl rfl rfl ?_
      refine ra_iconst rfl ?_
      refine ra_load rfl rfl rfl rfl ?_
      refine ra_cV (sp_201 (by first | omega | (unfold ra_in at *; omega)) (by first | omega | (unfold ra_in at *; omega)) hx3 (by first | assumption | rfl | omega)) rfl (ct_201 rfl lk_8_78 (Or.inl rfl) sh_179 (Nat.le_of_ble_eq_true rfl)) (fun s19 hs19 => ?_)
      obtain ⟨hf20, he21, he22⟩ := hs19
      have hF23 := Fr_tr (lo := 180) (hi := 181) hF18 hf20 (by omega)
      refine ra_load rfl rfl rfl rfl ?_
      refine ra_load rfl rfl rfl rfl ?_
      refine ra_iconst rfl ?_
      refine ra_load rfl rfl rfl rfl ?_
      refine ra_cV (sp_201 (by first | omega | (unfold ra_in at *; omega)) (by first | omega | (unfold ra_in at *; omega)) hx2 (by first | assumption | rfl | omega)) rfl (ct_201 rfl lk_8_78 (Or.inl rfl) sh_179 (Nat.le_of_ble_eq_true rfl)) (fun s24 hs24 => ?_)
      obtain ⟨hf25, he26, he27⟩ := hs24
      have hF28 := Fr_tr (lo := 180) (hi := 181) hF23 hf25 (by omega)
      refine ra_load rfl rfl rfl rfl ?_
      refine ra_load rfl rfl rfl rfl ?_
      refine ra_iconst rfl ?_
      refine ra_iconst rfl ?_
      refine ra_cV (sp_201 (by first | omega | (unfold ra_in at *; omega)) (by first | omega | (unfold ra_in at *; omega)) (by first | omega | (unfold ra_in at *; omega)) (by first | assumption | rfl | omega)) rfl (ct_201 rfl lk_8_78 (Or.inl rfl) sh_179 (Nat.le_of_ble_eq_true rfl)) (fun s29 hs29 => ?_)
      obtain ⟨hf30, he31, he32⟩ := hs29
      have hF33 := Fr_tr (lo := 180) (hi := 181) hF28 hf30 (by omega)
      refine ra_load rfl rfl rfl rfl ?_
      refine ra_load rfl rfl rfl rfl ?_
      refine ra_bipush rfl (by decide) ?_
      refine ra_load rfl rfl rfl rfl ?_
      refine ra_getR rfl lk_8_7 (Nat.zero_le _) sh_179 rfl ?_
      refine ra_iconst rfl ?_
      refine ra_ialoadJ (j := 5) rfl sh_180 rfl (by decide) rfl (by decide) ?_
      have hr34 : ra_in (ra_g s29 (180) 5) := (ra_in_g _ _ _)
      refine ra_cV (sp_201 (by first | omega | (unfold ra_in at *; omega)) (by first | omega | (unfold ra_in at *; omega)) hr34 (by first | assumption | rfl | omega)) rfl (ct_201 rfl lk_8_78 (Or.inl rfl) sh_179 (Nat.le_of_ble_eq_true rfl)) (fun s35 hs35 => ?_)
      obtain ⟨hf36, he37, he38⟩ := hs35
      have hF39 := Fr_tr (lo := 180) (hi := 181) hF33 hf36 (by omega)
      refine ra_load rfl rfl rfl rfl ?_
      refine ra_load rfl rfl rfl rfl ?_
      refine ra_bipush rfl (by decide) ?_
      refine ra_iconst rfl ?_
      refine ra_cV (sp_201 (by first | omega | (unfold ra_in at *; omega)) (by first | omega | (unfold ra_in at *; omega)) (by first | omega | (unfold ra_in at *; omega)) (by first | assumption | rfl | omega)) rfl (ct_201 rfl lk_8_78 (Or.inl rfl) sh_179 (Nat.le_of_ble_eq_true rfl)) (fun s40 hs40 => ?_)
      obtain ⟨hf41, he42, he43⟩ := hs40
      have hF44 := Fr_tr (lo := 180) (hi := 181) hF39 hf41 (by omega)
      refine ra_load rfl rfl rfl rfl ?_
      have e5 : ra_g s40 180 5 = ra_g σ 180 5 := ((he43 5 (by omega)).trans ((he38 5 (by omega)).trans ((he32 5 (by omega)).trans ((he27 5 (by omega)).trans ((he22 5 (by omega)).trans ((he17 5 (by omega)).trans ((he12 5 (by omega)).trans (he7 5 (by omega)))))))))
      refine ra_getR rfl lk_8_7 (Nat.zero_le _) sh_179 rfl ?_
      refine ra_iconst rfl ?_
      refine ra_dup2 rfl rfl rfl ?_
      refine ra_ialoadJ (j := 5) rfl sh_180 rfl (by decide) rfl (by decide) ?_
      have hr45 : ra_in (ra_g s40 (180) 5) := (ra_in_g _ _ _)
      refine ra_iconst rfl ?_
      refine ra_iadd rfl ?_
      refine ra_iastoreJ (j := 5) rfl sh_180 rfl (by decide) rfl (by decide) ?_
      refine ra_newR (by first | omega | (unfold ra_in at *; omega)) (fun s46 hs46 hs46v hs46o => ?_)
      have hF47 := Fr_tr (lo := 180) (hi := 181) hF44 hs46 (by omega)
      refine ra_load rfl rfl rfl rfl ?_
      refine ra_load rfl rfl rfl rfl ?_
      refine ra_iconst rfl ?_
      refine ra_cV (sp_209 (by first | omega | (unfold ra_in at *; omega)) (by first | omega | (unfold ra_in at *; omega)) (by first | assumption | rfl | omega) (by have := mk_chain (a := x0) (m := x1) (mn := x3) ⟨by omega, by omega, by omega⟩ he6 he7 he11 he12 he16 he17 he21 he22 he27 he32 he38 he43 hs46o SC_rf; obtain ⟨-, -, t1, t2, -⟩ := this; omega) (by first | assumption | rfl | omega)) rfl (ct_209 rfl lk_8_82 (Or.inl rfl) sh_179 (Nat.le_of_ble_eq_true rfl)) (fun s48 hs48 => ?_)
      obtain ⟨hf49, he50⟩ := hs48
      have hF51 := Fr_tr (lo := 180) (hi := 181) hF47 hf49 (by omega)
      refine ra_load rfl rfl rfl rfl ?_
      exact ra_ireturn rfl rfl ⟨⟨_, (by first | omega | (unfold ra_in at *; omega)), ⟨(mk_chain ⟨by omega, by omega, by omega⟩ he6 he7 he11 he12 he16 he17 he21 he22 he27 he32 he38 he43 hs46o he50), ((he50 5 (by decide)).trans (by have t := hs46v; omega)), hv5_1⟩, rfl⟩, hF51⟩
    · refine ra_iinc (L' := [_, _, _, _, _, _]) rfl rfl (Nat.le_of_ble_eq_true rfl) rfl ?_
      refine ra_goto rfl rfl ?_
      exact ra_weak (by repeat' constructor) (ih (v5 + 1) (by first | omega | (unfold ra_in at *; omega)) (fun r a b => if e : r = v5 then (by rw [e]; omega) else hv5_1 r a (by omega)) (by first | omega | (unfold ra_in at *; omega)))
theorem sq_210 {n : Nat} {f : Nat → Int32} {d : Nat} {x0 : Int} {x1 : Int} {x2 : Int} {x3 : Int} {σ : ra_V} (hx0 : ra_in x0) (hx1 : ra_in x1) (hx2 : ra_in x2) (hx3 : ra_in x3) (hx : ∃ q, 0 ≤ q ∧ q < 8 ∧ wq σ q 0 ≠ 1) (hn : 0 ≤ x0 ∧ 1 ≤ x1 ∧ x0 + x1 ≤ 600) (h5 : 0 ≤ ra_g σ 180 5 ∧ ra_g σ 180 5 ≤ 8) : ra_C (g_Gs n f) g_sh 0 (d + 4) 210 [.index (179), ra_I x0, ra_I x1, ra_I x2, ra_I x3] σ (fun r s => (∃ z, ra_in z ∧ (MK2 σ s z x0 x1 x3) ∧ r = .inl (some (ra_I z))) ∧ Fr (180) (181) σ s) := by
  refine ra_enter (nn := 1) mt_210 rfl (Nat.le_of_ble_eq_true rfl) rfl (fun h => absurd h (by decide +kernel)) ?_
  refine ra_iconst rfl ?_
  refine ra_store (L' := [_, _, _, _, _, _]) rfl rfl rfl (Nat.le_of_ble_eq_true rfl) rfl ?_
  exact ra_weak (by repeat' constructor) (lq_210_3 hx0 hx1 hx2 hx3 hx hn h5 _ (0) (by first | omega | (unfold ra_in at *; omega)) (fun r a b => by omega) (Nat.lt_succ_self _))
theorem lp_257_183 {n : Nat} {f : Nat → Int32} {d : Nat}  {σ : ra_V} (hpt : 0 ≤ ra_g σ 179 18 ∧ ra_g σ 179 18 ≤ ra_g σ 179 17 ∧ ra_g σ 179 17 ≤ ra_g σ 179 12 ∧ ra_g σ 179 12 ≤ 500 ∧ 0 ≤ ra_g σ 179 19 ∧ ra_g σ 179 19 ≤ 999) (hld : LD σ) : ∀ (s : ra_V) (hF : Fr (179) (189) σ s) (hk0 : s (180) = σ (180)) (hk1 : s (181) = σ (181)) (hk2 : s (182) = σ (182)) (hk3 : s (183) = σ (183)) (hk4 : s (184) = σ (184)) (hov : ∀ a, a ≠ 15 → a ≠ 16 → a ≠ 17 → a ≠ 18 → a ≠ 19 → a ≠ 20 → a ≠ 21 → ra_g s 179 a = ra_g σ 179 a) (hps : 0 ≤ ra_g s 179 18 ∧ ra_g s 179 18 ≤ ra_g s 179 17 ∧ ra_g s 179 17 ≤ ra_g s 179 12 ∧ ra_g s 179 12 ≤ 500 ∧ 0 ≤ ra_g s 179 19 ∧ ra_g s 179 19 ≤ 999) (hmo : ra_g σ 179 17 ≤ ra_g s 179 17) (h8 : ra_g σ 180 5 ≠ 8) (hua : US σ (ra_g s 188 0) (ra_g s 188 1)) (hta : ¬ TK σ (ra_g s 188 0) (ra_g s 188 1) (-1)) (h3 : 1 ≤ ra_g s 188 3 ∧ ra_g s 188 3 ≤ ra_g s 188 1) (hadv : ra_g s 179 20 = 3 → ra_g σ 179 17 < ra_g s 179 17), ra_P (g_Gs n f) g_sh 0 (d + 4) g_m_X8_readPart 183 [some (.index (179)), none] [] s (fun r s => (∃ z : Int, (z = 0 ∨ z = 1) ∧ (z = 1 → ra_g s 179 20 = 3 → ra_g σ 179 17 < ra_g s 179 17) ∧ r = .inl (some (ra_I z))) ∧ Fr (179) (189) σ s ∧ s (181) = σ (181) ∧ s (182) = σ (182) ∧ s (183) = σ (183) ∧ s (184) = σ (184) ∧ (∀ a, a ≠ 15 → a ≠ 16 → a ≠ 17 → a ≠ 18 → a ≠ 19 → a ≠ 20 → a ≠ 21 → ra_g s 179 a = ra_g σ 179 a) ∧ LD s ∧ (0 ≤ ra_g s 179 18 ∧ ra_g s 179 18 ≤ ra_g s 179 17 ∧ ra_g s 179 17 ≤ ra_g s 179 12 ∧ ra_g s 179 12 ≤ 500 ∧ 0 ≤ ra_g s 179 19 ∧ ra_g s 179 19 ≤ 999) ∧ ra_g σ 179 17 ≤ ra_g s 179 17) := by
    intro s hF hk0 hk1 hk2 hk3 hk4 hov hps hmo h8 hua hta h3 hadv
    have hw0 := WF_a hld.1
    unfold WFa at hw0
    have hl5 := hld.2.2.1
    have hus := US_k hk0.symm hua
    have hus2 := hus
    unfold US at hus2
    have e5 : ra_g s 180 5 = ra_g σ 180 5 := ra_gk hk0
    have e0 : ra_g s 180 0 = ra_g σ 180 0 := ra_gk hk0
    have e1 : ra_g s 180 1 = ra_g σ 180 1 := ra_gk hk0
    have e2 : ra_g s 180 2 = ra_g σ 180 2 := ra_gk hk0
    refine ra_load rfl rfl rfl rfl ?_
    refine ra_load rfl rfl rfl rfl ?_
    refine ra_getR rfl lk_8_38 (Nat.zero_le _) sh_179 rfl ?_
    refine ra_iconst rfl ?_
    refine ra_ialoadJ (j := 0) rfl sh_188 rfl (by decide) rfl (by decide) ?_
    have hr140 : ra_in (ra_g s (188) 0) := (ra_in_g _ _ _)
    refine ra_load rfl rfl rfl rfl ?_
    refine ra_getR rfl lk_8_38 (Nat.zero_le _) sh_179 rfl ?_
    refine ra_iconst rfl ?_
    refine ra_ialoadJ (j := 1) rfl sh_188 rfl (by decide) rfl (by decide) ?_
    have hr141 : ra_in (ra_g s (188) 1) := (ra_in_g _ _ _)
    refine ra_load rfl rfl rfl rfl ?_
    refine ra_getR rfl lk_8_38 (Nat.zero_le _) sh_179 rfl ?_
    refine ra_iconst rfl ?_
    refine ra_ialoadJ (j := 2) rfl sh_188 rfl (by decide) rfl (by decide) ?_
    have hr142 : ra_in (ra_g s (188) 2) := (ra_in_g _ _ _)
    refine ra_load rfl rfl rfl rfl ?_
    refine ra_getR rfl lk_8_38 (Nat.zero_le _) sh_179 rfl ?_
    refine ra_iconst rfl ?_
    refine ra_ialoadJ (j := 3) rfl sh_188 rfl (by decide) rfl (by decide) ?_
    have hr143 : ra_in (ra_g s (188) 3) := (ra_in_g _ _ _)
    refine ra_cIPs (sq_210 hr140 hr141 hr142 hr143 (LD_x (LD_k hk0 hld) (by omega)) (by omega) (by omega)) rfl (ct_210 rfl lk_8_250 (Or.inl rfl) sh_179 (Nat.le_of_ble_eq_true rfl)) (fun z145 s144 hz145 hz145p hs144 => ?_)
    have hF146 := Fr_tr (lo := 179) (hi := 189) hF hs144 (by omega)
    have hk147 : s144 (181) = σ (181) := (hs144 (181) (by omega)).trans hk1
    have hk148 : s144 (182) = σ (182) := (hs144 (182) (by omega)).trans hk2
    have hk149 : s144 (183) = σ (183) := (hs144 (183) (by omega)).trans hk3
    have hk150 : s144 (184) = σ (184) := (hs144 (184) (by omega)).trans hk4
    refine ra_store (L' := [_, _]) rfl rfl rfl (Nat.le_of_ble_eq_true rfl) rfl ?_
    refine ra_load rfl rfl rfl rfl ?_
    refine ra_iflt rfl rfl hz145 (fun h151 => ?_) (fun h151 => ?_)
    · refine ra_iconst rfl ?_
      exact ra_ireturn rfl (ra_okB (Or.inl rfl)) ⟨⟨_, (Or.inl rfl), (fun q => absurd q (by decide)), rfl⟩, ⟨hF146, hk147, hk148, hk149, hk150, (fun a h15 h16 h17 h18 h19 h20 h21 => ((ra_gk (hs144 179 (by omega))).trans (hov a h15 h16 h17 h18 h19 h20 h21))), (LD_new (LD_k hk0 hld) hz145p (by omega) hus (fun q => hta (TK_k hk0 q)) ⟨by omega, by omega⟩), (pt_e (ra_gk (hs144 179 (by omega))) (ra_gk (hs144 179 (by omega))) (ra_gk (hs144 179 (by omega))) (ra_gk (hs144 179 (by omega))) hps), (by have m_s144 : ra_g s144 179 17 = ra_g s 179 17 := (ra_gk (hs144 179 (by omega))); have k_s144 : ra_g s144 179 20 = ra_g s 179 20 := (ra_gk (hs144 179 (by omega))); omega)⟩⟩
    · refine ra_iconst rfl ?_
      refine ra_goto rfl rfl ?_
      exact ra_ireturn rfl (ra_okB (Or.inr rfl)) ⟨⟨_, (Or.inr rfl), (fun _ q => by have m_s144 : ra_g s144 179 17 = ra_g s 179 17 := (ra_gk (hs144 179 (by omega))); have k_s144 : ra_g s144 179 20 = ra_g s 179 20 := (ra_gk (hs144 179 (by omega))); have a := hadv (by omega); omega), rfl⟩, ⟨hF146, hk147, hk148, hk149, hk150, (fun a h15 h16 h17 h18 h19 h20 h21 => ((ra_gk (hs144 179 (by omega))).trans (hov a h15 h16 h17 h18 h19 h20 h21))), (LD_new (LD_k hk0 hld) hz145p (by omega) hus (fun q => hta (TK_k hk0 q)) ⟨by omega, by omega⟩), (pt_e (ra_gk (hs144 179 (by omega))) (ra_gk (hs144 179 (by omega))) (ra_gk (hs144 179 (by omega))) (ra_gk (hs144 179 (by omega))) hps), (by have m_s144 : ra_g s144 179 17 = ra_g s 179 17 := (ra_gk (hs144 179 (by omega))); have k_s144 : ra_g s144 179 20 = ra_g s 179 20 := (ra_gk (hs144 179 (by omega))); omega)⟩⟩
theorem lp_257_166 {n : Nat} {f : Nat → Int32} {d : Nat}  {σ : ra_V} (hpt : 0 ≤ ra_g σ 179 18 ∧ ra_g σ 179 18 ≤ ra_g σ 179 17 ∧ ra_g σ 179 17 ≤ ra_g σ 179 12 ∧ ra_g σ 179 12 ≤ 500 ∧ 0 ≤ ra_g σ 179 19 ∧ ra_g σ 179 19 ≤ 999) (hld : LD σ) : ∀ (s : ra_V) (hF : Fr (179) (189) σ s) (hk0 : s (180) = σ (180)) (hk1 : s (181) = σ (181)) (hk2 : s (182) = σ (182)) (hk3 : s (183) = σ (183)) (hk4 : s (184) = σ (184)) (hov : ∀ a, a ≠ 15 → a ≠ 16 → a ≠ 17 → a ≠ 18 → a ≠ 19 → a ≠ 20 → a ≠ 21 → ra_g s 179 a = ra_g σ 179 a) (hps : 0 ≤ ra_g s 179 18 ∧ ra_g s 179 18 ≤ ra_g s 179 17 ∧ ra_g s 179 17 ≤ ra_g s 179 12 ∧ ra_g s 179 12 ≤ 500 ∧ 0 ≤ ra_g s 179 19 ∧ ra_g s 179 19 ≤ 999) (hmo : ra_g σ 179 17 ≤ ra_g s 179 17) (h8 : ra_g σ 180 5 ≠ 8) (hua : US σ (ra_g s 188 0) (ra_g s 188 1)) (hta : ¬ TK σ (ra_g s 188 0) (ra_g s 188 1) (-1)) (h1 : 1 ≤ ra_g s 188 1 ∧ ra_g s 188 1 ≤ 999), ra_P (g_Gs n f) g_sh 0 (d + 4) g_m_X8_readPart 166 [some (.index (179)), none] [] s (fun r s => (∃ z : Int, (z = 0 ∨ z = 1) ∧ (z = 1 → ra_g s 179 20 = 3 → ra_g σ 179 17 < ra_g s 179 17) ∧ r = .inl (some (ra_I z))) ∧ Fr (179) (189) σ s ∧ s (181) = σ (181) ∧ s (182) = σ (182) ∧ s (183) = σ (183) ∧ s (184) = σ (184) ∧ (∀ a, a ≠ 15 → a ≠ 16 → a ≠ 17 → a ≠ 18 → a ≠ 19 → a ≠ 20 → a ≠ 21 → ra_g s 179 a = ra_g σ 179 a) ∧ LD s ∧ (0 ≤ ra_g s 179 18 ∧ ra_g s 179 18 ≤ ra_g s 179 17 ∧ ra_g s 179 17 ≤ ra_g s 179 12 ∧ ra_g s 179 12 ≤ 500 ∧ 0 ≤ ra_g s 179 19 ∧ ra_g s 179 19 ≤ 999) ∧ ra_g σ 179 17 ≤ ra_g s 179 17) := by
    intro s hF hk0 hk1 hk2 hk3 hk4 hov hps hmo h8 hua hta h1
    have hw0 := WF_a hld.1
    unfold WFa at hw0
    have hl5 := hld.2.2.1
    refine ra_load rfl rfl rfl rfl ?_
    refine ra_iconst rfl ?_
    refine ra_iconst rfl ?_
    refine ra_load rfl rfl rfl rfl ?_
    refine ra_getR rfl lk_8_38 (Nat.zero_le _) sh_179 rfl ?_
    refine ra_iconst rfl ?_
    refine ra_ialoadJ (j := 1) rfl sh_188 rfl (by decide) rfl (by decide) ?_
    have hr120 : ra_in (ra_g s (188) 1) := (ra_in_g _ _ _)
    refine ra_cQPs (sp_255 (by first | omega | (unfold ra_in at *; omega)) (by first | omega | (unfold ra_in at *; omega)) hr120 hps (by first | assumption | rfl | omega)) rfl (ct_255 rfl lk_8_246 (Or.inl rfl) sh_179 (Nat.le_of_ble_eq_true rfl)) (fun z122 s121 hz122 hz122p hs121 => ?_)
    obtain ⟨hf123, hc124, hc125, hc126, hc127, hc128, he129, he130, he131, he132⟩ := hs121
    have hF133 := Fr_tr (lo := 179) (hi := 189) hF hf123 (by omega)
    have hk134 : s121 (180) = σ (180) := hc124.trans hk0
    have hk135 : s121 (181) = σ (181) := hc125.trans hk1
    have hk136 : s121 (182) = σ (182) := hc126.trans hk2
    have hk137 : s121 (183) = σ (183) := hc127.trans hk3
    have hk138 : s121 (184) = σ (184) := hc128.trans hk4
    refine ra_ifne rfl rfl (ra_in01 hz122) (fun h139 => ?_) (fun h139 => ?_)
    · exact ra_weak (by repeat' constructor) (lp_257_183 hpt hld s121 hF133 hk134 hk135 hk136 hk137 hk138 (fun a h15 h16 h17 h18 h19 h20 h21 => ((he129 a h15 h16 h17 h18 h19 h20).trans (hov a h15 h16 h17 h18 h19 h20 h21))) he131 (by have m_s121 := he132; omega) (by first | assumption | omega) (by rw [show ra_g s121 188 0 = ra_g s 188 0 from (he130 0 (by decide)), show ra_g s121 188 1 = ra_g s 188 1 from (he130 1 (by decide))]; exact hua) (by rw [show ra_g s121 188 0 = ra_g s 188 0 from (he130 0 (by decide)), show ra_g s121 188 1 = ra_g s 188 1 from (he130 1 (by decide))]; exact hta) (by have a := hz122p (by omega); rw [toN3] at a; have e := (he130 1 (by decide) : ra_g s121 188 1 = ra_g s 188 1); omega) (fun q => by have m_s121 := he132; have a := hz122p (by omega); omega))
    · refine ra_iconst rfl ?_
      exact ra_ireturn rfl (ra_okB (Or.inl rfl)) ⟨⟨_, (Or.inl rfl), (fun q => absurd q (by decide)), rfl⟩, ⟨hF133, hk135, hk136, hk137, hk138, (fun a h15 h16 h17 h18 h19 h20 h21 => ((he129 a h15 h16 h17 h18 h19 h20).trans (hov a h15 h16 h17 h18 h19 h20 h21))), (LD_k hk134 hld), he131, (by have m_s121 := he132; omega)⟩⟩
theorem lp_257_155 {n : Nat} {f : Nat → Int32} {d : Nat}  {σ : ra_V} (hpt : 0 ≤ ra_g σ 179 18 ∧ ra_g σ 179 18 ≤ ra_g σ 179 17 ∧ ra_g σ 179 17 ≤ ra_g σ 179 12 ∧ ra_g σ 179 12 ≤ 500 ∧ 0 ≤ ra_g σ 179 19 ∧ ra_g σ 179 19 ≤ 999) (hld : LD σ) : ∀ (s : ra_V) (hF : Fr (179) (189) σ s) (hk0 : s (180) = σ (180)) (hk1 : s (181) = σ (181)) (hk2 : s (182) = σ (182)) (hk3 : s (183) = σ (183)) (hk4 : s (184) = σ (184)) (hov : ∀ a, a ≠ 15 → a ≠ 16 → a ≠ 17 → a ≠ 18 → a ≠ 19 → a ≠ 20 → a ≠ 21 → ra_g s 179 a = ra_g σ 179 a) (hps : 0 ≤ ra_g s 179 18 ∧ ra_g s 179 18 ≤ ra_g s 179 17 ∧ ra_g s 179 17 ≤ ra_g s 179 12 ∧ ra_g s 179 12 ≤ 500 ∧ 0 ≤ ra_g s 179 19 ∧ ra_g s 179 19 ≤ 999) (hmo : ra_g σ 179 17 ≤ ra_g s 179 17) (h8 : ra_g σ 180 5 ≠ 8) (hua : US σ (ra_g s 188 0) (ra_g s 188 1)) (hta : ¬ TK σ (ra_g s 188 0) (ra_g s 188 1) (-1)) (h1 : 1 ≤ ra_g s 188 1 ∧ ra_g s 188 1 ≤ 999), ra_P (g_Gs n f) g_sh 0 (d + 4) g_m_X8_readPart 155 [some (.index (179)), none] [] s (fun r s => (∃ z : Int, (z = 0 ∨ z = 1) ∧ (z = 1 → ra_g s 179 20 = 3 → ra_g σ 179 17 < ra_g s 179 17) ∧ r = .inl (some (ra_I z))) ∧ Fr (179) (189) σ s ∧ s (181) = σ (181) ∧ s (182) = σ (182) ∧ s (183) = σ (183) ∧ s (184) = σ (184) ∧ (∀ a, a ≠ 15 → a ≠ 16 → a ≠ 17 → a ≠ 18 → a ≠ 19 → a ≠ 20 → a ≠ 21 → ra_g s 179 a = ra_g σ 179 a) ∧ LD s ∧ (0 ≤ ra_g s 179 18 ∧ ra_g s 179 18 ≤ ra_g s 179 17 ∧ ra_g s 179 17 ≤ ra_g s 179 12 ∧ ra_g s 179 12 ≤ 500 ∧ 0 ≤ ra_g s 179 19 ∧ ra_g s 179 19 ≤ 999) ∧ ra_g σ 179 17 ≤ ra_g s 179 17) := by
    intro s hF hk0 hk1 hk2 hk3 hk4 hov hps hmo h8 hua hta h1
    have hw0 := WF_a hld.1
    unfold WFa at hw0
    have hl5 := hld.2.2.1
    refine ra_load rfl rfl rfl rfl ?_
    refine ra_iconst rfl ?_
    refine ra_iconst rfl ?_
    refine ra_bipush rfl (by decide) ?_
    refine ra_cQPs (sp_255 (by first | omega | (unfold ra_in at *; omega)) (by first | omega | (unfold ra_in at *; omega)) (by first | omega | (unfold ra_in at *; omega)) hps (by first | assumption | rfl | omega)) rfl (ct_255 rfl lk_8_246 (Or.inl rfl) sh_179 (Nat.le_of_ble_eq_true rfl)) (fun z102 s101 hz102 hz102p hs101 => ?_)
    obtain ⟨hf103, hc104, hc105, hc106, hc107, hc108, he109, he110, he111, he112⟩ := hs101
    have hF113 := Fr_tr (lo := 179) (hi := 189) hF hf103 (by omega)
    have hk114 : s101 (180) = σ (180) := hc104.trans hk0
    have hk115 : s101 (181) = σ (181) := hc105.trans hk1
    have hk116 : s101 (182) = σ (182) := hc106.trans hk2
    have hk117 : s101 (183) = σ (183) := hc107.trans hk3
    have hk118 : s101 (184) = σ (184) := hc108.trans hk4
    refine ra_ifeq rfl rfl (ra_in01 hz102) (fun h119 => ?_) (fun h119 => ?_)
    · refine ra_iconst rfl ?_
      exact ra_ireturn rfl (ra_okB (Or.inl rfl)) ⟨⟨_, (Or.inl rfl), (fun q => absurd q (by decide)), rfl⟩, ⟨hF113, hk115, hk116, hk117, hk118, (fun a h15 h16 h17 h18 h19 h20 h21 => ((he109 a h15 h16 h17 h18 h19 h20).trans (hov a h15 h16 h17 h18 h19 h20 h21))), (LD_k hk114 hld), he111, (by have m_s101 := he112; omega)⟩⟩
    · exact ra_weak (by repeat' constructor) (lp_257_166 hpt hld s101 hF113 hk114 hk115 hk116 hk117 hk118 (fun a h15 h16 h17 h18 h19 h20 h21 => ((he109 a h15 h16 h17 h18 h19 h20).trans (hov a h15 h16 h17 h18 h19 h20 h21))) he111 (by have m_s101 := he112; omega) (by first | assumption | omega) (by rw [show ra_g s101 188 0 = ra_g s 188 0 from (he110 0 (by decide)), show ra_g s101 188 1 = ra_g s 188 1 from (he110 1 (by decide))]; exact hua) (by rw [show ra_g s101 188 0 = ra_g s 188 0 from (he110 0 (by decide)), show ra_g s101 188 1 = ra_g s 188 1 from (he110 1 (by decide))]; exact hta) (by have e : ra_g s101 188 1 = ra_g s 188 1 := (he110 1 (by decide)); omega))
theorem lp_257_143 {n : Nat} {f : Nat → Int32} {d : Nat}  {σ : ra_V} (hpt : 0 ≤ ra_g σ 179 18 ∧ ra_g σ 179 18 ≤ ra_g σ 179 17 ∧ ra_g σ 179 17 ≤ ra_g σ 179 12 ∧ ra_g σ 179 12 ≤ 500 ∧ 0 ≤ ra_g σ 179 19 ∧ ra_g σ 179 19 ≤ 999) (hld : LD σ) : ∀ (s : ra_V) (hF : Fr (179) (189) σ s) (hk0 : s (180) = σ (180)) (hk1 : s (181) = σ (181)) (hk2 : s (182) = σ (182)) (hk3 : s (183) = σ (183)) (hk4 : s (184) = σ (184)) (hov : ∀ a, a ≠ 15 → a ≠ 16 → a ≠ 17 → a ≠ 18 → a ≠ 19 → a ≠ 20 → a ≠ 21 → ra_g s 179 a = ra_g σ 179 a) (hps : 0 ≤ ra_g s 179 18 ∧ ra_g s 179 18 ≤ ra_g s 179 17 ∧ ra_g s 179 17 ≤ ra_g s 179 12 ∧ ra_g s 179 12 ≤ 500 ∧ 0 ≤ ra_g s 179 19 ∧ ra_g s 179 19 ≤ 999) (hmo : ra_g σ 179 17 ≤ ra_g s 179 17) (h8 : ra_g σ 180 5 ≠ 8) (hu : US σ (ra_g s 188 0) (ra_g s 179 19)) (htk : ¬ TK σ (ra_g s 188 0) (ra_g s 179 19) (-1)), ra_P (g_Gs n f) g_sh 0 (d + 4) g_m_X8_readPart 143 [some (.index (179)), none] [] s (fun r s => (∃ z : Int, (z = 0 ∨ z = 1) ∧ (z = 1 → ra_g s 179 20 = 3 → ra_g σ 179 17 < ra_g s 179 17) ∧ r = .inl (some (ra_I z))) ∧ Fr (179) (189) σ s ∧ s (181) = σ (181) ∧ s (182) = σ (182) ∧ s (183) = σ (183) ∧ s (184) = σ (184) ∧ (∀ a, a ≠ 15 → a ≠ 16 → a ≠ 17 → a ≠ 18 → a ≠ 19 → a ≠ 20 → a ≠ 21 → ra_g s 179 a = ra_g σ 179 a) ∧ LD s ∧ (0 ≤ ra_g s 179 18 ∧ ra_g s 179 18 ≤ ra_g s 179 17 ∧ ra_g s 179 17 ≤ ra_g s 179 12 ∧ ra_g s 179 12 ≤ 500 ∧ 0 ≤ ra_g s 179 19 ∧ ra_g s 179 19 ≤ 999) ∧ ra_g σ 179 17 ≤ ra_g s 179 17) := by
    intro s hF hk0 hk1 hk2 hk3 hk4 hov hps hmo h8 hu htk
    have hw0 := WF_a hld.1
    unfold WFa at hw0
    have hl5 := hld.2.2.1
    refine ra_load rfl rfl rfl rfl ?_
    refine ra_iconst rfl ?_
    refine ra_iconst rfl ?_
    refine ra_sipush rfl (by decide) ?_
    refine ra_cQPs (sp_255 (by first | omega | (unfold ra_in at *; omega)) (by first | omega | (unfold ra_in at *; omega)) (by first | omega | (unfold ra_in at *; omega)) hps (by first | assumption | rfl | omega)) rfl (ct_255 rfl lk_8_246 (Or.inl rfl) sh_179 (Nat.le_of_ble_eq_true rfl)) (fun z83 s82 hz83 hz83p hs82 => ?_)
    obtain ⟨hf84, hc85, hc86, hc87, hc88, hc89, he90, he91, he92, he93⟩ := hs82
    have hF94 := Fr_tr (lo := 179) (hi := 189) hF hf84 (by omega)
    have hk95 : s82 (180) = σ (180) := hc85.trans hk0
    have hk96 : s82 (181) = σ (181) := hc86.trans hk1
    have hk97 : s82 (182) = σ (182) := hc87.trans hk2
    have hk98 : s82 (183) = σ (183) := hc88.trans hk3
    have hk99 : s82 (184) = σ (184) := hc89.trans hk4
    refine ra_ifeq rfl rfl (ra_in01 hz83) (fun h100 => ?_) (fun h100 => ?_)
    · refine ra_iconst rfl ?_
      exact ra_ireturn rfl (ra_okB (Or.inl rfl)) ⟨⟨_, (Or.inl rfl), (fun q => absurd q (by decide)), rfl⟩, ⟨hF94, hk96, hk97, hk98, hk99, (fun a h15 h16 h17 h18 h19 h20 h21 => ((he90 a h15 h16 h17 h18 h19 h20).trans (hov a h15 h16 h17 h18 h19 h20 h21))), (LD_k hk95 hld), he92, (by have m_s82 := he93; omega)⟩⟩
    · exact ra_weak (by repeat' constructor) (lp_257_155 hpt hld s82 hF94 hk95 hk96 hk97 hk98 hk99 (fun a h15 h16 h17 h18 h19 h20 h21 => ((he90 a h15 h16 h17 h18 h19 h20).trans (hov a h15 h16 h17 h18 h19 h20 h21))) he92 (by have m_s82 := he93; omega) (by first | assumption | omega) (by have hr1 := hz83p (by omega); rw [toN1] at hr1; have hr1 : (1 ≤ ra_g s82 188 1 ∧ ra_g s82 188 1 ≤ 999) ∧ ra_g s82 188 1 = ra_g s 179 19 := ⟨by omega, by omega⟩; have e0 : ra_g s82 188 0 = ra_g s 188 0 := (he91 0 (by decide)); rw [show ra_g s82 188 0 = ra_g s 188 0 by omega, show ra_g s82 188 1 = ra_g s 179 19 by omega]; exact hu) (by have hr1 := hz83p (by omega); rw [toN1] at hr1; have hr1 : (1 ≤ ra_g s82 188 1 ∧ ra_g s82 188 1 ≤ 999) ∧ ra_g s82 188 1 = ra_g s 179 19 := ⟨by omega, by omega⟩; have e0 : ra_g s82 188 0 = ra_g s 188 0 := (he91 0 (by decide)); rw [show ra_g s82 188 0 = ra_g s 188 0 by omega, show ra_g s82 188 1 = ra_g s 179 19 by omega]; exact htk) (by have hr1 := hz83p (by omega); rw [toN1] at hr1; have hr1 : (1 ≤ ra_g s82 188 1 ∧ ra_g s82 188 1 ≤ 999) ∧ ra_g s82 188 1 = ra_g s 179 19 := ⟨by omega, by omega⟩; have e0 : ra_g s82 188 0 = ra_g s 188 0 := (he91 0 (by decide)); omega))
theorem lp_257_92 {n : Nat} {f : Nat → Int32} {d : Nat}  {σ : ra_V} (hpt : 0 ≤ ra_g σ 179 18 ∧ ra_g σ 179 18 ≤ ra_g σ 179 17 ∧ ra_g σ 179 17 ≤ ra_g σ 179 12 ∧ ra_g σ 179 12 ≤ 500 ∧ 0 ≤ ra_g σ 179 19 ∧ ra_g σ 179 19 ≤ 999) (hld : LD σ) : ∀ (s : ra_V) (hF : Fr (179) (189) σ s) (hk0 : s (180) = σ (180)) (hk1 : s (181) = σ (181)) (hk2 : s (182) = σ (182)) (hk3 : s (183) = σ (183)) (hk4 : s (184) = σ (184)) (hov : ∀ a, a ≠ 15 → a ≠ 16 → a ≠ 17 → a ≠ 18 → a ≠ 19 → a ≠ 20 → a ≠ 21 → ra_g s 179 a = ra_g σ 179 a) (hps : 0 ≤ ra_g s 179 18 ∧ ra_g s 179 18 ≤ ra_g s 179 17 ∧ ra_g s 179 17 ≤ ra_g s 179 12 ∧ ra_g s 179 12 ≤ 500 ∧ 0 ≤ ra_g s 179 19 ∧ ra_g s 179 19 ≤ 999) (hmo : ra_g σ 179 17 ≤ ra_g s 179 17) (h8 : ra_g σ 180 5 ≠ 8) (hr : 0 ≤ ra_g s 188 0 ∧ ra_g s 188 0 ≤ 999) (hv : 1 ≤ ra_g s 179 19 ∧ ra_g s 179 19 ≤ 999), ra_P (g_Gs n f) g_sh 0 (d + 4) g_m_X8_readPart 92 [some (.index (179)), none] [] s (fun r s => (∃ z : Int, (z = 0 ∨ z = 1) ∧ (z = 1 → ra_g s 179 20 = 3 → ra_g σ 179 17 < ra_g s 179 17) ∧ r = .inl (some (ra_I z))) ∧ Fr (179) (189) σ s ∧ s (181) = σ (181) ∧ s (182) = σ (182) ∧ s (183) = σ (183) ∧ s (184) = σ (184) ∧ (∀ a, a ≠ 15 → a ≠ 16 → a ≠ 17 → a ≠ 18 → a ≠ 19 → a ≠ 20 → a ≠ 21 → ra_g s 179 a = ra_g σ 179 a) ∧ LD s ∧ (0 ≤ ra_g s 179 18 ∧ ra_g s 179 18 ≤ ra_g s 179 17 ∧ ra_g s 179 17 ≤ ra_g s 179 12 ∧ ra_g s 179 12 ≤ 500 ∧ 0 ≤ ra_g s 179 19 ∧ ra_g s 179 19 ≤ 999) ∧ ra_g σ 179 17 ≤ ra_g s 179 17) := by
    intro s hF hk0 hk1 hk2 hk3 hk4 hov hps hmo h8 hr hv
    have hw0 := WF_a hld.1
    unfold WFa at hw0
    have hl5 := hld.2.2.1
    refine ra_load rfl rfl rfl rfl ?_
    refine ra_load rfl rfl rfl rfl ?_
    refine ra_getR rfl lk_8_38 (Nat.zero_le _) sh_179 rfl ?_
    refine ra_iconst rfl ?_
    refine ra_ialoadJ (j := 0) rfl sh_188 rfl (by decide) rfl (by decide) ?_
    have hr72 : ra_in (ra_g s (188) 0) := (ra_in_g _ _ _)
    refine ra_i2l rfl hr72 ?_
    refine ra_load rfl rfl rfl rfl ?_
    refine ra_getI rfl lk_8_201 (Nat.zero_le _) sh_179 rfl ?_
    have hr73 : ra_in (ra_g s (179) 19) := (ra_in_g _ _ _)
    refine ra_i2l rfl hr73 ?_
    refine ra_cQPp (sp_211 hr72 hr73 (WF_a (LD_k hk0 hld).1)) rfl (ct_211 rfl lk_8_103 (Or.inl rfl) sh_179 (Nat.le_of_ble_eq_true rfl)) (fun z75 hz75 hz75p => ?_)
    refine ra_ifne rfl rfl (ra_in01 hz75) (fun h76 => ?_) (fun h76 => ?_)
    · refine ra_load rfl rfl rfl rfl ?_
      refine ra_load rfl rfl rfl rfl ?_
      refine ra_getR rfl lk_8_38 (Nat.zero_le _) sh_179 rfl ?_
      refine ra_iconst rfl ?_
      refine ra_ialoadJ (j := 0) rfl sh_188 rfl (by decide) rfl (by decide) ?_
      have hr77 : ra_in (ra_g s (188) 0) := (ra_in_g _ _ _)
      refine ra_i2l rfl hr77 ?_
      refine ra_load rfl rfl rfl rfl ?_
      refine ra_getI rfl lk_8_201 (Nat.zero_le _) sh_179 rfl ?_
      have hr78 : ra_in (ra_g s (179) 19) := (ra_in_g _ _ _)
      refine ra_i2l rfl hr78 ?_
      refine ra_iconst rfl ?_
      refine ra_cQPp (sp_213 hr77 hr78 (by first | omega | (unfold ra_in at *; omega))) rfl (ct_213 rfl lk_8_107 (Or.inl rfl) sh_179 (Nat.le_of_ble_eq_true rfl)) (fun z80 hz80 hz80p => ?_)
      refine ra_ifeq rfl rfl (ra_in01 hz80) (fun h81 => ?_) (fun h81 => ?_)
      · exact ra_weak (by repeat' constructor) (lp_257_143 hpt hld s hF hk0 hk1 hk2 hk3 hk4 (fun a h15 h16 h17 h18 h19 h20 h21 => (hov a h15 h16 h17 h18 h19 h20 h21)) hps (by omega) (by first | assumption | omega) (US_k hk0 (hz75p.mp (by omega))) (fun q => absurd (hz80p.mpr (TK_k hk0.symm q)) (by omega)))
      · refine ra_load rfl rfl rfl rfl ?_
        refine ra_iconst rfl ?_
        refine ra_cQP (sp_252 (by first | omega | (unfold ra_in at *; omega))) rfl (ct_252 rfl lk_8_233 (Or.inl rfl) sh_179 (Nat.le_of_ble_eq_true rfl)) (fun z153 s152 hz153 hz153p hs152 => ?_)
        obtain ⟨hf154, he155⟩ := hs152
        have hF156 := Fr_tr (lo := 179) (hi := 189) hF hf154 (by omega)
        have hk157 : s152 (180) = σ (180) := (hf154 (180) (by omega)).trans hk0
        have hk158 : s152 (181) = σ (181) := (hf154 (181) (by omega)).trans hk1
        have hk159 : s152 (182) = σ (182) := (hf154 (182) (by omega)).trans hk2
        have hk160 : s152 (183) = σ (183) := (hf154 (183) (by omega)).trans hk3
        have hk161 : s152 (184) = σ (184) := (hf154 (184) (by omega)).trans hk4
        exact ra_ireturn rfl (ra_okB hz153) ⟨⟨_, hz153, (fun q => absurd q (by omega)), rfl⟩, ⟨hF156, hk158, hk159, hk160, hk161, (fun a h15 h16 h17 h18 h19 h20 h21 => ((he155 a h15 h16).trans (hov a h15 h16 h17 h18 h19 h20 h21))), (LD_k hk157 hld), (pt_e (he155 12 (by decide) (by decide)) (he155 17 (by decide) (by decide)) (he155 18 (by decide) (by decide)) (he155 19 (by decide) (by decide)) hps), (by have m_s152 : ra_g s152 179 17 = ra_g s 179 17 := (he155 17 (by decide) (by decide)); have k_s152 : ra_g s152 179 20 = ra_g s 179 20 := (he155 20 (by decide) (by decide)); omega)⟩⟩
    · refine ra_load rfl rfl rfl rfl ?_
      refine ra_iconst rfl ?_
      refine ra_cQP (sp_252 (by first | omega | (unfold ra_in at *; omega))) rfl (ct_252 rfl lk_8_233 (Or.inl rfl) sh_179 (Nat.le_of_ble_eq_true rfl)) (fun z163 s162 hz163 hz163p hs162 => ?_)
      obtain ⟨hf164, he165⟩ := hs162
      have hF166 := Fr_tr (lo := 179) (hi := 189) hF hf164 (by omega)
      have hk167 : s162 (180) = σ (180) := (hf164 (180) (by omega)).trans hk0
      have hk168 : s162 (181) = σ (181) := (hf164 (181) (by omega)).trans hk1
      have hk169 : s162 (182) = σ (182) := (hf164 (182) (by omega)).trans hk2
      have hk170 : s162 (183) = σ (183) := (hf164 (183) (by omega)).trans hk3
      have hk171 : s162 (184) = σ (184) := (hf164 (184) (by omega)).trans hk4
      exact ra_ireturn rfl (ra_okB hz163) ⟨⟨_, hz163, (fun q => absurd q (by omega)), rfl⟩, ⟨hF166, hk168, hk169, hk170, hk171, (fun a h15 h16 h17 h18 h19 h20 h21 => ((he165 a h15 h16).trans (hov a h15 h16 h17 h18 h19 h20 h21))), (LD_k hk167 hld), (pt_e (he165 12 (by decide) (by decide)) (he165 17 (by decide) (by decide)) (he165 18 (by decide) (by decide)) (he165 19 (by decide) (by decide)) hps), (by have m_s162 : ra_g s162 179 17 = ra_g s 179 17 := (he165 17 (by decide) (by decide)); have k_s162 : ra_g s162 179 20 = ra_g s 179 20 := (he165 20 (by decide) (by decide)); omega)⟩⟩
theorem lp_257_67 {n : Nat} {f : Nat → Int32} {d : Nat}  {σ : ra_V} (hpt : 0 ≤ ra_g σ 179 18 ∧ ra_g σ 179 18 ≤ ra_g σ 179 17 ∧ ra_g σ 179 17 ≤ ra_g σ 179 12 ∧ ra_g σ 179 12 ≤ 500 ∧ 0 ≤ ra_g σ 179 19 ∧ ra_g σ 179 19 ≤ 999) (hld : LD σ) : ∀ (s : ra_V) (hF : Fr (179) (189) σ s) (hk0 : s (180) = σ (180)) (hk1 : s (181) = σ (181)) (hk2 : s (182) = σ (182)) (hk3 : s (183) = σ (183)) (hk4 : s (184) = σ (184)) (hov : ∀ a, a ≠ 15 → a ≠ 16 → a ≠ 17 → a ≠ 18 → a ≠ 19 → a ≠ 20 → a ≠ 21 → ra_g s 179 a = ra_g σ 179 a) (hps : 0 ≤ ra_g s 179 18 ∧ ra_g s 179 18 ≤ ra_g s 179 17 ∧ ra_g s 179 17 ≤ ra_g s 179 12 ∧ ra_g s 179 12 ≤ 500 ∧ 0 ≤ ra_g s 179 19 ∧ ra_g s 179 19 ≤ 999) (hmo : ra_g σ 179 17 ≤ ra_g s 179 17) (h8 : ra_g σ 180 5 ≠ 8), ra_P (g_Gs n f) g_sh 0 (d + 4) g_m_X8_readPart 67 [some (.index (179)), none] [] s (fun r s => (∃ z : Int, (z = 0 ∨ z = 1) ∧ (z = 1 → ra_g s 179 20 = 3 → ra_g σ 179 17 < ra_g s 179 17) ∧ r = .inl (some (ra_I z))) ∧ Fr (179) (189) σ s ∧ s (181) = σ (181) ∧ s (182) = σ (182) ∧ s (183) = σ (183) ∧ s (184) = σ (184) ∧ (∀ a, a ≠ 15 → a ≠ 16 → a ≠ 17 → a ≠ 18 → a ≠ 19 → a ≠ 20 → a ≠ 21 → ra_g s 179 a = ra_g σ 179 a) ∧ LD s ∧ (0 ≤ ra_g s 179 18 ∧ ra_g s 179 18 ≤ ra_g s 179 17 ∧ ra_g s 179 17 ≤ ra_g s 179 12 ∧ ra_g s 179 12 ≤ 500 ∧ 0 ≤ ra_g s 179 19 ∧ ra_g s 179 19 ≤ 999) ∧ ra_g σ 179 17 ≤ ra_g s 179 17) := by
    intro s hF hk0 hk1 hk2 hk3 hk4 hov hps hmo h8
    have hw0 := WF_a hld.1
    unfold WFa at hw0
    have hl5 := hld.2.2.1
    refine ra_load rfl rfl rfl rfl ?_
    refine ra_iconst rfl ?_
    refine ra_iconst rfl ?_
    refine ra_sipush rfl (by decide) ?_
    refine ra_cQPs (sp_255 (by first | omega | (unfold ra_in at *; omega)) (by first | omega | (unfold ra_in at *; omega)) (by first | omega | (unfold ra_in at *; omega)) hps (by first | assumption | rfl | omega)) rfl (ct_255 rfl lk_8_246 (Or.inl rfl) sh_179 (Nat.le_of_ble_eq_true rfl)) (fun z43 s42 hz43 hz43p hs42 => ?_)
    obtain ⟨hf44, hc45, hc46, hc47, hc48, hc49, he50, he51, he52, he53⟩ := hs42
    have hF54 := Fr_tr (lo := 179) (hi := 189) hF hf44 (by omega)
    have hk55 : s42 (180) = σ (180) := hc45.trans hk0
    have hk56 : s42 (181) = σ (181) := hc46.trans hk1
    have hk57 : s42 (182) = σ (182) := hc47.trans hk2
    have hk58 : s42 (183) = σ (183) := hc48.trans hk3
    have hk59 : s42 (184) = σ (184) := hc49.trans hk4
    refine ra_ifeq rfl rfl (ra_in01 hz43) (fun h60 => ?_) (fun h60 => ?_)
    · refine ra_iconst rfl ?_
      exact ra_ireturn rfl (ra_okB (Or.inl rfl)) ⟨⟨_, (Or.inl rfl), (fun q => absurd q (by decide)), rfl⟩, ⟨hF54, hk56, hk57, hk58, hk59, (fun a h15 h16 h17 h18 h19 h20 h21 => ((he50 a h15 h16 h17 h18 h19 h20).trans (hov a h15 h16 h17 h18 h19 h20 h21))), (LD_k hk55 hld), he52, (by have m_s42 := he53; omega)⟩⟩
    · have hr0 := hz43p (by omega)
      rw [toN0] at hr0
      refine ra_load rfl rfl rfl rfl ?_
      refine ra_iconst rfl ?_
      refine ra_sipush rfl (by decide) ?_
      refine ra_cQP (sp_254 (by first | omega | (unfold ra_in at *; omega)) (by first | omega | (unfold ra_in at *; omega)) (by have q := he52; omega)) rfl (ct_254 rfl lk_8_236 (Or.inl rfl) sh_179 (Nat.le_of_ble_eq_true rfl)) (fun z62 s61 hz62 hz62p hs61 => ?_)
      obtain ⟨hf63, he64⟩ := hs61
      have hF65 := Fr_tr (lo := 179) (hi := 189) hF54 hf63 (by omega)
      have hk66 : s61 (180) = σ (180) := (hf63 (180) (by omega)).trans hk55
      have hk67 : s61 (181) = σ (181) := (hf63 (181) (by omega)).trans hk56
      have hk68 : s61 (182) = σ (182) := (hf63 (182) (by omega)).trans hk57
      have hk69 : s61 (183) = σ (183) := (hf63 (183) (by omega)).trans hk58
      have hk70 : s61 (184) = σ (184) := (hf63 (184) (by omega)).trans hk59
      refine ra_ifne rfl rfl (ra_in01 hz62) (fun h71 => ?_) (fun h71 => ?_)
      · exact ra_weak (by repeat' constructor) (lp_257_92 hpt hld s61 hF65 hk66 hk67 hk68 hk69 hk70 (fun a h15 h16 h17 h18 h19 h20 h21 => ((he64 a h15 h16).trans ((he50 a h15 h16 h17 h18 h19 h20).trans (hov a h15 h16 h17 h18 h19 h20 h21)))) (pt_e (he64 12 (by decide) (by decide)) (he64 17 (by decide) (by decide)) (he64 18 (by decide) (by decide)) (he64 19 (by decide) (by decide)) he52) (by have m_s42 := he53; have m_s61 : ra_g s61 179 17 = ra_g s42 179 17 := (he64 17 (by decide) (by decide)); have k_s61 : ra_g s61 179 20 = ra_g s42 179 20 := (he64 20 (by decide) (by decide)); omega) (by first | assumption | omega) (by have e := (ra_gk (hf63 188 (by omega)) : ra_g s61 188 0 = ra_g s42 188 0); omega) (by have e := (he64 19 (by decide) (by decide)); have a := hz62p (by omega); omega))
      · refine ra_iconst rfl ?_
        exact ra_ireturn rfl (ra_okB (Or.inl rfl)) ⟨⟨_, (Or.inl rfl), (fun q => absurd q (by decide)), rfl⟩, ⟨hF65, hk67, hk68, hk69, hk70, (fun a h15 h16 h17 h18 h19 h20 h21 => ((he64 a h15 h16).trans ((he50 a h15 h16 h17 h18 h19 h20).trans (hov a h15 h16 h17 h18 h19 h20 h21)))), (LD_k hk66 hld), (pt_e (he64 12 (by decide) (by decide)) (he64 17 (by decide) (by decide)) (he64 18 (by decide) (by decide)) (he64 19 (by decide) (by decide)) he52), (by have m_s42 := he53; have m_s61 : ra_g s61 179 17 = ra_g s42 179 17 := (he64 17 (by decide) (by decide)); have k_s61 : ra_g s61 179 20 = ra_g s42 179 20 := (he64 20 (by decide) (by decide)); omega)⟩⟩
theorem sp_257 {n : Nat} {f : Nat → Int32} {d : Nat}  {σ : ra_V} (hpt : 0 ≤ ra_g σ 179 18 ∧ ra_g σ 179 18 ≤ ra_g σ 179 17 ∧ ra_g σ 179 17 ≤ ra_g σ 179 12 ∧ ra_g σ 179 12 ≤ 500 ∧ 0 ≤ ra_g σ 179 19 ∧ ra_g σ 179 19 ≤ 999) (hld : LD σ) : ra_C (g_Gs n f) g_sh 0 (d + 5) 257 [.index (179)] σ (fun r s => (∃ z : Int, (z = 0 ∨ z = 1) ∧ (z = 1 → ra_g s 179 20 = 3 → ra_g σ 179 17 < ra_g s 179 17) ∧ r = .inl (some (ra_I z))) ∧ Fr (179) (189) σ s ∧ s (181) = σ (181) ∧ s (182) = σ (182) ∧ s (183) = σ (183) ∧ s (184) = σ (184) ∧ (∀ a, a ≠ 15 → a ≠ 16 → a ≠ 17 → a ≠ 18 → a ≠ 19 → a ≠ 20 → a ≠ 21 → ra_g s 179 a = ra_g σ 179 a) ∧ LD s ∧ (0 ≤ ra_g s 179 18 ∧ ra_g s 179 18 ≤ ra_g s 179 17 ∧ ra_g s 179 17 ≤ ra_g s 179 12 ∧ ra_g s 179 12 ≤ 500 ∧ 0 ≤ ra_g s 179 19 ∧ ra_g s 179 19 ≤ 999) ∧ ra_g σ 179 17 ≤ ra_g s 179 17) := by
  refine ra_enter (nn := 1) mt_257 rfl (Nat.le_of_ble_eq_true rfl) rfl (fun h => absurd h (by decide +kernel)) ?_
  have hw0 := WF_a hld.1
  unfold WFa at hw0
  have hl5 := hld.2.2.1
  refine ra_load rfl rfl rfl rfl ?_
  refine ra_getR rfl lk_8_7 (Nat.zero_le _) sh_179 rfl ?_
  refine ra_iconst rfl ?_
  refine ra_ialoadJ (j := 5) rfl sh_180 rfl (by decide) rfl (by decide) ?_
  have hr1 : ra_in (ra_g σ (180) 5) := (ra_in_g _ _ _)
  refine ra_bipush rfl (by decide) ?_
  refine ra_icne rfl rfl hr1 (by first | omega | (unfold ra_in at *; omega)) (fun h2 => ?_) (fun h2 => ?_)
  · refine ra_load rfl rfl rfl rfl ?_
    refine ra_cV (sp_250 (by have q := hpt; omega)) rfl (ct_250 rfl lk_8_240 (Or.inl rfl) sh_179 (Nat.le_of_ble_eq_true rfl)) (fun s3 hs3 => ?_)
    obtain ⟨hf4, he5, he6, he7⟩ := hs3
    have hF8 := Fr_tr (lo := 179) (hi := 189) Fr_rf hf4 (by omega)
    have hk9 : s3 (180) = σ (180) := (hf4 (180) (by omega))
    have hk10 : s3 (181) = σ (181) := (hf4 (181) (by omega))
    have hk11 : s3 (182) = σ (182) := (hf4 (182) (by omega))
    have hk12 : s3 (183) = σ (183) := (hf4 (183) (by omega))
    have hk13 : s3 (184) = σ (184) := (hf4 (184) (by omega))
    refine ra_load rfl rfl rfl rfl ?_
    refine ra_iconst rfl ?_
    refine ra_sipush rfl (by decide) ?_
    refine ra_cQP (sp_254 (by first | omega | (unfold ra_in at *; omega)) (by first | omega | (unfold ra_in at *; omega)) (by have q := he6; omega)) rfl (ct_254 rfl lk_8_236 (Or.inl rfl) sh_179 (Nat.le_of_ble_eq_true rfl)) (fun z15 s14 hz15 hz15p hs14 => ?_)
    obtain ⟨hf16, he17⟩ := hs14
    have hF18 := Fr_tr (lo := 179) (hi := 189) hF8 hf16 (by omega)
    have hk19 : s14 (180) = σ (180) := (hf16 (180) (by omega)).trans hk9
    have hk20 : s14 (181) = σ (181) := (hf16 (181) (by omega)).trans hk10
    have hk21 : s14 (182) = σ (182) := (hf16 (182) (by omega)).trans hk11
    have hk22 : s14 (183) = σ (183) := (hf16 (183) (by omega)).trans hk12
    have hk23 : s14 (184) = σ (184) := (hf16 (184) (by omega)).trans hk13
    refine ra_ifne rfl rfl (ra_in01 hz15) (fun h24 => ?_) (fun h24 => ?_)
    · refine ra_load rfl rfl rfl rfl ?_
      refine ra_load rfl rfl rfl rfl ?_
      refine ra_getI rfl lk_8_201 (Nat.zero_le _) sh_179 rfl ?_
      have hr25 : ra_in (ra_g s14 (179) 19) := (ra_in_g _ _ _)
      refine ra_i2l rfl hr25 ?_
      refine ra_lconst1 rfl ?_
      refine ra_cQPp (sp_211 hr25 (by first | omega | (unfold ra_in at *; omega)) (WF_a (LD_k hk19 hld).1)) rfl (ct_211 rfl lk_8_103 (Or.inl rfl) sh_179 (Nat.le_of_ble_eq_true rfl)) (fun z27 hz27 hz27p => ?_)
      refine ra_ifeq rfl rfl (ra_in01 hz27) (fun h28 => ?_) (fun h28 => ?_)
      · refine ra_load rfl rfl rfl rfl ?_
        refine ra_iconst rfl ?_
        refine ra_cQP (sp_252 (by first | omega | (unfold ra_in at *; omega))) rfl (ct_252 rfl lk_8_233 (Or.inl rfl) sh_179 (Nat.le_of_ble_eq_true rfl)) (fun z30 s29 hz30 hz30p hs29 => ?_)
        obtain ⟨hf31, he32⟩ := hs29
        have hF33 := Fr_tr (lo := 179) (hi := 189) hF18 hf31 (by omega)
        have hk34 : s29 (180) = σ (180) := (hf31 (180) (by omega)).trans hk19
        have hk35 : s29 (181) = σ (181) := (hf31 (181) (by omega)).trans hk20
        have hk36 : s29 (182) = σ (182) := (hf31 (182) (by omega)).trans hk21
        have hk37 : s29 (183) = σ (183) := (hf31 (183) (by omega)).trans hk22
        have hk38 : s29 (184) = σ (184) := (hf31 (184) (by omega)).trans hk23
        exact ra_ireturn rfl (ra_okB hz30) ⟨⟨_, hz30, (fun q => absurd q (by omega)), rfl⟩, ⟨hF33, hk35, hk36, hk37, hk38, (fun a h15 h16 h17 h18 h19 h20 h21 => ((he32 a h15 h16).trans ((he17 a h15 h16).trans (he5 a h17 h18 h19 h20)))), (LD_k hk34 hld), (pt_e (he32 12 (by decide) (by decide)) (he32 17 (by decide) (by decide)) (he32 18 (by decide) (by decide)) (he32 19 (by decide) (by decide)) (pt_e (he17 12 (by decide) (by decide)) (he17 17 (by decide) (by decide)) (he17 18 (by decide) (by decide)) (he17 19 (by decide) (by decide)) he6)), (by have m_s3 := he7.1; have m_s14 : ra_g s14 179 17 = ra_g s3 179 17 := (he17 17 (by decide) (by decide)); have k_s14 : ra_g s14 179 20 = ra_g s3 179 20 := (he17 20 (by decide) (by decide)); have m_s29 : ra_g s29 179 17 = ra_g s14 179 17 := (he32 17 (by decide) (by decide)); have k_s29 : ra_g s29 179 20 = ra_g s14 179 20 := (he32 20 (by decide) (by decide)); omega)⟩⟩
      · refine ra_load rfl rfl rfl rfl ?_
        refine ra_getI rfl lk_8_201 (Nat.zero_le _) sh_179 rfl ?_
        have hr39 : ra_in (ra_g s14 (179) 19) := (ra_in_g _ _ _)
        refine ra_load rfl rfl rfl rfl ?_
        refine ra_getR rfl lk_8_7 (Nat.zero_le _) sh_179 rfl ?_
        refine ra_iconst rfl ?_
        refine ra_ialoadJ (j := 3) rfl sh_180 rfl (by decide) rfl (by decide) ?_
        rw [ra_gk hk19]
        have hr40 : ra_in (ra_g σ (180) 3) := (ra_in_g _ _ _)
        refine ra_irem rfl hr39 hr40 (by omega) ?_
        refine ra_ifeq rfl rfl (ra_in_tmod hr39 (by omega)) (fun h41 => ?_) (fun h41 => ?_)
        · exact ra_weak (by repeat' constructor) (lp_257_67 hpt hld s14 hF18 hk19 hk20 hk21 hk22 hk23 (fun a h15 h16 h17 h18 h19 h20 h21 => ((he17 a h15 h16).trans (he5 a h17 h18 h19 h20))) (pt_e (he17 12 (by decide) (by decide)) (he17 17 (by decide) (by decide)) (he17 18 (by decide) (by decide)) (he17 19 (by decide) (by decide)) he6) (by have m_s3 := he7.1; have m_s14 : ra_g s14 179 17 = ra_g s3 179 17 := (he17 17 (by decide) (by decide)); have k_s14 : ra_g s14 179 20 = ra_g s3 179 20 := (he17 20 (by decide) (by decide)); omega) (by first | assumption | omega))
        · refine ra_load rfl rfl rfl rfl ?_
          refine ra_iconst rfl ?_
          refine ra_cQP (sp_252 (by first | omega | (unfold ra_in at *; omega))) rfl (ct_252 rfl lk_8_233 (Or.inl rfl) sh_179 (Nat.le_of_ble_eq_true rfl)) (fun z173 s172 hz173 hz173p hs172 => ?_)
          obtain ⟨hf174, he175⟩ := hs172
          have hF176 := Fr_tr (lo := 179) (hi := 189) hF18 hf174 (by omega)
          have hk177 : s172 (180) = σ (180) := (hf174 (180) (by omega)).trans hk19
          have hk178 : s172 (181) = σ (181) := (hf174 (181) (by omega)).trans hk20
          have hk179 : s172 (182) = σ (182) := (hf174 (182) (by omega)).trans hk21
          have hk180 : s172 (183) = σ (183) := (hf174 (183) (by omega)).trans hk22
          have hk181 : s172 (184) = σ (184) := (hf174 (184) (by omega)).trans hk23
          exact ra_ireturn rfl (ra_okB hz173) ⟨⟨_, hz173, (fun q => absurd q (by omega)), rfl⟩, ⟨hF176, hk178, hk179, hk180, hk181, (fun a h15 h16 h17 h18 h19 h20 h21 => ((he175 a h15 h16).trans ((he17 a h15 h16).trans (he5 a h17 h18 h19 h20)))), (LD_k hk177 hld), (pt_e (he175 12 (by decide) (by decide)) (he175 17 (by decide) (by decide)) (he175 18 (by decide) (by decide)) (he175 19 (by decide) (by decide)) (pt_e (he17 12 (by decide) (by decide)) (he17 17 (by decide) (by decide)) (he17 18 (by decide) (by decide)) (he17 19 (by decide) (by decide)) he6)), (by have m_s3 := he7.1; have m_s14 : ra_g s14 179 17 = ra_g s3 179 17 := (he17 17 (by decide) (by decide)); have k_s14 : ra_g s14 179 20 = ra_g s3 179 20 := (he17 20 (by decide) (by decide)); have m_s172 : ra_g s172 179 17 = ra_g s14 179 17 := (he175 17 (by decide) (by decide)); have k_s172 : ra_g s172 179 20 = ra_g s14 179 20 := (he175 20 (by decide) (by decide)); omega)⟩⟩
    · refine ra_iconst rfl ?_
      exact ra_ireturn rfl (ra_okB (Or.inl rfl)) ⟨⟨_, (Or.inl rfl), (fun q => absurd q (by decide)), rfl⟩, ⟨hF18, hk20, hk21, hk22, hk23, (fun a h15 h16 h17 h18 h19 h20 h21 => ((he17 a h15 h16).trans (he5 a h17 h18 h19 h20))), (LD_k hk19 hld), (pt_e (he17 12 (by decide) (by decide)) (he17 17 (by decide) (by decide)) (he17 18 (by decide) (by decide)) (he17 19 (by decide) (by decide)) he6), (by have m_s3 := he7.1; have m_s14 : ra_g s14 179 17 = ra_g s3 179 17 := (he17 17 (by decide) (by decide)); have k_s14 : ra_g s14 179 20 = ra_g s3 179 20 := (he17 20 (by decide) (by decide)); omega)⟩⟩
  · refine ra_load rfl rfl rfl rfl ?_
    refine ra_iconst rfl ?_
    refine ra_cQP (sp_252 (by first | omega | (unfold ra_in at *; omega))) rfl (ct_252 rfl lk_8_233 (Or.inl rfl) sh_179 (Nat.le_of_ble_eq_true rfl)) (fun z183 s182 hz183 hz183p hs182 => ?_)
    obtain ⟨hf184, he185⟩ := hs182
    have hF186 := Fr_tr (lo := 179) (hi := 189) Fr_rf hf184 (by omega)
    have hk187 : s182 (180) = σ (180) := (hf184 (180) (by omega))
    have hk188 : s182 (181) = σ (181) := (hf184 (181) (by omega))
    have hk189 : s182 (182) = σ (182) := (hf184 (182) (by omega))
    have hk190 : s182 (183) = σ (183) := (hf184 (183) (by omega))
    have hk191 : s182 (184) = σ (184) := (hf184 (184) (by omega))
    exact ra_ireturn rfl (ra_okB hz183) ⟨⟨_, hz183, (fun q => absurd q (by omega)), rfl⟩, ⟨hF186, hk188, hk189, hk190, hk191, (fun a h15 h16 h17 h18 h19 h20 h21 => (he185 a h15 h16)), (LD_k hk187 hld), (pt_e (he185 12 (by decide) (by decide)) (he185 17 (by decide) (by decide)) (he185 18 (by decide) (by decide)) (he185 19 (by decide) (by decide)) hpt), (by have m_s182 : ra_g s182 179 17 = ra_g σ 179 17 := (he185 17 (by decide) (by decide)); have k_s182 : ra_g s182 179 20 = ra_g σ 179 20 := (he185 20 (by decide) (by decide)); omega)⟩⟩
theorem sp_258 {n : Nat} {f : Nat → Int32} {d : Nat}  {σ : ra_V} (hpt : 0 ≤ ra_g σ 179 18 ∧ ra_g σ 179 18 ≤ ra_g σ 179 17 ∧ ra_g σ 179 17 ≤ ra_g σ 179 12 ∧ ra_g σ 179 12 ≤ 500 ∧ 0 ≤ ra_g σ 179 19 ∧ ra_g σ 179 19 ≤ 999) (hld : LD σ) : ra_C (g_Gs n f) g_sh 0 (d + 3) 258 [.index (179)] σ (fun r s => (∃ z : Int, (z = 0 ∨ z = 1) ∧ (z = 1 → ra_g s 179 20 = 3 → ra_g σ 179 17 < ra_g s 179 17) ∧ r = .inl (some (ra_I z))) ∧ Fr (179) (189) σ s ∧ s (181) = σ (181) ∧ s (182) = σ (182) ∧ s (183) = σ (183) ∧ s (184) = σ (184) ∧ (∀ a, a ≠ 15 → a ≠ 16 → a ≠ 17 → a ≠ 18 → a ≠ 19 → a ≠ 20 → a ≠ 21 → ra_g s 179 a = ra_g σ 179 a) ∧ LD s ∧ (0 ≤ ra_g s 179 18 ∧ ra_g s 179 18 ≤ ra_g s 179 17 ∧ ra_g s 179 17 ≤ ra_g s 179 12 ∧ ra_g s 179 12 ≤ 500 ∧ 0 ≤ ra_g s 179 19 ∧ ra_g s 179 19 ≤ 999) ∧ ra_g σ 179 17 ≤ ra_g s 179 17) := by
  refine ra_enter (nn := 0) mt_258 rfl (Nat.le_of_ble_eq_true rfl) rfl (fun h => absurd h (by decide +kernel)) ?_
  have hw0 := WF_a hld.1
  unfold WFa at hw0
  have hl5 := hld.2.2.1
  refine ra_load rfl rfl rfl rfl ?_
  refine ra_cV (sp_250 (by have q := hpt; omega)) rfl (ct_250 rfl lk_8_240 (Or.inl rfl) sh_179 (Nat.le_of_ble_eq_true rfl)) (fun s1 hs1 => ?_)
  obtain ⟨hf2, he3, he4, he5⟩ := hs1
  have hF6 := Fr_tr (lo := 179) (hi := 189) Fr_rf hf2 (by omega)
  have hk7 : s1 (180) = σ (180) := (hf2 (180) (by omega))
  have hk8 : s1 (181) = σ (181) := (hf2 (181) (by omega))
  have hk9 : s1 (182) = σ (182) := (hf2 (182) (by omega))
  have hk10 : s1 (183) = σ (183) := (hf2 (183) (by omega))
  have hk11 : s1 (184) = σ (184) := (hf2 (184) (by omega))
  refine ra_load rfl rfl rfl rfl ?_
  refine ra_iconst rfl ?_
  refine ra_load rfl rfl rfl rfl ?_
  refine ra_getR rfl lk_8_7 (Nat.zero_le _) sh_179 rfl ?_
  refine ra_iconst rfl ?_
  refine ra_ialoadJ (j := 5) rfl sh_180 rfl (by decide) rfl (by decide) ?_
  rw [ra_gk hk7]
  have hr12 : ra_in (ra_g σ (180) 5) := (ra_in_g _ _ _)
  refine ra_iconst rfl ?_
  refine ra_isub rfl ?_
  refine ra_cQP (sp_254 (by first | omega | (unfold ra_in at *; omega)) (by first | omega | (unfold ra_in at *; omega)) (by have q := he4; omega)) rfl (ct_254 rfl lk_8_236 (Or.inl rfl) sh_179 (Nat.le_of_ble_eq_true rfl)) (fun z14 s13 hz14 hz14p hs13 => ?_)
  obtain ⟨hf15, he16⟩ := hs13
  have hF17 := Fr_tr (lo := 179) (hi := 189) hF6 hf15 (by omega)
  have hk18 : s13 (180) = σ (180) := (hf15 (180) (by omega)).trans hk7
  have hk19 : s13 (181) = σ (181) := (hf15 (181) (by omega)).trans hk8
  have hk20 : s13 (182) = σ (182) := (hf15 (182) (by omega)).trans hk9
  have hk21 : s13 (183) = σ (183) := (hf15 (183) (by omega)).trans hk10
  have hk22 : s13 (184) = σ (184) := (hf15 (184) (by omega)).trans hk11
  refine ra_ifne rfl rfl (ra_in01 hz14) (fun h23 => ?_) (fun h23 => ?_)
  · have hv := hz14p (by omega)
    have ev_s13 : ra_g s13 179 19 = ra_g s1 179 19 := (he16 19 (by decide) (by decide))
    have e5 : ra_g s1 180 5 = ra_g σ 180 5 := ra_gk (hf2 180 (by omega))
    refine ra_load rfl rfl rfl rfl ?_
    refine ra_load rfl rfl rfl rfl ?_
    refine ra_getI rfl lk_8_201 (Nat.zero_le _) sh_179 rfl ?_
    have hr24 : ra_in (ra_g s13 (179) 19) := (ra_in_g _ _ _)
    refine ra_iconst rfl ?_
    refine ra_cTp (sp_200 hr24 (by first | omega | (unfold ra_in at *; omega)) (by first | assumption | rfl | omega)) rfl (ct_200 rfl lk_8_67 (Or.inl rfl) sh_179 (Nat.le_of_ble_eq_true rfl)) ?_
    rw [wq_k hk18]
    have hr26 : ra_in (wq σ (ra_g s13 (179) 19) (5)) := (ra_in_wq _ _ _)
    refine ra_iconst rfl ?_
    refine ra_icne rfl rfl hr26 (by first | omega | (unfold ra_in at *; omega)) (fun h27 => ?_) (fun h27 => ?_)
    · refine ra_load rfl rfl rfl rfl ?_
      refine ra_load rfl rfl rfl rfl ?_
      refine ra_getI rfl lk_8_201 (Nat.zero_le _) sh_179 rfl ?_
      have hr28 : ra_in (ra_g s13 (179) 19) := (ra_in_g _ _ _)
      refine ra_iconst rfl ?_
      refine ra_iconst rfl ?_
      refine ra_cV (sp_201 hr28 (by first | omega | (unfold ra_in at *; omega)) (by first | omega | (unfold ra_in at *; omega)) (by first | assumption | rfl | omega)) rfl (ct_201 rfl lk_8_78 (Or.inl rfl) sh_179 (Nat.le_of_ble_eq_true rfl)) (fun s29 hs29 => ?_)
      obtain ⟨hf30, he31, he32⟩ := hs29
      have hF33 := Fr_tr (lo := 179) (hi := 189) hF17 hf30 (by omega)
      have hk34 : s29 (181) = σ (181) := (hf30 (181) (by omega)).trans hk19
      have hk35 : s29 (182) = σ (182) := (hf30 (182) (by omega)).trans hk20
      have hk36 : s29 (183) = σ (183) := (hf30 (183) (by omega)).trans hk21
      have hk37 : s29 (184) = σ (184) := (hf30 (184) (by omega)).trans hk22
      refine ra_load rfl rfl rfl rfl ?_
      refine ra_cV (sp_250 (by have q := (pt_e (ra_gk (hf30 179 (by omega))) (ra_gk (hf30 179 (by omega))) (ra_gk (hf30 179 (by omega))) (ra_gk (hf30 179 (by omega))) (pt_e (he16 12 (by decide) (by decide)) (he16 17 (by decide) (by decide)) (he16 18 (by decide) (by decide)) (he16 19 (by decide) (by decide)) he4)); omega)) rfl (ct_250 rfl lk_8_240 (Or.inl rfl) sh_179 (Nat.le_of_ble_eq_true rfl)) (fun s38 hs38 => ?_)
      obtain ⟨hf39, he40, he41, he42⟩ := hs38
      have hF43 := Fr_tr (lo := 179) (hi := 189) hF33 hf39 (by omega)
      have hk44 : s38 (181) = σ (181) := (hf39 (181) (by omega)).trans hk34
      have hk45 : s38 (182) = σ (182) := (hf39 (182) (by omega)).trans hk35
      have hk46 : s38 (183) = σ (183) := (hf39 (183) (by omega)).trans hk36
      have hk47 : s38 (184) = σ (184) := (hf39 (184) (by omega)).trans hk37
      refine ra_iconst rfl ?_
      exact ra_ireturn rfl (ra_okB (Or.inr rfl)) ⟨⟨_, (Or.inr rfl), (fun _ q => by have m_s1 := he5.1; have m_s13 : ra_g s13 179 17 = ra_g s1 179 17 := (he16 17 (by decide) (by decide)); have k_s13 : ra_g s13 179 20 = ra_g s1 179 20 := (he16 20 (by decide) (by decide)); have m_s29 : ra_g s29 179 17 = ra_g s13 179 17 := (ra_gk (hf30 179 (by omega))); have k_s29 : ra_g s29 179 20 = ra_g s13 179 20 := (ra_gk (hf30 179 (by omega))); have m_s38 := he42.1; have m_a := he42.2; omega), rfl⟩, ⟨hF43, hk44, hk45, hk46, hk47, (fun a h15 h16 h17 h18 h19 h20 h21 => ((he40 a h17 h18 h19 h20).trans ((ra_gk (hf30 179 (by omega))).trans ((he16 a h15 h16).trans (he3 a h17 h18 h19 h20))))), (LD_k (hf39 180 (by omega)) (LD_lock (LD_k (hf15 180 (by omega)) (LD_k (hf2 180 (by omega)) hld)) ⟨by omega, by omega⟩ he32)), he41, (by have m_s1 := he5.1; have m_s13 : ra_g s13 179 17 = ra_g s1 179 17 := (he16 17 (by decide) (by decide)); have k_s13 : ra_g s13 179 20 = ra_g s1 179 20 := (he16 20 (by decide) (by decide)); have m_s29 : ra_g s29 179 17 = ra_g s13 179 17 := (ra_gk (hf30 179 (by omega))); have k_s29 : ra_g s29 179 20 = ra_g s13 179 20 := (ra_gk (hf30 179 (by omega))); have m_s38 := he42.1; omega)⟩⟩
    · refine ra_load rfl rfl rfl rfl ?_
      refine ra_iconst rfl ?_
      refine ra_cQP (sp_252 (by first | omega | (unfold ra_in at *; omega))) rfl (ct_252 rfl lk_8_233 (Or.inl rfl) sh_179 (Nat.le_of_ble_eq_true rfl)) (fun z49 s48 hz49 hz49p hs48 => ?_)
      obtain ⟨hf50, he51⟩ := hs48
      have hF52 := Fr_tr (lo := 179) (hi := 189) hF17 hf50 (by omega)
      have hk53 : s48 (180) = σ (180) := (hf50 (180) (by omega)).trans hk18
      have hk54 : s48 (181) = σ (181) := (hf50 (181) (by omega)).trans hk19
      have hk55 : s48 (182) = σ (182) := (hf50 (182) (by omega)).trans hk20
      have hk56 : s48 (183) = σ (183) := (hf50 (183) (by omega)).trans hk21
      have hk57 : s48 (184) = σ (184) := (hf50 (184) (by omega)).trans hk22
      exact ra_ireturn rfl (ra_okB hz49) ⟨⟨_, hz49, (fun q => absurd q (by omega)), rfl⟩, ⟨hF52, hk54, hk55, hk56, hk57, (fun a h15 h16 h17 h18 h19 h20 h21 => ((he51 a h15 h16).trans ((he16 a h15 h16).trans (he3 a h17 h18 h19 h20)))), (LD_k (hf50 180 (by omega)) (LD_k (hf15 180 (by omega)) (LD_k (hf2 180 (by omega)) hld))), (pt_e (he51 12 (by decide) (by decide)) (he51 17 (by decide) (by decide)) (he51 18 (by decide) (by decide)) (he51 19 (by decide) (by decide)) (pt_e (he16 12 (by decide) (by decide)) (he16 17 (by decide) (by decide)) (he16 18 (by decide) (by decide)) (he16 19 (by decide) (by decide)) he4)), (by have m_s1 := he5.1; have m_s13 : ra_g s13 179 17 = ra_g s1 179 17 := (he16 17 (by decide) (by decide)); have k_s13 : ra_g s13 179 20 = ra_g s1 179 20 := (he16 20 (by decide) (by decide)); have m_s48 : ra_g s48 179 17 = ra_g s13 179 17 := (he51 17 (by decide) (by decide)); have k_s48 : ra_g s48 179 20 = ra_g s13 179 20 := (he51 20 (by decide) (by decide)); omega)⟩⟩
  · refine ra_iconst rfl ?_
    exact ra_ireturn rfl (ra_okB (Or.inl rfl)) ⟨⟨_, (Or.inl rfl), (fun q => absurd q (by decide)), rfl⟩, ⟨hF17, hk19, hk20, hk21, hk22, (fun a h15 h16 h17 h18 h19 h20 h21 => ((he16 a h15 h16).trans (he3 a h17 h18 h19 h20))), (LD_k (hf15 180 (by omega)) (LD_k (hf2 180 (by omega)) hld)), (pt_e (he16 12 (by decide) (by decide)) (he16 17 (by decide) (by decide)) (he16 18 (by decide) (by decide)) (he16 19 (by decide) (by decide)) he4), (by have m_s1 := he5.1; have m_s13 : ra_g s13 179 17 = ra_g s1 179 17 := (he16 17 (by decide) (by decide)); have k_s13 : ra_g s13 179 20 = ra_g s1 179 20 := (he16 20 (by decide) (by decide)); omega)⟩⟩
end RB
end
section
/-! the reference: what its methods do (printed by wip/gen/ref.py) -/
section RB
theorem sp_259 {n : Nat} {f : Nat → Int32} {d : Nat}  {σ : ra_V} (hpt : 0 ≤ ra_g σ 179 18 ∧ ra_g σ 179 18 ≤ ra_g σ 179 17 ∧ ra_g σ 179 17 ≤ ra_g σ 179 12 ∧ ra_g σ 179 12 ≤ 500 ∧ 0 ≤ ra_g σ 179 19 ∧ ra_g σ 179 19 ≤ 999) (hld : LD σ) : ra_C (g_Gs n f) g_sh 0 (d + 7) 259 [.index (179)] σ (fun r s => (∃ z : Int, (z = 0 ∨ z = 1) ∧ (z = 1 → ra_g s 179 20 = 3 → ra_g σ 179 17 < ra_g s 179 17) ∧ r = .inl (some (ra_I z))) ∧ Fr (179) (189) σ s ∧ s (181) = σ (181) ∧ s (182) = σ (182) ∧ s (183) = σ (183) ∧ s (184) = σ (184) ∧ (∀ a, a ≠ 15 → a ≠ 16 → a ≠ 17 → a ≠ 18 → a ≠ 19 → a ≠ 20 → a ≠ 21 → ra_g s 179 a = ra_g σ 179 a) ∧ LD s ∧ (0 ≤ ra_g s 179 18 ∧ ra_g s 179 18 ≤ ra_g s 179 17 ∧ ra_g s 179 17 ≤ ra_g s 179 12 ∧ ra_g s 179 12 ≤ 500 ∧ 0 ≤ ra_g s 179 19 ∧ ra_g s 179 19 ≤ 999) ∧ ra_g σ 179 17 ≤ ra_g s 179 17) := by
  refine ra_enter (nn := 0) mt_259 rfl (Nat.le_of_ble_eq_true rfl) rfl (fun h => absurd h (by decide +kernel)) ?_
  have hw0 := WF_a hld.1
  unfold WFa at hw0
  have hl5 := hld.2.2.1
  refine ra_load rfl rfl rfl rfl ?_
  refine ra_ldcS rfl lk_8_254 ?_
  refine ra_cBp (sp_253 lk_8_254 (by decide) hpt) rfl (ct_253 rfl lk_8_256 (Or.inl rfl) sh_179 (Nat.le_of_ble_eq_true rfl)) (fun z2 hz2 => ?_)
  refine ra_ifeq rfl rfl (ra_in01 hz2) (fun h3 => ?_) (fun h3 => ?_)
  · refine ra_load rfl rfl rfl rfl ?_
    refine ra_ldcwS rfl lk_8_264 ?_
    refine ra_cBp (sp_253 lk_8_264 (by decide) hpt) rfl (ct_253 rfl lk_8_256 (Or.inl rfl) sh_179 (Nat.le_of_ble_eq_true rfl)) (fun z5 hz5 => ?_)
    refine ra_ifeq rfl rfl (ra_in01 hz5) (fun h6 => ?_) (fun h6 => ?_)
    · refine ra_load rfl rfl rfl rfl ?_
      refine ra_ldcwS rfl lk_8_266 ?_
      refine ra_cBp (sp_253 lk_8_266 (by decide) hpt) rfl (ct_253 rfl lk_8_256 (Or.inl rfl) sh_179 (Nat.le_of_ble_eq_true rfl)) (fun z8 hz8 => ?_)
      refine ra_ifeq rfl rfl (ra_in01 hz8) (fun h9 => ?_) (fun h9 => ?_)
      · refine ra_load rfl rfl rfl rfl ?_
        refine ra_ldcwS rfl lk_8_268 ?_
        refine ra_cBp (sp_253 lk_8_268 (by decide) hpt) rfl (ct_253 rfl lk_8_256 (Or.inl rfl) sh_179 (Nat.le_of_ble_eq_true rfl)) (fun z11 hz11 => ?_)
        refine ra_ifeq rfl rfl (ra_in01 hz11) (fun h12 => ?_) (fun h12 => ?_)
        · refine ra_load rfl rfl rfl rfl ?_
          refine ra_ldcwS rfl lk_8_270 ?_
          refine ra_cBp (sp_253 lk_8_270 (by decide) hpt) rfl (ct_253 rfl lk_8_256 (Or.inl rfl) sh_179 (Nat.le_of_ble_eq_true rfl)) (fun z14 hz14 => ?_)
          refine ra_ifeq rfl rfl (ra_in01 hz14) (fun h15 => ?_) (fun h15 => ?_)
          · refine ra_load rfl rfl rfl rfl ?_
            refine ra_ldcwS rfl lk_8_275 ?_
            refine ra_cBp (sp_253 lk_8_275 (by decide) hpt) rfl (ct_253 rfl lk_8_256 (Or.inl rfl) sh_179 (Nat.le_of_ble_eq_true rfl)) (fun z17 hz17 => ?_)
            refine ra_ifeq rfl rfl (ra_in01 hz17) (fun h18 => ?_) (fun h18 => ?_)
            · refine ra_load rfl rfl rfl rfl ?_
              refine ra_iconst rfl ?_
              refine ra_cQP (sp_252 (by first | omega | (unfold ra_in at *; omega))) rfl (ct_252 rfl lk_8_233 (Or.inl rfl) sh_179 (Nat.le_of_ble_eq_true rfl)) (fun z20 s19 hz20 hz20p hs19 => ?_)
              obtain ⟨hf21, he22⟩ := hs19
              have hF23 := Fr_tr (lo := 179) (hi := 189) Fr_rf hf21 (by omega)
              have hk24 : s19 (180) = σ (180) := (hf21 (180) (by omega))
              have hk25 : s19 (181) = σ (181) := (hf21 (181) (by omega))
              have hk26 : s19 (182) = σ (182) := (hf21 (182) (by omega))
              have hk27 : s19 (183) = σ (183) := (hf21 (183) (by omega))
              have hk28 : s19 (184) = σ (184) := (hf21 (184) (by omega))
              exact ra_ireturn rfl (ra_okB hz20) ⟨⟨_, hz20, (fun q => absurd q (by omega)), rfl⟩, ⟨hF23, hk25, hk26, hk27, hk28, (fun a h15 h16 h17 h18 h19 h20 h21 => (he22 a h15 h16)), (LD_k (hf21 180 (by omega)) hld), (pt_e (he22 12 (by decide) (by decide)) (he22 17 (by decide) (by decide)) (he22 18 (by decide) (by decide)) (he22 19 (by decide) (by decide)) hpt), (by have m_s19 : ra_g s19 179 17 = ra_g σ 179 17 := (he22 17 (by decide) (by decide)); have k_s19 : ra_g s19 179 20 = ra_g σ 179 20 := (he22 20 (by decide) (by decide)); omega)⟩⟩
            · refine ra_load rfl rfl rfl rfl ?_
              refine ra_cQPs (sp_258 hpt hld) rfl (ct_258 rfl lk_8_277 (Or.inl rfl) sh_179 (Nat.le_of_ble_eq_true rfl)) (fun z30 s29 hz30 hz30p hs29 => ?_)
              obtain ⟨hf31, hc32, hc33, hc34, hc35, he36, he37, he38, he39⟩ := hs29
              have hF40 := Fr_tr (lo := 179) (hi := 189) Fr_rf hf31 (by omega)
              have hk41 : s29 (181) = σ (181) := hc32
              have hk42 : s29 (182) = σ (182) := hc33
              have hk43 : s29 (183) = σ (183) := hc34
              have hk44 : s29 (184) = σ (184) := hc35
              refine ra_goto rfl rfl ?_
              exact ra_ireturn rfl (ra_okB hz30) ⟨⟨_, hz30, hz30p, rfl⟩, ⟨hF40, hk41, hk42, hk43, hk44, (fun a h15 h16 h17 h18 h19 h20 h21 => (he36 a h15 h16 h17 h18 h19 h20 h21)), he37, he38, (by have m_s29 := he39; omega)⟩⟩
          · refine ra_load rfl rfl rfl rfl ?_
            refine ra_cQPs (sp_257 hpt hld) rfl (ct_257 rfl lk_8_272 (Or.inl rfl) sh_179 (Nat.le_of_ble_eq_true rfl)) (fun z46 s45 hz46 hz46p hs45 => ?_)
            obtain ⟨hf47, hc48, hc49, hc50, hc51, he52, he53, he54, he55⟩ := hs45
            have hF56 := Fr_tr (lo := 179) (hi := 189) Fr_rf hf47 (by omega)
            have hk57 : s45 (181) = σ (181) := hc48
            have hk58 : s45 (182) = σ (182) := hc49
            have hk59 : s45 (183) = σ (183) := hc50
            have hk60 : s45 (184) = σ (184) := hc51
            exact ra_ireturn rfl (ra_okB hz46) ⟨⟨_, hz46, hz46p, rfl⟩, ⟨hF56, hk57, hk58, hk59, hk60, (fun a h15 h16 h17 h18 h19 h20 h21 => (he52 a h15 h16 h17 h18 h19 h20 h21)), he53, he54, (by have m_s45 := he55; omega)⟩⟩
        · refine ra_load rfl rfl rfl rfl ?_
          refine ra_iconst rfl ?_
          refine ra_bipush rfl (by decide) ?_
          refine ra_iconst rfl ?_
          refine ra_bipush rfl (by decide) ?_
          refine ra_cQPs (sp_256 (by first | omega | (unfold ra_in at *; omega)) (by first | omega | (unfold ra_in at *; omega)) (by first | omega | (unfold ra_in at *; omega)) (by first | omega | (unfold ra_in at *; omega)) hpt hld (by omega)) rfl (ct_256 rfl lk_8_260 (Or.inl rfl) sh_179 (Nat.le_of_ble_eq_true rfl)) (fun z62 s61 hz62 hz62p hs61 => ?_)
          obtain ⟨hf63, hc64, hc65, hc66, hc67, he68, he69, he70, he71⟩ := hs61
          have hF72 := Fr_tr (lo := 179) (hi := 189) Fr_rf hf63 (by omega)
          have hk73 : s61 (181) = σ (181) := hc64
          have hk74 : s61 (182) = σ (182) := hc65
          have hk75 : s61 (183) = σ (183) := hc66
          have hk76 : s61 (184) = σ (184) := hc67
          exact ra_ireturn rfl (ra_okB hz62) ⟨⟨_, hz62, hz62p, rfl⟩, ⟨hF72, hk73, hk74, hk75, hk76, (fun a h15 h16 h17 h18 h19 h20 h21 => (he68 a h15 h16 h17 h18 h19 h20 h21)), he69, he70, (by have m_s61 := he71; omega)⟩⟩
      · refine ra_load rfl rfl rfl rfl ?_
        refine ra_iconst rfl ?_
        refine ra_iconst rfl ?_
        refine ra_iconst rfl ?_
        refine ra_bipush rfl (by decide) ?_
        refine ra_cQPs (sp_256 (by first | omega | (unfold ra_in at *; omega)) (by first | omega | (unfold ra_in at *; omega)) (by first | omega | (unfold ra_in at *; omega)) (by first | omega | (unfold ra_in at *; omega)) hpt hld (by omega)) rfl (ct_256 rfl lk_8_260 (Or.inl rfl) sh_179 (Nat.le_of_ble_eq_true rfl)) (fun z78 s77 hz78 hz78p hs77 => ?_)
        obtain ⟨hf79, hc80, hc81, hc82, hc83, he84, he85, he86, he87⟩ := hs77
        have hF88 := Fr_tr (lo := 179) (hi := 189) Fr_rf hf79 (by omega)
        have hk89 : s77 (181) = σ (181) := hc80
        have hk90 : s77 (182) = σ (182) := hc81
        have hk91 : s77 (183) = σ (183) := hc82
        have hk92 : s77 (184) = σ (184) := hc83
        exact ra_ireturn rfl (ra_okB hz78) ⟨⟨_, hz78, hz78p, rfl⟩, ⟨hF88, hk89, hk90, hk91, hk92, (fun a h15 h16 h17 h18 h19 h20 h21 => (he84 a h15 h16 h17 h18 h19 h20 h21)), he85, he86, (by have m_s77 := he87; omega)⟩⟩
    · refine ra_load rfl rfl rfl rfl ?_
      refine ra_iconst rfl ?_
      refine ra_iconst rfl ?_
      refine ra_iconst rfl ?_
      refine ra_bipush rfl (by decide) ?_
      refine ra_cQPs (sp_256 (by first | omega | (unfold ra_in at *; omega)) (by first | omega | (unfold ra_in at *; omega)) (by first | omega | (unfold ra_in at *; omega)) (by first | omega | (unfold ra_in at *; omega)) hpt hld (by omega)) rfl (ct_256 rfl lk_8_260 (Or.inl rfl) sh_179 (Nat.le_of_ble_eq_true rfl)) (fun z94 s93 hz94 hz94p hs93 => ?_)
      obtain ⟨hf95, hc96, hc97, hc98, hc99, he100, he101, he102, he103⟩ := hs93
      have hF104 := Fr_tr (lo := 179) (hi := 189) Fr_rf hf95 (by omega)
      have hk105 : s93 (181) = σ (181) := hc96
      have hk106 : s93 (182) = σ (182) := hc97
      have hk107 : s93 (183) = σ (183) := hc98
      have hk108 : s93 (184) = σ (184) := hc99
      exact ra_ireturn rfl (ra_okB hz94) ⟨⟨_, hz94, hz94p, rfl⟩, ⟨hF104, hk105, hk106, hk107, hk108, (fun a h15 h16 h17 h18 h19 h20 h21 => (he100 a h15 h16 h17 h18 h19 h20 h21)), he101, he102, (by have m_s93 := he103; omega)⟩⟩
  · refine ra_load rfl rfl rfl rfl ?_
    refine ra_iconst rfl ?_
    refine ra_iconst rfl ?_
    refine ra_iconst rfl ?_
    refine ra_bipush rfl (by decide) ?_
    refine ra_cQPs (sp_256 (by first | omega | (unfold ra_in at *; omega)) (by first | omega | (unfold ra_in at *; omega)) (by first | omega | (unfold ra_in at *; omega)) (by first | omega | (unfold ra_in at *; omega)) hpt hld (by omega)) rfl (ct_256 rfl lk_8_260 (Or.inl rfl) sh_179 (Nat.le_of_ble_eq_true rfl)) (fun z110 s109 hz110 hz110p hs109 => ?_)
    obtain ⟨hf111, hc112, hc113, hc114, hc115, he116, he117, he118, he119⟩ := hs109
    have hF120 := Fr_tr (lo := 179) (hi := 189) Fr_rf hf111 (by omega)
    have hk121 : s109 (181) = σ (181) := hc112
    have hk122 : s109 (182) = σ (182) := hc113
    have hk123 : s109 (183) = σ (183) := hc114
    have hk124 : s109 (184) = σ (184) := hc115
    exact ra_ireturn rfl (ra_okB hz110) ⟨⟨_, hz110, hz110p, rfl⟩, ⟨hF120, hk121, hk122, hk123, hk124, (fun a h15 h16 h17 h18 h19 h20 h21 => (he116 a h15 h16 h17 h18 h19 h20 h21)), he117, he118, (by have m_s109 := he119; omega)⟩⟩
theorem lp_261_56 {n : Nat} {f : Nat → Int32} {d : Nat}  {σ : ra_V} (hpt : 0 ≤ ra_g σ 179 18 ∧ ra_g σ 179 18 ≤ ra_g σ 179 17 ∧ ra_g σ 179 17 ≤ ra_g σ 179 12 ∧ ra_g σ 179 12 ≤ 500 ∧ 0 ≤ ra_g σ 179 19 ∧ ra_g σ 179 19 ≤ 999) (hld : LD σ) (h50 : ra_g σ 180 5 = 0) : ∀ (nn : Nat) (s : ra_V) (hF : Fr (179) (189) σ s) (hk0 : s (181) = σ (181)) (hk1 : s (182) = σ (182)) (hk2 : s (183) = σ (183)) (hk3 : s (184) = σ (184)) (hov : ∀ a, a ≠ 15 → a ≠ 16 → a ≠ 17 → a ≠ 18 → a ≠ 19 → a ≠ 20 → a ≠ 21 → ra_g s 179 a = ra_g σ 179 a) (hls : LD s) (hps : 0 ≤ ra_g s 179 18 ∧ ra_g s 179 18 ≤ ra_g s 179 17 ∧ ra_g s 179 17 ≤ ra_g s 179 12 ∧ ra_g s 179 12 ≤ 500 ∧ 0 ≤ ra_g s 179 19 ∧ ra_g s 179 19 ≤ 999) (hmo : ra_g σ 179 17 ≤ ra_g s 179 17) (hm : ((501 - ra_g s 179 17 : Int)).toNat < nn), ra_P (g_Gs n f) g_sh 0 (d + 7) g_m_X8_readText 56 [some (.index (179))] [] s (fun r s => rB r ∧ Fr (179) (189) σ s ∧ s (181) = σ (181) ∧ s (182) = σ (182) ∧ s (183) = σ (183) ∧ s (184) = σ (184) ∧ (∀ a, a ≠ 15 → a ≠ 16 → a ≠ 17 → a ≠ 18 → a ≠ 19 → a ≠ 20 → a ≠ 21 → ra_g s 179 a = ra_g σ 179 a) ∧ LD s ∧ (0 ≤ ra_g s 179 18 ∧ ra_g s 179 18 ≤ ra_g s 179 17 ∧ ra_g s 179 17 ≤ ra_g s 179 12 ∧ ra_g s 179 12 ≤ 500 ∧ 0 ≤ ra_g s 179 19 ∧ ra_g s 179 19 ≤ 999) ∧ ra_g σ 179 17 ≤ ra_g s 179 17) := by
  intro nn
  induction nn with
  | zero => intro s hF hk0 hk1 hk2 hk3 hov hls hps hmo hm; exact absurd hm (Nat.not_lt_zero _)
  | succ nn ih =>
    intro s hF hk0 hk1 hk2 hk3 hov hls hps hmo hm
    have hw0 := WF_a hls.1
    unfold WFa at hw0
    refine ra_load rfl rfl rfl rfl ?_
    refine ra_getI rfl lk_8_204 (Nat.zero_le _) sh_179 rfl ?_
    have hr53 : ra_in (ra_g s (179) 20) := (ra_in_g _ _ _)
    refine ra_ifeq rfl rfl hr53 (fun h54 => ?_) (fun h54 => ?_)
    · refine ra_iconst rfl ?_
      exact ra_ireturn rfl (ra_okB (Or.inr rfl)) ⟨⟨_, (Or.inr rfl), rfl⟩, ⟨hF, hk0, hk1, hk2, hk3, (fun a h15 h16 h17 h18 h19 h20 h21 => (hov a h15 h16 h17 h18 h19 h20 h21)), hls, hps, (by omega)⟩⟩
    · refine ra_load rfl rfl rfl rfl ?_
      refine ra_cQPs (sp_259 hps hls) rfl (ct_259 rfl lk_8_285 (Or.inl rfl) sh_179 (Nat.le_of_ble_eq_true rfl)) (fun z56 s55 hz56 hz56p hs55 => ?_)
      obtain ⟨hf57, hc58, hc59, hc60, hc61, he62, he63, he64, he65⟩ := hs55
      have hF66 := Fr_tr (lo := 179) (hi := 189) hF hf57 (by omega)
      have hk67 : s55 (181) = σ (181) := hc58.trans hk0
      have hk68 : s55 (182) = σ (182) := hc59.trans hk1
      have hk69 : s55 (183) = σ (183) := hc60.trans hk2
      have hk70 : s55 (184) = σ (184) := hc61.trans hk3
      refine ra_ifeq rfl rfl (ra_in01 hz56) (fun h71 => ?_) (fun h71 => ?_)
      · refine ra_iconst rfl ?_
        exact ra_ireturn rfl (ra_okB (Or.inl rfl)) ⟨⟨_, (Or.inl rfl), rfl⟩, ⟨hF66, hk67, hk68, hk69, hk70, (fun a h15 h16 h17 h18 h19 h20 h21 => ((he62 a h15 h16 h17 h18 h19 h20 h21).trans (hov a h15 h16 h17 h18 h19 h20 h21))), he63, he64, (by have m_s55 := he65; omega)⟩⟩
      · refine ra_load rfl rfl rfl rfl ?_
        refine ra_cQP (sp_260 he64) rfl (ct_260 rfl lk_8_282 (Or.inl rfl) sh_179 (Nat.le_of_ble_eq_true rfl)) (fun z73 s72 hz73 hz73p hs72 => ?_)
        obtain ⟨hf74, he75, he76, he77⟩ := hs72
        have hF78 := Fr_tr (lo := 179) (hi := 189) hF66 hf74 (by omega)
        have hk79 : s72 (181) = σ (181) := (hf74 (181) (by omega)).trans hk67
        have hk80 : s72 (182) = σ (182) := (hf74 (182) (by omega)).trans hk68
        have hk81 : s72 (183) = σ (183) := (hf74 (183) (by omega)).trans hk69
        have hk82 : s72 (184) = σ (184) := (hf74 (184) (by omega)).trans hk70
        refine ra_ifne rfl rfl (ra_in01 hz73) (fun h83 => ?_) (fun h83 => ?_)
        · exact ra_weak (by repeat' constructor) (ih s72 hF78 hk79 hk80 hk81 hk82 (fun a h15 h16 h17 h18 h19 h20 h21 => ((he75 a h15 h16 h17 h18 h19 h20).trans ((he62 a h15 h16 h17 h18 h19 h20 h21).trans (hov a h15 h16 h17 h18 h19 h20 h21)))) (LD_k (hf74 180 (by omega)) he63) he76 (by have m_s55 := he65; have m_s72 := he77; omega) (by first | omega | (unfold ra_in at *; omega)))
        · refine ra_iconst rfl ?_
          exact ra_ireturn rfl (ra_okB (Or.inl rfl)) ⟨⟨_, (Or.inl rfl), rfl⟩, ⟨hF78, hk79, hk80, hk81, hk82, (fun a h15 h16 h17 h18 h19 h20 h21 => ((he75 a h15 h16 h17 h18 h19 h20).trans ((he62 a h15 h16 h17 h18 h19 h20 h21).trans (hov a h15 h16 h17 h18 h19 h20 h21)))), (LD_k (hf74 180 (by omega)) he63), he76, (by have m_s55 := he65; have m_s72 := he77; omega)⟩⟩
theorem sp_261 {n : Nat} {f : Nat → Int32} {d : Nat}  {σ : ra_V} (hpt : 0 ≤ ra_g σ 179 18 ∧ ra_g σ 179 18 ≤ ra_g σ 179 17 ∧ ra_g σ 179 17 ≤ ra_g σ 179 12 ∧ ra_g σ 179 12 ≤ 500 ∧ 0 ≤ ra_g σ 179 19 ∧ ra_g σ 179 19 ≤ 999) (hld : LD σ) (h50 : ra_g σ 180 5 = 0) : ra_C (g_Gs n f) g_sh 0 (d + 8) 261 [.index (179)] σ (fun r s => rB r ∧ Fr (179) (189) σ s ∧ s (181) = σ (181) ∧ s (182) = σ (182) ∧ s (183) = σ (183) ∧ s (184) = σ (184) ∧ (∀ a, a ≠ 15 → a ≠ 16 → a ≠ 17 → a ≠ 18 → a ≠ 19 → a ≠ 20 → a ≠ 21 → ra_g s 179 a = ra_g σ 179 a) ∧ LD s ∧ (0 ≤ ra_g s 179 18 ∧ ra_g s 179 18 ≤ ra_g s 179 17 ∧ ra_g s 179 17 ≤ ra_g s 179 12 ∧ ra_g s 179 12 ≤ 500 ∧ 0 ≤ ra_g s 179 19 ∧ ra_g s 179 19 ≤ 999) ∧ ra_g σ 179 17 ≤ ra_g s 179 17) := by
  refine ra_enter (nn := 0) mt_261 rfl (Nat.le_of_ble_eq_true rfl) rfl (fun h => absurd h (by decide +kernel)) ?_
  have hw0 := WF_a hld.1
  unfold WFa at hw0
  have hl5 := hld.2.2.1
  refine ra_load rfl rfl rfl rfl ?_
  refine ra_ldcwS rfl lk_8_280 ?_
  refine ra_cBp (sp_253 lk_8_280 (by decide) hpt) rfl (ct_253 rfl lk_8_256 (Or.inl rfl) sh_179 (Nat.le_of_ble_eq_true rfl)) (fun z2 hz2 => ?_)
  refine ra_ifne rfl rfl (ra_in01 hz2) (fun h3 => ?_) (fun h3 => ?_)
  · refine ra_load rfl rfl rfl rfl ?_
    refine ra_cV (sp_250 (by have q := hpt; omega)) rfl (ct_250 rfl lk_8_240 (Or.inl rfl) sh_179 (Nat.le_of_ble_eq_true rfl)) (fun s4 hs4 => ?_)
    obtain ⟨hf5, he6, he7, he8⟩ := hs4
    have hF9 := Fr_tr (lo := 179) (hi := 189) Fr_rf hf5 (by omega)
    have hk10 : s4 (180) = σ (180) := (hf5 (180) (by omega))
    have hk11 : s4 (181) = σ (181) := (hf5 (181) (by omega))
    have hk12 : s4 (182) = σ (182) := (hf5 (182) (by omega))
    have hk13 : s4 (183) = σ (183) := (hf5 (183) (by omega))
    have hk14 : s4 (184) = σ (184) := (hf5 (184) (by omega))
    refine ra_load rfl rfl rfl rfl ?_
    refine ra_iconst rfl ?_
    refine ra_bipush rfl (by decide) ?_
    refine ra_sipush rfl (by decide) ?_
    refine ra_cQPs (sp_255 (by first | omega | (unfold ra_in at *; omega)) (by first | omega | (unfold ra_in at *; omega)) (by first | omega | (unfold ra_in at *; omega)) he7 (by first | assumption | rfl | omega)) rfl (ct_255 rfl lk_8_246 (Or.inl rfl) sh_179 (Nat.le_of_ble_eq_true rfl)) (fun z16 s15 hz16 hz16p hs15 => ?_)
    obtain ⟨hf17, hc18, hc19, hc20, hc21, hc22, he23, he24, he25, he26⟩ := hs15
    have hF27 := Fr_tr (lo := 179) (hi := 189) hF9 hf17 (by omega)
    have hk28 : s15 (180) = σ (180) := hc18.trans hk10
    have hk29 : s15 (181) = σ (181) := hc19.trans hk11
    have hk30 : s15 (182) = σ (182) := hc20.trans hk12
    have hk31 : s15 (183) = σ (183) := hc21.trans hk13
    have hk32 : s15 (184) = σ (184) := hc22.trans hk14
    refine ra_ifne rfl rfl (ra_in01 hz16) (fun h33 => ?_) (fun h33 => ?_)
    · have ht := hz16p (by omega)
      rw [toN0] at ht
      have hld1 := (LD_k hc18 (LD_k (hf5 180 (by omega)) hld))
      have h51 : ra_g s15 180 5 = ra_g σ 180 5 := ra_gk hk28
      refine ra_load rfl rfl rfl rfl ?_
      refine ra_getR rfl lk_8_7 (Nat.zero_le _) sh_179 rfl ?_
      refine ra_iconst rfl ?_
      refine ra_load rfl rfl rfl rfl ?_
      refine ra_getR rfl lk_8_38 (Nat.zero_le _) sh_179 rfl ?_
      refine ra_iconst rfl ?_
      refine ra_ialoadJ (j := 0) rfl sh_188 rfl (by decide) rfl (by decide) ?_
      have hr34 : ra_in (ra_g s15 (188) 0) := (ra_in_g _ _ _)
      refine ra_iastoreJ (j := 0) rfl sh_180 rfl (by decide) rfl (by decide) ?_
      refine ra_newR hr34 (fun s35 hs35 hs35v hs35o => ?_)
      have hF36 := Fr_tr (lo := 179) (hi := 189) hF27 hs35 (by omega)
      have hk37 : s35 (181) = σ (181) := (hs35 (181) (by omega)).trans hk29
      have hk38 : s35 (182) = σ (182) := (hs35 (182) (by omega)).trans hk30
      have hk39 : s35 (183) = σ (183) := (hs35 (183) (by omega)).trans hk31
      have hk40 : s35 (184) = σ (184) := (hs35 (184) (by omega)).trans hk32
      refine ra_load rfl rfl rfl rfl ?_
      refine ra_cQP (sp_260 (pt_e (ra_gk (hs35 179 (by omega))) (ra_gk (hs35 179 (by omega))) (ra_gk (hs35 179 (by omega))) (ra_gk (hs35 179 (by omega))) he25)) rfl (ct_260 rfl lk_8_282 (Or.inl rfl) sh_179 (Nat.le_of_ble_eq_true rfl)) (fun z42 s41 hz42 hz42p hs41 => ?_)
      obtain ⟨hf43, he44, he45, he46⟩ := hs41
      have hF47 := Fr_tr (lo := 179) (hi := 189) hF36 hf43 (by omega)
      have hk48 : s41 (181) = σ (181) := (hf43 (181) (by omega)).trans hk37
      have hk49 : s41 (182) = σ (182) := (hf43 (182) (by omega)).trans hk38
      have hk50 : s41 (183) = σ (183) := (hf43 (183) (by omega)).trans hk39
      have hk51 : s41 (184) = σ (184) := (hf43 (184) (by omega)).trans hk40
      refine ra_ifne rfl rfl (ra_in01 hz42) (fun h52 => ?_) (fun h52 => ?_)
      · exact ra_weak (by repeat' constructor) (lp_261_56 hpt hld h50 _ s41 hF47 hk48 hk49 hk50 hk51 (fun a h15 h16 h17 h18 h19 h20 h21 => ((he44 a h15 h16 h17 h18 h19 h20).trans ((ra_gk (hs35 179 (by omega))).trans ((he23 a h15 h16 h17 h18 h19 h20).trans (he6 a h17 h18 h19 h20))))) (LD_k (hf43 180 (by omega)) (LD_set (j := 0) hld1 (by omega) hs35o (fun q => by have t := hs35v; omega) (fun q => by omega) (fun q => by omega) (fun q => by omega) (by omega))) he45 (by have m_s4 := he8.1; have m_s15 := he26; have m_s35 : ra_g s35 179 17 = ra_g s15 179 17 := (ra_gk (hs35 179 (by omega))); have k_s35 : ra_g s35 179 20 = ra_g s15 179 20 := (ra_gk (hs35 179 (by omega))); have m_s41 := he46; omega) (Nat.lt_succ_self _))
      · refine ra_iconst rfl ?_
        exact ra_ireturn rfl (ra_okB (Or.inl rfl)) ⟨⟨_, (Or.inl rfl), rfl⟩, ⟨hF47, hk48, hk49, hk50, hk51, (fun a h15 h16 h17 h18 h19 h20 h21 => ((he44 a h15 h16 h17 h18 h19 h20).trans ((ra_gk (hs35 179 (by omega))).trans ((he23 a h15 h16 h17 h18 h19 h20).trans (he6 a h17 h18 h19 h20))))), (LD_k (hf43 180 (by omega)) (LD_set (j := 0) hld1 (by omega) hs35o (fun q => by have t := hs35v; omega) (fun q => by omega) (fun q => by omega) (fun q => by omega) (by omega))), he45, (by have m_s4 := he8.1; have m_s15 := he26; have m_s35 : ra_g s35 179 17 = ra_g s15 179 17 := (ra_gk (hs35 179 (by omega))); have k_s35 : ra_g s35 179 20 = ra_g s15 179 20 := (ra_gk (hs35 179 (by omega))); have m_s41 := he46; omega)⟩⟩
    · refine ra_iconst rfl ?_
      exact ra_ireturn rfl (ra_okB (Or.inl rfl)) ⟨⟨_, (Or.inl rfl), rfl⟩, ⟨hF27, hk29, hk30, hk31, hk32, (fun a h15 h16 h17 h18 h19 h20 h21 => ((he23 a h15 h16 h17 h18 h19 h20).trans (he6 a h17 h18 h19 h20))), (LD_k hc18 (LD_k (hf5 180 (by omega)) hld)), he25, (by have m_s4 := he8.1; have m_s15 := he26; omega)⟩⟩
  · refine ra_load rfl rfl rfl rfl ?_
    refine ra_iconst rfl ?_
    refine ra_cQP (sp_252 (by first | omega | (unfold ra_in at *; omega))) rfl (ct_252 rfl lk_8_233 (Or.inl rfl) sh_179 (Nat.le_of_ble_eq_true rfl)) (fun z85 s84 hz85 hz85p hs84 => ?_)
    obtain ⟨hf86, he87⟩ := hs84
    have hF88 := Fr_tr (lo := 179) (hi := 189) Fr_rf hf86 (by omega)
    have hk89 : s84 (180) = σ (180) := (hf86 (180) (by omega))
    have hk90 : s84 (181) = σ (181) := (hf86 (181) (by omega))
    have hk91 : s84 (182) = σ (182) := (hf86 (182) (by omega))
    have hk92 : s84 (183) = σ (183) := (hf86 (183) (by omega))
    have hk93 : s84 (184) = σ (184) := (hf86 (184) (by omega))
    exact ra_ireturn rfl (ra_okB hz85) ⟨⟨_, hz85, rfl⟩, ⟨hF88, hk90, hk91, hk92, hk93, (fun a h15 h16 h17 h18 h19 h20 h21 => (he87 a h15 h16)), (LD_k (hf86 180 (by omega)) hld), (pt_e (he87 12 (by decide) (by decide)) (he87 17 (by decide) (by decide)) (he87 18 (by decide) (by decide)) (he87 19 (by decide) (by decide)) hpt), (by have m_s84 : ra_g s84 179 17 = ra_g σ 179 17 := (he87 17 (by decide) (by decide)); have k_s84 : ra_g s84 179 20 = ra_g σ 179 20 := (he87 20 (by decide) (by decide)); omega)⟩⟩
end RB
end
section
/-! how many partitions begin behind a place -/
section RB
def ctp (σ : ra_V) (c p : Int) : Int := if wq σ p 0 = 1 ∧ c < wq σ p 1 then 1 else 0
def ct (σ : ra_V) (c : Int) : Int := ctp σ c 0 + ctp σ c 1 + ctp σ c 2 + ctp σ c 3 + ctp σ c 4 + ctp σ c 5 + ctp σ c 6 + ctp σ c 7
def pcs (σ : ra_V) : Nat → Int
  | 0 => 0
  | k + 1 => pcs σ k + wq σ (k : Int) 0
def rst (σ : ra_V) (z : Int) : Int := if z = -1 then 0 else ct σ (wq σ z 1) + 1
section
variable {σ s t : ra_V} {c p z v to : Int}
theorem ctp_y (h : wq σ p 0 = 1 ∧ c < wq σ p 1) : ctp σ c p = 1 := if_pos h
theorem ctp_n (h : ¬ (wq σ p 0 = 1 ∧ c < wq σ p 1)) : ctp σ c p = 0 := if_neg h
theorem ctp_b : ctp σ c p = 0 ∨ ctp σ c p = 1 := by
  by_cases h : wq σ p 0 = 1 ∧ c < wq σ p 1
  · exact Or.inr (ctp_y h)
  · exact Or.inl (ctp_n h)
theorem ct_b : 0 ≤ ct σ c ∧ ct σ c ≤ 8 := by
  unfold ct
  have h0 := ctp_b (σ := σ) (c := c) (p := 0)
  have h1 := ctp_b (σ := σ) (c := c) (p := 1)
  have h2 := ctp_b (σ := σ) (c := c) (p := 2)
  have h3 := ctp_b (σ := σ) (c := c) (p := 3)
  have h4 := ctp_b (σ := σ) (c := c) (p := 4)
  have h5 := ctp_b (σ := σ) (c := c) (p := 5)
  have h6 := ctp_b (σ := σ) (c := c) (p := 6)
  have h7 := ctp_b (σ := σ) (c := c) (p := 7)
  omega
theorem ctp_k (h : s 180 = σ 180) : ctp s c p = ctp σ c p := by unfold ctp; rw [wq_k h, wq_k h]
theorem ct_k (h : s 180 = σ 180) : ct s c = ct σ c := by unfold ct; simp only [ctp_k h]
theorem cnt_0 (h : NB σ c 8 (-1)) : ct σ c = 0 := by
  have e : ∀ p, 0 ≤ p → p < 8 → ctp σ c p = 0 := fun p p0 p1 => ctp_n (fun q => (h.2 p p0 p1 q.1 q.2).1 rfl)
  unfold ct
  rw [e 0 (by decide) (by decide), e 1 (by decide) (by decide), e 2 (by decide) (by decide), e 3 (by decide) (by decide), e 4 (by decide) (by decide), e 5 (by decide) (by decide), e 6 (by decide) (by decide), e 7 (by decide) (by decide)]
  rfl
theorem cnt_1 (hw : WF σ) (h : NB σ c 8 z) (hz : z ≠ -1) : ct σ (wq σ z 1) = ct σ c - 1 := by
  obtain ⟨h1, h2⟩ := h
  obtain ⟨z0, z1, z2, z3⟩ := h1.resolve_left hz
  have e : ∀ p, 0 ≤ p → p < 8 → p ≠ z → ctp σ (wq σ z 1) p = ctp σ c p := fun p p0 p1 pn => by
    by_cases q : wq σ p 0 = 1 ∧ c < wq σ p 1
    · have := (h2 p p0 p1 q.1 q.2).2
      have a := WF_ap hw p0 p1 z0 z1 pn q.1 z2
      have b := WF_p hw p0 p1 q.1
      have d := WF_p hw z0 z1 z2
      rw [ctp_y q, ctp_y ⟨q.1, by omega⟩]
    · rw [ctp_n q, ctp_n (fun r => q ⟨r.1, by omega⟩)]
  have e0 : ctp σ (wq σ z 1) z = 0 := ctp_n (fun q => by omega)
  have e1 : ctp σ c z = 1 := ctp_y ⟨z2, z3⟩
  have f : ∀ p, 0 ≤ p → p < 8 → ctp σ (wq σ z 1) p = ctp σ c p - (if p = z then 1 else 0) := fun p p0 p1 => by
    by_cases q : p = z
    · rw [q, e0, e1, if_pos rfl]; rfl
    · rw [e p p0 p1 q, if_neg q]; omega
  unfold ct
  rw [f 0 (by decide) (by decide), f 1 (by decide) (by decide), f 2 (by decide) (by decide), f 3 (by decide) (by decide), f 4 (by decide) (by decide), f 5 (by decide) (by decide), f 6 (by decide) (by decide), f 7 (by decide) (by decide)]
  have c8 : z = 0 ∨ z = 1 ∨ z = 2 ∨ z = 3 ∨ z = 4 ∨ z = 5 ∨ z = 6 ∨ z = 7 := by omega
  rcases c8 with rfl | rfl | rfl | rfl | rfl | rfl | rfl | rfl <;> simp <;> omega
theorem nb_st (hw : WF σ) (h : NB σ c 8 z) (h1 : 1 ≤ ct σ c) : (0 ≤ z ∧ z < 8 ∧ wq σ z 0 = 1) ∧ ct σ (wq σ z 1) = ct σ c - 1 := by
  by_cases e : z = -1
  · rw [e] at h
    have := cnt_0 h
    omega
  · obtain ⟨z0, z1, z2, -⟩ := h.1.resolve_left e
    exact ⟨⟨z0, z1, z2⟩, cnt_1 hw h e⟩
theorem rst_n (hw : WF σ) (h : NB σ c 8 z) : rst σ z = ct σ c := by
  unfold rst
  by_cases e : z = -1
  · rw [if_pos e]
    rw [e] at h
    exact (cnt_0 h).symm
  · rw [if_neg e, cnt_1 hw h e]
    omega
theorem rst_y (h : z ≠ -1) : rst σ z = ct σ (wq σ z 1) + 1 := if_neg h
theorem rst_b : 0 ≤ rst σ z := by
  unfold rst
  have := (ct_b (σ := σ) (c := wq σ z 1)).1
  by_cases e : z = -1
  · rw [if_pos e]; omega
  · rw [if_neg e]; omega
theorem pcs_s (h : 0 ≤ v) : pcs σ (v + 1).toNat = pcs σ v.toNat + wq σ v 0 := by
  rw [show (v + 1).toNat = v.toNat + 1 by omega]
  show pcs σ v.toNat + wq σ (v.toNat : Int) 0 = _
  rw [show (v.toNat : Int) = v by omega]
theorem pcs_8 (hw : WF σ) : pcs σ 8 = ct σ (-1) := by
  have e : ∀ p, 0 ≤ p → p < 8 → wq σ p 0 = ctp σ (-1) p := fun p p0 p1 => by
    by_cases q : wq σ p 0 = 1
    · have := WF_p hw p0 p1 q
      have a := WF_a hw
      unfold WFa at a
      rw [ctp_y ⟨q, by omega⟩]; exact q
    · rw [ctp_n (fun r => q r.1)]
      have := WF_ex hw p0 p1
      omega
  show (0 + wq σ 0 0 + wq σ 1 0 + wq σ 2 0 + wq σ 3 0 + wq σ 4 0 + wq σ 5 0 + wq σ 6 0 + wq σ 7 0 : Int) = _
  unfold ct
  rw [e 0 (by decide) (by decide), e 1 (by decide) (by decide), e 2 (by decide) (by decide), e 3 (by decide) (by decide), e 4 (by decide) (by decide), e 5 (by decide) (by decide), e 6 (by decide) (by decide), e 7 (by decide) (by decide)]
  omega
theorem cs_w {s0 s1 s2 s3 : ra_V} (hw : WF σ) (k0 : s0 180 = σ 180) (c1 : CPO s0 s1 180 182 0 0 688) (k2 : s2 182 = s1 182) (c2 : CPO s2 s3 182 180 0 0 688) : WF s3 :=
  WF_rel (fun a ha => by
    have hl : a < 88 := by unfold REL at ha; omega
    rw [c2 a, if_pos (by omega), show ((a : Int) - 0 + 0).toNat = a by omega, ra_gk k2, c1 a, if_pos (by omega), show ((a : Int) - 0 + 0).toNat = a by omega, ra_gk k0]) hw
theorem ra_ext {k : Nat} (h : ∀ a, ra_g s k a = ra_g σ k a) : s k = σ k := by
  funext a
  exact Int32.toInt_inj.mp (h a)
theorem br_w (hw : WF σ) (hp : 0 ≤ p ∧ p < 8 ∧ wq σ p 0 = 1) (hk : MOK σ p to) (v : wq s p 1 = to) (o : ∀ a, a ≠ (24 + 8 * p + 1).toNat → ra_g s 180 a = ra_g σ 180 a) : WF s := by
  obtain ⟨p0, p1, p2⟩ := hp
  have hq := WF_p hw p0 p1 p2
  obtain ⟨k1, k2, k3, k4, -⟩ := hk
  have e0 : wq s p 0 = wq σ p 0 := o _ (by omega)
  have e2 : wq s p 2 = wq σ p 2 := o _ (by omega)
  have e3 : wq s p 3 = wq σ p 3 := o _ (by omega)
  refine WF_chg (p := p) hw ⟨p0, p1⟩ (fun a ha hn => o a (by omega)) (by omega) (Or.inr ⟨by omega, by omega, by omega, by rw [e2, v]; exact k3, by rw [e2, v]; exact k4, fun q => q.1 k1⟩)
theorem br_e (hp : 0 ≤ p ∧ p < 8) {s1 s2 s3 : ra_V} (o1 : ∀ a, a ≠ (24 + 8 * p + 1).toNat → ra_g s1 180 a = ra_g σ 180 a) (k2 : s2 180 = s1 180) (v3 : wq s3 p 1 = wq σ p 1) (o3 : ∀ a, a ≠ (24 + 8 * p + 1).toNat → ra_g s3 180 a = ra_g s2 180 a) : s3 180 = σ 180 :=
  ra_ext (fun a => by
    by_cases e : a = (24 + 8 * p + 1).toNat
    · rw [e]; exact v3
    · rw [o3 a e, ra_gk k2, o1 a e])
/-- digits -/
theorem wn_t {x : Int} (h : 0 ≤ x) (hv : v = 1 ∨ v = 10 ∨ v = 100) (hx : x ≤ 999) (h9 : 9 < x.tdiv v) : v = 1 ∨ v = 10 := by
  rcases hv with rfl | rfl | rfl
  · exact Or.inl rfl
  · exact Or.inr rfl
  · rw [Int.tdiv_eq_ediv_of_nonneg h] at h9
    omega
theorem wn_d (hv : v = 0 ∨ v = 1 ∨ v = 10 ∨ v = 100) : (v = 1 → v.tdiv 10 = 0) ∧ (v = 10 → v.tdiv 10 = 1) ∧ (v = 100 → v.tdiv 10 = 10) := by
  refine ⟨?_, ?_, ?_⟩ <;> rintro rfl <;> rfl
theorem pw_0 (h : ra_g s 179 5 = 0) : PW s := ⟨⟨by omega, by omega⟩, fun i hi => by exfalso; omega⟩
theorem kp_w {s0 s1 s2 s3 : ra_V} (hw : WF σ) (k0 : s0 180 = σ 180) (c1 : CPO s0 s1 180 181 0 0 688) (k2 : s2 181 = s1 181) (c2 : CPO s2 s3 181 180 0 0 688) : WF s3 :=
  WF_rel (fun a ha => by
    have hl : a < 88 := by unfold REL at ha; omega
    rw [c2 a, if_pos (by omega), show ((a : Int) - 0 + 0).toNat = a by omega, ra_gk k2, c1 a, if_pos (by omega), show ((a : Int) - 0 + 0).toNat = a by omega, ra_gk k0]) hw
theorem sta_k {s : ra_V} (h : s 180 = σ 180) (q : 0 ≤ z ∧ z < 8 ∧ wq s z 0 = 1) : 0 ≤ z ∧ z < 8 ∧ wq σ z 0 = 1 := ⟨q.1, q.2.1, (wq_k h).symm.trans q.2.2⟩
theorem lnp_ {s : ra_V} {v1 : Int} (hln : ∀ k : Nat, (k : Int) < v1 → 0 ≤ ra_g s 189 k ∧ ra_g s 189 k < 8 ∧ wq σ (ra_g s 189 k) 0 = 1) (hex : ∀ p, 0 ≤ p → p < 8 → wq s p 0 = wq σ p 0) (v3 : Int) (h : (v3.toNat : Int) < v1) : 0 ≤ ra_g s 189 v3.toNat ∧ ra_g s 189 v3.toNat < 8 ∧ wq s (ra_g s 189 v3.toNat) 0 = 1 := by
  obtain ⟨a, b, c⟩ := hln v3.toNat h
  exact ⟨a, b, (hex _ a b).trans c⟩
theorem ln_k {s t : ra_V} {v1 : Int} (h : t 189 = s 189) (hln : ∀ k : Nat, (k : Int) < v1 → 0 ≤ ra_g s 189 k ∧ ra_g s 189 k < 8 ∧ wq σ (ra_g s 189 k) 0 = 1) : ∀ k : Nat, (k : Int) < v1 → 0 ≤ ra_g t 189 k ∧ ra_g t 189 k < 8 ∧ wq σ (ra_g t 189 k) 0 = 1 := fun k hk => by
  rw [ra_gk h]
  exact hln k hk
theorem mok_of (h : z = -1 ∨ (0 ≤ z ∧ z ≤ 600 ∧ MOK σ p z)) (hn : z ≠ -1) : MOK σ p z := (h.resolve_left hn).2.2
theorem nb_k0 {s : ra_V} (h : s 180 = σ 180) (q : NB s c 8 z) : NB σ c 8 z := by
  unfold NB at *
  simp only [wq_k h] at q
  exact q
end
end RB
end
section
/-! the reference: what its methods do (printed by wip/gen/ref.py) -/
section RB
theorem sp_262 {n : Nat} {f : Nat → Int32} {d : Nat}  {σ : ra_V} (hw : WF σ) (hpw : PW σ) (hn0 : 0 ≤ ra_g σ 179 12 ∧ ra_g σ 179 12 ≤ 500) : ra_C (g_Gs n f) g_sh 0 (d + 9) 262 [.index (179)] σ (fun r s => rI r ∧ Fr (179) (189) σ s ∧ s (183) = σ (183) ∧ (∀ a, a ≠ 5 → a ≠ 6 → a ≠ 7 → a ≠ 12 → a ≠ 13 → a ≠ 14 → a ≠ 15 → a ≠ 16 → a ≠ 17 → a ≠ 18 → a ≠ 19 → a ≠ 20 → a ≠ 21 → ra_g s 179 a = ra_g σ 179 a) ∧ ra_g s 179 12 = 0 ∧ (ra_g s 179 6 ≠ 0 → ra_g σ 179 6 ≠ 0) ∧ WF s ∧ PW s) := by
  refine ra_enter (nn := 1) mt_262 rfl (Nat.le_of_ble_eq_true rfl) rfl (fun h => absurd h (by decide +kernel)) ?_
  refine ra_load rfl rfl rfl rfl ?_
  refine ra_iconst rfl ?_
  refine ra_putI rfl lk_8_51 (Nat.zero_le _) sh_179 rfl rfl ?_
  refine ra_newU (by first | omega | (unfold ra_in at *; omega)) (fun s1 hs1 hp2 hp2o => ?_)
  have hp2_12 := hp2o 12 (by decide)
  have hp2_17 := hp2o 17 (by decide)
  have hF3 := Fr_tr (lo := 179) (hi := 189) Fr_rf hs1 (by omega)
  have hk4 : s1 (183) = σ (183) := (hs1 (183) (by omega))
  have hk5 : s1 (184) = σ (184) := (hs1 (184) (by omega))
  refine ra_load rfl rfl rfl rfl ?_
  refine ra_getR rfl lk_8_7 (Nat.zero_le _) sh_179 rfl ?_
  refine ra_iconst rfl ?_
  refine ra_load rfl rfl rfl rfl ?_
  refine ra_getR rfl lk_8_13 (Nat.zero_le _) sh_179 rfl ?_
  refine ra_iconst rfl ?_
  refine ra_sipush rfl (by decide) ?_
  refine ra_cV (sp_195 sh_180 (by decide) (by first | omega | (unfold ra_in at *; omega)) sh_181 (by decide) (by first | omega | (unfold ra_in at *; omega)) (by first | omega | (unfold ra_in at *; omega)) (by first | assumption | rfl | omega) (by first | assumption | rfl | omega)) rfl (ct_195 rfl lk_8_57 (Or.inl rfl) (Nat.le_of_ble_eq_true rfl)) (fun s6 hs6 => ?_)
  obtain ⟨hf7, he8⟩ := hs6
  have hF9 := Fr_tr (lo := 179) (hi := 189) hF3 hf7 (by omega)
  have hk10 : s6 (183) = σ (183) := (hf7 (183) (by omega)).trans hk4
  have hk11 : s6 (184) = σ (184) := (hf7 (184) (by omega)).trans hk5
  have hk12 : s6 (179) = s1 (179) := (hf7 (179) (by omega))
  refine ra_load rfl rfl rfl rfl ?_
  refine ra_bipush rfl (by decide) ?_
  refine ra_cV (sp_196 (by first | omega | (unfold ra_in at *; omega)) (by first | assumption | rfl | omega)) rfl (ct_196 rfl lk_8_47 (Or.inl rfl) sh_179 (Nat.le_of_ble_eq_true rfl)) (fun s13 hs13 => ?_)
  obtain ⟨hf14, he15, he16⟩ := hs13
  have hF17 := Fr_tr (lo := 179) (hi := 189) hF9 hf14 (by omega)
  have hk18 : s13 (183) = σ (183) := (hf14 (183) (by omega)).trans hk10
  have hk19 : s13 (184) = σ (184) := (hf14 (184) (by omega)).trans hk11
  have hk20 : s13 (179) = s1 (179) := (hf14 (179) (by omega)).trans hk12
  have hl0 := LD_0 he15 he16
  have hl0b := hl0.2
  refine ra_load rfl rfl rfl rfl ?_
  refine ra_iconst rfl ?_
  refine ra_putI rfl lk_8_215 (Nat.zero_le _) sh_179 rfl rfl ?_
  refine ra_newU (by first | omega | (unfold ra_in at *; omega)) (fun s21 hs21 hp22 hp22o => ?_)
  have hp22_12 := hp22o 12 (by decide)
  rw [ra_gk hk20] at hp22_12
  have hp22_17 := hp22o 17 (by decide)
  rw [ra_gk hk20] at hp22_17
  have hF23 := Fr_tr (lo := 179) (hi := 189) hF17 hs21 (by omega)
  have hk24 : s21 (183) = σ (183) := (hs21 (183) (by omega)).trans hk18
  have hk25 : s21 (184) = σ (184) := (hs21 (184) (by omega)).trans hk19
  refine ra_load rfl rfl rfl rfl ?_
  refine ra_iconst rfl ?_
  refine ra_putI rfl lk_8_218 (Nat.zero_le _) sh_179 rfl rfl ?_
  refine ra_newU (by first | omega | (unfold ra_in at *; omega)) (fun s26 hs26 hp27 hp27o => ?_)
  have hp27_12 := hp27o 12 (by decide)
  have hp27_17 := hp27o 17 (by decide)
  have hF28 := Fr_tr (lo := 179) (hi := 189) hF23 hs26 (by omega)
  have hk29 : s26 (183) = σ (183) := (hs26 (183) (by omega)).trans hk24
  have hk30 : s26 (184) = σ (184) := (hs26 (184) (by omega)).trans hk25
  refine ra_load rfl rfl rfl rfl ?_
  refine ra_iconst rfl ?_
  refine ra_putI rfl lk_8_192 (Nat.zero_le _) sh_179 rfl rfl ?_
  refine ra_newU (by first | omega | (unfold ra_in at *; omega)) (fun s31 hs31 hp32 hp32o => ?_)
  have hp32_12 := hp32o 12 (by decide)
  have hF33 := Fr_tr (lo := 179) (hi := 189) hF28 hs31 (by omega)
  have hk34 : s31 (183) = σ (183) := (hs31 (183) (by omega)).trans hk29
  have hk35 : s31 (184) = σ (184) := (hs31 (184) (by omega)).trans hk30
  refine ra_load rfl rfl rfl rfl ?_
  refine ra_iconst rfl ?_
  refine ra_putI rfl lk_8_243 (Nat.zero_le _) sh_179 rfl rfl ?_
  refine ra_newU (by first | omega | (unfold ra_in at *; omega)) (fun s36 hs36 hp37 hp37o => ?_)
  have hp37_12 := hp37o 12 (by decide)
  have hp37_17 := hp37o 17 (by decide)
  have hF38 := Fr_tr (lo := 179) (hi := 189) hF33 hs36 (by omega)
  have hk39 : s36 (183) = σ (183) := (hs36 (183) (by omega)).trans hk34
  have hk40 : s36 (184) = σ (184) := (hs36 (184) (by omega)).trans hk35
  have q12 : ra_g s36 179 12 = ra_g σ 179 12 := ((hp37o 12 (by decide)).trans ((hp32o 12 (by decide)).trans ((hp27o 12 (by decide)).trans ((hp22o 12 (by decide)).trans ((ra_gk (hf14 179 (by omega))).trans ((ra_gk (hf7 179 (by omega))).trans (hp2o 12 (by decide))))))))
  have q17 : ra_g s36 179 17 = 0 := by omega
  refine ra_load rfl rfl rfl rfl ?_
  refine ra_cV (sp_250 (by omega)) rfl (ct_250 rfl lk_8_240 (Or.inl rfl) sh_179 (Nat.le_of_ble_eq_true rfl)) (fun s41 hs41 => ?_)
  obtain ⟨hf42, he43, he44, he45⟩ := hs41
  have hF46 := Fr_tr (lo := 179) (hi := 189) hF38 hf42 (by omega)
  have hk47 : s41 (183) = σ (183) := (hf42 (183) (by omega)).trans hk39
  have hk48 : s41 (184) = σ (184) := (hf42 (184) (by omega)).trans hk40
  refine ra_load rfl rfl rfl rfl ?_
  refine ra_cB (sp_261 he44 (LD_k ((hf42 180 (by omega)).trans ((hs36 180 (by omega)).trans ((hs31 180 (by omega)).trans ((hs26 180 (by omega)).trans (hs21 180 (by omega)))))) hl0.1) ((ra_gk ((hf42 180 (by omega)).trans ((hs36 180 (by omega)).trans ((hs31 180 (by omega)).trans ((hs26 180 (by omega)).trans (hs21 180 (by omega))))))).trans hl0b)) rfl (ct_261 rfl lk_8_288 (Or.inl rfl) sh_179 (Nat.le_of_ble_eq_true rfl)) (fun z50 s49  hz50 hs49 => ?_)
  obtain ⟨hf51, hc52, hc53, hc54, hc55, he56, he57, he58, he59⟩ := hs49
  have hF60 := Fr_tr (lo := 179) (hi := 189) hF46 hf51 (by omega)
  have hk61 : s49 (183) = σ (183) := hc54.trans hk47
  have hk62 : s49 (184) = σ (184) := hc55.trans hk48
  refine ra_store (L' := [_, _]) rfl rfl rfl (Nat.le_of_ble_eq_true rfl) rfl ?_
  refine ra_load rfl rfl rfl rfl ?_
  refine ra_iconst rfl ?_
  refine ra_putI rfl lk_8_186 (Nat.zero_le _) sh_179 rfl rfl ?_
  refine ra_newU (by first | omega | (unfold ra_in at *; omega)) (fun s63 hs63 hp64 hp64o => ?_)
  have hp64_17 := hp64o 17 (by decide)
  have hF65 := Fr_tr (lo := 179) (hi := 189) hF60 hs63 (by omega)
  have hk66 : s63 (183) = σ (183) := (hs63 (183) (by omega)).trans hk61
  have hk67 : s63 (184) = σ (184) := (hs63 (184) (by omega)).trans hk62
  refine ra_load rfl rfl rfl rfl ?_
  refine ra_load rfl rfl rfl rfl ?_
  refine ra_getI rfl lk_8_215 (Nat.zero_le _) sh_179 rfl ?_
  have hr68 : ra_in (ra_g s63 (179) 15) := (ra_in_g _ _ _)
  refine ra_putI rfl lk_8_291 (Nat.zero_le _) sh_179 rfl rfl ?_
  refine ra_newU hr68 (fun s69 hs69 hp70 hp70o => ?_)
  have hp70_12 := hp70o 12 (by decide)
  have hp70_17 := hp70o 17 (by decide)
  have hF71 := Fr_tr (lo := 179) (hi := 189) hF65 hs69 (by omega)
  have hk72 : s69 (183) = σ (183) := (hs69 (183) (by omega)).trans hk66
  have hk73 : s69 (184) = σ (184) := (hs69 (184) (by omega)).trans hk67
  refine ra_load rfl rfl rfl rfl ?_
  refine ra_load rfl rfl rfl rfl ?_
  refine ra_getI rfl lk_8_218 (Nat.zero_le _) sh_179 rfl ?_
  have hr74 : ra_in (ra_g s69 (179) 16) := (ra_in_g _ _ _)
  refine ra_putI rfl lk_8_34 (Nat.zero_le _) sh_179 rfl rfl ?_
  refine ra_newU hr74 (fun s75 hs75 hp76 hp76o => ?_)
  have hp76_12 := hp76o 12 (by decide)
  have hp76_17 := hp76o 17 (by decide)
  have hF77 := Fr_tr (lo := 179) (hi := 189) hF71 hs75 (by omega)
  have hk78 : s75 (183) = σ (183) := (hs75 (183) (by omega)).trans hk72
  have hk79 : s75 (184) = σ (184) := (hs75 (184) (by omega)).trans hk73
  refine ra_load rfl rfl rfl rfl ?_
  refine ra_ifne rfl rfl (ra_in01 hz50) (fun h80 => ?_) (fun h80 => ?_)
  · refine ra_load rfl rfl rfl rfl ?_
    refine ra_iconst rfl ?_
    refine ra_putI rfl lk_8_54 (Nat.zero_le _) sh_179 rfl rfl ?_
    refine ra_newU (by first | omega | (unfold ra_in at *; omega)) (fun s81 hs81 hp82 hp82o => ?_)
    have hp82_12 := hp82o 12 (by decide)
    have hp82_17 := hp82o 17 (by decide)
    have hF83 := Fr_tr (lo := 179) (hi := 189) hF77 hs81 (by omega)
    have hk84 : s81 (183) = σ (183) := (hs81 (183) (by omega)).trans hk78
    have hk85 : s81 (184) = σ (184) := (hs81 (184) (by omega)).trans hk79
    refine ra_load rfl rfl rfl rfl ?_
    refine ra_iconst rfl ?_
    refine ra_putB rfl lk_8_294 (Nat.zero_le _) sh_179 rfl rfl (Or.inl rfl) ?_
    refine ra_newU (ra_in01 (Or.inl rfl)) (fun s86 hs86 hp87 hp87o => ?_)
    have hp87_12 := hp87o 12 (by decide)
    have hp87_17 := hp87o 17 (by decide)
    have hF88 := Fr_tr (lo := 179) (hi := 189) hF83 hs86 (by omega)
    have hk89 : s86 (183) = σ (183) := (hs86 (183) (by omega)).trans hk84
    have hk90 : s86 (184) = σ (184) := (hs86 (184) (by omega)).trans hk85
    refine ra_load rfl rfl rfl rfl ?_
    refine ra_cIPp (sp_203 (LD_k ((hs86 180 (by omega)).trans ((hs81 180 (by omega)).trans ((hs75 180 (by omega)).trans ((hs69 180 (by omega)).trans (hs63 180 (by omega)))))) he57).1) rfl (ct_203 rfl lk_8_298 (Or.inl rfl) sh_179 (Nat.le_of_ble_eq_true rfl)) (fun z92 hz92 hz92p => ?_)
    exact ra_ireturn rfl rfl ⟨⟨_, hz92, rfl⟩, ⟨hF88, hk89, (fun a h5 h6 h7 h12 h13 h14 h15 h16 h17 h18 h19 h20 h21 => ((hp87o a (by assumption)).trans ((hp82o a (by assumption)).trans ((hp76o a (by assumption)).trans ((hp70o a (by assumption)).trans ((hp64o a (by assumption)).trans ((he56 a h15 h16 h17 h18 h19 h20 h21).trans ((he43 a h17 h18 h19 h20).trans ((hp37o a (by assumption)).trans ((hp32o a (by assumption)).trans ((hp27o a (by assumption)).trans ((hp22o a (by assumption)).trans ((ra_gk (hf14 179 (by omega))).trans ((ra_gk (hf7 179 (by omega))).trans (hp2o a (by assumption)))))))))))))))), (((hp87o 12 (by decide)).trans ((hp82o 12 (by decide)).trans ((hp76o 12 (by decide)).trans (hp70o 12 (by decide))))).trans hp64), (fun q => absurd hp87 q), (LD_k ((hs86 180 (by omega)).trans ((hs81 180 (by omega)).trans ((hs75 180 (by omega)).trans ((hs69 180 (by omega)).trans (hs63 180 (by omega)))))) he57).1, (pw_0 ((hp87o 5 (by decide)).trans hp82))⟩⟩
  · refine ra_load rfl rfl rfl rfl ?_
    refine ra_getR rfl lk_8_13 (Nat.zero_le _) sh_179 rfl ?_
    refine ra_iconst rfl ?_
    refine ra_load rfl rfl rfl rfl ?_
    refine ra_getR rfl lk_8_7 (Nat.zero_le _) sh_179 rfl ?_
    refine ra_iconst rfl ?_
    refine ra_sipush rfl (by decide) ?_
    refine ra_cV (sp_195 sh_181 (by decide) (by first | omega | (unfold ra_in at *; omega)) sh_180 (by decide) (by first | omega | (unfold ra_in at *; omega)) (by first | omega | (unfold ra_in at *; omega)) (by first | assumption | rfl | omega) (by first | assumption | rfl | omega)) rfl (ct_195 rfl lk_8_57 (Or.inl rfl) (Nat.le_of_ble_eq_true rfl)) (fun s93 hs93 => ?_)
    obtain ⟨hf94, he95⟩ := hs93
    have hF96 := Fr_tr (lo := 179) (hi := 189) hF77 hf94 (by omega)
    have hk97 : s93 (183) = σ (183) := (hf94 (183) (by omega)).trans hk78
    have hk98 : s93 (184) = σ (184) := (hf94 (184) (by omega)).trans hk79
    have hk99 : s93 (179) = s75 (179) := (hf94 (179) (by omega))
    refine ra_iconst rfl ?_
    exact ra_ireturn rfl rfl ⟨⟨_, (by first | omega | (unfold ra_in at *; omega)), rfl⟩, ⟨hF96, hk97, (fun a h5 h6 h7 h12 h13 h14 h15 h16 h17 h18 h19 h20 h21 => ((ra_gk (hf94 179 (by omega))).trans ((hp76o a (by assumption)).trans ((hp70o a (by assumption)).trans ((hp64o a (by assumption)).trans ((he56 a h15 h16 h17 h18 h19 h20 h21).trans ((he43 a h17 h18 h19 h20).trans ((hp37o a (by assumption)).trans ((hp32o a (by assumption)).trans ((hp27o a (by assumption)).trans ((hp22o a (by assumption)).trans ((ra_gk (hf14 179 (by omega))).trans ((ra_gk (hf7 179 (by omega))).trans (hp2o a (by assumption))))))))))))))), (((ra_gk (hf94 179 (by omega))).trans ((hp76o 12 (by decide)).trans (hp70o 12 (by decide)))).trans hp64), (fun q => by have e := ((ra_gk (hf94 179 (by omega))).trans ((hp76o 6 (by decide)).trans ((hp70o 6 (by decide)).trans ((hp64o 6 (by decide)).trans ((he56 6 (by decide) (by decide) (by decide) (by decide) (by decide) (by decide) (by decide)).trans ((he43 6 (by decide) (by decide) (by decide) (by decide)).trans ((hp37o 6 (by decide)).trans ((hp32o 6 (by decide)).trans ((hp27o 6 (by decide)).trans ((hp22o 6 (by decide)).trans ((ra_gk (hf14 179 (by omega))).trans ((ra_gk (hf7 179 (by omega))).trans (hp2o 6 (by decide)))))))))))))); omega), (kp_w hw (hs1 180 (by omega)) he8 ((hs75 181 (by omega)).trans ((hs69 181 (by omega)).trans ((hs63 181 (by omega)).trans (hc52.trans ((hf42 181 (by omega)).trans ((hs36 181 (by omega)).trans ((hs31 181 (by omega)).trans ((hs26 181 (by omega)).trans ((hs21 181 (by omega)).trans (hf14 181 (by omega))))))))))) he95), (PW_k hpw ((ra_gk (hf94 179 (by omega))).trans ((hp76o 5 (by decide)).trans ((hp70o 5 (by decide)).trans ((hp64o 5 (by decide)).trans ((he56 5 (by decide) (by decide) (by decide) (by decide) (by decide) (by decide) (by decide)).trans ((he43 5 (by decide) (by decide) (by decide) (by decide)).trans ((hp37o 5 (by decide)).trans ((hp32o 5 (by decide)).trans ((hp27o 5 (by decide)).trans ((hp22o 5 (by decide)).trans ((ra_gk (hf14 179 (by omega))).trans ((ra_gk (hf7 179 (by omega))).trans (hp2o 5 (by decide)))))))))))))) hk98)⟩⟩
end RB
end
section
/-! the reference: what its methods do (printed by wip/gen/ref.py) -/
section RB
theorem lq_203_4 {n : Nat} {f : Nat → Int32} {d : Nat}  {σ : ra_V} (hw : WF σ) : ∀ (nn : Nat) (v1 : Int) (v2 : Int) (hv1_0 : v1 = pcs σ v2.toNat) (hv1_1 : 0 ≤ v1 ∧ v1 ≤ v2) (hv2_0 : 0 ≤ v2) (hv2_1 : v2 ≤ 8) (hm : ((8 - v2 : Int)).toNat < nn), ra_P (g_Gs n f) g_sh 0 (d + 1) g_m_X8_partsMany 4 [some (.index (179)), some (ra_I v1), some (ra_I v2)] [] σ (fun r s => (∃ z, ra_in z ∧ (z = ct σ (-1)) ∧ r = .inl (some (ra_I z))) ∧ s = σ) := by
  intro nn
  induction nn with
  | zero => intro v1 v2 hv1_0 hv1_1 hv2_0 hv2_1 hm; exact absurd hm (Nat.not_lt_zero _)
  | succ nn ih =>
    intro v1 v2 hv1_0 hv1_1 hv2_0 hv2_1 hm
    have hx2 : v2 < 8 → (wq σ v2 0 = 0 ∨ wq σ v2 0 = 1) := fun q => WF_ex hw hv2_0 q
    have hp2 := pcs_s (σ := σ) hv2_0
    refine ra_load rfl rfl rfl rfl ?_
    refine ra_bipush rfl (by decide) ?_
    refine ra_icge rfl rfl (by first | omega | (unfold ra_in at *; omega)) (by first | omega | (unfold ra_in at *; omega)) (fun h1 => ?_) (fun h1 => ?_)
    · refine ra_load rfl rfl rfl rfl ?_
      exact ra_ireturn rfl rfl ⟨⟨_, (by first | omega | (unfold ra_in at *; omega)), (by obtain rfl : v2 = 8 := (by omega); rw [hv1_0]; exact pcs_8 hw), rfl⟩, rfl⟩
    · refine ra_load rfl rfl rfl rfl ?_
      refine ra_load rfl rfl rfl rfl ?_
      refine ra_load rfl rfl rfl rfl ?_
      refine ra_iconst rfl ?_
      refine ra_cTp (sp_200 (by first | omega | (unfold ra_in at *; omega)) (by first | omega | (unfold ra_in at *; omega)) (by first | assumption | rfl | omega)) rfl (ct_200 rfl lk_8_67 (Or.inl rfl) sh_179 (Nat.le_of_ble_eq_true rfl)) ?_
      have hr3 : ra_in (wq σ v2 (0)) := (ra_in_wq _ _ _)
      refine ra_iadd rfl ?_
      refine ra_store (L' := [_, _, _]) rfl rfl rfl (Nat.le_of_ble_eq_true rfl) rfl ?_
      refine ra_iinc (L' := [_, _, _]) rfl rfl (Nat.le_of_ble_eq_true rfl) rfl ?_
      refine ra_goto rfl rfl ?_
      exact ra_weak (by repeat' constructor) (ih (v1 + (wq σ v2 (0))) (v2 + 1) (by rw [hp2]; omega) (by first | omega | (unfold ra_in at *; omega)) (by first | omega | (unfold ra_in at *; omega)) (by first | omega | (unfold ra_in at *; omega)) (by first | omega | (unfold ra_in at *; omega)))
theorem sq_203 {n : Nat} {f : Nat → Int32} {d : Nat}  {σ : ra_V} (hw : WF σ) : ra_C (g_Gs n f) g_sh 0 (d + 2) 203 [.index (179)] σ (fun r s => (∃ z, ra_in z ∧ (z = ct σ (-1)) ∧ r = .inl (some (ra_I z))) ∧ s = σ) := by
  refine ra_enter (nn := 2) mt_203 rfl (Nat.le_of_ble_eq_true rfl) rfl (fun h => absurd h (by decide +kernel)) ?_
  refine ra_iconst rfl ?_
  refine ra_store (L' := [_, _, _]) rfl rfl rfl (Nat.le_of_ble_eq_true rfl) rfl ?_
  refine ra_iconst rfl ?_
  refine ra_store (L' := [_, _, _]) rfl rfl rfl (Nat.le_of_ble_eq_true rfl) rfl ?_
  exact ra_weak (by repeat' constructor) (lq_203_4 hw _ (0) (0) rfl (by first | omega | (unfold ra_in at *; omega)) (by first | omega | (unfold ra_in at *; omega)) (by first | omega | (unfold ra_in at *; omega)) (Nat.lt_succ_self _))
theorem lq_279_8 {n : Nat} {f : Nat → Int32} {d : Nat} {x0 : Int} {σ : ra_V} (hx0 : ra_in x0) (hw : WF σ) (hk : 0 ≤ x0 ∧ x0 < ct σ (-1)) : ∀ (nn : Nat) (v2 : Int) (v3 : Int) (hv2_0 : 0 ≤ v2 ∧ v2 < 8 ∧ wq σ v2 0 = 1) (hv2_1 : ct σ (wq σ v2 1) = ct σ (-1) - v3 - 1) (hv3_0 : 0 ≤ v3) (hv3_1 : v3 ≤ x0) (hm : ((x0 - v3 : Int)).toNat < nn), ra_P (g_Gs n f) g_sh 0 (d + 2) g_m_X8_standsAt 8 [some (.index (179)), some (ra_I x0), some (ra_I v2), some (ra_I v3)] [] σ (fun r s => (∃ z, ra_in z ∧ (0 ≤ z ∧ z < 8 ∧ wq σ z 0 = 1) ∧ r = .inl (some (ra_I z))) ∧ s = σ) := by
  intro nn
  induction nn with
  | zero => intro v2 v3 hv2_0 hv2_1 hv3_0 hv3_1 hm; exact absurd hm (Nat.not_lt_zero _)
  | succ nn ih =>
    intro v2 v3 hv2_0 hv2_1 hv3_0 hv3_1 hm
    refine ra_load rfl rfl rfl rfl ?_
    refine ra_load rfl rfl rfl rfl ?_
    refine ra_icge rfl rfl (by first | omega | (unfold ra_in at *; omega)) hx0 (fun h3 => ?_) (fun h3 => ?_)
    · refine ra_load rfl rfl rfl rfl ?_
      exact ra_ireturn rfl rfl ⟨⟨_, (by first | omega | (unfold ra_in at *; omega)), (by omega), rfl⟩, rfl⟩
    · refine ra_load rfl rfl rfl rfl ?_
      refine ra_iconst rfl ?_
      refine ra_iceq rfl rfl (by first | omega | (unfold ra_in at *; omega)) (by first | omega | (unfold ra_in at *; omega)) (fun h4 => ?_) (fun h4 => ?_)
      · refine ra_load rfl rfl rfl rfl ?_
        exact ra_ireturn rfl rfl ⟨⟨_, (by first | omega | (unfold ra_in at *; omega)), (by omega), rfl⟩, rfl⟩
      · refine ra_load rfl rfl rfl rfl ?_
        refine ra_load rfl rfl rfl rfl ?_
        refine ra_load rfl rfl rfl rfl ?_
        refine ra_iconst rfl ?_
        refine ra_cTp (sp_200 (by first | omega | (unfold ra_in at *; omega)) (by first | omega | (unfold ra_in at *; omega)) (by first | assumption | rfl | omega)) rfl (ct_200 rfl lk_8_67 (Or.inl rfl) sh_179 (Nat.le_of_ble_eq_true rfl)) ?_
        have hr6 : ra_in (wq σ v2 (1)) := (ra_in_wq _ _ _)
        refine ra_cIPp (sp_278 hr6) rfl (ct_278 rfl lk_8_333 (Or.inl rfl) sh_179 (Nat.le_of_ble_eq_true rfl)) (fun z8 hz8 hz8p => ?_)
        refine ra_store (L' := [_, _, _, _]) rfl rfl rfl (Nat.le_of_ble_eq_true rfl) rfl ?_
        refine ra_iinc (L' := [_, _, _, _]) rfl rfl (Nat.le_of_ble_eq_true rfl) rfl ?_
        refine ra_goto rfl rfl ?_
        exact ra_weak (by repeat' constructor) (ih z8 (v3 + 1) (nb_st hw hz8p (by omega)).1 (by have := (nb_st hw hz8p (by omega)).2; omega) (by first | omega | (unfold ra_in at *; omega)) (by first | omega | (unfold ra_in at *; omega)) (by first | omega | (unfold ra_in at *; omega)))
theorem sq_279 {n : Nat} {f : Nat → Int32} {d : Nat} {x0 : Int} {σ : ra_V} (hx0 : ra_in x0) (hw : WF σ) (hk : 0 ≤ x0 ∧ x0 < ct σ (-1)) : ra_C (g_Gs n f) g_sh 0 (d + 3) 279 [.index (179), ra_I x0] σ (fun r s => (∃ z, ra_in z ∧ (0 ≤ z ∧ z < 8 ∧ wq σ z 0 = 1) ∧ r = .inl (some (ra_I z))) ∧ s = σ) := by
  refine ra_enter (nn := 2) mt_279 rfl (Nat.le_of_ble_eq_true rfl) rfl (fun h => absurd h (by decide +kernel)) ?_
  refine ra_load rfl rfl rfl rfl ?_
  refine ra_iconst rfl ?_
  refine ra_cIPp (sp_278 (by first | omega | (unfold ra_in at *; omega))) rfl (ct_278 rfl lk_8_333 (Or.inl rfl) sh_179 (Nat.le_of_ble_eq_true rfl)) (fun z2 hz2 hz2p => ?_)
  refine ra_store (L' := [_, _, _, _]) rfl rfl rfl (Nat.le_of_ble_eq_true rfl) rfl ?_
  refine ra_iconst rfl ?_
  refine ra_store (L' := [_, _, _, _]) rfl rfl rfl (Nat.le_of_ble_eq_true rfl) rfl ?_
  exact ra_weak (by repeat' constructor) (lq_279_8 hx0 hw hk _ z2 (0) (nb_st hw hz2p (by omega)).1 (by have := (nb_st hw hz2p (by omega)).2; omega) (by first | omega | (unfold ra_in at *; omega)) (by first | omega | (unfold ra_in at *; omega)) (Nat.lt_succ_self _))
end RB
end
