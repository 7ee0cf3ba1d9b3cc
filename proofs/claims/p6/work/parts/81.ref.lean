/-! the reference: what its methods do (printed by wip/gen/ref.py) -/
section RB
theorem lp_238_2 {n : Nat} {f : Nat → Int32} {d : Nat} {x0 : Int} {σ : ra_V} (hx0 : ra_in x0) (hmf : MF σ) (hi : 0 ≤ x0 ∧ x0 ≤ rbn σ) : ∀ (nn : Nat) (v2 : Int) (s : ra_V) (hv2_0 : 0 ≤ v2) (hv2_1 : v2 ≤ x0) (hF : Fr (180) (181) σ s) (hsc : SC σ s) (hm : ((x0 - v2 : Int)).toNat < nn), ra_P (g_Gs n f) g_sh 0 (d + 7) g_m_X8_copiesBlocks 2 [some (.index (179)), some (ra_I x0), some (ra_I v2)] [] s (fun r s => rV r ∧ Fr (180) (181) σ s ∧ SC σ s) := by
  intro nn
  induction nn with
  | zero => intro v2 s hv2_0 hv2_1 hF hsc hm; exact absurd hm (Nat.not_lt_zero _)
  | succ nn ih =>
    intro v2 s hv2_0 hv2_1 hF hsc hm
    have hm0 := hmf
    unfold MF at hm0
    refine ra_load rfl rfl rfl rfl ?_
    refine ra_load rfl rfl rfl rfl ?_
    refine ra_icge rfl rfl (by first | omega | (unfold ra_in at *; omega)) hx0 (fun h1 => ?_) (fun h1 => ?_)
    · exact ra_return rfl rfl ⟨rfl, ⟨hF, hsc⟩⟩
    · refine ra_load rfl rfl rfl rfl ?_
      refine ra_getR rfl lk_8_7 (Nat.zero_le _) sh_179 rfl ?_
      refine ra_bipush rfl (by decide) ?_
      refine ra_load rfl rfl rfl rfl ?_
      refine ra_load rfl rfl rfl rfl ?_
      refine ra_cIPp (sp_237 (by first | omega | (unfold ra_in at *; omega)) (MF_sc hsc hmf) (by have e := (mv_sc hsc hmf.1.2).2.2.2.2.1; omega)) rfl (ct_237 rfl lk_8_168 (Or.inl rfl) sh_179 (Nat.le_of_ble_eq_true rfl)) (fun z3 hz3 hz3p => ?_)
      refine ra_iadd rfl ?_
      refine ra_load rfl rfl rfl rfl ?_
      refine ra_getR rfl lk_8_7 (Nat.zero_le _) sh_179 rfl ?_
      refine ra_bipush rfl (by decide) ?_
      refine ra_load rfl rfl rfl rfl ?_
      refine ra_load rfl rfl rfl rfl ?_
      refine ra_cIPp (sp_236 (by first | omega | (unfold ra_in at *; omega)) (MF_sc hsc hmf) (by have e := (mv_sc hsc hmf.1.2).2.2.2.2.1; omega)) rfl (ct_236 rfl lk_8_171 (Or.inl rfl) sh_179 (Nat.le_of_ble_eq_true rfl)) (fun z5 hz5 hz5p => ?_)
      refine ra_iadd rfl ?_
      refine ra_iaload rfl sh_180 rfl (by decide) (by first | omega | (unfold ra_in at *; omega)) (by first | omega | (unfold ra_in at *; omega)) ?_
      have hr6 : ra_in (ra_g s (180) ((88) + z5).toNat) := (ra_in_g _ _ _)
      refine ra_iastore rfl sh_180 rfl (by decide) (by first | omega | (unfold ra_in at *; omega)) (by first | omega | (unfold ra_in at *; omega)) ?_
      refine ra_newR hr6 (fun s7 hs7 hs7v hs7o => ?_)
      have hF8 := Fr_tr (lo := 180) (hi := 181) hF hs7 (by omega)
      refine ra_iinc (L' := [_, _, _]) rfl rfl (Nat.le_of_ble_eq_true rfl) rfl ?_
      refine ra_goto rfl rfl ?_
      exact ra_weak (by repeat' constructor) (ih (v2 + 1) s7 (by first | omega | (unfold ra_in at *; omega)) (by first | omega | (unfold ra_in at *; omega)) hF8 (SC_tr hsc (fun a ha => hs7o a (by omega))) (by first | omega | (unfold ra_in at *; omega)))
theorem sp_238 {n : Nat} {f : Nat → Int32} {d : Nat} {x0 : Int} {σ : ra_V} (hx0 : ra_in x0) (hmf : MF σ) (hi : 0 ≤ x0 ∧ x0 ≤ rbn σ) : ra_C (g_Gs n f) g_sh 0 (d + 8) 238 [.index (179), ra_I x0] σ (fun r s => rV r ∧ Fr (180) (181) σ s ∧ SC σ s) := by
  refine ra_enter (nn := 1) mt_238 rfl (Nat.le_of_ble_eq_true rfl) rfl (fun h => absurd h (by decide +kernel)) ?_
  have hm0 := hmf
  unfold MF at hm0
  refine ra_iconst rfl ?_
  refine ra_store (L' := [_, _, _]) rfl rfl rfl (Nat.le_of_ble_eq_true rfl) rfl ?_
  exact ra_weak (by repeat' constructor) (lp_238_2 hx0 hmf hi _ (0) σ (by first | omega | (unfold ra_in at *; omega)) (by first | omega | (unfold ra_in at *; omega)) Fr_rf SC_rf (Nat.lt_succ_self _))
theorem sp_319 {n : Nat} {f : Nat → Int32} {d : Nat}  {σ : ra_V} (hw : WF σ) (hpw : PW σ) : ra_C (g_Gs n f) g_sh 0 (d + 9) 319 [.index (179)] σ (fun r s => rI r ∧ Fr (179) (191) σ s ∧ s (183) = σ (183) ∧ s (187) = σ (187) ∧ (∀ a, a ≠ 5 → a ≠ 7 → a ≠ 10 → ra_g s 179 a = ra_g σ 179 a) ∧ WF s ∧ PW s) := by
  refine ra_enter (nn := 1) mt_319 rfl (Nat.le_of_ble_eq_true rfl) rfl (fun h => absurd h (by decide +kernel)) ?_
  have hw0 := WF_a hw
  unfold WFa at hw0
  refine ra_load rfl rfl rfl rfl ?_
  refine ra_iconst rfl ?_
  refine ra_putI rfl lk_8_51 (Nat.zero_le _) sh_179 rfl rfl ?_
  refine ra_newU (by first | omega | (unfold ra_in at *; omega)) (fun s1 hs1 hp2 hp2o => ?_)
  have hp2_99 := hp2o 99 (by decide)
  have hF3 := Fr_tr (lo := 179) (hi := 191) Fr_rf hs1 (by omega)
  have hk4 : s1 (180) = σ (180) := (hs1 (180) (by omega))
  have hk5 : s1 (183) = σ (183) := (hs1 (183) (by omega))
  have hk6 : s1 (184) = σ (184) := (hs1 (184) (by omega))
  have hk7 : s1 (187) = σ (187) := (hs1 (187) (by omega))
  have hg8 : ∀ a, a ≠ 5 → a ≠ 7 → a ≠ 10 → ra_g s1 179 a = ra_g σ 179 a := fun a h5 h7 h10 => ((fun a h7 h10 => hp2o a h7) a h7 h10).trans ((fun _ _ _ _ => rfl) a h5 h7 h10)
  have ho9 : ∀ a, a ≠ 7 → a ≠ 10 → ra_g s1 179 a = ra_g σ 179 a := fun a h7 h10 => ((fun a h7 h10 => hp2o a h7) a h7 h10).trans ((fun _ _ _ => rfl) a h7 h10)
  refine ra_load rfl rfl rfl rfl ?_
  refine ra_load rfl rfl rfl rfl ?_
  refine ra_cQPp (sp_203 ) rfl (ct_203 rfl lk_8_95 (Or.inl rfl) sh_179 (Nat.le_of_ble_eq_true rfl)) (fun z11 hz11 hz11p => ?_)
  refine ra_ifne rfl rfl (ra_in01 hz11) (fun h12 => ?_) (fun h12 => ?_)
  · refine ra_iconst rfl ?_
    refine ra_iconst rfl ?_
    refine ra_cT (sp_193 (Or.inl rfl) (by first | omega | (unfold ra_in at *; omega))) rfl (ct_193 rfl lk_8_303 (Or.inl rfl) sh_179 (Nat.le_of_ble_eq_true rfl)) (fun s13 hs13 => ?_)
    obtain ⟨hf14, he15⟩ := hs13
    have hF16 := Fr_tr (lo := 179) (hi := 191) hF3 hf14 (by omega)
    have hk17 : s13 (180) = σ (180) := (hf14 (180) (by omega)).trans hk4
    have hk18 : s13 (183) = σ (183) := (hf14 (183) (by omega)).trans hk5
    have hk19 : s13 (184) = σ (184) := (hf14 (184) (by omega)).trans hk6
    have hk20 : s13 (187) = σ (187) := (hf14 (187) (by omega)).trans hk7
    have hg21 : ∀ a, a ≠ 5 → a ≠ 7 → a ≠ 10 → ra_g s13 179 a = ra_g σ 179 a := fun a h5 h7 h10 => ((fun a h7 h10 => he15 a h7) a h7 h10).trans (hg8 a h5 h7 h10)
    have ho22 : ∀ a, a ≠ 7 → a ≠ 10 → ra_g s13 179 a = ra_g σ 179 a := fun a h7 h10 => ((fun a h7 h10 => he15 a h7) a h7 h10).trans (ho9 a h7 h10)
    refine ra_ifeq rfl rfl (by first | omega | (unfold ra_in at *; omega)) (fun h23 => ?_) (fun h23 => ?_)
    · refine ra_load rfl rfl rfl rfl ?_
      refine ra_cV (sp_196 (WF_k hk17 hw) (PW_k hpw (ho22 5 (by decide) (by decide)) hk19)) rfl (ct_196 rfl lk_8_366 (Or.inl rfl) sh_179 (Nat.le_of_ble_eq_true rfl)) (fun s24 hs24 => ?_)
      obtain ⟨hf25, hc26, hc27, hc28, hc29, he30, he31⟩ := hs24
      have hF32 := Fr_tr (lo := 179) (hi := 191) hF16 hf25 (by omega)
      have hk33 : s24 (180) = σ (180) := hc26.trans hk17
      have hk34 : s24 (183) = σ (183) := hc29.trans hk18
      have hk35 : s24 (187) = σ (187) := (hf25 (187) (by omega)).trans hk20
      have hg36 : ∀ a, a ≠ 5 → a ≠ 7 → a ≠ 10 → ra_g s24 179 a = ra_g σ 179 a := fun a h5 h7 h10 => ((fun a h5 h7 h10 => he30 a h5) a h5 h7 h10).trans (hg21 a h5 h7 h10)
      have hmv0 := hz11p.mp (by omega)
      rw [ra_gk hk4] at hmv0
      have hmv : ra_g s24 180 16 ≠ -1 := by rw [ra_gk hk33]; exact hmv0
      refine ra_load rfl rfl rfl rfl ?_
      refine ra_cTp (sp_233 (MV_f (WF_k hk33 hw) (by omega))) rfl (ct_233 rfl lk_8_162 (Or.inl rfl) sh_179 (Nat.le_of_ble_eq_true rfl)) ?_
      have hm38 := (MV_f (WF_k hk33 hw) (by omega))
      unfold MF at hm38
      have hr39 : ra_in (rbn s24) := (by first | omega | (unfold ra_in at *; omega))
      refine ra_iconst rfl ?_
      refine ra_idiv rfl hr39 (by first | omega | (unfold ra_in at *; omega)) (by omega) ?_
      refine ra_store (L' := [_, _]) rfl rfl rfl (Nat.le_of_ble_eq_true rfl) rfl ?_
      have ht := td2 (b := rbn s24) (by omega)
      refine ra_load rfl rfl rfl rfl ?_
      refine ra_load rfl rfl rfl rfl ?_
      refine ra_cV (sp_238 (ra_in_tdiv hr39 (by omega)) (MV_f (WF_k hk33 hw) (by omega)) (by first | assumption | rfl | omega)) rfl (ct_238 rfl lk_8_174 (Or.inl rfl) sh_179 (Nat.le_of_ble_eq_true rfl)) (fun s40 hs40 => ?_)
      obtain ⟨hf41, he42⟩ := hs40
      have hF43 := Fr_tr (lo := 179) (hi := 191) hF32 hf41 (by omega)
      have hk44 : s40 (183) = σ (183) := (hf41 (183) (by omega)).trans hk34
      have hk45 : s40 (187) = σ (187) := (hf41 (187) (by omega)).trans hk35
      have hg46 : ∀ a, a ≠ 5 → a ≠ 7 → a ≠ 10 → ra_g s40 179 a = ra_g σ 179 a := fun a h5 h7 h10 => (ra_gk (hf41 179 (by omega))).trans (hg36 a h5 h7 h10)
      refine ra_load rfl rfl rfl rfl ?_
      refine ra_getR rfl lk_8_7 (Nat.zero_le _) sh_179 rfl ?_
      refine ra_bipush rfl (by decide) ?_
      refine ra_dup2 rfl rfl rfl ?_
      refine ra_ialoadJ (j := 7) rfl sh_180 rfl (by decide) rfl (by decide) ?_
      have hr47 : ra_in (ra_g s40 (180) 7) := (ra_in_g _ _ _)
      refine ra_iconst rfl ?_
      refine ra_iadd rfl ?_
      refine ra_gen (fun z48 hz48 => ?_)
      refine ra_iastoreJ (j := 7) rfl sh_180 rfl (by decide) rfl (by decide) ?_
      refine ra_newR hz48 (fun s49 hs49 hs49v hs49o => ?_)
      have hF50 := Fr_tr (lo := 179) (hi := 191) hF43 hs49 (by omega)
      have hk51 : s49 (183) = σ (183) := (hs49 (183) (by omega)).trans hk44
      have hk52 : s49 (187) = σ (187) := (hs49 (187) (by omega)).trans hk45
      have hg53 : ∀ a, a ≠ 5 → a ≠ 7 → a ≠ 10 → ra_g s49 179 a = ra_g σ 179 a := fun a h5 h7 h10 => (ra_gk (hs49 179 (by omega))).trans (hg46 a h5 h7 h10)
      refine ra_load rfl rfl rfl rfl ?_
      exact ra_ireturn rfl rfl ⟨⟨_, (ra_in_tdiv hr39 (by omega)), rfl⟩, ⟨hF50, hk51, hk52, hg53, (WF_rel (fun a ha => hs49o a (by unfold REL at ha; omega)) (WF_sc he42 (WF_k hk33 hw))), (PW_k (PW_k he31 (ra_gk (hf41 179 (by omega))) (hf41 184 (by omega))) (ra_gk (hs49 179 (by omega))) (hs49 184 (by omega)))⟩⟩
    · exact absurd h23 (by decide)
  · refine ra_iconst rfl ?_
    refine ra_goto rfl rfl ?_
    refine ra_iconst rfl ?_
    refine ra_cT (sp_193 (Or.inr rfl) (by first | omega | (unfold ra_in at *; omega))) rfl (ct_193 rfl lk_8_303 (Or.inl rfl) sh_179 (Nat.le_of_ble_eq_true rfl)) (fun s54 hs54 => ?_)
    obtain ⟨hf55, he56⟩ := hs54
    have hF57 := Fr_tr (lo := 179) (hi := 191) hF3 hf55 (by omega)
    have hk58 : s54 (180) = σ (180) := (hf55 (180) (by omega)).trans hk4
    have hk59 : s54 (183) = σ (183) := (hf55 (183) (by omega)).trans hk5
    have hk60 : s54 (184) = σ (184) := (hf55 (184) (by omega)).trans hk6
    have hk61 : s54 (187) = σ (187) := (hf55 (187) (by omega)).trans hk7
    have hg62 : ∀ a, a ≠ 5 → a ≠ 7 → a ≠ 10 → ra_g s54 179 a = ra_g σ 179 a := fun a h5 h7 h10 => ((fun a h7 h10 => he56 a h7) a h7 h10).trans (hg8 a h5 h7 h10)
    have ho63 : ∀ a, a ≠ 7 → a ≠ 10 → ra_g s54 179 a = ra_g σ 179 a := fun a h7 h10 => ((fun a h7 h10 => he56 a h7) a h7 h10).trans (ho9 a h7 h10)
    refine ra_ifeq rfl rfl (by first | omega | (unfold ra_in at *; omega)) (fun h64 => ?_) (fun h64 => ?_)
    · exact absurd h64 (by decide)
    · refine ra_iconst rfl ?_
      exact ra_ireturn rfl rfl ⟨⟨_, (by first | omega | (unfold ra_in at *; omega)), rfl⟩, ⟨hF57, hk59, hk61, hg62, (WF_k hk58 hw), (PW_k hpw (ho63 5 (by decide) (by decide)) hk60)⟩⟩
theorem lp_322_54 {n : Nat} {f : Nat → Int32} {d : Nat} {x0 : Int} {σ : ra_V} (hx0 : ra_in x0) (hw : WF σ) : ∀ (nn : Nat) (v2 : Int) (v3 : Int) (v4 : Int) (s : ra_V) (hv2_0 : v2 = ra_g σ 180 16) (hv3_0 : ra_in v3) (hv4_0 : 0 ≤ v4) (hv4_1 : v4 ≤ 600) (hF : Fr (179) (187) σ s) (hk0 : s (180) = σ (180)) (hk1 : s (181) = σ (181)) (hk2 : s (182) = σ (182)) (hk3 : s (183) = σ (183)) (hk4 : s (184) = σ (184)) (hoo : ∀ a, a ≠ 7 → a ≠ 10 → ra_g s 179 a = ra_g σ 179 a) (hmv0 : ra_g σ 180 16 ≠ -1) (hm : ((600 - v4 : Int)).toNat < nn), ra_P (g_Gs n f) g_sh 0 (d + 3) g_m_X8_blocksAt 54 [some (.index (179)), some (ra_I x0), some (ra_I v2), some (ra_I v3), some (ra_I v4), none, none] [] s (fun r s => rI r ∧ Fr (179) (187) σ s ∧ s (180) = σ (180) ∧ s (181) = σ (181) ∧ s (182) = σ (182) ∧ s (183) = σ (183) ∧ s (184) = σ (184) ∧ (∀ a, a ≠ 7 → a ≠ 10 → ra_g s 179 a = ra_g σ 179 a)) := by
  intro nn
  induction nn with
  | zero => intro v2 v3 v4 s hv2_0 hv3_0 hv4_0 hv4_1 hF hk0 hk1 hk2 hk3 hk4 hoo hmv0 hm; exact absurd hm (Nat.not_lt_zero _)
  | succ nn ih =>
    intro v2 v3 v4 s hv2_0 hv3_0 hv4_0 hv4_1 hF hk0 hk1 hk2 hk3 hk4 hoo hmv0 hm
    have hw0 := WF_a hw
    unfold WFa at hw0
    have hm0 := MV_f hw hmv0
    unfold MF at hm0
    have hz2 : wq σ v2 2 = msz σ := by rw [hv2_0]; rfl
    have hmv : ra_g s 180 16 ≠ -1 := by rw [ra_gk hk0]; exact hmv0
    refine ra_load rfl rfl rfl rfl ?_
    refine ra_load rfl rfl rfl rfl ?_
    refine ra_load rfl rfl rfl rfl ?_
    refine ra_iconst rfl ?_
    refine ra_cTp (sp_199 (by first | omega | (unfold ra_in at *; omega)) (by first | omega | (unfold ra_in at *; omega)) (by first | assumption | rfl | omega)) rfl (ct_199 rfl lk_8_67 (Or.inl rfl) sh_179 (Nat.le_of_ble_eq_true rfl)) ?_
    rw [wq_k hk0]
    have hr28 : ra_in (wq σ v2 (2)) := (ra_in_wq _ _ _)
    refine ra_icge rfl rfl (by first | omega | (unfold ra_in at *; omega)) hr28 (fun h29 => ?_) (fun h29 => ?_)
    · refine ra_load rfl rfl rfl rfl ?_
      exact ra_ireturn rfl rfl ⟨⟨_, (by first | omega | (unfold ra_in at *; omega)), rfl⟩, ⟨hF, hk0, hk1, hk2, hk3, hk4, hoo⟩⟩
    · refine ra_load rfl rfl rfl rfl ?_
      refine ra_load rfl rfl rfl rfl ?_
      refine ra_getR rfl lk_8_7 (Nat.zero_le _) sh_179 rfl ?_
      refine ra_bipush rfl (by decide) ?_
      refine ra_ialoadJ (j := 19) rfl sh_180 rfl (by decide) rfl (by decide) ?_
      rw [ra_gk hk0]
      have hr30 : ra_in (ra_g σ (180) 19) := (ra_in_g _ _ _)
      refine ra_idiv rfl (by first | omega | (unfold ra_in at *; omega)) hr30 (by omega) ?_
      refine ra_store (L' := [_, _, _, _, _, _, _]) rfl rfl rfl (Nat.le_of_ble_eq_true rfl) rfl ?_
      refine ra_load rfl rfl rfl rfl ?_
      refine ra_load rfl rfl rfl rfl ?_
      refine ra_cBp (sp_230 (ra_in_tdiv (by first | omega | (unfold ra_in at *; omega)) (by omega)) (MV_f (WF_k hk0 hw) (by omega))) rfl (ct_230 rfl lk_8_180 (Or.inl rfl) sh_179 (Nat.le_of_ble_eq_true rfl)) (fun z32 hz32 => ?_)
      refine ra_ifeq rfl rfl (ra_in01 hz32) (fun h33 => ?_) (fun h33 => ?_)
      · refine ra_load rfl rfl rfl rfl ?_
        refine ra_getR rfl lk_8_7 (Nat.zero_le _) sh_179 rfl ?_
        refine ra_bipush rfl (by decide) ?_
        refine ra_ialoadJ (j := 22) rfl sh_180 rfl (by decide) rfl (by decide) ?_
        rw [ra_gk hk0]
        have hr34 : ra_in (ra_g σ (180) 22) := (ra_in_g _ _ _)
        refine ra_iconst rfl ?_
        refine ra_icne rfl rfl hr34 (by first | omega | (unfold ra_in at *; omega)) (fun h35 => ?_) (fun h35 => ?_)
        · refine ra_iconst rfl ?_
          refine ra_store (L' := [_, _, _, _, _, _, _]) rfl rfl rfl (Nat.le_of_ble_eq_true rfl) rfl ?_
          refine ra_load rfl rfl rfl rfl ?_
          refine ra_load rfl rfl rfl rfl ?_
          refine ra_load rfl rfl rfl rfl ?_
          refine ra_icne rfl rfl (by first | omega | (unfold ra_in at *; omega)) hx0 (fun h36 => ?_) (fun h36 => ?_)
          · refine ra_iconst rfl ?_
            refine ra_iadd rfl ?_
            refine ra_gen (fun z37 hz37 => ?_)
            refine ra_store (L' := [_, _, _, _, _, _, _]) rfl rfl rfl (Nat.le_of_ble_eq_true rfl) rfl ?_
            refine ra_iinc (L' := [_, _, _, _, _, _, _]) rfl rfl (Nat.le_of_ble_eq_true rfl) rfl ?_
            refine ra_goto rfl rfl ?_
            exact ra_weak (by repeat' constructor) (ih v2 z37 (v4 + 1) s (by first | omega | (unfold ra_in at *; omega)) hz37 (by first | omega | (unfold ra_in at *; omega)) (by first | omega | (unfold ra_in at *; omega)) hF hk0 hk1 hk2 hk3 hk4 hoo hmv0 (by first | omega | (unfold ra_in at *; omega)))
          · refine ra_iconst rfl ?_
            refine ra_goto rfl rfl ?_
            refine ra_iadd rfl ?_
            refine ra_gen (fun z38 hz38 => ?_)
            refine ra_store (L' := [_, _, _, _, _, _, _]) rfl rfl rfl (Nat.le_of_ble_eq_true rfl) rfl ?_
            refine ra_iinc (L' := [_, _, _, _, _, _, _]) rfl rfl (Nat.le_of_ble_eq_true rfl) rfl ?_
            refine ra_goto rfl rfl ?_
            exact ra_weak (by repeat' constructor) (ih v2 z38 (v4 + 1) s (by first | omega | (unfold ra_in at *; omega)) hz38 (by first | omega | (unfold ra_in at *; omega)) (by first | omega | (unfold ra_in at *; omega)) hF hk0 hk1 hk2 hk3 hk4 hoo hmv0 (by first | omega | (unfold ra_in at *; omega)))
        · refine ra_load rfl rfl rfl rfl ?_
          refine ra_load rfl rfl rfl rfl ?_
          refine ra_cTp (sp_231 (MV_f (WF_k hk0 hw) (by omega))) rfl (ct_231 rfl lk_8_153 (Or.inl rfl) sh_179 (Nat.le_of_ble_eq_true rfl)) ?_
          have hm40 := (MV_f (WF_k hk0 hw) (by omega))
          unfold MF at hm40
          have hr41 : ra_in (rnx s) := (by first | omega | (unfold ra_in at *; omega))
          refine ra_icne rfl rfl (ra_in_tdiv (by first | omega | (unfold ra_in at *; omega)) (by omega)) hr41 (fun h42 => ?_) (fun h42 => ?_)
          · refine ra_iconst rfl ?_
            refine ra_store (L' := [_, _, _, _, _, _, _]) rfl rfl rfl (Nat.le_of_ble_eq_true rfl) rfl ?_
            refine ra_load rfl rfl rfl rfl ?_
            refine ra_load rfl rfl rfl rfl ?_
            refine ra_load rfl rfl rfl rfl ?_
            refine ra_icne rfl rfl (by first | omega | (unfold ra_in at *; omega)) hx0 (fun h43 => ?_) (fun h43 => ?_)
            · refine ra_iconst rfl ?_
              refine ra_iadd rfl ?_
              refine ra_gen (fun z44 hz44 => ?_)
              refine ra_store (L' := [_, _, _, _, _, _, _]) rfl rfl rfl (Nat.le_of_ble_eq_true rfl) rfl ?_
              refine ra_iinc (L' := [_, _, _, _, _, _, _]) rfl rfl (Nat.le_of_ble_eq_true rfl) rfl ?_
              refine ra_goto rfl rfl ?_
              exact ra_weak (by repeat' constructor) (ih v2 z44 (v4 + 1) s (by first | omega | (unfold ra_in at *; omega)) hz44 (by first | omega | (unfold ra_in at *; omega)) (by first | omega | (unfold ra_in at *; omega)) hF hk0 hk1 hk2 hk3 hk4 hoo hmv0 (by first | omega | (unfold ra_in at *; omega)))
            · refine ra_iconst rfl ?_
              refine ra_goto rfl rfl ?_
              refine ra_iadd rfl ?_
              refine ra_gen (fun z45 hz45 => ?_)
              refine ra_store (L' := [_, _, _, _, _, _, _]) rfl rfl rfl (Nat.le_of_ble_eq_true rfl) rfl ?_
              refine ra_iinc (L' := [_, _, _, _, _, _, _]) rfl rfl (Nat.le_of_ble_eq_true rfl) rfl ?_
              refine ra_goto rfl rfl ?_
              exact ra_weak (by repeat' constructor) (ih v2 z45 (v4 + 1) s (by first | omega | (unfold ra_in at *; omega)) hz45 (by first | omega | (unfold ra_in at *; omega)) (by first | omega | (unfold ra_in at *; omega)) hF hk0 hk1 hk2 hk3 hk4 hoo hmv0 (by first | omega | (unfold ra_in at *; omega)))
          · refine ra_iconst rfl ?_
            refine ra_goto rfl rfl ?_
            refine ra_store (L' := [_, _, _, _, _, _, _]) rfl rfl rfl (Nat.le_of_ble_eq_true rfl) rfl ?_
            refine ra_load rfl rfl rfl rfl ?_
            refine ra_load rfl rfl rfl rfl ?_
            refine ra_load rfl rfl rfl rfl ?_
            refine ra_icne rfl rfl (by first | omega | (unfold ra_in at *; omega)) hx0 (fun h46 => ?_) (fun h46 => ?_)
            · refine ra_iconst rfl ?_
              refine ra_iadd rfl ?_
              refine ra_gen (fun z47 hz47 => ?_)
              refine ra_store (L' := [_, _, _, _, _, _, _]) rfl rfl rfl (Nat.le_of_ble_eq_true rfl) rfl ?_
              refine ra_iinc (L' := [_, _, _, _, _, _, _]) rfl rfl (Nat.le_of_ble_eq_true rfl) rfl ?_
              refine ra_goto rfl rfl ?_
              exact ra_weak (by repeat' constructor) (ih v2 z47 (v4 + 1) s (by first | omega | (unfold ra_in at *; omega)) hz47 (by first | omega | (unfold ra_in at *; omega)) (by first | omega | (unfold ra_in at *; omega)) hF hk0 hk1 hk2 hk3 hk4 hoo hmv0 (by first | omega | (unfold ra_in at *; omega)))
            · refine ra_iconst rfl ?_
              refine ra_goto rfl rfl ?_
              refine ra_iadd rfl ?_
              refine ra_gen (fun z48 hz48 => ?_)
              refine ra_store (L' := [_, _, _, _, _, _, _]) rfl rfl rfl (Nat.le_of_ble_eq_true rfl) rfl ?_
              refine ra_iinc (L' := [_, _, _, _, _, _, _]) rfl rfl (Nat.le_of_ble_eq_true rfl) rfl ?_
              refine ra_goto rfl rfl ?_
              exact ra_weak (by repeat' constructor) (ih v2 z48 (v4 + 1) s (by first | omega | (unfold ra_in at *; omega)) hz48 (by first | omega | (unfold ra_in at *; omega)) (by first | omega | (unfold ra_in at *; omega)) hF hk0 hk1 hk2 hk3 hk4 hoo hmv0 (by first | omega | (unfold ra_in at *; omega)))
      · refine ra_iconst rfl ?_
        refine ra_goto rfl rfl ?_
        refine ra_store (L' := [_, _, _, _, _, _, _]) rfl rfl rfl (Nat.le_of_ble_eq_true rfl) rfl ?_
        refine ra_load rfl rfl rfl rfl ?_
        refine ra_load rfl rfl rfl rfl ?_
        refine ra_load rfl rfl rfl rfl ?_
        refine ra_icne rfl rfl (by first | omega | (unfold ra_in at *; omega)) hx0 (fun h49 => ?_) (fun h49 => ?_)
        · refine ra_iconst rfl ?_
          refine ra_iadd rfl ?_
          refine ra_gen (fun z50 hz50 => ?_)
          refine ra_store (L' := [_, _, _, _, _, _, _]) rfl rfl rfl (Nat.le_of_ble_eq_true rfl) rfl ?_
          refine ra_iinc (L' := [_, _, _, _, _, _, _]) rfl rfl (Nat.le_of_ble_eq_true rfl) rfl ?_
          refine ra_goto rfl rfl ?_
          exact ra_weak (by repeat' constructor) (ih v2 z50 (v4 + 1) s (by first | omega | (unfold ra_in at *; omega)) hz50 (by first | omega | (unfold ra_in at *; omega)) (by first | omega | (unfold ra_in at *; omega)) hF hk0 hk1 hk2 hk3 hk4 hoo hmv0 (by first | omega | (unfold ra_in at *; omega)))
        · refine ra_iconst rfl ?_
          refine ra_goto rfl rfl ?_
          refine ra_iadd rfl ?_
          refine ra_gen (fun z51 hz51 => ?_)
          refine ra_store (L' := [_, _, _, _, _, _, _]) rfl rfl rfl (Nat.le_of_ble_eq_true rfl) rfl ?_
          refine ra_iinc (L' := [_, _, _, _, _, _, _]) rfl rfl (Nat.le_of_ble_eq_true rfl) rfl ?_
          refine ra_goto rfl rfl ?_
          exact ra_weak (by repeat' constructor) (ih v2 z51 (v4 + 1) s (by first | omega | (unfold ra_in at *; omega)) hz51 (by first | omega | (unfold ra_in at *; omega)) (by first | omega | (unfold ra_in at *; omega)) hF hk0 hk1 hk2 hk3 hk4 hoo hmv0 (by first | omega | (unfold ra_in at *; omega)))
theorem sp_322 {n : Nat} {f : Nat → Int32} {d : Nat} {x0 : Int} {σ : ra_V} (hx0 : ra_in x0) (hw : WF σ) : ra_C (g_Gs n f) g_sh 0 (d + 4) 322 [.index (179), ra_I x0] σ (fun r s => rI r ∧ Fr (179) (187) σ s ∧ s (180) = σ (180) ∧ s (181) = σ (181) ∧ s (182) = σ (182) ∧ s (183) = σ (183) ∧ s (184) = σ (184) ∧ (∀ a, a ≠ 7 → a ≠ 10 → ra_g s 179 a = ra_g σ 179 a)) := by
  refine ra_enter (nn := 5) mt_322 rfl (Nat.le_of_ble_eq_true rfl) rfl (fun h => absurd h (by decide +kernel)) ?_
  have hw0 := WF_a hw
  unfold WFa at hw0
  refine ra_load rfl rfl rfl rfl ?_
  refine ra_iconst rfl ?_
  refine ra_putI rfl lk_8_51 (Nat.zero_le _) sh_179 rfl rfl ?_
  refine ra_newU (by first | omega | (unfold ra_in at *; omega)) (fun s1 hs1 hp2 hp2o => ?_)
  have hp2_99 := hp2o 99 (by decide)
  have hF3 := Fr_tr (lo := 179) (hi := 187) Fr_rf hs1 (by omega)
  have hk4 : s1 (180) = σ (180) := (hs1 (180) (by omega))
  have hk5 : s1 (181) = σ (181) := (hs1 (181) (by omega))
  have hk6 : s1 (182) = σ (182) := (hs1 (182) (by omega))
  have hk7 : s1 (183) = σ (183) := (hs1 (183) (by omega))
  have hk8 : s1 (184) = σ (184) := (hs1 (184) (by omega))
  have ho9 : ∀ a, a ≠ 7 → a ≠ 10 → ra_g s1 179 a = ra_g σ 179 a := fun a h7 h10 => ((fun a h7 h10 => hp2o a h7) a h7 h10).trans ((fun _ _ _ => rfl) a h7 h10)
  refine ra_load rfl rfl rfl rfl ?_
  refine ra_load rfl rfl rfl rfl ?_
  refine ra_i2l rfl hx0 ?_
  refine ra_lconst0 rfl ?_
  refine ra_ldc2 (z := 2) rfl lk_8_344 (by decide) ?_
  refine ra_cTp (sp_192 hx0 (by first | omega | (unfold ra_in at *; omega)) (by first | omega | (unfold ra_in at *; omega))) rfl (ct_192 rfl lk_8_63 (Or.inl rfl) (Nat.le_of_ble_eq_true rfl)) ?_
  refine ra_ifneB rfl rfl (fun h11 => ?_) (fun h11 => ?_)
  · refine ra_iconst rfl ?_
    refine ra_iconst rfl ?_
    refine ra_cT (sp_193 (Or.inl rfl) (by first | omega | (unfold ra_in at *; omega))) rfl (ct_193 rfl lk_8_303 (Or.inl rfl) sh_179 (Nat.le_of_ble_eq_true rfl)) (fun s12 hs12 => ?_)
    obtain ⟨hf13, he14⟩ := hs12
    have hF15 := Fr_tr (lo := 179) (hi := 187) hF3 hf13 (by omega)
    have hk16 : s12 (180) = σ (180) := (hf13 (180) (by omega)).trans hk4
    have hk17 : s12 (181) = σ (181) := (hf13 (181) (by omega)).trans hk5
    have hk18 : s12 (182) = σ (182) := (hf13 (182) (by omega)).trans hk6
    have hk19 : s12 (183) = σ (183) := (hf13 (183) (by omega)).trans hk7
    have hk20 : s12 (184) = σ (184) := (hf13 (184) (by omega)).trans hk8
    have ho21 : ∀ a, a ≠ 7 → a ≠ 10 → ra_g s12 179 a = ra_g σ 179 a := fun a h7 h10 => ((fun a h7 h10 => he14 a h7) a h7 h10).trans (ho9 a h7 h10)
    refine ra_ifeq rfl rfl (by first | omega | (unfold ra_in at *; omega)) (fun h22 => ?_) (fun h22 => ?_)
    · refine ra_load rfl rfl rfl rfl ?_
      refine ra_cQPp (sp_203 ) rfl (ct_203 rfl lk_8_95 (Or.inl rfl) sh_179 (Nat.le_of_ble_eq_true rfl)) (fun z24 hz24 hz24p => ?_)
      refine ra_ifne rfl rfl (ra_in01 hz24) (fun h25 => ?_) (fun h25 => ?_)
      · have hmv0 := hz24p.mp (by omega)
        rw [ra_gk hk16] at hmv0
        have hmv : ra_g s12 180 16 ≠ -1 := by rw [ra_gk hk16]; exact hmv0
        refine ra_load rfl rfl rfl rfl ?_
        refine ra_getR rfl lk_8_7 (Nat.zero_le _) sh_179 rfl ?_
        refine ra_bipush rfl (by decide) ?_
        refine ra_ialoadJ (j := 16) rfl sh_180 rfl (by decide) rfl (by decide) ?_
        rw [ra_gk hk16]
        have hr26 : ra_in (ra_g σ (180) 16) := (ra_in_g _ _ _)
        refine ra_store (L' := [_, _, _, _, _, _, _]) rfl rfl rfl (Nat.le_of_ble_eq_true rfl) rfl ?_
        refine ra_iconst rfl ?_
        refine ra_store (L' := [_, _, _, _, _, _, _]) rfl rfl rfl (Nat.le_of_ble_eq_true rfl) rfl ?_
        refine ra_iconst rfl ?_
        refine ra_store (L' := [_, _, _, _, _, _, _]) rfl rfl rfl (Nat.le_of_ble_eq_true rfl) rfl ?_
        exact ra_weak (by repeat' constructor) (lp_322_54 hx0 hw _ (ra_g σ (180) 16) (0) (0) s12 (by first | omega | (unfold ra_in at *; omega)) (by first | omega | (unfold ra_in at *; omega)) (by first | omega | (unfold ra_in at *; omega)) (by first | omega | (unfold ra_in at *; omega)) hF15 hk16 hk17 hk18 hk19 hk20 ho21 hmv0 (Nat.lt_succ_self _))
      · refine ra_iconst rfl ?_
        exact ra_ireturn rfl rfl ⟨⟨_, (by first | omega | (unfold ra_in at *; omega)), rfl⟩, ⟨hF15, hk16, hk17, hk18, hk19, hk20, ho21⟩⟩
    · exact absurd h22 (by decide)
  · refine ra_iconst rfl ?_
    refine ra_goto rfl rfl ?_
    refine ra_iconst rfl ?_
    refine ra_cT (sp_193 (Or.inr rfl) (by first | omega | (unfold ra_in at *; omega))) rfl (ct_193 rfl lk_8_303 (Or.inl rfl) sh_179 (Nat.le_of_ble_eq_true rfl)) (fun s52 hs52 => ?_)
    obtain ⟨hf53, he54⟩ := hs52
    have hF55 := Fr_tr (lo := 179) (hi := 187) hF3 hf53 (by omega)
    have hk56 : s52 (180) = σ (180) := (hf53 (180) (by omega)).trans hk4
    have hk57 : s52 (181) = σ (181) := (hf53 (181) (by omega)).trans hk5
    have hk58 : s52 (182) = σ (182) := (hf53 (182) (by omega)).trans hk6
    have hk59 : s52 (183) = σ (183) := (hf53 (183) (by omega)).trans hk7
    have hk60 : s52 (184) = σ (184) := (hf53 (184) (by omega)).trans hk8
    have ho61 : ∀ a, a ≠ 7 → a ≠ 10 → ra_g s52 179 a = ra_g σ 179 a := fun a h7 h10 => ((fun a h7 h10 => he54 a h7) a h7 h10).trans (ho9 a h7 h10)
    refine ra_ifeq rfl rfl (by first | omega | (unfold ra_in at *; omega)) (fun h62 => ?_) (fun h62 => ?_)
    · exact absurd h62 (by decide)
    · refine ra_iconst rfl ?_
      exact ra_ireturn rfl rfl ⟨⟨_, (by first | omega | (unfold ra_in at *; omega)), rfl⟩, ⟨hF55, hk56, hk57, hk58, hk59, hk60, ho61⟩⟩
end RB
