/-! the reference: what its methods do (printed by wip/gen/ref.py) -/
section RB
theorem sp_332 {n : Nat} {f : Nat → Int32} {d : Nat} {x0 : Int} {x1 : Int} {x2 : Int} {σ : ra_V} (hx0 : ra_in x0) (hx1 : ra_in x1) (hx2 : ra_in x2) (hw : WF σ) (hp : 0 ≤ x0 ∧ x0 < 8 ∧ wq σ x0 0 = 1) (hk : MOK σ x0 x1) : ra_C (g_Gs n f) g_sh 0 (d + 7) 332 [.index (179), ra_I x0, ra_I x1, ra_I x2] σ (fun r s => rB r ∧ Fr (179) (187) σ s ∧ s (180) = σ (180) ∧ s (181) = σ (181) ∧ s (182) = σ (182) ∧ s (183) = σ (183) ∧ s (184) = σ (184) ∧ (∀ a, a ≠ 10 → ra_g s 179 a = ra_g σ 179 a)) := by
  refine ra_enter (nn := 2) mt_332 rfl (Nat.le_of_ble_eq_true rfl) rfl (fun h => absurd h (by decide +kernel)) ?_
  have hw0 := WF_a hw
  unfold WFa at hw0
  have hq := WF_p hw hp.1 hp.2.1 hp.2.2
  refine ra_load rfl rfl rfl rfl ?_
  refine ra_load rfl rfl rfl rfl ?_
  refine ra_iconst rfl ?_
  refine ra_cTp (sp_199 hx0 (by first | omega | (unfold ra_in at *; omega)) (by first | assumption | rfl | omega)) rfl (ct_199 rfl lk_8_67 (Or.inl rfl) sh_179 (Nat.le_of_ble_eq_true rfl)) ?_
  have hr2 : ra_in (wq σ x0 (1)) := (ra_in_wq _ _ _)
  refine ra_store (L' := [_, _, _, _, _, _]) rfl rfl rfl (Nat.le_of_ble_eq_true rfl) rfl ?_
  refine ra_load rfl rfl rfl rfl ?_
  refine ra_load rfl rfl rfl rfl ?_
  refine ra_iconst rfl ?_
  refine ra_load rfl rfl rfl rfl ?_
  refine ra_cV (sp_200 hx0 (by first | omega | (unfold ra_in at *; omega)) hx1 (by first | assumption | rfl | omega)) rfl (ct_200 rfl lk_8_78 (Or.inl rfl) sh_179 (Nat.le_of_ble_eq_true rfl)) (fun s3 hs3 => ?_)
  obtain ⟨hf4, he5, he6⟩ := hs3
  have hF7 := Fr_tr (lo := 179) (hi := 187) Fr_rf hf4 (by omega)
  have hk8 : s3 (181) = σ (181) := (hf4 (181) (by omega))
  have hk9 : s3 (182) = σ (182) := (hf4 (182) (by omega))
  have hk10 : s3 (183) = σ (183) := (hf4 (183) (by omega))
  have hk11 : s3 (184) = σ (184) := (hf4 (184) (by omega))
  have hwb := br_w hw hp hk he5 he6
  refine ra_load rfl rfl rfl rfl ?_
  refine ra_cI (sp_220 hwb) rfl (ct_220 rfl lk_8_421 (Or.inl rfl) sh_179 (Nat.le_of_ble_eq_true rfl)) (fun z13 s12  hz13 hs12 => ?_)
  obtain ⟨hf14, hc15, hc16, hc17, hc18, hc19, he20, he21⟩ := hs12
  have hF22 := Fr_tr (lo := 179) (hi := 187) hF7 hf14 (by omega)
  have hk23 : s12 (181) = σ (181) := hc16.trans hk8
  have hk24 : s12 (182) = σ (182) := hc17.trans hk9
  have hk25 : s12 (183) = σ (183) := hc18.trans hk10
  have hk26 : s12 (184) = σ (184) := hc19.trans hk11
  have he21a := he21.1
  have he21b := he21.2.1
  refine ra_load rfl rfl rfl rfl ?_
  refine ra_iclt rfl rfl hz13 hx2 (fun h27 => ?_) (fun h27 => ?_)
  · refine ra_iconst rfl ?_
    refine ra_store (L' := [_, _, _, _, _, _]) rfl rfl rfl (Nat.le_of_ble_eq_true rfl) rfl ?_
    refine ra_load rfl rfl rfl rfl ?_
    refine ra_load rfl rfl rfl rfl ?_
    refine ra_iconst rfl ?_
    refine ra_load rfl rfl rfl rfl ?_
    refine ra_cV (sp_200 hx0 (by first | omega | (unfold ra_in at *; omega)) hr2 (by first | assumption | rfl | omega)) rfl (ct_200 rfl lk_8_78 (Or.inl rfl) sh_179 (Nat.le_of_ble_eq_true rfl)) (fun s28 hs28 => ?_)
    obtain ⟨hf29, he30, he31⟩ := hs28
    have hF32 := Fr_tr (lo := 179) (hi := 187) hF22 hf29 (by omega)
    have hk33 : s28 (181) = σ (181) := (hf29 (181) (by omega)).trans hk23
    have hk34 : s28 (182) = σ (182) := (hf29 (182) (by omega)).trans hk24
    have hk35 : s28 (183) = σ (183) := (hf29 (183) (by omega)).trans hk25
    have hk36 : s28 (184) = σ (184) := (hf29 (184) (by omega)).trans hk26
    refine ra_load rfl rfl rfl rfl ?_
    exact ra_ireturn rfl (ra_okB (Or.inl rfl)) ⟨⟨_, (Or.inl rfl), rfl⟩, ⟨hF32, br_e ⟨hp.1, hp.2.1⟩ he6 hc15 he30 he31, hk33, hk34, hk35, hk36, (fun a h => (ra_gk (hf29 179 (by omega))).trans ((he20 a h).trans (ra_gk (hf4 179 (by omega)))))⟩⟩
  · refine ra_iconst rfl ?_
    refine ra_goto rfl rfl ?_
    refine ra_store (L' := [_, _, _, _, _, _]) rfl rfl rfl (Nat.le_of_ble_eq_true rfl) rfl ?_
    refine ra_load rfl rfl rfl rfl ?_
    refine ra_load rfl rfl rfl rfl ?_
    refine ra_iconst rfl ?_
    refine ra_load rfl rfl rfl rfl ?_
    refine ra_cV (sp_200 hx0 (by first | omega | (unfold ra_in at *; omega)) hr2 (by first | assumption | rfl | omega)) rfl (ct_200 rfl lk_8_78 (Or.inl rfl) sh_179 (Nat.le_of_ble_eq_true rfl)) (fun s37 hs37 => ?_)
    obtain ⟨hf38, he39, he40⟩ := hs37
    have hF41 := Fr_tr (lo := 179) (hi := 187) hF22 hf38 (by omega)
    have hk42 : s37 (181) = σ (181) := (hf38 (181) (by omega)).trans hk23
    have hk43 : s37 (182) = σ (182) := (hf38 (182) (by omega)).trans hk24
    have hk44 : s37 (183) = σ (183) := (hf38 (183) (by omega)).trans hk25
    have hk45 : s37 (184) = σ (184) := (hf38 (184) (by omega)).trans hk26
    refine ra_load rfl rfl rfl rfl ?_
    exact ra_ireturn rfl (ra_okB (Or.inr rfl)) ⟨⟨_, (Or.inr rfl), rfl⟩, ⟨hF41, br_e ⟨hp.1, hp.2.1⟩ he6 hc15 he39 he40, hk42, hk43, hk44, hk45, (fun a h => (ra_gk (hf38 179 (by omega))).trans ((he20 a h).trans (ra_gk (hf4 179 (by omega)))))⟩⟩
theorem lp_331_72 {n : Nat} {f : Nat → Int32} {d : Nat} {x0 : Int} {σ : ra_V} (hx0 : ra_in x0) (hw : WF σ) {nn62 : Nat} (ih62 : ∀ (v2 : Int) (v3 : Int) (v4 : Int) (s : ra_V) (hv2_0 : ra_in v2) (hv3_0 : ra_in v3) (hv4_0 : 0 ≤ v4) (hv4_1 : v4 ≤ 8) (hF : Fr (179) (187) σ s) (hk0 : s (180) = σ (180)) (hk1 : s (181) = σ (181)) (hk2 : s (182) = σ (182)) (hk3 : s (183) = σ (183)) (hk4 : s (184) = σ (184)) (hoo : ∀ a, a ≠ 7 → a ≠ 10 → ra_g s 179 a = ra_g σ 179 a) (hm : ((8 - v4 : Int)).toNat < nn62), ra_P (g_Gs n f) g_sh 0 (d + 7) g_m_X8_cheapestMove 62 [some (.index (179)), some (ra_I x0), some (ra_I v2), some (ra_I v3), some (ra_I v4), none, none] [] s (fun r s => rI r ∧ Fr (179) (187) σ s ∧ s (180) = σ (180) ∧ s (181) = σ (181) ∧ s (182) = σ (182) ∧ s (183) = σ (183) ∧ s (184) = σ (184) ∧ (∀ a, a ≠ 7 → a ≠ 10 → ra_g s 179 a = ra_g σ 179 a))) : ∀ (nn : Nat) (v2 : Int) (v3 : Int) (v4 : Int) (v5 : Int) (s : ra_V) (hv2_0 : ra_in v2) (hv3_0 : ra_in v3) (hv4_0 : 0 ≤ v4) (hv4_1 : v4 < 8) (hv5_0 : 0 ≤ v5) (hv5_1 : v5 ≤ 600) (hF : Fr (179) (187) σ s) (hk0 : s (180) = σ (180)) (hk1 : s (181) = σ (181)) (hk2 : s (182) = σ (182)) (hk3 : s (183) = σ (183)) (hk4 : s (184) = σ (184)) (hoo : ∀ a, a ≠ 7 → a ≠ 10 → ra_g s 179 a = ra_g σ 179 a) (hm0 : (8 - (v4 + 1)).toNat < nn62) (hm : ((601 - v5 : Int)).toNat < nn), ra_P (g_Gs n f) g_sh 0 (d + 7) g_m_X8_cheapestMove 72 [some (.index (179)), some (ra_I x0), some (ra_I v2), some (ra_I v3), some (ra_I v4), some (ra_I v5), none] [] s (fun r s => rI r ∧ Fr (179) (187) σ s ∧ s (180) = σ (180) ∧ s (181) = σ (181) ∧ s (182) = σ (182) ∧ s (183) = σ (183) ∧ s (184) = σ (184) ∧ (∀ a, a ≠ 7 → a ≠ 10 → ra_g s 179 a = ra_g σ 179 a)) := by
  intro nn
  induction nn with
  | zero => intro v2 v3 v4 v5 s hv2_0 hv3_0 hv4_0 hv4_1 hv5_0 hv5_1 hF hk0 hk1 hk2 hk3 hk4 hoo hm0 hm; exact absurd hm (Nat.not_lt_zero _)
  | succ nn ih =>
    intro v2 v3 v4 v5 s hv2_0 hv3_0 hv4_0 hv4_1 hv5_0 hv5_1 hF hk0 hk1 hk2 hk3 hk4 hoo hm0 hm
    have hw0 := WF_a hw
    unfold WFa at hw0
    refine ra_load rfl rfl rfl rfl ?_
    refine ra_load rfl rfl rfl rfl ?_
    refine ra_iconst rfl ?_
    refine ra_cTp (sp_199 (by first | omega | (unfold ra_in at *; omega)) (by first | omega | (unfold ra_in at *; omega)) (by first | assumption | rfl | omega)) rfl (ct_199 rfl lk_8_67 (Or.inl rfl) sh_179 (Nat.le_of_ble_eq_true rfl)) ?_
    rw [wq_k hk0]
    have hr57 : ra_in (wq σ v4 (0)) := (ra_in_wq _ _ _)
    refine ra_iconst rfl ?_
    refine ra_icne rfl rfl hr57 (by first | omega | (unfold ra_in at *; omega)) (fun h58 => ?_) (fun h58 => ?_)
    · refine ra_iinc (L' := [_, _, _, _, _, _, _]) rfl rfl (Nat.le_of_ble_eq_true rfl) rfl ?_
      refine ra_goto rfl rfl ?_
      exact ra_weak (by repeat' constructor) (ih62 v2 v3 (v4 + 1) s (by first | omega | (unfold ra_in at *; omega)) (by first | omega | (unfold ra_in at *; omega)) (by first | omega | (unfold ra_in at *; omega)) (by first | omega | (unfold ra_in at *; omega)) hF hk0 hk1 hk2 hk3 hk4 hoo (by first | omega | (unfold ra_in at *; omega)))
    · refine ra_load rfl rfl rfl rfl ?_
      refine ra_load rfl rfl rfl rfl ?_
      refine ra_getR rfl lk_8_7 (Nat.zero_le _) sh_179 rfl ?_
      refine ra_iconst rfl ?_
      refine ra_ialoadJ (j := 0) rfl sh_180 rfl (by decide) rfl (by decide) ?_
      rw [ra_gk hk0]
      have hr59 : ra_in (ra_g σ (180) 0) := (ra_in_g _ _ _)
      refine ra_icge rfl rfl (by first | omega | (unfold ra_in at *; omega)) hr59 (fun h60 => ?_) (fun h60 => ?_)
      · refine ra_iinc (L' := [_, _, _, _, _, _, _]) rfl rfl (Nat.le_of_ble_eq_true rfl) rfl ?_
        refine ra_goto rfl rfl ?_
        exact ra_weak (by repeat' constructor) (ih62 v2 v3 (v4 + 1) s (by first | omega | (unfold ra_in at *; omega)) (by first | omega | (unfold ra_in at *; omega)) (by first | omega | (unfold ra_in at *; omega)) (by first | omega | (unfold ra_in at *; omega)) hF hk0 hk1 hk2 hk3 hk4 hoo (by first | omega | (unfold ra_in at *; omega)))
      · refine ra_load rfl rfl rfl rfl ?_
        refine ra_load rfl rfl rfl rfl ?_
        refine ra_load rfl rfl rfl rfl ?_
        refine ra_cIPp (sp_223 (by first | omega | (unfold ra_in at *; omega)) (by first | omega | (unfold ra_in at *; omega)) (WF_k hk0 hw) (by first | assumption | (rw [wq_k hk0]; omega))) rfl (ct_223 rfl lk_8_183 (Or.inl rfl) sh_179 (Nat.le_of_ble_eq_true rfl)) (fun z62 hz62 hz62p => ?_)
        refine ra_ifeq rfl rfl hz62 (fun h63 => ?_) (fun h63 => ?_)
        · refine ra_load rfl rfl rfl rfl ?_
          refine ra_load rfl rfl rfl rfl ?_
          refine ra_load rfl rfl rfl rfl ?_
          refine ra_cIp (sp_226 (by first | omega | (unfold ra_in at *; omega)) (by first | omega | (unfold ra_in at *; omega)) (WF_k hk0 hw) (by first | assumption | (rw [wq_k hk0]; omega)) (mok_to (WF_k hk0 hw) (hz62p (by omega)))) rfl (ct_226 rfl lk_8_388 (Or.inl rfl) sh_179 (Nat.le_of_ble_eq_true rfl)) (fun z65 hz65 => ?_)
          refine ra_store (L' := [_, _, _, _, _, _, _]) rfl rfl rfl (Nat.le_of_ble_eq_true rfl) rfl ?_
          refine ra_load rfl rfl rfl rfl ?_
          refine ra_iconst rfl ?_
          refine ra_iceq rfl rfl (by first | omega | (unfold ra_in at *; omega)) (by first | omega | (unfold ra_in at *; omega)) (fun h66 => ?_) (fun h66 => ?_)
          · refine ra_load rfl rfl rfl rfl ?_
            refine ra_load rfl rfl rfl rfl ?_
            refine ra_load rfl rfl rfl rfl ?_
            refine ra_load rfl rfl rfl rfl ?_
            refine ra_cB (sp_332 (by first | omega | (unfold ra_in at *; omega)) (by first | omega | (unfold ra_in at *; omega)) hx0 (WF_k hk0 hw) (by first | assumption | (rw [wq_k hk0]; omega)) (hz62p (by omega))) rfl (ct_332 rfl lk_8_424 (Or.inl rfl) sh_179 (Nat.le_of_ble_eq_true rfl)) (fun z68 s67  hz68 hs67 => ?_)
            obtain ⟨hf69, hc70, hc71, hc72, hc73, hc74, he75⟩ := hs67
            have hF76 := Fr_tr (lo := 179) (hi := 187) hF hf69 (by omega)
            have hk77 : s67 (180) = σ (180) := hc70.trans hk0
            have hk78 : s67 (181) = σ (181) := hc71.trans hk1
            have hk79 : s67 (182) = σ (182) := hc72.trans hk2
            have hk80 : s67 (183) = σ (183) := hc73.trans hk3
            have hk81 : s67 (184) = σ (184) := hc74.trans hk4
            have ho82 : ∀ a, a ≠ 7 → a ≠ 10 → ra_g s67 179 a = ra_g σ 179 a := fun a h7 h10 => ((fun a h7 h10 => he75 a h10) a h7 h10).trans (hoo a h7 h10)
            refine ra_ifne rfl rfl (ra_in01 hz68) (fun h83 => ?_) (fun h83 => ?_)
            · refine ra_sipush rfl (by decide) ?_
              refine ra_load rfl rfl rfl rfl ?_
              refine ra_imul rfl ?_
              refine ra_gen (fun z84 hz84 => ?_)
              refine ra_load rfl rfl rfl rfl ?_
              refine ra_iadd rfl ?_
              refine ra_gen (fun z85 hz85 => ?_)
              refine ra_store (L' := [_, _, _, _, _, _, _]) rfl rfl rfl (Nat.le_of_ble_eq_true rfl) rfl ?_
              refine ra_load rfl rfl rfl rfl ?_
              refine ra_store (L' := [_, _, _, _, _, _, _]) rfl rfl rfl (Nat.le_of_ble_eq_true rfl) rfl ?_
              refine ra_iinc (L' := [_, _, _, _, _, _, _]) rfl rfl (Nat.le_of_ble_eq_true rfl) rfl ?_
              refine ra_goto rfl rfl ?_
              exact ra_weak (by repeat' constructor) (ih z85 z65 v4 (v5 + 1) s67 hz85 hz65 (by first | omega | (unfold ra_in at *; omega)) (by first | omega | (unfold ra_in at *; omega)) (by first | omega | (unfold ra_in at *; omega)) (by first | omega | (unfold ra_in at *; omega)) hF76 hk77 hk78 hk79 hk80 hk81 ho82 (by omega) (by first | omega | (unfold ra_in at *; omega)))
            · refine ra_goto rfl rfl ?_
              refine ra_iinc (L' := [_, _, _, _, _, _, _]) rfl rfl (Nat.le_of_ble_eq_true rfl) rfl ?_
              refine ra_goto rfl rfl ?_
              exact ra_weak (by repeat' constructor) (ih v2 v3 v4 (v5 + 1) s67 (by first | omega | (unfold ra_in at *; omega)) (by first | omega | (unfold ra_in at *; omega)) (by first | omega | (unfold ra_in at *; omega)) (by first | omega | (unfold ra_in at *; omega)) (by first | omega | (unfold ra_in at *; omega)) (by first | omega | (unfold ra_in at *; omega)) hF76 hk77 hk78 hk79 hk80 hk81 ho82 (by omega) (by first | omega | (unfold ra_in at *; omega)))
          · refine ra_load rfl rfl rfl rfl ?_
            refine ra_load rfl rfl rfl rfl ?_
            refine ra_icge rfl rfl hz65 (by first | omega | (unfold ra_in at *; omega)) (fun h86 => ?_) (fun h86 => ?_)
            · refine ra_iinc (L' := [_, _, _, _, _, _, _]) rfl rfl (Nat.le_of_ble_eq_true rfl) rfl ?_
              refine ra_goto rfl rfl ?_
              exact ra_weak (by repeat' constructor) (ih v2 v3 v4 (v5 + 1) s (by first | omega | (unfold ra_in at *; omega)) (by first | omega | (unfold ra_in at *; omega)) (by first | omega | (unfold ra_in at *; omega)) (by first | omega | (unfold ra_in at *; omega)) (by first | omega | (unfold ra_in at *; omega)) (by first | omega | (unfold ra_in at *; omega)) hF hk0 hk1 hk2 hk3 hk4 hoo (by omega) (by first | omega | (unfold ra_in at *; omega)))
            · refine ra_load rfl rfl rfl rfl ?_
              refine ra_load rfl rfl rfl rfl ?_
              refine ra_load rfl rfl rfl rfl ?_
              refine ra_load rfl rfl rfl rfl ?_
              refine ra_cB (sp_332 (by first | omega | (unfold ra_in at *; omega)) (by first | omega | (unfold ra_in at *; omega)) hx0 (WF_k hk0 hw) (by first | assumption | (rw [wq_k hk0]; omega)) (hz62p (by omega))) rfl (ct_332 rfl lk_8_424 (Or.inl rfl) sh_179 (Nat.le_of_ble_eq_true rfl)) (fun z88 s87  hz88 hs87 => ?_)
              obtain ⟨hf89, hc90, hc91, hc92, hc93, hc94, he95⟩ := hs87
              have hF96 := Fr_tr (lo := 179) (hi := 187) hF hf89 (by omega)
              have hk97 : s87 (180) = σ (180) := hc90.trans hk0
              have hk98 : s87 (181) = σ (181) := hc91.trans hk1
              have hk99 : s87 (182) = σ (182) := hc92.trans hk2
              have hk100 : s87 (183) = σ (183) := hc93.trans hk3
              have hk101 : s87 (184) = σ (184) := hc94.trans hk4
              have ho102 : ∀ a, a ≠ 7 → a ≠ 10 → ra_g s87 179 a = ra_g σ 179 a := fun a h7 h10 => ((fun a h7 h10 => he95 a h10) a h7 h10).trans (hoo a h7 h10)
              refine ra_ifne rfl rfl (ra_in01 hz88) (fun h103 => ?_) (fun h103 => ?_)
              · refine ra_sipush rfl (by decide) ?_
                refine ra_load rfl rfl rfl rfl ?_
                refine ra_imul rfl ?_
                refine ra_gen (fun z104 hz104 => ?_)
                refine ra_load rfl rfl rfl rfl ?_
                refine ra_iadd rfl ?_
                refine ra_gen (fun z105 hz105 => ?_)
                refine ra_store (L' := [_, _, _, _, _, _, _]) rfl rfl rfl (Nat.le_of_ble_eq_true rfl) rfl ?_
                refine ra_load rfl rfl rfl rfl ?_
                refine ra_store (L' := [_, _, _, _, _, _, _]) rfl rfl rfl (Nat.le_of_ble_eq_true rfl) rfl ?_
                refine ra_iinc (L' := [_, _, _, _, _, _, _]) rfl rfl (Nat.le_of_ble_eq_true rfl) rfl ?_
                refine ra_goto rfl rfl ?_
                exact ra_weak (by repeat' constructor) (ih z105 z65 v4 (v5 + 1) s87 hz105 hz65 (by first | omega | (unfold ra_in at *; omega)) (by first | omega | (unfold ra_in at *; omega)) (by first | omega | (unfold ra_in at *; omega)) (by first | omega | (unfold ra_in at *; omega)) hF96 hk97 hk98 hk99 hk100 hk101 ho102 (by omega) (by first | omega | (unfold ra_in at *; omega)))
              · refine ra_goto rfl rfl ?_
                refine ra_iinc (L' := [_, _, _, _, _, _, _]) rfl rfl (Nat.le_of_ble_eq_true rfl) rfl ?_
                refine ra_goto rfl rfl ?_
                exact ra_weak (by repeat' constructor) (ih v2 v3 v4 (v5 + 1) s87 (by first | omega | (unfold ra_in at *; omega)) (by first | omega | (unfold ra_in at *; omega)) (by first | omega | (unfold ra_in at *; omega)) (by first | omega | (unfold ra_in at *; omega)) (by first | omega | (unfold ra_in at *; omega)) (by first | omega | (unfold ra_in at *; omega)) hF96 hk97 hk98 hk99 hk100 hk101 ho102 (by omega) (by first | omega | (unfold ra_in at *; omega)))
        · refine ra_goto rfl rfl ?_
          refine ra_iinc (L' := [_, _, _, _, _, _, _]) rfl rfl (Nat.le_of_ble_eq_true rfl) rfl ?_
          refine ra_goto rfl rfl ?_
          exact ra_weak (by repeat' constructor) (ih v2 v3 v4 (v5 + 1) s (by first | omega | (unfold ra_in at *; omega)) (by first | omega | (unfold ra_in at *; omega)) (by first | omega | (unfold ra_in at *; omega)) (by first | omega | (unfold ra_in at *; omega)) (by first | omega | (unfold ra_in at *; omega)) (by first | omega | (unfold ra_in at *; omega)) hF hk0 hk1 hk2 hk3 hk4 hoo (by omega) (by first | omega | (unfold ra_in at *; omega)))
theorem lp_331_62 {n : Nat} {f : Nat → Int32} {d : Nat} {x0 : Int} {σ : ra_V} (hx0 : ra_in x0) (hw : WF σ) : ∀ (nn : Nat) (v2 : Int) (v3 : Int) (v4 : Int) (s : ra_V) (hv2_0 : ra_in v2) (hv3_0 : ra_in v3) (hv4_0 : 0 ≤ v4) (hv4_1 : v4 ≤ 8) (hF : Fr (179) (187) σ s) (hk0 : s (180) = σ (180)) (hk1 : s (181) = σ (181)) (hk2 : s (182) = σ (182)) (hk3 : s (183) = σ (183)) (hk4 : s (184) = σ (184)) (hoo : ∀ a, a ≠ 7 → a ≠ 10 → ra_g s 179 a = ra_g σ 179 a) (hm : ((8 - v4 : Int)).toNat < nn), ra_P (g_Gs n f) g_sh 0 (d + 7) g_m_X8_cheapestMove 62 [some (.index (179)), some (ra_I x0), some (ra_I v2), some (ra_I v3), some (ra_I v4), none, none] [] s (fun r s => rI r ∧ Fr (179) (187) σ s ∧ s (180) = σ (180) ∧ s (181) = σ (181) ∧ s (182) = σ (182) ∧ s (183) = σ (183) ∧ s (184) = σ (184) ∧ (∀ a, a ≠ 7 → a ≠ 10 → ra_g s 179 a = ra_g σ 179 a)) := by
  intro nn
  induction nn with
  | zero => intro v2 v3 v4 s hv2_0 hv3_0 hv4_0 hv4_1 hF hk0 hk1 hk2 hk3 hk4 hoo hm; exact absurd hm (Nat.not_lt_zero _)
  | succ nn ih =>
    intro v2 v3 v4 s hv2_0 hv3_0 hv4_0 hv4_1 hF hk0 hk1 hk2 hk3 hk4 hoo hm
    have hw0 := WF_a hw
    unfold WFa at hw0
    refine ra_load rfl rfl rfl rfl ?_
    refine ra_bipush rfl (by decide) ?_
    refine ra_icge rfl rfl (by first | omega | (unfold ra_in at *; omega)) (by first | omega | (unfold ra_in at *; omega)) (fun h55 => ?_) (fun h55 => ?_)
    · refine ra_load rfl rfl rfl rfl ?_
      exact ra_ireturn rfl rfl ⟨⟨_, (by first | omega | (unfold ra_in at *; omega)), rfl⟩, ⟨hF, hk0, hk1, hk2, hk3, hk4, hoo⟩⟩
    · refine ra_iconst rfl ?_
      refine ra_store (L' := [_, _, _, _, _, _, _]) rfl rfl rfl (Nat.le_of_ble_eq_true rfl) rfl ?_
      exact ra_weak (by repeat' constructor) (lp_331_72 hx0 hw ih _ v2 v3 v4 (0) s (by first | omega | (unfold ra_in at *; omega)) (by first | omega | (unfold ra_in at *; omega)) (by first | omega | (unfold ra_in at *; omega)) (by first | omega | (unfold ra_in at *; omega)) (by first | omega | (unfold ra_in at *; omega)) (by first | omega | (unfold ra_in at *; omega)) hF hk0 hk1 hk2 hk3 hk4 hoo (by omega) (Nat.lt_succ_self _))
theorem sp_331 {n : Nat} {f : Nat → Int32} {d : Nat} {x0 : Int} {σ : ra_V} (hx0 : ra_in x0) (hw : WF σ) : ra_C (g_Gs n f) g_sh 0 (d + 8) 331 [.index (179), ra_I x0] σ (fun r s => rI r ∧ Fr (179) (187) σ s ∧ s (180) = σ (180) ∧ s (181) = σ (181) ∧ s (182) = σ (182) ∧ s (183) = σ (183) ∧ s (184) = σ (184) ∧ (∀ a, a ≠ 7 → a ≠ 10 → ra_g s 179 a = ra_g σ 179 a)) := by
  refine ra_enter (nn := 5) mt_331 rfl (Nat.le_of_ble_eq_true rfl) rfl (fun h => absurd h (by decide +kernel)) ?_
  have hw0 := WF_a hw
  unfold WFa at hw0
  refine ra_load rfl rfl rfl rfl ?_
  refine ra_iconst rfl ?_
  refine ra_putI rfl lk_8_51 (Nat.zero_le _) sh_179 rfl rfl ?_
  refine ra_newU (by first | omega | (unfold ra_in at *; omega)) (fun s1 hs1 hp2 hp2o => ?_)
  have hp2_99 := hp2o 99 (by decide)
  have hF3 := Fr_tr (lo := 179) (hi := 187) Fr_rf hs1 (by omega)
  have hk4 : s1 (180) = σ (180) := (hs1 (180) (by omega))
  have hk5 : s1 (181) = σ (181) := (hs1 (181) (by omega))
  have hk6 : s1 (182) = σ (182) := (hs1 (182) (by omega))
  have hk7 : s1 (183) = σ (183) := (hs1 (183) (by omega))
  have hk8 : s1 (184) = σ (184) := (hs1 (184) (by omega))
  have ho9 : ∀ a, a ≠ 7 → a ≠ 10 → ra_g s1 179 a = ra_g σ 179 a := fun a h7 h10 => ((fun a h7 h10 => hp2o a h7) a h7 h10).trans ((fun _ _ _ => rfl) a h7 h10)
  refine ra_load rfl rfl rfl rfl ?_
  refine ra_load rfl rfl rfl rfl ?_
  refine ra_i2l rfl hx0 ?_
  refine ra_lconst1 rfl ?_
  refine ra_ldc2 (z := 600) rfl lk_8_419 (by decide) ?_
  refine ra_cTp (sp_192 hx0 (by first | omega | (unfold ra_in at *; omega)) (by first | omega | (unfold ra_in at *; omega))) rfl (ct_192 rfl lk_8_63 (Or.inl rfl) (Nat.le_of_ble_eq_true rfl)) ?_
  refine ra_ifneB rfl rfl (fun h11 => ?_) (fun h11 => ?_)
  · refine ra_iconst rfl ?_
    refine ra_iconst rfl ?_
    refine ra_cT (sp_193 (Or.inl rfl) (by first | omega | (unfold ra_in at *; omega))) rfl (ct_193 rfl lk_8_303 (Or.inl rfl) sh_179 (Nat.le_of_ble_eq_true rfl)) (fun s12 hs12 => ?_)
    obtain ⟨hf13, he14⟩ := hs12
    have hF15 := Fr_tr (lo := 179) (hi := 187) hF3 hf13 (by omega)
    have hk16 : s12 (180) = σ (180) := (hf13 (180) (by omega)).trans hk4
    have hk17 : s12 (181) = σ (181) := (hf13 (181) (by omega)).trans hk5
    have hk18 : s12 (182) = σ (182) := (hf13 (182) (by omega)).trans hk6
    have hk19 : s12 (183) = σ (183) := (hf13 (183) (by omega)).trans hk7
    have hk20 : s12 (184) = σ (184) := (hf13 (184) (by omega)).trans hk8
    have ho21 : ∀ a, a ≠ 7 → a ≠ 10 → ra_g s12 179 a = ra_g σ 179 a := fun a h7 h10 => ((fun a h7 h10 => he14 a h7) a h7 h10).trans (ho9 a h7 h10)
    refine ra_ifne rfl rfl (by first | omega | (unfold ra_in at *; omega)) (fun h22 => ?_) (fun h22 => ?_)
    · exact absurd h22 (by decide)
    · refine ra_load rfl rfl rfl rfl ?_
      refine ra_load rfl rfl rfl rfl ?_
      refine ra_cQPp (sp_203 ) rfl (ct_203 rfl lk_8_95 (Or.inl rfl) sh_179 (Nat.le_of_ble_eq_true rfl)) (fun z24 hz24 hz24p => ?_)
      refine ra_iconst rfl ?_
      refine ra_cT (sp_193 hz24 (by first | omega | (unfold ra_in at *; omega))) rfl (ct_193 rfl lk_8_303 (Or.inl rfl) sh_179 (Nat.le_of_ble_eq_true rfl)) (fun s25 hs25 => ?_)
      obtain ⟨hf26, he27⟩ := hs25
      have hF28 := Fr_tr (lo := 179) (hi := 187) hF15 hf26 (by omega)
      have hk29 : s25 (180) = σ (180) := (hf26 (180) (by omega)).trans hk16
      have hk30 : s25 (181) = σ (181) := (hf26 (181) (by omega)).trans hk17
      have hk31 : s25 (182) = σ (182) := (hf26 (182) (by omega)).trans hk18
      have hk32 : s25 (183) = σ (183) := (hf26 (183) (by omega)).trans hk19
      have hk33 : s25 (184) = σ (184) := (hf26 (184) (by omega)).trans hk20
      have ho34 : ∀ a, a ≠ 7 → a ≠ 10 → ra_g s25 179 a = ra_g σ 179 a := fun a h7 h10 => ((fun a h7 h10 => he27 a h7) a h7 h10).trans (ho21 a h7 h10)
      refine ra_ifeq rfl rfl (ra_in01 hz24) (fun h35 => ?_) (fun h35 => ?_)
      · refine ra_load rfl rfl rfl rfl ?_
        refine ra_cI (sp_220 (WF_k hk29 hw)) rfl (ct_220 rfl lk_8_421 (Or.inl rfl) sh_179 (Nat.le_of_ble_eq_true rfl)) (fun z37 s36  hz37 hs36 => ?_)
        obtain ⟨hf38, hc39, hc40, hc41, hc42, hc43, he44, he45⟩ := hs36
        have hz46 := GZ_s hk29 he45
        have hF47 := Fr_tr (lo := 179) (hi := 187) hF28 hf38 (by omega)
        have hk48 : s36 (180) = σ (180) := hc39.trans hk29
        have hk49 : s36 (181) = σ (181) := hc40.trans hk30
        have hk50 : s36 (182) = σ (182) := hc41.trans hk31
        have hk51 : s36 (183) = σ (183) := hc42.trans hk32
        have hk52 : s36 (184) = σ (184) := hc43.trans hk33
        have ho53 : ∀ a, a ≠ 7 → a ≠ 10 → ra_g s36 179 a = ra_g σ 179 a := fun a h7 h10 => ((fun a h7 h10 => he44 a h10) a h7 h10).trans (ho34 a h7 h10)
        have hz46a := hz46.1
        have hz46b := hz46.2.1
        refine ra_load rfl rfl rfl rfl ?_
        refine ra_iclt rfl rfl hz37 hx0 (fun h54 => ?_) (fun h54 => ?_)
        · refine ra_iconst rfl ?_
          refine ra_store (L' := [_, _, _, _, _, _, _]) rfl rfl rfl (Nat.le_of_ble_eq_true rfl) rfl ?_
          refine ra_iconst rfl ?_
          refine ra_store (L' := [_, _, _, _, _, _, _]) rfl rfl rfl (Nat.le_of_ble_eq_true rfl) rfl ?_
          refine ra_iconst rfl ?_
          refine ra_store (L' := [_, _, _, _, _, _, _]) rfl rfl rfl (Nat.le_of_ble_eq_true rfl) rfl ?_
          exact ra_weak (by repeat' constructor) (lp_331_62 hx0 hw _ (-1) (0) (0) s36 (by first | omega | (unfold ra_in at *; omega)) (by first | omega | (unfold ra_in at *; omega)) (by first | omega | (unfold ra_in at *; omega)) (by first | omega | (unfold ra_in at *; omega)) hF47 hk48 hk49 hk50 hk51 hk52 ho53 (Nat.lt_succ_self _))
        · refine ra_bipush rfl (by decide) ?_
          exact ra_ireturn rfl rfl ⟨⟨_, (by first | omega | (unfold ra_in at *; omega)), rfl⟩, ⟨hF47, hk48, hk49, hk50, hk51, hk52, ho53⟩⟩
      · refine ra_iconst rfl ?_
        exact ra_ireturn rfl rfl ⟨⟨_, (by first | omega | (unfold ra_in at *; omega)), rfl⟩, ⟨hF28, hk29, hk30, hk31, hk32, hk33, ho34⟩⟩
  · refine ra_iconst rfl ?_
    refine ra_goto rfl rfl ?_
    refine ra_iconst rfl ?_
    refine ra_cT (sp_193 (Or.inr rfl) (by first | omega | (unfold ra_in at *; omega))) rfl (ct_193 rfl lk_8_303 (Or.inl rfl) sh_179 (Nat.le_of_ble_eq_true rfl)) (fun s106 hs106 => ?_)
    obtain ⟨hf107, he108⟩ := hs106
    have hF109 := Fr_tr (lo := 179) (hi := 187) hF3 hf107 (by omega)
    have hk110 : s106 (180) = σ (180) := (hf107 (180) (by omega)).trans hk4
    have hk111 : s106 (181) = σ (181) := (hf107 (181) (by omega)).trans hk5
    have hk112 : s106 (182) = σ (182) := (hf107 (182) (by omega)).trans hk6
    have hk113 : s106 (183) = σ (183) := (hf107 (183) (by omega)).trans hk7
    have hk114 : s106 (184) = σ (184) := (hf107 (184) (by omega)).trans hk8
    have ho115 : ∀ a, a ≠ 7 → a ≠ 10 → ra_g s106 179 a = ra_g σ 179 a := fun a h7 h10 => ((fun a h7 h10 => he108 a h7) a h7 h10).trans (ho9 a h7 h10)
    refine ra_ifne rfl rfl (by first | omega | (unfold ra_in at *; omega)) (fun h116 => ?_) (fun h116 => ?_)
    · refine ra_iconst rfl ?_
      exact ra_ireturn rfl rfl ⟨⟨_, (by first | omega | (unfold ra_in at *; omega)), rfl⟩, ⟨hF109, hk110, hk111, hk112, hk113, hk114, ho115⟩⟩
    · exact absurd h116 (by decide)
end RB
